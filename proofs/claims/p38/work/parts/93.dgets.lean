/-! Desk: who gets what -/
def GV (l : Launch) (D : va_G) (cA : Nat → ClassId) (wb : va_W) (b L : Nat) (xs : Nat → Int32) (d x : Nat) (Ad : DA) (n na : Nat) (fO fW : Nat → Nat → Int32) (fC : Nat → Nat) (fR : Nat → Nat → Nat → Int32) (fB : Nat → Nat → Int32) (dr : Nat) (M : MSt) (ru : Nat → Nat) (uu f g : Nat) (d9 : Nat) : Prop := ∀ (sz : Nat) (T : Pool) (fF : Nat → Int32), DK T d x b Ad (n, na, fF, fO, fW, fC, fR, fB) → VM (n, na, fF, fO, fW, fC, fR, fB) n na dr M → ∀ (k fr : Nat), k < n → k ≤ d9 → rFar M.2 k (M.1 1) = nI fr → fr ≤ 1000 → Met l yX6_gets (Cond.code yX6_gets cX6_gets 12 (some .int) :: TT) ({ frames := d9 + 2, cells := d9 + 1, slots := 0, locals := 40 * d9 + 60 }) (va_Pc [.ref d, .int (nI k), .int (nI uu), .int (nI f), .int (nI g), .int (nI fr)] (kPreE D cA (PW cA T ++ wb) b L xs sz)) (va_Qi (fun (r_ : Int32) (x_ : Pool) => r_ = (rG M.2 (M.1 2) (M.2 11) (fun k => rFar M.2 k (M.1 1)) (nI uu) (nI f) (nI g) na ru (d9 + 1) k).1 ∧ ExtD d T x_ ∧ gI x_ d 10 = (rG M.2 (M.1 2) (M.2 11) (fun k => rFar M.2 k (M.1 1)) (nI uu) (nI f) (nI g) na ru (d9 + 1) k).2) (fun x_ => kB D cA (va_A (PW cA T ++ wb) sz) (PW cA x_ ++ wb)) (va_A (PW cA T ++ wb) sz)) (d9 + 1) 0 (va_A (PW cA T ++ wb) sz)
set_option maxRecDepth 100000 in
set_option maxHeartbeats 4000000 in
/-- gets -/
theorem d_gets5 (l : Launch) (D : va_G) (cA : Nat → ClassId) (sz : Nat) (wb : va_W) (b L : Nat) (xs : Nat → Int32) (hL : L < 2 ^ 31) (T : Pool) (d x : Nat) (Ad : DA) (n na : Nat) (fF : Nat → Int32) (fO fW : Nat → Nat → Int32) (fC : Nat → Nat) (fR : Nat → Nat → Nat → Int32) (fB : Nat → Nat → Int32) (dk : DK T d x b Ad (n, na, fF, fO, fW, fC, fR, fB)) (dr cM sB : Nat) (M : MSt) (hvm : VM (n, na, fF, fO, fW, fC, fR, fB) n na dr M) (hcM : cM < 1000000) (hI : INVR n na M) (ru : Nat → Nat) (hok : okG M n na ru) (hM : MK n na cM sB M) (hW : WG n M) (uu f g : Nat) (huu : uu ≤ 9999) (hf : f ≤ 9) (hg : g ≤ 9) (dd : Nat) (hV : ∀ d9, dd = d9 + 1 → GV l D cA wb b L xs d x Ad n na fO fW fC fR fB dr M ru uu f g d9) (k : Nat) (hk : k < n) (hkd : k ≤ dd) (fr : Nat) (hfr : rFar M.2 k (M.1 1) = nI fr) (hfr2 : fr ≤ 1000)  : Met l yX6_gets (Cond.code yX6_gets cX6_gets 12 (some .int) :: TT) ({ frames := dd + 2, cells := dd + 1, slots := 0, locals := 40 * dd + 60 }) (va_Pc [.ref d, .int (nI k), .int (nI uu), .int (nI f), .int (nI g), .int (nI fr)] (kPreE D cA (PW cA T ++ wb) b L xs sz)) (va_Qi (fun (r_ : Int32) (x_ : Pool) => r_ = (rG M.2 (M.1 2) (M.2 11) (fun k => rFar M.2 k (M.1 1)) (nI uu) (nI f) (nI g) na ru (dd + 1) k).1 ∧ ExtD d T x_ ∧ gI x_ d 10 = (rG M.2 (M.1 2) (M.2 11) (fun k => rFar M.2 k (M.1 1)) (nI uu) (nI f) (nI g) na ru (dd + 1) k).2) (fun x_ => kB D cA (va_A (PW cA T ++ wb) sz) (PW cA x_ ++ wb)) (va_A (PW cA T ++ wb) sz)) (dd + 1) 0 (va_A (PW cA T ++ wb) sz) := by
  refine Met.ofW (cc := cX6_gets) (maxL := 12) (ret := (some .int)) (by decide) rfl ?_
  intro p e s m args below meth c s₁ B hml hv
  obtain ⟨rfl, ⟨⟨hsz, hP, hK, hD0, hTB⟩, hTX⟩, hX, hbl, hbA, hAO⟩ := hv
  have hx := B.exec
  have hb := B.bytes
  have hr := B.returns
  have hts := atoms_spec (ws := Cond.code yX6_gets cX6_gets 12 (some .int) :: TT) B.pre
  have htT : ∀ w ∈ TT, w.before _ s = true := fun w h => hts w (List.mem_cons_of_mem _ h)
  have hown : s.vm.findClass RX6 = some m.cls := findClass_of_methodNamed B.named
  have hlocks := B.notSynchronized
  subst hsz
  have hD := hD0.self (sz := s.heap.size)
  generalize hAe : va_A (PW cA T ++ wb) s.heap.size = A at hD hTX hbA ⊢
  have hA : ∀ q : Nat, s.heap.size ≤ q → A q := fun q h => by rw [← hAe]; exact Or.inr h
  have hS : va_S A s.heap s.heap [] := va_S.rf
  have hl := lv_entry ([.ref d, .int (nI k), .int (nI uu), .int (nI f), .int (nI g), .int (nI fr)]) (n := 12) (Nat.le_of_ble_eq_true rfl)
  rw [lg_entry_eq]
  generalize (lg_sl ([.ref d, .int (nI k), .int (nI uu), .int (nI f), .int (nI g), .int (nI fr)]) ++ List.replicate (12 - (lg_sl ([.ref d, .int (nI k), .int (nI uu), .int (nI f), .int (nI g), .int (nI fr)])).length) Slot.unset).toArray = ls at hl ⊢
  have hl : lv_has ls 12 [(0, .ref d), (1, .int (nI k)), (2, .int (nI uu)), (3, .int (nI f)), (4, .int (nI g)), (5, .int (nI fr))] := hl
  have hn8 : n ≤ 8 := dk.n8
  have hna : na ≤ 100 := hok.1
  have q8 : k < 8 := (by omega)
  obtain ⟨hru5, eru, hnd, ⟨sa, hsa, esa⟩, -⟩ := hok.2.2.2.2 k hk
  obtain ⟨⟨vc, hvc, evc⟩, hon⟩ := hI.2.1 k hk
  obtain ⟨⟨eck, ⟨hh, hhh, ehh⟩⟩, hMs, ⟨hMl, -⟩, hMu, -⟩ := hM
  obtain ⟨hst, ⟨sh, hsh, esh⟩, ⟨sp, hsp, esp⟩, ⟨zz, hzz, ezz⟩⟩ := hMs k hk
  obtain ⟨hla, ⟨lf, hlf, elf⟩, ⟨lt, hlt, elt⟩⟩ := hMl k hk
  obtain ⟨w0, w1, w2, w3, hws, ew0, ew1, ew2, ew3⟩ := hW k hk
  have hC5 : fC k ≤ 5 := (hvm.c q8).1
  have eC : fC k = ru k := (nI_eq (by omega) (by omega)).mp ((hvm.c q8).2.symm.trans eru)
  have eO3 : fO k 3 = M.2 11 k := hvm.o hk (q := (3, 11)) (by decide)
  have eO10 : fO k 10 = M.2 15 k := hvm.o hk (q := (10, 15)) (by decide)
  have eO11 : fO k 11 = M.2 16 k := hvm.o hk (q := (11, 16)) (by decide)
  have eO2 : fO k 2 = M.2 10 k := hvm.o hk (q := (2, 10)) (by decide)
  have eO7 : fO k 7 = M.2 12 k := hvm.o hk (q := (7, 12)) (by decide)
  have eO0 : fO k 0 = nI sa := (hvm.o hk (q := (0, 4)) (by decide)).trans esa
  have eF4 : fF 4 = nI hh := hvm.f4.trans ehh
  have eW0 : fW k 0 = nI w0 := (hvm.w q8 (v := 0) (by decide)).trans ew0
  have eW1 : fW k 1 = nI w1 := (hvm.w q8 (v := 1) (by decide)).trans ew1
  have eW2 : fW k 2 = nI w2 := (hvm.w q8 (v := 2) (by decide)).trans ew2
  have eW3 : fW k 3 = nI w3 := (hvm.w q8 (v := 3) (by decide)).trans ew3
  have hrl : ∀ i, i < fC k → (fR k i 0 = 0 ∨ fR k i 0 = 1) ∧ (fR k i 1 = 1 ∨ fR k i 1 = 2 ∨ fR k i 1 = 3) ∧ (∃ v, v ≤ 9 ∧ fR k i 2 = nI v) ∧ (fR k i 3 = -1 ∨ ∃ v, v < 4 ∧ fR k i 3 = nI v) := fun i hi => by
    obtain ⟨⟨a1, a2, a3⟩, ⟨b1, b2, b3, b4⟩, ⟨c1, c2, c3⟩, d1⟩ := hMu k hk (ru k) vc hru5 eru hvc evc i (by omega)
    have e0 := hvm.r q8 hi (j := 0) (by decide)
    have e1 := hvm.r q8 hi (j := 1) (by decide)
    have e2 := hvm.r q8 hi (j := 2) (by decide)
    have e3 := hvm.r q8 hi (j := 3) (by decide)
    refine ⟨?_, ?_, ⟨c1, c2, e2.trans c3⟩, ?_⟩
    · rcases (show a1 = 0 ∨ a1 = 1 by omega) with rfl | rfl
      · exact Or.inl (e0.trans a3)
      · exact Or.inr (e0.trans a3)
    · rcases (show b1 = 1 ∨ b1 = 2 ∨ b1 = 3 by omega) with rfl | rfl | rfl
      · exact Or.inl (e1.trans b4)
      · exact Or.inr (Or.inl (e1.trans b4))
      · exact Or.inr (Or.inr (e1.trans b4))
    · rcases d1 with d1 | ⟨v, d2, d3⟩
      · exact Or.inl (e3.trans d1)
      · exact Or.inr ⟨v, by omega, e3.trans d3⟩
  refine lv_aload_n hx hb dX6_gets_0 rfl (lv_at hl 0 rfl) ?_
  refine kd_gets (r := (aO Ad)) hx hb htT m_u_X6 hown hK hP dk.o rfl 6 (by decide) (by decide) rfl dk.q6 (htT _ m_fl_X6_18) dX6_gets_1 ?_
  refine lv_iload_n hx hb dX6_gets_4 rfl (lv_at hl 1 rfl) ?_
  refine ky_alda (r := some (aOk Ad k)) hx hb hK hP dk.ao (show vp_in (nI (k)) 8 from ki_in (by omega) (by omega)) ((congrArg _ (ki_cl (n := k) (by omega))).trans (dk.op (k := k) (show k < n by omega))) dX6_gets_5 ?_
  refine lv_astore (lv' := [(6, .ref (aOk Ad k)), (0, .ref d), (1, .int (nI k)), (2, .int (nI uu)), (3, .int (nI f)), (4, .int (nI g)), (5, .int (nI fr))]) hx hb dX6_gets_6 hl (by decide) rfl (fun ls hl => ?_)
  refine kz_cutC (slots := 0) 100 (fun cl9 H locs ls => cl9 ≤ dd + 1 ∧ ∃ T1, ExtD d T T1 ∧ va_P D vwCl (PW cA T1 ++ wb) H ∧ va_D A (PW cA T1 ++ wb) ∧ va_S A s.heap H locs ∧ lv_has ls 12 [(0, .ref d), (1, .int (nI k)), (2, .int (nI uu)), (3, .int (nI f)), (4, .int (nI g)), (5, .int (nI fr)), (6, .ref (aOk Ad k))] ∧ (¬ M.2 11 k = 0) ∧ (¬ (M.2 15 k ≠ -1 ∧ (rG M.2 (M.1 2) (M.2 11) (fun k => rFar M.2 k (M.1 1)) (nI uu) (nI f) (nI g) na ru dd (M.2 15 k).toNatClampNeg).1 ≠ M.2 16 k)) ∧ ¬ (M.2 10 k ≠ 0 ∧ rArm M.2 (nI k) (nI uu) na 0 ≠ -1)) (fun hcut => ?_) (fun cl9 H locs ls hI9 => ?_)
  · refine lv_aload hx hb dX6_gets_8 (lv_at hl 0 rfl) ?_
    refine lv_iconst (v := 3) hx hb dX6_gets_10 (by decide) ?_
    refine kx_ialdv (x := fO k 3) hx hb hK (kmy_P hP) (dk.oa (k := k) (show k < n by omega)) (Nat.le_of_ble_eq_true rfl) (Nat.le_of_ble_eq_true rfl) (show vp_in 3 12 from ki_in (n := 3) (by omega) (by omega)) ((congrArg _ (ki_cl (n := 3) (by omega))).trans ((dk.ov (k := k) (j := 3) (show k < n by omega) (show 3 < 12 by omega)).trans (rfl))) dX6_gets_11 ?_
    refine lv_if_ne (tgt := 22) hx hb dX6_gets_12 (by decide) (fun c_1 => ?_) (fun c_1 => ?_)
    · have hC0 : ¬ M.2 11 k = 0 := fun e9 => c_1 (eO3.trans e9)
      rcases hnd with hnd | ⟨j, hj, hnd⟩
      · have hC1 : ¬ (M.2 15 k ≠ -1 ∧ (rG M.2 (M.1 2) (M.2 11) (fun k => rFar M.2 k (M.1 1)) (nI uu) (nI f) (nI g) na ru dd (M.2 15 k).toNatClampNeg).1 ≠ M.2 16 k) := fun e9 => e9.1 hnd
        refine lv_aload hx hb dX6_gets_22 (lv_at hl 0 rfl) ?_
        refine lv_bipush (v := 10) hx hb dX6_gets_24 (by decide) ?_
        refine kx_ialdv (x := -1) hx hb hK (kmy_P hP) (dk.oa (k := k) (show k < n by omega)) (Nat.le_of_ble_eq_true rfl) (Nat.le_of_ble_eq_true rfl) (show vp_in 10 12 from ki_in (n := 10) (by omega) (by omega)) ((congrArg _ (ki_cl (n := 10) (by omega))).trans ((dk.ov (k := k) (j := 10) (show k < n by omega) (show 10 < 12 by omega)).trans ((eO10.trans hnd)))) dX6_gets_26 ?_
        refine lv_if_lt (tgt := 68) hx hb dX6_gets_27 (by decide) (fun _ => ?_) (fun c_2 => absurd c_2 (by decide))
        refine lv_aload_n hx hb dX6_gets_68 rfl (lv_at hl 1 rfl) ?_
        refine lv_iload_n hx hb dX6_gets_69 rfl (lv_at hl 2 rfl) ?_
        refine lv_iload_n hx hb dX6_gets_70 rfl (lv_at hl 3 rfl) ?_
        refine kc_q (va_runV (As := [.int (nI k), .int (nI uu)]) (rest := []) ⟨hx, hb, hml, hown, htT⟩ (d_arm l D cA _ wb b L xs hL T d x Ad n na fF fO fW fC fR fB dk hna (nI k) (nI uu)) (cwV 2 htT (kg_V m_ml_X6_165 m_im_X6_arm m_sl_X6_arm m_in_X6 m_cd_X6_arm) rfl rfl rfl (by decide +kernel) ⟨(show 0 + 1 ≤ dd + 2 by omega), (show 8 + (7 + 11) + (0) ≤ 40 * dd + 60 by omega)⟩) (kpe_V hK hP hD hTB hTX hX hbl hbA hAO hS hA (kpe_rc hK hP dk.o rfl)) rfl rfl hl.1 rfl (lv_room (Nat.le_of_ble_eq_true rfl)) dX6_gets_71 ⟨(show 0 + 1 ≤ dd + 1 by omega), Nat.le_of_ble_eq_true rfl⟩) hD hS hA (fun r_3 x_3 H locs hq_3 hP hD hS => ?_)
        rcases hst with hst | hst
        · rcases hq_3 with ⟨i9, hi9, hr9, ea9, eb9, hall9, ht9⟩ | ⟨hall9, q9, hq9, hr9, ht9⟩
          · rw [hr9]
            rw [ht9] at hP hD
            have hra : rArm M.2 (nI k) (nI uu) na 0 = nI i9 := rArm_y na 0 (Nat.zero_le _) (by omega) ((hvm.b hi9 (j := 0) (by decide)).symm.trans ea9) ((hvm.b hi9 (j := 1) (by decide)).symm.trans eb9) (fun j9 _ a2 e9 => hall9 j9 a2 ⟨(hvm.b (by omega) (j := 0) (by decide)).trans e9.1, (hvm.b (by omega) (j := 1) (by decide)).trans e9.2⟩)
            have hC2 : ¬ (M.2 10 k ≠ 0 ∧ rArm M.2 (nI k) (nI uu) na 0 ≠ -1) := fun e9 => e9.1 hst
            refine lv_astore (lv' := [(7, .ref (aAk Ad i9)), (6, .ref (aOk Ad k)), (0, .ref d), (1, .int (nI k)), (2, .int (nI uu)), (3, .int (nI f)), (4, .int (nI g)), (5, .int (nI fr))]) hx hb dX6_gets_74 hl (by decide) rfl (fun ls hl => ?_)
            refine lv_aload hx hb dX6_gets_76 (lv_at hl 1 rfl) ?_
            refine lv_iconst (v := 2) hx hb dX6_gets_78 (by decide) ?_
            refine kx_ialdv (x := 0) hx hb hK (kmy_P hP) (dk.oa (k := k) (show k < n by omega)) (Nat.le_of_ble_eq_true rfl) (Nat.le_of_ble_eq_true rfl) (show vp_in 2 12 from ki_in (n := 2) (by omega) (by omega)) ((congrArg _ (ki_cl (n := 2) (by omega))).trans ((dk.ov (k := k) (j := 2) (show k < n by omega) (show 2 < 12 by omega)).trans ((eO2.trans hst)))) dX6_gets_79 ?_
            refine lv_iconst (v := 1) hx hb dX6_gets_80 (by decide) ?_
            refine lv_icmp_ne (tgt := 100) hx hb dX6_gets_81 (by decide) (fun _ => ?_) (fun c_4 => absurd c_4 (by decide))
            exact hcut _ _ _ _ ⟨(show 0 + 1 ≤ dd + 1 by omega), _, ExtD.rf, hP, hD, hS, lv_sub hl [2, 3, 4, 5, 6, 7, 1] rfl, hC0, hC1, hC2⟩
          · rw [hr9]
            rw [ht9] at hP hD
            have hra : rArm M.2 (nI k) (nI uu) na 0 = -1 := rArm_n na 0 (fun j9 _ a2 e9 => hall9 j9 (by omega) ⟨(hvm.b (by omega) (j := 0) (by decide)).trans e9.1, (hvm.b (by omega) (j := 1) (by decide)).trans e9.2⟩)
            have hC2 : ¬ (M.2 10 k ≠ 0 ∧ rArm M.2 (nI k) (nI uu) na 0 ≠ -1) := fun e9 => e9.2 hra
            have dk_5 : DK (pW T q9 14 0) d x b Ad (n, na, fF, fO, fW, fC, fR, fB) := dk.ext (ExtA.new hq9)
            refine lv_astore (lv' := [(7, .ref q9), (6, .ref (aOk Ad k)), (0, .ref d), (1, .int (nI k)), (2, .int (nI uu)), (3, .int (nI f)), (4, .int (nI g)), (5, .int (nI fr))]) hx hb dX6_gets_74 hl (by decide) rfl (fun ls hl => ?_)
            refine lv_aload hx hb dX6_gets_76 (lv_at hl 1 rfl) ?_
            refine lv_iconst (v := 2) hx hb dX6_gets_78 (by decide) ?_
            refine kx_ialdv (x := 0) hx hb hK (kmy_P hP) (dk_5.oa (k := k) (show k < n by omega)) (Nat.le_of_ble_eq_true rfl) (Nat.le_of_ble_eq_true rfl) (show vp_in 2 12 from ki_in (n := 2) (by omega) (by omega)) ((congrArg _ (ki_cl (n := 2) (by omega))).trans ((dk_5.ov (k := k) (j := 2) (show k < n by omega) (show 2 < 12 by omega)).trans ((eO2.trans hst)))) dX6_gets_79 ?_
            refine lv_iconst (v := 1) hx hb dX6_gets_80 (by decide) ?_
            refine lv_icmp_ne (tgt := 100) hx hb dX6_gets_81 (by decide) (fun _ => ?_) (fun c_6 => absurd c_6 (by decide))
            exact hcut _ _ _ _ ⟨(show 0 + 1 ≤ dd + 1 by omega), _, (ExtD.new hq9), hP, hD, hS, lv_sub hl [2, 3, 4, 5, 6, 7, 1] rfl, hC0, hC1, hC2⟩
        · rcases hq_3 with ⟨i9, hi9, hr9, ea9, eb9, hall9, ht9⟩ | ⟨hall9, q9, hq9, hr9, ht9⟩
          · rw [hr9]
            rw [ht9] at hP hD
            have hra : rArm M.2 (nI k) (nI uu) na 0 = nI i9 := rArm_y na 0 (Nat.zero_le _) (by omega) ((hvm.b hi9 (j := 0) (by decide)).symm.trans ea9) ((hvm.b hi9 (j := 1) (by decide)).symm.trans eb9) (fun j9 _ a2 e9 => hall9 j9 a2 ⟨(hvm.b (by omega) (j := 0) (by decide)).trans e9.1, (hvm.b (by omega) (j := 1) (by decide)).trans e9.2⟩)
            refine lv_astore (lv' := [(7, .ref (aAk Ad i9)), (6, .ref (aOk Ad k)), (0, .ref d), (1, .int (nI k)), (2, .int (nI uu)), (3, .int (nI f)), (4, .int (nI g)), (5, .int (nI fr))]) hx hb dX6_gets_74 hl (by decide) rfl (fun ls hl => ?_)
            refine lv_aload hx hb dX6_gets_76 (lv_at hl 1 rfl) ?_
            refine lv_iconst (v := 2) hx hb dX6_gets_78 (by decide) ?_
            refine kx_ialdv (x := 1) hx hb hK (kmy_P hP) (dk.oa (k := k) (show k < n by omega)) (Nat.le_of_ble_eq_true rfl) (Nat.le_of_ble_eq_true rfl) (show vp_in 2 12 from ki_in (n := 2) (by omega) (by omega)) ((congrArg _ (ki_cl (n := 2) (by omega))).trans ((dk.ov (k := k) (j := 2) (show k < n by omega) (show 2 < 12 by omega)).trans ((eO2.trans hst)))) dX6_gets_79 ?_
            refine lv_iconst (v := 1) hx hb dX6_gets_80 (by decide) ?_
            refine lv_icmp_ne (tgt := 100) hx hb dX6_gets_81 (by decide) (fun c_7 => absurd c_7 (by decide)) (fun _ => ?_)
            refine lv_aload hx hb dX6_gets_84 (lv_at hl 0 rfl) ?_
            refine kx_alen (v := 5) hx hb hK (kmy_P hP) (dk.ma (i := i9) (show i9 < na by omega)) (Nat.le_of_ble_eq_true rfl) (Nat.le_of_ble_eq_true rfl) rfl dX6_gets_86 ?_
            refine lv_if_le (tgt := 100) hx hb dX6_gets_87 (by decide) (fun c_8 => absurd c_8 (by decide)) (fun _ => ?_)
            refine lv_aload_n hx hb dX6_gets_90 rfl (lv_at hl 2 rfl) ?_
            refine lv_iconst (v := 2) hx hb dX6_gets_91 (by decide) ?_
            refine lv_aload hx hb dX6_gets_92 (lv_at hl 0 rfl) ?_
            refine lv_iconst (v := 2) hx hb dX6_gets_94 (by decide) ?_
            refine kx_ialdv (x := fB i9 2) hx hb hK (kmy_P hP) (dk.ma (i := i9) (show i9 < na by omega)) (Nat.le_of_ble_eq_true rfl) (Nat.le_of_ble_eq_true rfl) (show vp_in 2 5 from ki_in (n := 2) (by omega) (by omega)) ((congrArg _ (ki_cl (n := 2) (by omega))).trans ((dk.mv (i := i9) (j := 2) (show i9 < na by omega) (show 2 < 5 by omega)).trans (rfl))) dX6_gets_95 ?_
            refine kc_i (va_runV (As := [.int 2, .int (fB i9 2)]) (rest := []) ⟨hx, hb, hml, hown, htT⟩ (d_because l D cA _ wb b L xs hL T d x Ad n na fF fO fW fC fR fB dk 2 (fB i9 2)) (cwV 2 htT (kg_V m_ml_X6_159 m_im_X6_because m_sl_X6_because m_in_X6 m_cd_X6_because) rfl rfl rfl (by decide +kernel) ⟨(show 0 + 1 ≤ dd + 2 by omega), (show 8 + (3 + 11) + (0) ≤ 40 * dd + 60 by omega)⟩) (kpe_V hK hP hD hTB hTX hX hbl hbA hAO hS hA (kpe_rc hK hP dk.o rfl)) rfl rfl hl.1 rfl (lv_room (Nat.le_of_ble_eq_true rfl)) dX6_gets_96 ⟨(show 0 + 1 + 0 ≤ dd + 1 by omega), Nat.le_of_ble_eq_true rfl⟩) hD hS hA (fun r_9 x_9 H locs hq_9 hP hD hS => ?_)
            rw [hq_9.1]
            rw [hq_9.2] at hP hD
            refine W.widen (k := dd + 1) (n := 0) (show 0 + 1 ≤ dd + 1 by omega) (Nat.le_of_ble_eq_true rfl) ?_
            have hG : rGx M.2 (M.1 2) (M.2 11) (nI uu) (nI f) (nI g) na (ru k) (fun j => (rG M.2 (M.1 2) (M.2 11) (fun k => rFar M.2 k (M.1 1)) (nI uu) (nI f) (nI g) na ru dd j).1) k (rFar M.2 k (M.1 1)) = (fB i9 2, 2) := by unfold rGx; rw [if_neg hC0, if_neg hC1, if_pos ⟨by rw [hst]; decide, by rw [hra]; exact nI_m1 (by omega)⟩]; rw [hra, ki_cl (show i9 < 2 ^ 31 by omega), ← hvm.b hi9 (j := 2) (by decide)]
            exact W.iret (v := fB i9 2) hx hb hr (fun t ht hW => ⟨⟨fB i9 2, pI T d 10 2, rfl, ⟨(congrArg Prod.fst hG).symm, ExtD.why, (show u2 _ _ _ _ _ _ = _ from u2_s).trans (congrArg Prod.snd hG).symm⟩, by rw [ht]; exact hP, va_K.moved hW.alike hK, hD⟩, hS.F ht⟩) hS.2.2 dX6_gets_99
          · rw [hr9]
            rw [ht9] at hP hD
            have hra : rArm M.2 (nI k) (nI uu) na 0 = -1 := rArm_n na 0 (fun j9 _ a2 e9 => hall9 j9 (by omega) ⟨(hvm.b (by omega) (j := 0) (by decide)).trans e9.1, (hvm.b (by omega) (j := 1) (by decide)).trans e9.2⟩)
            have hC2 : ¬ (M.2 10 k ≠ 0 ∧ rArm M.2 (nI k) (nI uu) na 0 ≠ -1) := fun e9 => e9.2 hra
            have dk_10 : DK (pW T q9 14 0) d x b Ad (n, na, fF, fO, fW, fC, fR, fB) := dk.ext (ExtA.new hq9)
            refine lv_astore (lv' := [(7, .ref q9), (6, .ref (aOk Ad k)), (0, .ref d), (1, .int (nI k)), (2, .int (nI uu)), (3, .int (nI f)), (4, .int (nI g)), (5, .int (nI fr))]) hx hb dX6_gets_74 hl (by decide) rfl (fun ls hl => ?_)
            refine lv_aload hx hb dX6_gets_76 (lv_at hl 1 rfl) ?_
            refine lv_iconst (v := 2) hx hb dX6_gets_78 (by decide) ?_
            refine kx_ialdv (x := 1) hx hb hK (kmy_P hP) (dk_10.oa (k := k) (show k < n by omega)) (Nat.le_of_ble_eq_true rfl) (Nat.le_of_ble_eq_true rfl) (show vp_in 2 12 from ki_in (n := 2) (by omega) (by omega)) ((congrArg _ (ki_cl (n := 2) (by omega))).trans ((dk_10.ov (k := k) (j := 2) (show k < n by omega) (show 2 < 12 by omega)).trans ((eO2.trans hst)))) dX6_gets_79 ?_
            refine lv_iconst (v := 1) hx hb dX6_gets_80 (by decide) ?_
            refine lv_icmp_ne (tgt := 100) hx hb dX6_gets_81 (by decide) (fun c_11 => absurd c_11 (by decide)) (fun _ => ?_)
            refine lv_aload hx hb dX6_gets_84 (lv_at hl 0 rfl) ?_
            refine kx_alen (v := 0) hx hb hK (kmy_P hP) (isA_q (S := T) (q := q9) (ki := 14) (n := 0)) (Nat.le_of_ble_eq_true rfl) (Nat.le_of_ble_eq_true rfl) rfl dX6_gets_86 ?_
            refine lv_if_le (tgt := 100) hx hb dX6_gets_87 (by decide) (fun _ => ?_) (fun c_12 => absurd c_12 (by decide))
            exact hcut _ _ _ _ ⟨(show 0 + 1 ≤ dd + 1 by omega), _, (ExtD.new hq9), hP, hD, hS, lv_sub hl [2, 3, 4, 5, 6, 7, 1] rfl, hC0, hC1, hC2⟩
      · have hjn : j < n := by omega
        obtain ⟨d9, hdd⟩ : ∃ d9, dd = d9 + 1 := ⟨dd - 1, by omega⟩
        obtain ⟨-, ⟨shj, hshj, eshj⟩, ⟨spj, hspj, espj⟩, ⟨zzj, hzzj, ezzj⟩⟩ := hMs j hjn
        have oj4 : fO j 4 = nI shj := (hvm.o hjn (q := (4, 7)) (by decide)).trans eshj
        have oj5 : fO j 5 = nI spj := (hvm.o hjn (q := (5, 8)) (by decide)).trans espj
        have oj6 : fO j 6 = nI zzj := (hvm.o hjn (q := (6, 9)) (by decide)).trans ezzj
        have oF3 : fF 3 = nI cM := hvm.f3.trans eck
        have efj : rFar M.2 j (M.1 1) = nI (min 1000 (shj + spj * (cM - zzj))) := far_n eshj espj ezzj eck hshj hspj hzzj hcM
        refine lv_aload hx hb dX6_gets_22 (lv_at hl 0 rfl) ?_
        refine lv_bipush (v := 10) hx hb dX6_gets_24 (by decide) ?_
        refine kx_ialdv (x := nI j) hx hb hK (kmy_P hP) (dk.oa (k := k) (show k < n by omega)) (Nat.le_of_ble_eq_true rfl) (Nat.le_of_ble_eq_true rfl) (show vp_in 10 12 from ki_in (n := 10) (by omega) (by omega)) ((congrArg _ (ki_cl (n := 10) (by omega))).trans ((dk.ov (k := k) (j := 10) (show k < n by omega) (show 10 < 12 by omega)).trans ((eO10.trans hnd)))) dX6_gets_26 ?_
        refine lv_if_lt (tgt := 68) hx hb dX6_gets_27 (by decide) (fun c_13 => ?_) (fun c_13 => ?_)
        · exact absurd ((nI_ltI (a := j) (b := 0) (by omega) (by omega)).mp c_13) (by omega)
        · replace c_13 : ¬ (j < 0) := fun h9 => c_13 ((nI_ltI (a := j) (b := 0) (by omega) (by omega)).mpr h9)
          refine lv_aload_n hx hb dX6_gets_30 rfl (lv_at hl 1 rfl) ?_
          refine lv_aload hx hb dX6_gets_31 (lv_at hl 0 rfl) ?_
          refine lv_bipush (v := 10) hx hb dX6_gets_33 (by decide) ?_
          refine kx_ialdv (x := nI j) hx hb hK (kmy_P hP) (dk.oa (k := k) (show k < n by omega)) (Nat.le_of_ble_eq_true rfl) (Nat.le_of_ble_eq_true rfl) (show vp_in 10 12 from ki_in (n := 10) (by omega) (by omega)) ((congrArg _ (ki_cl (n := 10) (by omega))).trans ((dk.ov (k := k) (j := 10) (show k < n by omega) (show 10 < 12 by omega)).trans ((eO10.trans hnd)))) dX6_gets_35 ?_
          refine lv_iload_n hx hb dX6_gets_36 rfl (lv_at hl 3 rfl) ?_
          refine lv_iload_n hx hb dX6_gets_37 rfl (lv_at hl 4 rfl) ?_
          refine lv_iload hx hb dX6_gets_38 (lv_at hl 5 rfl) ?_
          refine lv_aload_n hx hb dX6_gets_40 rfl (lv_at hl 1 rfl) ?_
          refine lv_aload hx hb dX6_gets_41 (lv_at hl 0 rfl) ?_
          refine lv_bipush (v := 10) hx hb dX6_gets_43 (by decide) ?_
          refine kx_ialdv (x := nI j) hx hb hK (kmy_P hP) (dk.oa (k := k) (show k < n by omega)) (Nat.le_of_ble_eq_true rfl) (Nat.le_of_ble_eq_true rfl) (show vp_in 10 12 from ki_in (n := 10) (by omega) (by omega)) ((congrArg _ (ki_cl (n := 10) (by omega))).trans ((dk.ov (k := k) (j := 10) (show k < n by omega) (show 10 < 12 by omega)).trans ((eO10.trans hnd)))) dX6_gets_45 ?_
          refine lv_iconst (v := 0) hx hb dX6_gets_46 (by decide) ?_
          refine kc_i (va_runV (As := [.int (nI j), .int 0]) (rest := [.int (nI g), .int (nI f), .int (nI uu), .int (nI j), .ref d]) ⟨hx, hb, hml, hown, htT⟩ (d_far l D cA _ wb b L xs hL T d x Ad n na fF fO fW fC fR fB dk j hjn shj spj zzj cM oj4 oj5 oj6 ((show _ = fF 3 from rfl).trans oF3) hshj hspj hzzj hcM) (cwV 2 htT (kg_V m_ml_X6_79 m_im_X6_far m_sl_X6_far m_in_X6 m_cd_X6_far) rfl rfl rfl (by decide +kernel) ⟨(show 0 + 1 ≤ dd + 2 by omega), (show 8 + (5 + 11) + (0) ≤ 40 * dd + 60 by omega)⟩) (kpe_V hK hP hD hTB hTX hX hbl hbA hAO hS hA (kpe_rc hK hP dk.o rfl)) rfl rfl hl.1 rfl (lv_room (Nat.le_of_ble_eq_true rfl)) dX6_gets_47 ⟨(show 0 + 0 ≤ dd + 1 by omega), Nat.le_of_ble_eq_true rfl⟩) hD hS hA (fun r_14 x_14 H locs hq_14 hP hD hS => ?_)
          rw [hq_14.1]
          rw [hq_14.2] at hP hD
          refine kc_i (va_runV (As := [.int (nI j), .int (nI uu), .int (nI f), .int (nI g), .int (nI (min 1000 (shj + spj * (cM - zzj))))]) (rest := []) ⟨hx, hb, hml, hown, htT⟩ (hV d9 hdd _ _ _ dk hvm j _ hjn (by omega) efj (by omega)) (cwV 5 htT (kg_V m_ml_X6_162 m_im_X6_gets m_sl_X6_gets m_in_X6 m_cd_X6_gets) rfl rfl rfl (by decide +kernel) ⟨(show (d9 + 2) + 1 ≤ dd + 2 by omega), (show 8 + (12 + 11) + ((40 * d9 + 60)) ≤ 40 * dd + 60 by omega)⟩) (kpe_V hK hP hD hTB hTX hX hbl hbA hAO hS hA (kpe_rc hK hP dk.o rfl)) rfl rfl hl.1 rfl (lv_room (Nat.le_of_ble_eq_true rfl)) dX6_gets_50 ⟨(show 0 + (d9 + 1) ≤ dd + 1 by omega), Nat.le_of_ble_eq_true rfl⟩) hD hS hA (fun r_15 x_15 H locs hq_15 hP hD hS => ?_)
          obtain ⟨hr_15, hE_15, hy_15⟩ := hq_15
          rw [← hdd] at hr_15
          rw [hr_15]
          have dk_16 : DK x_15 d x b Ad (n, na, (upd fF 10 (gI x_15 d 10)), fO, fW, fC, fR, fB) := dk.extD hE_15
          refine lv_aload hx hb dX6_gets_53 (lv_at hl 0 rfl) ?_
          refine lv_bipush (v := 11) hx hb dX6_gets_55 (by decide) ?_
          refine kx_ialdv (x := fO k 11) hx hb hK (kmy_P hP) (dk_16.oa (k := k) (show k < n by omega)) (Nat.le_of_ble_eq_true rfl) (Nat.le_of_ble_eq_true rfl) (show vp_in 11 12 from ki_in (n := 11) (by omega) (by omega)) ((congrArg _ (ki_cl (n := 11) (by omega))).trans ((dk_16.ov (k := k) (j := 11) (show k < n by omega) (show 11 < 12 by omega)).trans (rfl))) dX6_gets_57 ?_
          refine lv_icmp_eq (tgt := 68) hx hb dX6_gets_58 (by decide) (fun c_17 => ?_) (fun c_17 => ?_)
          · have hC1 : ¬ (M.2 15 k ≠ -1 ∧ (rG M.2 (M.1 2) (M.2 11) (fun k => rFar M.2 k (M.1 1)) (nI uu) (nI f) (nI g) na ru dd (M.2 15 k).toNatClampNeg).1 ≠ M.2 16 k) := fun e9 => e9.2 ((congrArg (fun z => (rG M.2 (M.1 2) (M.2 11) (fun k => rFar M.2 k (M.1 1)) (nI uu) (nI f) (nI g) na ru dd z).1) (show (M.2 15 k).toNatClampNeg = j from (congrArg _ hnd).trans (ki_cl (by omega)))).trans (c_17.trans eO11))
            refine lv_aload_n hx hb dX6_gets_68 rfl (lv_at hl 1 rfl) ?_
            refine lv_iload_n hx hb dX6_gets_69 rfl (lv_at hl 2 rfl) ?_
            refine lv_iload_n hx hb dX6_gets_70 rfl (lv_at hl 3 rfl) ?_
            refine kc_q (va_runV (As := [.int (nI k), .int (nI uu)]) (rest := []) ⟨hx, hb, hml, hown, htT⟩ (d_arm l D cA _ wb b L xs hL x_15 d x Ad n na (upd fF 10 (gI x_15 d 10)) fO fW fC fR fB dk_16 hna (nI k) (nI uu)) (cwV 2 htT (kg_V m_ml_X6_165 m_im_X6_arm m_sl_X6_arm m_in_X6 m_cd_X6_arm) rfl rfl rfl (by decide +kernel) ⟨(show 0 + 1 ≤ dd + 2 by omega), (show 8 + (7 + 11) + (0) ≤ 40 * dd + 60 by omega)⟩) (kpe_V hK hP hD hTB hTX hX hbl hbA hAO hS hA (kpe_rc hK hP dk_16.o rfl)) rfl rfl hl.1 rfl (lv_room (Nat.le_of_ble_eq_true rfl)) dX6_gets_71 ⟨(show 0 + (d9 + 1) + 1 ≤ dd + 1 by omega), Nat.le_of_ble_eq_true rfl⟩) hD hS hA (fun r_18 x_18 H locs hq_18 hP hD hS => ?_)
            rcases hst with hst | hst
            · rcases hq_18 with ⟨i9, hi9, hr9, ea9, eb9, hall9, ht9⟩ | ⟨hall9, q9, hq9, hr9, ht9⟩
              · rw [hr9]
                rw [ht9] at hP hD
                have hra : rArm M.2 (nI k) (nI uu) na 0 = nI i9 := rArm_y na 0 (Nat.zero_le _) (by omega) ((hvm.b hi9 (j := 0) (by decide)).symm.trans ea9) ((hvm.b hi9 (j := 1) (by decide)).symm.trans eb9) (fun j9 _ a2 e9 => hall9 j9 a2 ⟨(hvm.b (by omega) (j := 0) (by decide)).trans e9.1, (hvm.b (by omega) (j := 1) (by decide)).trans e9.2⟩)
                have hC2 : ¬ (M.2 10 k ≠ 0 ∧ rArm M.2 (nI k) (nI uu) na 0 ≠ -1) := fun e9 => e9.1 hst
                refine lv_astore (lv' := [(7, .ref (aAk Ad i9)), (6, .ref (aOk Ad k)), (0, .ref d), (1, .int (nI k)), (2, .int (nI uu)), (3, .int (nI f)), (4, .int (nI g)), (5, .int (nI fr))]) hx hb dX6_gets_74 hl (by decide) rfl (fun ls hl => ?_)
                refine lv_aload hx hb dX6_gets_76 (lv_at hl 1 rfl) ?_
                refine lv_iconst (v := 2) hx hb dX6_gets_78 (by decide) ?_
                refine kx_ialdv (x := 0) hx hb hK (kmy_P hP) (dk_16.oa (k := k) (show k < n by omega)) (Nat.le_of_ble_eq_true rfl) (Nat.le_of_ble_eq_true rfl) (show vp_in 2 12 from ki_in (n := 2) (by omega) (by omega)) ((congrArg _ (ki_cl (n := 2) (by omega))).trans ((dk_16.ov (k := k) (j := 2) (show k < n by omega) (show 2 < 12 by omega)).trans ((eO2.trans hst)))) dX6_gets_79 ?_
                refine lv_iconst (v := 1) hx hb dX6_gets_80 (by decide) ?_
                refine lv_icmp_ne (tgt := 100) hx hb dX6_gets_81 (by decide) (fun _ => ?_) (fun c_19 => absurd c_19 (by decide))
                exact hcut _ _ _ _ ⟨(show 0 + (d9 + 1) + 1 ≤ dd + 1 by omega), _, hE_15, hP, hD, hS, lv_sub hl [2, 3, 4, 5, 6, 7, 1] rfl, hC0, hC1, hC2⟩
              · rw [hr9]
                rw [ht9] at hP hD
                have hra : rArm M.2 (nI k) (nI uu) na 0 = -1 := rArm_n na 0 (fun j9 _ a2 e9 => hall9 j9 (by omega) ⟨(hvm.b (by omega) (j := 0) (by decide)).trans e9.1, (hvm.b (by omega) (j := 1) (by decide)).trans e9.2⟩)
                have hC2 : ¬ (M.2 10 k ≠ 0 ∧ rArm M.2 (nI k) (nI uu) na 0 ≠ -1) := fun e9 => e9.2 hra
                have dk_20 : DK (pW x_15 q9 14 0) d x b Ad (n, na, (upd fF 10 (gI x_15 d 10)), fO, fW, fC, fR, fB) := dk_16.ext (ExtA.new hq9)
                refine lv_astore (lv' := [(7, .ref q9), (6, .ref (aOk Ad k)), (0, .ref d), (1, .int (nI k)), (2, .int (nI uu)), (3, .int (nI f)), (4, .int (nI g)), (5, .int (nI fr))]) hx hb dX6_gets_74 hl (by decide) rfl (fun ls hl => ?_)
                refine lv_aload hx hb dX6_gets_76 (lv_at hl 1 rfl) ?_
                refine lv_iconst (v := 2) hx hb dX6_gets_78 (by decide) ?_
                refine kx_ialdv (x := 0) hx hb hK (kmy_P hP) (dk_20.oa (k := k) (show k < n by omega)) (Nat.le_of_ble_eq_true rfl) (Nat.le_of_ble_eq_true rfl) (show vp_in 2 12 from ki_in (n := 2) (by omega) (by omega)) ((congrArg _ (ki_cl (n := 2) (by omega))).trans ((dk_20.ov (k := k) (j := 2) (show k < n by omega) (show 2 < 12 by omega)).trans ((eO2.trans hst)))) dX6_gets_79 ?_
                refine lv_iconst (v := 1) hx hb dX6_gets_80 (by decide) ?_
                refine lv_icmp_ne (tgt := 100) hx hb dX6_gets_81 (by decide) (fun _ => ?_) (fun c_21 => absurd c_21 (by decide))
                exact hcut _ _ _ _ ⟨(show 0 + (d9 + 1) + 1 ≤ dd + 1 by omega), _, (hE_15.tr (ExtD.new hq9)), hP, hD, hS, lv_sub hl [2, 3, 4, 5, 6, 7, 1] rfl, hC0, hC1, hC2⟩
            · rcases hq_18 with ⟨i9, hi9, hr9, ea9, eb9, hall9, ht9⟩ | ⟨hall9, q9, hq9, hr9, ht9⟩
              · rw [hr9]
                rw [ht9] at hP hD
                have hra : rArm M.2 (nI k) (nI uu) na 0 = nI i9 := rArm_y na 0 (Nat.zero_le _) (by omega) ((hvm.b hi9 (j := 0) (by decide)).symm.trans ea9) ((hvm.b hi9 (j := 1) (by decide)).symm.trans eb9) (fun j9 _ a2 e9 => hall9 j9 a2 ⟨(hvm.b (by omega) (j := 0) (by decide)).trans e9.1, (hvm.b (by omega) (j := 1) (by decide)).trans e9.2⟩)
                refine lv_astore (lv' := [(7, .ref (aAk Ad i9)), (6, .ref (aOk Ad k)), (0, .ref d), (1, .int (nI k)), (2, .int (nI uu)), (3, .int (nI f)), (4, .int (nI g)), (5, .int (nI fr))]) hx hb dX6_gets_74 hl (by decide) rfl (fun ls hl => ?_)
                refine lv_aload hx hb dX6_gets_76 (lv_at hl 1 rfl) ?_
                refine lv_iconst (v := 2) hx hb dX6_gets_78 (by decide) ?_
                refine kx_ialdv (x := 1) hx hb hK (kmy_P hP) (dk_16.oa (k := k) (show k < n by omega)) (Nat.le_of_ble_eq_true rfl) (Nat.le_of_ble_eq_true rfl) (show vp_in 2 12 from ki_in (n := 2) (by omega) (by omega)) ((congrArg _ (ki_cl (n := 2) (by omega))).trans ((dk_16.ov (k := k) (j := 2) (show k < n by omega) (show 2 < 12 by omega)).trans ((eO2.trans hst)))) dX6_gets_79 ?_
                refine lv_iconst (v := 1) hx hb dX6_gets_80 (by decide) ?_
                refine lv_icmp_ne (tgt := 100) hx hb dX6_gets_81 (by decide) (fun c_22 => absurd c_22 (by decide)) (fun _ => ?_)
                refine lv_aload hx hb dX6_gets_84 (lv_at hl 0 rfl) ?_
                refine kx_alen (v := 5) hx hb hK (kmy_P hP) (dk_16.ma (i := i9) (show i9 < na by omega)) (Nat.le_of_ble_eq_true rfl) (Nat.le_of_ble_eq_true rfl) rfl dX6_gets_86 ?_
                refine lv_if_le (tgt := 100) hx hb dX6_gets_87 (by decide) (fun c_23 => absurd c_23 (by decide)) (fun _ => ?_)
                refine lv_aload_n hx hb dX6_gets_90 rfl (lv_at hl 2 rfl) ?_
                refine lv_iconst (v := 2) hx hb dX6_gets_91 (by decide) ?_
                refine lv_aload hx hb dX6_gets_92 (lv_at hl 0 rfl) ?_
                refine lv_iconst (v := 2) hx hb dX6_gets_94 (by decide) ?_
                refine kx_ialdv (x := fB i9 2) hx hb hK (kmy_P hP) (dk_16.ma (i := i9) (show i9 < na by omega)) (Nat.le_of_ble_eq_true rfl) (Nat.le_of_ble_eq_true rfl) (show vp_in 2 5 from ki_in (n := 2) (by omega) (by omega)) ((congrArg _ (ki_cl (n := 2) (by omega))).trans ((dk_16.mv (i := i9) (j := 2) (show i9 < na by omega) (show 2 < 5 by omega)).trans (rfl))) dX6_gets_95 ?_
                refine kc_i (va_runV (As := [.int 2, .int (fB i9 2)]) (rest := []) ⟨hx, hb, hml, hown, htT⟩ (d_because l D cA _ wb b L xs hL x_15 d x Ad n na (upd fF 10 (gI x_15 d 10)) fO fW fC fR fB dk_16 2 (fB i9 2)) (cwV 2 htT (kg_V m_ml_X6_159 m_im_X6_because m_sl_X6_because m_in_X6 m_cd_X6_because) rfl rfl rfl (by decide +kernel) ⟨(show 0 + 1 ≤ dd + 2 by omega), (show 8 + (3 + 11) + (0) ≤ 40 * dd + 60 by omega)⟩) (kpe_V hK hP hD hTB hTX hX hbl hbA hAO hS hA (kpe_rc hK hP dk_16.o rfl)) rfl rfl hl.1 rfl (lv_room (Nat.le_of_ble_eq_true rfl)) dX6_gets_96 ⟨(show 0 + (d9 + 1) + 1 + 0 ≤ dd + 1 by omega), Nat.le_of_ble_eq_true rfl⟩) hD hS hA (fun r_24 x_24 H locs hq_24 hP hD hS => ?_)
                rw [hq_24.1]
                rw [hq_24.2] at hP hD
                refine W.widen (k := dd + 1) (n := 0) (show 0 + (d9 + 1) + 1 ≤ dd + 1 by omega) (Nat.le_of_ble_eq_true rfl) ?_
                have hG : rGx M.2 (M.1 2) (M.2 11) (nI uu) (nI f) (nI g) na (ru k) (fun j => (rG M.2 (M.1 2) (M.2 11) (fun k => rFar M.2 k (M.1 1)) (nI uu) (nI f) (nI g) na ru dd j).1) k (rFar M.2 k (M.1 1)) = (fB i9 2, 2) := by unfold rGx; rw [if_neg hC0, if_neg hC1, if_pos ⟨by rw [hst]; decide, by rw [hra]; exact nI_m1 (by omega)⟩]; rw [hra, ki_cl (show i9 < 2 ^ 31 by omega), ← hvm.b hi9 (j := 2) (by decide)]
                exact W.iret (v := fB i9 2) hx hb hr (fun t ht hW => ⟨⟨fB i9 2, pI x_15 d 10 2, rfl, ⟨(congrArg Prod.fst hG).symm, (hE_15.tr ExtD.why), (show u2 _ _ _ _ _ _ = _ from u2_s).trans (congrArg Prod.snd hG).symm⟩, by rw [ht]; exact hP, va_K.moved hW.alike hK, hD⟩, hS.F ht⟩) hS.2.2 dX6_gets_99
              · rw [hr9]
                rw [ht9] at hP hD
                have hra : rArm M.2 (nI k) (nI uu) na 0 = -1 := rArm_n na 0 (fun j9 _ a2 e9 => hall9 j9 (by omega) ⟨(hvm.b (by omega) (j := 0) (by decide)).trans e9.1, (hvm.b (by omega) (j := 1) (by decide)).trans e9.2⟩)
                have hC2 : ¬ (M.2 10 k ≠ 0 ∧ rArm M.2 (nI k) (nI uu) na 0 ≠ -1) := fun e9 => e9.2 hra
                have dk_25 : DK (pW x_15 q9 14 0) d x b Ad (n, na, (upd fF 10 (gI x_15 d 10)), fO, fW, fC, fR, fB) := dk_16.ext (ExtA.new hq9)
                refine lv_astore (lv' := [(7, .ref q9), (6, .ref (aOk Ad k)), (0, .ref d), (1, .int (nI k)), (2, .int (nI uu)), (3, .int (nI f)), (4, .int (nI g)), (5, .int (nI fr))]) hx hb dX6_gets_74 hl (by decide) rfl (fun ls hl => ?_)
                refine lv_aload hx hb dX6_gets_76 (lv_at hl 1 rfl) ?_
                refine lv_iconst (v := 2) hx hb dX6_gets_78 (by decide) ?_
                refine kx_ialdv (x := 1) hx hb hK (kmy_P hP) (dk_25.oa (k := k) (show k < n by omega)) (Nat.le_of_ble_eq_true rfl) (Nat.le_of_ble_eq_true rfl) (show vp_in 2 12 from ki_in (n := 2) (by omega) (by omega)) ((congrArg _ (ki_cl (n := 2) (by omega))).trans ((dk_25.ov (k := k) (j := 2) (show k < n by omega) (show 2 < 12 by omega)).trans ((eO2.trans hst)))) dX6_gets_79 ?_
                refine lv_iconst (v := 1) hx hb dX6_gets_80 (by decide) ?_
                refine lv_icmp_ne (tgt := 100) hx hb dX6_gets_81 (by decide) (fun c_26 => absurd c_26 (by decide)) (fun _ => ?_)
                refine lv_aload hx hb dX6_gets_84 (lv_at hl 0 rfl) ?_
                refine kx_alen (v := 0) hx hb hK (kmy_P hP) (isA_q (S := x_15) (q := q9) (ki := 14) (n := 0)) (Nat.le_of_ble_eq_true rfl) (Nat.le_of_ble_eq_true rfl) rfl dX6_gets_86 ?_
                refine lv_if_le (tgt := 100) hx hb dX6_gets_87 (by decide) (fun _ => ?_) (fun c_27 => absurd c_27 (by decide))
                exact hcut _ _ _ _ ⟨(show 0 + (d9 + 1) + 1 ≤ dd + 1 by omega), _, (hE_15.tr (ExtD.new hq9)), hP, hD, hS, lv_sub hl [2, 3, 4, 5, 6, 7, 1] rfl, hC0, hC1, hC2⟩
          · refine lv_aload_n hx hb dX6_gets_61 rfl (lv_at hl 1 rfl) ?_
            refine lv_iconst (v := 1) hx hb dX6_gets_62 (by decide) ?_
            refine lv_iconst (v := 0) hx hb dX6_gets_63 (by decide) ?_
            refine kc_i (va_runV (As := [.int 1, .int 0]) (rest := []) ⟨hx, hb, hml, hown, htT⟩ (d_because l D cA _ wb b L xs hL x_15 d x Ad n na (upd fF 10 (gI x_15 d 10)) fO fW fC fR fB dk_16 1 0) (cwV 2 htT (kg_V m_ml_X6_159 m_im_X6_because m_sl_X6_because m_in_X6 m_cd_X6_because) rfl rfl rfl (by decide +kernel) ⟨(show 0 + 1 ≤ dd + 2 by omega), (show 8 + (3 + 11) + (0) ≤ 40 * dd + 60 by omega)⟩) (kpe_V hK hP hD hTB hTX hX hbl hbA hAO hS hA (kpe_rc hK hP dk_16.o rfl)) rfl rfl hl.1 rfl (lv_room (Nat.le_of_ble_eq_true rfl)) dX6_gets_64 ⟨(show 0 + (d9 + 1) + 0 ≤ dd + 1 by omega), Nat.le_of_ble_eq_true rfl⟩) hD hS hA (fun r_28 x_28 H locs hq_28 hP hD hS => ?_)
            rw [hq_28.1]
            rw [hq_28.2] at hP hD
            refine W.widen (k := dd + 1) (n := 0) (show 0 + (d9 + 1) ≤ dd + 1 by omega) (Nat.le_of_ble_eq_true rfl) ?_
            have hG : rGx M.2 (M.1 2) (M.2 11) (nI uu) (nI f) (nI g) na (ru k) (fun j => (rG M.2 (M.1 2) (M.2 11) (fun k => rFar M.2 k (M.1 1)) (nI uu) (nI f) (nI g) na ru dd j).1) k (rFar M.2 k (M.1 1)) = (0, 1) := by unfold rGx; rw [if_neg hC0, if_pos ⟨fun e9 => nI_m1 (a := j) (by omega) (hnd.symm.trans e9), fun e9 => c_17 (((congrArg (fun z => (rG M.2 (M.1 2) (M.2 11) (fun k => rFar M.2 k (M.1 1)) (nI uu) (nI f) (nI g) na ru dd z).1) (show (M.2 15 k).toNatClampNeg = j from (congrArg _ hnd).trans (ki_cl (by omega)))).symm.trans e9).trans eO11.symm)⟩]
            exact W.iret (v := 0) hx hb hr (fun t ht hW => ⟨⟨0, pI x_15 d 10 1, rfl, ⟨(congrArg Prod.fst hG).symm, (hE_15.tr ExtD.why), (show u2 _ _ _ _ _ _ = _ from u2_s).trans (congrArg Prod.snd hG).symm⟩, by rw [ht]; exact hP, va_K.moved hW.alike hK, hD⟩, hS.F ht⟩) hS.2.2 dX6_gets_67
    · refine lv_aload_n hx hb dX6_gets_15 rfl (lv_at hl 1 rfl) ?_
      refine lv_iconst (v := 0) hx hb dX6_gets_16 (by decide) ?_
      refine lv_iconst (v := 0) hx hb dX6_gets_17 (by decide) ?_
      refine kc_i (va_runV (As := [.int 0, .int 0]) (rest := []) ⟨hx, hb, hml, hown, htT⟩ (d_because l D cA _ wb b L xs hL T d x Ad n na fF fO fW fC fR fB dk 0 0) (cwV 2 htT (kg_V m_ml_X6_159 m_im_X6_because m_sl_X6_because m_in_X6 m_cd_X6_because) rfl rfl rfl (by decide +kernel) ⟨(show 0 + 1 ≤ dd + 2 by omega), (show 8 + (3 + 11) + (0) ≤ 40 * dd + 60 by omega)⟩) (kpe_V hK hP hD hTB hTX hX hbl hbA hAO hS hA (kpe_rc hK hP dk.o rfl)) rfl rfl hl.1 rfl (lv_room (Nat.le_of_ble_eq_true rfl)) dX6_gets_18 ⟨(show 0 + 0 ≤ dd + 1 by omega), Nat.le_of_ble_eq_true rfl⟩) hD hS hA (fun r_29 x_29 H locs hq_29 hP hD hS => ?_)
      rw [hq_29.1]
      rw [hq_29.2] at hP hD
      refine W.widen (k := dd + 1) (n := 0) (show 0 ≤ dd + 1 by omega) (Nat.le_of_ble_eq_true rfl) ?_
      have hG : rGx M.2 (M.1 2) (M.2 11) (nI uu) (nI f) (nI g) na (ru k) (fun j => (rG M.2 (M.1 2) (M.2 11) (fun k => rFar M.2 k (M.1 1)) (nI uu) (nI f) (nI g) na ru dd j).1) k (rFar M.2 k (M.1 1)) = (0, 0) := by unfold rGx; rw [if_pos (eO3.symm.trans c_1)]
      exact W.iret (v := 0) hx hb hr (fun t ht hW => ⟨⟨0, pI T d 10 0, rfl, ⟨(congrArg Prod.fst hG).symm, ExtD.why, (show u2 _ _ _ _ _ _ = _ from u2_s).trans (congrArg Prod.snd hG).symm⟩, by rw [ht]; exact hP, va_K.moved hW.alike hK, hD⟩, hS.F ht⟩) hS.2.2 dX6_gets_21
  · obtain ⟨hcl, T1, hE1, hP, hD, hS, hl, hC0, hC1, hC2⟩ := hI9
    have dk_t : DK T1 d x b Ad (n, na, (upd fF 10 (gI T1 d 10)), fO, fW, fC, fR, fB) := dk.extD hE1
    refine lv_aload_n hx hb dX6_gets_100 rfl (lv_at hl 0 rfl) ?_
    refine lv_iload_n hx hb dX6_gets_101 rfl (lv_at hl 1 rfl) ?_
    refine lv_iload_n hx hb dX6_gets_102 rfl (lv_at hl 3 rfl) ?_
    refine lv_iload hx hb dX6_gets_103 (lv_at hl 4 rfl) ?_
    refine kc_i (va_runV (As := [.int (nI k), .int (nI f), .int (nI g)]) (rest := []) ⟨hx, hb, hml, hown, htT⟩ (d_holds l D cA _ wb b L xs hL T1 d x Ad n na (upd fF 10 (gI T1 d 10)) fO fW fC fR fB dk_t k q8 hC5 (fun i hi => ⟨(hrl i hi).1, (hrl i hi).2.1, (hrl i hi).2.2.1⟩) f g hf hg) (cwV 3 htT (kg_V m_ml_X6_169 m_im_X6_holds m_sl_X6_holds m_in_X6 m_cd_X6_holds) rfl rfl rfl (by decide +kernel) ⟨(show 0 + 1 ≤ dd + 2 by omega), (show 8 + (7 + 11) + (0) ≤ 40 * dd + 60 by omega)⟩) (kpe_V hK hP hD hTB hTX hX hbl hbA hAO hS hA (kpe_rc hK hP dk_t.o rfl)) rfl rfl hl.1 rfl (lv_room (Nat.le_of_ble_eq_true rfl)) dX6_gets_105 ⟨(show cl9 + 0 ≤ dd + 1 by omega), Nat.le_of_ble_eq_true rfl⟩) hD hS hA (fun r_30 x_30 H locs hq_30 hP hD hS => ?_)
    rw [hq_30.2] at hP hD
    have hho : dHo (fun i => dMt (fR k i) (nI f) (nI g)) (fC k) 0 = rHold M.2 k (nI f) (nI g) (ru k) 0 := by rw [eC]; exact hvm.hold_eq q8 eC
    rw [hq_30.1.trans hho]
    rcases rHold_of M.2 k (nI f) (nI g) (ru k) 0 with hrh | ⟨i8, -, hi8, hrh, -⟩
    · rw [hrh]
      have hC3 : ¬ (rHold M.2 k (nI f) (nI g) (ru k) 0 ≠ -1 ∧ M.2 21 (5 * k + (rHold M.2 k (nI f) (nI g) (ru k) 0).toNatClampNeg) ≠ -1) := fun e9 => e9.1 hrh
      refine lv_istore (lv' := [(8, .int (-1)), (0, .ref d), (1, .int (nI k)), (2, .int (nI uu)), (3, .int (nI f)), (4, .int (nI g)), (5, .int (nI fr)), (6, .ref (aOk Ad k))]) hx hb dX6_gets_108 hl (by decide) rfl (fun ls hl => ?_)
      refine lv_iload hx hb dX6_gets_110 (lv_at hl 0 rfl) ?_
      refine lv_if_lt (tgt := 146) hx hb dX6_gets_112 (by decide) (fun _ => ?_) (fun c_31 => absurd c_31 (by decide))
      refine lv_sipush (v := 999) hx hb dX6_gets_146 (by decide) ?_
      refine lv_iload_n hx hb dX6_gets_149 rfl (lv_at hl 3 rfl) ?_
      refine kc_i (va_runS (As := [.int 999, .int (nI uu)]) (rest := []) ⟨hx, hb, hml, hown, htT⟩ (d_bucket l D cA _ (PW cA T1 ++ wb) (999) uu (by omega) huu) (cwS 2 htT (kg_S m_ml_X6_172 m_st_X6_bucket m_in_X6 m_cd_X6_bucket) rfl rfl rfl (by decide +kernel) ⟨(show 0 + 1 ≤ dd + 2 by omega), (show 8 + (4 + 11) + (0) ≤ 40 * dd + 60 by omega)⟩) (kp_S hK hP hD hTB) rfl rfl hl.1 rfl (lv_room (Nat.le_of_ble_eq_true rfl)) dX6_gets_150 ⟨(show cl9 + 0 ≤ dd + 1 by omega), Nat.le_of_ble_eq_true rfl⟩) hD hS hA (fun r_32 x_32 H locs hq_32 hP hD hS => ?_)
      rw [hq_32]
      have hb_150 := nBkt_lt (999) uu
      refine lv_aload_n hx hb dX6_gets_153 rfl (lv_at hl 1 rfl) ?_
      refine kd_getiv (x := nI hh) hx hb htT m_u_X6 hown hK hP dk_t.o rfl 4 (by decide) (by decide) rfl (htT _ m_fl_X6_114) ((dk_t.f 4).trans ((show _ = fF 4 from rfl).trans eF4)) dX6_gets_154 ?_
      refine lv_icmp_ge (tgt := 167) hx hb dX6_gets_157 (by decide) (fun c_33 => ?_) (fun c_33 => ?_)
      · replace c_33 := (nI_leI (a := hh) (b := nBkt 999 uu) (by omega) (by omega)).mp c_33
        have hC4 : ¬ kBkt 999 (nI uu) < M.1 2 := by rw [show kBkt 999 (nI uu) = nI (nBkt 999 uu) from kBkt_n (s := 999) (by omega) huu, ehh]; exact fun e9 => absurd ((nI_ltI (a := nBkt 999 uu) (b := hh) (by omega) (by omega)).mp e9) (by omega)
        rcases hla with hla | ⟨l7, hl7, hla⟩
        · have hC5 : ¬ (M.2 12 k ≠ -1 ∧ kIn (kBkt (500 + M.2 12 k) (nI uu)) (M.2 13 k) (M.2 14 k - 1) = 0) := fun e9 => e9.1 hla
          refine lv_sipush (v := 500) hx hb dX6_gets_167 (by decide) ?_
          refine lv_iconst (v := 0) hx hb dX6_gets_170 (by decide) ?_
          refine lv_aload hx hb dX6_gets_171 (lv_at hl 7 rfl) ?_
          refine lv_bipush (v := 7) hx hb dX6_gets_173 (by decide) ?_
          refine kx_ialdv (x := -1) hx hb hK (kmy_P hP) (dk_t.oa (k := k) (show k < n by omega)) (Nat.le_of_ble_eq_true rfl) (Nat.le_of_ble_eq_true rfl) (show vp_in 7 12 from ki_in (n := 7) (by omega) (by omega)) ((congrArg _ (ki_cl (n := 7) (by omega))).trans ((dk_t.ov (k := k) (j := 7) (show k < n by omega) (show 7 < 12 by omega)).trans ((eO7.trans hla)))) dX6_gets_175 ?_
          refine va_mmax (rest := [.int 500]) hx hb (hml.trans hl.1.symm) hown (htT _ m_ml_X6_175) (htT _ m_st_J9_max_7cf53) (htT _ m_in_Math) (htT _ m_cd_J9_max_7cf53) (by show 1 ≤ dd + 2; omega) (by show 1 + 13 ≤ 40 * dd + 60; omega) (by show cl9 ≤ dd + 1; omega) (Nat.le_of_ble_eq_true rfl) dX6_gets_176 ?_
          rw [show ((if (0 : Int32) < -1 then -1 else 0) : Int32) = 0 from by decide]
          refine lv_iadd hx hb dX6_gets_179 ?_
          rw [show (500 + 0 : Int32) = 500 from by decide]
          refine lv_iload_n hx hb dX6_gets_180 rfl (lv_at hl 3 rfl) ?_
          refine kc_i (va_runS (As := [.int 500, .int (nI uu)]) (rest := []) ⟨hx, hb, hml, hown, htT⟩ (d_bucket l D cA _ (PW cA T1 ++ wb) (500) uu (by omega) huu) (cwS 2 htT (kg_S m_ml_X6_172 m_st_X6_bucket m_in_X6 m_cd_X6_bucket) rfl rfl rfl (by decide +kernel) ⟨(show 0 + 1 ≤ dd + 2 by omega), (show 8 + (4 + 11) + (0) ≤ 40 * dd + 60 by omega)⟩) (kp_S hK hP hD hTB) rfl rfl hl.1 rfl (lv_room (Nat.le_of_ble_eq_true rfl)) dX6_gets_181 ⟨(show cl9 + 0 ≤ dd + 1 by omega), Nat.le_of_ble_eq_true rfl⟩) hD hS hA (fun r_34 x_34 H locs hq_34 hP hD hS => ?_)
          rw [hq_34]
          have hb_181 := nBkt_lt (500) uu
          refine lv_istore (lv' := [(9, .int (nI (nBkt (500) uu))), (8, .int (-1)), (0, .ref d), (1, .int (nI k)), (2, .int (nI uu)), (3, .int (nI f)), (4, .int (nI g)), (5, .int (nI fr)), (6, .ref (aOk Ad k))]) hx hb dX6_gets_184 hl (by decide) rfl (fun ls hl => ?_)
          refine lv_aload hx hb dX6_gets_186 (lv_at hl 8 rfl) ?_
          refine lv_bipush (v := 7) hx hb dX6_gets_188 (by decide) ?_
          refine kx_ialdv (x := -1) hx hb hK (kmy_P hP) (dk_t.oa (k := k) (show k < n by omega)) (Nat.le_of_ble_eq_true rfl) (Nat.le_of_ble_eq_true rfl) (show vp_in 7 12 from ki_in (n := 7) (by omega) (by omega)) ((congrArg _ (ki_cl (n := 7) (by omega))).trans ((dk_t.ov (k := k) (j := 7) (show k < n by omega) (show 7 < 12 by omega)).trans ((eO7.trans hla)))) dX6_gets_190 ?_
          refine lv_if_lt (tgt := 221) hx hb dX6_gets_191 (by decide) (fun _ => ?_) (fun c_35 => absurd c_35 (by decide))
          refine lv_aload hx hb dX6_gets_221 (lv_at hl 8 rfl) ?_
          refine lv_iconst (v := 0) hx hb dX6_gets_223 (by decide) ?_
          refine kx_ialdv (x := nI sa) hx hb hK (kmy_P hP) (dk_t.oa (k := k) (show k < n by omega)) (Nat.le_of_ble_eq_true rfl) (Nat.le_of_ble_eq_true rfl) (show vp_in 0 12 from ki_in (n := 0) (by omega) (by omega)) ((congrArg _ (ki_cl (n := 0) (by omega))).trans ((dk_t.ov (k := k) (j := 0) (show k < n by omega) (show 0 < 12 by omega)).trans (eO0))) dX6_gets_224 ?_
          refine lv_iconst (v := 1) hx hb dX6_gets_225 (by decide) ?_
          refine lv_iadd hx hb dX6_gets_226 ?_
          rw [show ((nI sa) + 1 : Int32) = nI (sa + 1) from nI_add sa 1]
          refine lv_iload_n hx hb dX6_gets_227 rfl (lv_at hl 4 rfl) ?_
          refine kc_i (va_runS (As := [.int (nI (sa + 1)), .int (nI uu)]) (rest := []) ⟨hx, hb, hml, hown, htT⟩ (d_bucket l D cA _ (PW cA T1 ++ wb) (sa + 1) uu (by omega) huu) (cwS 2 htT (kg_S m_ml_X6_172 m_st_X6_bucket m_in_X6 m_cd_X6_bucket) rfl rfl rfl (by decide +kernel) ⟨(show 0 + 1 ≤ dd + 2 by omega), (show 8 + (4 + 11) + (0) ≤ 40 * dd + 60 by omega)⟩) (kp_S hK hP hD hTB) rfl rfl hl.1 rfl (lv_room (Nat.le_of_ble_eq_true rfl)) dX6_gets_228 ⟨(show cl9 + 0 ≤ dd + 1 by omega), Nat.le_of_ble_eq_true rfl⟩) hD hS hA (fun r_36 x_36 H locs hq_36 hP hD hS => ?_)
          rw [hq_36]
          have hb_228 := nBkt_lt (sa + 1) uu
          refine lv_iload hx hb dX6_gets_231 (lv_at hl 7 rfl) ?_
          refine lv_icmp_lt (tgt := 244) hx hb dX6_gets_233 (by decide) (fun c_37 => ?_) (fun c_37 => ?_)
          · replace c_37 := (nI_ltI (a := nBkt (sa + 1) uu) (b := fr) (by omega) (by omega)).mp c_37
            have hC6 : kBkt (M.2 4 k + 1) (nI uu) < rFar M.2 k (M.1 1) := by rw [show kBkt (M.2 4 k + 1) (nI uu) = nI (nBkt (sa + 1) uu) from by rw [esa, show nI sa + (1 : Int32) = nI (sa + 1) from nI_add sa 1]; exact kBkt_n (by omega) huu, hfr]; exact (nI_ltI (by omega) (by omega)).mpr c_37
            refine lv_iload hx hb dX6_gets_244 (lv_at hl 1 rfl) ?_
            refine lv_if_ge (tgt := 267) hx hb dX6_gets_246 (by decide) (fun c_38 => absurd c_38 (by decide)) (fun _ => ?_)
            refine lv_aload_n hx hb dX6_gets_249 rfl (lv_at hl 2 rfl) ?_
            refine kd_gets (r := (aR Ad)) hx hb htT m_u_X6 hown hK hP dk_t.o rfl 8 (by decide) (by decide) rfl dk_t.q8 (htT _ m_fl_X6_28) dX6_gets_250 ?_
            refine lv_iload_n hx hb dX6_gets_253 rfl (lv_at hl 3 rfl) ?_
            refine ky_aldb (r := some (aRk Ad k)) hx hb hK hP dk_t.ar (show vp_in (nI (k)) 8 from ki_in (by omega) (by omega)) ((congrArg _ (ki_cl (n := k) (by omega))).trans (dk_t.rp (k := k) (show k < 8 by omega))) dX6_gets_254 ?_
            refine ky_lena (v := nI (fC k)) hx hb hK hP (dk_t.ra (k := k) (show k < 8 by omega)) rfl dX6_gets_255 ?_
            refine lv_if_le (tgt := 267) hx hb dX6_gets_256 (by decide) (fun c_39 => ?_) (fun c_39 => ?_)
            · replace c_39 := (nI_leI (a := fC k) (b := 0) (by omega) (by omega)).mp c_39
              have hC7 : ¬ (0 < ru k ∧ rHold M.2 k (nI f) (nI g) (ru k) 0 = -1) := fun e9 => absurd e9.1 (by omega)
              refine lv_aload hx hb dX6_gets_267 (lv_at hl 8 rfl) ?_
              refine lv_iconst (v := 0) hx hb dX6_gets_269 (by decide) ?_
              refine kx_ialdv (x := nI sa) hx hb hK (kmy_P hP) (dk_t.oa (k := k) (show k < n by omega)) (Nat.le_of_ble_eq_true rfl) (Nat.le_of_ble_eq_true rfl) (show vp_in 0 12 from ki_in (n := 0) (by omega) (by omega)) ((congrArg _ (ki_cl (n := 0) (by omega))).trans ((dk_t.ov (k := k) (j := 0) (show k < n by omega) (show 0 < 12 by omega)).trans (eO0))) dX6_gets_270 ?_
              refine lv_iload_n hx hb dX6_gets_271 rfl (lv_at hl 4 rfl) ?_
              refine kc_i (va_runS (As := [.int (nI sa), .int (nI uu)]) (rest := []) ⟨hx, hb, hml, hown, htT⟩ (d_bucket l D cA _ (PW cA T1 ++ wb) (sa) uu (by omega) huu) (cwS 2 htT (kg_S m_ml_X6_172 m_st_X6_bucket m_in_X6 m_cd_X6_bucket) rfl rfl rfl (by decide +kernel) ⟨(show 0 + 1 ≤ dd + 2 by omega), (show 8 + (4 + 11) + (0) ≤ 40 * dd + 60 by omega)⟩) (kp_S hK hP hD hTB) rfl rfl hl.1 rfl (lv_room (Nat.le_of_ble_eq_true rfl)) dX6_gets_272 ⟨(show cl9 + 0 ≤ dd + 1 by omega), Nat.le_of_ble_eq_true rfl⟩) hD hS hA (fun r_40 x_40 H locs hq_40 hP hD hS => ?_)
              rw [hq_40]
              have hb_272 := nBkt_lt (sa) uu
              obtain ⟨lb, elb⟩ : ∃ lb, lb = nBkt sa uu := ⟨_, rfl⟩
              rw [← elb]
              have hlb : lb < 1000 := by omega
              have hsp := spl_n (T := M.2) ew0 ew1 ew2 ew3 hws hlb
              have ekl : kBkt (M.2 4 k) (nI uu) = nI lb := by rw [elb, esa]; exact kBkt_n (by omega) huu
              refine lv_istore (lv' := [(10, .int (nI lb)), (9, .int (nI (nBkt (500) uu))), (8, .int (-1)), (0, .ref d), (1, .int (nI k)), (2, .int (nI uu)), (3, .int (nI f)), (4, .int (nI g)), (5, .int (nI fr)), (6, .ref (aOk Ad k))]) hx hb dX6_gets_275 hl (by decide) rfl (fun ls hl => ?_)
              refine lv_iconst (v := 0) hx hb dX6_gets_277 (by decide) ?_
              refine lv_istore (lv' := [(11, .int 0), (10, .int (nI lb)), (9, .int (nI (nBkt (500) uu))), (8, .int (-1)), (0, .ref d), (1, .int (nI k)), (2, .int (nI uu)), (3, .int (nI f)), (4, .int (nI g)), (5, .int (nI fr)), (6, .ref (aOk Ad k))]) hx hb dX6_gets_278 hl (by decide) rfl (fun ls hl => ?_)
              refine lv_iload hx hb dX6_gets_280 (lv_at hl 0 rfl) ?_
              refine lv_iconst (v := 4) hx hb dX6_gets_282 (by decide) ?_
              refine lv_icmp_ge (tgt := 329) hx hb dX6_gets_283 (by decide) (fun c_41 => absurd c_41 (by decide)) (fun _ => ?_)
              refine lv_iload hx hb dX6_gets_286 (lv_at hl 1 rfl) ?_
              refine lv_aload_n hx hb dX6_gets_288 rfl (lv_at hl 4 rfl) ?_
              refine kd_gets (r := (aW Ad)) hx hb htT m_u_X6 hown hK hP dk_t.o rfl 7 (by decide) (by decide) rfl dk_t.q7 (htT _ m_fl_X6_23) dX6_gets_289 ?_
              refine lv_iload_n hx hb dX6_gets_292 rfl (lv_at hl 5 rfl) ?_
              refine ky_alda (r := some (aWk Ad k)) hx hb hK hP dk_t.aw (show vp_in (nI (k)) 8 from ki_in (by omega) (by omega)) ((congrArg _ (ki_cl (n := k) (by omega))).trans (dk_t.wp (k := k) (show k < 8 by omega))) dX6_gets_293 ?_
              refine lv_iload hx hb dX6_gets_294 (lv_at hl 0 rfl) ?_
              refine kx_ialdv (x := nI w0) hx hb hK (kmy_P hP) (dk_t.wa (k := k) (show k < 8 by omega)) (Nat.le_of_ble_eq_true rfl) (Nat.le_of_ble_eq_true rfl) (show vp_in 0 4 from ki_in (n := 0) (by omega) (by omega)) ((congrArg _ (ki_cl (n := 0) (by omega))).trans ((dk_t.wv (k := k) (j := 0) (show k < 8 by omega) (show 0 < 4 by omega)).trans (eW0))) dX6_gets_296 ?_
              refine lv_icmp_ge (tgt := 309) hx hb dX6_gets_297 (by decide) (fun c_42 => ?_) (fun c_42 => ?_)
              · replace c_42 := (nI_leI (a := w0) (b := lb) (by omega) (by omega)).mp c_42
                refine lv_iload hx hb dX6_gets_309 (lv_at hl 1 rfl) ?_
                refine lv_aload_n hx hb dX6_gets_311 rfl (lv_at hl 4 rfl) ?_
                refine kd_gets (r := (aW Ad)) hx hb htT m_u_X6 hown hK hP dk_t.o rfl 7 (by decide) (by decide) rfl dk_t.q7 (htT _ m_fl_X6_23) dX6_gets_312 ?_
                refine lv_iload_n hx hb dX6_gets_315 rfl (lv_at hl 5 rfl) ?_
                refine ky_alda (r := some (aWk Ad k)) hx hb hK hP dk_t.aw (show vp_in (nI (k)) 8 from ki_in (by omega) (by omega)) ((congrArg _ (ki_cl (n := k) (by omega))).trans (dk_t.wp (k := k) (show k < 8 by omega))) dX6_gets_316 ?_
                refine lv_iload hx hb dX6_gets_317 (lv_at hl 0 rfl) ?_
                refine kx_ialdv (x := nI w0) hx hb hK (kmy_P hP) (dk_t.wa (k := k) (show k < 8 by omega)) (Nat.le_of_ble_eq_true rfl) (Nat.le_of_ble_eq_true rfl) (show vp_in 0 4 from ki_in (n := 0) (by omega) (by omega)) ((congrArg _ (ki_cl (n := 0) (by omega))).trans ((dk_t.wv (k := k) (j := 0) (show k < 8 by omega) (show 0 < 4 by omega)).trans (eW0))) dX6_gets_319 ?_
                refine lv_isub hx hb dX6_gets_320 ?_
                rw [show ((nI lb) - (nI w0) : Int32) = nI (lb - w0) from pk_sub (a := lb) (b := w0) (by omega)]
                refine lv_istore (lv' := [(10, .int (nI (lb - w0))), (11, .int 0), (9, .int (nI (nBkt (500) uu))), (8, .int (-1)), (0, .ref d), (1, .int (nI k)), (2, .int (nI uu)), (3, .int (nI f)), (4, .int (nI g)), (5, .int (nI fr)), (6, .ref (aOk Ad k))]) hx hb dX6_gets_321 hl (by decide) rfl (fun ls hl => ?_)
                refine lv_iinc (v := 1) (lv' := [(11, .int 1), (10, .int (nI (lb - w0))), (9, .int (nI (nBkt (500) uu))), (8, .int (-1)), (0, .ref d), (1, .int (nI k)), (2, .int (nI uu)), (3, .int (nI f)), (4, .int (nI g)), (5, .int (nI fr)), (6, .ref (aOk Ad k))]) hx hb dX6_gets_323 hl (k := 1) rfl (by decide) (by decide) rfl (fun ls hl => ?_)
                refine lv_goto (tgt := 280) hx hb dX6_gets_326 (by decide) ?_
                refine lv_iload hx hb dX6_gets_280 (lv_at hl 0 rfl) ?_
                refine lv_iconst (v := 4) hx hb dX6_gets_282 (by decide) ?_
                refine lv_icmp_ge (tgt := 329) hx hb dX6_gets_283 (by decide) (fun c_43 => absurd c_43 (by decide)) (fun _ => ?_)
                refine lv_iload hx hb dX6_gets_286 (lv_at hl 1 rfl) ?_
                refine lv_aload_n hx hb dX6_gets_288 rfl (lv_at hl 4 rfl) ?_
                refine kd_gets (r := (aW Ad)) hx hb htT m_u_X6 hown hK hP dk_t.o rfl 7 (by decide) (by decide) rfl dk_t.q7 (htT _ m_fl_X6_23) dX6_gets_289 ?_
                refine lv_iload_n hx hb dX6_gets_292 rfl (lv_at hl 5 rfl) ?_
                refine ky_alda (r := some (aWk Ad k)) hx hb hK hP dk_t.aw (show vp_in (nI (k)) 8 from ki_in (by omega) (by omega)) ((congrArg _ (ki_cl (n := k) (by omega))).trans (dk_t.wp (k := k) (show k < 8 by omega))) dX6_gets_293 ?_
                refine lv_iload hx hb dX6_gets_294 (lv_at hl 0 rfl) ?_
                refine kx_ialdv (x := nI w1) hx hb hK (kmy_P hP) (dk_t.wa (k := k) (show k < 8 by omega)) (Nat.le_of_ble_eq_true rfl) (Nat.le_of_ble_eq_true rfl) (show vp_in 1 4 from ki_in (n := 1) (by omega) (by omega)) ((congrArg _ (ki_cl (n := 1) (by omega))).trans ((dk_t.wv (k := k) (j := 1) (show k < 8 by omega) (show 1 < 4 by omega)).trans (eW1))) dX6_gets_296 ?_
                refine lv_icmp_ge (tgt := 309) hx hb dX6_gets_297 (by decide) (fun c_44 => ?_) (fun c_44 => ?_)
                · replace c_44 := (nI_leI (a := w1) (b := lb - w0) (by omega) (by omega)).mp c_44
                  refine lv_iload hx hb dX6_gets_309 (lv_at hl 1 rfl) ?_
                  refine lv_aload_n hx hb dX6_gets_311 rfl (lv_at hl 4 rfl) ?_
                  refine kd_gets (r := (aW Ad)) hx hb htT m_u_X6 hown hK hP dk_t.o rfl 7 (by decide) (by decide) rfl dk_t.q7 (htT _ m_fl_X6_23) dX6_gets_312 ?_
                  refine lv_iload_n hx hb dX6_gets_315 rfl (lv_at hl 5 rfl) ?_
                  refine ky_alda (r := some (aWk Ad k)) hx hb hK hP dk_t.aw (show vp_in (nI (k)) 8 from ki_in (by omega) (by omega)) ((congrArg _ (ki_cl (n := k) (by omega))).trans (dk_t.wp (k := k) (show k < 8 by omega))) dX6_gets_316 ?_
                  refine lv_iload hx hb dX6_gets_317 (lv_at hl 0 rfl) ?_
                  refine kx_ialdv (x := nI w1) hx hb hK (kmy_P hP) (dk_t.wa (k := k) (show k < 8 by omega)) (Nat.le_of_ble_eq_true rfl) (Nat.le_of_ble_eq_true rfl) (show vp_in 1 4 from ki_in (n := 1) (by omega) (by omega)) ((congrArg _ (ki_cl (n := 1) (by omega))).trans ((dk_t.wv (k := k) (j := 1) (show k < 8 by omega) (show 1 < 4 by omega)).trans (eW1))) dX6_gets_319 ?_
                  refine lv_isub hx hb dX6_gets_320 ?_
                  rw [show ((nI (lb - w0)) - (nI w1) : Int32) = nI ((lb - w0) - w1) from pk_sub (a := lb - w0) (b := w1) (by omega)]
                  refine lv_istore (lv' := [(10, .int (nI ((lb - w0) - w1))), (11, .int 1), (9, .int (nI (nBkt (500) uu))), (8, .int (-1)), (0, .ref d), (1, .int (nI k)), (2, .int (nI uu)), (3, .int (nI f)), (4, .int (nI g)), (5, .int (nI fr)), (6, .ref (aOk Ad k))]) hx hb dX6_gets_321 hl (by decide) rfl (fun ls hl => ?_)
                  refine lv_iinc (v := 2) (lv' := [(11, .int 2), (10, .int (nI ((lb - w0) - w1))), (9, .int (nI (nBkt (500) uu))), (8, .int (-1)), (0, .ref d), (1, .int (nI k)), (2, .int (nI uu)), (3, .int (nI f)), (4, .int (nI g)), (5, .int (nI fr)), (6, .ref (aOk Ad k))]) hx hb dX6_gets_323 hl (k := 1) rfl (by decide) (by decide) rfl (fun ls hl => ?_)
                  refine lv_goto (tgt := 280) hx hb dX6_gets_326 (by decide) ?_
                  refine lv_iload hx hb dX6_gets_280 (lv_at hl 0 rfl) ?_
                  refine lv_iconst (v := 4) hx hb dX6_gets_282 (by decide) ?_
                  refine lv_icmp_ge (tgt := 329) hx hb dX6_gets_283 (by decide) (fun c_45 => absurd c_45 (by decide)) (fun _ => ?_)
                  refine lv_iload hx hb dX6_gets_286 (lv_at hl 1 rfl) ?_
                  refine lv_aload_n hx hb dX6_gets_288 rfl (lv_at hl 4 rfl) ?_
                  refine kd_gets (r := (aW Ad)) hx hb htT m_u_X6 hown hK hP dk_t.o rfl 7 (by decide) (by decide) rfl dk_t.q7 (htT _ m_fl_X6_23) dX6_gets_289 ?_
                  refine lv_iload_n hx hb dX6_gets_292 rfl (lv_at hl 5 rfl) ?_
                  refine ky_alda (r := some (aWk Ad k)) hx hb hK hP dk_t.aw (show vp_in (nI (k)) 8 from ki_in (by omega) (by omega)) ((congrArg _ (ki_cl (n := k) (by omega))).trans (dk_t.wp (k := k) (show k < 8 by omega))) dX6_gets_293 ?_
                  refine lv_iload hx hb dX6_gets_294 (lv_at hl 0 rfl) ?_
                  refine kx_ialdv (x := nI w2) hx hb hK (kmy_P hP) (dk_t.wa (k := k) (show k < 8 by omega)) (Nat.le_of_ble_eq_true rfl) (Nat.le_of_ble_eq_true rfl) (show vp_in 2 4 from ki_in (n := 2) (by omega) (by omega)) ((congrArg _ (ki_cl (n := 2) (by omega))).trans ((dk_t.wv (k := k) (j := 2) (show k < 8 by omega) (show 2 < 4 by omega)).trans (eW2))) dX6_gets_296 ?_
                  refine lv_icmp_ge (tgt := 309) hx hb dX6_gets_297 (by decide) (fun c_46 => ?_) (fun c_46 => ?_)
                  · replace c_46 := (nI_leI (a := w2) (b := lb - w0 - w1) (by omega) (by omega)).mp c_46
                    refine lv_iload hx hb dX6_gets_309 (lv_at hl 1 rfl) ?_
                    refine lv_aload_n hx hb dX6_gets_311 rfl (lv_at hl 4 rfl) ?_
                    refine kd_gets (r := (aW Ad)) hx hb htT m_u_X6 hown hK hP dk_t.o rfl 7 (by decide) (by decide) rfl dk_t.q7 (htT _ m_fl_X6_23) dX6_gets_312 ?_
                    refine lv_iload_n hx hb dX6_gets_315 rfl (lv_at hl 5 rfl) ?_
                    refine ky_alda (r := some (aWk Ad k)) hx hb hK hP dk_t.aw (show vp_in (nI (k)) 8 from ki_in (by omega) (by omega)) ((congrArg _ (ki_cl (n := k) (by omega))).trans (dk_t.wp (k := k) (show k < 8 by omega))) dX6_gets_316 ?_
                    refine lv_iload hx hb dX6_gets_317 (lv_at hl 0 rfl) ?_
                    refine kx_ialdv (x := nI w2) hx hb hK (kmy_P hP) (dk_t.wa (k := k) (show k < 8 by omega)) (Nat.le_of_ble_eq_true rfl) (Nat.le_of_ble_eq_true rfl) (show vp_in 2 4 from ki_in (n := 2) (by omega) (by omega)) ((congrArg _ (ki_cl (n := 2) (by omega))).trans ((dk_t.wv (k := k) (j := 2) (show k < 8 by omega) (show 2 < 4 by omega)).trans (eW2))) dX6_gets_319 ?_
                    refine lv_isub hx hb dX6_gets_320 ?_
                    rw [show ((nI ((lb - w0) - w1)) - (nI w2) : Int32) = nI (((lb - w0) - w1) - w2) from pk_sub (a := (lb - w0) - w1) (b := w2) (by omega)]
                    refine lv_istore (lv' := [(10, .int (nI (((lb - w0) - w1) - w2))), (11, .int 2), (9, .int (nI (nBkt (500) uu))), (8, .int (-1)), (0, .ref d), (1, .int (nI k)), (2, .int (nI uu)), (3, .int (nI f)), (4, .int (nI g)), (5, .int (nI fr)), (6, .ref (aOk Ad k))]) hx hb dX6_gets_321 hl (by decide) rfl (fun ls hl => ?_)
                    refine lv_iinc (v := 3) (lv' := [(11, .int 3), (10, .int (nI (((lb - w0) - w1) - w2))), (9, .int (nI (nBkt (500) uu))), (8, .int (-1)), (0, .ref d), (1, .int (nI k)), (2, .int (nI uu)), (3, .int (nI f)), (4, .int (nI g)), (5, .int (nI fr)), (6, .ref (aOk Ad k))]) hx hb dX6_gets_323 hl (k := 1) rfl (by decide) (by decide) rfl (fun ls hl => ?_)
                    refine lv_goto (tgt := 280) hx hb dX6_gets_326 (by decide) ?_
                    refine lv_iload hx hb dX6_gets_280 (lv_at hl 0 rfl) ?_
                    refine lv_iconst (v := 4) hx hb dX6_gets_282 (by decide) ?_
                    refine lv_icmp_ge (tgt := 329) hx hb dX6_gets_283 (by decide) (fun c_47 => absurd c_47 (by decide)) (fun _ => ?_)
                    refine lv_iload hx hb dX6_gets_286 (lv_at hl 1 rfl) ?_
                    refine lv_aload_n hx hb dX6_gets_288 rfl (lv_at hl 4 rfl) ?_
                    refine kd_gets (r := (aW Ad)) hx hb htT m_u_X6 hown hK hP dk_t.o rfl 7 (by decide) (by decide) rfl dk_t.q7 (htT _ m_fl_X6_23) dX6_gets_289 ?_
                    refine lv_iload_n hx hb dX6_gets_292 rfl (lv_at hl 5 rfl) ?_
                    refine ky_alda (r := some (aWk Ad k)) hx hb hK hP dk_t.aw (show vp_in (nI (k)) 8 from ki_in (by omega) (by omega)) ((congrArg _ (ki_cl (n := k) (by omega))).trans (dk_t.wp (k := k) (show k < 8 by omega))) dX6_gets_293 ?_
                    refine lv_iload hx hb dX6_gets_294 (lv_at hl 0 rfl) ?_
                    refine kx_ialdv (x := nI w3) hx hb hK (kmy_P hP) (dk_t.wa (k := k) (show k < 8 by omega)) (Nat.le_of_ble_eq_true rfl) (Nat.le_of_ble_eq_true rfl) (show vp_in 3 4 from ki_in (n := 3) (by omega) (by omega)) ((congrArg _ (ki_cl (n := 3) (by omega))).trans ((dk_t.wv (k := k) (j := 3) (show k < 8 by omega) (show 3 < 4 by omega)).trans (eW3))) dX6_gets_296 ?_
                    refine lv_icmp_ge (tgt := 309) hx hb dX6_gets_297 (by decide) (fun c_48 => ?_) (fun c_48 => ?_)
                    · replace c_48 := (nI_leI (a := w3) (b := lb - w0 - w1 - w2) (by omega) (by omega)).mp c_48
                      refine lv_iload hx hb dX6_gets_309 (lv_at hl 1 rfl) ?_
                      refine lv_aload_n hx hb dX6_gets_311 rfl (lv_at hl 4 rfl) ?_
                      refine kd_gets (r := (aW Ad)) hx hb htT m_u_X6 hown hK hP dk_t.o rfl 7 (by decide) (by decide) rfl dk_t.q7 (htT _ m_fl_X6_23) dX6_gets_312 ?_
                      refine lv_iload_n hx hb dX6_gets_315 rfl (lv_at hl 5 rfl) ?_
                      refine ky_alda (r := some (aWk Ad k)) hx hb hK hP dk_t.aw (show vp_in (nI (k)) 8 from ki_in (by omega) (by omega)) ((congrArg _ (ki_cl (n := k) (by omega))).trans (dk_t.wp (k := k) (show k < 8 by omega))) dX6_gets_316 ?_
                      refine lv_iload hx hb dX6_gets_317 (lv_at hl 0 rfl) ?_
                      refine kx_ialdv (x := nI w3) hx hb hK (kmy_P hP) (dk_t.wa (k := k) (show k < 8 by omega)) (Nat.le_of_ble_eq_true rfl) (Nat.le_of_ble_eq_true rfl) (show vp_in 3 4 from ki_in (n := 3) (by omega) (by omega)) ((congrArg _ (ki_cl (n := 3) (by omega))).trans ((dk_t.wv (k := k) (j := 3) (show k < 8 by omega) (show 3 < 4 by omega)).trans (eW3))) dX6_gets_319 ?_
                      refine lv_isub hx hb dX6_gets_320 ?_
                      rw [show ((nI (((lb - w0) - w1) - w2)) - (nI w3) : Int32) = nI ((((lb - w0) - w1) - w2) - w3) from pk_sub (a := ((lb - w0) - w1) - w2) (b := w3) (by omega)]
                      refine lv_istore (lv' := [(10, .int (nI ((((lb - w0) - w1) - w2) - w3))), (11, .int 3), (9, .int (nI (nBkt (500) uu))), (8, .int (-1)), (0, .ref d), (1, .int (nI k)), (2, .int (nI uu)), (3, .int (nI f)), (4, .int (nI g)), (5, .int (nI fr)), (6, .ref (aOk Ad k))]) hx hb dX6_gets_321 hl (by decide) rfl (fun ls hl => ?_)
                      refine lv_iinc (v := 4) (lv' := [(11, .int 4), (10, .int (nI ((((lb - w0) - w1) - w2) - w3))), (9, .int (nI (nBkt (500) uu))), (8, .int (-1)), (0, .ref d), (1, .int (nI k)), (2, .int (nI uu)), (3, .int (nI f)), (4, .int (nI g)), (5, .int (nI fr)), (6, .ref (aOk Ad k))]) hx hb dX6_gets_323 hl (k := 1) rfl (by decide) (by decide) rfl (fun ls hl => ?_)
                      refine lv_goto (tgt := 280) hx hb dX6_gets_326 (by decide) ?_
                      refine lv_iload hx hb dX6_gets_280 (lv_at hl 0 rfl) ?_
                      refine lv_iconst (v := 4) hx hb dX6_gets_282 (by decide) ?_
                      refine lv_icmp_ge (tgt := 329) hx hb dX6_gets_283 (by decide) (fun _ => ?_) (fun c_49 => absurd c_49 (by decide))
                      exact absurd hws (by omega)
                    · replace c_48 : ¬ w3 ≤ lb - w0 - w1 - w2 := fun h9 => c_48 ((nI_leI (a := w3) (b := lb - w0 - w1 - w2) (by omega) (by omega)).mpr h9)
                      refine lv_aload_n hx hb dX6_gets_300 rfl (lv_at hl 4 rfl) ?_
                      refine lv_bipush (v := 8) hx hb dX6_gets_301 (by decide) ?_
                      refine lv_iload hx hb dX6_gets_303 (lv_at hl 0 rfl) ?_
                      refine kc_i (va_runV (As := [.int 8, .int 3]) (rest := []) ⟨hx, hb, hml, hown, htT⟩ (d_because l D cA _ wb b L xs hL T1 d x Ad n na (upd fF 10 (gI T1 d 10)) fO fW fC fR fB dk_t 8 3) (cwV 2 htT (kg_V m_ml_X6_159 m_im_X6_because m_sl_X6_because m_in_X6 m_cd_X6_because) rfl rfl rfl (by decide +kernel) ⟨(show 0 + 1 ≤ dd + 2 by omega), (show 8 + (3 + 11) + (0) ≤ 40 * dd + 60 by omega)⟩) (kpe_V hK hP hD hTB hTX hX hbl hbA hAO hS hA (kpe_rc hK hP dk_t.o rfl)) rfl rfl hl.1 rfl (lv_room (Nat.le_of_ble_eq_true rfl)) dX6_gets_305 ⟨(show cl9 + 0 ≤ dd + 1 by omega), Nat.le_of_ble_eq_true rfl⟩) hD hS hA (fun r_50 x_50 H locs hq_50 hP hD hS => ?_)
                      rw [hq_50.1]
                      rw [hq_50.2] at hP hD
                      refine W.widen (k := dd + 1) (n := 0) (show cl9 ≤ dd + 1 by omega) (Nat.le_of_ble_eq_true rfl) ?_
                      have hG : rGx M.2 (M.1 2) (M.2 11) (nI uu) (nI f) (nI g) na (ru k) (fun j => (rG M.2 (M.1 2) (M.2 11) (fun k => rFar M.2 k (M.1 1)) (nI uu) (nI f) (nI g) na ru dd j).1) k (rFar M.2 k (M.1 1)) = (3, 8) := by unfold rGx; rw [if_neg hC0, if_neg hC1, if_neg hC2, if_neg hC3, if_neg hC4, if_neg hC5, if_pos hC6, if_neg hC7]; rw [show rSplit M.2 k (kBkt (M.2 4 k) (nI uu)) 4 0 (M.2 6 (4 * k)) = nI 3 from by rw [ekl, hsp, if_neg (show ¬ lb < w0 by omega), if_neg (show ¬ lb < w0 + w1 by omega), if_neg (show ¬ lb < w0 + w1 + w2 by omega)]]; rfl
                      exact W.iret (v := 3) hx hb hr (fun t ht hW => ⟨⟨3, pI T1 d 10 8, rfl, ⟨(congrArg Prod.fst hG).symm, (hE1.tr ExtD.why), (show u2 _ _ _ _ _ _ = _ from u2_s).trans (congrArg Prod.snd hG).symm⟩, by rw [ht]; exact hP, va_K.moved hW.alike hK, hD⟩, hS.F ht⟩) hS.2.2 dX6_gets_308
                  · replace c_46 : ¬ w2 ≤ lb - w0 - w1 := fun h9 => c_46 ((nI_leI (a := w2) (b := lb - w0 - w1) (by omega) (by omega)).mpr h9)
                    refine lv_aload_n hx hb dX6_gets_300 rfl (lv_at hl 4 rfl) ?_
                    refine lv_bipush (v := 8) hx hb dX6_gets_301 (by decide) ?_
                    refine lv_iload hx hb dX6_gets_303 (lv_at hl 0 rfl) ?_
                    refine kc_i (va_runV (As := [.int 8, .int 2]) (rest := []) ⟨hx, hb, hml, hown, htT⟩ (d_because l D cA _ wb b L xs hL T1 d x Ad n na (upd fF 10 (gI T1 d 10)) fO fW fC fR fB dk_t 8 2) (cwV 2 htT (kg_V m_ml_X6_159 m_im_X6_because m_sl_X6_because m_in_X6 m_cd_X6_because) rfl rfl rfl (by decide +kernel) ⟨(show 0 + 1 ≤ dd + 2 by omega), (show 8 + (3 + 11) + (0) ≤ 40 * dd + 60 by omega)⟩) (kpe_V hK hP hD hTB hTX hX hbl hbA hAO hS hA (kpe_rc hK hP dk_t.o rfl)) rfl rfl hl.1 rfl (lv_room (Nat.le_of_ble_eq_true rfl)) dX6_gets_305 ⟨(show cl9 + 0 ≤ dd + 1 by omega), Nat.le_of_ble_eq_true rfl⟩) hD hS hA (fun r_51 x_51 H locs hq_51 hP hD hS => ?_)
                    rw [hq_51.1]
                    rw [hq_51.2] at hP hD
                    refine W.widen (k := dd + 1) (n := 0) (show cl9 ≤ dd + 1 by omega) (Nat.le_of_ble_eq_true rfl) ?_
                    have hG : rGx M.2 (M.1 2) (M.2 11) (nI uu) (nI f) (nI g) na (ru k) (fun j => (rG M.2 (M.1 2) (M.2 11) (fun k => rFar M.2 k (M.1 1)) (nI uu) (nI f) (nI g) na ru dd j).1) k (rFar M.2 k (M.1 1)) = (2, 8) := by unfold rGx; rw [if_neg hC0, if_neg hC1, if_neg hC2, if_neg hC3, if_neg hC4, if_neg hC5, if_pos hC6, if_neg hC7]; rw [show rSplit M.2 k (kBkt (M.2 4 k) (nI uu)) 4 0 (M.2 6 (4 * k)) = nI 2 from by rw [ekl, hsp, if_neg (show ¬ lb < w0 by omega), if_neg (show ¬ lb < w0 + w1 by omega), if_pos (show lb < w0 + w1 + w2 by omega)]]; rfl
                    exact W.iret (v := 2) hx hb hr (fun t ht hW => ⟨⟨2, pI T1 d 10 8, rfl, ⟨(congrArg Prod.fst hG).symm, (hE1.tr ExtD.why), (show u2 _ _ _ _ _ _ = _ from u2_s).trans (congrArg Prod.snd hG).symm⟩, by rw [ht]; exact hP, va_K.moved hW.alike hK, hD⟩, hS.F ht⟩) hS.2.2 dX6_gets_308
                · replace c_44 : ¬ w1 ≤ lb - w0 := fun h9 => c_44 ((nI_leI (a := w1) (b := lb - w0) (by omega) (by omega)).mpr h9)
                  refine lv_aload_n hx hb dX6_gets_300 rfl (lv_at hl 4 rfl) ?_
                  refine lv_bipush (v := 8) hx hb dX6_gets_301 (by decide) ?_
                  refine lv_iload hx hb dX6_gets_303 (lv_at hl 0 rfl) ?_
                  refine kc_i (va_runV (As := [.int 8, .int 1]) (rest := []) ⟨hx, hb, hml, hown, htT⟩ (d_because l D cA _ wb b L xs hL T1 d x Ad n na (upd fF 10 (gI T1 d 10)) fO fW fC fR fB dk_t 8 1) (cwV 2 htT (kg_V m_ml_X6_159 m_im_X6_because m_sl_X6_because m_in_X6 m_cd_X6_because) rfl rfl rfl (by decide +kernel) ⟨(show 0 + 1 ≤ dd + 2 by omega), (show 8 + (3 + 11) + (0) ≤ 40 * dd + 60 by omega)⟩) (kpe_V hK hP hD hTB hTX hX hbl hbA hAO hS hA (kpe_rc hK hP dk_t.o rfl)) rfl rfl hl.1 rfl (lv_room (Nat.le_of_ble_eq_true rfl)) dX6_gets_305 ⟨(show cl9 + 0 ≤ dd + 1 by omega), Nat.le_of_ble_eq_true rfl⟩) hD hS hA (fun r_52 x_52 H locs hq_52 hP hD hS => ?_)
                  rw [hq_52.1]
                  rw [hq_52.2] at hP hD
                  refine W.widen (k := dd + 1) (n := 0) (show cl9 ≤ dd + 1 by omega) (Nat.le_of_ble_eq_true rfl) ?_
                  have hG : rGx M.2 (M.1 2) (M.2 11) (nI uu) (nI f) (nI g) na (ru k) (fun j => (rG M.2 (M.1 2) (M.2 11) (fun k => rFar M.2 k (M.1 1)) (nI uu) (nI f) (nI g) na ru dd j).1) k (rFar M.2 k (M.1 1)) = (1, 8) := by unfold rGx; rw [if_neg hC0, if_neg hC1, if_neg hC2, if_neg hC3, if_neg hC4, if_neg hC5, if_pos hC6, if_neg hC7]; rw [show rSplit M.2 k (kBkt (M.2 4 k) (nI uu)) 4 0 (M.2 6 (4 * k)) = nI 1 from by rw [ekl, hsp, if_neg (show ¬ lb < w0 by omega), if_pos (show lb < w0 + w1 by omega)]]; rfl
                  exact W.iret (v := 1) hx hb hr (fun t ht hW => ⟨⟨1, pI T1 d 10 8, rfl, ⟨(congrArg Prod.fst hG).symm, (hE1.tr ExtD.why), (show u2 _ _ _ _ _ _ = _ from u2_s).trans (congrArg Prod.snd hG).symm⟩, by rw [ht]; exact hP, va_K.moved hW.alike hK, hD⟩, hS.F ht⟩) hS.2.2 dX6_gets_308
              · replace c_42 : ¬ w0 ≤ lb := fun h9 => c_42 ((nI_leI (a := w0) (b := lb) (by omega) (by omega)).mpr h9)
                refine lv_aload_n hx hb dX6_gets_300 rfl (lv_at hl 4 rfl) ?_
                refine lv_bipush (v := 8) hx hb dX6_gets_301 (by decide) ?_
                refine lv_iload hx hb dX6_gets_303 (lv_at hl 0 rfl) ?_
                refine kc_i (va_runV (As := [.int 8, .int 0]) (rest := []) ⟨hx, hb, hml, hown, htT⟩ (d_because l D cA _ wb b L xs hL T1 d x Ad n na (upd fF 10 (gI T1 d 10)) fO fW fC fR fB dk_t 8 0) (cwV 2 htT (kg_V m_ml_X6_159 m_im_X6_because m_sl_X6_because m_in_X6 m_cd_X6_because) rfl rfl rfl (by decide +kernel) ⟨(show 0 + 1 ≤ dd + 2 by omega), (show 8 + (3 + 11) + (0) ≤ 40 * dd + 60 by omega)⟩) (kpe_V hK hP hD hTB hTX hX hbl hbA hAO hS hA (kpe_rc hK hP dk_t.o rfl)) rfl rfl hl.1 rfl (lv_room (Nat.le_of_ble_eq_true rfl)) dX6_gets_305 ⟨(show cl9 + 0 ≤ dd + 1 by omega), Nat.le_of_ble_eq_true rfl⟩) hD hS hA (fun r_53 x_53 H locs hq_53 hP hD hS => ?_)
                rw [hq_53.1]
                rw [hq_53.2] at hP hD
                refine W.widen (k := dd + 1) (n := 0) (show cl9 ≤ dd + 1 by omega) (Nat.le_of_ble_eq_true rfl) ?_
                have hG : rGx M.2 (M.1 2) (M.2 11) (nI uu) (nI f) (nI g) na (ru k) (fun j => (rG M.2 (M.1 2) (M.2 11) (fun k => rFar M.2 k (M.1 1)) (nI uu) (nI f) (nI g) na ru dd j).1) k (rFar M.2 k (M.1 1)) = (0, 8) := by unfold rGx; rw [if_neg hC0, if_neg hC1, if_neg hC2, if_neg hC3, if_neg hC4, if_neg hC5, if_pos hC6, if_neg hC7]; rw [show rSplit M.2 k (kBkt (M.2 4 k) (nI uu)) 4 0 (M.2 6 (4 * k)) = nI 0 from by rw [ekl, hsp, if_pos (show lb < w0 by omega)]]; rfl
                exact W.iret (v := 0) hx hb hr (fun t ht hW => ⟨⟨0, pI T1 d 10 8, rfl, ⟨(congrArg Prod.fst hG).symm, (hE1.tr ExtD.why), (show u2 _ _ _ _ _ _ = _ from u2_s).trans (congrArg Prod.snd hG).symm⟩, by rw [ht]; exact hP, va_K.moved hW.alike hK, hD⟩, hS.F ht⟩) hS.2.2 dX6_gets_308
            · replace c_39 : ¬ fC k ≤ 0 := fun h9 => c_39 ((nI_leI (a := fC k) (b := 0) (by omega) (by omega)).mpr h9)
              have hC7 : 0 < ru k ∧ rHold M.2 k (nI f) (nI g) (ru k) 0 = -1 := ⟨by omega, hrh⟩
              refine lv_aload_n hx hb dX6_gets_259 rfl (lv_at hl 2 rfl) ?_
              refine lv_bipush (v := 7) hx hb dX6_gets_260 (by decide) ?_
              refine lv_iconst (v := 0) hx hb dX6_gets_262 (by decide) ?_
              refine kc_i (va_runV (As := [.int 7, .int 0]) (rest := []) ⟨hx, hb, hml, hown, htT⟩ (d_because l D cA _ wb b L xs hL T1 d x Ad n na (upd fF 10 (gI T1 d 10)) fO fW fC fR fB dk_t 7 0) (cwV 2 htT (kg_V m_ml_X6_159 m_im_X6_because m_sl_X6_because m_in_X6 m_cd_X6_because) rfl rfl rfl (by decide +kernel) ⟨(show 0 + 1 ≤ dd + 2 by omega), (show 8 + (3 + 11) + (0) ≤ 40 * dd + 60 by omega)⟩) (kpe_V hK hP hD hTB hTX hX hbl hbA hAO hS hA (kpe_rc hK hP dk_t.o rfl)) rfl rfl hl.1 rfl (lv_room (Nat.le_of_ble_eq_true rfl)) dX6_gets_263 ⟨(show cl9 + 0 ≤ dd + 1 by omega), Nat.le_of_ble_eq_true rfl⟩) hD hS hA (fun r_54 x_54 H locs hq_54 hP hD hS => ?_)
              rw [hq_54.1]
              rw [hq_54.2] at hP hD
              refine W.widen (k := dd + 1) (n := 0) (show cl9 ≤ dd + 1 by omega) (Nat.le_of_ble_eq_true rfl) ?_
              have hG : rGx M.2 (M.1 2) (M.2 11) (nI uu) (nI f) (nI g) na (ru k) (fun j => (rG M.2 (M.1 2) (M.2 11) (fun k => rFar M.2 k (M.1 1)) (nI uu) (nI f) (nI g) na ru dd j).1) k (rFar M.2 k (M.1 1)) = (0, 7) := by unfold rGx; rw [if_neg hC0, if_neg hC1, if_neg hC2, if_neg hC3, if_neg hC4, if_neg hC5, if_pos hC6, if_pos hC7]
              exact W.iret (v := 0) hx hb hr (fun t ht hW => ⟨⟨0, pI T1 d 10 7, rfl, ⟨(congrArg Prod.fst hG).symm, (hE1.tr ExtD.why), (show u2 _ _ _ _ _ _ = _ from u2_s).trans (congrArg Prod.snd hG).symm⟩, by rw [ht]; exact hP, va_K.moved hW.alike hK, hD⟩, hS.F ht⟩) hS.2.2 dX6_gets_266
          · replace c_37 : ¬ nBkt (sa + 1) uu < fr := fun h9 => c_37 ((nI_ltI (a := nBkt (sa + 1) uu) (b := fr) (by omega) (by omega)).mpr h9)
            have hC6 : ¬ kBkt (M.2 4 k + 1) (nI uu) < rFar M.2 k (M.1 1) := by rw [show kBkt (M.2 4 k + 1) (nI uu) = nI (nBkt (sa + 1) uu) from by rw [esa, show nI sa + (1 : Int32) = nI (sa + 1) from nI_add sa 1]; exact kBkt_n (by omega) huu, hfr]; exact fun e9 => c_37 ((nI_ltI (by omega) (by omega)).mp e9)
            refine lv_aload_n hx hb dX6_gets_236 rfl (lv_at hl 2 rfl) ?_
            refine lv_bipush (v := 6) hx hb dX6_gets_237 (by decide) ?_
            refine lv_iconst (v := 0) hx hb dX6_gets_239 (by decide) ?_
            refine kc_i (va_runV (As := [.int 6, .int 0]) (rest := []) ⟨hx, hb, hml, hown, htT⟩ (d_because l D cA _ wb b L xs hL T1 d x Ad n na (upd fF 10 (gI T1 d 10)) fO fW fC fR fB dk_t 6 0) (cwV 2 htT (kg_V m_ml_X6_159 m_im_X6_because m_sl_X6_because m_in_X6 m_cd_X6_because) rfl rfl rfl (by decide +kernel) ⟨(show 0 + 1 ≤ dd + 2 by omega), (show 8 + (3 + 11) + (0) ≤ 40 * dd + 60 by omega)⟩) (kpe_V hK hP hD hTB hTX hX hbl hbA hAO hS hA (kpe_rc hK hP dk_t.o rfl)) rfl rfl hl.1 rfl (lv_room (Nat.le_of_ble_eq_true rfl)) dX6_gets_240 ⟨(show cl9 + 0 ≤ dd + 1 by omega), Nat.le_of_ble_eq_true rfl⟩) hD hS hA (fun r_55 x_55 H locs hq_55 hP hD hS => ?_)
            rw [hq_55.1]
            rw [hq_55.2] at hP hD
            refine W.widen (k := dd + 1) (n := 0) (show cl9 ≤ dd + 1 by omega) (Nat.le_of_ble_eq_true rfl) ?_
            have hG : rGx M.2 (M.1 2) (M.2 11) (nI uu) (nI f) (nI g) na (ru k) (fun j => (rG M.2 (M.1 2) (M.2 11) (fun k => rFar M.2 k (M.1 1)) (nI uu) (nI f) (nI g) na ru dd j).1) k (rFar M.2 k (M.1 1)) = (0, 6) := by unfold rGx; rw [if_neg hC0, if_neg hC1, if_neg hC2, if_neg hC3, if_neg hC4, if_neg hC5, if_neg hC6]
            exact W.iret (v := 0) hx hb hr (fun t ht hW => ⟨⟨0, pI T1 d 10 6, rfl, ⟨(congrArg Prod.fst hG).symm, (hE1.tr ExtD.why), (show u2 _ _ _ _ _ _ = _ from u2_s).trans (congrArg Prod.snd hG).symm⟩, by rw [ht]; exact hP, va_K.moved hW.alike hK, hD⟩, hS.F ht⟩) hS.2.2 dX6_gets_243
        · have hne7 : M.2 12 k ≠ -1 := fun e9 => nI_m1 (a := l7) (by omega) (hla.symm.trans e9)
          have eO8 : fO k 8 = nI lf := (hvm.2.1.2 k hk hne7).1.trans elf
          have eO9 : fO k 9 = nI lt := (hvm.2.1.2 k hk hne7).2.trans elt
          have ekb : kBkt (500 + M.2 12 k) (nI uu) = nI (nBkt (500 + l7) uu) := by rw [hla, show (500 : Int32) + nI l7 = nI (500 + l7) from nI_add 500 l7]; exact kBkt_n (by omega) huu
          refine lv_sipush (v := 500) hx hb dX6_gets_167 (by decide) ?_
          refine lv_iconst (v := 0) hx hb dX6_gets_170 (by decide) ?_
          refine lv_aload hx hb dX6_gets_171 (lv_at hl 7 rfl) ?_
          refine lv_bipush (v := 7) hx hb dX6_gets_173 (by decide) ?_
          refine kx_ialdv (x := nI l7) hx hb hK (kmy_P hP) (dk_t.oa (k := k) (show k < n by omega)) (Nat.le_of_ble_eq_true rfl) (Nat.le_of_ble_eq_true rfl) (show vp_in 7 12 from ki_in (n := 7) (by omega) (by omega)) ((congrArg _ (ki_cl (n := 7) (by omega))).trans ((dk_t.ov (k := k) (j := 7) (show k < n by omega) (show 7 < 12 by omega)).trans ((eO7.trans hla)))) dX6_gets_175 ?_
          refine va_mmax (rest := [.int 500]) hx hb (hml.trans hl.1.symm) hown (htT _ m_ml_X6_175) (htT _ m_st_J9_max_7cf53) (htT _ m_in_Math) (htT _ m_cd_J9_max_7cf53) (by show 1 ≤ dd + 2; omega) (by show 1 + 13 ≤ 40 * dd + 60; omega) (by show cl9 ≤ dd + 1; omega) (Nat.le_of_ble_eq_true rfl) dX6_gets_176 ?_
          rw [show ((if (0 : Int32) < nI l7 then nI l7 else 0) : Int32) = nI l7 from kMax_0n (by omega)]
          refine lv_iadd hx hb dX6_gets_179 ?_
          rw [show (500 + (nI l7) : Int32) = nI (500 + l7) from nI_add 500 l7]
          refine lv_iload_n hx hb dX6_gets_180 rfl (lv_at hl 3 rfl) ?_
          refine kc_i (va_runS (As := [.int (nI (500 + l7)), .int (nI uu)]) (rest := []) ⟨hx, hb, hml, hown, htT⟩ (d_bucket l D cA _ (PW cA T1 ++ wb) (500 + l7) uu (by omega) huu) (cwS 2 htT (kg_S m_ml_X6_172 m_st_X6_bucket m_in_X6 m_cd_X6_bucket) rfl rfl rfl (by decide +kernel) ⟨(show 0 + 1 ≤ dd + 2 by omega), (show 8 + (4 + 11) + (0) ≤ 40 * dd + 60 by omega)⟩) (kp_S hK hP hD hTB) rfl rfl hl.1 rfl (lv_room (Nat.le_of_ble_eq_true rfl)) dX6_gets_181 ⟨(show cl9 + 0 ≤ dd + 1 by omega), Nat.le_of_ble_eq_true rfl⟩) hD hS hA (fun r_56 x_56 H locs hq_56 hP hD hS => ?_)
          rw [hq_56]
          have hb_181 := nBkt_lt (500 + l7) uu
          refine lv_istore (lv' := [(9, .int (nI (nBkt (500 + l7) uu))), (8, .int (-1)), (0, .ref d), (1, .int (nI k)), (2, .int (nI uu)), (3, .int (nI f)), (4, .int (nI g)), (5, .int (nI fr)), (6, .ref (aOk Ad k))]) hx hb dX6_gets_184 hl (by decide) rfl (fun ls hl => ?_)
          refine lv_aload hx hb dX6_gets_186 (lv_at hl 8 rfl) ?_
          refine lv_bipush (v := 7) hx hb dX6_gets_188 (by decide) ?_
          refine kx_ialdv (x := nI l7) hx hb hK (kmy_P hP) (dk_t.oa (k := k) (show k < n by omega)) (Nat.le_of_ble_eq_true rfl) (Nat.le_of_ble_eq_true rfl) (show vp_in 7 12 from ki_in (n := 7) (by omega) (by omega)) ((congrArg _ (ki_cl (n := 7) (by omega))).trans ((dk_t.ov (k := k) (j := 7) (show k < n by omega) (show 7 < 12 by omega)).trans ((eO7.trans hla)))) dX6_gets_190 ?_
          refine lv_if_lt (tgt := 221) hx hb dX6_gets_191 (by decide) (fun c_57 => ?_) (fun c_57 => ?_)
          · exact absurd ((nI_ltI (a := l7) (b := 0) (by omega) (by omega)).mp c_57) (by omega)
          · replace c_57 : ¬ (l7 < 0) := fun h9 => c_57 ((nI_ltI (a := l7) (b := 0) (by omega) (by omega)).mpr h9)
            refine lv_iload hx hb dX6_gets_194 (lv_at hl 0 rfl) ?_
            refine lv_aload hx hb dX6_gets_196 (lv_at hl 8 rfl) ?_
            refine lv_bipush (v := 8) hx hb dX6_gets_198 (by decide) ?_
            refine kx_ialdv (x := nI lf) hx hb hK (kmy_P hP) (dk_t.oa (k := k) (show k < n by omega)) (Nat.le_of_ble_eq_true rfl) (Nat.le_of_ble_eq_true rfl) (show vp_in 8 12 from ki_in (n := 8) (by omega) (by omega)) ((congrArg _ (ki_cl (n := 8) (by omega))).trans ((dk_t.ov (k := k) (j := 8) (show k < n by omega) (show 8 < 12 by omega)).trans (eO8))) dX6_gets_200 ?_
            refine lv_icmp_lt (tgt := 214) hx hb dX6_gets_201 (by decide) (fun c_58 => ?_) (fun c_58 => ?_)
            · replace c_58 := (nI_ltI (a := nBkt (500 + l7) uu) (b := lf) (by omega) (by omega)).mp c_58
              have hC5 : M.2 12 k ≠ -1 ∧ kIn (kBkt (500 + M.2 12 k) (nI uu)) (M.2 13 k) (M.2 14 k - 1) = 0 := ⟨hne7, by rw [ekb, elf, elt]; exact (kIn_cut (a := nBkt (500 + l7) uu) (f := lf) (t := lt) (by omega) (by omega) (by omega)).mpr (by omega)⟩
              refine lv_aload_n hx hb dX6_gets_214 rfl (lv_at hl 2 rfl) ?_
              refine lv_iconst (v := 5) hx hb dX6_gets_215 (by decide) ?_
              refine lv_iconst (v := 0) hx hb dX6_gets_216 (by decide) ?_
              refine kc_i (va_runV (As := [.int 5, .int 0]) (rest := []) ⟨hx, hb, hml, hown, htT⟩ (d_because l D cA _ wb b L xs hL T1 d x Ad n na (upd fF 10 (gI T1 d 10)) fO fW fC fR fB dk_t 5 0) (cwV 2 htT (kg_V m_ml_X6_159 m_im_X6_because m_sl_X6_because m_in_X6 m_cd_X6_because) rfl rfl rfl (by decide +kernel) ⟨(show 0 + 1 ≤ dd + 2 by omega), (show 8 + (3 + 11) + (0) ≤ 40 * dd + 60 by omega)⟩) (kpe_V hK hP hD hTB hTX hX hbl hbA hAO hS hA (kpe_rc hK hP dk_t.o rfl)) rfl rfl hl.1 rfl (lv_room (Nat.le_of_ble_eq_true rfl)) dX6_gets_217 ⟨(show cl9 + 0 ≤ dd + 1 by omega), Nat.le_of_ble_eq_true rfl⟩) hD hS hA (fun r_59 x_59 H locs hq_59 hP hD hS => ?_)
              rw [hq_59.1]
              rw [hq_59.2] at hP hD
              refine W.widen (k := dd + 1) (n := 0) (show cl9 ≤ dd + 1 by omega) (Nat.le_of_ble_eq_true rfl) ?_
              have hG : rGx M.2 (M.1 2) (M.2 11) (nI uu) (nI f) (nI g) na (ru k) (fun j => (rG M.2 (M.1 2) (M.2 11) (fun k => rFar M.2 k (M.1 1)) (nI uu) (nI f) (nI g) na ru dd j).1) k (rFar M.2 k (M.1 1)) = (0, 5) := by unfold rGx; rw [if_neg hC0, if_neg hC1, if_neg hC2, if_neg hC3, if_neg hC4, if_pos hC5]
              exact W.iret (v := 0) hx hb hr (fun t ht hW => ⟨⟨0, pI T1 d 10 5, rfl, ⟨(congrArg Prod.fst hG).symm, (hE1.tr ExtD.why), (show u2 _ _ _ _ _ _ = _ from u2_s).trans (congrArg Prod.snd hG).symm⟩, by rw [ht]; exact hP, va_K.moved hW.alike hK, hD⟩, hS.F ht⟩) hS.2.2 dX6_gets_220
            · replace c_58 : ¬ nBkt (500 + l7) uu < lf := fun h9 => c_58 ((nI_ltI (a := nBkt (500 + l7) uu) (b := lf) (by omega) (by omega)).mpr h9)
              refine lv_iload hx hb dX6_gets_204 (lv_at hl 0 rfl) ?_
              refine lv_aload hx hb dX6_gets_206 (lv_at hl 8 rfl) ?_
              refine lv_bipush (v := 9) hx hb dX6_gets_208 (by decide) ?_
              refine kx_ialdv (x := nI lt) hx hb hK (kmy_P hP) (dk_t.oa (k := k) (show k < n by omega)) (Nat.le_of_ble_eq_true rfl) (Nat.le_of_ble_eq_true rfl) (show vp_in 9 12 from ki_in (n := 9) (by omega) (by omega)) ((congrArg _ (ki_cl (n := 9) (by omega))).trans ((dk_t.ov (k := k) (j := 9) (show k < n by omega) (show 9 < 12 by omega)).trans (eO9))) dX6_gets_210 ?_
              refine lv_icmp_lt (tgt := 221) hx hb dX6_gets_211 (by decide) (fun c_60 => ?_) (fun c_60 => ?_)
              · replace c_60 := (nI_ltI (a := nBkt (500 + l7) uu) (b := lt) (by omega) (by omega)).mp c_60
                have hC5 : ¬ (M.2 12 k ≠ -1 ∧ kIn (kBkt (500 + M.2 12 k) (nI uu)) (M.2 13 k) (M.2 14 k - 1) = 0) := fun e9 => by
                  have e9 := e9.2
                  rw [ekb, elf, elt] at e9
                  exact absurd ((kIn_cut (a := nBkt (500 + l7) uu) (f := lf) (t := lt) (by omega) (by omega) (by omega)).mp e9) (by omega)
                refine lv_aload hx hb dX6_gets_221 (lv_at hl 8 rfl) ?_
                refine lv_iconst (v := 0) hx hb dX6_gets_223 (by decide) ?_
                refine kx_ialdv (x := nI sa) hx hb hK (kmy_P hP) (dk_t.oa (k := k) (show k < n by omega)) (Nat.le_of_ble_eq_true rfl) (Nat.le_of_ble_eq_true rfl) (show vp_in 0 12 from ki_in (n := 0) (by omega) (by omega)) ((congrArg _ (ki_cl (n := 0) (by omega))).trans ((dk_t.ov (k := k) (j := 0) (show k < n by omega) (show 0 < 12 by omega)).trans (eO0))) dX6_gets_224 ?_
                refine lv_iconst (v := 1) hx hb dX6_gets_225 (by decide) ?_
                refine lv_iadd hx hb dX6_gets_226 ?_
                rw [show ((nI sa) + 1 : Int32) = nI (sa + 1) from nI_add sa 1]
                refine lv_iload_n hx hb dX6_gets_227 rfl (lv_at hl 4 rfl) ?_
                refine kc_i (va_runS (As := [.int (nI (sa + 1)), .int (nI uu)]) (rest := []) ⟨hx, hb, hml, hown, htT⟩ (d_bucket l D cA _ (PW cA T1 ++ wb) (sa + 1) uu (by omega) huu) (cwS 2 htT (kg_S m_ml_X6_172 m_st_X6_bucket m_in_X6 m_cd_X6_bucket) rfl rfl rfl (by decide +kernel) ⟨(show 0 + 1 ≤ dd + 2 by omega), (show 8 + (4 + 11) + (0) ≤ 40 * dd + 60 by omega)⟩) (kp_S hK hP hD hTB) rfl rfl hl.1 rfl (lv_room (Nat.le_of_ble_eq_true rfl)) dX6_gets_228 ⟨(show cl9 + 0 ≤ dd + 1 by omega), Nat.le_of_ble_eq_true rfl⟩) hD hS hA (fun r_61 x_61 H locs hq_61 hP hD hS => ?_)
                rw [hq_61]
                have hb_228 := nBkt_lt (sa + 1) uu
                refine lv_iload hx hb dX6_gets_231 (lv_at hl 7 rfl) ?_
                refine lv_icmp_lt (tgt := 244) hx hb dX6_gets_233 (by decide) (fun c_62 => ?_) (fun c_62 => ?_)
                · replace c_62 := (nI_ltI (a := nBkt (sa + 1) uu) (b := fr) (by omega) (by omega)).mp c_62
                  have hC6 : kBkt (M.2 4 k + 1) (nI uu) < rFar M.2 k (M.1 1) := by rw [show kBkt (M.2 4 k + 1) (nI uu) = nI (nBkt (sa + 1) uu) from by rw [esa, show nI sa + (1 : Int32) = nI (sa + 1) from nI_add sa 1]; exact kBkt_n (by omega) huu, hfr]; exact (nI_ltI (by omega) (by omega)).mpr c_62
                  refine lv_iload hx hb dX6_gets_244 (lv_at hl 1 rfl) ?_
                  refine lv_if_ge (tgt := 267) hx hb dX6_gets_246 (by decide) (fun c_63 => absurd c_63 (by decide)) (fun _ => ?_)
                  refine lv_aload_n hx hb dX6_gets_249 rfl (lv_at hl 2 rfl) ?_
                  refine kd_gets (r := (aR Ad)) hx hb htT m_u_X6 hown hK hP dk_t.o rfl 8 (by decide) (by decide) rfl dk_t.q8 (htT _ m_fl_X6_28) dX6_gets_250 ?_
                  refine lv_iload_n hx hb dX6_gets_253 rfl (lv_at hl 3 rfl) ?_
                  refine ky_aldb (r := some (aRk Ad k)) hx hb hK hP dk_t.ar (show vp_in (nI (k)) 8 from ki_in (by omega) (by omega)) ((congrArg _ (ki_cl (n := k) (by omega))).trans (dk_t.rp (k := k) (show k < 8 by omega))) dX6_gets_254 ?_
                  refine ky_lena (v := nI (fC k)) hx hb hK hP (dk_t.ra (k := k) (show k < 8 by omega)) rfl dX6_gets_255 ?_
                  refine lv_if_le (tgt := 267) hx hb dX6_gets_256 (by decide) (fun c_64 => ?_) (fun c_64 => ?_)
                  · replace c_64 := (nI_leI (a := fC k) (b := 0) (by omega) (by omega)).mp c_64
                    have hC7 : ¬ (0 < ru k ∧ rHold M.2 k (nI f) (nI g) (ru k) 0 = -1) := fun e9 => absurd e9.1 (by omega)
                    refine lv_aload hx hb dX6_gets_267 (lv_at hl 8 rfl) ?_
                    refine lv_iconst (v := 0) hx hb dX6_gets_269 (by decide) ?_
                    refine kx_ialdv (x := nI sa) hx hb hK (kmy_P hP) (dk_t.oa (k := k) (show k < n by omega)) (Nat.le_of_ble_eq_true rfl) (Nat.le_of_ble_eq_true rfl) (show vp_in 0 12 from ki_in (n := 0) (by omega) (by omega)) ((congrArg _ (ki_cl (n := 0) (by omega))).trans ((dk_t.ov (k := k) (j := 0) (show k < n by omega) (show 0 < 12 by omega)).trans (eO0))) dX6_gets_270 ?_
                    refine lv_iload_n hx hb dX6_gets_271 rfl (lv_at hl 4 rfl) ?_
                    refine kc_i (va_runS (As := [.int (nI sa), .int (nI uu)]) (rest := []) ⟨hx, hb, hml, hown, htT⟩ (d_bucket l D cA _ (PW cA T1 ++ wb) (sa) uu (by omega) huu) (cwS 2 htT (kg_S m_ml_X6_172 m_st_X6_bucket m_in_X6 m_cd_X6_bucket) rfl rfl rfl (by decide +kernel) ⟨(show 0 + 1 ≤ dd + 2 by omega), (show 8 + (4 + 11) + (0) ≤ 40 * dd + 60 by omega)⟩) (kp_S hK hP hD hTB) rfl rfl hl.1 rfl (lv_room (Nat.le_of_ble_eq_true rfl)) dX6_gets_272 ⟨(show cl9 + 0 ≤ dd + 1 by omega), Nat.le_of_ble_eq_true rfl⟩) hD hS hA (fun r_65 x_65 H locs hq_65 hP hD hS => ?_)
                    rw [hq_65]
                    have hb_272 := nBkt_lt (sa) uu
                    obtain ⟨lb, elb⟩ : ∃ lb, lb = nBkt sa uu := ⟨_, rfl⟩
                    rw [← elb]
                    have hlb : lb < 1000 := by omega
                    have hsp := spl_n (T := M.2) ew0 ew1 ew2 ew3 hws hlb
                    have ekl : kBkt (M.2 4 k) (nI uu) = nI lb := by rw [elb, esa]; exact kBkt_n (by omega) huu
                    refine lv_istore (lv' := [(10, .int (nI lb)), (9, .int (nI (nBkt (500 + l7) uu))), (8, .int (-1)), (0, .ref d), (1, .int (nI k)), (2, .int (nI uu)), (3, .int (nI f)), (4, .int (nI g)), (5, .int (nI fr)), (6, .ref (aOk Ad k))]) hx hb dX6_gets_275 hl (by decide) rfl (fun ls hl => ?_)
                    refine lv_iconst (v := 0) hx hb dX6_gets_277 (by decide) ?_
                    refine lv_istore (lv' := [(11, .int 0), (10, .int (nI lb)), (9, .int (nI (nBkt (500 + l7) uu))), (8, .int (-1)), (0, .ref d), (1, .int (nI k)), (2, .int (nI uu)), (3, .int (nI f)), (4, .int (nI g)), (5, .int (nI fr)), (6, .ref (aOk Ad k))]) hx hb dX6_gets_278 hl (by decide) rfl (fun ls hl => ?_)
                    refine lv_iload hx hb dX6_gets_280 (lv_at hl 0 rfl) ?_
                    refine lv_iconst (v := 4) hx hb dX6_gets_282 (by decide) ?_
                    refine lv_icmp_ge (tgt := 329) hx hb dX6_gets_283 (by decide) (fun c_66 => absurd c_66 (by decide)) (fun _ => ?_)
                    refine lv_iload hx hb dX6_gets_286 (lv_at hl 1 rfl) ?_
                    refine lv_aload_n hx hb dX6_gets_288 rfl (lv_at hl 4 rfl) ?_
                    refine kd_gets (r := (aW Ad)) hx hb htT m_u_X6 hown hK hP dk_t.o rfl 7 (by decide) (by decide) rfl dk_t.q7 (htT _ m_fl_X6_23) dX6_gets_289 ?_
                    refine lv_iload_n hx hb dX6_gets_292 rfl (lv_at hl 5 rfl) ?_
                    refine ky_alda (r := some (aWk Ad k)) hx hb hK hP dk_t.aw (show vp_in (nI (k)) 8 from ki_in (by omega) (by omega)) ((congrArg _ (ki_cl (n := k) (by omega))).trans (dk_t.wp (k := k) (show k < 8 by omega))) dX6_gets_293 ?_
                    refine lv_iload hx hb dX6_gets_294 (lv_at hl 0 rfl) ?_
                    refine kx_ialdv (x := nI w0) hx hb hK (kmy_P hP) (dk_t.wa (k := k) (show k < 8 by omega)) (Nat.le_of_ble_eq_true rfl) (Nat.le_of_ble_eq_true rfl) (show vp_in 0 4 from ki_in (n := 0) (by omega) (by omega)) ((congrArg _ (ki_cl (n := 0) (by omega))).trans ((dk_t.wv (k := k) (j := 0) (show k < 8 by omega) (show 0 < 4 by omega)).trans (eW0))) dX6_gets_296 ?_
                    refine lv_icmp_ge (tgt := 309) hx hb dX6_gets_297 (by decide) (fun c_67 => ?_) (fun c_67 => ?_)
                    · replace c_67 := (nI_leI (a := w0) (b := lb) (by omega) (by omega)).mp c_67
                      refine lv_iload hx hb dX6_gets_309 (lv_at hl 1 rfl) ?_
                      refine lv_aload_n hx hb dX6_gets_311 rfl (lv_at hl 4 rfl) ?_
                      refine kd_gets (r := (aW Ad)) hx hb htT m_u_X6 hown hK hP dk_t.o rfl 7 (by decide) (by decide) rfl dk_t.q7 (htT _ m_fl_X6_23) dX6_gets_312 ?_
                      refine lv_iload_n hx hb dX6_gets_315 rfl (lv_at hl 5 rfl) ?_
                      refine ky_alda (r := some (aWk Ad k)) hx hb hK hP dk_t.aw (show vp_in (nI (k)) 8 from ki_in (by omega) (by omega)) ((congrArg _ (ki_cl (n := k) (by omega))).trans (dk_t.wp (k := k) (show k < 8 by omega))) dX6_gets_316 ?_
                      refine lv_iload hx hb dX6_gets_317 (lv_at hl 0 rfl) ?_
                      refine kx_ialdv (x := nI w0) hx hb hK (kmy_P hP) (dk_t.wa (k := k) (show k < 8 by omega)) (Nat.le_of_ble_eq_true rfl) (Nat.le_of_ble_eq_true rfl) (show vp_in 0 4 from ki_in (n := 0) (by omega) (by omega)) ((congrArg _ (ki_cl (n := 0) (by omega))).trans ((dk_t.wv (k := k) (j := 0) (show k < 8 by omega) (show 0 < 4 by omega)).trans (eW0))) dX6_gets_319 ?_
                      refine lv_isub hx hb dX6_gets_320 ?_
                      rw [show ((nI lb) - (nI w0) : Int32) = nI (lb - w0) from pk_sub (a := lb) (b := w0) (by omega)]
                      refine lv_istore (lv' := [(10, .int (nI (lb - w0))), (11, .int 0), (9, .int (nI (nBkt (500 + l7) uu))), (8, .int (-1)), (0, .ref d), (1, .int (nI k)), (2, .int (nI uu)), (3, .int (nI f)), (4, .int (nI g)), (5, .int (nI fr)), (6, .ref (aOk Ad k))]) hx hb dX6_gets_321 hl (by decide) rfl (fun ls hl => ?_)
                      refine lv_iinc (v := 1) (lv' := [(11, .int 1), (10, .int (nI (lb - w0))), (9, .int (nI (nBkt (500 + l7) uu))), (8, .int (-1)), (0, .ref d), (1, .int (nI k)), (2, .int (nI uu)), (3, .int (nI f)), (4, .int (nI g)), (5, .int (nI fr)), (6, .ref (aOk Ad k))]) hx hb dX6_gets_323 hl (k := 1) rfl (by decide) (by decide) rfl (fun ls hl => ?_)
                      refine lv_goto (tgt := 280) hx hb dX6_gets_326 (by decide) ?_
                      refine lv_iload hx hb dX6_gets_280 (lv_at hl 0 rfl) ?_
                      refine lv_iconst (v := 4) hx hb dX6_gets_282 (by decide) ?_
                      refine lv_icmp_ge (tgt := 329) hx hb dX6_gets_283 (by decide) (fun c_68 => absurd c_68 (by decide)) (fun _ => ?_)
                      refine lv_iload hx hb dX6_gets_286 (lv_at hl 1 rfl) ?_
                      refine lv_aload_n hx hb dX6_gets_288 rfl (lv_at hl 4 rfl) ?_
                      refine kd_gets (r := (aW Ad)) hx hb htT m_u_X6 hown hK hP dk_t.o rfl 7 (by decide) (by decide) rfl dk_t.q7 (htT _ m_fl_X6_23) dX6_gets_289 ?_
                      refine lv_iload_n hx hb dX6_gets_292 rfl (lv_at hl 5 rfl) ?_
                      refine ky_alda (r := some (aWk Ad k)) hx hb hK hP dk_t.aw (show vp_in (nI (k)) 8 from ki_in (by omega) (by omega)) ((congrArg _ (ki_cl (n := k) (by omega))).trans (dk_t.wp (k := k) (show k < 8 by omega))) dX6_gets_293 ?_
                      refine lv_iload hx hb dX6_gets_294 (lv_at hl 0 rfl) ?_
                      refine kx_ialdv (x := nI w1) hx hb hK (kmy_P hP) (dk_t.wa (k := k) (show k < 8 by omega)) (Nat.le_of_ble_eq_true rfl) (Nat.le_of_ble_eq_true rfl) (show vp_in 1 4 from ki_in (n := 1) (by omega) (by omega)) ((congrArg _ (ki_cl (n := 1) (by omega))).trans ((dk_t.wv (k := k) (j := 1) (show k < 8 by omega) (show 1 < 4 by omega)).trans (eW1))) dX6_gets_296 ?_
                      refine lv_icmp_ge (tgt := 309) hx hb dX6_gets_297 (by decide) (fun c_69 => ?_) (fun c_69 => ?_)
                      · replace c_69 := (nI_leI (a := w1) (b := lb - w0) (by omega) (by omega)).mp c_69
                        refine lv_iload hx hb dX6_gets_309 (lv_at hl 1 rfl) ?_
                        refine lv_aload_n hx hb dX6_gets_311 rfl (lv_at hl 4 rfl) ?_
                        refine kd_gets (r := (aW Ad)) hx hb htT m_u_X6 hown hK hP dk_t.o rfl 7 (by decide) (by decide) rfl dk_t.q7 (htT _ m_fl_X6_23) dX6_gets_312 ?_
                        refine lv_iload_n hx hb dX6_gets_315 rfl (lv_at hl 5 rfl) ?_
                        refine ky_alda (r := some (aWk Ad k)) hx hb hK hP dk_t.aw (show vp_in (nI (k)) 8 from ki_in (by omega) (by omega)) ((congrArg _ (ki_cl (n := k) (by omega))).trans (dk_t.wp (k := k) (show k < 8 by omega))) dX6_gets_316 ?_
                        refine lv_iload hx hb dX6_gets_317 (lv_at hl 0 rfl) ?_
                        refine kx_ialdv (x := nI w1) hx hb hK (kmy_P hP) (dk_t.wa (k := k) (show k < 8 by omega)) (Nat.le_of_ble_eq_true rfl) (Nat.le_of_ble_eq_true rfl) (show vp_in 1 4 from ki_in (n := 1) (by omega) (by omega)) ((congrArg _ (ki_cl (n := 1) (by omega))).trans ((dk_t.wv (k := k) (j := 1) (show k < 8 by omega) (show 1 < 4 by omega)).trans (eW1))) dX6_gets_319 ?_
                        refine lv_isub hx hb dX6_gets_320 ?_
                        rw [show ((nI (lb - w0)) - (nI w1) : Int32) = nI ((lb - w0) - w1) from pk_sub (a := lb - w0) (b := w1) (by omega)]
                        refine lv_istore (lv' := [(10, .int (nI ((lb - w0) - w1))), (11, .int 1), (9, .int (nI (nBkt (500 + l7) uu))), (8, .int (-1)), (0, .ref d), (1, .int (nI k)), (2, .int (nI uu)), (3, .int (nI f)), (4, .int (nI g)), (5, .int (nI fr)), (6, .ref (aOk Ad k))]) hx hb dX6_gets_321 hl (by decide) rfl (fun ls hl => ?_)
                        refine lv_iinc (v := 2) (lv' := [(11, .int 2), (10, .int (nI ((lb - w0) - w1))), (9, .int (nI (nBkt (500 + l7) uu))), (8, .int (-1)), (0, .ref d), (1, .int (nI k)), (2, .int (nI uu)), (3, .int (nI f)), (4, .int (nI g)), (5, .int (nI fr)), (6, .ref (aOk Ad k))]) hx hb dX6_gets_323 hl (k := 1) rfl (by decide) (by decide) rfl (fun ls hl => ?_)
                        refine lv_goto (tgt := 280) hx hb dX6_gets_326 (by decide) ?_
                        refine lv_iload hx hb dX6_gets_280 (lv_at hl 0 rfl) ?_
                        refine lv_iconst (v := 4) hx hb dX6_gets_282 (by decide) ?_
                        refine lv_icmp_ge (tgt := 329) hx hb dX6_gets_283 (by decide) (fun c_70 => absurd c_70 (by decide)) (fun _ => ?_)
                        refine lv_iload hx hb dX6_gets_286 (lv_at hl 1 rfl) ?_
                        refine lv_aload_n hx hb dX6_gets_288 rfl (lv_at hl 4 rfl) ?_
                        refine kd_gets (r := (aW Ad)) hx hb htT m_u_X6 hown hK hP dk_t.o rfl 7 (by decide) (by decide) rfl dk_t.q7 (htT _ m_fl_X6_23) dX6_gets_289 ?_
                        refine lv_iload_n hx hb dX6_gets_292 rfl (lv_at hl 5 rfl) ?_
                        refine ky_alda (r := some (aWk Ad k)) hx hb hK hP dk_t.aw (show vp_in (nI (k)) 8 from ki_in (by omega) (by omega)) ((congrArg _ (ki_cl (n := k) (by omega))).trans (dk_t.wp (k := k) (show k < 8 by omega))) dX6_gets_293 ?_
                        refine lv_iload hx hb dX6_gets_294 (lv_at hl 0 rfl) ?_
                        refine kx_ialdv (x := nI w2) hx hb hK (kmy_P hP) (dk_t.wa (k := k) (show k < 8 by omega)) (Nat.le_of_ble_eq_true rfl) (Nat.le_of_ble_eq_true rfl) (show vp_in 2 4 from ki_in (n := 2) (by omega) (by omega)) ((congrArg _ (ki_cl (n := 2) (by omega))).trans ((dk_t.wv (k := k) (j := 2) (show k < 8 by omega) (show 2 < 4 by omega)).trans (eW2))) dX6_gets_296 ?_
                        refine lv_icmp_ge (tgt := 309) hx hb dX6_gets_297 (by decide) (fun c_71 => ?_) (fun c_71 => ?_)
                        · replace c_71 := (nI_leI (a := w2) (b := lb - w0 - w1) (by omega) (by omega)).mp c_71
                          refine lv_iload hx hb dX6_gets_309 (lv_at hl 1 rfl) ?_
                          refine lv_aload_n hx hb dX6_gets_311 rfl (lv_at hl 4 rfl) ?_
                          refine kd_gets (r := (aW Ad)) hx hb htT m_u_X6 hown hK hP dk_t.o rfl 7 (by decide) (by decide) rfl dk_t.q7 (htT _ m_fl_X6_23) dX6_gets_312 ?_
                          refine lv_iload_n hx hb dX6_gets_315 rfl (lv_at hl 5 rfl) ?_
                          refine ky_alda (r := some (aWk Ad k)) hx hb hK hP dk_t.aw (show vp_in (nI (k)) 8 from ki_in (by omega) (by omega)) ((congrArg _ (ki_cl (n := k) (by omega))).trans (dk_t.wp (k := k) (show k < 8 by omega))) dX6_gets_316 ?_
                          refine lv_iload hx hb dX6_gets_317 (lv_at hl 0 rfl) ?_
                          refine kx_ialdv (x := nI w2) hx hb hK (kmy_P hP) (dk_t.wa (k := k) (show k < 8 by omega)) (Nat.le_of_ble_eq_true rfl) (Nat.le_of_ble_eq_true rfl) (show vp_in 2 4 from ki_in (n := 2) (by omega) (by omega)) ((congrArg _ (ki_cl (n := 2) (by omega))).trans ((dk_t.wv (k := k) (j := 2) (show k < 8 by omega) (show 2 < 4 by omega)).trans (eW2))) dX6_gets_319 ?_
                          refine lv_isub hx hb dX6_gets_320 ?_
                          rw [show ((nI ((lb - w0) - w1)) - (nI w2) : Int32) = nI (((lb - w0) - w1) - w2) from pk_sub (a := (lb - w0) - w1) (b := w2) (by omega)]
                          refine lv_istore (lv' := [(10, .int (nI (((lb - w0) - w1) - w2))), (11, .int 2), (9, .int (nI (nBkt (500 + l7) uu))), (8, .int (-1)), (0, .ref d), (1, .int (nI k)), (2, .int (nI uu)), (3, .int (nI f)), (4, .int (nI g)), (5, .int (nI fr)), (6, .ref (aOk Ad k))]) hx hb dX6_gets_321 hl (by decide) rfl (fun ls hl => ?_)
                          refine lv_iinc (v := 3) (lv' := [(11, .int 3), (10, .int (nI (((lb - w0) - w1) - w2))), (9, .int (nI (nBkt (500 + l7) uu))), (8, .int (-1)), (0, .ref d), (1, .int (nI k)), (2, .int (nI uu)), (3, .int (nI f)), (4, .int (nI g)), (5, .int (nI fr)), (6, .ref (aOk Ad k))]) hx hb dX6_gets_323 hl (k := 1) rfl (by decide) (by decide) rfl (fun ls hl => ?_)
                          refine lv_goto (tgt := 280) hx hb dX6_gets_326 (by decide) ?_
                          refine lv_iload hx hb dX6_gets_280 (lv_at hl 0 rfl) ?_
                          refine lv_iconst (v := 4) hx hb dX6_gets_282 (by decide) ?_
                          refine lv_icmp_ge (tgt := 329) hx hb dX6_gets_283 (by decide) (fun c_72 => absurd c_72 (by decide)) (fun _ => ?_)
                          refine lv_iload hx hb dX6_gets_286 (lv_at hl 1 rfl) ?_
                          refine lv_aload_n hx hb dX6_gets_288 rfl (lv_at hl 4 rfl) ?_
                          refine kd_gets (r := (aW Ad)) hx hb htT m_u_X6 hown hK hP dk_t.o rfl 7 (by decide) (by decide) rfl dk_t.q7 (htT _ m_fl_X6_23) dX6_gets_289 ?_
                          refine lv_iload_n hx hb dX6_gets_292 rfl (lv_at hl 5 rfl) ?_
                          refine ky_alda (r := some (aWk Ad k)) hx hb hK hP dk_t.aw (show vp_in (nI (k)) 8 from ki_in (by omega) (by omega)) ((congrArg _ (ki_cl (n := k) (by omega))).trans (dk_t.wp (k := k) (show k < 8 by omega))) dX6_gets_293 ?_
                          refine lv_iload hx hb dX6_gets_294 (lv_at hl 0 rfl) ?_
                          refine kx_ialdv (x := nI w3) hx hb hK (kmy_P hP) (dk_t.wa (k := k) (show k < 8 by omega)) (Nat.le_of_ble_eq_true rfl) (Nat.le_of_ble_eq_true rfl) (show vp_in 3 4 from ki_in (n := 3) (by omega) (by omega)) ((congrArg _ (ki_cl (n := 3) (by omega))).trans ((dk_t.wv (k := k) (j := 3) (show k < 8 by omega) (show 3 < 4 by omega)).trans (eW3))) dX6_gets_296 ?_
                          refine lv_icmp_ge (tgt := 309) hx hb dX6_gets_297 (by decide) (fun c_73 => ?_) (fun c_73 => ?_)
                          · replace c_73 := (nI_leI (a := w3) (b := lb - w0 - w1 - w2) (by omega) (by omega)).mp c_73
                            refine lv_iload hx hb dX6_gets_309 (lv_at hl 1 rfl) ?_
                            refine lv_aload_n hx hb dX6_gets_311 rfl (lv_at hl 4 rfl) ?_
                            refine kd_gets (r := (aW Ad)) hx hb htT m_u_X6 hown hK hP dk_t.o rfl 7 (by decide) (by decide) rfl dk_t.q7 (htT _ m_fl_X6_23) dX6_gets_312 ?_
                            refine lv_iload_n hx hb dX6_gets_315 rfl (lv_at hl 5 rfl) ?_
                            refine ky_alda (r := some (aWk Ad k)) hx hb hK hP dk_t.aw (show vp_in (nI (k)) 8 from ki_in (by omega) (by omega)) ((congrArg _ (ki_cl (n := k) (by omega))).trans (dk_t.wp (k := k) (show k < 8 by omega))) dX6_gets_316 ?_
                            refine lv_iload hx hb dX6_gets_317 (lv_at hl 0 rfl) ?_
                            refine kx_ialdv (x := nI w3) hx hb hK (kmy_P hP) (dk_t.wa (k := k) (show k < 8 by omega)) (Nat.le_of_ble_eq_true rfl) (Nat.le_of_ble_eq_true rfl) (show vp_in 3 4 from ki_in (n := 3) (by omega) (by omega)) ((congrArg _ (ki_cl (n := 3) (by omega))).trans ((dk_t.wv (k := k) (j := 3) (show k < 8 by omega) (show 3 < 4 by omega)).trans (eW3))) dX6_gets_319 ?_
                            refine lv_isub hx hb dX6_gets_320 ?_
                            rw [show ((nI (((lb - w0) - w1) - w2)) - (nI w3) : Int32) = nI ((((lb - w0) - w1) - w2) - w3) from pk_sub (a := ((lb - w0) - w1) - w2) (b := w3) (by omega)]
                            refine lv_istore (lv' := [(10, .int (nI ((((lb - w0) - w1) - w2) - w3))), (11, .int 3), (9, .int (nI (nBkt (500 + l7) uu))), (8, .int (-1)), (0, .ref d), (1, .int (nI k)), (2, .int (nI uu)), (3, .int (nI f)), (4, .int (nI g)), (5, .int (nI fr)), (6, .ref (aOk Ad k))]) hx hb dX6_gets_321 hl (by decide) rfl (fun ls hl => ?_)
                            refine lv_iinc (v := 4) (lv' := [(11, .int 4), (10, .int (nI ((((lb - w0) - w1) - w2) - w3))), (9, .int (nI (nBkt (500 + l7) uu))), (8, .int (-1)), (0, .ref d), (1, .int (nI k)), (2, .int (nI uu)), (3, .int (nI f)), (4, .int (nI g)), (5, .int (nI fr)), (6, .ref (aOk Ad k))]) hx hb dX6_gets_323 hl (k := 1) rfl (by decide) (by decide) rfl (fun ls hl => ?_)
                            refine lv_goto (tgt := 280) hx hb dX6_gets_326 (by decide) ?_
                            refine lv_iload hx hb dX6_gets_280 (lv_at hl 0 rfl) ?_
                            refine lv_iconst (v := 4) hx hb dX6_gets_282 (by decide) ?_
                            refine lv_icmp_ge (tgt := 329) hx hb dX6_gets_283 (by decide) (fun _ => ?_) (fun c_74 => absurd c_74 (by decide))
                            exact absurd hws (by omega)
                          · replace c_73 : ¬ w3 ≤ lb - w0 - w1 - w2 := fun h9 => c_73 ((nI_leI (a := w3) (b := lb - w0 - w1 - w2) (by omega) (by omega)).mpr h9)
                            refine lv_aload_n hx hb dX6_gets_300 rfl (lv_at hl 4 rfl) ?_
                            refine lv_bipush (v := 8) hx hb dX6_gets_301 (by decide) ?_
                            refine lv_iload hx hb dX6_gets_303 (lv_at hl 0 rfl) ?_
                            refine kc_i (va_runV (As := [.int 8, .int 3]) (rest := []) ⟨hx, hb, hml, hown, htT⟩ (d_because l D cA _ wb b L xs hL T1 d x Ad n na (upd fF 10 (gI T1 d 10)) fO fW fC fR fB dk_t 8 3) (cwV 2 htT (kg_V m_ml_X6_159 m_im_X6_because m_sl_X6_because m_in_X6 m_cd_X6_because) rfl rfl rfl (by decide +kernel) ⟨(show 0 + 1 ≤ dd + 2 by omega), (show 8 + (3 + 11) + (0) ≤ 40 * dd + 60 by omega)⟩) (kpe_V hK hP hD hTB hTX hX hbl hbA hAO hS hA (kpe_rc hK hP dk_t.o rfl)) rfl rfl hl.1 rfl (lv_room (Nat.le_of_ble_eq_true rfl)) dX6_gets_305 ⟨(show cl9 + 0 ≤ dd + 1 by omega), Nat.le_of_ble_eq_true rfl⟩) hD hS hA (fun r_75 x_75 H locs hq_75 hP hD hS => ?_)
                            rw [hq_75.1]
                            rw [hq_75.2] at hP hD
                            refine W.widen (k := dd + 1) (n := 0) (show cl9 ≤ dd + 1 by omega) (Nat.le_of_ble_eq_true rfl) ?_
                            have hG : rGx M.2 (M.1 2) (M.2 11) (nI uu) (nI f) (nI g) na (ru k) (fun j => (rG M.2 (M.1 2) (M.2 11) (fun k => rFar M.2 k (M.1 1)) (nI uu) (nI f) (nI g) na ru dd j).1) k (rFar M.2 k (M.1 1)) = (3, 8) := by unfold rGx; rw [if_neg hC0, if_neg hC1, if_neg hC2, if_neg hC3, if_neg hC4, if_neg hC5, if_pos hC6, if_neg hC7]; rw [show rSplit M.2 k (kBkt (M.2 4 k) (nI uu)) 4 0 (M.2 6 (4 * k)) = nI 3 from by rw [ekl, hsp, if_neg (show ¬ lb < w0 by omega), if_neg (show ¬ lb < w0 + w1 by omega), if_neg (show ¬ lb < w0 + w1 + w2 by omega)]]; rfl
                            exact W.iret (v := 3) hx hb hr (fun t ht hW => ⟨⟨3, pI T1 d 10 8, rfl, ⟨(congrArg Prod.fst hG).symm, (hE1.tr ExtD.why), (show u2 _ _ _ _ _ _ = _ from u2_s).trans (congrArg Prod.snd hG).symm⟩, by rw [ht]; exact hP, va_K.moved hW.alike hK, hD⟩, hS.F ht⟩) hS.2.2 dX6_gets_308
                        · replace c_71 : ¬ w2 ≤ lb - w0 - w1 := fun h9 => c_71 ((nI_leI (a := w2) (b := lb - w0 - w1) (by omega) (by omega)).mpr h9)
                          refine lv_aload_n hx hb dX6_gets_300 rfl (lv_at hl 4 rfl) ?_
                          refine lv_bipush (v := 8) hx hb dX6_gets_301 (by decide) ?_
                          refine lv_iload hx hb dX6_gets_303 (lv_at hl 0 rfl) ?_
                          refine kc_i (va_runV (As := [.int 8, .int 2]) (rest := []) ⟨hx, hb, hml, hown, htT⟩ (d_because l D cA _ wb b L xs hL T1 d x Ad n na (upd fF 10 (gI T1 d 10)) fO fW fC fR fB dk_t 8 2) (cwV 2 htT (kg_V m_ml_X6_159 m_im_X6_because m_sl_X6_because m_in_X6 m_cd_X6_because) rfl rfl rfl (by decide +kernel) ⟨(show 0 + 1 ≤ dd + 2 by omega), (show 8 + (3 + 11) + (0) ≤ 40 * dd + 60 by omega)⟩) (kpe_V hK hP hD hTB hTX hX hbl hbA hAO hS hA (kpe_rc hK hP dk_t.o rfl)) rfl rfl hl.1 rfl (lv_room (Nat.le_of_ble_eq_true rfl)) dX6_gets_305 ⟨(show cl9 + 0 ≤ dd + 1 by omega), Nat.le_of_ble_eq_true rfl⟩) hD hS hA (fun r_76 x_76 H locs hq_76 hP hD hS => ?_)
                          rw [hq_76.1]
                          rw [hq_76.2] at hP hD
                          refine W.widen (k := dd + 1) (n := 0) (show cl9 ≤ dd + 1 by omega) (Nat.le_of_ble_eq_true rfl) ?_
                          have hG : rGx M.2 (M.1 2) (M.2 11) (nI uu) (nI f) (nI g) na (ru k) (fun j => (rG M.2 (M.1 2) (M.2 11) (fun k => rFar M.2 k (M.1 1)) (nI uu) (nI f) (nI g) na ru dd j).1) k (rFar M.2 k (M.1 1)) = (2, 8) := by unfold rGx; rw [if_neg hC0, if_neg hC1, if_neg hC2, if_neg hC3, if_neg hC4, if_neg hC5, if_pos hC6, if_neg hC7]; rw [show rSplit M.2 k (kBkt (M.2 4 k) (nI uu)) 4 0 (M.2 6 (4 * k)) = nI 2 from by rw [ekl, hsp, if_neg (show ¬ lb < w0 by omega), if_neg (show ¬ lb < w0 + w1 by omega), if_pos (show lb < w0 + w1 + w2 by omega)]]; rfl
                          exact W.iret (v := 2) hx hb hr (fun t ht hW => ⟨⟨2, pI T1 d 10 8, rfl, ⟨(congrArg Prod.fst hG).symm, (hE1.tr ExtD.why), (show u2 _ _ _ _ _ _ = _ from u2_s).trans (congrArg Prod.snd hG).symm⟩, by rw [ht]; exact hP, va_K.moved hW.alike hK, hD⟩, hS.F ht⟩) hS.2.2 dX6_gets_308
                      · replace c_69 : ¬ w1 ≤ lb - w0 := fun h9 => c_69 ((nI_leI (a := w1) (b := lb - w0) (by omega) (by omega)).mpr h9)
                        refine lv_aload_n hx hb dX6_gets_300 rfl (lv_at hl 4 rfl) ?_
                        refine lv_bipush (v := 8) hx hb dX6_gets_301 (by decide) ?_
                        refine lv_iload hx hb dX6_gets_303 (lv_at hl 0 rfl) ?_
                        refine kc_i (va_runV (As := [.int 8, .int 1]) (rest := []) ⟨hx, hb, hml, hown, htT⟩ (d_because l D cA _ wb b L xs hL T1 d x Ad n na (upd fF 10 (gI T1 d 10)) fO fW fC fR fB dk_t 8 1) (cwV 2 htT (kg_V m_ml_X6_159 m_im_X6_because m_sl_X6_because m_in_X6 m_cd_X6_because) rfl rfl rfl (by decide +kernel) ⟨(show 0 + 1 ≤ dd + 2 by omega), (show 8 + (3 + 11) + (0) ≤ 40 * dd + 60 by omega)⟩) (kpe_V hK hP hD hTB hTX hX hbl hbA hAO hS hA (kpe_rc hK hP dk_t.o rfl)) rfl rfl hl.1 rfl (lv_room (Nat.le_of_ble_eq_true rfl)) dX6_gets_305 ⟨(show cl9 + 0 ≤ dd + 1 by omega), Nat.le_of_ble_eq_true rfl⟩) hD hS hA (fun r_77 x_77 H locs hq_77 hP hD hS => ?_)
                        rw [hq_77.1]
                        rw [hq_77.2] at hP hD
                        refine W.widen (k := dd + 1) (n := 0) (show cl9 ≤ dd + 1 by omega) (Nat.le_of_ble_eq_true rfl) ?_
                        have hG : rGx M.2 (M.1 2) (M.2 11) (nI uu) (nI f) (nI g) na (ru k) (fun j => (rG M.2 (M.1 2) (M.2 11) (fun k => rFar M.2 k (M.1 1)) (nI uu) (nI f) (nI g) na ru dd j).1) k (rFar M.2 k (M.1 1)) = (1, 8) := by unfold rGx; rw [if_neg hC0, if_neg hC1, if_neg hC2, if_neg hC3, if_neg hC4, if_neg hC5, if_pos hC6, if_neg hC7]; rw [show rSplit M.2 k (kBkt (M.2 4 k) (nI uu)) 4 0 (M.2 6 (4 * k)) = nI 1 from by rw [ekl, hsp, if_neg (show ¬ lb < w0 by omega), if_pos (show lb < w0 + w1 by omega)]]; rfl
                        exact W.iret (v := 1) hx hb hr (fun t ht hW => ⟨⟨1, pI T1 d 10 8, rfl, ⟨(congrArg Prod.fst hG).symm, (hE1.tr ExtD.why), (show u2 _ _ _ _ _ _ = _ from u2_s).trans (congrArg Prod.snd hG).symm⟩, by rw [ht]; exact hP, va_K.moved hW.alike hK, hD⟩, hS.F ht⟩) hS.2.2 dX6_gets_308
                    · replace c_67 : ¬ w0 ≤ lb := fun h9 => c_67 ((nI_leI (a := w0) (b := lb) (by omega) (by omega)).mpr h9)
                      refine lv_aload_n hx hb dX6_gets_300 rfl (lv_at hl 4 rfl) ?_
                      refine lv_bipush (v := 8) hx hb dX6_gets_301 (by decide) ?_
                      refine lv_iload hx hb dX6_gets_303 (lv_at hl 0 rfl) ?_
                      refine kc_i (va_runV (As := [.int 8, .int 0]) (rest := []) ⟨hx, hb, hml, hown, htT⟩ (d_because l D cA _ wb b L xs hL T1 d x Ad n na (upd fF 10 (gI T1 d 10)) fO fW fC fR fB dk_t 8 0) (cwV 2 htT (kg_V m_ml_X6_159 m_im_X6_because m_sl_X6_because m_in_X6 m_cd_X6_because) rfl rfl rfl (by decide +kernel) ⟨(show 0 + 1 ≤ dd + 2 by omega), (show 8 + (3 + 11) + (0) ≤ 40 * dd + 60 by omega)⟩) (kpe_V hK hP hD hTB hTX hX hbl hbA hAO hS hA (kpe_rc hK hP dk_t.o rfl)) rfl rfl hl.1 rfl (lv_room (Nat.le_of_ble_eq_true rfl)) dX6_gets_305 ⟨(show cl9 + 0 ≤ dd + 1 by omega), Nat.le_of_ble_eq_true rfl⟩) hD hS hA (fun r_78 x_78 H locs hq_78 hP hD hS => ?_)
                      rw [hq_78.1]
                      rw [hq_78.2] at hP hD
                      refine W.widen (k := dd + 1) (n := 0) (show cl9 ≤ dd + 1 by omega) (Nat.le_of_ble_eq_true rfl) ?_
                      have hG : rGx M.2 (M.1 2) (M.2 11) (nI uu) (nI f) (nI g) na (ru k) (fun j => (rG M.2 (M.1 2) (M.2 11) (fun k => rFar M.2 k (M.1 1)) (nI uu) (nI f) (nI g) na ru dd j).1) k (rFar M.2 k (M.1 1)) = (0, 8) := by unfold rGx; rw [if_neg hC0, if_neg hC1, if_neg hC2, if_neg hC3, if_neg hC4, if_neg hC5, if_pos hC6, if_neg hC7]; rw [show rSplit M.2 k (kBkt (M.2 4 k) (nI uu)) 4 0 (M.2 6 (4 * k)) = nI 0 from by rw [ekl, hsp, if_pos (show lb < w0 by omega)]]; rfl
                      exact W.iret (v := 0) hx hb hr (fun t ht hW => ⟨⟨0, pI T1 d 10 8, rfl, ⟨(congrArg Prod.fst hG).symm, (hE1.tr ExtD.why), (show u2 _ _ _ _ _ _ = _ from u2_s).trans (congrArg Prod.snd hG).symm⟩, by rw [ht]; exact hP, va_K.moved hW.alike hK, hD⟩, hS.F ht⟩) hS.2.2 dX6_gets_308
                  · replace c_64 : ¬ fC k ≤ 0 := fun h9 => c_64 ((nI_leI (a := fC k) (b := 0) (by omega) (by omega)).mpr h9)
                    have hC7 : 0 < ru k ∧ rHold M.2 k (nI f) (nI g) (ru k) 0 = -1 := ⟨by omega, hrh⟩
                    refine lv_aload_n hx hb dX6_gets_259 rfl (lv_at hl 2 rfl) ?_
                    refine lv_bipush (v := 7) hx hb dX6_gets_260 (by decide) ?_
                    refine lv_iconst (v := 0) hx hb dX6_gets_262 (by decide) ?_
                    refine kc_i (va_runV (As := [.int 7, .int 0]) (rest := []) ⟨hx, hb, hml, hown, htT⟩ (d_because l D cA _ wb b L xs hL T1 d x Ad n na (upd fF 10 (gI T1 d 10)) fO fW fC fR fB dk_t 7 0) (cwV 2 htT (kg_V m_ml_X6_159 m_im_X6_because m_sl_X6_because m_in_X6 m_cd_X6_because) rfl rfl rfl (by decide +kernel) ⟨(show 0 + 1 ≤ dd + 2 by omega), (show 8 + (3 + 11) + (0) ≤ 40 * dd + 60 by omega)⟩) (kpe_V hK hP hD hTB hTX hX hbl hbA hAO hS hA (kpe_rc hK hP dk_t.o rfl)) rfl rfl hl.1 rfl (lv_room (Nat.le_of_ble_eq_true rfl)) dX6_gets_263 ⟨(show cl9 + 0 ≤ dd + 1 by omega), Nat.le_of_ble_eq_true rfl⟩) hD hS hA (fun r_79 x_79 H locs hq_79 hP hD hS => ?_)
                    rw [hq_79.1]
                    rw [hq_79.2] at hP hD
                    refine W.widen (k := dd + 1) (n := 0) (show cl9 ≤ dd + 1 by omega) (Nat.le_of_ble_eq_true rfl) ?_
                    have hG : rGx M.2 (M.1 2) (M.2 11) (nI uu) (nI f) (nI g) na (ru k) (fun j => (rG M.2 (M.1 2) (M.2 11) (fun k => rFar M.2 k (M.1 1)) (nI uu) (nI f) (nI g) na ru dd j).1) k (rFar M.2 k (M.1 1)) = (0, 7) := by unfold rGx; rw [if_neg hC0, if_neg hC1, if_neg hC2, if_neg hC3, if_neg hC4, if_neg hC5, if_pos hC6, if_pos hC7]
                    exact W.iret (v := 0) hx hb hr (fun t ht hW => ⟨⟨0, pI T1 d 10 7, rfl, ⟨(congrArg Prod.fst hG).symm, (hE1.tr ExtD.why), (show u2 _ _ _ _ _ _ = _ from u2_s).trans (congrArg Prod.snd hG).symm⟩, by rw [ht]; exact hP, va_K.moved hW.alike hK, hD⟩, hS.F ht⟩) hS.2.2 dX6_gets_266
                · replace c_62 : ¬ nBkt (sa + 1) uu < fr := fun h9 => c_62 ((nI_ltI (a := nBkt (sa + 1) uu) (b := fr) (by omega) (by omega)).mpr h9)
                  have hC6 : ¬ kBkt (M.2 4 k + 1) (nI uu) < rFar M.2 k (M.1 1) := by rw [show kBkt (M.2 4 k + 1) (nI uu) = nI (nBkt (sa + 1) uu) from by rw [esa, show nI sa + (1 : Int32) = nI (sa + 1) from nI_add sa 1]; exact kBkt_n (by omega) huu, hfr]; exact fun e9 => c_62 ((nI_ltI (by omega) (by omega)).mp e9)
                  refine lv_aload_n hx hb dX6_gets_236 rfl (lv_at hl 2 rfl) ?_
                  refine lv_bipush (v := 6) hx hb dX6_gets_237 (by decide) ?_
                  refine lv_iconst (v := 0) hx hb dX6_gets_239 (by decide) ?_
                  refine kc_i (va_runV (As := [.int 6, .int 0]) (rest := []) ⟨hx, hb, hml, hown, htT⟩ (d_because l D cA _ wb b L xs hL T1 d x Ad n na (upd fF 10 (gI T1 d 10)) fO fW fC fR fB dk_t 6 0) (cwV 2 htT (kg_V m_ml_X6_159 m_im_X6_because m_sl_X6_because m_in_X6 m_cd_X6_because) rfl rfl rfl (by decide +kernel) ⟨(show 0 + 1 ≤ dd + 2 by omega), (show 8 + (3 + 11) + (0) ≤ 40 * dd + 60 by omega)⟩) (kpe_V hK hP hD hTB hTX hX hbl hbA hAO hS hA (kpe_rc hK hP dk_t.o rfl)) rfl rfl hl.1 rfl (lv_room (Nat.le_of_ble_eq_true rfl)) dX6_gets_240 ⟨(show cl9 + 0 ≤ dd + 1 by omega), Nat.le_of_ble_eq_true rfl⟩) hD hS hA (fun r_80 x_80 H locs hq_80 hP hD hS => ?_)
                  rw [hq_80.1]
                  rw [hq_80.2] at hP hD
                  refine W.widen (k := dd + 1) (n := 0) (show cl9 ≤ dd + 1 by omega) (Nat.le_of_ble_eq_true rfl) ?_
                  have hG : rGx M.2 (M.1 2) (M.2 11) (nI uu) (nI f) (nI g) na (ru k) (fun j => (rG M.2 (M.1 2) (M.2 11) (fun k => rFar M.2 k (M.1 1)) (nI uu) (nI f) (nI g) na ru dd j).1) k (rFar M.2 k (M.1 1)) = (0, 6) := by unfold rGx; rw [if_neg hC0, if_neg hC1, if_neg hC2, if_neg hC3, if_neg hC4, if_neg hC5, if_neg hC6]
                  exact W.iret (v := 0) hx hb hr (fun t ht hW => ⟨⟨0, pI T1 d 10 6, rfl, ⟨(congrArg Prod.fst hG).symm, (hE1.tr ExtD.why), (show u2 _ _ _ _ _ _ = _ from u2_s).trans (congrArg Prod.snd hG).symm⟩, by rw [ht]; exact hP, va_K.moved hW.alike hK, hD⟩, hS.F ht⟩) hS.2.2 dX6_gets_243
              · replace c_60 : ¬ nBkt (500 + l7) uu < lt := fun h9 => c_60 ((nI_ltI (a := nBkt (500 + l7) uu) (b := lt) (by omega) (by omega)).mpr h9)
                have hC5 : M.2 12 k ≠ -1 ∧ kIn (kBkt (500 + M.2 12 k) (nI uu)) (M.2 13 k) (M.2 14 k - 1) = 0 := ⟨hne7, by rw [ekb, elf, elt]; exact (kIn_cut (a := nBkt (500 + l7) uu) (f := lf) (t := lt) (by omega) (by omega) (by omega)).mpr (by omega)⟩
                refine lv_aload_n hx hb dX6_gets_214 rfl (lv_at hl 2 rfl) ?_
                refine lv_iconst (v := 5) hx hb dX6_gets_215 (by decide) ?_
                refine lv_iconst (v := 0) hx hb dX6_gets_216 (by decide) ?_
                refine kc_i (va_runV (As := [.int 5, .int 0]) (rest := []) ⟨hx, hb, hml, hown, htT⟩ (d_because l D cA _ wb b L xs hL T1 d x Ad n na (upd fF 10 (gI T1 d 10)) fO fW fC fR fB dk_t 5 0) (cwV 2 htT (kg_V m_ml_X6_159 m_im_X6_because m_sl_X6_because m_in_X6 m_cd_X6_because) rfl rfl rfl (by decide +kernel) ⟨(show 0 + 1 ≤ dd + 2 by omega), (show 8 + (3 + 11) + (0) ≤ 40 * dd + 60 by omega)⟩) (kpe_V hK hP hD hTB hTX hX hbl hbA hAO hS hA (kpe_rc hK hP dk_t.o rfl)) rfl rfl hl.1 rfl (lv_room (Nat.le_of_ble_eq_true rfl)) dX6_gets_217 ⟨(show cl9 + 0 ≤ dd + 1 by omega), Nat.le_of_ble_eq_true rfl⟩) hD hS hA (fun r_81 x_81 H locs hq_81 hP hD hS => ?_)
                rw [hq_81.1]
                rw [hq_81.2] at hP hD
                refine W.widen (k := dd + 1) (n := 0) (show cl9 ≤ dd + 1 by omega) (Nat.le_of_ble_eq_true rfl) ?_
                have hG : rGx M.2 (M.1 2) (M.2 11) (nI uu) (nI f) (nI g) na (ru k) (fun j => (rG M.2 (M.1 2) (M.2 11) (fun k => rFar M.2 k (M.1 1)) (nI uu) (nI f) (nI g) na ru dd j).1) k (rFar M.2 k (M.1 1)) = (0, 5) := by unfold rGx; rw [if_neg hC0, if_neg hC1, if_neg hC2, if_neg hC3, if_neg hC4, if_pos hC5]
                exact W.iret (v := 0) hx hb hr (fun t ht hW => ⟨⟨0, pI T1 d 10 5, rfl, ⟨(congrArg Prod.fst hG).symm, (hE1.tr ExtD.why), (show u2 _ _ _ _ _ _ = _ from u2_s).trans (congrArg Prod.snd hG).symm⟩, by rw [ht]; exact hP, va_K.moved hW.alike hK, hD⟩, hS.F ht⟩) hS.2.2 dX6_gets_220
      · replace c_33 : ¬ hh ≤ nBkt 999 uu := fun h9 => c_33 ((nI_leI (a := hh) (b := nBkt 999 uu) (by omega) (by omega)).mpr h9)
        have hC4 : kBkt 999 (nI uu) < M.1 2 := by rw [show kBkt 999 (nI uu) = nI (nBkt 999 uu) from kBkt_n (s := 999) (by omega) huu, ehh]; exact (nI_ltI (a := nBkt 999 uu) (b := hh) (by omega) (by omega)).mpr (by omega)
        refine lv_aload_n hx hb dX6_gets_160 rfl (lv_at hl 1 rfl) ?_
        refine lv_iconst (v := 4) hx hb dX6_gets_161 (by decide) ?_
        refine lv_iconst (v := 0) hx hb dX6_gets_162 (by decide) ?_
        refine kc_i (va_runV (As := [.int 4, .int 0]) (rest := []) ⟨hx, hb, hml, hown, htT⟩ (d_because l D cA _ wb b L xs hL T1 d x Ad n na (upd fF 10 (gI T1 d 10)) fO fW fC fR fB dk_t 4 0) (cwV 2 htT (kg_V m_ml_X6_159 m_im_X6_because m_sl_X6_because m_in_X6 m_cd_X6_because) rfl rfl rfl (by decide +kernel) ⟨(show 0 + 1 ≤ dd + 2 by omega), (show 8 + (3 + 11) + (0) ≤ 40 * dd + 60 by omega)⟩) (kpe_V hK hP hD hTB hTX hX hbl hbA hAO hS hA (kpe_rc hK hP dk_t.o rfl)) rfl rfl hl.1 rfl (lv_room (Nat.le_of_ble_eq_true rfl)) dX6_gets_163 ⟨(show cl9 + 0 ≤ dd + 1 by omega), Nat.le_of_ble_eq_true rfl⟩) hD hS hA (fun r_82 x_82 H locs hq_82 hP hD hS => ?_)
        rw [hq_82.1]
        rw [hq_82.2] at hP hD
        refine W.widen (k := dd + 1) (n := 0) (show cl9 ≤ dd + 1 by omega) (Nat.le_of_ble_eq_true rfl) ?_
        have hG : rGx M.2 (M.1 2) (M.2 11) (nI uu) (nI f) (nI g) na (ru k) (fun j => (rG M.2 (M.1 2) (M.2 11) (fun k => rFar M.2 k (M.1 1)) (nI uu) (nI f) (nI g) na ru dd j).1) k (rFar M.2 k (M.1 1)) = (0, 4) := by unfold rGx; rw [if_neg hC0, if_neg hC1, if_neg hC2, if_neg hC3, if_pos hC4]
        exact W.iret (v := 0) hx hb hr (fun t ht hW => ⟨⟨0, pI T1 d 10 4, rfl, ⟨(congrArg Prod.fst hG).symm, (hE1.tr ExtD.why), (show u2 _ _ _ _ _ _ = _ from u2_s).trans (congrArg Prod.snd hG).symm⟩, by rw [ht]; exact hP, va_K.moved hW.alike hK, hD⟩, hS.F ht⟩) hS.2.2 dX6_gets_166
    · rw [hrh]
      have hiC : i8 < fC k := by omega
      have e21 : M.2 21 (5 * k + (rHold M.2 k (nI f) (nI g) (ru k) 0).toNatClampNeg) = fR k i8 3 := by rw [hrh, ki_cl (by omega)]; exact (hvm.r q8 hiC (j := 3) (by decide)).symm
      rcases (hrl i8 hiC).2.2.2 with hv8 | ⟨v8, hv48, hv8⟩
      · have hC3 : ¬ (rHold M.2 k (nI f) (nI g) (ru k) 0 ≠ -1 ∧ M.2 21 (5 * k + (rHold M.2 k (nI f) (nI g) (ru k) 0).toNatClampNeg) ≠ -1) := fun e9 => e9.2 (e21.trans hv8)
        refine lv_istore (lv' := [(8, .int (nI i8)), (0, .ref d), (1, .int (nI k)), (2, .int (nI uu)), (3, .int (nI f)), (4, .int (nI g)), (5, .int (nI fr)), (6, .ref (aOk Ad k))]) hx hb dX6_gets_108 hl (by decide) rfl (fun ls hl => ?_)
        refine lv_iload hx hb dX6_gets_110 (lv_at hl 0 rfl) ?_
        refine lv_if_lt (tgt := 146) hx hb dX6_gets_112 (by decide) (fun c_83 => ?_) (fun c_83 => ?_)
        · exact absurd ((nI_ltI (a := i8) (b := 0) (by omega) (by omega)).mp c_83) (by omega)
        · replace c_83 : ¬ (i8 < 0) := fun h9 => c_83 ((nI_ltI (a := i8) (b := 0) (by omega) (by omega)).mpr h9)
          refine lv_aload_n hx hb dX6_gets_115 rfl (lv_at hl 1 rfl) ?_
          refine kd_gets (r := (aR Ad)) hx hb htT m_u_X6 hown hK hP dk_t.o rfl 8 (by decide) (by decide) rfl dk_t.q8 (htT _ m_fl_X6_28) dX6_gets_116 ?_
          refine lv_iload_n hx hb dX6_gets_119 rfl (lv_at hl 2 rfl) ?_
          refine ky_aldb (r := some (aRk Ad k)) hx hb hK hP dk_t.ar (show vp_in (nI (k)) 8 from ki_in (by omega) (by omega)) ((congrArg _ (ki_cl (n := k) (by omega))).trans (dk_t.rp (k := k) (show k < 8 by omega))) dX6_gets_120 ?_
          refine lv_iload hx hb dX6_gets_121 (lv_at hl 0 rfl) ?_
          refine ky_alda (r := some (aRR Ad k i8)) hx hb hK hP (dk_t.ra (k := k) (show k < 8 by omega)) (show vp_in (nI (i8)) (fC k) from ki_in (by omega) (by omega)) ((congrArg _ (ki_cl (n := i8) (by omega))).trans (dk_t.rrp (k := k) (i := i8) (show k < 8 by omega) (show i8 < fC k by omega))) dX6_gets_123 ?_
          refine lv_iconst (v := 3) hx hb dX6_gets_124 (by decide) ?_
          refine kx_ialdv (x := -1) hx hb hK (kmy_P hP) (dk_t.rra (k := k) (i := i8) (show k < 8 by omega) (show i8 < fC k by omega)) (Nat.le_of_ble_eq_true rfl) (Nat.le_of_ble_eq_true rfl) (show vp_in 3 4 from ki_in (n := 3) (by omega) (by omega)) ((congrArg _ (ki_cl (n := 3) (by omega))).trans ((dk_t.rv (k := k) (i := i8) (j := 3) (show k < 8 by omega) (show i8 < fC k by omega) (show 3 < 4 by omega)).trans (hv8))) dX6_gets_125 ?_
          refine lv_if_lt (tgt := 146) hx hb dX6_gets_126 (by decide) (fun _ => ?_) (fun c_84 => absurd c_84 (by decide))
          refine lv_sipush (v := 999) hx hb dX6_gets_146 (by decide) ?_
          refine lv_iload_n hx hb dX6_gets_149 rfl (lv_at hl 3 rfl) ?_
          refine kc_i (va_runS (As := [.int 999, .int (nI uu)]) (rest := []) ⟨hx, hb, hml, hown, htT⟩ (d_bucket l D cA _ (PW cA T1 ++ wb) (999) uu (by omega) huu) (cwS 2 htT (kg_S m_ml_X6_172 m_st_X6_bucket m_in_X6 m_cd_X6_bucket) rfl rfl rfl (by decide +kernel) ⟨(show 0 + 1 ≤ dd + 2 by omega), (show 8 + (4 + 11) + (0) ≤ 40 * dd + 60 by omega)⟩) (kp_S hK hP hD hTB) rfl rfl hl.1 rfl (lv_room (Nat.le_of_ble_eq_true rfl)) dX6_gets_150 ⟨(show cl9 + 0 ≤ dd + 1 by omega), Nat.le_of_ble_eq_true rfl⟩) hD hS hA (fun r_85 x_85 H locs hq_85 hP hD hS => ?_)
          rw [hq_85]
          have hb_150 := nBkt_lt (999) uu
          refine lv_aload_n hx hb dX6_gets_153 rfl (lv_at hl 1 rfl) ?_
          refine kd_getiv (x := nI hh) hx hb htT m_u_X6 hown hK hP dk_t.o rfl 4 (by decide) (by decide) rfl (htT _ m_fl_X6_114) ((dk_t.f 4).trans ((show _ = fF 4 from rfl).trans eF4)) dX6_gets_154 ?_
          refine lv_icmp_ge (tgt := 167) hx hb dX6_gets_157 (by decide) (fun c_86 => ?_) (fun c_86 => ?_)
          · replace c_86 := (nI_leI (a := hh) (b := nBkt 999 uu) (by omega) (by omega)).mp c_86
            have hC4 : ¬ kBkt 999 (nI uu) < M.1 2 := by rw [show kBkt 999 (nI uu) = nI (nBkt 999 uu) from kBkt_n (s := 999) (by omega) huu, ehh]; exact fun e9 => absurd ((nI_ltI (a := nBkt 999 uu) (b := hh) (by omega) (by omega)).mp e9) (by omega)
            rcases hla with hla | ⟨l7, hl7, hla⟩
            · have hC5 : ¬ (M.2 12 k ≠ -1 ∧ kIn (kBkt (500 + M.2 12 k) (nI uu)) (M.2 13 k) (M.2 14 k - 1) = 0) := fun e9 => e9.1 hla
              refine lv_sipush (v := 500) hx hb dX6_gets_167 (by decide) ?_
              refine lv_iconst (v := 0) hx hb dX6_gets_170 (by decide) ?_
              refine lv_aload hx hb dX6_gets_171 (lv_at hl 7 rfl) ?_
              refine lv_bipush (v := 7) hx hb dX6_gets_173 (by decide) ?_
              refine kx_ialdv (x := -1) hx hb hK (kmy_P hP) (dk_t.oa (k := k) (show k < n by omega)) (Nat.le_of_ble_eq_true rfl) (Nat.le_of_ble_eq_true rfl) (show vp_in 7 12 from ki_in (n := 7) (by omega) (by omega)) ((congrArg _ (ki_cl (n := 7) (by omega))).trans ((dk_t.ov (k := k) (j := 7) (show k < n by omega) (show 7 < 12 by omega)).trans ((eO7.trans hla)))) dX6_gets_175 ?_
              refine va_mmax (rest := [.int 500]) hx hb (hml.trans hl.1.symm) hown (htT _ m_ml_X6_175) (htT _ m_st_J9_max_7cf53) (htT _ m_in_Math) (htT _ m_cd_J9_max_7cf53) (by show 1 ≤ dd + 2; omega) (by show 1 + 13 ≤ 40 * dd + 60; omega) (by show cl9 ≤ dd + 1; omega) (Nat.le_of_ble_eq_true rfl) dX6_gets_176 ?_
              rw [show ((if (0 : Int32) < -1 then -1 else 0) : Int32) = 0 from by decide]
              refine lv_iadd hx hb dX6_gets_179 ?_
              rw [show (500 + 0 : Int32) = 500 from by decide]
              refine lv_iload_n hx hb dX6_gets_180 rfl (lv_at hl 3 rfl) ?_
              refine kc_i (va_runS (As := [.int 500, .int (nI uu)]) (rest := []) ⟨hx, hb, hml, hown, htT⟩ (d_bucket l D cA _ (PW cA T1 ++ wb) (500) uu (by omega) huu) (cwS 2 htT (kg_S m_ml_X6_172 m_st_X6_bucket m_in_X6 m_cd_X6_bucket) rfl rfl rfl (by decide +kernel) ⟨(show 0 + 1 ≤ dd + 2 by omega), (show 8 + (4 + 11) + (0) ≤ 40 * dd + 60 by omega)⟩) (kp_S hK hP hD hTB) rfl rfl hl.1 rfl (lv_room (Nat.le_of_ble_eq_true rfl)) dX6_gets_181 ⟨(show cl9 + 0 ≤ dd + 1 by omega), Nat.le_of_ble_eq_true rfl⟩) hD hS hA (fun r_87 x_87 H locs hq_87 hP hD hS => ?_)
              rw [hq_87]
              have hb_181 := nBkt_lt (500) uu
              refine lv_istore (lv' := [(9, .int (nI (nBkt (500) uu))), (8, .int (nI i8)), (0, .ref d), (1, .int (nI k)), (2, .int (nI uu)), (3, .int (nI f)), (4, .int (nI g)), (5, .int (nI fr)), (6, .ref (aOk Ad k))]) hx hb dX6_gets_184 hl (by decide) rfl (fun ls hl => ?_)
              refine lv_aload hx hb dX6_gets_186 (lv_at hl 8 rfl) ?_
              refine lv_bipush (v := 7) hx hb dX6_gets_188 (by decide) ?_
              refine kx_ialdv (x := -1) hx hb hK (kmy_P hP) (dk_t.oa (k := k) (show k < n by omega)) (Nat.le_of_ble_eq_true rfl) (Nat.le_of_ble_eq_true rfl) (show vp_in 7 12 from ki_in (n := 7) (by omega) (by omega)) ((congrArg _ (ki_cl (n := 7) (by omega))).trans ((dk_t.ov (k := k) (j := 7) (show k < n by omega) (show 7 < 12 by omega)).trans ((eO7.trans hla)))) dX6_gets_190 ?_
              refine lv_if_lt (tgt := 221) hx hb dX6_gets_191 (by decide) (fun _ => ?_) (fun c_88 => absurd c_88 (by decide))
              refine lv_aload hx hb dX6_gets_221 (lv_at hl 8 rfl) ?_
              refine lv_iconst (v := 0) hx hb dX6_gets_223 (by decide) ?_
              refine kx_ialdv (x := nI sa) hx hb hK (kmy_P hP) (dk_t.oa (k := k) (show k < n by omega)) (Nat.le_of_ble_eq_true rfl) (Nat.le_of_ble_eq_true rfl) (show vp_in 0 12 from ki_in (n := 0) (by omega) (by omega)) ((congrArg _ (ki_cl (n := 0) (by omega))).trans ((dk_t.ov (k := k) (j := 0) (show k < n by omega) (show 0 < 12 by omega)).trans (eO0))) dX6_gets_224 ?_
              refine lv_iconst (v := 1) hx hb dX6_gets_225 (by decide) ?_
              refine lv_iadd hx hb dX6_gets_226 ?_
              rw [show ((nI sa) + 1 : Int32) = nI (sa + 1) from nI_add sa 1]
              refine lv_iload_n hx hb dX6_gets_227 rfl (lv_at hl 4 rfl) ?_
              refine kc_i (va_runS (As := [.int (nI (sa + 1)), .int (nI uu)]) (rest := []) ⟨hx, hb, hml, hown, htT⟩ (d_bucket l D cA _ (PW cA T1 ++ wb) (sa + 1) uu (by omega) huu) (cwS 2 htT (kg_S m_ml_X6_172 m_st_X6_bucket m_in_X6 m_cd_X6_bucket) rfl rfl rfl (by decide +kernel) ⟨(show 0 + 1 ≤ dd + 2 by omega), (show 8 + (4 + 11) + (0) ≤ 40 * dd + 60 by omega)⟩) (kp_S hK hP hD hTB) rfl rfl hl.1 rfl (lv_room (Nat.le_of_ble_eq_true rfl)) dX6_gets_228 ⟨(show cl9 + 0 ≤ dd + 1 by omega), Nat.le_of_ble_eq_true rfl⟩) hD hS hA (fun r_89 x_89 H locs hq_89 hP hD hS => ?_)
              rw [hq_89]
              have hb_228 := nBkt_lt (sa + 1) uu
              refine lv_iload hx hb dX6_gets_231 (lv_at hl 7 rfl) ?_
              refine lv_icmp_lt (tgt := 244) hx hb dX6_gets_233 (by decide) (fun c_90 => ?_) (fun c_90 => ?_)
              · replace c_90 := (nI_ltI (a := nBkt (sa + 1) uu) (b := fr) (by omega) (by omega)).mp c_90
                have hC6 : kBkt (M.2 4 k + 1) (nI uu) < rFar M.2 k (M.1 1) := by rw [show kBkt (M.2 4 k + 1) (nI uu) = nI (nBkt (sa + 1) uu) from by rw [esa, show nI sa + (1 : Int32) = nI (sa + 1) from nI_add sa 1]; exact kBkt_n (by omega) huu, hfr]; exact (nI_ltI (by omega) (by omega)).mpr c_90
                refine lv_iload hx hb dX6_gets_244 (lv_at hl 1 rfl) ?_
                refine lv_if_ge (tgt := 267) hx hb dX6_gets_246 (by decide) (fun c_91 => ?_) (fun c_91 => ?_)
                · replace c_91 := (nI_leI (a := 0) (b := i8) (by omega) (by omega)).mp c_91
                  have hC7 : ¬ (0 < ru k ∧ rHold M.2 k (nI f) (nI g) (ru k) 0 = -1) := fun e9 => nI_m1 (a := i8) (by omega) (hrh.symm.trans e9.2)
                  refine lv_aload hx hb dX6_gets_267 (lv_at hl 8 rfl) ?_
                  refine lv_iconst (v := 0) hx hb dX6_gets_269 (by decide) ?_
                  refine kx_ialdv (x := nI sa) hx hb hK (kmy_P hP) (dk_t.oa (k := k) (show k < n by omega)) (Nat.le_of_ble_eq_true rfl) (Nat.le_of_ble_eq_true rfl) (show vp_in 0 12 from ki_in (n := 0) (by omega) (by omega)) ((congrArg _ (ki_cl (n := 0) (by omega))).trans ((dk_t.ov (k := k) (j := 0) (show k < n by omega) (show 0 < 12 by omega)).trans (eO0))) dX6_gets_270 ?_
                  refine lv_iload_n hx hb dX6_gets_271 rfl (lv_at hl 4 rfl) ?_
                  refine kc_i (va_runS (As := [.int (nI sa), .int (nI uu)]) (rest := []) ⟨hx, hb, hml, hown, htT⟩ (d_bucket l D cA _ (PW cA T1 ++ wb) (sa) uu (by omega) huu) (cwS 2 htT (kg_S m_ml_X6_172 m_st_X6_bucket m_in_X6 m_cd_X6_bucket) rfl rfl rfl (by decide +kernel) ⟨(show 0 + 1 ≤ dd + 2 by omega), (show 8 + (4 + 11) + (0) ≤ 40 * dd + 60 by omega)⟩) (kp_S hK hP hD hTB) rfl rfl hl.1 rfl (lv_room (Nat.le_of_ble_eq_true rfl)) dX6_gets_272 ⟨(show cl9 + 0 ≤ dd + 1 by omega), Nat.le_of_ble_eq_true rfl⟩) hD hS hA (fun r_92 x_92 H locs hq_92 hP hD hS => ?_)
                  rw [hq_92]
                  have hb_272 := nBkt_lt (sa) uu
                  obtain ⟨lb, elb⟩ : ∃ lb, lb = nBkt sa uu := ⟨_, rfl⟩
                  rw [← elb]
                  have hlb : lb < 1000 := by omega
                  have hsp := spl_n (T := M.2) ew0 ew1 ew2 ew3 hws hlb
                  have ekl : kBkt (M.2 4 k) (nI uu) = nI lb := by rw [elb, esa]; exact kBkt_n (by omega) huu
                  refine lv_istore (lv' := [(10, .int (nI lb)), (9, .int (nI (nBkt (500) uu))), (8, .int (nI i8)), (0, .ref d), (1, .int (nI k)), (2, .int (nI uu)), (3, .int (nI f)), (4, .int (nI g)), (5, .int (nI fr)), (6, .ref (aOk Ad k))]) hx hb dX6_gets_275 hl (by decide) rfl (fun ls hl => ?_)
                  refine lv_iconst (v := 0) hx hb dX6_gets_277 (by decide) ?_
                  refine lv_istore (lv' := [(11, .int 0), (10, .int (nI lb)), (9, .int (nI (nBkt (500) uu))), (8, .int (nI i8)), (0, .ref d), (1, .int (nI k)), (2, .int (nI uu)), (3, .int (nI f)), (4, .int (nI g)), (5, .int (nI fr)), (6, .ref (aOk Ad k))]) hx hb dX6_gets_278 hl (by decide) rfl (fun ls hl => ?_)
                  refine lv_iload hx hb dX6_gets_280 (lv_at hl 0 rfl) ?_
                  refine lv_iconst (v := 4) hx hb dX6_gets_282 (by decide) ?_
                  refine lv_icmp_ge (tgt := 329) hx hb dX6_gets_283 (by decide) (fun c_93 => absurd c_93 (by decide)) (fun _ => ?_)
                  refine lv_iload hx hb dX6_gets_286 (lv_at hl 1 rfl) ?_
                  refine lv_aload_n hx hb dX6_gets_288 rfl (lv_at hl 4 rfl) ?_
                  refine kd_gets (r := (aW Ad)) hx hb htT m_u_X6 hown hK hP dk_t.o rfl 7 (by decide) (by decide) rfl dk_t.q7 (htT _ m_fl_X6_23) dX6_gets_289 ?_
                  refine lv_iload_n hx hb dX6_gets_292 rfl (lv_at hl 5 rfl) ?_
                  refine ky_alda (r := some (aWk Ad k)) hx hb hK hP dk_t.aw (show vp_in (nI (k)) 8 from ki_in (by omega) (by omega)) ((congrArg _ (ki_cl (n := k) (by omega))).trans (dk_t.wp (k := k) (show k < 8 by omega))) dX6_gets_293 ?_
                  refine lv_iload hx hb dX6_gets_294 (lv_at hl 0 rfl) ?_
                  refine kx_ialdv (x := nI w0) hx hb hK (kmy_P hP) (dk_t.wa (k := k) (show k < 8 by omega)) (Nat.le_of_ble_eq_true rfl) (Nat.le_of_ble_eq_true rfl) (show vp_in 0 4 from ki_in (n := 0) (by omega) (by omega)) ((congrArg _ (ki_cl (n := 0) (by omega))).trans ((dk_t.wv (k := k) (j := 0) (show k < 8 by omega) (show 0 < 4 by omega)).trans (eW0))) dX6_gets_296 ?_
                  refine lv_icmp_ge (tgt := 309) hx hb dX6_gets_297 (by decide) (fun c_94 => ?_) (fun c_94 => ?_)
                  · replace c_94 := (nI_leI (a := w0) (b := lb) (by omega) (by omega)).mp c_94
                    refine lv_iload hx hb dX6_gets_309 (lv_at hl 1 rfl) ?_
                    refine lv_aload_n hx hb dX6_gets_311 rfl (lv_at hl 4 rfl) ?_
                    refine kd_gets (r := (aW Ad)) hx hb htT m_u_X6 hown hK hP dk_t.o rfl 7 (by decide) (by decide) rfl dk_t.q7 (htT _ m_fl_X6_23) dX6_gets_312 ?_
                    refine lv_iload_n hx hb dX6_gets_315 rfl (lv_at hl 5 rfl) ?_
                    refine ky_alda (r := some (aWk Ad k)) hx hb hK hP dk_t.aw (show vp_in (nI (k)) 8 from ki_in (by omega) (by omega)) ((congrArg _ (ki_cl (n := k) (by omega))).trans (dk_t.wp (k := k) (show k < 8 by omega))) dX6_gets_316 ?_
                    refine lv_iload hx hb dX6_gets_317 (lv_at hl 0 rfl) ?_
                    refine kx_ialdv (x := nI w0) hx hb hK (kmy_P hP) (dk_t.wa (k := k) (show k < 8 by omega)) (Nat.le_of_ble_eq_true rfl) (Nat.le_of_ble_eq_true rfl) (show vp_in 0 4 from ki_in (n := 0) (by omega) (by omega)) ((congrArg _ (ki_cl (n := 0) (by omega))).trans ((dk_t.wv (k := k) (j := 0) (show k < 8 by omega) (show 0 < 4 by omega)).trans (eW0))) dX6_gets_319 ?_
                    refine lv_isub hx hb dX6_gets_320 ?_
                    rw [show ((nI lb) - (nI w0) : Int32) = nI (lb - w0) from pk_sub (a := lb) (b := w0) (by omega)]
                    refine lv_istore (lv' := [(10, .int (nI (lb - w0))), (11, .int 0), (9, .int (nI (nBkt (500) uu))), (8, .int (nI i8)), (0, .ref d), (1, .int (nI k)), (2, .int (nI uu)), (3, .int (nI f)), (4, .int (nI g)), (5, .int (nI fr)), (6, .ref (aOk Ad k))]) hx hb dX6_gets_321 hl (by decide) rfl (fun ls hl => ?_)
                    refine lv_iinc (v := 1) (lv' := [(11, .int 1), (10, .int (nI (lb - w0))), (9, .int (nI (nBkt (500) uu))), (8, .int (nI i8)), (0, .ref d), (1, .int (nI k)), (2, .int (nI uu)), (3, .int (nI f)), (4, .int (nI g)), (5, .int (nI fr)), (6, .ref (aOk Ad k))]) hx hb dX6_gets_323 hl (k := 1) rfl (by decide) (by decide) rfl (fun ls hl => ?_)
                    refine lv_goto (tgt := 280) hx hb dX6_gets_326 (by decide) ?_
                    refine lv_iload hx hb dX6_gets_280 (lv_at hl 0 rfl) ?_
                    refine lv_iconst (v := 4) hx hb dX6_gets_282 (by decide) ?_
                    refine lv_icmp_ge (tgt := 329) hx hb dX6_gets_283 (by decide) (fun c_95 => absurd c_95 (by decide)) (fun _ => ?_)
                    refine lv_iload hx hb dX6_gets_286 (lv_at hl 1 rfl) ?_
                    refine lv_aload_n hx hb dX6_gets_288 rfl (lv_at hl 4 rfl) ?_
                    refine kd_gets (r := (aW Ad)) hx hb htT m_u_X6 hown hK hP dk_t.o rfl 7 (by decide) (by decide) rfl dk_t.q7 (htT _ m_fl_X6_23) dX6_gets_289 ?_
                    refine lv_iload_n hx hb dX6_gets_292 rfl (lv_at hl 5 rfl) ?_
                    refine ky_alda (r := some (aWk Ad k)) hx hb hK hP dk_t.aw (show vp_in (nI (k)) 8 from ki_in (by omega) (by omega)) ((congrArg _ (ki_cl (n := k) (by omega))).trans (dk_t.wp (k := k) (show k < 8 by omega))) dX6_gets_293 ?_
                    refine lv_iload hx hb dX6_gets_294 (lv_at hl 0 rfl) ?_
                    refine kx_ialdv (x := nI w1) hx hb hK (kmy_P hP) (dk_t.wa (k := k) (show k < 8 by omega)) (Nat.le_of_ble_eq_true rfl) (Nat.le_of_ble_eq_true rfl) (show vp_in 1 4 from ki_in (n := 1) (by omega) (by omega)) ((congrArg _ (ki_cl (n := 1) (by omega))).trans ((dk_t.wv (k := k) (j := 1) (show k < 8 by omega) (show 1 < 4 by omega)).trans (eW1))) dX6_gets_296 ?_
                    refine lv_icmp_ge (tgt := 309) hx hb dX6_gets_297 (by decide) (fun c_96 => ?_) (fun c_96 => ?_)
                    · replace c_96 := (nI_leI (a := w1) (b := lb - w0) (by omega) (by omega)).mp c_96
                      refine lv_iload hx hb dX6_gets_309 (lv_at hl 1 rfl) ?_
                      refine lv_aload_n hx hb dX6_gets_311 rfl (lv_at hl 4 rfl) ?_
                      refine kd_gets (r := (aW Ad)) hx hb htT m_u_X6 hown hK hP dk_t.o rfl 7 (by decide) (by decide) rfl dk_t.q7 (htT _ m_fl_X6_23) dX6_gets_312 ?_
                      refine lv_iload_n hx hb dX6_gets_315 rfl (lv_at hl 5 rfl) ?_
                      refine ky_alda (r := some (aWk Ad k)) hx hb hK hP dk_t.aw (show vp_in (nI (k)) 8 from ki_in (by omega) (by omega)) ((congrArg _ (ki_cl (n := k) (by omega))).trans (dk_t.wp (k := k) (show k < 8 by omega))) dX6_gets_316 ?_
                      refine lv_iload hx hb dX6_gets_317 (lv_at hl 0 rfl) ?_
                      refine kx_ialdv (x := nI w1) hx hb hK (kmy_P hP) (dk_t.wa (k := k) (show k < 8 by omega)) (Nat.le_of_ble_eq_true rfl) (Nat.le_of_ble_eq_true rfl) (show vp_in 1 4 from ki_in (n := 1) (by omega) (by omega)) ((congrArg _ (ki_cl (n := 1) (by omega))).trans ((dk_t.wv (k := k) (j := 1) (show k < 8 by omega) (show 1 < 4 by omega)).trans (eW1))) dX6_gets_319 ?_
                      refine lv_isub hx hb dX6_gets_320 ?_
                      rw [show ((nI (lb - w0)) - (nI w1) : Int32) = nI ((lb - w0) - w1) from pk_sub (a := lb - w0) (b := w1) (by omega)]
                      refine lv_istore (lv' := [(10, .int (nI ((lb - w0) - w1))), (11, .int 1), (9, .int (nI (nBkt (500) uu))), (8, .int (nI i8)), (0, .ref d), (1, .int (nI k)), (2, .int (nI uu)), (3, .int (nI f)), (4, .int (nI g)), (5, .int (nI fr)), (6, .ref (aOk Ad k))]) hx hb dX6_gets_321 hl (by decide) rfl (fun ls hl => ?_)
                      refine lv_iinc (v := 2) (lv' := [(11, .int 2), (10, .int (nI ((lb - w0) - w1))), (9, .int (nI (nBkt (500) uu))), (8, .int (nI i8)), (0, .ref d), (1, .int (nI k)), (2, .int (nI uu)), (3, .int (nI f)), (4, .int (nI g)), (5, .int (nI fr)), (6, .ref (aOk Ad k))]) hx hb dX6_gets_323 hl (k := 1) rfl (by decide) (by decide) rfl (fun ls hl => ?_)
                      refine lv_goto (tgt := 280) hx hb dX6_gets_326 (by decide) ?_
                      refine lv_iload hx hb dX6_gets_280 (lv_at hl 0 rfl) ?_
                      refine lv_iconst (v := 4) hx hb dX6_gets_282 (by decide) ?_
                      refine lv_icmp_ge (tgt := 329) hx hb dX6_gets_283 (by decide) (fun c_97 => absurd c_97 (by decide)) (fun _ => ?_)
                      refine lv_iload hx hb dX6_gets_286 (lv_at hl 1 rfl) ?_
                      refine lv_aload_n hx hb dX6_gets_288 rfl (lv_at hl 4 rfl) ?_
                      refine kd_gets (r := (aW Ad)) hx hb htT m_u_X6 hown hK hP dk_t.o rfl 7 (by decide) (by decide) rfl dk_t.q7 (htT _ m_fl_X6_23) dX6_gets_289 ?_
                      refine lv_iload_n hx hb dX6_gets_292 rfl (lv_at hl 5 rfl) ?_
                      refine ky_alda (r := some (aWk Ad k)) hx hb hK hP dk_t.aw (show vp_in (nI (k)) 8 from ki_in (by omega) (by omega)) ((congrArg _ (ki_cl (n := k) (by omega))).trans (dk_t.wp (k := k) (show k < 8 by omega))) dX6_gets_293 ?_
                      refine lv_iload hx hb dX6_gets_294 (lv_at hl 0 rfl) ?_
                      refine kx_ialdv (x := nI w2) hx hb hK (kmy_P hP) (dk_t.wa (k := k) (show k < 8 by omega)) (Nat.le_of_ble_eq_true rfl) (Nat.le_of_ble_eq_true rfl) (show vp_in 2 4 from ki_in (n := 2) (by omega) (by omega)) ((congrArg _ (ki_cl (n := 2) (by omega))).trans ((dk_t.wv (k := k) (j := 2) (show k < 8 by omega) (show 2 < 4 by omega)).trans (eW2))) dX6_gets_296 ?_
                      refine lv_icmp_ge (tgt := 309) hx hb dX6_gets_297 (by decide) (fun c_98 => ?_) (fun c_98 => ?_)
                      · replace c_98 := (nI_leI (a := w2) (b := lb - w0 - w1) (by omega) (by omega)).mp c_98
                        refine lv_iload hx hb dX6_gets_309 (lv_at hl 1 rfl) ?_
                        refine lv_aload_n hx hb dX6_gets_311 rfl (lv_at hl 4 rfl) ?_
                        refine kd_gets (r := (aW Ad)) hx hb htT m_u_X6 hown hK hP dk_t.o rfl 7 (by decide) (by decide) rfl dk_t.q7 (htT _ m_fl_X6_23) dX6_gets_312 ?_
                        refine lv_iload_n hx hb dX6_gets_315 rfl (lv_at hl 5 rfl) ?_
                        refine ky_alda (r := some (aWk Ad k)) hx hb hK hP dk_t.aw (show vp_in (nI (k)) 8 from ki_in (by omega) (by omega)) ((congrArg _ (ki_cl (n := k) (by omega))).trans (dk_t.wp (k := k) (show k < 8 by omega))) dX6_gets_316 ?_
                        refine lv_iload hx hb dX6_gets_317 (lv_at hl 0 rfl) ?_
                        refine kx_ialdv (x := nI w2) hx hb hK (kmy_P hP) (dk_t.wa (k := k) (show k < 8 by omega)) (Nat.le_of_ble_eq_true rfl) (Nat.le_of_ble_eq_true rfl) (show vp_in 2 4 from ki_in (n := 2) (by omega) (by omega)) ((congrArg _ (ki_cl (n := 2) (by omega))).trans ((dk_t.wv (k := k) (j := 2) (show k < 8 by omega) (show 2 < 4 by omega)).trans (eW2))) dX6_gets_319 ?_
                        refine lv_isub hx hb dX6_gets_320 ?_
                        rw [show ((nI ((lb - w0) - w1)) - (nI w2) : Int32) = nI (((lb - w0) - w1) - w2) from pk_sub (a := (lb - w0) - w1) (b := w2) (by omega)]
                        refine lv_istore (lv' := [(10, .int (nI (((lb - w0) - w1) - w2))), (11, .int 2), (9, .int (nI (nBkt (500) uu))), (8, .int (nI i8)), (0, .ref d), (1, .int (nI k)), (2, .int (nI uu)), (3, .int (nI f)), (4, .int (nI g)), (5, .int (nI fr)), (6, .ref (aOk Ad k))]) hx hb dX6_gets_321 hl (by decide) rfl (fun ls hl => ?_)
                        refine lv_iinc (v := 3) (lv' := [(11, .int 3), (10, .int (nI (((lb - w0) - w1) - w2))), (9, .int (nI (nBkt (500) uu))), (8, .int (nI i8)), (0, .ref d), (1, .int (nI k)), (2, .int (nI uu)), (3, .int (nI f)), (4, .int (nI g)), (5, .int (nI fr)), (6, .ref (aOk Ad k))]) hx hb dX6_gets_323 hl (k := 1) rfl (by decide) (by decide) rfl (fun ls hl => ?_)
                        refine lv_goto (tgt := 280) hx hb dX6_gets_326 (by decide) ?_
                        refine lv_iload hx hb dX6_gets_280 (lv_at hl 0 rfl) ?_
                        refine lv_iconst (v := 4) hx hb dX6_gets_282 (by decide) ?_
                        refine lv_icmp_ge (tgt := 329) hx hb dX6_gets_283 (by decide) (fun c_99 => absurd c_99 (by decide)) (fun _ => ?_)
                        refine lv_iload hx hb dX6_gets_286 (lv_at hl 1 rfl) ?_
                        refine lv_aload_n hx hb dX6_gets_288 rfl (lv_at hl 4 rfl) ?_
                        refine kd_gets (r := (aW Ad)) hx hb htT m_u_X6 hown hK hP dk_t.o rfl 7 (by decide) (by decide) rfl dk_t.q7 (htT _ m_fl_X6_23) dX6_gets_289 ?_
                        refine lv_iload_n hx hb dX6_gets_292 rfl (lv_at hl 5 rfl) ?_
                        refine ky_alda (r := some (aWk Ad k)) hx hb hK hP dk_t.aw (show vp_in (nI (k)) 8 from ki_in (by omega) (by omega)) ((congrArg _ (ki_cl (n := k) (by omega))).trans (dk_t.wp (k := k) (show k < 8 by omega))) dX6_gets_293 ?_
                        refine lv_iload hx hb dX6_gets_294 (lv_at hl 0 rfl) ?_
                        refine kx_ialdv (x := nI w3) hx hb hK (kmy_P hP) (dk_t.wa (k := k) (show k < 8 by omega)) (Nat.le_of_ble_eq_true rfl) (Nat.le_of_ble_eq_true rfl) (show vp_in 3 4 from ki_in (n := 3) (by omega) (by omega)) ((congrArg _ (ki_cl (n := 3) (by omega))).trans ((dk_t.wv (k := k) (j := 3) (show k < 8 by omega) (show 3 < 4 by omega)).trans (eW3))) dX6_gets_296 ?_
                        refine lv_icmp_ge (tgt := 309) hx hb dX6_gets_297 (by decide) (fun c_100 => ?_) (fun c_100 => ?_)
                        · replace c_100 := (nI_leI (a := w3) (b := lb - w0 - w1 - w2) (by omega) (by omega)).mp c_100
                          refine lv_iload hx hb dX6_gets_309 (lv_at hl 1 rfl) ?_
                          refine lv_aload_n hx hb dX6_gets_311 rfl (lv_at hl 4 rfl) ?_
                          refine kd_gets (r := (aW Ad)) hx hb htT m_u_X6 hown hK hP dk_t.o rfl 7 (by decide) (by decide) rfl dk_t.q7 (htT _ m_fl_X6_23) dX6_gets_312 ?_
                          refine lv_iload_n hx hb dX6_gets_315 rfl (lv_at hl 5 rfl) ?_
                          refine ky_alda (r := some (aWk Ad k)) hx hb hK hP dk_t.aw (show vp_in (nI (k)) 8 from ki_in (by omega) (by omega)) ((congrArg _ (ki_cl (n := k) (by omega))).trans (dk_t.wp (k := k) (show k < 8 by omega))) dX6_gets_316 ?_
                          refine lv_iload hx hb dX6_gets_317 (lv_at hl 0 rfl) ?_
                          refine kx_ialdv (x := nI w3) hx hb hK (kmy_P hP) (dk_t.wa (k := k) (show k < 8 by omega)) (Nat.le_of_ble_eq_true rfl) (Nat.le_of_ble_eq_true rfl) (show vp_in 3 4 from ki_in (n := 3) (by omega) (by omega)) ((congrArg _ (ki_cl (n := 3) (by omega))).trans ((dk_t.wv (k := k) (j := 3) (show k < 8 by omega) (show 3 < 4 by omega)).trans (eW3))) dX6_gets_319 ?_
                          refine lv_isub hx hb dX6_gets_320 ?_
                          rw [show ((nI (((lb - w0) - w1) - w2)) - (nI w3) : Int32) = nI ((((lb - w0) - w1) - w2) - w3) from pk_sub (a := ((lb - w0) - w1) - w2) (b := w3) (by omega)]
                          refine lv_istore (lv' := [(10, .int (nI ((((lb - w0) - w1) - w2) - w3))), (11, .int 3), (9, .int (nI (nBkt (500) uu))), (8, .int (nI i8)), (0, .ref d), (1, .int (nI k)), (2, .int (nI uu)), (3, .int (nI f)), (4, .int (nI g)), (5, .int (nI fr)), (6, .ref (aOk Ad k))]) hx hb dX6_gets_321 hl (by decide) rfl (fun ls hl => ?_)
                          refine lv_iinc (v := 4) (lv' := [(11, .int 4), (10, .int (nI ((((lb - w0) - w1) - w2) - w3))), (9, .int (nI (nBkt (500) uu))), (8, .int (nI i8)), (0, .ref d), (1, .int (nI k)), (2, .int (nI uu)), (3, .int (nI f)), (4, .int (nI g)), (5, .int (nI fr)), (6, .ref (aOk Ad k))]) hx hb dX6_gets_323 hl (k := 1) rfl (by decide) (by decide) rfl (fun ls hl => ?_)
                          refine lv_goto (tgt := 280) hx hb dX6_gets_326 (by decide) ?_
                          refine lv_iload hx hb dX6_gets_280 (lv_at hl 0 rfl) ?_
                          refine lv_iconst (v := 4) hx hb dX6_gets_282 (by decide) ?_
                          refine lv_icmp_ge (tgt := 329) hx hb dX6_gets_283 (by decide) (fun _ => ?_) (fun c_101 => absurd c_101 (by decide))
                          exact absurd hws (by omega)
                        · replace c_100 : ¬ w3 ≤ lb - w0 - w1 - w2 := fun h9 => c_100 ((nI_leI (a := w3) (b := lb - w0 - w1 - w2) (by omega) (by omega)).mpr h9)
                          refine lv_aload_n hx hb dX6_gets_300 rfl (lv_at hl 4 rfl) ?_
                          refine lv_bipush (v := 8) hx hb dX6_gets_301 (by decide) ?_
                          refine lv_iload hx hb dX6_gets_303 (lv_at hl 0 rfl) ?_
                          refine kc_i (va_runV (As := [.int 8, .int 3]) (rest := []) ⟨hx, hb, hml, hown, htT⟩ (d_because l D cA _ wb b L xs hL T1 d x Ad n na (upd fF 10 (gI T1 d 10)) fO fW fC fR fB dk_t 8 3) (cwV 2 htT (kg_V m_ml_X6_159 m_im_X6_because m_sl_X6_because m_in_X6 m_cd_X6_because) rfl rfl rfl (by decide +kernel) ⟨(show 0 + 1 ≤ dd + 2 by omega), (show 8 + (3 + 11) + (0) ≤ 40 * dd + 60 by omega)⟩) (kpe_V hK hP hD hTB hTX hX hbl hbA hAO hS hA (kpe_rc hK hP dk_t.o rfl)) rfl rfl hl.1 rfl (lv_room (Nat.le_of_ble_eq_true rfl)) dX6_gets_305 ⟨(show cl9 + 0 ≤ dd + 1 by omega), Nat.le_of_ble_eq_true rfl⟩) hD hS hA (fun r_102 x_102 H locs hq_102 hP hD hS => ?_)
                          rw [hq_102.1]
                          rw [hq_102.2] at hP hD
                          refine W.widen (k := dd + 1) (n := 0) (show cl9 ≤ dd + 1 by omega) (Nat.le_of_ble_eq_true rfl) ?_
                          have hG : rGx M.2 (M.1 2) (M.2 11) (nI uu) (nI f) (nI g) na (ru k) (fun j => (rG M.2 (M.1 2) (M.2 11) (fun k => rFar M.2 k (M.1 1)) (nI uu) (nI f) (nI g) na ru dd j).1) k (rFar M.2 k (M.1 1)) = (3, 8) := by unfold rGx; rw [if_neg hC0, if_neg hC1, if_neg hC2, if_neg hC3, if_neg hC4, if_neg hC5, if_pos hC6, if_neg hC7]; rw [show rSplit M.2 k (kBkt (M.2 4 k) (nI uu)) 4 0 (M.2 6 (4 * k)) = nI 3 from by rw [ekl, hsp, if_neg (show ¬ lb < w0 by omega), if_neg (show ¬ lb < w0 + w1 by omega), if_neg (show ¬ lb < w0 + w1 + w2 by omega)]]; rfl
                          exact W.iret (v := 3) hx hb hr (fun t ht hW => ⟨⟨3, pI T1 d 10 8, rfl, ⟨(congrArg Prod.fst hG).symm, (hE1.tr ExtD.why), (show u2 _ _ _ _ _ _ = _ from u2_s).trans (congrArg Prod.snd hG).symm⟩, by rw [ht]; exact hP, va_K.moved hW.alike hK, hD⟩, hS.F ht⟩) hS.2.2 dX6_gets_308
                      · replace c_98 : ¬ w2 ≤ lb - w0 - w1 := fun h9 => c_98 ((nI_leI (a := w2) (b := lb - w0 - w1) (by omega) (by omega)).mpr h9)
                        refine lv_aload_n hx hb dX6_gets_300 rfl (lv_at hl 4 rfl) ?_
                        refine lv_bipush (v := 8) hx hb dX6_gets_301 (by decide) ?_
                        refine lv_iload hx hb dX6_gets_303 (lv_at hl 0 rfl) ?_
                        refine kc_i (va_runV (As := [.int 8, .int 2]) (rest := []) ⟨hx, hb, hml, hown, htT⟩ (d_because l D cA _ wb b L xs hL T1 d x Ad n na (upd fF 10 (gI T1 d 10)) fO fW fC fR fB dk_t 8 2) (cwV 2 htT (kg_V m_ml_X6_159 m_im_X6_because m_sl_X6_because m_in_X6 m_cd_X6_because) rfl rfl rfl (by decide +kernel) ⟨(show 0 + 1 ≤ dd + 2 by omega), (show 8 + (3 + 11) + (0) ≤ 40 * dd + 60 by omega)⟩) (kpe_V hK hP hD hTB hTX hX hbl hbA hAO hS hA (kpe_rc hK hP dk_t.o rfl)) rfl rfl hl.1 rfl (lv_room (Nat.le_of_ble_eq_true rfl)) dX6_gets_305 ⟨(show cl9 + 0 ≤ dd + 1 by omega), Nat.le_of_ble_eq_true rfl⟩) hD hS hA (fun r_103 x_103 H locs hq_103 hP hD hS => ?_)
                        rw [hq_103.1]
                        rw [hq_103.2] at hP hD
                        refine W.widen (k := dd + 1) (n := 0) (show cl9 ≤ dd + 1 by omega) (Nat.le_of_ble_eq_true rfl) ?_
                        have hG : rGx M.2 (M.1 2) (M.2 11) (nI uu) (nI f) (nI g) na (ru k) (fun j => (rG M.2 (M.1 2) (M.2 11) (fun k => rFar M.2 k (M.1 1)) (nI uu) (nI f) (nI g) na ru dd j).1) k (rFar M.2 k (M.1 1)) = (2, 8) := by unfold rGx; rw [if_neg hC0, if_neg hC1, if_neg hC2, if_neg hC3, if_neg hC4, if_neg hC5, if_pos hC6, if_neg hC7]; rw [show rSplit M.2 k (kBkt (M.2 4 k) (nI uu)) 4 0 (M.2 6 (4 * k)) = nI 2 from by rw [ekl, hsp, if_neg (show ¬ lb < w0 by omega), if_neg (show ¬ lb < w0 + w1 by omega), if_pos (show lb < w0 + w1 + w2 by omega)]]; rfl
                        exact W.iret (v := 2) hx hb hr (fun t ht hW => ⟨⟨2, pI T1 d 10 8, rfl, ⟨(congrArg Prod.fst hG).symm, (hE1.tr ExtD.why), (show u2 _ _ _ _ _ _ = _ from u2_s).trans (congrArg Prod.snd hG).symm⟩, by rw [ht]; exact hP, va_K.moved hW.alike hK, hD⟩, hS.F ht⟩) hS.2.2 dX6_gets_308
                    · replace c_96 : ¬ w1 ≤ lb - w0 := fun h9 => c_96 ((nI_leI (a := w1) (b := lb - w0) (by omega) (by omega)).mpr h9)
                      refine lv_aload_n hx hb dX6_gets_300 rfl (lv_at hl 4 rfl) ?_
                      refine lv_bipush (v := 8) hx hb dX6_gets_301 (by decide) ?_
                      refine lv_iload hx hb dX6_gets_303 (lv_at hl 0 rfl) ?_
                      refine kc_i (va_runV (As := [.int 8, .int 1]) (rest := []) ⟨hx, hb, hml, hown, htT⟩ (d_because l D cA _ wb b L xs hL T1 d x Ad n na (upd fF 10 (gI T1 d 10)) fO fW fC fR fB dk_t 8 1) (cwV 2 htT (kg_V m_ml_X6_159 m_im_X6_because m_sl_X6_because m_in_X6 m_cd_X6_because) rfl rfl rfl (by decide +kernel) ⟨(show 0 + 1 ≤ dd + 2 by omega), (show 8 + (3 + 11) + (0) ≤ 40 * dd + 60 by omega)⟩) (kpe_V hK hP hD hTB hTX hX hbl hbA hAO hS hA (kpe_rc hK hP dk_t.o rfl)) rfl rfl hl.1 rfl (lv_room (Nat.le_of_ble_eq_true rfl)) dX6_gets_305 ⟨(show cl9 + 0 ≤ dd + 1 by omega), Nat.le_of_ble_eq_true rfl⟩) hD hS hA (fun r_104 x_104 H locs hq_104 hP hD hS => ?_)
                      rw [hq_104.1]
                      rw [hq_104.2] at hP hD
                      refine W.widen (k := dd + 1) (n := 0) (show cl9 ≤ dd + 1 by omega) (Nat.le_of_ble_eq_true rfl) ?_
                      have hG : rGx M.2 (M.1 2) (M.2 11) (nI uu) (nI f) (nI g) na (ru k) (fun j => (rG M.2 (M.1 2) (M.2 11) (fun k => rFar M.2 k (M.1 1)) (nI uu) (nI f) (nI g) na ru dd j).1) k (rFar M.2 k (M.1 1)) = (1, 8) := by unfold rGx; rw [if_neg hC0, if_neg hC1, if_neg hC2, if_neg hC3, if_neg hC4, if_neg hC5, if_pos hC6, if_neg hC7]; rw [show rSplit M.2 k (kBkt (M.2 4 k) (nI uu)) 4 0 (M.2 6 (4 * k)) = nI 1 from by rw [ekl, hsp, if_neg (show ¬ lb < w0 by omega), if_pos (show lb < w0 + w1 by omega)]]; rfl
                      exact W.iret (v := 1) hx hb hr (fun t ht hW => ⟨⟨1, pI T1 d 10 8, rfl, ⟨(congrArg Prod.fst hG).symm, (hE1.tr ExtD.why), (show u2 _ _ _ _ _ _ = _ from u2_s).trans (congrArg Prod.snd hG).symm⟩, by rw [ht]; exact hP, va_K.moved hW.alike hK, hD⟩, hS.F ht⟩) hS.2.2 dX6_gets_308
                  · replace c_94 : ¬ w0 ≤ lb := fun h9 => c_94 ((nI_leI (a := w0) (b := lb) (by omega) (by omega)).mpr h9)
                    refine lv_aload_n hx hb dX6_gets_300 rfl (lv_at hl 4 rfl) ?_
                    refine lv_bipush (v := 8) hx hb dX6_gets_301 (by decide) ?_
                    refine lv_iload hx hb dX6_gets_303 (lv_at hl 0 rfl) ?_
                    refine kc_i (va_runV (As := [.int 8, .int 0]) (rest := []) ⟨hx, hb, hml, hown, htT⟩ (d_because l D cA _ wb b L xs hL T1 d x Ad n na (upd fF 10 (gI T1 d 10)) fO fW fC fR fB dk_t 8 0) (cwV 2 htT (kg_V m_ml_X6_159 m_im_X6_because m_sl_X6_because m_in_X6 m_cd_X6_because) rfl rfl rfl (by decide +kernel) ⟨(show 0 + 1 ≤ dd + 2 by omega), (show 8 + (3 + 11) + (0) ≤ 40 * dd + 60 by omega)⟩) (kpe_V hK hP hD hTB hTX hX hbl hbA hAO hS hA (kpe_rc hK hP dk_t.o rfl)) rfl rfl hl.1 rfl (lv_room (Nat.le_of_ble_eq_true rfl)) dX6_gets_305 ⟨(show cl9 + 0 ≤ dd + 1 by omega), Nat.le_of_ble_eq_true rfl⟩) hD hS hA (fun r_105 x_105 H locs hq_105 hP hD hS => ?_)
                    rw [hq_105.1]
                    rw [hq_105.2] at hP hD
                    refine W.widen (k := dd + 1) (n := 0) (show cl9 ≤ dd + 1 by omega) (Nat.le_of_ble_eq_true rfl) ?_
                    have hG : rGx M.2 (M.1 2) (M.2 11) (nI uu) (nI f) (nI g) na (ru k) (fun j => (rG M.2 (M.1 2) (M.2 11) (fun k => rFar M.2 k (M.1 1)) (nI uu) (nI f) (nI g) na ru dd j).1) k (rFar M.2 k (M.1 1)) = (0, 8) := by unfold rGx; rw [if_neg hC0, if_neg hC1, if_neg hC2, if_neg hC3, if_neg hC4, if_neg hC5, if_pos hC6, if_neg hC7]; rw [show rSplit M.2 k (kBkt (M.2 4 k) (nI uu)) 4 0 (M.2 6 (4 * k)) = nI 0 from by rw [ekl, hsp, if_pos (show lb < w0 by omega)]]; rfl
                    exact W.iret (v := 0) hx hb hr (fun t ht hW => ⟨⟨0, pI T1 d 10 8, rfl, ⟨(congrArg Prod.fst hG).symm, (hE1.tr ExtD.why), (show u2 _ _ _ _ _ _ = _ from u2_s).trans (congrArg Prod.snd hG).symm⟩, by rw [ht]; exact hP, va_K.moved hW.alike hK, hD⟩, hS.F ht⟩) hS.2.2 dX6_gets_308
                · exact absurd ((nI_leI (a := 0) (b := i8) (by omega) (by omega)).mpr (by omega)) c_91
              · replace c_90 : ¬ nBkt (sa + 1) uu < fr := fun h9 => c_90 ((nI_ltI (a := nBkt (sa + 1) uu) (b := fr) (by omega) (by omega)).mpr h9)
                have hC6 : ¬ kBkt (M.2 4 k + 1) (nI uu) < rFar M.2 k (M.1 1) := by rw [show kBkt (M.2 4 k + 1) (nI uu) = nI (nBkt (sa + 1) uu) from by rw [esa, show nI sa + (1 : Int32) = nI (sa + 1) from nI_add sa 1]; exact kBkt_n (by omega) huu, hfr]; exact fun e9 => c_90 ((nI_ltI (by omega) (by omega)).mp e9)
                refine lv_aload_n hx hb dX6_gets_236 rfl (lv_at hl 2 rfl) ?_
                refine lv_bipush (v := 6) hx hb dX6_gets_237 (by decide) ?_
                refine lv_iconst (v := 0) hx hb dX6_gets_239 (by decide) ?_
                refine kc_i (va_runV (As := [.int 6, .int 0]) (rest := []) ⟨hx, hb, hml, hown, htT⟩ (d_because l D cA _ wb b L xs hL T1 d x Ad n na (upd fF 10 (gI T1 d 10)) fO fW fC fR fB dk_t 6 0) (cwV 2 htT (kg_V m_ml_X6_159 m_im_X6_because m_sl_X6_because m_in_X6 m_cd_X6_because) rfl rfl rfl (by decide +kernel) ⟨(show 0 + 1 ≤ dd + 2 by omega), (show 8 + (3 + 11) + (0) ≤ 40 * dd + 60 by omega)⟩) (kpe_V hK hP hD hTB hTX hX hbl hbA hAO hS hA (kpe_rc hK hP dk_t.o rfl)) rfl rfl hl.1 rfl (lv_room (Nat.le_of_ble_eq_true rfl)) dX6_gets_240 ⟨(show cl9 + 0 ≤ dd + 1 by omega), Nat.le_of_ble_eq_true rfl⟩) hD hS hA (fun r_106 x_106 H locs hq_106 hP hD hS => ?_)
                rw [hq_106.1]
                rw [hq_106.2] at hP hD
                refine W.widen (k := dd + 1) (n := 0) (show cl9 ≤ dd + 1 by omega) (Nat.le_of_ble_eq_true rfl) ?_
                have hG : rGx M.2 (M.1 2) (M.2 11) (nI uu) (nI f) (nI g) na (ru k) (fun j => (rG M.2 (M.1 2) (M.2 11) (fun k => rFar M.2 k (M.1 1)) (nI uu) (nI f) (nI g) na ru dd j).1) k (rFar M.2 k (M.1 1)) = (0, 6) := by unfold rGx; rw [if_neg hC0, if_neg hC1, if_neg hC2, if_neg hC3, if_neg hC4, if_neg hC5, if_neg hC6]
                exact W.iret (v := 0) hx hb hr (fun t ht hW => ⟨⟨0, pI T1 d 10 6, rfl, ⟨(congrArg Prod.fst hG).symm, (hE1.tr ExtD.why), (show u2 _ _ _ _ _ _ = _ from u2_s).trans (congrArg Prod.snd hG).symm⟩, by rw [ht]; exact hP, va_K.moved hW.alike hK, hD⟩, hS.F ht⟩) hS.2.2 dX6_gets_243
            · have hne7 : M.2 12 k ≠ -1 := fun e9 => nI_m1 (a := l7) (by omega) (hla.symm.trans e9)
              have eO8 : fO k 8 = nI lf := (hvm.2.1.2 k hk hne7).1.trans elf
              have eO9 : fO k 9 = nI lt := (hvm.2.1.2 k hk hne7).2.trans elt
              have ekb : kBkt (500 + M.2 12 k) (nI uu) = nI (nBkt (500 + l7) uu) := by rw [hla, show (500 : Int32) + nI l7 = nI (500 + l7) from nI_add 500 l7]; exact kBkt_n (by omega) huu
              refine lv_sipush (v := 500) hx hb dX6_gets_167 (by decide) ?_
              refine lv_iconst (v := 0) hx hb dX6_gets_170 (by decide) ?_
              refine lv_aload hx hb dX6_gets_171 (lv_at hl 7 rfl) ?_
              refine lv_bipush (v := 7) hx hb dX6_gets_173 (by decide) ?_
              refine kx_ialdv (x := nI l7) hx hb hK (kmy_P hP) (dk_t.oa (k := k) (show k < n by omega)) (Nat.le_of_ble_eq_true rfl) (Nat.le_of_ble_eq_true rfl) (show vp_in 7 12 from ki_in (n := 7) (by omega) (by omega)) ((congrArg _ (ki_cl (n := 7) (by omega))).trans ((dk_t.ov (k := k) (j := 7) (show k < n by omega) (show 7 < 12 by omega)).trans ((eO7.trans hla)))) dX6_gets_175 ?_
              refine va_mmax (rest := [.int 500]) hx hb (hml.trans hl.1.symm) hown (htT _ m_ml_X6_175) (htT _ m_st_J9_max_7cf53) (htT _ m_in_Math) (htT _ m_cd_J9_max_7cf53) (by show 1 ≤ dd + 2; omega) (by show 1 + 13 ≤ 40 * dd + 60; omega) (by show cl9 ≤ dd + 1; omega) (Nat.le_of_ble_eq_true rfl) dX6_gets_176 ?_
              rw [show ((if (0 : Int32) < nI l7 then nI l7 else 0) : Int32) = nI l7 from kMax_0n (by omega)]
              refine lv_iadd hx hb dX6_gets_179 ?_
              rw [show (500 + (nI l7) : Int32) = nI (500 + l7) from nI_add 500 l7]
              refine lv_iload_n hx hb dX6_gets_180 rfl (lv_at hl 3 rfl) ?_
              refine kc_i (va_runS (As := [.int (nI (500 + l7)), .int (nI uu)]) (rest := []) ⟨hx, hb, hml, hown, htT⟩ (d_bucket l D cA _ (PW cA T1 ++ wb) (500 + l7) uu (by omega) huu) (cwS 2 htT (kg_S m_ml_X6_172 m_st_X6_bucket m_in_X6 m_cd_X6_bucket) rfl rfl rfl (by decide +kernel) ⟨(show 0 + 1 ≤ dd + 2 by omega), (show 8 + (4 + 11) + (0) ≤ 40 * dd + 60 by omega)⟩) (kp_S hK hP hD hTB) rfl rfl hl.1 rfl (lv_room (Nat.le_of_ble_eq_true rfl)) dX6_gets_181 ⟨(show cl9 + 0 ≤ dd + 1 by omega), Nat.le_of_ble_eq_true rfl⟩) hD hS hA (fun r_107 x_107 H locs hq_107 hP hD hS => ?_)
              rw [hq_107]
              have hb_181 := nBkt_lt (500 + l7) uu
              refine lv_istore (lv' := [(9, .int (nI (nBkt (500 + l7) uu))), (8, .int (nI i8)), (0, .ref d), (1, .int (nI k)), (2, .int (nI uu)), (3, .int (nI f)), (4, .int (nI g)), (5, .int (nI fr)), (6, .ref (aOk Ad k))]) hx hb dX6_gets_184 hl (by decide) rfl (fun ls hl => ?_)
              refine lv_aload hx hb dX6_gets_186 (lv_at hl 8 rfl) ?_
              refine lv_bipush (v := 7) hx hb dX6_gets_188 (by decide) ?_
              refine kx_ialdv (x := nI l7) hx hb hK (kmy_P hP) (dk_t.oa (k := k) (show k < n by omega)) (Nat.le_of_ble_eq_true rfl) (Nat.le_of_ble_eq_true rfl) (show vp_in 7 12 from ki_in (n := 7) (by omega) (by omega)) ((congrArg _ (ki_cl (n := 7) (by omega))).trans ((dk_t.ov (k := k) (j := 7) (show k < n by omega) (show 7 < 12 by omega)).trans ((eO7.trans hla)))) dX6_gets_190 ?_
              refine lv_if_lt (tgt := 221) hx hb dX6_gets_191 (by decide) (fun c_108 => ?_) (fun c_108 => ?_)
              · exact absurd ((nI_ltI (a := l7) (b := 0) (by omega) (by omega)).mp c_108) (by omega)
              · replace c_108 : ¬ (l7 < 0) := fun h9 => c_108 ((nI_ltI (a := l7) (b := 0) (by omega) (by omega)).mpr h9)
                refine lv_iload hx hb dX6_gets_194 (lv_at hl 0 rfl) ?_
                refine lv_aload hx hb dX6_gets_196 (lv_at hl 8 rfl) ?_
                refine lv_bipush (v := 8) hx hb dX6_gets_198 (by decide) ?_
                refine kx_ialdv (x := nI lf) hx hb hK (kmy_P hP) (dk_t.oa (k := k) (show k < n by omega)) (Nat.le_of_ble_eq_true rfl) (Nat.le_of_ble_eq_true rfl) (show vp_in 8 12 from ki_in (n := 8) (by omega) (by omega)) ((congrArg _ (ki_cl (n := 8) (by omega))).trans ((dk_t.ov (k := k) (j := 8) (show k < n by omega) (show 8 < 12 by omega)).trans (eO8))) dX6_gets_200 ?_
                refine lv_icmp_lt (tgt := 214) hx hb dX6_gets_201 (by decide) (fun c_109 => ?_) (fun c_109 => ?_)
                · replace c_109 := (nI_ltI (a := nBkt (500 + l7) uu) (b := lf) (by omega) (by omega)).mp c_109
                  have hC5 : M.2 12 k ≠ -1 ∧ kIn (kBkt (500 + M.2 12 k) (nI uu)) (M.2 13 k) (M.2 14 k - 1) = 0 := ⟨hne7, by rw [ekb, elf, elt]; exact (kIn_cut (a := nBkt (500 + l7) uu) (f := lf) (t := lt) (by omega) (by omega) (by omega)).mpr (by omega)⟩
                  refine lv_aload_n hx hb dX6_gets_214 rfl (lv_at hl 2 rfl) ?_
                  refine lv_iconst (v := 5) hx hb dX6_gets_215 (by decide) ?_
                  refine lv_iconst (v := 0) hx hb dX6_gets_216 (by decide) ?_
                  refine kc_i (va_runV (As := [.int 5, .int 0]) (rest := []) ⟨hx, hb, hml, hown, htT⟩ (d_because l D cA _ wb b L xs hL T1 d x Ad n na (upd fF 10 (gI T1 d 10)) fO fW fC fR fB dk_t 5 0) (cwV 2 htT (kg_V m_ml_X6_159 m_im_X6_because m_sl_X6_because m_in_X6 m_cd_X6_because) rfl rfl rfl (by decide +kernel) ⟨(show 0 + 1 ≤ dd + 2 by omega), (show 8 + (3 + 11) + (0) ≤ 40 * dd + 60 by omega)⟩) (kpe_V hK hP hD hTB hTX hX hbl hbA hAO hS hA (kpe_rc hK hP dk_t.o rfl)) rfl rfl hl.1 rfl (lv_room (Nat.le_of_ble_eq_true rfl)) dX6_gets_217 ⟨(show cl9 + 0 ≤ dd + 1 by omega), Nat.le_of_ble_eq_true rfl⟩) hD hS hA (fun r_110 x_110 H locs hq_110 hP hD hS => ?_)
                  rw [hq_110.1]
                  rw [hq_110.2] at hP hD
                  refine W.widen (k := dd + 1) (n := 0) (show cl9 ≤ dd + 1 by omega) (Nat.le_of_ble_eq_true rfl) ?_
                  have hG : rGx M.2 (M.1 2) (M.2 11) (nI uu) (nI f) (nI g) na (ru k) (fun j => (rG M.2 (M.1 2) (M.2 11) (fun k => rFar M.2 k (M.1 1)) (nI uu) (nI f) (nI g) na ru dd j).1) k (rFar M.2 k (M.1 1)) = (0, 5) := by unfold rGx; rw [if_neg hC0, if_neg hC1, if_neg hC2, if_neg hC3, if_neg hC4, if_pos hC5]
                  exact W.iret (v := 0) hx hb hr (fun t ht hW => ⟨⟨0, pI T1 d 10 5, rfl, ⟨(congrArg Prod.fst hG).symm, (hE1.tr ExtD.why), (show u2 _ _ _ _ _ _ = _ from u2_s).trans (congrArg Prod.snd hG).symm⟩, by rw [ht]; exact hP, va_K.moved hW.alike hK, hD⟩, hS.F ht⟩) hS.2.2 dX6_gets_220
                · replace c_109 : ¬ nBkt (500 + l7) uu < lf := fun h9 => c_109 ((nI_ltI (a := nBkt (500 + l7) uu) (b := lf) (by omega) (by omega)).mpr h9)
                  refine lv_iload hx hb dX6_gets_204 (lv_at hl 0 rfl) ?_
                  refine lv_aload hx hb dX6_gets_206 (lv_at hl 8 rfl) ?_
                  refine lv_bipush (v := 9) hx hb dX6_gets_208 (by decide) ?_
                  refine kx_ialdv (x := nI lt) hx hb hK (kmy_P hP) (dk_t.oa (k := k) (show k < n by omega)) (Nat.le_of_ble_eq_true rfl) (Nat.le_of_ble_eq_true rfl) (show vp_in 9 12 from ki_in (n := 9) (by omega) (by omega)) ((congrArg _ (ki_cl (n := 9) (by omega))).trans ((dk_t.ov (k := k) (j := 9) (show k < n by omega) (show 9 < 12 by omega)).trans (eO9))) dX6_gets_210 ?_
                  refine lv_icmp_lt (tgt := 221) hx hb dX6_gets_211 (by decide) (fun c_111 => ?_) (fun c_111 => ?_)
                  · replace c_111 := (nI_ltI (a := nBkt (500 + l7) uu) (b := lt) (by omega) (by omega)).mp c_111
                    have hC5 : ¬ (M.2 12 k ≠ -1 ∧ kIn (kBkt (500 + M.2 12 k) (nI uu)) (M.2 13 k) (M.2 14 k - 1) = 0) := fun e9 => by
                      have e9 := e9.2
                      rw [ekb, elf, elt] at e9
                      exact absurd ((kIn_cut (a := nBkt (500 + l7) uu) (f := lf) (t := lt) (by omega) (by omega) (by omega)).mp e9) (by omega)
                    refine lv_aload hx hb dX6_gets_221 (lv_at hl 8 rfl) ?_
                    refine lv_iconst (v := 0) hx hb dX6_gets_223 (by decide) ?_
                    refine kx_ialdv (x := nI sa) hx hb hK (kmy_P hP) (dk_t.oa (k := k) (show k < n by omega)) (Nat.le_of_ble_eq_true rfl) (Nat.le_of_ble_eq_true rfl) (show vp_in 0 12 from ki_in (n := 0) (by omega) (by omega)) ((congrArg _ (ki_cl (n := 0) (by omega))).trans ((dk_t.ov (k := k) (j := 0) (show k < n by omega) (show 0 < 12 by omega)).trans (eO0))) dX6_gets_224 ?_
                    refine lv_iconst (v := 1) hx hb dX6_gets_225 (by decide) ?_
                    refine lv_iadd hx hb dX6_gets_226 ?_
                    rw [show ((nI sa) + 1 : Int32) = nI (sa + 1) from nI_add sa 1]
                    refine lv_iload_n hx hb dX6_gets_227 rfl (lv_at hl 4 rfl) ?_
                    refine kc_i (va_runS (As := [.int (nI (sa + 1)), .int (nI uu)]) (rest := []) ⟨hx, hb, hml, hown, htT⟩ (d_bucket l D cA _ (PW cA T1 ++ wb) (sa + 1) uu (by omega) huu) (cwS 2 htT (kg_S m_ml_X6_172 m_st_X6_bucket m_in_X6 m_cd_X6_bucket) rfl rfl rfl (by decide +kernel) ⟨(show 0 + 1 ≤ dd + 2 by omega), (show 8 + (4 + 11) + (0) ≤ 40 * dd + 60 by omega)⟩) (kp_S hK hP hD hTB) rfl rfl hl.1 rfl (lv_room (Nat.le_of_ble_eq_true rfl)) dX6_gets_228 ⟨(show cl9 + 0 ≤ dd + 1 by omega), Nat.le_of_ble_eq_true rfl⟩) hD hS hA (fun r_112 x_112 H locs hq_112 hP hD hS => ?_)
                    rw [hq_112]
                    have hb_228 := nBkt_lt (sa + 1) uu
                    refine lv_iload hx hb dX6_gets_231 (lv_at hl 7 rfl) ?_
                    refine lv_icmp_lt (tgt := 244) hx hb dX6_gets_233 (by decide) (fun c_113 => ?_) (fun c_113 => ?_)
                    · replace c_113 := (nI_ltI (a := nBkt (sa + 1) uu) (b := fr) (by omega) (by omega)).mp c_113
                      have hC6 : kBkt (M.2 4 k + 1) (nI uu) < rFar M.2 k (M.1 1) := by rw [show kBkt (M.2 4 k + 1) (nI uu) = nI (nBkt (sa + 1) uu) from by rw [esa, show nI sa + (1 : Int32) = nI (sa + 1) from nI_add sa 1]; exact kBkt_n (by omega) huu, hfr]; exact (nI_ltI (by omega) (by omega)).mpr c_113
                      refine lv_iload hx hb dX6_gets_244 (lv_at hl 1 rfl) ?_
                      refine lv_if_ge (tgt := 267) hx hb dX6_gets_246 (by decide) (fun c_114 => ?_) (fun c_114 => ?_)
                      · replace c_114 := (nI_leI (a := 0) (b := i8) (by omega) (by omega)).mp c_114
                        have hC7 : ¬ (0 < ru k ∧ rHold M.2 k (nI f) (nI g) (ru k) 0 = -1) := fun e9 => nI_m1 (a := i8) (by omega) (hrh.symm.trans e9.2)
                        refine lv_aload hx hb dX6_gets_267 (lv_at hl 8 rfl) ?_
                        refine lv_iconst (v := 0) hx hb dX6_gets_269 (by decide) ?_
                        refine kx_ialdv (x := nI sa) hx hb hK (kmy_P hP) (dk_t.oa (k := k) (show k < n by omega)) (Nat.le_of_ble_eq_true rfl) (Nat.le_of_ble_eq_true rfl) (show vp_in 0 12 from ki_in (n := 0) (by omega) (by omega)) ((congrArg _ (ki_cl (n := 0) (by omega))).trans ((dk_t.ov (k := k) (j := 0) (show k < n by omega) (show 0 < 12 by omega)).trans (eO0))) dX6_gets_270 ?_
                        refine lv_iload_n hx hb dX6_gets_271 rfl (lv_at hl 4 rfl) ?_
                        refine kc_i (va_runS (As := [.int (nI sa), .int (nI uu)]) (rest := []) ⟨hx, hb, hml, hown, htT⟩ (d_bucket l D cA _ (PW cA T1 ++ wb) (sa) uu (by omega) huu) (cwS 2 htT (kg_S m_ml_X6_172 m_st_X6_bucket m_in_X6 m_cd_X6_bucket) rfl rfl rfl (by decide +kernel) ⟨(show 0 + 1 ≤ dd + 2 by omega), (show 8 + (4 + 11) + (0) ≤ 40 * dd + 60 by omega)⟩) (kp_S hK hP hD hTB) rfl rfl hl.1 rfl (lv_room (Nat.le_of_ble_eq_true rfl)) dX6_gets_272 ⟨(show cl9 + 0 ≤ dd + 1 by omega), Nat.le_of_ble_eq_true rfl⟩) hD hS hA (fun r_115 x_115 H locs hq_115 hP hD hS => ?_)
                        rw [hq_115]
                        have hb_272 := nBkt_lt (sa) uu
                        obtain ⟨lb, elb⟩ : ∃ lb, lb = nBkt sa uu := ⟨_, rfl⟩
                        rw [← elb]
                        have hlb : lb < 1000 := by omega
                        have hsp := spl_n (T := M.2) ew0 ew1 ew2 ew3 hws hlb
                        have ekl : kBkt (M.2 4 k) (nI uu) = nI lb := by rw [elb, esa]; exact kBkt_n (by omega) huu
                        refine lv_istore (lv' := [(10, .int (nI lb)), (9, .int (nI (nBkt (500 + l7) uu))), (8, .int (nI i8)), (0, .ref d), (1, .int (nI k)), (2, .int (nI uu)), (3, .int (nI f)), (4, .int (nI g)), (5, .int (nI fr)), (6, .ref (aOk Ad k))]) hx hb dX6_gets_275 hl (by decide) rfl (fun ls hl => ?_)
                        refine lv_iconst (v := 0) hx hb dX6_gets_277 (by decide) ?_
                        refine lv_istore (lv' := [(11, .int 0), (10, .int (nI lb)), (9, .int (nI (nBkt (500 + l7) uu))), (8, .int (nI i8)), (0, .ref d), (1, .int (nI k)), (2, .int (nI uu)), (3, .int (nI f)), (4, .int (nI g)), (5, .int (nI fr)), (6, .ref (aOk Ad k))]) hx hb dX6_gets_278 hl (by decide) rfl (fun ls hl => ?_)
                        refine lv_iload hx hb dX6_gets_280 (lv_at hl 0 rfl) ?_
                        refine lv_iconst (v := 4) hx hb dX6_gets_282 (by decide) ?_
                        refine lv_icmp_ge (tgt := 329) hx hb dX6_gets_283 (by decide) (fun c_116 => absurd c_116 (by decide)) (fun _ => ?_)
                        refine lv_iload hx hb dX6_gets_286 (lv_at hl 1 rfl) ?_
                        refine lv_aload_n hx hb dX6_gets_288 rfl (lv_at hl 4 rfl) ?_
                        refine kd_gets (r := (aW Ad)) hx hb htT m_u_X6 hown hK hP dk_t.o rfl 7 (by decide) (by decide) rfl dk_t.q7 (htT _ m_fl_X6_23) dX6_gets_289 ?_
                        refine lv_iload_n hx hb dX6_gets_292 rfl (lv_at hl 5 rfl) ?_
                        refine ky_alda (r := some (aWk Ad k)) hx hb hK hP dk_t.aw (show vp_in (nI (k)) 8 from ki_in (by omega) (by omega)) ((congrArg _ (ki_cl (n := k) (by omega))).trans (dk_t.wp (k := k) (show k < 8 by omega))) dX6_gets_293 ?_
                        refine lv_iload hx hb dX6_gets_294 (lv_at hl 0 rfl) ?_
                        refine kx_ialdv (x := nI w0) hx hb hK (kmy_P hP) (dk_t.wa (k := k) (show k < 8 by omega)) (Nat.le_of_ble_eq_true rfl) (Nat.le_of_ble_eq_true rfl) (show vp_in 0 4 from ki_in (n := 0) (by omega) (by omega)) ((congrArg _ (ki_cl (n := 0) (by omega))).trans ((dk_t.wv (k := k) (j := 0) (show k < 8 by omega) (show 0 < 4 by omega)).trans (eW0))) dX6_gets_296 ?_
                        refine lv_icmp_ge (tgt := 309) hx hb dX6_gets_297 (by decide) (fun c_117 => ?_) (fun c_117 => ?_)
                        · replace c_117 := (nI_leI (a := w0) (b := lb) (by omega) (by omega)).mp c_117
                          refine lv_iload hx hb dX6_gets_309 (lv_at hl 1 rfl) ?_
                          refine lv_aload_n hx hb dX6_gets_311 rfl (lv_at hl 4 rfl) ?_
                          refine kd_gets (r := (aW Ad)) hx hb htT m_u_X6 hown hK hP dk_t.o rfl 7 (by decide) (by decide) rfl dk_t.q7 (htT _ m_fl_X6_23) dX6_gets_312 ?_
                          refine lv_iload_n hx hb dX6_gets_315 rfl (lv_at hl 5 rfl) ?_
                          refine ky_alda (r := some (aWk Ad k)) hx hb hK hP dk_t.aw (show vp_in (nI (k)) 8 from ki_in (by omega) (by omega)) ((congrArg _ (ki_cl (n := k) (by omega))).trans (dk_t.wp (k := k) (show k < 8 by omega))) dX6_gets_316 ?_
                          refine lv_iload hx hb dX6_gets_317 (lv_at hl 0 rfl) ?_
                          refine kx_ialdv (x := nI w0) hx hb hK (kmy_P hP) (dk_t.wa (k := k) (show k < 8 by omega)) (Nat.le_of_ble_eq_true rfl) (Nat.le_of_ble_eq_true rfl) (show vp_in 0 4 from ki_in (n := 0) (by omega) (by omega)) ((congrArg _ (ki_cl (n := 0) (by omega))).trans ((dk_t.wv (k := k) (j := 0) (show k < 8 by omega) (show 0 < 4 by omega)).trans (eW0))) dX6_gets_319 ?_
                          refine lv_isub hx hb dX6_gets_320 ?_
                          rw [show ((nI lb) - (nI w0) : Int32) = nI (lb - w0) from pk_sub (a := lb) (b := w0) (by omega)]
                          refine lv_istore (lv' := [(10, .int (nI (lb - w0))), (11, .int 0), (9, .int (nI (nBkt (500 + l7) uu))), (8, .int (nI i8)), (0, .ref d), (1, .int (nI k)), (2, .int (nI uu)), (3, .int (nI f)), (4, .int (nI g)), (5, .int (nI fr)), (6, .ref (aOk Ad k))]) hx hb dX6_gets_321 hl (by decide) rfl (fun ls hl => ?_)
                          refine lv_iinc (v := 1) (lv' := [(11, .int 1), (10, .int (nI (lb - w0))), (9, .int (nI (nBkt (500 + l7) uu))), (8, .int (nI i8)), (0, .ref d), (1, .int (nI k)), (2, .int (nI uu)), (3, .int (nI f)), (4, .int (nI g)), (5, .int (nI fr)), (6, .ref (aOk Ad k))]) hx hb dX6_gets_323 hl (k := 1) rfl (by decide) (by decide) rfl (fun ls hl => ?_)
                          refine lv_goto (tgt := 280) hx hb dX6_gets_326 (by decide) ?_
                          refine lv_iload hx hb dX6_gets_280 (lv_at hl 0 rfl) ?_
                          refine lv_iconst (v := 4) hx hb dX6_gets_282 (by decide) ?_
                          refine lv_icmp_ge (tgt := 329) hx hb dX6_gets_283 (by decide) (fun c_118 => absurd c_118 (by decide)) (fun _ => ?_)
                          refine lv_iload hx hb dX6_gets_286 (lv_at hl 1 rfl) ?_
                          refine lv_aload_n hx hb dX6_gets_288 rfl (lv_at hl 4 rfl) ?_
                          refine kd_gets (r := (aW Ad)) hx hb htT m_u_X6 hown hK hP dk_t.o rfl 7 (by decide) (by decide) rfl dk_t.q7 (htT _ m_fl_X6_23) dX6_gets_289 ?_
                          refine lv_iload_n hx hb dX6_gets_292 rfl (lv_at hl 5 rfl) ?_
                          refine ky_alda (r := some (aWk Ad k)) hx hb hK hP dk_t.aw (show vp_in (nI (k)) 8 from ki_in (by omega) (by omega)) ((congrArg _ (ki_cl (n := k) (by omega))).trans (dk_t.wp (k := k) (show k < 8 by omega))) dX6_gets_293 ?_
                          refine lv_iload hx hb dX6_gets_294 (lv_at hl 0 rfl) ?_
                          refine kx_ialdv (x := nI w1) hx hb hK (kmy_P hP) (dk_t.wa (k := k) (show k < 8 by omega)) (Nat.le_of_ble_eq_true rfl) (Nat.le_of_ble_eq_true rfl) (show vp_in 1 4 from ki_in (n := 1) (by omega) (by omega)) ((congrArg _ (ki_cl (n := 1) (by omega))).trans ((dk_t.wv (k := k) (j := 1) (show k < 8 by omega) (show 1 < 4 by omega)).trans (eW1))) dX6_gets_296 ?_
                          refine lv_icmp_ge (tgt := 309) hx hb dX6_gets_297 (by decide) (fun c_119 => ?_) (fun c_119 => ?_)
                          · replace c_119 := (nI_leI (a := w1) (b := lb - w0) (by omega) (by omega)).mp c_119
                            refine lv_iload hx hb dX6_gets_309 (lv_at hl 1 rfl) ?_
                            refine lv_aload_n hx hb dX6_gets_311 rfl (lv_at hl 4 rfl) ?_
                            refine kd_gets (r := (aW Ad)) hx hb htT m_u_X6 hown hK hP dk_t.o rfl 7 (by decide) (by decide) rfl dk_t.q7 (htT _ m_fl_X6_23) dX6_gets_312 ?_
                            refine lv_iload_n hx hb dX6_gets_315 rfl (lv_at hl 5 rfl) ?_
                            refine ky_alda (r := some (aWk Ad k)) hx hb hK hP dk_t.aw (show vp_in (nI (k)) 8 from ki_in (by omega) (by omega)) ((congrArg _ (ki_cl (n := k) (by omega))).trans (dk_t.wp (k := k) (show k < 8 by omega))) dX6_gets_316 ?_
                            refine lv_iload hx hb dX6_gets_317 (lv_at hl 0 rfl) ?_
                            refine kx_ialdv (x := nI w1) hx hb hK (kmy_P hP) (dk_t.wa (k := k) (show k < 8 by omega)) (Nat.le_of_ble_eq_true rfl) (Nat.le_of_ble_eq_true rfl) (show vp_in 1 4 from ki_in (n := 1) (by omega) (by omega)) ((congrArg _ (ki_cl (n := 1) (by omega))).trans ((dk_t.wv (k := k) (j := 1) (show k < 8 by omega) (show 1 < 4 by omega)).trans (eW1))) dX6_gets_319 ?_
                            refine lv_isub hx hb dX6_gets_320 ?_
                            rw [show ((nI (lb - w0)) - (nI w1) : Int32) = nI ((lb - w0) - w1) from pk_sub (a := lb - w0) (b := w1) (by omega)]
                            refine lv_istore (lv' := [(10, .int (nI ((lb - w0) - w1))), (11, .int 1), (9, .int (nI (nBkt (500 + l7) uu))), (8, .int (nI i8)), (0, .ref d), (1, .int (nI k)), (2, .int (nI uu)), (3, .int (nI f)), (4, .int (nI g)), (5, .int (nI fr)), (6, .ref (aOk Ad k))]) hx hb dX6_gets_321 hl (by decide) rfl (fun ls hl => ?_)
                            refine lv_iinc (v := 2) (lv' := [(11, .int 2), (10, .int (nI ((lb - w0) - w1))), (9, .int (nI (nBkt (500 + l7) uu))), (8, .int (nI i8)), (0, .ref d), (1, .int (nI k)), (2, .int (nI uu)), (3, .int (nI f)), (4, .int (nI g)), (5, .int (nI fr)), (6, .ref (aOk Ad k))]) hx hb dX6_gets_323 hl (k := 1) rfl (by decide) (by decide) rfl (fun ls hl => ?_)
                            refine lv_goto (tgt := 280) hx hb dX6_gets_326 (by decide) ?_
                            refine lv_iload hx hb dX6_gets_280 (lv_at hl 0 rfl) ?_
                            refine lv_iconst (v := 4) hx hb dX6_gets_282 (by decide) ?_
                            refine lv_icmp_ge (tgt := 329) hx hb dX6_gets_283 (by decide) (fun c_120 => absurd c_120 (by decide)) (fun _ => ?_)
                            refine lv_iload hx hb dX6_gets_286 (lv_at hl 1 rfl) ?_
                            refine lv_aload_n hx hb dX6_gets_288 rfl (lv_at hl 4 rfl) ?_
                            refine kd_gets (r := (aW Ad)) hx hb htT m_u_X6 hown hK hP dk_t.o rfl 7 (by decide) (by decide) rfl dk_t.q7 (htT _ m_fl_X6_23) dX6_gets_289 ?_
                            refine lv_iload_n hx hb dX6_gets_292 rfl (lv_at hl 5 rfl) ?_
                            refine ky_alda (r := some (aWk Ad k)) hx hb hK hP dk_t.aw (show vp_in (nI (k)) 8 from ki_in (by omega) (by omega)) ((congrArg _ (ki_cl (n := k) (by omega))).trans (dk_t.wp (k := k) (show k < 8 by omega))) dX6_gets_293 ?_
                            refine lv_iload hx hb dX6_gets_294 (lv_at hl 0 rfl) ?_
                            refine kx_ialdv (x := nI w2) hx hb hK (kmy_P hP) (dk_t.wa (k := k) (show k < 8 by omega)) (Nat.le_of_ble_eq_true rfl) (Nat.le_of_ble_eq_true rfl) (show vp_in 2 4 from ki_in (n := 2) (by omega) (by omega)) ((congrArg _ (ki_cl (n := 2) (by omega))).trans ((dk_t.wv (k := k) (j := 2) (show k < 8 by omega) (show 2 < 4 by omega)).trans (eW2))) dX6_gets_296 ?_
                            refine lv_icmp_ge (tgt := 309) hx hb dX6_gets_297 (by decide) (fun c_121 => ?_) (fun c_121 => ?_)
                            · replace c_121 := (nI_leI (a := w2) (b := lb - w0 - w1) (by omega) (by omega)).mp c_121
                              refine lv_iload hx hb dX6_gets_309 (lv_at hl 1 rfl) ?_
                              refine lv_aload_n hx hb dX6_gets_311 rfl (lv_at hl 4 rfl) ?_
                              refine kd_gets (r := (aW Ad)) hx hb htT m_u_X6 hown hK hP dk_t.o rfl 7 (by decide) (by decide) rfl dk_t.q7 (htT _ m_fl_X6_23) dX6_gets_312 ?_
                              refine lv_iload_n hx hb dX6_gets_315 rfl (lv_at hl 5 rfl) ?_
                              refine ky_alda (r := some (aWk Ad k)) hx hb hK hP dk_t.aw (show vp_in (nI (k)) 8 from ki_in (by omega) (by omega)) ((congrArg _ (ki_cl (n := k) (by omega))).trans (dk_t.wp (k := k) (show k < 8 by omega))) dX6_gets_316 ?_
                              refine lv_iload hx hb dX6_gets_317 (lv_at hl 0 rfl) ?_
                              refine kx_ialdv (x := nI w2) hx hb hK (kmy_P hP) (dk_t.wa (k := k) (show k < 8 by omega)) (Nat.le_of_ble_eq_true rfl) (Nat.le_of_ble_eq_true rfl) (show vp_in 2 4 from ki_in (n := 2) (by omega) (by omega)) ((congrArg _ (ki_cl (n := 2) (by omega))).trans ((dk_t.wv (k := k) (j := 2) (show k < 8 by omega) (show 2 < 4 by omega)).trans (eW2))) dX6_gets_319 ?_
                              refine lv_isub hx hb dX6_gets_320 ?_
                              rw [show ((nI ((lb - w0) - w1)) - (nI w2) : Int32) = nI (((lb - w0) - w1) - w2) from pk_sub (a := (lb - w0) - w1) (b := w2) (by omega)]
                              refine lv_istore (lv' := [(10, .int (nI (((lb - w0) - w1) - w2))), (11, .int 2), (9, .int (nI (nBkt (500 + l7) uu))), (8, .int (nI i8)), (0, .ref d), (1, .int (nI k)), (2, .int (nI uu)), (3, .int (nI f)), (4, .int (nI g)), (5, .int (nI fr)), (6, .ref (aOk Ad k))]) hx hb dX6_gets_321 hl (by decide) rfl (fun ls hl => ?_)
                              refine lv_iinc (v := 3) (lv' := [(11, .int 3), (10, .int (nI (((lb - w0) - w1) - w2))), (9, .int (nI (nBkt (500 + l7) uu))), (8, .int (nI i8)), (0, .ref d), (1, .int (nI k)), (2, .int (nI uu)), (3, .int (nI f)), (4, .int (nI g)), (5, .int (nI fr)), (6, .ref (aOk Ad k))]) hx hb dX6_gets_323 hl (k := 1) rfl (by decide) (by decide) rfl (fun ls hl => ?_)
                              refine lv_goto (tgt := 280) hx hb dX6_gets_326 (by decide) ?_
                              refine lv_iload hx hb dX6_gets_280 (lv_at hl 0 rfl) ?_
                              refine lv_iconst (v := 4) hx hb dX6_gets_282 (by decide) ?_
                              refine lv_icmp_ge (tgt := 329) hx hb dX6_gets_283 (by decide) (fun c_122 => absurd c_122 (by decide)) (fun _ => ?_)
                              refine lv_iload hx hb dX6_gets_286 (lv_at hl 1 rfl) ?_
                              refine lv_aload_n hx hb dX6_gets_288 rfl (lv_at hl 4 rfl) ?_
                              refine kd_gets (r := (aW Ad)) hx hb htT m_u_X6 hown hK hP dk_t.o rfl 7 (by decide) (by decide) rfl dk_t.q7 (htT _ m_fl_X6_23) dX6_gets_289 ?_
                              refine lv_iload_n hx hb dX6_gets_292 rfl (lv_at hl 5 rfl) ?_
                              refine ky_alda (r := some (aWk Ad k)) hx hb hK hP dk_t.aw (show vp_in (nI (k)) 8 from ki_in (by omega) (by omega)) ((congrArg _ (ki_cl (n := k) (by omega))).trans (dk_t.wp (k := k) (show k < 8 by omega))) dX6_gets_293 ?_
                              refine lv_iload hx hb dX6_gets_294 (lv_at hl 0 rfl) ?_
                              refine kx_ialdv (x := nI w3) hx hb hK (kmy_P hP) (dk_t.wa (k := k) (show k < 8 by omega)) (Nat.le_of_ble_eq_true rfl) (Nat.le_of_ble_eq_true rfl) (show vp_in 3 4 from ki_in (n := 3) (by omega) (by omega)) ((congrArg _ (ki_cl (n := 3) (by omega))).trans ((dk_t.wv (k := k) (j := 3) (show k < 8 by omega) (show 3 < 4 by omega)).trans (eW3))) dX6_gets_296 ?_
                              refine lv_icmp_ge (tgt := 309) hx hb dX6_gets_297 (by decide) (fun c_123 => ?_) (fun c_123 => ?_)
                              · replace c_123 := (nI_leI (a := w3) (b := lb - w0 - w1 - w2) (by omega) (by omega)).mp c_123
                                refine lv_iload hx hb dX6_gets_309 (lv_at hl 1 rfl) ?_
                                refine lv_aload_n hx hb dX6_gets_311 rfl (lv_at hl 4 rfl) ?_
                                refine kd_gets (r := (aW Ad)) hx hb htT m_u_X6 hown hK hP dk_t.o rfl 7 (by decide) (by decide) rfl dk_t.q7 (htT _ m_fl_X6_23) dX6_gets_312 ?_
                                refine lv_iload_n hx hb dX6_gets_315 rfl (lv_at hl 5 rfl) ?_
                                refine ky_alda (r := some (aWk Ad k)) hx hb hK hP dk_t.aw (show vp_in (nI (k)) 8 from ki_in (by omega) (by omega)) ((congrArg _ (ki_cl (n := k) (by omega))).trans (dk_t.wp (k := k) (show k < 8 by omega))) dX6_gets_316 ?_
                                refine lv_iload hx hb dX6_gets_317 (lv_at hl 0 rfl) ?_
                                refine kx_ialdv (x := nI w3) hx hb hK (kmy_P hP) (dk_t.wa (k := k) (show k < 8 by omega)) (Nat.le_of_ble_eq_true rfl) (Nat.le_of_ble_eq_true rfl) (show vp_in 3 4 from ki_in (n := 3) (by omega) (by omega)) ((congrArg _ (ki_cl (n := 3) (by omega))).trans ((dk_t.wv (k := k) (j := 3) (show k < 8 by omega) (show 3 < 4 by omega)).trans (eW3))) dX6_gets_319 ?_
                                refine lv_isub hx hb dX6_gets_320 ?_
                                rw [show ((nI (((lb - w0) - w1) - w2)) - (nI w3) : Int32) = nI ((((lb - w0) - w1) - w2) - w3) from pk_sub (a := ((lb - w0) - w1) - w2) (b := w3) (by omega)]
                                refine lv_istore (lv' := [(10, .int (nI ((((lb - w0) - w1) - w2) - w3))), (11, .int 3), (9, .int (nI (nBkt (500 + l7) uu))), (8, .int (nI i8)), (0, .ref d), (1, .int (nI k)), (2, .int (nI uu)), (3, .int (nI f)), (4, .int (nI g)), (5, .int (nI fr)), (6, .ref (aOk Ad k))]) hx hb dX6_gets_321 hl (by decide) rfl (fun ls hl => ?_)
                                refine lv_iinc (v := 4) (lv' := [(11, .int 4), (10, .int (nI ((((lb - w0) - w1) - w2) - w3))), (9, .int (nI (nBkt (500 + l7) uu))), (8, .int (nI i8)), (0, .ref d), (1, .int (nI k)), (2, .int (nI uu)), (3, .int (nI f)), (4, .int (nI g)), (5, .int (nI fr)), (6, .ref (aOk Ad k))]) hx hb dX6_gets_323 hl (k := 1) rfl (by decide) (by decide) rfl (fun ls hl => ?_)
                                refine lv_goto (tgt := 280) hx hb dX6_gets_326 (by decide) ?_
                                refine lv_iload hx hb dX6_gets_280 (lv_at hl 0 rfl) ?_
                                refine lv_iconst (v := 4) hx hb dX6_gets_282 (by decide) ?_
                                refine lv_icmp_ge (tgt := 329) hx hb dX6_gets_283 (by decide) (fun _ => ?_) (fun c_124 => absurd c_124 (by decide))
                                exact absurd hws (by omega)
                              · replace c_123 : ¬ w3 ≤ lb - w0 - w1 - w2 := fun h9 => c_123 ((nI_leI (a := w3) (b := lb - w0 - w1 - w2) (by omega) (by omega)).mpr h9)
                                refine lv_aload_n hx hb dX6_gets_300 rfl (lv_at hl 4 rfl) ?_
                                refine lv_bipush (v := 8) hx hb dX6_gets_301 (by decide) ?_
                                refine lv_iload hx hb dX6_gets_303 (lv_at hl 0 rfl) ?_
                                refine kc_i (va_runV (As := [.int 8, .int 3]) (rest := []) ⟨hx, hb, hml, hown, htT⟩ (d_because l D cA _ wb b L xs hL T1 d x Ad n na (upd fF 10 (gI T1 d 10)) fO fW fC fR fB dk_t 8 3) (cwV 2 htT (kg_V m_ml_X6_159 m_im_X6_because m_sl_X6_because m_in_X6 m_cd_X6_because) rfl rfl rfl (by decide +kernel) ⟨(show 0 + 1 ≤ dd + 2 by omega), (show 8 + (3 + 11) + (0) ≤ 40 * dd + 60 by omega)⟩) (kpe_V hK hP hD hTB hTX hX hbl hbA hAO hS hA (kpe_rc hK hP dk_t.o rfl)) rfl rfl hl.1 rfl (lv_room (Nat.le_of_ble_eq_true rfl)) dX6_gets_305 ⟨(show cl9 + 0 ≤ dd + 1 by omega), Nat.le_of_ble_eq_true rfl⟩) hD hS hA (fun r_125 x_125 H locs hq_125 hP hD hS => ?_)
                                rw [hq_125.1]
                                rw [hq_125.2] at hP hD
                                refine W.widen (k := dd + 1) (n := 0) (show cl9 ≤ dd + 1 by omega) (Nat.le_of_ble_eq_true rfl) ?_
                                have hG : rGx M.2 (M.1 2) (M.2 11) (nI uu) (nI f) (nI g) na (ru k) (fun j => (rG M.2 (M.1 2) (M.2 11) (fun k => rFar M.2 k (M.1 1)) (nI uu) (nI f) (nI g) na ru dd j).1) k (rFar M.2 k (M.1 1)) = (3, 8) := by unfold rGx; rw [if_neg hC0, if_neg hC1, if_neg hC2, if_neg hC3, if_neg hC4, if_neg hC5, if_pos hC6, if_neg hC7]; rw [show rSplit M.2 k (kBkt (M.2 4 k) (nI uu)) 4 0 (M.2 6 (4 * k)) = nI 3 from by rw [ekl, hsp, if_neg (show ¬ lb < w0 by omega), if_neg (show ¬ lb < w0 + w1 by omega), if_neg (show ¬ lb < w0 + w1 + w2 by omega)]]; rfl
                                exact W.iret (v := 3) hx hb hr (fun t ht hW => ⟨⟨3, pI T1 d 10 8, rfl, ⟨(congrArg Prod.fst hG).symm, (hE1.tr ExtD.why), (show u2 _ _ _ _ _ _ = _ from u2_s).trans (congrArg Prod.snd hG).symm⟩, by rw [ht]; exact hP, va_K.moved hW.alike hK, hD⟩, hS.F ht⟩) hS.2.2 dX6_gets_308
                            · replace c_121 : ¬ w2 ≤ lb - w0 - w1 := fun h9 => c_121 ((nI_leI (a := w2) (b := lb - w0 - w1) (by omega) (by omega)).mpr h9)
                              refine lv_aload_n hx hb dX6_gets_300 rfl (lv_at hl 4 rfl) ?_
                              refine lv_bipush (v := 8) hx hb dX6_gets_301 (by decide) ?_
                              refine lv_iload hx hb dX6_gets_303 (lv_at hl 0 rfl) ?_
                              refine kc_i (va_runV (As := [.int 8, .int 2]) (rest := []) ⟨hx, hb, hml, hown, htT⟩ (d_because l D cA _ wb b L xs hL T1 d x Ad n na (upd fF 10 (gI T1 d 10)) fO fW fC fR fB dk_t 8 2) (cwV 2 htT (kg_V m_ml_X6_159 m_im_X6_because m_sl_X6_because m_in_X6 m_cd_X6_because) rfl rfl rfl (by decide +kernel) ⟨(show 0 + 1 ≤ dd + 2 by omega), (show 8 + (3 + 11) + (0) ≤ 40 * dd + 60 by omega)⟩) (kpe_V hK hP hD hTB hTX hX hbl hbA hAO hS hA (kpe_rc hK hP dk_t.o rfl)) rfl rfl hl.1 rfl (lv_room (Nat.le_of_ble_eq_true rfl)) dX6_gets_305 ⟨(show cl9 + 0 ≤ dd + 1 by omega), Nat.le_of_ble_eq_true rfl⟩) hD hS hA (fun r_126 x_126 H locs hq_126 hP hD hS => ?_)
                              rw [hq_126.1]
                              rw [hq_126.2] at hP hD
                              refine W.widen (k := dd + 1) (n := 0) (show cl9 ≤ dd + 1 by omega) (Nat.le_of_ble_eq_true rfl) ?_
                              have hG : rGx M.2 (M.1 2) (M.2 11) (nI uu) (nI f) (nI g) na (ru k) (fun j => (rG M.2 (M.1 2) (M.2 11) (fun k => rFar M.2 k (M.1 1)) (nI uu) (nI f) (nI g) na ru dd j).1) k (rFar M.2 k (M.1 1)) = (2, 8) := by unfold rGx; rw [if_neg hC0, if_neg hC1, if_neg hC2, if_neg hC3, if_neg hC4, if_neg hC5, if_pos hC6, if_neg hC7]; rw [show rSplit M.2 k (kBkt (M.2 4 k) (nI uu)) 4 0 (M.2 6 (4 * k)) = nI 2 from by rw [ekl, hsp, if_neg (show ¬ lb < w0 by omega), if_neg (show ¬ lb < w0 + w1 by omega), if_pos (show lb < w0 + w1 + w2 by omega)]]; rfl
                              exact W.iret (v := 2) hx hb hr (fun t ht hW => ⟨⟨2, pI T1 d 10 8, rfl, ⟨(congrArg Prod.fst hG).symm, (hE1.tr ExtD.why), (show u2 _ _ _ _ _ _ = _ from u2_s).trans (congrArg Prod.snd hG).symm⟩, by rw [ht]; exact hP, va_K.moved hW.alike hK, hD⟩, hS.F ht⟩) hS.2.2 dX6_gets_308
                          · replace c_119 : ¬ w1 ≤ lb - w0 := fun h9 => c_119 ((nI_leI (a := w1) (b := lb - w0) (by omega) (by omega)).mpr h9)
                            refine lv_aload_n hx hb dX6_gets_300 rfl (lv_at hl 4 rfl) ?_
                            refine lv_bipush (v := 8) hx hb dX6_gets_301 (by decide) ?_
                            refine lv_iload hx hb dX6_gets_303 (lv_at hl 0 rfl) ?_
                            refine kc_i (va_runV (As := [.int 8, .int 1]) (rest := []) ⟨hx, hb, hml, hown, htT⟩ (d_because l D cA _ wb b L xs hL T1 d x Ad n na (upd fF 10 (gI T1 d 10)) fO fW fC fR fB dk_t 8 1) (cwV 2 htT (kg_V m_ml_X6_159 m_im_X6_because m_sl_X6_because m_in_X6 m_cd_X6_because) rfl rfl rfl (by decide +kernel) ⟨(show 0 + 1 ≤ dd + 2 by omega), (show 8 + (3 + 11) + (0) ≤ 40 * dd + 60 by omega)⟩) (kpe_V hK hP hD hTB hTX hX hbl hbA hAO hS hA (kpe_rc hK hP dk_t.o rfl)) rfl rfl hl.1 rfl (lv_room (Nat.le_of_ble_eq_true rfl)) dX6_gets_305 ⟨(show cl9 + 0 ≤ dd + 1 by omega), Nat.le_of_ble_eq_true rfl⟩) hD hS hA (fun r_127 x_127 H locs hq_127 hP hD hS => ?_)
                            rw [hq_127.1]
                            rw [hq_127.2] at hP hD
                            refine W.widen (k := dd + 1) (n := 0) (show cl9 ≤ dd + 1 by omega) (Nat.le_of_ble_eq_true rfl) ?_
                            have hG : rGx M.2 (M.1 2) (M.2 11) (nI uu) (nI f) (nI g) na (ru k) (fun j => (rG M.2 (M.1 2) (M.2 11) (fun k => rFar M.2 k (M.1 1)) (nI uu) (nI f) (nI g) na ru dd j).1) k (rFar M.2 k (M.1 1)) = (1, 8) := by unfold rGx; rw [if_neg hC0, if_neg hC1, if_neg hC2, if_neg hC3, if_neg hC4, if_neg hC5, if_pos hC6, if_neg hC7]; rw [show rSplit M.2 k (kBkt (M.2 4 k) (nI uu)) 4 0 (M.2 6 (4 * k)) = nI 1 from by rw [ekl, hsp, if_neg (show ¬ lb < w0 by omega), if_pos (show lb < w0 + w1 by omega)]]; rfl
                            exact W.iret (v := 1) hx hb hr (fun t ht hW => ⟨⟨1, pI T1 d 10 8, rfl, ⟨(congrArg Prod.fst hG).symm, (hE1.tr ExtD.why), (show u2 _ _ _ _ _ _ = _ from u2_s).trans (congrArg Prod.snd hG).symm⟩, by rw [ht]; exact hP, va_K.moved hW.alike hK, hD⟩, hS.F ht⟩) hS.2.2 dX6_gets_308
                        · replace c_117 : ¬ w0 ≤ lb := fun h9 => c_117 ((nI_leI (a := w0) (b := lb) (by omega) (by omega)).mpr h9)
                          refine lv_aload_n hx hb dX6_gets_300 rfl (lv_at hl 4 rfl) ?_
                          refine lv_bipush (v := 8) hx hb dX6_gets_301 (by decide) ?_
                          refine lv_iload hx hb dX6_gets_303 (lv_at hl 0 rfl) ?_
                          refine kc_i (va_runV (As := [.int 8, .int 0]) (rest := []) ⟨hx, hb, hml, hown, htT⟩ (d_because l D cA _ wb b L xs hL T1 d x Ad n na (upd fF 10 (gI T1 d 10)) fO fW fC fR fB dk_t 8 0) (cwV 2 htT (kg_V m_ml_X6_159 m_im_X6_because m_sl_X6_because m_in_X6 m_cd_X6_because) rfl rfl rfl (by decide +kernel) ⟨(show 0 + 1 ≤ dd + 2 by omega), (show 8 + (3 + 11) + (0) ≤ 40 * dd + 60 by omega)⟩) (kpe_V hK hP hD hTB hTX hX hbl hbA hAO hS hA (kpe_rc hK hP dk_t.o rfl)) rfl rfl hl.1 rfl (lv_room (Nat.le_of_ble_eq_true rfl)) dX6_gets_305 ⟨(show cl9 + 0 ≤ dd + 1 by omega), Nat.le_of_ble_eq_true rfl⟩) hD hS hA (fun r_128 x_128 H locs hq_128 hP hD hS => ?_)
                          rw [hq_128.1]
                          rw [hq_128.2] at hP hD
                          refine W.widen (k := dd + 1) (n := 0) (show cl9 ≤ dd + 1 by omega) (Nat.le_of_ble_eq_true rfl) ?_
                          have hG : rGx M.2 (M.1 2) (M.2 11) (nI uu) (nI f) (nI g) na (ru k) (fun j => (rG M.2 (M.1 2) (M.2 11) (fun k => rFar M.2 k (M.1 1)) (nI uu) (nI f) (nI g) na ru dd j).1) k (rFar M.2 k (M.1 1)) = (0, 8) := by unfold rGx; rw [if_neg hC0, if_neg hC1, if_neg hC2, if_neg hC3, if_neg hC4, if_neg hC5, if_pos hC6, if_neg hC7]; rw [show rSplit M.2 k (kBkt (M.2 4 k) (nI uu)) 4 0 (M.2 6 (4 * k)) = nI 0 from by rw [ekl, hsp, if_pos (show lb < w0 by omega)]]; rfl
                          exact W.iret (v := 0) hx hb hr (fun t ht hW => ⟨⟨0, pI T1 d 10 8, rfl, ⟨(congrArg Prod.fst hG).symm, (hE1.tr ExtD.why), (show u2 _ _ _ _ _ _ = _ from u2_s).trans (congrArg Prod.snd hG).symm⟩, by rw [ht]; exact hP, va_K.moved hW.alike hK, hD⟩, hS.F ht⟩) hS.2.2 dX6_gets_308
                      · exact absurd ((nI_leI (a := 0) (b := i8) (by omega) (by omega)).mpr (by omega)) c_114
                    · replace c_113 : ¬ nBkt (sa + 1) uu < fr := fun h9 => c_113 ((nI_ltI (a := nBkt (sa + 1) uu) (b := fr) (by omega) (by omega)).mpr h9)
                      have hC6 : ¬ kBkt (M.2 4 k + 1) (nI uu) < rFar M.2 k (M.1 1) := by rw [show kBkt (M.2 4 k + 1) (nI uu) = nI (nBkt (sa + 1) uu) from by rw [esa, show nI sa + (1 : Int32) = nI (sa + 1) from nI_add sa 1]; exact kBkt_n (by omega) huu, hfr]; exact fun e9 => c_113 ((nI_ltI (by omega) (by omega)).mp e9)
                      refine lv_aload_n hx hb dX6_gets_236 rfl (lv_at hl 2 rfl) ?_
                      refine lv_bipush (v := 6) hx hb dX6_gets_237 (by decide) ?_
                      refine lv_iconst (v := 0) hx hb dX6_gets_239 (by decide) ?_
                      refine kc_i (va_runV (As := [.int 6, .int 0]) (rest := []) ⟨hx, hb, hml, hown, htT⟩ (d_because l D cA _ wb b L xs hL T1 d x Ad n na (upd fF 10 (gI T1 d 10)) fO fW fC fR fB dk_t 6 0) (cwV 2 htT (kg_V m_ml_X6_159 m_im_X6_because m_sl_X6_because m_in_X6 m_cd_X6_because) rfl rfl rfl (by decide +kernel) ⟨(show 0 + 1 ≤ dd + 2 by omega), (show 8 + (3 + 11) + (0) ≤ 40 * dd + 60 by omega)⟩) (kpe_V hK hP hD hTB hTX hX hbl hbA hAO hS hA (kpe_rc hK hP dk_t.o rfl)) rfl rfl hl.1 rfl (lv_room (Nat.le_of_ble_eq_true rfl)) dX6_gets_240 ⟨(show cl9 + 0 ≤ dd + 1 by omega), Nat.le_of_ble_eq_true rfl⟩) hD hS hA (fun r_129 x_129 H locs hq_129 hP hD hS => ?_)
                      rw [hq_129.1]
                      rw [hq_129.2] at hP hD
                      refine W.widen (k := dd + 1) (n := 0) (show cl9 ≤ dd + 1 by omega) (Nat.le_of_ble_eq_true rfl) ?_
                      have hG : rGx M.2 (M.1 2) (M.2 11) (nI uu) (nI f) (nI g) na (ru k) (fun j => (rG M.2 (M.1 2) (M.2 11) (fun k => rFar M.2 k (M.1 1)) (nI uu) (nI f) (nI g) na ru dd j).1) k (rFar M.2 k (M.1 1)) = (0, 6) := by unfold rGx; rw [if_neg hC0, if_neg hC1, if_neg hC2, if_neg hC3, if_neg hC4, if_neg hC5, if_neg hC6]
                      exact W.iret (v := 0) hx hb hr (fun t ht hW => ⟨⟨0, pI T1 d 10 6, rfl, ⟨(congrArg Prod.fst hG).symm, (hE1.tr ExtD.why), (show u2 _ _ _ _ _ _ = _ from u2_s).trans (congrArg Prod.snd hG).symm⟩, by rw [ht]; exact hP, va_K.moved hW.alike hK, hD⟩, hS.F ht⟩) hS.2.2 dX6_gets_243
                  · replace c_111 : ¬ nBkt (500 + l7) uu < lt := fun h9 => c_111 ((nI_ltI (a := nBkt (500 + l7) uu) (b := lt) (by omega) (by omega)).mpr h9)
                    have hC5 : M.2 12 k ≠ -1 ∧ kIn (kBkt (500 + M.2 12 k) (nI uu)) (M.2 13 k) (M.2 14 k - 1) = 0 := ⟨hne7, by rw [ekb, elf, elt]; exact (kIn_cut (a := nBkt (500 + l7) uu) (f := lf) (t := lt) (by omega) (by omega) (by omega)).mpr (by omega)⟩
                    refine lv_aload_n hx hb dX6_gets_214 rfl (lv_at hl 2 rfl) ?_
                    refine lv_iconst (v := 5) hx hb dX6_gets_215 (by decide) ?_
                    refine lv_iconst (v := 0) hx hb dX6_gets_216 (by decide) ?_
                    refine kc_i (va_runV (As := [.int 5, .int 0]) (rest := []) ⟨hx, hb, hml, hown, htT⟩ (d_because l D cA _ wb b L xs hL T1 d x Ad n na (upd fF 10 (gI T1 d 10)) fO fW fC fR fB dk_t 5 0) (cwV 2 htT (kg_V m_ml_X6_159 m_im_X6_because m_sl_X6_because m_in_X6 m_cd_X6_because) rfl rfl rfl (by decide +kernel) ⟨(show 0 + 1 ≤ dd + 2 by omega), (show 8 + (3 + 11) + (0) ≤ 40 * dd + 60 by omega)⟩) (kpe_V hK hP hD hTB hTX hX hbl hbA hAO hS hA (kpe_rc hK hP dk_t.o rfl)) rfl rfl hl.1 rfl (lv_room (Nat.le_of_ble_eq_true rfl)) dX6_gets_217 ⟨(show cl9 + 0 ≤ dd + 1 by omega), Nat.le_of_ble_eq_true rfl⟩) hD hS hA (fun r_130 x_130 H locs hq_130 hP hD hS => ?_)
                    rw [hq_130.1]
                    rw [hq_130.2] at hP hD
                    refine W.widen (k := dd + 1) (n := 0) (show cl9 ≤ dd + 1 by omega) (Nat.le_of_ble_eq_true rfl) ?_
                    have hG : rGx M.2 (M.1 2) (M.2 11) (nI uu) (nI f) (nI g) na (ru k) (fun j => (rG M.2 (M.1 2) (M.2 11) (fun k => rFar M.2 k (M.1 1)) (nI uu) (nI f) (nI g) na ru dd j).1) k (rFar M.2 k (M.1 1)) = (0, 5) := by unfold rGx; rw [if_neg hC0, if_neg hC1, if_neg hC2, if_neg hC3, if_neg hC4, if_pos hC5]
                    exact W.iret (v := 0) hx hb hr (fun t ht hW => ⟨⟨0, pI T1 d 10 5, rfl, ⟨(congrArg Prod.fst hG).symm, (hE1.tr ExtD.why), (show u2 _ _ _ _ _ _ = _ from u2_s).trans (congrArg Prod.snd hG).symm⟩, by rw [ht]; exact hP, va_K.moved hW.alike hK, hD⟩, hS.F ht⟩) hS.2.2 dX6_gets_220
          · replace c_86 : ¬ hh ≤ nBkt 999 uu := fun h9 => c_86 ((nI_leI (a := hh) (b := nBkt 999 uu) (by omega) (by omega)).mpr h9)
            have hC4 : kBkt 999 (nI uu) < M.1 2 := by rw [show kBkt 999 (nI uu) = nI (nBkt 999 uu) from kBkt_n (s := 999) (by omega) huu, ehh]; exact (nI_ltI (a := nBkt 999 uu) (b := hh) (by omega) (by omega)).mpr (by omega)
            refine lv_aload_n hx hb dX6_gets_160 rfl (lv_at hl 1 rfl) ?_
            refine lv_iconst (v := 4) hx hb dX6_gets_161 (by decide) ?_
            refine lv_iconst (v := 0) hx hb dX6_gets_162 (by decide) ?_
            refine kc_i (va_runV (As := [.int 4, .int 0]) (rest := []) ⟨hx, hb, hml, hown, htT⟩ (d_because l D cA _ wb b L xs hL T1 d x Ad n na (upd fF 10 (gI T1 d 10)) fO fW fC fR fB dk_t 4 0) (cwV 2 htT (kg_V m_ml_X6_159 m_im_X6_because m_sl_X6_because m_in_X6 m_cd_X6_because) rfl rfl rfl (by decide +kernel) ⟨(show 0 + 1 ≤ dd + 2 by omega), (show 8 + (3 + 11) + (0) ≤ 40 * dd + 60 by omega)⟩) (kpe_V hK hP hD hTB hTX hX hbl hbA hAO hS hA (kpe_rc hK hP dk_t.o rfl)) rfl rfl hl.1 rfl (lv_room (Nat.le_of_ble_eq_true rfl)) dX6_gets_163 ⟨(show cl9 + 0 ≤ dd + 1 by omega), Nat.le_of_ble_eq_true rfl⟩) hD hS hA (fun r_131 x_131 H locs hq_131 hP hD hS => ?_)
            rw [hq_131.1]
            rw [hq_131.2] at hP hD
            refine W.widen (k := dd + 1) (n := 0) (show cl9 ≤ dd + 1 by omega) (Nat.le_of_ble_eq_true rfl) ?_
            have hG : rGx M.2 (M.1 2) (M.2 11) (nI uu) (nI f) (nI g) na (ru k) (fun j => (rG M.2 (M.1 2) (M.2 11) (fun k => rFar M.2 k (M.1 1)) (nI uu) (nI f) (nI g) na ru dd j).1) k (rFar M.2 k (M.1 1)) = (0, 4) := by unfold rGx; rw [if_neg hC0, if_neg hC1, if_neg hC2, if_neg hC3, if_pos hC4]
            exact W.iret (v := 0) hx hb hr (fun t ht hW => ⟨⟨0, pI T1 d 10 4, rfl, ⟨(congrArg Prod.fst hG).symm, (hE1.tr ExtD.why), (show u2 _ _ _ _ _ _ = _ from u2_s).trans (congrArg Prod.snd hG).symm⟩, by rw [ht]; exact hP, va_K.moved hW.alike hK, hD⟩, hS.F ht⟩) hS.2.2 dX6_gets_166
      · refine lv_istore (lv' := [(8, .int (nI i8)), (0, .ref d), (1, .int (nI k)), (2, .int (nI uu)), (3, .int (nI f)), (4, .int (nI g)), (5, .int (nI fr)), (6, .ref (aOk Ad k))]) hx hb dX6_gets_108 hl (by decide) rfl (fun ls hl => ?_)
        refine lv_iload hx hb dX6_gets_110 (lv_at hl 0 rfl) ?_
        refine lv_if_lt (tgt := 146) hx hb dX6_gets_112 (by decide) (fun c_132 => ?_) (fun c_132 => ?_)
        · exact absurd ((nI_ltI (a := i8) (b := 0) (by omega) (by omega)).mp c_132) (by omega)
        · replace c_132 : ¬ (i8 < 0) := fun h9 => c_132 ((nI_ltI (a := i8) (b := 0) (by omega) (by omega)).mpr h9)
          refine lv_aload_n hx hb dX6_gets_115 rfl (lv_at hl 1 rfl) ?_
          refine kd_gets (r := (aR Ad)) hx hb htT m_u_X6 hown hK hP dk_t.o rfl 8 (by decide) (by decide) rfl dk_t.q8 (htT _ m_fl_X6_28) dX6_gets_116 ?_
          refine lv_iload_n hx hb dX6_gets_119 rfl (lv_at hl 2 rfl) ?_
          refine ky_aldb (r := some (aRk Ad k)) hx hb hK hP dk_t.ar (show vp_in (nI (k)) 8 from ki_in (by omega) (by omega)) ((congrArg _ (ki_cl (n := k) (by omega))).trans (dk_t.rp (k := k) (show k < 8 by omega))) dX6_gets_120 ?_
          refine lv_iload hx hb dX6_gets_121 (lv_at hl 0 rfl) ?_
          refine ky_alda (r := some (aRR Ad k i8)) hx hb hK hP (dk_t.ra (k := k) (show k < 8 by omega)) (show vp_in (nI (i8)) (fC k) from ki_in (by omega) (by omega)) ((congrArg _ (ki_cl (n := i8) (by omega))).trans (dk_t.rrp (k := k) (i := i8) (show k < 8 by omega) (show i8 < fC k by omega))) dX6_gets_123 ?_
          refine lv_iconst (v := 3) hx hb dX6_gets_124 (by decide) ?_
          refine kx_ialdv (x := nI v8) hx hb hK (kmy_P hP) (dk_t.rra (k := k) (i := i8) (show k < 8 by omega) (show i8 < fC k by omega)) (Nat.le_of_ble_eq_true rfl) (Nat.le_of_ble_eq_true rfl) (show vp_in 3 4 from ki_in (n := 3) (by omega) (by omega)) ((congrArg _ (ki_cl (n := 3) (by omega))).trans ((dk_t.rv (k := k) (i := i8) (j := 3) (show k < 8 by omega) (show i8 < fC k by omega) (show 3 < 4 by omega)).trans (hv8))) dX6_gets_125 ?_
          refine lv_if_lt (tgt := 146) hx hb dX6_gets_126 (by decide) (fun c_133 => ?_) (fun c_133 => ?_)
          · exact absurd ((nI_ltI (a := v8) (b := 0) (by omega) (by omega)).mp c_133) (by omega)
          · refine lv_aload_n hx hb dX6_gets_129 rfl (lv_at hl 1 rfl) ?_
            refine lv_iconst (v := 3) hx hb dX6_gets_130 (by decide) ?_
            refine lv_aload_n hx hb dX6_gets_131 rfl (lv_at hl 1 rfl) ?_
            refine kd_gets (r := (aR Ad)) hx hb htT m_u_X6 hown hK hP dk_t.o rfl 8 (by decide) (by decide) rfl dk_t.q8 (htT _ m_fl_X6_28) dX6_gets_132 ?_
            refine lv_iload_n hx hb dX6_gets_135 rfl (lv_at hl 2 rfl) ?_
            refine ky_aldb (r := some (aRk Ad k)) hx hb hK hP dk_t.ar (show vp_in (nI (k)) 8 from ki_in (by omega) (by omega)) ((congrArg _ (ki_cl (n := k) (by omega))).trans (dk_t.rp (k := k) (show k < 8 by omega))) dX6_gets_136 ?_
            refine lv_iload hx hb dX6_gets_137 (lv_at hl 0 rfl) ?_
            refine ky_alda (r := some (aRR Ad k i8)) hx hb hK hP (dk_t.ra (k := k) (show k < 8 by omega)) (show vp_in (nI (i8)) (fC k) from ki_in (by omega) (by omega)) ((congrArg _ (ki_cl (n := i8) (by omega))).trans (dk_t.rrp (k := k) (i := i8) (show k < 8 by omega) (show i8 < fC k by omega))) dX6_gets_139 ?_
            refine lv_iconst (v := 3) hx hb dX6_gets_140 (by decide) ?_
            refine kx_ialdv (x := nI v8) hx hb hK (kmy_P hP) (dk_t.rra (k := k) (i := i8) (show k < 8 by omega) (show i8 < fC k by omega)) (Nat.le_of_ble_eq_true rfl) (Nat.le_of_ble_eq_true rfl) (show vp_in 3 4 from ki_in (n := 3) (by omega) (by omega)) ((congrArg _ (ki_cl (n := 3) (by omega))).trans ((dk_t.rv (k := k) (i := i8) (j := 3) (show k < 8 by omega) (show i8 < fC k by omega) (show 3 < 4 by omega)).trans (hv8))) dX6_gets_141 ?_
            refine kc_i (va_runV (As := [.int 3, .int (nI v8)]) (rest := []) ⟨hx, hb, hml, hown, htT⟩ (d_because l D cA _ wb b L xs hL T1 d x Ad n na (upd fF 10 (gI T1 d 10)) fO fW fC fR fB dk_t 3 (nI v8)) (cwV 2 htT (kg_V m_ml_X6_159 m_im_X6_because m_sl_X6_because m_in_X6 m_cd_X6_because) rfl rfl rfl (by decide +kernel) ⟨(show 0 + 1 ≤ dd + 2 by omega), (show 8 + (3 + 11) + (0) ≤ 40 * dd + 60 by omega)⟩) (kpe_V hK hP hD hTB hTX hX hbl hbA hAO hS hA (kpe_rc hK hP dk_t.o rfl)) rfl rfl hl.1 rfl (lv_room (Nat.le_of_ble_eq_true rfl)) dX6_gets_142 ⟨(show cl9 + 0 ≤ dd + 1 by omega), Nat.le_of_ble_eq_true rfl⟩) hD hS hA (fun r_134 x_134 H locs hq_134 hP hD hS => ?_)
            rw [hq_134.1]
            rw [hq_134.2] at hP hD
            refine W.widen (k := dd + 1) (n := 0) (show cl9 ≤ dd + 1 by omega) (Nat.le_of_ble_eq_true rfl) ?_
            have hG : rGx M.2 (M.1 2) (M.2 11) (nI uu) (nI f) (nI g) na (ru k) (fun j => (rG M.2 (M.1 2) (M.2 11) (fun k => rFar M.2 k (M.1 1)) (nI uu) (nI f) (nI g) na ru dd j).1) k (rFar M.2 k (M.1 1)) = (nI v8, 3) := by unfold rGx; rw [if_neg hC0, if_neg hC1, if_neg hC2, if_pos ⟨fun e9 => nI_m1 (a := i8) (by omega) (hrh.symm.trans e9), fun e9 => nI_m1 (a := v8) (by omega) ((e21.trans hv8).symm.trans e9)⟩]; rw [e21, hv8]
            exact W.iret (v := nI v8) hx hb hr (fun t ht hW => ⟨⟨nI v8, pI T1 d 10 3, rfl, ⟨(congrArg Prod.fst hG).symm, (hE1.tr ExtD.why), (show u2 _ _ _ _ _ _ = _ from u2_s).trans (congrArg Prod.snd hG).symm⟩, by rw [ht]; exact hP, va_K.moved hW.alike hK, hD⟩, hS.F ht⟩) hS.2.2 dX6_gets_145

theorem d_GV (l : Launch) (D : va_G) (cA : Nat → ClassId) (wb : va_W) (b L : Nat) (xs : Nat → Int32) (hL : L < 2 ^ 31) (d x : Nat) (Ad : DA) (n na : Nat) (fO fW : Nat → Nat → Int32) (fC : Nat → Nat) (fR : Nat → Nat → Nat → Int32) (fB : Nat → Nat → Int32) (dr cM sB : Nat) (M : MSt) (hcM : cM < 1000000) (hI : INVR n na M) (ru : Nat → Nat) (hok : okG M n na ru) (hM : MK n na cM sB M) (hW : WG n M) (uu f g : Nat) (huu : uu ≤ 9999) (hf : f ≤ 9) (hg : g ≤ 9)  : ∀ d9, GV l D cA wb b L xs d x Ad n na fO fW fC fR fB dr M ru uu f g d9 := by
  intro dd
  induction dd with
  | zero => exact fun sz T fF dk hvm k fr hk hkd hfr hfr2 => d_gets5 l D cA sz wb b L xs hL T d x Ad n na fF fO fW fC fR fB dk dr cM sB M hvm hcM hI ru hok hM hW uu f g huu hf hg 0 (fun d9 h => absurd h (by omega)) k hk hkd fr hfr hfr2
  | succ dd ih => exact fun sz T fF dk hvm k fr hk hkd hfr hfr2 => d_gets5 l D cA sz wb b L xs hL T d x Ad n na fF fO fW fC fR fB dk dr cM sB M hvm hcM hI ru hok hM hW uu f g huu hf hg (dd + 1) (fun d9 h => by cases h; exact ih) k hk hkd fr hfr hfr2
