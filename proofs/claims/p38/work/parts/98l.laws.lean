/-! the law: a step, a time -/
section LR
variable {p : Program} {l : Launch} {e : Env} {R : Room} {s : State} {m : MethodId} {args : Array Value} {below : List Frame} {meth : Method} {c : Code} {H0 : Heap} {locs0 : List Loc} {cells slots : Nat} {Q : State → Prop} {d0 : Drawn}
theorem kz_loopDC (pc : Nat) (I : Nat → Nat → Nat → Heap → List Loc → Array Slot → Prop) (h : ∀ n, (∀ k, k < n → ∀ (cl sl : Nat) (H : Heap) (locs : List Loc) (ls : Array Slot) (d : Drawn), s.drawn.sameBut d lw_cs → I k cl sl H locs ls → W p l e R (s.setDrawn d) m args below meth c H locs cl sl Q (F0 m pc ls [])) → ∀ (cl sl : Nat) (H : Heap) (locs : List Loc) (ls : Array Slot) (d : Drawn), s.drawn.sameBut d lw_cs → I n cl sl H locs ls → W p l e R (s.setDrawn d) m args below meth c H locs cl sl Q (F0 m pc ls [])) {ls0 : Array Slot} {n : Nat} (hd0 : s.drawn.sameBut d0 lw_cs) (h0 : I n cells slots H0 locs0 ls0) : W p l e R (s.setDrawn d0) m args below meth c H0 locs0 cells slots Q (F0 m pc ls0 []) := by
  have key : ∀ n, ∀ (cl sl : Nat) (H : Heap) (locs : List Loc) (ls : Array Slot) (d : Drawn), s.drawn.sameBut d lw_cs → I n cl sl H locs ls → W p l e R (s.setDrawn d) m args below meth c H locs cl sl Q (F0 m pc ls []) := by
    intro n
    induction n using Nat.strongRecOn with
    | _ n ih => exact h n ih
  exact key n _ _ _ _ _ _ hd0 h0
end LR
theorem lg_selfx (x : Int64) : lg_cmp x x = 0 := by
  unfold lg_cmp
  simp
set_option maxRecDepth 100000 in
set_option maxHeartbeats 4000000 in
/-- one step -/
theorem law_s (l : Launch) (hst : l.stackTraces = false) {p : Program} {e : Env} {s : State} {m : MethodId} {below : List Frame} {meth : Method} {c : Code} {b L : Nat} {xs : Nat → Int32} (C0 : lw_At p s m meth c b L xs) {D : va_G} {cA : Nat → ClassId} {A : Nat → Prop} (hA : ∀ q : Nat, s.heap.size ≤ q → A q) (hbA : ¬ A b) (hK : va_K D vwCl (ty6 cA) s) (hTB : TBok s) (hTX : TXok A s) (hAO : va_AOA .int s ∧ va_AOA (.array .int) s) (hL : L < 2 ^ 31) {d x ar ak sp ti D9 c9 s9 u0 v0 : Nat} (hu0 : u0 ≤ 400000) (hv0 : v0 ≤ 5000000) (hD9 : D9 < 800000) (hc9 : c9 < 80000) (hs9 : s9 < 800000) (hnext : ∀ (T S : Pool) (H : Heap) (locs : List Loc) (ls : Array Slot) (dd : Drawn), s.drawn.sameBut dd lw_cs → J38 d x b ar ak (D9 + 305) (c9 + 4) (s9 + 600) 4 T S → va_P D vwCl (PW cA T ++ PW cA S) H → va_D A (PW cA T ++ PW cA S) → va_S A s.heap H locs → lv_has ls 16 [(4, .int (nI sp)), (3, .ref x), (2, .ref d), (1, .int (nI ti)), (0, .ref b)] → W p l e room_1 (s.setDrawn dd) m #[Value.ref b] below meth c H locs (u0 + 81) (v0 + 775) (lw_Z below #[Value.ref b] s) (F0 m 879 ls [])) {T S : Pool} {H : Heap} {locs : List Loc} {ls : Array Slot} {dd : Drawn} (hd0 : s.drawn.sameBut dd lw_cs) (hJ : J38 d x b ar ak D9 c9 s9 4 T S) (hP : va_P D vwCl (PW cA T ++ PW cA S) H) (hD : va_D A (PW cA T ++ PW cA S)) (hS : va_S A s.heap H locs) (hl : lv_has ls 16 [(4, .int (nI sp)), (3, .ref x), (2, .ref d), (1, .int (nI ti)), (0, .ref b)]) : W p l e room_1 (s.setDrawn dd) m #[Value.ref b] below meth c H locs u0 v0 (lw_Z below #[Value.ref b] s) (F0 m 46 ls []) := by
  obtain ⟨hx, hb, hr, hml, hown, hts, hX, hbl, hlocks, hgv⟩ := id C0
  have htT0 : ∀ w ∈ TT, w.before _ s = true := fun w h => hts w (tt_in h)
  have hTB0 := hTB
  have hK0 := hK
  have hown0 : s.vm.findClass RL = some m.cls := hown
  have hTX0 := hTX
  have hX0 := hX
  have hAO0 := hAO
  have htT : ∀ w ∈ TT, w.before _ (s.setDrawn dd) = true := dr_words htT0 dd
  have hTB : TBok (s.setDrawn dd) := TBok.same (u := s) (U := s.setDrawn dd) rfl (Vm.Alike.refl s.vm) hTB0
  have hK : va_K D vwCl (ty6 cA) (s.setDrawn dd) := hK0
  have hown : (s.setDrawn dd).vm.findClass RL = some m.cls := hown0
  have hTX : TXok A (s.setDrawn dd) := hTX0.dr dd
  have hX : va_X b L xs (s.setDrawn dd) (s.setDrawn dd).heap := hX0
  have hAO : va_AOA .int (s.setDrawn dd) ∧ va_AOA (.array .int) (s.setDrawn dd) := ⟨va_AOA.moved (u := s) (U := s.setDrawn dd) (Vm.Alike.refl s.vm) hAO0.1, va_AOA.moved (u := s) (U := s.setDrawn dd) (Vm.Alike.refl s.vm) hAO0.2⟩
  refine lv_aload_n hx hb dL_law_46 rfl (lv_at hl 2 rfl) ?_
  refine kc_i (va_runV (As := []) (rest := []) ⟨hx, hb, hml, hown, htT⟩ (d_change l hst D cA _ b L xs hL T S d x ar ak (D9) (c9) (s9) (4) (by omega) (by omega) (by omega) hJ (by omega)) (cwV 0 htT (kg_V m_ml_L_22 m_im_X6_change m_sl_X6_change m_in_X6 m_cd_X6_change) rfl rfl rfl (by decide +kernel) ⟨Nat.le_of_ble_eq_true rfl, Nat.le_of_ble_eq_true rfl⟩) (kpe_V hK hP hD hTB hTX hX hbl hbA hAO hS hA (kpe_rc hK hP (J38.o hJ) rfl)) rfl rfl hl.1 rfl (lv_room (Nat.le_of_ble_eq_true rfl)) dL_law_47 ⟨(by show _ ≤ 600086; omega), (by show _ ≤ 7301442; omega)⟩) hD hS hA (fun r_1 x_1 H locs hq_1 hP hD hS => ?_)
  rw [hq_1.1]
  have hJ_1 : J38 d x b ar ak (D9 + 9) (c9 + 4) (s9) (4) x_1.1 x_1.2 := hq_1.2
  refine lv_if_ne (tgt := 55) hx hb dL_law_50 (by decide) (fun _ => ?_) (fun c_2 => absurd c_2 (by decide))
  refine lv_iconst (v := 0) hx hb dL_law_55 (by decide) ?_
  refine lv_istore (lv' := [(5, .int 0), (4, .int (nI sp)), (3, .ref x), (2, .ref d), (1, .int (nI ti)), (0, .ref b)]) hx hb dL_law_56 hl (by decide) rfl (fun ls hl => ?_)
  refine kz_loopDC 58 (fun N9 cl9 sl9 H locs ls => ∃ (U : Pool) (Y : Pool) (i : Nat), N9 = 6 - i ∧ i ≤ 6 ∧ J38 d x b ar ak (D9 + 9 + 16 * i) (c9 + 4) (s9 + 100 * i) 4 U Y ∧ cl9 = u0 + 9 + 12 * i ∧ sl9 = v0 + 109 + 111 * i ∧ va_P D vwCl (PW cA U ++ PW cA Y) H ∧ va_D A (PW cA U ++ PW cA Y) ∧ va_S A s.heap H locs ∧ lv_has ls 16 [(5, .int (nI i)), (4, .int (nI sp)), (3, .ref x), (2, .ref d), (1, .int (nI ti)), (0, .ref b)]) (fun N9 ih_58 cl9 sl9 H locs ls e_58 hd0 hI => ?_) hd0 ⟨x_1.1, x_1.2, 0, rfl, Nat.zero_le _, (J38.mono hJ_1 (by omega) (by omega) (by omega) (by omega)), rfl, rfl, hP, hD, hS, lv_sub hl [0, 1, 2, 3, 4, 5] rfl⟩
  obtain ⟨U, Y, i, hn9, hi9, hJ9, hcl9, hsl9, hP, hD, hS, hl⟩ := hI
  subst hcl9 hsl9
  have htT : ∀ w ∈ TT, w.before _ (s.setDrawn e_58) = true := dr_words htT0 e_58
  have hTB : TBok (s.setDrawn e_58) := TBok.same (u := s) (U := s.setDrawn e_58) rfl (Vm.Alike.refl s.vm) hTB0
  have hK : va_K D vwCl (ty6 cA) (s.setDrawn e_58) := hK0
  have hown : (s.setDrawn e_58).vm.findClass RL = some m.cls := hown0
  have hTX : TXok A (s.setDrawn e_58) := hTX0.dr e_58
  have hX : va_X b L xs (s.setDrawn e_58) (s.setDrawn e_58).heap := hX0
  have hAO : va_AOA .int (s.setDrawn e_58) ∧ va_AOA (.array .int) (s.setDrawn e_58) := ⟨va_AOA.moved (u := s) (U := s.setDrawn e_58) (Vm.Alike.refl s.vm) hAO0.1, va_AOA.moved (u := s) (U := s.setDrawn e_58) (Vm.Alike.refl s.vm) hAO0.2⟩
  refine lv_iload hx hb dL_law_58 (lv_at hl 0 rfl) ?_
  refine lv_bipush (v := 6) hx hb dL_law_60 (by decide) ?_
  refine lv_icmp_ge (tgt := 87) hx hb dL_law_62 (by decide) (fun c_3 => ?_) (fun c_3 => ?_)
  · replace c_3 := (nI_leI (a := 6) (b := i) (by omega) (by omega)).mp c_3
    have hi6 : i = 6 := by omega
    subst hi6
    refine W.widen (k := u0 + 81) (n := v0 + 775) (by omega) (by omega) ?_
    obtain ⟨n, na, dr, cM, sB, Ad, fF, fO, fW, fC, fR, fB, M, hn9, hdr9, hcM9, hsB9, dk, hvm, gg, hM⟩ := hJ9
    have hn8 : n ≤ 8 := dk.n8
    have hna : na ≤ 100 := gg.r.na
    have hdr : fF 2 = nI dr := hvm.f2
    have oF5 : fF 5 = nI n := hvm.f5
    have oF3 : fF 3 = nI cM := hvm.f3.trans hM.1.1
    obtain ⟨ru, hok⟩ := id gg.r.1
    refine lv_aload_n hx hb dL_law_87 rfl (lv_at hl 2 rfl) ?_
    refine kjD_l hd0 List.perm_append_comm (va_runV_D (As := []) (rest := []) ⟨hx, hb, hml, hown, htT⟩ (c_digestX l D cA _ Y x gg.c.hx ar gg.c.q0 ak gg.c.q1 gg.c.kk gg.c.R n gg.c.n8 gg.c.x2 na gg.c.x3 (rLfT M n) (lf_eq gg.l gg.c) (vcT M) (rShT M) (rBdT M na (vcT M)) (rTrT M na (vcT M)) (rBeT M na (vcT M)) (rWeT M) (rToT M na) (rFuT M na ru) (rGeT M na ru) (rWhT M na ru) (rArT M na) gg.c.row (dg_eq gg.l gg.c gg.t gg.r hok gg.y rfl rfl)) (cwV 0 htT (kg_V m_ml_L_31 m_im_X5_digest m_sl_X5_digest m_in_X5 m_cd_X5_digest) rfl rfl rfl (by decide +kernel) ⟨Nat.le_of_ble_eq_true rfl, Nat.le_of_ble_eq_true rfl⟩) (kn_V hK hP hD hTB gg.c.hx (Nat.le_of_ble_eq_true rfl) rfl) rfl rfl hl.1 rfl (lv_room (Nat.le_of_ble_eq_true rfl)) dL_law_88 ⟨(by show _ ≤ 600086; omega), (by show _ ≤ 7301442; omega)⟩) hP hD hS hA (fun r_4 x_4 H locs hq_4 hP hD hS d_4 hd0 => ?_)
    replace hP := kj_P List.perm_append_comm hP
    replace hD := kj_D List.perm_append_comm hD
    have htT : ∀ w ∈ TT, w.before _ (s.setDrawn d_4) = true := dr_words htT0 d_4
    have hTB : TBok (s.setDrawn d_4) := TBok.same (u := s) (U := s.setDrawn d_4) rfl (Vm.Alike.refl s.vm) hTB0
    have hK : va_K D vwCl (ty6 cA) (s.setDrawn d_4) := hK0
    have hown : (s.setDrawn d_4).vm.findClass RL = some m.cls := hown0
    have hTX : TXok A (s.setDrawn d_4) := hTX0.dr d_4
    have hX : va_X b L xs (s.setDrawn d_4) (s.setDrawn d_4).heap := hX0
    have hAO : va_AOA .int (s.setDrawn d_4) ∧ va_AOA (.array .int) (s.setDrawn d_4) := ⟨va_AOA.moved (u := s) (U := s.setDrawn d_4) (Vm.Alike.refl s.vm) hAO0.1, va_AOA.moved (u := s) (U := s.setDrawn d_4) (Vm.Alike.refl s.vm) hAO0.2⟩
    have gg_4 : GG n na x_4 M x ar ak := gg.eA hq_4.2
    rw [show r_4 = rDig M n na ru (vcT M) from hq_4.1]
    refine lv_lstore (lv' := [(5, .long (rDig M n na ru (vcT M))), (4, .int (nI sp)), (3, .ref x), (2, .ref d), (1, .int (nI ti)), (0, .ref b)]) hx hb dL_law_91 hl (by decide) rfl (fun ls hl => ?_)
    refine lv_iconst (v := 0) hx hb dL_law_93 (by decide) ?_
    refine lv_istore (lv' := [(7, .int 0), (5, .long (rDig M n na ru (vcT M))), (4, .int (nI sp)), (3, .ref x), (2, .ref d), (1, .int (nI ti)), (0, .ref b)]) hx hb dL_law_94 hl (by decide) rfl (fun ls hl => ?_)
    refine lv_iconst (v := 0) hx hb dL_law_96 (by decide) ?_
    refine lv_istore (lv' := [(8, .int 0), (7, .int 0), (5, .long (rDig M n na ru (vcT M))), (4, .int (nI sp)), (3, .ref x), (2, .ref d), (1, .int (nI ti)), (0, .ref b)]) hx hb dL_law_97 hl (by decide) rfl (fun ls hl => ?_)
    refine kz_loopD 99 (fun N9 H locs ls => ∃ (U3 : Pool) (Y3 : Pool) (f3 : Nat → Int32) (r3 : Nat) (k : Nat), N9 = n - k ∧ k ≤ n ∧ r3 ≤ dr + 25 * k ∧ DK U3 d x b Ad (n, na, f3, fO, fW, fC, fR, fB) ∧ VM (n, na, f3, fO, fW, fC, fR, fB) n na r3 M ∧ GG n na Y3 M x ar ak ∧ va_P D vwCl (PW cA U3 ++ PW cA Y3) H ∧ va_D A (PW cA U3 ++ PW cA Y3) ∧ va_S A s.heap H locs ∧ lv_has ls 16 [(8, .int (nI k)), (7, .int (nI (sumN (fun j => sumN (fun v => nT M.2 (nI j) (nI v) na) (vcT M j)) k))), (5, .long (rDig M n na ru (vcT M))), (4, .int (nI sp)), (3, .ref x), (2, .ref d), (1, .int (nI ti)), (0, .ref b)]) (fun N9 ih_99 H locs ls e_99 hd0 hI => ?_) hd0 ⟨U, x_4, fF, dr, 0, rfl, Nat.zero_le _, (by omega), dk, hvm, gg_4, hP, hD, hS, lv_sub hl [0, 1, 2, 3, 4, 5, 6, 7] rfl⟩
    obtain ⟨U3, Y3, f3, r3, k, hn9, hk9, hr39, dk3, hvm3, gg3, hP, hD, hS, hl⟩ := hI
    have htT : ∀ w ∈ TT, w.before _ (s.setDrawn e_99) = true := dr_words htT0 e_99
    have hTB : TBok (s.setDrawn e_99) := TBok.same (u := s) (U := s.setDrawn e_99) rfl (Vm.Alike.refl s.vm) hTB0
    have hK : va_K D vwCl (ty6 cA) (s.setDrawn e_99) := hK0
    have hown : (s.setDrawn e_99).vm.findClass RL = some m.cls := hown0
    have hTX : TXok A (s.setDrawn e_99) := hTX0.dr e_99
    have hX : va_X b L xs (s.setDrawn e_99) (s.setDrawn e_99).heap := hX0
    have hAO : va_AOA .int (s.setDrawn e_99) ∧ va_AOA (.array .int) (s.setDrawn e_99) := ⟨va_AOA.moved (u := s) (U := s.setDrawn e_99) (Vm.Alike.refl s.vm) hAO0.1, va_AOA.moved (u := s) (U := s.setDrawn e_99) (Vm.Alike.refl s.vm) hAO0.2⟩
    refine lv_iload hx hb dL_law_99 (lv_at hl 0 rfl) ?_
    refine lv_aload_n hx hb dL_law_101 rfl (lv_at hl 5 rfl) ?_
    refine kd_getiv (x := nI n) hx hb htT m_u_X6 hown hK hP dk3.o rfl 5 (by decide) (by decide) rfl (htT _ m_fl_L_37) ((dk3.f 5).trans ((show _ = f3 5 from rfl).trans hvm3.f5)) dL_law_102 ?_
    refine lv_icmp_ge (tgt := 858) hx hb dL_law_105 (by decide) (fun c_5 => ?_) (fun c_5 => ?_)
    · replace c_5 := (nI_leI (a := n) (b := k) (by omega) (by omega)).mp c_5
      have hkn : k = n := by omega
      rw [hkn, arms_all gg3] at hl
      refine lv_iload hx hb dL_law_858 (lv_at hl 1 rfl) ?_
      refine lv_aload_n hx hb dL_law_860 rfl (lv_at hl 4 rfl) ?_
      refine kn_i (va_runV (As := []) (rest := [.int (nI na)]) ⟨hx, hb, hml, hown, htT⟩ (c_arms l D cA _ Y3 x gg3.c.hx) (cwV 0 htT (kg_V m_ml_L_101 m_im_X5_arms m_sl_X5_arms m_in_X5 m_cd_X5_arms) rfl rfl rfl (by decide +kernel) ⟨Nat.le_of_ble_eq_true rfl, Nat.le_of_ble_eq_true rfl⟩) (kn_V hK hP hD hTB gg3.c.hx (Nat.le_of_ble_eq_true rfl) rfl) rfl rfl hl.1 rfl (lv_room (Nat.le_of_ble_eq_true rfl)) dL_law_861 ⟨(by show _ ≤ 600086; omega), (by show _ ≤ 7301442; omega)⟩) hP hD hS hA (fun r_6 x_6 H locs hq_6 hP hD hS => ?_)
      rw [hq_6.2] at hP hD
      rw [hq_6.1.trans gg3.c.x3]
      refine lv_icmp_ne (tgt := 877) hx hb dL_law_864 (by decide) (fun c_7 => ?_) (fun c_7 => ?_)
      · exact absurd rfl c_7
      · refine lv_aload_n hx hb dL_law_867 rfl (lv_at hl 4 rfl) ?_
        refine kjD_l hd0 List.perm_append_comm (va_runV_D (As := []) (rest := []) ⟨hx, hb, hml, hown, htT⟩ (c_digestX l D cA _ Y3 x gg3.c.hx ar gg3.c.q0 ak gg3.c.q1 gg3.c.kk gg3.c.R n gg3.c.n8 gg3.c.x2 na gg3.c.x3 (rLfT M n) (lf_eq gg3.l gg3.c) (vcT M) (rShT M) (rBdT M na (vcT M)) (rTrT M na (vcT M)) (rBeT M na (vcT M)) (rWeT M) (rToT M na) (rFuT M na ru) (rGeT M na ru) (rWhT M na ru) (rArT M na) gg3.c.row (dg_eq gg3.l gg3.c gg3.t gg3.r hok gg3.y rfl rfl)) (cwV 0 htT (kg_V m_ml_L_31 m_im_X5_digest m_sl_X5_digest m_in_X5 m_cd_X5_digest) rfl rfl rfl (by decide +kernel) ⟨Nat.le_of_ble_eq_true rfl, Nat.le_of_ble_eq_true rfl⟩) (kn_V hK hP hD hTB gg3.c.hx (Nat.le_of_ble_eq_true rfl) rfl) rfl rfl hl.1 rfl (lv_room (Nat.le_of_ble_eq_true rfl)) dL_law_868 ⟨(by show _ ≤ 600086; omega), (by show _ ≤ 7301442; omega)⟩) hP hD hS hA (fun r_8 x_8 H locs hq_8 hP hD hS d_8 hd0 => ?_)
        replace hP := kj_P List.perm_append_comm hP
        replace hD := kj_D List.perm_append_comm hD
        have htT : ∀ w ∈ TT, w.before _ (s.setDrawn d_8) = true := dr_words htT0 d_8
        have hTB : TBok (s.setDrawn d_8) := TBok.same (u := s) (U := s.setDrawn d_8) rfl (Vm.Alike.refl s.vm) hTB0
        have hK : va_K D vwCl (ty6 cA) (s.setDrawn d_8) := hK0
        have hown : (s.setDrawn d_8).vm.findClass RL = some m.cls := hown0
        have hTX : TXok A (s.setDrawn d_8) := hTX0.dr d_8
        have hX : va_X b L xs (s.setDrawn d_8) (s.setDrawn d_8).heap := hX0
        have hAO : va_AOA .int (s.setDrawn d_8) ∧ va_AOA (.array .int) (s.setDrawn d_8) := ⟨va_AOA.moved (u := s) (U := s.setDrawn d_8) (Vm.Alike.refl s.vm) hAO0.1, va_AOA.moved (u := s) (U := s.setDrawn d_8) (Vm.Alike.refl s.vm) hAO0.2⟩
        have gg_8 : GG n na x_8 M x ar ak := gg3.eA hq_8.2
        rw [show r_8 = rDig M n na ru (vcT M) from hq_8.1]
        refine lv_lload hx hb dL_law_871 (lv_at hl 2 rfl) ?_
        refine W.lcmp hx hb dL_law_873 ?_
        rw [show lg_cmp (rDig M n na ru (vcT M)) (rDig M n na ru (vcT M)) = 0 from lg_selfx _]
        refine lv_if_eq (tgt := 879) hx hb dL_law_874 (by decide) (fun _ => ?_) (fun c_9 => absurd c_9 (by decide))
        exact hnext U3 x_8 H locs _ d_8 hd0 ⟨n, na, r3, cM, sB, Ad, _, _, _, _, _, _, M, by omega, by omega, by omega, by omega, dk3, hvm3, gg_8, hM⟩ hP hD hS (lv_sub hl [3, 4, 5, 6, 7] rfl)
    · replace c_5 : ¬ n ≤ k := fun h9 => c_5 ((nI_leI (a := n) (b := k) (by omega) (by omega)).mpr h9)
      have hk : k < n := by omega
      refine law_k l hst C0 hA hbA hK0 hTB0 hTX0 hAO0 hL (D9 := dr + 25 * k) (aa := sumN (fun j => sumN (fun v => nT M.2 (nI j) (nI v) na) (vcT M j)) k) (by omega) (by omega) hk hn8 hna hok hM (by omega) (by omega) (by omega) (fun T4 S4 f4 r4 H locs ls d4 hd0 hr4 dk4 hvm4 gg4 hP hD hS hl => ?_) hd0 hr39 dk3 hvm3 gg3 hP hD hS (lv_sub hl [0, 1, 2, 3, 4, 5, 6, 7] rfl)
      have htT : ∀ w ∈ TT, w.before _ (s.setDrawn d4) = true := dr_words htT0 d4
      have hTB : TBok (s.setDrawn d4) := TBok.same (u := s) (U := s.setDrawn d4) rfl (Vm.Alike.refl s.vm) hTB0
      have hK : va_K D vwCl (ty6 cA) (s.setDrawn d4) := hK0
      have hown : (s.setDrawn d4).vm.findClass RL = some m.cls := hown0
      have hTX : TXok A (s.setDrawn d4) := hTX0.dr d4
      have hX : va_X b L xs (s.setDrawn d4) (s.setDrawn d4).heap := hX0
      have hAO : va_AOA .int (s.setDrawn d4) ∧ va_AOA (.array .int) (s.setDrawn d4) := ⟨va_AOA.moved (u := s) (U := s.setDrawn d4) (Vm.Alike.refl s.vm) hAO0.1, va_AOA.moved (u := s) (U := s.setDrawn d4) (Vm.Alike.refl s.vm) hAO0.2⟩
      refine lv_iinc (v := nI (k + 1)) (lv' := [(8, .int (nI (k + 1))), (7, .int (nI (sumN (fun j => sumN (fun v => nT M.2 (nI j) (nI v) na) (vcT M j)) k + sumN (fun v => nT M.2 (nI k) (nI v) na) (vcT M k)))), (5, .long (rDig M n na ru (vcT M))), (4, .int (nI sp)), (3, .ref x), (2, .ref d), (1, .int (nI ti)), (0, .ref b)]) hx hb dL_law_852 hl (k := 0) rfl (nI_1 _) (by decide) rfl (fun ls hl => ?_)
      refine lv_goto (tgt := 99) hx hb dL_law_855 (by decide) ?_
      have hl := lv_sub hl [0, 1, 2, 3, 4, 5, 6, 7] rfl
      exact ih_99 _ (by omega) H locs ls d4 hd0 ⟨T4, S4, f4, r4, k + 1, rfl, (by omega), (by omega), dk4, hvm4, gg4, hP, hD, hS, hl⟩
  · replace c_3 : ¬ 6 ≤ i := fun h9 => c_3 ((nI_leI (a := 6) (b := i) (by omega) (by omega)).mpr h9)
    refine lv_aload_n hx hb dL_law_65 rfl (lv_at hl 3 rfl) ?_
    refine kc_i (va_runV (As := []) (rest := []) ⟨hx, hb, hml, hown, htT⟩ (d_ask l D cA _ b L xs hL U Y d x ar ak (D9 + 9 + 16 * i) (c9 + 4) (s9 + 100 * i) (4) (by omega) (by omega) (by omega) hJ9 (by omega)) (cwV 0 htT (kg_V m_ml_L_25 m_im_X6_ask m_sl_X6_ask m_in_X6 m_cd_X6_ask) rfl rfl rfl (by decide +kernel) ⟨Nat.le_of_ble_eq_true rfl, Nat.le_of_ble_eq_true rfl⟩) (kpe_V hK hP hD hTB hTX hX hbl hbA hAO hS hA (kpe_rc hK hP (J38.o hJ9) rfl)) rfl rfl hl.1 rfl (lv_room (Nat.le_of_ble_eq_true rfl)) dL_law_66 ⟨(by show _ ≤ 600086; omega), (by show _ ≤ 7301442; omega)⟩) hD hS hA (fun r_10 x_10 H locs hq_10 hP hD hS => ?_)
    rw [hq_10.1]
    have hJ_10 : J38 d x b ar ak (D9 + 9 + 16 * i + 8) (c9 + 4) (s9 + 100 * i) (4) x_10.1 x_10.2 := hq_10.2
    refine lv_if_eq (tgt := 79) hx hb dL_law_69 (by decide) (fun c_11 => absurd c_11 (by decide)) (fun _ => ?_)
    refine lv_aload_n hx hb dL_law_72 rfl (lv_at hl 3 rfl) ?_
    refine kc_i (va_runV (As := []) (rest := []) ⟨hx, hb, hml, hown, htT⟩ (d_act l D cA _ b L xs hL x_10.1 x_10.2 d x ar ak (D9 + 9 + 16 * i + 8) (c9 + 4) (s9 + 100 * i) (4) (by omega) (by omega) (by omega) hJ_10 (by omega)) (cwV 0 htT (kg_V m_ml_L_28 m_im_X6_act m_sl_X6_act m_in_X6 m_cd_X6_act) rfl rfl rfl (by decide +kernel) ⟨Nat.le_of_ble_eq_true rfl, Nat.le_of_ble_eq_true rfl⟩) (kpe_V hK hP hD hTB hTX hX hbl hbA hAO hS hA (kpe_rc hK hP (J38.o hJ_10) rfl)) rfl rfl hl.1 rfl (lv_room (Nat.le_of_ble_eq_true rfl)) dL_law_73 ⟨(by show _ ≤ 600086; omega), (by show _ ≤ 7301442; omega)⟩) hD hS hA (fun r_12 x_12 H locs hq_12 hP hD hS => ?_)
    rw [hq_12.1]
    have hJ_12 : J38 d x b ar ak (D9 + 9 + 16 * i + 16) (c9 + 4) (s9 + 100 * i + 100) (4) x_12.1 x_12.2 := hq_12.2
    refine lv_if_ne (tgt := 81) hx hb dL_law_76 (by decide) (fun _ => ?_) (fun c_13 => absurd c_13 (by decide))
    refine lv_iinc (v := nI (i + 1)) (lv' := [(5, .int (nI (i + 1))), (4, .int (nI sp)), (3, .ref x), (2, .ref d), (1, .int (nI ti)), (0, .ref b)]) hx hb dL_law_81 hl (k := 0) rfl (nI_1 _) (by decide) rfl (fun ls hl => ?_)
    refine lv_goto (tgt := 58) hx hb dL_law_84 (by decide) ?_
    exact ih_58 _ (by omega) _ _ H locs _ e_58 hd0 ⟨x_12.1, x_12.2, i + 1, rfl, (by omega), J38.mono hJ_12 (by omega) (by omega) (by omega) (by omega), (by omega), (by omega), hP, hD, hS, lv_sub hl [0, 1, 2, 3, 4, 5] rfl⟩
theorem J38.q0 {d x b ar ak D0 c0 s0 n0 : Nat} {T S : Pool} (h : J38 d x b ar ak D0 c0 s0 n0 T S) : gQ T d 0 = some x := by
  obtain ⟨n, na, dr, cM, sB, Ad, fF, fO, fW, fC, fR, fB, M, a1, a2, a3, a4, dk, r⟩ := h
  exact dk.q0
set_option maxRecDepth 100000 in
set_option maxHeartbeats 4000000 in
/-- one time -/
theorem law_t (l : Launch) (hst : l.stackTraces = false) {p : Program} {e : Env} {s : State} {m : MethodId} {below : List Frame} {meth : Method} {c : Code} {b L : Nat} {xs : Nat → Int32} (C0 : lw_At p s m meth c b L xs) {D : va_G} {cA : Nat → ClassId} {A : Nat → Prop} (hA : ∀ q : Nat, s.heap.size ≤ q → A q) (hbA : ¬ A b) (hK : va_K D vwCl (ty6 cA) s) (hTB : TBok s) (hTX : TXok A s) (hAO : va_AOA .int s ∧ va_AOA (.array .int) s) (hL : L < 2 ^ 31) {ti u0 v0 : Nat} (hti : ti < 3) (hu0 : u0 ≤ 300000) (hv0 : v0 ≤ 4000000) (hnext : ∀ (H : Heap) (locs : List Loc) (ls : Array Slot) (dd : Drawn), s.drawn.sameBut dd lw_cs → va_S A s.heap H locs → lv_has ls 16 [(1, .int (nI ti)), (0, .ref b)] → W p l e room_1 (s.setDrawn dd) m #[Value.ref b] below meth c H locs (u0 + 395) (v0 + 3766) (lw_Z below #[Value.ref b] s) (F0 m 885 ls [])) {H : Heap} {locs : List Loc} {ls : Array Slot} {dd : Drawn} (hd0 : s.drawn.sameBut dd lw_cs) (hS : va_S A s.heap H locs) (hl : lv_has ls 16 [(1, .int (nI ti)), (0, .ref b)]) : W p l e room_1 (s.setDrawn dd) m #[Value.ref b] below meth c H locs u0 v0 (lw_Z below #[Value.ref b] s) (F0 m 7 ls []) := by
  obtain ⟨hx, hb, hr, hml, hown, hts, hX, hbl, hlocks, hgv⟩ := id C0
  have htT0 : ∀ w ∈ TT, w.before _ s = true := fun w h => hts w (tt_in h)
  have hTB0 := hTB
  have hK0 := hK
  have hown0 : s.vm.findClass RL = some m.cls := hown
  have hTX0 := hTX
  have hX0 := hX
  have hAO0 := hAO
  have htT : ∀ w ∈ TT, w.before _ (s.setDrawn dd) = true := dr_words htT0 dd
  have hTB : TBok (s.setDrawn dd) := TBok.same (u := s) (U := s.setDrawn dd) rfl (Vm.Alike.refl s.vm) hTB0
  have hK : va_K D vwCl (ty6 cA) (s.setDrawn dd) := hK0
  have hown : (s.setDrawn dd).vm.findClass RL = some m.cls := hown0
  have hTX : TXok A (s.setDrawn dd) := hTX0.dr dd
  have hX : va_X b L xs (s.setDrawn dd) (s.setDrawn dd).heap := hX0
  have hAO : va_AOA .int (s.setDrawn dd) ∧ va_AOA (.array .int) (s.setDrawn dd) := ⟨va_AOA.moved (u := s) (U := s.setDrawn dd) (Vm.Alike.refl s.vm) hAO0.1, va_AOA.moved (u := s) (U := s.setDrawn dd) (Vm.Alike.refl s.vm) hAO0.2⟩
  have hP : va_P D vwCl (PW cA P0 ++ []) H := fun k q h => by have h9 : ([] : va_W)[k]? = some q := h; simp at h9
  have hD : va_D A (PW cA P0 ++ []) := ⟨fun i j p q h => by have h9 : ([] : va_W)[i]? = some p := h; simp at h9, fun k q h => by have h9 : ([] : va_W)[k]? = some q := h; simp at h9⟩
  refine kd_new (S := P0) (wb := []) hx hb htT m_u_X6 tyX6 tyX6_ok hown (htT _ m_cl_L_9) (htT _ m_nw_X6) (htT _ m_in_X6) hK hP hD hS hA rfl rfl (by decide) (by show _ ≤ 600086; omega) (by show _ ≤ 7301442; omega) dL_law_7 (fun d H hqd hP hD hS => ?_)
  have hP : va_P D vwCl (PW cA (pW P0 d 23 0) ++ PW cA P0) H := hP
  have hD : va_D A (PW cA (pW P0 d 23 0) ++ PW cA P0) := hD
  refine lv_dup hx hb dL_law_10 rfl ?_
  refine lv_aload_n hx hb dL_law_11 rfl (lv_at hl 1 rfl) ?_
  refine lv_bipush (v := 31) hx hb dL_law_12 (by decide) ?_
  refine lv_iload_n hx hb dL_law_14 rfl (lv_at hl 0 rfl) ?_
  refine lv_imul hx hb dL_law_15 ?_
  rw [show (31 * (nI ti) : Int32) = nI (31 * ti) from pk_mul 31 ti]
  refine lv_bipush (v := 7) hx hb dL_law_16 (by decide) ?_
  refine lv_iadd hx hb dL_law_18 ?_
  rw [show ((nI (31 * ti)) + 7 : Int32) = nI ((31 * ti) + 7) from nI_add (31 * ti) 7]
  refine kc_v (va_runI (As := [.ref b, .int (nI ((31 * ti) + 7))]) (rest := [.ref d]) ⟨hx, hb, hml, hown, htT⟩ (d_init l D cA _ b L xs hL (pW P0 d 23 0) d (31 * ti + 7) isO_q (fun _ => gI_q)) (cwI 2 htT (kg_I m_cd_X6_init) rfl rfl rfl (htT _ m_in_X6) (htT _ m_ml_L_11) (htT _ m_im_X6_init) rfl (by decide +kernel) ⟨Nat.le_of_ble_eq_true rfl, Nat.le_of_ble_eq_true rfl⟩) (kpe_S hK hP hD hTB hTX hX hbl hbA hAO hS hA) rfl rfl hl.1 rfl (lv_room (Nat.le_of_ble_eq_true rfl)) dL_law_19 ⟨(by show _ ≤ 600086; omega), (by show _ ≤ 7301442; omega)⟩) hD hS hA (fun x_1 H locs hq_1 hP hD hS => ?_)
  obtain ⟨x, ar, ak, hJ⟩ := hq_1
  refine lv_astore_n (lv' := [(2, .ref d), (1, .int (nI ti)), (0, .ref b)]) hx hb dL_law_22 rfl hl (by decide) rfl (fun ls hl => ?_)
  refine lv_aload_n hx hb dL_law_23 rfl (lv_at hl 0 rfl) ?_
  refine kd_gets (r := x) hx hb htT m_u_X6 hown hK hP (J38.o hJ) rfl 0 (by decide) (by decide) rfl (J38.q0 hJ) (htT _ m_fl_L_14) dL_law_24 ?_
  refine lv_astore_n (lv' := [(3, .ref x), (2, .ref d), (1, .int (nI ti)), (0, .ref b)]) hx hb dL_law_27 rfl hl (by decide) rfl (fun ls hl => ?_)
  refine lv_aload_n hx hb dL_law_28 rfl (lv_at hl 1 rfl) ?_
  refine kc_i (va_runV (As := []) (rest := []) ⟨hx, hb, hml, hown, htT⟩ (d_found l hst D cA _ b L xs hL x_1.1 x_1.2 d x ar ak (31 * ti + 7) (0) (0) (by omega) (by omega) (by omega) hJ) (cwV 0 htT (kg_V m_ml_L_18 m_im_X6_found m_sl_X6_found m_in_X6 m_cd_X6_found) rfl rfl rfl (by decide +kernel) ⟨Nat.le_of_ble_eq_true rfl, Nat.le_of_ble_eq_true rfl⟩) (kpe_V hK hP hD hTB hTX hX hbl hbA hAO hS hA (kpe_rc hK hP (J38.o hJ) rfl)) rfl rfl hl.1 rfl (lv_room (Nat.le_of_ble_eq_true rfl)) dL_law_29 ⟨(by show _ ≤ 600086; omega), (by show _ ≤ 7301442; omega)⟩) hD hS hA (fun r_1 x_1 H locs hq_1 hP hD hS => ?_)
  rw [hq_1.1]
  have hJ_1 : J38 d x b ar ak (31 * ti + 7 + 300) 0 0 4 x_1.1 x_1.2 := hq_1.2
  refine lv_if_ne (tgt := 37) hx hb dL_law_32 (by decide) (fun _ => ?_) (fun c_2 => absurd c_2 (by decide))
  refine lv_iconst (v := 0) hx hb dL_law_37 (by decide) ?_
  refine lv_istore (lv' := [(4, .int 0), (3, .ref x), (2, .ref d), (1, .int (nI ti)), (0, .ref b)]) hx hb dL_law_38 hl (by decide) rfl (fun ls hl => ?_)
  refine W.widen (k := u0 + 71) (n := v0 + 666) (by omega) (by omega) ?_
  refine kz_loopDC 40 (fun N9 cl9 sl9 H locs ls => ∃ (U : Pool) (Y : Pool) (sp : Nat), N9 = 4 - sp ∧ sp ≤ 4 ∧ J38 d x b ar ak (31 * ti + 307 + 305 * sp) (4 * sp) (600 * sp) 4 U Y ∧ cl9 = u0 + 71 + 81 * sp ∧ sl9 = v0 + 666 + 775 * sp ∧ va_P D vwCl (PW cA U ++ PW cA Y) H ∧ va_D A (PW cA U ++ PW cA Y) ∧ va_S A s.heap H locs ∧ lv_has ls 16 [(4, .int (nI sp)), (3, .ref x), (2, .ref d), (1, .int (nI ti)), (0, .ref b)]) (fun N9 ih_40 cl9 sl9 H locs ls e_40 hd0 hI => ?_) hd0 ⟨x_1.1, x_1.2, 0, rfl, Nat.zero_le _, (J38.mono hJ_1 (by omega) (by omega) (by omega) (by omega)), rfl, rfl, hP, hD, hS, lv_sub hl [0, 1, 2, 3, 4] rfl⟩
  obtain ⟨U, Y, sp, hn9, hi9, hJ9, hcl9, hsl9, hP, hD, hS, hl⟩ := hI
  subst hcl9 hsl9
  have htT : ∀ w ∈ TT, w.before _ (s.setDrawn e_40) = true := dr_words htT0 e_40
  have hTB : TBok (s.setDrawn e_40) := TBok.same (u := s) (U := s.setDrawn e_40) rfl (Vm.Alike.refl s.vm) hTB0
  have hK : va_K D vwCl (ty6 cA) (s.setDrawn e_40) := hK0
  have hown : (s.setDrawn e_40).vm.findClass RL = some m.cls := hown0
  have hTX : TXok A (s.setDrawn e_40) := hTX0.dr e_40
  have hX : va_X b L xs (s.setDrawn e_40) (s.setDrawn e_40).heap := hX0
  have hAO : va_AOA .int (s.setDrawn e_40) ∧ va_AOA (.array .int) (s.setDrawn e_40) := ⟨va_AOA.moved (u := s) (U := s.setDrawn e_40) (Vm.Alike.refl s.vm) hAO0.1, va_AOA.moved (u := s) (U := s.setDrawn e_40) (Vm.Alike.refl s.vm) hAO0.2⟩
  refine lv_iload hx hb dL_law_40 (lv_at hl 0 rfl) ?_
  refine lv_iconst (v := 4) hx hb dL_law_42 (by decide) ?_
  refine lv_icmp_ge (tgt := 885) hx hb dL_law_43 (by decide) (fun c_3 => ?_) (fun c_3 => ?_)
  · replace c_3 := (nI_leI (a := 4) (b := sp) (by omega) (by omega)).mp c_3
    have hs4 : sp = 4 := by omega
    subst hs4
    refine W.widen (k := u0 + 395) (n := v0 + 3766) (by omega) (by omega) ?_
    exact hnext H locs _ e_40 hd0 hS (lv_sub hl [3, 4] rfl)
  · replace c_3 : ¬ 4 ≤ sp := fun h9 => c_3 ((nI_leI (a := 4) (b := sp) (by omega) (by omega)).mpr h9)
    refine law_s l hst C0 hA hbA hK0 hTB0 hTX0 hAO0 hL (by omega) (by omega) (by omega) (by omega) (by omega) (fun T4 S4 H locs ls d4 hd0 hJ4 hP hD hS hl => ?_) hd0 hJ9 hP hD hS (lv_sub hl [0, 1, 2, 3, 4] rfl)
    have htT : ∀ w ∈ TT, w.before _ (s.setDrawn d4) = true := dr_words htT0 d4
    have hTB : TBok (s.setDrawn d4) := TBok.same (u := s) (U := s.setDrawn d4) rfl (Vm.Alike.refl s.vm) hTB0
    have hK : va_K D vwCl (ty6 cA) (s.setDrawn d4) := hK0
    have hown : (s.setDrawn d4).vm.findClass RL = some m.cls := hown0
    have hTX : TXok A (s.setDrawn d4) := hTX0.dr d4
    have hX : va_X b L xs (s.setDrawn d4) (s.setDrawn d4).heap := hX0
    have hAO : va_AOA .int (s.setDrawn d4) ∧ va_AOA (.array .int) (s.setDrawn d4) := ⟨va_AOA.moved (u := s) (U := s.setDrawn d4) (Vm.Alike.refl s.vm) hAO0.1, va_AOA.moved (u := s) (U := s.setDrawn d4) (Vm.Alike.refl s.vm) hAO0.2⟩
    refine lv_iinc (v := nI (sp + 1)) (lv' := [(4, .int (nI (sp + 1))), (3, .ref x), (2, .ref d), (1, .int (nI ti)), (0, .ref b)]) hx hb dL_law_879 hl (k := 0) rfl (nI_1 _) (by decide) rfl (fun ls hl => ?_)
    refine lv_goto (tgt := 40) hx hb dL_law_882 (by decide) ?_
    exact ih_40 _ (by omega) _ _ H locs _ d4 hd0 ⟨T4, S4, sp + 1, rfl, (by omega), J38.mono hJ4 (by omega) (by omega) (by omega) (by omega), (by omega), (by omega), hP, hD, hS, lv_sub hl [0, 1, 2, 3, 4] rfl⟩
