theorem VM.rul_ok {V : DV} {n na dr k rc vc : Nat} {M : MSt} (h : VM V n na dr M) (hMu : MKu n M) (hk : k < n) (q8 : k < 8) (hru5 : rc ≤ 5) (eC : vC V k = rc) (eru : M.2 17 k = nI rc) (hvc : vc ≤ 4) (evc : M.2 5 k = nI vc) {i : Nat} (hi : i < vC V k) : (vR V k i 0 = 0 ∨ vR V k i 0 = 1) ∧ (vR V k i 1 = 1 ∨ vR V k i 1 = 2 ∨ vR V k i 1 = 3) ∧ ∃ v, v ≤ 9 ∧ vR V k i 2 = nI v := by
  obtain ⟨⟨a1, a2, a3⟩, ⟨b1, b2, b3, b4⟩, ⟨c1, c2, c3⟩, d1⟩ := hMu k hk rc vc hru5 eru hvc evc i (by omega)
  have e0 := h.r q8 hi (j := 0) (by decide)
  have e1 := h.r q8 hi (j := 1) (by decide)
  have e2 := h.r q8 hi (j := 2) (by decide)
  refine ⟨?_, ?_, ⟨c1, c2, e2.trans c3⟩⟩
  · rcases (show a1 = 0 ∨ a1 = 1 by omega) with rfl | rfl
    · exact Or.inl (e0.trans a3)
    · exact Or.inr (e0.trans a3)
  · rcases (show b1 = 1 ∨ b1 = 2 ∨ b1 = 3 by omega) with rfl | rfl | rfl
    · exact Or.inl (e1.trans b4)
    · exact Or.inr (Or.inl (e1.trans b4))
    · exact Or.inr (Or.inr (e1.trans b4))
set_option maxRecDepth 100000 in
set_option maxHeartbeats 4000000 in
/-- d_ask -/
theorem d_ask (l : Launch) (D : va_G) (cA : Nat → ClassId) (sz : Nat) (b L : Nat) (xs : Nat → Int32) (hL : L < 2 ^ 31) (T S : Pool) (d x ar ak D0 c0 s0 n0 : Nat) (hD0 : D0 < 1000000) (hc0 : c0 < 100000) (hs0 : s0 < 1000000) (hJ : J38 d x b ar ak D0 c0 s0 n0 T S) (hn0 : 1 ≤ n0)  : Met l yX6_ask (Cond.code yX6_ask cX6_ask 8 (some .boolean) :: TT) ({ frames := 27, cells := 12, slots := 111, locals := 645 }) (va_Pc [.ref d] (kPreE D cA (PW cA T ++ PW cA S) b L xs sz)) (va_Qi (fun (r_ : Int32) (x_ : Pool × Pool) => r_ = 1 ∧ J38 d x b ar ak (D0 + 8) (c0) (s0) (n0) x_.1 x_.2) (fun x_ => kB D cA (va_A (PW cA T ++ PW cA S) sz) (PW cA x_.1 ++ PW cA x_.2)) (va_A (PW cA T ++ PW cA S) sz)) 12 111 (va_A (PW cA T ++ PW cA S) sz) := by
  refine Met.ofW (cc := cX6_ask) (maxL := 8) (ret := (some .boolean)) (by decide) rfl ?_
  intro p e s m args below meth c s₁ B hml hv
  obtain ⟨rfl, ⟨⟨hsz, hP, hK, hD0, hTB⟩, hTX⟩, hX, hbl, hbA, hAO⟩ := hv
  have hx := B.exec
  have hb := B.bytes
  have hr := B.returns
  have hts := atoms_spec (ws := Cond.code yX6_ask cX6_ask 8 (some .boolean) :: TT) B.pre
  have htT : ∀ w ∈ TT, w.before _ s = true := fun w h => hts w (List.mem_cons_of_mem _ h)
  have hown : s.vm.findClass RX6 = some m.cls := findClass_of_methodNamed B.named
  have hlocks := B.notSynchronized
  subst hsz
  have hD := hD0.self (sz := s.heap.size)
  generalize hAe : va_A (PW cA T ++ PW cA S) s.heap.size = A at hD hTX hbA ⊢
  have hA : ∀ q : Nat, s.heap.size ≤ q → A q := fun q h => by rw [← hAe]; exact Or.inr h
  have hS : va_S A s.heap s.heap [] := va_S.rf
  have hl := lv_entry ([.ref d]) (n := 8) (Nat.le_of_ble_eq_true rfl)
  rw [lg_entry_eq]
  generalize (lg_sl ([.ref d]) ++ List.replicate (8 - (lg_sl ([.ref d])).length) Slot.unset).toArray = ls at hl ⊢
  have hl : lv_has ls 8 [(0, .ref d)] := hl
  obtain ⟨n, na, dr, cM, sB, Ad, fF, fO, fW, fC, fR, fB, M, hn9, hdr9, hcM9, hsB9, dk, hvm, gg, hM⟩ := hJ
  have hn8 : n ≤ 8 := dk.n8
  have hna : na ≤ 100 := gg.r.na
  have hdr : fF 2 = nI dr := hvm.f2
  have oF5 : fF 5 = nI n := hvm.f5
  have oF3 : fF 3 = nI cM := hvm.f3.trans hM.1.1
  refine lv_aload_n hx hb dX6_ask_0 rfl (lv_at hl 0 rfl) ?_
  refine lv_aload_n hx hb dX6_ask_1 rfl (lv_at hl 0 rfl) ?_
  refine kd_getiv (x := nI n) hx hb htT m_u_X6 hown hK hP dk.o rfl 5 (by decide) (by decide) rfl (htT _ m_fl_X6_57) ((dk.f 5).trans ((show _ = fF 5 from rfl).trans oF5)) dX6_ask_2 ?_
  refine kc_i (va_runV (As := [.int (nI n)]) (rest := []) ⟨hx, hb, hml, hown, htT⟩ (d_draw l D cA _ (PW cA S) b L xs hL T d x Ad n na fF fO fW fC fR fB dk (dr) hdr (by omega) (n) (by omega) (by omega)) (cwV 1 htT (kg_V m_ml_X6_60 m_im_X6_draw m_sl_X6_draw m_in_X6 m_cd_X6_draw) rfl rfl rfl (by decide +kernel) ⟨Nat.le_of_ble_eq_true rfl, Nat.le_of_ble_eq_true rfl⟩) (kpe_V hK hP hD hTB hTX hX hbl hbA hAO hS hA (kpe_rc hK hP dk.o rfl)) rfl rfl hl.1 rfl (lv_room (Nat.le_of_ble_eq_true rfl)) dX6_ask_5 ⟨Nat.le_of_ble_eq_true rfl, Nat.le_of_ble_eq_true rfl⟩) hD hS hA (fun r_1 x_1 H locs hq_1 hP hD hS => ?_)
  obtain ⟨⟨k, hk, hr_1⟩, ht_1⟩ := hq_1
  rw [hr_1]
  rw [ht_1] at hP hD
  have dk_2 : DK (pI T d 2 (nI (dr + 1))) d x b Ad (n, na, (upd fF 2 (nI (dr + 1))), fO, fW, fC, fR, fB) := dk.num
  have q8_k : k < 8 := by omega
  obtain ⟨a_k, ja_k⟩ := gg.c.row k (by omega)
  have sw_k := gg.sw2 (by omega) ja_k
  refine lv_istore_n (lv' := [(1, .int (nI k)), (0, .ref d)]) hx hb dX6_ask_8 rfl hl (by decide) rfl (fun ls hl => ?_)
  refine lv_aload_n hx hb dX6_ask_9 rfl (lv_at hl 1 rfl) ?_
  refine lv_bipush (v := 30) hx hb dX6_ask_10 (by decide) ?_
  refine kc_i (va_runV (As := [.int 30]) (rest := []) ⟨hx, hb, hml, hown, htT⟩ (d_draw l D cA _ (PW cA S) b L xs hL (pI T d 2 (nI (dr + 1))) d x Ad n na (upd fF 2 (nI (dr + 1))) fO fW fC fR fB dk_2 (dr + 1) rfl (by omega) (30) (by omega) (by omega)) (cwV 1 htT (kg_V m_ml_X6_60 m_im_X6_draw m_sl_X6_draw m_in_X6 m_cd_X6_draw) rfl rfl rfl (by decide +kernel) ⟨Nat.le_of_ble_eq_true rfl, Nat.le_of_ble_eq_true rfl⟩) (kpe_V hK hP hD hTB hTX hX hbl hbA hAO hS hA (kpe_rc hK hP dk_2.o rfl)) rfl rfl hl.1 rfl (lv_room (Nat.le_of_ble_eq_true rfl)) dX6_ask_12 ⟨Nat.le_of_ble_eq_true rfl, Nat.le_of_ble_eq_true rfl⟩) hD hS hA (fun r_3 x_3 H locs hq_3 hP hD hS => ?_)
  obtain ⟨⟨uu, huu, hr_3⟩, ht_3⟩ := hq_3
  rw [hr_3]
  rw [ht_3] at hP hD
  have dk_4 : DK (pI (pI T d 2 (nI (dr + 1))) d 2 (nI (dr + 1 + 1))) d x b Ad (n, na, (upd (upd fF 2 (nI (dr + 1))) 2 (nI (dr + 1 + 1))), fO, fW, fC, fR, fB) := dk_2.num
  refine lv_istore_n (lv' := [(2, .int (nI uu)), (1, .int (nI k)), (0, .ref d)]) hx hb dX6_ask_15 rfl hl (by decide) rfl (fun ls hl => ?_)
  refine lv_aload_n hx hb dX6_ask_16 rfl (lv_at hl 2 rfl) ?_
  refine lv_bipush (v := 10) hx hb dX6_ask_17 (by decide) ?_
  refine kc_i (va_runV (As := [.int 10]) (rest := []) ⟨hx, hb, hml, hown, htT⟩ (d_draw l D cA _ (PW cA S) b L xs hL (pI (pI T d 2 (nI (dr + 1))) d 2 (nI (dr + 1 + 1))) d x Ad n na (upd (upd fF 2 (nI (dr + 1))) 2 (nI (dr + 1 + 1))) fO fW fC fR fB dk_4 (dr + 1 + 1) rfl (by omega) (10) (by omega) (by omega)) (cwV 1 htT (kg_V m_ml_X6_60 m_im_X6_draw m_sl_X6_draw m_in_X6 m_cd_X6_draw) rfl rfl rfl (by decide +kernel) ⟨Nat.le_of_ble_eq_true rfl, Nat.le_of_ble_eq_true rfl⟩) (kpe_V hK hP hD hTB hTX hX hbl hbA hAO hS hA (kpe_rc hK hP dk_4.o rfl)) rfl rfl hl.1 rfl (lv_room (Nat.le_of_ble_eq_true rfl)) dX6_ask_19 ⟨Nat.le_of_ble_eq_true rfl, Nat.le_of_ble_eq_true rfl⟩) hD hS hA (fun r_5 x_5 H locs hq_5 hP hD hS => ?_)
  obtain ⟨⟨f9, hf9, hr_5⟩, ht_5⟩ := hq_5
  rw [hr_5]
  rw [ht_5] at hP hD
  have dk_6 : DK (pI (pI (pI T d 2 (nI (dr + 1))) d 2 (nI (dr + 1 + 1))) d 2 (nI (dr + 1 + 1 + 1))) d x b Ad (n, na, (upd (upd (upd fF 2 (nI (dr + 1))) 2 (nI (dr + 1 + 1))) 2 (nI (dr + 1 + 1 + 1))), fO, fW, fC, fR, fB) := dk_4.num
  refine lv_istore_n (lv' := [(3, .int (nI f9)), (2, .int (nI uu)), (1, .int (nI k)), (0, .ref d)]) hx hb dX6_ask_22 rfl hl (by decide) rfl (fun ls hl => ?_)
  refine lv_aload_n hx hb dX6_ask_23 rfl (lv_at hl 3 rfl) ?_
  refine lv_bipush (v := 10) hx hb dX6_ask_24 (by decide) ?_
  refine kc_i (va_runV (As := [.int 10]) (rest := []) ⟨hx, hb, hml, hown, htT⟩ (d_draw l D cA _ (PW cA S) b L xs hL (pI (pI (pI T d 2 (nI (dr + 1))) d 2 (nI (dr + 1 + 1))) d 2 (nI (dr + 1 + 1 + 1))) d x Ad n na (upd (upd (upd fF 2 (nI (dr + 1))) 2 (nI (dr + 1 + 1))) 2 (nI (dr + 1 + 1 + 1))) fO fW fC fR fB dk_6 (dr + 1 + 1 + 1) rfl (by omega) (10) (by omega) (by omega)) (cwV 1 htT (kg_V m_ml_X6_60 m_im_X6_draw m_sl_X6_draw m_in_X6 m_cd_X6_draw) rfl rfl rfl (by decide +kernel) ⟨Nat.le_of_ble_eq_true rfl, Nat.le_of_ble_eq_true rfl⟩) (kpe_V hK hP hD hTB hTX hX hbl hbA hAO hS hA (kpe_rc hK hP dk_6.o rfl)) rfl rfl hl.1 rfl (lv_room (Nat.le_of_ble_eq_true rfl)) dX6_ask_26 ⟨Nat.le_of_ble_eq_true rfl, Nat.le_of_ble_eq_true rfl⟩) hD hS hA (fun r_7 x_7 H locs hq_7 hP hD hS => ?_)
  obtain ⟨⟨g9, hg9, hr_7⟩, ht_7⟩ := hq_7
  rw [hr_7]
  rw [ht_7] at hP hD
  have dk_8 : DK (pI (pI (pI (pI T d 2 (nI (dr + 1))) d 2 (nI (dr + 1 + 1))) d 2 (nI (dr + 1 + 1 + 1))) d 2 (nI (dr + 1 + 1 + 1 + 1))) d x b Ad (n, na, (upd (upd (upd (upd fF 2 (nI (dr + 1))) 2 (nI (dr + 1 + 1))) 2 (nI (dr + 1 + 1 + 1))) 2 (nI (dr + 1 + 1 + 1 + 1))), fO, fW, fC, fR, fB) := dk_6.num
  refine lv_istore (lv' := [(4, .int (nI g9)), (3, .int (nI f9)), (2, .int (nI uu)), (1, .int (nI k)), (0, .ref d)]) hx hb dX6_ask_29 hl (by decide) rfl (fun ls hl => ?_)
  refine lv_aload_n hx hb dX6_ask_31 rfl (lv_at hl 4 rfl) ?_
  refine lv_iload_n hx hb dX6_ask_32 rfl (lv_at hl 3 rfl) ?_
  refine lv_iload_n hx hb dX6_ask_33 rfl (lv_at hl 2 rfl) ?_
  refine lv_iload_n hx hb dX6_ask_34 rfl (lv_at hl 1 rfl) ?_
  refine lv_iload hx hb dX6_ask_35 (lv_at hl 0 rfl) ?_
  have hq8 : k < 8 := q8_k
  obtain ⟨ru, hok⟩ := id gg.r.1
  have hW := gg.wg
  refine kc_i (va_runV (As := [.int (nI k), .int (nI uu), .int (nI f9), .int (nI g9)]) (rest := []) ⟨hx, hb, hml, hown, htT⟩ (d_gets l D cA _ (PW cA S) b L xs hL (pI (pI (pI (pI T d 2 (nI (dr + 1))) d 2 (nI (dr + 1 + 1))) d 2 (nI (dr + 1 + 1 + 1))) d 2 (nI (dr + 1 + 1 + 1 + 1))) d x Ad n na (upd (upd (upd (upd fF 2 (nI (dr + 1))) 2 (nI (dr + 1 + 1))) 2 (nI (dr + 1 + 1 + 1))) 2 (nI (dr + 1 + 1 + 1 + 1))) fO fW fC fR fB dk_8 (dr + 1 + 1 + 1 + 1) cM sB M ((((hvm.draw (d2 := dr + 1)).draw (d2 := dr + 1 + 1)).draw (d2 := dr + 1 + 1 + 1)).draw (d2 := dr + 1 + 1 + 1 + 1)) (by omega) gg.r ru hok hM hW uu f9 g9 (by omega) (by omega) (by omega) k hk) (cwV 4 htT (kg_V m_ml_X6_178 m_im_X6_gets_ m_sl_X6_gets_ m_in_X6 m_cd_X6_gets_) rfl rfl rfl (by decide +kernel) ⟨Nat.le_of_ble_eq_true rfl, Nat.le_of_ble_eq_true rfl⟩) (kpe_V hK hP hD hTB hTX hX hbl hbA hAO hS hA (kpe_rc hK hP dk_8.o rfl)) rfl rfl hl.1 rfl (lv_room (Nat.le_of_ble_eq_true rfl)) dX6_ask_37 ⟨Nat.le_of_ble_eq_true rfl, Nat.le_of_ble_eq_true rfl⟩) hD hS hA (fun r_9 x_9 H locs hq_9 hP hD hS => ?_)
  obtain ⟨hr_9, hE_9, hy_9⟩ := hq_9
  obtain ⟨v, y9, vc, evc, hvc, hvc4, hy9, hG9, hw0, hy8, -, -, -, -, -⟩ := rGx_all (M := M) (hold := M.1 2) (f := nI f9) (g := nI g9) (far := rFar M.2 k (M.1 1)) (on' := M.2 11) (sub' := fun j => (rG M.2 (M.1 2) (M.2 11) (fun k => rFar M.2 k (M.1 1)) (nI uu) (nI f9) (nI g9) na ru 7 j).1) gg.t.2.2.2 gg.r hok hM hW (show uu ≤ 9999 by omega) hk
  have g1 : (rG M.2 (M.1 2) (M.2 11) (fun k => rFar M.2 k (M.1 1)) (nI uu) (nI f9) (nI g9) na ru 8 k).1 = nI v := congrArg Prod.fst hG9
  have g2 : (rG M.2 (M.1 2) (M.2 11) (fun k => rFar M.2 k (M.1 1)) (nI uu) (nI f9) (nI g9) na ru 8 k).2 = nI y9 := congrArg Prod.snd hG9
  rw [hr_9, g1]
  rw [g2] at hy_9
  have dk_10 : DK x_9 d x b Ad (n, na, (upd (upd (upd (upd (upd fF 2 (nI (dr + 1))) 2 (nI (dr + 1 + 1))) 2 (nI (dr + 1 + 1 + 1))) 2 (nI (dr + 1 + 1 + 1 + 1))) 10 (gI x_9 d 10)), fO, fW, fC, fR, fB) := dk_8.extD hE_9
  refine lv_istore (lv' := [(5, .int (nI v)), (4, .int (nI g9)), (3, .int (nI f9)), (2, .int (nI uu)), (1, .int (nI k)), (0, .ref d)]) hx hb dX6_ask_40 hl (by decide) rfl (fun ls hl => ?_)
  refine lv_aload_n hx hb dX6_ask_42 rfl (lv_at hl 5 rfl) ?_
  refine kd_getiv (x := gI x_9 d 10) hx hb htT m_u_X6 hown hK hP dk_10.o rfl 10 (by decide) (by decide) rfl (htT _ m_fl_X6_156) ((dk_10.f 10).trans (rfl)) dX6_ask_43 ?_
  rw [hy_9]
  refine lv_istore (lv' := [(6, .int (nI y9)), (5, .int (nI v)), (4, .int (nI g9)), (3, .int (nI f9)), (2, .int (nI uu)), (1, .int (nI k)), (0, .ref d)]) hx hb dX6_ask_46 hl (by decide) rfl (fun ls hl => ?_)
  refine lv_aload_n hx hb dX6_ask_48 rfl (lv_at hl 6 rfl) ?_
  refine kd_gets (r := x) hx hb htT m_u_X6 hown hK hP dk_10.o rfl 0 (by decide) (by decide) rfl dk_10.q0 (htT _ m_fl_X6_10) dX6_ask_49 ?_
  refine lv_iload_n hx hb dX6_ask_52 rfl (lv_at hl 5 rfl) ?_
  refine lv_iload_n hx hb dX6_ask_53 rfl (lv_at hl 4 rfl) ?_
  refine lv_iload_n hx hb dX6_ask_54 rfl (lv_at hl 3 rfl) ?_
  refine lv_iload hx hb dX6_ask_55 (lv_at hl 2 rfl) ?_
  refine kn_i (va_runV (As := [.int (nI k), .int (nI uu), .int (nI f9), .int (nI g9)]) (rest := []) ⟨hx, hb, hml, hown, htT⟩ (c_why l D cA _ S x gg.c.hx ar gg.c.q0 ak gg.c.q1 gg.c.kk gg.c.R k q8_k a_k ja_k (nI k) sw_k (nI uu) (nI f9) (nI g9) (kOut_n (a := uu) (lo := 0) (hi := 9999) (by omega) (by omega) (by omega)) (kOut_n (a := f9) (lo := 0) (hi := 9) (by omega) (by omega) (by omega)) (kOut_n (a := g9) (lo := 0) (hi := 9) (by omega) (by omega) (by omega))) (cwV 4 htT (kg_V m_ml_X6_180 m_im_X5_why m_sl_X5_why m_in_X5 m_cd_X5_why) rfl rfl rfl (by decide +kernel) ⟨Nat.le_of_ble_eq_true rfl, Nat.le_of_ble_eq_true rfl⟩) (kn_V hK hP hD hTB gg.c.hx (Nat.le_of_ble_eq_true rfl) rfl) rfl rfl hl.1 rfl (lv_room (Nat.le_of_ble_eq_true rfl)) dX6_ask_57 ⟨Nat.le_of_ble_eq_true rfl, Nat.le_of_ble_eq_true rfl⟩) hP hD hS hA (fun r_11 x_11 H locs hq_11 hP hD hS => ?_)
  rw [hq_11.1.trans ((gets_bec gg.l gg.c hok gg.y rfl rfl (show uu ≤ 9999 by omega) rfl hk ja_k (f := nI f9) (g := nI g9)).1.trans g2)]
  have gg_11 : GG n na x_11 M x ar ak := by rw [hq_11.2]; exact gg.eA eqA.bec
  obtain ⟨a_k, ja_k⟩ := gg_11.c.row k (by omega)
  have sw_k := gg_11.sw2 (by omega) ja_k
  refine lv_iload hx hb dX6_ask_60 (lv_at hl 0 rfl) ?_
  refine lv_icmp_ne (tgt := 105) hx hb dX6_ask_62 (by decide) (fun c_12 => ?_) (fun c_12 => ?_)
  · exact absurd rfl c_12
  · refine lv_aload_n hx hb dX6_ask_65 rfl (lv_at hl 6 rfl) ?_
    refine kd_gets (r := x) hx hb htT m_u_X6 hown hK hP dk_10.o rfl 0 (by decide) (by decide) rfl dk_10.q0 (htT _ m_fl_X6_10) dX6_ask_66 ?_
    refine lv_iload_n hx hb dX6_ask_69 rfl (lv_at hl 5 rfl) ?_
    refine lv_iload_n hx hb dX6_ask_70 rfl (lv_at hl 4 rfl) ?_
    refine lv_iload_n hx hb dX6_ask_71 rfl (lv_at hl 3 rfl) ?_
    refine lv_iload hx hb dX6_ask_72 (lv_at hl 2 rfl) ?_
    refine kn_i (va_runV (As := [.int (nI k), .int (nI uu), .int (nI f9), .int (nI g9)]) (rest := []) ⟨hx, hb, hml, hown, htT⟩ (c_gets l D cA _ x_11 x gg_11.c.hx ar gg_11.c.q0 ak gg_11.c.q1 gg_11.c.kk gg_11.c.R k q8_k a_k ja_k (nI k) sw_k (nI uu) (nI f9) (nI g9) (kOut_n (a := uu) (lo := 0) (hi := 9999) (by omega) (by omega) (by omega)) (kOut_n (a := f9) (lo := 0) (hi := 9) (by omega) (by omega) (by omega)) (kOut_n (a := g9) (lo := 0) (hi := 9) (by omega) (by omega) (by omega))) (cwV 4 htT (kg_V m_ml_X6_183 m_im_X5_gets m_sl_X5_gets m_in_X5 m_cd_X5_gets) rfl rfl rfl (by decide +kernel) ⟨Nat.le_of_ble_eq_true rfl, Nat.le_of_ble_eq_true rfl⟩) (kn_V hK hP hD hTB gg_11.c.hx (Nat.le_of_ble_eq_true rfl) rfl) rfl rfl hl.1 rfl (lv_room (Nat.le_of_ble_eq_true rfl)) dX6_ask_74 ⟨Nat.le_of_ble_eq_true rfl, Nat.le_of_ble_eq_true rfl⟩) hP hD hS hA (fun r_13 x_13 H locs hq_13 hP hD hS => ?_)
    rw [hq_13.1.trans ((gets_bec8 gg_11.l gg_11.c hok gg_11.y rfl rfl (show uu ≤ 9999 by omega) rfl hk ja_k (f := nI f9) (g := nI g9)).trans g1)]
    have gg_13 : GG n na x_13 M x ar ak := by rw [hq_13.2]; exact gg_11.eA eqA.bec
    obtain ⟨a_k, ja_k⟩ := gg_13.c.row k (by omega)
    have sw_k := gg_13.sw2 (by omega) ja_k
    refine lv_iload hx hb dX6_ask_77 (lv_at hl 1 rfl) ?_
    refine lv_icmp_ne (tgt := 105) hx hb dX6_ask_79 (by decide) (fun c_14 => ?_) (fun c_14 => ?_)
    · exact absurd rfl c_14
    · refine lv_aload_n hx hb dX6_ask_82 rfl (lv_at hl 6 rfl) ?_
      refine kd_gets (r := x) hx hb htT m_u_X6 hown hK hP dk_10.o rfl 0 (by decide) (by decide) rfl dk_10.q0 (htT _ m_fl_X6_10) dX6_ask_83 ?_
      refine lv_iload_n hx hb dX6_ask_86 rfl (lv_at hl 5 rfl) ?_
      refine lv_iload_n hx hb dX6_ask_87 rfl (lv_at hl 4 rfl) ?_
      refine lv_iload_n hx hb dX6_ask_88 rfl (lv_at hl 3 rfl) ?_
      refine lv_iload hx hb dX6_ask_89 (lv_at hl 2 rfl) ?_
      refine kn_i (va_runV (As := [.int (nI k), .int (nI uu), .int (nI f9), .int (nI g9)]) (rest := []) ⟨hx, hb, hml, hown, htT⟩ (c_holds l D cA _ x_13 x gg_13.c.hx ar gg_13.c.q0 ak gg_13.c.q1 gg_13.c.kk gg_13.c.R k q8_k a_k ja_k (nI k) sw_k (nI uu) (nI f9) (nI g9) (kOut_n (a := uu) (lo := 0) (hi := 9999) (by omega) (by omega) (by omega)) (kOut_n (a := f9) (lo := 0) (hi := 9) (by omega) (by omega) (by omega)) (kOut_n (a := g9) (lo := 0) (hi := 9) (by omega) (by omega) (by omega))) (cwV 4 htT (kg_V m_ml_X6_184 m_im_X5_holds m_sl_X5_holds m_in_X5 m_cd_X5_holds) rfl rfl rfl (by decide +kernel) ⟨Nat.le_of_ble_eq_true rfl, Nat.le_of_ble_eq_true rfl⟩) (kn_V hK hP hD hTB gg_13.c.hx (Nat.le_of_ble_eq_true rfl) rfl) rfl rfl hl.1 rfl (lv_room (Nat.le_of_ble_eq_true rfl)) dX6_ask_91 ⟨Nat.le_of_ble_eq_true rfl, Nat.le_of_ble_eq_true rfl⟩) hP hD hS hA (fun r_15 x_15 H locs hq_15 hP hD hS => ?_)
      have rk := hok.2.2.2.2 k hk
      rw [hq_15.1.trans (hold_eq (gg_13.l.1 k hk a_k ja_k).2.2.1 rk.1 rk.2.1)]
      have gg_15 : GG n na x_15 M x ar ak := by rw [hq_15.2]; exact gg_13
      obtain ⟨a_k, ja_k⟩ := gg_15.c.row k (by omega)
      have sw_k := gg_15.sw2 (by omega) ja_k
      refine lv_aload_n hx hb dX6_ask_94 rfl (lv_at hl 6 rfl) ?_
      refine lv_iload_n hx hb dX6_ask_95 rfl (lv_at hl 5 rfl) ?_
      refine lv_iload_n hx hb dX6_ask_96 rfl (lv_at hl 3 rfl) ?_
      refine lv_iload hx hb dX6_ask_97 (lv_at hl 2 rfl) ?_
      have hC5 : fC k ≤ 5 := (hvm.c q8_k).1
      have eC : fC k = ru k := (nI_eq (by omega) (by omega)).mp ((hvm.c q8_k).2.symm.trans rk.2.1)
      have hru9 : ∀ i, i < fC k → (fR k i 0 = 0 ∨ fR k i 0 = 1) ∧ (fR k i 1 = 1 ∨ fR k i 1 = 2 ∨ fR k i 1 = 3) ∧ ∃ v, v ≤ 9 ∧ fR k i 2 = nI v := fun i hi => hvm.rul_ok hM.2.2.2.1 hk q8_k rk.1 eC rk.2.1 hvc4 evc hi
      refine kc_i (va_runV (As := [.int (nI k), .int (nI f9), .int (nI g9)]) (rest := [.int (rHold M.2 k (nI f9) (nI g9) (ru k) 0)]) ⟨hx, hb, hml, hown, htT⟩ (d_holds l D cA _ (PW cA x_15) b L xs hL x_9 d x Ad n na (upd (upd (upd (upd (upd fF 2 (nI (dr + 1))) 2 (nI (dr + 1 + 1))) 2 (nI (dr + 1 + 1 + 1))) 2 (nI (dr + 1 + 1 + 1 + 1))) 10 (gI x_9 d 10)) fO fW fC fR fB dk_10 k q8_k hC5 hru9 f9 g9 (by omega) (by omega)) (cwV 3 htT (kg_V m_ml_X6_169 m_im_X6_holds m_sl_X6_holds m_in_X6 m_cd_X6_holds) rfl rfl rfl (by decide +kernel) ⟨Nat.le_of_ble_eq_true rfl, Nat.le_of_ble_eq_true rfl⟩) (kpe_V hK hP hD hTB hTX hX hbl hbA hAO hS hA (kpe_rc hK hP dk_10.o rfl)) rfl rfl hl.1 rfl (lv_room (Nat.le_of_ble_eq_true rfl)) dX6_ask_99 ⟨Nat.le_of_ble_eq_true rfl, Nat.le_of_ble_eq_true rfl⟩) hD hS hA (fun r_16 x_16 H locs hq_16 hP hD hS => ?_)
      rw [hq_16.2] at hP hD
      rw [hq_16.1.trans (show dHo (fun i => dMt (fR k i) (nI f9) (nI g9)) (fC k) 0 = rHold M.2 k (nI f9) (nI g9) (ru k) 0 from by rw [eC]; exact hvm.hold_eq q8_k eC)]
      refine lv_icmp_eq (tgt := 107) hx hb dX6_ask_102 (by decide) (fun c_17 => ?_) (fun c_17 => ?_)
      · refine lv_iconst (v := 5) hx hb dX6_ask_107 (by decide) ?_
        refine ky_newi (n := 5) (N' := 5) hx hb (htT _ m_ar_int) hK hP hD hS hA 13 (Nat.le_of_ble_eq_true rfl) (Nat.le_of_ble_eq_true rfl) (by decide) (by decide) (Nat.le_of_ble_eq_true rfl) (Nat.le_of_ble_eq_true rfl) (Nat.le_of_ble_eq_true rfl) dX6_ask_108 (fun q_18 H hq_18 hP hD hS => ?_)
        have nq_18 := dk_10.nq hq_18
        have dk_19 : DK (pW x_9 q_18 13 5) d x b Ad (n, na, (upd (upd (upd (upd (upd fF 2 (nI (dr + 1))) 2 (nI (dr + 1 + 1))) 2 (nI (dr + 1 + 1 + 1))) 2 (nI (dr + 1 + 1 + 1 + 1))) 10 (gI x_9 d 10)), fO, fW, fC, fR, fB) := dk_10.ext (ExtA.new hq_18)
        refine lv_dup hx hb dX6_ask_110 rfl ?_
        refine lv_iconst (v := 0) hx hb dX6_ask_111 (by decide) ?_
        refine lv_iload_n hx hb dX6_ask_112 rfl (lv_at hl 5 rfl) ?_
        refine ky_iastv hx hb hK hP hD hS (isA_q (S := x_9) (q := q_18) (ki := 13) (n := 5)) (Nat.le_of_ble_eq_true rfl) (Nat.le_of_ble_eq_true rfl) (show vp_in 0 5 from ki_in (n := 0) (by omega) (by omega)) (ki_cl (n := 0) (by omega)) dX6_ask_113 (fun H locs hP hD hS => ?_)
        have dk_20 : DK (pR (pW x_9 q_18 13 5) q_18 0 (nI k)) d x b Ad (n, na, (upd (upd (upd (upd (upd fF 2 (nI (dr + 1))) 2 (nI (dr + 1 + 1))) 2 (nI (dr + 1 + 1 + 1))) 2 (nI (dr + 1 + 1 + 1 + 1))) 10 (gI x_9 d 10)), fO, fW, fC, fR, fB) := dk_19.fr nq_18
        refine lv_dup hx hb dX6_ask_114 rfl ?_
        refine lv_iconst (v := 1) hx hb dX6_ask_115 (by decide) ?_
        refine lv_iload_n hx hb dX6_ask_116 rfl (lv_at hl 4 rfl) ?_
        refine ky_iastv hx hb hK hP hD hS (isA_q (S := x_9) (q := q_18) (ki := 13) (n := 5)) (Nat.le_of_ble_eq_true rfl) (Nat.le_of_ble_eq_true rfl) (show vp_in 1 5 from ki_in (n := 1) (by omega) (by omega)) (ki_cl (n := 1) (by omega)) dX6_ask_117 (fun H locs hP hD hS => ?_)
        have dk_21 : DK (pR (pR (pW x_9 q_18 13 5) q_18 0 (nI k)) q_18 1 (nI uu)) d x b Ad (n, na, (upd (upd (upd (upd (upd fF 2 (nI (dr + 1))) 2 (nI (dr + 1 + 1))) 2 (nI (dr + 1 + 1 + 1))) 2 (nI (dr + 1 + 1 + 1 + 1))) 10 (gI x_9 d 10)), fO, fW, fC, fR, fB) := dk_20.fr nq_18
        refine lv_dup hx hb dX6_ask_118 rfl ?_
        refine lv_iconst (v := 2) hx hb dX6_ask_119 (by decide) ?_
        refine lv_iload hx hb dX6_ask_120 (lv_at hl 1 rfl) ?_
        refine ky_iastv hx hb hK hP hD hS (isA_q (S := x_9) (q := q_18) (ki := 13) (n := 5)) (Nat.le_of_ble_eq_true rfl) (Nat.le_of_ble_eq_true rfl) (show vp_in 2 5 from ki_in (n := 2) (by omega) (by omega)) (ki_cl (n := 2) (by omega)) dX6_ask_122 (fun H locs hP hD hS => ?_)
        have dk_22 : DK (pR (pR (pR (pW x_9 q_18 13 5) q_18 0 (nI k)) q_18 1 (nI uu)) q_18 2 (nI v)) d x b Ad (n, na, (upd (upd (upd (upd (upd fF 2 (nI (dr + 1))) 2 (nI (dr + 1 + 1))) 2 (nI (dr + 1 + 1 + 1))) 2 (nI (dr + 1 + 1 + 1 + 1))) 10 (gI x_9 d 10)), fO, fW, fC, fR, fB) := dk_21.fr nq_18
        refine lv_dup hx hb dX6_ask_123 rfl ?_
        refine lv_iconst (v := 3) hx hb dX6_ask_124 (by decide) ?_
        refine lv_iconst (v := 0) hx hb dX6_ask_125 (by decide) ?_
        refine ky_iastv hx hb hK hP hD hS (isA_q (S := x_9) (q := q_18) (ki := 13) (n := 5)) (Nat.le_of_ble_eq_true rfl) (Nat.le_of_ble_eq_true rfl) (show vp_in 3 5 from ki_in (n := 3) (by omega) (by omega)) (ki_cl (n := 3) (by omega)) dX6_ask_126 (fun H locs hP hD hS => ?_)
        have dk_23 : DK (pR (pR (pR (pR (pW x_9 q_18 13 5) q_18 0 (nI k)) q_18 1 (nI uu)) q_18 2 (nI v)) q_18 3 0) d x b Ad (n, na, (upd (upd (upd (upd (upd fF 2 (nI (dr + 1))) 2 (nI (dr + 1 + 1))) 2 (nI (dr + 1 + 1 + 1))) 2 (nI (dr + 1 + 1 + 1 + 1))) 10 (gI x_9 d 10)), fO, fW, fC, fR, fB) := dk_22.fr nq_18
        refine lv_dup hx hb dX6_ask_127 rfl ?_
        refine lv_iconst (v := 4) hx hb dX6_ask_128 (by decide) ?_
        refine lv_iconst (v := 0) hx hb dX6_ask_129 (by decide) ?_
        refine ky_iastv hx hb hK hP hD hS (isA_q (S := x_9) (q := q_18) (ki := 13) (n := 5)) (Nat.le_of_ble_eq_true rfl) (Nat.le_of_ble_eq_true rfl) (show vp_in 4 5 from ki_in (n := 4) (by omega) (by omega)) (ki_cl (n := 4) (by omega)) dX6_ask_130 (fun H locs hP hD hS => ?_)
        have dk_24 : DK (pR (pR (pR (pR (pR (pW x_9 q_18 13 5) q_18 0 (nI k)) q_18 1 (nI uu)) q_18 2 (nI v)) q_18 3 0) q_18 4 0) d x b Ad (n, na, (upd (upd (upd (upd (upd fF 2 (nI (dr + 1))) 2 (nI (dr + 1 + 1))) 2 (nI (dr + 1 + 1 + 1))) 2 (nI (dr + 1 + 1 + 1 + 1))) 10 (gI x_9 d 10)), fO, fW, fC, fR, fB) := dk_23.fr nq_18
        refine lv_astore (lv' := [(7, .ref q_18), (6, .int (nI y9)), (5, .int (nI v)), (4, .int (nI g9)), (3, .int (nI f9)), (2, .int (nI uu)), (1, .int (nI k)), (0, .ref d)]) hx hb dX6_ask_131 hl (by decide) rfl (fun ls hl => ?_)
        refine lv_iload hx hb dX6_ask_133 (lv_at hl 1 rfl) ?_
        refine lv_bipush (v := 8) hx hb dX6_ask_135 (by decide) ?_
        refine lv_icmp_ne (tgt := 173) hx hb dX6_ask_137 (by decide) (fun c_25 => ?_) (fun c_25 => ?_)
        · replace c_25 : ¬ y9 = 8 := fun h9 => c_25 ((nI_eq (a := y9) (b := 8) (by omega) (by omega)).mpr h9)
          refine lv_aload_n hx hb dX6_ask_173 rfl (lv_at hl 7 rfl) ?_
          refine kd_gets (r := x) hx hb htT m_u_X6 hown hK hP dk_24.o rfl 0 (by decide) (by decide) rfl dk_24.q0 (htT _ m_fl_X6_10) dX6_ask_174 ?_
          refine lv_iload_n hx hb dX6_ask_177 rfl (lv_at hl 6 rfl) ?_
          refine lv_iload_n hx hb dX6_ask_178 rfl (lv_at hl 5 rfl) ?_
          refine lv_iload_n hx hb dX6_ask_179 rfl (lv_at hl 4 rfl) ?_
          refine lv_iload hx hb dX6_ask_180 (lv_at hl 3 rfl) ?_
          have hno : ¬ (cRsn (cBec x_15 ak (nI uu) (nI f9) (nI g9)) x ak (cHas (cBec x_15 ak (nI uu) (nI f9) (nI g9)) ar (cV (cBec x_15 ak (nI uu) (nI f9) (nI g9)) x ar ak 7) a_k) a_k = 8 ∧ gI x_15 x 3 < 100 ∧ cArmA (cBec x_15 ak (nI uu) (nI f9) (nI g9)) a_k (nI uu) = none) := fun h9 => c_25 ((nI_eq (a := y9) (b := 8) (by omega) (by omega)).mp (((gets_bec gg_15.l gg_15.c hok gg_15.y rfl rfl (show uu ≤ 9999 by omega) rfl hk ja_k (f := nI f9) (g := nI g9)).1.trans g2).symm.trans h9.1))
          refine kn_i (va_runV (As := [.int (nI k), .int (nI uu), .int (nI f9), .int (nI g9)]) (rest := []) ⟨hx, hb, hml, hown, htT⟩ (c_ask_no l D cA _ x_15 x gg_15.c.hx ar gg_15.c.q0 ak gg_15.c.q1 gg_15.c.kk gg_15.c.R k q8_k a_k ja_k (nI k) sw_k (nI uu) (nI f9) (nI g9) (kOut_n (a := uu) (lo := 0) (hi := 9999) (by omega) (by omega) (by omega)) (kOut_n (a := f9) (lo := 0) (hi := 9) (by omega) (by omega) (by omega)) (kOut_n (a := g9) (lo := 0) (hi := 9) (by omega) (by omega) (by omega)) hno) (cwV 4 htT (kg_V m_ml_X6_186 m_im_X5_ask m_sl_X5_ask m_in_X5 m_cd_X5_ask) rfl rfl rfl (by decide +kernel) ⟨Nat.le_of_ble_eq_true rfl, Nat.le_of_ble_eq_true rfl⟩) (kn_V hK hP hD hTB gg_15.c.hx (Nat.le_of_ble_eq_true rfl) rfl) rfl rfl hl.1 rfl (lv_room (Nat.le_of_ble_eq_true rfl)) dX6_ask_182 ⟨Nat.le_of_ble_eq_true rfl, Nat.le_of_ble_eq_true rfl⟩) hP hD hS hA (fun r_26 x_26 H locs hq_26 hP hD hS => ?_)
          rw [hq_26.1.trans ((gets_bec gg_15.l gg_15.c hok gg_15.y rfl rfl (show uu ≤ 9999 by omega) rfl hk ja_k (f := nI f9) (g := nI g9)).2.trans g1)]
          have gg_26 : GG n na x_26 M x ar ak := by rw [hq_26.2]; exact gg_15.eA eqA.bec
          obtain ⟨a_k, ja_k⟩ := gg_26.c.row k (by omega)
          have sw_k := gg_26.sw2 (by omega) ja_k
          refine lv_iload hx hb dX6_ask_185 (lv_at hl 2 rfl) ?_
          refine lv_icmp_ne (tgt := 209) hx hb dX6_ask_187 (by decide) (fun c_27 => ?_) (fun c_27 => ?_)
          · exact absurd rfl c_27
          · refine lv_aload_n hx hb dX6_ask_190 rfl (lv_at hl 7 rfl) ?_
            refine kd_gets (r := x) hx hb htT m_u_X6 hown hK hP dk_24.o rfl 0 (by decide) (by decide) rfl dk_24.q0 (htT _ m_fl_X6_10) dX6_ask_191 ?_
            refine kn_i (va_runV (As := []) (rest := []) ⟨hx, hb, hml, hown, htT⟩ (c_arms l D cA _ x_26 x gg_26.c.hx) (cwV 0 htT (kg_V m_ml_X6_189 m_im_X5_arms m_sl_X5_arms m_in_X5 m_cd_X5_arms) rfl rfl rfl (by decide +kernel) ⟨Nat.le_of_ble_eq_true rfl, Nat.le_of_ble_eq_true rfl⟩) (kn_V hK hP hD hTB gg_26.c.hx (Nat.le_of_ble_eq_true rfl) rfl) rfl rfl hl.1 rfl (lv_room (Nat.le_of_ble_eq_true rfl)) dX6_ask_194 ⟨Nat.le_of_ble_eq_true rfl, Nat.le_of_ble_eq_true rfl⟩) hP hD hS hA (fun r_28 x_28 H locs hq_28 hP hD hS => ?_)
            rw [hq_28.1.trans gg_26.c.x3]
            have gg_28 : GG n na x_28 M x ar ak := by rw [hq_28.2]; exact gg_26
            refine lv_aload_n hx hb dX6_ask_197 rfl (lv_at hl 7 rfl) ?_
            refine kd_gets (r := (aA Ad)) hx hb htT m_u_X6 hown hK hP dk_24.o rfl 9 (by decide) (by decide) rfl dk_24.q9 (htT _ m_fl_X6_31) dX6_ask_198 ?_
            refine ky_lena (v := nI (na)) hx hb hK hP dk_24.aa rfl dX6_ask_201 ?_
            refine lv_icmp_ne (tgt := 209) hx hb dX6_ask_202 (by decide) (fun c_29 => ?_) (fun c_29 => ?_)
            · exact absurd rfl c_29
            · refine lv_iconst (v := 1) hx hb dX6_ask_205 (by decide) ?_
              refine lv_goto (tgt := 210) hx hb dX6_ask_206 (by decide) ?_
              refine W.widen (k := 12) (n := 111) (Nat.le_of_ble_eq_true rfl) (Nat.le_of_ble_eq_true rfl) ?_
              exact W.zret (v := 1) hx hb hr (rfl) (fun t ht hW => ⟨⟨1, (pR (pR (pR (pR (pR (pW x_9 q_18 13 5) q_18 0 (nI k)) q_18 1 (nI uu)) q_18 2 (nI v)) q_18 3 0) q_18 4 0, x_28), rfl, ⟨rfl, n, na, dr + 1 + 1 + 1 + 1, cM, sB, _, _, _, _, _, _, _, M, by omega, by omega, by omega, by omega, dk_24, (((((hvm.draw (d2 := dr + 1)).draw (d2 := dr + 1 + 1)).draw (d2 := dr + 1 + 1 + 1)).draw (d2 := dr + 1 + 1 + 1 + 1)).why), gg_28, hM⟩, by rw [ht]; exact hP, va_K.moved hW.alike hK, hD⟩, hS.F ht⟩) hS.2.2 dX6_ask_210
        · have hy98 : y9 = 8 := (nI_eq (a := y9) (b := 8) (by omega) (by omega)).mp c_25
          refine lv_aload_n hx hb dX6_ask_140 rfl (lv_at hl 7 rfl) ?_
          refine kd_gets (r := (aA Ad)) hx hb htT m_u_X6 hown hK hP dk_24.o rfl 9 (by decide) (by decide) rfl dk_24.q9 (htT _ m_fl_X6_31) dX6_ask_141 ?_
          refine ky_lena (v := nI (na)) hx hb hK hP dk_24.aa rfl dX6_ask_144 ?_
          refine lv_bipush (v := 100) hx hb dX6_ask_145 (by decide) ?_
          refine lv_icmp_ge (tgt := 173) hx hb dX6_ask_147 (by decide) (fun c_30 => ?_) (fun c_30 => ?_)
          · replace c_30 := (nI_leI (a := 100) (b := na) (by omega) (by omega)).mp c_30
            refine lv_aload_n hx hb dX6_ask_173 rfl (lv_at hl 7 rfl) ?_
            refine kd_gets (r := x) hx hb htT m_u_X6 hown hK hP dk_24.o rfl 0 (by decide) (by decide) rfl dk_24.q0 (htT _ m_fl_X6_10) dX6_ask_174 ?_
            refine lv_iload_n hx hb dX6_ask_177 rfl (lv_at hl 6 rfl) ?_
            refine lv_iload_n hx hb dX6_ask_178 rfl (lv_at hl 5 rfl) ?_
            refine lv_iload_n hx hb dX6_ask_179 rfl (lv_at hl 4 rfl) ?_
            refine lv_iload hx hb dX6_ask_180 (lv_at hl 3 rfl) ?_
            have hno : ¬ (cRsn (cBec x_15 ak (nI uu) (nI f9) (nI g9)) x ak (cHas (cBec x_15 ak (nI uu) (nI f9) (nI g9)) ar (cV (cBec x_15 ak (nI uu) (nI f9) (nI g9)) x ar ak 7) a_k) a_k = 8 ∧ gI x_15 x 3 < 100 ∧ cArmA (cBec x_15 ak (nI uu) (nI f9) (nI g9)) a_k (nI uu) = none) := fun h9 => absurd h9.2.1 (by rw [gg_15.c.x3]; exact fun z9 => absurd ((nI_ltI (a := na) (b := 100) (by omega) (by omega)).mp z9) (by omega))
            refine kn_i (va_runV (As := [.int (nI k), .int (nI uu), .int (nI f9), .int (nI g9)]) (rest := []) ⟨hx, hb, hml, hown, htT⟩ (c_ask_no l D cA _ x_15 x gg_15.c.hx ar gg_15.c.q0 ak gg_15.c.q1 gg_15.c.kk gg_15.c.R k q8_k a_k ja_k (nI k) sw_k (nI uu) (nI f9) (nI g9) (kOut_n (a := uu) (lo := 0) (hi := 9999) (by omega) (by omega) (by omega)) (kOut_n (a := f9) (lo := 0) (hi := 9) (by omega) (by omega) (by omega)) (kOut_n (a := g9) (lo := 0) (hi := 9) (by omega) (by omega) (by omega)) hno) (cwV 4 htT (kg_V m_ml_X6_186 m_im_X5_ask m_sl_X5_ask m_in_X5 m_cd_X5_ask) rfl rfl rfl (by decide +kernel) ⟨Nat.le_of_ble_eq_true rfl, Nat.le_of_ble_eq_true rfl⟩) (kn_V hK hP hD hTB gg_15.c.hx (Nat.le_of_ble_eq_true rfl) rfl) rfl rfl hl.1 rfl (lv_room (Nat.le_of_ble_eq_true rfl)) dX6_ask_182 ⟨Nat.le_of_ble_eq_true rfl, Nat.le_of_ble_eq_true rfl⟩) hP hD hS hA (fun r_31 x_31 H locs hq_31 hP hD hS => ?_)
            rw [hq_31.1.trans ((gets_bec gg_15.l gg_15.c hok gg_15.y rfl rfl (show uu ≤ 9999 by omega) rfl hk ja_k (f := nI f9) (g := nI g9)).2.trans g1)]
            have gg_31 : GG n na x_31 M x ar ak := by rw [hq_31.2]; exact gg_15.eA eqA.bec
            obtain ⟨a_k, ja_k⟩ := gg_31.c.row k (by omega)
            have sw_k := gg_31.sw2 (by omega) ja_k
            refine lv_iload hx hb dX6_ask_185 (lv_at hl 2 rfl) ?_
            refine lv_icmp_ne (tgt := 209) hx hb dX6_ask_187 (by decide) (fun c_32 => ?_) (fun c_32 => ?_)
            · exact absurd rfl c_32
            · refine lv_aload_n hx hb dX6_ask_190 rfl (lv_at hl 7 rfl) ?_
              refine kd_gets (r := x) hx hb htT m_u_X6 hown hK hP dk_24.o rfl 0 (by decide) (by decide) rfl dk_24.q0 (htT _ m_fl_X6_10) dX6_ask_191 ?_
              refine kn_i (va_runV (As := []) (rest := []) ⟨hx, hb, hml, hown, htT⟩ (c_arms l D cA _ x_31 x gg_31.c.hx) (cwV 0 htT (kg_V m_ml_X6_189 m_im_X5_arms m_sl_X5_arms m_in_X5 m_cd_X5_arms) rfl rfl rfl (by decide +kernel) ⟨Nat.le_of_ble_eq_true rfl, Nat.le_of_ble_eq_true rfl⟩) (kn_V hK hP hD hTB gg_31.c.hx (Nat.le_of_ble_eq_true rfl) rfl) rfl rfl hl.1 rfl (lv_room (Nat.le_of_ble_eq_true rfl)) dX6_ask_194 ⟨Nat.le_of_ble_eq_true rfl, Nat.le_of_ble_eq_true rfl⟩) hP hD hS hA (fun r_33 x_33 H locs hq_33 hP hD hS => ?_)
              rw [hq_33.1.trans gg_31.c.x3]
              have gg_33 : GG n na x_33 M x ar ak := by rw [hq_33.2]; exact gg_31
              refine lv_aload_n hx hb dX6_ask_197 rfl (lv_at hl 7 rfl) ?_
              refine kd_gets (r := (aA Ad)) hx hb htT m_u_X6 hown hK hP dk_24.o rfl 9 (by decide) (by decide) rfl dk_24.q9 (htT _ m_fl_X6_31) dX6_ask_198 ?_
              refine ky_lena (v := nI (na)) hx hb hK hP dk_24.aa rfl dX6_ask_201 ?_
              refine lv_icmp_ne (tgt := 209) hx hb dX6_ask_202 (by decide) (fun c_34 => ?_) (fun c_34 => ?_)
              · exact absurd rfl c_34
              · refine lv_iconst (v := 1) hx hb dX6_ask_205 (by decide) ?_
                refine lv_goto (tgt := 210) hx hb dX6_ask_206 (by decide) ?_
                refine W.widen (k := 12) (n := 111) (Nat.le_of_ble_eq_true rfl) (Nat.le_of_ble_eq_true rfl) ?_
                exact W.zret (v := 1) hx hb hr (rfl) (fun t ht hW => ⟨⟨1, (pR (pR (pR (pR (pR (pW x_9 q_18 13 5) q_18 0 (nI k)) q_18 1 (nI uu)) q_18 2 (nI v)) q_18 3 0) q_18 4 0, x_33), rfl, ⟨rfl, n, na, dr + 1 + 1 + 1 + 1, cM, sB, _, _, _, _, _, _, _, M, by omega, by omega, by omega, by omega, dk_24, (((((hvm.draw (d2 := dr + 1)).draw (d2 := dr + 1 + 1)).draw (d2 := dr + 1 + 1 + 1)).draw (d2 := dr + 1 + 1 + 1 + 1)).why), gg_33, hM⟩, by rw [ht]; exact hP, va_K.moved hW.alike hK, hD⟩, hS.F ht⟩) hS.2.2 dX6_ask_210
          · replace c_30 : ¬ (100 ≤ na) := fun h9 => c_30 ((nI_leI (a := 100) (b := na) (by omega) (by omega)).mpr h9)
            refine lv_aload_n hx hb dX6_ask_150 rfl (lv_at hl 7 rfl) ?_
            refine lv_iload_n hx hb dX6_ask_151 rfl (lv_at hl 6 rfl) ?_
            refine lv_iload_n hx hb dX6_ask_152 rfl (lv_at hl 5 rfl) ?_
            refine kc_q (va_runV (As := [.int (nI k), .int (nI uu)]) (rest := []) ⟨hx, hb, hml, hown, htT⟩ (d_arm l D cA _ (PW cA x_15) b L xs hL (pR (pR (pR (pR (pR (pW x_9 q_18 13 5) q_18 0 (nI k)) q_18 1 (nI uu)) q_18 2 (nI v)) q_18 3 0) q_18 4 0) d x Ad n na (upd (upd (upd (upd (upd fF 2 (nI (dr + 1))) 2 (nI (dr + 1 + 1))) 2 (nI (dr + 1 + 1 + 1))) 2 (nI (dr + 1 + 1 + 1 + 1))) 10 (gI x_9 d 10)) fO fW fC fR fB dk_24 hna (nI k) (nI uu)) (cwV 2 htT (kg_V m_ml_X6_165 m_im_X6_arm m_sl_X6_arm m_in_X6 m_cd_X6_arm) rfl rfl rfl (by decide +kernel) ⟨Nat.le_of_ble_eq_true rfl, Nat.le_of_ble_eq_true rfl⟩) (kpe_V hK hP hD hTB hTX hX hbl hbA hAO hS hA (kpe_rc hK hP dk_24.o rfl)) rfl rfl hl.1 rfl (lv_room (Nat.le_of_ble_eq_true rfl)) dX6_ask_153 ⟨Nat.le_of_ble_eq_true rfl, Nat.le_of_ble_eq_true rfl⟩) hD hS hA (fun r_35 x_35 H locs hq_35 hP hD hS => ?_)
            rcases hq_35 with ⟨i9, hi9, hr9, ea9, eb9, hall9, ht9⟩ | ⟨hall9, q9, hq9, hr9, ht9⟩
            · rw [hr9]
              rw [ht9] at hP hD
              have hra : rArm M.2 (nI k) (nI uu) na 0 = nI i9 := rArm_y na 0 (Nat.zero_le _) (by omega) ((hvm.b hi9 (j := 0) (by decide)).symm.trans ea9) ((hvm.b hi9 (j := 1) (by decide)).symm.trans eb9) (fun j9 _ a2 e9 => hall9 j9 a2 ⟨(hvm.b (by omega) (j := 0) (by decide)).trans e9.1, (hvm.b (by omega) (j := 1) (by decide)).trans e9.2⟩)
              refine kx_alen (v := 5) hx hb hK (kmy_P hP) (dk_24.ma (i := i9) (show i9 < na by omega)) (Nat.le_of_ble_eq_true rfl) (Nat.le_of_ble_eq_true rfl) rfl dX6_ask_156 ?_
              refine lv_if_ne (tgt := 173) hx hb dX6_ask_157 (by decide) (fun _ => ?_) (fun c_36 => absurd c_36 (by decide))
              refine lv_aload_n hx hb dX6_ask_173 rfl (lv_at hl 7 rfl) ?_
              refine kd_gets (r := x) hx hb htT m_u_X6 hown hK hP dk_24.o rfl 0 (by decide) (by decide) rfl dk_24.q0 (htT _ m_fl_X6_10) dX6_ask_174 ?_
              refine lv_iload_n hx hb dX6_ask_177 rfl (lv_at hl 6 rfl) ?_
              refine lv_iload_n hx hb dX6_ask_178 rfl (lv_at hl 5 rfl) ?_
              refine lv_iload_n hx hb dX6_ask_179 rfl (lv_at hl 4 rfl) ?_
              refine lv_iload hx hb dX6_ask_180 (lv_at hl 3 rfl) ?_
              have hno : ¬ (cRsn (cBec x_15 ak (nI uu) (nI f9) (nI g9)) x ak (cHas (cBec x_15 ak (nI uu) (nI f9) (nI g9)) ar (cV (cBec x_15 ak (nI uu) (nI f9) (nI g9)) x ar ak 7) a_k) a_k = 8 ∧ gI x_15 x 3 < 100 ∧ cArmA (cBec x_15 ak (nI uu) (nI f9) (nI g9)) a_k (nI uu) = none) := fun h9 => nI_m1 (a := i9) (by omega) (hra.symm.trans ((arm_bec gg_15.l gg_15.c hok rfl hk ja_k (f := nI f9) (g := nI g9)).mp h9.2.2))
              refine kn_i (va_runV (As := [.int (nI k), .int (nI uu), .int (nI f9), .int (nI g9)]) (rest := []) ⟨hx, hb, hml, hown, htT⟩ (c_ask_no l D cA _ x_15 x gg_15.c.hx ar gg_15.c.q0 ak gg_15.c.q1 gg_15.c.kk gg_15.c.R k q8_k a_k ja_k (nI k) sw_k (nI uu) (nI f9) (nI g9) (kOut_n (a := uu) (lo := 0) (hi := 9999) (by omega) (by omega) (by omega)) (kOut_n (a := f9) (lo := 0) (hi := 9) (by omega) (by omega) (by omega)) (kOut_n (a := g9) (lo := 0) (hi := 9) (by omega) (by omega) (by omega)) hno) (cwV 4 htT (kg_V m_ml_X6_186 m_im_X5_ask m_sl_X5_ask m_in_X5 m_cd_X5_ask) rfl rfl rfl (by decide +kernel) ⟨Nat.le_of_ble_eq_true rfl, Nat.le_of_ble_eq_true rfl⟩) (kn_V hK hP hD hTB gg_15.c.hx (Nat.le_of_ble_eq_true rfl) rfl) rfl rfl hl.1 rfl (lv_room (Nat.le_of_ble_eq_true rfl)) dX6_ask_182 ⟨Nat.le_of_ble_eq_true rfl, Nat.le_of_ble_eq_true rfl⟩) hP hD hS hA (fun r_37 x_37 H locs hq_37 hP hD hS => ?_)
              rw [hq_37.1.trans ((gets_bec gg_15.l gg_15.c hok gg_15.y rfl rfl (show uu ≤ 9999 by omega) rfl hk ja_k (f := nI f9) (g := nI g9)).2.trans g1)]
              have gg_37 : GG n na x_37 M x ar ak := by rw [hq_37.2]; exact gg_15.eA eqA.bec
              obtain ⟨a_k, ja_k⟩ := gg_37.c.row k (by omega)
              have sw_k := gg_37.sw2 (by omega) ja_k
              refine lv_iload hx hb dX6_ask_185 (lv_at hl 2 rfl) ?_
              refine lv_icmp_ne (tgt := 209) hx hb dX6_ask_187 (by decide) (fun c_38 => ?_) (fun c_38 => ?_)
              · exact absurd rfl c_38
              · refine lv_aload_n hx hb dX6_ask_190 rfl (lv_at hl 7 rfl) ?_
                refine kd_gets (r := x) hx hb htT m_u_X6 hown hK hP dk_24.o rfl 0 (by decide) (by decide) rfl dk_24.q0 (htT _ m_fl_X6_10) dX6_ask_191 ?_
                refine kn_i (va_runV (As := []) (rest := []) ⟨hx, hb, hml, hown, htT⟩ (c_arms l D cA _ x_37 x gg_37.c.hx) (cwV 0 htT (kg_V m_ml_X6_189 m_im_X5_arms m_sl_X5_arms m_in_X5 m_cd_X5_arms) rfl rfl rfl (by decide +kernel) ⟨Nat.le_of_ble_eq_true rfl, Nat.le_of_ble_eq_true rfl⟩) (kn_V hK hP hD hTB gg_37.c.hx (Nat.le_of_ble_eq_true rfl) rfl) rfl rfl hl.1 rfl (lv_room (Nat.le_of_ble_eq_true rfl)) dX6_ask_194 ⟨Nat.le_of_ble_eq_true rfl, Nat.le_of_ble_eq_true rfl⟩) hP hD hS hA (fun r_39 x_39 H locs hq_39 hP hD hS => ?_)
                rw [hq_39.1.trans gg_37.c.x3]
                have gg_39 : GG n na x_39 M x ar ak := by rw [hq_39.2]; exact gg_37
                refine lv_aload_n hx hb dX6_ask_197 rfl (lv_at hl 7 rfl) ?_
                refine kd_gets (r := (aA Ad)) hx hb htT m_u_X6 hown hK hP dk_24.o rfl 9 (by decide) (by decide) rfl dk_24.q9 (htT _ m_fl_X6_31) dX6_ask_198 ?_
                refine ky_lena (v := nI (na)) hx hb hK hP dk_24.aa rfl dX6_ask_201 ?_
                refine lv_icmp_ne (tgt := 209) hx hb dX6_ask_202 (by decide) (fun c_40 => ?_) (fun c_40 => ?_)
                · exact absurd rfl c_40
                · refine lv_iconst (v := 1) hx hb dX6_ask_205 (by decide) ?_
                  refine lv_goto (tgt := 210) hx hb dX6_ask_206 (by decide) ?_
                  refine W.widen (k := 12) (n := 111) (Nat.le_of_ble_eq_true rfl) (Nat.le_of_ble_eq_true rfl) ?_
                  exact W.zret (v := 1) hx hb hr (rfl) (fun t ht hW => ⟨⟨1, (pR (pR (pR (pR (pR (pW x_9 q_18 13 5) q_18 0 (nI k)) q_18 1 (nI uu)) q_18 2 (nI v)) q_18 3 0) q_18 4 0, x_39), rfl, ⟨rfl, n, na, dr + 1 + 1 + 1 + 1, cM, sB, _, _, _, _, _, _, _, M, by omega, by omega, by omega, by omega, dk_24, (((((hvm.draw (d2 := dr + 1)).draw (d2 := dr + 1 + 1)).draw (d2 := dr + 1 + 1 + 1)).draw (d2 := dr + 1 + 1 + 1 + 1)).why), gg_39, hM⟩, by rw [ht]; exact hP, va_K.moved hW.alike hK, hD⟩, hS.F ht⟩) hS.2.2 dX6_ask_210
            · rw [hr9]
              rw [ht9] at hP hD
              have hra : rArm M.2 (nI k) (nI uu) na 0 = -1 := rArm_n na 0 (fun j9 _ a2 e9 => hall9 j9 (by omega) ⟨(hvm.b (by omega) (j := 0) (by decide)).trans e9.1, (hvm.b (by omega) (j := 1) (by decide)).trans e9.2⟩)
              have dk_41 : DK (pW (pR (pR (pR (pR (pR (pW x_9 q_18 13 5) q_18 0 (nI k)) q_18 1 (nI uu)) q_18 2 (nI v)) q_18 3 0) q_18 4 0) q9 14 0) d x b Ad (n, na, (upd (upd (upd (upd (upd fF 2 (nI (dr + 1))) 2 (nI (dr + 1 + 1))) 2 (nI (dr + 1 + 1 + 1))) 2 (nI (dr + 1 + 1 + 1 + 1))) 10 (gI x_9 d 10)), fO, fW, fC, fR, fB) := dk_24.ext (ExtA.new hq9)
              have isq5 : isA (pW (pR (pR (pR (pR (pR (pW x_9 q_18 13 5) q_18 0 (nI k)) q_18 1 (nI uu)) q_18 2 (nI v)) q_18 3 0) q_18 4 0) q9 14 0) q_18 13 5 := (ExtA.new (T := (pR (pR (pR (pR (pR (pW x_9 q_18 13 5) q_18 0 (nI k)) q_18 1 (nI uu)) q_18 2 (nI v)) q_18 3 0) q_18 4 0)) hq9).a (isA_q (S := x_9) (q := q_18) (ki := 13) (n := 5))
              have gw0 : gR (pW (pR (pR (pR (pR (pR (pW x_9 q_18 13 5) q_18 0 (nI k)) q_18 1 (nI uu)) q_18 2 (nI v)) q_18 3 0) q_18 4 0) q9 14 0) q_18 0 = (nI k) := (gR_new (S := (pR (pR (pR (pR (pR (pW x_9 q_18 13 5) q_18 0 (nI k)) q_18 1 (nI uu)) q_18 2 (nI v)) q_18 3 0) q_18 4 0)) (ki := 14) (n := 0) (show q_18 ∈ gL (pR (pR (pR (pR (pR (pW x_9 q_18 13 5) q_18 0 (nI k)) q_18 1 (nI uu)) q_18 2 (nI v)) q_18 3 0) q_18 4 0) from (isA_q (S := x_9) (q := q_18) (ki := 13) (n := 5)).1) hq9).trans ((u2_k (by decide)).trans ((u2_k (by decide)).trans ((u2_k (by decide)).trans ((u2_k (by decide)).trans (u2_s)))))
              have gw1 : gR (pW (pR (pR (pR (pR (pR (pW x_9 q_18 13 5) q_18 0 (nI k)) q_18 1 (nI uu)) q_18 2 (nI v)) q_18 3 0) q_18 4 0) q9 14 0) q_18 1 = (nI uu) := (gR_new (S := (pR (pR (pR (pR (pR (pW x_9 q_18 13 5) q_18 0 (nI k)) q_18 1 (nI uu)) q_18 2 (nI v)) q_18 3 0) q_18 4 0)) (ki := 14) (n := 0) (show q_18 ∈ gL (pR (pR (pR (pR (pR (pW x_9 q_18 13 5) q_18 0 (nI k)) q_18 1 (nI uu)) q_18 2 (nI v)) q_18 3 0) q_18 4 0) from (isA_q (S := x_9) (q := q_18) (ki := 13) (n := 5)).1) hq9).trans ((u2_k (by decide)).trans ((u2_k (by decide)).trans ((u2_k (by decide)).trans (u2_s))))
              have gw2 : gR (pW (pR (pR (pR (pR (pR (pW x_9 q_18 13 5) q_18 0 (nI k)) q_18 1 (nI uu)) q_18 2 (nI v)) q_18 3 0) q_18 4 0) q9 14 0) q_18 2 = (nI v) := (gR_new (S := (pR (pR (pR (pR (pR (pW x_9 q_18 13 5) q_18 0 (nI k)) q_18 1 (nI uu)) q_18 2 (nI v)) q_18 3 0) q_18 4 0)) (ki := 14) (n := 0) (show q_18 ∈ gL (pR (pR (pR (pR (pR (pW x_9 q_18 13 5) q_18 0 (nI k)) q_18 1 (nI uu)) q_18 2 (nI v)) q_18 3 0) q_18 4 0) from (isA_q (S := x_9) (q := q_18) (ki := 13) (n := 5)).1) hq9).trans ((u2_k (by decide)).trans ((u2_k (by decide)).trans (u2_s)))
              have gw3 : gR (pW (pR (pR (pR (pR (pR (pW x_9 q_18 13 5) q_18 0 (nI k)) q_18 1 (nI uu)) q_18 2 (nI v)) q_18 3 0) q_18 4 0) q9 14 0) q_18 3 = 0 := (gR_new (S := (pR (pR (pR (pR (pR (pW x_9 q_18 13 5) q_18 0 (nI k)) q_18 1 (nI uu)) q_18 2 (nI v)) q_18 3 0) q_18 4 0)) (ki := 14) (n := 0) (show q_18 ∈ gL (pR (pR (pR (pR (pR (pW x_9 q_18 13 5) q_18 0 (nI k)) q_18 1 (nI uu)) q_18 2 (nI v)) q_18 3 0) q_18 4 0) from (isA_q (S := x_9) (q := q_18) (ki := 13) (n := 5)).1) hq9).trans ((u2_k (by decide)).trans (u2_s))
              have gw4 : gR (pW (pR (pR (pR (pR (pR (pW x_9 q_18 13 5) q_18 0 (nI k)) q_18 1 (nI uu)) q_18 2 (nI v)) q_18 3 0) q_18 4 0) q9 14 0) q_18 4 = 0 := (gR_new (S := (pR (pR (pR (pR (pR (pW x_9 q_18 13 5) q_18 0 (nI k)) q_18 1 (nI uu)) q_18 2 (nI v)) q_18 3 0) q_18 4 0)) (ki := 14) (n := 0) (show q_18 ∈ gL (pR (pR (pR (pR (pR (pW x_9 q_18 13 5) q_18 0 (nI k)) q_18 1 (nI uu)) q_18 2 (nI v)) q_18 3 0) q_18 4 0) from (isA_q (S := x_9) (q := q_18) (ki := 13) (n := 5)).1) hq9).trans (u2_s)
              refine kx_alen (v := 0) hx hb hK (kmy_P hP) (isA_q (S := (pR (pR (pR (pR (pR (pW x_9 q_18 13 5) q_18 0 (nI k)) q_18 1 (nI uu)) q_18 2 (nI v)) q_18 3 0) q_18 4 0)) (q := q9) (ki := 14) (n := 0)) (Nat.le_of_ble_eq_true rfl) (Nat.le_of_ble_eq_true rfl) rfl dX6_ask_156 ?_
              refine lv_if_ne (tgt := 173) hx hb dX6_ask_157 (by decide) (fun c_42 => absurd c_42 (by decide)) (fun _ => ?_)
              refine lv_aload_n hx hb dX6_ask_160 rfl (lv_at hl 7 rfl) ?_
              refine lv_aload_n hx hb dX6_ask_161 rfl (lv_at hl 7 rfl) ?_
              refine kd_gets (r := (aA Ad)) hx hb htT m_u_X6 hown hK hP dk_41.o rfl 9 (by decide) (by decide) rfl dk_41.q9 (htT _ m_fl_X6_31) dX6_ask_162 ?_
              refine lv_aload hx hb dX6_ask_165 (lv_at hl 0 rfl) ?_
              refine kc_q (va_runS (As := [.ref (aA Ad), .ref q_18]) (rest := [.ref d]) ⟨hx, hb, hml, hown, htT⟩ (d_with l D cA _ (PW cA x_15) b L xs hL (pW (pR (pR (pR (pR (pR (pW x_9 q_18 13 5) q_18 0 (nI k)) q_18 1 (nI uu)) q_18 2 (nI v)) q_18 3 0) q_18 4 0) q9 14 0) (aA Ad) q_18 na 13 5 hna dk_41.aa isq5 (by decide) (by decide) (fun i hi => ⟨_, 13, 5, dk_41.mp hi, dk_41.ma hi, by decide, by decide⟩)) (cwS 2 htT (kg_S m_ml_X6_106 m_st_X6_with m_in_X6 m_cd_X6_with) rfl rfl rfl (by decide +kernel) ⟨Nat.le_of_ble_eq_true rfl, Nat.le_of_ble_eq_true rfl⟩) (kpe_S hK hP hD hTB hTX hX hbl hbA hAO hS hA) rfl rfl hl.1 rfl (lv_room (Nat.le_of_ble_eq_true rfl)) dX6_ask_167 ⟨Nat.le_of_ble_eq_true rfl, Nat.le_of_ble_eq_true rfl⟩) hD hS hA (fun r_43 x_43 H locs hq_43 hP hD hS => ?_)
              obtain ⟨qn, hrn, hqn, hEn, isn, gpn, gqn⟩ := hq_43
              rw [hrn]
              have isq : isA x_43 q_18 13 5 := hEn.a isq5
              have gv0 : gR x_43 q_18 0 = (nI k) := ((hEn q_18 isq5.1).2.2.2.1 0).trans gw0
              have gv1 : gR x_43 q_18 1 = (nI uu) := ((hEn q_18 isq5.1).2.2.2.1 1).trans gw1
              have gv2 : gR x_43 q_18 2 = (nI v) := ((hEn q_18 isq5.1).2.2.2.1 2).trans gw2
              have gv3 : gR x_43 q_18 3 = 0 := ((hEn q_18 isq5.1).2.2.2.1 3).trans gw3
              have gv4 : gR x_43 q_18 4 = 0 := ((hEn q_18 isq5.1).2.2.2.1 4).trans gw4
              have dk_44 : DK x_43 d x b Ad (n, na, (upd (upd (upd (upd (upd fF 2 (nI (dr + 1))) 2 (nI (dr + 1 + 1))) 2 (nI (dr + 1 + 1 + 1))) 2 (nI (dr + 1 + 1 + 1 + 1))) 10 (gI x_9 d 10)), fO, fW, fC, fR, fB) := dk_41.ext hEn
              refine kd_putr (ty := (.array (.array .int))) (r := (some qn)) hx hb htT m_u_X6 tyX6 tyX6_ok nmX6 hown hK hP hD hS dk_44.o rfl 9 (by decide) (by decide) rfl (htT _ m_fl_X6_31) rfl (by decide +kernel) rfl rfl dX6_ask_170 (fun H locs hP hD hS => ?_)
              have dk_9 := dk_44.push (q := qn) (z := q_18) (g := gR x_43 q_18) isn (fun e9 => hqn (e9 ▸ dk_41.ao.1)) (fun i hi => (gpn i hi).trans (dk_41.mp hi)) gqn isq (fun _ _ => rfl) (fun i hi e9 => nq_18.2.2.2 i hi e9)
              obtain ⟨Ad2, dk_8⟩ : ∃ Ad2, DK (pQ x_43 d 9 (some qn)) d x b Ad2 (n, (na + 1), (upd (upd (upd (upd (upd fF 2 (nI (dr + 1))) 2 (nI (dr + 1 + 1))) 2 (nI (dr + 1 + 1 + 1))) 2 (nI (dr + 1 + 1 + 1 + 1))) 10 (gI x_9 d 10)), fO, fW, fC, fR, (u1 fB na (gR x_43 q_18))) := ⟨_, dk_9⟩
              refine lv_aload_n hx hb dX6_ask_173 rfl (lv_at hl 7 rfl) ?_
              refine kd_gets (r := x) hx hb htT m_u_X6 hown hK hP dk_8.o rfl 0 (by decide) (by decide) rfl dk_8.q0 (htT _ m_fl_X6_10) dX6_ask_174 ?_
              refine lv_iload_n hx hb dX6_ask_177 rfl (lv_at hl 6 rfl) ?_
              refine lv_iload_n hx hb dX6_ask_178 rfl (lv_at hl 5 rfl) ?_
              refine lv_iload_n hx hb dX6_ask_179 rfl (lv_at hl 4 rfl) ?_
              refine lv_iload hx hb dX6_ask_180 (lv_at hl 3 rfl) ?_
              have hgb := gets_bec gg_15.l gg_15.c hok gg_15.y rfl rfl (show uu ≤ 9999 by omega) rfl hk ja_k (f := nI f9) (g := nI g9)
              have z26 := gg.t.2.2.2.2.2 na (Nat.le_refl _)
              have harm9 : cArmA (cBec x_15 ak (nI uu) (nI f9) (nI g9)) a_k (nI uu) = none := (arm_bec gg_15.l gg_15.c hok rfl hk ja_k (f := nI f9) (g := nI g9)).mpr hra
              refine kn_i (va_runV (As := [.int (nI k), .int (nI uu), .int (nI f9), .int (nI g9)]) (rest := []) ⟨hx, hb, hml, hown, htT⟩ (c_ask_yes l D cA _ x_15 x gg_15.c.hx ar gg_15.c.q0 ak gg_15.c.q1 gg_15.c.kk gg_15.c.R k q8_k a_k ja_k (nI k) sw_k (nI uu) (nI f9) (nI g9) (kOut_n (a := uu) (lo := 0) (hi := 9999) (by omega) (by omega) (by omega)) (kOut_n (a := f9) (lo := 0) (hi := 9) (by omega) (by omega) (by omega)) (kOut_n (a := g9) (lo := 0) (hi := 9) (by omega) (by omega) (by omega)) (hgb.1.trans (g2.trans (congrArg nI hy98))) (by rw [gg_15.c.x3]; exact (nI_ltI (a := na) (b := 100) (by omega) (by omega)).mpr (by omega)) harm9 v (by omega) (hgb.2.trans g1)) (cwV 4 htT (kg_V m_ml_X6_186 m_im_X5_ask m_sl_X5_ask m_in_X5 m_cd_X5_ask) rfl rfl rfl (by decide +kernel) ⟨Nat.le_of_ble_eq_true rfl, Nat.le_of_ble_eq_true rfl⟩) (kn_V hK hP hD hTB gg_15.c.hx (Nat.le_of_ble_eq_true rfl) rfl) rfl rfl hl.1 rfl (lv_room (Nat.le_of_ble_eq_true rfl)) dX6_ask_182 ⟨Nat.le_of_ble_eq_true rfl, Nat.le_of_ble_eq_true rfl⟩) hP hD hS hA (fun r_45 x_45 H locs hq_45 hP hD hS => ?_)
              rw [hq_45.1]
              obtain ⟨-, qa, ty, t9, hqa, e6, e60, eqa⟩ := hq_45
              have gB : GG n na (cBec x_15 ak (nI uu) (nI f9) (nI g9)) M x ar ak := gg_15.eA eqA.bec
              have ex3 : gI x_15 x 3 + 1 = nI (na + 1) := by rw [gg_15.c.x3]; exact nI_add na 1
              have et4 : gI (cBec x_15 ak (nI uu) (nI f9) (nI g9)) ty 4 = gI x_15 ty 4 := (eqA.bec (S := x_15) (ak := ak) (u := nI uu) (f := nI f9) (g := nI g9)).i gg_15.c.kk ((gg_15.sw hk ja_k).ty e6) (by decide) 4
              have gg2 : GG n (na + 1) x_45 (mArm M na k (nI uu) v) x ar ak := by
                have h9 := gB.arm (u := nI uu) (v := v) (q := qa) hk (show gP (cBec x_15 ak (nI uu) (nI f9) (nI g9)) ar k = some a_k from ja_k) hqa (by omega) harm9 (by omega) ⟨evc, hvc, hvc4⟩ e6 e60
                rw [et4] at h9
                rw [eqa, ex3]
                exact h9
              refine lv_iload hx hb dX6_ask_185 (lv_at hl 2 rfl) ?_
              refine lv_icmp_ne (tgt := 209) hx hb dX6_ask_187 (by decide) (fun c_46 => ?_) (fun c_46 => ?_)
              · exact absurd rfl c_46
              · refine lv_aload_n hx hb dX6_ask_190 rfl (lv_at hl 7 rfl) ?_
                refine kd_gets (r := x) hx hb htT m_u_X6 hown hK hP dk_8.o rfl 0 (by decide) (by decide) rfl dk_8.q0 (htT _ m_fl_X6_10) dX6_ask_191 ?_
                refine kn_i (va_runV (As := []) (rest := []) ⟨hx, hb, hml, hown, htT⟩ (c_arms l D cA _ x_45 x gg2.c.hx) (cwV 0 htT (kg_V m_ml_X6_189 m_im_X5_arms m_sl_X5_arms m_in_X5 m_cd_X5_arms) rfl rfl rfl (by decide +kernel) ⟨Nat.le_of_ble_eq_true rfl, Nat.le_of_ble_eq_true rfl⟩) (kn_V hK hP hD hTB gg2.c.hx (Nat.le_of_ble_eq_true rfl) rfl) rfl rfl hl.1 rfl (lv_room (Nat.le_of_ble_eq_true rfl)) dX6_ask_194 ⟨Nat.le_of_ble_eq_true rfl, Nat.le_of_ble_eq_true rfl⟩) hP hD hS hA (fun r_47 x_47 H locs hq_47 hP hD hS => ?_)
                rw [hq_47.1.trans gg2.c.x3]
                have gg_47 : GG n (na + 1) x_47 (mArm M na k (nI uu) v) x ar ak := by rw [hq_47.2]; exact gg2
                refine lv_aload_n hx hb dX6_ask_197 rfl (lv_at hl 7 rfl) ?_
                refine kd_gets (r := (aA Ad2)) hx hb htT m_u_X6 hown hK hP dk_8.o rfl 9 (by decide) (by decide) rfl dk_8.q9 (htT _ m_fl_X6_31) dX6_ask_198 ?_
                refine ky_lena (v := nI ((na + 1))) hx hb hK hP dk_8.aa rfl dX6_ask_201 ?_
                refine lv_icmp_ne (tgt := 209) hx hb dX6_ask_202 (by decide) (fun c_48 => ?_) (fun c_48 => ?_)
                · exact absurd rfl c_48
                · refine lv_iconst (v := 1) hx hb dX6_ask_205 (by decide) ?_
                  refine lv_goto (tgt := 210) hx hb dX6_ask_206 (by decide) ?_
                  exact W.zret (v := 1) hx hb hr (rfl) (fun t ht hW => ⟨⟨1, (pQ x_43 d 9 (some qn), x_47), rfl, ⟨rfl, n, (na + 1), dr + 1 + 1 + 1 + 1, cM, sB, _, _, _, _, _, _, _, (mArm M na k (nI uu) v), by omega, by omega, by omega, by omega, dk_8, ((((((hvm.draw (d2 := dr + 1)).draw (d2 := dr + 1 + 1)).draw (d2 := dr + 1 + 1 + 1)).draw (d2 := dr + 1 + 1 + 1 + 1)).why).arm (j := k) (v := v) (u := nI uu) (g := gR x_43 q_18) ⟨gv0, gv1, gv2, gv3, gv4⟩ z26.1 z26.2), gg_47, (hM.arm z26.1)⟩, by rw [ht]; exact hP, va_K.moved hW.alike hK, hD⟩, hS.F ht⟩) hS.2.2 dX6_ask_210
      · exact absurd rfl c_17

