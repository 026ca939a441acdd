set_option maxRecDepth 100000 in
set_option maxHeartbeats 4000000 in
/-- digest -/
theorem t_digest (l : Launch) (D : va_G) (cA : Nat → ClassId) (sz : Nat) (am : Nat) (r : Nat → Nat) (M : MSt) (n na : Nat) (hI : INVR n na M) : MetD lw_cs l yX6_digest (Cond.code yX6_digest cX6_digest 6 (some .long) :: TT) ({ frames := 20, cells := 0, slots := 0, locals := 1011 }) (va_Pc [.ref am] (kPre D cA (wM cA am r M) sz)) (va_Ql (fun (r_ : Int64) (x_ : MSt) => INVR n na x_ ∧ eqM M x_) (fun x_ => kB D cA (va_A (wM cA am r M) sz) (wM cA am r x_)) (va_A (wM cA am r M) sz)) 0 0 (va_A (wM cA am r M) sz) := by
  refine MetD.ofW (cc := cX6_digest) (maxL := 6) (ret := (some .long)) (by decide) rfl ?_
  intro p e s m args below meth c s₁ B hml hv hd0
  obtain ⟨rfl, hsz, hP, hK, hD0, hTB⟩ := hv
  have hx := B.exec
  have hb := B.bytes
  have hr := B.returns
  have hts := atoms_spec (ws := Cond.code yX6_digest cX6_digest 6 (some .long) :: TT) B.pre
  have htT : ∀ w ∈ TT, w.before _ s = true := fun w h => hts w (List.mem_cons_of_mem _ h)
  have hown : s.vm.findClass RX6 = some m.cls := findClass_of_methodNamed B.named
  have hlocks := B.notSynchronized
  subst hsz
  have hD := hD0.self (sz := s.heap.size)
  generalize hAe : va_A (wM cA am r M) s.heap.size = A at hD ⊢
  have hA : ∀ q : Nat, s.heap.size ≤ q → A q := fun q h => by rw [← hAe]; exact Or.inr h
  have hS : va_S A s.heap s.heap [] := va_S.rf
  have hl := lv_entry ([.ref am]) (n := 6) (Nat.le_of_ble_eq_true rfl)
  rw [lg_entry_eq]
  generalize (lg_sl ([.ref am]) ++ List.replicate (6 - (lg_sl ([.ref am])).length) Slot.unset).toArray = ls at hl ⊢
  have hl : lv_has ls 6 [(0, .ref am)] := hl
  have htT0 := htT
  have hTB0 := hTB
  have hK0 := hK
  have hown0 := hown
  have htT : ∀ w ∈ TT, w.before _ (s.setDrawn s.drawn) = true := dr_words htT0 s.drawn
  have hTB : TBok (s.setDrawn s.drawn) := TBok.same (u := s) (U := s.setDrawn s.drawn) rfl (Vm.Alike.refl s.vm) hTB0
  have hK : va_K D vwCl (ty6 cA) (s.setDrawn s.drawn) := hK0
  have hown : (s.setDrawn s.drawn).vm.findClass RX6 = some m.cls := hown0
  have hn8 := hI.n8
  have hna9 := hI.na
  obtain ⟨ru, hok⟩ := id hI.1
  have hna := hI.na
  refine lv_aload_n hx hb dX6_digest_0 rfl (lv_at hl 0 rfl) ?_
  refine lv_iconst (v := 0) hx hb dX6_digest_1 (by decide) ?_
  refine km_puti hx hb htT hown hK hP hD hS 0 (by decide) rfl (htT _ m_fl_X6_80) rfl (by decide +kernel) dX6_digest_2 (fun H locs hP hD hS => ?_)
  refine lv_ldc2 (v := 83297) hx hb hown (htT _ m_lc_X6_215) dX6_digest_5 ?_
  refine lv_aload_n hx hb dX6_digest_8 rfl (lv_at hl 0 rfl) ?_
  refine km_getiv (x := nI n) hx hb htT hown hK hP 3 (by decide) rfl (htT _ m_fl_X6_84) hI.h3 dX6_digest_9 ?_
  refine lv_i2l (v := (nI n).toInt64) hx hb dX6_digest_12 rfl ?_
  refine lv_ladd hx hb dX6_digest_13 ?_
  refine lv_ldc2 (v := 31) hx hb hown (htT _ m_lc_X6_217) dX6_digest_14 ?_
  refine lv_lmul hx hb dX6_digest_17 ?_
  refine lv_aload_n hx hb dX6_digest_18 rfl (lv_at hl 0 rfl) ?_
  refine km_getiv (x := nI na) hx hb htT hown hK hP 22 (by decide) rfl (htT _ m_fl_X6_151) hI.h22 dX6_digest_19 ?_
  refine lv_i2l (v := (nI na).toInt64) hx hb dX6_digest_22 rfl ?_
  refine lv_ladd hx hb dX6_digest_23 ?_
  refine lv_lstore_n (lv' := [(1, .long (((83297 + ((nI n).toInt64)) * 31) + ((nI na).toInt64))), (0, .ref am)]) hx hb dX6_digest_24 rfl hl (by decide) rfl (fun ls hl => ?_)
  refine lv_iconst (v := 0) hx hb dX6_digest_25 (by decide) ?_
  refine lv_istore_n (lv' := [(3, .int 0), (1, .long (((83297 + ((nI n).toInt64)) * 31) + ((nI na).toInt64))), (0, .ref am)]) hx hb dX6_digest_26 rfl hl (by decide) rfl (fun ls hl => ?_)
  have hP : va_P D vwCl (wM cA am r (mS (mS M 0 0) 28 (M.1 28))) H := by rw [show mS (mS M 0 0) 28 (M.1 28) = mS M 0 0 from mS_id (M := mS M 0 0) (k := 28)]; exact hP
  have hD : va_D A (wM cA am r (mS (mS M 0 0) 28 (M.1 28))) := by rw [show mS (mS M 0 0) 28 (M.1 28) = mS M 0 0 from mS_id (M := mS M 0 0) (k := 28)]; exact hD
  refine kz_loopD 27 (fun N9 H locs ls => ∃ (j : Nat) (d : Int64) (ρ : Int32), N9 = 3 - j ∧ j ≤ 3 ∧ va_P D vwCl (wM cA am r (mS (mS M 0 0) 28 ρ)) H ∧ va_D A (wM cA am r (mS (mS M 0 0) 28 ρ)) ∧ va_S A s.heap H locs ∧ lv_has ls 6 [(3, .int (nI j)), (1, .long d), (0, .ref am)]) (fun N9 ih_27 H locs ls e_27 hd0 hI => ?_) hd0 ⟨0, (((83297 + ((nI n).toInt64)) * 31) + ((nI na).toInt64)), (M.1 28), rfl, by omega, hP, hD, hS, lv_sub hl [0, 1, 2] rfl⟩
  obtain ⟨j, d, ρ, hn9, hj, hP, hD, hS, hl⟩ := hI
  have htT : ∀ w ∈ TT, w.before _ (s.setDrawn e_27) = true := dr_words htT0 e_27
  have hTB : TBok (s.setDrawn e_27) := TBok.same (u := s) (U := s.setDrawn e_27) rfl (Vm.Alike.refl s.vm) hTB0
  have hK : va_K D vwCl (ty6 cA) (s.setDrawn e_27) := hK0
  have hown : (s.setDrawn e_27).vm.findClass RX6 = some m.cls := hown0
  refine lv_iload_n hx hb dX6_digest_27 rfl (lv_at hl 0 rfl) ?_
  refine lv_iconst (v := 3) hx hb dX6_digest_28 (by decide) ?_
  refine lv_icmp_ge (tgt := 51) hx hb dX6_digest_29 (by decide) (fun c_1 => ?_) (fun c_1 => ?_)
  · replace c_1 := (nI_leI (a := 3) (b := j) (by omega) (by omega)).mp c_1
    refine lv_iconst (v := 0) hx hb dX6_digest_51 (by decide) ?_
    refine lv_istore_n (lv' := [(3, .int 0), (1, .long d), (0, .ref am)]) hx hb dX6_digest_52 rfl hl (by decide) rfl (fun ls hl => ?_)
    refine kz_loopD 53 (fun N9 H locs ls => ∃ (j : Nat) (d : Int64) (ρ : Int32), N9 = n - j ∧ j ≤ n ∧ va_P D vwCl (wM cA am r (mS (mS M 0 0) 28 ρ)) H ∧ va_D A (wM cA am r (mS (mS M 0 0) 28 ρ)) ∧ va_S A s.heap H locs ∧ lv_has ls 6 [(3, .int (nI j)), (1, .long d), (0, .ref am)]) (fun N9 ih_53 H locs ls e_53 hd0 hI => ?_) hd0 ⟨0, d, ρ, rfl, by omega, hP, hD, hS, lv_sub hl [0, 1, 2] rfl⟩
    obtain ⟨j, d, ρ, hn9, hj, hP, hD, hS, hl⟩ := hI
    have htT : ∀ w ∈ TT, w.before _ (s.setDrawn e_53) = true := dr_words htT0 e_53
    have hTB : TBok (s.setDrawn e_53) := TBok.same (u := s) (U := s.setDrawn e_53) rfl (Vm.Alike.refl s.vm) hTB0
    have hK : va_K D vwCl (ty6 cA) (s.setDrawn e_53) := hK0
    have hown : (s.setDrawn e_53).vm.findClass RX6 = some m.cls := hown0
    refine lv_iload_n hx hb dX6_digest_53 rfl (lv_at hl 0 rfl) ?_
    refine lv_aload_n hx hb dX6_digest_54 rfl (lv_at hl 2 rfl) ?_
    refine km_getiv (x := nI n) hx hb htT hown hK hP 3 (by decide) rfl (htT _ m_fl_X6_84) hI.h3 dX6_digest_55 ?_
    refine lv_icmp_ge (tgt := 210) hx hb dX6_digest_58 (by decide) (fun c_2 => ?_) (fun c_2 => ?_)
    · replace c_2 := (nI_leI (a := n) (b := j) (by omega) (by omega)).mp c_2
      refine lv_iconst (v := 0) hx hb dX6_digest_210 (by decide) ?_
      refine lv_istore_n (lv' := [(3, .int 0), (1, .long d), (0, .ref am)]) hx hb dX6_digest_211 rfl hl (by decide) rfl (fun ls hl => ?_)
      refine kz_loopD 212 (fun N9 H locs ls => ∃ (u : Nat) (d : Int64) (ρ : Int32), N9 = 10 - u ∧ u ≤ 10 ∧ va_P D vwCl (wM cA am r (mS (mS M 0 0) 28 ρ)) H ∧ va_D A (wM cA am r (mS (mS M 0 0) 28 ρ)) ∧ va_S A s.heap H locs ∧ lv_has ls 6 [(3, .int (nI u)), (1, .long d), (0, .ref am)]) (fun N9 ih_212 H locs ls e_212 hd0 hI => ?_) hd0 ⟨0, d, ρ, rfl, by omega, hP, hD, hS, lv_sub hl [0, 1, 2] rfl⟩
      obtain ⟨u, d, ρ, hn9, hu, hP, hD, hS, hl⟩ := hI
      have htT : ∀ w ∈ TT, w.before _ (s.setDrawn e_212) = true := dr_words htT0 e_212
      have hTB : TBok (s.setDrawn e_212) := TBok.same (u := s) (U := s.setDrawn e_212) rfl (Vm.Alike.refl s.vm) hTB0
      have hK : va_K D vwCl (ty6 cA) (s.setDrawn e_212) := hK0
      have hown : (s.setDrawn e_212).vm.findClass RX6 = some m.cls := hown0
      refine lv_iload_n hx hb dX6_digest_212 rfl (lv_at hl 0 rfl) ?_
      refine lv_bipush (v := 10) hx hb dX6_digest_213 (by decide) ?_
      refine lv_icmp_ge (tgt := 287) hx hb dX6_digest_215 (by decide) (fun c_3 => ?_) (fun c_3 => ?_)
      · replace c_3 := (nI_leI (a := 10) (b := u) (by omega) (by omega)).mp c_3
        refine lv_lload_n hx hb dX6_digest_287 rfl (lv_at hl 1 rfl) ?_
        refine W.endD hd0 ?_
        exact W.lret (v := d) hx hb hr (fun t ht hW => ⟨⟨d, mS (mS M 0 0) 28 ρ, rfl, ⟨(INVR.iS (INVR.iS hI (by decide) (by decide)) (by decide) (by decide)), eqM.rf.s0.s28⟩, by rw [ht]; exact hP, va_K.moved hW.alike hK, hD⟩, hS.F ht⟩) hS.2.2 dX6_digest_288
      · replace c_3 : ¬ (10 ≤ u) := fun h9 => c_3 ((nI_leI (a := 10) (b := u) (by omega) (by omega)).mpr h9)
        refine lv_iconst (v := 0) hx hb dX6_digest_218 (by decide) ?_
        refine lv_istore (lv' := [(4, .int 0), (3, .int (nI u)), (1, .long d), (0, .ref am)]) hx hb dX6_digest_219 hl (by decide) rfl (fun ls hl => ?_)
        refine kz_loopD 221 (fun N9 H locs ls => ∃ (j : Nat) (d : Int64) (ρ : Int32), N9 = n - j ∧ j ≤ n ∧ va_P D vwCl (wM cA am r (mS (mS M 0 0) 28 ρ)) H ∧ va_D A (wM cA am r (mS (mS M 0 0) 28 ρ)) ∧ va_S A s.heap H locs ∧ lv_has ls 6 [(4, .int (nI j)), (3, .int (nI u)), (1, .long d), (0, .ref am)]) (fun N9 ih_221 H locs ls e_221 hd0 hI => ?_) hd0 ⟨0, d, ρ, rfl, by omega, hP, hD, hS, lv_sub hl [0, 1, 2, 3] rfl⟩
        obtain ⟨j, d, ρ, hn9, hj, hP, hD, hS, hl⟩ := hI
        have htT : ∀ w ∈ TT, w.before _ (s.setDrawn e_221) = true := dr_words htT0 e_221
        have hTB : TBok (s.setDrawn e_221) := TBok.same (u := s) (U := s.setDrawn e_221) rfl (Vm.Alike.refl s.vm) hTB0
        have hK : va_K D vwCl (ty6 cA) (s.setDrawn e_221) := hK0
        have hown : (s.setDrawn e_221).vm.findClass RX6 = some m.cls := hown0
        refine lv_iload hx hb dX6_digest_221 (lv_at hl 0 rfl) ?_
        refine lv_aload_n hx hb dX6_digest_223 rfl (lv_at hl 3 rfl) ?_
        refine km_getiv (x := nI n) hx hb htT hown hK hP 3 (by decide) rfl (htT _ m_fl_X6_84) hI.h3 dX6_digest_224 ?_
        refine lv_icmp_ge (tgt := 281) hx hb dX6_digest_227 (by decide) (fun c_4 => ?_) (fun c_4 => ?_)
        · replace c_4 := (nI_leI (a := n) (b := j) (by omega) (by omega)).mp c_4
          refine lv_iinc (v := nI (u + 1)) (lv' := [(3, .int (nI (u + 1))), (4, .int (nI j)), (1, .long d), (0, .ref am)]) hx hb dX6_digest_281 hl (k := 1) rfl (nI_1 _) (by decide) rfl (fun ls hl => ?_)
          refine lv_goto (tgt := 212) hx hb dX6_digest_284 (by decide) ?_
          have hl := lv_sub hl [0, 2, 3] rfl
          exact ih_212 _ (by omega) H locs ls e_221 hd0 ⟨u + 1, _, ρ, rfl, by omega, hP, hD, hS, hl⟩
        · replace c_4 : ¬ (n ≤ j) := fun h9 => c_4 ((nI_leI (a := n) (b := j) (by omega) (by omega)).mpr h9)
          refine lv_lload_n hx hb dX6_digest_230 rfl (lv_at hl 2 rfl) ?_
          refine lv_ldc2 (v := 31) hx hb hown (htT _ m_lc_X6_217) dX6_digest_231 ?_
          refine lv_lmul hx hb dX6_digest_234 ?_
          refine lv_aload_n hx hb dX6_digest_235 rfl (lv_at hl 3 rfl) ?_
          refine lv_iload hx hb dX6_digest_236 (lv_at hl 0 rfl) ?_
          refine lv_iload_n hx hb dX6_digest_238 rfl (lv_at hl 1 rfl) ?_
          refine lv_iload_n hx hb dX6_digest_239 rfl (lv_at hl 1 rfl) ?_
          refine lv_bipush (v := 9) hx hb dX6_digest_240 (by decide) ?_
          refine lv_iload_n hx hb dX6_digest_242 rfl (lv_at hl 1 rfl) ?_
          refine lv_isub hx hb dX6_digest_243 ?_
          refine kc_i (va_runV (As := [.int (nI j), .int (nI u), .int (nI u), .int (9 - (nI u))]) (rest := [.long (d * 31)]) ⟨hx, hb, hml, hown, htT⟩ (m_PO l D cA am r n na ru 7 _ j (mS (mS M 0 0) 28 ρ) u (nI u) (9 - (nI u)) (by omega) (by omega) (by omega) hok) (cwV 4 htT (kg_V m_ml_X6_154 m_im_X6_getsOf m_sl_X6_getsOf m_in_X6 m_cd_X6_getsOf) rfl rfl rfl (by decide +kernel) ⟨Nat.le_of_ble_eq_true rfl, Nat.le_of_ble_eq_true rfl⟩) (kp_V hK hP hD hTB (km_rc hK hP)) rfl rfl hl.1 rfl (lv_room (Nat.le_of_ble_eq_true rfl)) dX6_digest_244 ⟨Nat.le_of_ble_eq_true rfl, Nat.le_of_ble_eq_true rfl⟩) hD hS hA (fun r_5 x_5 H locs hq_5 hP hD hS => ?_)
          obtain ⟨ρ_5, eρ_5⟩ : ∃ ρ, x_5 = mS (mS M 0 0) 28 ρ := ⟨_, hq_5.2.trans mS_s⟩
          rw [eρ_5] at hP hD
          refine lv_i2l (v := r_5.toInt64) hx hb dX6_digest_247 rfl ?_
          refine lv_ladd hx hb dX6_digest_248 ?_
          refine lv_lstore_n (lv' := [(1, .long ((d * 31) + r_5.toInt64)), (4, .int (nI j)), (3, .int (nI u)), (0, .ref am)]) hx hb dX6_digest_249 rfl hl (by decide) rfl (fun ls hl => ?_)
          refine lv_lload_n hx hb dX6_digest_250 rfl (lv_at hl 0 rfl) ?_
          refine lv_ldc2 (v := 31) hx hb hown (htT _ m_lc_X6_217) dX6_digest_251 ?_
          refine lv_lmul hx hb dX6_digest_254 ?_
          refine lv_aload_n hx hb dX6_digest_255 rfl (lv_at hl 3 rfl) ?_
          refine km_getiv (x := ρ_5) hx hb htT hown hK hP 28 (by decide) rfl (htT _ m_fl_X6_165) rfl dX6_digest_256 ?_
          refine lv_i2l (v := ρ_5.toInt64) hx hb dX6_digest_259 rfl ?_
          refine lv_ladd hx hb dX6_digest_260 ?_
          refine lv_ldc2 (v := 31) hx hb hown (htT _ m_lc_X6_217) dX6_digest_261 ?_
          refine lv_lmul hx hb dX6_digest_264 ?_
          refine lv_aload_n hx hb dX6_digest_265 rfl (lv_at hl 3 rfl) ?_
          refine lv_iload hx hb dX6_digest_266 (lv_at hl 1 rfl) ?_
          refine lv_iload_n hx hb dX6_digest_268 rfl (lv_at hl 2 rfl) ?_
          refine kc_i (va_runV (As := [.int (nI j), .int (nI u)]) (rest := [.long (((((d * 31) + r_5.toInt64) * 31) + ρ_5.toInt64) * 31)]) ⟨hx, hb, hml, hown, htT⟩ (m_armNow l D cA _ am r (mS (mS M 0 0) 28 ρ_5) na hna hI.h22 (nI j) (nI u)) (cwV 2 htT (kg_V m_ml_X6_179 m_im_X6_armNow m_sl_X6_armNow m_in_X6 m_cd_X6_armNow) rfl rfl rfl (by decide +kernel) ⟨Nat.le_of_ble_eq_true rfl, Nat.le_of_ble_eq_true rfl⟩) (kp_V hK hP hD hTB (km_rc hK hP)) rfl rfl hl.1 rfl (lv_room (Nat.le_of_ble_eq_true rfl)) dX6_digest_269 ⟨Nat.le_of_ble_eq_true rfl, Nat.le_of_ble_eq_true rfl⟩) hD hS hA (fun r_6 x_6 H locs hq_6 hP hD hS => ?_)
          rw [hq_6.2] at hP hD
          refine lv_i2l (v := r_6.toInt64) hx hb dX6_digest_272 rfl ?_
          refine lv_ladd hx hb dX6_digest_273 ?_
          refine lv_lstore_n (lv' := [(1, .long ((((((d * 31) + r_5.toInt64) * 31) + ρ_5.toInt64) * 31) + r_6.toInt64)), (4, .int (nI j)), (3, .int (nI u)), (0, .ref am)]) hx hb dX6_digest_274 rfl hl (by decide) rfl (fun ls hl => ?_)
          refine lv_iinc (v := nI (j + 1)) (lv' := [(4, .int (nI (j + 1))), (1, .long ((((((d * 31) + r_5.toInt64) * 31) + ρ_5.toInt64) * 31) + r_6.toInt64)), (3, .int (nI u)), (0, .ref am)]) hx hb dX6_digest_275 hl (k := 1) rfl (nI_1 _) (by decide) rfl (fun ls hl => ?_)
          refine lv_goto (tgt := 221) hx hb dX6_digest_278 (by decide) ?_
          have hl := lv_sub hl [0, 2, 1, 3] rfl
          exact ih_221 _ (by omega) H locs ls e_221 hd0 ⟨j + 1, _, ρ_5, rfl, by omega, hP, hD, hS, hl⟩
    · replace c_2 : ¬ (n ≤ j) := fun h9 => c_2 ((nI_leI (a := n) (b := j) (by omega) (by omega)).mpr h9)
      obtain ⟨vc, hvc, evc⟩ := (hI.2.1 j (by omega)).1
      refine lv_lload_n hx hb dX6_digest_61 rfl (lv_at hl 1 rfl) ?_
      refine lv_ldc2 (v := 31) hx hb hown (htT _ m_lc_X6_217) dX6_digest_62 ?_
      refine lv_lmul hx hb dX6_digest_65 ?_
      refine lv_aload_n hx hb dX6_digest_66 rfl (lv_at hl 2 rfl) ?_
      refine lv_iload_n hx hb dX6_digest_67 rfl (lv_at hl 0 rfl) ?_
      refine lv_iconst (v := 0) hx hb dX6_digest_68 (by decide) ?_
      refine kc_i (va_runV (As := [.int (nI j), .int 0]) (rest := [.long (d * 31)]) ⟨hx, hb, hml, hown, htT⟩ (m_farIn l D cA _ am r (mS (mS M 0 0) 28 ρ) j (by omega) 0) (cwV 2 htT (kg_V m_ml_X6_117 m_im_X6_farIn m_sl_X6_farIn m_in_X6 m_cd_X6_farIn) rfl rfl rfl (by decide +kernel) ⟨Nat.le_of_ble_eq_true rfl, Nat.le_of_ble_eq_true rfl⟩) (kp_V hK hP hD hTB (km_rc hK hP)) rfl rfl hl.1 rfl (lv_room (Nat.le_of_ble_eq_true rfl)) dX6_digest_69 ⟨Nat.le_of_ble_eq_true rfl, Nat.le_of_ble_eq_true rfl⟩) hD hS hA (fun r_8 x_8 H locs hq_8 hP hD hS => ?_)
      rw [hq_8.1]
      rw [hq_8.2] at hP hD
      refine lv_i2l (v := (rFar M.2 j (M.1 1 + 0)).toInt64) hx hb dX6_digest_72 rfl ?_
      refine lv_ladd hx hb dX6_digest_73 ?_
      refine lv_ldc2 (v := 31) hx hb hown (htT _ m_lc_X6_217) dX6_digest_74 ?_
      refine lv_lmul hx hb dX6_digest_77 ?_
      refine lv_aload_n hx hb dX6_digest_78 rfl (lv_at hl 2 rfl) ?_
      refine lv_iload_n hx hb dX6_digest_79 rfl (lv_at hl 0 rfl) ?_
      refine kc_i (va_runV (As := [.int (nI j)]) (rest := [.long (((d * 31) + ((rFar M.2 j (M.1 1 + 0)).toInt64)) * 31)]) ⟨hx, hb, hml, hown, htT⟩ (t_badNow l D cA _ am r (mS (mS M 0 0) 28 ρ) n na (INVR.iS (INVR.iS hI (by decide) (by decide)) (by decide) (by decide)) j (by omega)) (cwV 1 htT (kg_V m_ml_X6_194 m_im_X6_badNow m_sl_X6_badNow m_in_X6 m_cd_X6_badNow) rfl rfl rfl (by decide +kernel) ⟨Nat.le_of_ble_eq_true rfl, Nat.le_of_ble_eq_true rfl⟩) (kp_V hK hP hD hTB (km_rc hK hP)) rfl rfl hl.1 rfl (lv_room (Nat.le_of_ble_eq_true rfl)) dX6_digest_80 ⟨Nat.le_of_ble_eq_true rfl, Nat.le_of_ble_eq_true rfl⟩) hD hS hA (fun r_9 x_9 H locs hq_9 hP hD hS => ?_)
      rw [hq_9.2] at hP hD
      refine lv_i2l (v := r_9.toInt64) hx hb dX6_digest_83 rfl ?_
      refine lv_ladd hx hb dX6_digest_84 ?_
      refine lv_ldc2 (v := 31) hx hb hown (htT _ m_lc_X6_217) dX6_digest_85 ?_
      refine lv_lmul hx hb dX6_digest_88 ?_
      refine lv_aload_n hx hb dX6_digest_89 rfl (lv_at hl 2 rfl) ?_
      refine lv_iload_n hx hb dX6_digest_90 rfl (lv_at hl 0 rfl) ?_
      refine kc_i (va_runV (As := [.int (nI j)]) (rest := [.long (((((d * 31) + ((rFar M.2 j (M.1 1 + 0)).toInt64)) * 31) + r_9.toInt64) * 31)]) ⟨hx, hb, hml, hown, htT⟩ (t_isTrustedNow l D cA _ am r (mS (mS M 0 0) 28 ρ) n na (INVR.iS (INVR.iS hI (by decide) (by decide)) (by decide) (by decide)) j (by omega)) (cwV 1 htT (kg_V m_ml_X6_197 m_im_X6_isTrustedNow m_sl_X6_isTrustedNow m_in_X6 m_cd_X6_isTrustedNow) rfl rfl rfl (by decide +kernel) ⟨Nat.le_of_ble_eq_true rfl, Nat.le_of_ble_eq_true rfl⟩) (kp_V hK hP hD hTB (km_rc hK hP)) rfl rfl hl.1 rfl (lv_room (Nat.le_of_ble_eq_true rfl)) dX6_digest_91 ⟨Nat.le_of_ble_eq_true rfl, Nat.le_of_ble_eq_true rfl⟩) hD hS hA (fun r_10 x_10 H locs hq_10 hP hD hS => ?_)
      rw [hq_10.2] at hP hD
      refine lv_if_eq (tgt := 101) hx hb dX6_digest_94 (by decide) (fun c_11 => ?_) (fun c_11 => ?_)
      · refine lv_iconst (v := 0) hx hb dX6_digest_101 (by decide) ?_
        refine lv_i2l (v := 0) hx hb dX6_digest_102 (by decide) ?_
        refine lv_ladd hx hb dX6_digest_103 ?_
        refine lv_ldc2 (v := 31) hx hb hown (htT _ m_lc_X6_217) dX6_digest_104 ?_
        refine lv_lmul hx hb dX6_digest_107 ?_
        refine lv_aload_n hx hb dX6_digest_108 rfl (lv_at hl 2 rfl) ?_
        refine lv_iload_n hx hb dX6_digest_109 rfl (lv_at hl 0 rfl) ?_
        refine kcD_i hd0 (va_runV_D (As := [.int (nI j)]) (rest := [.long (((((((d * 31) + ((rFar M.2 j (M.1 1 + 0)).toInt64)) * 31) + r_9.toInt64) * 31) + 0) * 31)]) ⟨hx, hb, hml, hown, htT⟩ (t_bestNow l D cA _ am r (mS (mS M 0 0) 28 ρ) n na (INVR.iS (INVR.iS hI (by decide) (by decide)) (by decide) (by decide)) j (by omega)) (cwV 1 htT (kg_V m_ml_X6_200 m_im_X6_bestNow m_sl_X6_bestNow m_in_X6 m_cd_X6_bestNow) rfl rfl rfl (by decide +kernel) ⟨Nat.le_of_ble_eq_true rfl, Nat.le_of_ble_eq_true rfl⟩) (kp_V hK hP hD hTB (km_rc hK hP)) rfl rfl hl.1 rfl (lv_room (Nat.le_of_ble_eq_true rfl)) dX6_digest_110 ⟨Nat.le_of_ble_eq_true rfl, Nat.le_of_ble_eq_true rfl⟩) hD hS hA (fun r_12 x_12 H locs hq_12 hP hD hS d_12 hd0 => ?_)
        have htT : ∀ w ∈ TT, w.before _ (s.setDrawn d_12) = true := dr_words htT0 d_12
        have hTB : TBok (s.setDrawn d_12) := TBok.same (u := s) (U := s.setDrawn d_12) rfl (Vm.Alike.refl s.vm) hTB0
        have hK : va_K D vwCl (ty6 cA) (s.setDrawn d_12) := hK0
        have hown : (s.setDrawn d_12).vm.findClass RX6 = some m.cls := hown0
        rw [hq_12.2] at hP hD
        refine lv_i2l (v := r_12.toInt64) hx hb dX6_digest_113 rfl ?_
        refine lv_ladd hx hb dX6_digest_114 ?_
        refine lv_lstore_n (lv' := [(1, .long ((((((((d * 31) + ((rFar M.2 j (M.1 1 + 0)).toInt64)) * 31) + r_9.toInt64) * 31) + 0) * 31) + r_12.toInt64)), (3, .int (nI j)), (0, .ref am)]) hx hb dX6_digest_115 rfl hl (by decide) rfl (fun ls hl => ?_)
        refine lv_iconst (v := 0) hx hb dX6_digest_116 (by decide) ?_
        refine lv_istore (lv' := [(4, .int 0), (1, .long ((((((((d * 31) + ((rFar M.2 j (M.1 1 + 0)).toInt64)) * 31) + r_9.toInt64) * 31) + 0) * 31) + r_12.toInt64)), (3, .int (nI j)), (0, .ref am)]) hx hb dX6_digest_117 hl (by decide) rfl (fun ls hl => ?_)
        refine kz_loopD 119 (fun N9 H locs ls => ∃ (v : Nat) (d : Int64) (ρ : Int32), N9 = vc - v ∧ v ≤ vc ∧ va_P D vwCl (wM cA am r (mS (mS M 0 0) 28 ρ)) H ∧ va_D A (wM cA am r (mS (mS M 0 0) 28 ρ)) ∧ va_S A s.heap H locs ∧ lv_has ls 6 [(4, .int (nI v)), (3, .int (nI j)), (1, .long d), (0, .ref am)]) (fun N9 ih_119 H locs ls e_119 hd0 hI => ?_) hd0 ⟨0, ((((((((d * 31) + ((rFar M.2 j (M.1 1 + 0)).toInt64)) * 31) + r_9.toInt64) * 31) + 0) * 31) + r_12.toInt64), ρ, rfl, by omega, hP, hD, hS, lv_sub hl [0, 2, 1, 3] rfl⟩
        obtain ⟨v, d, ρ, hn9, hv, hP, hD, hS, hl⟩ := hI
        have htT : ∀ w ∈ TT, w.before _ (s.setDrawn e_119) = true := dr_words htT0 e_119
        have hTB : TBok (s.setDrawn e_119) := TBok.same (u := s) (U := s.setDrawn e_119) rfl (Vm.Alike.refl s.vm) hTB0
        have hK : va_K D vwCl (ty6 cA) (s.setDrawn e_119) := hK0
        have hown : (s.setDrawn e_119).vm.findClass RX6 = some m.cls := hown0
        refine lv_iload hx hb dX6_digest_119 (lv_at hl 0 rfl) ?_
        refine lv_aload_n hx hb dX6_digest_121 rfl (lv_at hl 3 rfl) ?_
        refine km_getr hx hb htT hown hK hP 5 (by decide) rfl (htT _ m_fl_X6_13) dX6_digest_122 ?_
        refine lv_iload_n hx hb dX6_digest_125 rfl (lv_at hl 1 rfl) ?_
        refine km_ialdv (x := nI vc) hx hb hK hP 5 rfl rfl (show vp_in (nI (j)) 8 from ki_in (by omega) (by decide)) ((congrArg _ (ki_cl (by omega))).trans evc) dX6_digest_126 ?_
        refine lv_icmp_ge (tgt := 204) hx hb dX6_digest_127 (by decide) (fun c_13 => ?_) (fun c_13 => ?_)
        · replace c_13 := (nI_leI (a := vc) (b := v) (by omega) (by omega)).mp c_13
          refine lv_iinc (v := nI (j + 1)) (lv' := [(3, .int (nI (j + 1))), (4, .int (nI v)), (1, .long d), (0, .ref am)]) hx hb dX6_digest_204 hl (k := 1) rfl (nI_1 _) (by decide) rfl (fun ls hl => ?_)
          refine lv_goto (tgt := 53) hx hb dX6_digest_207 (by decide) ?_
          have hl := lv_sub hl [0, 2, 3] rfl
          exact ih_53 _ (by omega) H locs ls e_119 hd0 ⟨j + 1, _, ρ, rfl, by omega, hP, hD, hS, hl⟩
        · replace c_13 : ¬ (vc ≤ v) := fun h9 => c_13 ((nI_leI (a := vc) (b := v) (by omega) (by omega)).mpr h9)
          refine lv_lload_n hx hb dX6_digest_130 rfl (lv_at hl 2 rfl) ?_
          refine lv_ldc2 (v := 31) hx hb hown (htT _ m_lc_X6_217) dX6_digest_131 ?_
          refine lv_lmul hx hb dX6_digest_134 ?_
          refine lv_aload_n hx hb dX6_digest_135 rfl (lv_at hl 3 rfl) ?_
          refine km_getr hx hb htT hown hK hP 6 (by decide) rfl (htT _ m_fl_X6_16) dX6_digest_136 ?_
          refine lv_iload_n hx hb dX6_digest_139 rfl (lv_at hl 1 rfl) ?_
          refine lv_iconst (v := 4) hx hb dX6_digest_140 (by decide) ?_
          refine lv_imul hx hb dX6_digest_141 ?_
          rw [show ((nI j) * 4 : Int32) = nI (4 * j) from (pk_mul j 4).trans (congrArg nI (by omega))]
          refine lv_iload hx hb dX6_digest_142 (lv_at hl 0 rfl) ?_
          refine lv_iadd hx hb dX6_digest_144 ?_
          rw [show ((nI (4 * j)) + (nI v) : Int32) = nI ((4 * j) + v) from nI_add (4 * j) v]
          refine km_ialdv (x := (M.2 6) ((4 * j) + v)) hx hb hK hP 6 rfl rfl (show vp_in (nI ((4 * j) + v)) 32 from ki_in (by omega) (by decide)) (congrArg _ (ki_cl (by omega))) dX6_digest_145 ?_
          refine lv_i2l (v := ((M.2 6) ((4 * j) + v)).toInt64) hx hb dX6_digest_146 rfl ?_
          refine lv_ladd hx hb dX6_digest_147 ?_
          refine lv_lstore_n (lv' := [(1, .long ((d * 31) + (((M.2 6) ((4 * j) + v)).toInt64))), (4, .int (nI v)), (3, .int (nI j)), (0, .ref am)]) hx hb dX6_digest_148 rfl hl (by decide) rfl (fun ls hl => ?_)
          refine lv_iconst (v := 0) hx hb dX6_digest_149 (by decide) ?_
          refine lv_istore (lv' := [(5, .int 0), (1, .long ((d * 31) + (((M.2 6) ((4 * j) + v)).toInt64))), (4, .int (nI v)), (3, .int (nI j)), (0, .ref am)]) hx hb dX6_digest_150 hl (by decide) rfl (fun ls hl => ?_)
          refine kz_loopD 152 (fun N9 H locs ls => ∃ (q : Nat) (d : Int64) (ρ : Int32), N9 = 4 - q ∧ q ≤ 4 ∧ va_P D vwCl (wM cA am r (mS (mS M 0 0) 28 ρ)) H ∧ va_D A (wM cA am r (mS (mS M 0 0) 28 ρ)) ∧ va_S A s.heap H locs ∧ lv_has ls 6 [(5, .int (nI q)), (4, .int (nI v)), (3, .int (nI j)), (1, .long d), (0, .ref am)]) (fun N9 ih_152 H locs ls e_152 hd0 hI => ?_) hd0 ⟨0, ((d * 31) + (((M.2 6) ((4 * j) + v)).toInt64)), ρ, rfl, by omega, hP, hD, hS, lv_sub hl [0, 2, 3, 1, 4] rfl⟩
          obtain ⟨q, d, ρ, hn9, hq, hP, hD, hS, hl⟩ := hI
          have htT : ∀ w ∈ TT, w.before _ (s.setDrawn e_152) = true := dr_words htT0 e_152
          have hTB : TBok (s.setDrawn e_152) := TBok.same (u := s) (U := s.setDrawn e_152) rfl (Vm.Alike.refl s.vm) hTB0
          have hK : va_K D vwCl (ty6 cA) (s.setDrawn e_152) := hK0
          have hown : (s.setDrawn e_152).vm.findClass RX6 = some m.cls := hown0
          refine lv_iload hx hb dX6_digest_152 (lv_at hl 0 rfl) ?_
          refine lv_iconst (v := 4) hx hb dX6_digest_154 (by decide) ?_
          refine lv_icmp_ge (tgt := 181) hx hb dX6_digest_155 (by decide) (fun c_14 => ?_) (fun c_14 => ?_)
          · replace c_14 := (nI_leI (a := 4) (b := q) (by omega) (by omega)).mp c_14
            refine lv_lload_n hx hb dX6_digest_181 rfl (lv_at hl 3 rfl) ?_
            refine lv_ldc2 (v := 31) hx hb hown (htT _ m_lc_X6_217) dX6_digest_182 ?_
            refine lv_lmul hx hb dX6_digest_185 ?_
            refine lv_aload_n hx hb dX6_digest_186 rfl (lv_at hl 4 rfl) ?_
            refine lv_iload_n hx hb dX6_digest_187 rfl (lv_at hl 2 rfl) ?_
            refine lv_iload hx hb dX6_digest_188 (lv_at hl 1 rfl) ?_
            refine lv_bipush (v := 20) hx hb dX6_digest_190 (by decide) ?_
            refine kc_i (va_runV (As := [.int (nI j), .int (nI v), .int 20]) (rest := [.long (d * 31)]) ⟨hx, hb, hml, hown, htT⟩ (m_reachNow l D cA _ am r (mS (mS M 0 0) 28 ρ) n na ru hok j (by omega) (nI v) 20 (by omega)) (cwV 3 htT (kg_V m_ml_X6_206 m_im_X6_reachNow m_sl_X6_reachNow m_in_X6 m_cd_X6_reachNow) rfl rfl rfl (by decide +kernel) ⟨Nat.le_of_ble_eq_true rfl, Nat.le_of_ble_eq_true rfl⟩) (kp_V hK hP hD hTB (km_rc hK hP)) rfl rfl hl.1 rfl (lv_room (Nat.le_of_ble_eq_true rfl)) dX6_digest_192 ⟨Nat.le_of_ble_eq_true rfl, Nat.le_of_ble_eq_true rfl⟩) hD hS hA (fun r_15 x_15 H locs hq_15 hP hD hS => ?_)
            obtain ⟨ρ_15, eρ_15⟩ : ∃ ρ, x_15 = mS (mS M 0 0) 28 ρ := hq_15.2.imp (fun _ e => e.trans mS_s)
            rw [eρ_15] at hP hD
            refine lv_i2l (v := r_15.toInt64) hx hb dX6_digest_195 rfl ?_
            refine lv_ladd hx hb dX6_digest_196 ?_
            refine lv_lstore_n (lv' := [(1, .long ((d * 31) + r_15.toInt64)), (5, .int (nI q)), (4, .int (nI v)), (3, .int (nI j)), (0, .ref am)]) hx hb dX6_digest_197 rfl hl (by decide) rfl (fun ls hl => ?_)
            refine lv_iinc (v := nI (v + 1)) (lv' := [(4, .int (nI (v + 1))), (1, .long ((d * 31) + r_15.toInt64)), (5, .int (nI q)), (3, .int (nI j)), (0, .ref am)]) hx hb dX6_digest_198 hl (k := 2) rfl (nI_1 _) (by decide) rfl (fun ls hl => ?_)
            refine lv_goto (tgt := 119) hx hb dX6_digest_201 (by decide) ?_
            have hl := lv_sub hl [0, 3, 1, 4] rfl
            exact ih_119 _ (by omega) H locs ls e_152 hd0 ⟨v + 1, _, ρ_15, rfl, by omega, hP, hD, hS, hl⟩
          · replace c_14 : ¬ (4 ≤ q) := fun h9 => c_14 ((nI_leI (a := 4) (b := q) (by omega) (by omega)).mpr h9)
            refine lv_lload_n hx hb dX6_digest_158 rfl (lv_at hl 3 rfl) ?_
            refine lv_ldc2 (v := 31) hx hb hown (htT _ m_lc_X6_217) dX6_digest_159 ?_
            refine lv_lmul hx hb dX6_digest_162 ?_
            refine lv_aload_n hx hb dX6_digest_163 rfl (lv_at hl 4 rfl) ?_
            refine lv_iload_n hx hb dX6_digest_164 rfl (lv_at hl 2 rfl) ?_
            refine lv_iload hx hb dX6_digest_165 (lv_at hl 1 rfl) ?_
            refine lv_iload hx hb dX6_digest_167 (lv_at hl 0 rfl) ?_
            refine kc_i (va_runV (As := [.int (nI j), .int (nI v), .int (nI q)]) (rest := [.long (d * 31)]) ⟨hx, hb, hml, hown, htT⟩ (m_toldNow l D cA _ am r (mS (mS M 0 0) 28 ρ) na hna hI.h22 (nI j) (nI v) (nI q)) (cwV 3 htT (kg_V m_ml_X6_182 m_im_X6_toldNow m_sl_X6_toldNow m_in_X6 m_cd_X6_toldNow) rfl rfl rfl (by decide +kernel) ⟨Nat.le_of_ble_eq_true rfl, Nat.le_of_ble_eq_true rfl⟩) (kp_V hK hP hD hTB (km_rc hK hP)) rfl rfl hl.1 rfl (lv_room (Nat.le_of_ble_eq_true rfl)) dX6_digest_169 ⟨Nat.le_of_ble_eq_true rfl, Nat.le_of_ble_eq_true rfl⟩) hD hS hA (fun r_16 x_16 H locs hq_16 hP hD hS => ?_)
            rw [hq_16.2] at hP hD
            refine lv_i2l (v := r_16.toInt64) hx hb dX6_digest_172 rfl ?_
            refine lv_ladd hx hb dX6_digest_173 ?_
            refine lv_lstore_n (lv' := [(1, .long ((d * 31) + r_16.toInt64)), (5, .int (nI q)), (4, .int (nI v)), (3, .int (nI j)), (0, .ref am)]) hx hb dX6_digest_174 rfl hl (by decide) rfl (fun ls hl => ?_)
            refine lv_iinc (v := nI (q + 1)) (lv' := [(5, .int (nI (q + 1))), (1, .long ((d * 31) + r_16.toInt64)), (4, .int (nI v)), (3, .int (nI j)), (0, .ref am)]) hx hb dX6_digest_175 hl (k := 1) rfl (nI_1 _) (by decide) rfl (fun ls hl => ?_)
            refine lv_goto (tgt := 152) hx hb dX6_digest_178 (by decide) ?_
            have hl := lv_sub hl [0, 2, 3, 1, 4] rfl
            exact ih_152 _ (by omega) H locs ls e_152 hd0 ⟨q + 1, _, ρ, rfl, by omega, hP, hD, hS, hl⟩
      · refine lv_iconst (v := 1) hx hb dX6_digest_97 (by decide) ?_
        refine lv_goto (tgt := 102) hx hb dX6_digest_98 (by decide) ?_
        refine lv_i2l (v := 1) hx hb dX6_digest_102 (by decide) ?_
        refine lv_ladd hx hb dX6_digest_103 ?_
        refine lv_ldc2 (v := 31) hx hb hown (htT _ m_lc_X6_217) dX6_digest_104 ?_
        refine lv_lmul hx hb dX6_digest_107 ?_
        refine lv_aload_n hx hb dX6_digest_108 rfl (lv_at hl 2 rfl) ?_
        refine lv_iload_n hx hb dX6_digest_109 rfl (lv_at hl 0 rfl) ?_
        refine kcD_i hd0 (va_runV_D (As := [.int (nI j)]) (rest := [.long (((((((d * 31) + ((rFar M.2 j (M.1 1 + 0)).toInt64)) * 31) + r_9.toInt64) * 31) + 1) * 31)]) ⟨hx, hb, hml, hown, htT⟩ (t_bestNow l D cA _ am r (mS (mS M 0 0) 28 ρ) n na (INVR.iS (INVR.iS hI (by decide) (by decide)) (by decide) (by decide)) j (by omega)) (cwV 1 htT (kg_V m_ml_X6_200 m_im_X6_bestNow m_sl_X6_bestNow m_in_X6 m_cd_X6_bestNow) rfl rfl rfl (by decide +kernel) ⟨Nat.le_of_ble_eq_true rfl, Nat.le_of_ble_eq_true rfl⟩) (kp_V hK hP hD hTB (km_rc hK hP)) rfl rfl hl.1 rfl (lv_room (Nat.le_of_ble_eq_true rfl)) dX6_digest_110 ⟨Nat.le_of_ble_eq_true rfl, Nat.le_of_ble_eq_true rfl⟩) hD hS hA (fun r_17 x_17 H locs hq_17 hP hD hS d_17 hd0 => ?_)
        have htT : ∀ w ∈ TT, w.before _ (s.setDrawn d_17) = true := dr_words htT0 d_17
        have hTB : TBok (s.setDrawn d_17) := TBok.same (u := s) (U := s.setDrawn d_17) rfl (Vm.Alike.refl s.vm) hTB0
        have hK : va_K D vwCl (ty6 cA) (s.setDrawn d_17) := hK0
        have hown : (s.setDrawn d_17).vm.findClass RX6 = some m.cls := hown0
        rw [hq_17.2] at hP hD
        refine lv_i2l (v := r_17.toInt64) hx hb dX6_digest_113 rfl ?_
        refine lv_ladd hx hb dX6_digest_114 ?_
        refine lv_lstore_n (lv' := [(1, .long ((((((((d * 31) + ((rFar M.2 j (M.1 1 + 0)).toInt64)) * 31) + r_9.toInt64) * 31) + 1) * 31) + r_17.toInt64)), (3, .int (nI j)), (0, .ref am)]) hx hb dX6_digest_115 rfl hl (by decide) rfl (fun ls hl => ?_)
        refine lv_iconst (v := 0) hx hb dX6_digest_116 (by decide) ?_
        refine lv_istore (lv' := [(4, .int 0), (1, .long ((((((((d * 31) + ((rFar M.2 j (M.1 1 + 0)).toInt64)) * 31) + r_9.toInt64) * 31) + 1) * 31) + r_17.toInt64)), (3, .int (nI j)), (0, .ref am)]) hx hb dX6_digest_117 hl (by decide) rfl (fun ls hl => ?_)
        refine kz_loopD 119 (fun N9 H locs ls => ∃ (v : Nat) (d : Int64) (ρ : Int32), N9 = vc - v ∧ v ≤ vc ∧ va_P D vwCl (wM cA am r (mS (mS M 0 0) 28 ρ)) H ∧ va_D A (wM cA am r (mS (mS M 0 0) 28 ρ)) ∧ va_S A s.heap H locs ∧ lv_has ls 6 [(4, .int (nI v)), (3, .int (nI j)), (1, .long d), (0, .ref am)]) (fun N9 ih_119 H locs ls e_119 hd0 hI => ?_) hd0 ⟨0, ((((((((d * 31) + ((rFar M.2 j (M.1 1 + 0)).toInt64)) * 31) + r_9.toInt64) * 31) + 1) * 31) + r_17.toInt64), ρ, rfl, by omega, hP, hD, hS, lv_sub hl [0, 2, 1, 3] rfl⟩
        obtain ⟨v, d, ρ, hn9, hv, hP, hD, hS, hl⟩ := hI
        have htT : ∀ w ∈ TT, w.before _ (s.setDrawn e_119) = true := dr_words htT0 e_119
        have hTB : TBok (s.setDrawn e_119) := TBok.same (u := s) (U := s.setDrawn e_119) rfl (Vm.Alike.refl s.vm) hTB0
        have hK : va_K D vwCl (ty6 cA) (s.setDrawn e_119) := hK0
        have hown : (s.setDrawn e_119).vm.findClass RX6 = some m.cls := hown0
        refine lv_iload hx hb dX6_digest_119 (lv_at hl 0 rfl) ?_
        refine lv_aload_n hx hb dX6_digest_121 rfl (lv_at hl 3 rfl) ?_
        refine km_getr hx hb htT hown hK hP 5 (by decide) rfl (htT _ m_fl_X6_13) dX6_digest_122 ?_
        refine lv_iload_n hx hb dX6_digest_125 rfl (lv_at hl 1 rfl) ?_
        refine km_ialdv (x := nI vc) hx hb hK hP 5 rfl rfl (show vp_in (nI (j)) 8 from ki_in (by omega) (by decide)) ((congrArg _ (ki_cl (by omega))).trans evc) dX6_digest_126 ?_
        refine lv_icmp_ge (tgt := 204) hx hb dX6_digest_127 (by decide) (fun c_18 => ?_) (fun c_18 => ?_)
        · replace c_18 := (nI_leI (a := vc) (b := v) (by omega) (by omega)).mp c_18
          refine lv_iinc (v := nI (j + 1)) (lv' := [(3, .int (nI (j + 1))), (4, .int (nI v)), (1, .long d), (0, .ref am)]) hx hb dX6_digest_204 hl (k := 1) rfl (nI_1 _) (by decide) rfl (fun ls hl => ?_)
          refine lv_goto (tgt := 53) hx hb dX6_digest_207 (by decide) ?_
          have hl := lv_sub hl [0, 2, 3] rfl
          exact ih_53 _ (by omega) H locs ls e_119 hd0 ⟨j + 1, _, ρ, rfl, by omega, hP, hD, hS, hl⟩
        · replace c_18 : ¬ (vc ≤ v) := fun h9 => c_18 ((nI_leI (a := vc) (b := v) (by omega) (by omega)).mpr h9)
          refine lv_lload_n hx hb dX6_digest_130 rfl (lv_at hl 2 rfl) ?_
          refine lv_ldc2 (v := 31) hx hb hown (htT _ m_lc_X6_217) dX6_digest_131 ?_
          refine lv_lmul hx hb dX6_digest_134 ?_
          refine lv_aload_n hx hb dX6_digest_135 rfl (lv_at hl 3 rfl) ?_
          refine km_getr hx hb htT hown hK hP 6 (by decide) rfl (htT _ m_fl_X6_16) dX6_digest_136 ?_
          refine lv_iload_n hx hb dX6_digest_139 rfl (lv_at hl 1 rfl) ?_
          refine lv_iconst (v := 4) hx hb dX6_digest_140 (by decide) ?_
          refine lv_imul hx hb dX6_digest_141 ?_
          rw [show ((nI j) * 4 : Int32) = nI (4 * j) from (pk_mul j 4).trans (congrArg nI (by omega))]
          refine lv_iload hx hb dX6_digest_142 (lv_at hl 0 rfl) ?_
          refine lv_iadd hx hb dX6_digest_144 ?_
          rw [show ((nI (4 * j)) + (nI v) : Int32) = nI ((4 * j) + v) from nI_add (4 * j) v]
          refine km_ialdv (x := (M.2 6) ((4 * j) + v)) hx hb hK hP 6 rfl rfl (show vp_in (nI ((4 * j) + v)) 32 from ki_in (by omega) (by decide)) (congrArg _ (ki_cl (by omega))) dX6_digest_145 ?_
          refine lv_i2l (v := ((M.2 6) ((4 * j) + v)).toInt64) hx hb dX6_digest_146 rfl ?_
          refine lv_ladd hx hb dX6_digest_147 ?_
          refine lv_lstore_n (lv' := [(1, .long ((d * 31) + (((M.2 6) ((4 * j) + v)).toInt64))), (4, .int (nI v)), (3, .int (nI j)), (0, .ref am)]) hx hb dX6_digest_148 rfl hl (by decide) rfl (fun ls hl => ?_)
          refine lv_iconst (v := 0) hx hb dX6_digest_149 (by decide) ?_
          refine lv_istore (lv' := [(5, .int 0), (1, .long ((d * 31) + (((M.2 6) ((4 * j) + v)).toInt64))), (4, .int (nI v)), (3, .int (nI j)), (0, .ref am)]) hx hb dX6_digest_150 hl (by decide) rfl (fun ls hl => ?_)
          refine kz_loopD 152 (fun N9 H locs ls => ∃ (q : Nat) (d : Int64) (ρ : Int32), N9 = 4 - q ∧ q ≤ 4 ∧ va_P D vwCl (wM cA am r (mS (mS M 0 0) 28 ρ)) H ∧ va_D A (wM cA am r (mS (mS M 0 0) 28 ρ)) ∧ va_S A s.heap H locs ∧ lv_has ls 6 [(5, .int (nI q)), (4, .int (nI v)), (3, .int (nI j)), (1, .long d), (0, .ref am)]) (fun N9 ih_152 H locs ls e_152 hd0 hI => ?_) hd0 ⟨0, ((d * 31) + (((M.2 6) ((4 * j) + v)).toInt64)), ρ, rfl, by omega, hP, hD, hS, lv_sub hl [0, 2, 3, 1, 4] rfl⟩
          obtain ⟨q, d, ρ, hn9, hq, hP, hD, hS, hl⟩ := hI
          have htT : ∀ w ∈ TT, w.before _ (s.setDrawn e_152) = true := dr_words htT0 e_152
          have hTB : TBok (s.setDrawn e_152) := TBok.same (u := s) (U := s.setDrawn e_152) rfl (Vm.Alike.refl s.vm) hTB0
          have hK : va_K D vwCl (ty6 cA) (s.setDrawn e_152) := hK0
          have hown : (s.setDrawn e_152).vm.findClass RX6 = some m.cls := hown0
          refine lv_iload hx hb dX6_digest_152 (lv_at hl 0 rfl) ?_
          refine lv_iconst (v := 4) hx hb dX6_digest_154 (by decide) ?_
          refine lv_icmp_ge (tgt := 181) hx hb dX6_digest_155 (by decide) (fun c_19 => ?_) (fun c_19 => ?_)
          · replace c_19 := (nI_leI (a := 4) (b := q) (by omega) (by omega)).mp c_19
            refine lv_lload_n hx hb dX6_digest_181 rfl (lv_at hl 3 rfl) ?_
            refine lv_ldc2 (v := 31) hx hb hown (htT _ m_lc_X6_217) dX6_digest_182 ?_
            refine lv_lmul hx hb dX6_digest_185 ?_
            refine lv_aload_n hx hb dX6_digest_186 rfl (lv_at hl 4 rfl) ?_
            refine lv_iload_n hx hb dX6_digest_187 rfl (lv_at hl 2 rfl) ?_
            refine lv_iload hx hb dX6_digest_188 (lv_at hl 1 rfl) ?_
            refine lv_bipush (v := 20) hx hb dX6_digest_190 (by decide) ?_
            refine kc_i (va_runV (As := [.int (nI j), .int (nI v), .int 20]) (rest := [.long (d * 31)]) ⟨hx, hb, hml, hown, htT⟩ (m_reachNow l D cA _ am r (mS (mS M 0 0) 28 ρ) n na ru hok j (by omega) (nI v) 20 (by omega)) (cwV 3 htT (kg_V m_ml_X6_206 m_im_X6_reachNow m_sl_X6_reachNow m_in_X6 m_cd_X6_reachNow) rfl rfl rfl (by decide +kernel) ⟨Nat.le_of_ble_eq_true rfl, Nat.le_of_ble_eq_true rfl⟩) (kp_V hK hP hD hTB (km_rc hK hP)) rfl rfl hl.1 rfl (lv_room (Nat.le_of_ble_eq_true rfl)) dX6_digest_192 ⟨Nat.le_of_ble_eq_true rfl, Nat.le_of_ble_eq_true rfl⟩) hD hS hA (fun r_20 x_20 H locs hq_20 hP hD hS => ?_)
            obtain ⟨ρ_20, eρ_20⟩ : ∃ ρ, x_20 = mS (mS M 0 0) 28 ρ := hq_20.2.imp (fun _ e => e.trans mS_s)
            rw [eρ_20] at hP hD
            refine lv_i2l (v := r_20.toInt64) hx hb dX6_digest_195 rfl ?_
            refine lv_ladd hx hb dX6_digest_196 ?_
            refine lv_lstore_n (lv' := [(1, .long ((d * 31) + r_20.toInt64)), (5, .int (nI q)), (4, .int (nI v)), (3, .int (nI j)), (0, .ref am)]) hx hb dX6_digest_197 rfl hl (by decide) rfl (fun ls hl => ?_)
            refine lv_iinc (v := nI (v + 1)) (lv' := [(4, .int (nI (v + 1))), (1, .long ((d * 31) + r_20.toInt64)), (5, .int (nI q)), (3, .int (nI j)), (0, .ref am)]) hx hb dX6_digest_198 hl (k := 2) rfl (nI_1 _) (by decide) rfl (fun ls hl => ?_)
            refine lv_goto (tgt := 119) hx hb dX6_digest_201 (by decide) ?_
            have hl := lv_sub hl [0, 3, 1, 4] rfl
            exact ih_119 _ (by omega) H locs ls e_152 hd0 ⟨v + 1, _, ρ_20, rfl, by omega, hP, hD, hS, hl⟩
          · replace c_19 : ¬ (4 ≤ q) := fun h9 => c_19 ((nI_leI (a := 4) (b := q) (by omega) (by omega)).mpr h9)
            refine lv_lload_n hx hb dX6_digest_158 rfl (lv_at hl 3 rfl) ?_
            refine lv_ldc2 (v := 31) hx hb hown (htT _ m_lc_X6_217) dX6_digest_159 ?_
            refine lv_lmul hx hb dX6_digest_162 ?_
            refine lv_aload_n hx hb dX6_digest_163 rfl (lv_at hl 4 rfl) ?_
            refine lv_iload_n hx hb dX6_digest_164 rfl (lv_at hl 2 rfl) ?_
            refine lv_iload hx hb dX6_digest_165 (lv_at hl 1 rfl) ?_
            refine lv_iload hx hb dX6_digest_167 (lv_at hl 0 rfl) ?_
            refine kc_i (va_runV (As := [.int (nI j), .int (nI v), .int (nI q)]) (rest := [.long (d * 31)]) ⟨hx, hb, hml, hown, htT⟩ (m_toldNow l D cA _ am r (mS (mS M 0 0) 28 ρ) na hna hI.h22 (nI j) (nI v) (nI q)) (cwV 3 htT (kg_V m_ml_X6_182 m_im_X6_toldNow m_sl_X6_toldNow m_in_X6 m_cd_X6_toldNow) rfl rfl rfl (by decide +kernel) ⟨Nat.le_of_ble_eq_true rfl, Nat.le_of_ble_eq_true rfl⟩) (kp_V hK hP hD hTB (km_rc hK hP)) rfl rfl hl.1 rfl (lv_room (Nat.le_of_ble_eq_true rfl)) dX6_digest_169 ⟨Nat.le_of_ble_eq_true rfl, Nat.le_of_ble_eq_true rfl⟩) hD hS hA (fun r_21 x_21 H locs hq_21 hP hD hS => ?_)
            rw [hq_21.2] at hP hD
            refine lv_i2l (v := r_21.toInt64) hx hb dX6_digest_172 rfl ?_
            refine lv_ladd hx hb dX6_digest_173 ?_
            refine lv_lstore_n (lv' := [(1, .long ((d * 31) + r_21.toInt64)), (5, .int (nI q)), (4, .int (nI v)), (3, .int (nI j)), (0, .ref am)]) hx hb dX6_digest_174 rfl hl (by decide) rfl (fun ls hl => ?_)
            refine lv_iinc (v := nI (q + 1)) (lv' := [(5, .int (nI (q + 1))), (1, .long ((d * 31) + r_21.toInt64)), (4, .int (nI v)), (3, .int (nI j)), (0, .ref am)]) hx hb dX6_digest_175 hl (k := 1) rfl (nI_1 _) (by decide) rfl (fun ls hl => ?_)
            refine lv_goto (tgt := 152) hx hb dX6_digest_178 (by decide) ?_
            have hl := lv_sub hl [0, 2, 3, 1, 4] rfl
            exact ih_152 _ (by omega) H locs ls e_152 hd0 ⟨q + 1, _, ρ, rfl, by omega, hP, hD, hS, hl⟩
  · replace c_1 : ¬ (3 ≤ j) := fun h9 => c_1 ((nI_leI (a := 3) (b := j) (by omega) (by omega)).mpr h9)
    refine lv_lload_n hx hb dX6_digest_32 rfl (lv_at hl 1 rfl) ?_
    refine lv_ldc2 (v := 31) hx hb hown (htT _ m_lc_X6_217) dX6_digest_33 ?_
    refine lv_lmul hx hb dX6_digest_36 ?_
    refine lv_aload_n hx hb dX6_digest_37 rfl (lv_at hl 2 rfl) ?_
    refine lv_iload_n hx hb dX6_digest_38 rfl (lv_at hl 0 rfl) ?_
    refine kc_i (va_runV (As := [.int (nI j)]) (rest := [.long (d * 31)]) ⟨hx, hb, hml, hown, htT⟩ (m_leftIn l D cA _ am r (mS (mS M 0 0) 28 ρ) n hI.n8 hI.h3 (nI j)) (cwV 1 htT (kg_V m_ml_X6_142 m_im_X6_leftIn m_sl_X6_leftIn m_in_X6 m_cd_X6_leftIn) rfl rfl rfl (by decide +kernel) ⟨Nat.le_of_ble_eq_true rfl, Nat.le_of_ble_eq_true rfl⟩) (kp_V hK hP hD hTB (km_rc hK hP)) rfl rfl hl.1 rfl (lv_room (Nat.le_of_ble_eq_true rfl)) dX6_digest_39 ⟨Nat.le_of_ble_eq_true rfl, Nat.le_of_ble_eq_true rfl⟩) hD hS hA (fun r_22 x_22 H locs hq_22 hP hD hS => ?_)
    rw [hq_22.1]
    rw [hq_22.2] at hP hD
    refine lv_i2l (v := (rLeft M.2 (nI j) n 0 1000).toInt64) hx hb dX6_digest_42 rfl ?_
    refine lv_ladd hx hb dX6_digest_43 ?_
    refine lv_lstore_n (lv' := [(1, .long ((d * 31) + ((rLeft M.2 (nI j) n 0 1000).toInt64))), (3, .int (nI j)), (0, .ref am)]) hx hb dX6_digest_44 rfl hl (by decide) rfl (fun ls hl => ?_)
    refine lv_iinc (v := nI (j + 1)) (lv' := [(3, .int (nI (j + 1))), (1, .long ((d * 31) + ((rLeft M.2 (nI j) n 0 1000).toInt64))), (0, .ref am)]) hx hb dX6_digest_45 hl (k := 1) rfl (nI_1 _) (by decide) rfl (fun ls hl => ?_)
    refine lv_goto (tgt := 27) hx hb dX6_digest_48 (by decide) ?_
    have hl := lv_sub hl [0, 1, 2] rfl
    exact ih_27 _ (by omega) H locs ls e_27 hd0 ⟨j + 1, _, ρ, rfl, by omega, hP, hD, hS, hl⟩

