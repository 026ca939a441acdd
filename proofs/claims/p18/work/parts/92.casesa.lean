theorem kIO {α : Type} (p lo hi : Int32) (a b : α) : (if kIn p lo hi = 0 then a else b) = (if kOut p lo hi = 0 then b else a) := by
  rcases kOut_01 p lo hi with h | h
  · rw [if_pos h, if_neg (by rw [kIn_out.mpr h]; decide)]
  · rw [if_neg (show ¬ kOut p lo hi = 0 by rw [h]; decide), if_pos (kIn_out0.mpr h)]
set_option maxRecDepth 100000 in
set_option maxHeartbeats 4000000 in
theorem law_add (l : Launch) (hst : l.stackTraces = false) {p : Program} {e : Env} {s : State} {m : MethodId} {below : List Frame} {meth : Method} {c : Code} {b L : Nat} {xs : Nat → Int32} (C0 : lw_At p s m meth c b L xs) {D : va_G} {cA : Nat → ClassId} (hK : va_K D vwCl (ty6 cA) s) (hTB : TBok s) (hTX : TXok (fun q : Nat => s.heap.size ≤ q) s) {x ar ak qo qd am : Nat} {r : Nat → Nat} {c0 s0 i : Nat} (hc0 : c0 + 20 ≤ 601024) (hs0 : s0 + 400 ≤ 7293034) (hi : 6 * i + 6 ≤ L) (hL : L ≤ 3072) (hnext : ∀ (S : Pool) (M : MSt) (fo : Nat → Int64) (fd : Nat → UInt64) (n na : Nat) (hh cc : Int32) (H : Heap) (locs : List Loc) (ls : Array Slot) (d : Drawn), s.drawn.sameBut d lw_cs → INVC n na hh cc S x ar ak → INVR n na M → REL True n na S M ar → LAY n M → M.1 1 = cc → M.1 2 = hh → va_P D vwCl (LW cA S qo fo qd fd am r M) H → va_D (fun q : Nat => s.heap.size ≤ q) (LW cA S qo fo qd fd am r M) → va_S (fun q : Nat => s.heap.size ≤ q) s.heap H locs → lv_has ls 9 [(5, .int (nI (6 * i))), (4, .ref qd), (3, .ref qo), (2, .ref am), (1, .ref x), (0, .ref b)] → W p l e room_1 (s.setDrawn d) m #[Value.ref b] below meth c H locs (c0 + 20) (s0 + 400) (lw_Z below #[Value.ref b] s) (F0 m 1750 ls [])) {S : Pool} {M : MSt} {fo : Nat → Int64} {fd : Nat → UInt64} {n na : Nat} {hh cc : Int32} {H : Heap} {locs : List Loc} {ls : Array Slot} {d : Drawn} (hd0 : s.drawn.sameBut d lw_cs) (h : INVC n na hh cc S x ar ak) (hI : INVR n na M) (hL9 : REL True n na S M ar) (hY : LAY n M) (e1 : M.1 1 = cc) (e2 : M.1 2 = hh) (hP : va_P D vwCl (LW cA S qo fo qd fd am r M) H) (hD : va_D (fun q : Nat => s.heap.size ≤ q) (LW cA S qo fo qd fd am r M)) (hS : va_S (fun q : Nat => s.heap.size ≤ q) s.heap H locs) (hl : lv_has ls 9 [(5, .int (nI (6 * i))), (4, .ref qd), (3, .ref qo), (2, .ref am), (1, .ref x), (0, .ref b)]) : W p l e room_1 (s.setDrawn d) m #[Value.ref b] below meth c H locs c0 s0 (lw_Z below #[Value.ref b] s) (F0 m 200 ls []) := by
  obtain ⟨hx, hb, hr, hml, hown, hts, hX, hbl, hlocks, hgv⟩ := id C0
  have hA : ∀ q : Nat, s.heap.size ≤ q → (fun q : Nat => s.heap.size ≤ q) q := fun _ h => h
  have hbA : ¬ (fun q : Nat => s.heap.size ≤ q) b := Nat.not_le.mpr hbl
  obtain ⟨a1, ea1⟩ : ∃ z, z = xs (6 * i + 1) := ⟨_, rfl⟩
  obtain ⟨a2, ea2⟩ : ∃ z, z = xs (6 * i + 2) := ⟨_, rfl⟩
  obtain ⟨a3, ea3⟩ : ∃ z, z = xs (6 * i + 3) := ⟨_, rfl⟩
  obtain ⟨a4, ea4⟩ : ∃ z, z = xs (6 * i + 4) := ⟨_, rfl⟩
  obtain ⟨a5, ea5⟩ : ∃ z, z = xs (6 * i + 5) := ⟨_, rfl⟩
  have htT0 : ∀ w ∈ TT, w.before _ s = true := fun w h => hts w (tt_in h)
  have hTB0 := hTB
  have hK0 := hK
  have hown0 : s.vm.findClass RL = some m.cls := hown
  have hTX0 := hTX
  have hX0 := hX
  have htT : ∀ w ∈ TT, w.before _ (s.setDrawn d) = true := dr_words htT0 d
  have hTB : TBok (s.setDrawn d) := TBok.same (u := s) (U := s.setDrawn d) rfl (Vm.Alike.refl s.vm) hTB0
  have hK : va_K D vwCl (ty6 cA) (s.setDrawn d) := hK0
  have hown : (s.setDrawn d).vm.findClass RL = some m.cls := hown0
  have hTX : TXok (fun q : Nat => s.heap.size ≤ q) (s.setDrawn d) := hTX0.dr d
  have hX : va_X b L xs (s.setDrawn d) (s.setDrawn d).heap := hX0
  refine lv_aload_n hx hb dL_law_200 rfl (lv_at hl 4 rfl) ?_
  refine lv_aload_n hx hb dL_law_201 rfl (lv_at hl 5 rfl) ?_
  refine lv_iload hx hb dL_law_202 (lv_at hl 0 rfl) ?_
  refine lv_iconst (v := 1) hx hb dL_law_204 (by decide) ?_
  refine lv_iadd hx hb dL_law_205 ?_
  rw [show ((nI (6 * i)) + 1 : Int32) = nI ((6 * i) + 1) from nI_add (6 * i) 1]
  refine va_sld hx hb hX hbl hbA hS (show vp_in (nI ((6 * i) + 1)) L from ki_in (by omega) (by omega)) dL_law_206 ?_
  rw [show xs (nI ((6 * i) + 1)).toNatClampNeg = a1 from (congrArg xs (ki_cl (by omega))).trans ea1.symm]
  refine lv_aload_n hx hb dL_law_207 rfl (lv_at hl 5 rfl) ?_
  refine lv_iload hx hb dL_law_208 (lv_at hl 0 rfl) ?_
  refine lv_iconst (v := 2) hx hb dL_law_210 (by decide) ?_
  refine lv_iadd hx hb dL_law_211 ?_
  rw [show ((nI (6 * i)) + 2 : Int32) = nI ((6 * i) + 2) from nI_add (6 * i) 2]
  refine va_sld hx hb hX hbl hbA hS (show vp_in (nI ((6 * i) + 2)) L from ki_in (by omega) (by omega)) dL_law_212 ?_
  rw [show xs (nI ((6 * i) + 2)).toNatClampNeg = a2 from (congrArg xs (ki_cl (by omega))).trans ea2.symm]
  refine lv_aload_n hx hb dL_law_213 rfl (lv_at hl 5 rfl) ?_
  refine lv_iload hx hb dL_law_214 (lv_at hl 0 rfl) ?_
  refine lv_iconst (v := 3) hx hb dL_law_216 (by decide) ?_
  refine lv_iadd hx hb dL_law_217 ?_
  rw [show ((nI (6 * i)) + 3 : Int32) = nI ((6 * i) + 3) from nI_add (6 * i) 3]
  refine va_sld hx hb hX hbl hbA hS (show vp_in (nI ((6 * i) + 3)) L from ki_in (by omega) (by omega)) dL_law_218 ?_
  rw [show xs (nI ((6 * i) + 3)).toNatClampNeg = a3 from (congrArg xs (ki_cl (by omega))).trans ea3.symm]
  refine lv_if_eq (tgt := 226) hx hb dL_law_219 (by decide) (fun c_1 => ?_) (fun c_1 => ?_)
  · refine lv_iconst (v := 0) hx hb dL_law_226 (by decide) ?_
    refine lv_aload_n hx hb dL_law_227 rfl (lv_at hl 2 rfl) ?_
    refine kj_i (pmJ _ _ _ _) (vx_runSW (As := [.ref x, .int a1, .int a2, .int 0, .ref qo]) (rest := []) ⟨hx, hb, hml, hown, htT⟩ (w_add l hst D cA _ S x qo fo n na hh cc ar ak h a1 a2 0 (Or.inl rfl)) (vx_cwSW 5 htT (kg_SW m_ml_L_124 m_st_L_add m_in_L m_cd_L_add) rfl rfl rfl (by decide +kernel) ⟨Nat.le_of_ble_eq_true rfl, Nat.le_of_ble_eq_true rfl⟩) (kj_SX (pmJ _ _ _ _) hK hP hD hTB hTX hS hA) rfl rfl hl.1 rfl (lv_room (Nat.le_of_ble_eq_true rfl)) dL_law_228 ⟨(by show _ ≤ 601024; omega), (by show _ ≤ 7293034; omega)⟩) hP hD hS hA (fun r_2 x_2 H locs hq_2 hP hD hS => ?_)
    rw [List.append_assoc] at hP hD
    rcases hq_2 with ⟨er, h1 | ⟨h1, h2⟩, eS⟩ | ⟨er, h1, h2, hn8, eS⟩ | ⟨er, h1, h2, hn8, hp, efo⟩
    · rw [er]
      rw [eS] at hP hD
      refine lv_istore (lv' := [(6, .int 1), (5, .int (nI (6 * i))), (4, .ref qd), (3, .ref qo), (2, .ref am), (1, .ref x), (0, .ref b)]) hx hb dL_law_231 hl (by decide) rfl (fun ls hl => ?_)
      refine lv_aload_n hx hb dL_law_233 rfl (lv_at hl 4 rfl) ?_
      refine lv_aload_n hx hb dL_law_234 rfl (lv_at hl 6 rfl) ?_
      refine lv_iload hx hb dL_law_235 (lv_at hl 1 rfl) ?_
      refine lv_iconst (v := 1) hx hb dL_law_237 (by decide) ?_
      refine lv_iadd hx hb dL_law_238 ?_
      rw [show ((nI (6 * i)) + 1 : Int32) = nI ((6 * i) + 1) from nI_add (6 * i) 1]
      refine va_sld hx hb hX hbl hbA hS (show vp_in (nI ((6 * i) + 1)) L from ki_in (by omega) (by omega)) dL_law_239 ?_
      rw [show xs (nI ((6 * i) + 1)).toNatClampNeg = a1 from (congrArg xs (ki_cl (by omega))).trans ea1.symm]
      refine lv_aload_n hx hb dL_law_240 rfl (lv_at hl 6 rfl) ?_
      refine lv_iload hx hb dL_law_241 (lv_at hl 1 rfl) ?_
      refine lv_iconst (v := 2) hx hb dL_law_243 (by decide) ?_
      refine lv_iadd hx hb dL_law_244 ?_
      rw [show ((nI (6 * i)) + 2 : Int32) = nI ((6 * i) + 2) from nI_add (6 * i) 2]
      refine va_sld hx hb hX hbl hbA hS (show vp_in (nI ((6 * i) + 2)) L from ki_in (by omega) (by omega)) dL_law_245 ?_
      rw [show xs (nI ((6 * i) + 2)).toNatClampNeg = a2 from (congrArg xs (ki_cl (by omega))).trans ea2.symm]
      refine lv_aload_n hx hb dL_law_246 rfl (lv_at hl 6 rfl) ?_
      refine lv_iload hx hb dL_law_247 (lv_at hl 1 rfl) ?_
      refine lv_iconst (v := 3) hx hb dL_law_249 (by decide) ?_
      refine lv_iadd hx hb dL_law_250 ?_
      rw [show ((nI (6 * i)) + 3 : Int32) = nI ((6 * i) + 3) from nI_add (6 * i) 3]
      refine va_sld hx hb hX hbl hbA hS (show vp_in (nI ((6 * i) + 3)) L from ki_in (by omega) (by omega)) dL_law_251 ?_
      rw [show xs (nI ((6 * i) + 3)).toNatClampNeg = a3 from (congrArg xs (ki_cl (by omega))).trans ea3.symm]
      refine lv_if_eq (tgt := 259) hx hb dL_law_252 (by decide) (fun c_3 => ?_) (fun c_3 => ?_)
      · refine lv_iconst (v := 0) hx hb dL_law_259 (by decide) ?_
        refine kj_i (pmM _ _ _ _) (va_runV (As := [.int a1, .int a2, .int 0]) (rest := []) ⟨hx, hb, hml, hown, htT⟩ (m_add_1 l D cA _ am r M a1 a2 0 (kIn_out0.mpr h1)) (cwV 3 htT (kg_V m_ml_L_129 m_im_X6_add m_sl_X6_add m_in_X6 m_cd_X6_add) rfl rfl rfl (by decide +kernel) ⟨Nat.le_of_ble_eq_true rfl, Nat.le_of_ble_eq_true rfl⟩) (kj_V (pmM _ _ _ _) hK hP hD hTB (kj_rm (pmM _ _ _ _) hK hP)) rfl rfl hl.1 rfl (lv_room (Nat.le_of_ble_eq_true rfl)) dL_law_260 ⟨(by show _ ≤ 601024; omega), (by show _ ≤ 7293034; omega)⟩) hP hD hS hA (fun r_4 x_4 H locs hq_4 hP hD hS => ?_)
        have hP := kj_P (pmM _ _ _ _).symm hP
        have hD := kj_D (pmM _ _ _ _).symm hD
        rw [hq_4.1]
        rw [hq_4.2] at hP hD
        refine lv_istore (lv' := [(7, .int 0), (6, .int 1), (5, .int (nI (6 * i))), (4, .ref qd), (3, .ref qo), (2, .ref am), (1, .ref x), (0, .ref b)]) hx hb dL_law_263 hl (by decide) rfl (fun ls hl => ?_)
        refine lv_goto (tgt := 1750) hx hb dL_law_265 (by decide) ?_
        refine W.widen (k := c0 + 20) (n := s0 + 400) (by omega) (by omega) ?_
        exact hnext _ (mS (mS M 0 0) 0 1) _ _ _ _ _ _ _ _ _ _ hd0 h ((hI.iS (k := 0) (v := 0) (by decide) (by decide)).iS (by decide) (by decide)) (hL9.m eqM.rf.s0.s0) (hY.of rfl) (e1) (e2) hP hD hS (lv_sub hl [2, 3, 4, 5, 6, 7] rfl)
      · exact absurd c_1 c_3
    · rw [er]
      rw [eS] at hP hD
      refine lv_istore (lv' := [(6, .int 1), (5, .int (nI (6 * i))), (4, .ref qd), (3, .ref qo), (2, .ref am), (1, .ref x), (0, .ref b)]) hx hb dL_law_231 hl (by decide) rfl (fun ls hl => ?_)
      refine lv_aload_n hx hb dL_law_233 rfl (lv_at hl 4 rfl) ?_
      refine lv_aload_n hx hb dL_law_234 rfl (lv_at hl 6 rfl) ?_
      refine lv_iload hx hb dL_law_235 (lv_at hl 1 rfl) ?_
      refine lv_iconst (v := 1) hx hb dL_law_237 (by decide) ?_
      refine lv_iadd hx hb dL_law_238 ?_
      rw [show ((nI (6 * i)) + 1 : Int32) = nI ((6 * i) + 1) from nI_add (6 * i) 1]
      refine va_sld hx hb hX hbl hbA hS (show vp_in (nI ((6 * i) + 1)) L from ki_in (by omega) (by omega)) dL_law_239 ?_
      rw [show xs (nI ((6 * i) + 1)).toNatClampNeg = a1 from (congrArg xs (ki_cl (by omega))).trans ea1.symm]
      refine lv_aload_n hx hb dL_law_240 rfl (lv_at hl 6 rfl) ?_
      refine lv_iload hx hb dL_law_241 (lv_at hl 1 rfl) ?_
      refine lv_iconst (v := 2) hx hb dL_law_243 (by decide) ?_
      refine lv_iadd hx hb dL_law_244 ?_
      rw [show ((nI (6 * i)) + 2 : Int32) = nI ((6 * i) + 2) from nI_add (6 * i) 2]
      refine va_sld hx hb hX hbl hbA hS (show vp_in (nI ((6 * i) + 2)) L from ki_in (by omega) (by omega)) dL_law_245 ?_
      rw [show xs (nI ((6 * i) + 2)).toNatClampNeg = a2 from (congrArg xs (ki_cl (by omega))).trans ea2.symm]
      refine lv_aload_n hx hb dL_law_246 rfl (lv_at hl 6 rfl) ?_
      refine lv_iload hx hb dL_law_247 (lv_at hl 1 rfl) ?_
      refine lv_iconst (v := 3) hx hb dL_law_249 (by decide) ?_
      refine lv_iadd hx hb dL_law_250 ?_
      rw [show ((nI (6 * i)) + 3 : Int32) = nI ((6 * i) + 3) from nI_add (6 * i) 3]
      refine va_sld hx hb hX hbl hbA hS (show vp_in (nI ((6 * i) + 3)) L from ki_in (by omega) (by omega)) dL_law_251 ?_
      rw [show xs (nI ((6 * i) + 3)).toNatClampNeg = a3 from (congrArg xs (ki_cl (by omega))).trans ea3.symm]
      refine lv_if_eq (tgt := 259) hx hb dL_law_252 (by decide) (fun c_5 => ?_) (fun c_5 => ?_)
      · refine lv_iconst (v := 0) hx hb dL_law_259 (by decide) ?_
        refine kj_i (pmM _ _ _ _) (va_runV (As := [.int a1, .int a2, .int 0]) (rest := []) ⟨hx, hb, hml, hown, htT⟩ (m_add_2 l D cA _ am r M a1 a2 0 (kIn_out.mpr h1) (kIn_out0.mpr h2)) (cwV 3 htT (kg_V m_ml_L_129 m_im_X6_add m_sl_X6_add m_in_X6 m_cd_X6_add) rfl rfl rfl (by decide +kernel) ⟨Nat.le_of_ble_eq_true rfl, Nat.le_of_ble_eq_true rfl⟩) (kj_V (pmM _ _ _ _) hK hP hD hTB (kj_rm (pmM _ _ _ _) hK hP)) rfl rfl hl.1 rfl (lv_room (Nat.le_of_ble_eq_true rfl)) dL_law_260 ⟨(by show _ ≤ 601024; omega), (by show _ ≤ 7293034; omega)⟩) hP hD hS hA (fun r_6 x_6 H locs hq_6 hP hD hS => ?_)
        have hP := kj_P (pmM _ _ _ _).symm hP
        have hD := kj_D (pmM _ _ _ _).symm hD
        rw [hq_6.1]
        rw [hq_6.2] at hP hD
        refine lv_istore (lv' := [(7, .int 0), (6, .int 1), (5, .int (nI (6 * i))), (4, .ref qd), (3, .ref qo), (2, .ref am), (1, .ref x), (0, .ref b)]) hx hb dL_law_263 hl (by decide) rfl (fun ls hl => ?_)
        refine lv_goto (tgt := 1750) hx hb dL_law_265 (by decide) ?_
        refine W.widen (k := c0 + 20) (n := s0 + 400) (by omega) (by omega) ?_
        exact hnext _ (mS (mS M 0 0) 0 1) _ _ _ _ _ _ _ _ _ _ hd0 h ((hI.iS (k := 0) (v := 0) (by decide) (by decide)).iS (by decide) (by decide)) (hL9.m eqM.rf.s0.s0) (hY.of rfl) (e1) (e2) hP hD hS (lv_sub hl [2, 3, 4, 5, 6, 7] rfl)
      · exact absurd c_1 c_5
    · rw [er]
      rw [eS] at hP hD
      refine lv_istore (lv' := [(6, .int 2), (5, .int (nI (6 * i))), (4, .ref qd), (3, .ref qo), (2, .ref am), (1, .ref x), (0, .ref b)]) hx hb dL_law_231 hl (by decide) rfl (fun ls hl => ?_)
      refine lv_aload_n hx hb dL_law_233 rfl (lv_at hl 4 rfl) ?_
      refine lv_aload_n hx hb dL_law_234 rfl (lv_at hl 6 rfl) ?_
      refine lv_iload hx hb dL_law_235 (lv_at hl 1 rfl) ?_
      refine lv_iconst (v := 1) hx hb dL_law_237 (by decide) ?_
      refine lv_iadd hx hb dL_law_238 ?_
      rw [show ((nI (6 * i)) + 1 : Int32) = nI ((6 * i) + 1) from nI_add (6 * i) 1]
      refine va_sld hx hb hX hbl hbA hS (show vp_in (nI ((6 * i) + 1)) L from ki_in (by omega) (by omega)) dL_law_239 ?_
      rw [show xs (nI ((6 * i) + 1)).toNatClampNeg = a1 from (congrArg xs (ki_cl (by omega))).trans ea1.symm]
      refine lv_aload_n hx hb dL_law_240 rfl (lv_at hl 6 rfl) ?_
      refine lv_iload hx hb dL_law_241 (lv_at hl 1 rfl) ?_
      refine lv_iconst (v := 2) hx hb dL_law_243 (by decide) ?_
      refine lv_iadd hx hb dL_law_244 ?_
      rw [show ((nI (6 * i)) + 2 : Int32) = nI ((6 * i) + 2) from nI_add (6 * i) 2]
      refine va_sld hx hb hX hbl hbA hS (show vp_in (nI ((6 * i) + 2)) L from ki_in (by omega) (by omega)) dL_law_245 ?_
      rw [show xs (nI ((6 * i) + 2)).toNatClampNeg = a2 from (congrArg xs (ki_cl (by omega))).trans ea2.symm]
      refine lv_aload_n hx hb dL_law_246 rfl (lv_at hl 6 rfl) ?_
      refine lv_iload hx hb dL_law_247 (lv_at hl 1 rfl) ?_
      refine lv_iconst (v := 3) hx hb dL_law_249 (by decide) ?_
      refine lv_iadd hx hb dL_law_250 ?_
      rw [show ((nI (6 * i)) + 3 : Int32) = nI ((6 * i) + 3) from nI_add (6 * i) 3]
      refine va_sld hx hb hX hbl hbA hS (show vp_in (nI ((6 * i) + 3)) L from ki_in (by omega) (by omega)) dL_law_251 ?_
      rw [show xs (nI ((6 * i) + 3)).toNatClampNeg = a3 from (congrArg xs (ki_cl (by omega))).trans ea3.symm]
      refine lv_if_eq (tgt := 259) hx hb dL_law_252 (by decide) (fun c_7 => ?_) (fun c_7 => ?_)
      · refine lv_iconst (v := 0) hx hb dL_law_259 (by decide) ?_
        refine kj_i (pmM _ _ _ _) (va_runV (As := [.int a1, .int a2, .int 0]) (rest := []) ⟨hx, hb, hml, hown, htT⟩ (m_add_full l D cA _ am r M n hn8 hI.h3 a1 a2 0 (Or.inl rfl) (kIn_out.mpr h1) (kIn_out.mpr h2)) (cwV 3 htT (kg_V m_ml_L_129 m_im_X6_add m_sl_X6_add m_in_X6 m_cd_X6_add) rfl rfl rfl (by decide +kernel) ⟨Nat.le_of_ble_eq_true rfl, Nat.le_of_ble_eq_true rfl⟩) (kj_V (pmM _ _ _ _) hK hP hD hTB (kj_rm (pmM _ _ _ _) hK hP)) rfl rfl hl.1 rfl (lv_room (Nat.le_of_ble_eq_true rfl)) dL_law_260 ⟨(by show _ ≤ 601024; omega), (by show _ ≤ 7293034; omega)⟩) hP hD hS hA (fun r_8 x_8 H locs hq_8 hP hD hS => ?_)
        have hP := kj_P (pmM _ _ _ _).symm hP
        have hD := kj_D (pmM _ _ _ _).symm hD
        rw [hq_8.1]
        rw [hq_8.2] at hP hD
        refine lv_istore (lv' := [(7, .int 0), (6, .int 2), (5, .int (nI (6 * i))), (4, .ref qd), (3, .ref qo), (2, .ref am), (1, .ref x), (0, .ref b)]) hx hb dL_law_263 hl (by decide) rfl (fun ls hl => ?_)
        refine lv_goto (tgt := 1750) hx hb dL_law_265 (by decide) ?_
        refine W.widen (k := c0 + 20) (n := s0 + 400) (by omega) (by omega) ?_
        exact hnext _ (mS (mS M 0 0) 0 2) _ _ _ _ _ _ _ _ _ _ hd0 h ((hI.iS (k := 0) (v := 0) (by decide) (by decide)).iS (by decide) (by decide)) (hL9.m eqM.rf.s0.s0) (hY.of rfl) (e1) (e2) hP hD hS (lv_sub hl [2, 3, 4, 5, 6, 7] rfl)
      · exact absurd c_1 c_7
    · rw [er]
      obtain ⟨T, q, eX, hE, hqT, hsT, hgR, g0, gN, gw, hw, gp, hr, g7⟩ := add_facts hp
      rw [efo] at hP hD
      refine lv_istore (lv' := [(6, .int 0), (5, .int (nI (6 * i))), (4, .ref qd), (3, .ref qo), (2, .ref am), (1, .ref x), (0, .ref b)]) hx hb dL_law_231 hl (by decide) rfl (fun ls hl => ?_)
      refine lv_aload_n hx hb dL_law_233 rfl (lv_at hl 4 rfl) ?_
      refine lv_aload_n hx hb dL_law_234 rfl (lv_at hl 6 rfl) ?_
      refine lv_iload hx hb dL_law_235 (lv_at hl 1 rfl) ?_
      refine lv_iconst (v := 1) hx hb dL_law_237 (by decide) ?_
      refine lv_iadd hx hb dL_law_238 ?_
      rw [show ((nI (6 * i)) + 1 : Int32) = nI ((6 * i) + 1) from nI_add (6 * i) 1]
      refine va_sld hx hb hX hbl hbA hS (show vp_in (nI ((6 * i) + 1)) L from ki_in (by omega) (by omega)) dL_law_239 ?_
      rw [show xs (nI ((6 * i) + 1)).toNatClampNeg = a1 from (congrArg xs (ki_cl (by omega))).trans ea1.symm]
      refine lv_aload_n hx hb dL_law_240 rfl (lv_at hl 6 rfl) ?_
      refine lv_iload hx hb dL_law_241 (lv_at hl 1 rfl) ?_
      refine lv_iconst (v := 2) hx hb dL_law_243 (by decide) ?_
      refine lv_iadd hx hb dL_law_244 ?_
      rw [show ((nI (6 * i)) + 2 : Int32) = nI ((6 * i) + 2) from nI_add (6 * i) 2]
      refine va_sld hx hb hX hbl hbA hS (show vp_in (nI ((6 * i) + 2)) L from ki_in (by omega) (by omega)) dL_law_245 ?_
      rw [show xs (nI ((6 * i) + 2)).toNatClampNeg = a2 from (congrArg xs (ki_cl (by omega))).trans ea2.symm]
      refine lv_aload_n hx hb dL_law_246 rfl (lv_at hl 6 rfl) ?_
      refine lv_iload hx hb dL_law_247 (lv_at hl 1 rfl) ?_
      refine lv_iconst (v := 3) hx hb dL_law_249 (by decide) ?_
      refine lv_iadd hx hb dL_law_250 ?_
      rw [show ((nI (6 * i)) + 3 : Int32) = nI ((6 * i) + 3) from nI_add (6 * i) 3]
      refine va_sld hx hb hX hbl hbA hS (show vp_in (nI ((6 * i) + 3)) L from ki_in (by omega) (by omega)) dL_law_251 ?_
      rw [show xs (nI ((6 * i) + 3)).toNatClampNeg = a3 from (congrArg xs (ki_cl (by omega))).trans ea3.symm]
      refine lv_if_eq (tgt := 259) hx hb dL_law_252 (by decide) (fun c_9 => ?_) (fun c_9 => ?_)
      · refine lv_iconst (v := 0) hx hb dL_law_259 (by decide) ?_
        refine kj_i (pmM _ _ _ _) (va_runV (As := [.int a1, .int a2, .int 0]) (rest := []) ⟨hx, hb, hml, hown, htT⟩ (m_addn l D cA _ am r M n hn8 hI.h3 a1 a2 0 (Or.inl rfl) (kIn_out.mpr h1) (kIn_out.mpr h2)) (cwV 3 htT (kg_V m_ml_L_129 m_im_X6_add m_sl_X6_add m_in_X6 m_cd_X6_add) rfl rfl rfl (by decide +kernel) ⟨Nat.le_of_ble_eq_true rfl, Nat.le_of_ble_eq_true rfl⟩) (kj_V (pmM _ _ _ _) hK hP hD hTB (kj_rm (pmM _ _ _ _) hK hP)) rfl rfl hl.1 rfl (lv_room (Nat.le_of_ble_eq_true rfl)) dL_law_260 ⟨(by show _ ≤ 601024; omega), (by show _ ≤ 7293034; omega)⟩) hP hD hS hA (fun r_10 x_10 H locs hq_10 hP hD hS => ?_)
        have hP := kj_P (pmM _ _ _ _).symm hP
        have hD := kj_D (pmM _ _ _ _).symm hD
        rw [hq_10.1]
        rw [hq_10.2] at hP hD
        refine lv_istore (lv' := [(7, .int (nI n)), (6, .int 0), (5, .int (nI (6 * i))), (4, .ref qd), (3, .ref qo), (2, .ref am), (1, .ref x), (0, .ref b)]) hx hb dL_law_263 hl (by decide) rfl (fun ls hl => ?_)
        refine lv_goto (tgt := 1750) hx hb dL_law_265 (by decide) ?_
        refine W.widen (k := c0 + 20) (n := s0 + 400) (by omega) (by omega) ?_
        exact hnext _ (mS (mR (mR (mR (mR (mR (mR (mR (mR (mS M 0 0) 4 n a1) 5 n a2) 6 (4 * n) 1000) 7 n 1000) 9 n (M.1 1)) 10 n 0) 12 n (-1)) 15 n (-1)) 3 (nI (n + 1))) _ _ _ _ _ _ _ _ _ _ hd0 (h.add hn8 (by obtain ⟨vc, -, v1, v2⟩ := kIn_nat 2 4 (by omega) (by omega) (kIn_out.mpr h2); exact ⟨vc, v1, v2⟩) hp) (hI.add hn8 (kIn_out.mpr h1) (kIn_out.mpr h2)) (by rw [eX]; exact hL9.add1 h hI hn8 hE hqT hsT hgR gN gw hw gp hr g7 (fun j9 b4 b5 b6 b7 b9 b10 b12 b15 => (up_o b15).trans ((up_o b12).trans ((up_o b10).trans ((up_o b9).trans ((up_o b7).trans ((up_o b6).trans ((up_o b5).trans (up_o b4)))))))) (fun j9 => rfl) (fun j9 => rfl) (fun j9 => rfl) (fun j9 => rfl) (fun j9 => rfl) (fun j9 => rfl) (fun j9 => rfl) (fun j9 => rfl)) (hY.add rfl (hL9.2.2.1 n (Nat.le_refl _)).2.2.1) (e1) (e2) hP hD hS (lv_sub hl [2, 3, 4, 5, 6, 7] rfl)
      · exact absurd c_1 c_9
  · refine lv_iconst (v := 1) hx hb dL_law_222 (by decide) ?_
    refine lv_goto (tgt := 227) hx hb dL_law_223 (by decide) ?_
    refine lv_aload_n hx hb dL_law_227 rfl (lv_at hl 2 rfl) ?_
    refine kj_i (pmJ _ _ _ _) (vx_runSW (As := [.ref x, .int a1, .int a2, .int 1, .ref qo]) (rest := []) ⟨hx, hb, hml, hown, htT⟩ (w_add l hst D cA _ S x qo fo n na hh cc ar ak h a1 a2 1 (Or.inr rfl)) (vx_cwSW 5 htT (kg_SW m_ml_L_124 m_st_L_add m_in_L m_cd_L_add) rfl rfl rfl (by decide +kernel) ⟨Nat.le_of_ble_eq_true rfl, Nat.le_of_ble_eq_true rfl⟩) (kj_SX (pmJ _ _ _ _) hK hP hD hTB hTX hS hA) rfl rfl hl.1 rfl (lv_room (Nat.le_of_ble_eq_true rfl)) dL_law_228 ⟨(by show _ ≤ 601024; omega), (by show _ ≤ 7293034; omega)⟩) hP hD hS hA (fun r_11 x_11 H locs hq_11 hP hD hS => ?_)
    rw [List.append_assoc] at hP hD
    rcases hq_11 with ⟨er, h1 | ⟨h1, h2⟩, eS⟩ | ⟨er, h1, h2, hn8, eS⟩ | ⟨er, h1, h2, hn8, hp, efo⟩
    · rw [er]
      rw [eS] at hP hD
      refine lv_istore (lv' := [(6, .int 1), (5, .int (nI (6 * i))), (4, .ref qd), (3, .ref qo), (2, .ref am), (1, .ref x), (0, .ref b)]) hx hb dL_law_231 hl (by decide) rfl (fun ls hl => ?_)
      refine lv_aload_n hx hb dL_law_233 rfl (lv_at hl 4 rfl) ?_
      refine lv_aload_n hx hb dL_law_234 rfl (lv_at hl 6 rfl) ?_
      refine lv_iload hx hb dL_law_235 (lv_at hl 1 rfl) ?_
      refine lv_iconst (v := 1) hx hb dL_law_237 (by decide) ?_
      refine lv_iadd hx hb dL_law_238 ?_
      rw [show ((nI (6 * i)) + 1 : Int32) = nI ((6 * i) + 1) from nI_add (6 * i) 1]
      refine va_sld hx hb hX hbl hbA hS (show vp_in (nI ((6 * i) + 1)) L from ki_in (by omega) (by omega)) dL_law_239 ?_
      rw [show xs (nI ((6 * i) + 1)).toNatClampNeg = a1 from (congrArg xs (ki_cl (by omega))).trans ea1.symm]
      refine lv_aload_n hx hb dL_law_240 rfl (lv_at hl 6 rfl) ?_
      refine lv_iload hx hb dL_law_241 (lv_at hl 1 rfl) ?_
      refine lv_iconst (v := 2) hx hb dL_law_243 (by decide) ?_
      refine lv_iadd hx hb dL_law_244 ?_
      rw [show ((nI (6 * i)) + 2 : Int32) = nI ((6 * i) + 2) from nI_add (6 * i) 2]
      refine va_sld hx hb hX hbl hbA hS (show vp_in (nI ((6 * i) + 2)) L from ki_in (by omega) (by omega)) dL_law_245 ?_
      rw [show xs (nI ((6 * i) + 2)).toNatClampNeg = a2 from (congrArg xs (ki_cl (by omega))).trans ea2.symm]
      refine lv_aload_n hx hb dL_law_246 rfl (lv_at hl 6 rfl) ?_
      refine lv_iload hx hb dL_law_247 (lv_at hl 1 rfl) ?_
      refine lv_iconst (v := 3) hx hb dL_law_249 (by decide) ?_
      refine lv_iadd hx hb dL_law_250 ?_
      rw [show ((nI (6 * i)) + 3 : Int32) = nI ((6 * i) + 3) from nI_add (6 * i) 3]
      refine va_sld hx hb hX hbl hbA hS (show vp_in (nI ((6 * i) + 3)) L from ki_in (by omega) (by omega)) dL_law_251 ?_
      rw [show xs (nI ((6 * i) + 3)).toNatClampNeg = a3 from (congrArg xs (ki_cl (by omega))).trans ea3.symm]
      refine lv_if_eq (tgt := 259) hx hb dL_law_252 (by decide) (fun c_12 => ?_) (fun c_12 => ?_)
      · exact absurd c_12 c_1
      · refine lv_iconst (v := 1) hx hb dL_law_255 (by decide) ?_
        refine lv_goto (tgt := 260) hx hb dL_law_256 (by decide) ?_
        refine kj_i (pmM _ _ _ _) (va_runV (As := [.int a1, .int a2, .int 1]) (rest := []) ⟨hx, hb, hml, hown, htT⟩ (m_add_1 l D cA _ am r M a1 a2 1 (kIn_out0.mpr h1)) (cwV 3 htT (kg_V m_ml_L_129 m_im_X6_add m_sl_X6_add m_in_X6 m_cd_X6_add) rfl rfl rfl (by decide +kernel) ⟨Nat.le_of_ble_eq_true rfl, Nat.le_of_ble_eq_true rfl⟩) (kj_V (pmM _ _ _ _) hK hP hD hTB (kj_rm (pmM _ _ _ _) hK hP)) rfl rfl hl.1 rfl (lv_room (Nat.le_of_ble_eq_true rfl)) dL_law_260 ⟨(by show _ ≤ 601024; omega), (by show _ ≤ 7293034; omega)⟩) hP hD hS hA (fun r_13 x_13 H locs hq_13 hP hD hS => ?_)
        have hP := kj_P (pmM _ _ _ _).symm hP
        have hD := kj_D (pmM _ _ _ _).symm hD
        rw [hq_13.1]
        rw [hq_13.2] at hP hD
        refine lv_istore (lv' := [(7, .int 0), (6, .int 1), (5, .int (nI (6 * i))), (4, .ref qd), (3, .ref qo), (2, .ref am), (1, .ref x), (0, .ref b)]) hx hb dL_law_263 hl (by decide) rfl (fun ls hl => ?_)
        refine lv_goto (tgt := 1750) hx hb dL_law_265 (by decide) ?_
        refine W.widen (k := c0 + 20) (n := s0 + 400) (by omega) (by omega) ?_
        exact hnext _ (mS (mS M 0 0) 0 1) _ _ _ _ _ _ _ _ _ _ hd0 h ((hI.iS (k := 0) (v := 0) (by decide) (by decide)).iS (by decide) (by decide)) (hL9.m eqM.rf.s0.s0) (hY.of rfl) (e1) (e2) hP hD hS (lv_sub hl [2, 3, 4, 5, 6, 7] rfl)
    · rw [er]
      rw [eS] at hP hD
      refine lv_istore (lv' := [(6, .int 1), (5, .int (nI (6 * i))), (4, .ref qd), (3, .ref qo), (2, .ref am), (1, .ref x), (0, .ref b)]) hx hb dL_law_231 hl (by decide) rfl (fun ls hl => ?_)
      refine lv_aload_n hx hb dL_law_233 rfl (lv_at hl 4 rfl) ?_
      refine lv_aload_n hx hb dL_law_234 rfl (lv_at hl 6 rfl) ?_
      refine lv_iload hx hb dL_law_235 (lv_at hl 1 rfl) ?_
      refine lv_iconst (v := 1) hx hb dL_law_237 (by decide) ?_
      refine lv_iadd hx hb dL_law_238 ?_
      rw [show ((nI (6 * i)) + 1 : Int32) = nI ((6 * i) + 1) from nI_add (6 * i) 1]
      refine va_sld hx hb hX hbl hbA hS (show vp_in (nI ((6 * i) + 1)) L from ki_in (by omega) (by omega)) dL_law_239 ?_
      rw [show xs (nI ((6 * i) + 1)).toNatClampNeg = a1 from (congrArg xs (ki_cl (by omega))).trans ea1.symm]
      refine lv_aload_n hx hb dL_law_240 rfl (lv_at hl 6 rfl) ?_
      refine lv_iload hx hb dL_law_241 (lv_at hl 1 rfl) ?_
      refine lv_iconst (v := 2) hx hb dL_law_243 (by decide) ?_
      refine lv_iadd hx hb dL_law_244 ?_
      rw [show ((nI (6 * i)) + 2 : Int32) = nI ((6 * i) + 2) from nI_add (6 * i) 2]
      refine va_sld hx hb hX hbl hbA hS (show vp_in (nI ((6 * i) + 2)) L from ki_in (by omega) (by omega)) dL_law_245 ?_
      rw [show xs (nI ((6 * i) + 2)).toNatClampNeg = a2 from (congrArg xs (ki_cl (by omega))).trans ea2.symm]
      refine lv_aload_n hx hb dL_law_246 rfl (lv_at hl 6 rfl) ?_
      refine lv_iload hx hb dL_law_247 (lv_at hl 1 rfl) ?_
      refine lv_iconst (v := 3) hx hb dL_law_249 (by decide) ?_
      refine lv_iadd hx hb dL_law_250 ?_
      rw [show ((nI (6 * i)) + 3 : Int32) = nI ((6 * i) + 3) from nI_add (6 * i) 3]
      refine va_sld hx hb hX hbl hbA hS (show vp_in (nI ((6 * i) + 3)) L from ki_in (by omega) (by omega)) dL_law_251 ?_
      rw [show xs (nI ((6 * i) + 3)).toNatClampNeg = a3 from (congrArg xs (ki_cl (by omega))).trans ea3.symm]
      refine lv_if_eq (tgt := 259) hx hb dL_law_252 (by decide) (fun c_14 => ?_) (fun c_14 => ?_)
      · exact absurd c_14 c_1
      · refine lv_iconst (v := 1) hx hb dL_law_255 (by decide) ?_
        refine lv_goto (tgt := 260) hx hb dL_law_256 (by decide) ?_
        refine kj_i (pmM _ _ _ _) (va_runV (As := [.int a1, .int a2, .int 1]) (rest := []) ⟨hx, hb, hml, hown, htT⟩ (m_add_2 l D cA _ am r M a1 a2 1 (kIn_out.mpr h1) (kIn_out0.mpr h2)) (cwV 3 htT (kg_V m_ml_L_129 m_im_X6_add m_sl_X6_add m_in_X6 m_cd_X6_add) rfl rfl rfl (by decide +kernel) ⟨Nat.le_of_ble_eq_true rfl, Nat.le_of_ble_eq_true rfl⟩) (kj_V (pmM _ _ _ _) hK hP hD hTB (kj_rm (pmM _ _ _ _) hK hP)) rfl rfl hl.1 rfl (lv_room (Nat.le_of_ble_eq_true rfl)) dL_law_260 ⟨(by show _ ≤ 601024; omega), (by show _ ≤ 7293034; omega)⟩) hP hD hS hA (fun r_15 x_15 H locs hq_15 hP hD hS => ?_)
        have hP := kj_P (pmM _ _ _ _).symm hP
        have hD := kj_D (pmM _ _ _ _).symm hD
        rw [hq_15.1]
        rw [hq_15.2] at hP hD
        refine lv_istore (lv' := [(7, .int 0), (6, .int 1), (5, .int (nI (6 * i))), (4, .ref qd), (3, .ref qo), (2, .ref am), (1, .ref x), (0, .ref b)]) hx hb dL_law_263 hl (by decide) rfl (fun ls hl => ?_)
        refine lv_goto (tgt := 1750) hx hb dL_law_265 (by decide) ?_
        refine W.widen (k := c0 + 20) (n := s0 + 400) (by omega) (by omega) ?_
        exact hnext _ (mS (mS M 0 0) 0 1) _ _ _ _ _ _ _ _ _ _ hd0 h ((hI.iS (k := 0) (v := 0) (by decide) (by decide)).iS (by decide) (by decide)) (hL9.m eqM.rf.s0.s0) (hY.of rfl) (e1) (e2) hP hD hS (lv_sub hl [2, 3, 4, 5, 6, 7] rfl)
    · rw [er]
      rw [eS] at hP hD
      refine lv_istore (lv' := [(6, .int 2), (5, .int (nI (6 * i))), (4, .ref qd), (3, .ref qo), (2, .ref am), (1, .ref x), (0, .ref b)]) hx hb dL_law_231 hl (by decide) rfl (fun ls hl => ?_)
      refine lv_aload_n hx hb dL_law_233 rfl (lv_at hl 4 rfl) ?_
      refine lv_aload_n hx hb dL_law_234 rfl (lv_at hl 6 rfl) ?_
      refine lv_iload hx hb dL_law_235 (lv_at hl 1 rfl) ?_
      refine lv_iconst (v := 1) hx hb dL_law_237 (by decide) ?_
      refine lv_iadd hx hb dL_law_238 ?_
      rw [show ((nI (6 * i)) + 1 : Int32) = nI ((6 * i) + 1) from nI_add (6 * i) 1]
      refine va_sld hx hb hX hbl hbA hS (show vp_in (nI ((6 * i) + 1)) L from ki_in (by omega) (by omega)) dL_law_239 ?_
      rw [show xs (nI ((6 * i) + 1)).toNatClampNeg = a1 from (congrArg xs (ki_cl (by omega))).trans ea1.symm]
      refine lv_aload_n hx hb dL_law_240 rfl (lv_at hl 6 rfl) ?_
      refine lv_iload hx hb dL_law_241 (lv_at hl 1 rfl) ?_
      refine lv_iconst (v := 2) hx hb dL_law_243 (by decide) ?_
      refine lv_iadd hx hb dL_law_244 ?_
      rw [show ((nI (6 * i)) + 2 : Int32) = nI ((6 * i) + 2) from nI_add (6 * i) 2]
      refine va_sld hx hb hX hbl hbA hS (show vp_in (nI ((6 * i) + 2)) L from ki_in (by omega) (by omega)) dL_law_245 ?_
      rw [show xs (nI ((6 * i) + 2)).toNatClampNeg = a2 from (congrArg xs (ki_cl (by omega))).trans ea2.symm]
      refine lv_aload_n hx hb dL_law_246 rfl (lv_at hl 6 rfl) ?_
      refine lv_iload hx hb dL_law_247 (lv_at hl 1 rfl) ?_
      refine lv_iconst (v := 3) hx hb dL_law_249 (by decide) ?_
      refine lv_iadd hx hb dL_law_250 ?_
      rw [show ((nI (6 * i)) + 3 : Int32) = nI ((6 * i) + 3) from nI_add (6 * i) 3]
      refine va_sld hx hb hX hbl hbA hS (show vp_in (nI ((6 * i) + 3)) L from ki_in (by omega) (by omega)) dL_law_251 ?_
      rw [show xs (nI ((6 * i) + 3)).toNatClampNeg = a3 from (congrArg xs (ki_cl (by omega))).trans ea3.symm]
      refine lv_if_eq (tgt := 259) hx hb dL_law_252 (by decide) (fun c_16 => ?_) (fun c_16 => ?_)
      · exact absurd c_16 c_1
      · refine lv_iconst (v := 1) hx hb dL_law_255 (by decide) ?_
        refine lv_goto (tgt := 260) hx hb dL_law_256 (by decide) ?_
        refine kj_i (pmM _ _ _ _) (va_runV (As := [.int a1, .int a2, .int 1]) (rest := []) ⟨hx, hb, hml, hown, htT⟩ (m_add_full l D cA _ am r M n hn8 hI.h3 a1 a2 1 (Or.inr rfl) (kIn_out.mpr h1) (kIn_out.mpr h2)) (cwV 3 htT (kg_V m_ml_L_129 m_im_X6_add m_sl_X6_add m_in_X6 m_cd_X6_add) rfl rfl rfl (by decide +kernel) ⟨Nat.le_of_ble_eq_true rfl, Nat.le_of_ble_eq_true rfl⟩) (kj_V (pmM _ _ _ _) hK hP hD hTB (kj_rm (pmM _ _ _ _) hK hP)) rfl rfl hl.1 rfl (lv_room (Nat.le_of_ble_eq_true rfl)) dL_law_260 ⟨(by show _ ≤ 601024; omega), (by show _ ≤ 7293034; omega)⟩) hP hD hS hA (fun r_17 x_17 H locs hq_17 hP hD hS => ?_)
        have hP := kj_P (pmM _ _ _ _).symm hP
        have hD := kj_D (pmM _ _ _ _).symm hD
        rw [hq_17.1]
        rw [hq_17.2] at hP hD
        refine lv_istore (lv' := [(7, .int 0), (6, .int 2), (5, .int (nI (6 * i))), (4, .ref qd), (3, .ref qo), (2, .ref am), (1, .ref x), (0, .ref b)]) hx hb dL_law_263 hl (by decide) rfl (fun ls hl => ?_)
        refine lv_goto (tgt := 1750) hx hb dL_law_265 (by decide) ?_
        refine W.widen (k := c0 + 20) (n := s0 + 400) (by omega) (by omega) ?_
        exact hnext _ (mS (mS M 0 0) 0 2) _ _ _ _ _ _ _ _ _ _ hd0 h ((hI.iS (k := 0) (v := 0) (by decide) (by decide)).iS (by decide) (by decide)) (hL9.m eqM.rf.s0.s0) (hY.of rfl) (e1) (e2) hP hD hS (lv_sub hl [2, 3, 4, 5, 6, 7] rfl)
    · rw [er]
      obtain ⟨T, q, eX, hE, hqT, hsT, hgR, g0, gN, gw, hw, gp, hr, g7⟩ := add_facts hp
      rw [efo] at hP hD
      refine lv_istore (lv' := [(6, .int 0), (5, .int (nI (6 * i))), (4, .ref qd), (3, .ref qo), (2, .ref am), (1, .ref x), (0, .ref b)]) hx hb dL_law_231 hl (by decide) rfl (fun ls hl => ?_)
      refine lv_aload_n hx hb dL_law_233 rfl (lv_at hl 4 rfl) ?_
      refine lv_aload_n hx hb dL_law_234 rfl (lv_at hl 6 rfl) ?_
      refine lv_iload hx hb dL_law_235 (lv_at hl 1 rfl) ?_
      refine lv_iconst (v := 1) hx hb dL_law_237 (by decide) ?_
      refine lv_iadd hx hb dL_law_238 ?_
      rw [show ((nI (6 * i)) + 1 : Int32) = nI ((6 * i) + 1) from nI_add (6 * i) 1]
      refine va_sld hx hb hX hbl hbA hS (show vp_in (nI ((6 * i) + 1)) L from ki_in (by omega) (by omega)) dL_law_239 ?_
      rw [show xs (nI ((6 * i) + 1)).toNatClampNeg = a1 from (congrArg xs (ki_cl (by omega))).trans ea1.symm]
      refine lv_aload_n hx hb dL_law_240 rfl (lv_at hl 6 rfl) ?_
      refine lv_iload hx hb dL_law_241 (lv_at hl 1 rfl) ?_
      refine lv_iconst (v := 2) hx hb dL_law_243 (by decide) ?_
      refine lv_iadd hx hb dL_law_244 ?_
      rw [show ((nI (6 * i)) + 2 : Int32) = nI ((6 * i) + 2) from nI_add (6 * i) 2]
      refine va_sld hx hb hX hbl hbA hS (show vp_in (nI ((6 * i) + 2)) L from ki_in (by omega) (by omega)) dL_law_245 ?_
      rw [show xs (nI ((6 * i) + 2)).toNatClampNeg = a2 from (congrArg xs (ki_cl (by omega))).trans ea2.symm]
      refine lv_aload_n hx hb dL_law_246 rfl (lv_at hl 6 rfl) ?_
      refine lv_iload hx hb dL_law_247 (lv_at hl 1 rfl) ?_
      refine lv_iconst (v := 3) hx hb dL_law_249 (by decide) ?_
      refine lv_iadd hx hb dL_law_250 ?_
      rw [show ((nI (6 * i)) + 3 : Int32) = nI ((6 * i) + 3) from nI_add (6 * i) 3]
      refine va_sld hx hb hX hbl hbA hS (show vp_in (nI ((6 * i) + 3)) L from ki_in (by omega) (by omega)) dL_law_251 ?_
      rw [show xs (nI ((6 * i) + 3)).toNatClampNeg = a3 from (congrArg xs (ki_cl (by omega))).trans ea3.symm]
      refine lv_if_eq (tgt := 259) hx hb dL_law_252 (by decide) (fun c_18 => ?_) (fun c_18 => ?_)
      · exact absurd c_18 c_1
      · refine lv_iconst (v := 1) hx hb dL_law_255 (by decide) ?_
        refine lv_goto (tgt := 260) hx hb dL_law_256 (by decide) ?_
        refine kj_i (pmM _ _ _ _) (va_runV (As := [.int a1, .int a2, .int 1]) (rest := []) ⟨hx, hb, hml, hown, htT⟩ (m_addn l D cA _ am r M n hn8 hI.h3 a1 a2 1 (Or.inr rfl) (kIn_out.mpr h1) (kIn_out.mpr h2)) (cwV 3 htT (kg_V m_ml_L_129 m_im_X6_add m_sl_X6_add m_in_X6 m_cd_X6_add) rfl rfl rfl (by decide +kernel) ⟨Nat.le_of_ble_eq_true rfl, Nat.le_of_ble_eq_true rfl⟩) (kj_V (pmM _ _ _ _) hK hP hD hTB (kj_rm (pmM _ _ _ _) hK hP)) rfl rfl hl.1 rfl (lv_room (Nat.le_of_ble_eq_true rfl)) dL_law_260 ⟨(by show _ ≤ 601024; omega), (by show _ ≤ 7293034; omega)⟩) hP hD hS hA (fun r_19 x_19 H locs hq_19 hP hD hS => ?_)
        have hP := kj_P (pmM _ _ _ _).symm hP
        have hD := kj_D (pmM _ _ _ _).symm hD
        rw [hq_19.1]
        rw [hq_19.2] at hP hD
        refine lv_istore (lv' := [(7, .int (nI n)), (6, .int 0), (5, .int (nI (6 * i))), (4, .ref qd), (3, .ref qo), (2, .ref am), (1, .ref x), (0, .ref b)]) hx hb dL_law_263 hl (by decide) rfl (fun ls hl => ?_)
        refine lv_goto (tgt := 1750) hx hb dL_law_265 (by decide) ?_
        refine W.widen (k := c0 + 20) (n := s0 + 400) (by omega) (by omega) ?_
        exact hnext _ (mS (mR (mR (mR (mR (mR (mR (mR (mR (mS M 0 0) 4 n a1) 5 n a2) 6 (4 * n) 1000) 7 n 1000) 9 n (M.1 1)) 10 n 1) 12 n (-1)) 15 n (-1)) 3 (nI (n + 1))) _ _ _ _ _ _ _ _ _ _ hd0 (h.add hn8 (by obtain ⟨vc, -, v1, v2⟩ := kIn_nat 2 4 (by omega) (by omega) (kIn_out.mpr h2); exact ⟨vc, v1, v2⟩) hp) (hI.add hn8 (kIn_out.mpr h1) (kIn_out.mpr h2)) (by rw [eX]; exact hL9.add1 h hI hn8 hE hqT hsT hgR gN gw hw gp hr g7 (fun j9 b4 b5 b6 b7 b9 b10 b12 b15 => (up_o b15).trans ((up_o b12).trans ((up_o b10).trans ((up_o b9).trans ((up_o b7).trans ((up_o b6).trans ((up_o b5).trans (up_o b4)))))))) (fun j9 => rfl) (fun j9 => rfl) (fun j9 => rfl) (fun j9 => rfl) (fun j9 => rfl) (fun j9 => rfl) (fun j9 => rfl) (fun j9 => rfl)) (hY.add rfl (hL9.2.2.1 n (Nat.le_refl _)).2.2.1) (e1) (e2) hP hD hS (lv_sub hl [2, 3, 4, 5, 6, 7] rfl)

set_option maxRecDepth 100000 in
set_option maxHeartbeats 4000000 in
theorem law_weigh (l : Launch) (hst : l.stackTraces = false) {p : Program} {e : Env} {s : State} {m : MethodId} {below : List Frame} {meth : Method} {c : Code} {b L : Nat} {xs : Nat → Int32} (C0 : lw_At p s m meth c b L xs) {D : va_G} {cA : Nat → ClassId} (hK : va_K D vwCl (ty6 cA) s) (hTB : TBok s) (hTX : TXok (fun q : Nat => s.heap.size ≤ q) s) {x ar ak qo qd am : Nat} {r : Nat → Nat} {c0 s0 i : Nat} (hc0 : c0 + 20 ≤ 601024) (hs0 : s0 + 400 ≤ 7293034) (hi : 6 * i + 6 ≤ L) (hL : L ≤ 3072) (hnext : ∀ (S : Pool) (M : MSt) (fo : Nat → Int64) (fd : Nat → UInt64) (n na : Nat) (hh cc : Int32) (H : Heap) (locs : List Loc) (ls : Array Slot) (d : Drawn), s.drawn.sameBut d lw_cs → INVC n na hh cc S x ar ak → INVR n na M → REL True n na S M ar → LAY n M → M.1 1 = cc → M.1 2 = hh → va_P D vwCl (LW cA S qo fo qd fd am r M) H → va_D (fun q : Nat => s.heap.size ≤ q) (LW cA S qo fo qd fd am r M) → va_S (fun q : Nat => s.heap.size ≤ q) s.heap H locs → lv_has ls 9 [(5, .int (nI (6 * i))), (4, .ref qd), (3, .ref qo), (2, .ref am), (1, .ref x), (0, .ref b)] → W p l e room_1 (s.setDrawn d) m #[Value.ref b] below meth c H locs (c0 + 20) (s0 + 400) (lw_Z below #[Value.ref b] s) (F0 m 1750 ls [])) {S : Pool} {M : MSt} {fo : Nat → Int64} {fd : Nat → UInt64} {n na : Nat} {hh cc : Int32} {H : Heap} {locs : List Loc} {ls : Array Slot} {d : Drawn} (hd0 : s.drawn.sameBut d lw_cs) (h : INVC n na hh cc S x ar ak) (hI : INVR n na M) (hL9 : REL True n na S M ar) (hY : LAY n M) (e1 : M.1 1 = cc) (e2 : M.1 2 = hh) (hP : va_P D vwCl (LW cA S qo fo qd fd am r M) H) (hD : va_D (fun q : Nat => s.heap.size ≤ q) (LW cA S qo fo qd fd am r M)) (hS : va_S (fun q : Nat => s.heap.size ≤ q) s.heap H locs) (hl : lv_has ls 9 [(5, .int (nI (6 * i))), (4, .ref qd), (3, .ref qo), (2, .ref am), (1, .ref x), (0, .ref b)]) : W p l e room_1 (s.setDrawn d) m #[Value.ref b] below meth c H locs c0 s0 (lw_Z below #[Value.ref b] s) (F0 m 268 ls []) := by
  obtain ⟨hx, hb, hr, hml, hown, hts, hX, hbl, hlocks, hgv⟩ := id C0
  have hA : ∀ q : Nat, s.heap.size ≤ q → (fun q : Nat => s.heap.size ≤ q) q := fun _ h => h
  have hbA : ¬ (fun q : Nat => s.heap.size ≤ q) b := Nat.not_le.mpr hbl
  obtain ⟨a1, ea1⟩ : ∃ z, z = xs (6 * i + 1) := ⟨_, rfl⟩
  obtain ⟨a2, ea2⟩ : ∃ z, z = xs (6 * i + 2) := ⟨_, rfl⟩
  obtain ⟨a3, ea3⟩ : ∃ z, z = xs (6 * i + 3) := ⟨_, rfl⟩
  obtain ⟨a4, ea4⟩ : ∃ z, z = xs (6 * i + 4) := ⟨_, rfl⟩
  obtain ⟨a5, ea5⟩ : ∃ z, z = xs (6 * i + 5) := ⟨_, rfl⟩
  have htT0 : ∀ w ∈ TT, w.before _ s = true := fun w h => hts w (tt_in h)
  have hTB0 := hTB
  have hK0 := hK
  have hown0 : s.vm.findClass RL = some m.cls := hown
  have hTX0 := hTX
  have hX0 := hX
  have htT : ∀ w ∈ TT, w.before _ (s.setDrawn d) = true := dr_words htT0 d
  have hTB : TBok (s.setDrawn d) := TBok.same (u := s) (U := s.setDrawn d) rfl (Vm.Alike.refl s.vm) hTB0
  have hK : va_K D vwCl (ty6 cA) (s.setDrawn d) := hK0
  have hown : (s.setDrawn d).vm.findClass RL = some m.cls := hown0
  have hTX : TXok (fun q : Nat => s.heap.size ≤ q) (s.setDrawn d) := hTX0.dr d
  have hX : va_X b L xs (s.setDrawn d) (s.setDrawn d).heap := hX0
  refine lv_aload_n hx hb dL_law_268 rfl (lv_at hl 4 rfl) ?_
  refine lv_aload_n hx hb dL_law_269 rfl (lv_at hl 5 rfl) ?_
  refine lv_iload hx hb dL_law_270 (lv_at hl 0 rfl) ?_
  refine lv_iconst (v := 1) hx hb dL_law_272 (by decide) ?_
  refine lv_iadd hx hb dL_law_273 ?_
  rw [show ((nI (6 * i)) + 1 : Int32) = nI ((6 * i) + 1) from nI_add (6 * i) 1]
  refine va_sld hx hb hX hbl hbA hS (show vp_in (nI ((6 * i) + 1)) L from ki_in (by omega) (by omega)) dL_law_274 ?_
  rw [show xs (nI ((6 * i) + 1)).toNatClampNeg = a1 from (congrArg xs (ki_cl (by omega))).trans ea1.symm]
  refine lv_aload_n hx hb dL_law_275 rfl (lv_at hl 5 rfl) ?_
  refine lv_iload hx hb dL_law_276 (lv_at hl 0 rfl) ?_
  refine lv_iconst (v := 2) hx hb dL_law_278 (by decide) ?_
  refine lv_iadd hx hb dL_law_279 ?_
  rw [show ((nI (6 * i)) + 2 : Int32) = nI ((6 * i) + 2) from nI_add (6 * i) 2]
  refine va_sld hx hb hX hbl hbA hS (show vp_in (nI ((6 * i) + 2)) L from ki_in (by omega) (by omega)) dL_law_280 ?_
  rw [show xs (nI ((6 * i) + 2)).toNatClampNeg = a2 from (congrArg xs (ki_cl (by omega))).trans ea2.symm]
  refine lv_aload_n hx hb dL_law_281 rfl (lv_at hl 5 rfl) ?_
  refine lv_iload hx hb dL_law_282 (lv_at hl 0 rfl) ?_
  refine lv_iconst (v := 3) hx hb dL_law_284 (by decide) ?_
  refine lv_iadd hx hb dL_law_285 ?_
  rw [show ((nI (6 * i)) + 3 : Int32) = nI ((6 * i) + 3) from nI_add (6 * i) 3]
  refine va_sld hx hb hX hbl hbA hS (show vp_in (nI ((6 * i) + 3)) L from ki_in (by omega) (by omega)) dL_law_286 ?_
  rw [show xs (nI ((6 * i) + 3)).toNatClampNeg = a3 from (congrArg xs (ki_cl (by omega))).trans ea3.symm]
  refine lv_aload_n hx hb dL_law_287 rfl (lv_at hl 2 rfl) ?_
  refine kj_i (pmJ _ _ _ _) (vx_runSW (As := [.ref x, .int a1, .int a2, .int a3, .ref qo]) (rest := []) ⟨hx, hb, hml, hown, htT⟩ (w_weigh l hst D cA _ S x qo fo n na hh cc ar ak h a1 a2 a3) (vx_cwSW 5 htT (kg_SW m_ml_L_130 m_st_L_weigh m_in_L m_cd_L_weigh) rfl rfl rfl (by decide +kernel) ⟨Nat.le_of_ble_eq_true rfl, Nat.le_of_ble_eq_true rfl⟩) (kj_SX (pmJ _ _ _ _) hK hP hD hTB hTX hS hA) rfl rfl hl.1 rfl (lv_room (Nat.le_of_ble_eq_true rfl)) dL_law_288 ⟨(by show _ ≤ 601024; omega), (by show _ ≤ 7293034; omega)⟩) hP hD hS hA (fun r_1 x_1 H locs hq_1 hP hD hS => ?_)
  rw [List.append_assoc] at hP hD
  rcases hq_1 with ⟨er, hk0, eS⟩ | ⟨er, j, a, hjn, ej, hja, hv, eS⟩ | ⟨er, j, a, hjn, ej, hja, e20, hv, eS⟩ | ⟨er, j, a, v, hjn, ej, hja, hv4, hv0, e2v, hv, h1, eS⟩ | ⟨er, j, a, v, hjn, ej, hja, hv4, hv0, e2v, hv, h1, hlf, eS⟩ | ⟨er, j, a, v, hjn, ej, hja, hv4, hv0, e2v, hv, h1, hlf, eS, efo⟩
  · rw [er]
    rw [eS] at hP hD
    refine lv_istore (lv' := [(6, .int 1), (5, .int (nI (6 * i))), (4, .ref qd), (3, .ref qo), (2, .ref am), (1, .ref x), (0, .ref b)]) hx hb dL_law_291 hl (by decide) rfl (fun ls hl => ?_)
    refine lv_aload_n hx hb dL_law_293 rfl (lv_at hl 4 rfl) ?_
    refine lv_aload_n hx hb dL_law_294 rfl (lv_at hl 6 rfl) ?_
    refine lv_iload hx hb dL_law_295 (lv_at hl 1 rfl) ?_
    refine lv_iconst (v := 1) hx hb dL_law_297 (by decide) ?_
    refine lv_iadd hx hb dL_law_298 ?_
    rw [show ((nI (6 * i)) + 1 : Int32) = nI ((6 * i) + 1) from nI_add (6 * i) 1]
    refine va_sld hx hb hX hbl hbA hS (show vp_in (nI ((6 * i) + 1)) L from ki_in (by omega) (by omega)) dL_law_299 ?_
    rw [show xs (nI ((6 * i) + 1)).toNatClampNeg = a1 from (congrArg xs (ki_cl (by omega))).trans ea1.symm]
    refine lv_aload_n hx hb dL_law_300 rfl (lv_at hl 6 rfl) ?_
    refine lv_iload hx hb dL_law_301 (lv_at hl 1 rfl) ?_
    refine lv_iconst (v := 2) hx hb dL_law_303 (by decide) ?_
    refine lv_iadd hx hb dL_law_304 ?_
    rw [show ((nI (6 * i)) + 2 : Int32) = nI ((6 * i) + 2) from nI_add (6 * i) 2]
    refine va_sld hx hb hX hbl hbA hS (show vp_in (nI ((6 * i) + 2)) L from ki_in (by omega) (by omega)) dL_law_305 ?_
    rw [show xs (nI ((6 * i) + 2)).toNatClampNeg = a2 from (congrArg xs (ki_cl (by omega))).trans ea2.symm]
    refine lv_aload_n hx hb dL_law_306 rfl (lv_at hl 6 rfl) ?_
    refine lv_iload hx hb dL_law_307 (lv_at hl 1 rfl) ?_
    refine lv_iconst (v := 3) hx hb dL_law_309 (by decide) ?_
    refine lv_iadd hx hb dL_law_310 ?_
    rw [show ((nI (6 * i)) + 3 : Int32) = nI ((6 * i) + 3) from nI_add (6 * i) 3]
    refine va_sld hx hb hX hbl hbA hS (show vp_in (nI ((6 * i) + 3)) L from ki_in (by omega) (by omega)) dL_law_311 ?_
    rw [show xs (nI ((6 * i) + 3)).toNatClampNeg = a3 from (congrArg xs (ki_cl (by omega))).trans ea3.symm]
    refine kj_i (pmM _ _ _ _) (va_runV (As := [.int a1, .int a2, .int a3]) (rest := []) ⟨hx, hb, hml, hown, htT⟩ (m_weigh_0 l D cA _ am r M a1 a2 a3 (by rw [hI.h3]; exact hk0)) (cwV 3 htT (kg_V m_ml_L_133 m_im_X6_weigh m_sl_X6_weigh m_in_X6 m_cd_X6_weigh) rfl rfl rfl (by decide +kernel) ⟨Nat.le_of_ble_eq_true rfl, Nat.le_of_ble_eq_true rfl⟩) (kj_V (pmM _ _ _ _) hK hP hD hTB (kj_rm (pmM _ _ _ _) hK hP)) rfl rfl hl.1 rfl (lv_room (Nat.le_of_ble_eq_true rfl)) dL_law_312 ⟨(by show _ ≤ 601024; omega), (by show _ ≤ 7293034; omega)⟩) hP hD hS hA (fun r_2 x_2 H locs hq_2 hP hD hS => ?_)
    have hP := kj_P (pmM _ _ _ _).symm hP
    have hD := kj_D (pmM _ _ _ _).symm hD
    rw [hq_2.1]
    rw [hq_2.2] at hP hD
    refine lv_istore (lv' := [(7, .int 0), (6, .int 1), (5, .int (nI (6 * i))), (4, .ref qd), (3, .ref qo), (2, .ref am), (1, .ref x), (0, .ref b)]) hx hb dL_law_315 hl (by decide) rfl (fun ls hl => ?_)
    refine lv_goto (tgt := 1750) hx hb dL_law_317 (by decide) ?_
    refine W.widen (k := c0 + 20) (n := s0 + 400) (by omega) (by omega) ?_
    exact hnext _ (mS (mS M 0 0) 0 1) _ _ _ _ _ _ _ _ _ _ hd0 h ((hI.iS (k := 0) (v := 0) (by decide) (by decide)).iS (by decide) (by decide)) (hL9.m eqM.rf.s0.s0) (hY.of rfl) (e1) (e2) hP hD hS (lv_sub hl [2, 3, 4, 5, 6, 7] rfl)
  · rw [er]
    have r25 : gI S a 2 = M.2 5 j := hL9.rn hjn hja (q := (2, 5)) (by decide)
    rw [r25] at hv
    rw [eS] at hP hD
    refine lv_istore (lv' := [(6, .int 1), (5, .int (nI (6 * i))), (4, .ref qd), (3, .ref qo), (2, .ref am), (1, .ref x), (0, .ref b)]) hx hb dL_law_291 hl (by decide) rfl (fun ls hl => ?_)
    refine lv_aload_n hx hb dL_law_293 rfl (lv_at hl 4 rfl) ?_
    refine lv_aload_n hx hb dL_law_294 rfl (lv_at hl 6 rfl) ?_
    refine lv_iload hx hb dL_law_295 (lv_at hl 1 rfl) ?_
    refine lv_iconst (v := 1) hx hb dL_law_297 (by decide) ?_
    refine lv_iadd hx hb dL_law_298 ?_
    rw [show ((nI (6 * i)) + 1 : Int32) = nI ((6 * i) + 1) from nI_add (6 * i) 1]
    refine va_sld hx hb hX hbl hbA hS (show vp_in (nI ((6 * i) + 1)) L from ki_in (by omega) (by omega)) dL_law_299 ?_
    rw [show xs (nI ((6 * i) + 1)).toNatClampNeg = a1 from (congrArg xs (ki_cl (by omega))).trans ea1.symm]
    refine lv_aload_n hx hb dL_law_300 rfl (lv_at hl 6 rfl) ?_
    refine lv_iload hx hb dL_law_301 (lv_at hl 1 rfl) ?_
    refine lv_iconst (v := 2) hx hb dL_law_303 (by decide) ?_
    refine lv_iadd hx hb dL_law_304 ?_
    rw [show ((nI (6 * i)) + 2 : Int32) = nI ((6 * i) + 2) from nI_add (6 * i) 2]
    refine va_sld hx hb hX hbl hbA hS (show vp_in (nI ((6 * i) + 2)) L from ki_in (by omega) (by omega)) dL_law_305 ?_
    rw [show xs (nI ((6 * i) + 2)).toNatClampNeg = a2 from (congrArg xs (ki_cl (by omega))).trans ea2.symm]
    refine lv_aload_n hx hb dL_law_306 rfl (lv_at hl 6 rfl) ?_
    refine lv_iload hx hb dL_law_307 (lv_at hl 1 rfl) ?_
    refine lv_iconst (v := 3) hx hb dL_law_309 (by decide) ?_
    refine lv_iadd hx hb dL_law_310 ?_
    rw [show ((nI (6 * i)) + 3 : Int32) = nI ((6 * i) + 3) from nI_add (6 * i) 3]
    refine va_sld hx hb hX hbl hbA hS (show vp_in (nI ((6 * i) + 3)) L from ki_in (by omega) (by omega)) dL_law_311 ?_
    rw [show xs (nI ((6 * i) + 3)).toNatClampNeg = a3 from (congrArg xs (ki_cl (by omega))).trans ea3.symm]
    rw [ej]
    refine kj_i (pmM _ _ _ _) (va_runV (As := [.int (nI j), .int a2, .int a3]) (rest := []) ⟨hx, hb, hml, hown, htT⟩ (m_weigh_v l D cA _ am r M n j hjn hI.n8 hI.h3 a2 (kIn_out0.mpr hv) a3) (cwV 3 htT (kg_V m_ml_L_133 m_im_X6_weigh m_sl_X6_weigh m_in_X6 m_cd_X6_weigh) rfl rfl rfl (by decide +kernel) ⟨Nat.le_of_ble_eq_true rfl, Nat.le_of_ble_eq_true rfl⟩) (kj_V (pmM _ _ _ _) hK hP hD hTB (kj_rm (pmM _ _ _ _) hK hP)) rfl rfl hl.1 rfl (lv_room (Nat.le_of_ble_eq_true rfl)) dL_law_312 ⟨(by show _ ≤ 601024; omega), (by show _ ≤ 7293034; omega)⟩) hP hD hS hA (fun r_3 x_3 H locs hq_3 hP hD hS => ?_)
    have hP := kj_P (pmM _ _ _ _).symm hP
    have hD := kj_D (pmM _ _ _ _).symm hD
    rw [hq_3.1]
    rw [hq_3.2] at hP hD
    refine lv_istore (lv' := [(7, .int 0), (6, .int 1), (5, .int (nI (6 * i))), (4, .ref qd), (3, .ref qo), (2, .ref am), (1, .ref x), (0, .ref b)]) hx hb dL_law_315 hl (by decide) rfl (fun ls hl => ?_)
    refine lv_goto (tgt := 1750) hx hb dL_law_317 (by decide) ?_
    refine W.widen (k := c0 + 20) (n := s0 + 400) (by omega) (by omega) ?_
    exact hnext _ (mS (mS M 0 0) 0 1) _ _ _ _ _ _ _ _ _ _ hd0 h ((hI.iS (k := 0) (v := 0) (by decide) (by decide)).iS (by decide) (by decide)) (hL9.m eqM.rf.s0.s0) (hY.of rfl) (e1) (e2) hP hD hS (lv_sub hl [2, 3, 4, 5, 6, 7] rfl)
  · rw [er]
    have r25 : gI S a 2 = M.2 5 j := hL9.rn hjn hja (q := (2, 5)) (by decide)
    rw [r25] at hv
    rw [eS] at hP hD
    refine lv_istore (lv' := [(6, .int 2), (5, .int (nI (6 * i))), (4, .ref qd), (3, .ref qo), (2, .ref am), (1, .ref x), (0, .ref b)]) hx hb dL_law_291 hl (by decide) rfl (fun ls hl => ?_)
    refine lv_aload_n hx hb dL_law_293 rfl (lv_at hl 4 rfl) ?_
    refine lv_aload_n hx hb dL_law_294 rfl (lv_at hl 6 rfl) ?_
    refine lv_iload hx hb dL_law_295 (lv_at hl 1 rfl) ?_
    refine lv_iconst (v := 1) hx hb dL_law_297 (by decide) ?_
    refine lv_iadd hx hb dL_law_298 ?_
    rw [show ((nI (6 * i)) + 1 : Int32) = nI ((6 * i) + 1) from nI_add (6 * i) 1]
    refine va_sld hx hb hX hbl hbA hS (show vp_in (nI ((6 * i) + 1)) L from ki_in (by omega) (by omega)) dL_law_299 ?_
    rw [show xs (nI ((6 * i) + 1)).toNatClampNeg = a1 from (congrArg xs (ki_cl (by omega))).trans ea1.symm]
    refine lv_aload_n hx hb dL_law_300 rfl (lv_at hl 6 rfl) ?_
    refine lv_iload hx hb dL_law_301 (lv_at hl 1 rfl) ?_
    refine lv_iconst (v := 2) hx hb dL_law_303 (by decide) ?_
    refine lv_iadd hx hb dL_law_304 ?_
    rw [show ((nI (6 * i)) + 2 : Int32) = nI ((6 * i) + 2) from nI_add (6 * i) 2]
    refine va_sld hx hb hX hbl hbA hS (show vp_in (nI ((6 * i) + 2)) L from ki_in (by omega) (by omega)) dL_law_305 ?_
    rw [show xs (nI ((6 * i) + 2)).toNatClampNeg = a2 from (congrArg xs (ki_cl (by omega))).trans ea2.symm]
    refine lv_aload_n hx hb dL_law_306 rfl (lv_at hl 6 rfl) ?_
    refine lv_iload hx hb dL_law_307 (lv_at hl 1 rfl) ?_
    refine lv_iconst (v := 3) hx hb dL_law_309 (by decide) ?_
    refine lv_iadd hx hb dL_law_310 ?_
    rw [show ((nI (6 * i)) + 3 : Int32) = nI ((6 * i) + 3) from nI_add (6 * i) 3]
    refine va_sld hx hb hX hbl hbA hS (show vp_in (nI ((6 * i) + 3)) L from ki_in (by omega) (by omega)) dL_law_311 ?_
    rw [show xs (nI ((6 * i) + 3)).toNatClampNeg = a3 from (congrArg xs (ki_cl (by omega))).trans ea3.symm]
    rw [ej]
    rw [e20]
    refine kj_i (pmM _ _ _ _) (va_runV (As := [.int (nI j), .int 0, .int a3]) (rest := []) ⟨hx, hb, hml, hown, htT⟩ (m_weigh_z l D cA _ am r M n j hjn hI.n8 hI.h3 (kIn_out.mpr hv) a3) (cwV 3 htT (kg_V m_ml_L_133 m_im_X6_weigh m_sl_X6_weigh m_in_X6 m_cd_X6_weigh) rfl rfl rfl (by decide +kernel) ⟨Nat.le_of_ble_eq_true rfl, Nat.le_of_ble_eq_true rfl⟩) (kj_V (pmM _ _ _ _) hK hP hD hTB (kj_rm (pmM _ _ _ _) hK hP)) rfl rfl hl.1 rfl (lv_room (Nat.le_of_ble_eq_true rfl)) dL_law_312 ⟨(by show _ ≤ 601024; omega), (by show _ ≤ 7293034; omega)⟩) hP hD hS hA (fun r_4 x_4 H locs hq_4 hP hD hS => ?_)
    have hP := kj_P (pmM _ _ _ _).symm hP
    have hD := kj_D (pmM _ _ _ _).symm hD
    rw [hq_4.1]
    rw [hq_4.2] at hP hD
    refine lv_istore (lv' := [(7, .int 0), (6, .int 2), (5, .int (nI (6 * i))), (4, .ref qd), (3, .ref qo), (2, .ref am), (1, .ref x), (0, .ref b)]) hx hb dL_law_315 hl (by decide) rfl (fun ls hl => ?_)
    refine lv_goto (tgt := 1750) hx hb dL_law_317 (by decide) ?_
    refine W.widen (k := c0 + 20) (n := s0 + 400) (by omega) (by omega) ?_
    exact hnext _ (mS (mS M 0 0) 0 2) _ _ _ _ _ _ _ _ _ _ hd0 h ((hI.iS (k := 0) (v := 0) (by decide) (by decide)).iS (by decide) (by decide)) (hL9.m eqM.rf.s0.s0) (hY.of rfl) (e1) (e2) hP hD hS (lv_sub hl [2, 3, 4, 5, 6, 7] rfl)
  · rw [er]
    have r25 : gI S a 2 = M.2 5 j := hL9.rn hjn hja (q := (2, 5)) (by decide)
    rw [r25] at hv
    rw [eS] at hP hD
    refine lv_istore (lv' := [(6, .int 2), (5, .int (nI (6 * i))), (4, .ref qd), (3, .ref qo), (2, .ref am), (1, .ref x), (0, .ref b)]) hx hb dL_law_291 hl (by decide) rfl (fun ls hl => ?_)
    refine lv_aload_n hx hb dL_law_293 rfl (lv_at hl 4 rfl) ?_
    refine lv_aload_n hx hb dL_law_294 rfl (lv_at hl 6 rfl) ?_
    refine lv_iload hx hb dL_law_295 (lv_at hl 1 rfl) ?_
    refine lv_iconst (v := 1) hx hb dL_law_297 (by decide) ?_
    refine lv_iadd hx hb dL_law_298 ?_
    rw [show ((nI (6 * i)) + 1 : Int32) = nI ((6 * i) + 1) from nI_add (6 * i) 1]
    refine va_sld hx hb hX hbl hbA hS (show vp_in (nI ((6 * i) + 1)) L from ki_in (by omega) (by omega)) dL_law_299 ?_
    rw [show xs (nI ((6 * i) + 1)).toNatClampNeg = a1 from (congrArg xs (ki_cl (by omega))).trans ea1.symm]
    refine lv_aload_n hx hb dL_law_300 rfl (lv_at hl 6 rfl) ?_
    refine lv_iload hx hb dL_law_301 (lv_at hl 1 rfl) ?_
    refine lv_iconst (v := 2) hx hb dL_law_303 (by decide) ?_
    refine lv_iadd hx hb dL_law_304 ?_
    rw [show ((nI (6 * i)) + 2 : Int32) = nI ((6 * i) + 2) from nI_add (6 * i) 2]
    refine va_sld hx hb hX hbl hbA hS (show vp_in (nI ((6 * i) + 2)) L from ki_in (by omega) (by omega)) dL_law_305 ?_
    rw [show xs (nI ((6 * i) + 2)).toNatClampNeg = a2 from (congrArg xs (ki_cl (by omega))).trans ea2.symm]
    refine lv_aload_n hx hb dL_law_306 rfl (lv_at hl 6 rfl) ?_
    refine lv_iload hx hb dL_law_307 (lv_at hl 1 rfl) ?_
    refine lv_iconst (v := 3) hx hb dL_law_309 (by decide) ?_
    refine lv_iadd hx hb dL_law_310 ?_
    rw [show ((nI (6 * i)) + 3 : Int32) = nI ((6 * i) + 3) from nI_add (6 * i) 3]
    refine va_sld hx hb hX hbl hbA hS (show vp_in (nI ((6 * i) + 3)) L from ki_in (by omega) (by omega)) dL_law_311 ?_
    rw [show xs (nI ((6 * i) + 3)).toNatClampNeg = a3 from (congrArg xs (ki_cl (by omega))).trans ea3.symm]
    rw [ej]
    rw [e2v]
    refine kj_i (pmM _ _ _ _) (va_runV (As := [.int (nI j), .int (nI v), .int a3]) (rest := []) ⟨hx, hb, hml, hown, htT⟩ (m_weigh_1 l D cA _ am r M n j hjn hI.n8 hI.h3 v hv4 (kIn_out.mpr hv) hv0 a3 (kIn_out0.mpr h1)) (cwV 3 htT (kg_V m_ml_L_133 m_im_X6_weigh m_sl_X6_weigh m_in_X6 m_cd_X6_weigh) rfl rfl rfl (by decide +kernel) ⟨Nat.le_of_ble_eq_true rfl, Nat.le_of_ble_eq_true rfl⟩) (kj_V (pmM _ _ _ _) hK hP hD hTB (kj_rm (pmM _ _ _ _) hK hP)) rfl rfl hl.1 rfl (lv_room (Nat.le_of_ble_eq_true rfl)) dL_law_312 ⟨(by show _ ≤ 601024; omega), (by show _ ≤ 7293034; omega)⟩) hP hD hS hA (fun r_5 x_5 H locs hq_5 hP hD hS => ?_)
    have hP := kj_P (pmM _ _ _ _).symm hP
    have hD := kj_D (pmM _ _ _ _).symm hD
    rw [hq_5.1]
    rw [hq_5.2] at hP hD
    refine lv_istore (lv' := [(7, .int 0), (6, .int 2), (5, .int (nI (6 * i))), (4, .ref qd), (3, .ref qo), (2, .ref am), (1, .ref x), (0, .ref b)]) hx hb dL_law_315 hl (by decide) rfl (fun ls hl => ?_)
    refine lv_goto (tgt := 1750) hx hb dL_law_317 (by decide) ?_
    refine W.widen (k := c0 + 20) (n := s0 + 400) (by omega) (by omega) ?_
    exact hnext _ (mS (mS M 0 0) 0 2) _ _ _ _ _ _ _ _ _ _ hd0 h ((hI.iS (k := 0) (v := 0) (by decide) (by decide)).iS (by decide) (by decide)) (hL9.m eqM.rf.s0.s0) (hY.of rfl) (e1) (e2) hP hD hS (lv_sub hl [2, 3, 4, 5, 6, 7] rfl)
  · rw [er]
    have r25 : gI S a 2 = M.2 5 j := hL9.rn hjn hja (q := (2, 5)) (by decide)
    rw [r25] at hv
    obtain ⟨w0, hw0, c0e, m0e⟩ := hL9.wt hjn hja (v := 0) (by omega)
    obtain ⟨w1, hw1, c1e, m1e⟩ := hL9.wt hjn hja hv4
    have c0e : cWt S (wtA S a) 0 = nI w0 := c0e
    have m0e : M.2 6 (4 * j) = nI w0 := m0e
    obtain ⟨p9, hp9, ep9, hiff, hnn⟩ := left_eq (p := a3) hw0 hw1 (kIn_out.mpr h1)
    rw [c0e, c1e] at hlf
    rw [eS] at hP hD
    refine lv_istore (lv' := [(6, .int 2), (5, .int (nI (6 * i))), (4, .ref qd), (3, .ref qo), (2, .ref am), (1, .ref x), (0, .ref b)]) hx hb dL_law_291 hl (by decide) rfl (fun ls hl => ?_)
    refine lv_aload_n hx hb dL_law_293 rfl (lv_at hl 4 rfl) ?_
    refine lv_aload_n hx hb dL_law_294 rfl (lv_at hl 6 rfl) ?_
    refine lv_iload hx hb dL_law_295 (lv_at hl 1 rfl) ?_
    refine lv_iconst (v := 1) hx hb dL_law_297 (by decide) ?_
    refine lv_iadd hx hb dL_law_298 ?_
    rw [show ((nI (6 * i)) + 1 : Int32) = nI ((6 * i) + 1) from nI_add (6 * i) 1]
    refine va_sld hx hb hX hbl hbA hS (show vp_in (nI ((6 * i) + 1)) L from ki_in (by omega) (by omega)) dL_law_299 ?_
    rw [show xs (nI ((6 * i) + 1)).toNatClampNeg = a1 from (congrArg xs (ki_cl (by omega))).trans ea1.symm]
    refine lv_aload_n hx hb dL_law_300 rfl (lv_at hl 6 rfl) ?_
    refine lv_iload hx hb dL_law_301 (lv_at hl 1 rfl) ?_
    refine lv_iconst (v := 2) hx hb dL_law_303 (by decide) ?_
    refine lv_iadd hx hb dL_law_304 ?_
    rw [show ((nI (6 * i)) + 2 : Int32) = nI ((6 * i) + 2) from nI_add (6 * i) 2]
    refine va_sld hx hb hX hbl hbA hS (show vp_in (nI ((6 * i) + 2)) L from ki_in (by omega) (by omega)) dL_law_305 ?_
    rw [show xs (nI ((6 * i) + 2)).toNatClampNeg = a2 from (congrArg xs (ki_cl (by omega))).trans ea2.symm]
    refine lv_aload_n hx hb dL_law_306 rfl (lv_at hl 6 rfl) ?_
    refine lv_iload hx hb dL_law_307 (lv_at hl 1 rfl) ?_
    refine lv_iconst (v := 3) hx hb dL_law_309 (by decide) ?_
    refine lv_iadd hx hb dL_law_310 ?_
    rw [show ((nI (6 * i)) + 3 : Int32) = nI ((6 * i) + 3) from nI_add (6 * i) 3]
    refine va_sld hx hb hX hbl hbA hS (show vp_in (nI ((6 * i) + 3)) L from ki_in (by omega) (by omega)) dL_law_311 ?_
    rw [show xs (nI ((6 * i) + 3)).toNatClampNeg = a3 from (congrArg xs (ki_cl (by omega))).trans ea3.symm]
    rw [ej]
    rw [e2v]
    refine kj_i (pmM _ _ _ _) (va_runV (As := [.int (nI j), .int (nI v), .int a3]) (rest := []) ⟨hx, hb, hml, hown, htT⟩ (m_weigh_2 l D cA _ am r M n j hjn hI.n8 hI.h3 v hv4 (kIn_out.mpr hv) hv0 a3 (kIn_out.mpr h1) (by rw [m0e, m1e]; exact hiff.mp hlf)) (cwV 3 htT (kg_V m_ml_L_133 m_im_X6_weigh m_sl_X6_weigh m_in_X6 m_cd_X6_weigh) rfl rfl rfl (by decide +kernel) ⟨Nat.le_of_ble_eq_true rfl, Nat.le_of_ble_eq_true rfl⟩) (kj_V (pmM _ _ _ _) hK hP hD hTB (kj_rm (pmM _ _ _ _) hK hP)) rfl rfl hl.1 rfl (lv_room (Nat.le_of_ble_eq_true rfl)) dL_law_312 ⟨(by show _ ≤ 601024; omega), (by show _ ≤ 7293034; omega)⟩) hP hD hS hA (fun r_6 x_6 H locs hq_6 hP hD hS => ?_)
    have hP := kj_P (pmM _ _ _ _).symm hP
    have hD := kj_D (pmM _ _ _ _).symm hD
    rw [hq_6.1]
    rw [hq_6.2] at hP hD
    refine lv_istore (lv' := [(7, .int 0), (6, .int 2), (5, .int (nI (6 * i))), (4, .ref qd), (3, .ref qo), (2, .ref am), (1, .ref x), (0, .ref b)]) hx hb dL_law_315 hl (by decide) rfl (fun ls hl => ?_)
    refine lv_goto (tgt := 1750) hx hb dL_law_317 (by decide) ?_
    refine W.widen (k := c0 + 20) (n := s0 + 400) (by omega) (by omega) ?_
    exact hnext _ (mS (mS M 0 0) 0 2) _ _ _ _ _ _ _ _ _ _ hd0 h ((hI.iS (k := 0) (v := 0) (by decide) (by decide)).iS (by decide) (by decide)) (hL9.m eqM.rf.s0.s0) (hY.of rfl) (e1) (e2) hP hD hS (lv_sub hl [2, 3, 4, 5, 6, 7] rfl)
  · rw [er]
    have r25 : gI S a 2 = M.2 5 j := hL9.rn hjn hja (q := (2, 5)) (by decide)
    rw [r25] at hv
    obtain ⟨w0, hw0, c0e, m0e⟩ := hL9.wt hjn hja (v := 0) (by omega)
    obtain ⟨w1, hw1, c1e, m1e⟩ := hL9.wt hjn hja hv4
    have c0e : cWt S (wtA S a) 0 = nI w0 := c0e
    have m0e : M.2 6 (4 * j) = nI w0 := m0e
    obtain ⟨p9, hp9, ep9, hiff, hnn⟩ := left_eq (p := a3) hw0 hw1 (kIn_out.mpr h1)
    rw [c0e, c1e] at hlf
    have hnw : ¬ (nI w0 + nI w1 < a3) := fun q => hlf (hiff.mpr q)
    obtain ⟨z1, z2, z3, z4⟩ := hnn hnw
    have z5 := sum_le hL9 hI hjn hja hv0 hv4 m0e m1e hw0 hw1
    rw [c0e, c1e, z3] at eS
    rw [c0e, c1e, z3] at efo
    rw [eS] at hP hD
    rw [efo] at hP hD
    refine lv_istore (lv' := [(6, .int 0), (5, .int (nI (6 * i))), (4, .ref qd), (3, .ref qo), (2, .ref am), (1, .ref x), (0, .ref b)]) hx hb dL_law_291 hl (by decide) rfl (fun ls hl => ?_)
    refine lv_aload_n hx hb dL_law_293 rfl (lv_at hl 4 rfl) ?_
    refine lv_aload_n hx hb dL_law_294 rfl (lv_at hl 6 rfl) ?_
    refine lv_iload hx hb dL_law_295 (lv_at hl 1 rfl) ?_
    refine lv_iconst (v := 1) hx hb dL_law_297 (by decide) ?_
    refine lv_iadd hx hb dL_law_298 ?_
    rw [show ((nI (6 * i)) + 1 : Int32) = nI ((6 * i) + 1) from nI_add (6 * i) 1]
    refine va_sld hx hb hX hbl hbA hS (show vp_in (nI ((6 * i) + 1)) L from ki_in (by omega) (by omega)) dL_law_299 ?_
    rw [show xs (nI ((6 * i) + 1)).toNatClampNeg = a1 from (congrArg xs (ki_cl (by omega))).trans ea1.symm]
    refine lv_aload_n hx hb dL_law_300 rfl (lv_at hl 6 rfl) ?_
    refine lv_iload hx hb dL_law_301 (lv_at hl 1 rfl) ?_
    refine lv_iconst (v := 2) hx hb dL_law_303 (by decide) ?_
    refine lv_iadd hx hb dL_law_304 ?_
    rw [show ((nI (6 * i)) + 2 : Int32) = nI ((6 * i) + 2) from nI_add (6 * i) 2]
    refine va_sld hx hb hX hbl hbA hS (show vp_in (nI ((6 * i) + 2)) L from ki_in (by omega) (by omega)) dL_law_305 ?_
    rw [show xs (nI ((6 * i) + 2)).toNatClampNeg = a2 from (congrArg xs (ki_cl (by omega))).trans ea2.symm]
    refine lv_aload_n hx hb dL_law_306 rfl (lv_at hl 6 rfl) ?_
    refine lv_iload hx hb dL_law_307 (lv_at hl 1 rfl) ?_
    refine lv_iconst (v := 3) hx hb dL_law_309 (by decide) ?_
    refine lv_iadd hx hb dL_law_310 ?_
    rw [show ((nI (6 * i)) + 3 : Int32) = nI ((6 * i) + 3) from nI_add (6 * i) 3]
    refine va_sld hx hb hX hbl hbA hS (show vp_in (nI ((6 * i) + 3)) L from ki_in (by omega) (by omega)) dL_law_311 ?_
    rw [show xs (nI ((6 * i) + 3)).toNatClampNeg = a3 from (congrArg xs (ki_cl (by omega))).trans ea3.symm]
    rw [ej]
    rw [e2v]
    refine kj_i (pmM _ _ _ _) (va_runV (As := [.int (nI j), .int (nI v), .int a3]) (rest := []) ⟨hx, hb, hml, hown, htT⟩ (m_weigh l D cA _ am r M n j hjn hI.n8 hI.h3 v hv4 (kIn_out.mpr hv) hv0 a3 (kIn_out.mpr h1) (by rw [m0e, m1e]; exact hnw)) (cwV 3 htT (kg_V m_ml_L_133 m_im_X6_weigh m_sl_X6_weigh m_in_X6 m_cd_X6_weigh) rfl rfl rfl (by decide +kernel) ⟨Nat.le_of_ble_eq_true rfl, Nat.le_of_ble_eq_true rfl⟩) (kj_V (pmM _ _ _ _) hK hP hD hTB (kj_rm (pmM _ _ _ _) hK hP)) rfl rfl hl.1 rfl (lv_room (Nat.le_of_ble_eq_true rfl)) dL_law_312 ⟨(by show _ ≤ 601024; omega), (by show _ ≤ 7293034; omega)⟩) hP hD hS hA (fun r_7 x_7 H locs hq_7 hP hD hS => ?_)
    have hP := kj_P (pmM _ _ _ _).symm hP
    have hD := kj_D (pmM _ _ _ _).symm hD
    rw [hq_7.1.trans (show M.2 6 (4 * j) + (M.2 6 (4 * j + v) - a3) = nI (w0 + w1 - p9) by rw [m0e, m1e]; exact z4)]
    rw [hq_7.2] at hP hD
    refine lv_istore (lv' := [(7, .int (nI (w0 + w1 - p9))), (6, .int 0), (5, .int (nI (6 * i))), (4, .ref qd), (3, .ref qo), (2, .ref am), (1, .ref x), (0, .ref b)]) hx hb dL_law_315 hl (by decide) rfl (fun ls hl => ?_)
    refine lv_goto (tgt := 1750) hx hb dL_law_317 (by decide) ?_
    refine W.widen (k := c0 + 20) (n := s0 + 400) (by omega) (by omega) ?_
    exact hnext _ (mR (mR (mS M 0 0) 6 (4 * j) (M.2 6 (4 * j) + (M.2 6 (4 * j + v) - a3))) 6 (4 * j + v) a3) _ _ _ _ _ _ _ _ _ _ hd0 (h.rw1.rw1) (INVR.weigh (hI.iS (k := 0) (v := 0) (by decide) (by decide)) hjn hv0 hv4) (by rw [show (M.2 6 (4 * j) + (M.2 6 (4 * j + v) - a3)) = nI (w0 + w1 - p9) by rw [m0e, m1e]; exact z4, ep9]; exact (hL9.m eqM.rf.s0).weigh h hjn hja hv0 hv4 (by omega) hp9) (hY.of rfl) (e1) (e2) hP hD hS (lv_sub hl [2, 3, 4, 5, 6, 7] rfl)

set_option maxRecDepth 100000 in
set_option maxHeartbeats 4000000 in
theorem law_turn (l : Launch) (hst : l.stackTraces = false) {p : Program} {e : Env} {s : State} {m : MethodId} {below : List Frame} {meth : Method} {c : Code} {b L : Nat} {xs : Nat → Int32} (C0 : lw_At p s m meth c b L xs) {D : va_G} {cA : Nat → ClassId} (hK : va_K D vwCl (ty6 cA) s) (hTB : TBok s) (hTX : TXok (fun q : Nat => s.heap.size ≤ q) s) {x ar ak qo qd am : Nat} {r : Nat → Nat} {c0 s0 i : Nat} (hc0 : c0 + 20 ≤ 601024) (hs0 : s0 + 400 ≤ 7293034) (hi : 6 * i + 6 ≤ L) (hL : L ≤ 3072) (hnext : ∀ (S : Pool) (M : MSt) (fo : Nat → Int64) (fd : Nat → UInt64) (n na : Nat) (hh cc : Int32) (H : Heap) (locs : List Loc) (ls : Array Slot) (d : Drawn), s.drawn.sameBut d lw_cs → INVC n na hh cc S x ar ak → INVR n na M → REL True n na S M ar → LAY n M → M.1 1 = cc → M.1 2 = hh → va_P D vwCl (LW cA S qo fo qd fd am r M) H → va_D (fun q : Nat => s.heap.size ≤ q) (LW cA S qo fo qd fd am r M) → va_S (fun q : Nat => s.heap.size ≤ q) s.heap H locs → lv_has ls 9 [(5, .int (nI (6 * i))), (4, .ref qd), (3, .ref qo), (2, .ref am), (1, .ref x), (0, .ref b)] → W p l e room_1 (s.setDrawn d) m #[Value.ref b] below meth c H locs (c0 + 20) (s0 + 400) (lw_Z below #[Value.ref b] s) (F0 m 1750 ls [])) {S : Pool} {M : MSt} {fo : Nat → Int64} {fd : Nat → UInt64} {n na : Nat} {hh cc : Int32} {H : Heap} {locs : List Loc} {ls : Array Slot} {d : Drawn} (hd0 : s.drawn.sameBut d lw_cs) (h : INVC n na hh cc S x ar ak) (hI : INVR n na M) (hL9 : REL True n na S M ar) (hY : LAY n M) (e1 : M.1 1 = cc) (e2 : M.1 2 = hh) (hP : va_P D vwCl (LW cA S qo fo qd fd am r M) H) (hD : va_D (fun q : Nat => s.heap.size ≤ q) (LW cA S qo fo qd fd am r M)) (hS : va_S (fun q : Nat => s.heap.size ≤ q) s.heap H locs) (hl : lv_has ls 9 [(5, .int (nI (6 * i))), (4, .ref qd), (3, .ref qo), (2, .ref am), (1, .ref x), (0, .ref b)]) : W p l e room_1 (s.setDrawn d) m #[Value.ref b] below meth c H locs c0 s0 (lw_Z below #[Value.ref b] s) (F0 m 320 ls []) := by
  obtain ⟨hx, hb, hr, hml, hown, hts, hX, hbl, hlocks, hgv⟩ := id C0
  have hA : ∀ q : Nat, s.heap.size ≤ q → (fun q : Nat => s.heap.size ≤ q) q := fun _ h => h
  have hbA : ¬ (fun q : Nat => s.heap.size ≤ q) b := Nat.not_le.mpr hbl
  obtain ⟨a1, ea1⟩ : ∃ z, z = xs (6 * i + 1) := ⟨_, rfl⟩
  obtain ⟨a2, ea2⟩ : ∃ z, z = xs (6 * i + 2) := ⟨_, rfl⟩
  obtain ⟨a3, ea3⟩ : ∃ z, z = xs (6 * i + 3) := ⟨_, rfl⟩
  obtain ⟨a4, ea4⟩ : ∃ z, z = xs (6 * i + 4) := ⟨_, rfl⟩
  obtain ⟨a5, ea5⟩ : ∃ z, z = xs (6 * i + 5) := ⟨_, rfl⟩
  have htT0 : ∀ w ∈ TT, w.before _ s = true := fun w h => hts w (tt_in h)
  have hTB0 := hTB
  have hK0 := hK
  have hown0 : s.vm.findClass RL = some m.cls := hown
  have hTX0 := hTX
  have hX0 := hX
  have htT : ∀ w ∈ TT, w.before _ (s.setDrawn d) = true := dr_words htT0 d
  have hTB : TBok (s.setDrawn d) := TBok.same (u := s) (U := s.setDrawn d) rfl (Vm.Alike.refl s.vm) hTB0
  have hK : va_K D vwCl (ty6 cA) (s.setDrawn d) := hK0
  have hown : (s.setDrawn d).vm.findClass RL = some m.cls := hown0
  have hTX : TXok (fun q : Nat => s.heap.size ≤ q) (s.setDrawn d) := hTX0.dr d
  have hX : va_X b L xs (s.setDrawn d) (s.setDrawn d).heap := hX0
  refine lv_aload_n hx hb dL_law_320 rfl (lv_at hl 4 rfl) ?_
  refine lv_aload_n hx hb dL_law_321 rfl (lv_at hl 5 rfl) ?_
  refine lv_iload hx hb dL_law_322 (lv_at hl 0 rfl) ?_
  refine lv_iconst (v := 1) hx hb dL_law_324 (by decide) ?_
  refine lv_iadd hx hb dL_law_325 ?_
  rw [show ((nI (6 * i)) + 1 : Int32) = nI ((6 * i) + 1) from nI_add (6 * i) 1]
  refine va_sld hx hb hX hbl hbA hS (show vp_in (nI ((6 * i) + 1)) L from ki_in (by omega) (by omega)) dL_law_326 ?_
  rw [show xs (nI ((6 * i) + 1)).toNatClampNeg = a1 from (congrArg xs (ki_cl (by omega))).trans ea1.symm]
  refine lv_aload_n hx hb dL_law_327 rfl (lv_at hl 5 rfl) ?_
  refine lv_iload hx hb dL_law_328 (lv_at hl 0 rfl) ?_
  refine lv_iconst (v := 2) hx hb dL_law_330 (by decide) ?_
  refine lv_iadd hx hb dL_law_331 ?_
  rw [show ((nI (6 * i)) + 2 : Int32) = nI ((6 * i) + 2) from nI_add (6 * i) 2]
  refine va_sld hx hb hX hbl hbA hS (show vp_in (nI ((6 * i) + 2)) L from ki_in (by omega) (by omega)) dL_law_332 ?_
  rw [show xs (nI ((6 * i) + 2)).toNatClampNeg = a2 from (congrArg xs (ki_cl (by omega))).trans ea2.symm]
  refine lv_if_eq (tgt := 340) hx hb dL_law_333 (by decide) (fun c_1 => ?_) (fun c_1 => ?_)
  · refine lv_iconst (v := 0) hx hb dL_law_340 (by decide) ?_
    refine lv_aload_n hx hb dL_law_341 rfl (lv_at hl 2 rfl) ?_
    refine kj_i (pmJ _ _ _ _) (vx_runSW (As := [.ref x, .int a1, .int 0, .ref qo]) (rest := []) ⟨hx, hb, hml, hown, htT⟩ (w_turn l hst D cA _ S x qo fo n na hh cc ar ak h a1 0 (Or.inl rfl)) (vx_cwSW 4 htT (kg_SW m_ml_L_134 m_st_L_turn m_in_L m_cd_L_turn) rfl rfl rfl (by decide +kernel) ⟨Nat.le_of_ble_eq_true rfl, Nat.le_of_ble_eq_true rfl⟩) (kj_SX (pmJ _ _ _ _) hK hP hD hTB hTX hS hA) rfl rfl hl.1 rfl (lv_room (Nat.le_of_ble_eq_true rfl)) dL_law_342 ⟨(by show _ ≤ 601024; omega), (by show _ ≤ 7293034; omega)⟩) hP hD hS hA (fun r_2 x_2 H locs hq_2 hP hD hS => ?_)
    rw [List.append_assoc] at hP hD
    rcases hq_2 with ⟨er, hk0, eS⟩ | ⟨er, j, a, hjn, ej, hja, eS, ⟨h90, efo⟩ | ⟨h90, efo⟩⟩
    · rw [er]
      rw [eS] at hP hD
      refine lv_istore (lv' := [(6, .int 1), (5, .int (nI (6 * i))), (4, .ref qd), (3, .ref qo), (2, .ref am), (1, .ref x), (0, .ref b)]) hx hb dL_law_345 hl (by decide) rfl (fun ls hl => ?_)
      refine lv_aload_n hx hb dL_law_347 rfl (lv_at hl 4 rfl) ?_
      refine lv_aload_n hx hb dL_law_348 rfl (lv_at hl 6 rfl) ?_
      refine lv_iload hx hb dL_law_349 (lv_at hl 1 rfl) ?_
      refine lv_iconst (v := 1) hx hb dL_law_351 (by decide) ?_
      refine lv_iadd hx hb dL_law_352 ?_
      rw [show ((nI (6 * i)) + 1 : Int32) = nI ((6 * i) + 1) from nI_add (6 * i) 1]
      refine va_sld hx hb hX hbl hbA hS (show vp_in (nI ((6 * i) + 1)) L from ki_in (by omega) (by omega)) dL_law_353 ?_
      rw [show xs (nI ((6 * i) + 1)).toNatClampNeg = a1 from (congrArg xs (ki_cl (by omega))).trans ea1.symm]
      refine lv_aload_n hx hb dL_law_354 rfl (lv_at hl 6 rfl) ?_
      refine lv_iload hx hb dL_law_355 (lv_at hl 1 rfl) ?_
      refine lv_iconst (v := 2) hx hb dL_law_357 (by decide) ?_
      refine lv_iadd hx hb dL_law_358 ?_
      rw [show ((nI (6 * i)) + 2 : Int32) = nI ((6 * i) + 2) from nI_add (6 * i) 2]
      refine va_sld hx hb hX hbl hbA hS (show vp_in (nI ((6 * i) + 2)) L from ki_in (by omega) (by omega)) dL_law_359 ?_
      rw [show xs (nI ((6 * i) + 2)).toNatClampNeg = a2 from (congrArg xs (ki_cl (by omega))).trans ea2.symm]
      refine lv_if_eq (tgt := 367) hx hb dL_law_360 (by decide) (fun c_3 => ?_) (fun c_3 => ?_)
      · refine lv_iconst (v := 0) hx hb dL_law_367 (by decide) ?_
        refine kj_i (pmM _ _ _ _) (va_runV (As := [.int a1, .int 0]) (rest := []) ⟨hx, hb, hml, hown, htT⟩ (m_turn_0 l D cA _ am r M a1 0 (by rw [hI.h3]; exact hk0)) (cwV 2 htT (kg_V m_ml_L_137 m_im_X6_turn m_sl_X6_turn m_in_X6 m_cd_X6_turn) rfl rfl rfl (by decide +kernel) ⟨Nat.le_of_ble_eq_true rfl, Nat.le_of_ble_eq_true rfl⟩) (kj_V (pmM _ _ _ _) hK hP hD hTB (kj_rm (pmM _ _ _ _) hK hP)) rfl rfl hl.1 rfl (lv_room (Nat.le_of_ble_eq_true rfl)) dL_law_368 ⟨(by show _ ≤ 601024; omega), (by show _ ≤ 7293034; omega)⟩) hP hD hS hA (fun r_4 x_4 H locs hq_4 hP hD hS => ?_)
        have hP := kj_P (pmM _ _ _ _).symm hP
        have hD := kj_D (pmM _ _ _ _).symm hD
        rw [hq_4.1]
        rw [hq_4.2] at hP hD
        refine lv_istore (lv' := [(7, .int 0), (6, .int 1), (5, .int (nI (6 * i))), (4, .ref qd), (3, .ref qo), (2, .ref am), (1, .ref x), (0, .ref b)]) hx hb dL_law_371 hl (by decide) rfl (fun ls hl => ?_)
        refine lv_goto (tgt := 1750) hx hb dL_law_373 (by decide) ?_
        refine W.widen (k := c0 + 20) (n := s0 + 400) (by omega) (by omega) ?_
        exact hnext _ (mS (mS M 0 0) 0 1) _ _ _ _ _ _ _ _ _ _ hd0 h ((hI.iS (k := 0) (v := 0) (by decide) (by decide)).iS (by decide) (by decide)) (hL9.m eqM.rf.s0.s0) (hY.of rfl) (e1) (e2) hP hD hS (lv_sub hl [2, 3, 4, 5, 6, 7] rfl)
      · exact absurd c_1 c_3
    · rw [er]
      have r9 : gI S a 9 = M.2 11 j := hL9.rn hjn hja (q := (9, 11)) (by decide)
      rw [eS] at hP hD
      rw [efo] at hP hD
      refine lv_istore (lv' := [(6, .int 0), (5, .int (nI (6 * i))), (4, .ref qd), (3, .ref qo), (2, .ref am), (1, .ref x), (0, .ref b)]) hx hb dL_law_345 hl (by decide) rfl (fun ls hl => ?_)
      refine lv_aload_n hx hb dL_law_347 rfl (lv_at hl 4 rfl) ?_
      refine lv_aload_n hx hb dL_law_348 rfl (lv_at hl 6 rfl) ?_
      refine lv_iload hx hb dL_law_349 (lv_at hl 1 rfl) ?_
      refine lv_iconst (v := 1) hx hb dL_law_351 (by decide) ?_
      refine lv_iadd hx hb dL_law_352 ?_
      rw [show ((nI (6 * i)) + 1 : Int32) = nI ((6 * i) + 1) from nI_add (6 * i) 1]
      refine va_sld hx hb hX hbl hbA hS (show vp_in (nI ((6 * i) + 1)) L from ki_in (by omega) (by omega)) dL_law_353 ?_
      rw [show xs (nI ((6 * i) + 1)).toNatClampNeg = a1 from (congrArg xs (ki_cl (by omega))).trans ea1.symm]
      refine lv_aload_n hx hb dL_law_354 rfl (lv_at hl 6 rfl) ?_
      refine lv_iload hx hb dL_law_355 (lv_at hl 1 rfl) ?_
      refine lv_iconst (v := 2) hx hb dL_law_357 (by decide) ?_
      refine lv_iadd hx hb dL_law_358 ?_
      rw [show ((nI (6 * i)) + 2 : Int32) = nI ((6 * i) + 2) from nI_add (6 * i) 2]
      refine va_sld hx hb hX hbl hbA hS (show vp_in (nI ((6 * i) + 2)) L from ki_in (by omega) (by omega)) dL_law_359 ?_
      rw [show xs (nI ((6 * i) + 2)).toNatClampNeg = a2 from (congrArg xs (ki_cl (by omega))).trans ea2.symm]
      refine lv_if_eq (tgt := 367) hx hb dL_law_360 (by decide) (fun c_5 => ?_) (fun c_5 => ?_)
      · refine lv_iconst (v := 0) hx hb dL_law_367 (by decide) ?_
        rw [ej]
        refine kj_i (pmM _ _ _ _) (va_runV (As := [.int (nI j), .int 0]) (rest := []) ⟨hx, hb, hml, hown, htT⟩ (m_turn l D cA _ am r M n j hjn hI.n8 hI.h3 (hI.2.1 j hjn).2 0 (Or.inl rfl)) (cwV 2 htT (kg_V m_ml_L_137 m_im_X6_turn m_sl_X6_turn m_in_X6 m_cd_X6_turn) rfl rfl rfl (by decide +kernel) ⟨Nat.le_of_ble_eq_true rfl, Nat.le_of_ble_eq_true rfl⟩) (kj_V (pmM _ _ _ _) hK hP hD hTB (kj_rm (pmM _ _ _ _) hK hP)) rfl rfl hl.1 rfl (lv_room (Nat.le_of_ble_eq_true rfl)) dL_law_368 ⟨(by show _ ≤ 601024; omega), (by show _ ≤ 7293034; omega)⟩) hP hD hS hA (fun r_6 x_6 H locs hq_6 hP hD hS => ?_)
        have hP := kj_P (pmM _ _ _ _).symm hP
        have hD := kj_D (pmM _ _ _ _).symm hD
        rw [hq_6.1.trans (show M.2 11 j = 0 from r9.symm.trans h90)]
        rw [hq_6.2] at hP hD
        refine lv_istore (lv' := [(7, .int 0), (6, .int 0), (5, .int (nI (6 * i))), (4, .ref qd), (3, .ref qo), (2, .ref am), (1, .ref x), (0, .ref b)]) hx hb dL_law_371 hl (by decide) rfl (fun ls hl => ?_)
        refine lv_goto (tgt := 1750) hx hb dL_law_373 (by decide) ?_
        refine W.widen (k := c0 + 20) (n := s0 + 400) (by omega) (by omega) ?_
        exact hnext _ (mR (mS M 0 0) 11 j 0) _ _ _ _ _ _ _ _ _ _ hd0 (h.on (h.sw (by have := h.n8; omega) hja).1 (Or.inl rfl)) (INVR.on (hI.iS (k := 0) (v := 0) (by decide) (by decide)) hjn (Or.inl rfl)) ((hL9.m eqM.rf.s0).num h hjn hja (k := 9) (k' := 11) (v := 0) (by decide) (by decide) (by decide)) (hY.of rfl) (e1) (e2) hP hD hS (lv_sub hl [2, 3, 4, 5, 6, 7] rfl)
      · exact absurd c_1 c_5
    · rw [er]
      have r9 : gI S a 9 = M.2 11 j := hL9.rn hjn hja (q := (9, 11)) (by decide)
      rw [eS] at hP hD
      rw [efo] at hP hD
      refine lv_istore (lv' := [(6, .int 0), (5, .int (nI (6 * i))), (4, .ref qd), (3, .ref qo), (2, .ref am), (1, .ref x), (0, .ref b)]) hx hb dL_law_345 hl (by decide) rfl (fun ls hl => ?_)
      refine lv_aload_n hx hb dL_law_347 rfl (lv_at hl 4 rfl) ?_
      refine lv_aload_n hx hb dL_law_348 rfl (lv_at hl 6 rfl) ?_
      refine lv_iload hx hb dL_law_349 (lv_at hl 1 rfl) ?_
      refine lv_iconst (v := 1) hx hb dL_law_351 (by decide) ?_
      refine lv_iadd hx hb dL_law_352 ?_
      rw [show ((nI (6 * i)) + 1 : Int32) = nI ((6 * i) + 1) from nI_add (6 * i) 1]
      refine va_sld hx hb hX hbl hbA hS (show vp_in (nI ((6 * i) + 1)) L from ki_in (by omega) (by omega)) dL_law_353 ?_
      rw [show xs (nI ((6 * i) + 1)).toNatClampNeg = a1 from (congrArg xs (ki_cl (by omega))).trans ea1.symm]
      refine lv_aload_n hx hb dL_law_354 rfl (lv_at hl 6 rfl) ?_
      refine lv_iload hx hb dL_law_355 (lv_at hl 1 rfl) ?_
      refine lv_iconst (v := 2) hx hb dL_law_357 (by decide) ?_
      refine lv_iadd hx hb dL_law_358 ?_
      rw [show ((nI (6 * i)) + 2 : Int32) = nI ((6 * i) + 2) from nI_add (6 * i) 2]
      refine va_sld hx hb hX hbl hbA hS (show vp_in (nI ((6 * i) + 2)) L from ki_in (by omega) (by omega)) dL_law_359 ?_
      rw [show xs (nI ((6 * i) + 2)).toNatClampNeg = a2 from (congrArg xs (ki_cl (by omega))).trans ea2.symm]
      refine lv_if_eq (tgt := 367) hx hb dL_law_360 (by decide) (fun c_7 => ?_) (fun c_7 => ?_)
      · refine lv_iconst (v := 0) hx hb dL_law_367 (by decide) ?_
        rw [ej]
        refine kj_i (pmM _ _ _ _) (va_runV (As := [.int (nI j), .int 0]) (rest := []) ⟨hx, hb, hml, hown, htT⟩ (m_turn l D cA _ am r M n j hjn hI.n8 hI.h3 (hI.2.1 j hjn).2 0 (Or.inl rfl)) (cwV 2 htT (kg_V m_ml_L_137 m_im_X6_turn m_sl_X6_turn m_in_X6 m_cd_X6_turn) rfl rfl rfl (by decide +kernel) ⟨Nat.le_of_ble_eq_true rfl, Nat.le_of_ble_eq_true rfl⟩) (kj_V (pmM _ _ _ _) hK hP hD hTB (kj_rm (pmM _ _ _ _) hK hP)) rfl rfl hl.1 rfl (lv_room (Nat.le_of_ble_eq_true rfl)) dL_law_368 ⟨(by show _ ≤ 601024; omega), (by show _ ≤ 7293034; omega)⟩) hP hD hS hA (fun r_8 x_8 H locs hq_8 hP hD hS => ?_)
        have hP := kj_P (pmM _ _ _ _).symm hP
        have hD := kj_D (pmM _ _ _ _).symm hD
        rw [hq_8.1.trans (show M.2 11 j = 1 from (hI.2.1 j hjn).2.resolve_left (fun e => h90 (r9.trans e)))]
        rw [hq_8.2] at hP hD
        refine lv_istore (lv' := [(7, .int 1), (6, .int 0), (5, .int (nI (6 * i))), (4, .ref qd), (3, .ref qo), (2, .ref am), (1, .ref x), (0, .ref b)]) hx hb dL_law_371 hl (by decide) rfl (fun ls hl => ?_)
        refine lv_goto (tgt := 1750) hx hb dL_law_373 (by decide) ?_
        refine W.widen (k := c0 + 20) (n := s0 + 400) (by omega) (by omega) ?_
        exact hnext _ (mR (mS M 0 0) 11 j 0) _ _ _ _ _ _ _ _ _ _ hd0 (h.on (h.sw (by have := h.n8; omega) hja).1 (Or.inl rfl)) (INVR.on (hI.iS (k := 0) (v := 0) (by decide) (by decide)) hjn (Or.inl rfl)) ((hL9.m eqM.rf.s0).num h hjn hja (k := 9) (k' := 11) (v := 0) (by decide) (by decide) (by decide)) (hY.of rfl) (e1) (e2) hP hD hS (lv_sub hl [2, 3, 4, 5, 6, 7] rfl)
      · exact absurd c_1 c_7
  · refine lv_iconst (v := 1) hx hb dL_law_336 (by decide) ?_
    refine lv_goto (tgt := 341) hx hb dL_law_337 (by decide) ?_
    refine lv_aload_n hx hb dL_law_341 rfl (lv_at hl 2 rfl) ?_
    refine kj_i (pmJ _ _ _ _) (vx_runSW (As := [.ref x, .int a1, .int 1, .ref qo]) (rest := []) ⟨hx, hb, hml, hown, htT⟩ (w_turn l hst D cA _ S x qo fo n na hh cc ar ak h a1 1 (Or.inr rfl)) (vx_cwSW 4 htT (kg_SW m_ml_L_134 m_st_L_turn m_in_L m_cd_L_turn) rfl rfl rfl (by decide +kernel) ⟨Nat.le_of_ble_eq_true rfl, Nat.le_of_ble_eq_true rfl⟩) (kj_SX (pmJ _ _ _ _) hK hP hD hTB hTX hS hA) rfl rfl hl.1 rfl (lv_room (Nat.le_of_ble_eq_true rfl)) dL_law_342 ⟨(by show _ ≤ 601024; omega), (by show _ ≤ 7293034; omega)⟩) hP hD hS hA (fun r_9 x_9 H locs hq_9 hP hD hS => ?_)
    rw [List.append_assoc] at hP hD
    rcases hq_9 with ⟨er, hk0, eS⟩ | ⟨er, j, a, hjn, ej, hja, eS, ⟨h90, efo⟩ | ⟨h90, efo⟩⟩
    · rw [er]
      rw [eS] at hP hD
      refine lv_istore (lv' := [(6, .int 1), (5, .int (nI (6 * i))), (4, .ref qd), (3, .ref qo), (2, .ref am), (1, .ref x), (0, .ref b)]) hx hb dL_law_345 hl (by decide) rfl (fun ls hl => ?_)
      refine lv_aload_n hx hb dL_law_347 rfl (lv_at hl 4 rfl) ?_
      refine lv_aload_n hx hb dL_law_348 rfl (lv_at hl 6 rfl) ?_
      refine lv_iload hx hb dL_law_349 (lv_at hl 1 rfl) ?_
      refine lv_iconst (v := 1) hx hb dL_law_351 (by decide) ?_
      refine lv_iadd hx hb dL_law_352 ?_
      rw [show ((nI (6 * i)) + 1 : Int32) = nI ((6 * i) + 1) from nI_add (6 * i) 1]
      refine va_sld hx hb hX hbl hbA hS (show vp_in (nI ((6 * i) + 1)) L from ki_in (by omega) (by omega)) dL_law_353 ?_
      rw [show xs (nI ((6 * i) + 1)).toNatClampNeg = a1 from (congrArg xs (ki_cl (by omega))).trans ea1.symm]
      refine lv_aload_n hx hb dL_law_354 rfl (lv_at hl 6 rfl) ?_
      refine lv_iload hx hb dL_law_355 (lv_at hl 1 rfl) ?_
      refine lv_iconst (v := 2) hx hb dL_law_357 (by decide) ?_
      refine lv_iadd hx hb dL_law_358 ?_
      rw [show ((nI (6 * i)) + 2 : Int32) = nI ((6 * i) + 2) from nI_add (6 * i) 2]
      refine va_sld hx hb hX hbl hbA hS (show vp_in (nI ((6 * i) + 2)) L from ki_in (by omega) (by omega)) dL_law_359 ?_
      rw [show xs (nI ((6 * i) + 2)).toNatClampNeg = a2 from (congrArg xs (ki_cl (by omega))).trans ea2.symm]
      refine lv_if_eq (tgt := 367) hx hb dL_law_360 (by decide) (fun c_10 => ?_) (fun c_10 => ?_)
      · exact absurd c_10 c_1
      · refine lv_iconst (v := 1) hx hb dL_law_363 (by decide) ?_
        refine lv_goto (tgt := 368) hx hb dL_law_364 (by decide) ?_
        refine kj_i (pmM _ _ _ _) (va_runV (As := [.int a1, .int 1]) (rest := []) ⟨hx, hb, hml, hown, htT⟩ (m_turn_0 l D cA _ am r M a1 1 (by rw [hI.h3]; exact hk0)) (cwV 2 htT (kg_V m_ml_L_137 m_im_X6_turn m_sl_X6_turn m_in_X6 m_cd_X6_turn) rfl rfl rfl (by decide +kernel) ⟨Nat.le_of_ble_eq_true rfl, Nat.le_of_ble_eq_true rfl⟩) (kj_V (pmM _ _ _ _) hK hP hD hTB (kj_rm (pmM _ _ _ _) hK hP)) rfl rfl hl.1 rfl (lv_room (Nat.le_of_ble_eq_true rfl)) dL_law_368 ⟨(by show _ ≤ 601024; omega), (by show _ ≤ 7293034; omega)⟩) hP hD hS hA (fun r_11 x_11 H locs hq_11 hP hD hS => ?_)
        have hP := kj_P (pmM _ _ _ _).symm hP
        have hD := kj_D (pmM _ _ _ _).symm hD
        rw [hq_11.1]
        rw [hq_11.2] at hP hD
        refine lv_istore (lv' := [(7, .int 0), (6, .int 1), (5, .int (nI (6 * i))), (4, .ref qd), (3, .ref qo), (2, .ref am), (1, .ref x), (0, .ref b)]) hx hb dL_law_371 hl (by decide) rfl (fun ls hl => ?_)
        refine lv_goto (tgt := 1750) hx hb dL_law_373 (by decide) ?_
        refine W.widen (k := c0 + 20) (n := s0 + 400) (by omega) (by omega) ?_
        exact hnext _ (mS (mS M 0 0) 0 1) _ _ _ _ _ _ _ _ _ _ hd0 h ((hI.iS (k := 0) (v := 0) (by decide) (by decide)).iS (by decide) (by decide)) (hL9.m eqM.rf.s0.s0) (hY.of rfl) (e1) (e2) hP hD hS (lv_sub hl [2, 3, 4, 5, 6, 7] rfl)
    · rw [er]
      have r9 : gI S a 9 = M.2 11 j := hL9.rn hjn hja (q := (9, 11)) (by decide)
      rw [eS] at hP hD
      rw [efo] at hP hD
      refine lv_istore (lv' := [(6, .int 0), (5, .int (nI (6 * i))), (4, .ref qd), (3, .ref qo), (2, .ref am), (1, .ref x), (0, .ref b)]) hx hb dL_law_345 hl (by decide) rfl (fun ls hl => ?_)
      refine lv_aload_n hx hb dL_law_347 rfl (lv_at hl 4 rfl) ?_
      refine lv_aload_n hx hb dL_law_348 rfl (lv_at hl 6 rfl) ?_
      refine lv_iload hx hb dL_law_349 (lv_at hl 1 rfl) ?_
      refine lv_iconst (v := 1) hx hb dL_law_351 (by decide) ?_
      refine lv_iadd hx hb dL_law_352 ?_
      rw [show ((nI (6 * i)) + 1 : Int32) = nI ((6 * i) + 1) from nI_add (6 * i) 1]
      refine va_sld hx hb hX hbl hbA hS (show vp_in (nI ((6 * i) + 1)) L from ki_in (by omega) (by omega)) dL_law_353 ?_
      rw [show xs (nI ((6 * i) + 1)).toNatClampNeg = a1 from (congrArg xs (ki_cl (by omega))).trans ea1.symm]
      refine lv_aload_n hx hb dL_law_354 rfl (lv_at hl 6 rfl) ?_
      refine lv_iload hx hb dL_law_355 (lv_at hl 1 rfl) ?_
      refine lv_iconst (v := 2) hx hb dL_law_357 (by decide) ?_
      refine lv_iadd hx hb dL_law_358 ?_
      rw [show ((nI (6 * i)) + 2 : Int32) = nI ((6 * i) + 2) from nI_add (6 * i) 2]
      refine va_sld hx hb hX hbl hbA hS (show vp_in (nI ((6 * i) + 2)) L from ki_in (by omega) (by omega)) dL_law_359 ?_
      rw [show xs (nI ((6 * i) + 2)).toNatClampNeg = a2 from (congrArg xs (ki_cl (by omega))).trans ea2.symm]
      refine lv_if_eq (tgt := 367) hx hb dL_law_360 (by decide) (fun c_12 => ?_) (fun c_12 => ?_)
      · exact absurd c_12 c_1
      · refine lv_iconst (v := 1) hx hb dL_law_363 (by decide) ?_
        refine lv_goto (tgt := 368) hx hb dL_law_364 (by decide) ?_
        rw [ej]
        refine kj_i (pmM _ _ _ _) (va_runV (As := [.int (nI j), .int 1]) (rest := []) ⟨hx, hb, hml, hown, htT⟩ (m_turn l D cA _ am r M n j hjn hI.n8 hI.h3 (hI.2.1 j hjn).2 1 (Or.inr rfl)) (cwV 2 htT (kg_V m_ml_L_137 m_im_X6_turn m_sl_X6_turn m_in_X6 m_cd_X6_turn) rfl rfl rfl (by decide +kernel) ⟨Nat.le_of_ble_eq_true rfl, Nat.le_of_ble_eq_true rfl⟩) (kj_V (pmM _ _ _ _) hK hP hD hTB (kj_rm (pmM _ _ _ _) hK hP)) rfl rfl hl.1 rfl (lv_room (Nat.le_of_ble_eq_true rfl)) dL_law_368 ⟨(by show _ ≤ 601024; omega), (by show _ ≤ 7293034; omega)⟩) hP hD hS hA (fun r_13 x_13 H locs hq_13 hP hD hS => ?_)
        have hP := kj_P (pmM _ _ _ _).symm hP
        have hD := kj_D (pmM _ _ _ _).symm hD
        rw [hq_13.1.trans (show M.2 11 j = 0 from r9.symm.trans h90)]
        rw [hq_13.2] at hP hD
        refine lv_istore (lv' := [(7, .int 0), (6, .int 0), (5, .int (nI (6 * i))), (4, .ref qd), (3, .ref qo), (2, .ref am), (1, .ref x), (0, .ref b)]) hx hb dL_law_371 hl (by decide) rfl (fun ls hl => ?_)
        refine lv_goto (tgt := 1750) hx hb dL_law_373 (by decide) ?_
        refine W.widen (k := c0 + 20) (n := s0 + 400) (by omega) (by omega) ?_
        exact hnext _ (mR (mS M 0 0) 11 j 1) _ _ _ _ _ _ _ _ _ _ hd0 (h.on (h.sw (by have := h.n8; omega) hja).1 (Or.inr rfl)) (INVR.on (hI.iS (k := 0) (v := 0) (by decide) (by decide)) hjn (Or.inr rfl)) ((hL9.m eqM.rf.s0).num h hjn hja (k := 9) (k' := 11) (v := 1) (by decide) (by decide) (by decide)) (hY.of rfl) (e1) (e2) hP hD hS (lv_sub hl [2, 3, 4, 5, 6, 7] rfl)
    · rw [er]
      have r9 : gI S a 9 = M.2 11 j := hL9.rn hjn hja (q := (9, 11)) (by decide)
      rw [eS] at hP hD
      rw [efo] at hP hD
      refine lv_istore (lv' := [(6, .int 0), (5, .int (nI (6 * i))), (4, .ref qd), (3, .ref qo), (2, .ref am), (1, .ref x), (0, .ref b)]) hx hb dL_law_345 hl (by decide) rfl (fun ls hl => ?_)
      refine lv_aload_n hx hb dL_law_347 rfl (lv_at hl 4 rfl) ?_
      refine lv_aload_n hx hb dL_law_348 rfl (lv_at hl 6 rfl) ?_
      refine lv_iload hx hb dL_law_349 (lv_at hl 1 rfl) ?_
      refine lv_iconst (v := 1) hx hb dL_law_351 (by decide) ?_
      refine lv_iadd hx hb dL_law_352 ?_
      rw [show ((nI (6 * i)) + 1 : Int32) = nI ((6 * i) + 1) from nI_add (6 * i) 1]
      refine va_sld hx hb hX hbl hbA hS (show vp_in (nI ((6 * i) + 1)) L from ki_in (by omega) (by omega)) dL_law_353 ?_
      rw [show xs (nI ((6 * i) + 1)).toNatClampNeg = a1 from (congrArg xs (ki_cl (by omega))).trans ea1.symm]
      refine lv_aload_n hx hb dL_law_354 rfl (lv_at hl 6 rfl) ?_
      refine lv_iload hx hb dL_law_355 (lv_at hl 1 rfl) ?_
      refine lv_iconst (v := 2) hx hb dL_law_357 (by decide) ?_
      refine lv_iadd hx hb dL_law_358 ?_
      rw [show ((nI (6 * i)) + 2 : Int32) = nI ((6 * i) + 2) from nI_add (6 * i) 2]
      refine va_sld hx hb hX hbl hbA hS (show vp_in (nI ((6 * i) + 2)) L from ki_in (by omega) (by omega)) dL_law_359 ?_
      rw [show xs (nI ((6 * i) + 2)).toNatClampNeg = a2 from (congrArg xs (ki_cl (by omega))).trans ea2.symm]
      refine lv_if_eq (tgt := 367) hx hb dL_law_360 (by decide) (fun c_14 => ?_) (fun c_14 => ?_)
      · exact absurd c_14 c_1
      · refine lv_iconst (v := 1) hx hb dL_law_363 (by decide) ?_
        refine lv_goto (tgt := 368) hx hb dL_law_364 (by decide) ?_
        rw [ej]
        refine kj_i (pmM _ _ _ _) (va_runV (As := [.int (nI j), .int 1]) (rest := []) ⟨hx, hb, hml, hown, htT⟩ (m_turn l D cA _ am r M n j hjn hI.n8 hI.h3 (hI.2.1 j hjn).2 1 (Or.inr rfl)) (cwV 2 htT (kg_V m_ml_L_137 m_im_X6_turn m_sl_X6_turn m_in_X6 m_cd_X6_turn) rfl rfl rfl (by decide +kernel) ⟨Nat.le_of_ble_eq_true rfl, Nat.le_of_ble_eq_true rfl⟩) (kj_V (pmM _ _ _ _) hK hP hD hTB (kj_rm (pmM _ _ _ _) hK hP)) rfl rfl hl.1 rfl (lv_room (Nat.le_of_ble_eq_true rfl)) dL_law_368 ⟨(by show _ ≤ 601024; omega), (by show _ ≤ 7293034; omega)⟩) hP hD hS hA (fun r_15 x_15 H locs hq_15 hP hD hS => ?_)
        have hP := kj_P (pmM _ _ _ _).symm hP
        have hD := kj_D (pmM _ _ _ _).symm hD
        rw [hq_15.1.trans (show M.2 11 j = 1 from (hI.2.1 j hjn).2.resolve_left (fun e => h90 (r9.trans e)))]
        rw [hq_15.2] at hP hD
        refine lv_istore (lv' := [(7, .int 1), (6, .int 0), (5, .int (nI (6 * i))), (4, .ref qd), (3, .ref qo), (2, .ref am), (1, .ref x), (0, .ref b)]) hx hb dL_law_371 hl (by decide) rfl (fun ls hl => ?_)
        refine lv_goto (tgt := 1750) hx hb dL_law_373 (by decide) ?_
        refine W.widen (k := c0 + 20) (n := s0 + 400) (by omega) (by omega) ?_
        exact hnext _ (mR (mS M 0 0) 11 j 1) _ _ _ _ _ _ _ _ _ _ hd0 (h.on (h.sw (by have := h.n8; omega) hja).1 (Or.inr rfl)) (INVR.on (hI.iS (k := 0) (v := 0) (by decide) (by decide)) hjn (Or.inr rfl)) ((hL9.m eqM.rf.s0).num h hjn hja (k := 9) (k' := 11) (v := 1) (by decide) (by decide) (by decide)) (hY.of rfl) (e1) (e2) hP hD hS (lv_sub hl [2, 3, 4, 5, 6, 7] rfl)

set_option maxRecDepth 100000 in
set_option maxHeartbeats 4000000 in
theorem law_ramp (l : Launch) (hst : l.stackTraces = false) {p : Program} {e : Env} {s : State} {m : MethodId} {below : List Frame} {meth : Method} {c : Code} {b L : Nat} {xs : Nat → Int32} (C0 : lw_At p s m meth c b L xs) {D : va_G} {cA : Nat → ClassId} (hK : va_K D vwCl (ty6 cA) s) (hTB : TBok s) (hTX : TXok (fun q : Nat => s.heap.size ≤ q) s) {x ar ak qo qd am : Nat} {r : Nat → Nat} {c0 s0 i : Nat} (hc0 : c0 + 20 ≤ 601024) (hs0 : s0 + 400 ≤ 7293034) (hi : 6 * i + 6 ≤ L) (hL : L ≤ 3072) (hnext : ∀ (S : Pool) (M : MSt) (fo : Nat → Int64) (fd : Nat → UInt64) (n na : Nat) (hh cc : Int32) (H : Heap) (locs : List Loc) (ls : Array Slot) (d : Drawn), s.drawn.sameBut d lw_cs → INVC n na hh cc S x ar ak → INVR n na M → REL True n na S M ar → LAY n M → M.1 1 = cc → M.1 2 = hh → va_P D vwCl (LW cA S qo fo qd fd am r M) H → va_D (fun q : Nat => s.heap.size ≤ q) (LW cA S qo fo qd fd am r M) → va_S (fun q : Nat => s.heap.size ≤ q) s.heap H locs → lv_has ls 9 [(5, .int (nI (6 * i))), (4, .ref qd), (3, .ref qo), (2, .ref am), (1, .ref x), (0, .ref b)] → W p l e room_1 (s.setDrawn d) m #[Value.ref b] below meth c H locs (c0 + 20) (s0 + 400) (lw_Z below #[Value.ref b] s) (F0 m 1750 ls [])) {S : Pool} {M : MSt} {fo : Nat → Int64} {fd : Nat → UInt64} {n na : Nat} {hh cc : Int32} {H : Heap} {locs : List Loc} {ls : Array Slot} {d : Drawn} (hd0 : s.drawn.sameBut d lw_cs) (h : INVC n na hh cc S x ar ak) (hI : INVR n na M) (hL9 : REL True n na S M ar) (hY : LAY n M) (e1 : M.1 1 = cc) (e2 : M.1 2 = hh) (hP : va_P D vwCl (LW cA S qo fo qd fd am r M) H) (hD : va_D (fun q : Nat => s.heap.size ≤ q) (LW cA S qo fo qd fd am r M)) (hS : va_S (fun q : Nat => s.heap.size ≤ q) s.heap H locs) (hl : lv_has ls 9 [(5, .int (nI (6 * i))), (4, .ref qd), (3, .ref qo), (2, .ref am), (1, .ref x), (0, .ref b)]) : W p l e room_1 (s.setDrawn d) m #[Value.ref b] below meth c H locs c0 s0 (lw_Z below #[Value.ref b] s) (F0 m 376 ls []) := by
  obtain ⟨hx, hb, hr, hml, hown, hts, hX, hbl, hlocks, hgv⟩ := id C0
  have hA : ∀ q : Nat, s.heap.size ≤ q → (fun q : Nat => s.heap.size ≤ q) q := fun _ h => h
  have hbA : ¬ (fun q : Nat => s.heap.size ≤ q) b := Nat.not_le.mpr hbl
  obtain ⟨a1, ea1⟩ : ∃ z, z = xs (6 * i + 1) := ⟨_, rfl⟩
  obtain ⟨a2, ea2⟩ : ∃ z, z = xs (6 * i + 2) := ⟨_, rfl⟩
  obtain ⟨a3, ea3⟩ : ∃ z, z = xs (6 * i + 3) := ⟨_, rfl⟩
  obtain ⟨a4, ea4⟩ : ∃ z, z = xs (6 * i + 4) := ⟨_, rfl⟩
  obtain ⟨a5, ea5⟩ : ∃ z, z = xs (6 * i + 5) := ⟨_, rfl⟩
  have htT0 : ∀ w ∈ TT, w.before _ s = true := fun w h => hts w (tt_in h)
  have hTB0 := hTB
  have hK0 := hK
  have hown0 : s.vm.findClass RL = some m.cls := hown
  have hTX0 := hTX
  have hX0 := hX
  have htT : ∀ w ∈ TT, w.before _ (s.setDrawn d) = true := dr_words htT0 d
  have hTB : TBok (s.setDrawn d) := TBok.same (u := s) (U := s.setDrawn d) rfl (Vm.Alike.refl s.vm) hTB0
  have hK : va_K D vwCl (ty6 cA) (s.setDrawn d) := hK0
  have hown : (s.setDrawn d).vm.findClass RL = some m.cls := hown0
  have hTX : TXok (fun q : Nat => s.heap.size ≤ q) (s.setDrawn d) := hTX0.dr d
  have hX : va_X b L xs (s.setDrawn d) (s.setDrawn d).heap := hX0
  refine lv_aload_n hx hb dL_law_376 rfl (lv_at hl 4 rfl) ?_
  refine lv_aload_n hx hb dL_law_377 rfl (lv_at hl 5 rfl) ?_
  refine lv_iload hx hb dL_law_378 (lv_at hl 0 rfl) ?_
  refine lv_iconst (v := 1) hx hb dL_law_380 (by decide) ?_
  refine lv_iadd hx hb dL_law_381 ?_
  rw [show ((nI (6 * i)) + 1 : Int32) = nI ((6 * i) + 1) from nI_add (6 * i) 1]
  refine va_sld hx hb hX hbl hbA hS (show vp_in (nI ((6 * i) + 1)) L from ki_in (by omega) (by omega)) dL_law_382 ?_
  rw [show xs (nI ((6 * i) + 1)).toNatClampNeg = a1 from (congrArg xs (ki_cl (by omega))).trans ea1.symm]
  refine lv_aload_n hx hb dL_law_383 rfl (lv_at hl 5 rfl) ?_
  refine lv_iload hx hb dL_law_384 (lv_at hl 0 rfl) ?_
  refine lv_iconst (v := 2) hx hb dL_law_386 (by decide) ?_
  refine lv_iadd hx hb dL_law_387 ?_
  rw [show ((nI (6 * i)) + 2 : Int32) = nI ((6 * i) + 2) from nI_add (6 * i) 2]
  refine va_sld hx hb hX hbl hbA hS (show vp_in (nI ((6 * i) + 2)) L from ki_in (by omega) (by omega)) dL_law_388 ?_
  rw [show xs (nI ((6 * i) + 2)).toNatClampNeg = a2 from (congrArg xs (ki_cl (by omega))).trans ea2.symm]
  refine lv_aload_n hx hb dL_law_389 rfl (lv_at hl 5 rfl) ?_
  refine lv_iload hx hb dL_law_390 (lv_at hl 0 rfl) ?_
  refine lv_iconst (v := 3) hx hb dL_law_392 (by decide) ?_
  refine lv_iadd hx hb dL_law_393 ?_
  rw [show ((nI (6 * i)) + 3 : Int32) = nI ((6 * i) + 3) from nI_add (6 * i) 3]
  refine va_sld hx hb hX hbl hbA hS (show vp_in (nI ((6 * i) + 3)) L from ki_in (by omega) (by omega)) dL_law_394 ?_
  rw [show xs (nI ((6 * i) + 3)).toNatClampNeg = a3 from (congrArg xs (ki_cl (by omega))).trans ea3.symm]
  refine lv_aload_n hx hb dL_law_395 rfl (lv_at hl 2 rfl) ?_
  refine kj_i (pmJ _ _ _ _) (vx_runSW (As := [.ref x, .int a1, .int a2, .int a3, .ref qo]) (rest := []) ⟨hx, hb, hml, hown, htT⟩ (w_ramp l hst D cA _ S x qo fo n na hh cc ar ak h a1 a2 a3) (vx_cwSW 5 htT (kg_SW m_ml_L_138 m_st_L_ramp m_in_L m_cd_L_ramp) rfl rfl rfl (by decide +kernel) ⟨Nat.le_of_ble_eq_true rfl, Nat.le_of_ble_eq_true rfl⟩) (kj_SX (pmJ _ _ _ _) hK hP hD hTB hTX hS hA) rfl rfl hl.1 rfl (lv_room (Nat.le_of_ble_eq_true rfl)) dL_law_396 ⟨(by show _ ≤ 601024; omega), (by show _ ≤ 7293034; omega)⟩) hP hD hS hA (fun r_1 x_1 H locs hq_1 hP hD hS => ?_)
  rw [List.append_assoc] at hP hD
  rcases hq_1 with ⟨er, hk0, eS⟩ | ⟨er, j, a, hjn, ej, hja, h1, eS⟩ | ⟨er, j, a, hjn, ej, hja, h1, h2, eS⟩ | ⟨er, j, a, hjn, ej, hja, h1, h2, eS, efo⟩
  · rw [er]
    rw [eS] at hP hD
    refine lv_istore (lv' := [(6, .int 1), (5, .int (nI (6 * i))), (4, .ref qd), (3, .ref qo), (2, .ref am), (1, .ref x), (0, .ref b)]) hx hb dL_law_399 hl (by decide) rfl (fun ls hl => ?_)
    refine lv_aload_n hx hb dL_law_401 rfl (lv_at hl 4 rfl) ?_
    refine lv_aload_n hx hb dL_law_402 rfl (lv_at hl 6 rfl) ?_
    refine lv_iload hx hb dL_law_403 (lv_at hl 1 rfl) ?_
    refine lv_iconst (v := 1) hx hb dL_law_405 (by decide) ?_
    refine lv_iadd hx hb dL_law_406 ?_
    rw [show ((nI (6 * i)) + 1 : Int32) = nI ((6 * i) + 1) from nI_add (6 * i) 1]
    refine va_sld hx hb hX hbl hbA hS (show vp_in (nI ((6 * i) + 1)) L from ki_in (by omega) (by omega)) dL_law_407 ?_
    rw [show xs (nI ((6 * i) + 1)).toNatClampNeg = a1 from (congrArg xs (ki_cl (by omega))).trans ea1.symm]
    refine lv_aload_n hx hb dL_law_408 rfl (lv_at hl 6 rfl) ?_
    refine lv_iload hx hb dL_law_409 (lv_at hl 1 rfl) ?_
    refine lv_iconst (v := 2) hx hb dL_law_411 (by decide) ?_
    refine lv_iadd hx hb dL_law_412 ?_
    rw [show ((nI (6 * i)) + 2 : Int32) = nI ((6 * i) + 2) from nI_add (6 * i) 2]
    refine va_sld hx hb hX hbl hbA hS (show vp_in (nI ((6 * i) + 2)) L from ki_in (by omega) (by omega)) dL_law_413 ?_
    rw [show xs (nI ((6 * i) + 2)).toNatClampNeg = a2 from (congrArg xs (ki_cl (by omega))).trans ea2.symm]
    refine lv_aload_n hx hb dL_law_414 rfl (lv_at hl 6 rfl) ?_
    refine lv_iload hx hb dL_law_415 (lv_at hl 1 rfl) ?_
    refine lv_iconst (v := 3) hx hb dL_law_417 (by decide) ?_
    refine lv_iadd hx hb dL_law_418 ?_
    rw [show ((nI (6 * i)) + 3 : Int32) = nI ((6 * i) + 3) from nI_add (6 * i) 3]
    refine va_sld hx hb hX hbl hbA hS (show vp_in (nI ((6 * i) + 3)) L from ki_in (by omega) (by omega)) dL_law_419 ?_
    rw [show xs (nI ((6 * i) + 3)).toNatClampNeg = a3 from (congrArg xs (ki_cl (by omega))).trans ea3.symm]
    refine kj_i (pmM _ _ _ _) (va_runV (As := [.int a1, .int a2, .int a3]) (rest := []) ⟨hx, hb, hml, hown, htT⟩ (m_ramp_0 l D cA _ am r M a1 a2 a3 (by rw [hI.h3]; exact hk0)) (cwV 3 htT (kg_V m_ml_L_140 m_im_X6_ramp m_sl_X6_ramp m_in_X6 m_cd_X6_ramp) rfl rfl rfl (by decide +kernel) ⟨Nat.le_of_ble_eq_true rfl, Nat.le_of_ble_eq_true rfl⟩) (kj_V (pmM _ _ _ _) hK hP hD hTB (kj_rm (pmM _ _ _ _) hK hP)) rfl rfl hl.1 rfl (lv_room (Nat.le_of_ble_eq_true rfl)) dL_law_420 ⟨(by show _ ≤ 601024; omega), (by show _ ≤ 7293034; omega)⟩) hP hD hS hA (fun r_2 x_2 H locs hq_2 hP hD hS => ?_)
    have hP := kj_P (pmM _ _ _ _).symm hP
    have hD := kj_D (pmM _ _ _ _).symm hD
    rw [hq_2.1]
    rw [hq_2.2] at hP hD
    refine lv_istore (lv' := [(7, .int 0), (6, .int 1), (5, .int (nI (6 * i))), (4, .ref qd), (3, .ref qo), (2, .ref am), (1, .ref x), (0, .ref b)]) hx hb dL_law_423 hl (by decide) rfl (fun ls hl => ?_)
    refine lv_goto (tgt := 1750) hx hb dL_law_425 (by decide) ?_
    refine W.widen (k := c0 + 20) (n := s0 + 400) (by omega) (by omega) ?_
    exact hnext _ (mS (mS M 0 0) 0 1) _ _ _ _ _ _ _ _ _ _ hd0 h ((hI.iS (k := 0) (v := 0) (by decide) (by decide)).iS (by decide) (by decide)) (hL9.m eqM.rf.s0.s0) (hY.of rfl) (e1) (e2) hP hD hS (lv_sub hl [2, 3, 4, 5, 6, 7] rfl)
  · rw [er]
    rw [eS] at hP hD
    refine lv_istore (lv' := [(6, .int 2), (5, .int (nI (6 * i))), (4, .ref qd), (3, .ref qo), (2, .ref am), (1, .ref x), (0, .ref b)]) hx hb dL_law_399 hl (by decide) rfl (fun ls hl => ?_)
    refine lv_aload_n hx hb dL_law_401 rfl (lv_at hl 4 rfl) ?_
    refine lv_aload_n hx hb dL_law_402 rfl (lv_at hl 6 rfl) ?_
    refine lv_iload hx hb dL_law_403 (lv_at hl 1 rfl) ?_
    refine lv_iconst (v := 1) hx hb dL_law_405 (by decide) ?_
    refine lv_iadd hx hb dL_law_406 ?_
    rw [show ((nI (6 * i)) + 1 : Int32) = nI ((6 * i) + 1) from nI_add (6 * i) 1]
    refine va_sld hx hb hX hbl hbA hS (show vp_in (nI ((6 * i) + 1)) L from ki_in (by omega) (by omega)) dL_law_407 ?_
    rw [show xs (nI ((6 * i) + 1)).toNatClampNeg = a1 from (congrArg xs (ki_cl (by omega))).trans ea1.symm]
    refine lv_aload_n hx hb dL_law_408 rfl (lv_at hl 6 rfl) ?_
    refine lv_iload hx hb dL_law_409 (lv_at hl 1 rfl) ?_
    refine lv_iconst (v := 2) hx hb dL_law_411 (by decide) ?_
    refine lv_iadd hx hb dL_law_412 ?_
    rw [show ((nI (6 * i)) + 2 : Int32) = nI ((6 * i) + 2) from nI_add (6 * i) 2]
    refine va_sld hx hb hX hbl hbA hS (show vp_in (nI ((6 * i) + 2)) L from ki_in (by omega) (by omega)) dL_law_413 ?_
    rw [show xs (nI ((6 * i) + 2)).toNatClampNeg = a2 from (congrArg xs (ki_cl (by omega))).trans ea2.symm]
    refine lv_aload_n hx hb dL_law_414 rfl (lv_at hl 6 rfl) ?_
    refine lv_iload hx hb dL_law_415 (lv_at hl 1 rfl) ?_
    refine lv_iconst (v := 3) hx hb dL_law_417 (by decide) ?_
    refine lv_iadd hx hb dL_law_418 ?_
    rw [show ((nI (6 * i)) + 3 : Int32) = nI ((6 * i) + 3) from nI_add (6 * i) 3]
    refine va_sld hx hb hX hbl hbA hS (show vp_in (nI ((6 * i) + 3)) L from ki_in (by omega) (by omega)) dL_law_419 ?_
    rw [show xs (nI ((6 * i) + 3)).toNatClampNeg = a3 from (congrArg xs (ki_cl (by omega))).trans ea3.symm]
    rw [ej]
    refine kj_i (pmM _ _ _ _) (va_runV (As := [.int (nI j), .int a2, .int a3]) (rest := []) ⟨hx, hb, hml, hown, htT⟩ (m_ramp_1 l D cA _ am r M n j hjn hI.n8 hI.h3 a2 a3 (kIn_out0.mpr h1)) (cwV 3 htT (kg_V m_ml_L_140 m_im_X6_ramp m_sl_X6_ramp m_in_X6 m_cd_X6_ramp) rfl rfl rfl (by decide +kernel) ⟨Nat.le_of_ble_eq_true rfl, Nat.le_of_ble_eq_true rfl⟩) (kj_V (pmM _ _ _ _) hK hP hD hTB (kj_rm (pmM _ _ _ _) hK hP)) rfl rfl hl.1 rfl (lv_room (Nat.le_of_ble_eq_true rfl)) dL_law_420 ⟨(by show _ ≤ 601024; omega), (by show _ ≤ 7293034; omega)⟩) hP hD hS hA (fun r_3 x_3 H locs hq_3 hP hD hS => ?_)
    have hP := kj_P (pmM _ _ _ _).symm hP
    have hD := kj_D (pmM _ _ _ _).symm hD
    rw [hq_3.1]
    rw [hq_3.2] at hP hD
    refine lv_istore (lv' := [(7, .int 0), (6, .int 2), (5, .int (nI (6 * i))), (4, .ref qd), (3, .ref qo), (2, .ref am), (1, .ref x), (0, .ref b)]) hx hb dL_law_423 hl (by decide) rfl (fun ls hl => ?_)
    refine lv_goto (tgt := 1750) hx hb dL_law_425 (by decide) ?_
    refine W.widen (k := c0 + 20) (n := s0 + 400) (by omega) (by omega) ?_
    exact hnext _ (mS (mS M 0 0) 0 2) _ _ _ _ _ _ _ _ _ _ hd0 h ((hI.iS (k := 0) (v := 0) (by decide) (by decide)).iS (by decide) (by decide)) (hL9.m eqM.rf.s0.s0) (hY.of rfl) (e1) (e2) hP hD hS (lv_sub hl [2, 3, 4, 5, 6, 7] rfl)
  · rw [er]
    rw [eS] at hP hD
    refine lv_istore (lv' := [(6, .int 2), (5, .int (nI (6 * i))), (4, .ref qd), (3, .ref qo), (2, .ref am), (1, .ref x), (0, .ref b)]) hx hb dL_law_399 hl (by decide) rfl (fun ls hl => ?_)
    refine lv_aload_n hx hb dL_law_401 rfl (lv_at hl 4 rfl) ?_
    refine lv_aload_n hx hb dL_law_402 rfl (lv_at hl 6 rfl) ?_
    refine lv_iload hx hb dL_law_403 (lv_at hl 1 rfl) ?_
    refine lv_iconst (v := 1) hx hb dL_law_405 (by decide) ?_
    refine lv_iadd hx hb dL_law_406 ?_
    rw [show ((nI (6 * i)) + 1 : Int32) = nI ((6 * i) + 1) from nI_add (6 * i) 1]
    refine va_sld hx hb hX hbl hbA hS (show vp_in (nI ((6 * i) + 1)) L from ki_in (by omega) (by omega)) dL_law_407 ?_
    rw [show xs (nI ((6 * i) + 1)).toNatClampNeg = a1 from (congrArg xs (ki_cl (by omega))).trans ea1.symm]
    refine lv_aload_n hx hb dL_law_408 rfl (lv_at hl 6 rfl) ?_
    refine lv_iload hx hb dL_law_409 (lv_at hl 1 rfl) ?_
    refine lv_iconst (v := 2) hx hb dL_law_411 (by decide) ?_
    refine lv_iadd hx hb dL_law_412 ?_
    rw [show ((nI (6 * i)) + 2 : Int32) = nI ((6 * i) + 2) from nI_add (6 * i) 2]
    refine va_sld hx hb hX hbl hbA hS (show vp_in (nI ((6 * i) + 2)) L from ki_in (by omega) (by omega)) dL_law_413 ?_
    rw [show xs (nI ((6 * i) + 2)).toNatClampNeg = a2 from (congrArg xs (ki_cl (by omega))).trans ea2.symm]
    refine lv_aload_n hx hb dL_law_414 rfl (lv_at hl 6 rfl) ?_
    refine lv_iload hx hb dL_law_415 (lv_at hl 1 rfl) ?_
    refine lv_iconst (v := 3) hx hb dL_law_417 (by decide) ?_
    refine lv_iadd hx hb dL_law_418 ?_
    rw [show ((nI (6 * i)) + 3 : Int32) = nI ((6 * i) + 3) from nI_add (6 * i) 3]
    refine va_sld hx hb hX hbl hbA hS (show vp_in (nI ((6 * i) + 3)) L from ki_in (by omega) (by omega)) dL_law_419 ?_
    rw [show xs (nI ((6 * i) + 3)).toNatClampNeg = a3 from (congrArg xs (ki_cl (by omega))).trans ea3.symm]
    rw [ej]
    refine kj_i (pmM _ _ _ _) (va_runV (As := [.int (nI j), .int a2, .int a3]) (rest := []) ⟨hx, hb, hml, hown, htT⟩ (m_ramp_2 l D cA _ am r M n j hjn hI.n8 hI.h3 a2 a3 (kIn_out.mpr h1) (kIn_out0.mpr h2)) (cwV 3 htT (kg_V m_ml_L_140 m_im_X6_ramp m_sl_X6_ramp m_in_X6 m_cd_X6_ramp) rfl rfl rfl (by decide +kernel) ⟨Nat.le_of_ble_eq_true rfl, Nat.le_of_ble_eq_true rfl⟩) (kj_V (pmM _ _ _ _) hK hP hD hTB (kj_rm (pmM _ _ _ _) hK hP)) rfl rfl hl.1 rfl (lv_room (Nat.le_of_ble_eq_true rfl)) dL_law_420 ⟨(by show _ ≤ 601024; omega), (by show _ ≤ 7293034; omega)⟩) hP hD hS hA (fun r_4 x_4 H locs hq_4 hP hD hS => ?_)
    have hP := kj_P (pmM _ _ _ _).symm hP
    have hD := kj_D (pmM _ _ _ _).symm hD
    rw [hq_4.1]
    rw [hq_4.2] at hP hD
    refine lv_istore (lv' := [(7, .int 0), (6, .int 2), (5, .int (nI (6 * i))), (4, .ref qd), (3, .ref qo), (2, .ref am), (1, .ref x), (0, .ref b)]) hx hb dL_law_423 hl (by decide) rfl (fun ls hl => ?_)
    refine lv_goto (tgt := 1750) hx hb dL_law_425 (by decide) ?_
    refine W.widen (k := c0 + 20) (n := s0 + 400) (by omega) (by omega) ?_
    exact hnext _ (mS (mS M 0 0) 0 2) _ _ _ _ _ _ _ _ _ _ hd0 h ((hI.iS (k := 0) (v := 0) (by decide) (by decide)).iS (by decide) (by decide)) (hL9.m eqM.rf.s0.s0) (hY.of rfl) (e1) (e2) hP hD hS (lv_sub hl [2, 3, 4, 5, 6, 7] rfl)
  · rw [er]
    rw [show gI S x 5 = M.1 1 from h.x5.trans e1.symm] at eS
    rw [show cFar S a (gI S x 5) = rFar M.2 j (M.1 1) from (far_eq (clk := gI S x 5) (hL9.rn hjn hja (q := (10, 7)) (by decide)) (hL9.rn hjn hja (q := (11, 8)) (by decide)) (hL9.1 j hjn a hja).2.2.2.2).trans (congrArg (rFar M.2 j) (h.x5.trans e1.symm))] at efo
    rw [eS] at hP hD
    rw [efo] at hP hD
    refine lv_istore (lv' := [(6, .int 0), (5, .int (nI (6 * i))), (4, .ref qd), (3, .ref qo), (2, .ref am), (1, .ref x), (0, .ref b)]) hx hb dL_law_399 hl (by decide) rfl (fun ls hl => ?_)
    refine lv_aload_n hx hb dL_law_401 rfl (lv_at hl 4 rfl) ?_
    refine lv_aload_n hx hb dL_law_402 rfl (lv_at hl 6 rfl) ?_
    refine lv_iload hx hb dL_law_403 (lv_at hl 1 rfl) ?_
    refine lv_iconst (v := 1) hx hb dL_law_405 (by decide) ?_
    refine lv_iadd hx hb dL_law_406 ?_
    rw [show ((nI (6 * i)) + 1 : Int32) = nI ((6 * i) + 1) from nI_add (6 * i) 1]
    refine va_sld hx hb hX hbl hbA hS (show vp_in (nI ((6 * i) + 1)) L from ki_in (by omega) (by omega)) dL_law_407 ?_
    rw [show xs (nI ((6 * i) + 1)).toNatClampNeg = a1 from (congrArg xs (ki_cl (by omega))).trans ea1.symm]
    refine lv_aload_n hx hb dL_law_408 rfl (lv_at hl 6 rfl) ?_
    refine lv_iload hx hb dL_law_409 (lv_at hl 1 rfl) ?_
    refine lv_iconst (v := 2) hx hb dL_law_411 (by decide) ?_
    refine lv_iadd hx hb dL_law_412 ?_
    rw [show ((nI (6 * i)) + 2 : Int32) = nI ((6 * i) + 2) from nI_add (6 * i) 2]
    refine va_sld hx hb hX hbl hbA hS (show vp_in (nI ((6 * i) + 2)) L from ki_in (by omega) (by omega)) dL_law_413 ?_
    rw [show xs (nI ((6 * i) + 2)).toNatClampNeg = a2 from (congrArg xs (ki_cl (by omega))).trans ea2.symm]
    refine lv_aload_n hx hb dL_law_414 rfl (lv_at hl 6 rfl) ?_
    refine lv_iload hx hb dL_law_415 (lv_at hl 1 rfl) ?_
    refine lv_iconst (v := 3) hx hb dL_law_417 (by decide) ?_
    refine lv_iadd hx hb dL_law_418 ?_
    rw [show ((nI (6 * i)) + 3 : Int32) = nI ((6 * i) + 3) from nI_add (6 * i) 3]
    refine va_sld hx hb hX hbl hbA hS (show vp_in (nI ((6 * i) + 3)) L from ki_in (by omega) (by omega)) dL_law_419 ?_
    rw [show xs (nI ((6 * i) + 3)).toNatClampNeg = a3 from (congrArg xs (ki_cl (by omega))).trans ea3.symm]
    rw [ej]
    refine kj_i (pmM _ _ _ _) (va_runV (As := [.int (nI j), .int a2, .int a3]) (rest := []) ⟨hx, hb, hml, hown, htT⟩ (m_ramp l D cA _ am r M n j hjn hI.n8 hI.h3 a2 a3 (kIn_out.mpr h1) (kIn_out.mpr h2)) (cwV 3 htT (kg_V m_ml_L_140 m_im_X6_ramp m_sl_X6_ramp m_in_X6 m_cd_X6_ramp) rfl rfl rfl (by decide +kernel) ⟨Nat.le_of_ble_eq_true rfl, Nat.le_of_ble_eq_true rfl⟩) (kj_V (pmM _ _ _ _) hK hP hD hTB (kj_rm (pmM _ _ _ _) hK hP)) rfl rfl hl.1 rfl (lv_room (Nat.le_of_ble_eq_true rfl)) dL_law_420 ⟨(by show _ ≤ 601024; omega), (by show _ ≤ 7293034; omega)⟩) hP hD hS hA (fun r_5 x_5 H locs hq_5 hP hD hS => ?_)
    have hP := kj_P (pmM _ _ _ _).symm hP
    have hD := kj_D (pmM _ _ _ _).symm hD
    rw [hq_5.1]
    rw [hq_5.2] at hP hD
    refine lv_istore (lv' := [(7, .int (rFar M.2 j (M.1 1))), (6, .int 0), (5, .int (nI (6 * i))), (4, .ref qd), (3, .ref qo), (2, .ref am), (1, .ref x), (0, .ref b)]) hx hb dL_law_423 hl (by decide) rfl (fun ls hl => ?_)
    refine lv_goto (tgt := 1750) hx hb dL_law_425 (by decide) ?_
    refine W.widen (k := c0 + 20) (n := s0 + 400) (by omega) (by omega) ?_
    exact hnext _ (mR (mR (mR (mS M 0 0) 7 j a2) 8 j a3) 9 j (M.1 1)) _ _ _ _ _ _ _ _ _ _ hd0 (((h.pIs (k := 10) (v := a2) (h.sw (by have := h.n8; omega) hja).1 (by decide)).pIs (k := 11) (v := a3) (h.sw (by have := h.n8; omega) hja).1 (by decide)).pIs (k := 12) (v := (M.1 1)) (h.sw (by have := h.n8; omega) hja).1 (by decide)) (INVR.iR (INVR.iR (INVR.iR (hI.iS (k := 0) (v := 0) (by decide) (by decide)) (by decide)) (by decide)) (by decide)) ((hL9.m eqM.rf.s0).ramp h hjn hja) (hY.of rfl) (e1) (e2) hP hD hS (lv_sub hl [2, 3, 4, 5, 6, 7] rfl)

set_option maxRecDepth 100000 in
set_option maxHeartbeats 4000000 in
theorem law_place (l : Launch) (hst : l.stackTraces = false) {p : Program} {e : Env} {s : State} {m : MethodId} {below : List Frame} {meth : Method} {c : Code} {b L : Nat} {xs : Nat → Int32} (C0 : lw_At p s m meth c b L xs) {D : va_G} {cA : Nat → ClassId} (hK : va_K D vwCl (ty6 cA) s) (hTB : TBok s) (hTX : TXok (fun q : Nat => s.heap.size ≤ q) s) {x ar ak qo qd am : Nat} {r : Nat → Nat} {c0 s0 i : Nat} (hc0 : c0 + 20 ≤ 601024) (hs0 : s0 + 400 ≤ 7293034) (hi : 6 * i + 6 ≤ L) (hL : L ≤ 3072) (hnext : ∀ (S : Pool) (M : MSt) (fo : Nat → Int64) (fd : Nat → UInt64) (n na : Nat) (hh cc : Int32) (H : Heap) (locs : List Loc) (ls : Array Slot) (d : Drawn), s.drawn.sameBut d lw_cs → INVC n na hh cc S x ar ak → INVR n na M → REL True n na S M ar → LAY n M → M.1 1 = cc → M.1 2 = hh → va_P D vwCl (LW cA S qo fo qd fd am r M) H → va_D (fun q : Nat => s.heap.size ≤ q) (LW cA S qo fo qd fd am r M) → va_S (fun q : Nat => s.heap.size ≤ q) s.heap H locs → lv_has ls 9 [(5, .int (nI (6 * i))), (4, .ref qd), (3, .ref qo), (2, .ref am), (1, .ref x), (0, .ref b)] → W p l e room_1 (s.setDrawn d) m #[Value.ref b] below meth c H locs (c0 + 20) (s0 + 400) (lw_Z below #[Value.ref b] s) (F0 m 1750 ls [])) {S : Pool} {M : MSt} {fo : Nat → Int64} {fd : Nat → UInt64} {n na : Nat} {hh cc : Int32} {H : Heap} {locs : List Loc} {ls : Array Slot} {d : Drawn} (hd0 : s.drawn.sameBut d lw_cs) (h : INVC n na hh cc S x ar ak) (hI : INVR n na M) (hL9 : REL True n na S M ar) (hY : LAY n M) (e1 : M.1 1 = cc) (e2 : M.1 2 = hh) (hP : va_P D vwCl (LW cA S qo fo qd fd am r M) H) (hD : va_D (fun q : Nat => s.heap.size ≤ q) (LW cA S qo fo qd fd am r M)) (hS : va_S (fun q : Nat => s.heap.size ≤ q) s.heap H locs) (hl : lv_has ls 9 [(5, .int (nI (6 * i))), (4, .ref qd), (3, .ref qo), (2, .ref am), (1, .ref x), (0, .ref b)]) : W p l e room_1 (s.setDrawn d) m #[Value.ref b] below meth c H locs c0 s0 (lw_Z below #[Value.ref b] s) (F0 m 428 ls []) := by
  obtain ⟨hx, hb, hr, hml, hown, hts, hX, hbl, hlocks, hgv⟩ := id C0
  have hA : ∀ q : Nat, s.heap.size ≤ q → (fun q : Nat => s.heap.size ≤ q) q := fun _ h => h
  have hbA : ¬ (fun q : Nat => s.heap.size ≤ q) b := Nat.not_le.mpr hbl
  obtain ⟨a1, ea1⟩ : ∃ z, z = xs (6 * i + 1) := ⟨_, rfl⟩
  obtain ⟨a2, ea2⟩ : ∃ z, z = xs (6 * i + 2) := ⟨_, rfl⟩
  obtain ⟨a3, ea3⟩ : ∃ z, z = xs (6 * i + 3) := ⟨_, rfl⟩
  obtain ⟨a4, ea4⟩ : ∃ z, z = xs (6 * i + 4) := ⟨_, rfl⟩
  obtain ⟨a5, ea5⟩ : ∃ z, z = xs (6 * i + 5) := ⟨_, rfl⟩
  have htT0 : ∀ w ∈ TT, w.before _ s = true := fun w h => hts w (tt_in h)
  have hTB0 := hTB
  have hK0 := hK
  have hown0 : s.vm.findClass RL = some m.cls := hown
  have hTX0 := hTX
  have hX0 := hX
  have htT : ∀ w ∈ TT, w.before _ (s.setDrawn d) = true := dr_words htT0 d
  have hTB : TBok (s.setDrawn d) := TBok.same (u := s) (U := s.setDrawn d) rfl (Vm.Alike.refl s.vm) hTB0
  have hK : va_K D vwCl (ty6 cA) (s.setDrawn d) := hK0
  have hown : (s.setDrawn d).vm.findClass RL = some m.cls := hown0
  have hTX : TXok (fun q : Nat => s.heap.size ≤ q) (s.setDrawn d) := hTX0.dr d
  have hX : va_X b L xs (s.setDrawn d) (s.setDrawn d).heap := hX0
  refine lv_aload_n hx hb dL_law_428 rfl (lv_at hl 4 rfl) ?_
  refine lv_aload_n hx hb dL_law_429 rfl (lv_at hl 5 rfl) ?_
  refine lv_iload hx hb dL_law_430 (lv_at hl 0 rfl) ?_
  refine lv_iconst (v := 1) hx hb dL_law_432 (by decide) ?_
  refine lv_iadd hx hb dL_law_433 ?_
  rw [show ((nI (6 * i)) + 1 : Int32) = nI ((6 * i) + 1) from nI_add (6 * i) 1]
  refine va_sld hx hb hX hbl hbA hS (show vp_in (nI ((6 * i) + 1)) L from ki_in (by omega) (by omega)) dL_law_434 ?_
  rw [show xs (nI ((6 * i) + 1)).toNatClampNeg = a1 from (congrArg xs (ki_cl (by omega))).trans ea1.symm]
  refine lv_aload_n hx hb dL_law_435 rfl (lv_at hl 5 rfl) ?_
  refine lv_iload hx hb dL_law_436 (lv_at hl 0 rfl) ?_
  refine lv_iconst (v := 2) hx hb dL_law_438 (by decide) ?_
  refine lv_iadd hx hb dL_law_439 ?_
  rw [show ((nI (6 * i)) + 2 : Int32) = nI ((6 * i) + 2) from nI_add (6 * i) 2]
  refine va_sld hx hb hX hbl hbA hS (show vp_in (nI ((6 * i) + 2)) L from ki_in (by omega) (by omega)) dL_law_440 ?_
  rw [show xs (nI ((6 * i) + 2)).toNatClampNeg = a2 from (congrArg xs (ki_cl (by omega))).trans ea2.symm]
  refine lv_aload_n hx hb dL_law_441 rfl (lv_at hl 5 rfl) ?_
  refine lv_iload hx hb dL_law_442 (lv_at hl 0 rfl) ?_
  refine lv_iconst (v := 3) hx hb dL_law_444 (by decide) ?_
  refine lv_iadd hx hb dL_law_445 ?_
  rw [show ((nI (6 * i)) + 3 : Int32) = nI ((6 * i) + 3) from nI_add (6 * i) 3]
  refine va_sld hx hb hX hbl hbA hS (show vp_in (nI ((6 * i) + 3)) L from ki_in (by omega) (by omega)) dL_law_446 ?_
  rw [show xs (nI ((6 * i) + 3)).toNatClampNeg = a3 from (congrArg xs (ki_cl (by omega))).trans ea3.symm]
  refine lv_aload_n hx hb dL_law_447 rfl (lv_at hl 5 rfl) ?_
  refine lv_iload hx hb dL_law_448 (lv_at hl 0 rfl) ?_
  refine lv_iconst (v := 4) hx hb dL_law_450 (by decide) ?_
  refine lv_iadd hx hb dL_law_451 ?_
  rw [show ((nI (6 * i)) + 4 : Int32) = nI ((6 * i) + 4) from nI_add (6 * i) 4]
  refine va_sld hx hb hX hbl hbA hS (show vp_in (nI ((6 * i) + 4)) L from ki_in (by omega) (by omega)) dL_law_452 ?_
  rw [show xs (nI ((6 * i) + 4)).toNatClampNeg = a4 from (congrArg xs (ki_cl (by omega))).trans ea4.symm]
  refine lv_aload_n hx hb dL_law_453 rfl (lv_at hl 2 rfl) ?_
  refine kj_i (pmJ _ _ _ _) (vx_runSW (As := [.ref x, .int a1, .int a2, .int a3, .int a4, .ref qo]) (rest := []) ⟨hx, hb, hml, hown, htT⟩ (w_place l hst D cA _ S x qo fo n na hh cc ar ak h a1 a2 a3 a4) (vx_cwSW 6 htT (kg_SW m_ml_L_141 m_st_L_place m_in_L m_cd_L_place) rfl rfl rfl (by decide +kernel) ⟨Nat.le_of_ble_eq_true rfl, Nat.le_of_ble_eq_true rfl⟩) (kj_SX (pmJ _ _ _ _) hK hP hD hTB hTX hS hA) rfl rfl hl.1 rfl (lv_room (Nat.le_of_ble_eq_true rfl)) dL_law_454 ⟨(by show _ ≤ 601024; omega), (by show _ ≤ 7293034; omega)⟩) hP hD hS hA (fun r_1 x_1 H locs hq_1 hP hD hS => ?_)
  rw [List.append_assoc] at hP hD
  rcases hq_1 with ⟨er, hk0, eS⟩ | ⟨er, j, a, hjn, ej, hja, e2n, eS, efo⟩ | ⟨er, j, a, hjn, ej, hja, hn1, hbad, eS⟩ | ⟨er, j, a, hjn, ej, hja, hn1, hbad, htk, eS, efo⟩ | ⟨er, j, a, hjn, ej, hja, hn1, hbad, htk, eS⟩
  · rw [er]
    rw [eS] at hP hD
    refine lv_istore (lv' := [(6, .int 1), (5, .int (nI (6 * i))), (4, .ref qd), (3, .ref qo), (2, .ref am), (1, .ref x), (0, .ref b)]) hx hb dL_law_457 hl (by decide) rfl (fun ls hl => ?_)
    refine lv_aload_n hx hb dL_law_459 rfl (lv_at hl 4 rfl) ?_
    refine lv_aload_n hx hb dL_law_460 rfl (lv_at hl 6 rfl) ?_
    refine lv_iload hx hb dL_law_461 (lv_at hl 1 rfl) ?_
    refine lv_iconst (v := 1) hx hb dL_law_463 (by decide) ?_
    refine lv_iadd hx hb dL_law_464 ?_
    rw [show ((nI (6 * i)) + 1 : Int32) = nI ((6 * i) + 1) from nI_add (6 * i) 1]
    refine va_sld hx hb hX hbl hbA hS (show vp_in (nI ((6 * i) + 1)) L from ki_in (by omega) (by omega)) dL_law_465 ?_
    rw [show xs (nI ((6 * i) + 1)).toNatClampNeg = a1 from (congrArg xs (ki_cl (by omega))).trans ea1.symm]
    refine lv_aload_n hx hb dL_law_466 rfl (lv_at hl 6 rfl) ?_
    refine lv_iload hx hb dL_law_467 (lv_at hl 1 rfl) ?_
    refine lv_iconst (v := 2) hx hb dL_law_469 (by decide) ?_
    refine lv_iadd hx hb dL_law_470 ?_
    rw [show ((nI (6 * i)) + 2 : Int32) = nI ((6 * i) + 2) from nI_add (6 * i) 2]
    refine va_sld hx hb hX hbl hbA hS (show vp_in (nI ((6 * i) + 2)) L from ki_in (by omega) (by omega)) dL_law_471 ?_
    rw [show xs (nI ((6 * i) + 2)).toNatClampNeg = a2 from (congrArg xs (ki_cl (by omega))).trans ea2.symm]
    refine lv_aload_n hx hb dL_law_472 rfl (lv_at hl 6 rfl) ?_
    refine lv_iload hx hb dL_law_473 (lv_at hl 1 rfl) ?_
    refine lv_iconst (v := 3) hx hb dL_law_475 (by decide) ?_
    refine lv_iadd hx hb dL_law_476 ?_
    rw [show ((nI (6 * i)) + 3 : Int32) = nI ((6 * i) + 3) from nI_add (6 * i) 3]
    refine va_sld hx hb hX hbl hbA hS (show vp_in (nI ((6 * i) + 3)) L from ki_in (by omega) (by omega)) dL_law_477 ?_
    rw [show xs (nI ((6 * i) + 3)).toNatClampNeg = a3 from (congrArg xs (ki_cl (by omega))).trans ea3.symm]
    refine lv_aload_n hx hb dL_law_478 rfl (lv_at hl 6 rfl) ?_
    refine lv_iload hx hb dL_law_479 (lv_at hl 1 rfl) ?_
    refine lv_iconst (v := 4) hx hb dL_law_481 (by decide) ?_
    refine lv_iadd hx hb dL_law_482 ?_
    rw [show ((nI (6 * i)) + 4 : Int32) = nI ((6 * i) + 4) from nI_add (6 * i) 4]
    refine va_sld hx hb hX hbl hbA hS (show vp_in (nI ((6 * i) + 4)) L from ki_in (by omega) (by omega)) dL_law_483 ?_
    rw [show xs (nI ((6 * i) + 4)).toNatClampNeg = a4 from (congrArg xs (ki_cl (by omega))).trans ea4.symm]
    refine kj_i (pmM _ _ _ _) (va_runV (As := [.int a1, .int a2, .int a3, .int a4]) (rest := []) ⟨hx, hb, hml, hown, htT⟩ (m_place_0 l D cA _ am r M a1 a2 a3 a4 (by rw [hI.h3]; exact hk0)) (cwV 4 htT (kg_V m_ml_L_144 m_im_X6_place m_sl_X6_place m_in_X6 m_cd_X6_place) rfl rfl rfl (by decide +kernel) ⟨Nat.le_of_ble_eq_true rfl, Nat.le_of_ble_eq_true rfl⟩) (kj_V (pmM _ _ _ _) hK hP hD hTB (kj_rm (pmM _ _ _ _) hK hP)) rfl rfl hl.1 rfl (lv_room (Nat.le_of_ble_eq_true rfl)) dL_law_484 ⟨(by show _ ≤ 601024; omega), (by show _ ≤ 7293034; omega)⟩) hP hD hS hA (fun r_2 x_2 H locs hq_2 hP hD hS => ?_)
    have hP := kj_P (pmM _ _ _ _).symm hP
    have hD := kj_D (pmM _ _ _ _).symm hD
    rw [hq_2.1]
    rw [hq_2.2] at hP hD
    refine lv_istore (lv' := [(7, .int 0), (6, .int 1), (5, .int (nI (6 * i))), (4, .ref qd), (3, .ref qo), (2, .ref am), (1, .ref x), (0, .ref b)]) hx hb dL_law_487 hl (by decide) rfl (fun ls hl => ?_)
    refine lv_goto (tgt := 1750) hx hb dL_law_489 (by decide) ?_
    refine W.widen (k := c0 + 20) (n := s0 + 400) (by omega) (by omega) ?_
    exact hnext _ (mS (mS M 0 0) 0 1) _ _ _ _ _ _ _ _ _ _ hd0 h ((hI.iS (k := 0) (v := 0) (by decide) (by decide)).iS (by decide) (by decide)) (hL9.m eqM.rf.s0.s0) (hY.of rfl) (e1) (e2) hP hD hS (lv_sub hl [2, 3, 4, 5, 6, 7] rfl)
  · rw [er]
    rw [show gI S a 13 = M.2 12 j from hL9.rn hjn hja (q := (13, 12)) (by decide)] at efo
    rw [eS] at hP hD
    rw [efo] at hP hD
    refine lv_istore (lv' := [(6, .int 0), (5, .int (nI (6 * i))), (4, .ref qd), (3, .ref qo), (2, .ref am), (1, .ref x), (0, .ref b)]) hx hb dL_law_457 hl (by decide) rfl (fun ls hl => ?_)
    refine lv_aload_n hx hb dL_law_459 rfl (lv_at hl 4 rfl) ?_
    refine lv_aload_n hx hb dL_law_460 rfl (lv_at hl 6 rfl) ?_
    refine lv_iload hx hb dL_law_461 (lv_at hl 1 rfl) ?_
    refine lv_iconst (v := 1) hx hb dL_law_463 (by decide) ?_
    refine lv_iadd hx hb dL_law_464 ?_
    rw [show ((nI (6 * i)) + 1 : Int32) = nI ((6 * i) + 1) from nI_add (6 * i) 1]
    refine va_sld hx hb hX hbl hbA hS (show vp_in (nI ((6 * i) + 1)) L from ki_in (by omega) (by omega)) dL_law_465 ?_
    rw [show xs (nI ((6 * i) + 1)).toNatClampNeg = a1 from (congrArg xs (ki_cl (by omega))).trans ea1.symm]
    refine lv_aload_n hx hb dL_law_466 rfl (lv_at hl 6 rfl) ?_
    refine lv_iload hx hb dL_law_467 (lv_at hl 1 rfl) ?_
    refine lv_iconst (v := 2) hx hb dL_law_469 (by decide) ?_
    refine lv_iadd hx hb dL_law_470 ?_
    rw [show ((nI (6 * i)) + 2 : Int32) = nI ((6 * i) + 2) from nI_add (6 * i) 2]
    refine va_sld hx hb hX hbl hbA hS (show vp_in (nI ((6 * i) + 2)) L from ki_in (by omega) (by omega)) dL_law_471 ?_
    rw [show xs (nI ((6 * i) + 2)).toNatClampNeg = a2 from (congrArg xs (ki_cl (by omega))).trans ea2.symm]
    refine lv_aload_n hx hb dL_law_472 rfl (lv_at hl 6 rfl) ?_
    refine lv_iload hx hb dL_law_473 (lv_at hl 1 rfl) ?_
    refine lv_iconst (v := 3) hx hb dL_law_475 (by decide) ?_
    refine lv_iadd hx hb dL_law_476 ?_
    rw [show ((nI (6 * i)) + 3 : Int32) = nI ((6 * i) + 3) from nI_add (6 * i) 3]
    refine va_sld hx hb hX hbl hbA hS (show vp_in (nI ((6 * i) + 3)) L from ki_in (by omega) (by omega)) dL_law_477 ?_
    rw [show xs (nI ((6 * i) + 3)).toNatClampNeg = a3 from (congrArg xs (ki_cl (by omega))).trans ea3.symm]
    refine lv_aload_n hx hb dL_law_478 rfl (lv_at hl 6 rfl) ?_
    refine lv_iload hx hb dL_law_479 (lv_at hl 1 rfl) ?_
    refine lv_iconst (v := 4) hx hb dL_law_481 (by decide) ?_
    refine lv_iadd hx hb dL_law_482 ?_
    rw [show ((nI (6 * i)) + 4 : Int32) = nI ((6 * i) + 4) from nI_add (6 * i) 4]
    refine va_sld hx hb hX hbl hbA hS (show vp_in (nI ((6 * i) + 4)) L from ki_in (by omega) (by omega)) dL_law_483 ?_
    rw [show xs (nI ((6 * i) + 4)).toNatClampNeg = a4 from (congrArg xs (ki_cl (by omega))).trans ea4.symm]
    rw [ej]
    rw [e2n]
    refine kj_i (pmM _ _ _ _) (va_runV (As := [.int (nI j), .int (-1), .int a3, .int a4]) (rest := []) ⟨hx, hb, hml, hown, htT⟩ (m_place_n l D cA _ am r M n j hjn hI.n8 hI.h3 a3 a4) (cwV 4 htT (kg_V m_ml_L_144 m_im_X6_place m_sl_X6_place m_in_X6 m_cd_X6_place) rfl rfl rfl (by decide +kernel) ⟨Nat.le_of_ble_eq_true rfl, Nat.le_of_ble_eq_true rfl⟩) (kj_V (pmM _ _ _ _) hK hP hD hTB (kj_rm (pmM _ _ _ _) hK hP)) rfl rfl hl.1 rfl (lv_room (Nat.le_of_ble_eq_true rfl)) dL_law_484 ⟨(by show _ ≤ 601024; omega), (by show _ ≤ 7293034; omega)⟩) hP hD hS hA (fun r_3 x_3 H locs hq_3 hP hD hS => ?_)
    have hP := kj_P (pmM _ _ _ _).symm hP
    have hD := kj_D (pmM _ _ _ _).symm hD
    rw [hq_3.1]
    rw [hq_3.2] at hP hD
    refine lv_istore (lv' := [(7, .int (M.2 12 j)), (6, .int 0), (5, .int (nI (6 * i))), (4, .ref qd), (3, .ref qo), (2, .ref am), (1, .ref x), (0, .ref b)]) hx hb dL_law_487 hl (by decide) rfl (fun ls hl => ?_)
    refine lv_goto (tgt := 1750) hx hb dL_law_489 (by decide) ?_
    refine W.widen (k := c0 + 20) (n := s0 + 400) (by omega) (by omega) ?_
    exact hnext _ (mR (mR (mR (mS M 0 0) 12 j (-1)) 13 j 0) 14 j 0) _ _ _ _ _ _ _ _ _ _ hd0 (((h.pIs (k := 13) (v := (-1)) (h.sw (by have := h.n8; omega) hja).1 (by decide)).pIs (k := 14) (v := 0) (h.sw (by have := h.n8; omega) hja).1 (by decide)).pIs (k := 15) (v := 0) (h.sw (by have := h.n8; omega) hja).1 (by decide)) (INVR.iR (INVR.iR (INVR.iR (hI.iS (k := 0) (v := 0) (by decide) (by decide)) (by decide)) (by decide)) (by decide)) ((((hL9.m eqM.rf.s0).num h hjn hja (k := 13) (k' := 12) (v := (-1)) (by decide) (by decide) (by decide)).num (h.pIs (k := 13) (v := (-1)) (h.sw (by have := h.n8; omega) hja).1 (by decide)) hjn hja (k := 14) (k' := 13) (v := 0) (by decide) (by decide) (by decide)).num ((h.pIs (k := 13) (v := (-1)) (h.sw (by have := h.n8; omega) hja).1 (by decide)).pIs (k := 14) (v := 0) (h.sw (by have := h.n8; omega) hja).1 (by decide)) hjn hja (k := 15) (k' := 14) (v := 0) (by decide) (by decide) (by decide)) (hY.up (j := j) (fun k q => if_neg q) ⟨0, by omega, if_pos rfl⟩) (e1) (e2) hP hD hS (lv_sub hl [2, 3, 4, 5, 6, 7] rfl)
  · rw [er]
    rw [eS] at hP hD
    refine lv_istore (lv' := [(6, .int 2), (5, .int (nI (6 * i))), (4, .ref qd), (3, .ref qo), (2, .ref am), (1, .ref x), (0, .ref b)]) hx hb dL_law_457 hl (by decide) rfl (fun ls hl => ?_)
    refine lv_aload_n hx hb dL_law_459 rfl (lv_at hl 4 rfl) ?_
    refine lv_aload_n hx hb dL_law_460 rfl (lv_at hl 6 rfl) ?_
    refine lv_iload hx hb dL_law_461 (lv_at hl 1 rfl) ?_
    refine lv_iconst (v := 1) hx hb dL_law_463 (by decide) ?_
    refine lv_iadd hx hb dL_law_464 ?_
    rw [show ((nI (6 * i)) + 1 : Int32) = nI ((6 * i) + 1) from nI_add (6 * i) 1]
    refine va_sld hx hb hX hbl hbA hS (show vp_in (nI ((6 * i) + 1)) L from ki_in (by omega) (by omega)) dL_law_465 ?_
    rw [show xs (nI ((6 * i) + 1)).toNatClampNeg = a1 from (congrArg xs (ki_cl (by omega))).trans ea1.symm]
    refine lv_aload_n hx hb dL_law_466 rfl (lv_at hl 6 rfl) ?_
    refine lv_iload hx hb dL_law_467 (lv_at hl 1 rfl) ?_
    refine lv_iconst (v := 2) hx hb dL_law_469 (by decide) ?_
    refine lv_iadd hx hb dL_law_470 ?_
    rw [show ((nI (6 * i)) + 2 : Int32) = nI ((6 * i) + 2) from nI_add (6 * i) 2]
    refine va_sld hx hb hX hbl hbA hS (show vp_in (nI ((6 * i) + 2)) L from ki_in (by omega) (by omega)) dL_law_471 ?_
    rw [show xs (nI ((6 * i) + 2)).toNatClampNeg = a2 from (congrArg xs (ki_cl (by omega))).trans ea2.symm]
    refine lv_aload_n hx hb dL_law_472 rfl (lv_at hl 6 rfl) ?_
    refine lv_iload hx hb dL_law_473 (lv_at hl 1 rfl) ?_
    refine lv_iconst (v := 3) hx hb dL_law_475 (by decide) ?_
    refine lv_iadd hx hb dL_law_476 ?_
    rw [show ((nI (6 * i)) + 3 : Int32) = nI ((6 * i) + 3) from nI_add (6 * i) 3]
    refine va_sld hx hb hX hbl hbA hS (show vp_in (nI ((6 * i) + 3)) L from ki_in (by omega) (by omega)) dL_law_477 ?_
    rw [show xs (nI ((6 * i) + 3)).toNatClampNeg = a3 from (congrArg xs (ki_cl (by omega))).trans ea3.symm]
    refine lv_aload_n hx hb dL_law_478 rfl (lv_at hl 6 rfl) ?_
    refine lv_iload hx hb dL_law_479 (lv_at hl 1 rfl) ?_
    refine lv_iconst (v := 4) hx hb dL_law_481 (by decide) ?_
    refine lv_iadd hx hb dL_law_482 ?_
    rw [show ((nI (6 * i)) + 4 : Int32) = nI ((6 * i) + 4) from nI_add (6 * i) 4]
    refine va_sld hx hb hX hbl hbA hS (show vp_in (nI ((6 * i) + 4)) L from ki_in (by omega) (by omega)) dL_law_483 ?_
    rw [show xs (nI ((6 * i) + 4)).toNatClampNeg = a4 from (congrArg xs (ki_cl (by omega))).trans ea4.symm]
    rw [ej]
    refine kj_i (pmM _ _ _ _) (va_runV (As := [.int (nI j), .int a2, .int a3, .int a4]) (rest := []) ⟨hx, hb, hml, hown, htT⟩ (m_place_2 l D cA _ am r M n j hjn hI.n8 hI.h3 a2 a3 a4 (rng_bad hn1 hbad)) (cwV 4 htT (kg_V m_ml_L_144 m_im_X6_place m_sl_X6_place m_in_X6 m_cd_X6_place) rfl rfl rfl (by decide +kernel) ⟨Nat.le_of_ble_eq_true rfl, Nat.le_of_ble_eq_true rfl⟩) (kj_V (pmM _ _ _ _) hK hP hD hTB (kj_rm (pmM _ _ _ _) hK hP)) rfl rfl hl.1 rfl (lv_room (Nat.le_of_ble_eq_true rfl)) dL_law_484 ⟨(by show _ ≤ 601024; omega), (by show _ ≤ 7293034; omega)⟩) hP hD hS hA (fun r_4 x_4 H locs hq_4 hP hD hS => ?_)
    have hP := kj_P (pmM _ _ _ _).symm hP
    have hD := kj_D (pmM _ _ _ _).symm hD
    rw [hq_4.1]
    rw [hq_4.2] at hP hD
    refine lv_istore (lv' := [(7, .int 0), (6, .int 2), (5, .int (nI (6 * i))), (4, .ref qd), (3, .ref qo), (2, .ref am), (1, .ref x), (0, .ref b)]) hx hb dL_law_487 hl (by decide) rfl (fun ls hl => ?_)
    refine lv_goto (tgt := 1750) hx hb dL_law_489 (by decide) ?_
    refine W.widen (k := c0 + 20) (n := s0 + 400) (by omega) (by omega) ?_
    exact hnext _ (mS (mS M 0 0) 0 2) _ _ _ _ _ _ _ _ _ _ hd0 h ((hI.iS (k := 0) (v := 0) (by decide) (by decide)).iS (by decide) (by decide)) (hL9.m eqM.rf.s0.s0) (hY.of rfl) (e1) (e2) hP hD hS (lv_sub hl [2, 3, 4, 5, 6, 7] rfl)
  · rw [er]
    obtain ⟨-, hin, hb0, hb1, hb2⟩ := rng_ok hbad
    rw [show gI S a 13 = M.2 12 j from hL9.rn hjn hja (q := (13, 12)) (by decide)] at efo
    rw [eS] at hP hD
    rw [efo] at hP hD
    refine lv_istore (lv' := [(6, .int 0), (5, .int (nI (6 * i))), (4, .ref qd), (3, .ref qo), (2, .ref am), (1, .ref x), (0, .ref b)]) hx hb dL_law_457 hl (by decide) rfl (fun ls hl => ?_)
    refine lv_aload_n hx hb dL_law_459 rfl (lv_at hl 4 rfl) ?_
    refine lv_aload_n hx hb dL_law_460 rfl (lv_at hl 6 rfl) ?_
    refine lv_iload hx hb dL_law_461 (lv_at hl 1 rfl) ?_
    refine lv_iconst (v := 1) hx hb dL_law_463 (by decide) ?_
    refine lv_iadd hx hb dL_law_464 ?_
    rw [show ((nI (6 * i)) + 1 : Int32) = nI ((6 * i) + 1) from nI_add (6 * i) 1]
    refine va_sld hx hb hX hbl hbA hS (show vp_in (nI ((6 * i) + 1)) L from ki_in (by omega) (by omega)) dL_law_465 ?_
    rw [show xs (nI ((6 * i) + 1)).toNatClampNeg = a1 from (congrArg xs (ki_cl (by omega))).trans ea1.symm]
    refine lv_aload_n hx hb dL_law_466 rfl (lv_at hl 6 rfl) ?_
    refine lv_iload hx hb dL_law_467 (lv_at hl 1 rfl) ?_
    refine lv_iconst (v := 2) hx hb dL_law_469 (by decide) ?_
    refine lv_iadd hx hb dL_law_470 ?_
    rw [show ((nI (6 * i)) + 2 : Int32) = nI ((6 * i) + 2) from nI_add (6 * i) 2]
    refine va_sld hx hb hX hbl hbA hS (show vp_in (nI ((6 * i) + 2)) L from ki_in (by omega) (by omega)) dL_law_471 ?_
    rw [show xs (nI ((6 * i) + 2)).toNatClampNeg = a2 from (congrArg xs (ki_cl (by omega))).trans ea2.symm]
    refine lv_aload_n hx hb dL_law_472 rfl (lv_at hl 6 rfl) ?_
    refine lv_iload hx hb dL_law_473 (lv_at hl 1 rfl) ?_
    refine lv_iconst (v := 3) hx hb dL_law_475 (by decide) ?_
    refine lv_iadd hx hb dL_law_476 ?_
    rw [show ((nI (6 * i)) + 3 : Int32) = nI ((6 * i) + 3) from nI_add (6 * i) 3]
    refine va_sld hx hb hX hbl hbA hS (show vp_in (nI ((6 * i) + 3)) L from ki_in (by omega) (by omega)) dL_law_477 ?_
    rw [show xs (nI ((6 * i) + 3)).toNatClampNeg = a3 from (congrArg xs (ki_cl (by omega))).trans ea3.symm]
    refine lv_aload_n hx hb dL_law_478 rfl (lv_at hl 6 rfl) ?_
    refine lv_iload hx hb dL_law_479 (lv_at hl 1 rfl) ?_
    refine lv_iconst (v := 4) hx hb dL_law_481 (by decide) ?_
    refine lv_iadd hx hb dL_law_482 ?_
    rw [show ((nI (6 * i)) + 4 : Int32) = nI ((6 * i) + 4) from nI_add (6 * i) 4]
    refine va_sld hx hb hX hbl hbA hS (show vp_in (nI ((6 * i) + 4)) L from ki_in (by omega) (by omega)) dL_law_483 ?_
    rw [show xs (nI ((6 * i) + 4)).toNatClampNeg = a4 from (congrArg xs (ki_cl (by omega))).trans ea4.symm]
    rw [ej]
    refine kj_i (pmM _ _ _ _) (va_runV (As := [.int (nI j), .int a2, .int a3, .int a4]) (rest := []) ⟨hx, hb, hml, hown, htT⟩ (m_place l D cA _ am r M n j hjn hI.n8 hI.h3 a2 a3 a4 hn1 hin hb0 hb1 hb2 ((tak_eq hL9 h hjn).symm.trans htk)) (cwV 4 htT (kg_V m_ml_L_144 m_im_X6_place m_sl_X6_place m_in_X6 m_cd_X6_place) rfl rfl rfl (by decide +kernel) ⟨Nat.le_of_ble_eq_true rfl, Nat.le_of_ble_eq_true rfl⟩) (kj_V (pmM _ _ _ _) hK hP hD hTB (kj_rm (pmM _ _ _ _) hK hP)) rfl rfl hl.1 rfl (lv_room (Nat.le_of_ble_eq_true rfl)) dL_law_484 ⟨(by show _ ≤ 601024; omega), (by show _ ≤ 7293034; omega)⟩) hP hD hS hA (fun r_5 x_5 H locs hq_5 hP hD hS => ?_)
    have hP := kj_P (pmM _ _ _ _).symm hP
    have hD := kj_D (pmM _ _ _ _).symm hD
    rw [hq_5.1]
    rw [hq_5.2] at hP hD
    refine lv_istore (lv' := [(7, .int (M.2 12 j)), (6, .int 0), (5, .int (nI (6 * i))), (4, .ref qd), (3, .ref qo), (2, .ref am), (1, .ref x), (0, .ref b)]) hx hb dL_law_487 hl (by decide) rfl (fun ls hl => ?_)
    refine lv_goto (tgt := 1750) hx hb dL_law_489 (by decide) ?_
    refine W.widen (k := c0 + 20) (n := s0 + 400) (by omega) (by omega) ?_
    exact hnext _ (mR (mR (mR (mS M 0 0) 12 j a2) 13 j a3) 14 j a4) _ _ _ _ _ _ _ _ _ _ hd0 (((h.pIs (k := 13) (v := a2) (h.sw (by have := h.n8; omega) hja).1 (by decide)).pIs (k := 14) (v := a3) (h.sw (by have := h.n8; omega) hja).1 (by decide)).pIs (k := 15) (v := a4) (h.sw (by have := h.n8; omega) hja).1 (by decide)) (INVR.iR (INVR.iR (INVR.iR (hI.iS (k := 0) (v := 0) (by decide) (by decide)) (by decide)) (by decide)) (by decide)) ((((hL9.m eqM.rf.s0).num h hjn hja (k := 13) (k' := 12) (v := a2) (by decide) (by decide) (by decide)).num (h.pIs (k := 13) (v := a2) (h.sw (by have := h.n8; omega) hja).1 (by decide)) hjn hja (k := 14) (k' := 13) (v := a3) (by decide) (by decide) (by decide)).num ((h.pIs (k := 13) (v := a2) (h.sw (by have := h.n8; omega) hja).1 (by decide)).pIs (k := 14) (v := a3) (h.sw (by have := h.n8; omega) hja).1 (by decide)) hjn hja (k := 15) (k' := 14) (v := a4) (by decide) (by decide) (by decide)) (hY.up (j := j) (fun k q => if_neg q) (by obtain ⟨w9, hw9, ew9⟩ := rng_hi hbad; exact ⟨w9, hw9, (if_pos rfl).trans ew9⟩)) (e1) (e2) hP hD hS (lv_sub hl [2, 3, 4, 5, 6, 7] rfl)
  · rw [er]
    obtain ⟨-, hin, hb0, hb1, hb2⟩ := rng_ok hbad
    rw [eS] at hP hD
    refine lv_istore (lv' := [(6, .int 3), (5, .int (nI (6 * i))), (4, .ref qd), (3, .ref qo), (2, .ref am), (1, .ref x), (0, .ref b)]) hx hb dL_law_457 hl (by decide) rfl (fun ls hl => ?_)
    refine lv_aload_n hx hb dL_law_459 rfl (lv_at hl 4 rfl) ?_
    refine lv_aload_n hx hb dL_law_460 rfl (lv_at hl 6 rfl) ?_
    refine lv_iload hx hb dL_law_461 (lv_at hl 1 rfl) ?_
    refine lv_iconst (v := 1) hx hb dL_law_463 (by decide) ?_
    refine lv_iadd hx hb dL_law_464 ?_
    rw [show ((nI (6 * i)) + 1 : Int32) = nI ((6 * i) + 1) from nI_add (6 * i) 1]
    refine va_sld hx hb hX hbl hbA hS (show vp_in (nI ((6 * i) + 1)) L from ki_in (by omega) (by omega)) dL_law_465 ?_
    rw [show xs (nI ((6 * i) + 1)).toNatClampNeg = a1 from (congrArg xs (ki_cl (by omega))).trans ea1.symm]
    refine lv_aload_n hx hb dL_law_466 rfl (lv_at hl 6 rfl) ?_
    refine lv_iload hx hb dL_law_467 (lv_at hl 1 rfl) ?_
    refine lv_iconst (v := 2) hx hb dL_law_469 (by decide) ?_
    refine lv_iadd hx hb dL_law_470 ?_
    rw [show ((nI (6 * i)) + 2 : Int32) = nI ((6 * i) + 2) from nI_add (6 * i) 2]
    refine va_sld hx hb hX hbl hbA hS (show vp_in (nI ((6 * i) + 2)) L from ki_in (by omega) (by omega)) dL_law_471 ?_
    rw [show xs (nI ((6 * i) + 2)).toNatClampNeg = a2 from (congrArg xs (ki_cl (by omega))).trans ea2.symm]
    refine lv_aload_n hx hb dL_law_472 rfl (lv_at hl 6 rfl) ?_
    refine lv_iload hx hb dL_law_473 (lv_at hl 1 rfl) ?_
    refine lv_iconst (v := 3) hx hb dL_law_475 (by decide) ?_
    refine lv_iadd hx hb dL_law_476 ?_
    rw [show ((nI (6 * i)) + 3 : Int32) = nI ((6 * i) + 3) from nI_add (6 * i) 3]
    refine va_sld hx hb hX hbl hbA hS (show vp_in (nI ((6 * i) + 3)) L from ki_in (by omega) (by omega)) dL_law_477 ?_
    rw [show xs (nI ((6 * i) + 3)).toNatClampNeg = a3 from (congrArg xs (ki_cl (by omega))).trans ea3.symm]
    refine lv_aload_n hx hb dL_law_478 rfl (lv_at hl 6 rfl) ?_
    refine lv_iload hx hb dL_law_479 (lv_at hl 1 rfl) ?_
    refine lv_iconst (v := 4) hx hb dL_law_481 (by decide) ?_
    refine lv_iadd hx hb dL_law_482 ?_
    rw [show ((nI (6 * i)) + 4 : Int32) = nI ((6 * i) + 4) from nI_add (6 * i) 4]
    refine va_sld hx hb hX hbl hbA hS (show vp_in (nI ((6 * i) + 4)) L from ki_in (by omega) (by omega)) dL_law_483 ?_
    rw [show xs (nI ((6 * i) + 4)).toNatClampNeg = a4 from (congrArg xs (ki_cl (by omega))).trans ea4.symm]
    rw [ej]
    refine kj_i (pmM _ _ _ _) (va_runV (As := [.int (nI j), .int a2, .int a3, .int a4]) (rest := []) ⟨hx, hb, hml, hown, htT⟩ (m_place_3 l D cA _ am r M n j hjn hI.n8 hI.h3 a2 a3 a4 hn1 hin hb0 hb1 hb2 ((rTak_01 _ _ _ _ _ _ _).resolve_left (fun e => htk ((tak_eq hL9 h hjn).trans e)))) (cwV 4 htT (kg_V m_ml_L_144 m_im_X6_place m_sl_X6_place m_in_X6 m_cd_X6_place) rfl rfl rfl (by decide +kernel) ⟨Nat.le_of_ble_eq_true rfl, Nat.le_of_ble_eq_true rfl⟩) (kj_V (pmM _ _ _ _) hK hP hD hTB (kj_rm (pmM _ _ _ _) hK hP)) rfl rfl hl.1 rfl (lv_room (Nat.le_of_ble_eq_true rfl)) dL_law_484 ⟨(by show _ ≤ 601024; omega), (by show _ ≤ 7293034; omega)⟩) hP hD hS hA (fun r_6 x_6 H locs hq_6 hP hD hS => ?_)
    have hP := kj_P (pmM _ _ _ _).symm hP
    have hD := kj_D (pmM _ _ _ _).symm hD
    rw [hq_6.1]
    rw [hq_6.2] at hP hD
    refine lv_istore (lv' := [(7, .int 0), (6, .int 3), (5, .int (nI (6 * i))), (4, .ref qd), (3, .ref qo), (2, .ref am), (1, .ref x), (0, .ref b)]) hx hb dL_law_487 hl (by decide) rfl (fun ls hl => ?_)
    refine lv_goto (tgt := 1750) hx hb dL_law_489 (by decide) ?_
    refine W.widen (k := c0 + 20) (n := s0 + 400) (by omega) (by omega) ?_
    exact hnext _ (mS (mS M 0 0) 0 3) _ _ _ _ _ _ _ _ _ _ hd0 h ((hI.iS (k := 0) (v := 0) (by decide) (by decide)).iS (by decide) (by decide)) (hL9.m eqM.rf.s0.s0) (hY.of rfl) (e1) (e2) hP hD hS (lv_sub hl [2, 3, 4, 5, 6, 7] rfl)

set_option maxRecDepth 100000 in
set_option maxHeartbeats 4000000 in
theorem law_need (l : Launch) (hst : l.stackTraces = false) {p : Program} {e : Env} {s : State} {m : MethodId} {below : List Frame} {meth : Method} {c : Code} {b L : Nat} {xs : Nat → Int32} (C0 : lw_At p s m meth c b L xs) {D : va_G} {cA : Nat → ClassId} (hK : va_K D vwCl (ty6 cA) s) (hTB : TBok s) (hTX : TXok (fun q : Nat => s.heap.size ≤ q) s) {x ar ak qo qd am : Nat} {r : Nat → Nat} {c0 s0 i : Nat} (hc0 : c0 + 20 ≤ 601024) (hs0 : s0 + 400 ≤ 7293034) (hi : 6 * i + 6 ≤ L) (hL : L ≤ 3072) (hnext : ∀ (S : Pool) (M : MSt) (fo : Nat → Int64) (fd : Nat → UInt64) (n na : Nat) (hh cc : Int32) (H : Heap) (locs : List Loc) (ls : Array Slot) (d : Drawn), s.drawn.sameBut d lw_cs → INVC n na hh cc S x ar ak → INVR n na M → REL True n na S M ar → LAY n M → M.1 1 = cc → M.1 2 = hh → va_P D vwCl (LW cA S qo fo qd fd am r M) H → va_D (fun q : Nat => s.heap.size ≤ q) (LW cA S qo fo qd fd am r M) → va_S (fun q : Nat => s.heap.size ≤ q) s.heap H locs → lv_has ls 9 [(5, .int (nI (6 * i))), (4, .ref qd), (3, .ref qo), (2, .ref am), (1, .ref x), (0, .ref b)] → W p l e room_1 (s.setDrawn d) m #[Value.ref b] below meth c H locs (c0 + 20) (s0 + 400) (lw_Z below #[Value.ref b] s) (F0 m 1750 ls [])) {S : Pool} {M : MSt} {fo : Nat → Int64} {fd : Nat → UInt64} {n na : Nat} {hh cc : Int32} {H : Heap} {locs : List Loc} {ls : Array Slot} {d : Drawn} (hd0 : s.drawn.sameBut d lw_cs) (h : INVC n na hh cc S x ar ak) (hI : INVR n na M) (hL9 : REL True n na S M ar) (hY : LAY n M) (e1 : M.1 1 = cc) (e2 : M.1 2 = hh) (hP : va_P D vwCl (LW cA S qo fo qd fd am r M) H) (hD : va_D (fun q : Nat => s.heap.size ≤ q) (LW cA S qo fo qd fd am r M)) (hS : va_S (fun q : Nat => s.heap.size ≤ q) s.heap H locs) (hl : lv_has ls 9 [(5, .int (nI (6 * i))), (4, .ref qd), (3, .ref qo), (2, .ref am), (1, .ref x), (0, .ref b)]) : W p l e room_1 (s.setDrawn d) m #[Value.ref b] below meth c H locs c0 s0 (lw_Z below #[Value.ref b] s) (F0 m 492 ls []) := by
  obtain ⟨hx, hb, hr, hml, hown, hts, hX, hbl, hlocks, hgv⟩ := id C0
  have hA : ∀ q : Nat, s.heap.size ≤ q → (fun q : Nat => s.heap.size ≤ q) q := fun _ h => h
  have hbA : ¬ (fun q : Nat => s.heap.size ≤ q) b := Nat.not_le.mpr hbl
  obtain ⟨a1, ea1⟩ : ∃ z, z = xs (6 * i + 1) := ⟨_, rfl⟩
  obtain ⟨a2, ea2⟩ : ∃ z, z = xs (6 * i + 2) := ⟨_, rfl⟩
  obtain ⟨a3, ea3⟩ : ∃ z, z = xs (6 * i + 3) := ⟨_, rfl⟩
  obtain ⟨a4, ea4⟩ : ∃ z, z = xs (6 * i + 4) := ⟨_, rfl⟩
  obtain ⟨a5, ea5⟩ : ∃ z, z = xs (6 * i + 5) := ⟨_, rfl⟩
  have htT0 : ∀ w ∈ TT, w.before _ s = true := fun w h => hts w (tt_in h)
  have hTB0 := hTB
  have hK0 := hK
  have hown0 : s.vm.findClass RL = some m.cls := hown
  have hTX0 := hTX
  have hX0 := hX
  have htT : ∀ w ∈ TT, w.before _ (s.setDrawn d) = true := dr_words htT0 d
  have hTB : TBok (s.setDrawn d) := TBok.same (u := s) (U := s.setDrawn d) rfl (Vm.Alike.refl s.vm) hTB0
  have hK : va_K D vwCl (ty6 cA) (s.setDrawn d) := hK0
  have hown : (s.setDrawn d).vm.findClass RL = some m.cls := hown0
  have hTX : TXok (fun q : Nat => s.heap.size ≤ q) (s.setDrawn d) := hTX0.dr d
  have hX : va_X b L xs (s.setDrawn d) (s.setDrawn d).heap := hX0
  refine lv_aload_n hx hb dL_law_492 rfl (lv_at hl 4 rfl) ?_
  refine lv_aload_n hx hb dL_law_493 rfl (lv_at hl 5 rfl) ?_
  refine lv_iload hx hb dL_law_494 (lv_at hl 0 rfl) ?_
  refine lv_iconst (v := 1) hx hb dL_law_496 (by decide) ?_
  refine lv_iadd hx hb dL_law_497 ?_
  rw [show ((nI (6 * i)) + 1 : Int32) = nI ((6 * i) + 1) from nI_add (6 * i) 1]
  refine va_sld hx hb hX hbl hbA hS (show vp_in (nI ((6 * i) + 1)) L from ki_in (by omega) (by omega)) dL_law_498 ?_
  rw [show xs (nI ((6 * i) + 1)).toNatClampNeg = a1 from (congrArg xs (ki_cl (by omega))).trans ea1.symm]
  refine lv_aload_n hx hb dL_law_499 rfl (lv_at hl 5 rfl) ?_
  refine lv_iload hx hb dL_law_500 (lv_at hl 0 rfl) ?_
  refine lv_iconst (v := 2) hx hb dL_law_502 (by decide) ?_
  refine lv_iadd hx hb dL_law_503 ?_
  rw [show ((nI (6 * i)) + 2 : Int32) = nI ((6 * i) + 2) from nI_add (6 * i) 2]
  refine va_sld hx hb hX hbl hbA hS (show vp_in (nI ((6 * i) + 2)) L from ki_in (by omega) (by omega)) dL_law_504 ?_
  rw [show xs (nI ((6 * i) + 2)).toNatClampNeg = a2 from (congrArg xs (ki_cl (by omega))).trans ea2.symm]
  refine lv_aload_n hx hb dL_law_505 rfl (lv_at hl 5 rfl) ?_
  refine lv_iload hx hb dL_law_506 (lv_at hl 0 rfl) ?_
  refine lv_iconst (v := 3) hx hb dL_law_508 (by decide) ?_
  refine lv_iadd hx hb dL_law_509 ?_
  rw [show ((nI (6 * i)) + 3 : Int32) = nI ((6 * i) + 3) from nI_add (6 * i) 3]
  refine va_sld hx hb hX hbl hbA hS (show vp_in (nI ((6 * i) + 3)) L from ki_in (by omega) (by omega)) dL_law_510 ?_
  rw [show xs (nI ((6 * i) + 3)).toNatClampNeg = a3 from (congrArg xs (ki_cl (by omega))).trans ea3.symm]
  refine lv_aload_n hx hb dL_law_511 rfl (lv_at hl 2 rfl) ?_
  refine kj_i (pmJ _ _ _ _) (vx_runSW (As := [.ref x, .int a1, .int a2, .int a3, .ref qo]) (rest := []) ⟨hx, hb, hml, hown, htT⟩ (w_need l hst D cA _ S x qo fo n na hh cc ar ak h a1 a2 a3) (vx_cwSW 5 htT (kg_SW m_ml_L_145 m_st_L_need m_in_L m_cd_L_need) rfl rfl rfl (by decide +kernel) ⟨Nat.le_of_ble_eq_true rfl, Nat.le_of_ble_eq_true rfl⟩) (kj_SX (pmJ _ _ _ _) hK hP hD hTB hTX hS hA) rfl rfl hl.1 rfl (lv_room (Nat.le_of_ble_eq_true rfl)) dL_law_512 ⟨(by show _ ≤ 601024; omega), (by show _ ≤ 7293034; omega)⟩) hP hD hS hA (fun r_1 x_1 H locs hq_1 hP hD hS => ?_)
  rw [List.append_assoc] at hP hD
  rcases hq_1 with ⟨er, hk0, eS⟩ | ⟨er, j, a, hjn, ej, hja, e2n, eS, efo⟩ | ⟨er, j, a, hjn, ej, hja, hn1, hk1, eS⟩ | ⟨er, j, a, i2, b2, hjn, ej, hja, hi2, e2i, hjb, hv, eS⟩ | ⟨er, j, a, i2, b2, hjn, ej, hja, hi2, e2i, hjb, hv, hlt, eS, efo⟩ | ⟨er, j, a, i2, b2, hjn, ej, hja, hi2, e2i, hjb, hv, hlt, eS⟩
  · rw [er]
    rw [eS] at hP hD
    refine lv_istore (lv' := [(6, .int 1), (5, .int (nI (6 * i))), (4, .ref qd), (3, .ref qo), (2, .ref am), (1, .ref x), (0, .ref b)]) hx hb dL_law_515 hl (by decide) rfl (fun ls hl => ?_)
    refine lv_aload_n hx hb dL_law_517 rfl (lv_at hl 4 rfl) ?_
    refine lv_aload_n hx hb dL_law_518 rfl (lv_at hl 6 rfl) ?_
    refine lv_iload hx hb dL_law_519 (lv_at hl 1 rfl) ?_
    refine lv_iconst (v := 1) hx hb dL_law_521 (by decide) ?_
    refine lv_iadd hx hb dL_law_522 ?_
    rw [show ((nI (6 * i)) + 1 : Int32) = nI ((6 * i) + 1) from nI_add (6 * i) 1]
    refine va_sld hx hb hX hbl hbA hS (show vp_in (nI ((6 * i) + 1)) L from ki_in (by omega) (by omega)) dL_law_523 ?_
    rw [show xs (nI ((6 * i) + 1)).toNatClampNeg = a1 from (congrArg xs (ki_cl (by omega))).trans ea1.symm]
    refine lv_aload_n hx hb dL_law_524 rfl (lv_at hl 6 rfl) ?_
    refine lv_iload hx hb dL_law_525 (lv_at hl 1 rfl) ?_
    refine lv_iconst (v := 2) hx hb dL_law_527 (by decide) ?_
    refine lv_iadd hx hb dL_law_528 ?_
    rw [show ((nI (6 * i)) + 2 : Int32) = nI ((6 * i) + 2) from nI_add (6 * i) 2]
    refine va_sld hx hb hX hbl hbA hS (show vp_in (nI ((6 * i) + 2)) L from ki_in (by omega) (by omega)) dL_law_529 ?_
    rw [show xs (nI ((6 * i) + 2)).toNatClampNeg = a2 from (congrArg xs (ki_cl (by omega))).trans ea2.symm]
    refine lv_aload_n hx hb dL_law_530 rfl (lv_at hl 6 rfl) ?_
    refine lv_iload hx hb dL_law_531 (lv_at hl 1 rfl) ?_
    refine lv_iconst (v := 3) hx hb dL_law_533 (by decide) ?_
    refine lv_iadd hx hb dL_law_534 ?_
    rw [show ((nI (6 * i)) + 3 : Int32) = nI ((6 * i) + 3) from nI_add (6 * i) 3]
    refine va_sld hx hb hX hbl hbA hS (show vp_in (nI ((6 * i) + 3)) L from ki_in (by omega) (by omega)) dL_law_535 ?_
    rw [show xs (nI ((6 * i) + 3)).toNatClampNeg = a3 from (congrArg xs (ki_cl (by omega))).trans ea3.symm]
    refine kj_i (pmM _ _ _ _) (va_runV (As := [.int a1, .int a2, .int a3]) (rest := []) ⟨hx, hb, hml, hown, htT⟩ (m_need_0 l D cA _ am r M a1 a2 a3 (by rw [hI.h3]; exact hk0)) (cwV 3 htT (kg_V m_ml_L_147 m_im_X6_need m_sl_X6_need m_in_X6 m_cd_X6_need) rfl rfl rfl (by decide +kernel) ⟨Nat.le_of_ble_eq_true rfl, Nat.le_of_ble_eq_true rfl⟩) (kj_V (pmM _ _ _ _) hK hP hD hTB (kj_rm (pmM _ _ _ _) hK hP)) rfl rfl hl.1 rfl (lv_room (Nat.le_of_ble_eq_true rfl)) dL_law_536 ⟨(by show _ ≤ 601024; omega), (by show _ ≤ 7293034; omega)⟩) hP hD hS hA (fun r_2 x_2 H locs hq_2 hP hD hS => ?_)
    have hP := kj_P (pmM _ _ _ _).symm hP
    have hD := kj_D (pmM _ _ _ _).symm hD
    rw [hq_2.1]
    rw [hq_2.2] at hP hD
    refine lv_istore (lv' := [(7, .int 0), (6, .int 1), (5, .int (nI (6 * i))), (4, .ref qd), (3, .ref qo), (2, .ref am), (1, .ref x), (0, .ref b)]) hx hb dL_law_539 hl (by decide) rfl (fun ls hl => ?_)
    refine lv_goto (tgt := 1750) hx hb dL_law_541 (by decide) ?_
    refine W.widen (k := c0 + 20) (n := s0 + 400) (by omega) (by omega) ?_
    exact hnext _ (mS (mS M 0 0) 0 1) _ _ _ _ _ _ _ _ _ _ hd0 h ((hI.iS (k := 0) (v := 0) (by decide) (by decide)).iS (by decide) (by decide)) (hL9.m eqM.rf.s0.s0) (hY.of rfl) (e1) (e2) hP hD hS (lv_sub hl [2, 3, 4, 5, 6, 7] rfl)
  · rw [er]
    rw [show gI S a 16 = M.2 15 j from hL9.rn hjn hja (q := (16, 15)) (by decide)] at efo
    rw [eS] at hP hD
    rw [efo] at hP hD
    refine lv_istore (lv' := [(6, .int 0), (5, .int (nI (6 * i))), (4, .ref qd), (3, .ref qo), (2, .ref am), (1, .ref x), (0, .ref b)]) hx hb dL_law_515 hl (by decide) rfl (fun ls hl => ?_)
    refine lv_aload_n hx hb dL_law_517 rfl (lv_at hl 4 rfl) ?_
    refine lv_aload_n hx hb dL_law_518 rfl (lv_at hl 6 rfl) ?_
    refine lv_iload hx hb dL_law_519 (lv_at hl 1 rfl) ?_
    refine lv_iconst (v := 1) hx hb dL_law_521 (by decide) ?_
    refine lv_iadd hx hb dL_law_522 ?_
    rw [show ((nI (6 * i)) + 1 : Int32) = nI ((6 * i) + 1) from nI_add (6 * i) 1]
    refine va_sld hx hb hX hbl hbA hS (show vp_in (nI ((6 * i) + 1)) L from ki_in (by omega) (by omega)) dL_law_523 ?_
    rw [show xs (nI ((6 * i) + 1)).toNatClampNeg = a1 from (congrArg xs (ki_cl (by omega))).trans ea1.symm]
    refine lv_aload_n hx hb dL_law_524 rfl (lv_at hl 6 rfl) ?_
    refine lv_iload hx hb dL_law_525 (lv_at hl 1 rfl) ?_
    refine lv_iconst (v := 2) hx hb dL_law_527 (by decide) ?_
    refine lv_iadd hx hb dL_law_528 ?_
    rw [show ((nI (6 * i)) + 2 : Int32) = nI ((6 * i) + 2) from nI_add (6 * i) 2]
    refine va_sld hx hb hX hbl hbA hS (show vp_in (nI ((6 * i) + 2)) L from ki_in (by omega) (by omega)) dL_law_529 ?_
    rw [show xs (nI ((6 * i) + 2)).toNatClampNeg = a2 from (congrArg xs (ki_cl (by omega))).trans ea2.symm]
    refine lv_aload_n hx hb dL_law_530 rfl (lv_at hl 6 rfl) ?_
    refine lv_iload hx hb dL_law_531 (lv_at hl 1 rfl) ?_
    refine lv_iconst (v := 3) hx hb dL_law_533 (by decide) ?_
    refine lv_iadd hx hb dL_law_534 ?_
    rw [show ((nI (6 * i)) + 3 : Int32) = nI ((6 * i) + 3) from nI_add (6 * i) 3]
    refine va_sld hx hb hX hbl hbA hS (show vp_in (nI ((6 * i) + 3)) L from ki_in (by omega) (by omega)) dL_law_535 ?_
    rw [show xs (nI ((6 * i) + 3)).toNatClampNeg = a3 from (congrArg xs (ki_cl (by omega))).trans ea3.symm]
    rw [ej]
    rw [e2n]
    refine kj_i (pmM _ _ _ _) (va_runV (As := [.int (nI j), .int (-1), .int a3]) (rest := []) ⟨hx, hb, hml, hown, htT⟩ (m_need_n l D cA _ am r M n j hjn hI.n8 hI.h3 a3) (cwV 3 htT (kg_V m_ml_L_147 m_im_X6_need m_sl_X6_need m_in_X6 m_cd_X6_need) rfl rfl rfl (by decide +kernel) ⟨Nat.le_of_ble_eq_true rfl, Nat.le_of_ble_eq_true rfl⟩) (kj_V (pmM _ _ _ _) hK hP hD hTB (kj_rm (pmM _ _ _ _) hK hP)) rfl rfl hl.1 rfl (lv_room (Nat.le_of_ble_eq_true rfl)) dL_law_536 ⟨(by show _ ≤ 601024; omega), (by show _ ≤ 7293034; omega)⟩) hP hD hS hA (fun r_3 x_3 H locs hq_3 hP hD hS => ?_)
    have hP := kj_P (pmM _ _ _ _).symm hP
    have hD := kj_D (pmM _ _ _ _).symm hD
    rw [hq_3.1]
    rw [hq_3.2] at hP hD
    refine lv_istore (lv' := [(7, .int (M.2 15 j)), (6, .int 0), (5, .int (nI (6 * i))), (4, .ref qd), (3, .ref qo), (2, .ref am), (1, .ref x), (0, .ref b)]) hx hb dL_law_539 hl (by decide) rfl (fun ls hl => ?_)
    refine lv_goto (tgt := 1750) hx hb dL_law_541 (by decide) ?_
    refine W.widen (k := c0 + 20) (n := s0 + 400) (by omega) (by omega) ?_
    exact hnext _ (mR (mR (mS M 0 0) 15 j (-1)) 16 j a3) _ _ _ _ _ _ _ _ _ _ hd0 ((h.pIs (k := 16) (v := (-1)) (h.sw (by have := h.n8; omega) hja).1 (by decide)).pIs (k := 17) (v := a3) (h.sw (by have := h.n8; omega) hja).1 (by decide)) (INVR.iR (INVR.need (hI.iS (k := 0) (v := 0) (by decide) (by decide)) hjn (Or.inl rfl)) (by decide)) (((hL9.m eqM.rf.s0).num h hjn hja (k := 16) (k' := 15) (v := (-1)) (by decide) (by decide) (by decide)).num (h.pIs (k := 16) (v := (-1)) (h.sw (by have := h.n8; omega) hja).1 (by decide)) hjn hja (k := 17) (k' := 16) (v := a3) (by decide) (by decide) (by decide)) (hY.of rfl) (e1) (e2) hP hD hS (lv_sub hl [2, 3, 4, 5, 6, 7] rfl)
  · rw [er]
    rw [eS] at hP hD
    refine lv_istore (lv' := [(6, .int 1), (5, .int (nI (6 * i))), (4, .ref qd), (3, .ref qo), (2, .ref am), (1, .ref x), (0, .ref b)]) hx hb dL_law_515 hl (by decide) rfl (fun ls hl => ?_)
    refine lv_aload_n hx hb dL_law_517 rfl (lv_at hl 4 rfl) ?_
    refine lv_aload_n hx hb dL_law_518 rfl (lv_at hl 6 rfl) ?_
    refine lv_iload hx hb dL_law_519 (lv_at hl 1 rfl) ?_
    refine lv_iconst (v := 1) hx hb dL_law_521 (by decide) ?_
    refine lv_iadd hx hb dL_law_522 ?_
    rw [show ((nI (6 * i)) + 1 : Int32) = nI ((6 * i) + 1) from nI_add (6 * i) 1]
    refine va_sld hx hb hX hbl hbA hS (show vp_in (nI ((6 * i) + 1)) L from ki_in (by omega) (by omega)) dL_law_523 ?_
    rw [show xs (nI ((6 * i) + 1)).toNatClampNeg = a1 from (congrArg xs (ki_cl (by omega))).trans ea1.symm]
    refine lv_aload_n hx hb dL_law_524 rfl (lv_at hl 6 rfl) ?_
    refine lv_iload hx hb dL_law_525 (lv_at hl 1 rfl) ?_
    refine lv_iconst (v := 2) hx hb dL_law_527 (by decide) ?_
    refine lv_iadd hx hb dL_law_528 ?_
    rw [show ((nI (6 * i)) + 2 : Int32) = nI ((6 * i) + 2) from nI_add (6 * i) 2]
    refine va_sld hx hb hX hbl hbA hS (show vp_in (nI ((6 * i) + 2)) L from ki_in (by omega) (by omega)) dL_law_529 ?_
    rw [show xs (nI ((6 * i) + 2)).toNatClampNeg = a2 from (congrArg xs (ki_cl (by omega))).trans ea2.symm]
    refine lv_aload_n hx hb dL_law_530 rfl (lv_at hl 6 rfl) ?_
    refine lv_iload hx hb dL_law_531 (lv_at hl 1 rfl) ?_
    refine lv_iconst (v := 3) hx hb dL_law_533 (by decide) ?_
    refine lv_iadd hx hb dL_law_534 ?_
    rw [show ((nI (6 * i)) + 3 : Int32) = nI ((6 * i) + 3) from nI_add (6 * i) 3]
    refine va_sld hx hb hX hbl hbA hS (show vp_in (nI ((6 * i) + 3)) L from ki_in (by omega) (by omega)) dL_law_535 ?_
    rw [show xs (nI ((6 * i) + 3)).toNatClampNeg = a3 from (congrArg xs (ki_cl (by omega))).trans ea3.symm]
    rw [ej]
    refine kj_i (pmM _ _ _ _) (va_runV (As := [.int (nI j), .int a2, .int a3]) (rest := []) ⟨hx, hb, hml, hown, htT⟩ (m_need_o l D cA _ am r M n j hjn hI.n8 hI.h3 a2 a3 hn1 (by rw [hI.h3]; exact hk1)) (cwV 3 htT (kg_V m_ml_L_147 m_im_X6_need m_sl_X6_need m_in_X6 m_cd_X6_need) rfl rfl rfl (by decide +kernel) ⟨Nat.le_of_ble_eq_true rfl, Nat.le_of_ble_eq_true rfl⟩) (kj_V (pmM _ _ _ _) hK hP hD hTB (kj_rm (pmM _ _ _ _) hK hP)) rfl rfl hl.1 rfl (lv_room (Nat.le_of_ble_eq_true rfl)) dL_law_536 ⟨(by show _ ≤ 601024; omega), (by show _ ≤ 7293034; omega)⟩) hP hD hS hA (fun r_4 x_4 H locs hq_4 hP hD hS => ?_)
    have hP := kj_P (pmM _ _ _ _).symm hP
    have hD := kj_D (pmM _ _ _ _).symm hD
    rw [hq_4.1]
    rw [hq_4.2] at hP hD
    refine lv_istore (lv' := [(7, .int 0), (6, .int 1), (5, .int (nI (6 * i))), (4, .ref qd), (3, .ref qo), (2, .ref am), (1, .ref x), (0, .ref b)]) hx hb dL_law_539 hl (by decide) rfl (fun ls hl => ?_)
    refine lv_goto (tgt := 1750) hx hb dL_law_541 (by decide) ?_
    refine W.widen (k := c0 + 20) (n := s0 + 400) (by omega) (by omega) ?_
    exact hnext _ (mS (mS M 0 0) 0 1) _ _ _ _ _ _ _ _ _ _ hd0 h ((hI.iS (k := 0) (v := 0) (by decide) (by decide)).iS (by decide) (by decide)) (hL9.m eqM.rf.s0.s0) (hY.of rfl) (e1) (e2) hP hD hS (lv_sub hl [2, 3, 4, 5, 6, 7] rfl)
  · rw [er]
    have r2 : gI S b2 2 = M.2 5 i2 := hL9.rn hi2 hjb (q := (2, 5)) (by decide)
    rw [r2] at hv
    rw [eS] at hP hD
    refine lv_istore (lv' := [(6, .int 1), (5, .int (nI (6 * i))), (4, .ref qd), (3, .ref qo), (2, .ref am), (1, .ref x), (0, .ref b)]) hx hb dL_law_515 hl (by decide) rfl (fun ls hl => ?_)
    refine lv_aload_n hx hb dL_law_517 rfl (lv_at hl 4 rfl) ?_
    refine lv_aload_n hx hb dL_law_518 rfl (lv_at hl 6 rfl) ?_
    refine lv_iload hx hb dL_law_519 (lv_at hl 1 rfl) ?_
    refine lv_iconst (v := 1) hx hb dL_law_521 (by decide) ?_
    refine lv_iadd hx hb dL_law_522 ?_
    rw [show ((nI (6 * i)) + 1 : Int32) = nI ((6 * i) + 1) from nI_add (6 * i) 1]
    refine va_sld hx hb hX hbl hbA hS (show vp_in (nI ((6 * i) + 1)) L from ki_in (by omega) (by omega)) dL_law_523 ?_
    rw [show xs (nI ((6 * i) + 1)).toNatClampNeg = a1 from (congrArg xs (ki_cl (by omega))).trans ea1.symm]
    refine lv_aload_n hx hb dL_law_524 rfl (lv_at hl 6 rfl) ?_
    refine lv_iload hx hb dL_law_525 (lv_at hl 1 rfl) ?_
    refine lv_iconst (v := 2) hx hb dL_law_527 (by decide) ?_
    refine lv_iadd hx hb dL_law_528 ?_
    rw [show ((nI (6 * i)) + 2 : Int32) = nI ((6 * i) + 2) from nI_add (6 * i) 2]
    refine va_sld hx hb hX hbl hbA hS (show vp_in (nI ((6 * i) + 2)) L from ki_in (by omega) (by omega)) dL_law_529 ?_
    rw [show xs (nI ((6 * i) + 2)).toNatClampNeg = a2 from (congrArg xs (ki_cl (by omega))).trans ea2.symm]
    refine lv_aload_n hx hb dL_law_530 rfl (lv_at hl 6 rfl) ?_
    refine lv_iload hx hb dL_law_531 (lv_at hl 1 rfl) ?_
    refine lv_iconst (v := 3) hx hb dL_law_533 (by decide) ?_
    refine lv_iadd hx hb dL_law_534 ?_
    rw [show ((nI (6 * i)) + 3 : Int32) = nI ((6 * i) + 3) from nI_add (6 * i) 3]
    refine va_sld hx hb hX hbl hbA hS (show vp_in (nI ((6 * i) + 3)) L from ki_in (by omega) (by omega)) dL_law_535 ?_
    rw [show xs (nI ((6 * i) + 3)).toNatClampNeg = a3 from (congrArg xs (ki_cl (by omega))).trans ea3.symm]
    rw [ej]
    rw [e2i]
    refine kj_i (pmM _ _ _ _) (va_runV (As := [.int (nI j), .int (nI i2), .int a3]) (rest := []) ⟨hx, hb, hml, hown, htT⟩ (m_need_v l D cA _ am r M n j hjn hI.n8 hI.h3 i2 hi2 a3 (kIn_out0.mpr hv)) (cwV 3 htT (kg_V m_ml_L_147 m_im_X6_need m_sl_X6_need m_in_X6 m_cd_X6_need) rfl rfl rfl (by decide +kernel) ⟨Nat.le_of_ble_eq_true rfl, Nat.le_of_ble_eq_true rfl⟩) (kj_V (pmM _ _ _ _) hK hP hD hTB (kj_rm (pmM _ _ _ _) hK hP)) rfl rfl hl.1 rfl (lv_room (Nat.le_of_ble_eq_true rfl)) dL_law_536 ⟨(by show _ ≤ 601024; omega), (by show _ ≤ 7293034; omega)⟩) hP hD hS hA (fun r_5 x_5 H locs hq_5 hP hD hS => ?_)
    have hP := kj_P (pmM _ _ _ _).symm hP
    have hD := kj_D (pmM _ _ _ _).symm hD
    rw [hq_5.1]
    rw [hq_5.2] at hP hD
    refine lv_istore (lv' := [(7, .int 0), (6, .int 1), (5, .int (nI (6 * i))), (4, .ref qd), (3, .ref qo), (2, .ref am), (1, .ref x), (0, .ref b)]) hx hb dL_law_539 hl (by decide) rfl (fun ls hl => ?_)
    refine lv_goto (tgt := 1750) hx hb dL_law_541 (by decide) ?_
    refine W.widen (k := c0 + 20) (n := s0 + 400) (by omega) (by omega) ?_
    exact hnext _ (mS (mS M 0 0) 0 1) _ _ _ _ _ _ _ _ _ _ hd0 h ((hI.iS (k := 0) (v := 0) (by decide) (by decide)).iS (by decide) (by decide)) (hL9.m eqM.rf.s0.s0) (hY.of rfl) (e1) (e2) hP hD hS (lv_sub hl [2, 3, 4, 5, 6, 7] rfl)
  · rw [er]
    have r2 : gI S b2 2 = M.2 5 i2 := hL9.rn hi2 hjb (q := (2, 5)) (by decide)
    rw [r2] at hv
    rw [show gI S a 16 = M.2 15 j from hL9.rn hjn hja (q := (16, 15)) (by decide)] at efo
    have hij : i2 < j := (nI_ltI (a := i2) (b := j) (by have := h.n8; omega) (by have := h.n8; omega)).mp hlt
    rw [eS] at hP hD
    rw [efo] at hP hD
    refine lv_istore (lv' := [(6, .int 0), (5, .int (nI (6 * i))), (4, .ref qd), (3, .ref qo), (2, .ref am), (1, .ref x), (0, .ref b)]) hx hb dL_law_515 hl (by decide) rfl (fun ls hl => ?_)
    refine lv_aload_n hx hb dL_law_517 rfl (lv_at hl 4 rfl) ?_
    refine lv_aload_n hx hb dL_law_518 rfl (lv_at hl 6 rfl) ?_
    refine lv_iload hx hb dL_law_519 (lv_at hl 1 rfl) ?_
    refine lv_iconst (v := 1) hx hb dL_law_521 (by decide) ?_
    refine lv_iadd hx hb dL_law_522 ?_
    rw [show ((nI (6 * i)) + 1 : Int32) = nI ((6 * i) + 1) from nI_add (6 * i) 1]
    refine va_sld hx hb hX hbl hbA hS (show vp_in (nI ((6 * i) + 1)) L from ki_in (by omega) (by omega)) dL_law_523 ?_
    rw [show xs (nI ((6 * i) + 1)).toNatClampNeg = a1 from (congrArg xs (ki_cl (by omega))).trans ea1.symm]
    refine lv_aload_n hx hb dL_law_524 rfl (lv_at hl 6 rfl) ?_
    refine lv_iload hx hb dL_law_525 (lv_at hl 1 rfl) ?_
    refine lv_iconst (v := 2) hx hb dL_law_527 (by decide) ?_
    refine lv_iadd hx hb dL_law_528 ?_
    rw [show ((nI (6 * i)) + 2 : Int32) = nI ((6 * i) + 2) from nI_add (6 * i) 2]
    refine va_sld hx hb hX hbl hbA hS (show vp_in (nI ((6 * i) + 2)) L from ki_in (by omega) (by omega)) dL_law_529 ?_
    rw [show xs (nI ((6 * i) + 2)).toNatClampNeg = a2 from (congrArg xs (ki_cl (by omega))).trans ea2.symm]
    refine lv_aload_n hx hb dL_law_530 rfl (lv_at hl 6 rfl) ?_
    refine lv_iload hx hb dL_law_531 (lv_at hl 1 rfl) ?_
    refine lv_iconst (v := 3) hx hb dL_law_533 (by decide) ?_
    refine lv_iadd hx hb dL_law_534 ?_
    rw [show ((nI (6 * i)) + 3 : Int32) = nI ((6 * i) + 3) from nI_add (6 * i) 3]
    refine va_sld hx hb hX hbl hbA hS (show vp_in (nI ((6 * i) + 3)) L from ki_in (by omega) (by omega)) dL_law_535 ?_
    rw [show xs (nI ((6 * i) + 3)).toNatClampNeg = a3 from (congrArg xs (ki_cl (by omega))).trans ea3.symm]
    rw [ej]
    rw [e2i]
    refine kj_i (pmM _ _ _ _) (va_runV (As := [.int (nI j), .int (nI i2), .int a3]) (rest := []) ⟨hx, hb, hml, hown, htT⟩ (m_need l D cA _ am r M n j hjn hI.n8 hI.h3 i2 hi2 a3 (kIn_out.mpr hv) hij) (cwV 3 htT (kg_V m_ml_L_147 m_im_X6_need m_sl_X6_need m_in_X6 m_cd_X6_need) rfl rfl rfl (by decide +kernel) ⟨Nat.le_of_ble_eq_true rfl, Nat.le_of_ble_eq_true rfl⟩) (kj_V (pmM _ _ _ _) hK hP hD hTB (kj_rm (pmM _ _ _ _) hK hP)) rfl rfl hl.1 rfl (lv_room (Nat.le_of_ble_eq_true rfl)) dL_law_536 ⟨(by show _ ≤ 601024; omega), (by show _ ≤ 7293034; omega)⟩) hP hD hS hA (fun r_6 x_6 H locs hq_6 hP hD hS => ?_)
    have hP := kj_P (pmM _ _ _ _).symm hP
    have hD := kj_D (pmM _ _ _ _).symm hD
    rw [hq_6.1]
    rw [hq_6.2] at hP hD
    refine lv_istore (lv' := [(7, .int (M.2 15 j)), (6, .int 0), (5, .int (nI (6 * i))), (4, .ref qd), (3, .ref qo), (2, .ref am), (1, .ref x), (0, .ref b)]) hx hb dL_law_539 hl (by decide) rfl (fun ls hl => ?_)
    refine lv_goto (tgt := 1750) hx hb dL_law_541 (by decide) ?_
    refine W.widen (k := c0 + 20) (n := s0 + 400) (by omega) (by omega) ?_
    exact hnext _ (mR (mR (mS M 0 0) 15 j (nI i2)) 16 j a3) _ _ _ _ _ _ _ _ _ _ hd0 ((h.pIs (k := 16) (v := (nI i2)) (h.sw (by have := h.n8; omega) hja).1 (by decide)).pIs (k := 17) (v := a3) (h.sw (by have := h.n8; omega) hja).1 (by decide)) (INVR.iR (INVR.need (hI.iS (k := 0) (v := 0) (by decide) (by decide)) hjn (Or.inr ⟨i2, hij, rfl⟩)) (by decide)) (((hL9.m eqM.rf.s0).num h hjn hja (k := 16) (k' := 15) (v := (nI i2)) (by decide) (by decide) (by decide)).num (h.pIs (k := 16) (v := (nI i2)) (h.sw (by have := h.n8; omega) hja).1 (by decide)) hjn hja (k := 17) (k' := 16) (v := a3) (by decide) (by decide) (by decide)) (hY.of rfl) (e1) (e2) hP hD hS (lv_sub hl [2, 3, 4, 5, 6, 7] rfl)
  · rw [er]
    have r2 : gI S b2 2 = M.2 5 i2 := hL9.rn hi2 hjb (q := (2, 5)) (by decide)
    rw [r2] at hv
    have hij : j ≤ i2 := Nat.not_lt.mp (fun q => hlt ((nI_ltI (a := i2) (b := j) (by have := h.n8; omega) (by have := h.n8; omega)).mpr q))
    rw [eS] at hP hD
    refine lv_istore (lv' := [(6, .int 2), (5, .int (nI (6 * i))), (4, .ref qd), (3, .ref qo), (2, .ref am), (1, .ref x), (0, .ref b)]) hx hb dL_law_515 hl (by decide) rfl (fun ls hl => ?_)
    refine lv_aload_n hx hb dL_law_517 rfl (lv_at hl 4 rfl) ?_
    refine lv_aload_n hx hb dL_law_518 rfl (lv_at hl 6 rfl) ?_
    refine lv_iload hx hb dL_law_519 (lv_at hl 1 rfl) ?_
    refine lv_iconst (v := 1) hx hb dL_law_521 (by decide) ?_
    refine lv_iadd hx hb dL_law_522 ?_
    rw [show ((nI (6 * i)) + 1 : Int32) = nI ((6 * i) + 1) from nI_add (6 * i) 1]
    refine va_sld hx hb hX hbl hbA hS (show vp_in (nI ((6 * i) + 1)) L from ki_in (by omega) (by omega)) dL_law_523 ?_
    rw [show xs (nI ((6 * i) + 1)).toNatClampNeg = a1 from (congrArg xs (ki_cl (by omega))).trans ea1.symm]
    refine lv_aload_n hx hb dL_law_524 rfl (lv_at hl 6 rfl) ?_
    refine lv_iload hx hb dL_law_525 (lv_at hl 1 rfl) ?_
    refine lv_iconst (v := 2) hx hb dL_law_527 (by decide) ?_
    refine lv_iadd hx hb dL_law_528 ?_
    rw [show ((nI (6 * i)) + 2 : Int32) = nI ((6 * i) + 2) from nI_add (6 * i) 2]
    refine va_sld hx hb hX hbl hbA hS (show vp_in (nI ((6 * i) + 2)) L from ki_in (by omega) (by omega)) dL_law_529 ?_
    rw [show xs (nI ((6 * i) + 2)).toNatClampNeg = a2 from (congrArg xs (ki_cl (by omega))).trans ea2.symm]
    refine lv_aload_n hx hb dL_law_530 rfl (lv_at hl 6 rfl) ?_
    refine lv_iload hx hb dL_law_531 (lv_at hl 1 rfl) ?_
    refine lv_iconst (v := 3) hx hb dL_law_533 (by decide) ?_
    refine lv_iadd hx hb dL_law_534 ?_
    rw [show ((nI (6 * i)) + 3 : Int32) = nI ((6 * i) + 3) from nI_add (6 * i) 3]
    refine va_sld hx hb hX hbl hbA hS (show vp_in (nI ((6 * i) + 3)) L from ki_in (by omega) (by omega)) dL_law_535 ?_
    rw [show xs (nI ((6 * i) + 3)).toNatClampNeg = a3 from (congrArg xs (ki_cl (by omega))).trans ea3.symm]
    rw [ej]
    rw [e2i]
    refine kj_i (pmM _ _ _ _) (va_runV (As := [.int (nI j), .int (nI i2), .int a3]) (rest := []) ⟨hx, hb, hml, hown, htT⟩ (m_need_2 l D cA _ am r M n j hjn hI.n8 hI.h3 i2 hi2 a3 (kIn_out.mpr hv) hij) (cwV 3 htT (kg_V m_ml_L_147 m_im_X6_need m_sl_X6_need m_in_X6 m_cd_X6_need) rfl rfl rfl (by decide +kernel) ⟨Nat.le_of_ble_eq_true rfl, Nat.le_of_ble_eq_true rfl⟩) (kj_V (pmM _ _ _ _) hK hP hD hTB (kj_rm (pmM _ _ _ _) hK hP)) rfl rfl hl.1 rfl (lv_room (Nat.le_of_ble_eq_true rfl)) dL_law_536 ⟨(by show _ ≤ 601024; omega), (by show _ ≤ 7293034; omega)⟩) hP hD hS hA (fun r_7 x_7 H locs hq_7 hP hD hS => ?_)
    have hP := kj_P (pmM _ _ _ _).symm hP
    have hD := kj_D (pmM _ _ _ _).symm hD
    rw [hq_7.1]
    rw [hq_7.2] at hP hD
    refine lv_istore (lv' := [(7, .int 0), (6, .int 2), (5, .int (nI (6 * i))), (4, .ref qd), (3, .ref qo), (2, .ref am), (1, .ref x), (0, .ref b)]) hx hb dL_law_539 hl (by decide) rfl (fun ls hl => ?_)
    refine lv_goto (tgt := 1750) hx hb dL_law_541 (by decide) ?_
    refine W.widen (k := c0 + 20) (n := s0 + 400) (by omega) (by omega) ?_
    exact hnext _ (mS (mS M 0 0) 0 2) _ _ _ _ _ _ _ _ _ _ hd0 h ((hI.iS (k := 0) (v := 0) (by decide) (by decide)).iS (by decide) (by decide)) (hL9.m eqM.rf.s0.s0) (hY.of rfl) (e1) (e2) hP hD hS (lv_sub hl [2, 3, 4, 5, 6, 7] rfl)

set_option maxRecDepth 100000 in
set_option maxHeartbeats 4000000 in
theorem law_rule (l : Launch) (hst : l.stackTraces = false) {p : Program} {e : Env} {s : State} {m : MethodId} {below : List Frame} {meth : Method} {c : Code} {b L : Nat} {xs : Nat → Int32} (C0 : lw_At p s m meth c b L xs) {D : va_G} {cA : Nat → ClassId} (hK : va_K D vwCl (ty6 cA) s) (hTB : TBok s) (hTX : TXok (fun q : Nat => s.heap.size ≤ q) s) {x ar ak qo qd am : Nat} {r : Nat → Nat} {c0 s0 i : Nat} (hc0 : c0 + 20 ≤ 601024) (hs0 : s0 + 400 ≤ 7293034) (hi : 6 * i + 6 ≤ L) (hL : L ≤ 3072) (hnext : ∀ (S : Pool) (M : MSt) (fo : Nat → Int64) (fd : Nat → UInt64) (n na : Nat) (hh cc : Int32) (H : Heap) (locs : List Loc) (ls : Array Slot) (d : Drawn), s.drawn.sameBut d lw_cs → INVC n na hh cc S x ar ak → INVR n na M → REL True n na S M ar → LAY n M → M.1 1 = cc → M.1 2 = hh → va_P D vwCl (LW cA S qo fo qd fd am r M) H → va_D (fun q : Nat => s.heap.size ≤ q) (LW cA S qo fo qd fd am r M) → va_S (fun q : Nat => s.heap.size ≤ q) s.heap H locs → lv_has ls 9 [(5, .int (nI (6 * i))), (4, .ref qd), (3, .ref qo), (2, .ref am), (1, .ref x), (0, .ref b)] → W p l e room_1 (s.setDrawn d) m #[Value.ref b] below meth c H locs (c0 + 20) (s0 + 400) (lw_Z below #[Value.ref b] s) (F0 m 1750 ls [])) {S : Pool} {M : MSt} {fo : Nat → Int64} {fd : Nat → UInt64} {n na : Nat} {hh cc : Int32} {H : Heap} {locs : List Loc} {ls : Array Slot} {d : Drawn} (hd0 : s.drawn.sameBut d lw_cs) (h : INVC n na hh cc S x ar ak) (hI : INVR n na M) (hL9 : REL True n na S M ar) (hY : LAY n M) (e1 : M.1 1 = cc) (e2 : M.1 2 = hh) (hP : va_P D vwCl (LW cA S qo fo qd fd am r M) H) (hD : va_D (fun q : Nat => s.heap.size ≤ q) (LW cA S qo fo qd fd am r M)) (hS : va_S (fun q : Nat => s.heap.size ≤ q) s.heap H locs) (hl : lv_has ls 9 [(5, .int (nI (6 * i))), (4, .ref qd), (3, .ref qo), (2, .ref am), (1, .ref x), (0, .ref b)]) : W p l e room_1 (s.setDrawn d) m #[Value.ref b] below meth c H locs c0 s0 (lw_Z below #[Value.ref b] s) (F0 m 544 ls []) := by
  obtain ⟨hx, hb, hr, hml, hown, hts, hX, hbl, hlocks, hgv⟩ := id C0
  have hA : ∀ q : Nat, s.heap.size ≤ q → (fun q : Nat => s.heap.size ≤ q) q := fun _ h => h
  have hbA : ¬ (fun q : Nat => s.heap.size ≤ q) b := Nat.not_le.mpr hbl
  obtain ⟨a1, ea1⟩ : ∃ z, z = xs (6 * i + 1) := ⟨_, rfl⟩
  obtain ⟨a2, ea2⟩ : ∃ z, z = xs (6 * i + 2) := ⟨_, rfl⟩
  obtain ⟨a3, ea3⟩ : ∃ z, z = xs (6 * i + 3) := ⟨_, rfl⟩
  obtain ⟨a4, ea4⟩ : ∃ z, z = xs (6 * i + 4) := ⟨_, rfl⟩
  obtain ⟨a5, ea5⟩ : ∃ z, z = xs (6 * i + 5) := ⟨_, rfl⟩
  have htT0 : ∀ w ∈ TT, w.before _ s = true := fun w h => hts w (tt_in h)
  have hTB0 := hTB
  have hK0 := hK
  have hown0 : s.vm.findClass RL = some m.cls := hown
  have hTX0 := hTX
  have hX0 := hX
  have htT : ∀ w ∈ TT, w.before _ (s.setDrawn d) = true := dr_words htT0 d
  have hTB : TBok (s.setDrawn d) := TBok.same (u := s) (U := s.setDrawn d) rfl (Vm.Alike.refl s.vm) hTB0
  have hK : va_K D vwCl (ty6 cA) (s.setDrawn d) := hK0
  have hown : (s.setDrawn d).vm.findClass RL = some m.cls := hown0
  have hTX : TXok (fun q : Nat => s.heap.size ≤ q) (s.setDrawn d) := hTX0.dr d
  have hX : va_X b L xs (s.setDrawn d) (s.setDrawn d).heap := hX0
  refine lv_aload_n hx hb dL_law_544 rfl (lv_at hl 4 rfl) ?_
  refine lv_aload_n hx hb dL_law_545 rfl (lv_at hl 5 rfl) ?_
  refine lv_iload hx hb dL_law_546 (lv_at hl 0 rfl) ?_
  refine lv_iconst (v := 1) hx hb dL_law_548 (by decide) ?_
  refine lv_iadd hx hb dL_law_549 ?_
  rw [show ((nI (6 * i)) + 1 : Int32) = nI ((6 * i) + 1) from nI_add (6 * i) 1]
  refine va_sld hx hb hX hbl hbA hS (show vp_in (nI ((6 * i) + 1)) L from ki_in (by omega) (by omega)) dL_law_550 ?_
  rw [show xs (nI ((6 * i) + 1)).toNatClampNeg = a1 from (congrArg xs (ki_cl (by omega))).trans ea1.symm]
  refine lv_aload_n hx hb dL_law_551 rfl (lv_at hl 5 rfl) ?_
  refine lv_iload hx hb dL_law_552 (lv_at hl 0 rfl) ?_
  refine lv_iconst (v := 2) hx hb dL_law_554 (by decide) ?_
  refine lv_iadd hx hb dL_law_555 ?_
  rw [show ((nI (6 * i)) + 2 : Int32) = nI ((6 * i) + 2) from nI_add (6 * i) 2]
  refine va_sld hx hb hX hbl hbA hS (show vp_in (nI ((6 * i) + 2)) L from ki_in (by omega) (by omega)) dL_law_556 ?_
  rw [show xs (nI ((6 * i) + 2)).toNatClampNeg = a2 from (congrArg xs (ki_cl (by omega))).trans ea2.symm]
  refine lv_aload_n hx hb dL_law_557 rfl (lv_at hl 5 rfl) ?_
  refine lv_iload hx hb dL_law_558 (lv_at hl 0 rfl) ?_
  refine lv_iconst (v := 3) hx hb dL_law_560 (by decide) ?_
  refine lv_iadd hx hb dL_law_561 ?_
  rw [show ((nI (6 * i)) + 3 : Int32) = nI ((6 * i) + 3) from nI_add (6 * i) 3]
  refine va_sld hx hb hX hbl hbA hS (show vp_in (nI ((6 * i) + 3)) L from ki_in (by omega) (by omega)) dL_law_562 ?_
  rw [show xs (nI ((6 * i) + 3)).toNatClampNeg = a3 from (congrArg xs (ki_cl (by omega))).trans ea3.symm]
  refine lv_aload_n hx hb dL_law_563 rfl (lv_at hl 5 rfl) ?_
  refine lv_iload hx hb dL_law_564 (lv_at hl 0 rfl) ?_
  refine lv_iconst (v := 4) hx hb dL_law_566 (by decide) ?_
  refine lv_iadd hx hb dL_law_567 ?_
  rw [show ((nI (6 * i)) + 4 : Int32) = nI ((6 * i) + 4) from nI_add (6 * i) 4]
  refine va_sld hx hb hX hbl hbA hS (show vp_in (nI ((6 * i) + 4)) L from ki_in (by omega) (by omega)) dL_law_568 ?_
  rw [show xs (nI ((6 * i) + 4)).toNatClampNeg = a4 from (congrArg xs (ki_cl (by omega))).trans ea4.symm]
  refine lv_aload_n hx hb dL_law_569 rfl (lv_at hl 5 rfl) ?_
  refine lv_iload hx hb dL_law_570 (lv_at hl 0 rfl) ?_
  refine lv_iconst (v := 5) hx hb dL_law_572 (by decide) ?_
  refine lv_iadd hx hb dL_law_573 ?_
  rw [show ((nI (6 * i)) + 5 : Int32) = nI ((6 * i) + 5) from nI_add (6 * i) 5]
  refine va_sld hx hb hX hbl hbA hS (show vp_in (nI ((6 * i) + 5)) L from ki_in (by omega) (by omega)) dL_law_574 ?_
  rw [show xs (nI ((6 * i) + 5)).toNatClampNeg = a5 from (congrArg xs (ki_cl (by omega))).trans ea5.symm]
  refine lv_aload_n hx hb dL_law_575 rfl (lv_at hl 2 rfl) ?_
  refine kj_i (pmJ _ _ _ _) (vx_runSW (As := [.ref x, .int a1, .int a2, .int a3, .int a4, .int a5, .ref qo]) (rest := []) ⟨hx, hb, hml, hown, htT⟩ (w_rule l hst D cA _ S x qo fo n na hh cc ar ak h a1 a2 a3 a4 a5) (vx_cwSW 7 htT (kg_SW m_ml_L_148 m_st_L_rule m_in_L m_cd_L_rule) rfl rfl rfl (by decide +kernel) ⟨Nat.le_of_ble_eq_true rfl, Nat.le_of_ble_eq_true rfl⟩) (kj_SX (pmJ _ _ _ _) hK hP hD hTB hTX hS hA) rfl rfl hl.1 rfl (lv_room (Nat.le_of_ble_eq_true rfl)) dL_law_576 ⟨(by show _ ≤ 601024; omega), (by show _ ≤ 7293034; omega)⟩) hP hD hS hA (fun r_1 x_1 H locs hq_1 hP hD hS => ?_)
  rw [List.append_assoc] at hP hD
  rcases hq_1 with ⟨er, hk0, eS⟩ | ⟨er, j, a, hjn, ej, hja, hn4, hv, eS⟩ | ⟨er, j, a, hjn, ej, hja, hv | hv, hbad, eS⟩ | ⟨er, j, a, rc, q, hjn, ej, hja, hv | hv, hbad, hrc, h8, hq, eS, efo⟩ | ⟨er, j, a, rc, hjn, ej, hja, hv | hv, hbad, hrc, h8, eS⟩
  · rw [er]
    rw [eS] at hP hD
    refine lv_istore (lv' := [(6, .int 1), (5, .int (nI (6 * i))), (4, .ref qd), (3, .ref qo), (2, .ref am), (1, .ref x), (0, .ref b)]) hx hb dL_law_579 hl (by decide) rfl (fun ls hl => ?_)
    refine lv_aload_n hx hb dL_law_581 rfl (lv_at hl 4 rfl) ?_
    refine lv_aload_n hx hb dL_law_582 rfl (lv_at hl 6 rfl) ?_
    refine lv_iload hx hb dL_law_583 (lv_at hl 1 rfl) ?_
    refine lv_iconst (v := 1) hx hb dL_law_585 (by decide) ?_
    refine lv_iadd hx hb dL_law_586 ?_
    rw [show ((nI (6 * i)) + 1 : Int32) = nI ((6 * i) + 1) from nI_add (6 * i) 1]
    refine va_sld hx hb hX hbl hbA hS (show vp_in (nI ((6 * i) + 1)) L from ki_in (by omega) (by omega)) dL_law_587 ?_
    rw [show xs (nI ((6 * i) + 1)).toNatClampNeg = a1 from (congrArg xs (ki_cl (by omega))).trans ea1.symm]
    refine lv_aload_n hx hb dL_law_588 rfl (lv_at hl 6 rfl) ?_
    refine lv_iload hx hb dL_law_589 (lv_at hl 1 rfl) ?_
    refine lv_iconst (v := 2) hx hb dL_law_591 (by decide) ?_
    refine lv_iadd hx hb dL_law_592 ?_
    rw [show ((nI (6 * i)) + 2 : Int32) = nI ((6 * i) + 2) from nI_add (6 * i) 2]
    refine va_sld hx hb hX hbl hbA hS (show vp_in (nI ((6 * i) + 2)) L from ki_in (by omega) (by omega)) dL_law_593 ?_
    rw [show xs (nI ((6 * i) + 2)).toNatClampNeg = a2 from (congrArg xs (ki_cl (by omega))).trans ea2.symm]
    refine lv_aload_n hx hb dL_law_594 rfl (lv_at hl 6 rfl) ?_
    refine lv_iload hx hb dL_law_595 (lv_at hl 1 rfl) ?_
    refine lv_iconst (v := 3) hx hb dL_law_597 (by decide) ?_
    refine lv_iadd hx hb dL_law_598 ?_
    rw [show ((nI (6 * i)) + 3 : Int32) = nI ((6 * i) + 3) from nI_add (6 * i) 3]
    refine va_sld hx hb hX hbl hbA hS (show vp_in (nI ((6 * i) + 3)) L from ki_in (by omega) (by omega)) dL_law_599 ?_
    rw [show xs (nI ((6 * i) + 3)).toNatClampNeg = a3 from (congrArg xs (ki_cl (by omega))).trans ea3.symm]
    refine lv_aload_n hx hb dL_law_600 rfl (lv_at hl 6 rfl) ?_
    refine lv_iload hx hb dL_law_601 (lv_at hl 1 rfl) ?_
    refine lv_iconst (v := 4) hx hb dL_law_603 (by decide) ?_
    refine lv_iadd hx hb dL_law_604 ?_
    rw [show ((nI (6 * i)) + 4 : Int32) = nI ((6 * i) + 4) from nI_add (6 * i) 4]
    refine va_sld hx hb hX hbl hbA hS (show vp_in (nI ((6 * i) + 4)) L from ki_in (by omega) (by omega)) dL_law_605 ?_
    rw [show xs (nI ((6 * i) + 4)).toNatClampNeg = a4 from (congrArg xs (ki_cl (by omega))).trans ea4.symm]
    refine lv_aload_n hx hb dL_law_606 rfl (lv_at hl 6 rfl) ?_
    refine lv_iload hx hb dL_law_607 (lv_at hl 1 rfl) ?_
    refine lv_iconst (v := 5) hx hb dL_law_609 (by decide) ?_
    refine lv_iadd hx hb dL_law_610 ?_
    rw [show ((nI (6 * i)) + 5 : Int32) = nI ((6 * i) + 5) from nI_add (6 * i) 5]
    refine va_sld hx hb hX hbl hbA hS (show vp_in (nI ((6 * i) + 5)) L from ki_in (by omega) (by omega)) dL_law_611 ?_
    rw [show xs (nI ((6 * i) + 5)).toNatClampNeg = a5 from (congrArg xs (ki_cl (by omega))).trans ea5.symm]
    refine kj_i (pmM _ _ _ _) (va_runV (As := [.int a1, .int a2, .int a3, .int a4, .int a5]) (rest := []) ⟨hx, hb, hml, hown, htT⟩ (m_rule_0 l D cA _ am r M a1 a2 a3 a4 a5 (by rw [hI.h3]; exact hk0)) (cwV 5 htT (kg_V m_ml_L_151 m_im_X6_rule m_sl_X6_rule m_in_X6 m_cd_X6_rule) rfl rfl rfl (by decide +kernel) ⟨Nat.le_of_ble_eq_true rfl, Nat.le_of_ble_eq_true rfl⟩) (kj_V (pmM _ _ _ _) hK hP hD hTB (kj_rm (pmM _ _ _ _) hK hP)) rfl rfl hl.1 rfl (lv_room (Nat.le_of_ble_eq_true rfl)) dL_law_612 ⟨(by show _ ≤ 601024; omega), (by show _ ≤ 7293034; omega)⟩) hP hD hS hA (fun r_2 x_2 H locs hq_2 hP hD hS => ?_)
    have hP := kj_P (pmM _ _ _ _).symm hP
    have hD := kj_D (pmM _ _ _ _).symm hD
    rw [hq_2.1]
    rw [hq_2.2] at hP hD
    refine lv_istore (lv' := [(7, .int 0), (6, .int 1), (5, .int (nI (6 * i))), (4, .ref qd), (3, .ref qo), (2, .ref am), (1, .ref x), (0, .ref b)]) hx hb dL_law_615 hl (by decide) rfl (fun ls hl => ?_)
    refine lv_goto (tgt := 1750) hx hb dL_law_617 (by decide) ?_
    refine W.widen (k := c0 + 20) (n := s0 + 400) (by omega) (by omega) ?_
    exact hnext _ (mS (mS M 0 0) 0 1) _ _ _ _ _ _ _ _ _ _ hd0 h ((hI.iS (k := 0) (v := 0) (by decide) (by decide)).iS (by decide) (by decide)) (hL9.m eqM.rf.s0.s0) (hY.of rfl) (e1) (e2) hP hD hS (lv_sub hl [2, 3, 4, 5, 6, 7] rfl)
  · rw [er]
    have r25 : gI S a 2 = M.2 5 j := hL9.rn hjn hja (q := (2, 5)) (by decide)
    rw [r25] at hv
    rw [eS] at hP hD
    refine lv_istore (lv' := [(6, .int 1), (5, .int (nI (6 * i))), (4, .ref qd), (3, .ref qo), (2, .ref am), (1, .ref x), (0, .ref b)]) hx hb dL_law_579 hl (by decide) rfl (fun ls hl => ?_)
    refine lv_aload_n hx hb dL_law_581 rfl (lv_at hl 4 rfl) ?_
    refine lv_aload_n hx hb dL_law_582 rfl (lv_at hl 6 rfl) ?_
    refine lv_iload hx hb dL_law_583 (lv_at hl 1 rfl) ?_
    refine lv_iconst (v := 1) hx hb dL_law_585 (by decide) ?_
    refine lv_iadd hx hb dL_law_586 ?_
    rw [show ((nI (6 * i)) + 1 : Int32) = nI ((6 * i) + 1) from nI_add (6 * i) 1]
    refine va_sld hx hb hX hbl hbA hS (show vp_in (nI ((6 * i) + 1)) L from ki_in (by omega) (by omega)) dL_law_587 ?_
    rw [show xs (nI ((6 * i) + 1)).toNatClampNeg = a1 from (congrArg xs (ki_cl (by omega))).trans ea1.symm]
    refine lv_aload_n hx hb dL_law_588 rfl (lv_at hl 6 rfl) ?_
    refine lv_iload hx hb dL_law_589 (lv_at hl 1 rfl) ?_
    refine lv_iconst (v := 2) hx hb dL_law_591 (by decide) ?_
    refine lv_iadd hx hb dL_law_592 ?_
    rw [show ((nI (6 * i)) + 2 : Int32) = nI ((6 * i) + 2) from nI_add (6 * i) 2]
    refine va_sld hx hb hX hbl hbA hS (show vp_in (nI ((6 * i) + 2)) L from ki_in (by omega) (by omega)) dL_law_593 ?_
    rw [show xs (nI ((6 * i) + 2)).toNatClampNeg = a2 from (congrArg xs (ki_cl (by omega))).trans ea2.symm]
    refine lv_aload_n hx hb dL_law_594 rfl (lv_at hl 6 rfl) ?_
    refine lv_iload hx hb dL_law_595 (lv_at hl 1 rfl) ?_
    refine lv_iconst (v := 3) hx hb dL_law_597 (by decide) ?_
    refine lv_iadd hx hb dL_law_598 ?_
    rw [show ((nI (6 * i)) + 3 : Int32) = nI ((6 * i) + 3) from nI_add (6 * i) 3]
    refine va_sld hx hb hX hbl hbA hS (show vp_in (nI ((6 * i) + 3)) L from ki_in (by omega) (by omega)) dL_law_599 ?_
    rw [show xs (nI ((6 * i) + 3)).toNatClampNeg = a3 from (congrArg xs (ki_cl (by omega))).trans ea3.symm]
    refine lv_aload_n hx hb dL_law_600 rfl (lv_at hl 6 rfl) ?_
    refine lv_iload hx hb dL_law_601 (lv_at hl 1 rfl) ?_
    refine lv_iconst (v := 4) hx hb dL_law_603 (by decide) ?_
    refine lv_iadd hx hb dL_law_604 ?_
    rw [show ((nI (6 * i)) + 4 : Int32) = nI ((6 * i) + 4) from nI_add (6 * i) 4]
    refine va_sld hx hb hX hbl hbA hS (show vp_in (nI ((6 * i) + 4)) L from ki_in (by omega) (by omega)) dL_law_605 ?_
    rw [show xs (nI ((6 * i) + 4)).toNatClampNeg = a4 from (congrArg xs (ki_cl (by omega))).trans ea4.symm]
    refine lv_aload_n hx hb dL_law_606 rfl (lv_at hl 6 rfl) ?_
    refine lv_iload hx hb dL_law_607 (lv_at hl 1 rfl) ?_
    refine lv_iconst (v := 5) hx hb dL_law_609 (by decide) ?_
    refine lv_iadd hx hb dL_law_610 ?_
    rw [show ((nI (6 * i)) + 5 : Int32) = nI ((6 * i) + 5) from nI_add (6 * i) 5]
    refine va_sld hx hb hX hbl hbA hS (show vp_in (nI ((6 * i) + 5)) L from ki_in (by omega) (by omega)) dL_law_611 ?_
    rw [show xs (nI ((6 * i) + 5)).toNatClampNeg = a5 from (congrArg xs (ki_cl (by omega))).trans ea5.symm]
    rw [ej]
    refine kj_i (pmM _ _ _ _) (va_runV (As := [.int (nI j), .int a2, .int a3, .int a4, .int a5]) (rest := []) ⟨hx, hb, hml, hown, htT⟩ (m_rule_v l D cA _ am r M n j hjn hI.n8 hI.h3 a2 a3 a4 a5 hn4 (kIn_out0.mpr hv)) (cwV 5 htT (kg_V m_ml_L_151 m_im_X6_rule m_sl_X6_rule m_in_X6 m_cd_X6_rule) rfl rfl rfl (by decide +kernel) ⟨Nat.le_of_ble_eq_true rfl, Nat.le_of_ble_eq_true rfl⟩) (kj_V (pmM _ _ _ _) hK hP hD hTB (kj_rm (pmM _ _ _ _) hK hP)) rfl rfl hl.1 rfl (lv_room (Nat.le_of_ble_eq_true rfl)) dL_law_612 ⟨(by show _ ≤ 601024; omega), (by show _ ≤ 7293034; omega)⟩) hP hD hS hA (fun r_3 x_3 H locs hq_3 hP hD hS => ?_)
    have hP := kj_P (pmM _ _ _ _).symm hP
    have hD := kj_D (pmM _ _ _ _).symm hD
    rw [hq_3.1]
    rw [hq_3.2] at hP hD
    refine lv_istore (lv' := [(7, .int 0), (6, .int 1), (5, .int (nI (6 * i))), (4, .ref qd), (3, .ref qo), (2, .ref am), (1, .ref x), (0, .ref b)]) hx hb dL_law_615 hl (by decide) rfl (fun ls hl => ?_)
    refine lv_goto (tgt := 1750) hx hb dL_law_617 (by decide) ?_
    refine W.widen (k := c0 + 20) (n := s0 + 400) (by omega) (by omega) ?_
    exact hnext _ (mS (mS M 0 0) 0 1) _ _ _ _ _ _ _ _ _ _ hd0 h ((hI.iS (k := 0) (v := 0) (by decide) (by decide)).iS (by decide) (by decide)) (hL9.m eqM.rf.s0.s0) (hY.of rfl) (e1) (e2) hP hD hS (lv_sub hl [2, 3, 4, 5, 6, 7] rfl)
  · rw [er]
    rw [eS] at hP hD
    refine lv_istore (lv' := [(6, .int 2), (5, .int (nI (6 * i))), (4, .ref qd), (3, .ref qo), (2, .ref am), (1, .ref x), (0, .ref b)]) hx hb dL_law_579 hl (by decide) rfl (fun ls hl => ?_)
    refine lv_aload_n hx hb dL_law_581 rfl (lv_at hl 4 rfl) ?_
    refine lv_aload_n hx hb dL_law_582 rfl (lv_at hl 6 rfl) ?_
    refine lv_iload hx hb dL_law_583 (lv_at hl 1 rfl) ?_
    refine lv_iconst (v := 1) hx hb dL_law_585 (by decide) ?_
    refine lv_iadd hx hb dL_law_586 ?_
    rw [show ((nI (6 * i)) + 1 : Int32) = nI ((6 * i) + 1) from nI_add (6 * i) 1]
    refine va_sld hx hb hX hbl hbA hS (show vp_in (nI ((6 * i) + 1)) L from ki_in (by omega) (by omega)) dL_law_587 ?_
    rw [show xs (nI ((6 * i) + 1)).toNatClampNeg = a1 from (congrArg xs (ki_cl (by omega))).trans ea1.symm]
    refine lv_aload_n hx hb dL_law_588 rfl (lv_at hl 6 rfl) ?_
    refine lv_iload hx hb dL_law_589 (lv_at hl 1 rfl) ?_
    refine lv_iconst (v := 2) hx hb dL_law_591 (by decide) ?_
    refine lv_iadd hx hb dL_law_592 ?_
    rw [show ((nI (6 * i)) + 2 : Int32) = nI ((6 * i) + 2) from nI_add (6 * i) 2]
    refine va_sld hx hb hX hbl hbA hS (show vp_in (nI ((6 * i) + 2)) L from ki_in (by omega) (by omega)) dL_law_593 ?_
    rw [show xs (nI ((6 * i) + 2)).toNatClampNeg = a2 from (congrArg xs (ki_cl (by omega))).trans ea2.symm]
    refine lv_aload_n hx hb dL_law_594 rfl (lv_at hl 6 rfl) ?_
    refine lv_iload hx hb dL_law_595 (lv_at hl 1 rfl) ?_
    refine lv_iconst (v := 3) hx hb dL_law_597 (by decide) ?_
    refine lv_iadd hx hb dL_law_598 ?_
    rw [show ((nI (6 * i)) + 3 : Int32) = nI ((6 * i) + 3) from nI_add (6 * i) 3]
    refine va_sld hx hb hX hbl hbA hS (show vp_in (nI ((6 * i) + 3)) L from ki_in (by omega) (by omega)) dL_law_599 ?_
    rw [show xs (nI ((6 * i) + 3)).toNatClampNeg = a3 from (congrArg xs (ki_cl (by omega))).trans ea3.symm]
    refine lv_aload_n hx hb dL_law_600 rfl (lv_at hl 6 rfl) ?_
    refine lv_iload hx hb dL_law_601 (lv_at hl 1 rfl) ?_
    refine lv_iconst (v := 4) hx hb dL_law_603 (by decide) ?_
    refine lv_iadd hx hb dL_law_604 ?_
    rw [show ((nI (6 * i)) + 4 : Int32) = nI ((6 * i) + 4) from nI_add (6 * i) 4]
    refine va_sld hx hb hX hbl hbA hS (show vp_in (nI ((6 * i) + 4)) L from ki_in (by omega) (by omega)) dL_law_605 ?_
    rw [show xs (nI ((6 * i) + 4)).toNatClampNeg = a4 from (congrArg xs (ki_cl (by omega))).trans ea4.symm]
    refine lv_aload_n hx hb dL_law_606 rfl (lv_at hl 6 rfl) ?_
    refine lv_iload hx hb dL_law_607 (lv_at hl 1 rfl) ?_
    refine lv_iconst (v := 5) hx hb dL_law_609 (by decide) ?_
    refine lv_iadd hx hb dL_law_610 ?_
    rw [show ((nI (6 * i)) + 5 : Int32) = nI ((6 * i) + 5) from nI_add (6 * i) 5]
    refine va_sld hx hb hX hbl hbA hS (show vp_in (nI ((6 * i) + 5)) L from ki_in (by omega) (by omega)) dL_law_611 ?_
    rw [show xs (nI ((6 * i) + 5)).toNatClampNeg = a5 from (congrArg xs (ki_cl (by omega))).trans ea5.symm]
    rw [ej]
    refine kj_i (pmM _ _ _ _) (va_runV (As := [.int (nI j), .int a2, .int a3, .int a4, .int a5]) (rest := []) ⟨hx, hb, hml, hown, htT⟩ (m_rule_2 l D cA _ am r M n j hjn hI.n8 hI.h3 a2 a3 a4 a5 (Or.inl hv) (rul_bad hbad)) (cwV 5 htT (kg_V m_ml_L_151 m_im_X6_rule m_sl_X6_rule m_in_X6 m_cd_X6_rule) rfl rfl rfl (by decide +kernel) ⟨Nat.le_of_ble_eq_true rfl, Nat.le_of_ble_eq_true rfl⟩) (kj_V (pmM _ _ _ _) hK hP hD hTB (kj_rm (pmM _ _ _ _) hK hP)) rfl rfl hl.1 rfl (lv_room (Nat.le_of_ble_eq_true rfl)) dL_law_612 ⟨(by show _ ≤ 601024; omega), (by show _ ≤ 7293034; omega)⟩) hP hD hS hA (fun r_4 x_4 H locs hq_4 hP hD hS => ?_)
    have hP := kj_P (pmM _ _ _ _).symm hP
    have hD := kj_D (pmM _ _ _ _).symm hD
    rw [hq_4.1]
    rw [hq_4.2] at hP hD
    refine lv_istore (lv' := [(7, .int 0), (6, .int 2), (5, .int (nI (6 * i))), (4, .ref qd), (3, .ref qo), (2, .ref am), (1, .ref x), (0, .ref b)]) hx hb dL_law_615 hl (by decide) rfl (fun ls hl => ?_)
    refine lv_goto (tgt := 1750) hx hb dL_law_617 (by decide) ?_
    refine W.widen (k := c0 + 20) (n := s0 + 400) (by omega) (by omega) ?_
    exact hnext _ (mS (mS M 0 0) 0 2) _ _ _ _ _ _ _ _ _ _ hd0 h ((hI.iS (k := 0) (v := 0) (by decide) (by decide)).iS (by decide) (by decide)) (hL9.m eqM.rf.s0.s0) (hY.of rfl) (e1) (e2) hP hD hS (lv_sub hl [2, 3, 4, 5, 6, 7] rfl)
  · rw [er]
    have r25 : gI S a 2 = M.2 5 j := hL9.rn hjn hja (q := (2, 5)) (by decide)
    rw [r25] at hv
    rw [eS] at hP hD
    refine lv_istore (lv' := [(6, .int 2), (5, .int (nI (6 * i))), (4, .ref qd), (3, .ref qo), (2, .ref am), (1, .ref x), (0, .ref b)]) hx hb dL_law_579 hl (by decide) rfl (fun ls hl => ?_)
    refine lv_aload_n hx hb dL_law_581 rfl (lv_at hl 4 rfl) ?_
    refine lv_aload_n hx hb dL_law_582 rfl (lv_at hl 6 rfl) ?_
    refine lv_iload hx hb dL_law_583 (lv_at hl 1 rfl) ?_
    refine lv_iconst (v := 1) hx hb dL_law_585 (by decide) ?_
    refine lv_iadd hx hb dL_law_586 ?_
    rw [show ((nI (6 * i)) + 1 : Int32) = nI ((6 * i) + 1) from nI_add (6 * i) 1]
    refine va_sld hx hb hX hbl hbA hS (show vp_in (nI ((6 * i) + 1)) L from ki_in (by omega) (by omega)) dL_law_587 ?_
    rw [show xs (nI ((6 * i) + 1)).toNatClampNeg = a1 from (congrArg xs (ki_cl (by omega))).trans ea1.symm]
    refine lv_aload_n hx hb dL_law_588 rfl (lv_at hl 6 rfl) ?_
    refine lv_iload hx hb dL_law_589 (lv_at hl 1 rfl) ?_
    refine lv_iconst (v := 2) hx hb dL_law_591 (by decide) ?_
    refine lv_iadd hx hb dL_law_592 ?_
    rw [show ((nI (6 * i)) + 2 : Int32) = nI ((6 * i) + 2) from nI_add (6 * i) 2]
    refine va_sld hx hb hX hbl hbA hS (show vp_in (nI ((6 * i) + 2)) L from ki_in (by omega) (by omega)) dL_law_593 ?_
    rw [show xs (nI ((6 * i) + 2)).toNatClampNeg = a2 from (congrArg xs (ki_cl (by omega))).trans ea2.symm]
    refine lv_aload_n hx hb dL_law_594 rfl (lv_at hl 6 rfl) ?_
    refine lv_iload hx hb dL_law_595 (lv_at hl 1 rfl) ?_
    refine lv_iconst (v := 3) hx hb dL_law_597 (by decide) ?_
    refine lv_iadd hx hb dL_law_598 ?_
    rw [show ((nI (6 * i)) + 3 : Int32) = nI ((6 * i) + 3) from nI_add (6 * i) 3]
    refine va_sld hx hb hX hbl hbA hS (show vp_in (nI ((6 * i) + 3)) L from ki_in (by omega) (by omega)) dL_law_599 ?_
    rw [show xs (nI ((6 * i) + 3)).toNatClampNeg = a3 from (congrArg xs (ki_cl (by omega))).trans ea3.symm]
    refine lv_aload_n hx hb dL_law_600 rfl (lv_at hl 6 rfl) ?_
    refine lv_iload hx hb dL_law_601 (lv_at hl 1 rfl) ?_
    refine lv_iconst (v := 4) hx hb dL_law_603 (by decide) ?_
    refine lv_iadd hx hb dL_law_604 ?_
    rw [show ((nI (6 * i)) + 4 : Int32) = nI ((6 * i) + 4) from nI_add (6 * i) 4]
    refine va_sld hx hb hX hbl hbA hS (show vp_in (nI ((6 * i) + 4)) L from ki_in (by omega) (by omega)) dL_law_605 ?_
    rw [show xs (nI ((6 * i) + 4)).toNatClampNeg = a4 from (congrArg xs (ki_cl (by omega))).trans ea4.symm]
    refine lv_aload_n hx hb dL_law_606 rfl (lv_at hl 6 rfl) ?_
    refine lv_iload hx hb dL_law_607 (lv_at hl 1 rfl) ?_
    refine lv_iconst (v := 5) hx hb dL_law_609 (by decide) ?_
    refine lv_iadd hx hb dL_law_610 ?_
    rw [show ((nI (6 * i)) + 5 : Int32) = nI ((6 * i) + 5) from nI_add (6 * i) 5]
    refine va_sld hx hb hX hbl hbA hS (show vp_in (nI ((6 * i) + 5)) L from ki_in (by omega) (by omega)) dL_law_611 ?_
    rw [show xs (nI ((6 * i) + 5)).toNatClampNeg = a5 from (congrArg xs (ki_cl (by omega))).trans ea5.symm]
    rw [ej]
    refine kj_i (pmM _ _ _ _) (va_runV (As := [.int (nI j), .int a2, .int a3, .int a4, .int a5]) (rest := []) ⟨hx, hb, hml, hown, htT⟩ (m_rule_2 l D cA _ am r M n j hjn hI.n8 hI.h3 a2 a3 a4 a5 (Or.inr (kIn_out.mpr hv)) (rul_bad hbad)) (cwV 5 htT (kg_V m_ml_L_151 m_im_X6_rule m_sl_X6_rule m_in_X6 m_cd_X6_rule) rfl rfl rfl (by decide +kernel) ⟨Nat.le_of_ble_eq_true rfl, Nat.le_of_ble_eq_true rfl⟩) (kj_V (pmM _ _ _ _) hK hP hD hTB (kj_rm (pmM _ _ _ _) hK hP)) rfl rfl hl.1 rfl (lv_room (Nat.le_of_ble_eq_true rfl)) dL_law_612 ⟨(by show _ ≤ 601024; omega), (by show _ ≤ 7293034; omega)⟩) hP hD hS hA (fun r_5 x_5 H locs hq_5 hP hD hS => ?_)
    have hP := kj_P (pmM _ _ _ _).symm hP
    have hD := kj_D (pmM _ _ _ _).symm hD
    rw [hq_5.1]
    rw [hq_5.2] at hP hD
    refine lv_istore (lv' := [(7, .int 0), (6, .int 2), (5, .int (nI (6 * i))), (4, .ref qd), (3, .ref qo), (2, .ref am), (1, .ref x), (0, .ref b)]) hx hb dL_law_615 hl (by decide) rfl (fun ls hl => ?_)
    refine lv_goto (tgt := 1750) hx hb dL_law_617 (by decide) ?_
    refine W.widen (k := c0 + 20) (n := s0 + 400) (by omega) (by omega) ?_
    exact hnext _ (mS (mS M 0 0) 0 2) _ _ _ _ _ _ _ _ _ _ hd0 h ((hI.iS (k := 0) (v := 0) (by decide) (by decide)).iS (by decide) (by decide)) (hL9.m eqM.rf.s0.s0) (hY.of rfl) (e1) (e2) hP hD hS (lv_sub hl [2, 3, 4, 5, 6, 7] rfl)
  · rw [er]
    obtain ⟨k1, k2, k3⟩ := rul_ok hbad
    rw [hv] at eS
    rw [eS] at hP hD
    rw [efo] at hP hD
    refine lv_istore (lv' := [(6, .int 0), (5, .int (nI (6 * i))), (4, .ref qd), (3, .ref qo), (2, .ref am), (1, .ref x), (0, .ref b)]) hx hb dL_law_579 hl (by decide) rfl (fun ls hl => ?_)
    refine lv_aload_n hx hb dL_law_581 rfl (lv_at hl 4 rfl) ?_
    refine lv_aload_n hx hb dL_law_582 rfl (lv_at hl 6 rfl) ?_
    refine lv_iload hx hb dL_law_583 (lv_at hl 1 rfl) ?_
    refine lv_iconst (v := 1) hx hb dL_law_585 (by decide) ?_
    refine lv_iadd hx hb dL_law_586 ?_
    rw [show ((nI (6 * i)) + 1 : Int32) = nI ((6 * i) + 1) from nI_add (6 * i) 1]
    refine va_sld hx hb hX hbl hbA hS (show vp_in (nI ((6 * i) + 1)) L from ki_in (by omega) (by omega)) dL_law_587 ?_
    rw [show xs (nI ((6 * i) + 1)).toNatClampNeg = a1 from (congrArg xs (ki_cl (by omega))).trans ea1.symm]
    refine lv_aload_n hx hb dL_law_588 rfl (lv_at hl 6 rfl) ?_
    refine lv_iload hx hb dL_law_589 (lv_at hl 1 rfl) ?_
    refine lv_iconst (v := 2) hx hb dL_law_591 (by decide) ?_
    refine lv_iadd hx hb dL_law_592 ?_
    rw [show ((nI (6 * i)) + 2 : Int32) = nI ((6 * i) + 2) from nI_add (6 * i) 2]
    refine va_sld hx hb hX hbl hbA hS (show vp_in (nI ((6 * i) + 2)) L from ki_in (by omega) (by omega)) dL_law_593 ?_
    rw [show xs (nI ((6 * i) + 2)).toNatClampNeg = a2 from (congrArg xs (ki_cl (by omega))).trans ea2.symm]
    refine lv_aload_n hx hb dL_law_594 rfl (lv_at hl 6 rfl) ?_
    refine lv_iload hx hb dL_law_595 (lv_at hl 1 rfl) ?_
    refine lv_iconst (v := 3) hx hb dL_law_597 (by decide) ?_
    refine lv_iadd hx hb dL_law_598 ?_
    rw [show ((nI (6 * i)) + 3 : Int32) = nI ((6 * i) + 3) from nI_add (6 * i) 3]
    refine va_sld hx hb hX hbl hbA hS (show vp_in (nI ((6 * i) + 3)) L from ki_in (by omega) (by omega)) dL_law_599 ?_
    rw [show xs (nI ((6 * i) + 3)).toNatClampNeg = a3 from (congrArg xs (ki_cl (by omega))).trans ea3.symm]
    refine lv_aload_n hx hb dL_law_600 rfl (lv_at hl 6 rfl) ?_
    refine lv_iload hx hb dL_law_601 (lv_at hl 1 rfl) ?_
    refine lv_iconst (v := 4) hx hb dL_law_603 (by decide) ?_
    refine lv_iadd hx hb dL_law_604 ?_
    rw [show ((nI (6 * i)) + 4 : Int32) = nI ((6 * i) + 4) from nI_add (6 * i) 4]
    refine va_sld hx hb hX hbl hbA hS (show vp_in (nI ((6 * i) + 4)) L from ki_in (by omega) (by omega)) dL_law_605 ?_
    rw [show xs (nI ((6 * i) + 4)).toNatClampNeg = a4 from (congrArg xs (ki_cl (by omega))).trans ea4.symm]
    refine lv_aload_n hx hb dL_law_606 rfl (lv_at hl 6 rfl) ?_
    refine lv_iload hx hb dL_law_607 (lv_at hl 1 rfl) ?_
    refine lv_iconst (v := 5) hx hb dL_law_609 (by decide) ?_
    refine lv_iadd hx hb dL_law_610 ?_
    rw [show ((nI (6 * i)) + 5 : Int32) = nI ((6 * i) + 5) from nI_add (6 * i) 5]
    refine va_sld hx hb hX hbl hbA hS (show vp_in (nI ((6 * i) + 5)) L from ki_in (by omega) (by omega)) dL_law_611 ?_
    rw [show xs (nI ((6 * i) + 5)).toNatClampNeg = a5 from (congrArg xs (ki_cl (by omega))).trans ea5.symm]
    rw [ej]
    rw [hv]
    refine kj_i (pmM _ _ _ _) (va_runV (As := [.int (nI j), .int a2, .int a3, .int a4, .int (-1)]) (rest := []) ⟨hx, hb, hml, hown, htT⟩ (m_rule_n l D cA _ am r M n j hjn hI.n8 hI.h3 rc hrc ((hL9.rn hjn hja (q := (8, 17)) (by decide)).symm.trans h8) a2 a3 a4 k1 k2 k3) (cwV 5 htT (kg_V m_ml_L_151 m_im_X6_rule m_sl_X6_rule m_in_X6 m_cd_X6_rule) rfl rfl rfl (by decide +kernel) ⟨Nat.le_of_ble_eq_true rfl, Nat.le_of_ble_eq_true rfl⟩) (kj_V (pmM _ _ _ _) hK hP hD hTB (kj_rm (pmM _ _ _ _) hK hP)) rfl rfl hl.1 rfl (lv_room (Nat.le_of_ble_eq_true rfl)) dL_law_612 ⟨(by show _ ≤ 601024; omega), (by show _ ≤ 7293034; omega)⟩) hP hD hS hA (fun r_6 x_6 H locs hq_6 hP hD hS => ?_)
    have hP := kj_P (pmM _ _ _ _).symm hP
    have hD := kj_D (pmM _ _ _ _).symm hD
    rw [hq_6.1]
    rw [hq_6.2] at hP hD
    refine lv_istore (lv' := [(7, .int (nI (rc + 1))), (6, .int 0), (5, .int (nI (6 * i))), (4, .ref qd), (3, .ref qo), (2, .ref am), (1, .ref x), (0, .ref b)]) hx hb dL_law_615 hl (by decide) rfl (fun ls hl => ?_)
    refine lv_goto (tgt := 1750) hx hb dL_law_617 (by decide) ?_
    refine W.widen (k := c0 + 20) (n := s0 + 400) (by omega) (by omega) ?_
    exact hnext _ (mR (mR (mR (mR (mR (mS M 0 0) 18 (5 * j + rc) a2) 19 (5 * j + rc) a3) 20 (5 * j + rc) a4) 21 (5 * j + rc) (-1)) 17 j (nI (rc + 1))) _ _ _ _ _ _ _ _ _ _ hd0 (h.rule (h.sw (by have := h.n8; omega) hja).rl (by have := h.n8; omega) hja hrc hq) (INVR.rules (INVR.iR (INVR.iR (INVR.iR (INVR.iR (hI.iS (k := 0) (v := 0) (by decide) (by decide)) (by decide)) (by decide)) (by decide)) (by decide)) hjn (by omega)) ((hL9.m eqM.rf.s0).rule h hjn hja hrc ((hL9.rn hjn hja (q := (8, 17)) (by decide)).symm.trans h8) hq) (hY.of rfl) (e1) (e2) hP hD hS (lv_sub hl [2, 3, 4, 5, 6, 7] rfl)
  · rw [er]
    obtain ⟨k1, k2, k3⟩ := rul_ok hbad
    have r25 : gI S a 2 = M.2 5 j := hL9.rn hjn hja (q := (2, 5)) (by decide)
    rw [r25] at hv
    obtain ⟨vc, hvc, evc⟩ := (hI.2.1 j hjn).1
    obtain ⟨v, hv9, ev⟩ := kOut_sub1 (k := vc) (v := a5) (by rw [← evc]; exact hv) (by omega)
    have hv4 : v < 4 := by omega
    rw [ev] at eS
    rw [eS] at hP hD
    rw [efo] at hP hD
    refine lv_istore (lv' := [(6, .int 0), (5, .int (nI (6 * i))), (4, .ref qd), (3, .ref qo), (2, .ref am), (1, .ref x), (0, .ref b)]) hx hb dL_law_579 hl (by decide) rfl (fun ls hl => ?_)
    refine lv_aload_n hx hb dL_law_581 rfl (lv_at hl 4 rfl) ?_
    refine lv_aload_n hx hb dL_law_582 rfl (lv_at hl 6 rfl) ?_
    refine lv_iload hx hb dL_law_583 (lv_at hl 1 rfl) ?_
    refine lv_iconst (v := 1) hx hb dL_law_585 (by decide) ?_
    refine lv_iadd hx hb dL_law_586 ?_
    rw [show ((nI (6 * i)) + 1 : Int32) = nI ((6 * i) + 1) from nI_add (6 * i) 1]
    refine va_sld hx hb hX hbl hbA hS (show vp_in (nI ((6 * i) + 1)) L from ki_in (by omega) (by omega)) dL_law_587 ?_
    rw [show xs (nI ((6 * i) + 1)).toNatClampNeg = a1 from (congrArg xs (ki_cl (by omega))).trans ea1.symm]
    refine lv_aload_n hx hb dL_law_588 rfl (lv_at hl 6 rfl) ?_
    refine lv_iload hx hb dL_law_589 (lv_at hl 1 rfl) ?_
    refine lv_iconst (v := 2) hx hb dL_law_591 (by decide) ?_
    refine lv_iadd hx hb dL_law_592 ?_
    rw [show ((nI (6 * i)) + 2 : Int32) = nI ((6 * i) + 2) from nI_add (6 * i) 2]
    refine va_sld hx hb hX hbl hbA hS (show vp_in (nI ((6 * i) + 2)) L from ki_in (by omega) (by omega)) dL_law_593 ?_
    rw [show xs (nI ((6 * i) + 2)).toNatClampNeg = a2 from (congrArg xs (ki_cl (by omega))).trans ea2.symm]
    refine lv_aload_n hx hb dL_law_594 rfl (lv_at hl 6 rfl) ?_
    refine lv_iload hx hb dL_law_595 (lv_at hl 1 rfl) ?_
    refine lv_iconst (v := 3) hx hb dL_law_597 (by decide) ?_
    refine lv_iadd hx hb dL_law_598 ?_
    rw [show ((nI (6 * i)) + 3 : Int32) = nI ((6 * i) + 3) from nI_add (6 * i) 3]
    refine va_sld hx hb hX hbl hbA hS (show vp_in (nI ((6 * i) + 3)) L from ki_in (by omega) (by omega)) dL_law_599 ?_
    rw [show xs (nI ((6 * i) + 3)).toNatClampNeg = a3 from (congrArg xs (ki_cl (by omega))).trans ea3.symm]
    refine lv_aload_n hx hb dL_law_600 rfl (lv_at hl 6 rfl) ?_
    refine lv_iload hx hb dL_law_601 (lv_at hl 1 rfl) ?_
    refine lv_iconst (v := 4) hx hb dL_law_603 (by decide) ?_
    refine lv_iadd hx hb dL_law_604 ?_
    rw [show ((nI (6 * i)) + 4 : Int32) = nI ((6 * i) + 4) from nI_add (6 * i) 4]
    refine va_sld hx hb hX hbl hbA hS (show vp_in (nI ((6 * i) + 4)) L from ki_in (by omega) (by omega)) dL_law_605 ?_
    rw [show xs (nI ((6 * i) + 4)).toNatClampNeg = a4 from (congrArg xs (ki_cl (by omega))).trans ea4.symm]
    refine lv_aload_n hx hb dL_law_606 rfl (lv_at hl 6 rfl) ?_
    refine lv_iload hx hb dL_law_607 (lv_at hl 1 rfl) ?_
    refine lv_iconst (v := 5) hx hb dL_law_609 (by decide) ?_
    refine lv_iadd hx hb dL_law_610 ?_
    rw [show ((nI (6 * i)) + 5 : Int32) = nI ((6 * i) + 5) from nI_add (6 * i) 5]
    refine va_sld hx hb hX hbl hbA hS (show vp_in (nI ((6 * i) + 5)) L from ki_in (by omega) (by omega)) dL_law_611 ?_
    rw [show xs (nI ((6 * i) + 5)).toNatClampNeg = a5 from (congrArg xs (ki_cl (by omega))).trans ea5.symm]
    rw [ej]
    rw [ev]
    refine kj_i (pmM _ _ _ _) (va_runV (As := [.int (nI j), .int a2, .int a3, .int a4, .int (nI v)]) (rest := []) ⟨hx, hb, hml, hown, htT⟩ (m_rule l D cA _ am r M n j hjn hI.n8 hI.h3 rc hrc ((hL9.rn hjn hja (q := (8, 17)) (by decide)).symm.trans h8) a2 a3 a4 k1 k2 k3 v hv4 (by rw [← ev]; exact kIn_out.mpr hv)) (cwV 5 htT (kg_V m_ml_L_151 m_im_X6_rule m_sl_X6_rule m_in_X6 m_cd_X6_rule) rfl rfl rfl (by decide +kernel) ⟨Nat.le_of_ble_eq_true rfl, Nat.le_of_ble_eq_true rfl⟩) (kj_V (pmM _ _ _ _) hK hP hD hTB (kj_rm (pmM _ _ _ _) hK hP)) rfl rfl hl.1 rfl (lv_room (Nat.le_of_ble_eq_true rfl)) dL_law_612 ⟨(by show _ ≤ 601024; omega), (by show _ ≤ 7293034; omega)⟩) hP hD hS hA (fun r_7 x_7 H locs hq_7 hP hD hS => ?_)
    have hP := kj_P (pmM _ _ _ _).symm hP
    have hD := kj_D (pmM _ _ _ _).symm hD
    rw [hq_7.1]
    rw [hq_7.2] at hP hD
    refine lv_istore (lv' := [(7, .int (nI (rc + 1))), (6, .int 0), (5, .int (nI (6 * i))), (4, .ref qd), (3, .ref qo), (2, .ref am), (1, .ref x), (0, .ref b)]) hx hb dL_law_615 hl (by decide) rfl (fun ls hl => ?_)
    refine lv_goto (tgt := 1750) hx hb dL_law_617 (by decide) ?_
    refine W.widen (k := c0 + 20) (n := s0 + 400) (by omega) (by omega) ?_
    exact hnext _ (mR (mR (mR (mR (mR (mS M 0 0) 18 (5 * j + rc) a2) 19 (5 * j + rc) a3) 20 (5 * j + rc) a4) 21 (5 * j + rc) (nI v)) 17 j (nI (rc + 1))) _ _ _ _ _ _ _ _ _ _ hd0 (h.rule (h.sw (by have := h.n8; omega) hja).rl (by have := h.n8; omega) hja hrc hq) (INVR.rules (INVR.iR (INVR.iR (INVR.iR (INVR.iR (hI.iS (k := 0) (v := 0) (by decide) (by decide)) (by decide)) (by decide)) (by decide)) (by decide)) hjn (by omega)) ((hL9.m eqM.rf.s0).rule h hjn hja hrc ((hL9.rn hjn hja (q := (8, 17)) (by decide)).symm.trans h8) hq) (hY.of rfl) (e1) (e2) hP hD hS (lv_sub hl [2, 3, 4, 5, 6, 7] rfl)
  · rw [er]
    obtain ⟨k1, k2, k3⟩ := rul_ok hbad
    rw [eS] at hP hD
    refine lv_istore (lv' := [(6, .int 3), (5, .int (nI (6 * i))), (4, .ref qd), (3, .ref qo), (2, .ref am), (1, .ref x), (0, .ref b)]) hx hb dL_law_579 hl (by decide) rfl (fun ls hl => ?_)
    refine lv_aload_n hx hb dL_law_581 rfl (lv_at hl 4 rfl) ?_
    refine lv_aload_n hx hb dL_law_582 rfl (lv_at hl 6 rfl) ?_
    refine lv_iload hx hb dL_law_583 (lv_at hl 1 rfl) ?_
    refine lv_iconst (v := 1) hx hb dL_law_585 (by decide) ?_
    refine lv_iadd hx hb dL_law_586 ?_
    rw [show ((nI (6 * i)) + 1 : Int32) = nI ((6 * i) + 1) from nI_add (6 * i) 1]
    refine va_sld hx hb hX hbl hbA hS (show vp_in (nI ((6 * i) + 1)) L from ki_in (by omega) (by omega)) dL_law_587 ?_
    rw [show xs (nI ((6 * i) + 1)).toNatClampNeg = a1 from (congrArg xs (ki_cl (by omega))).trans ea1.symm]
    refine lv_aload_n hx hb dL_law_588 rfl (lv_at hl 6 rfl) ?_
    refine lv_iload hx hb dL_law_589 (lv_at hl 1 rfl) ?_
    refine lv_iconst (v := 2) hx hb dL_law_591 (by decide) ?_
    refine lv_iadd hx hb dL_law_592 ?_
    rw [show ((nI (6 * i)) + 2 : Int32) = nI ((6 * i) + 2) from nI_add (6 * i) 2]
    refine va_sld hx hb hX hbl hbA hS (show vp_in (nI ((6 * i) + 2)) L from ki_in (by omega) (by omega)) dL_law_593 ?_
    rw [show xs (nI ((6 * i) + 2)).toNatClampNeg = a2 from (congrArg xs (ki_cl (by omega))).trans ea2.symm]
    refine lv_aload_n hx hb dL_law_594 rfl (lv_at hl 6 rfl) ?_
    refine lv_iload hx hb dL_law_595 (lv_at hl 1 rfl) ?_
    refine lv_iconst (v := 3) hx hb dL_law_597 (by decide) ?_
    refine lv_iadd hx hb dL_law_598 ?_
    rw [show ((nI (6 * i)) + 3 : Int32) = nI ((6 * i) + 3) from nI_add (6 * i) 3]
    refine va_sld hx hb hX hbl hbA hS (show vp_in (nI ((6 * i) + 3)) L from ki_in (by omega) (by omega)) dL_law_599 ?_
    rw [show xs (nI ((6 * i) + 3)).toNatClampNeg = a3 from (congrArg xs (ki_cl (by omega))).trans ea3.symm]
    refine lv_aload_n hx hb dL_law_600 rfl (lv_at hl 6 rfl) ?_
    refine lv_iload hx hb dL_law_601 (lv_at hl 1 rfl) ?_
    refine lv_iconst (v := 4) hx hb dL_law_603 (by decide) ?_
    refine lv_iadd hx hb dL_law_604 ?_
    rw [show ((nI (6 * i)) + 4 : Int32) = nI ((6 * i) + 4) from nI_add (6 * i) 4]
    refine va_sld hx hb hX hbl hbA hS (show vp_in (nI ((6 * i) + 4)) L from ki_in (by omega) (by omega)) dL_law_605 ?_
    rw [show xs (nI ((6 * i) + 4)).toNatClampNeg = a4 from (congrArg xs (ki_cl (by omega))).trans ea4.symm]
    refine lv_aload_n hx hb dL_law_606 rfl (lv_at hl 6 rfl) ?_
    refine lv_iload hx hb dL_law_607 (lv_at hl 1 rfl) ?_
    refine lv_iconst (v := 5) hx hb dL_law_609 (by decide) ?_
    refine lv_iadd hx hb dL_law_610 ?_
    rw [show ((nI (6 * i)) + 5 : Int32) = nI ((6 * i) + 5) from nI_add (6 * i) 5]
    refine va_sld hx hb hX hbl hbA hS (show vp_in (nI ((6 * i) + 5)) L from ki_in (by omega) (by omega)) dL_law_611 ?_
    rw [show xs (nI ((6 * i) + 5)).toNatClampNeg = a5 from (congrArg xs (ki_cl (by omega))).trans ea5.symm]
    rw [ej]
    refine kj_i (pmM _ _ _ _) (va_runV (As := [.int (nI j), .int a2, .int a3, .int a4, .int a5]) (rest := []) ⟨hx, hb, hml, hown, htT⟩ (m_rule_3 l D cA _ am r M n j hjn hI.n8 hI.h3 a2 a3 a4 a5 (Or.inl hv) k1 k2 k3 (by rw [← hrc]; exact ((hL9.rn hjn hja (q := (8, 17)) (by decide)).symm.trans h8))) (cwV 5 htT (kg_V m_ml_L_151 m_im_X6_rule m_sl_X6_rule m_in_X6 m_cd_X6_rule) rfl rfl rfl (by decide +kernel) ⟨Nat.le_of_ble_eq_true rfl, Nat.le_of_ble_eq_true rfl⟩) (kj_V (pmM _ _ _ _) hK hP hD hTB (kj_rm (pmM _ _ _ _) hK hP)) rfl rfl hl.1 rfl (lv_room (Nat.le_of_ble_eq_true rfl)) dL_law_612 ⟨(by show _ ≤ 601024; omega), (by show _ ≤ 7293034; omega)⟩) hP hD hS hA (fun r_8 x_8 H locs hq_8 hP hD hS => ?_)
    have hP := kj_P (pmM _ _ _ _).symm hP
    have hD := kj_D (pmM _ _ _ _).symm hD
    rw [hq_8.1]
    rw [hq_8.2] at hP hD
    refine lv_istore (lv' := [(7, .int 0), (6, .int 3), (5, .int (nI (6 * i))), (4, .ref qd), (3, .ref qo), (2, .ref am), (1, .ref x), (0, .ref b)]) hx hb dL_law_615 hl (by decide) rfl (fun ls hl => ?_)
    refine lv_goto (tgt := 1750) hx hb dL_law_617 (by decide) ?_
    refine W.widen (k := c0 + 20) (n := s0 + 400) (by omega) (by omega) ?_
    exact hnext _ (mS (mS M 0 0) 0 3) _ _ _ _ _ _ _ _ _ _ hd0 h ((hI.iS (k := 0) (v := 0) (by decide) (by decide)).iS (by decide) (by decide)) (hL9.m eqM.rf.s0.s0) (hY.of rfl) (e1) (e2) hP hD hS (lv_sub hl [2, 3, 4, 5, 6, 7] rfl)
  · rw [er]
    obtain ⟨k1, k2, k3⟩ := rul_ok hbad
    have r25 : gI S a 2 = M.2 5 j := hL9.rn hjn hja (q := (2, 5)) (by decide)
    rw [r25] at hv
    rw [eS] at hP hD
    refine lv_istore (lv' := [(6, .int 3), (5, .int (nI (6 * i))), (4, .ref qd), (3, .ref qo), (2, .ref am), (1, .ref x), (0, .ref b)]) hx hb dL_law_579 hl (by decide) rfl (fun ls hl => ?_)
    refine lv_aload_n hx hb dL_law_581 rfl (lv_at hl 4 rfl) ?_
    refine lv_aload_n hx hb dL_law_582 rfl (lv_at hl 6 rfl) ?_
    refine lv_iload hx hb dL_law_583 (lv_at hl 1 rfl) ?_
    refine lv_iconst (v := 1) hx hb dL_law_585 (by decide) ?_
    refine lv_iadd hx hb dL_law_586 ?_
    rw [show ((nI (6 * i)) + 1 : Int32) = nI ((6 * i) + 1) from nI_add (6 * i) 1]
    refine va_sld hx hb hX hbl hbA hS (show vp_in (nI ((6 * i) + 1)) L from ki_in (by omega) (by omega)) dL_law_587 ?_
    rw [show xs (nI ((6 * i) + 1)).toNatClampNeg = a1 from (congrArg xs (ki_cl (by omega))).trans ea1.symm]
    refine lv_aload_n hx hb dL_law_588 rfl (lv_at hl 6 rfl) ?_
    refine lv_iload hx hb dL_law_589 (lv_at hl 1 rfl) ?_
    refine lv_iconst (v := 2) hx hb dL_law_591 (by decide) ?_
    refine lv_iadd hx hb dL_law_592 ?_
    rw [show ((nI (6 * i)) + 2 : Int32) = nI ((6 * i) + 2) from nI_add (6 * i) 2]
    refine va_sld hx hb hX hbl hbA hS (show vp_in (nI ((6 * i) + 2)) L from ki_in (by omega) (by omega)) dL_law_593 ?_
    rw [show xs (nI ((6 * i) + 2)).toNatClampNeg = a2 from (congrArg xs (ki_cl (by omega))).trans ea2.symm]
    refine lv_aload_n hx hb dL_law_594 rfl (lv_at hl 6 rfl) ?_
    refine lv_iload hx hb dL_law_595 (lv_at hl 1 rfl) ?_
    refine lv_iconst (v := 3) hx hb dL_law_597 (by decide) ?_
    refine lv_iadd hx hb dL_law_598 ?_
    rw [show ((nI (6 * i)) + 3 : Int32) = nI ((6 * i) + 3) from nI_add (6 * i) 3]
    refine va_sld hx hb hX hbl hbA hS (show vp_in (nI ((6 * i) + 3)) L from ki_in (by omega) (by omega)) dL_law_599 ?_
    rw [show xs (nI ((6 * i) + 3)).toNatClampNeg = a3 from (congrArg xs (ki_cl (by omega))).trans ea3.symm]
    refine lv_aload_n hx hb dL_law_600 rfl (lv_at hl 6 rfl) ?_
    refine lv_iload hx hb dL_law_601 (lv_at hl 1 rfl) ?_
    refine lv_iconst (v := 4) hx hb dL_law_603 (by decide) ?_
    refine lv_iadd hx hb dL_law_604 ?_
    rw [show ((nI (6 * i)) + 4 : Int32) = nI ((6 * i) + 4) from nI_add (6 * i) 4]
    refine va_sld hx hb hX hbl hbA hS (show vp_in (nI ((6 * i) + 4)) L from ki_in (by omega) (by omega)) dL_law_605 ?_
    rw [show xs (nI ((6 * i) + 4)).toNatClampNeg = a4 from (congrArg xs (ki_cl (by omega))).trans ea4.symm]
    refine lv_aload_n hx hb dL_law_606 rfl (lv_at hl 6 rfl) ?_
    refine lv_iload hx hb dL_law_607 (lv_at hl 1 rfl) ?_
    refine lv_iconst (v := 5) hx hb dL_law_609 (by decide) ?_
    refine lv_iadd hx hb dL_law_610 ?_
    rw [show ((nI (6 * i)) + 5 : Int32) = nI ((6 * i) + 5) from nI_add (6 * i) 5]
    refine va_sld hx hb hX hbl hbA hS (show vp_in (nI ((6 * i) + 5)) L from ki_in (by omega) (by omega)) dL_law_611 ?_
    rw [show xs (nI ((6 * i) + 5)).toNatClampNeg = a5 from (congrArg xs (ki_cl (by omega))).trans ea5.symm]
    rw [ej]
    refine kj_i (pmM _ _ _ _) (va_runV (As := [.int (nI j), .int a2, .int a3, .int a4, .int a5]) (rest := []) ⟨hx, hb, hml, hown, htT⟩ (m_rule_3 l D cA _ am r M n j hjn hI.n8 hI.h3 a2 a3 a4 a5 (Or.inr (kIn_out.mpr hv)) k1 k2 k3 (by rw [← hrc]; exact ((hL9.rn hjn hja (q := (8, 17)) (by decide)).symm.trans h8))) (cwV 5 htT (kg_V m_ml_L_151 m_im_X6_rule m_sl_X6_rule m_in_X6 m_cd_X6_rule) rfl rfl rfl (by decide +kernel) ⟨Nat.le_of_ble_eq_true rfl, Nat.le_of_ble_eq_true rfl⟩) (kj_V (pmM _ _ _ _) hK hP hD hTB (kj_rm (pmM _ _ _ _) hK hP)) rfl rfl hl.1 rfl (lv_room (Nat.le_of_ble_eq_true rfl)) dL_law_612 ⟨(by show _ ≤ 601024; omega), (by show _ ≤ 7293034; omega)⟩) hP hD hS hA (fun r_9 x_9 H locs hq_9 hP hD hS => ?_)
    have hP := kj_P (pmM _ _ _ _).symm hP
    have hD := kj_D (pmM _ _ _ _).symm hD
    rw [hq_9.1]
    rw [hq_9.2] at hP hD
    refine lv_istore (lv' := [(7, .int 0), (6, .int 3), (5, .int (nI (6 * i))), (4, .ref qd), (3, .ref qo), (2, .ref am), (1, .ref x), (0, .ref b)]) hx hb dL_law_615 hl (by decide) rfl (fun ls hl => ?_)
    refine lv_goto (tgt := 1750) hx hb dL_law_617 (by decide) ?_
    refine W.widen (k := c0 + 20) (n := s0 + 400) (by omega) (by omega) ?_
    exact hnext _ (mS (mS M 0 0) 0 3) _ _ _ _ _ _ _ _ _ _ hd0 h ((hI.iS (k := 0) (v := 0) (by decide) (by decide)).iS (by decide) (by decide)) (hL9.m eqM.rf.s0.s0) (hY.of rfl) (e1) (e2) hP hD hS (lv_sub hl [2, 3, 4, 5, 6, 7] rfl)

set_option maxRecDepth 100000 in
set_option maxHeartbeats 4000000 in
theorem law_unrule (l : Launch) (hst : l.stackTraces = false) {p : Program} {e : Env} {s : State} {m : MethodId} {below : List Frame} {meth : Method} {c : Code} {b L : Nat} {xs : Nat → Int32} (C0 : lw_At p s m meth c b L xs) {D : va_G} {cA : Nat → ClassId} (hK : va_K D vwCl (ty6 cA) s) (hTB : TBok s) (hTX : TXok (fun q : Nat => s.heap.size ≤ q) s) {x ar ak qo qd am : Nat} {r : Nat → Nat} {c0 s0 i : Nat} (hc0 : c0 + 20 ≤ 601024) (hs0 : s0 + 400 ≤ 7293034) (hi : 6 * i + 6 ≤ L) (hL : L ≤ 3072) (hnext : ∀ (S : Pool) (M : MSt) (fo : Nat → Int64) (fd : Nat → UInt64) (n na : Nat) (hh cc : Int32) (H : Heap) (locs : List Loc) (ls : Array Slot) (d : Drawn), s.drawn.sameBut d lw_cs → INVC n na hh cc S x ar ak → INVR n na M → REL True n na S M ar → LAY n M → M.1 1 = cc → M.1 2 = hh → va_P D vwCl (LW cA S qo fo qd fd am r M) H → va_D (fun q : Nat => s.heap.size ≤ q) (LW cA S qo fo qd fd am r M) → va_S (fun q : Nat => s.heap.size ≤ q) s.heap H locs → lv_has ls 9 [(5, .int (nI (6 * i))), (4, .ref qd), (3, .ref qo), (2, .ref am), (1, .ref x), (0, .ref b)] → W p l e room_1 (s.setDrawn d) m #[Value.ref b] below meth c H locs (c0 + 20) (s0 + 400) (lw_Z below #[Value.ref b] s) (F0 m 1750 ls [])) {S : Pool} {M : MSt} {fo : Nat → Int64} {fd : Nat → UInt64} {n na : Nat} {hh cc : Int32} {H : Heap} {locs : List Loc} {ls : Array Slot} {d : Drawn} (hd0 : s.drawn.sameBut d lw_cs) (h : INVC n na hh cc S x ar ak) (hI : INVR n na M) (hL9 : REL True n na S M ar) (hY : LAY n M) (e1 : M.1 1 = cc) (e2 : M.1 2 = hh) (hP : va_P D vwCl (LW cA S qo fo qd fd am r M) H) (hD : va_D (fun q : Nat => s.heap.size ≤ q) (LW cA S qo fo qd fd am r M)) (hS : va_S (fun q : Nat => s.heap.size ≤ q) s.heap H locs) (hl : lv_has ls 9 [(5, .int (nI (6 * i))), (4, .ref qd), (3, .ref qo), (2, .ref am), (1, .ref x), (0, .ref b)]) : W p l e room_1 (s.setDrawn d) m #[Value.ref b] below meth c H locs c0 s0 (lw_Z below #[Value.ref b] s) (F0 m 620 ls []) := by
  obtain ⟨hx, hb, hr, hml, hown, hts, hX, hbl, hlocks, hgv⟩ := id C0
  have hA : ∀ q : Nat, s.heap.size ≤ q → (fun q : Nat => s.heap.size ≤ q) q := fun _ h => h
  have hbA : ¬ (fun q : Nat => s.heap.size ≤ q) b := Nat.not_le.mpr hbl
  obtain ⟨a1, ea1⟩ : ∃ z, z = xs (6 * i + 1) := ⟨_, rfl⟩
  obtain ⟨a2, ea2⟩ : ∃ z, z = xs (6 * i + 2) := ⟨_, rfl⟩
  obtain ⟨a3, ea3⟩ : ∃ z, z = xs (6 * i + 3) := ⟨_, rfl⟩
  obtain ⟨a4, ea4⟩ : ∃ z, z = xs (6 * i + 4) := ⟨_, rfl⟩
  obtain ⟨a5, ea5⟩ : ∃ z, z = xs (6 * i + 5) := ⟨_, rfl⟩
  have htT0 : ∀ w ∈ TT, w.before _ s = true := fun w h => hts w (tt_in h)
  have hTB0 := hTB
  have hK0 := hK
  have hown0 : s.vm.findClass RL = some m.cls := hown
  have hTX0 := hTX
  have hX0 := hX
  have htT : ∀ w ∈ TT, w.before _ (s.setDrawn d) = true := dr_words htT0 d
  have hTB : TBok (s.setDrawn d) := TBok.same (u := s) (U := s.setDrawn d) rfl (Vm.Alike.refl s.vm) hTB0
  have hK : va_K D vwCl (ty6 cA) (s.setDrawn d) := hK0
  have hown : (s.setDrawn d).vm.findClass RL = some m.cls := hown0
  have hTX : TXok (fun q : Nat => s.heap.size ≤ q) (s.setDrawn d) := hTX0.dr d
  have hX : va_X b L xs (s.setDrawn d) (s.setDrawn d).heap := hX0
  refine lv_aload_n hx hb dL_law_620 rfl (lv_at hl 4 rfl) ?_
  refine lv_aload_n hx hb dL_law_621 rfl (lv_at hl 5 rfl) ?_
  refine lv_iload hx hb dL_law_622 (lv_at hl 0 rfl) ?_
  refine lv_iconst (v := 1) hx hb dL_law_624 (by decide) ?_
  refine lv_iadd hx hb dL_law_625 ?_
  rw [show ((nI (6 * i)) + 1 : Int32) = nI ((6 * i) + 1) from nI_add (6 * i) 1]
  refine va_sld hx hb hX hbl hbA hS (show vp_in (nI ((6 * i) + 1)) L from ki_in (by omega) (by omega)) dL_law_626 ?_
  rw [show xs (nI ((6 * i) + 1)).toNatClampNeg = a1 from (congrArg xs (ki_cl (by omega))).trans ea1.symm]
  refine lv_aload_n hx hb dL_law_627 rfl (lv_at hl 5 rfl) ?_
  refine lv_iload hx hb dL_law_628 (lv_at hl 0 rfl) ?_
  refine lv_iconst (v := 2) hx hb dL_law_630 (by decide) ?_
  refine lv_iadd hx hb dL_law_631 ?_
  rw [show ((nI (6 * i)) + 2 : Int32) = nI ((6 * i) + 2) from nI_add (6 * i) 2]
  refine va_sld hx hb hX hbl hbA hS (show vp_in (nI ((6 * i) + 2)) L from ki_in (by omega) (by omega)) dL_law_632 ?_
  rw [show xs (nI ((6 * i) + 2)).toNatClampNeg = a2 from (congrArg xs (ki_cl (by omega))).trans ea2.symm]
  refine lv_aload_n hx hb dL_law_633 rfl (lv_at hl 2 rfl) ?_
  refine kj_i (pmJ _ _ _ _) (vx_runSW (As := [.ref x, .int a1, .int a2, .ref qo]) (rest := []) ⟨hx, hb, hml, hown, htT⟩ (w_unrule l hst D cA _ S x qo fo n na hh cc ar ak h a1 a2) (vx_cwSW 4 htT (kg_SW m_ml_L_152 m_st_L_unrule m_in_L m_cd_L_unrule) rfl rfl rfl (by decide +kernel) ⟨Nat.le_of_ble_eq_true rfl, Nat.le_of_ble_eq_true rfl⟩) (kj_SX (pmJ _ _ _ _) hK hP hD hTB hTX hS hA) rfl rfl hl.1 rfl (lv_room (Nat.le_of_ble_eq_true rfl)) dL_law_634 ⟨(by show _ ≤ 601024; omega), (by show _ ≤ 7293034; omega)⟩) hP hD hS hA (fun r_1 x_1 H locs hq_1 hP hD hS => ?_)
  rw [List.append_assoc] at hP hD
  rcases hq_1 with ⟨er, hk0, eS⟩ | ⟨er, j, a, rc, hjn, ej, hja, hrc, h8, h1, eS⟩ | ⟨er, j, a, rc, k, hjn, ej, hja, hrc, h8, hk, ek, eS, efo⟩
  · rw [er]
    rw [eS] at hP hD
    refine lv_istore (lv' := [(6, .int 1), (5, .int (nI (6 * i))), (4, .ref qd), (3, .ref qo), (2, .ref am), (1, .ref x), (0, .ref b)]) hx hb dL_law_637 hl (by decide) rfl (fun ls hl => ?_)
    refine lv_aload_n hx hb dL_law_639 rfl (lv_at hl 4 rfl) ?_
    refine lv_aload_n hx hb dL_law_640 rfl (lv_at hl 6 rfl) ?_
    refine lv_iload hx hb dL_law_641 (lv_at hl 1 rfl) ?_
    refine lv_iconst (v := 1) hx hb dL_law_643 (by decide) ?_
    refine lv_iadd hx hb dL_law_644 ?_
    rw [show ((nI (6 * i)) + 1 : Int32) = nI ((6 * i) + 1) from nI_add (6 * i) 1]
    refine va_sld hx hb hX hbl hbA hS (show vp_in (nI ((6 * i) + 1)) L from ki_in (by omega) (by omega)) dL_law_645 ?_
    rw [show xs (nI ((6 * i) + 1)).toNatClampNeg = a1 from (congrArg xs (ki_cl (by omega))).trans ea1.symm]
    refine lv_aload_n hx hb dL_law_646 rfl (lv_at hl 6 rfl) ?_
    refine lv_iload hx hb dL_law_647 (lv_at hl 1 rfl) ?_
    refine lv_iconst (v := 2) hx hb dL_law_649 (by decide) ?_
    refine lv_iadd hx hb dL_law_650 ?_
    rw [show ((nI (6 * i)) + 2 : Int32) = nI ((6 * i) + 2) from nI_add (6 * i) 2]
    refine va_sld hx hb hX hbl hbA hS (show vp_in (nI ((6 * i) + 2)) L from ki_in (by omega) (by omega)) dL_law_651 ?_
    rw [show xs (nI ((6 * i) + 2)).toNatClampNeg = a2 from (congrArg xs (ki_cl (by omega))).trans ea2.symm]
    refine kj_i (pmM _ _ _ _) (va_runV (As := [.int a1, .int a2]) (rest := []) ⟨hx, hb, hml, hown, htT⟩ (m_unrule_0 l D cA _ am r M a1 a2 (by rw [hI.h3]; exact hk0)) (cwV 2 htT (kg_V m_ml_L_155 m_im_X6_unrule m_sl_X6_unrule m_in_X6 m_cd_X6_unrule) rfl rfl rfl (by decide +kernel) ⟨Nat.le_of_ble_eq_true rfl, Nat.le_of_ble_eq_true rfl⟩) (kj_V (pmM _ _ _ _) hK hP hD hTB (kj_rm (pmM _ _ _ _) hK hP)) rfl rfl hl.1 rfl (lv_room (Nat.le_of_ble_eq_true rfl)) dL_law_652 ⟨(by show _ ≤ 601024; omega), (by show _ ≤ 7293034; omega)⟩) hP hD hS hA (fun r_2 x_2 H locs hq_2 hP hD hS => ?_)
    have hP := kj_P (pmM _ _ _ _).symm hP
    have hD := kj_D (pmM _ _ _ _).symm hD
    rw [hq_2.1]
    rw [hq_2.2] at hP hD
    refine lv_istore (lv' := [(7, .int 0), (6, .int 1), (5, .int (nI (6 * i))), (4, .ref qd), (3, .ref qo), (2, .ref am), (1, .ref x), (0, .ref b)]) hx hb dL_law_655 hl (by decide) rfl (fun ls hl => ?_)
    refine lv_goto (tgt := 1750) hx hb dL_law_657 (by decide) ?_
    refine W.widen (k := c0 + 20) (n := s0 + 400) (by omega) (by omega) ?_
    exact hnext _ (mS (mS M 0 0) 0 1) _ _ _ _ _ _ _ _ _ _ hd0 h ((hI.iS (k := 0) (v := 0) (by decide) (by decide)).iS (by decide) (by decide)) (hL9.m eqM.rf.s0.s0) (hY.of rfl) (e1) (e2) hP hD hS (lv_sub hl [2, 3, 4, 5, 6, 7] rfl)
  · rw [er]
    rw [eS] at hP hD
    refine lv_istore (lv' := [(6, .int 1), (5, .int (nI (6 * i))), (4, .ref qd), (3, .ref qo), (2, .ref am), (1, .ref x), (0, .ref b)]) hx hb dL_law_637 hl (by decide) rfl (fun ls hl => ?_)
    refine lv_aload_n hx hb dL_law_639 rfl (lv_at hl 4 rfl) ?_
    refine lv_aload_n hx hb dL_law_640 rfl (lv_at hl 6 rfl) ?_
    refine lv_iload hx hb dL_law_641 (lv_at hl 1 rfl) ?_
    refine lv_iconst (v := 1) hx hb dL_law_643 (by decide) ?_
    refine lv_iadd hx hb dL_law_644 ?_
    rw [show ((nI (6 * i)) + 1 : Int32) = nI ((6 * i) + 1) from nI_add (6 * i) 1]
    refine va_sld hx hb hX hbl hbA hS (show vp_in (nI ((6 * i) + 1)) L from ki_in (by omega) (by omega)) dL_law_645 ?_
    rw [show xs (nI ((6 * i) + 1)).toNatClampNeg = a1 from (congrArg xs (ki_cl (by omega))).trans ea1.symm]
    refine lv_aload_n hx hb dL_law_646 rfl (lv_at hl 6 rfl) ?_
    refine lv_iload hx hb dL_law_647 (lv_at hl 1 rfl) ?_
    refine lv_iconst (v := 2) hx hb dL_law_649 (by decide) ?_
    refine lv_iadd hx hb dL_law_650 ?_
    rw [show ((nI (6 * i)) + 2 : Int32) = nI ((6 * i) + 2) from nI_add (6 * i) 2]
    refine va_sld hx hb hX hbl hbA hS (show vp_in (nI ((6 * i) + 2)) L from ki_in (by omega) (by omega)) dL_law_651 ?_
    rw [show xs (nI ((6 * i) + 2)).toNatClampNeg = a2 from (congrArg xs (ki_cl (by omega))).trans ea2.symm]
    rw [ej]
    refine kj_i (pmM _ _ _ _) (va_runV (As := [.int (nI j), .int a2]) (rest := []) ⟨hx, hb, hml, hown, htT⟩ (m_unrule_1 l D cA _ am r M n j hjn hI.n8 hI.h3 rc hrc ((hL9.rn hjn hja (q := (8, 17)) (by decide)).symm.trans h8) a2 (kIn_out0.mpr h1)) (cwV 2 htT (kg_V m_ml_L_155 m_im_X6_unrule m_sl_X6_unrule m_in_X6 m_cd_X6_unrule) rfl rfl rfl (by decide +kernel) ⟨Nat.le_of_ble_eq_true rfl, Nat.le_of_ble_eq_true rfl⟩) (kj_V (pmM _ _ _ _) hK hP hD hTB (kj_rm (pmM _ _ _ _) hK hP)) rfl rfl hl.1 rfl (lv_room (Nat.le_of_ble_eq_true rfl)) dL_law_652 ⟨(by show _ ≤ 601024; omega), (by show _ ≤ 7293034; omega)⟩) hP hD hS hA (fun r_3 x_3 H locs hq_3 hP hD hS => ?_)
    have hP := kj_P (pmM _ _ _ _).symm hP
    have hD := kj_D (pmM _ _ _ _).symm hD
    rw [hq_3.1]
    rw [hq_3.2] at hP hD
    refine lv_istore (lv' := [(7, .int 0), (6, .int 1), (5, .int (nI (6 * i))), (4, .ref qd), (3, .ref qo), (2, .ref am), (1, .ref x), (0, .ref b)]) hx hb dL_law_655 hl (by decide) rfl (fun ls hl => ?_)
    refine lv_goto (tgt := 1750) hx hb dL_law_657 (by decide) ?_
    refine W.widen (k := c0 + 20) (n := s0 + 400) (by omega) (by omega) ?_
    exact hnext _ (mS (mS M 0 0) 0 1) _ _ _ _ _ _ _ _ _ _ hd0 h ((hI.iS (k := 0) (v := 0) (by decide) (by decide)).iS (by decide) (by decide)) (hL9.m eqM.rf.s0.s0) (hY.of rfl) (e1) (e2) hP hD hS (lv_sub hl [2, 3, 4, 5, 6, 7] rfl)
  · rw [er]
    rw [eS] at hP hD
    rw [efo] at hP hD
    refine lv_istore (lv' := [(6, .int 0), (5, .int (nI (6 * i))), (4, .ref qd), (3, .ref qo), (2, .ref am), (1, .ref x), (0, .ref b)]) hx hb dL_law_637 hl (by decide) rfl (fun ls hl => ?_)
    refine lv_aload_n hx hb dL_law_639 rfl (lv_at hl 4 rfl) ?_
    refine lv_aload_n hx hb dL_law_640 rfl (lv_at hl 6 rfl) ?_
    refine lv_iload hx hb dL_law_641 (lv_at hl 1 rfl) ?_
    refine lv_iconst (v := 1) hx hb dL_law_643 (by decide) ?_
    refine lv_iadd hx hb dL_law_644 ?_
    rw [show ((nI (6 * i)) + 1 : Int32) = nI ((6 * i) + 1) from nI_add (6 * i) 1]
    refine va_sld hx hb hX hbl hbA hS (show vp_in (nI ((6 * i) + 1)) L from ki_in (by omega) (by omega)) dL_law_645 ?_
    rw [show xs (nI ((6 * i) + 1)).toNatClampNeg = a1 from (congrArg xs (ki_cl (by omega))).trans ea1.symm]
    refine lv_aload_n hx hb dL_law_646 rfl (lv_at hl 6 rfl) ?_
    refine lv_iload hx hb dL_law_647 (lv_at hl 1 rfl) ?_
    refine lv_iconst (v := 2) hx hb dL_law_649 (by decide) ?_
    refine lv_iadd hx hb dL_law_650 ?_
    rw [show ((nI (6 * i)) + 2 : Int32) = nI ((6 * i) + 2) from nI_add (6 * i) 2]
    refine va_sld hx hb hX hbl hbA hS (show vp_in (nI ((6 * i) + 2)) L from ki_in (by omega) (by omega)) dL_law_651 ?_
    rw [show xs (nI ((6 * i) + 2)).toNatClampNeg = a2 from (congrArg xs (ki_cl (by omega))).trans ea2.symm]
    rw [ej]
    rw [ek]
    refine kj_i (pmM _ _ _ _) (va_runV (As := [.int (nI j), .int (nI k)]) (rest := []) ⟨hx, hb, hml, hown, htT⟩ (m_unrule l D cA _ am r M n j hjn hI.n8 hI.h3 rc hrc ((hL9.rn hjn hja (q := (8, 17)) (by decide)).symm.trans h8) k hk) (cwV 2 htT (kg_V m_ml_L_155 m_im_X6_unrule m_sl_X6_unrule m_in_X6 m_cd_X6_unrule) rfl rfl rfl (by decide +kernel) ⟨Nat.le_of_ble_eq_true rfl, Nat.le_of_ble_eq_true rfl⟩) (kj_V (pmM _ _ _ _) hK hP hD hTB (kj_rm (pmM _ _ _ _) hK hP)) rfl rfl hl.1 rfl (lv_room (Nat.le_of_ble_eq_true rfl)) dL_law_652 ⟨(by show _ ≤ 601024; omega), (by show _ ≤ 7293034; omega)⟩) hP hD hS hA (fun r_4 x_4 H locs hq_4 hP hD hS => ?_)
    have hP := kj_P (pmM _ _ _ _).symm hP
    have hD := kj_D (pmM _ _ _ _).symm hD
    rw [hq_4.1]
    rw [hq_4.2] at hP hD
    refine lv_istore (lv' := [(7, .int (nI (rc - 1))), (6, .int 0), (5, .int (nI (6 * i))), (4, .ref qd), (3, .ref qo), (2, .ref am), (1, .ref x), (0, .ref b)]) hx hb dL_law_655 hl (by decide) rfl (fun ls hl => ?_)
    refine lv_goto (tgt := 1750) hx hb dL_law_657 (by decide) ?_
    refine W.widen (k := c0 + 20) (n := s0 + 400) (by omega) (by omega) ?_
    exact hnext _ (mR (mU (mU (mU (mU (mS M 0 0) 18 (rMv (M.2 18) (5 * j + k) (5 * j + rc - (5 * j + k) - 1))) 19 (rMv (M.2 19) (5 * j + k) (5 * j + rc - (5 * j + k) - 1))) 20 (rMv (M.2 20) (5 * j + k) (5 * j + rc - (5 * j + k) - 1))) 21 (rMv (M.2 21) (5 * j + k) (5 * j + rc - (5 * j + k) - 1))) 17 j (nI (rc - 1))) _ _ _ _ _ _ _ _ _ _ hd0 (h.unrule (h.sw (by have := h.n8; omega) hja).rl (by have := h.n8; omega) hja (by omega)) (INVR.rules (INVR.iU (INVR.iU (INVR.iU (INVR.iU (hI.iS (k := 0) (v := 0) (by decide) (by decide)) (by decide)) (by decide)) (by decide)) (by decide)) hjn (by omega)) ((hL9.m eqM.rf.s0).unrule h hjn hja hrc ((hL9.rn hjn hja (q := (8, 17)) (by decide)).symm.trans h8) hk (fun j9 a1 a2 a3 a4 a5 => (up_o a1).trans ((up_o a5).trans ((up_o a4).trans ((up_o a3).trans (up_o a2))))) (fun j9 => rfl) (fun q9 hq9 j9 => by rw [show 5 * j + rc - 1 = 5 * j + k + (5 * j + rc - (5 * j + k) - 1) by omega]; rcases hq9 with rfl | rfl | rfl | rfl <;> rfl)) (hY.of rfl) (e1) (e2) hP hD hS (lv_sub hl [2, 3, 4, 5, 6, 7] rfl)

set_option maxRecDepth 100000 in
set_option maxHeartbeats 4000000 in
theorem law_hold (l : Launch) (hst : l.stackTraces = false) {p : Program} {e : Env} {s : State} {m : MethodId} {below : List Frame} {meth : Method} {c : Code} {b L : Nat} {xs : Nat → Int32} (C0 : lw_At p s m meth c b L xs) {D : va_G} {cA : Nat → ClassId} (hK : va_K D vwCl (ty6 cA) s) (hTB : TBok s) (hTX : TXok (fun q : Nat => s.heap.size ≤ q) s) {x ar ak qo qd am : Nat} {r : Nat → Nat} {c0 s0 i : Nat} (hc0 : c0 + 20 ≤ 601024) (hs0 : s0 + 400 ≤ 7293034) (hi : 6 * i + 6 ≤ L) (hL : L ≤ 3072) (hnext : ∀ (S : Pool) (M : MSt) (fo : Nat → Int64) (fd : Nat → UInt64) (n na : Nat) (hh cc : Int32) (H : Heap) (locs : List Loc) (ls : Array Slot) (d : Drawn), s.drawn.sameBut d lw_cs → INVC n na hh cc S x ar ak → INVR n na M → REL True n na S M ar → LAY n M → M.1 1 = cc → M.1 2 = hh → va_P D vwCl (LW cA S qo fo qd fd am r M) H → va_D (fun q : Nat => s.heap.size ≤ q) (LW cA S qo fo qd fd am r M) → va_S (fun q : Nat => s.heap.size ≤ q) s.heap H locs → lv_has ls 9 [(5, .int (nI (6 * i))), (4, .ref qd), (3, .ref qo), (2, .ref am), (1, .ref x), (0, .ref b)] → W p l e room_1 (s.setDrawn d) m #[Value.ref b] below meth c H locs (c0 + 20) (s0 + 400) (lw_Z below #[Value.ref b] s) (F0 m 1750 ls [])) {S : Pool} {M : MSt} {fo : Nat → Int64} {fd : Nat → UInt64} {n na : Nat} {hh cc : Int32} {H : Heap} {locs : List Loc} {ls : Array Slot} {d : Drawn} (hd0 : s.drawn.sameBut d lw_cs) (h : INVC n na hh cc S x ar ak) (hI : INVR n na M) (hL9 : REL True n na S M ar) (hY : LAY n M) (e1 : M.1 1 = cc) (e2 : M.1 2 = hh) (hP : va_P D vwCl (LW cA S qo fo qd fd am r M) H) (hD : va_D (fun q : Nat => s.heap.size ≤ q) (LW cA S qo fo qd fd am r M)) (hS : va_S (fun q : Nat => s.heap.size ≤ q) s.heap H locs) (hl : lv_has ls 9 [(5, .int (nI (6 * i))), (4, .ref qd), (3, .ref qo), (2, .ref am), (1, .ref x), (0, .ref b)]) : W p l e room_1 (s.setDrawn d) m #[Value.ref b] below meth c H locs c0 s0 (lw_Z below #[Value.ref b] s) (F0 m 660 ls []) := by
  obtain ⟨hx, hb, hr, hml, hown, hts, hX, hbl, hlocks, hgv⟩ := id C0
  have hA : ∀ q : Nat, s.heap.size ≤ q → (fun q : Nat => s.heap.size ≤ q) q := fun _ h => h
  have hbA : ¬ (fun q : Nat => s.heap.size ≤ q) b := Nat.not_le.mpr hbl
  obtain ⟨a1, ea1⟩ : ∃ z, z = xs (6 * i + 1) := ⟨_, rfl⟩
  obtain ⟨a2, ea2⟩ : ∃ z, z = xs (6 * i + 2) := ⟨_, rfl⟩
  obtain ⟨a3, ea3⟩ : ∃ z, z = xs (6 * i + 3) := ⟨_, rfl⟩
  obtain ⟨a4, ea4⟩ : ∃ z, z = xs (6 * i + 4) := ⟨_, rfl⟩
  obtain ⟨a5, ea5⟩ : ∃ z, z = xs (6 * i + 5) := ⟨_, rfl⟩
  have htT0 : ∀ w ∈ TT, w.before _ s = true := fun w h => hts w (tt_in h)
  have hTB0 := hTB
  have hK0 := hK
  have hown0 : s.vm.findClass RL = some m.cls := hown
  have hTX0 := hTX
  have hX0 := hX
  have htT : ∀ w ∈ TT, w.before _ (s.setDrawn d) = true := dr_words htT0 d
  have hTB : TBok (s.setDrawn d) := TBok.same (u := s) (U := s.setDrawn d) rfl (Vm.Alike.refl s.vm) hTB0
  have hK : va_K D vwCl (ty6 cA) (s.setDrawn d) := hK0
  have hown : (s.setDrawn d).vm.findClass RL = some m.cls := hown0
  have hTX : TXok (fun q : Nat => s.heap.size ≤ q) (s.setDrawn d) := hTX0.dr d
  have hX : va_X b L xs (s.setDrawn d) (s.setDrawn d).heap := hX0
  refine lv_aload_n hx hb dL_law_660 rfl (lv_at hl 4 rfl) ?_
  refine lv_aload_n hx hb dL_law_661 rfl (lv_at hl 5 rfl) ?_
  refine lv_iload hx hb dL_law_662 (lv_at hl 0 rfl) ?_
  refine lv_iconst (v := 1) hx hb dL_law_664 (by decide) ?_
  refine lv_iadd hx hb dL_law_665 ?_
  rw [show ((nI (6 * i)) + 1 : Int32) = nI ((6 * i) + 1) from nI_add (6 * i) 1]
  refine va_sld hx hb hX hbl hbA hS (show vp_in (nI ((6 * i) + 1)) L from ki_in (by omega) (by omega)) dL_law_666 ?_
  rw [show xs (nI ((6 * i) + 1)).toNatClampNeg = a1 from (congrArg xs (ki_cl (by omega))).trans ea1.symm]
  refine lv_aload_n hx hb dL_law_667 rfl (lv_at hl 2 rfl) ?_
  refine kj_i (pmJ _ _ _ _) (vx_runSW (As := [.ref x, .int a1, .ref qo]) (rest := []) ⟨hx, hb, hml, hown, htT⟩ (w_hold l hst D cA _ S x qo fo n na hh cc ar ak h a1) (vx_cwSW 3 htT (kg_SW m_ml_L_156 m_st_L_hold m_in_L m_cd_L_hold) rfl rfl rfl (by decide +kernel) ⟨Nat.le_of_ble_eq_true rfl, Nat.le_of_ble_eq_true rfl⟩) (kj_SX (pmJ _ _ _ _) hK hP hD hTB hTX hS hA) rfl rfl hl.1 rfl (lv_room (Nat.le_of_ble_eq_true rfl)) dL_law_668 ⟨(by show _ ≤ 601024; omega), (by show _ ≤ 7293034; omega)⟩) hP hD hS hA (fun r_1 x_1 H locs hq_1 hP hD hS => ?_)
  rw [List.append_assoc] at hP hD
  obtain ⟨hC_1, hQ_1⟩ := hq_1
  refine lv_istore (lv' := [(6, .int r_1), (5, .int (nI (6 * i))), (4, .ref qd), (3, .ref qo), (2, .ref am), (1, .ref x), (0, .ref b)]) hx hb dL_law_671 hl (by decide) rfl (fun ls hl => ?_)
  refine lv_aload_n hx hb dL_law_673 rfl (lv_at hl 4 rfl) ?_
  refine lv_aload_n hx hb dL_law_674 rfl (lv_at hl 6 rfl) ?_
  refine lv_iload hx hb dL_law_675 (lv_at hl 1 rfl) ?_
  refine lv_iconst (v := 1) hx hb dL_law_677 (by decide) ?_
  refine lv_iadd hx hb dL_law_678 ?_
  rw [show ((nI (6 * i)) + 1 : Int32) = nI ((6 * i) + 1) from nI_add (6 * i) 1]
  refine va_sld hx hb hX hbl hbA hS (show vp_in (nI ((6 * i) + 1)) L from ki_in (by omega) (by omega)) dL_law_679 ?_
  rw [show xs (nI ((6 * i) + 1)).toNatClampNeg = a1 from (congrArg xs (ki_cl (by omega))).trans ea1.symm]
  refine kj_i (pmM _ _ _ _) (va_runV (As := [.int a1]) (rest := []) ⟨hx, hb, hml, hown, htT⟩ (t_hold l D cA _ am r M n na hI a1) (cwV 1 htT (kg_V m_ml_L_159 m_im_X6_hold m_sl_X6_hold m_in_X6 m_cd_X6_hold) rfl rfl rfl (by decide +kernel) ⟨Nat.le_of_ble_eq_true rfl, Nat.le_of_ble_eq_true rfl⟩) (kj_V (pmM _ _ _ _) hK hP hD hTB (kj_rm (pmM _ _ _ _) hK hP)) rfl rfl hl.1 rfl (lv_room (Nat.le_of_ble_eq_true rfl)) dL_law_680 ⟨(by show _ ≤ 601024; omega), (by show _ ≤ 7293034; omega)⟩) hP hD hS hA (fun r_2 x_2 H locs hq_2 hP hD hS => ?_)
  have hP := kj_P (pmM _ _ _ _).symm hP
  have hD := kj_D (pmM _ _ _ _).symm hD
  obtain ⟨hI_2, hr_2, ea_2, eb_2⟩ := hq_2
  refine lv_istore (lv' := [(7, .int r_2), (6, .int r_1), (5, .int (nI (6 * i))), (4, .ref qd), (3, .ref qo), (2, .ref am), (1, .ref x), (0, .ref b)]) hx hb dL_law_683 hl (by decide) rfl (fun ls hl => ?_)
  refine lv_goto (tgt := 1750) hx hb dL_law_685 (by decide) ?_
  refine W.widen (k := c0 + 20) (n := s0 + 400) (by omega) (by omega) ?_
  exact hnext _ x_2 _ _ _ _ _ _ _ _ _ _ hd0 hC_1 hI_2 ((hL9.qc h hQ_1 eqM.rf).rows hr_2) (hY.of (congrFun hr_2 14)) (ea_2.trans e1) (eb_2.trans ((congrArg (fun z => if kIn a1 0 1000 = 0 then z else a1) e2).trans (kIO _ _ _ _ _))) hP hD hS (lv_sub hl [2, 3, 4, 5, 6, 7] rfl)

set_option maxRecDepth 100000 in
set_option maxHeartbeats 4000000 in
theorem law_goOn (l : Launch) (hst : l.stackTraces = false) {p : Program} {e : Env} {s : State} {m : MethodId} {below : List Frame} {meth : Method} {c : Code} {b L : Nat} {xs : Nat → Int32} (C0 : lw_At p s m meth c b L xs) {D : va_G} {cA : Nat → ClassId} (hK : va_K D vwCl (ty6 cA) s) (hTB : TBok s) (hTX : TXok (fun q : Nat => s.heap.size ≤ q) s) {x ar ak qo qd am : Nat} {r : Nat → Nat} {c0 s0 i : Nat} (hc0 : c0 + 20 ≤ 601024) (hs0 : s0 + 400 ≤ 7293034) (hi : 6 * i + 6 ≤ L) (hL : L ≤ 3072) (hnext : ∀ (S : Pool) (M : MSt) (fo : Nat → Int64) (fd : Nat → UInt64) (n na : Nat) (hh cc : Int32) (H : Heap) (locs : List Loc) (ls : Array Slot) (d : Drawn), s.drawn.sameBut d lw_cs → INVC n na hh cc S x ar ak → INVR n na M → REL True n na S M ar → LAY n M → M.1 1 = cc → M.1 2 = hh → va_P D vwCl (LW cA S qo fo qd fd am r M) H → va_D (fun q : Nat => s.heap.size ≤ q) (LW cA S qo fo qd fd am r M) → va_S (fun q : Nat => s.heap.size ≤ q) s.heap H locs → lv_has ls 9 [(5, .int (nI (6 * i))), (4, .ref qd), (3, .ref qo), (2, .ref am), (1, .ref x), (0, .ref b)] → W p l e room_1 (s.setDrawn d) m #[Value.ref b] below meth c H locs (c0 + 20) (s0 + 400) (lw_Z below #[Value.ref b] s) (F0 m 1750 ls [])) {S : Pool} {M : MSt} {fo : Nat → Int64} {fd : Nat → UInt64} {n na : Nat} {hh cc : Int32} {H : Heap} {locs : List Loc} {ls : Array Slot} {d : Drawn} (hd0 : s.drawn.sameBut d lw_cs) (h : INVC n na hh cc S x ar ak) (hI : INVR n na M) (hL9 : REL True n na S M ar) (hY : LAY n M) (e1 : M.1 1 = cc) (e2 : M.1 2 = hh) (hP : va_P D vwCl (LW cA S qo fo qd fd am r M) H) (hD : va_D (fun q : Nat => s.heap.size ≤ q) (LW cA S qo fo qd fd am r M)) (hS : va_S (fun q : Nat => s.heap.size ≤ q) s.heap H locs) (hl : lv_has ls 9 [(5, .int (nI (6 * i))), (4, .ref qd), (3, .ref qo), (2, .ref am), (1, .ref x), (0, .ref b)]) : W p l e room_1 (s.setDrawn d) m #[Value.ref b] below meth c H locs c0 s0 (lw_Z below #[Value.ref b] s) (F0 m 688 ls []) := by
  obtain ⟨hx, hb, hr, hml, hown, hts, hX, hbl, hlocks, hgv⟩ := id C0
  have hA : ∀ q : Nat, s.heap.size ≤ q → (fun q : Nat => s.heap.size ≤ q) q := fun _ h => h
  have hbA : ¬ (fun q : Nat => s.heap.size ≤ q) b := Nat.not_le.mpr hbl
  obtain ⟨a1, ea1⟩ : ∃ z, z = xs (6 * i + 1) := ⟨_, rfl⟩
  obtain ⟨a2, ea2⟩ : ∃ z, z = xs (6 * i + 2) := ⟨_, rfl⟩
  obtain ⟨a3, ea3⟩ : ∃ z, z = xs (6 * i + 3) := ⟨_, rfl⟩
  obtain ⟨a4, ea4⟩ : ∃ z, z = xs (6 * i + 4) := ⟨_, rfl⟩
  obtain ⟨a5, ea5⟩ : ∃ z, z = xs (6 * i + 5) := ⟨_, rfl⟩
  have htT0 : ∀ w ∈ TT, w.before _ s = true := fun w h => hts w (tt_in h)
  have hTB0 := hTB
  have hK0 := hK
  have hown0 : s.vm.findClass RL = some m.cls := hown
  have hTX0 := hTX
  have hX0 := hX
  have htT : ∀ w ∈ TT, w.before _ (s.setDrawn d) = true := dr_words htT0 d
  have hTB : TBok (s.setDrawn d) := TBok.same (u := s) (U := s.setDrawn d) rfl (Vm.Alike.refl s.vm) hTB0
  have hK : va_K D vwCl (ty6 cA) (s.setDrawn d) := hK0
  have hown : (s.setDrawn d).vm.findClass RL = some m.cls := hown0
  have hTX : TXok (fun q : Nat => s.heap.size ≤ q) (s.setDrawn d) := hTX0.dr d
  have hX : va_X b L xs (s.setDrawn d) (s.setDrawn d).heap := hX0
  refine lv_aload_n hx hb dL_law_688 rfl (lv_at hl 4 rfl) ?_
  refine lv_aload_n hx hb dL_law_689 rfl (lv_at hl 5 rfl) ?_
  refine lv_iload hx hb dL_law_690 (lv_at hl 0 rfl) ?_
  refine lv_iconst (v := 1) hx hb dL_law_692 (by decide) ?_
  refine lv_iadd hx hb dL_law_693 ?_
  rw [show ((nI (6 * i)) + 1 : Int32) = nI ((6 * i) + 1) from nI_add (6 * i) 1]
  refine va_sld hx hb hX hbl hbA hS (show vp_in (nI ((6 * i) + 1)) L from ki_in (by omega) (by omega)) dL_law_694 ?_
  rw [show xs (nI ((6 * i) + 1)).toNatClampNeg = a1 from (congrArg xs (ki_cl (by omega))).trans ea1.symm]
  refine lv_aload_n hx hb dL_law_695 rfl (lv_at hl 2 rfl) ?_
  refine kj_i (pmJ _ _ _ _) (vx_runSW (As := [.ref x, .int a1, .ref qo]) (rest := []) ⟨hx, hb, hml, hown, htT⟩ (w_goOn l hst D cA _ S x qo fo n na hh cc ar ak h a1) (vx_cwSW 3 htT (kg_SW m_ml_L_160 m_st_L_goOn m_in_L m_cd_L_goOn) rfl rfl rfl (by decide +kernel) ⟨Nat.le_of_ble_eq_true rfl, Nat.le_of_ble_eq_true rfl⟩) (kj_SX (pmJ _ _ _ _) hK hP hD hTB hTX hS hA) rfl rfl hl.1 rfl (lv_room (Nat.le_of_ble_eq_true rfl)) dL_law_696 ⟨(by show _ ≤ 601024; omega), (by show _ ≤ 7293034; omega)⟩) hP hD hS hA (fun r_1 x_1 H locs hq_1 hP hD hS => ?_)
  rw [List.append_assoc] at hP hD
  obtain ⟨hC_1, hQ_1⟩ := hq_1
  refine lv_istore (lv' := [(6, .int r_1), (5, .int (nI (6 * i))), (4, .ref qd), (3, .ref qo), (2, .ref am), (1, .ref x), (0, .ref b)]) hx hb dL_law_699 hl (by decide) rfl (fun ls hl => ?_)
  refine lv_aload_n hx hb dL_law_701 rfl (lv_at hl 4 rfl) ?_
  refine lv_aload_n hx hb dL_law_702 rfl (lv_at hl 6 rfl) ?_
  refine lv_iload hx hb dL_law_703 (lv_at hl 1 rfl) ?_
  refine lv_iconst (v := 1) hx hb dL_law_705 (by decide) ?_
  refine lv_iadd hx hb dL_law_706 ?_
  rw [show ((nI (6 * i)) + 1 : Int32) = nI ((6 * i) + 1) from nI_add (6 * i) 1]
  refine va_sld hx hb hX hbl hbA hS (show vp_in (nI ((6 * i) + 1)) L from ki_in (by omega) (by omega)) dL_law_707 ?_
  rw [show xs (nI ((6 * i) + 1)).toNatClampNeg = a1 from (congrArg xs (ki_cl (by omega))).trans ea1.symm]
  refine kj_i (pmM _ _ _ _) (va_runV (As := [.int a1]) (rest := []) ⟨hx, hb, hml, hown, htT⟩ (t_goOn l D cA _ am r M n na hI a1) (cwV 1 htT (kg_V m_ml_L_162 m_im_X6_goOn m_sl_X6_goOn m_in_X6 m_cd_X6_goOn) rfl rfl rfl (by decide +kernel) ⟨Nat.le_of_ble_eq_true rfl, Nat.le_of_ble_eq_true rfl⟩) (kj_V (pmM _ _ _ _) hK hP hD hTB (kj_rm (pmM _ _ _ _) hK hP)) rfl rfl hl.1 rfl (lv_room (Nat.le_of_ble_eq_true rfl)) dL_law_708 ⟨(by show _ ≤ 601024; omega), (by show _ ≤ 7293034; omega)⟩) hP hD hS hA (fun r_2 x_2 H locs hq_2 hP hD hS => ?_)
  have hP := kj_P (pmM _ _ _ _).symm hP
  have hD := kj_D (pmM _ _ _ _).symm hD
  obtain ⟨hI_2, hr_2, ea_2, eb_2⟩ := hq_2
  refine lv_istore (lv' := [(7, .int r_2), (6, .int r_1), (5, .int (nI (6 * i))), (4, .ref qd), (3, .ref qo), (2, .ref am), (1, .ref x), (0, .ref b)]) hx hb dL_law_711 hl (by decide) rfl (fun ls hl => ?_)
  refine lv_goto (tgt := 1750) hx hb dL_law_713 (by decide) ?_
  refine W.widen (k := c0 + 20) (n := s0 + 400) (by omega) (by omega) ?_
  exact hnext _ x_2 _ _ _ _ _ _ _ _ _ _ hd0 hC_1 hI_2 ((hL9.qc h hQ_1 eqM.rf).rows hr_2) (hY.of (congrFun hr_2 14)) (ea_2.trans ((congrArg (fun z => if kIn a1 1 100 = 0 then z else z + a1) e1).trans (kIO _ _ _ _ _))) (eb_2.trans e2) hP hD hS (lv_sub hl [2, 3, 4, 5, 6, 7] rfl)

set_option maxRecDepth 100000 in
set_option maxHeartbeats 4000000 in
theorem law_switches (l : Launch) (hst : l.stackTraces = false) {p : Program} {e : Env} {s : State} {m : MethodId} {below : List Frame} {meth : Method} {c : Code} {b L : Nat} {xs : Nat → Int32} (C0 : lw_At p s m meth c b L xs) {D : va_G} {cA : Nat → ClassId} (hK : va_K D vwCl (ty6 cA) s) (hTB : TBok s) (hTX : TXok (fun q : Nat => s.heap.size ≤ q) s) {x ar ak qo qd am : Nat} {r : Nat → Nat} {c0 s0 i : Nat} (hc0 : c0 + 20 ≤ 601024) (hs0 : s0 + 400 ≤ 7293034) (hi : 6 * i + 6 ≤ L) (hL : L ≤ 3072) (hnext : ∀ (S : Pool) (M : MSt) (fo : Nat → Int64) (fd : Nat → UInt64) (n na : Nat) (hh cc : Int32) (H : Heap) (locs : List Loc) (ls : Array Slot) (d : Drawn), s.drawn.sameBut d lw_cs → INVC n na hh cc S x ar ak → INVR n na M → REL True n na S M ar → LAY n M → M.1 1 = cc → M.1 2 = hh → va_P D vwCl (LW cA S qo fo qd fd am r M) H → va_D (fun q : Nat => s.heap.size ≤ q) (LW cA S qo fo qd fd am r M) → va_S (fun q : Nat => s.heap.size ≤ q) s.heap H locs → lv_has ls 9 [(5, .int (nI (6 * i))), (4, .ref qd), (3, .ref qo), (2, .ref am), (1, .ref x), (0, .ref b)] → W p l e room_1 (s.setDrawn d) m #[Value.ref b] below meth c H locs (c0 + 20) (s0 + 400) (lw_Z below #[Value.ref b] s) (F0 m 1750 ls [])) {S : Pool} {M : MSt} {fo : Nat → Int64} {fd : Nat → UInt64} {n na : Nat} {hh cc : Int32} {H : Heap} {locs : List Loc} {ls : Array Slot} {d : Drawn} (hd0 : s.drawn.sameBut d lw_cs) (h : INVC n na hh cc S x ar ak) (hI : INVR n na M) (hL9 : REL True n na S M ar) (hY : LAY n M) (e1 : M.1 1 = cc) (e2 : M.1 2 = hh) (hP : va_P D vwCl (LW cA S qo fo qd fd am r M) H) (hD : va_D (fun q : Nat => s.heap.size ≤ q) (LW cA S qo fo qd fd am r M)) (hS : va_S (fun q : Nat => s.heap.size ≤ q) s.heap H locs) (hl : lv_has ls 9 [(5, .int (nI (6 * i))), (4, .ref qd), (3, .ref qo), (2, .ref am), (1, .ref x), (0, .ref b)]) : W p l e room_1 (s.setDrawn d) m #[Value.ref b] below meth c H locs c0 s0 (lw_Z below #[Value.ref b] s) (F0 m 716 ls []) := by
  obtain ⟨hx, hb, hr, hml, hown, hts, hX, hbl, hlocks, hgv⟩ := id C0
  have hA : ∀ q : Nat, s.heap.size ≤ q → (fun q : Nat => s.heap.size ≤ q) q := fun _ h => h
  have hbA : ¬ (fun q : Nat => s.heap.size ≤ q) b := Nat.not_le.mpr hbl
  obtain ⟨a1, ea1⟩ : ∃ z, z = xs (6 * i + 1) := ⟨_, rfl⟩
  obtain ⟨a2, ea2⟩ : ∃ z, z = xs (6 * i + 2) := ⟨_, rfl⟩
  obtain ⟨a3, ea3⟩ : ∃ z, z = xs (6 * i + 3) := ⟨_, rfl⟩
  obtain ⟨a4, ea4⟩ : ∃ z, z = xs (6 * i + 4) := ⟨_, rfl⟩
  obtain ⟨a5, ea5⟩ : ∃ z, z = xs (6 * i + 5) := ⟨_, rfl⟩
  have htT0 : ∀ w ∈ TT, w.before _ s = true := fun w h => hts w (tt_in h)
  have hTB0 := hTB
  have hK0 := hK
  have hown0 : s.vm.findClass RL = some m.cls := hown
  have hTX0 := hTX
  have hX0 := hX
  have htT : ∀ w ∈ TT, w.before _ (s.setDrawn d) = true := dr_words htT0 d
  have hTB : TBok (s.setDrawn d) := TBok.same (u := s) (U := s.setDrawn d) rfl (Vm.Alike.refl s.vm) hTB0
  have hK : va_K D vwCl (ty6 cA) (s.setDrawn d) := hK0
  have hown : (s.setDrawn d).vm.findClass RL = some m.cls := hown0
  have hTX : TXok (fun q : Nat => s.heap.size ≤ q) (s.setDrawn d) := hTX0.dr d
  have hX : va_X b L xs (s.setDrawn d) (s.setDrawn d).heap := hX0
  refine lv_aload_n hx hb dL_law_716 rfl (lv_at hl 4 rfl) ?_
  refine kj_i (List.Perm.refl _) (va_runV (As := []) (rest := []) ⟨hx, hb, hml, hown, htT⟩ (c_switches l D cA _ S x h.hx) (cwV 0 htT (kg_V m_ml_L_163 m_im_X5_switches m_sl_X5_switches m_in_X5 m_cd_X5_switches) rfl rfl rfl (by decide +kernel) ⟨Nat.le_of_ble_eq_true rfl, Nat.le_of_ble_eq_true rfl⟩) (kj_V (List.Perm.refl _) hK hP hD hTB (kj_rc (List.Perm.refl _) hK hP h.hx (Nat.le_of_ble_eq_true rfl) rfl)) rfl rfl hl.1 rfl (lv_room (Nat.le_of_ble_eq_true rfl)) dL_law_717 ⟨(by show _ ≤ 601024; omega), (by show _ ≤ 7293034; omega)⟩) hP hD hS hA (fun r_1 x_1 H locs hq_1 hP hD hS => ?_)
  rw [hq_1.2] at hP hD
  refine lv_pop hx hb dL_law_720 rfl ?_
  refine lv_aload_n hx hb dL_law_721 rfl (lv_at hl 3 rfl) ?_
  refine kj_i (pmM _ _ _ _) (va_runV (As := []) (rest := []) ⟨hx, hb, hml, hown, htT⟩ (t_switches l D cA _ am r M n na hI ) (cwV 0 htT (kg_V m_ml_L_167 m_im_X6_switches m_sl_X6_switches m_in_X6 m_cd_X6_switches) rfl rfl rfl (by decide +kernel) ⟨Nat.le_of_ble_eq_true rfl, Nat.le_of_ble_eq_true rfl⟩) (kj_V (pmM _ _ _ _) hK hP hD hTB (kj_rm (pmM _ _ _ _) hK hP)) rfl rfl hl.1 rfl (lv_room (Nat.le_of_ble_eq_true rfl)) dL_law_722 ⟨(by show _ ≤ 601024; omega), (by show _ ≤ 7293034; omega)⟩) hP hD hS hA (fun r_2 x_2 H locs hq_2 hP hD hS => ?_)
  have hP := kj_P (pmM _ _ _ _).symm hP
  have hD := kj_D (pmM _ _ _ _).symm hD
  obtain ⟨hI_2, hM_2⟩ := hq_2
  have ea_2 := hM_2.2 1 (by decide) (by decide)
  have eb_2 := hM_2.2 2 (by decide) (by decide)
  refine lv_pop hx hb dL_law_725 rfl ?_
  refine lv_goto (tgt := 1750) hx hb dL_law_726 (by decide) ?_
  refine W.widen (k := c0 + 20) (n := s0 + 400) (by omega) (by omega) ?_
  exact hnext _ x_2 _ _ _ _ _ _ _ _ _ _ hd0 h hI_2 (hL9.qc h QC.rf hM_2) (hY.of (hM_2.1 14 (by decide) (by decide))) (ea_2.trans e1) (eb_2.trans e2) hP hD hS (lv_sub hl [0, 1, 2, 3, 4, 5] rfl)

set_option maxRecDepth 100000 in
set_option maxHeartbeats 4000000 in
theorem law_weight (l : Launch) (hst : l.stackTraces = false) {p : Program} {e : Env} {s : State} {m : MethodId} {below : List Frame} {meth : Method} {c : Code} {b L : Nat} {xs : Nat → Int32} (C0 : lw_At p s m meth c b L xs) {D : va_G} {cA : Nat → ClassId} (hK : va_K D vwCl (ty6 cA) s) (hTB : TBok s) (hTX : TXok (fun q : Nat => s.heap.size ≤ q) s) {x ar ak qo qd am : Nat} {r : Nat → Nat} {c0 s0 i : Nat} (hc0 : c0 + 20 ≤ 601024) (hs0 : s0 + 400 ≤ 7293034) (hi : 6 * i + 6 ≤ L) (hL : L ≤ 3072) (hnext : ∀ (S : Pool) (M : MSt) (fo : Nat → Int64) (fd : Nat → UInt64) (n na : Nat) (hh cc : Int32) (H : Heap) (locs : List Loc) (ls : Array Slot) (d : Drawn), s.drawn.sameBut d lw_cs → INVC n na hh cc S x ar ak → INVR n na M → REL True n na S M ar → LAY n M → M.1 1 = cc → M.1 2 = hh → va_P D vwCl (LW cA S qo fo qd fd am r M) H → va_D (fun q : Nat => s.heap.size ≤ q) (LW cA S qo fo qd fd am r M) → va_S (fun q : Nat => s.heap.size ≤ q) s.heap H locs → lv_has ls 9 [(5, .int (nI (6 * i))), (4, .ref qd), (3, .ref qo), (2, .ref am), (1, .ref x), (0, .ref b)] → W p l e room_1 (s.setDrawn d) m #[Value.ref b] below meth c H locs (c0 + 20) (s0 + 400) (lw_Z below #[Value.ref b] s) (F0 m 1750 ls [])) {S : Pool} {M : MSt} {fo : Nat → Int64} {fd : Nat → UInt64} {n na : Nat} {hh cc : Int32} {H : Heap} {locs : List Loc} {ls : Array Slot} {d : Drawn} (hd0 : s.drawn.sameBut d lw_cs) (h : INVC n na hh cc S x ar ak) (hI : INVR n na M) (hL9 : REL True n na S M ar) (hY : LAY n M) (e1 : M.1 1 = cc) (e2 : M.1 2 = hh) (hP : va_P D vwCl (LW cA S qo fo qd fd am r M) H) (hD : va_D (fun q : Nat => s.heap.size ≤ q) (LW cA S qo fo qd fd am r M)) (hS : va_S (fun q : Nat => s.heap.size ≤ q) s.heap H locs) (hl : lv_has ls 9 [(5, .int (nI (6 * i))), (4, .ref qd), (3, .ref qo), (2, .ref am), (1, .ref x), (0, .ref b)]) : W p l e room_1 (s.setDrawn d) m #[Value.ref b] below meth c H locs c0 s0 (lw_Z below #[Value.ref b] s) (F0 m 729 ls []) := by
  obtain ⟨hx, hb, hr, hml, hown, hts, hX, hbl, hlocks, hgv⟩ := id C0
  have hA : ∀ q : Nat, s.heap.size ≤ q → (fun q : Nat => s.heap.size ≤ q) q := fun _ h => h
  have hbA : ¬ (fun q : Nat => s.heap.size ≤ q) b := Nat.not_le.mpr hbl
  obtain ⟨a1, ea1⟩ : ∃ z, z = xs (6 * i + 1) := ⟨_, rfl⟩
  obtain ⟨a2, ea2⟩ : ∃ z, z = xs (6 * i + 2) := ⟨_, rfl⟩
  obtain ⟨a3, ea3⟩ : ∃ z, z = xs (6 * i + 3) := ⟨_, rfl⟩
  obtain ⟨a4, ea4⟩ : ∃ z, z = xs (6 * i + 4) := ⟨_, rfl⟩
  obtain ⟨a5, ea5⟩ : ∃ z, z = xs (6 * i + 5) := ⟨_, rfl⟩
  have htT0 : ∀ w ∈ TT, w.before _ s = true := fun w h => hts w (tt_in h)
  have hTB0 := hTB
  have hK0 := hK
  have hown0 : s.vm.findClass RL = some m.cls := hown
  have hTX0 := hTX
  have hX0 := hX
  have htT : ∀ w ∈ TT, w.before _ (s.setDrawn d) = true := dr_words htT0 d
  have hTB : TBok (s.setDrawn d) := TBok.same (u := s) (U := s.setDrawn d) rfl (Vm.Alike.refl s.vm) hTB0
  have hK : va_K D vwCl (ty6 cA) (s.setDrawn d) := hK0
  have hown : (s.setDrawn d).vm.findClass RL = some m.cls := hown0
  have hTX : TXok (fun q : Nat => s.heap.size ≤ q) (s.setDrawn d) := hTX0.dr d
  have hX : va_X b L xs (s.setDrawn d) (s.setDrawn d).heap := hX0
  refine lv_aload_n hx hb dL_law_729 rfl (lv_at hl 4 rfl) ?_
  refine lv_aload_n hx hb dL_law_730 rfl (lv_at hl 5 rfl) ?_
  refine lv_iload hx hb dL_law_731 (lv_at hl 0 rfl) ?_
  refine lv_iconst (v := 1) hx hb dL_law_733 (by decide) ?_
  refine lv_iadd hx hb dL_law_734 ?_
  rw [show ((nI (6 * i)) + 1 : Int32) = nI ((6 * i) + 1) from nI_add (6 * i) 1]
  refine va_sld hx hb hX hbl hbA hS (show vp_in (nI ((6 * i) + 1)) L from ki_in (by omega) (by omega)) dL_law_735 ?_
  rw [show xs (nI ((6 * i) + 1)).toNatClampNeg = a1 from (congrArg xs (ki_cl (by omega))).trans ea1.symm]
  refine lv_aload_n hx hb dL_law_736 rfl (lv_at hl 5 rfl) ?_
  refine lv_iload hx hb dL_law_737 (lv_at hl 0 rfl) ?_
  refine lv_iconst (v := 2) hx hb dL_law_739 (by decide) ?_
  refine lv_iadd hx hb dL_law_740 ?_
  rw [show ((nI (6 * i)) + 2 : Int32) = nI ((6 * i) + 2) from nI_add (6 * i) 2]
  refine va_sld hx hb hX hbl hbA hS (show vp_in (nI ((6 * i) + 2)) L from ki_in (by omega) (by omega)) dL_law_741 ?_
  rw [show xs (nI ((6 * i) + 2)).toNatClampNeg = a2 from (congrArg xs (ki_cl (by omega))).trans ea2.symm]
  refine lv_aload_n hx hb dL_law_742 rfl (lv_at hl 2 rfl) ?_
  refine kj_i (pmJ _ _ _ _) (vx_runSW (As := [.ref x, .int a1, .int a2, .ref qo]) (rest := []) ⟨hx, hb, hml, hown, htT⟩ (w_weight l hst D cA _ S x qo fo n na hh cc ar ak h a1 a2) (vx_cwSW 4 htT (kg_SW m_ml_L_168 m_st_L_weight m_in_L m_cd_L_weight) rfl rfl rfl (by decide +kernel) ⟨Nat.le_of_ble_eq_true rfl, Nat.le_of_ble_eq_true rfl⟩) (kj_SX (pmJ _ _ _ _) hK hP hD hTB hTX hS hA) rfl rfl hl.1 rfl (lv_room (Nat.le_of_ble_eq_true rfl)) dL_law_743 ⟨(by show _ ≤ 601024; omega), (by show _ ≤ 7293034; omega)⟩) hP hD hS hA (fun r_1 x_1 H locs hq_1 hP hD hS => ?_)
  rw [List.append_assoc] at hP hD
  obtain ⟨hC_1, hQ_1⟩ := hq_1
  refine lv_istore (lv' := [(6, .int r_1), (5, .int (nI (6 * i))), (4, .ref qd), (3, .ref qo), (2, .ref am), (1, .ref x), (0, .ref b)]) hx hb dL_law_746 hl (by decide) rfl (fun ls hl => ?_)
  refine lv_aload_n hx hb dL_law_748 rfl (lv_at hl 4 rfl) ?_
  refine lv_aload_n hx hb dL_law_749 rfl (lv_at hl 6 rfl) ?_
  refine lv_iload hx hb dL_law_750 (lv_at hl 1 rfl) ?_
  refine lv_iconst (v := 1) hx hb dL_law_752 (by decide) ?_
  refine lv_iadd hx hb dL_law_753 ?_
  rw [show ((nI (6 * i)) + 1 : Int32) = nI ((6 * i) + 1) from nI_add (6 * i) 1]
  refine va_sld hx hb hX hbl hbA hS (show vp_in (nI ((6 * i) + 1)) L from ki_in (by omega) (by omega)) dL_law_754 ?_
  rw [show xs (nI ((6 * i) + 1)).toNatClampNeg = a1 from (congrArg xs (ki_cl (by omega))).trans ea1.symm]
  refine lv_aload_n hx hb dL_law_755 rfl (lv_at hl 6 rfl) ?_
  refine lv_iload hx hb dL_law_756 (lv_at hl 1 rfl) ?_
  refine lv_iconst (v := 2) hx hb dL_law_758 (by decide) ?_
  refine lv_iadd hx hb dL_law_759 ?_
  rw [show ((nI (6 * i)) + 2 : Int32) = nI ((6 * i) + 2) from nI_add (6 * i) 2]
  refine va_sld hx hb hX hbl hbA hS (show vp_in (nI ((6 * i) + 2)) L from ki_in (by omega) (by omega)) dL_law_760 ?_
  rw [show xs (nI ((6 * i) + 2)).toNatClampNeg = a2 from (congrArg xs (ki_cl (by omega))).trans ea2.symm]
  refine kj_i (pmM _ _ _ _) (va_runV (As := [.int a1, .int a2]) (rest := []) ⟨hx, hb, hml, hown, htT⟩ (t_weight l D cA _ am r M n na hI a1 a2) (cwV 2 htT (kg_V m_ml_L_170 m_im_X6_weight m_sl_X6_weight m_in_X6 m_cd_X6_weight) rfl rfl rfl (by decide +kernel) ⟨Nat.le_of_ble_eq_true rfl, Nat.le_of_ble_eq_true rfl⟩) (kj_V (pmM _ _ _ _) hK hP hD hTB (kj_rm (pmM _ _ _ _) hK hP)) rfl rfl hl.1 rfl (lv_room (Nat.le_of_ble_eq_true rfl)) dL_law_761 ⟨(by show _ ≤ 601024; omega), (by show _ ≤ 7293034; omega)⟩) hP hD hS hA (fun r_2 x_2 H locs hq_2 hP hD hS => ?_)
  have hP := kj_P (pmM _ _ _ _).symm hP
  have hD := kj_D (pmM _ _ _ _).symm hD
  obtain ⟨hI_2, hM_2⟩ := hq_2
  have ea_2 := hM_2.2 1 (by decide) (by decide)
  have eb_2 := hM_2.2 2 (by decide) (by decide)
  refine lv_istore (lv' := [(7, .int r_2), (6, .int r_1), (5, .int (nI (6 * i))), (4, .ref qd), (3, .ref qo), (2, .ref am), (1, .ref x), (0, .ref b)]) hx hb dL_law_764 hl (by decide) rfl (fun ls hl => ?_)
  refine lv_goto (tgt := 1750) hx hb dL_law_766 (by decide) ?_
  refine W.widen (k := c0 + 20) (n := s0 + 400) (by omega) (by omega) ?_
  exact hnext _ x_2 _ _ _ _ _ _ _ _ _ _ hd0 hC_1 hI_2 (hL9.qc h hQ_1 hM_2) (hY.of (hM_2.1 14 (by decide) (by decide))) (ea_2.trans e1) (eb_2.trans e2) hP hD hS (lv_sub hl [2, 3, 4, 5, 6, 7] rfl)

set_option maxRecDepth 100000 in
set_option maxHeartbeats 4000000 in
theorem law_share (l : Launch) (hst : l.stackTraces = false) {p : Program} {e : Env} {s : State} {m : MethodId} {below : List Frame} {meth : Method} {c : Code} {b L : Nat} {xs : Nat → Int32} (C0 : lw_At p s m meth c b L xs) {D : va_G} {cA : Nat → ClassId} (hK : va_K D vwCl (ty6 cA) s) (hTB : TBok s) (hTX : TXok (fun q : Nat => s.heap.size ≤ q) s) {x ar ak qo qd am : Nat} {r : Nat → Nat} {c0 s0 i : Nat} (hc0 : c0 + 20 ≤ 601024) (hs0 : s0 + 400 ≤ 7293034) (hi : 6 * i + 6 ≤ L) (hL : L ≤ 3072) (hnext : ∀ (S : Pool) (M : MSt) (fo : Nat → Int64) (fd : Nat → UInt64) (n na : Nat) (hh cc : Int32) (H : Heap) (locs : List Loc) (ls : Array Slot) (d : Drawn), s.drawn.sameBut d lw_cs → INVC n na hh cc S x ar ak → INVR n na M → REL True n na S M ar → LAY n M → M.1 1 = cc → M.1 2 = hh → va_P D vwCl (LW cA S qo fo qd fd am r M) H → va_D (fun q : Nat => s.heap.size ≤ q) (LW cA S qo fo qd fd am r M) → va_S (fun q : Nat => s.heap.size ≤ q) s.heap H locs → lv_has ls 9 [(5, .int (nI (6 * i))), (4, .ref qd), (3, .ref qo), (2, .ref am), (1, .ref x), (0, .ref b)] → W p l e room_1 (s.setDrawn d) m #[Value.ref b] below meth c H locs (c0 + 20) (s0 + 400) (lw_Z below #[Value.ref b] s) (F0 m 1750 ls [])) {S : Pool} {M : MSt} {fo : Nat → Int64} {fd : Nat → UInt64} {n na : Nat} {hh cc : Int32} {H : Heap} {locs : List Loc} {ls : Array Slot} {d : Drawn} (hd0 : s.drawn.sameBut d lw_cs) (h : INVC n na hh cc S x ar ak) (hI : INVR n na M) (hL9 : REL True n na S M ar) (hY : LAY n M) (e1 : M.1 1 = cc) (e2 : M.1 2 = hh) (hP : va_P D vwCl (LW cA S qo fo qd fd am r M) H) (hD : va_D (fun q : Nat => s.heap.size ≤ q) (LW cA S qo fo qd fd am r M)) (hS : va_S (fun q : Nat => s.heap.size ≤ q) s.heap H locs) (hl : lv_has ls 9 [(5, .int (nI (6 * i))), (4, .ref qd), (3, .ref qo), (2, .ref am), (1, .ref x), (0, .ref b)]) : W p l e room_1 (s.setDrawn d) m #[Value.ref b] below meth c H locs c0 s0 (lw_Z below #[Value.ref b] s) (F0 m 769 ls []) := by
  obtain ⟨hx, hb, hr, hml, hown, hts, hX, hbl, hlocks, hgv⟩ := id C0
  have hA : ∀ q : Nat, s.heap.size ≤ q → (fun q : Nat => s.heap.size ≤ q) q := fun _ h => h
  have hbA : ¬ (fun q : Nat => s.heap.size ≤ q) b := Nat.not_le.mpr hbl
  obtain ⟨a1, ea1⟩ : ∃ z, z = xs (6 * i + 1) := ⟨_, rfl⟩
  obtain ⟨a2, ea2⟩ : ∃ z, z = xs (6 * i + 2) := ⟨_, rfl⟩
  obtain ⟨a3, ea3⟩ : ∃ z, z = xs (6 * i + 3) := ⟨_, rfl⟩
  obtain ⟨a4, ea4⟩ : ∃ z, z = xs (6 * i + 4) := ⟨_, rfl⟩
  obtain ⟨a5, ea5⟩ : ∃ z, z = xs (6 * i + 5) := ⟨_, rfl⟩
  have htT0 : ∀ w ∈ TT, w.before _ s = true := fun w h => hts w (tt_in h)
  have hTB0 := hTB
  have hK0 := hK
  have hown0 : s.vm.findClass RL = some m.cls := hown
  have hTX0 := hTX
  have hX0 := hX
  have htT : ∀ w ∈ TT, w.before _ (s.setDrawn d) = true := dr_words htT0 d
  have hTB : TBok (s.setDrawn d) := TBok.same (u := s) (U := s.setDrawn d) rfl (Vm.Alike.refl s.vm) hTB0
  have hK : va_K D vwCl (ty6 cA) (s.setDrawn d) := hK0
  have hown : (s.setDrawn d).vm.findClass RL = some m.cls := hown0
  have hTX : TXok (fun q : Nat => s.heap.size ≤ q) (s.setDrawn d) := hTX0.dr d
  have hX : va_X b L xs (s.setDrawn d) (s.setDrawn d).heap := hX0
  refine lv_aload_n hx hb dL_law_769 rfl (lv_at hl 4 rfl) ?_
  refine lv_aload_n hx hb dL_law_770 rfl (lv_at hl 5 rfl) ?_
  refine lv_iload hx hb dL_law_771 (lv_at hl 0 rfl) ?_
  refine lv_iconst (v := 1) hx hb dL_law_773 (by decide) ?_
  refine lv_iadd hx hb dL_law_774 ?_
  rw [show ((nI (6 * i)) + 1 : Int32) = nI ((6 * i) + 1) from nI_add (6 * i) 1]
  refine va_sld hx hb hX hbl hbA hS (show vp_in (nI ((6 * i) + 1)) L from ki_in (by omega) (by omega)) dL_law_775 ?_
  rw [show xs (nI ((6 * i) + 1)).toNatClampNeg = a1 from (congrArg xs (ki_cl (by omega))).trans ea1.symm]
  refine lv_aload_n hx hb dL_law_776 rfl (lv_at hl 2 rfl) ?_
  refine kj_i (pmJ _ _ _ _) (vx_runSW (As := [.ref x, .int a1, .ref qo]) (rest := []) ⟨hx, hb, hml, hown, htT⟩ (w_share l hst D cA _ S x qo fo n na hh cc ar ak h a1) (vx_cwSW 3 htT (kg_SW m_ml_L_171 m_st_L_share m_in_L m_cd_L_share) rfl rfl rfl (by decide +kernel) ⟨Nat.le_of_ble_eq_true rfl, Nat.le_of_ble_eq_true rfl⟩) (kj_SX (pmJ _ _ _ _) hK hP hD hTB hTX hS hA) rfl rfl hl.1 rfl (lv_room (Nat.le_of_ble_eq_true rfl)) dL_law_777 ⟨(by show _ ≤ 601024; omega), (by show _ ≤ 7293034; omega)⟩) hP hD hS hA (fun r_1 x_1 H locs hq_1 hP hD hS => ?_)
  rw [List.append_assoc] at hP hD
  obtain ⟨hC_1, hQ_1⟩ := hq_1
  refine lv_istore (lv' := [(6, .int r_1), (5, .int (nI (6 * i))), (4, .ref qd), (3, .ref qo), (2, .ref am), (1, .ref x), (0, .ref b)]) hx hb dL_law_780 hl (by decide) rfl (fun ls hl => ?_)
  refine lv_aload_n hx hb dL_law_782 rfl (lv_at hl 4 rfl) ?_
  refine lv_aload_n hx hb dL_law_783 rfl (lv_at hl 6 rfl) ?_
  refine lv_iload hx hb dL_law_784 (lv_at hl 1 rfl) ?_
  refine lv_iconst (v := 1) hx hb dL_law_786 (by decide) ?_
  refine lv_iadd hx hb dL_law_787 ?_
  rw [show ((nI (6 * i)) + 1 : Int32) = nI ((6 * i) + 1) from nI_add (6 * i) 1]
  refine va_sld hx hb hX hbl hbA hS (show vp_in (nI ((6 * i) + 1)) L from ki_in (by omega) (by omega)) dL_law_788 ?_
  rw [show xs (nI ((6 * i) + 1)).toNatClampNeg = a1 from (congrArg xs (ki_cl (by omega))).trans ea1.symm]
  refine kj_i (pmM _ _ _ _) (va_runV (As := [.int a1]) (rest := []) ⟨hx, hb, hml, hown, htT⟩ (t_share l D cA _ am r M n na hI a1) (cwV 1 htT (kg_V m_ml_L_173 m_im_X6_share m_sl_X6_share m_in_X6 m_cd_X6_share) rfl rfl rfl (by decide +kernel) ⟨Nat.le_of_ble_eq_true rfl, Nat.le_of_ble_eq_true rfl⟩) (kj_V (pmM _ _ _ _) hK hP hD hTB (kj_rm (pmM _ _ _ _) hK hP)) rfl rfl hl.1 rfl (lv_room (Nat.le_of_ble_eq_true rfl)) dL_law_789 ⟨(by show _ ≤ 601024; omega), (by show _ ≤ 7293034; omega)⟩) hP hD hS hA (fun r_2 x_2 H locs hq_2 hP hD hS => ?_)
  have hP := kj_P (pmM _ _ _ _).symm hP
  have hD := kj_D (pmM _ _ _ _).symm hD
  obtain ⟨hI_2, hM_2⟩ := hq_2
  have ea_2 := hM_2.2 1 (by decide) (by decide)
  have eb_2 := hM_2.2 2 (by decide) (by decide)
  refine lv_istore (lv' := [(7, .int r_2), (6, .int r_1), (5, .int (nI (6 * i))), (4, .ref qd), (3, .ref qo), (2, .ref am), (1, .ref x), (0, .ref b)]) hx hb dL_law_792 hl (by decide) rfl (fun ls hl => ?_)
  refine lv_goto (tgt := 1750) hx hb dL_law_794 (by decide) ?_
  refine W.widen (k := c0 + 20) (n := s0 + 400) (by omega) (by omega) ?_
  exact hnext _ x_2 _ _ _ _ _ _ _ _ _ _ hd0 hC_1 hI_2 (hL9.qc h hQ_1 hM_2) (hY.of (hM_2.1 14 (by decide) (by decide))) (ea_2.trans e1) (eb_2.trans e2) hP hD hS (lv_sub hl [2, 3, 4, 5, 6, 7] rfl)

set_option maxRecDepth 100000 in
set_option maxHeartbeats 4000000 in
theorem law_left (l : Launch) (hst : l.stackTraces = false) {p : Program} {e : Env} {s : State} {m : MethodId} {below : List Frame} {meth : Method} {c : Code} {b L : Nat} {xs : Nat → Int32} (C0 : lw_At p s m meth c b L xs) {D : va_G} {cA : Nat → ClassId} (hK : va_K D vwCl (ty6 cA) s) (hTB : TBok s) (hTX : TXok (fun q : Nat => s.heap.size ≤ q) s) {x ar ak qo qd am : Nat} {r : Nat → Nat} {c0 s0 i : Nat} (hc0 : c0 + 20 ≤ 601024) (hs0 : s0 + 400 ≤ 7293034) (hi : 6 * i + 6 ≤ L) (hL : L ≤ 3072) (hnext : ∀ (S : Pool) (M : MSt) (fo : Nat → Int64) (fd : Nat → UInt64) (n na : Nat) (hh cc : Int32) (H : Heap) (locs : List Loc) (ls : Array Slot) (d : Drawn), s.drawn.sameBut d lw_cs → INVC n na hh cc S x ar ak → INVR n na M → REL True n na S M ar → LAY n M → M.1 1 = cc → M.1 2 = hh → va_P D vwCl (LW cA S qo fo qd fd am r M) H → va_D (fun q : Nat => s.heap.size ≤ q) (LW cA S qo fo qd fd am r M) → va_S (fun q : Nat => s.heap.size ≤ q) s.heap H locs → lv_has ls 9 [(5, .int (nI (6 * i))), (4, .ref qd), (3, .ref qo), (2, .ref am), (1, .ref x), (0, .ref b)] → W p l e room_1 (s.setDrawn d) m #[Value.ref b] below meth c H locs (c0 + 20) (s0 + 400) (lw_Z below #[Value.ref b] s) (F0 m 1750 ls [])) {S : Pool} {M : MSt} {fo : Nat → Int64} {fd : Nat → UInt64} {n na : Nat} {hh cc : Int32} {H : Heap} {locs : List Loc} {ls : Array Slot} {d : Drawn} (hd0 : s.drawn.sameBut d lw_cs) (h : INVC n na hh cc S x ar ak) (hI : INVR n na M) (hL9 : REL True n na S M ar) (hY : LAY n M) (e1 : M.1 1 = cc) (e2 : M.1 2 = hh) (hP : va_P D vwCl (LW cA S qo fo qd fd am r M) H) (hD : va_D (fun q : Nat => s.heap.size ≤ q) (LW cA S qo fo qd fd am r M)) (hS : va_S (fun q : Nat => s.heap.size ≤ q) s.heap H locs) (hl : lv_has ls 9 [(5, .int (nI (6 * i))), (4, .ref qd), (3, .ref qo), (2, .ref am), (1, .ref x), (0, .ref b)]) : W p l e room_1 (s.setDrawn d) m #[Value.ref b] below meth c H locs c0 s0 (lw_Z below #[Value.ref b] s) (F0 m 797 ls []) := by
  obtain ⟨hx, hb, hr, hml, hown, hts, hX, hbl, hlocks, hgv⟩ := id C0
  have hA : ∀ q : Nat, s.heap.size ≤ q → (fun q : Nat => s.heap.size ≤ q) q := fun _ h => h
  have hbA : ¬ (fun q : Nat => s.heap.size ≤ q) b := Nat.not_le.mpr hbl
  obtain ⟨a1, ea1⟩ : ∃ z, z = xs (6 * i + 1) := ⟨_, rfl⟩
  obtain ⟨a2, ea2⟩ : ∃ z, z = xs (6 * i + 2) := ⟨_, rfl⟩
  obtain ⟨a3, ea3⟩ : ∃ z, z = xs (6 * i + 3) := ⟨_, rfl⟩
  obtain ⟨a4, ea4⟩ : ∃ z, z = xs (6 * i + 4) := ⟨_, rfl⟩
  obtain ⟨a5, ea5⟩ : ∃ z, z = xs (6 * i + 5) := ⟨_, rfl⟩
  have htT0 : ∀ w ∈ TT, w.before _ s = true := fun w h => hts w (tt_in h)
  have hTB0 := hTB
  have hK0 := hK
  have hown0 : s.vm.findClass RL = some m.cls := hown
  have hTX0 := hTX
  have hX0 := hX
  have htT : ∀ w ∈ TT, w.before _ (s.setDrawn d) = true := dr_words htT0 d
  have hTB : TBok (s.setDrawn d) := TBok.same (u := s) (U := s.setDrawn d) rfl (Vm.Alike.refl s.vm) hTB0
  have hK : va_K D vwCl (ty6 cA) (s.setDrawn d) := hK0
  have hown : (s.setDrawn d).vm.findClass RL = some m.cls := hown0
  have hTX : TXok (fun q : Nat => s.heap.size ≤ q) (s.setDrawn d) := hTX0.dr d
  have hX : va_X b L xs (s.setDrawn d) (s.setDrawn d).heap := hX0
  refine lv_aload_n hx hb dL_law_797 rfl (lv_at hl 4 rfl) ?_
  refine lv_aload_n hx hb dL_law_798 rfl (lv_at hl 5 rfl) ?_
  refine lv_iload hx hb dL_law_799 (lv_at hl 0 rfl) ?_
  refine lv_iconst (v := 1) hx hb dL_law_801 (by decide) ?_
  refine lv_iadd hx hb dL_law_802 ?_
  rw [show ((nI (6 * i)) + 1 : Int32) = nI ((6 * i) + 1) from nI_add (6 * i) 1]
  refine va_sld hx hb hX hbl hbA hS (show vp_in (nI ((6 * i) + 1)) L from ki_in (by omega) (by omega)) dL_law_803 ?_
  rw [show xs (nI ((6 * i) + 1)).toNatClampNeg = a1 from (congrArg xs (ki_cl (by omega))).trans ea1.symm]
  refine lv_aload_n hx hb dL_law_804 rfl (lv_at hl 2 rfl) ?_
  refine kj_i (pmJ _ _ _ _) (vx_runSW (As := [.ref x, .int a1, .ref qo]) (rest := []) ⟨hx, hb, hml, hown, htT⟩ (w_left l hst D cA _ S x qo fo n na hh cc ar ak h a1) (vx_cwSW 3 htT (kg_SW m_ml_L_174 m_st_L_left m_in_L m_cd_L_left) rfl rfl rfl (by decide +kernel) ⟨Nat.le_of_ble_eq_true rfl, Nat.le_of_ble_eq_true rfl⟩) (kj_SX (pmJ _ _ _ _) hK hP hD hTB hTX hS hA) rfl rfl hl.1 rfl (lv_room (Nat.le_of_ble_eq_true rfl)) dL_law_805 ⟨(by show _ ≤ 601024; omega), (by show _ ≤ 7293034; omega)⟩) hP hD hS hA (fun r_1 x_1 H locs hq_1 hP hD hS => ?_)
  rw [List.append_assoc] at hP hD
  obtain ⟨hC_1, hQ_1⟩ := hq_1
  refine lv_istore (lv' := [(6, .int r_1), (5, .int (nI (6 * i))), (4, .ref qd), (3, .ref qo), (2, .ref am), (1, .ref x), (0, .ref b)]) hx hb dL_law_808 hl (by decide) rfl (fun ls hl => ?_)
  refine lv_aload_n hx hb dL_law_810 rfl (lv_at hl 4 rfl) ?_
  refine lv_aload_n hx hb dL_law_811 rfl (lv_at hl 6 rfl) ?_
  refine lv_iload hx hb dL_law_812 (lv_at hl 1 rfl) ?_
  refine lv_iconst (v := 1) hx hb dL_law_814 (by decide) ?_
  refine lv_iadd hx hb dL_law_815 ?_
  rw [show ((nI (6 * i)) + 1 : Int32) = nI ((6 * i) + 1) from nI_add (6 * i) 1]
  refine va_sld hx hb hX hbl hbA hS (show vp_in (nI ((6 * i) + 1)) L from ki_in (by omega) (by omega)) dL_law_816 ?_
  rw [show xs (nI ((6 * i) + 1)).toNatClampNeg = a1 from (congrArg xs (ki_cl (by omega))).trans ea1.symm]
  refine kj_i (pmM _ _ _ _) (va_runV (As := [.int a1]) (rest := []) ⟨hx, hb, hml, hown, htT⟩ (t_left l D cA _ am r M n na hI a1) (cwV 1 htT (kg_V m_ml_L_176 m_im_X6_left m_sl_X6_left m_in_X6 m_cd_X6_left) rfl rfl rfl (by decide +kernel) ⟨Nat.le_of_ble_eq_true rfl, Nat.le_of_ble_eq_true rfl⟩) (kj_V (pmM _ _ _ _) hK hP hD hTB (kj_rm (pmM _ _ _ _) hK hP)) rfl rfl hl.1 rfl (lv_room (Nat.le_of_ble_eq_true rfl)) dL_law_817 ⟨(by show _ ≤ 601024; omega), (by show _ ≤ 7293034; omega)⟩) hP hD hS hA (fun r_2 x_2 H locs hq_2 hP hD hS => ?_)
  have hP := kj_P (pmM _ _ _ _).symm hP
  have hD := kj_D (pmM _ _ _ _).symm hD
  obtain ⟨hI_2, hM_2⟩ := hq_2
  have ea_2 := hM_2.2 1 (by decide) (by decide)
  have eb_2 := hM_2.2 2 (by decide) (by decide)
  refine lv_istore (lv' := [(7, .int r_2), (6, .int r_1), (5, .int (nI (6 * i))), (4, .ref qd), (3, .ref qo), (2, .ref am), (1, .ref x), (0, .ref b)]) hx hb dL_law_820 hl (by decide) rfl (fun ls hl => ?_)
  refine lv_goto (tgt := 1750) hx hb dL_law_822 (by decide) ?_
  refine W.widen (k := c0 + 20) (n := s0 + 400) (by omega) (by omega) ?_
  exact hnext _ x_2 _ _ _ _ _ _ _ _ _ _ hd0 hC_1 hI_2 (hL9.qc h hQ_1 hM_2) (hY.of (hM_2.1 14 (by decide) (by decide))) (ea_2.trans e1) (eb_2.trans e2) hP hD hS (lv_sub hl [2, 3, 4, 5, 6, 7] rfl)

set_option maxRecDepth 100000 in
set_option maxHeartbeats 4000000 in
theorem law_bucket (l : Launch) (hst : l.stackTraces = false) {p : Program} {e : Env} {s : State} {m : MethodId} {below : List Frame} {meth : Method} {c : Code} {b L : Nat} {xs : Nat → Int32} (C0 : lw_At p s m meth c b L xs) {D : va_G} {cA : Nat → ClassId} (hK : va_K D vwCl (ty6 cA) s) (hTB : TBok s) (hTX : TXok (fun q : Nat => s.heap.size ≤ q) s) {x ar ak qo qd am : Nat} {r : Nat → Nat} {c0 s0 i : Nat} (hc0 : c0 + 20 ≤ 601024) (hs0 : s0 + 400 ≤ 7293034) (hi : 6 * i + 6 ≤ L) (hL : L ≤ 3072) (hnext : ∀ (S : Pool) (M : MSt) (fo : Nat → Int64) (fd : Nat → UInt64) (n na : Nat) (hh cc : Int32) (H : Heap) (locs : List Loc) (ls : Array Slot) (d : Drawn), s.drawn.sameBut d lw_cs → INVC n na hh cc S x ar ak → INVR n na M → REL True n na S M ar → LAY n M → M.1 1 = cc → M.1 2 = hh → va_P D vwCl (LW cA S qo fo qd fd am r M) H → va_D (fun q : Nat => s.heap.size ≤ q) (LW cA S qo fo qd fd am r M) → va_S (fun q : Nat => s.heap.size ≤ q) s.heap H locs → lv_has ls 9 [(5, .int (nI (6 * i))), (4, .ref qd), (3, .ref qo), (2, .ref am), (1, .ref x), (0, .ref b)] → W p l e room_1 (s.setDrawn d) m #[Value.ref b] below meth c H locs (c0 + 20) (s0 + 400) (lw_Z below #[Value.ref b] s) (F0 m 1750 ls [])) {S : Pool} {M : MSt} {fo : Nat → Int64} {fd : Nat → UInt64} {n na : Nat} {hh cc : Int32} {H : Heap} {locs : List Loc} {ls : Array Slot} {d : Drawn} (hd0 : s.drawn.sameBut d lw_cs) (h : INVC n na hh cc S x ar ak) (hI : INVR n na M) (hL9 : REL True n na S M ar) (hY : LAY n M) (e1 : M.1 1 = cc) (e2 : M.1 2 = hh) (hP : va_P D vwCl (LW cA S qo fo qd fd am r M) H) (hD : va_D (fun q : Nat => s.heap.size ≤ q) (LW cA S qo fo qd fd am r M)) (hS : va_S (fun q : Nat => s.heap.size ≤ q) s.heap H locs) (hl : lv_has ls 9 [(5, .int (nI (6 * i))), (4, .ref qd), (3, .ref qo), (2, .ref am), (1, .ref x), (0, .ref b)]) : W p l e room_1 (s.setDrawn d) m #[Value.ref b] below meth c H locs c0 s0 (lw_Z below #[Value.ref b] s) (F0 m 825 ls []) := by
  obtain ⟨hx, hb, hr, hml, hown, hts, hX, hbl, hlocks, hgv⟩ := id C0
  have hA : ∀ q : Nat, s.heap.size ≤ q → (fun q : Nat => s.heap.size ≤ q) q := fun _ h => h
  have hbA : ¬ (fun q : Nat => s.heap.size ≤ q) b := Nat.not_le.mpr hbl
  obtain ⟨a1, ea1⟩ : ∃ z, z = xs (6 * i + 1) := ⟨_, rfl⟩
  obtain ⟨a2, ea2⟩ : ∃ z, z = xs (6 * i + 2) := ⟨_, rfl⟩
  obtain ⟨a3, ea3⟩ : ∃ z, z = xs (6 * i + 3) := ⟨_, rfl⟩
  obtain ⟨a4, ea4⟩ : ∃ z, z = xs (6 * i + 4) := ⟨_, rfl⟩
  obtain ⟨a5, ea5⟩ : ∃ z, z = xs (6 * i + 5) := ⟨_, rfl⟩
  have htT0 : ∀ w ∈ TT, w.before _ s = true := fun w h => hts w (tt_in h)
  have hTB0 := hTB
  have hK0 := hK
  have hown0 : s.vm.findClass RL = some m.cls := hown
  have hTX0 := hTX
  have hX0 := hX
  have htT : ∀ w ∈ TT, w.before _ (s.setDrawn d) = true := dr_words htT0 d
  have hTB : TBok (s.setDrawn d) := TBok.same (u := s) (U := s.setDrawn d) rfl (Vm.Alike.refl s.vm) hTB0
  have hK : va_K D vwCl (ty6 cA) (s.setDrawn d) := hK0
  have hown : (s.setDrawn d).vm.findClass RL = some m.cls := hown0
  have hTX : TXok (fun q : Nat => s.heap.size ≤ q) (s.setDrawn d) := hTX0.dr d
  have hX : va_X b L xs (s.setDrawn d) (s.setDrawn d).heap := hX0
  refine lv_aload_n hx hb dL_law_825 rfl (lv_at hl 4 rfl) ?_
  refine lv_aload_n hx hb dL_law_826 rfl (lv_at hl 5 rfl) ?_
  refine lv_iload hx hb dL_law_827 (lv_at hl 0 rfl) ?_
  refine lv_iconst (v := 1) hx hb dL_law_829 (by decide) ?_
  refine lv_iadd hx hb dL_law_830 ?_
  rw [show ((nI (6 * i)) + 1 : Int32) = nI ((6 * i) + 1) from nI_add (6 * i) 1]
  refine va_sld hx hb hX hbl hbA hS (show vp_in (nI ((6 * i) + 1)) L from ki_in (by omega) (by omega)) dL_law_831 ?_
  rw [show xs (nI ((6 * i) + 1)).toNatClampNeg = a1 from (congrArg xs (ki_cl (by omega))).trans ea1.symm]
  refine lv_aload_n hx hb dL_law_832 rfl (lv_at hl 5 rfl) ?_
  refine lv_iload hx hb dL_law_833 (lv_at hl 0 rfl) ?_
  refine lv_iconst (v := 2) hx hb dL_law_835 (by decide) ?_
  refine lv_iadd hx hb dL_law_836 ?_
  rw [show ((nI (6 * i)) + 2 : Int32) = nI ((6 * i) + 2) from nI_add (6 * i) 2]
  refine va_sld hx hb hX hbl hbA hS (show vp_in (nI ((6 * i) + 2)) L from ki_in (by omega) (by omega)) dL_law_837 ?_
  rw [show xs (nI ((6 * i) + 2)).toNatClampNeg = a2 from (congrArg xs (ki_cl (by omega))).trans ea2.symm]
  refine lv_aload_n hx hb dL_law_838 rfl (lv_at hl 2 rfl) ?_
  refine kj_i (pmJ _ _ _ _) (vx_runSW (As := [.ref x, .int a1, .int a2, .ref qo]) (rest := []) ⟨hx, hb, hml, hown, htT⟩ (w_bucket l hst D cA _ S x qo fo n na hh cc ar ak h a1 a2) (vx_cwSW 4 htT (kg_SW m_ml_L_177 m_st_L_bucket m_in_L m_cd_L_bucket) rfl rfl rfl (by decide +kernel) ⟨Nat.le_of_ble_eq_true rfl, Nat.le_of_ble_eq_true rfl⟩) (kj_SX (pmJ _ _ _ _) hK hP hD hTB hTX hS hA) rfl rfl hl.1 rfl (lv_room (Nat.le_of_ble_eq_true rfl)) dL_law_839 ⟨(by show _ ≤ 601024; omega), (by show _ ≤ 7293034; omega)⟩) hP hD hS hA (fun r_1 x_1 H locs hq_1 hP hD hS => ?_)
  rw [List.append_assoc] at hP hD
  obtain ⟨hC_1, hQ_1⟩ := hq_1
  refine lv_istore (lv' := [(6, .int r_1), (5, .int (nI (6 * i))), (4, .ref qd), (3, .ref qo), (2, .ref am), (1, .ref x), (0, .ref b)]) hx hb dL_law_842 hl (by decide) rfl (fun ls hl => ?_)
  refine lv_aload_n hx hb dL_law_844 rfl (lv_at hl 4 rfl) ?_
  refine lv_aload_n hx hb dL_law_845 rfl (lv_at hl 6 rfl) ?_
  refine lv_iload hx hb dL_law_846 (lv_at hl 1 rfl) ?_
  refine lv_iconst (v := 1) hx hb dL_law_848 (by decide) ?_
  refine lv_iadd hx hb dL_law_849 ?_
  rw [show ((nI (6 * i)) + 1 : Int32) = nI ((6 * i) + 1) from nI_add (6 * i) 1]
  refine va_sld hx hb hX hbl hbA hS (show vp_in (nI ((6 * i) + 1)) L from ki_in (by omega) (by omega)) dL_law_850 ?_
  rw [show xs (nI ((6 * i) + 1)).toNatClampNeg = a1 from (congrArg xs (ki_cl (by omega))).trans ea1.symm]
  refine lv_aload_n hx hb dL_law_851 rfl (lv_at hl 6 rfl) ?_
  refine lv_iload hx hb dL_law_852 (lv_at hl 1 rfl) ?_
  refine lv_iconst (v := 2) hx hb dL_law_854 (by decide) ?_
  refine lv_iadd hx hb dL_law_855 ?_
  rw [show ((nI (6 * i)) + 2 : Int32) = nI ((6 * i) + 2) from nI_add (6 * i) 2]
  refine va_sld hx hb hX hbl hbA hS (show vp_in (nI ((6 * i) + 2)) L from ki_in (by omega) (by omega)) dL_law_856 ?_
  rw [show xs (nI ((6 * i) + 2)).toNatClampNeg = a2 from (congrArg xs (ki_cl (by omega))).trans ea2.symm]
  refine kj_i (pmM _ _ _ _) (va_runV (As := [.int a1, .int a2]) (rest := []) ⟨hx, hb, hml, hown, htT⟩ (t_bucket l D cA _ am r M n na hI a1 a2) (cwV 2 htT (kg_V m_ml_L_179 m_im_X6_bucket m_sl_X6_bucket m_in_X6 m_cd_X6_bucket) rfl rfl rfl (by decide +kernel) ⟨Nat.le_of_ble_eq_true rfl, Nat.le_of_ble_eq_true rfl⟩) (kj_V (pmM _ _ _ _) hK hP hD hTB (kj_rm (pmM _ _ _ _) hK hP)) rfl rfl hl.1 rfl (lv_room (Nat.le_of_ble_eq_true rfl)) dL_law_857 ⟨(by show _ ≤ 601024; omega), (by show _ ≤ 7293034; omega)⟩) hP hD hS hA (fun r_2 x_2 H locs hq_2 hP hD hS => ?_)
  have hP := kj_P (pmM _ _ _ _).symm hP
  have hD := kj_D (pmM _ _ _ _).symm hD
  obtain ⟨hI_2, hM_2⟩ := hq_2
  have ea_2 := hM_2.2 1 (by decide) (by decide)
  have eb_2 := hM_2.2 2 (by decide) (by decide)
  refine lv_istore (lv' := [(7, .int r_2), (6, .int r_1), (5, .int (nI (6 * i))), (4, .ref qd), (3, .ref qo), (2, .ref am), (1, .ref x), (0, .ref b)]) hx hb dL_law_860 hl (by decide) rfl (fun ls hl => ?_)
  refine lv_goto (tgt := 1750) hx hb dL_law_862 (by decide) ?_
  refine W.widen (k := c0 + 20) (n := s0 + 400) (by omega) (by omega) ?_
  exact hnext _ x_2 _ _ _ _ _ _ _ _ _ _ hd0 hC_1 hI_2 (hL9.qc h hQ_1 hM_2) (hY.of (hM_2.1 14 (by decide) (by decide))) (ea_2.trans e1) (eb_2.trans e2) hP hD hS (lv_sub hl [2, 3, 4, 5, 6, 7] rfl)

set_option maxRecDepth 100000 in
set_option maxHeartbeats 4000000 in
theorem law_gets (l : Launch) (hst : l.stackTraces = false) {p : Program} {e : Env} {s : State} {m : MethodId} {below : List Frame} {meth : Method} {c : Code} {b L : Nat} {xs : Nat → Int32} (C0 : lw_At p s m meth c b L xs) {D : va_G} {cA : Nat → ClassId} (hK : va_K D vwCl (ty6 cA) s) (hTB : TBok s) (hTX : TXok (fun q : Nat => s.heap.size ≤ q) s) {x ar ak qo qd am : Nat} {r : Nat → Nat} {c0 s0 i : Nat} (hc0 : c0 + 20 ≤ 601024) (hs0 : s0 + 400 ≤ 7293034) (hi : 6 * i + 6 ≤ L) (hL : L ≤ 3072) (hnext : ∀ (S : Pool) (M : MSt) (fo : Nat → Int64) (fd : Nat → UInt64) (n na : Nat) (hh cc : Int32) (H : Heap) (locs : List Loc) (ls : Array Slot) (d : Drawn), s.drawn.sameBut d lw_cs → INVC n na hh cc S x ar ak → INVR n na M → REL True n na S M ar → LAY n M → M.1 1 = cc → M.1 2 = hh → va_P D vwCl (LW cA S qo fo qd fd am r M) H → va_D (fun q : Nat => s.heap.size ≤ q) (LW cA S qo fo qd fd am r M) → va_S (fun q : Nat => s.heap.size ≤ q) s.heap H locs → lv_has ls 9 [(5, .int (nI (6 * i))), (4, .ref qd), (3, .ref qo), (2, .ref am), (1, .ref x), (0, .ref b)] → W p l e room_1 (s.setDrawn d) m #[Value.ref b] below meth c H locs (c0 + 20) (s0 + 400) (lw_Z below #[Value.ref b] s) (F0 m 1750 ls [])) {S : Pool} {M : MSt} {fo : Nat → Int64} {fd : Nat → UInt64} {n na : Nat} {hh cc : Int32} {H : Heap} {locs : List Loc} {ls : Array Slot} {d : Drawn} (hd0 : s.drawn.sameBut d lw_cs) (h : INVC n na hh cc S x ar ak) (hI : INVR n na M) (hL9 : REL True n na S M ar) (hY : LAY n M) (e1 : M.1 1 = cc) (e2 : M.1 2 = hh) (hP : va_P D vwCl (LW cA S qo fo qd fd am r M) H) (hD : va_D (fun q : Nat => s.heap.size ≤ q) (LW cA S qo fo qd fd am r M)) (hS : va_S (fun q : Nat => s.heap.size ≤ q) s.heap H locs) (hl : lv_has ls 9 [(5, .int (nI (6 * i))), (4, .ref qd), (3, .ref qo), (2, .ref am), (1, .ref x), (0, .ref b)]) : W p l e room_1 (s.setDrawn d) m #[Value.ref b] below meth c H locs c0 s0 (lw_Z below #[Value.ref b] s) (F0 m 865 ls []) := by
  obtain ⟨hx, hb, hr, hml, hown, hts, hX, hbl, hlocks, hgv⟩ := id C0
  have hA : ∀ q : Nat, s.heap.size ≤ q → (fun q : Nat => s.heap.size ≤ q) q := fun _ h => h
  have hbA : ¬ (fun q : Nat => s.heap.size ≤ q) b := Nat.not_le.mpr hbl
  obtain ⟨a1, ea1⟩ : ∃ z, z = xs (6 * i + 1) := ⟨_, rfl⟩
  obtain ⟨a2, ea2⟩ : ∃ z, z = xs (6 * i + 2) := ⟨_, rfl⟩
  obtain ⟨a3, ea3⟩ : ∃ z, z = xs (6 * i + 3) := ⟨_, rfl⟩
  obtain ⟨a4, ea4⟩ : ∃ z, z = xs (6 * i + 4) := ⟨_, rfl⟩
  obtain ⟨a5, ea5⟩ : ∃ z, z = xs (6 * i + 5) := ⟨_, rfl⟩
  have htT0 : ∀ w ∈ TT, w.before _ s = true := fun w h => hts w (tt_in h)
  have hTB0 := hTB
  have hK0 := hK
  have hown0 : s.vm.findClass RL = some m.cls := hown
  have hTX0 := hTX
  have hX0 := hX
  have htT : ∀ w ∈ TT, w.before _ (s.setDrawn d) = true := dr_words htT0 d
  have hTB : TBok (s.setDrawn d) := TBok.same (u := s) (U := s.setDrawn d) rfl (Vm.Alike.refl s.vm) hTB0
  have hK : va_K D vwCl (ty6 cA) (s.setDrawn d) := hK0
  have hown : (s.setDrawn d).vm.findClass RL = some m.cls := hown0
  have hTX : TXok (fun q : Nat => s.heap.size ≤ q) (s.setDrawn d) := hTX0.dr d
  have hX : va_X b L xs (s.setDrawn d) (s.setDrawn d).heap := hX0
  refine lv_aload_n hx hb dL_law_865 rfl (lv_at hl 4 rfl) ?_
  refine lv_aload_n hx hb dL_law_866 rfl (lv_at hl 5 rfl) ?_
  refine lv_iload hx hb dL_law_867 (lv_at hl 0 rfl) ?_
  refine lv_iconst (v := 1) hx hb dL_law_869 (by decide) ?_
  refine lv_iadd hx hb dL_law_870 ?_
  rw [show ((nI (6 * i)) + 1 : Int32) = nI ((6 * i) + 1) from nI_add (6 * i) 1]
  refine va_sld hx hb hX hbl hbA hS (show vp_in (nI ((6 * i) + 1)) L from ki_in (by omega) (by omega)) dL_law_871 ?_
  rw [show xs (nI ((6 * i) + 1)).toNatClampNeg = a1 from (congrArg xs (ki_cl (by omega))).trans ea1.symm]
  refine lv_aload_n hx hb dL_law_872 rfl (lv_at hl 5 rfl) ?_
  refine lv_iload hx hb dL_law_873 (lv_at hl 0 rfl) ?_
  refine lv_iconst (v := 2) hx hb dL_law_875 (by decide) ?_
  refine lv_iadd hx hb dL_law_876 ?_
  rw [show ((nI (6 * i)) + 2 : Int32) = nI ((6 * i) + 2) from nI_add (6 * i) 2]
  refine va_sld hx hb hX hbl hbA hS (show vp_in (nI ((6 * i) + 2)) L from ki_in (by omega) (by omega)) dL_law_877 ?_
  rw [show xs (nI ((6 * i) + 2)).toNatClampNeg = a2 from (congrArg xs (ki_cl (by omega))).trans ea2.symm]
  refine lv_aload_n hx hb dL_law_878 rfl (lv_at hl 5 rfl) ?_
  refine lv_iload hx hb dL_law_879 (lv_at hl 0 rfl) ?_
  refine lv_iconst (v := 3) hx hb dL_law_881 (by decide) ?_
  refine lv_iadd hx hb dL_law_882 ?_
  rw [show ((nI (6 * i)) + 3 : Int32) = nI ((6 * i) + 3) from nI_add (6 * i) 3]
  refine va_sld hx hb hX hbl hbA hS (show vp_in (nI ((6 * i) + 3)) L from ki_in (by omega) (by omega)) dL_law_883 ?_
  rw [show xs (nI ((6 * i) + 3)).toNatClampNeg = a3 from (congrArg xs (ki_cl (by omega))).trans ea3.symm]
  refine lv_aload_n hx hb dL_law_884 rfl (lv_at hl 5 rfl) ?_
  refine lv_iload hx hb dL_law_885 (lv_at hl 0 rfl) ?_
  refine lv_iconst (v := 4) hx hb dL_law_887 (by decide) ?_
  refine lv_iadd hx hb dL_law_888 ?_
  rw [show ((nI (6 * i)) + 4 : Int32) = nI ((6 * i) + 4) from nI_add (6 * i) 4]
  refine va_sld hx hb hX hbl hbA hS (show vp_in (nI ((6 * i) + 4)) L from ki_in (by omega) (by omega)) dL_law_889 ?_
  rw [show xs (nI ((6 * i) + 4)).toNatClampNeg = a4 from (congrArg xs (ki_cl (by omega))).trans ea4.symm]
  refine lv_aload_n hx hb dL_law_890 rfl (lv_at hl 2 rfl) ?_
  refine kj_i (pmJ _ _ _ _) (vx_runSW (As := [.ref x, .int a1, .int a2, .int a3, .int a4, .ref qo]) (rest := []) ⟨hx, hb, hml, hown, htT⟩ (w_gets l hst D cA _ S x qo fo n na hh cc ar ak h a1 a2 a3 a4) (vx_cwSW 6 htT (kg_SW m_ml_L_180 m_st_L_gets m_in_L m_cd_L_gets) rfl rfl rfl (by decide +kernel) ⟨Nat.le_of_ble_eq_true rfl, Nat.le_of_ble_eq_true rfl⟩) (kj_SX (pmJ _ _ _ _) hK hP hD hTB hTX hS hA) rfl rfl hl.1 rfl (lv_room (Nat.le_of_ble_eq_true rfl)) dL_law_891 ⟨(by show _ ≤ 601024; omega), (by show _ ≤ 7293034; omega)⟩) hP hD hS hA (fun r_1 x_1 H locs hq_1 hP hD hS => ?_)
  rw [List.append_assoc] at hP hD
  obtain ⟨hC_1, hQ_1⟩ := hq_1
  refine lv_istore (lv' := [(6, .int r_1), (5, .int (nI (6 * i))), (4, .ref qd), (3, .ref qo), (2, .ref am), (1, .ref x), (0, .ref b)]) hx hb dL_law_894 hl (by decide) rfl (fun ls hl => ?_)
  refine lv_aload_n hx hb dL_law_896 rfl (lv_at hl 4 rfl) ?_
  refine lv_aload_n hx hb dL_law_897 rfl (lv_at hl 6 rfl) ?_
  refine lv_iload hx hb dL_law_898 (lv_at hl 1 rfl) ?_
  refine lv_iconst (v := 1) hx hb dL_law_900 (by decide) ?_
  refine lv_iadd hx hb dL_law_901 ?_
  rw [show ((nI (6 * i)) + 1 : Int32) = nI ((6 * i) + 1) from nI_add (6 * i) 1]
  refine va_sld hx hb hX hbl hbA hS (show vp_in (nI ((6 * i) + 1)) L from ki_in (by omega) (by omega)) dL_law_902 ?_
  rw [show xs (nI ((6 * i) + 1)).toNatClampNeg = a1 from (congrArg xs (ki_cl (by omega))).trans ea1.symm]
  refine lv_aload_n hx hb dL_law_903 rfl (lv_at hl 6 rfl) ?_
  refine lv_iload hx hb dL_law_904 (lv_at hl 1 rfl) ?_
  refine lv_iconst (v := 2) hx hb dL_law_906 (by decide) ?_
  refine lv_iadd hx hb dL_law_907 ?_
  rw [show ((nI (6 * i)) + 2 : Int32) = nI ((6 * i) + 2) from nI_add (6 * i) 2]
  refine va_sld hx hb hX hbl hbA hS (show vp_in (nI ((6 * i) + 2)) L from ki_in (by omega) (by omega)) dL_law_908 ?_
  rw [show xs (nI ((6 * i) + 2)).toNatClampNeg = a2 from (congrArg xs (ki_cl (by omega))).trans ea2.symm]
  refine lv_aload_n hx hb dL_law_909 rfl (lv_at hl 6 rfl) ?_
  refine lv_iload hx hb dL_law_910 (lv_at hl 1 rfl) ?_
  refine lv_iconst (v := 3) hx hb dL_law_912 (by decide) ?_
  refine lv_iadd hx hb dL_law_913 ?_
  rw [show ((nI (6 * i)) + 3 : Int32) = nI ((6 * i) + 3) from nI_add (6 * i) 3]
  refine va_sld hx hb hX hbl hbA hS (show vp_in (nI ((6 * i) + 3)) L from ki_in (by omega) (by omega)) dL_law_914 ?_
  rw [show xs (nI ((6 * i) + 3)).toNatClampNeg = a3 from (congrArg xs (ki_cl (by omega))).trans ea3.symm]
  refine lv_aload_n hx hb dL_law_915 rfl (lv_at hl 6 rfl) ?_
  refine lv_iload hx hb dL_law_916 (lv_at hl 1 rfl) ?_
  refine lv_iconst (v := 4) hx hb dL_law_918 (by decide) ?_
  refine lv_iadd hx hb dL_law_919 ?_
  rw [show ((nI (6 * i)) + 4 : Int32) = nI ((6 * i) + 4) from nI_add (6 * i) 4]
  refine va_sld hx hb hX hbl hbA hS (show vp_in (nI ((6 * i) + 4)) L from ki_in (by omega) (by omega)) dL_law_920 ?_
  rw [show xs (nI ((6 * i) + 4)).toNatClampNeg = a4 from (congrArg xs (ki_cl (by omega))).trans ea4.symm]
  refine kj_i (pmM _ _ _ _) (va_runV (As := [.int a1, .int a2, .int a3, .int a4]) (rest := []) ⟨hx, hb, hml, hown, htT⟩ (t_gets l D cA _ am r M n na hI a1 a2 a3 a4) (cwV 4 htT (kg_V m_ml_L_182 m_im_X6_gets m_sl_X6_gets m_in_X6 m_cd_X6_gets) rfl rfl rfl (by decide +kernel) ⟨Nat.le_of_ble_eq_true rfl, Nat.le_of_ble_eq_true rfl⟩) (kj_V (pmM _ _ _ _) hK hP hD hTB (kj_rm (pmM _ _ _ _) hK hP)) rfl rfl hl.1 rfl (lv_room (Nat.le_of_ble_eq_true rfl)) dL_law_921 ⟨(by show _ ≤ 601024; omega), (by show _ ≤ 7293034; omega)⟩) hP hD hS hA (fun r_2 x_2 H locs hq_2 hP hD hS => ?_)
  have hP := kj_P (pmM _ _ _ _).symm hP
  have hD := kj_D (pmM _ _ _ _).symm hD
  obtain ⟨hI_2, hM_2⟩ := hq_2
  have ea_2 := hM_2.2 1 (by decide) (by decide)
  have eb_2 := hM_2.2 2 (by decide) (by decide)
  refine lv_istore (lv' := [(7, .int r_2), (6, .int r_1), (5, .int (nI (6 * i))), (4, .ref qd), (3, .ref qo), (2, .ref am), (1, .ref x), (0, .ref b)]) hx hb dL_law_924 hl (by decide) rfl (fun ls hl => ?_)
  refine lv_goto (tgt := 1750) hx hb dL_law_926 (by decide) ?_
  refine W.widen (k := c0 + 20) (n := s0 + 400) (by omega) (by omega) ?_
  exact hnext _ x_2 _ _ _ _ _ _ _ _ _ _ hd0 hC_1 hI_2 (hL9.qc h hQ_1 hM_2) (hY.of (hM_2.1 14 (by decide) (by decide))) (ea_2.trans e1) (eb_2.trans e2) hP hD hS (lv_sub hl [2, 3, 4, 5, 6, 7] rfl)

set_option maxRecDepth 100000 in
set_option maxHeartbeats 4000000 in
theorem law_why (l : Launch) (hst : l.stackTraces = false) {p : Program} {e : Env} {s : State} {m : MethodId} {below : List Frame} {meth : Method} {c : Code} {b L : Nat} {xs : Nat → Int32} (C0 : lw_At p s m meth c b L xs) {D : va_G} {cA : Nat → ClassId} (hK : va_K D vwCl (ty6 cA) s) (hTB : TBok s) (hTX : TXok (fun q : Nat => s.heap.size ≤ q) s) {x ar ak qo qd am : Nat} {r : Nat → Nat} {c0 s0 i : Nat} (hc0 : c0 + 20 ≤ 601024) (hs0 : s0 + 400 ≤ 7293034) (hi : 6 * i + 6 ≤ L) (hL : L ≤ 3072) (hnext : ∀ (S : Pool) (M : MSt) (fo : Nat → Int64) (fd : Nat → UInt64) (n na : Nat) (hh cc : Int32) (H : Heap) (locs : List Loc) (ls : Array Slot) (d : Drawn), s.drawn.sameBut d lw_cs → INVC n na hh cc S x ar ak → INVR n na M → REL True n na S M ar → LAY n M → M.1 1 = cc → M.1 2 = hh → va_P D vwCl (LW cA S qo fo qd fd am r M) H → va_D (fun q : Nat => s.heap.size ≤ q) (LW cA S qo fo qd fd am r M) → va_S (fun q : Nat => s.heap.size ≤ q) s.heap H locs → lv_has ls 9 [(5, .int (nI (6 * i))), (4, .ref qd), (3, .ref qo), (2, .ref am), (1, .ref x), (0, .ref b)] → W p l e room_1 (s.setDrawn d) m #[Value.ref b] below meth c H locs (c0 + 20) (s0 + 400) (lw_Z below #[Value.ref b] s) (F0 m 1750 ls [])) {S : Pool} {M : MSt} {fo : Nat → Int64} {fd : Nat → UInt64} {n na : Nat} {hh cc : Int32} {H : Heap} {locs : List Loc} {ls : Array Slot} {d : Drawn} (hd0 : s.drawn.sameBut d lw_cs) (h : INVC n na hh cc S x ar ak) (hI : INVR n na M) (hL9 : REL True n na S M ar) (hY : LAY n M) (e1 : M.1 1 = cc) (e2 : M.1 2 = hh) (hP : va_P D vwCl (LW cA S qo fo qd fd am r M) H) (hD : va_D (fun q : Nat => s.heap.size ≤ q) (LW cA S qo fo qd fd am r M)) (hS : va_S (fun q : Nat => s.heap.size ≤ q) s.heap H locs) (hl : lv_has ls 9 [(5, .int (nI (6 * i))), (4, .ref qd), (3, .ref qo), (2, .ref am), (1, .ref x), (0, .ref b)]) : W p l e room_1 (s.setDrawn d) m #[Value.ref b] below meth c H locs c0 s0 (lw_Z below #[Value.ref b] s) (F0 m 929 ls []) := by
  obtain ⟨hx, hb, hr, hml, hown, hts, hX, hbl, hlocks, hgv⟩ := id C0
  have hA : ∀ q : Nat, s.heap.size ≤ q → (fun q : Nat => s.heap.size ≤ q) q := fun _ h => h
  have hbA : ¬ (fun q : Nat => s.heap.size ≤ q) b := Nat.not_le.mpr hbl
  obtain ⟨a1, ea1⟩ : ∃ z, z = xs (6 * i + 1) := ⟨_, rfl⟩
  obtain ⟨a2, ea2⟩ : ∃ z, z = xs (6 * i + 2) := ⟨_, rfl⟩
  obtain ⟨a3, ea3⟩ : ∃ z, z = xs (6 * i + 3) := ⟨_, rfl⟩
  obtain ⟨a4, ea4⟩ : ∃ z, z = xs (6 * i + 4) := ⟨_, rfl⟩
  obtain ⟨a5, ea5⟩ : ∃ z, z = xs (6 * i + 5) := ⟨_, rfl⟩
  have htT0 : ∀ w ∈ TT, w.before _ s = true := fun w h => hts w (tt_in h)
  have hTB0 := hTB
  have hK0 := hK
  have hown0 : s.vm.findClass RL = some m.cls := hown
  have hTX0 := hTX
  have hX0 := hX
  have htT : ∀ w ∈ TT, w.before _ (s.setDrawn d) = true := dr_words htT0 d
  have hTB : TBok (s.setDrawn d) := TBok.same (u := s) (U := s.setDrawn d) rfl (Vm.Alike.refl s.vm) hTB0
  have hK : va_K D vwCl (ty6 cA) (s.setDrawn d) := hK0
  have hown : (s.setDrawn d).vm.findClass RL = some m.cls := hown0
  have hTX : TXok (fun q : Nat => s.heap.size ≤ q) (s.setDrawn d) := hTX0.dr d
  have hX : va_X b L xs (s.setDrawn d) (s.setDrawn d).heap := hX0
  refine lv_aload_n hx hb dL_law_929 rfl (lv_at hl 4 rfl) ?_
  refine lv_aload_n hx hb dL_law_930 rfl (lv_at hl 5 rfl) ?_
  refine lv_iload hx hb dL_law_931 (lv_at hl 0 rfl) ?_
  refine lv_iconst (v := 1) hx hb dL_law_933 (by decide) ?_
  refine lv_iadd hx hb dL_law_934 ?_
  rw [show ((nI (6 * i)) + 1 : Int32) = nI ((6 * i) + 1) from nI_add (6 * i) 1]
  refine va_sld hx hb hX hbl hbA hS (show vp_in (nI ((6 * i) + 1)) L from ki_in (by omega) (by omega)) dL_law_935 ?_
  rw [show xs (nI ((6 * i) + 1)).toNatClampNeg = a1 from (congrArg xs (ki_cl (by omega))).trans ea1.symm]
  refine lv_aload_n hx hb dL_law_936 rfl (lv_at hl 5 rfl) ?_
  refine lv_iload hx hb dL_law_937 (lv_at hl 0 rfl) ?_
  refine lv_iconst (v := 2) hx hb dL_law_939 (by decide) ?_
  refine lv_iadd hx hb dL_law_940 ?_
  rw [show ((nI (6 * i)) + 2 : Int32) = nI ((6 * i) + 2) from nI_add (6 * i) 2]
  refine va_sld hx hb hX hbl hbA hS (show vp_in (nI ((6 * i) + 2)) L from ki_in (by omega) (by omega)) dL_law_941 ?_
  rw [show xs (nI ((6 * i) + 2)).toNatClampNeg = a2 from (congrArg xs (ki_cl (by omega))).trans ea2.symm]
  refine lv_aload_n hx hb dL_law_942 rfl (lv_at hl 5 rfl) ?_
  refine lv_iload hx hb dL_law_943 (lv_at hl 0 rfl) ?_
  refine lv_iconst (v := 3) hx hb dL_law_945 (by decide) ?_
  refine lv_iadd hx hb dL_law_946 ?_
  rw [show ((nI (6 * i)) + 3 : Int32) = nI ((6 * i) + 3) from nI_add (6 * i) 3]
  refine va_sld hx hb hX hbl hbA hS (show vp_in (nI ((6 * i) + 3)) L from ki_in (by omega) (by omega)) dL_law_947 ?_
  rw [show xs (nI ((6 * i) + 3)).toNatClampNeg = a3 from (congrArg xs (ki_cl (by omega))).trans ea3.symm]
  refine lv_aload_n hx hb dL_law_948 rfl (lv_at hl 5 rfl) ?_
  refine lv_iload hx hb dL_law_949 (lv_at hl 0 rfl) ?_
  refine lv_iconst (v := 4) hx hb dL_law_951 (by decide) ?_
  refine lv_iadd hx hb dL_law_952 ?_
  rw [show ((nI (6 * i)) + 4 : Int32) = nI ((6 * i) + 4) from nI_add (6 * i) 4]
  refine va_sld hx hb hX hbl hbA hS (show vp_in (nI ((6 * i) + 4)) L from ki_in (by omega) (by omega)) dL_law_953 ?_
  rw [show xs (nI ((6 * i) + 4)).toNatClampNeg = a4 from (congrArg xs (ki_cl (by omega))).trans ea4.symm]
  refine lv_aload_n hx hb dL_law_954 rfl (lv_at hl 2 rfl) ?_
  refine kj_i (pmJ _ _ _ _) (vx_runSW (As := [.ref x, .int a1, .int a2, .int a3, .int a4, .ref qo]) (rest := []) ⟨hx, hb, hml, hown, htT⟩ (wx_why l hst D cA _ S x qo fo n na hh cc ar ak h a1 a2 a3 a4) (vx_cwSW 6 htT (kg_SW m_ml_L_183 m_st_L_why m_in_L m_cd_L_why) rfl rfl rfl (by decide +kernel) ⟨Nat.le_of_ble_eq_true rfl, Nat.le_of_ble_eq_true rfl⟩) (kj_SX (pmJ _ _ _ _) hK hP hD hTB hTX hS hA) rfl rfl hl.1 rfl (lv_room (Nat.le_of_ble_eq_true rfl)) dL_law_955 ⟨(by show _ ≤ 601024; omega), (by show _ ≤ 7293034; omega)⟩) hP hD hS hA (fun r_1 x_1 H locs hq_1 hP hD hS => ?_)
  rw [List.append_assoc] at hP hD
  rcases hq_1 with ⟨er, hk0, eS⟩ | ⟨er, j, a, hjn, ej, hja, hbad, eS⟩ | ⟨er, j, a, hjn, ej, hja, h1, h2, h3, eS, efo⟩
  · rw [er]
    rw [eS] at hP hD
    refine lv_istore (lv' := [(6, .int 1), (5, .int (nI (6 * i))), (4, .ref qd), (3, .ref qo), (2, .ref am), (1, .ref x), (0, .ref b)]) hx hb dL_law_958 hl (by decide) rfl (fun ls hl => ?_)
    refine lv_aload_n hx hb dL_law_960 rfl (lv_at hl 4 rfl) ?_
    refine lv_aload_n hx hb dL_law_961 rfl (lv_at hl 6 rfl) ?_
    refine lv_iload hx hb dL_law_962 (lv_at hl 1 rfl) ?_
    refine lv_iconst (v := 1) hx hb dL_law_964 (by decide) ?_
    refine lv_iadd hx hb dL_law_965 ?_
    rw [show ((nI (6 * i)) + 1 : Int32) = nI ((6 * i) + 1) from nI_add (6 * i) 1]
    refine va_sld hx hb hX hbl hbA hS (show vp_in (nI ((6 * i) + 1)) L from ki_in (by omega) (by omega)) dL_law_966 ?_
    rw [show xs (nI ((6 * i) + 1)).toNatClampNeg = a1 from (congrArg xs (ki_cl (by omega))).trans ea1.symm]
    refine lv_aload_n hx hb dL_law_967 rfl (lv_at hl 6 rfl) ?_
    refine lv_iload hx hb dL_law_968 (lv_at hl 1 rfl) ?_
    refine lv_iconst (v := 2) hx hb dL_law_970 (by decide) ?_
    refine lv_iadd hx hb dL_law_971 ?_
    rw [show ((nI (6 * i)) + 2 : Int32) = nI ((6 * i) + 2) from nI_add (6 * i) 2]
    refine va_sld hx hb hX hbl hbA hS (show vp_in (nI ((6 * i) + 2)) L from ki_in (by omega) (by omega)) dL_law_972 ?_
    rw [show xs (nI ((6 * i) + 2)).toNatClampNeg = a2 from (congrArg xs (ki_cl (by omega))).trans ea2.symm]
    refine lv_aload_n hx hb dL_law_973 rfl (lv_at hl 6 rfl) ?_
    refine lv_iload hx hb dL_law_974 (lv_at hl 1 rfl) ?_
    refine lv_iconst (v := 3) hx hb dL_law_976 (by decide) ?_
    refine lv_iadd hx hb dL_law_977 ?_
    rw [show ((nI (6 * i)) + 3 : Int32) = nI ((6 * i) + 3) from nI_add (6 * i) 3]
    refine va_sld hx hb hX hbl hbA hS (show vp_in (nI ((6 * i) + 3)) L from ki_in (by omega) (by omega)) dL_law_978 ?_
    rw [show xs (nI ((6 * i) + 3)).toNatClampNeg = a3 from (congrArg xs (ki_cl (by omega))).trans ea3.symm]
    refine lv_aload_n hx hb dL_law_979 rfl (lv_at hl 6 rfl) ?_
    refine lv_iload hx hb dL_law_980 (lv_at hl 1 rfl) ?_
    refine lv_iconst (v := 4) hx hb dL_law_982 (by decide) ?_
    refine lv_iadd hx hb dL_law_983 ?_
    rw [show ((nI (6 * i)) + 4 : Int32) = nI ((6 * i) + 4) from nI_add (6 * i) 4]
    refine va_sld hx hb hX hbl hbA hS (show vp_in (nI ((6 * i) + 4)) L from ki_in (by omega) (by omega)) dL_law_984 ?_
    rw [show xs (nI ((6 * i) + 4)).toNatClampNeg = a4 from (congrArg xs (ki_cl (by omega))).trans ea4.symm]
    refine kj_i (pmM _ _ _ _) (va_runV (As := [.int a1, .int a2, .int a3, .int a4]) (rest := []) ⟨hx, hb, hml, hown, htT⟩ (m_why_0 l D cA _ am r M a1 a2 a3 a4 (by rw [hI.h3]; exact hk0)) (cwV 4 htT (kg_V m_ml_L_185 m_im_X6_why m_sl_X6_why m_in_X6 m_cd_X6_why) rfl rfl rfl (by decide +kernel) ⟨Nat.le_of_ble_eq_true rfl, Nat.le_of_ble_eq_true rfl⟩) (kj_V (pmM _ _ _ _) hK hP hD hTB (kj_rm (pmM _ _ _ _) hK hP)) rfl rfl hl.1 rfl (lv_room (Nat.le_of_ble_eq_true rfl)) dL_law_985 ⟨(by show _ ≤ 601024; omega), (by show _ ≤ 7293034; omega)⟩) hP hD hS hA (fun r_2 x_2 H locs hq_2 hP hD hS => ?_)
    have hP := kj_P (pmM _ _ _ _).symm hP
    have hD := kj_D (pmM _ _ _ _).symm hD
    rw [hq_2.1]
    rw [hq_2.2] at hP hD
    refine lv_istore (lv' := [(7, .int 0), (6, .int 1), (5, .int (nI (6 * i))), (4, .ref qd), (3, .ref qo), (2, .ref am), (1, .ref x), (0, .ref b)]) hx hb dL_law_988 hl (by decide) rfl (fun ls hl => ?_)
    refine lv_aload_n hx hb dL_law_990 rfl (lv_at hl 5 rfl) ?_
    refine kj_i (pmM _ _ _ _) (va_runV (As := []) (rest := []) ⟨hx, hb, hml, hown, htT⟩ (m_thrown l D cA _ am r (mS M 0 1) ) (cwV 0 htT (kg_V m_ml_L_186 m_im_X6_thrown m_sl_X6_thrown m_in_X6 m_cd_X6_thrown) rfl rfl rfl (by decide +kernel) ⟨Nat.le_of_ble_eq_true rfl, Nat.le_of_ble_eq_true rfl⟩) (kj_V (pmM _ _ _ _) hK hP hD hTB (kj_rm (pmM _ _ _ _) hK hP)) rfl rfl hl.1 rfl (lv_room (Nat.le_of_ble_eq_true rfl)) dL_law_991 ⟨(by show _ ≤ 601024; omega), (by show _ ≤ 7293034; omega)⟩) hP hD hS hA (fun r_3 x_3 H locs hq_3 hP hD hS => ?_)
    have hP := kj_P (pmM _ _ _ _).symm hP
    have hD := kj_D (pmM _ _ _ _).symm hD
    rw [hq_3.2] at hP hD
    rw [hq_3.1.trans (show (mS M 0 1).1 0 = 1 from rfl)]
    refine lv_iload hx hb dL_law_994 (lv_at hl 1 rfl) ?_
    refine lv_icmp_eq (tgt := 1001) hx hb dL_law_996 (by decide) (fun _ => ?_) (fun c_4 => absurd c_4 (by decide))
    refine lv_iload hx hb dL_law_1001 (lv_at hl 1 rfl) ?_
    refine lv_if_ne (tgt := 1018) hx hb dL_law_1003 (by decide) (fun _ => ?_) (fun c_5 => absurd c_5 (by decide))
    refine lv_goto (tgt := 1750) hx hb dL_law_1018 (by decide) ?_
    refine W.widen (k := c0 + 20) (n := s0 + 400) (by omega) (by omega) ?_
    exact hnext _ (mS M 0 1) _ _ _ _ _ _ _ _ _ _ hd0 h (hI.iS (by decide) (by decide)) (hL9.m eqM.rf.s0) (hY.of rfl) (e1) (e2) hP hD hS (lv_sub hl [2, 3, 4, 5, 6, 7] rfl)
  · rw [er]
    rw [eS] at hP hD
    refine lv_istore (lv' := [(6, .int 2), (5, .int (nI (6 * i))), (4, .ref qd), (3, .ref qo), (2, .ref am), (1, .ref x), (0, .ref b)]) hx hb dL_law_958 hl (by decide) rfl (fun ls hl => ?_)
    refine lv_aload_n hx hb dL_law_960 rfl (lv_at hl 4 rfl) ?_
    refine lv_aload_n hx hb dL_law_961 rfl (lv_at hl 6 rfl) ?_
    refine lv_iload hx hb dL_law_962 (lv_at hl 1 rfl) ?_
    refine lv_iconst (v := 1) hx hb dL_law_964 (by decide) ?_
    refine lv_iadd hx hb dL_law_965 ?_
    rw [show ((nI (6 * i)) + 1 : Int32) = nI ((6 * i) + 1) from nI_add (6 * i) 1]
    refine va_sld hx hb hX hbl hbA hS (show vp_in (nI ((6 * i) + 1)) L from ki_in (by omega) (by omega)) dL_law_966 ?_
    rw [show xs (nI ((6 * i) + 1)).toNatClampNeg = a1 from (congrArg xs (ki_cl (by omega))).trans ea1.symm]
    refine lv_aload_n hx hb dL_law_967 rfl (lv_at hl 6 rfl) ?_
    refine lv_iload hx hb dL_law_968 (lv_at hl 1 rfl) ?_
    refine lv_iconst (v := 2) hx hb dL_law_970 (by decide) ?_
    refine lv_iadd hx hb dL_law_971 ?_
    rw [show ((nI (6 * i)) + 2 : Int32) = nI ((6 * i) + 2) from nI_add (6 * i) 2]
    refine va_sld hx hb hX hbl hbA hS (show vp_in (nI ((6 * i) + 2)) L from ki_in (by omega) (by omega)) dL_law_972 ?_
    rw [show xs (nI ((6 * i) + 2)).toNatClampNeg = a2 from (congrArg xs (ki_cl (by omega))).trans ea2.symm]
    refine lv_aload_n hx hb dL_law_973 rfl (lv_at hl 6 rfl) ?_
    refine lv_iload hx hb dL_law_974 (lv_at hl 1 rfl) ?_
    refine lv_iconst (v := 3) hx hb dL_law_976 (by decide) ?_
    refine lv_iadd hx hb dL_law_977 ?_
    rw [show ((nI (6 * i)) + 3 : Int32) = nI ((6 * i) + 3) from nI_add (6 * i) 3]
    refine va_sld hx hb hX hbl hbA hS (show vp_in (nI ((6 * i) + 3)) L from ki_in (by omega) (by omega)) dL_law_978 ?_
    rw [show xs (nI ((6 * i) + 3)).toNatClampNeg = a3 from (congrArg xs (ki_cl (by omega))).trans ea3.symm]
    refine lv_aload_n hx hb dL_law_979 rfl (lv_at hl 6 rfl) ?_
    refine lv_iload hx hb dL_law_980 (lv_at hl 1 rfl) ?_
    refine lv_iconst (v := 4) hx hb dL_law_982 (by decide) ?_
    refine lv_iadd hx hb dL_law_983 ?_
    rw [show ((nI (6 * i)) + 4 : Int32) = nI ((6 * i) + 4) from nI_add (6 * i) 4]
    refine va_sld hx hb hX hbl hbA hS (show vp_in (nI ((6 * i) + 4)) L from ki_in (by omega) (by omega)) dL_law_984 ?_
    rw [show xs (nI ((6 * i) + 4)).toNatClampNeg = a4 from (congrArg xs (ki_cl (by omega))).trans ea4.symm]
    rw [ej]
    refine kj_i (pmM _ _ _ _) (va_runV (As := [.int (nI j), .int a2, .int a3, .int a4]) (rest := []) ⟨hx, hb, hml, hown, htT⟩ (m_why_1 l D cA _ am r M n j hjn hI.n8 hI.h3 a2 a3 a4 (qAsk_0 hbad)) (cwV 4 htT (kg_V m_ml_L_185 m_im_X6_why m_sl_X6_why m_in_X6 m_cd_X6_why) rfl rfl rfl (by decide +kernel) ⟨Nat.le_of_ble_eq_true rfl, Nat.le_of_ble_eq_true rfl⟩) (kj_V (pmM _ _ _ _) hK hP hD hTB (kj_rm (pmM _ _ _ _) hK hP)) rfl rfl hl.1 rfl (lv_room (Nat.le_of_ble_eq_true rfl)) dL_law_985 ⟨(by show _ ≤ 601024; omega), (by show _ ≤ 7293034; omega)⟩) hP hD hS hA (fun r_6 x_6 H locs hq_6 hP hD hS => ?_)
    have hP := kj_P (pmM _ _ _ _).symm hP
    have hD := kj_D (pmM _ _ _ _).symm hD
    rw [hq_6.1]
    rw [hq_6.2] at hP hD
    refine lv_istore (lv' := [(7, .int 0), (6, .int 2), (5, .int (nI (6 * i))), (4, .ref qd), (3, .ref qo), (2, .ref am), (1, .ref x), (0, .ref b)]) hx hb dL_law_988 hl (by decide) rfl (fun ls hl => ?_)
    refine lv_aload_n hx hb dL_law_990 rfl (lv_at hl 5 rfl) ?_
    refine kj_i (pmM _ _ _ _) (va_runV (As := []) (rest := []) ⟨hx, hb, hml, hown, htT⟩ (m_thrown l D cA _ am r (mS M 0 2) ) (cwV 0 htT (kg_V m_ml_L_186 m_im_X6_thrown m_sl_X6_thrown m_in_X6 m_cd_X6_thrown) rfl rfl rfl (by decide +kernel) ⟨Nat.le_of_ble_eq_true rfl, Nat.le_of_ble_eq_true rfl⟩) (kj_V (pmM _ _ _ _) hK hP hD hTB (kj_rm (pmM _ _ _ _) hK hP)) rfl rfl hl.1 rfl (lv_room (Nat.le_of_ble_eq_true rfl)) dL_law_991 ⟨(by show _ ≤ 601024; omega), (by show _ ≤ 7293034; omega)⟩) hP hD hS hA (fun r_7 x_7 H locs hq_7 hP hD hS => ?_)
    have hP := kj_P (pmM _ _ _ _).symm hP
    have hD := kj_D (pmM _ _ _ _).symm hD
    rw [hq_7.2] at hP hD
    rw [hq_7.1.trans (show (mS M 0 2).1 0 = 2 from rfl)]
    refine lv_iload hx hb dL_law_994 (lv_at hl 1 rfl) ?_
    refine lv_icmp_eq (tgt := 1001) hx hb dL_law_996 (by decide) (fun _ => ?_) (fun c_8 => absurd c_8 (by decide))
    refine lv_iload hx hb dL_law_1001 (lv_at hl 1 rfl) ?_
    refine lv_if_ne (tgt := 1018) hx hb dL_law_1003 (by decide) (fun _ => ?_) (fun c_9 => absurd c_9 (by decide))
    refine lv_goto (tgt := 1750) hx hb dL_law_1018 (by decide) ?_
    refine W.widen (k := c0 + 20) (n := s0 + 400) (by omega) (by omega) ?_
    exact hnext _ (mS M 0 2) _ _ _ _ _ _ _ _ _ _ hd0 h (hI.iS (by decide) (by decide)) (hL9.m eqM.rf.s0) (hY.of rfl) (e1) (e2) hP hD hS (lv_sub hl [2, 3, 4, 5, 6, 7] rfl)
  · rw [er]
    obtain ⟨ru, hok⟩ := id hI.1
    have hqk := qAsk_1 h1 h2 h3
    obtain ⟨uu, huu, eu⟩ := qAsk_u hqk
    have geq := gets_bec hL9 h hok hY e1 e2 huu eu hjn hja (f := a3) (g := a4)
    rw [geq.1] at efo
    rw [eS] at hP hD
    rw [efo] at hP hD
    refine lv_istore (lv' := [(6, .int 0), (5, .int (nI (6 * i))), (4, .ref qd), (3, .ref qo), (2, .ref am), (1, .ref x), (0, .ref b)]) hx hb dL_law_958 hl (by decide) rfl (fun ls hl => ?_)
    refine lv_aload_n hx hb dL_law_960 rfl (lv_at hl 4 rfl) ?_
    refine lv_aload_n hx hb dL_law_961 rfl (lv_at hl 6 rfl) ?_
    refine lv_iload hx hb dL_law_962 (lv_at hl 1 rfl) ?_
    refine lv_iconst (v := 1) hx hb dL_law_964 (by decide) ?_
    refine lv_iadd hx hb dL_law_965 ?_
    rw [show ((nI (6 * i)) + 1 : Int32) = nI ((6 * i) + 1) from nI_add (6 * i) 1]
    refine va_sld hx hb hX hbl hbA hS (show vp_in (nI ((6 * i) + 1)) L from ki_in (by omega) (by omega)) dL_law_966 ?_
    rw [show xs (nI ((6 * i) + 1)).toNatClampNeg = a1 from (congrArg xs (ki_cl (by omega))).trans ea1.symm]
    refine lv_aload_n hx hb dL_law_967 rfl (lv_at hl 6 rfl) ?_
    refine lv_iload hx hb dL_law_968 (lv_at hl 1 rfl) ?_
    refine lv_iconst (v := 2) hx hb dL_law_970 (by decide) ?_
    refine lv_iadd hx hb dL_law_971 ?_
    rw [show ((nI (6 * i)) + 2 : Int32) = nI ((6 * i) + 2) from nI_add (6 * i) 2]
    refine va_sld hx hb hX hbl hbA hS (show vp_in (nI ((6 * i) + 2)) L from ki_in (by omega) (by omega)) dL_law_972 ?_
    rw [show xs (nI ((6 * i) + 2)).toNatClampNeg = a2 from (congrArg xs (ki_cl (by omega))).trans ea2.symm]
    refine lv_aload_n hx hb dL_law_973 rfl (lv_at hl 6 rfl) ?_
    refine lv_iload hx hb dL_law_974 (lv_at hl 1 rfl) ?_
    refine lv_iconst (v := 3) hx hb dL_law_976 (by decide) ?_
    refine lv_iadd hx hb dL_law_977 ?_
    rw [show ((nI (6 * i)) + 3 : Int32) = nI ((6 * i) + 3) from nI_add (6 * i) 3]
    refine va_sld hx hb hX hbl hbA hS (show vp_in (nI ((6 * i) + 3)) L from ki_in (by omega) (by omega)) dL_law_978 ?_
    rw [show xs (nI ((6 * i) + 3)).toNatClampNeg = a3 from (congrArg xs (ki_cl (by omega))).trans ea3.symm]
    refine lv_aload_n hx hb dL_law_979 rfl (lv_at hl 6 rfl) ?_
    refine lv_iload hx hb dL_law_980 (lv_at hl 1 rfl) ?_
    refine lv_iconst (v := 4) hx hb dL_law_982 (by decide) ?_
    refine lv_iadd hx hb dL_law_983 ?_
    rw [show ((nI (6 * i)) + 4 : Int32) = nI ((6 * i) + 4) from nI_add (6 * i) 4]
    refine va_sld hx hb hX hbl hbA hS (show vp_in (nI ((6 * i) + 4)) L from ki_in (by omega) (by omega)) dL_law_984 ?_
    rw [show xs (nI ((6 * i) + 4)).toNatClampNeg = a4 from (congrArg xs (ki_cl (by omega))).trans ea4.symm]
    rw [ej]
    rw [eu]
    refine kj_i (pmM _ _ _ _) (va_runV (As := [.int (nI j), .int (nI uu), .int a3, .int a4]) (rest := []) ⟨hx, hb, hml, hown, htT⟩ (m_why l D cA _ am r M n j hjn hI.n8 hI.h3 na ru hok uu a3 a4 huu (by rw [← eu]; exact hqk)) (cwV 4 htT (kg_V m_ml_L_185 m_im_X6_why m_sl_X6_why m_in_X6 m_cd_X6_why) rfl rfl rfl (by decide +kernel) ⟨Nat.le_of_ble_eq_true rfl, Nat.le_of_ble_eq_true rfl⟩) (kj_V (pmM _ _ _ _) hK hP hD hTB (kj_rm (pmM _ _ _ _) hK hP)) rfl rfl hl.1 rfl (lv_room (Nat.le_of_ble_eq_true rfl)) dL_law_985 ⟨(by show _ ≤ 601024; omega), (by show _ ≤ 7293034; omega)⟩) hP hD hS hA (fun r_10 x_10 H locs hq_10 hP hD hS => ?_)
    have hP := kj_P (pmM _ _ _ _).symm hP
    have hD := kj_D (pmM _ _ _ _).symm hD
    rw [hq_10.1]
    rw [hq_10.2] at hP hD
    refine lv_istore (lv' := [(7, .int ((rG M.2 (M.1 2) (M.2 11) (fun k => rFar M.2 k (M.1 1)) (nI uu) a3 a4 na ru 8 j).2)), (6, .int 0), (5, .int (nI (6 * i))), (4, .ref qd), (3, .ref qo), (2, .ref am), (1, .ref x), (0, .ref b)]) hx hb dL_law_988 hl (by decide) rfl (fun ls hl => ?_)
    refine lv_aload_n hx hb dL_law_990 rfl (lv_at hl 5 rfl) ?_
    refine kj_i (pmM _ _ _ _) (va_runV (As := []) (rest := []) ⟨hx, hb, hml, hown, htT⟩ (m_thrown l D cA _ am r (mS (mS M 0 0) 28 (rG M.2 (M.1 2) (M.2 11) (fun k => rFar M.2 k (M.1 1)) (nI uu) a3 a4 na ru 8 j).2) ) (cwV 0 htT (kg_V m_ml_L_186 m_im_X6_thrown m_sl_X6_thrown m_in_X6 m_cd_X6_thrown) rfl rfl rfl (by decide +kernel) ⟨Nat.le_of_ble_eq_true rfl, Nat.le_of_ble_eq_true rfl⟩) (kj_V (pmM _ _ _ _) hK hP hD hTB (kj_rm (pmM _ _ _ _) hK hP)) rfl rfl hl.1 rfl (lv_room (Nat.le_of_ble_eq_true rfl)) dL_law_991 ⟨(by show _ ≤ 601024; omega), (by show _ ≤ 7293034; omega)⟩) hP hD hS hA (fun r_11 x_11 H locs hq_11 hP hD hS => ?_)
    have hP := kj_P (pmM _ _ _ _).symm hP
    have hD := kj_D (pmM _ _ _ _).symm hD
    rw [hq_11.2] at hP hD
    rw [hq_11.1.trans (show (mS (mS M 0 0) 28 (rG M.2 (M.1 2) (M.2 11) (fun k => rFar M.2 k (M.1 1)) (nI uu) a3 a4 na ru 8 j).2).1 0 = 0 from rfl)]
    refine lv_iload hx hb dL_law_994 (lv_at hl 1 rfl) ?_
    refine lv_icmp_eq (tgt := 1001) hx hb dL_law_996 (by decide) (fun _ => ?_) (fun c_12 => absurd c_12 (by decide))
    refine lv_iload hx hb dL_law_1001 (lv_at hl 1 rfl) ?_
    refine lv_if_ne (tgt := 1018) hx hb dL_law_1003 (by decide) (fun c_13 => absurd c_13 (by decide)) (fun _ => ?_)
    refine lv_aload_n hx hb dL_law_1006 rfl (lv_at hl 4 rfl) ?_
    refine lv_iconst (v := 0) hx hb dL_law_1007 (by decide) ?_
    refine kw_lald (v := (rG M.2 (M.1 2) (M.2 11) (fun k => rFar M.2 k (M.1 1)) (nI uu) a3 a4 na ru 8 j).2.toInt64) hx hb hK hP rfl dL_law_1008 ?_
    refine lv_iload hx hb dL_law_1009 (lv_at hl 0 rfl) ?_
    refine lv_i2l (v := ((rG M.2 (M.1 2) (M.2 11) (fun k => rFar M.2 k (M.1 1)) (nI uu) a3 a4 na ru 8 j).2).toInt64) hx hb dL_law_1011 rfl ?_
    refine W.lcmp hx hb dL_law_1012 ?_
    refine lv_if_eq (tgt := 1018) hx hb dL_law_1013 (by decide) (fun c_14 => ?_) (fun c_14 => ?_)
    · refine lv_goto (tgt := 1750) hx hb dL_law_1018 (by decide) ?_
      refine W.widen (k := c0 + 20) (n := s0 + 400) (by omega) (by omega) ?_
      exact hnext _ (mS (mS M 0 0) 28 (rG M.2 (M.1 2) (M.2 11) (fun k => rFar M.2 k (M.1 1)) (nI uu) a3 a4 na ru 8 j).2) _ _ _ _ _ _ _ _ _ _ hd0 (h.eA (eqA.bec (u := a2) (f := a3) (g := a4))) (INVR.iS (INVR.iS hI (k := 0) (v := 0) (by decide) (by decide)) (by decide) (by decide)) (hL9.qc h ((eqA.bec (S := S) (ak := ak) (u := a2) (f := a3) (g := a4)).qc h.kk) eqM.rf.s0.s28) (hY.of rfl) (e1) (e2) hP hD hS (lv_sub hl [2, 3, 4, 5, 6, 7] rfl)
    · exact absurd (lg_self _) c_14

