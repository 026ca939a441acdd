set_option maxRecDepth 100000 in
set_option maxHeartbeats 4000000 in
theorem law_holds (l : Launch) (hst : l.stackTraces = false) {p : Program} {e : Env} {s : State} {m : MethodId} {below : List Frame} {meth : Method} {c : Code} {b L : Nat} {xs : Nat → Int32} (C0 : lw_At p s m meth c b L xs) {D : va_G} {cA : Nat → ClassId} (hK : va_K D vwCl (ty6 cA) s) (hTB : TBok s) (hTX : TXok (fun q : Nat => s.heap.size ≤ q) s) {x ar ak qo qd am : Nat} {r : Nat → Nat} {c0 s0 i : Nat} (hc0 : c0 + 20 ≤ 601024) (hs0 : s0 + 400 ≤ 7293034) (hi : 6 * i + 6 ≤ L) (hL : L ≤ 3072) (hnext : ∀ (S : Pool) (M : MSt) (fo : Nat → Int64) (fd : Nat → UInt64) (n na nm : Nat) (hh cc : Int32) (H : Heap) (locs : List Loc) (ls : Array Slot) (d : Drawn), s.drawn.sameBut d lw_cs → INVC n na hh cc S x ar ak → INVR n nm M → REL False n 0 S M ar → M.1 1 = cc → M.1 2 = hh → va_P D vwCl (LW cA S qo fo qd fd am r M) H → va_D (fun q : Nat => s.heap.size ≤ q) (LW cA S qo fo qd fd am r M) → va_S (fun q : Nat => s.heap.size ≤ q) s.heap H locs → lv_has ls 9 [(5, .int (nI (6 * i))), (4, .ref qd), (3, .ref qo), (2, .ref am), (1, .ref x), (0, .ref b)] → W p l e room_1 (s.setDrawn d) m #[Value.ref b] below meth c H locs (c0 + 20) (s0 + 400) (lw_Z below #[Value.ref b] s) (F0 m 1757 ls [])) {S : Pool} {M : MSt} {fo : Nat → Int64} {fd : Nat → UInt64} {n na nm : Nat} {hh cc : Int32} {H : Heap} {locs : List Loc} {ls : Array Slot} {d : Drawn} (hd0 : s.drawn.sameBut d lw_cs) (h : INVC n na hh cc S x ar ak) (hI : INVR n nm M) (hL9 : REL False n 0 S M ar) (e1 : M.1 1 = cc) (e2 : M.1 2 = hh) (hP : va_P D vwCl (LW cA S qo fo qd fd am r M) H) (hD : va_D (fun q : Nat => s.heap.size ≤ q) (LW cA S qo fo qd fd am r M)) (hS : va_S (fun q : Nat => s.heap.size ≤ q) s.heap H locs) (hl : lv_has ls 9 [(5, .int (nI (6 * i))), (4, .ref qd), (3, .ref qo), (2, .ref am), (1, .ref x), (0, .ref b)]) : W p l e room_1 (s.setDrawn d) m #[Value.ref b] below meth c H locs c0 s0 (lw_Z below #[Value.ref b] s) (F0 m 1028 ls []) := by
  obtain ⟨hx, hb, hr, hml, hown, hts, hX, hbl, hlocks, hgv⟩ := id C0
  have hA : ∀ q : Nat, s.heap.size ≤ q → (fun q : Nat => s.heap.size ≤ q) q := fun _ h => h
  have hbA : ¬ (fun q : Nat => s.heap.size ≤ q) b := Nat.not_le.mpr hbl
  obtain ⟨a1, ea1⟩ : ∃ z, z = xs (6 * i + 1) := ⟨_, rfl⟩
  obtain ⟨a2, ea2⟩ : ∃ z, z = xs (6 * i + 2) := ⟨_, rfl⟩
  obtain ⟨a3, ea3⟩ : ∃ z, z = xs (6 * i + 3) := ⟨_, rfl⟩
  obtain ⟨a4, ea4⟩ : ∃ z, z = xs (6 * i + 4) := ⟨_, rfl⟩
  obtain ⟨a5, ea5⟩ : ∃ z, z = xs (6 * i + 5) := ⟨_, rfl⟩
  have htT0 : ∀ w ∈ TT, w.before _ s = true := fun w h => hts w (tt_in h)
  have hTB0 := hTB
  have hK0 := hK
  have hown0 : s.vm.findClass RL = some m.cls := hown
  have hTX0 := hTX
  have hX0 := hX
  have htT : ∀ w ∈ TT, w.before _ (s.setDrawn d) = true := dr_words htT0 d
  have hTB : TBok (s.setDrawn d) := TBok.same (u := s) (U := s.setDrawn d) rfl (Vm.Alike.refl s.vm) hTB0
  have hK : va_K D vwCl (ty6 cA) (s.setDrawn d) := hK0
  have hown : (s.setDrawn d).vm.findClass RL = some m.cls := hown0
  have hTX : TXok (fun q : Nat => s.heap.size ≤ q) (s.setDrawn d) := hTX0.dr d
  have hX : va_X b L xs (s.setDrawn d) (s.setDrawn d).heap := hX0
  refine lv_aload_n hx hb dL_law_1028 rfl (lv_at hl 4 rfl) ?_
  refine lv_aload_n hx hb dL_law_1029 rfl (lv_at hl 5 rfl) ?_
  refine lv_iload hx hb dL_law_1030 (lv_at hl 0 rfl) ?_
  refine lv_iconst (v := 1) hx hb dL_law_1032 (by decide) ?_
  refine lv_iadd hx hb dL_law_1033 ?_
  rw [show ((nI (6 * i)) + 1 : Int32) = nI ((6 * i) + 1) from nI_add (6 * i) 1]
  refine va_sld hx hb hX hbl hbA hS (show vp_in (nI ((6 * i) + 1)) L from ki_in (by omega) (by omega)) dL_law_1034 ?_
  rw [show xs (nI ((6 * i) + 1)).toNatClampNeg = a1 from (congrArg xs (ki_cl (by omega))).trans ea1.symm]
  refine lv_aload_n hx hb dL_law_1035 rfl (lv_at hl 5 rfl) ?_
  refine lv_iload hx hb dL_law_1036 (lv_at hl 0 rfl) ?_
  refine lv_iconst (v := 2) hx hb dL_law_1038 (by decide) ?_
  refine lv_iadd hx hb dL_law_1039 ?_
  rw [show ((nI (6 * i)) + 2 : Int32) = nI ((6 * i) + 2) from nI_add (6 * i) 2]
  refine va_sld hx hb hX hbl hbA hS (show vp_in (nI ((6 * i) + 2)) L from ki_in (by omega) (by omega)) dL_law_1040 ?_
  rw [show xs (nI ((6 * i) + 2)).toNatClampNeg = a2 from (congrArg xs (ki_cl (by omega))).trans ea2.symm]
  refine lv_aload_n hx hb dL_law_1041 rfl (lv_at hl 5 rfl) ?_
  refine lv_iload hx hb dL_law_1042 (lv_at hl 0 rfl) ?_
  refine lv_iconst (v := 3) hx hb dL_law_1044 (by decide) ?_
  refine lv_iadd hx hb dL_law_1045 ?_
  rw [show ((nI (6 * i)) + 3 : Int32) = nI ((6 * i) + 3) from nI_add (6 * i) 3]
  refine va_sld hx hb hX hbl hbA hS (show vp_in (nI ((6 * i) + 3)) L from ki_in (by omega) (by omega)) dL_law_1046 ?_
  rw [show xs (nI ((6 * i) + 3)).toNatClampNeg = a3 from (congrArg xs (ki_cl (by omega))).trans ea3.symm]
  refine lv_aload_n hx hb dL_law_1047 rfl (lv_at hl 5 rfl) ?_
  refine lv_iload hx hb dL_law_1048 (lv_at hl 0 rfl) ?_
  refine lv_iconst (v := 4) hx hb dL_law_1050 (by decide) ?_
  refine lv_iadd hx hb dL_law_1051 ?_
  rw [show ((nI (6 * i)) + 4 : Int32) = nI ((6 * i) + 4) from nI_add (6 * i) 4]
  refine va_sld hx hb hX hbl hbA hS (show vp_in (nI ((6 * i) + 4)) L from ki_in (by omega) (by omega)) dL_law_1052 ?_
  rw [show xs (nI ((6 * i) + 4)).toNatClampNeg = a4 from (congrArg xs (ki_cl (by omega))).trans ea4.symm]
  refine lv_aload_n hx hb dL_law_1053 rfl (lv_at hl 2 rfl) ?_
  refine kj_i (pmJ _ _ _ _) (vx_runSW (As := [.ref x, .int a1, .int a2, .int a3, .int a4, .ref qo]) (rest := []) ⟨hx, hb, hml, hown, htT⟩ (w_holds l hst D cA _ S x qo fo n na hh cc ar ak h a1 a2 a3 a4) (vx_cwSW 6 htT (kg_SW m_ml_L_189 m_st_L_holds m_in_L m_cd_L_holds) rfl rfl rfl (by decide +kernel) ⟨Nat.le_of_ble_eq_true rfl, Nat.le_of_ble_eq_true rfl⟩) (kj_SX (pmJ _ _ _ _) hK hP hD hTB hTX hS hA) rfl rfl hl.1 rfl (lv_room (Nat.le_of_ble_eq_true rfl)) dL_law_1054 ⟨(by show _ ≤ 601024; omega), (by show _ ≤ 7293034; omega)⟩) hP hD hS hA (fun r_1 x_1 H locs hq_1 hP hD hS => ?_)
  rw [List.append_assoc] at hP hD
  obtain ⟨hC_1, hQ_1⟩ := hq_1
  refine lv_istore (lv' := [(6, .int r_1), (5, .int (nI (6 * i))), (4, .ref qd), (3, .ref qo), (2, .ref am), (1, .ref x), (0, .ref b)]) hx hb dL_law_1057 hl (by decide) rfl (fun ls hl => ?_)
  refine lv_aload_n hx hb dL_law_1059 rfl (lv_at hl 4 rfl) ?_
  refine lv_aload_n hx hb dL_law_1060 rfl (lv_at hl 6 rfl) ?_
  refine lv_iload hx hb dL_law_1061 (lv_at hl 1 rfl) ?_
  refine lv_iconst (v := 1) hx hb dL_law_1063 (by decide) ?_
  refine lv_iadd hx hb dL_law_1064 ?_
  rw [show ((nI (6 * i)) + 1 : Int32) = nI ((6 * i) + 1) from nI_add (6 * i) 1]
  refine va_sld hx hb hX hbl hbA hS (show vp_in (nI ((6 * i) + 1)) L from ki_in (by omega) (by omega)) dL_law_1065 ?_
  rw [show xs (nI ((6 * i) + 1)).toNatClampNeg = a1 from (congrArg xs (ki_cl (by omega))).trans ea1.symm]
  refine lv_aload_n hx hb dL_law_1066 rfl (lv_at hl 6 rfl) ?_
  refine lv_iload hx hb dL_law_1067 (lv_at hl 1 rfl) ?_
  refine lv_iconst (v := 2) hx hb dL_law_1069 (by decide) ?_
  refine lv_iadd hx hb dL_law_1070 ?_
  rw [show ((nI (6 * i)) + 2 : Int32) = nI ((6 * i) + 2) from nI_add (6 * i) 2]
  refine va_sld hx hb hX hbl hbA hS (show vp_in (nI ((6 * i) + 2)) L from ki_in (by omega) (by omega)) dL_law_1071 ?_
  rw [show xs (nI ((6 * i) + 2)).toNatClampNeg = a2 from (congrArg xs (ki_cl (by omega))).trans ea2.symm]
  refine lv_aload_n hx hb dL_law_1072 rfl (lv_at hl 6 rfl) ?_
  refine lv_iload hx hb dL_law_1073 (lv_at hl 1 rfl) ?_
  refine lv_iconst (v := 3) hx hb dL_law_1075 (by decide) ?_
  refine lv_iadd hx hb dL_law_1076 ?_
  rw [show ((nI (6 * i)) + 3 : Int32) = nI ((6 * i) + 3) from nI_add (6 * i) 3]
  refine va_sld hx hb hX hbl hbA hS (show vp_in (nI ((6 * i) + 3)) L from ki_in (by omega) (by omega)) dL_law_1077 ?_
  rw [show xs (nI ((6 * i) + 3)).toNatClampNeg = a3 from (congrArg xs (ki_cl (by omega))).trans ea3.symm]
  refine lv_aload_n hx hb dL_law_1078 rfl (lv_at hl 6 rfl) ?_
  refine lv_iload hx hb dL_law_1079 (lv_at hl 1 rfl) ?_
  refine lv_iconst (v := 4) hx hb dL_law_1081 (by decide) ?_
  refine lv_iadd hx hb dL_law_1082 ?_
  rw [show ((nI (6 * i)) + 4 : Int32) = nI ((6 * i) + 4) from nI_add (6 * i) 4]
  refine va_sld hx hb hX hbl hbA hS (show vp_in (nI ((6 * i) + 4)) L from ki_in (by omega) (by omega)) dL_law_1083 ?_
  rw [show xs (nI ((6 * i) + 4)).toNatClampNeg = a4 from (congrArg xs (ki_cl (by omega))).trans ea4.symm]
  refine kj_i (pmM _ _ _ _) (va_runV (As := [.int a1, .int a2, .int a3, .int a4]) (rest := []) ⟨hx, hb, hml, hown, htT⟩ (t_holds l D cA _ am r M n nm hI a1 a2 a3 a4) (cwV 4 htT (kg_V m_ml_L_191 m_im_X6_holds m_sl_X6_holds m_in_X6 m_cd_X6_holds) rfl rfl rfl (by decide +kernel) ⟨Nat.le_of_ble_eq_true rfl, Nat.le_of_ble_eq_true rfl⟩) (kj_V (pmM _ _ _ _) hK hP hD hTB (kj_rm (pmM _ _ _ _) hK hP)) rfl rfl hl.1 rfl (lv_room (Nat.le_of_ble_eq_true rfl)) dL_law_1084 ⟨(by show _ ≤ 601024; omega), (by show _ ≤ 7293034; omega)⟩) hP hD hS hA (fun r_2 x_2 H locs hq_2 hP hD hS => ?_)
  have hP := kj_P (pmM _ _ _ _).symm hP
  have hD := kj_D (pmM _ _ _ _).symm hD
  obtain ⟨hI_2, hM_2⟩ := hq_2
  have ea_2 := hM_2.2 1 (by decide) (by decide)
  have eb_2 := hM_2.2 2 (by decide) (by decide)
  refine lv_istore (lv' := [(7, .int r_2), (6, .int r_1), (5, .int (nI (6 * i))), (4, .ref qd), (3, .ref qo), (2, .ref am), (1, .ref x), (0, .ref b)]) hx hb dL_law_1087 hl (by decide) rfl (fun ls hl => ?_)
  refine lv_goto (tgt := 1757) hx hb dL_law_1089 (by decide) ?_
  refine W.widen (k := c0 + 20) (n := s0 + 400) (by omega) (by omega) ?_
  exact hnext _ x_2 _ _ _ _ _ _ _ _ _ _ _ hd0 hC_1 hI_2 (hL9.qc h hQ_1 hM_2) (ea_2.trans e1) (eb_2.trans e2) hP hD hS (lv_sub hl [2, 3, 4, 5, 6, 7] rfl)

set_option maxRecDepth 100000 in
set_option maxHeartbeats 4000000 in
theorem law_ask (l : Launch) (hst : l.stackTraces = false) {p : Program} {e : Env} {s : State} {m : MethodId} {below : List Frame} {meth : Method} {c : Code} {b L : Nat} {xs : Nat → Int32} (C0 : lw_At p s m meth c b L xs) {D : va_G} {cA : Nat → ClassId} (hK : va_K D vwCl (ty6 cA) s) (hTB : TBok s) (hTX : TXok (fun q : Nat => s.heap.size ≤ q) s) {x ar ak qo qd am : Nat} {r : Nat → Nat} {c0 s0 i : Nat} (hc0 : c0 + 20 ≤ 601024) (hs0 : s0 + 400 ≤ 7293034) (hi : 6 * i + 6 ≤ L) (hL : L ≤ 3072) (hnext : ∀ (S : Pool) (M : MSt) (fo : Nat → Int64) (fd : Nat → UInt64) (n na nm : Nat) (hh cc : Int32) (H : Heap) (locs : List Loc) (ls : Array Slot) (d : Drawn), s.drawn.sameBut d lw_cs → INVC n na hh cc S x ar ak → INVR n nm M → REL False n 0 S M ar → M.1 1 = cc → M.1 2 = hh → va_P D vwCl (LW cA S qo fo qd fd am r M) H → va_D (fun q : Nat => s.heap.size ≤ q) (LW cA S qo fo qd fd am r M) → va_S (fun q : Nat => s.heap.size ≤ q) s.heap H locs → lv_has ls 9 [(5, .int (nI (6 * i))), (4, .ref qd), (3, .ref qo), (2, .ref am), (1, .ref x), (0, .ref b)] → W p l e room_1 (s.setDrawn d) m #[Value.ref b] below meth c H locs (c0 + 20) (s0 + 400) (lw_Z below #[Value.ref b] s) (F0 m 1757 ls [])) {S : Pool} {M : MSt} {fo : Nat → Int64} {fd : Nat → UInt64} {n na nm : Nat} {hh cc : Int32} {H : Heap} {locs : List Loc} {ls : Array Slot} {d : Drawn} (hd0 : s.drawn.sameBut d lw_cs) (h : INVC n na hh cc S x ar ak) (hI : INVR n nm M) (hL9 : REL False n 0 S M ar) (e1 : M.1 1 = cc) (e2 : M.1 2 = hh) (hP : va_P D vwCl (LW cA S qo fo qd fd am r M) H) (hD : va_D (fun q : Nat => s.heap.size ≤ q) (LW cA S qo fo qd fd am r M)) (hS : va_S (fun q : Nat => s.heap.size ≤ q) s.heap H locs) (hl : lv_has ls 9 [(5, .int (nI (6 * i))), (4, .ref qd), (3, .ref qo), (2, .ref am), (1, .ref x), (0, .ref b)]) : W p l e room_1 (s.setDrawn d) m #[Value.ref b] below meth c H locs c0 s0 (lw_Z below #[Value.ref b] s) (F0 m 1092 ls []) := by
  obtain ⟨hx, hb, hr, hml, hown, hts, hX, hbl, hlocks, hgv⟩ := id C0
  have hA : ∀ q : Nat, s.heap.size ≤ q → (fun q : Nat => s.heap.size ≤ q) q := fun _ h => h
  have hbA : ¬ (fun q : Nat => s.heap.size ≤ q) b := Nat.not_le.mpr hbl
  obtain ⟨a1, ea1⟩ : ∃ z, z = xs (6 * i + 1) := ⟨_, rfl⟩
  obtain ⟨a2, ea2⟩ : ∃ z, z = xs (6 * i + 2) := ⟨_, rfl⟩
  obtain ⟨a3, ea3⟩ : ∃ z, z = xs (6 * i + 3) := ⟨_, rfl⟩
  obtain ⟨a4, ea4⟩ : ∃ z, z = xs (6 * i + 4) := ⟨_, rfl⟩
  obtain ⟨a5, ea5⟩ : ∃ z, z = xs (6 * i + 5) := ⟨_, rfl⟩
  have htT0 : ∀ w ∈ TT, w.before _ s = true := fun w h => hts w (tt_in h)
  have hTB0 := hTB
  have hK0 := hK
  have hown0 : s.vm.findClass RL = some m.cls := hown
  have hTX0 := hTX
  have hX0 := hX
  have htT : ∀ w ∈ TT, w.before _ (s.setDrawn d) = true := dr_words htT0 d
  have hTB : TBok (s.setDrawn d) := TBok.same (u := s) (U := s.setDrawn d) rfl (Vm.Alike.refl s.vm) hTB0
  have hK : va_K D vwCl (ty6 cA) (s.setDrawn d) := hK0
  have hown : (s.setDrawn d).vm.findClass RL = some m.cls := hown0
  have hTX : TXok (fun q : Nat => s.heap.size ≤ q) (s.setDrawn d) := hTX0.dr d
  have hX : va_X b L xs (s.setDrawn d) (s.setDrawn d).heap := hX0
  refine lv_aload_n hx hb dL_law_1092 rfl (lv_at hl 4 rfl) ?_
  refine lv_aload_n hx hb dL_law_1093 rfl (lv_at hl 5 rfl) ?_
  refine lv_iload hx hb dL_law_1094 (lv_at hl 0 rfl) ?_
  refine lv_iconst (v := 1) hx hb dL_law_1096 (by decide) ?_
  refine lv_iadd hx hb dL_law_1097 ?_
  rw [show ((nI (6 * i)) + 1 : Int32) = nI ((6 * i) + 1) from nI_add (6 * i) 1]
  refine va_sld hx hb hX hbl hbA hS (show vp_in (nI ((6 * i) + 1)) L from ki_in (by omega) (by omega)) dL_law_1098 ?_
  rw [show xs (nI ((6 * i) + 1)).toNatClampNeg = a1 from (congrArg xs (ki_cl (by omega))).trans ea1.symm]
  refine lv_aload_n hx hb dL_law_1099 rfl (lv_at hl 5 rfl) ?_
  refine lv_iload hx hb dL_law_1100 (lv_at hl 0 rfl) ?_
  refine lv_iconst (v := 2) hx hb dL_law_1102 (by decide) ?_
  refine lv_iadd hx hb dL_law_1103 ?_
  rw [show ((nI (6 * i)) + 2 : Int32) = nI ((6 * i) + 2) from nI_add (6 * i) 2]
  refine va_sld hx hb hX hbl hbA hS (show vp_in (nI ((6 * i) + 2)) L from ki_in (by omega) (by omega)) dL_law_1104 ?_
  rw [show xs (nI ((6 * i) + 2)).toNatClampNeg = a2 from (congrArg xs (ki_cl (by omega))).trans ea2.symm]
  refine lv_aload_n hx hb dL_law_1105 rfl (lv_at hl 5 rfl) ?_
  refine lv_iload hx hb dL_law_1106 (lv_at hl 0 rfl) ?_
  refine lv_iconst (v := 3) hx hb dL_law_1108 (by decide) ?_
  refine lv_iadd hx hb dL_law_1109 ?_
  rw [show ((nI (6 * i)) + 3 : Int32) = nI ((6 * i) + 3) from nI_add (6 * i) 3]
  refine va_sld hx hb hX hbl hbA hS (show vp_in (nI ((6 * i) + 3)) L from ki_in (by omega) (by omega)) dL_law_1110 ?_
  rw [show xs (nI ((6 * i) + 3)).toNatClampNeg = a3 from (congrArg xs (ki_cl (by omega))).trans ea3.symm]
  refine lv_aload_n hx hb dL_law_1111 rfl (lv_at hl 5 rfl) ?_
  refine lv_iload hx hb dL_law_1112 (lv_at hl 0 rfl) ?_
  refine lv_iconst (v := 4) hx hb dL_law_1114 (by decide) ?_
  refine lv_iadd hx hb dL_law_1115 ?_
  rw [show ((nI (6 * i)) + 4 : Int32) = nI ((6 * i) + 4) from nI_add (6 * i) 4]
  refine va_sld hx hb hX hbl hbA hS (show vp_in (nI ((6 * i) + 4)) L from ki_in (by omega) (by omega)) dL_law_1116 ?_
  rw [show xs (nI ((6 * i) + 4)).toNatClampNeg = a4 from (congrArg xs (ki_cl (by omega))).trans ea4.symm]
  refine lv_aload_n hx hb dL_law_1117 rfl (lv_at hl 2 rfl) ?_
  refine kj_i (pmJ _ _ _ _) (vx_runSW (As := [.ref x, .int a1, .int a2, .int a3, .int a4, .ref qo]) (rest := []) ⟨hx, hb, hml, hown, htT⟩ (w_ask l hst D cA _ S x qo fo n na hh cc ar ak h a1 a2 a3 a4) (vx_cwSW 6 htT (kg_SW m_ml_L_192 m_st_L_ask m_in_L m_cd_L_ask) rfl rfl rfl (by decide +kernel) ⟨Nat.le_of_ble_eq_true rfl, Nat.le_of_ble_eq_true rfl⟩) (kj_SX (pmJ _ _ _ _) hK hP hD hTB hTX hS hA) rfl rfl hl.1 rfl (lv_room (Nat.le_of_ble_eq_true rfl)) dL_law_1118 ⟨(by show _ ≤ 601024; omega), (by show _ ≤ 7293034; omega)⟩) hP hD hS hA (fun r_1 x_1 H locs hq_1 hP hD hS => ?_)
  rw [List.append_assoc] at hP hD
  rcases hq_1 with ⟨er, hk0, eS⟩ | ⟨er, j, a, hjn, ej, hja, hbad, eS⟩ | ⟨er, j, a, hjn, ej, hja, h1, h2, h3, hno, eS, efo⟩ | ⟨er, j, a, v, q, ty, t9, hjn, ej, hja, h1, h2, h3, hyes, hv4, hvn, hq, e6, e60, eS, efo⟩
  · rw [er]
    rw [eS] at hP hD
    refine lv_istore (lv' := [(6, .int 1), (5, .int (nI (6 * i))), (4, .ref qd), (3, .ref qo), (2, .ref am), (1, .ref x), (0, .ref b)]) hx hb dL_law_1121 hl (by decide) rfl (fun ls hl => ?_)
    refine lv_aload_n hx hb dL_law_1123 rfl (lv_at hl 4 rfl) ?_
    refine lv_aload_n hx hb dL_law_1124 rfl (lv_at hl 6 rfl) ?_
    refine lv_iload hx hb dL_law_1125 (lv_at hl 1 rfl) ?_
    refine lv_iconst (v := 1) hx hb dL_law_1127 (by decide) ?_
    refine lv_iadd hx hb dL_law_1128 ?_
    rw [show ((nI (6 * i)) + 1 : Int32) = nI ((6 * i) + 1) from nI_add (6 * i) 1]
    refine va_sld hx hb hX hbl hbA hS (show vp_in (nI ((6 * i) + 1)) L from ki_in (by omega) (by omega)) dL_law_1129 ?_
    rw [show xs (nI ((6 * i) + 1)).toNatClampNeg = a1 from (congrArg xs (ki_cl (by omega))).trans ea1.symm]
    refine lv_aload_n hx hb dL_law_1130 rfl (lv_at hl 6 rfl) ?_
    refine lv_iload hx hb dL_law_1131 (lv_at hl 1 rfl) ?_
    refine lv_iconst (v := 2) hx hb dL_law_1133 (by decide) ?_
    refine lv_iadd hx hb dL_law_1134 ?_
    rw [show ((nI (6 * i)) + 2 : Int32) = nI ((6 * i) + 2) from nI_add (6 * i) 2]
    refine va_sld hx hb hX hbl hbA hS (show vp_in (nI ((6 * i) + 2)) L from ki_in (by omega) (by omega)) dL_law_1135 ?_
    rw [show xs (nI ((6 * i) + 2)).toNatClampNeg = a2 from (congrArg xs (ki_cl (by omega))).trans ea2.symm]
    refine lv_aload_n hx hb dL_law_1136 rfl (lv_at hl 6 rfl) ?_
    refine lv_iload hx hb dL_law_1137 (lv_at hl 1 rfl) ?_
    refine lv_iconst (v := 3) hx hb dL_law_1139 (by decide) ?_
    refine lv_iadd hx hb dL_law_1140 ?_
    rw [show ((nI (6 * i)) + 3 : Int32) = nI ((6 * i) + 3) from nI_add (6 * i) 3]
    refine va_sld hx hb hX hbl hbA hS (show vp_in (nI ((6 * i) + 3)) L from ki_in (by omega) (by omega)) dL_law_1141 ?_
    rw [show xs (nI ((6 * i) + 3)).toNatClampNeg = a3 from (congrArg xs (ki_cl (by omega))).trans ea3.symm]
    refine lv_aload_n hx hb dL_law_1142 rfl (lv_at hl 6 rfl) ?_
    refine lv_iload hx hb dL_law_1143 (lv_at hl 1 rfl) ?_
    refine lv_iconst (v := 4) hx hb dL_law_1145 (by decide) ?_
    refine lv_iadd hx hb dL_law_1146 ?_
    rw [show ((nI (6 * i)) + 4 : Int32) = nI ((6 * i) + 4) from nI_add (6 * i) 4]
    refine va_sld hx hb hX hbl hbA hS (show vp_in (nI ((6 * i) + 4)) L from ki_in (by omega) (by omega)) dL_law_1147 ?_
    rw [show xs (nI ((6 * i) + 4)).toNatClampNeg = a4 from (congrArg xs (ki_cl (by omega))).trans ea4.symm]
    refine kj_i (pmM _ _ _ _) (va_runV (As := [.int a1, .int a2, .int a3, .int a4]) (rest := []) ⟨hx, hb, hml, hown, htT⟩ (t_ask l D cA _ am r M n nm hI a1 a2 a3 a4) (cwV 4 htT (kg_V m_ml_L_194 m_im_X6_ask m_sl_X6_ask m_in_X6 m_cd_X6_ask) rfl rfl rfl (by decide +kernel) ⟨Nat.le_of_ble_eq_true rfl, Nat.le_of_ble_eq_true rfl⟩) (kj_V (pmM _ _ _ _) hK hP hD hTB (kj_rm (pmM _ _ _ _) hK hP)) rfl rfl hl.1 rfl (lv_room (Nat.le_of_ble_eq_true rfl)) dL_law_1148 ⟨(by show _ ≤ 601024; omega), (by show _ ≤ 7293034; omega)⟩) hP hD hS hA (fun r_2 x_2 H locs hq_2 hP hD hS => ?_)
    have hP := kj_P (pmM _ _ _ _).symm hP
    have hD := kj_D (pmM _ _ _ _).symm hD
    obtain ⟨nm_2, hI_2, hr_2, ea_2, eb_2⟩ := hq_2
    refine lv_istore (lv' := [(7, .int r_2), (6, .int 1), (5, .int (nI (6 * i))), (4, .ref qd), (3, .ref qo), (2, .ref am), (1, .ref x), (0, .ref b)]) hx hb dL_law_1151 hl (by decide) rfl (fun ls hl => ?_)
    refine lv_goto (tgt := 1757) hx hb dL_law_1153 (by decide) ?_
    refine W.widen (k := c0 + 20) (n := s0 + 400) (by omega) (by omega) ?_
    exact hnext _ x_2 _ _ _ _ _ _ _ _ _ _ _ hd0 h hI_2 (hL9.rowsF hr_2) (ea_2.trans e1) (eb_2.trans e2) hP hD hS (lv_sub hl [2, 3, 4, 5, 6, 7] rfl)
  · rw [er]
    rw [eS] at hP hD
    refine lv_istore (lv' := [(6, .int 2), (5, .int (nI (6 * i))), (4, .ref qd), (3, .ref qo), (2, .ref am), (1, .ref x), (0, .ref b)]) hx hb dL_law_1121 hl (by decide) rfl (fun ls hl => ?_)
    refine lv_aload_n hx hb dL_law_1123 rfl (lv_at hl 4 rfl) ?_
    refine lv_aload_n hx hb dL_law_1124 rfl (lv_at hl 6 rfl) ?_
    refine lv_iload hx hb dL_law_1125 (lv_at hl 1 rfl) ?_
    refine lv_iconst (v := 1) hx hb dL_law_1127 (by decide) ?_
    refine lv_iadd hx hb dL_law_1128 ?_
    rw [show ((nI (6 * i)) + 1 : Int32) = nI ((6 * i) + 1) from nI_add (6 * i) 1]
    refine va_sld hx hb hX hbl hbA hS (show vp_in (nI ((6 * i) + 1)) L from ki_in (by omega) (by omega)) dL_law_1129 ?_
    rw [show xs (nI ((6 * i) + 1)).toNatClampNeg = a1 from (congrArg xs (ki_cl (by omega))).trans ea1.symm]
    refine lv_aload_n hx hb dL_law_1130 rfl (lv_at hl 6 rfl) ?_
    refine lv_iload hx hb dL_law_1131 (lv_at hl 1 rfl) ?_
    refine lv_iconst (v := 2) hx hb dL_law_1133 (by decide) ?_
    refine lv_iadd hx hb dL_law_1134 ?_
    rw [show ((nI (6 * i)) + 2 : Int32) = nI ((6 * i) + 2) from nI_add (6 * i) 2]
    refine va_sld hx hb hX hbl hbA hS (show vp_in (nI ((6 * i) + 2)) L from ki_in (by omega) (by omega)) dL_law_1135 ?_
    rw [show xs (nI ((6 * i) + 2)).toNatClampNeg = a2 from (congrArg xs (ki_cl (by omega))).trans ea2.symm]
    refine lv_aload_n hx hb dL_law_1136 rfl (lv_at hl 6 rfl) ?_
    refine lv_iload hx hb dL_law_1137 (lv_at hl 1 rfl) ?_
    refine lv_iconst (v := 3) hx hb dL_law_1139 (by decide) ?_
    refine lv_iadd hx hb dL_law_1140 ?_
    rw [show ((nI (6 * i)) + 3 : Int32) = nI ((6 * i) + 3) from nI_add (6 * i) 3]
    refine va_sld hx hb hX hbl hbA hS (show vp_in (nI ((6 * i) + 3)) L from ki_in (by omega) (by omega)) dL_law_1141 ?_
    rw [show xs (nI ((6 * i) + 3)).toNatClampNeg = a3 from (congrArg xs (ki_cl (by omega))).trans ea3.symm]
    refine lv_aload_n hx hb dL_law_1142 rfl (lv_at hl 6 rfl) ?_
    refine lv_iload hx hb dL_law_1143 (lv_at hl 1 rfl) ?_
    refine lv_iconst (v := 4) hx hb dL_law_1145 (by decide) ?_
    refine lv_iadd hx hb dL_law_1146 ?_
    rw [show ((nI (6 * i)) + 4 : Int32) = nI ((6 * i) + 4) from nI_add (6 * i) 4]
    refine va_sld hx hb hX hbl hbA hS (show vp_in (nI ((6 * i) + 4)) L from ki_in (by omega) (by omega)) dL_law_1147 ?_
    rw [show xs (nI ((6 * i) + 4)).toNatClampNeg = a4 from (congrArg xs (ki_cl (by omega))).trans ea4.symm]
    refine kj_i (pmM _ _ _ _) (va_runV (As := [.int a1, .int a2, .int a3, .int a4]) (rest := []) ⟨hx, hb, hml, hown, htT⟩ (t_ask l D cA _ am r M n nm hI a1 a2 a3 a4) (cwV 4 htT (kg_V m_ml_L_194 m_im_X6_ask m_sl_X6_ask m_in_X6 m_cd_X6_ask) rfl rfl rfl (by decide +kernel) ⟨Nat.le_of_ble_eq_true rfl, Nat.le_of_ble_eq_true rfl⟩) (kj_V (pmM _ _ _ _) hK hP hD hTB (kj_rm (pmM _ _ _ _) hK hP)) rfl rfl hl.1 rfl (lv_room (Nat.le_of_ble_eq_true rfl)) dL_law_1148 ⟨(by show _ ≤ 601024; omega), (by show _ ≤ 7293034; omega)⟩) hP hD hS hA (fun r_3 x_3 H locs hq_3 hP hD hS => ?_)
    have hP := kj_P (pmM _ _ _ _).symm hP
    have hD := kj_D (pmM _ _ _ _).symm hD
    obtain ⟨nm_3, hI_3, hr_3, ea_3, eb_3⟩ := hq_3
    refine lv_istore (lv' := [(7, .int r_3), (6, .int 2), (5, .int (nI (6 * i))), (4, .ref qd), (3, .ref qo), (2, .ref am), (1, .ref x), (0, .ref b)]) hx hb dL_law_1151 hl (by decide) rfl (fun ls hl => ?_)
    refine lv_goto (tgt := 1757) hx hb dL_law_1153 (by decide) ?_
    refine W.widen (k := c0 + 20) (n := s0 + 400) (by omega) (by omega) ?_
    exact hnext _ x_3 _ _ _ _ _ _ _ _ _ _ _ hd0 h hI_3 (hL9.rowsF hr_3) (ea_3.trans e1) (eb_3.trans e2) hP hD hS (lv_sub hl [2, 3, 4, 5, 6, 7] rfl)
  · rw [er]
    rw [eS] at hP hD
    refine lv_istore (lv' := [(6, .int 0), (5, .int (nI (6 * i))), (4, .ref qd), (3, .ref qo), (2, .ref am), (1, .ref x), (0, .ref b)]) hx hb dL_law_1121 hl (by decide) rfl (fun ls hl => ?_)
    refine lv_aload_n hx hb dL_law_1123 rfl (lv_at hl 4 rfl) ?_
    refine lv_aload_n hx hb dL_law_1124 rfl (lv_at hl 6 rfl) ?_
    refine lv_iload hx hb dL_law_1125 (lv_at hl 1 rfl) ?_
    refine lv_iconst (v := 1) hx hb dL_law_1127 (by decide) ?_
    refine lv_iadd hx hb dL_law_1128 ?_
    rw [show ((nI (6 * i)) + 1 : Int32) = nI ((6 * i) + 1) from nI_add (6 * i) 1]
    refine va_sld hx hb hX hbl hbA hS (show vp_in (nI ((6 * i) + 1)) L from ki_in (by omega) (by omega)) dL_law_1129 ?_
    rw [show xs (nI ((6 * i) + 1)).toNatClampNeg = a1 from (congrArg xs (ki_cl (by omega))).trans ea1.symm]
    refine lv_aload_n hx hb dL_law_1130 rfl (lv_at hl 6 rfl) ?_
    refine lv_iload hx hb dL_law_1131 (lv_at hl 1 rfl) ?_
    refine lv_iconst (v := 2) hx hb dL_law_1133 (by decide) ?_
    refine lv_iadd hx hb dL_law_1134 ?_
    rw [show ((nI (6 * i)) + 2 : Int32) = nI ((6 * i) + 2) from nI_add (6 * i) 2]
    refine va_sld hx hb hX hbl hbA hS (show vp_in (nI ((6 * i) + 2)) L from ki_in (by omega) (by omega)) dL_law_1135 ?_
    rw [show xs (nI ((6 * i) + 2)).toNatClampNeg = a2 from (congrArg xs (ki_cl (by omega))).trans ea2.symm]
    refine lv_aload_n hx hb dL_law_1136 rfl (lv_at hl 6 rfl) ?_
    refine lv_iload hx hb dL_law_1137 (lv_at hl 1 rfl) ?_
    refine lv_iconst (v := 3) hx hb dL_law_1139 (by decide) ?_
    refine lv_iadd hx hb dL_law_1140 ?_
    rw [show ((nI (6 * i)) + 3 : Int32) = nI ((6 * i) + 3) from nI_add (6 * i) 3]
    refine va_sld hx hb hX hbl hbA hS (show vp_in (nI ((6 * i) + 3)) L from ki_in (by omega) (by omega)) dL_law_1141 ?_
    rw [show xs (nI ((6 * i) + 3)).toNatClampNeg = a3 from (congrArg xs (ki_cl (by omega))).trans ea3.symm]
    refine lv_aload_n hx hb dL_law_1142 rfl (lv_at hl 6 rfl) ?_
    refine lv_iload hx hb dL_law_1143 (lv_at hl 1 rfl) ?_
    refine lv_iconst (v := 4) hx hb dL_law_1145 (by decide) ?_
    refine lv_iadd hx hb dL_law_1146 ?_
    rw [show ((nI (6 * i)) + 4 : Int32) = nI ((6 * i) + 4) from nI_add (6 * i) 4]
    refine va_sld hx hb hX hbl hbA hS (show vp_in (nI ((6 * i) + 4)) L from ki_in (by omega) (by omega)) dL_law_1147 ?_
    rw [show xs (nI ((6 * i) + 4)).toNatClampNeg = a4 from (congrArg xs (ki_cl (by omega))).trans ea4.symm]
    refine kj_i (pmM _ _ _ _) (va_runV (As := [.int a1, .int a2, .int a3, .int a4]) (rest := []) ⟨hx, hb, hml, hown, htT⟩ (t_ask l D cA _ am r M n nm hI a1 a2 a3 a4) (cwV 4 htT (kg_V m_ml_L_194 m_im_X6_ask m_sl_X6_ask m_in_X6 m_cd_X6_ask) rfl rfl rfl (by decide +kernel) ⟨Nat.le_of_ble_eq_true rfl, Nat.le_of_ble_eq_true rfl⟩) (kj_V (pmM _ _ _ _) hK hP hD hTB (kj_rm (pmM _ _ _ _) hK hP)) rfl rfl hl.1 rfl (lv_room (Nat.le_of_ble_eq_true rfl)) dL_law_1148 ⟨(by show _ ≤ 601024; omega), (by show _ ≤ 7293034; omega)⟩) hP hD hS hA (fun r_4 x_4 H locs hq_4 hP hD hS => ?_)
    have hP := kj_P (pmM _ _ _ _).symm hP
    have hD := kj_D (pmM _ _ _ _).symm hD
    obtain ⟨nm_4, hI_4, hr_4, ea_4, eb_4⟩ := hq_4
    refine lv_istore (lv' := [(7, .int r_4), (6, .int 0), (5, .int (nI (6 * i))), (4, .ref qd), (3, .ref qo), (2, .ref am), (1, .ref x), (0, .ref b)]) hx hb dL_law_1151 hl (by decide) rfl (fun ls hl => ?_)
    refine lv_goto (tgt := 1757) hx hb dL_law_1153 (by decide) ?_
    refine W.widen (k := c0 + 20) (n := s0 + 400) (by omega) (by omega) ?_
    exact hnext _ x_4 _ _ _ _ _ _ _ _ _ _ _ hd0 (h.eA (eqA.bec (u := a2) (f := a3) (g := a4))) hI_4 ((hL9.qc h ((eqA.bec (S := S) (ak := ak) (u := a2) (f := a3) (g := a4)).qc h.kk) eqM.rf).rowsF hr_4) (ea_4.trans e1) (eb_4.trans e2) hP hD hS (lv_sub hl [2, 3, 4, 5, 6, 7] rfl)
  · rw [er]
    have hna : na < 100 := by have h99 := hyes.2.1; rw [h.x3] at h99; exact (nI_ltI (a := na) (b := 100) (by have := h.na1; omega) (by omega)).mp h99
    rw [show gI S x 3 + 1 = nI (na + 1) by rw [h.x3]; exact nI_add na 1] at eS
    rw [eS] at hP hD
    refine lv_istore (lv' := [(6, .int 0), (5, .int (nI (6 * i))), (4, .ref qd), (3, .ref qo), (2, .ref am), (1, .ref x), (0, .ref b)]) hx hb dL_law_1121 hl (by decide) rfl (fun ls hl => ?_)
    refine lv_aload_n hx hb dL_law_1123 rfl (lv_at hl 4 rfl) ?_
    refine lv_aload_n hx hb dL_law_1124 rfl (lv_at hl 6 rfl) ?_
    refine lv_iload hx hb dL_law_1125 (lv_at hl 1 rfl) ?_
    refine lv_iconst (v := 1) hx hb dL_law_1127 (by decide) ?_
    refine lv_iadd hx hb dL_law_1128 ?_
    rw [show ((nI (6 * i)) + 1 : Int32) = nI ((6 * i) + 1) from nI_add (6 * i) 1]
    refine va_sld hx hb hX hbl hbA hS (show vp_in (nI ((6 * i) + 1)) L from ki_in (by omega) (by omega)) dL_law_1129 ?_
    rw [show xs (nI ((6 * i) + 1)).toNatClampNeg = a1 from (congrArg xs (ki_cl (by omega))).trans ea1.symm]
    refine lv_aload_n hx hb dL_law_1130 rfl (lv_at hl 6 rfl) ?_
    refine lv_iload hx hb dL_law_1131 (lv_at hl 1 rfl) ?_
    refine lv_iconst (v := 2) hx hb dL_law_1133 (by decide) ?_
    refine lv_iadd hx hb dL_law_1134 ?_
    rw [show ((nI (6 * i)) + 2 : Int32) = nI ((6 * i) + 2) from nI_add (6 * i) 2]
    refine va_sld hx hb hX hbl hbA hS (show vp_in (nI ((6 * i) + 2)) L from ki_in (by omega) (by omega)) dL_law_1135 ?_
    rw [show xs (nI ((6 * i) + 2)).toNatClampNeg = a2 from (congrArg xs (ki_cl (by omega))).trans ea2.symm]
    refine lv_aload_n hx hb dL_law_1136 rfl (lv_at hl 6 rfl) ?_
    refine lv_iload hx hb dL_law_1137 (lv_at hl 1 rfl) ?_
    refine lv_iconst (v := 3) hx hb dL_law_1139 (by decide) ?_
    refine lv_iadd hx hb dL_law_1140 ?_
    rw [show ((nI (6 * i)) + 3 : Int32) = nI ((6 * i) + 3) from nI_add (6 * i) 3]
    refine va_sld hx hb hX hbl hbA hS (show vp_in (nI ((6 * i) + 3)) L from ki_in (by omega) (by omega)) dL_law_1141 ?_
    rw [show xs (nI ((6 * i) + 3)).toNatClampNeg = a3 from (congrArg xs (ki_cl (by omega))).trans ea3.symm]
    refine lv_aload_n hx hb dL_law_1142 rfl (lv_at hl 6 rfl) ?_
    refine lv_iload hx hb dL_law_1143 (lv_at hl 1 rfl) ?_
    refine lv_iconst (v := 4) hx hb dL_law_1145 (by decide) ?_
    refine lv_iadd hx hb dL_law_1146 ?_
    rw [show ((nI (6 * i)) + 4 : Int32) = nI ((6 * i) + 4) from nI_add (6 * i) 4]
    refine va_sld hx hb hX hbl hbA hS (show vp_in (nI ((6 * i) + 4)) L from ki_in (by omega) (by omega)) dL_law_1147 ?_
    rw [show xs (nI ((6 * i) + 4)).toNatClampNeg = a4 from (congrArg xs (ki_cl (by omega))).trans ea4.symm]
    refine kj_i (pmM _ _ _ _) (va_runV (As := [.int a1, .int a2, .int a3, .int a4]) (rest := []) ⟨hx, hb, hml, hown, htT⟩ (t_ask l D cA _ am r M n nm hI a1 a2 a3 a4) (cwV 4 htT (kg_V m_ml_L_194 m_im_X6_ask m_sl_X6_ask m_in_X6 m_cd_X6_ask) rfl rfl rfl (by decide +kernel) ⟨Nat.le_of_ble_eq_true rfl, Nat.le_of_ble_eq_true rfl⟩) (kj_V (pmM _ _ _ _) hK hP hD hTB (kj_rm (pmM _ _ _ _) hK hP)) rfl rfl hl.1 rfl (lv_room (Nat.le_of_ble_eq_true rfl)) dL_law_1148 ⟨(by show _ ≤ 601024; omega), (by show _ ≤ 7293034; omega)⟩) hP hD hS hA (fun r_5 x_5 H locs hq_5 hP hD hS => ?_)
    have hP := kj_P (pmM _ _ _ _).symm hP
    have hD := kj_D (pmM _ _ _ _).symm hD
    obtain ⟨nm_5, hI_5, hr_5, ea_5, eb_5⟩ := hq_5
    refine lv_istore (lv' := [(7, .int r_5), (6, .int 0), (5, .int (nI (6 * i))), (4, .ref qd), (3, .ref qo), (2, .ref am), (1, .ref x), (0, .ref b)]) hx hb dL_law_1151 hl (by decide) rfl (fun ls hl => ?_)
    refine lv_goto (tgt := 1757) hx hb dL_law_1153 (by decide) ?_
    refine W.widen (k := c0 + 20) (n := s0 + 400) (by omega) (by omega) ?_
    exact hnext _ x_5 _ _ _ _ _ _ _ _ _ _ _ hd0 ((h.eA (eqA.bec (u := a2) (f := a3) (g := a4))).arm (by have := h.n8; omega) hja hq ((h.sw (by have := h.n8; omega) hja).ty e6) hna) hI_5 (((hL9.qc h ((eqA.bec (S := S) (ak := ak) (u := a2) (f := a3) (g := a4)).qc h.kk) eqM.rf).armC (h.eA (eqA.bec (u := a2) (f := a3) (g := a4))) hjn hja hq ((h.sw (by have := h.n8; omega) hja).ty e6) ((h.sw (by have := h.n8; omega) hja).t9 e6 e60)).rowsF hr_5) (ea_5.trans e1) (eb_5.trans e2) hP hD hS (lv_sub hl [2, 3, 4, 5, 6, 7] rfl)

set_option maxRecDepth 100000 in
set_option maxHeartbeats 4000000 in
theorem law_act (l : Launch) (hst : l.stackTraces = false) {p : Program} {e : Env} {s : State} {m : MethodId} {below : List Frame} {meth : Method} {c : Code} {b L : Nat} {xs : Nat → Int32} (C0 : lw_At p s m meth c b L xs) {D : va_G} {cA : Nat → ClassId} (hK : va_K D vwCl (ty6 cA) s) (hTB : TBok s) (hTX : TXok (fun q : Nat => s.heap.size ≤ q) s) {x ar ak qo qd am : Nat} {r : Nat → Nat} {c0 s0 i : Nat} (hc0 : c0 + 20 ≤ 601024) (hs0 : s0 + 400 ≤ 7293034) (hi : 6 * i + 6 ≤ L) (hL : L ≤ 3072) (hnext : ∀ (S : Pool) (M : MSt) (fo : Nat → Int64) (fd : Nat → UInt64) (n na nm : Nat) (hh cc : Int32) (H : Heap) (locs : List Loc) (ls : Array Slot) (d : Drawn), s.drawn.sameBut d lw_cs → INVC n na hh cc S x ar ak → INVR n nm M → REL False n 0 S M ar → M.1 1 = cc → M.1 2 = hh → va_P D vwCl (LW cA S qo fo qd fd am r M) H → va_D (fun q : Nat => s.heap.size ≤ q) (LW cA S qo fo qd fd am r M) → va_S (fun q : Nat => s.heap.size ≤ q) s.heap H locs → lv_has ls 9 [(5, .int (nI (6 * i))), (4, .ref qd), (3, .ref qo), (2, .ref am), (1, .ref x), (0, .ref b)] → W p l e room_1 (s.setDrawn d) m #[Value.ref b] below meth c H locs (c0 + 20) (s0 + 400) (lw_Z below #[Value.ref b] s) (F0 m 1757 ls [])) {S : Pool} {M : MSt} {fo : Nat → Int64} {fd : Nat → UInt64} {n na nm : Nat} {hh cc : Int32} {H : Heap} {locs : List Loc} {ls : Array Slot} {d : Drawn} (hd0 : s.drawn.sameBut d lw_cs) (h : INVC n na hh cc S x ar ak) (hI : INVR n nm M) (hL9 : REL False n 0 S M ar) (e1 : M.1 1 = cc) (e2 : M.1 2 = hh) (hP : va_P D vwCl (LW cA S qo fo qd fd am r M) H) (hD : va_D (fun q : Nat => s.heap.size ≤ q) (LW cA S qo fo qd fd am r M)) (hS : va_S (fun q : Nat => s.heap.size ≤ q) s.heap H locs) (hl : lv_has ls 9 [(5, .int (nI (6 * i))), (4, .ref qd), (3, .ref qo), (2, .ref am), (1, .ref x), (0, .ref b)]) : W p l e room_1 (s.setDrawn d) m #[Value.ref b] below meth c H locs c0 s0 (lw_Z below #[Value.ref b] s) (F0 m 1156 ls []) := by
  obtain ⟨hx, hb, hr, hml, hown, hts, hX, hbl, hlocks, hgv⟩ := id C0
  have hA : ∀ q : Nat, s.heap.size ≤ q → (fun q : Nat => s.heap.size ≤ q) q := fun _ h => h
  have hbA : ¬ (fun q : Nat => s.heap.size ≤ q) b := Nat.not_le.mpr hbl
  obtain ⟨a1, ea1⟩ : ∃ z, z = xs (6 * i + 1) := ⟨_, rfl⟩
  obtain ⟨a2, ea2⟩ : ∃ z, z = xs (6 * i + 2) := ⟨_, rfl⟩
  obtain ⟨a3, ea3⟩ : ∃ z, z = xs (6 * i + 3) := ⟨_, rfl⟩
  obtain ⟨a4, ea4⟩ : ∃ z, z = xs (6 * i + 4) := ⟨_, rfl⟩
  obtain ⟨a5, ea5⟩ : ∃ z, z = xs (6 * i + 5) := ⟨_, rfl⟩
  have htT0 : ∀ w ∈ TT, w.before _ s = true := fun w h => hts w (tt_in h)
  have hTB0 := hTB
  have hK0 := hK
  have hown0 : s.vm.findClass RL = some m.cls := hown
  have hTX0 := hTX
  have hX0 := hX
  have htT : ∀ w ∈ TT, w.before _ (s.setDrawn d) = true := dr_words htT0 d
  have hTB : TBok (s.setDrawn d) := TBok.same (u := s) (U := s.setDrawn d) rfl (Vm.Alike.refl s.vm) hTB0
  have hK : va_K D vwCl (ty6 cA) (s.setDrawn d) := hK0
  have hown : (s.setDrawn d).vm.findClass RL = some m.cls := hown0
  have hTX : TXok (fun q : Nat => s.heap.size ≤ q) (s.setDrawn d) := hTX0.dr d
  have hX : va_X b L xs (s.setDrawn d) (s.setDrawn d).heap := hX0
  refine lv_aload_n hx hb dL_law_1156 rfl (lv_at hl 4 rfl) ?_
  refine lv_aload_n hx hb dL_law_1157 rfl (lv_at hl 5 rfl) ?_
  refine lv_iload hx hb dL_law_1158 (lv_at hl 0 rfl) ?_
  refine lv_iconst (v := 1) hx hb dL_law_1160 (by decide) ?_
  refine lv_iadd hx hb dL_law_1161 ?_
  rw [show ((nI (6 * i)) + 1 : Int32) = nI ((6 * i) + 1) from nI_add (6 * i) 1]
  refine va_sld hx hb hX hbl hbA hS (show vp_in (nI ((6 * i) + 1)) L from ki_in (by omega) (by omega)) dL_law_1162 ?_
  rw [show xs (nI ((6 * i) + 1)).toNatClampNeg = a1 from (congrArg xs (ki_cl (by omega))).trans ea1.symm]
  refine lv_aload_n hx hb dL_law_1163 rfl (lv_at hl 5 rfl) ?_
  refine lv_iload hx hb dL_law_1164 (lv_at hl 0 rfl) ?_
  refine lv_iconst (v := 2) hx hb dL_law_1166 (by decide) ?_
  refine lv_iadd hx hb dL_law_1167 ?_
  rw [show ((nI (6 * i)) + 2 : Int32) = nI ((6 * i) + 2) from nI_add (6 * i) 2]
  refine va_sld hx hb hX hbl hbA hS (show vp_in (nI ((6 * i) + 2)) L from ki_in (by omega) (by omega)) dL_law_1168 ?_
  rw [show xs (nI ((6 * i) + 2)).toNatClampNeg = a2 from (congrArg xs (ki_cl (by omega))).trans ea2.symm]
  refine lv_aload_n hx hb dL_law_1169 rfl (lv_at hl 2 rfl) ?_
  refine kj_i (pmJ _ _ _ _) (vx_runSW (As := [.ref x, .int a1, .int a2, .ref qo]) (rest := []) ⟨hx, hb, hml, hown, htT⟩ (w_act l hst D cA _ S x qo fo n na hh cc ar ak h a1 a2) (vx_cwSW 4 htT (kg_SW m_ml_L_195 m_st_L_act m_in_L m_cd_L_act) rfl rfl rfl (by decide +kernel) ⟨Nat.le_of_ble_eq_true rfl, Nat.le_of_ble_eq_true rfl⟩) (kj_SX (pmJ _ _ _ _) hK hP hD hTB hTX hS hA) rfl rfl hl.1 rfl (lv_room (Nat.le_of_ble_eq_true rfl)) dL_law_1170 ⟨(by show _ ≤ 601024; omega), (by show _ ≤ 7293034; omega)⟩) hP hD hS hA (fun r_1 x_1 H locs hq_1 hP hD hS => ?_)
  rw [List.append_assoc] at hP hD
  obtain ⟨hC_1, hQ_1⟩ := hq_1
  refine lv_istore (lv' := [(6, .int r_1), (5, .int (nI (6 * i))), (4, .ref qd), (3, .ref qo), (2, .ref am), (1, .ref x), (0, .ref b)]) hx hb dL_law_1173 hl (by decide) rfl (fun ls hl => ?_)
  refine lv_aload_n hx hb dL_law_1175 rfl (lv_at hl 4 rfl) ?_
  refine lv_aload_n hx hb dL_law_1176 rfl (lv_at hl 6 rfl) ?_
  refine lv_iload hx hb dL_law_1177 (lv_at hl 1 rfl) ?_
  refine lv_iconst (v := 1) hx hb dL_law_1179 (by decide) ?_
  refine lv_iadd hx hb dL_law_1180 ?_
  rw [show ((nI (6 * i)) + 1 : Int32) = nI ((6 * i) + 1) from nI_add (6 * i) 1]
  refine va_sld hx hb hX hbl hbA hS (show vp_in (nI ((6 * i) + 1)) L from ki_in (by omega) (by omega)) dL_law_1181 ?_
  rw [show xs (nI ((6 * i) + 1)).toNatClampNeg = a1 from (congrArg xs (ki_cl (by omega))).trans ea1.symm]
  refine lv_aload_n hx hb dL_law_1182 rfl (lv_at hl 6 rfl) ?_
  refine lv_iload hx hb dL_law_1183 (lv_at hl 1 rfl) ?_
  refine lv_iconst (v := 2) hx hb dL_law_1185 (by decide) ?_
  refine lv_iadd hx hb dL_law_1186 ?_
  rw [show ((nI (6 * i)) + 2 : Int32) = nI ((6 * i) + 2) from nI_add (6 * i) 2]
  refine va_sld hx hb hX hbl hbA hS (show vp_in (nI ((6 * i) + 2)) L from ki_in (by omega) (by omega)) dL_law_1187 ?_
  rw [show xs (nI ((6 * i) + 2)).toNatClampNeg = a2 from (congrArg xs (ki_cl (by omega))).trans ea2.symm]
  refine kj_i (pmM _ _ _ _) (va_runV (As := [.int a1, .int a2]) (rest := []) ⟨hx, hb, hml, hown, htT⟩ (t_act l D cA _ am r M n nm hI a1 a2) (cwV 2 htT (kg_V m_ml_L_197 m_im_X6_act m_sl_X6_act m_in_X6 m_cd_X6_act) rfl rfl rfl (by decide +kernel) ⟨Nat.le_of_ble_eq_true rfl, Nat.le_of_ble_eq_true rfl⟩) (kj_V (pmM _ _ _ _) hK hP hD hTB (kj_rm (pmM _ _ _ _) hK hP)) rfl rfl hl.1 rfl (lv_room (Nat.le_of_ble_eq_true rfl)) dL_law_1188 ⟨(by show _ ≤ 601024; omega), (by show _ ≤ 7293034; omega)⟩) hP hD hS hA (fun r_2 x_2 H locs hq_2 hP hD hS => ?_)
  have hP := kj_P (pmM _ _ _ _).symm hP
  have hD := kj_D (pmM _ _ _ _).symm hD
  obtain ⟨hI_2, hM_2⟩ := hq_2
  have ea_2 := hM_2.2 1 (by decide) (by decide)
  have eb_2 := hM_2.2 2 (by decide) (by decide)
  refine lv_istore (lv' := [(7, .int r_2), (6, .int r_1), (5, .int (nI (6 * i))), (4, .ref qd), (3, .ref qo), (2, .ref am), (1, .ref x), (0, .ref b)]) hx hb dL_law_1191 hl (by decide) rfl (fun ls hl => ?_)
  refine lv_goto (tgt := 1757) hx hb dL_law_1193 (by decide) ?_
  refine W.widen (k := c0 + 20) (n := s0 + 400) (by omega) (by omega) ?_
  exact hnext _ x_2 _ _ _ _ _ _ _ _ _ _ _ hd0 hC_1 hI_2 (hL9.qc h hQ_1 hM_2) (ea_2.trans e1) (eb_2.trans e2) hP hD hS (lv_sub hl [2, 3, 4, 5, 6, 7] rfl)

set_option maxRecDepth 100000 in
set_option maxHeartbeats 4000000 in
theorem law_arm (l : Launch) (hst : l.stackTraces = false) {p : Program} {e : Env} {s : State} {m : MethodId} {below : List Frame} {meth : Method} {c : Code} {b L : Nat} {xs : Nat → Int32} (C0 : lw_At p s m meth c b L xs) {D : va_G} {cA : Nat → ClassId} (hK : va_K D vwCl (ty6 cA) s) (hTB : TBok s) (hTX : TXok (fun q : Nat => s.heap.size ≤ q) s) {x ar ak qo qd am : Nat} {r : Nat → Nat} {c0 s0 i : Nat} (hc0 : c0 + 20 ≤ 601024) (hs0 : s0 + 400 ≤ 7293034) (hi : 6 * i + 6 ≤ L) (hL : L ≤ 3072) (hnext : ∀ (S : Pool) (M : MSt) (fo : Nat → Int64) (fd : Nat → UInt64) (n na nm : Nat) (hh cc : Int32) (H : Heap) (locs : List Loc) (ls : Array Slot) (d : Drawn), s.drawn.sameBut d lw_cs → INVC n na hh cc S x ar ak → INVR n nm M → REL False n 0 S M ar → M.1 1 = cc → M.1 2 = hh → va_P D vwCl (LW cA S qo fo qd fd am r M) H → va_D (fun q : Nat => s.heap.size ≤ q) (LW cA S qo fo qd fd am r M) → va_S (fun q : Nat => s.heap.size ≤ q) s.heap H locs → lv_has ls 9 [(5, .int (nI (6 * i))), (4, .ref qd), (3, .ref qo), (2, .ref am), (1, .ref x), (0, .ref b)] → W p l e room_1 (s.setDrawn d) m #[Value.ref b] below meth c H locs (c0 + 20) (s0 + 400) (lw_Z below #[Value.ref b] s) (F0 m 1757 ls [])) {S : Pool} {M : MSt} {fo : Nat → Int64} {fd : Nat → UInt64} {n na nm : Nat} {hh cc : Int32} {H : Heap} {locs : List Loc} {ls : Array Slot} {d : Drawn} (hd0 : s.drawn.sameBut d lw_cs) (h : INVC n na hh cc S x ar ak) (hI : INVR n nm M) (hL9 : REL False n 0 S M ar) (e1 : M.1 1 = cc) (e2 : M.1 2 = hh) (hP : va_P D vwCl (LW cA S qo fo qd fd am r M) H) (hD : va_D (fun q : Nat => s.heap.size ≤ q) (LW cA S qo fo qd fd am r M)) (hS : va_S (fun q : Nat => s.heap.size ≤ q) s.heap H locs) (hl : lv_has ls 9 [(5, .int (nI (6 * i))), (4, .ref qd), (3, .ref qo), (2, .ref am), (1, .ref x), (0, .ref b)]) : W p l e room_1 (s.setDrawn d) m #[Value.ref b] below meth c H locs c0 s0 (lw_Z below #[Value.ref b] s) (F0 m 1196 ls []) := by
  obtain ⟨hx, hb, hr, hml, hown, hts, hX, hbl, hlocks, hgv⟩ := id C0
  have hA : ∀ q : Nat, s.heap.size ≤ q → (fun q : Nat => s.heap.size ≤ q) q := fun _ h => h
  have hbA : ¬ (fun q : Nat => s.heap.size ≤ q) b := Nat.not_le.mpr hbl
  obtain ⟨a1, ea1⟩ : ∃ z, z = xs (6 * i + 1) := ⟨_, rfl⟩
  obtain ⟨a2, ea2⟩ : ∃ z, z = xs (6 * i + 2) := ⟨_, rfl⟩
  obtain ⟨a3, ea3⟩ : ∃ z, z = xs (6 * i + 3) := ⟨_, rfl⟩
  obtain ⟨a4, ea4⟩ : ∃ z, z = xs (6 * i + 4) := ⟨_, rfl⟩
  obtain ⟨a5, ea5⟩ : ∃ z, z = xs (6 * i + 5) := ⟨_, rfl⟩
  have htT0 : ∀ w ∈ TT, w.before _ s = true := fun w h => hts w (tt_in h)
  have hTB0 := hTB
  have hK0 := hK
  have hown0 : s.vm.findClass RL = some m.cls := hown
  have hTX0 := hTX
  have hX0 := hX
  have htT : ∀ w ∈ TT, w.before _ (s.setDrawn d) = true := dr_words htT0 d
  have hTB : TBok (s.setDrawn d) := TBok.same (u := s) (U := s.setDrawn d) rfl (Vm.Alike.refl s.vm) hTB0
  have hK : va_K D vwCl (ty6 cA) (s.setDrawn d) := hK0
  have hown : (s.setDrawn d).vm.findClass RL = some m.cls := hown0
  have hTX : TXok (fun q : Nat => s.heap.size ≤ q) (s.setDrawn d) := hTX0.dr d
  have hX : va_X b L xs (s.setDrawn d) (s.setDrawn d).heap := hX0
  refine lv_aload_n hx hb dL_law_1196 rfl (lv_at hl 4 rfl) ?_
  refine lv_aload_n hx hb dL_law_1197 rfl (lv_at hl 5 rfl) ?_
  refine lv_iload hx hb dL_law_1198 (lv_at hl 0 rfl) ?_
  refine lv_iconst (v := 1) hx hb dL_law_1200 (by decide) ?_
  refine lv_iadd hx hb dL_law_1201 ?_
  rw [show ((nI (6 * i)) + 1 : Int32) = nI ((6 * i) + 1) from nI_add (6 * i) 1]
  refine va_sld hx hb hX hbl hbA hS (show vp_in (nI ((6 * i) + 1)) L from ki_in (by omega) (by omega)) dL_law_1202 ?_
  rw [show xs (nI ((6 * i) + 1)).toNatClampNeg = a1 from (congrArg xs (ki_cl (by omega))).trans ea1.symm]
  refine lv_aload_n hx hb dL_law_1203 rfl (lv_at hl 5 rfl) ?_
  refine lv_iload hx hb dL_law_1204 (lv_at hl 0 rfl) ?_
  refine lv_iconst (v := 2) hx hb dL_law_1206 (by decide) ?_
  refine lv_iadd hx hb dL_law_1207 ?_
  rw [show ((nI (6 * i)) + 2 : Int32) = nI ((6 * i) + 2) from nI_add (6 * i) 2]
  refine va_sld hx hb hX hbl hbA hS (show vp_in (nI ((6 * i) + 2)) L from ki_in (by omega) (by omega)) dL_law_1208 ?_
  rw [show xs (nI ((6 * i) + 2)).toNatClampNeg = a2 from (congrArg xs (ki_cl (by omega))).trans ea2.symm]
  refine lv_aload_n hx hb dL_law_1209 rfl (lv_at hl 2 rfl) ?_
  refine kj_i (pmJ _ _ _ _) (vx_runSW (As := [.ref x, .int a1, .int a2, .ref qo]) (rest := []) ⟨hx, hb, hml, hown, htT⟩ (w_arm l hst D cA _ S x qo fo n na hh cc ar ak h a1 a2) (vx_cwSW 4 htT (kg_SW m_ml_L_198 m_st_L_arm m_in_L m_cd_L_arm) rfl rfl rfl (by decide +kernel) ⟨Nat.le_of_ble_eq_true rfl, Nat.le_of_ble_eq_true rfl⟩) (kj_SX (pmJ _ _ _ _) hK hP hD hTB hTX hS hA) rfl rfl hl.1 rfl (lv_room (Nat.le_of_ble_eq_true rfl)) dL_law_1210 ⟨(by show _ ≤ 601024; omega), (by show _ ≤ 7293034; omega)⟩) hP hD hS hA (fun r_1 x_1 H locs hq_1 hP hD hS => ?_)
  rw [List.append_assoc] at hP hD
  obtain ⟨hC_1, hQ_1⟩ := hq_1
  refine lv_istore (lv' := [(6, .int r_1), (5, .int (nI (6 * i))), (4, .ref qd), (3, .ref qo), (2, .ref am), (1, .ref x), (0, .ref b)]) hx hb dL_law_1213 hl (by decide) rfl (fun ls hl => ?_)
  refine lv_aload_n hx hb dL_law_1215 rfl (lv_at hl 4 rfl) ?_
  refine lv_aload_n hx hb dL_law_1216 rfl (lv_at hl 6 rfl) ?_
  refine lv_iload hx hb dL_law_1217 (lv_at hl 1 rfl) ?_
  refine lv_iconst (v := 1) hx hb dL_law_1219 (by decide) ?_
  refine lv_iadd hx hb dL_law_1220 ?_
  rw [show ((nI (6 * i)) + 1 : Int32) = nI ((6 * i) + 1) from nI_add (6 * i) 1]
  refine va_sld hx hb hX hbl hbA hS (show vp_in (nI ((6 * i) + 1)) L from ki_in (by omega) (by omega)) dL_law_1221 ?_
  rw [show xs (nI ((6 * i) + 1)).toNatClampNeg = a1 from (congrArg xs (ki_cl (by omega))).trans ea1.symm]
  refine lv_aload_n hx hb dL_law_1222 rfl (lv_at hl 6 rfl) ?_
  refine lv_iload hx hb dL_law_1223 (lv_at hl 1 rfl) ?_
  refine lv_iconst (v := 2) hx hb dL_law_1225 (by decide) ?_
  refine lv_iadd hx hb dL_law_1226 ?_
  rw [show ((nI (6 * i)) + 2 : Int32) = nI ((6 * i) + 2) from nI_add (6 * i) 2]
  refine va_sld hx hb hX hbl hbA hS (show vp_in (nI ((6 * i) + 2)) L from ki_in (by omega) (by omega)) dL_law_1227 ?_
  rw [show xs (nI ((6 * i) + 2)).toNatClampNeg = a2 from (congrArg xs (ki_cl (by omega))).trans ea2.symm]
  refine kj_i (pmM _ _ _ _) (va_runV (As := [.int a1, .int a2]) (rest := []) ⟨hx, hb, hml, hown, htT⟩ (t_arm l D cA _ am r M n nm hI a1 a2) (cwV 2 htT (kg_V m_ml_L_200 m_im_X6_arm m_sl_X6_arm m_in_X6 m_cd_X6_arm) rfl rfl rfl (by decide +kernel) ⟨Nat.le_of_ble_eq_true rfl, Nat.le_of_ble_eq_true rfl⟩) (kj_V (pmM _ _ _ _) hK hP hD hTB (kj_rm (pmM _ _ _ _) hK hP)) rfl rfl hl.1 rfl (lv_room (Nat.le_of_ble_eq_true rfl)) dL_law_1228 ⟨(by show _ ≤ 601024; omega), (by show _ ≤ 7293034; omega)⟩) hP hD hS hA (fun r_2 x_2 H locs hq_2 hP hD hS => ?_)
  have hP := kj_P (pmM _ _ _ _).symm hP
  have hD := kj_D (pmM _ _ _ _).symm hD
  obtain ⟨hI_2, hM_2⟩ := hq_2
  have ea_2 := hM_2.2 1 (by decide) (by decide)
  have eb_2 := hM_2.2 2 (by decide) (by decide)
  refine lv_istore (lv' := [(7, .int r_2), (6, .int r_1), (5, .int (nI (6 * i))), (4, .ref qd), (3, .ref qo), (2, .ref am), (1, .ref x), (0, .ref b)]) hx hb dL_law_1231 hl (by decide) rfl (fun ls hl => ?_)
  refine lv_goto (tgt := 1757) hx hb dL_law_1233 (by decide) ?_
  refine W.widen (k := c0 + 20) (n := s0 + 400) (by omega) (by omega) ?_
  exact hnext _ x_2 _ _ _ _ _ _ _ _ _ _ _ hd0 hC_1 hI_2 (hL9.qc h hQ_1 hM_2) (ea_2.trans e1) (eb_2.trans e2) hP hD hS (lv_sub hl [2, 3, 4, 5, 6, 7] rfl)

set_option maxRecDepth 100000 in
set_option maxHeartbeats 4000000 in
theorem law_arms (l : Launch) (hst : l.stackTraces = false) {p : Program} {e : Env} {s : State} {m : MethodId} {below : List Frame} {meth : Method} {c : Code} {b L : Nat} {xs : Nat → Int32} (C0 : lw_At p s m meth c b L xs) {D : va_G} {cA : Nat → ClassId} (hK : va_K D vwCl (ty6 cA) s) (hTB : TBok s) (hTX : TXok (fun q : Nat => s.heap.size ≤ q) s) {x ar ak qo qd am : Nat} {r : Nat → Nat} {c0 s0 i : Nat} (hc0 : c0 + 20 ≤ 601024) (hs0 : s0 + 400 ≤ 7293034) (hi : 6 * i + 6 ≤ L) (hL : L ≤ 3072) (hnext : ∀ (S : Pool) (M : MSt) (fo : Nat → Int64) (fd : Nat → UInt64) (n na nm : Nat) (hh cc : Int32) (H : Heap) (locs : List Loc) (ls : Array Slot) (d : Drawn), s.drawn.sameBut d lw_cs → INVC n na hh cc S x ar ak → INVR n nm M → REL False n 0 S M ar → M.1 1 = cc → M.1 2 = hh → va_P D vwCl (LW cA S qo fo qd fd am r M) H → va_D (fun q : Nat => s.heap.size ≤ q) (LW cA S qo fo qd fd am r M) → va_S (fun q : Nat => s.heap.size ≤ q) s.heap H locs → lv_has ls 9 [(5, .int (nI (6 * i))), (4, .ref qd), (3, .ref qo), (2, .ref am), (1, .ref x), (0, .ref b)] → W p l e room_1 (s.setDrawn d) m #[Value.ref b] below meth c H locs (c0 + 20) (s0 + 400) (lw_Z below #[Value.ref b] s) (F0 m 1757 ls [])) {S : Pool} {M : MSt} {fo : Nat → Int64} {fd : Nat → UInt64} {n na nm : Nat} {hh cc : Int32} {H : Heap} {locs : List Loc} {ls : Array Slot} {d : Drawn} (hd0 : s.drawn.sameBut d lw_cs) (h : INVC n na hh cc S x ar ak) (hI : INVR n nm M) (hL9 : REL False n 0 S M ar) (e1 : M.1 1 = cc) (e2 : M.1 2 = hh) (hP : va_P D vwCl (LW cA S qo fo qd fd am r M) H) (hD : va_D (fun q : Nat => s.heap.size ≤ q) (LW cA S qo fo qd fd am r M)) (hS : va_S (fun q : Nat => s.heap.size ≤ q) s.heap H locs) (hl : lv_has ls 9 [(5, .int (nI (6 * i))), (4, .ref qd), (3, .ref qo), (2, .ref am), (1, .ref x), (0, .ref b)]) : W p l e room_1 (s.setDrawn d) m #[Value.ref b] below meth c H locs c0 s0 (lw_Z below #[Value.ref b] s) (F0 m 1236 ls []) := by
  obtain ⟨hx, hb, hr, hml, hown, hts, hX, hbl, hlocks, hgv⟩ := id C0
  have hA : ∀ q : Nat, s.heap.size ≤ q → (fun q : Nat => s.heap.size ≤ q) q := fun _ h => h
  have hbA : ¬ (fun q : Nat => s.heap.size ≤ q) b := Nat.not_le.mpr hbl
  obtain ⟨a1, ea1⟩ : ∃ z, z = xs (6 * i + 1) := ⟨_, rfl⟩
  obtain ⟨a2, ea2⟩ : ∃ z, z = xs (6 * i + 2) := ⟨_, rfl⟩
  obtain ⟨a3, ea3⟩ : ∃ z, z = xs (6 * i + 3) := ⟨_, rfl⟩
  obtain ⟨a4, ea4⟩ : ∃ z, z = xs (6 * i + 4) := ⟨_, rfl⟩
  obtain ⟨a5, ea5⟩ : ∃ z, z = xs (6 * i + 5) := ⟨_, rfl⟩
  have htT0 : ∀ w ∈ TT, w.before _ s = true := fun w h => hts w (tt_in h)
  have hTB0 := hTB
  have hK0 := hK
  have hown0 : s.vm.findClass RL = some m.cls := hown
  have hTX0 := hTX
  have hX0 := hX
  have htT : ∀ w ∈ TT, w.before _ (s.setDrawn d) = true := dr_words htT0 d
  have hTB : TBok (s.setDrawn d) := TBok.same (u := s) (U := s.setDrawn d) rfl (Vm.Alike.refl s.vm) hTB0
  have hK : va_K D vwCl (ty6 cA) (s.setDrawn d) := hK0
  have hown : (s.setDrawn d).vm.findClass RL = some m.cls := hown0
  have hTX : TXok (fun q : Nat => s.heap.size ≤ q) (s.setDrawn d) := hTX0.dr d
  have hX : va_X b L xs (s.setDrawn d) (s.setDrawn d).heap := hX0
  refine lv_aload_n hx hb dL_law_1236 rfl (lv_at hl 4 rfl) ?_
  refine kj_i (List.Perm.refl _) (va_runV (As := []) (rest := []) ⟨hx, hb, hml, hown, htT⟩ (c_arms l D cA _ S x h.hx) (cwV 0 htT (kg_V m_ml_L_201 m_im_X5_arms m_sl_X5_arms m_in_X5 m_cd_X5_arms) rfl rfl rfl (by decide +kernel) ⟨Nat.le_of_ble_eq_true rfl, Nat.le_of_ble_eq_true rfl⟩) (kj_V (List.Perm.refl _) hK hP hD hTB (kj_rc (List.Perm.refl _) hK hP h.hx (Nat.le_of_ble_eq_true rfl) rfl)) rfl rfl hl.1 rfl (lv_room (Nat.le_of_ble_eq_true rfl)) dL_law_1237 ⟨(by show _ ≤ 601024; omega), (by show _ ≤ 7293034; omega)⟩) hP hD hS hA (fun r_1 x_1 H locs hq_1 hP hD hS => ?_)
  rw [hq_1.2] at hP hD
  refine lv_pop hx hb dL_law_1240 rfl ?_
  refine lv_aload_n hx hb dL_law_1241 rfl (lv_at hl 3 rfl) ?_
  refine kj_i (pmM _ _ _ _) (va_runV (As := []) (rest := []) ⟨hx, hb, hml, hown, htT⟩ (t_arms l D cA _ am r M n nm hI ) (cwV 0 htT (kg_V m_ml_L_204 m_im_X6_arms m_sl_X6_arms m_in_X6 m_cd_X6_arms) rfl rfl rfl (by decide +kernel) ⟨Nat.le_of_ble_eq_true rfl, Nat.le_of_ble_eq_true rfl⟩) (kj_V (pmM _ _ _ _) hK hP hD hTB (kj_rm (pmM _ _ _ _) hK hP)) rfl rfl hl.1 rfl (lv_room (Nat.le_of_ble_eq_true rfl)) dL_law_1242 ⟨(by show _ ≤ 601024; omega), (by show _ ≤ 7293034; omega)⟩) hP hD hS hA (fun r_2 x_2 H locs hq_2 hP hD hS => ?_)
  have hP := kj_P (pmM _ _ _ _).symm hP
  have hD := kj_D (pmM _ _ _ _).symm hD
  obtain ⟨hI_2, hM_2⟩ := hq_2
  have ea_2 := hM_2.2 1 (by decide) (by decide)
  have eb_2 := hM_2.2 2 (by decide) (by decide)
  refine lv_pop hx hb dL_law_1245 rfl ?_
  refine lv_goto (tgt := 1757) hx hb dL_law_1246 (by decide) ?_
  refine W.widen (k := c0 + 20) (n := s0 + 400) (by omega) (by omega) ?_
  exact hnext _ x_2 _ _ _ _ _ _ _ _ _ _ _ hd0 h hI_2 (hL9.qc h QC.rf hM_2) (ea_2.trans e1) (eb_2.trans e2) hP hD hS (lv_sub hl [0, 1, 2, 3, 4, 5] rfl)

set_option maxRecDepth 100000 in
set_option maxHeartbeats 4000000 in
theorem law_told (l : Launch) (hst : l.stackTraces = false) {p : Program} {e : Env} {s : State} {m : MethodId} {below : List Frame} {meth : Method} {c : Code} {b L : Nat} {xs : Nat → Int32} (C0 : lw_At p s m meth c b L xs) {D : va_G} {cA : Nat → ClassId} (hK : va_K D vwCl (ty6 cA) s) (hTB : TBok s) (hTX : TXok (fun q : Nat => s.heap.size ≤ q) s) {x ar ak qo qd am : Nat} {r : Nat → Nat} {c0 s0 i : Nat} (hc0 : c0 + 20 ≤ 601024) (hs0 : s0 + 400 ≤ 7293034) (hi : 6 * i + 6 ≤ L) (hL : L ≤ 3072) (hnext : ∀ (S : Pool) (M : MSt) (fo : Nat → Int64) (fd : Nat → UInt64) (n na nm : Nat) (hh cc : Int32) (H : Heap) (locs : List Loc) (ls : Array Slot) (d : Drawn), s.drawn.sameBut d lw_cs → INVC n na hh cc S x ar ak → INVR n nm M → REL False n 0 S M ar → M.1 1 = cc → M.1 2 = hh → va_P D vwCl (LW cA S qo fo qd fd am r M) H → va_D (fun q : Nat => s.heap.size ≤ q) (LW cA S qo fo qd fd am r M) → va_S (fun q : Nat => s.heap.size ≤ q) s.heap H locs → lv_has ls 9 [(5, .int (nI (6 * i))), (4, .ref qd), (3, .ref qo), (2, .ref am), (1, .ref x), (0, .ref b)] → W p l e room_1 (s.setDrawn d) m #[Value.ref b] below meth c H locs (c0 + 20) (s0 + 400) (lw_Z below #[Value.ref b] s) (F0 m 1757 ls [])) {S : Pool} {M : MSt} {fo : Nat → Int64} {fd : Nat → UInt64} {n na nm : Nat} {hh cc : Int32} {H : Heap} {locs : List Loc} {ls : Array Slot} {d : Drawn} (hd0 : s.drawn.sameBut d lw_cs) (h : INVC n na hh cc S x ar ak) (hI : INVR n nm M) (hL9 : REL False n 0 S M ar) (e1 : M.1 1 = cc) (e2 : M.1 2 = hh) (hP : va_P D vwCl (LW cA S qo fo qd fd am r M) H) (hD : va_D (fun q : Nat => s.heap.size ≤ q) (LW cA S qo fo qd fd am r M)) (hS : va_S (fun q : Nat => s.heap.size ≤ q) s.heap H locs) (hl : lv_has ls 9 [(5, .int (nI (6 * i))), (4, .ref qd), (3, .ref qo), (2, .ref am), (1, .ref x), (0, .ref b)]) : W p l e room_1 (s.setDrawn d) m #[Value.ref b] below meth c H locs c0 s0 (lw_Z below #[Value.ref b] s) (F0 m 1249 ls []) := by
  obtain ⟨hx, hb, hr, hml, hown, hts, hX, hbl, hlocks, hgv⟩ := id C0
  have hA : ∀ q : Nat, s.heap.size ≤ q → (fun q : Nat => s.heap.size ≤ q) q := fun _ h => h
  have hbA : ¬ (fun q : Nat => s.heap.size ≤ q) b := Nat.not_le.mpr hbl
  obtain ⟨a1, ea1⟩ : ∃ z, z = xs (6 * i + 1) := ⟨_, rfl⟩
  obtain ⟨a2, ea2⟩ : ∃ z, z = xs (6 * i + 2) := ⟨_, rfl⟩
  obtain ⟨a3, ea3⟩ : ∃ z, z = xs (6 * i + 3) := ⟨_, rfl⟩
  obtain ⟨a4, ea4⟩ : ∃ z, z = xs (6 * i + 4) := ⟨_, rfl⟩
  obtain ⟨a5, ea5⟩ : ∃ z, z = xs (6 * i + 5) := ⟨_, rfl⟩
  have htT0 : ∀ w ∈ TT, w.before _ s = true := fun w h => hts w (tt_in h)
  have hTB0 := hTB
  have hK0 := hK
  have hown0 : s.vm.findClass RL = some m.cls := hown
  have hTX0 := hTX
  have hX0 := hX
  have htT : ∀ w ∈ TT, w.before _ (s.setDrawn d) = true := dr_words htT0 d
  have hTB : TBok (s.setDrawn d) := TBok.same (u := s) (U := s.setDrawn d) rfl (Vm.Alike.refl s.vm) hTB0
  have hK : va_K D vwCl (ty6 cA) (s.setDrawn d) := hK0
  have hown : (s.setDrawn d).vm.findClass RL = some m.cls := hown0
  have hTX : TXok (fun q : Nat => s.heap.size ≤ q) (s.setDrawn d) := hTX0.dr d
  have hX : va_X b L xs (s.setDrawn d) (s.setDrawn d).heap := hX0
  refine lv_aload_n hx hb dL_law_1249 rfl (lv_at hl 4 rfl) ?_
  refine lv_aload_n hx hb dL_law_1250 rfl (lv_at hl 5 rfl) ?_
  refine lv_iload hx hb dL_law_1251 (lv_at hl 0 rfl) ?_
  refine lv_iconst (v := 1) hx hb dL_law_1253 (by decide) ?_
  refine lv_iadd hx hb dL_law_1254 ?_
  rw [show ((nI (6 * i)) + 1 : Int32) = nI ((6 * i) + 1) from nI_add (6 * i) 1]
  refine va_sld hx hb hX hbl hbA hS (show vp_in (nI ((6 * i) + 1)) L from ki_in (by omega) (by omega)) dL_law_1255 ?_
  rw [show xs (nI ((6 * i) + 1)).toNatClampNeg = a1 from (congrArg xs (ki_cl (by omega))).trans ea1.symm]
  refine lv_aload_n hx hb dL_law_1256 rfl (lv_at hl 5 rfl) ?_
  refine lv_iload hx hb dL_law_1257 (lv_at hl 0 rfl) ?_
  refine lv_iconst (v := 2) hx hb dL_law_1259 (by decide) ?_
  refine lv_iadd hx hb dL_law_1260 ?_
  rw [show ((nI (6 * i)) + 2 : Int32) = nI ((6 * i) + 2) from nI_add (6 * i) 2]
  refine va_sld hx hb hX hbl hbA hS (show vp_in (nI ((6 * i) + 2)) L from ki_in (by omega) (by omega)) dL_law_1261 ?_
  rw [show xs (nI ((6 * i) + 2)).toNatClampNeg = a2 from (congrArg xs (ki_cl (by omega))).trans ea2.symm]
  refine lv_aload_n hx hb dL_law_1262 rfl (lv_at hl 5 rfl) ?_
  refine lv_iload hx hb dL_law_1263 (lv_at hl 0 rfl) ?_
  refine lv_iconst (v := 3) hx hb dL_law_1265 (by decide) ?_
  refine lv_iadd hx hb dL_law_1266 ?_
  rw [show ((nI (6 * i)) + 3 : Int32) = nI ((6 * i) + 3) from nI_add (6 * i) 3]
  refine va_sld hx hb hX hbl hbA hS (show vp_in (nI ((6 * i) + 3)) L from ki_in (by omega) (by omega)) dL_law_1267 ?_
  rw [show xs (nI ((6 * i) + 3)).toNatClampNeg = a3 from (congrArg xs (ki_cl (by omega))).trans ea3.symm]
  refine lv_aload_n hx hb dL_law_1268 rfl (lv_at hl 2 rfl) ?_
  refine kj_i (pmJ _ _ _ _) (vx_runSW (As := [.ref x, .int a1, .int a2, .int a3, .ref qo]) (rest := []) ⟨hx, hb, hml, hown, htT⟩ (w_told l hst D cA _ S x qo fo n na hh cc ar ak h a1 a2 a3) (vx_cwSW 5 htT (kg_SW m_ml_L_205 m_st_L_told m_in_L m_cd_L_told) rfl rfl rfl (by decide +kernel) ⟨Nat.le_of_ble_eq_true rfl, Nat.le_of_ble_eq_true rfl⟩) (kj_SX (pmJ _ _ _ _) hK hP hD hTB hTX hS hA) rfl rfl hl.1 rfl (lv_room (Nat.le_of_ble_eq_true rfl)) dL_law_1269 ⟨(by show _ ≤ 601024; omega), (by show _ ≤ 7293034; omega)⟩) hP hD hS hA (fun r_1 x_1 H locs hq_1 hP hD hS => ?_)
  rw [List.append_assoc] at hP hD
  obtain ⟨hC_1, hQ_1⟩ := hq_1
  refine lv_istore (lv' := [(6, .int r_1), (5, .int (nI (6 * i))), (4, .ref qd), (3, .ref qo), (2, .ref am), (1, .ref x), (0, .ref b)]) hx hb dL_law_1272 hl (by decide) rfl (fun ls hl => ?_)
  refine lv_aload_n hx hb dL_law_1274 rfl (lv_at hl 4 rfl) ?_
  refine lv_aload_n hx hb dL_law_1275 rfl (lv_at hl 6 rfl) ?_
  refine lv_iload hx hb dL_law_1276 (lv_at hl 1 rfl) ?_
  refine lv_iconst (v := 1) hx hb dL_law_1278 (by decide) ?_
  refine lv_iadd hx hb dL_law_1279 ?_
  rw [show ((nI (6 * i)) + 1 : Int32) = nI ((6 * i) + 1) from nI_add (6 * i) 1]
  refine va_sld hx hb hX hbl hbA hS (show vp_in (nI ((6 * i) + 1)) L from ki_in (by omega) (by omega)) dL_law_1280 ?_
  rw [show xs (nI ((6 * i) + 1)).toNatClampNeg = a1 from (congrArg xs (ki_cl (by omega))).trans ea1.symm]
  refine lv_aload_n hx hb dL_law_1281 rfl (lv_at hl 6 rfl) ?_
  refine lv_iload hx hb dL_law_1282 (lv_at hl 1 rfl) ?_
  refine lv_iconst (v := 2) hx hb dL_law_1284 (by decide) ?_
  refine lv_iadd hx hb dL_law_1285 ?_
  rw [show ((nI (6 * i)) + 2 : Int32) = nI ((6 * i) + 2) from nI_add (6 * i) 2]
  refine va_sld hx hb hX hbl hbA hS (show vp_in (nI ((6 * i) + 2)) L from ki_in (by omega) (by omega)) dL_law_1286 ?_
  rw [show xs (nI ((6 * i) + 2)).toNatClampNeg = a2 from (congrArg xs (ki_cl (by omega))).trans ea2.symm]
  refine lv_aload_n hx hb dL_law_1287 rfl (lv_at hl 6 rfl) ?_
  refine lv_iload hx hb dL_law_1288 (lv_at hl 1 rfl) ?_
  refine lv_iconst (v := 3) hx hb dL_law_1290 (by decide) ?_
  refine lv_iadd hx hb dL_law_1291 ?_
  rw [show ((nI (6 * i)) + 3 : Int32) = nI ((6 * i) + 3) from nI_add (6 * i) 3]
  refine va_sld hx hb hX hbl hbA hS (show vp_in (nI ((6 * i) + 3)) L from ki_in (by omega) (by omega)) dL_law_1292 ?_
  rw [show xs (nI ((6 * i) + 3)).toNatClampNeg = a3 from (congrArg xs (ki_cl (by omega))).trans ea3.symm]
  refine kj_i (pmM _ _ _ _) (va_runV (As := [.int a1, .int a2, .int a3]) (rest := []) ⟨hx, hb, hml, hown, htT⟩ (t_told l D cA _ am r M n nm hI a1 a2 a3) (cwV 3 htT (kg_V m_ml_L_207 m_im_X6_told m_sl_X6_told m_in_X6 m_cd_X6_told) rfl rfl rfl (by decide +kernel) ⟨Nat.le_of_ble_eq_true rfl, Nat.le_of_ble_eq_true rfl⟩) (kj_V (pmM _ _ _ _) hK hP hD hTB (kj_rm (pmM _ _ _ _) hK hP)) rfl rfl hl.1 rfl (lv_room (Nat.le_of_ble_eq_true rfl)) dL_law_1293 ⟨(by show _ ≤ 601024; omega), (by show _ ≤ 7293034; omega)⟩) hP hD hS hA (fun r_2 x_2 H locs hq_2 hP hD hS => ?_)
  have hP := kj_P (pmM _ _ _ _).symm hP
  have hD := kj_D (pmM _ _ _ _).symm hD
  obtain ⟨hI_2, hM_2⟩ := hq_2
  have ea_2 := hM_2.2 1 (by decide) (by decide)
  have eb_2 := hM_2.2 2 (by decide) (by decide)
  refine lv_istore (lv' := [(7, .int r_2), (6, .int r_1), (5, .int (nI (6 * i))), (4, .ref qd), (3, .ref qo), (2, .ref am), (1, .ref x), (0, .ref b)]) hx hb dL_law_1296 hl (by decide) rfl (fun ls hl => ?_)
  refine lv_goto (tgt := 1757) hx hb dL_law_1298 (by decide) ?_
  refine W.widen (k := c0 + 20) (n := s0 + 400) (by omega) (by omega) ?_
  exact hnext _ x_2 _ _ _ _ _ _ _ _ _ _ _ hd0 hC_1 hI_2 (hL9.qc h hQ_1 hM_2) (ea_2.trans e1) (eb_2.trans e2) hP hD hS (lv_sub hl [2, 3, 4, 5, 6, 7] rfl)

set_option maxRecDepth 100000 in
set_option maxHeartbeats 4000000 in
theorem law_mean (l : Launch) (hst : l.stackTraces = false) {p : Program} {e : Env} {s : State} {m : MethodId} {below : List Frame} {meth : Method} {c : Code} {b L : Nat} {xs : Nat → Int32} (C0 : lw_At p s m meth c b L xs) {D : va_G} {cA : Nat → ClassId} (hK : va_K D vwCl (ty6 cA) s) (hTB : TBok s) (hTX : TXok (fun q : Nat => s.heap.size ≤ q) s) {x ar ak qo qd am : Nat} {r : Nat → Nat} {c0 s0 i : Nat} (hc0 : c0 + 20 ≤ 601024) (hs0 : s0 + 400 ≤ 7293034) (hi : 6 * i + 6 ≤ L) (hL : L ≤ 3072) (hnext : ∀ (S : Pool) (M : MSt) (fo : Nat → Int64) (fd : Nat → UInt64) (n na nm : Nat) (hh cc : Int32) (H : Heap) (locs : List Loc) (ls : Array Slot) (d : Drawn), s.drawn.sameBut d lw_cs → INVC n na hh cc S x ar ak → INVR n nm M → REL False n 0 S M ar → M.1 1 = cc → M.1 2 = hh → va_P D vwCl (LW cA S qo fo qd fd am r M) H → va_D (fun q : Nat => s.heap.size ≤ q) (LW cA S qo fo qd fd am r M) → va_S (fun q : Nat => s.heap.size ≤ q) s.heap H locs → lv_has ls 9 [(5, .int (nI (6 * i))), (4, .ref qd), (3, .ref qo), (2, .ref am), (1, .ref x), (0, .ref b)] → W p l e room_1 (s.setDrawn d) m #[Value.ref b] below meth c H locs (c0 + 20) (s0 + 400) (lw_Z below #[Value.ref b] s) (F0 m 1757 ls [])) {S : Pool} {M : MSt} {fo : Nat → Int64} {fd : Nat → UInt64} {n na nm : Nat} {hh cc : Int32} {H : Heap} {locs : List Loc} {ls : Array Slot} {d : Drawn} (hd0 : s.drawn.sameBut d lw_cs) (h : INVC n na hh cc S x ar ak) (hI : INVR n nm M) (hL9 : REL False n 0 S M ar) (e1 : M.1 1 = cc) (e2 : M.1 2 = hh) (hP : va_P D vwCl (LW cA S qo fo qd fd am r M) H) (hD : va_D (fun q : Nat => s.heap.size ≤ q) (LW cA S qo fo qd fd am r M)) (hS : va_S (fun q : Nat => s.heap.size ≤ q) s.heap H locs) (hl : lv_has ls 9 [(5, .int (nI (6 * i))), (4, .ref qd), (3, .ref qo), (2, .ref am), (1, .ref x), (0, .ref b)]) : W p l e room_1 (s.setDrawn d) m #[Value.ref b] below meth c H locs c0 s0 (lw_Z below #[Value.ref b] s) (F0 m 1301 ls []) := by
  obtain ⟨hx, hb, hr, hml, hown, hts, hX, hbl, hlocks, hgv⟩ := id C0
  have hA : ∀ q : Nat, s.heap.size ≤ q → (fun q : Nat => s.heap.size ≤ q) q := fun _ h => h
  have hbA : ¬ (fun q : Nat => s.heap.size ≤ q) b := Nat.not_le.mpr hbl
  obtain ⟨a1, ea1⟩ : ∃ z, z = xs (6 * i + 1) := ⟨_, rfl⟩
  obtain ⟨a2, ea2⟩ : ∃ z, z = xs (6 * i + 2) := ⟨_, rfl⟩
  obtain ⟨a3, ea3⟩ : ∃ z, z = xs (6 * i + 3) := ⟨_, rfl⟩
  obtain ⟨a4, ea4⟩ : ∃ z, z = xs (6 * i + 4) := ⟨_, rfl⟩
  obtain ⟨a5, ea5⟩ : ∃ z, z = xs (6 * i + 5) := ⟨_, rfl⟩
  have htT0 : ∀ w ∈ TT, w.before _ s = true := fun w h => hts w (tt_in h)
  have hTB0 := hTB
  have hK0 := hK
  have hown0 : s.vm.findClass RL = some m.cls := hown
  have hTX0 := hTX
  have hX0 := hX
  have htT : ∀ w ∈ TT, w.before _ (s.setDrawn d) = true := dr_words htT0 d
  have hTB : TBok (s.setDrawn d) := TBok.same (u := s) (U := s.setDrawn d) rfl (Vm.Alike.refl s.vm) hTB0
  have hK : va_K D vwCl (ty6 cA) (s.setDrawn d) := hK0
  have hown : (s.setDrawn d).vm.findClass RL = some m.cls := hown0
  have hTX : TXok (fun q : Nat => s.heap.size ≤ q) (s.setDrawn d) := hTX0.dr d
  have hX : va_X b L xs (s.setDrawn d) (s.setDrawn d).heap := hX0
  refine lv_aload_n hx hb dL_law_1301 rfl (lv_at hl 4 rfl) ?_
  refine lv_aload_n hx hb dL_law_1302 rfl (lv_at hl 5 rfl) ?_
  refine lv_iload hx hb dL_law_1303 (lv_at hl 0 rfl) ?_
  refine lv_iconst (v := 1) hx hb dL_law_1305 (by decide) ?_
  refine lv_iadd hx hb dL_law_1306 ?_
  rw [show ((nI (6 * i)) + 1 : Int32) = nI ((6 * i) + 1) from nI_add (6 * i) 1]
  refine va_sld hx hb hX hbl hbA hS (show vp_in (nI ((6 * i) + 1)) L from ki_in (by omega) (by omega)) dL_law_1307 ?_
  rw [show xs (nI ((6 * i) + 1)).toNatClampNeg = a1 from (congrArg xs (ki_cl (by omega))).trans ea1.symm]
  refine lv_aload_n hx hb dL_law_1308 rfl (lv_at hl 5 rfl) ?_
  refine lv_iload hx hb dL_law_1309 (lv_at hl 0 rfl) ?_
  refine lv_iconst (v := 2) hx hb dL_law_1311 (by decide) ?_
  refine lv_iadd hx hb dL_law_1312 ?_
  rw [show ((nI (6 * i)) + 2 : Int32) = nI ((6 * i) + 2) from nI_add (6 * i) 2]
  refine va_sld hx hb hX hbl hbA hS (show vp_in (nI ((6 * i) + 2)) L from ki_in (by omega) (by omega)) dL_law_1313 ?_
  rw [show xs (nI ((6 * i) + 2)).toNatClampNeg = a2 from (congrArg xs (ki_cl (by omega))).trans ea2.symm]
  refine lv_aload hx hb dL_law_1314 (lv_at hl 1 rfl) ?_
  refine kjD_i hd0 (pmD _ _ _ _) (kd_runSW (As := [.ref x, .int a1, .int a2, .ref qd]) (rest := []) ⟨hx, hb, hml, hown, htT⟩ (w_mean l hst D cA _ S x qd fd n na hh cc ar ak h a1 a2) (vx_cwSW 4 htT (kg_SW m_ml_L_208 m_st_L_mean m_in_L m_cd_L_mean) rfl rfl rfl (by decide +kernel) ⟨Nat.le_of_ble_eq_true rfl, Nat.le_of_ble_eq_true rfl⟩) (kj_SX (pmD _ _ _ _) hK hP hD hTB hTX hS hA) rfl rfl hl.1 rfl (lv_room (Nat.le_of_ble_eq_true rfl)) dL_law_1316 ⟨(by show _ ≤ 601024; omega), (by show _ ≤ 7293034; omega)⟩) hP hD hS hA (fun r_1 x_1 H locs hq_1 hP hD hS d_1 hd0 => ?_)
  have htT : ∀ w ∈ TT, w.before _ (s.setDrawn d_1) = true := dr_words htT0 d_1
  have hTB : TBok (s.setDrawn d_1) := TBok.same (u := s) (U := s.setDrawn d_1) rfl (Vm.Alike.refl s.vm) hTB0
  have hK : va_K D vwCl (ty6 cA) (s.setDrawn d_1) := hK0
  have hown : (s.setDrawn d_1).vm.findClass RL = some m.cls := hown0
  have hTX : TXok (fun q : Nat => s.heap.size ≤ q) (s.setDrawn d_1) := hTX0.dr d_1
  have hX : va_X b L xs (s.setDrawn d_1) (s.setDrawn d_1).heap := hX0
  have hP := kj_P (pmD _ _ _ _).symm hP
  have hD := kj_D (pmD _ _ _ _).symm hD
  obtain ⟨hC_1, hQ_1⟩ := hq_1
  refine lv_istore (lv' := [(6, .int r_1), (5, .int (nI (6 * i))), (4, .ref qd), (3, .ref qo), (2, .ref am), (1, .ref x), (0, .ref b)]) hx hb dL_law_1319 hl (by decide) rfl (fun ls hl => ?_)
  refine lv_aload_n hx hb dL_law_1321 rfl (lv_at hl 4 rfl) ?_
  refine lv_aload_n hx hb dL_law_1322 rfl (lv_at hl 6 rfl) ?_
  refine lv_iload hx hb dL_law_1323 (lv_at hl 1 rfl) ?_
  refine lv_iconst (v := 1) hx hb dL_law_1325 (by decide) ?_
  refine lv_iadd hx hb dL_law_1326 ?_
  rw [show ((nI (6 * i)) + 1 : Int32) = nI ((6 * i) + 1) from nI_add (6 * i) 1]
  refine va_sld hx hb hX hbl hbA hS (show vp_in (nI ((6 * i) + 1)) L from ki_in (by omega) (by omega)) dL_law_1327 ?_
  rw [show xs (nI ((6 * i) + 1)).toNatClampNeg = a1 from (congrArg xs (ki_cl (by omega))).trans ea1.symm]
  refine lv_aload_n hx hb dL_law_1328 rfl (lv_at hl 6 rfl) ?_
  refine lv_iload hx hb dL_law_1329 (lv_at hl 1 rfl) ?_
  refine lv_iconst (v := 2) hx hb dL_law_1331 (by decide) ?_
  refine lv_iadd hx hb dL_law_1332 ?_
  rw [show ((nI (6 * i)) + 2 : Int32) = nI ((6 * i) + 2) from nI_add (6 * i) 2]
  refine va_sld hx hb hX hbl hbA hS (show vp_in (nI ((6 * i) + 2)) L from ki_in (by omega) (by omega)) dL_law_1333 ?_
  rw [show xs (nI ((6 * i) + 2)).toNatClampNeg = a2 from (congrArg xs (ki_cl (by omega))).trans ea2.symm]
  refine kjD_d hd0 (pmM _ _ _ _) (va_runV_D (As := [.int a1, .int a2]) (rest := []) ⟨hx, hb, hml, hown, htT⟩ (t_mean l D cA _ am r M n nm hI a1 a2) (cwV 2 htT (kg_V m_ml_L_211 m_im_X6_mean m_sl_X6_mean m_in_X6 m_cd_X6_mean) rfl rfl rfl (by decide +kernel) ⟨Nat.le_of_ble_eq_true rfl, Nat.le_of_ble_eq_true rfl⟩) (kj_V (pmM _ _ _ _) hK hP hD hTB (kj_rm (pmM _ _ _ _) hK hP)) rfl rfl hl.1 rfl (lv_room (Nat.le_of_ble_eq_true rfl)) dL_law_1334 ⟨(by show _ ≤ 601024; omega), (by show _ ≤ 7293034; omega)⟩) hP hD hS hA (fun r_2 x_2 H locs hq_2 hP hD hS d_2 hd0 => ?_)
  have htT : ∀ w ∈ TT, w.before _ (s.setDrawn d_2) = true := dr_words htT0 d_2
  have hTB : TBok (s.setDrawn d_2) := TBok.same (u := s) (U := s.setDrawn d_2) rfl (Vm.Alike.refl s.vm) hTB0
  have hK : va_K D vwCl (ty6 cA) (s.setDrawn d_2) := hK0
  have hown : (s.setDrawn d_2).vm.findClass RL = some m.cls := hown0
  have hTX : TXok (fun q : Nat => s.heap.size ≤ q) (s.setDrawn d_2) := hTX0.dr d_2
  have hX : va_X b L xs (s.setDrawn d_2) (s.setDrawn d_2).heap := hX0
  have hP := kj_P (pmM _ _ _ _).symm hP
  have hD := kj_D (pmM _ _ _ _).symm hD
  obtain ⟨hI_2, hM_2⟩ := hq_2
  have ea_2 := hM_2.2 1 (by decide) (by decide)
  have eb_2 := hM_2.2 2 (by decide) (by decide)
  refine lv_dstore (lv' := [(7, .double r_2), (6, .int r_1), (5, .int (nI (6 * i))), (4, .ref qd), (3, .ref qo), (2, .ref am), (1, .ref x), (0, .ref b)]) hx hb dL_law_1337 hl (by decide) rfl (fun ls hl => ?_)
  refine lv_goto (tgt := 1757) hx hb dL_law_1339 (by decide) ?_
  refine W.widen (k := c0 + 20) (n := s0 + 400) (by omega) (by omega) ?_
  exact hnext _ x_2 _ _ _ _ _ _ _ _ _ _ _ hd0 hC_1 hI_2 (hL9.qc h hQ_1 hM_2) (ea_2.trans e1) (eb_2.trans e2) hP hD hS (lv_sub hl [2, 3, 4, 5, 6, 7] rfl)

set_option maxRecDepth 100000 in
set_option maxHeartbeats 4000000 in
theorem law_lift (l : Launch) (hst : l.stackTraces = false) {p : Program} {e : Env} {s : State} {m : MethodId} {below : List Frame} {meth : Method} {c : Code} {b L : Nat} {xs : Nat → Int32} (C0 : lw_At p s m meth c b L xs) {D : va_G} {cA : Nat → ClassId} (hK : va_K D vwCl (ty6 cA) s) (hTB : TBok s) (hTX : TXok (fun q : Nat => s.heap.size ≤ q) s) {x ar ak qo qd am : Nat} {r : Nat → Nat} {c0 s0 i : Nat} (hc0 : c0 + 20 ≤ 601024) (hs0 : s0 + 400 ≤ 7293034) (hi : 6 * i + 6 ≤ L) (hL : L ≤ 3072) (hnext : ∀ (S : Pool) (M : MSt) (fo : Nat → Int64) (fd : Nat → UInt64) (n na nm : Nat) (hh cc : Int32) (H : Heap) (locs : List Loc) (ls : Array Slot) (d : Drawn), s.drawn.sameBut d lw_cs → INVC n na hh cc S x ar ak → INVR n nm M → REL False n 0 S M ar → M.1 1 = cc → M.1 2 = hh → va_P D vwCl (LW cA S qo fo qd fd am r M) H → va_D (fun q : Nat => s.heap.size ≤ q) (LW cA S qo fo qd fd am r M) → va_S (fun q : Nat => s.heap.size ≤ q) s.heap H locs → lv_has ls 9 [(5, .int (nI (6 * i))), (4, .ref qd), (3, .ref qo), (2, .ref am), (1, .ref x), (0, .ref b)] → W p l e room_1 (s.setDrawn d) m #[Value.ref b] below meth c H locs (c0 + 20) (s0 + 400) (lw_Z below #[Value.ref b] s) (F0 m 1757 ls [])) {S : Pool} {M : MSt} {fo : Nat → Int64} {fd : Nat → UInt64} {n na nm : Nat} {hh cc : Int32} {H : Heap} {locs : List Loc} {ls : Array Slot} {d : Drawn} (hd0 : s.drawn.sameBut d lw_cs) (h : INVC n na hh cc S x ar ak) (hI : INVR n nm M) (hL9 : REL False n 0 S M ar) (e1 : M.1 1 = cc) (e2 : M.1 2 = hh) (hP : va_P D vwCl (LW cA S qo fo qd fd am r M) H) (hD : va_D (fun q : Nat => s.heap.size ≤ q) (LW cA S qo fo qd fd am r M)) (hS : va_S (fun q : Nat => s.heap.size ≤ q) s.heap H locs) (hl : lv_has ls 9 [(5, .int (nI (6 * i))), (4, .ref qd), (3, .ref qo), (2, .ref am), (1, .ref x), (0, .ref b)]) : W p l e room_1 (s.setDrawn d) m #[Value.ref b] below meth c H locs c0 s0 (lw_Z below #[Value.ref b] s) (F0 m 1342 ls []) := by
  obtain ⟨hx, hb, hr, hml, hown, hts, hX, hbl, hlocks, hgv⟩ := id C0
  have hA : ∀ q : Nat, s.heap.size ≤ q → (fun q : Nat => s.heap.size ≤ q) q := fun _ h => h
  have hbA : ¬ (fun q : Nat => s.heap.size ≤ q) b := Nat.not_le.mpr hbl
  obtain ⟨a1, ea1⟩ : ∃ z, z = xs (6 * i + 1) := ⟨_, rfl⟩
  obtain ⟨a2, ea2⟩ : ∃ z, z = xs (6 * i + 2) := ⟨_, rfl⟩
  obtain ⟨a3, ea3⟩ : ∃ z, z = xs (6 * i + 3) := ⟨_, rfl⟩
  obtain ⟨a4, ea4⟩ : ∃ z, z = xs (6 * i + 4) := ⟨_, rfl⟩
  obtain ⟨a5, ea5⟩ : ∃ z, z = xs (6 * i + 5) := ⟨_, rfl⟩
  have htT0 : ∀ w ∈ TT, w.before _ s = true := fun w h => hts w (tt_in h)
  have hTB0 := hTB
  have hK0 := hK
  have hown0 : s.vm.findClass RL = some m.cls := hown
  have hTX0 := hTX
  have hX0 := hX
  have htT : ∀ w ∈ TT, w.before _ (s.setDrawn d) = true := dr_words htT0 d
  have hTB : TBok (s.setDrawn d) := TBok.same (u := s) (U := s.setDrawn d) rfl (Vm.Alike.refl s.vm) hTB0
  have hK : va_K D vwCl (ty6 cA) (s.setDrawn d) := hK0
  have hown : (s.setDrawn d).vm.findClass RL = some m.cls := hown0
  have hTX : TXok (fun q : Nat => s.heap.size ≤ q) (s.setDrawn d) := hTX0.dr d
  have hX : va_X b L xs (s.setDrawn d) (s.setDrawn d).heap := hX0
  refine lv_aload_n hx hb dL_law_1342 rfl (lv_at hl 4 rfl) ?_
  refine lv_aload_n hx hb dL_law_1343 rfl (lv_at hl 5 rfl) ?_
  refine lv_iload hx hb dL_law_1344 (lv_at hl 0 rfl) ?_
  refine lv_iconst (v := 1) hx hb dL_law_1346 (by decide) ?_
  refine lv_iadd hx hb dL_law_1347 ?_
  rw [show ((nI (6 * i)) + 1 : Int32) = nI ((6 * i) + 1) from nI_add (6 * i) 1]
  refine va_sld hx hb hX hbl hbA hS (show vp_in (nI ((6 * i) + 1)) L from ki_in (by omega) (by omega)) dL_law_1348 ?_
  rw [show xs (nI ((6 * i) + 1)).toNatClampNeg = a1 from (congrArg xs (ki_cl (by omega))).trans ea1.symm]
  refine lv_aload_n hx hb dL_law_1349 rfl (lv_at hl 5 rfl) ?_
  refine lv_iload hx hb dL_law_1350 (lv_at hl 0 rfl) ?_
  refine lv_iconst (v := 2) hx hb dL_law_1352 (by decide) ?_
  refine lv_iadd hx hb dL_law_1353 ?_
  rw [show ((nI (6 * i)) + 2 : Int32) = nI ((6 * i) + 2) from nI_add (6 * i) 2]
  refine va_sld hx hb hX hbl hbA hS (show vp_in (nI ((6 * i) + 2)) L from ki_in (by omega) (by omega)) dL_law_1354 ?_
  rw [show xs (nI ((6 * i) + 2)).toNatClampNeg = a2 from (congrArg xs (ki_cl (by omega))).trans ea2.symm]
  refine lv_aload hx hb dL_law_1355 (lv_at hl 1 rfl) ?_
  refine kjD_i hd0 (pmD _ _ _ _) (kd_runSW (As := [.ref x, .int a1, .int a2, .ref qd]) (rest := []) ⟨hx, hb, hml, hown, htT⟩ (w_lift l hst D cA _ S x qd fd n na hh cc ar ak h a1 a2) (vx_cwSW 4 htT (kg_SW m_ml_L_212 m_st_L_lift m_in_L m_cd_L_lift) rfl rfl rfl (by decide +kernel) ⟨Nat.le_of_ble_eq_true rfl, Nat.le_of_ble_eq_true rfl⟩) (kj_SX (pmD _ _ _ _) hK hP hD hTB hTX hS hA) rfl rfl hl.1 rfl (lv_room (Nat.le_of_ble_eq_true rfl)) dL_law_1357 ⟨(by show _ ≤ 601024; omega), (by show _ ≤ 7293034; omega)⟩) hP hD hS hA (fun r_1 x_1 H locs hq_1 hP hD hS d_1 hd0 => ?_)
  have htT : ∀ w ∈ TT, w.before _ (s.setDrawn d_1) = true := dr_words htT0 d_1
  have hTB : TBok (s.setDrawn d_1) := TBok.same (u := s) (U := s.setDrawn d_1) rfl (Vm.Alike.refl s.vm) hTB0
  have hK : va_K D vwCl (ty6 cA) (s.setDrawn d_1) := hK0
  have hown : (s.setDrawn d_1).vm.findClass RL = some m.cls := hown0
  have hTX : TXok (fun q : Nat => s.heap.size ≤ q) (s.setDrawn d_1) := hTX0.dr d_1
  have hX : va_X b L xs (s.setDrawn d_1) (s.setDrawn d_1).heap := hX0
  have hP := kj_P (pmD _ _ _ _).symm hP
  have hD := kj_D (pmD _ _ _ _).symm hD
  obtain ⟨hC_1, hQ_1⟩ := hq_1
  refine lv_istore (lv' := [(6, .int r_1), (5, .int (nI (6 * i))), (4, .ref qd), (3, .ref qo), (2, .ref am), (1, .ref x), (0, .ref b)]) hx hb dL_law_1360 hl (by decide) rfl (fun ls hl => ?_)
  refine lv_aload_n hx hb dL_law_1362 rfl (lv_at hl 4 rfl) ?_
  refine lv_aload_n hx hb dL_law_1363 rfl (lv_at hl 6 rfl) ?_
  refine lv_iload hx hb dL_law_1364 (lv_at hl 1 rfl) ?_
  refine lv_iconst (v := 1) hx hb dL_law_1366 (by decide) ?_
  refine lv_iadd hx hb dL_law_1367 ?_
  rw [show ((nI (6 * i)) + 1 : Int32) = nI ((6 * i) + 1) from nI_add (6 * i) 1]
  refine va_sld hx hb hX hbl hbA hS (show vp_in (nI ((6 * i) + 1)) L from ki_in (by omega) (by omega)) dL_law_1368 ?_
  rw [show xs (nI ((6 * i) + 1)).toNatClampNeg = a1 from (congrArg xs (ki_cl (by omega))).trans ea1.symm]
  refine lv_aload_n hx hb dL_law_1369 rfl (lv_at hl 6 rfl) ?_
  refine lv_iload hx hb dL_law_1370 (lv_at hl 1 rfl) ?_
  refine lv_iconst (v := 2) hx hb dL_law_1372 (by decide) ?_
  refine lv_iadd hx hb dL_law_1373 ?_
  rw [show ((nI (6 * i)) + 2 : Int32) = nI ((6 * i) + 2) from nI_add (6 * i) 2]
  refine va_sld hx hb hX hbl hbA hS (show vp_in (nI ((6 * i) + 2)) L from ki_in (by omega) (by omega)) dL_law_1374 ?_
  rw [show xs (nI ((6 * i) + 2)).toNatClampNeg = a2 from (congrArg xs (ki_cl (by omega))).trans ea2.symm]
  refine kjD_d hd0 (pmM _ _ _ _) (va_runV_D (As := [.int a1, .int a2]) (rest := []) ⟨hx, hb, hml, hown, htT⟩ (t_lift l D cA _ am r M n nm hI a1 a2) (cwV 2 htT (kg_V m_ml_L_214 m_im_X6_lift m_sl_X6_lift m_in_X6 m_cd_X6_lift) rfl rfl rfl (by decide +kernel) ⟨Nat.le_of_ble_eq_true rfl, Nat.le_of_ble_eq_true rfl⟩) (kj_V (pmM _ _ _ _) hK hP hD hTB (kj_rm (pmM _ _ _ _) hK hP)) rfl rfl hl.1 rfl (lv_room (Nat.le_of_ble_eq_true rfl)) dL_law_1375 ⟨(by show _ ≤ 601024; omega), (by show _ ≤ 7293034; omega)⟩) hP hD hS hA (fun r_2 x_2 H locs hq_2 hP hD hS d_2 hd0 => ?_)
  have htT : ∀ w ∈ TT, w.before _ (s.setDrawn d_2) = true := dr_words htT0 d_2
  have hTB : TBok (s.setDrawn d_2) := TBok.same (u := s) (U := s.setDrawn d_2) rfl (Vm.Alike.refl s.vm) hTB0
  have hK : va_K D vwCl (ty6 cA) (s.setDrawn d_2) := hK0
  have hown : (s.setDrawn d_2).vm.findClass RL = some m.cls := hown0
  have hTX : TXok (fun q : Nat => s.heap.size ≤ q) (s.setDrawn d_2) := hTX0.dr d_2
  have hX : va_X b L xs (s.setDrawn d_2) (s.setDrawn d_2).heap := hX0
  have hP := kj_P (pmM _ _ _ _).symm hP
  have hD := kj_D (pmM _ _ _ _).symm hD
  obtain ⟨hI_2, hM_2⟩ := hq_2
  have ea_2 := hM_2.2 1 (by decide) (by decide)
  have eb_2 := hM_2.2 2 (by decide) (by decide)
  refine lv_dstore (lv' := [(7, .double r_2), (6, .int r_1), (5, .int (nI (6 * i))), (4, .ref qd), (3, .ref qo), (2, .ref am), (1, .ref x), (0, .ref b)]) hx hb dL_law_1378 hl (by decide) rfl (fun ls hl => ?_)
  refine lv_goto (tgt := 1757) hx hb dL_law_1380 (by decide) ?_
  refine W.widen (k := c0 + 20) (n := s0 + 400) (by omega) (by omega) ?_
  exact hnext _ x_2 _ _ _ _ _ _ _ _ _ _ _ hd0 hC_1 hI_2 (hL9.qc h hQ_1 hM_2) (ea_2.trans e1) (eb_2.trans e2) hP hD hS (lv_sub hl [2, 3, 4, 5, 6, 7] rfl)

set_option maxRecDepth 100000 in
set_option maxHeartbeats 4000000 in
theorem law_sure (l : Launch) (hst : l.stackTraces = false) {p : Program} {e : Env} {s : State} {m : MethodId} {below : List Frame} {meth : Method} {c : Code} {b L : Nat} {xs : Nat → Int32} (C0 : lw_At p s m meth c b L xs) {D : va_G} {cA : Nat → ClassId} (hK : va_K D vwCl (ty6 cA) s) (hTB : TBok s) (hTX : TXok (fun q : Nat => s.heap.size ≤ q) s) {x ar ak qo qd am : Nat} {r : Nat → Nat} {c0 s0 i : Nat} (hc0 : c0 + 20 ≤ 601024) (hs0 : s0 + 400 ≤ 7293034) (hi : 6 * i + 6 ≤ L) (hL : L ≤ 3072) (hnext : ∀ (S : Pool) (M : MSt) (fo : Nat → Int64) (fd : Nat → UInt64) (n na nm : Nat) (hh cc : Int32) (H : Heap) (locs : List Loc) (ls : Array Slot) (d : Drawn), s.drawn.sameBut d lw_cs → INVC n na hh cc S x ar ak → INVR n nm M → REL False n 0 S M ar → M.1 1 = cc → M.1 2 = hh → va_P D vwCl (LW cA S qo fo qd fd am r M) H → va_D (fun q : Nat => s.heap.size ≤ q) (LW cA S qo fo qd fd am r M) → va_S (fun q : Nat => s.heap.size ≤ q) s.heap H locs → lv_has ls 9 [(5, .int (nI (6 * i))), (4, .ref qd), (3, .ref qo), (2, .ref am), (1, .ref x), (0, .ref b)] → W p l e room_1 (s.setDrawn d) m #[Value.ref b] below meth c H locs (c0 + 20) (s0 + 400) (lw_Z below #[Value.ref b] s) (F0 m 1757 ls [])) {S : Pool} {M : MSt} {fo : Nat → Int64} {fd : Nat → UInt64} {n na nm : Nat} {hh cc : Int32} {H : Heap} {locs : List Loc} {ls : Array Slot} {d : Drawn} (hd0 : s.drawn.sameBut d lw_cs) (h : INVC n na hh cc S x ar ak) (hI : INVR n nm M) (hL9 : REL False n 0 S M ar) (e1 : M.1 1 = cc) (e2 : M.1 2 = hh) (hP : va_P D vwCl (LW cA S qo fo qd fd am r M) H) (hD : va_D (fun q : Nat => s.heap.size ≤ q) (LW cA S qo fo qd fd am r M)) (hS : va_S (fun q : Nat => s.heap.size ≤ q) s.heap H locs) (hl : lv_has ls 9 [(5, .int (nI (6 * i))), (4, .ref qd), (3, .ref qo), (2, .ref am), (1, .ref x), (0, .ref b)]) : W p l e room_1 (s.setDrawn d) m #[Value.ref b] below meth c H locs c0 s0 (lw_Z below #[Value.ref b] s) (F0 m 1383 ls []) := by
  obtain ⟨hx, hb, hr, hml, hown, hts, hX, hbl, hlocks, hgv⟩ := id C0
  have hA : ∀ q : Nat, s.heap.size ≤ q → (fun q : Nat => s.heap.size ≤ q) q := fun _ h => h
  have hbA : ¬ (fun q : Nat => s.heap.size ≤ q) b := Nat.not_le.mpr hbl
  obtain ⟨a1, ea1⟩ : ∃ z, z = xs (6 * i + 1) := ⟨_, rfl⟩
  obtain ⟨a2, ea2⟩ : ∃ z, z = xs (6 * i + 2) := ⟨_, rfl⟩
  obtain ⟨a3, ea3⟩ : ∃ z, z = xs (6 * i + 3) := ⟨_, rfl⟩
  obtain ⟨a4, ea4⟩ : ∃ z, z = xs (6 * i + 4) := ⟨_, rfl⟩
  obtain ⟨a5, ea5⟩ : ∃ z, z = xs (6 * i + 5) := ⟨_, rfl⟩
  have htT0 : ∀ w ∈ TT, w.before _ s = true := fun w h => hts w (tt_in h)
  have hTB0 := hTB
  have hK0 := hK
  have hown0 : s.vm.findClass RL = some m.cls := hown
  have hTX0 := hTX
  have hX0 := hX
  have htT : ∀ w ∈ TT, w.before _ (s.setDrawn d) = true := dr_words htT0 d
  have hTB : TBok (s.setDrawn d) := TBok.same (u := s) (U := s.setDrawn d) rfl (Vm.Alike.refl s.vm) hTB0
  have hK : va_K D vwCl (ty6 cA) (s.setDrawn d) := hK0
  have hown : (s.setDrawn d).vm.findClass RL = some m.cls := hown0
  have hTX : TXok (fun q : Nat => s.heap.size ≤ q) (s.setDrawn d) := hTX0.dr d
  have hX : va_X b L xs (s.setDrawn d) (s.setDrawn d).heap := hX0
  refine lv_aload_n hx hb dL_law_1383 rfl (lv_at hl 4 rfl) ?_
  refine lv_aload_n hx hb dL_law_1384 rfl (lv_at hl 5 rfl) ?_
  refine lv_iload hx hb dL_law_1385 (lv_at hl 0 rfl) ?_
  refine lv_iconst (v := 1) hx hb dL_law_1387 (by decide) ?_
  refine lv_iadd hx hb dL_law_1388 ?_
  rw [show ((nI (6 * i)) + 1 : Int32) = nI ((6 * i) + 1) from nI_add (6 * i) 1]
  refine va_sld hx hb hX hbl hbA hS (show vp_in (nI ((6 * i) + 1)) L from ki_in (by omega) (by omega)) dL_law_1389 ?_
  rw [show xs (nI ((6 * i) + 1)).toNatClampNeg = a1 from (congrArg xs (ki_cl (by omega))).trans ea1.symm]
  refine lv_aload_n hx hb dL_law_1390 rfl (lv_at hl 5 rfl) ?_
  refine lv_iload hx hb dL_law_1391 (lv_at hl 0 rfl) ?_
  refine lv_iconst (v := 2) hx hb dL_law_1393 (by decide) ?_
  refine lv_iadd hx hb dL_law_1394 ?_
  rw [show ((nI (6 * i)) + 2 : Int32) = nI ((6 * i) + 2) from nI_add (6 * i) 2]
  refine va_sld hx hb hX hbl hbA hS (show vp_in (nI ((6 * i) + 2)) L from ki_in (by omega) (by omega)) dL_law_1395 ?_
  rw [show xs (nI ((6 * i) + 2)).toNatClampNeg = a2 from (congrArg xs (ki_cl (by omega))).trans ea2.symm]
  refine lv_aload hx hb dL_law_1396 (lv_at hl 1 rfl) ?_
  refine kjD_i hd0 (pmD _ _ _ _) (kd_runSW (As := [.ref x, .int a1, .int a2, .ref qd]) (rest := []) ⟨hx, hb, hml, hown, htT⟩ (w_sure l hst D cA _ S x qd fd n na hh cc ar ak h a1 a2) (vx_cwSW 4 htT (kg_SW m_ml_L_215 m_st_L_sure m_in_L m_cd_L_sure) rfl rfl rfl (by decide +kernel) ⟨Nat.le_of_ble_eq_true rfl, Nat.le_of_ble_eq_true rfl⟩) (kj_SX (pmD _ _ _ _) hK hP hD hTB hTX hS hA) rfl rfl hl.1 rfl (lv_room (Nat.le_of_ble_eq_true rfl)) dL_law_1398 ⟨(by show _ ≤ 601024; omega), (by show _ ≤ 7293034; omega)⟩) hP hD hS hA (fun r_1 x_1 H locs hq_1 hP hD hS d_1 hd0 => ?_)
  have htT : ∀ w ∈ TT, w.before _ (s.setDrawn d_1) = true := dr_words htT0 d_1
  have hTB : TBok (s.setDrawn d_1) := TBok.same (u := s) (U := s.setDrawn d_1) rfl (Vm.Alike.refl s.vm) hTB0
  have hK : va_K D vwCl (ty6 cA) (s.setDrawn d_1) := hK0
  have hown : (s.setDrawn d_1).vm.findClass RL = some m.cls := hown0
  have hTX : TXok (fun q : Nat => s.heap.size ≤ q) (s.setDrawn d_1) := hTX0.dr d_1
  have hX : va_X b L xs (s.setDrawn d_1) (s.setDrawn d_1).heap := hX0
  have hP := kj_P (pmD _ _ _ _).symm hP
  have hD := kj_D (pmD _ _ _ _).symm hD
  obtain ⟨hC_1, hQ_1⟩ := hq_1
  refine lv_istore (lv' := [(6, .int r_1), (5, .int (nI (6 * i))), (4, .ref qd), (3, .ref qo), (2, .ref am), (1, .ref x), (0, .ref b)]) hx hb dL_law_1401 hl (by decide) rfl (fun ls hl => ?_)
  refine lv_aload_n hx hb dL_law_1403 rfl (lv_at hl 4 rfl) ?_
  refine lv_aload_n hx hb dL_law_1404 rfl (lv_at hl 6 rfl) ?_
  refine lv_iload hx hb dL_law_1405 (lv_at hl 1 rfl) ?_
  refine lv_iconst (v := 1) hx hb dL_law_1407 (by decide) ?_
  refine lv_iadd hx hb dL_law_1408 ?_
  rw [show ((nI (6 * i)) + 1 : Int32) = nI ((6 * i) + 1) from nI_add (6 * i) 1]
  refine va_sld hx hb hX hbl hbA hS (show vp_in (nI ((6 * i) + 1)) L from ki_in (by omega) (by omega)) dL_law_1409 ?_
  rw [show xs (nI ((6 * i) + 1)).toNatClampNeg = a1 from (congrArg xs (ki_cl (by omega))).trans ea1.symm]
  refine lv_aload_n hx hb dL_law_1410 rfl (lv_at hl 6 rfl) ?_
  refine lv_iload hx hb dL_law_1411 (lv_at hl 1 rfl) ?_
  refine lv_iconst (v := 2) hx hb dL_law_1413 (by decide) ?_
  refine lv_iadd hx hb dL_law_1414 ?_
  rw [show ((nI (6 * i)) + 2 : Int32) = nI ((6 * i) + 2) from nI_add (6 * i) 2]
  refine va_sld hx hb hX hbl hbA hS (show vp_in (nI ((6 * i) + 2)) L from ki_in (by omega) (by omega)) dL_law_1415 ?_
  rw [show xs (nI ((6 * i) + 2)).toNatClampNeg = a2 from (congrArg xs (ki_cl (by omega))).trans ea2.symm]
  refine kjD_d hd0 (pmM _ _ _ _) (va_runV_D (As := [.int a1, .int a2]) (rest := []) ⟨hx, hb, hml, hown, htT⟩ (t_sure l D cA _ am r M n nm hI a1 a2) (cwV 2 htT (kg_V m_ml_L_217 m_im_X6_sure m_sl_X6_sure m_in_X6 m_cd_X6_sure) rfl rfl rfl (by decide +kernel) ⟨Nat.le_of_ble_eq_true rfl, Nat.le_of_ble_eq_true rfl⟩) (kj_V (pmM _ _ _ _) hK hP hD hTB (kj_rm (pmM _ _ _ _) hK hP)) rfl rfl hl.1 rfl (lv_room (Nat.le_of_ble_eq_true rfl)) dL_law_1416 ⟨(by show _ ≤ 601024; omega), (by show _ ≤ 7293034; omega)⟩) hP hD hS hA (fun r_2 x_2 H locs hq_2 hP hD hS d_2 hd0 => ?_)
  have htT : ∀ w ∈ TT, w.before _ (s.setDrawn d_2) = true := dr_words htT0 d_2
  have hTB : TBok (s.setDrawn d_2) := TBok.same (u := s) (U := s.setDrawn d_2) rfl (Vm.Alike.refl s.vm) hTB0
  have hK : va_K D vwCl (ty6 cA) (s.setDrawn d_2) := hK0
  have hown : (s.setDrawn d_2).vm.findClass RL = some m.cls := hown0
  have hTX : TXok (fun q : Nat => s.heap.size ≤ q) (s.setDrawn d_2) := hTX0.dr d_2
  have hX : va_X b L xs (s.setDrawn d_2) (s.setDrawn d_2).heap := hX0
  have hP := kj_P (pmM _ _ _ _).symm hP
  have hD := kj_D (pmM _ _ _ _).symm hD
  obtain ⟨hI_2, hM_2⟩ := hq_2
  have ea_2 := hM_2.2 1 (by decide) (by decide)
  have eb_2 := hM_2.2 2 (by decide) (by decide)
  refine lv_dstore (lv' := [(7, .double r_2), (6, .int r_1), (5, .int (nI (6 * i))), (4, .ref qd), (3, .ref qo), (2, .ref am), (1, .ref x), (0, .ref b)]) hx hb dL_law_1419 hl (by decide) rfl (fun ls hl => ?_)
  refine lv_goto (tgt := 1757) hx hb dL_law_1421 (by decide) ?_
  refine W.widen (k := c0 + 20) (n := s0 + 400) (by omega) (by omega) ?_
  exact hnext _ x_2 _ _ _ _ _ _ _ _ _ _ _ hd0 hC_1 hI_2 (hL9.qc h hQ_1 hM_2) (ea_2.trans e1) (eb_2.trans e2) hP hD hS (lv_sub hl [2, 3, 4, 5, 6, 7] rfl)

set_option maxRecDepth 100000 in
set_option maxHeartbeats 4000000 in
theorem law_bad (l : Launch) (hst : l.stackTraces = false) {p : Program} {e : Env} {s : State} {m : MethodId} {below : List Frame} {meth : Method} {c : Code} {b L : Nat} {xs : Nat → Int32} (C0 : lw_At p s m meth c b L xs) {D : va_G} {cA : Nat → ClassId} (hK : va_K D vwCl (ty6 cA) s) (hTB : TBok s) (hTX : TXok (fun q : Nat => s.heap.size ≤ q) s) {x ar ak qo qd am : Nat} {r : Nat → Nat} {c0 s0 i : Nat} (hc0 : c0 + 20 ≤ 601024) (hs0 : s0 + 400 ≤ 7293034) (hi : 6 * i + 6 ≤ L) (hL : L ≤ 3072) (hnext : ∀ (S : Pool) (M : MSt) (fo : Nat → Int64) (fd : Nat → UInt64) (n na nm : Nat) (hh cc : Int32) (H : Heap) (locs : List Loc) (ls : Array Slot) (d : Drawn), s.drawn.sameBut d lw_cs → INVC n na hh cc S x ar ak → INVR n nm M → REL False n 0 S M ar → M.1 1 = cc → M.1 2 = hh → va_P D vwCl (LW cA S qo fo qd fd am r M) H → va_D (fun q : Nat => s.heap.size ≤ q) (LW cA S qo fo qd fd am r M) → va_S (fun q : Nat => s.heap.size ≤ q) s.heap H locs → lv_has ls 9 [(5, .int (nI (6 * i))), (4, .ref qd), (3, .ref qo), (2, .ref am), (1, .ref x), (0, .ref b)] → W p l e room_1 (s.setDrawn d) m #[Value.ref b] below meth c H locs (c0 + 20) (s0 + 400) (lw_Z below #[Value.ref b] s) (F0 m 1757 ls [])) {S : Pool} {M : MSt} {fo : Nat → Int64} {fd : Nat → UInt64} {n na nm : Nat} {hh cc : Int32} {H : Heap} {locs : List Loc} {ls : Array Slot} {d : Drawn} (hd0 : s.drawn.sameBut d lw_cs) (h : INVC n na hh cc S x ar ak) (hI : INVR n nm M) (hL9 : REL False n 0 S M ar) (e1 : M.1 1 = cc) (e2 : M.1 2 = hh) (hP : va_P D vwCl (LW cA S qo fo qd fd am r M) H) (hD : va_D (fun q : Nat => s.heap.size ≤ q) (LW cA S qo fo qd fd am r M)) (hS : va_S (fun q : Nat => s.heap.size ≤ q) s.heap H locs) (hl : lv_has ls 9 [(5, .int (nI (6 * i))), (4, .ref qd), (3, .ref qo), (2, .ref am), (1, .ref x), (0, .ref b)]) : W p l e room_1 (s.setDrawn d) m #[Value.ref b] below meth c H locs c0 s0 (lw_Z below #[Value.ref b] s) (F0 m 1424 ls []) := by
  obtain ⟨hx, hb, hr, hml, hown, hts, hX, hbl, hlocks, hgv⟩ := id C0
  have hA : ∀ q : Nat, s.heap.size ≤ q → (fun q : Nat => s.heap.size ≤ q) q := fun _ h => h
  have hbA : ¬ (fun q : Nat => s.heap.size ≤ q) b := Nat.not_le.mpr hbl
  obtain ⟨a1, ea1⟩ : ∃ z, z = xs (6 * i + 1) := ⟨_, rfl⟩
  obtain ⟨a2, ea2⟩ : ∃ z, z = xs (6 * i + 2) := ⟨_, rfl⟩
  obtain ⟨a3, ea3⟩ : ∃ z, z = xs (6 * i + 3) := ⟨_, rfl⟩
  obtain ⟨a4, ea4⟩ : ∃ z, z = xs (6 * i + 4) := ⟨_, rfl⟩
  obtain ⟨a5, ea5⟩ : ∃ z, z = xs (6 * i + 5) := ⟨_, rfl⟩
  have htT0 : ∀ w ∈ TT, w.before _ s = true := fun w h => hts w (tt_in h)
  have hTB0 := hTB
  have hK0 := hK
  have hown0 : s.vm.findClass RL = some m.cls := hown
  have hTX0 := hTX
  have hX0 := hX
  have htT : ∀ w ∈ TT, w.before _ (s.setDrawn d) = true := dr_words htT0 d
  have hTB : TBok (s.setDrawn d) := TBok.same (u := s) (U := s.setDrawn d) rfl (Vm.Alike.refl s.vm) hTB0
  have hK : va_K D vwCl (ty6 cA) (s.setDrawn d) := hK0
  have hown : (s.setDrawn d).vm.findClass RL = some m.cls := hown0
  have hTX : TXok (fun q : Nat => s.heap.size ≤ q) (s.setDrawn d) := hTX0.dr d
  have hX : va_X b L xs (s.setDrawn d) (s.setDrawn d).heap := hX0
  refine lv_aload_n hx hb dL_law_1424 rfl (lv_at hl 4 rfl) ?_
  refine lv_aload_n hx hb dL_law_1425 rfl (lv_at hl 5 rfl) ?_
  refine lv_iload hx hb dL_law_1426 (lv_at hl 0 rfl) ?_
  refine lv_iconst (v := 1) hx hb dL_law_1428 (by decide) ?_
  refine lv_iadd hx hb dL_law_1429 ?_
  rw [show ((nI (6 * i)) + 1 : Int32) = nI ((6 * i) + 1) from nI_add (6 * i) 1]
  refine va_sld hx hb hX hbl hbA hS (show vp_in (nI ((6 * i) + 1)) L from ki_in (by omega) (by omega)) dL_law_1430 ?_
  rw [show xs (nI ((6 * i) + 1)).toNatClampNeg = a1 from (congrArg xs (ki_cl (by omega))).trans ea1.symm]
  refine lv_aload_n hx hb dL_law_1431 rfl (lv_at hl 2 rfl) ?_
  refine kj_i (pmJ _ _ _ _) (vx_runSW (As := [.ref x, .int a1, .ref qo]) (rest := []) ⟨hx, hb, hml, hown, htT⟩ (w_bad l hst D cA _ S x qo fo n na hh cc ar ak h a1) (vx_cwSW 3 htT (kg_SW m_ml_L_218 m_st_L_bad m_in_L m_cd_L_bad) rfl rfl rfl (by decide +kernel) ⟨Nat.le_of_ble_eq_true rfl, Nat.le_of_ble_eq_true rfl⟩) (kj_SX (pmJ _ _ _ _) hK hP hD hTB hTX hS hA) rfl rfl hl.1 rfl (lv_room (Nat.le_of_ble_eq_true rfl)) dL_law_1432 ⟨(by show _ ≤ 601024; omega), (by show _ ≤ 7293034; omega)⟩) hP hD hS hA (fun r_1 x_1 H locs hq_1 hP hD hS => ?_)
  rw [List.append_assoc] at hP hD
  obtain ⟨hC_1, hQ_1⟩ := hq_1
  refine lv_istore (lv' := [(6, .int r_1), (5, .int (nI (6 * i))), (4, .ref qd), (3, .ref qo), (2, .ref am), (1, .ref x), (0, .ref b)]) hx hb dL_law_1435 hl (by decide) rfl (fun ls hl => ?_)
  refine lv_aload_n hx hb dL_law_1437 rfl (lv_at hl 4 rfl) ?_
  refine lv_aload_n hx hb dL_law_1438 rfl (lv_at hl 6 rfl) ?_
  refine lv_iload hx hb dL_law_1439 (lv_at hl 1 rfl) ?_
  refine lv_iconst (v := 1) hx hb dL_law_1441 (by decide) ?_
  refine lv_iadd hx hb dL_law_1442 ?_
  rw [show ((nI (6 * i)) + 1 : Int32) = nI ((6 * i) + 1) from nI_add (6 * i) 1]
  refine va_sld hx hb hX hbl hbA hS (show vp_in (nI ((6 * i) + 1)) L from ki_in (by omega) (by omega)) dL_law_1443 ?_
  rw [show xs (nI ((6 * i) + 1)).toNatClampNeg = a1 from (congrArg xs (ki_cl (by omega))).trans ea1.symm]
  refine kj_i (pmM _ _ _ _) (va_runV (As := [.int a1]) (rest := []) ⟨hx, hb, hml, hown, htT⟩ (t_bad l D cA _ am r M n nm hI a1) (cwV 1 htT (kg_V m_ml_L_220 m_im_X6_bad m_sl_X6_bad m_in_X6 m_cd_X6_bad) rfl rfl rfl (by decide +kernel) ⟨Nat.le_of_ble_eq_true rfl, Nat.le_of_ble_eq_true rfl⟩) (kj_V (pmM _ _ _ _) hK hP hD hTB (kj_rm (pmM _ _ _ _) hK hP)) rfl rfl hl.1 rfl (lv_room (Nat.le_of_ble_eq_true rfl)) dL_law_1444 ⟨(by show _ ≤ 601024; omega), (by show _ ≤ 7293034; omega)⟩) hP hD hS hA (fun r_2 x_2 H locs hq_2 hP hD hS => ?_)
  have hP := kj_P (pmM _ _ _ _).symm hP
  have hD := kj_D (pmM _ _ _ _).symm hD
  obtain ⟨hI_2, hM_2⟩ := hq_2
  have ea_2 := hM_2.2 1 (by decide) (by decide)
  have eb_2 := hM_2.2 2 (by decide) (by decide)
  refine lv_istore (lv' := [(7, .int r_2), (6, .int r_1), (5, .int (nI (6 * i))), (4, .ref qd), (3, .ref qo), (2, .ref am), (1, .ref x), (0, .ref b)]) hx hb dL_law_1447 hl (by decide) rfl (fun ls hl => ?_)
  refine lv_goto (tgt := 1757) hx hb dL_law_1449 (by decide) ?_
  refine W.widen (k := c0 + 20) (n := s0 + 400) (by omega) (by omega) ?_
  exact hnext _ x_2 _ _ _ _ _ _ _ _ _ _ _ hd0 hC_1 hI_2 (hL9.qc h hQ_1 hM_2) (ea_2.trans e1) (eb_2.trans e2) hP hD hS (lv_sub hl [2, 3, 4, 5, 6, 7] rfl)

set_option maxRecDepth 100000 in
set_option maxHeartbeats 4000000 in
theorem law_isTrusted (l : Launch) (hst : l.stackTraces = false) {p : Program} {e : Env} {s : State} {m : MethodId} {below : List Frame} {meth : Method} {c : Code} {b L : Nat} {xs : Nat → Int32} (C0 : lw_At p s m meth c b L xs) {D : va_G} {cA : Nat → ClassId} (hK : va_K D vwCl (ty6 cA) s) (hTB : TBok s) (hTX : TXok (fun q : Nat => s.heap.size ≤ q) s) {x ar ak qo qd am : Nat} {r : Nat → Nat} {c0 s0 i : Nat} (hc0 : c0 + 20 ≤ 601024) (hs0 : s0 + 400 ≤ 7293034) (hi : 6 * i + 6 ≤ L) (hL : L ≤ 3072) (hnext : ∀ (S : Pool) (M : MSt) (fo : Nat → Int64) (fd : Nat → UInt64) (n na nm : Nat) (hh cc : Int32) (H : Heap) (locs : List Loc) (ls : Array Slot) (d : Drawn), s.drawn.sameBut d lw_cs → INVC n na hh cc S x ar ak → INVR n nm M → REL False n 0 S M ar → M.1 1 = cc → M.1 2 = hh → va_P D vwCl (LW cA S qo fo qd fd am r M) H → va_D (fun q : Nat => s.heap.size ≤ q) (LW cA S qo fo qd fd am r M) → va_S (fun q : Nat => s.heap.size ≤ q) s.heap H locs → lv_has ls 9 [(5, .int (nI (6 * i))), (4, .ref qd), (3, .ref qo), (2, .ref am), (1, .ref x), (0, .ref b)] → W p l e room_1 (s.setDrawn d) m #[Value.ref b] below meth c H locs (c0 + 20) (s0 + 400) (lw_Z below #[Value.ref b] s) (F0 m 1757 ls [])) {S : Pool} {M : MSt} {fo : Nat → Int64} {fd : Nat → UInt64} {n na nm : Nat} {hh cc : Int32} {H : Heap} {locs : List Loc} {ls : Array Slot} {d : Drawn} (hd0 : s.drawn.sameBut d lw_cs) (h : INVC n na hh cc S x ar ak) (hI : INVR n nm M) (hL9 : REL False n 0 S M ar) (e1 : M.1 1 = cc) (e2 : M.1 2 = hh) (hP : va_P D vwCl (LW cA S qo fo qd fd am r M) H) (hD : va_D (fun q : Nat => s.heap.size ≤ q) (LW cA S qo fo qd fd am r M)) (hS : va_S (fun q : Nat => s.heap.size ≤ q) s.heap H locs) (hl : lv_has ls 9 [(5, .int (nI (6 * i))), (4, .ref qd), (3, .ref qo), (2, .ref am), (1, .ref x), (0, .ref b)]) : W p l e room_1 (s.setDrawn d) m #[Value.ref b] below meth c H locs c0 s0 (lw_Z below #[Value.ref b] s) (F0 m 1452 ls []) := by
  obtain ⟨hx, hb, hr, hml, hown, hts, hX, hbl, hlocks, hgv⟩ := id C0
  have hA : ∀ q : Nat, s.heap.size ≤ q → (fun q : Nat => s.heap.size ≤ q) q := fun _ h => h
  have hbA : ¬ (fun q : Nat => s.heap.size ≤ q) b := Nat.not_le.mpr hbl
  obtain ⟨a1, ea1⟩ : ∃ z, z = xs (6 * i + 1) := ⟨_, rfl⟩
  obtain ⟨a2, ea2⟩ : ∃ z, z = xs (6 * i + 2) := ⟨_, rfl⟩
  obtain ⟨a3, ea3⟩ : ∃ z, z = xs (6 * i + 3) := ⟨_, rfl⟩
  obtain ⟨a4, ea4⟩ : ∃ z, z = xs (6 * i + 4) := ⟨_, rfl⟩
  obtain ⟨a5, ea5⟩ : ∃ z, z = xs (6 * i + 5) := ⟨_, rfl⟩
  have htT0 : ∀ w ∈ TT, w.before _ s = true := fun w h => hts w (tt_in h)
  have hTB0 := hTB
  have hK0 := hK
  have hown0 : s.vm.findClass RL = some m.cls := hown
  have hTX0 := hTX
  have hX0 := hX
  have htT : ∀ w ∈ TT, w.before _ (s.setDrawn d) = true := dr_words htT0 d
  have hTB : TBok (s.setDrawn d) := TBok.same (u := s) (U := s.setDrawn d) rfl (Vm.Alike.refl s.vm) hTB0
  have hK : va_K D vwCl (ty6 cA) (s.setDrawn d) := hK0
  have hown : (s.setDrawn d).vm.findClass RL = some m.cls := hown0
  have hTX : TXok (fun q : Nat => s.heap.size ≤ q) (s.setDrawn d) := hTX0.dr d
  have hX : va_X b L xs (s.setDrawn d) (s.setDrawn d).heap := hX0
  refine lv_aload_n hx hb dL_law_1452 rfl (lv_at hl 4 rfl) ?_
  refine lv_aload_n hx hb dL_law_1453 rfl (lv_at hl 5 rfl) ?_
  refine lv_iload hx hb dL_law_1454 (lv_at hl 0 rfl) ?_
  refine lv_iconst (v := 1) hx hb dL_law_1456 (by decide) ?_
  refine lv_iadd hx hb dL_law_1457 ?_
  rw [show ((nI (6 * i)) + 1 : Int32) = nI ((6 * i) + 1) from nI_add (6 * i) 1]
  refine va_sld hx hb hX hbl hbA hS (show vp_in (nI ((6 * i) + 1)) L from ki_in (by omega) (by omega)) dL_law_1458 ?_
  rw [show xs (nI ((6 * i) + 1)).toNatClampNeg = a1 from (congrArg xs (ki_cl (by omega))).trans ea1.symm]
  refine lv_aload_n hx hb dL_law_1459 rfl (lv_at hl 2 rfl) ?_
  refine kj_i (pmJ _ _ _ _) (vx_runSW (As := [.ref x, .int a1, .ref qo]) (rest := []) ⟨hx, hb, hml, hown, htT⟩ (w_isTrusted l hst D cA _ S x qo fo n na hh cc ar ak h a1) (vx_cwSW 3 htT (kg_SW m_ml_L_221 m_st_L_isTrusted m_in_L m_cd_L_isTrusted) rfl rfl rfl (by decide +kernel) ⟨Nat.le_of_ble_eq_true rfl, Nat.le_of_ble_eq_true rfl⟩) (kj_SX (pmJ _ _ _ _) hK hP hD hTB hTX hS hA) rfl rfl hl.1 rfl (lv_room (Nat.le_of_ble_eq_true rfl)) dL_law_1460 ⟨(by show _ ≤ 601024; omega), (by show _ ≤ 7293034; omega)⟩) hP hD hS hA (fun r_1 x_1 H locs hq_1 hP hD hS => ?_)
  rw [List.append_assoc] at hP hD
  obtain ⟨hC_1, hQ_1⟩ := hq_1
  refine lv_istore (lv' := [(6, .int r_1), (5, .int (nI (6 * i))), (4, .ref qd), (3, .ref qo), (2, .ref am), (1, .ref x), (0, .ref b)]) hx hb dL_law_1463 hl (by decide) rfl (fun ls hl => ?_)
  refine lv_aload_n hx hb dL_law_1465 rfl (lv_at hl 4 rfl) ?_
  refine lv_aload_n hx hb dL_law_1466 rfl (lv_at hl 6 rfl) ?_
  refine lv_iload hx hb dL_law_1467 (lv_at hl 1 rfl) ?_
  refine lv_iconst (v := 1) hx hb dL_law_1469 (by decide) ?_
  refine lv_iadd hx hb dL_law_1470 ?_
  rw [show ((nI (6 * i)) + 1 : Int32) = nI ((6 * i) + 1) from nI_add (6 * i) 1]
  refine va_sld hx hb hX hbl hbA hS (show vp_in (nI ((6 * i) + 1)) L from ki_in (by omega) (by omega)) dL_law_1471 ?_
  rw [show xs (nI ((6 * i) + 1)).toNatClampNeg = a1 from (congrArg xs (ki_cl (by omega))).trans ea1.symm]
  refine kj_i (pmM _ _ _ _) (va_runV (As := [.int a1]) (rest := []) ⟨hx, hb, hml, hown, htT⟩ (t_isTrusted l D cA _ am r M n nm hI a1) (cwV 1 htT (kg_V m_ml_L_223 m_im_X6_isTrusted m_sl_X6_isTrusted m_in_X6 m_cd_X6_isTrusted) rfl rfl rfl (by decide +kernel) ⟨Nat.le_of_ble_eq_true rfl, Nat.le_of_ble_eq_true rfl⟩) (kj_V (pmM _ _ _ _) hK hP hD hTB (kj_rm (pmM _ _ _ _) hK hP)) rfl rfl hl.1 rfl (lv_room (Nat.le_of_ble_eq_true rfl)) dL_law_1472 ⟨(by show _ ≤ 601024; omega), (by show _ ≤ 7293034; omega)⟩) hP hD hS hA (fun r_2 x_2 H locs hq_2 hP hD hS => ?_)
  have hP := kj_P (pmM _ _ _ _).symm hP
  have hD := kj_D (pmM _ _ _ _).symm hD
  obtain ⟨hI_2, hM_2⟩ := hq_2
  have ea_2 := hM_2.2 1 (by decide) (by decide)
  have eb_2 := hM_2.2 2 (by decide) (by decide)
  refine lv_istore (lv' := [(7, .int r_2), (6, .int r_1), (5, .int (nI (6 * i))), (4, .ref qd), (3, .ref qo), (2, .ref am), (1, .ref x), (0, .ref b)]) hx hb dL_law_1475 hl (by decide) rfl (fun ls hl => ?_)
  refine lv_goto (tgt := 1757) hx hb dL_law_1477 (by decide) ?_
  refine W.widen (k := c0 + 20) (n := s0 + 400) (by omega) (by omega) ?_
  exact hnext _ x_2 _ _ _ _ _ _ _ _ _ _ _ hd0 hC_1 hI_2 (hL9.qc h hQ_1 hM_2) (ea_2.trans e1) (eb_2.trans e2) hP hD hS (lv_sub hl [2, 3, 4, 5, 6, 7] rfl)

set_option maxRecDepth 100000 in
set_option maxHeartbeats 4000000 in
theorem law_best (l : Launch) (hst : l.stackTraces = false) {p : Program} {e : Env} {s : State} {m : MethodId} {below : List Frame} {meth : Method} {c : Code} {b L : Nat} {xs : Nat → Int32} (C0 : lw_At p s m meth c b L xs) {D : va_G} {cA : Nat → ClassId} (hK : va_K D vwCl (ty6 cA) s) (hTB : TBok s) (hTX : TXok (fun q : Nat => s.heap.size ≤ q) s) {x ar ak qo qd am : Nat} {r : Nat → Nat} {c0 s0 i : Nat} (hc0 : c0 + 20 ≤ 601024) (hs0 : s0 + 400 ≤ 7293034) (hi : 6 * i + 6 ≤ L) (hL : L ≤ 3072) (hnext : ∀ (S : Pool) (M : MSt) (fo : Nat → Int64) (fd : Nat → UInt64) (n na nm : Nat) (hh cc : Int32) (H : Heap) (locs : List Loc) (ls : Array Slot) (d : Drawn), s.drawn.sameBut d lw_cs → INVC n na hh cc S x ar ak → INVR n nm M → REL False n 0 S M ar → M.1 1 = cc → M.1 2 = hh → va_P D vwCl (LW cA S qo fo qd fd am r M) H → va_D (fun q : Nat => s.heap.size ≤ q) (LW cA S qo fo qd fd am r M) → va_S (fun q : Nat => s.heap.size ≤ q) s.heap H locs → lv_has ls 9 [(5, .int (nI (6 * i))), (4, .ref qd), (3, .ref qo), (2, .ref am), (1, .ref x), (0, .ref b)] → W p l e room_1 (s.setDrawn d) m #[Value.ref b] below meth c H locs (c0 + 20) (s0 + 400) (lw_Z below #[Value.ref b] s) (F0 m 1757 ls [])) {S : Pool} {M : MSt} {fo : Nat → Int64} {fd : Nat → UInt64} {n na nm : Nat} {hh cc : Int32} {H : Heap} {locs : List Loc} {ls : Array Slot} {d : Drawn} (hd0 : s.drawn.sameBut d lw_cs) (h : INVC n na hh cc S x ar ak) (hI : INVR n nm M) (hL9 : REL False n 0 S M ar) (e1 : M.1 1 = cc) (e2 : M.1 2 = hh) (hP : va_P D vwCl (LW cA S qo fo qd fd am r M) H) (hD : va_D (fun q : Nat => s.heap.size ≤ q) (LW cA S qo fo qd fd am r M)) (hS : va_S (fun q : Nat => s.heap.size ≤ q) s.heap H locs) (hl : lv_has ls 9 [(5, .int (nI (6 * i))), (4, .ref qd), (3, .ref qo), (2, .ref am), (1, .ref x), (0, .ref b)]) : W p l e room_1 (s.setDrawn d) m #[Value.ref b] below meth c H locs c0 s0 (lw_Z below #[Value.ref b] s) (F0 m 1480 ls []) := by
  obtain ⟨hx, hb, hr, hml, hown, hts, hX, hbl, hlocks, hgv⟩ := id C0
  have hA : ∀ q : Nat, s.heap.size ≤ q → (fun q : Nat => s.heap.size ≤ q) q := fun _ h => h
  have hbA : ¬ (fun q : Nat => s.heap.size ≤ q) b := Nat.not_le.mpr hbl
  obtain ⟨a1, ea1⟩ : ∃ z, z = xs (6 * i + 1) := ⟨_, rfl⟩
  obtain ⟨a2, ea2⟩ : ∃ z, z = xs (6 * i + 2) := ⟨_, rfl⟩
  obtain ⟨a3, ea3⟩ : ∃ z, z = xs (6 * i + 3) := ⟨_, rfl⟩
  obtain ⟨a4, ea4⟩ : ∃ z, z = xs (6 * i + 4) := ⟨_, rfl⟩
  obtain ⟨a5, ea5⟩ : ∃ z, z = xs (6 * i + 5) := ⟨_, rfl⟩
  have htT0 : ∀ w ∈ TT, w.before _ s = true := fun w h => hts w (tt_in h)
  have hTB0 := hTB
  have hK0 := hK
  have hown0 : s.vm.findClass RL = some m.cls := hown
  have hTX0 := hTX
  have hX0 := hX
  have htT : ∀ w ∈ TT, w.before _ (s.setDrawn d) = true := dr_words htT0 d
  have hTB : TBok (s.setDrawn d) := TBok.same (u := s) (U := s.setDrawn d) rfl (Vm.Alike.refl s.vm) hTB0
  have hK : va_K D vwCl (ty6 cA) (s.setDrawn d) := hK0
  have hown : (s.setDrawn d).vm.findClass RL = some m.cls := hown0
  have hTX : TXok (fun q : Nat => s.heap.size ≤ q) (s.setDrawn d) := hTX0.dr d
  have hX : va_X b L xs (s.setDrawn d) (s.setDrawn d).heap := hX0
  refine lv_aload_n hx hb dL_law_1480 rfl (lv_at hl 4 rfl) ?_
  refine lv_aload_n hx hb dL_law_1481 rfl (lv_at hl 5 rfl) ?_
  refine lv_iload hx hb dL_law_1482 (lv_at hl 0 rfl) ?_
  refine lv_iconst (v := 1) hx hb dL_law_1484 (by decide) ?_
  refine lv_iadd hx hb dL_law_1485 ?_
  rw [show ((nI (6 * i)) + 1 : Int32) = nI ((6 * i) + 1) from nI_add (6 * i) 1]
  refine va_sld hx hb hX hbl hbA hS (show vp_in (nI ((6 * i) + 1)) L from ki_in (by omega) (by omega)) dL_law_1486 ?_
  rw [show xs (nI ((6 * i) + 1)).toNatClampNeg = a1 from (congrArg xs (ki_cl (by omega))).trans ea1.symm]
  refine lv_aload_n hx hb dL_law_1487 rfl (lv_at hl 2 rfl) ?_
  refine kjD_i hd0 (pmJ _ _ _ _) (kd_runSW (As := [.ref x, .int a1, .ref qo]) (rest := []) ⟨hx, hb, hml, hown, htT⟩ (w_best l hst D cA _ S x qo fo n na hh cc ar ak h a1) (vx_cwSW 3 htT (kg_SW m_ml_L_224 m_st_L_best m_in_L m_cd_L_best) rfl rfl rfl (by decide +kernel) ⟨Nat.le_of_ble_eq_true rfl, Nat.le_of_ble_eq_true rfl⟩) (kj_SX (pmJ _ _ _ _) hK hP hD hTB hTX hS hA) rfl rfl hl.1 rfl (lv_room (Nat.le_of_ble_eq_true rfl)) dL_law_1488 ⟨(by show _ ≤ 601024; omega), (by show _ ≤ 7293034; omega)⟩) hP hD hS hA (fun r_1 x_1 H locs hq_1 hP hD hS d_1 hd0 => ?_)
  have htT : ∀ w ∈ TT, w.before _ (s.setDrawn d_1) = true := dr_words htT0 d_1
  have hTB : TBok (s.setDrawn d_1) := TBok.same (u := s) (U := s.setDrawn d_1) rfl (Vm.Alike.refl s.vm) hTB0
  have hK : va_K D vwCl (ty6 cA) (s.setDrawn d_1) := hK0
  have hown : (s.setDrawn d_1).vm.findClass RL = some m.cls := hown0
  have hTX : TXok (fun q : Nat => s.heap.size ≤ q) (s.setDrawn d_1) := hTX0.dr d_1
  have hX : va_X b L xs (s.setDrawn d_1) (s.setDrawn d_1).heap := hX0
  rw [List.append_assoc] at hP hD
  obtain ⟨hC_1, hQ_1⟩ := hq_1
  refine lv_istore (lv' := [(6, .int r_1), (5, .int (nI (6 * i))), (4, .ref qd), (3, .ref qo), (2, .ref am), (1, .ref x), (0, .ref b)]) hx hb dL_law_1491 hl (by decide) rfl (fun ls hl => ?_)
  refine lv_aload_n hx hb dL_law_1493 rfl (lv_at hl 4 rfl) ?_
  refine lv_aload_n hx hb dL_law_1494 rfl (lv_at hl 6 rfl) ?_
  refine lv_iload hx hb dL_law_1495 (lv_at hl 1 rfl) ?_
  refine lv_iconst (v := 1) hx hb dL_law_1497 (by decide) ?_
  refine lv_iadd hx hb dL_law_1498 ?_
  rw [show ((nI (6 * i)) + 1 : Int32) = nI ((6 * i) + 1) from nI_add (6 * i) 1]
  refine va_sld hx hb hX hbl hbA hS (show vp_in (nI ((6 * i) + 1)) L from ki_in (by omega) (by omega)) dL_law_1499 ?_
  rw [show xs (nI ((6 * i) + 1)).toNatClampNeg = a1 from (congrArg xs (ki_cl (by omega))).trans ea1.symm]
  refine kjD_i hd0 (pmM _ _ _ _) (va_runV_D (As := [.int a1]) (rest := []) ⟨hx, hb, hml, hown, htT⟩ (t_best l D cA _ am r M n nm hI a1) (cwV 1 htT (kg_V m_ml_L_226 m_im_X6_best m_sl_X6_best m_in_X6 m_cd_X6_best) rfl rfl rfl (by decide +kernel) ⟨Nat.le_of_ble_eq_true rfl, Nat.le_of_ble_eq_true rfl⟩) (kj_V (pmM _ _ _ _) hK hP hD hTB (kj_rm (pmM _ _ _ _) hK hP)) rfl rfl hl.1 rfl (lv_room (Nat.le_of_ble_eq_true rfl)) dL_law_1500 ⟨(by show _ ≤ 601024; omega), (by show _ ≤ 7293034; omega)⟩) hP hD hS hA (fun r_2 x_2 H locs hq_2 hP hD hS d_2 hd0 => ?_)
  have htT : ∀ w ∈ TT, w.before _ (s.setDrawn d_2) = true := dr_words htT0 d_2
  have hTB : TBok (s.setDrawn d_2) := TBok.same (u := s) (U := s.setDrawn d_2) rfl (Vm.Alike.refl s.vm) hTB0
  have hK : va_K D vwCl (ty6 cA) (s.setDrawn d_2) := hK0
  have hown : (s.setDrawn d_2).vm.findClass RL = some m.cls := hown0
  have hTX : TXok (fun q : Nat => s.heap.size ≤ q) (s.setDrawn d_2) := hTX0.dr d_2
  have hX : va_X b L xs (s.setDrawn d_2) (s.setDrawn d_2).heap := hX0
  have hP := kj_P (pmM _ _ _ _).symm hP
  have hD := kj_D (pmM _ _ _ _).symm hD
  obtain ⟨hI_2, hM_2⟩ := hq_2
  have ea_2 := hM_2.2 1 (by decide) (by decide)
  have eb_2 := hM_2.2 2 (by decide) (by decide)
  refine lv_istore (lv' := [(7, .int r_2), (6, .int r_1), (5, .int (nI (6 * i))), (4, .ref qd), (3, .ref qo), (2, .ref am), (1, .ref x), (0, .ref b)]) hx hb dL_law_1503 hl (by decide) rfl (fun ls hl => ?_)
  refine lv_goto (tgt := 1757) hx hb dL_law_1505 (by decide) ?_
  refine W.widen (k := c0 + 20) (n := s0 + 400) (by omega) (by omega) ?_
  exact hnext _ x_2 _ _ _ _ _ _ _ _ _ _ _ hd0 hC_1 hI_2 (hL9.qc h hQ_1 hM_2) (ea_2.trans e1) (eb_2.trans e2) hP hD hS (lv_sub hl [2, 3, 4, 5, 6, 7] rfl)

set_option maxRecDepth 100000 in
set_option maxHeartbeats 4000000 in
theorem law_reach (l : Launch) (hst : l.stackTraces = false) {p : Program} {e : Env} {s : State} {m : MethodId} {below : List Frame} {meth : Method} {c : Code} {b L : Nat} {xs : Nat → Int32} (C0 : lw_At p s m meth c b L xs) {D : va_G} {cA : Nat → ClassId} (hK : va_K D vwCl (ty6 cA) s) (hTB : TBok s) (hTX : TXok (fun q : Nat => s.heap.size ≤ q) s) {x ar ak qo qd am : Nat} {r : Nat → Nat} {c0 s0 i : Nat} (hc0 : c0 + 20 ≤ 601024) (hs0 : s0 + 400 ≤ 7293034) (hi : 6 * i + 6 ≤ L) (hL : L ≤ 3072) (hnext : ∀ (S : Pool) (M : MSt) (fo : Nat → Int64) (fd : Nat → UInt64) (n na nm : Nat) (hh cc : Int32) (H : Heap) (locs : List Loc) (ls : Array Slot) (d : Drawn), s.drawn.sameBut d lw_cs → INVC n na hh cc S x ar ak → INVR n nm M → REL False n 0 S M ar → M.1 1 = cc → M.1 2 = hh → va_P D vwCl (LW cA S qo fo qd fd am r M) H → va_D (fun q : Nat => s.heap.size ≤ q) (LW cA S qo fo qd fd am r M) → va_S (fun q : Nat => s.heap.size ≤ q) s.heap H locs → lv_has ls 9 [(5, .int (nI (6 * i))), (4, .ref qd), (3, .ref qo), (2, .ref am), (1, .ref x), (0, .ref b)] → W p l e room_1 (s.setDrawn d) m #[Value.ref b] below meth c H locs (c0 + 20) (s0 + 400) (lw_Z below #[Value.ref b] s) (F0 m 1757 ls [])) {S : Pool} {M : MSt} {fo : Nat → Int64} {fd : Nat → UInt64} {n na nm : Nat} {hh cc : Int32} {H : Heap} {locs : List Loc} {ls : Array Slot} {d : Drawn} (hd0 : s.drawn.sameBut d lw_cs) (h : INVC n na hh cc S x ar ak) (hI : INVR n nm M) (hL9 : REL False n 0 S M ar) (e1 : M.1 1 = cc) (e2 : M.1 2 = hh) (hP : va_P D vwCl (LW cA S qo fo qd fd am r M) H) (hD : va_D (fun q : Nat => s.heap.size ≤ q) (LW cA S qo fo qd fd am r M)) (hS : va_S (fun q : Nat => s.heap.size ≤ q) s.heap H locs) (hl : lv_has ls 9 [(5, .int (nI (6 * i))), (4, .ref qd), (3, .ref qo), (2, .ref am), (1, .ref x), (0, .ref b)]) : W p l e room_1 (s.setDrawn d) m #[Value.ref b] below meth c H locs c0 s0 (lw_Z below #[Value.ref b] s) (F0 m 1508 ls []) := by
  obtain ⟨hx, hb, hr, hml, hown, hts, hX, hbl, hlocks, hgv⟩ := id C0
  have hA : ∀ q : Nat, s.heap.size ≤ q → (fun q : Nat => s.heap.size ≤ q) q := fun _ h => h
  have hbA : ¬ (fun q : Nat => s.heap.size ≤ q) b := Nat.not_le.mpr hbl
  obtain ⟨a1, ea1⟩ : ∃ z, z = xs (6 * i + 1) := ⟨_, rfl⟩
  obtain ⟨a2, ea2⟩ : ∃ z, z = xs (6 * i + 2) := ⟨_, rfl⟩
  obtain ⟨a3, ea3⟩ : ∃ z, z = xs (6 * i + 3) := ⟨_, rfl⟩
  obtain ⟨a4, ea4⟩ : ∃ z, z = xs (6 * i + 4) := ⟨_, rfl⟩
  obtain ⟨a5, ea5⟩ : ∃ z, z = xs (6 * i + 5) := ⟨_, rfl⟩
  have htT0 : ∀ w ∈ TT, w.before _ s = true := fun w h => hts w (tt_in h)
  have hTB0 := hTB
  have hK0 := hK
  have hown0 : s.vm.findClass RL = some m.cls := hown
  have hTX0 := hTX
  have hX0 := hX
  have htT : ∀ w ∈ TT, w.before _ (s.setDrawn d) = true := dr_words htT0 d
  have hTB : TBok (s.setDrawn d) := TBok.same (u := s) (U := s.setDrawn d) rfl (Vm.Alike.refl s.vm) hTB0
  have hK : va_K D vwCl (ty6 cA) (s.setDrawn d) := hK0
  have hown : (s.setDrawn d).vm.findClass RL = some m.cls := hown0
  have hTX : TXok (fun q : Nat => s.heap.size ≤ q) (s.setDrawn d) := hTX0.dr d
  have hX : va_X b L xs (s.setDrawn d) (s.setDrawn d).heap := hX0
  refine lv_aload_n hx hb dL_law_1508 rfl (lv_at hl 4 rfl) ?_
  refine lv_aload_n hx hb dL_law_1509 rfl (lv_at hl 5 rfl) ?_
  refine lv_iload hx hb dL_law_1510 (lv_at hl 0 rfl) ?_
  refine lv_iconst (v := 1) hx hb dL_law_1512 (by decide) ?_
  refine lv_iadd hx hb dL_law_1513 ?_
  rw [show ((nI (6 * i)) + 1 : Int32) = nI ((6 * i) + 1) from nI_add (6 * i) 1]
  refine va_sld hx hb hX hbl hbA hS (show vp_in (nI ((6 * i) + 1)) L from ki_in (by omega) (by omega)) dL_law_1514 ?_
  rw [show xs (nI ((6 * i) + 1)).toNatClampNeg = a1 from (congrArg xs (ki_cl (by omega))).trans ea1.symm]
  refine lv_aload_n hx hb dL_law_1515 rfl (lv_at hl 5 rfl) ?_
  refine lv_iload hx hb dL_law_1516 (lv_at hl 0 rfl) ?_
  refine lv_iconst (v := 2) hx hb dL_law_1518 (by decide) ?_
  refine lv_iadd hx hb dL_law_1519 ?_
  rw [show ((nI (6 * i)) + 2 : Int32) = nI ((6 * i) + 2) from nI_add (6 * i) 2]
  refine va_sld hx hb hX hbl hbA hS (show vp_in (nI ((6 * i) + 2)) L from ki_in (by omega) (by omega)) dL_law_1520 ?_
  rw [show xs (nI ((6 * i) + 2)).toNatClampNeg = a2 from (congrArg xs (ki_cl (by omega))).trans ea2.symm]
  refine lv_aload_n hx hb dL_law_1521 rfl (lv_at hl 5 rfl) ?_
  refine lv_iload hx hb dL_law_1522 (lv_at hl 0 rfl) ?_
  refine lv_iconst (v := 3) hx hb dL_law_1524 (by decide) ?_
  refine lv_iadd hx hb dL_law_1525 ?_
  rw [show ((nI (6 * i)) + 3 : Int32) = nI ((6 * i) + 3) from nI_add (6 * i) 3]
  refine va_sld hx hb hX hbl hbA hS (show vp_in (nI ((6 * i) + 3)) L from ki_in (by omega) (by omega)) dL_law_1526 ?_
  rw [show xs (nI ((6 * i) + 3)).toNatClampNeg = a3 from (congrArg xs (ki_cl (by omega))).trans ea3.symm]
  refine lv_aload_n hx hb dL_law_1527 rfl (lv_at hl 2 rfl) ?_
  refine kj_i (pmJ _ _ _ _) (vx_runSW (As := [.ref x, .int a1, .int a2, .int a3, .ref qo]) (rest := []) ⟨hx, hb, hml, hown, htT⟩ (w_reach l hst D cA _ S x qo fo n na hh cc ar ak h a1 a2 a3) (vx_cwSW 5 htT (kg_SW m_ml_L_227 m_st_L_reach m_in_L m_cd_L_reach) rfl rfl rfl (by decide +kernel) ⟨Nat.le_of_ble_eq_true rfl, Nat.le_of_ble_eq_true rfl⟩) (kj_SX (pmJ _ _ _ _) hK hP hD hTB hTX hS hA) rfl rfl hl.1 rfl (lv_room (Nat.le_of_ble_eq_true rfl)) dL_law_1528 ⟨(by show _ ≤ 601024; omega), (by show _ ≤ 7293034; omega)⟩) hP hD hS hA (fun r_1 x_1 H locs hq_1 hP hD hS => ?_)
  rw [List.append_assoc] at hP hD
  obtain ⟨hC_1, hQ_1⟩ := hq_1
  refine lv_istore (lv' := [(6, .int r_1), (5, .int (nI (6 * i))), (4, .ref qd), (3, .ref qo), (2, .ref am), (1, .ref x), (0, .ref b)]) hx hb dL_law_1531 hl (by decide) rfl (fun ls hl => ?_)
  refine lv_aload_n hx hb dL_law_1533 rfl (lv_at hl 4 rfl) ?_
  refine lv_aload_n hx hb dL_law_1534 rfl (lv_at hl 6 rfl) ?_
  refine lv_iload hx hb dL_law_1535 (lv_at hl 1 rfl) ?_
  refine lv_iconst (v := 1) hx hb dL_law_1537 (by decide) ?_
  refine lv_iadd hx hb dL_law_1538 ?_
  rw [show ((nI (6 * i)) + 1 : Int32) = nI ((6 * i) + 1) from nI_add (6 * i) 1]
  refine va_sld hx hb hX hbl hbA hS (show vp_in (nI ((6 * i) + 1)) L from ki_in (by omega) (by omega)) dL_law_1539 ?_
  rw [show xs (nI ((6 * i) + 1)).toNatClampNeg = a1 from (congrArg xs (ki_cl (by omega))).trans ea1.symm]
  refine lv_aload_n hx hb dL_law_1540 rfl (lv_at hl 6 rfl) ?_
  refine lv_iload hx hb dL_law_1541 (lv_at hl 1 rfl) ?_
  refine lv_iconst (v := 2) hx hb dL_law_1543 (by decide) ?_
  refine lv_iadd hx hb dL_law_1544 ?_
  rw [show ((nI (6 * i)) + 2 : Int32) = nI ((6 * i) + 2) from nI_add (6 * i) 2]
  refine va_sld hx hb hX hbl hbA hS (show vp_in (nI ((6 * i) + 2)) L from ki_in (by omega) (by omega)) dL_law_1545 ?_
  rw [show xs (nI ((6 * i) + 2)).toNatClampNeg = a2 from (congrArg xs (ki_cl (by omega))).trans ea2.symm]
  refine lv_aload_n hx hb dL_law_1546 rfl (lv_at hl 6 rfl) ?_
  refine lv_iload hx hb dL_law_1547 (lv_at hl 1 rfl) ?_
  refine lv_iconst (v := 3) hx hb dL_law_1549 (by decide) ?_
  refine lv_iadd hx hb dL_law_1550 ?_
  rw [show ((nI (6 * i)) + 3 : Int32) = nI ((6 * i) + 3) from nI_add (6 * i) 3]
  refine va_sld hx hb hX hbl hbA hS (show vp_in (nI ((6 * i) + 3)) L from ki_in (by omega) (by omega)) dL_law_1551 ?_
  rw [show xs (nI ((6 * i) + 3)).toNatClampNeg = a3 from (congrArg xs (ki_cl (by omega))).trans ea3.symm]
  refine kj_i (pmM _ _ _ _) (va_runV (As := [.int a1, .int a2, .int a3]) (rest := []) ⟨hx, hb, hml, hown, htT⟩ (t_reach l D cA _ am r M n nm hI a1 a2 a3) (cwV 3 htT (kg_V m_ml_L_229 m_im_X6_reach m_sl_X6_reach m_in_X6 m_cd_X6_reach) rfl rfl rfl (by decide +kernel) ⟨Nat.le_of_ble_eq_true rfl, Nat.le_of_ble_eq_true rfl⟩) (kj_V (pmM _ _ _ _) hK hP hD hTB (kj_rm (pmM _ _ _ _) hK hP)) rfl rfl hl.1 rfl (lv_room (Nat.le_of_ble_eq_true rfl)) dL_law_1552 ⟨(by show _ ≤ 601024; omega), (by show _ ≤ 7293034; omega)⟩) hP hD hS hA (fun r_2 x_2 H locs hq_2 hP hD hS => ?_)
  have hP := kj_P (pmM _ _ _ _).symm hP
  have hD := kj_D (pmM _ _ _ _).symm hD
  obtain ⟨hI_2, hM_2⟩ := hq_2
  have ea_2 := hM_2.2 1 (by decide) (by decide)
  have eb_2 := hM_2.2 2 (by decide) (by decide)
  refine lv_istore (lv' := [(7, .int r_2), (6, .int r_1), (5, .int (nI (6 * i))), (4, .ref qd), (3, .ref qo), (2, .ref am), (1, .ref x), (0, .ref b)]) hx hb dL_law_1555 hl (by decide) rfl (fun ls hl => ?_)
  refine lv_goto (tgt := 1757) hx hb dL_law_1557 (by decide) ?_
  refine W.widen (k := c0 + 20) (n := s0 + 400) (by omega) (by omega) ?_
  exact hnext _ x_2 _ _ _ _ _ _ _ _ _ _ _ hd0 hC_1 hI_2 (hL9.qc h hQ_1 hM_2) (ea_2.trans e1) (eb_2.trans e2) hP hD hS (lv_sub hl [2, 3, 4, 5, 6, 7] rfl)

set_option maxRecDepth 100000 in
set_option maxHeartbeats 4000000 in
theorem law_both (l : Launch) (hst : l.stackTraces = false) {p : Program} {e : Env} {s : State} {m : MethodId} {below : List Frame} {meth : Method} {c : Code} {b L : Nat} {xs : Nat → Int32} (C0 : lw_At p s m meth c b L xs) {D : va_G} {cA : Nat → ClassId} (hK : va_K D vwCl (ty6 cA) s) (hTB : TBok s) (hTX : TXok (fun q : Nat => s.heap.size ≤ q) s) {x ar ak qo qd am : Nat} {r : Nat → Nat} {c0 s0 i : Nat} (hc0 : c0 + 20 ≤ 601024) (hs0 : s0 + 400 ≤ 7293034) (hi : 6 * i + 6 ≤ L) (hL : L ≤ 3072) (hnext : ∀ (S : Pool) (M : MSt) (fo : Nat → Int64) (fd : Nat → UInt64) (n na nm : Nat) (hh cc : Int32) (H : Heap) (locs : List Loc) (ls : Array Slot) (d : Drawn), s.drawn.sameBut d lw_cs → INVC n na hh cc S x ar ak → INVR n nm M → REL False n 0 S M ar → M.1 1 = cc → M.1 2 = hh → va_P D vwCl (LW cA S qo fo qd fd am r M) H → va_D (fun q : Nat => s.heap.size ≤ q) (LW cA S qo fo qd fd am r M) → va_S (fun q : Nat => s.heap.size ≤ q) s.heap H locs → lv_has ls 9 [(5, .int (nI (6 * i))), (4, .ref qd), (3, .ref qo), (2, .ref am), (1, .ref x), (0, .ref b)] → W p l e room_1 (s.setDrawn d) m #[Value.ref b] below meth c H locs (c0 + 20) (s0 + 400) (lw_Z below #[Value.ref b] s) (F0 m 1757 ls [])) {S : Pool} {M : MSt} {fo : Nat → Int64} {fd : Nat → UInt64} {n na nm : Nat} {hh cc : Int32} {H : Heap} {locs : List Loc} {ls : Array Slot} {d : Drawn} (hd0 : s.drawn.sameBut d lw_cs) (h : INVC n na hh cc S x ar ak) (hI : INVR n nm M) (hL9 : REL False n 0 S M ar) (e1 : M.1 1 = cc) (e2 : M.1 2 = hh) (hP : va_P D vwCl (LW cA S qo fo qd fd am r M) H) (hD : va_D (fun q : Nat => s.heap.size ≤ q) (LW cA S qo fo qd fd am r M)) (hS : va_S (fun q : Nat => s.heap.size ≤ q) s.heap H locs) (hl : lv_has ls 9 [(5, .int (nI (6 * i))), (4, .ref qd), (3, .ref qo), (2, .ref am), (1, .ref x), (0, .ref b)]) : W p l e room_1 (s.setDrawn d) m #[Value.ref b] below meth c H locs c0 s0 (lw_Z below #[Value.ref b] s) (F0 m 1560 ls []) := by
  obtain ⟨hx, hb, hr, hml, hown, hts, hX, hbl, hlocks, hgv⟩ := id C0
  have hA : ∀ q : Nat, s.heap.size ≤ q → (fun q : Nat => s.heap.size ≤ q) q := fun _ h => h
  have hbA : ¬ (fun q : Nat => s.heap.size ≤ q) b := Nat.not_le.mpr hbl
  obtain ⟨a1, ea1⟩ : ∃ z, z = xs (6 * i + 1) := ⟨_, rfl⟩
  obtain ⟨a2, ea2⟩ : ∃ z, z = xs (6 * i + 2) := ⟨_, rfl⟩
  obtain ⟨a3, ea3⟩ : ∃ z, z = xs (6 * i + 3) := ⟨_, rfl⟩
  obtain ⟨a4, ea4⟩ : ∃ z, z = xs (6 * i + 4) := ⟨_, rfl⟩
  obtain ⟨a5, ea5⟩ : ∃ z, z = xs (6 * i + 5) := ⟨_, rfl⟩
  have htT0 : ∀ w ∈ TT, w.before _ s = true := fun w h => hts w (tt_in h)
  have hTB0 := hTB
  have hK0 := hK
  have hown0 : s.vm.findClass RL = some m.cls := hown
  have hTX0 := hTX
  have hX0 := hX
  have htT : ∀ w ∈ TT, w.before _ (s.setDrawn d) = true := dr_words htT0 d
  have hTB : TBok (s.setDrawn d) := TBok.same (u := s) (U := s.setDrawn d) rfl (Vm.Alike.refl s.vm) hTB0
  have hK : va_K D vwCl (ty6 cA) (s.setDrawn d) := hK0
  have hown : (s.setDrawn d).vm.findClass RL = some m.cls := hown0
  have hTX : TXok (fun q : Nat => s.heap.size ≤ q) (s.setDrawn d) := hTX0.dr d
  have hX : va_X b L xs (s.setDrawn d) (s.setDrawn d).heap := hX0
  refine lv_aload_n hx hb dL_law_1560 rfl (lv_at hl 4 rfl) ?_
  refine lv_aload_n hx hb dL_law_1561 rfl (lv_at hl 5 rfl) ?_
  refine lv_iload hx hb dL_law_1562 (lv_at hl 0 rfl) ?_
  refine lv_iconst (v := 1) hx hb dL_law_1564 (by decide) ?_
  refine lv_iadd hx hb dL_law_1565 ?_
  rw [show ((nI (6 * i)) + 1 : Int32) = nI ((6 * i) + 1) from nI_add (6 * i) 1]
  refine va_sld hx hb hX hbl hbA hS (show vp_in (nI ((6 * i) + 1)) L from ki_in (by omega) (by omega)) dL_law_1566 ?_
  rw [show xs (nI ((6 * i) + 1)).toNatClampNeg = a1 from (congrArg xs (ki_cl (by omega))).trans ea1.symm]
  refine lv_aload_n hx hb dL_law_1567 rfl (lv_at hl 5 rfl) ?_
  refine lv_iload hx hb dL_law_1568 (lv_at hl 0 rfl) ?_
  refine lv_iconst (v := 2) hx hb dL_law_1570 (by decide) ?_
  refine lv_iadd hx hb dL_law_1571 ?_
  rw [show ((nI (6 * i)) + 2 : Int32) = nI ((6 * i) + 2) from nI_add (6 * i) 2]
  refine va_sld hx hb hX hbl hbA hS (show vp_in (nI ((6 * i) + 2)) L from ki_in (by omega) (by omega)) dL_law_1572 ?_
  rw [show xs (nI ((6 * i) + 2)).toNatClampNeg = a2 from (congrArg xs (ki_cl (by omega))).trans ea2.symm]
  refine lv_aload_n hx hb dL_law_1573 rfl (lv_at hl 5 rfl) ?_
  refine lv_iload hx hb dL_law_1574 (lv_at hl 0 rfl) ?_
  refine lv_iconst (v := 3) hx hb dL_law_1576 (by decide) ?_
  refine lv_iadd hx hb dL_law_1577 ?_
  rw [show ((nI (6 * i)) + 3 : Int32) = nI ((6 * i) + 3) from nI_add (6 * i) 3]
  refine va_sld hx hb hX hbl hbA hS (show vp_in (nI ((6 * i) + 3)) L from ki_in (by omega) (by omega)) dL_law_1578 ?_
  rw [show xs (nI ((6 * i) + 3)).toNatClampNeg = a3 from (congrArg xs (ki_cl (by omega))).trans ea3.symm]
  refine lv_aload_n hx hb dL_law_1579 rfl (lv_at hl 2 rfl) ?_
  refine kj_i (pmJ _ _ _ _) (vx_runSW (As := [.ref x, .int a1, .int a2, .int a3, .ref qo]) (rest := []) ⟨hx, hb, hml, hown, htT⟩ (w_both l hst D cA _ S x qo fo n na hh cc ar ak h a1 a2 a3) (vx_cwSW 5 htT (kg_SW m_ml_L_230 m_st_L_both m_in_L m_cd_L_both) rfl rfl rfl (by decide +kernel) ⟨Nat.le_of_ble_eq_true rfl, Nat.le_of_ble_eq_true rfl⟩) (kj_SX (pmJ _ _ _ _) hK hP hD hTB hTX hS hA) rfl rfl hl.1 rfl (lv_room (Nat.le_of_ble_eq_true rfl)) dL_law_1580 ⟨(by show _ ≤ 601024; omega), (by show _ ≤ 7293034; omega)⟩) hP hD hS hA (fun r_1 x_1 H locs hq_1 hP hD hS => ?_)
  rw [List.append_assoc] at hP hD
  obtain ⟨hC_1, hQ_1⟩ := hq_1
  refine lv_istore (lv' := [(6, .int r_1), (5, .int (nI (6 * i))), (4, .ref qd), (3, .ref qo), (2, .ref am), (1, .ref x), (0, .ref b)]) hx hb dL_law_1583 hl (by decide) rfl (fun ls hl => ?_)
  refine lv_aload_n hx hb dL_law_1585 rfl (lv_at hl 4 rfl) ?_
  refine lv_aload_n hx hb dL_law_1586 rfl (lv_at hl 6 rfl) ?_
  refine lv_iload hx hb dL_law_1587 (lv_at hl 1 rfl) ?_
  refine lv_iconst (v := 1) hx hb dL_law_1589 (by decide) ?_
  refine lv_iadd hx hb dL_law_1590 ?_
  rw [show ((nI (6 * i)) + 1 : Int32) = nI ((6 * i) + 1) from nI_add (6 * i) 1]
  refine va_sld hx hb hX hbl hbA hS (show vp_in (nI ((6 * i) + 1)) L from ki_in (by omega) (by omega)) dL_law_1591 ?_
  rw [show xs (nI ((6 * i) + 1)).toNatClampNeg = a1 from (congrArg xs (ki_cl (by omega))).trans ea1.symm]
  refine lv_aload_n hx hb dL_law_1592 rfl (lv_at hl 6 rfl) ?_
  refine lv_iload hx hb dL_law_1593 (lv_at hl 1 rfl) ?_
  refine lv_iconst (v := 2) hx hb dL_law_1595 (by decide) ?_
  refine lv_iadd hx hb dL_law_1596 ?_
  rw [show ((nI (6 * i)) + 2 : Int32) = nI ((6 * i) + 2) from nI_add (6 * i) 2]
  refine va_sld hx hb hX hbl hbA hS (show vp_in (nI ((6 * i) + 2)) L from ki_in (by omega) (by omega)) dL_law_1597 ?_
  rw [show xs (nI ((6 * i) + 2)).toNatClampNeg = a2 from (congrArg xs (ki_cl (by omega))).trans ea2.symm]
  refine lv_aload_n hx hb dL_law_1598 rfl (lv_at hl 6 rfl) ?_
  refine lv_iload hx hb dL_law_1599 (lv_at hl 1 rfl) ?_
  refine lv_iconst (v := 3) hx hb dL_law_1601 (by decide) ?_
  refine lv_iadd hx hb dL_law_1602 ?_
  rw [show ((nI (6 * i)) + 3 : Int32) = nI ((6 * i) + 3) from nI_add (6 * i) 3]
  refine va_sld hx hb hX hbl hbA hS (show vp_in (nI ((6 * i) + 3)) L from ki_in (by omega) (by omega)) dL_law_1603 ?_
  rw [show xs (nI ((6 * i) + 3)).toNatClampNeg = a3 from (congrArg xs (ki_cl (by omega))).trans ea3.symm]
  refine kj_i (pmM _ _ _ _) (va_runV (As := [.int a1, .int a2, .int a3]) (rest := []) ⟨hx, hb, hml, hown, htT⟩ (t_both l D cA _ am r M n nm hI a1 a2 a3) (cwV 3 htT (kg_V m_ml_L_232 m_im_X6_both m_sl_X6_both m_in_X6 m_cd_X6_both) rfl rfl rfl (by decide +kernel) ⟨Nat.le_of_ble_eq_true rfl, Nat.le_of_ble_eq_true rfl⟩) (kj_V (pmM _ _ _ _) hK hP hD hTB (kj_rm (pmM _ _ _ _) hK hP)) rfl rfl hl.1 rfl (lv_room (Nat.le_of_ble_eq_true rfl)) dL_law_1604 ⟨(by show _ ≤ 601024; omega), (by show _ ≤ 7293034; omega)⟩) hP hD hS hA (fun r_2 x_2 H locs hq_2 hP hD hS => ?_)
  have hP := kj_P (pmM _ _ _ _).symm hP
  have hD := kj_D (pmM _ _ _ _).symm hD
  obtain ⟨hI_2, hM_2⟩ := hq_2
  have ea_2 := hM_2.2 1 (by decide) (by decide)
  have eb_2 := hM_2.2 2 (by decide) (by decide)
  refine lv_istore (lv' := [(7, .int r_2), (6, .int r_1), (5, .int (nI (6 * i))), (4, .ref qd), (3, .ref qo), (2, .ref am), (1, .ref x), (0, .ref b)]) hx hb dL_law_1607 hl (by decide) rfl (fun ls hl => ?_)
  refine lv_goto (tgt := 1757) hx hb dL_law_1609 (by decide) ?_
  refine W.widen (k := c0 + 20) (n := s0 + 400) (by omega) (by omega) ?_
  exact hnext _ x_2 _ _ _ _ _ _ _ _ _ _ _ hd0 hC_1 hI_2 (hL9.qc h hQ_1 hM_2) (ea_2.trans e1) (eb_2.trans e2) hP hD hS (lv_sub hl [2, 3, 4, 5, 6, 7] rfl)

set_option maxRecDepth 100000 in
set_option maxHeartbeats 4000000 in
theorem law_wouldChange (l : Launch) (hst : l.stackTraces = false) {p : Program} {e : Env} {s : State} {m : MethodId} {below : List Frame} {meth : Method} {c : Code} {b L : Nat} {xs : Nat → Int32} (C0 : lw_At p s m meth c b L xs) {D : va_G} {cA : Nat → ClassId} (hK : va_K D vwCl (ty6 cA) s) (hTB : TBok s) (hTX : TXok (fun q : Nat => s.heap.size ≤ q) s) {x ar ak qo qd am : Nat} {r : Nat → Nat} {c0 s0 i : Nat} (hc0 : c0 + 20 ≤ 601024) (hs0 : s0 + 400 ≤ 7293034) (hi : 6 * i + 6 ≤ L) (hL : L ≤ 3072) (hnext : ∀ (S : Pool) (M : MSt) (fo : Nat → Int64) (fd : Nat → UInt64) (n na nm : Nat) (hh cc : Int32) (H : Heap) (locs : List Loc) (ls : Array Slot) (d : Drawn), s.drawn.sameBut d lw_cs → INVC n na hh cc S x ar ak → INVR n nm M → REL False n 0 S M ar → M.1 1 = cc → M.1 2 = hh → va_P D vwCl (LW cA S qo fo qd fd am r M) H → va_D (fun q : Nat => s.heap.size ≤ q) (LW cA S qo fo qd fd am r M) → va_S (fun q : Nat => s.heap.size ≤ q) s.heap H locs → lv_has ls 9 [(5, .int (nI (6 * i))), (4, .ref qd), (3, .ref qo), (2, .ref am), (1, .ref x), (0, .ref b)] → W p l e room_1 (s.setDrawn d) m #[Value.ref b] below meth c H locs (c0 + 20) (s0 + 400) (lw_Z below #[Value.ref b] s) (F0 m 1757 ls [])) {S : Pool} {M : MSt} {fo : Nat → Int64} {fd : Nat → UInt64} {n na nm : Nat} {hh cc : Int32} {H : Heap} {locs : List Loc} {ls : Array Slot} {d : Drawn} (hd0 : s.drawn.sameBut d lw_cs) (h : INVC n na hh cc S x ar ak) (hI : INVR n nm M) (hL9 : REL False n 0 S M ar) (e1 : M.1 1 = cc) (e2 : M.1 2 = hh) (hP : va_P D vwCl (LW cA S qo fo qd fd am r M) H) (hD : va_D (fun q : Nat => s.heap.size ≤ q) (LW cA S qo fo qd fd am r M)) (hS : va_S (fun q : Nat => s.heap.size ≤ q) s.heap H locs) (hl : lv_has ls 9 [(5, .int (nI (6 * i))), (4, .ref qd), (3, .ref qo), (2, .ref am), (1, .ref x), (0, .ref b)]) : W p l e room_1 (s.setDrawn d) m #[Value.ref b] below meth c H locs c0 s0 (lw_Z below #[Value.ref b] s) (F0 m 1612 ls []) := by
  obtain ⟨hx, hb, hr, hml, hown, hts, hX, hbl, hlocks, hgv⟩ := id C0
  have hA : ∀ q : Nat, s.heap.size ≤ q → (fun q : Nat => s.heap.size ≤ q) q := fun _ h => h
  have hbA : ¬ (fun q : Nat => s.heap.size ≤ q) b := Nat.not_le.mpr hbl
  obtain ⟨a1, ea1⟩ : ∃ z, z = xs (6 * i + 1) := ⟨_, rfl⟩
  obtain ⟨a2, ea2⟩ : ∃ z, z = xs (6 * i + 2) := ⟨_, rfl⟩
  obtain ⟨a3, ea3⟩ : ∃ z, z = xs (6 * i + 3) := ⟨_, rfl⟩
  obtain ⟨a4, ea4⟩ : ∃ z, z = xs (6 * i + 4) := ⟨_, rfl⟩
  obtain ⟨a5, ea5⟩ : ∃ z, z = xs (6 * i + 5) := ⟨_, rfl⟩
  have htT0 : ∀ w ∈ TT, w.before _ s = true := fun w h => hts w (tt_in h)
  have hTB0 := hTB
  have hK0 := hK
  have hown0 : s.vm.findClass RL = some m.cls := hown
  have hTX0 := hTX
  have hX0 := hX
  have htT : ∀ w ∈ TT, w.before _ (s.setDrawn d) = true := dr_words htT0 d
  have hTB : TBok (s.setDrawn d) := TBok.same (u := s) (U := s.setDrawn d) rfl (Vm.Alike.refl s.vm) hTB0
  have hK : va_K D vwCl (ty6 cA) (s.setDrawn d) := hK0
  have hown : (s.setDrawn d).vm.findClass RL = some m.cls := hown0
  have hTX : TXok (fun q : Nat => s.heap.size ≤ q) (s.setDrawn d) := hTX0.dr d
  have hX : va_X b L xs (s.setDrawn d) (s.setDrawn d).heap := hX0
  refine lv_aload_n hx hb dL_law_1612 rfl (lv_at hl 4 rfl) ?_
  refine lv_aload_n hx hb dL_law_1613 rfl (lv_at hl 5 rfl) ?_
  refine lv_iload hx hb dL_law_1614 (lv_at hl 0 rfl) ?_
  refine lv_iconst (v := 1) hx hb dL_law_1616 (by decide) ?_
  refine lv_iadd hx hb dL_law_1617 ?_
  rw [show ((nI (6 * i)) + 1 : Int32) = nI ((6 * i) + 1) from nI_add (6 * i) 1]
  refine va_sld hx hb hX hbl hbA hS (show vp_in (nI ((6 * i) + 1)) L from ki_in (by omega) (by omega)) dL_law_1618 ?_
  rw [show xs (nI ((6 * i) + 1)).toNatClampNeg = a1 from (congrArg xs (ki_cl (by omega))).trans ea1.symm]
  refine lv_aload_n hx hb dL_law_1619 rfl (lv_at hl 5 rfl) ?_
  refine lv_iload hx hb dL_law_1620 (lv_at hl 0 rfl) ?_
  refine lv_iconst (v := 2) hx hb dL_law_1622 (by decide) ?_
  refine lv_iadd hx hb dL_law_1623 ?_
  rw [show ((nI (6 * i)) + 2 : Int32) = nI ((6 * i) + 2) from nI_add (6 * i) 2]
  refine va_sld hx hb hX hbl hbA hS (show vp_in (nI ((6 * i) + 2)) L from ki_in (by omega) (by omega)) dL_law_1624 ?_
  rw [show xs (nI ((6 * i) + 2)).toNatClampNeg = a2 from (congrArg xs (ki_cl (by omega))).trans ea2.symm]
  refine lv_aload_n hx hb dL_law_1625 rfl (lv_at hl 5 rfl) ?_
  refine lv_iload hx hb dL_law_1626 (lv_at hl 0 rfl) ?_
  refine lv_iconst (v := 3) hx hb dL_law_1628 (by decide) ?_
  refine lv_iadd hx hb dL_law_1629 ?_
  rw [show ((nI (6 * i)) + 3 : Int32) = nI ((6 * i) + 3) from nI_add (6 * i) 3]
  refine va_sld hx hb hX hbl hbA hS (show vp_in (nI ((6 * i) + 3)) L from ki_in (by omega) (by omega)) dL_law_1630 ?_
  rw [show xs (nI ((6 * i) + 3)).toNatClampNeg = a3 from (congrArg xs (ki_cl (by omega))).trans ea3.symm]
  refine lv_aload_n hx hb dL_law_1631 rfl (lv_at hl 2 rfl) ?_
  refine kj_i (pmJ _ _ _ _) (vx_runSW (As := [.ref x, .int a1, .int a2, .int a3, .ref qo]) (rest := []) ⟨hx, hb, hml, hown, htT⟩ (w_wouldChange l hst D cA _ S x qo fo n na hh cc ar ak h a1 a2 a3) (vx_cwSW 5 htT (kg_SW m_ml_L_233 m_st_L_wouldChange m_in_L m_cd_L_wouldChange) rfl rfl rfl (by decide +kernel) ⟨Nat.le_of_ble_eq_true rfl, Nat.le_of_ble_eq_true rfl⟩) (kj_SX (pmJ _ _ _ _) hK hP hD hTB hTX hS hA) rfl rfl hl.1 rfl (lv_room (Nat.le_of_ble_eq_true rfl)) dL_law_1632 ⟨(by show _ ≤ 601024; omega), (by show _ ≤ 7293034; omega)⟩) hP hD hS hA (fun r_1 x_1 H locs hq_1 hP hD hS => ?_)
  rw [List.append_assoc] at hP hD
  obtain ⟨hC_1, hQ_1⟩ := hq_1
  refine lv_istore (lv' := [(6, .int r_1), (5, .int (nI (6 * i))), (4, .ref qd), (3, .ref qo), (2, .ref am), (1, .ref x), (0, .ref b)]) hx hb dL_law_1635 hl (by decide) rfl (fun ls hl => ?_)
  refine lv_aload_n hx hb dL_law_1637 rfl (lv_at hl 4 rfl) ?_
  refine lv_aload_n hx hb dL_law_1638 rfl (lv_at hl 6 rfl) ?_
  refine lv_iload hx hb dL_law_1639 (lv_at hl 1 rfl) ?_
  refine lv_iconst (v := 1) hx hb dL_law_1641 (by decide) ?_
  refine lv_iadd hx hb dL_law_1642 ?_
  rw [show ((nI (6 * i)) + 1 : Int32) = nI ((6 * i) + 1) from nI_add (6 * i) 1]
  refine va_sld hx hb hX hbl hbA hS (show vp_in (nI ((6 * i) + 1)) L from ki_in (by omega) (by omega)) dL_law_1643 ?_
  rw [show xs (nI ((6 * i) + 1)).toNatClampNeg = a1 from (congrArg xs (ki_cl (by omega))).trans ea1.symm]
  refine lv_aload_n hx hb dL_law_1644 rfl (lv_at hl 6 rfl) ?_
  refine lv_iload hx hb dL_law_1645 (lv_at hl 1 rfl) ?_
  refine lv_iconst (v := 2) hx hb dL_law_1647 (by decide) ?_
  refine lv_iadd hx hb dL_law_1648 ?_
  rw [show ((nI (6 * i)) + 2 : Int32) = nI ((6 * i) + 2) from nI_add (6 * i) 2]
  refine va_sld hx hb hX hbl hbA hS (show vp_in (nI ((6 * i) + 2)) L from ki_in (by omega) (by omega)) dL_law_1649 ?_
  rw [show xs (nI ((6 * i) + 2)).toNatClampNeg = a2 from (congrArg xs (ki_cl (by omega))).trans ea2.symm]
  refine lv_aload_n hx hb dL_law_1650 rfl (lv_at hl 6 rfl) ?_
  refine lv_iload hx hb dL_law_1651 (lv_at hl 1 rfl) ?_
  refine lv_iconst (v := 3) hx hb dL_law_1653 (by decide) ?_
  refine lv_iadd hx hb dL_law_1654 ?_
  rw [show ((nI (6 * i)) + 3 : Int32) = nI ((6 * i) + 3) from nI_add (6 * i) 3]
  refine va_sld hx hb hX hbl hbA hS (show vp_in (nI ((6 * i) + 3)) L from ki_in (by omega) (by omega)) dL_law_1655 ?_
  rw [show xs (nI ((6 * i) + 3)).toNatClampNeg = a3 from (congrArg xs (ki_cl (by omega))).trans ea3.symm]
  refine kj_i (pmM _ _ _ _) (va_runV (As := [.int a1, .int a2, .int a3]) (rest := []) ⟨hx, hb, hml, hown, htT⟩ (t_wouldChange l D cA _ am r M n nm hI a1 a2 a3) (cwV 3 htT (kg_V m_ml_L_235 m_im_X6_wouldChange m_sl_X6_wouldChange m_in_X6 m_cd_X6_wouldChange) rfl rfl rfl (by decide +kernel) ⟨Nat.le_of_ble_eq_true rfl, Nat.le_of_ble_eq_true rfl⟩) (kj_V (pmM _ _ _ _) hK hP hD hTB (kj_rm (pmM _ _ _ _) hK hP)) rfl rfl hl.1 rfl (lv_room (Nat.le_of_ble_eq_true rfl)) dL_law_1656 ⟨(by show _ ≤ 601024; omega), (by show _ ≤ 7293034; omega)⟩) hP hD hS hA (fun r_2 x_2 H locs hq_2 hP hD hS => ?_)
  have hP := kj_P (pmM _ _ _ _).symm hP
  have hD := kj_D (pmM _ _ _ _).symm hD
  obtain ⟨hI_2, hM_2⟩ := hq_2
  have ea_2 := hM_2.2 1 (by decide) (by decide)
  have eb_2 := hM_2.2 2 (by decide) (by decide)
  refine lv_istore (lv' := [(7, .int r_2), (6, .int r_1), (5, .int (nI (6 * i))), (4, .ref qd), (3, .ref qo), (2, .ref am), (1, .ref x), (0, .ref b)]) hx hb dL_law_1659 hl (by decide) rfl (fun ls hl => ?_)
  refine lv_goto (tgt := 1757) hx hb dL_law_1661 (by decide) ?_
  refine W.widen (k := c0 + 20) (n := s0 + 400) (by omega) (by omega) ?_
  exact hnext _ x_2 _ _ _ _ _ _ _ _ _ _ _ hd0 hC_1 hI_2 (hL9.qc h hQ_1 hM_2) (ea_2.trans e1) (eb_2.trans e2) hP hD hS (lv_sub hl [2, 3, 4, 5, 6, 7] rfl)

set_option maxRecDepth 100000 in
set_option maxHeartbeats 4000000 in
theorem law_wouldTurn (l : Launch) (hst : l.stackTraces = false) {p : Program} {e : Env} {s : State} {m : MethodId} {below : List Frame} {meth : Method} {c : Code} {b L : Nat} {xs : Nat → Int32} (C0 : lw_At p s m meth c b L xs) {D : va_G} {cA : Nat → ClassId} (hK : va_K D vwCl (ty6 cA) s) (hTB : TBok s) (hTX : TXok (fun q : Nat => s.heap.size ≤ q) s) {x ar ak qo qd am : Nat} {r : Nat → Nat} {c0 s0 i : Nat} (hc0 : c0 + 20 ≤ 601024) (hs0 : s0 + 400 ≤ 7293034) (hi : 6 * i + 6 ≤ L) (hL : L ≤ 3072) (hnext : ∀ (S : Pool) (M : MSt) (fo : Nat → Int64) (fd : Nat → UInt64) (n na nm : Nat) (hh cc : Int32) (H : Heap) (locs : List Loc) (ls : Array Slot) (d : Drawn), s.drawn.sameBut d lw_cs → INVC n na hh cc S x ar ak → INVR n nm M → REL False n 0 S M ar → M.1 1 = cc → M.1 2 = hh → va_P D vwCl (LW cA S qo fo qd fd am r M) H → va_D (fun q : Nat => s.heap.size ≤ q) (LW cA S qo fo qd fd am r M) → va_S (fun q : Nat => s.heap.size ≤ q) s.heap H locs → lv_has ls 9 [(5, .int (nI (6 * i))), (4, .ref qd), (3, .ref qo), (2, .ref am), (1, .ref x), (0, .ref b)] → W p l e room_1 (s.setDrawn d) m #[Value.ref b] below meth c H locs (c0 + 20) (s0 + 400) (lw_Z below #[Value.ref b] s) (F0 m 1757 ls [])) {S : Pool} {M : MSt} {fo : Nat → Int64} {fd : Nat → UInt64} {n na nm : Nat} {hh cc : Int32} {H : Heap} {locs : List Loc} {ls : Array Slot} {d : Drawn} (hd0 : s.drawn.sameBut d lw_cs) (h : INVC n na hh cc S x ar ak) (hI : INVR n nm M) (hL9 : REL False n 0 S M ar) (e1 : M.1 1 = cc) (e2 : M.1 2 = hh) (hP : va_P D vwCl (LW cA S qo fo qd fd am r M) H) (hD : va_D (fun q : Nat => s.heap.size ≤ q) (LW cA S qo fo qd fd am r M)) (hS : va_S (fun q : Nat => s.heap.size ≤ q) s.heap H locs) (hl : lv_has ls 9 [(5, .int (nI (6 * i))), (4, .ref qd), (3, .ref qo), (2, .ref am), (1, .ref x), (0, .ref b)]) : W p l e room_1 (s.setDrawn d) m #[Value.ref b] below meth c H locs c0 s0 (lw_Z below #[Value.ref b] s) (F0 m 1664 ls []) := by
  obtain ⟨hx, hb, hr, hml, hown, hts, hX, hbl, hlocks, hgv⟩ := id C0
  have hA : ∀ q : Nat, s.heap.size ≤ q → (fun q : Nat => s.heap.size ≤ q) q := fun _ h => h
  have hbA : ¬ (fun q : Nat => s.heap.size ≤ q) b := Nat.not_le.mpr hbl
  obtain ⟨a1, ea1⟩ : ∃ z, z = xs (6 * i + 1) := ⟨_, rfl⟩
  obtain ⟨a2, ea2⟩ : ∃ z, z = xs (6 * i + 2) := ⟨_, rfl⟩
  obtain ⟨a3, ea3⟩ : ∃ z, z = xs (6 * i + 3) := ⟨_, rfl⟩
  obtain ⟨a4, ea4⟩ : ∃ z, z = xs (6 * i + 4) := ⟨_, rfl⟩
  obtain ⟨a5, ea5⟩ : ∃ z, z = xs (6 * i + 5) := ⟨_, rfl⟩
  have htT0 : ∀ w ∈ TT, w.before _ s = true := fun w h => hts w (tt_in h)
  have hTB0 := hTB
  have hK0 := hK
  have hown0 : s.vm.findClass RL = some m.cls := hown
  have hTX0 := hTX
  have hX0 := hX
  have htT : ∀ w ∈ TT, w.before _ (s.setDrawn d) = true := dr_words htT0 d
  have hTB : TBok (s.setDrawn d) := TBok.same (u := s) (U := s.setDrawn d) rfl (Vm.Alike.refl s.vm) hTB0
  have hK : va_K D vwCl (ty6 cA) (s.setDrawn d) := hK0
  have hown : (s.setDrawn d).vm.findClass RL = some m.cls := hown0
  have hTX : TXok (fun q : Nat => s.heap.size ≤ q) (s.setDrawn d) := hTX0.dr d
  have hX : va_X b L xs (s.setDrawn d) (s.setDrawn d).heap := hX0
  refine lv_aload_n hx hb dL_law_1664 rfl (lv_at hl 4 rfl) ?_
  refine lv_aload_n hx hb dL_law_1665 rfl (lv_at hl 5 rfl) ?_
  refine lv_iload hx hb dL_law_1666 (lv_at hl 0 rfl) ?_
  refine lv_iconst (v := 1) hx hb dL_law_1668 (by decide) ?_
  refine lv_iadd hx hb dL_law_1669 ?_
  rw [show ((nI (6 * i)) + 1 : Int32) = nI ((6 * i) + 1) from nI_add (6 * i) 1]
  refine va_sld hx hb hX hbl hbA hS (show vp_in (nI ((6 * i) + 1)) L from ki_in (by omega) (by omega)) dL_law_1670 ?_
  rw [show xs (nI ((6 * i) + 1)).toNatClampNeg = a1 from (congrArg xs (ki_cl (by omega))).trans ea1.symm]
  refine lv_aload_n hx hb dL_law_1671 rfl (lv_at hl 5 rfl) ?_
  refine lv_iload hx hb dL_law_1672 (lv_at hl 0 rfl) ?_
  refine lv_iconst (v := 2) hx hb dL_law_1674 (by decide) ?_
  refine lv_iadd hx hb dL_law_1675 ?_
  rw [show ((nI (6 * i)) + 2 : Int32) = nI ((6 * i) + 2) from nI_add (6 * i) 2]
  refine va_sld hx hb hX hbl hbA hS (show vp_in (nI ((6 * i) + 2)) L from ki_in (by omega) (by omega)) dL_law_1676 ?_
  rw [show xs (nI ((6 * i) + 2)).toNatClampNeg = a2 from (congrArg xs (ki_cl (by omega))).trans ea2.symm]
  refine lv_aload_n hx hb dL_law_1677 rfl (lv_at hl 2 rfl) ?_
  refine kj_i (pmJ _ _ _ _) (vx_runSW (As := [.ref x, .int a1, .int a2, .ref qo]) (rest := []) ⟨hx, hb, hml, hown, htT⟩ (w_wouldTurn l hst D cA _ S x qo fo n na hh cc ar ak h a1 a2) (vx_cwSW 4 htT (kg_SW m_ml_L_236 m_st_L_wouldTurn m_in_L m_cd_L_wouldTurn) rfl rfl rfl (by decide +kernel) ⟨Nat.le_of_ble_eq_true rfl, Nat.le_of_ble_eq_true rfl⟩) (kj_SX (pmJ _ _ _ _) hK hP hD hTB hTX hS hA) rfl rfl hl.1 rfl (lv_room (Nat.le_of_ble_eq_true rfl)) dL_law_1678 ⟨(by show _ ≤ 601024; omega), (by show _ ≤ 7293034; omega)⟩) hP hD hS hA (fun r_1 x_1 H locs hq_1 hP hD hS => ?_)
  rw [List.append_assoc] at hP hD
  obtain ⟨hC_1, hQ_1⟩ := hq_1
  refine lv_istore (lv' := [(6, .int r_1), (5, .int (nI (6 * i))), (4, .ref qd), (3, .ref qo), (2, .ref am), (1, .ref x), (0, .ref b)]) hx hb dL_law_1681 hl (by decide) rfl (fun ls hl => ?_)
  refine lv_aload_n hx hb dL_law_1683 rfl (lv_at hl 4 rfl) ?_
  refine lv_aload_n hx hb dL_law_1684 rfl (lv_at hl 6 rfl) ?_
  refine lv_iload hx hb dL_law_1685 (lv_at hl 1 rfl) ?_
  refine lv_iconst (v := 1) hx hb dL_law_1687 (by decide) ?_
  refine lv_iadd hx hb dL_law_1688 ?_
  rw [show ((nI (6 * i)) + 1 : Int32) = nI ((6 * i) + 1) from nI_add (6 * i) 1]
  refine va_sld hx hb hX hbl hbA hS (show vp_in (nI ((6 * i) + 1)) L from ki_in (by omega) (by omega)) dL_law_1689 ?_
  rw [show xs (nI ((6 * i) + 1)).toNatClampNeg = a1 from (congrArg xs (ki_cl (by omega))).trans ea1.symm]
  refine lv_aload_n hx hb dL_law_1690 rfl (lv_at hl 6 rfl) ?_
  refine lv_iload hx hb dL_law_1691 (lv_at hl 1 rfl) ?_
  refine lv_iconst (v := 2) hx hb dL_law_1693 (by decide) ?_
  refine lv_iadd hx hb dL_law_1694 ?_
  rw [show ((nI (6 * i)) + 2 : Int32) = nI ((6 * i) + 2) from nI_add (6 * i) 2]
  refine va_sld hx hb hX hbl hbA hS (show vp_in (nI ((6 * i) + 2)) L from ki_in (by omega) (by omega)) dL_law_1695 ?_
  rw [show xs (nI ((6 * i) + 2)).toNatClampNeg = a2 from (congrArg xs (ki_cl (by omega))).trans ea2.symm]
  refine kj_i (pmM _ _ _ _) (va_runV (As := [.int a1, .int a2]) (rest := []) ⟨hx, hb, hml, hown, htT⟩ (t_wouldTurn l D cA _ am r M n nm hI a1 a2) (cwV 2 htT (kg_V m_ml_L_238 m_im_X6_wouldTurn m_sl_X6_wouldTurn m_in_X6 m_cd_X6_wouldTurn) rfl rfl rfl (by decide +kernel) ⟨Nat.le_of_ble_eq_true rfl, Nat.le_of_ble_eq_true rfl⟩) (kj_V (pmM _ _ _ _) hK hP hD hTB (kj_rm (pmM _ _ _ _) hK hP)) rfl rfl hl.1 rfl (lv_room (Nat.le_of_ble_eq_true rfl)) dL_law_1696 ⟨(by show _ ≤ 601024; omega), (by show _ ≤ 7293034; omega)⟩) hP hD hS hA (fun r_2 x_2 H locs hq_2 hP hD hS => ?_)
  have hP := kj_P (pmM _ _ _ _).symm hP
  have hD := kj_D (pmM _ _ _ _).symm hD
  obtain ⟨hI_2, hM_2⟩ := hq_2
  have ea_2 := hM_2.2 1 (by decide) (by decide)
  have eb_2 := hM_2.2 2 (by decide) (by decide)
  refine lv_istore (lv' := [(7, .int r_2), (6, .int r_1), (5, .int (nI (6 * i))), (4, .ref qd), (3, .ref qo), (2, .ref am), (1, .ref x), (0, .ref b)]) hx hb dL_law_1699 hl (by decide) rfl (fun ls hl => ?_)
  refine lv_goto (tgt := 1757) hx hb dL_law_1701 (by decide) ?_
  refine W.widen (k := c0 + 20) (n := s0 + 400) (by omega) (by omega) ?_
  exact hnext _ x_2 _ _ _ _ _ _ _ _ _ _ _ hd0 hC_1 hI_2 (hL9.qc h hQ_1 hM_2) (ea_2.trans e1) (eb_2.trans e2) hP hD hS (lv_sub hl [2, 3, 4, 5, 6, 7] rfl)

set_option maxRecDepth 100000 in
set_option maxHeartbeats 4000000 in
theorem law_shareIn (l : Launch) (hst : l.stackTraces = false) {p : Program} {e : Env} {s : State} {m : MethodId} {below : List Frame} {meth : Method} {c : Code} {b L : Nat} {xs : Nat → Int32} (C0 : lw_At p s m meth c b L xs) {D : va_G} {cA : Nat → ClassId} (hK : va_K D vwCl (ty6 cA) s) (hTB : TBok s) (hTX : TXok (fun q : Nat => s.heap.size ≤ q) s) {x ar ak qo qd am : Nat} {r : Nat → Nat} {c0 s0 i : Nat} (hc0 : c0 + 20 ≤ 601024) (hs0 : s0 + 400 ≤ 7293034) (hi : 6 * i + 6 ≤ L) (hL : L ≤ 3072) (hnext : ∀ (S : Pool) (M : MSt) (fo : Nat → Int64) (fd : Nat → UInt64) (n na nm : Nat) (hh cc : Int32) (H : Heap) (locs : List Loc) (ls : Array Slot) (d : Drawn), s.drawn.sameBut d lw_cs → INVC n na hh cc S x ar ak → INVR n nm M → REL False n 0 S M ar → M.1 1 = cc → M.1 2 = hh → va_P D vwCl (LW cA S qo fo qd fd am r M) H → va_D (fun q : Nat => s.heap.size ≤ q) (LW cA S qo fo qd fd am r M) → va_S (fun q : Nat => s.heap.size ≤ q) s.heap H locs → lv_has ls 9 [(5, .int (nI (6 * i))), (4, .ref qd), (3, .ref qo), (2, .ref am), (1, .ref x), (0, .ref b)] → W p l e room_1 (s.setDrawn d) m #[Value.ref b] below meth c H locs (c0 + 20) (s0 + 400) (lw_Z below #[Value.ref b] s) (F0 m 1757 ls [])) {S : Pool} {M : MSt} {fo : Nat → Int64} {fd : Nat → UInt64} {n na nm : Nat} {hh cc : Int32} {H : Heap} {locs : List Loc} {ls : Array Slot} {d : Drawn} (hd0 : s.drawn.sameBut d lw_cs) (h : INVC n na hh cc S x ar ak) (hI : INVR n nm M) (hL9 : REL False n 0 S M ar) (e1 : M.1 1 = cc) (e2 : M.1 2 = hh) (hP : va_P D vwCl (LW cA S qo fo qd fd am r M) H) (hD : va_D (fun q : Nat => s.heap.size ≤ q) (LW cA S qo fo qd fd am r M)) (hS : va_S (fun q : Nat => s.heap.size ≤ q) s.heap H locs) (hl : lv_has ls 9 [(5, .int (nI (6 * i))), (4, .ref qd), (3, .ref qo), (2, .ref am), (1, .ref x), (0, .ref b)]) : W p l e room_1 (s.setDrawn d) m #[Value.ref b] below meth c H locs c0 s0 (lw_Z below #[Value.ref b] s) (F0 m 1704 ls []) := by
  obtain ⟨hx, hb, hr, hml, hown, hts, hX, hbl, hlocks, hgv⟩ := id C0
  have hA : ∀ q : Nat, s.heap.size ≤ q → (fun q : Nat => s.heap.size ≤ q) q := fun _ h => h
  have hbA : ¬ (fun q : Nat => s.heap.size ≤ q) b := Nat.not_le.mpr hbl
  obtain ⟨a1, ea1⟩ : ∃ z, z = xs (6 * i + 1) := ⟨_, rfl⟩
  obtain ⟨a2, ea2⟩ : ∃ z, z = xs (6 * i + 2) := ⟨_, rfl⟩
  obtain ⟨a3, ea3⟩ : ∃ z, z = xs (6 * i + 3) := ⟨_, rfl⟩
  obtain ⟨a4, ea4⟩ : ∃ z, z = xs (6 * i + 4) := ⟨_, rfl⟩
  obtain ⟨a5, ea5⟩ : ∃ z, z = xs (6 * i + 5) := ⟨_, rfl⟩
  have htT0 : ∀ w ∈ TT, w.before _ s = true := fun w h => hts w (tt_in h)
  have hTB0 := hTB
  have hK0 := hK
  have hown0 : s.vm.findClass RL = some m.cls := hown
  have hTX0 := hTX
  have hX0 := hX
  have htT : ∀ w ∈ TT, w.before _ (s.setDrawn d) = true := dr_words htT0 d
  have hTB : TBok (s.setDrawn d) := TBok.same (u := s) (U := s.setDrawn d) rfl (Vm.Alike.refl s.vm) hTB0
  have hK : va_K D vwCl (ty6 cA) (s.setDrawn d) := hK0
  have hown : (s.setDrawn d).vm.findClass RL = some m.cls := hown0
  have hTX : TXok (fun q : Nat => s.heap.size ≤ q) (s.setDrawn d) := hTX0.dr d
  have hX : va_X b L xs (s.setDrawn d) (s.setDrawn d).heap := hX0
  refine lv_aload_n hx hb dL_law_1704 rfl (lv_at hl 4 rfl) ?_
  refine lv_aload_n hx hb dL_law_1705 rfl (lv_at hl 5 rfl) ?_
  refine lv_iload hx hb dL_law_1706 (lv_at hl 0 rfl) ?_
  refine lv_iconst (v := 1) hx hb dL_law_1708 (by decide) ?_
  refine lv_iadd hx hb dL_law_1709 ?_
  rw [show ((nI (6 * i)) + 1 : Int32) = nI ((6 * i) + 1) from nI_add (6 * i) 1]
  refine va_sld hx hb hX hbl hbA hS (show vp_in (nI ((6 * i) + 1)) L from ki_in (by omega) (by omega)) dL_law_1710 ?_
  rw [show xs (nI ((6 * i) + 1)).toNatClampNeg = a1 from (congrArg xs (ki_cl (by omega))).trans ea1.symm]
  refine lv_aload_n hx hb dL_law_1711 rfl (lv_at hl 5 rfl) ?_
  refine lv_iload hx hb dL_law_1712 (lv_at hl 0 rfl) ?_
  refine lv_iconst (v := 2) hx hb dL_law_1714 (by decide) ?_
  refine lv_iadd hx hb dL_law_1715 ?_
  rw [show ((nI (6 * i)) + 2 : Int32) = nI ((6 * i) + 2) from nI_add (6 * i) 2]
  refine va_sld hx hb hX hbl hbA hS (show vp_in (nI ((6 * i) + 2)) L from ki_in (by omega) (by omega)) dL_law_1716 ?_
  rw [show xs (nI ((6 * i) + 2)).toNatClampNeg = a2 from (congrArg xs (ki_cl (by omega))).trans ea2.symm]
  refine lv_aload_n hx hb dL_law_1717 rfl (lv_at hl 2 rfl) ?_
  refine kj_i (pmJ _ _ _ _) (vx_runSW (As := [.ref x, .int a1, .int a2, .ref qo]) (rest := []) ⟨hx, hb, hml, hown, htT⟩ (w_shareIn l hst D cA _ S x qo fo n na hh cc ar ak h a1 a2) (vx_cwSW 4 htT (kg_SW m_ml_L_239 m_st_L_shareIn m_in_L m_cd_L_shareIn) rfl rfl rfl (by decide +kernel) ⟨Nat.le_of_ble_eq_true rfl, Nat.le_of_ble_eq_true rfl⟩) (kj_SX (pmJ _ _ _ _) hK hP hD hTB hTX hS hA) rfl rfl hl.1 rfl (lv_room (Nat.le_of_ble_eq_true rfl)) dL_law_1718 ⟨(by show _ ≤ 601024; omega), (by show _ ≤ 7293034; omega)⟩) hP hD hS hA (fun r_1 x_1 H locs hq_1 hP hD hS => ?_)
  rw [List.append_assoc] at hP hD
  obtain ⟨hC_1, hQ_1⟩ := hq_1
  refine lv_istore (lv' := [(6, .int r_1), (5, .int (nI (6 * i))), (4, .ref qd), (3, .ref qo), (2, .ref am), (1, .ref x), (0, .ref b)]) hx hb dL_law_1721 hl (by decide) rfl (fun ls hl => ?_)
  refine lv_aload_n hx hb dL_law_1723 rfl (lv_at hl 4 rfl) ?_
  refine lv_aload_n hx hb dL_law_1724 rfl (lv_at hl 6 rfl) ?_
  refine lv_iload hx hb dL_law_1725 (lv_at hl 1 rfl) ?_
  refine lv_iconst (v := 1) hx hb dL_law_1727 (by decide) ?_
  refine lv_iadd hx hb dL_law_1728 ?_
  rw [show ((nI (6 * i)) + 1 : Int32) = nI ((6 * i) + 1) from nI_add (6 * i) 1]
  refine va_sld hx hb hX hbl hbA hS (show vp_in (nI ((6 * i) + 1)) L from ki_in (by omega) (by omega)) dL_law_1729 ?_
  rw [show xs (nI ((6 * i) + 1)).toNatClampNeg = a1 from (congrArg xs (ki_cl (by omega))).trans ea1.symm]
  refine lv_aload_n hx hb dL_law_1730 rfl (lv_at hl 6 rfl) ?_
  refine lv_iload hx hb dL_law_1731 (lv_at hl 1 rfl) ?_
  refine lv_iconst (v := 2) hx hb dL_law_1733 (by decide) ?_
  refine lv_iadd hx hb dL_law_1734 ?_
  rw [show ((nI (6 * i)) + 2 : Int32) = nI ((6 * i) + 2) from nI_add (6 * i) 2]
  refine va_sld hx hb hX hbl hbA hS (show vp_in (nI ((6 * i) + 2)) L from ki_in (by omega) (by omega)) dL_law_1735 ?_
  rw [show xs (nI ((6 * i) + 2)).toNatClampNeg = a2 from (congrArg xs (ki_cl (by omega))).trans ea2.symm]
  refine kj_i (pmM _ _ _ _) (va_runV (As := [.int a1, .int a2]) (rest := []) ⟨hx, hb, hml, hown, htT⟩ (t_shareIn l D cA _ am r M n nm hI a1 a2) (cwV 2 htT (kg_V m_ml_L_241 m_im_X6_shareIn m_sl_X6_shareIn m_in_X6 m_cd_X6_shareIn) rfl rfl rfl (by decide +kernel) ⟨Nat.le_of_ble_eq_true rfl, Nat.le_of_ble_eq_true rfl⟩) (kj_V (pmM _ _ _ _) hK hP hD hTB (kj_rm (pmM _ _ _ _) hK hP)) rfl rfl hl.1 rfl (lv_room (Nat.le_of_ble_eq_true rfl)) dL_law_1736 ⟨(by show _ ≤ 601024; omega), (by show _ ≤ 7293034; omega)⟩) hP hD hS hA (fun r_2 x_2 H locs hq_2 hP hD hS => ?_)
  have hP := kj_P (pmM _ _ _ _).symm hP
  have hD := kj_D (pmM _ _ _ _).symm hD
  obtain ⟨hI_2, hM_2⟩ := hq_2
  have ea_2 := hM_2.2 1 (by decide) (by decide)
  have eb_2 := hM_2.2 2 (by decide) (by decide)
  refine lv_istore (lv' := [(7, .int r_2), (6, .int r_1), (5, .int (nI (6 * i))), (4, .ref qd), (3, .ref qo), (2, .ref am), (1, .ref x), (0, .ref b)]) hx hb dL_law_1739 hl (by decide) rfl (fun ls hl => ?_)
  refine lv_goto (tgt := 1757) hx hb dL_law_1741 (by decide) ?_
  refine W.widen (k := c0 + 20) (n := s0 + 400) (by omega) (by omega) ?_
  exact hnext _ x_2 _ _ _ _ _ _ _ _ _ _ _ hd0 hC_1 hI_2 (hL9.qc h hQ_1 hM_2) (ea_2.trans e1) (eb_2.trans e2) hP hD hS (lv_sub hl [2, 3, 4, 5, 6, 7] rfl)

set_option maxRecDepth 100000 in
set_option maxHeartbeats 4000000 in
theorem law_digest (l : Launch) (hst : l.stackTraces = false) {p : Program} {e : Env} {s : State} {m : MethodId} {below : List Frame} {meth : Method} {c : Code} {b L : Nat} {xs : Nat → Int32} (C0 : lw_At p s m meth c b L xs) {D : va_G} {cA : Nat → ClassId} (hK : va_K D vwCl (ty6 cA) s) (hTB : TBok s) (hTX : TXok (fun q : Nat => s.heap.size ≤ q) s) {x ar ak qo qd am : Nat} {r : Nat → Nat} {c0 s0 i : Nat} (hc0 : c0 + 20 ≤ 601024) (hs0 : s0 + 400 ≤ 7293034) (hi : 6 * i + 6 ≤ L) (hL : L ≤ 3072) (hnext : ∀ (S : Pool) (M : MSt) (fo : Nat → Int64) (fd : Nat → UInt64) (n na nm : Nat) (hh cc : Int32) (H : Heap) (locs : List Loc) (ls : Array Slot) (d : Drawn), s.drawn.sameBut d lw_cs → INVC n na hh cc S x ar ak → INVR n nm M → REL False n 0 S M ar → M.1 1 = cc → M.1 2 = hh → va_P D vwCl (LW cA S qo fo qd fd am r M) H → va_D (fun q : Nat => s.heap.size ≤ q) (LW cA S qo fo qd fd am r M) → va_S (fun q : Nat => s.heap.size ≤ q) s.heap H locs → lv_has ls 9 [(5, .int (nI (6 * i))), (4, .ref qd), (3, .ref qo), (2, .ref am), (1, .ref x), (0, .ref b)] → W p l e room_1 (s.setDrawn d) m #[Value.ref b] below meth c H locs (c0 + 20) (s0 + 400) (lw_Z below #[Value.ref b] s) (F0 m 1757 ls [])) {S : Pool} {M : MSt} {fo : Nat → Int64} {fd : Nat → UInt64} {n na nm : Nat} {hh cc : Int32} {H : Heap} {locs : List Loc} {ls : Array Slot} {d : Drawn} (hd0 : s.drawn.sameBut d lw_cs) (h : INVC n na hh cc S x ar ak) (hI : INVR n nm M) (hL9 : REL False n 0 S M ar) (e1 : M.1 1 = cc) (e2 : M.1 2 = hh) (hP : va_P D vwCl (LW cA S qo fo qd fd am r M) H) (hD : va_D (fun q : Nat => s.heap.size ≤ q) (LW cA S qo fo qd fd am r M)) (hS : va_S (fun q : Nat => s.heap.size ≤ q) s.heap H locs) (hl : lv_has ls 9 [(5, .int (nI (6 * i))), (4, .ref qd), (3, .ref qo), (2, .ref am), (1, .ref x), (0, .ref b)]) : W p l e room_1 (s.setDrawn d) m #[Value.ref b] below meth c H locs c0 s0 (lw_Z below #[Value.ref b] s) (F0 m 1744 ls []) := by
  obtain ⟨hx, hb, hr, hml, hown, hts, hX, hbl, hlocks, hgv⟩ := id C0
  have hA : ∀ q : Nat, s.heap.size ≤ q → (fun q : Nat => s.heap.size ≤ q) q := fun _ h => h
  have hbA : ¬ (fun q : Nat => s.heap.size ≤ q) b := Nat.not_le.mpr hbl
  obtain ⟨a1, ea1⟩ : ∃ z, z = xs (6 * i + 1) := ⟨_, rfl⟩
  obtain ⟨a2, ea2⟩ : ∃ z, z = xs (6 * i + 2) := ⟨_, rfl⟩
  obtain ⟨a3, ea3⟩ : ∃ z, z = xs (6 * i + 3) := ⟨_, rfl⟩
  obtain ⟨a4, ea4⟩ : ∃ z, z = xs (6 * i + 4) := ⟨_, rfl⟩
  obtain ⟨a5, ea5⟩ : ∃ z, z = xs (6 * i + 5) := ⟨_, rfl⟩
  have htT0 : ∀ w ∈ TT, w.before _ s = true := fun w h => hts w (tt_in h)
  have hTB0 := hTB
  have hK0 := hK
  have hown0 : s.vm.findClass RL = some m.cls := hown
  have hTX0 := hTX
  have hX0 := hX
  have htT : ∀ w ∈ TT, w.before _ (s.setDrawn d) = true := dr_words htT0 d
  have hTB : TBok (s.setDrawn d) := TBok.same (u := s) (U := s.setDrawn d) rfl (Vm.Alike.refl s.vm) hTB0
  have hK : va_K D vwCl (ty6 cA) (s.setDrawn d) := hK0
  have hown : (s.setDrawn d).vm.findClass RL = some m.cls := hown0
  have hTX : TXok (fun q : Nat => s.heap.size ≤ q) (s.setDrawn d) := hTX0.dr d
  have hX : va_X b L xs (s.setDrawn d) (s.setDrawn d).heap := hX0
  refine lv_aload_n hx hb dL_law_1744 rfl (lv_at hl 4 rfl) ?_
  refine kjD_l hd0 (List.Perm.refl _) (va_runV_D (As := []) (rest := []) ⟨hx, hb, hml, hown, htT⟩ (c_digest l D cA _ S x h.hx ar h.q0 ak h.q1 h.kk h.R n h.n8 h.x2 h.row (fun k a hk ha => (h.s k hk a ha).2.1)) (cwV 0 htT (kg_V m_ml_L_242 m_im_X5_digest m_sl_X5_digest m_in_X5 m_cd_X5_digest) rfl rfl rfl (by decide +kernel) ⟨Nat.le_of_ble_eq_true rfl, Nat.le_of_ble_eq_true rfl⟩) (kj_V (List.Perm.refl _) hK hP hD hTB (kj_rc (List.Perm.refl _) hK hP h.hx (Nat.le_of_ble_eq_true rfl) rfl)) rfl rfl hl.1 rfl (lv_room (Nat.le_of_ble_eq_true rfl)) dL_law_1745 ⟨(by show _ ≤ 601024; omega), (by show _ ≤ 7293034; omega)⟩) hP hD hS hA (fun r_1 x_1 H locs hq_1 hP hD hS d_1 hd0 => ?_)
  have htT : ∀ w ∈ TT, w.before _ (s.setDrawn d_1) = true := dr_words htT0 d_1
  have hTB : TBok (s.setDrawn d_1) := TBok.same (u := s) (U := s.setDrawn d_1) rfl (Vm.Alike.refl s.vm) hTB0
  have hK : va_K D vwCl (ty6 cA) (s.setDrawn d_1) := hK0
  have hown : (s.setDrawn d_1).vm.findClass RL = some m.cls := hown0
  have hTX : TXok (fun q : Nat => s.heap.size ≤ q) (s.setDrawn d_1) := hTX0.dr d_1
  have hX : va_X b L xs (s.setDrawn d_1) (s.setDrawn d_1).heap := hX0
  have hC_1 := h.eA hq_1
  refine lv_pop2_2 hx hb dL_law_1748 rfl ?_
  refine lv_aload_n hx hb dL_law_1749 rfl (lv_at hl 3 rfl) ?_
  refine kjD_l hd0 (pmM _ _ _ _) (va_runV_D (As := []) (rest := []) ⟨hx, hb, hml, hown, htT⟩ (t_digest l D cA _ am r M n nm hI ) (cwV 0 htT (kg_V m_ml_L_246 m_im_X6_digest m_sl_X6_digest m_in_X6 m_cd_X6_digest) rfl rfl rfl (by decide +kernel) ⟨Nat.le_of_ble_eq_true rfl, Nat.le_of_ble_eq_true rfl⟩) (kj_V (pmM _ _ _ _) hK hP hD hTB (kj_rm (pmM _ _ _ _) hK hP)) rfl rfl hl.1 rfl (lv_room (Nat.le_of_ble_eq_true rfl)) dL_law_1750 ⟨(by show _ ≤ 601024; omega), (by show _ ≤ 7293034; omega)⟩) hP hD hS hA (fun r_2 x_2 H locs hq_2 hP hD hS d_2 hd0 => ?_)
  have htT : ∀ w ∈ TT, w.before _ (s.setDrawn d_2) = true := dr_words htT0 d_2
  have hTB : TBok (s.setDrawn d_2) := TBok.same (u := s) (U := s.setDrawn d_2) rfl (Vm.Alike.refl s.vm) hTB0
  have hK : va_K D vwCl (ty6 cA) (s.setDrawn d_2) := hK0
  have hown : (s.setDrawn d_2).vm.findClass RL = some m.cls := hown0
  have hTX : TXok (fun q : Nat => s.heap.size ≤ q) (s.setDrawn d_2) := hTX0.dr d_2
  have hX : va_X b L xs (s.setDrawn d_2) (s.setDrawn d_2).heap := hX0
  have hP := kj_P (pmM _ _ _ _).symm hP
  have hD := kj_D (pmM _ _ _ _).symm hD
  obtain ⟨hI_2, hM_2⟩ := hq_2
  have ea_2 := hM_2.2 1 (by decide) (by decide)
  have eb_2 := hM_2.2 2 (by decide) (by decide)
  refine lv_pop2_2 hx hb dL_law_1753 rfl ?_
  refine lv_goto (tgt := 1757) hx hb dL_law_1754 (by decide) ?_
  refine W.widen (k := c0 + 20) (n := s0 + 400) (by omega) (by omega) ?_
  exact hnext _ x_2 _ _ _ _ _ _ _ _ _ _ _ hd0 hC_1 hI_2 (hL9.qc h (eqA.qc hq_1 h.kk) hM_2) (ea_2.trans e1) (eb_2.trans e2) hP hD hS (lv_sub hl [0, 1, 2, 3, 4, 5] rfl)

