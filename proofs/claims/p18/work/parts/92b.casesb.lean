set_option maxRecDepth 100000 in
set_option maxHeartbeats 4000000 in
theorem law_holds (l : Launch) (hst : l.stackTraces = false) {p : Program} {e : Env} {s : State} {m : MethodId} {below : List Frame} {meth : Method} {c : Code} {b L : Nat} {xs : Nat → Int32} (C0 : lw_At p s m meth c b L xs) {D : va_G} {cA : Nat → ClassId} (hK : va_K D vwCl (ty6 cA) s) (hTB : TBok s) (hTX : TXok (fun q : Nat => s.heap.size ≤ q) s) {x ar ak qo qd am : Nat} {r : Nat → Nat} {c0 s0 i : Nat} (hc0 : c0 + 20 ≤ 601024) (hs0 : s0 + 400 ≤ 7293034) (hi : 6 * i + 6 ≤ L) (hL : L ≤ 3072) (hnext : ∀ (S : Pool) (M : MSt) (fo : Nat → Int64) (fd : Nat → UInt64) (n na : Nat) (hh cc : Int32) (H : Heap) (locs : List Loc) (ls : Array Slot) (d : Drawn), s.drawn.sameBut d lw_cs → INVC n na hh cc S x ar ak → INVR n na M → REL True n na S M ar → LAY n M → M.1 1 = cc → M.1 2 = hh → va_P D vwCl (LW cA S qo fo qd fd am r M) H → va_D (fun q : Nat => s.heap.size ≤ q) (LW cA S qo fo qd fd am r M) → va_S (fun q : Nat => s.heap.size ≤ q) s.heap H locs → lv_has ls 9 [(5, .int (nI (6 * i))), (4, .ref qd), (3, .ref qo), (2, .ref am), (1, .ref x), (0, .ref b)] → W p l e room_1 (s.setDrawn d) m #[Value.ref b] below meth c H locs (c0 + 20) (s0 + 400) (lw_Z below #[Value.ref b] s) (F0 m 1750 ls [])) {S : Pool} {M : MSt} {fo : Nat → Int64} {fd : Nat → UInt64} {n na : Nat} {hh cc : Int32} {H : Heap} {locs : List Loc} {ls : Array Slot} {d : Drawn} (hd0 : s.drawn.sameBut d lw_cs) (h : INVC n na hh cc S x ar ak) (hI : INVR n na M) (hL9 : REL True n na S M ar) (hY : LAY n M) (e1 : M.1 1 = cc) (e2 : M.1 2 = hh) (hP : va_P D vwCl (LW cA S qo fo qd fd am r M) H) (hD : va_D (fun q : Nat => s.heap.size ≤ q) (LW cA S qo fo qd fd am r M)) (hS : va_S (fun q : Nat => s.heap.size ≤ q) s.heap H locs) (hl : lv_has ls 9 [(5, .int (nI (6 * i))), (4, .ref qd), (3, .ref qo), (2, .ref am), (1, .ref x), (0, .ref b)]) : W p l e room_1 (s.setDrawn d) m #[Value.ref b] below meth c H locs c0 s0 (lw_Z below #[Value.ref b] s) (F0 m 1021 ls []) := by
  obtain ⟨hx, hb, hr, hml, hown, hts, hX, hbl, hlocks, hgv⟩ := id C0
  have hA : ∀ q : Nat, s.heap.size ≤ q → (fun q : Nat => s.heap.size ≤ q) q := fun _ h => h
  have hbA : ¬ (fun q : Nat => s.heap.size ≤ q) b := Nat.not_le.mpr hbl
  obtain ⟨a1, ea1⟩ : ∃ z, z = xs (6 * i + 1) := ⟨_, rfl⟩
  obtain ⟨a2, ea2⟩ : ∃ z, z = xs (6 * i + 2) := ⟨_, rfl⟩
  obtain ⟨a3, ea3⟩ : ∃ z, z = xs (6 * i + 3) := ⟨_, rfl⟩
  obtain ⟨a4, ea4⟩ : ∃ z, z = xs (6 * i + 4) := ⟨_, rfl⟩
  obtain ⟨a5, ea5⟩ : ∃ z, z = xs (6 * i + 5) := ⟨_, rfl⟩
  have htT0 : ∀ w ∈ TT, w.before _ s = true := fun w h => hts w (tt_in h)
  have hTB0 := hTB
  have hK0 := hK
  have hown0 : s.vm.findClass RL = some m.cls := hown
  have hTX0 := hTX
  have hX0 := hX
  have htT : ∀ w ∈ TT, w.before _ (s.setDrawn d) = true := dr_words htT0 d
  have hTB : TBok (s.setDrawn d) := TBok.same (u := s) (U := s.setDrawn d) rfl (Vm.Alike.refl s.vm) hTB0
  have hK : va_K D vwCl (ty6 cA) (s.setDrawn d) := hK0
  have hown : (s.setDrawn d).vm.findClass RL = some m.cls := hown0
  have hTX : TXok (fun q : Nat => s.heap.size ≤ q) (s.setDrawn d) := hTX0.dr d
  have hX : va_X b L xs (s.setDrawn d) (s.setDrawn d).heap := hX0
  refine lv_aload_n hx hb dL_law_1021 rfl (lv_at hl 4 rfl) ?_
  refine lv_aload_n hx hb dL_law_1022 rfl (lv_at hl 5 rfl) ?_
  refine lv_iload hx hb dL_law_1023 (lv_at hl 0 rfl) ?_
  refine lv_iconst (v := 1) hx hb dL_law_1025 (by decide) ?_
  refine lv_iadd hx hb dL_law_1026 ?_
  rw [show ((nI (6 * i)) + 1 : Int32) = nI ((6 * i) + 1) from nI_add (6 * i) 1]
  refine va_sld hx hb hX hbl hbA hS (show vp_in (nI ((6 * i) + 1)) L from ki_in (by omega) (by omega)) dL_law_1027 ?_
  rw [show xs (nI ((6 * i) + 1)).toNatClampNeg = a1 from (congrArg xs (ki_cl (by omega))).trans ea1.symm]
  refine lv_aload_n hx hb dL_law_1028 rfl (lv_at hl 5 rfl) ?_
  refine lv_iload hx hb dL_law_1029 (lv_at hl 0 rfl) ?_
  refine lv_iconst (v := 2) hx hb dL_law_1031 (by decide) ?_
  refine lv_iadd hx hb dL_law_1032 ?_
  rw [show ((nI (6 * i)) + 2 : Int32) = nI ((6 * i) + 2) from nI_add (6 * i) 2]
  refine va_sld hx hb hX hbl hbA hS (show vp_in (nI ((6 * i) + 2)) L from ki_in (by omega) (by omega)) dL_law_1033 ?_
  rw [show xs (nI ((6 * i) + 2)).toNatClampNeg = a2 from (congrArg xs (ki_cl (by omega))).trans ea2.symm]
  refine lv_aload_n hx hb dL_law_1034 rfl (lv_at hl 5 rfl) ?_
  refine lv_iload hx hb dL_law_1035 (lv_at hl 0 rfl) ?_
  refine lv_iconst (v := 3) hx hb dL_law_1037 (by decide) ?_
  refine lv_iadd hx hb dL_law_1038 ?_
  rw [show ((nI (6 * i)) + 3 : Int32) = nI ((6 * i) + 3) from nI_add (6 * i) 3]
  refine va_sld hx hb hX hbl hbA hS (show vp_in (nI ((6 * i) + 3)) L from ki_in (by omega) (by omega)) dL_law_1039 ?_
  rw [show xs (nI ((6 * i) + 3)).toNatClampNeg = a3 from (congrArg xs (ki_cl (by omega))).trans ea3.symm]
  refine lv_aload_n hx hb dL_law_1040 rfl (lv_at hl 5 rfl) ?_
  refine lv_iload hx hb dL_law_1041 (lv_at hl 0 rfl) ?_
  refine lv_iconst (v := 4) hx hb dL_law_1043 (by decide) ?_
  refine lv_iadd hx hb dL_law_1044 ?_
  rw [show ((nI (6 * i)) + 4 : Int32) = nI ((6 * i) + 4) from nI_add (6 * i) 4]
  refine va_sld hx hb hX hbl hbA hS (show vp_in (nI ((6 * i) + 4)) L from ki_in (by omega) (by omega)) dL_law_1045 ?_
  rw [show xs (nI ((6 * i) + 4)).toNatClampNeg = a4 from (congrArg xs (ki_cl (by omega))).trans ea4.symm]
  refine lv_aload_n hx hb dL_law_1046 rfl (lv_at hl 2 rfl) ?_
  refine kj_i (pmJ _ _ _ _) (vx_runSW (As := [.ref x, .int a1, .int a2, .int a3, .int a4, .ref qo]) (rest := []) ⟨hx, hb, hml, hown, htT⟩ (w_holds l hst D cA _ S x qo fo n na hh cc ar ak h a1 a2 a3 a4) (vx_cwSW 6 htT (kg_SW m_ml_L_189 m_st_L_holds m_in_L m_cd_L_holds) rfl rfl rfl (by decide +kernel) ⟨Nat.le_of_ble_eq_true rfl, Nat.le_of_ble_eq_true rfl⟩) (kj_SX (pmJ _ _ _ _) hK hP hD hTB hTX hS hA) rfl rfl hl.1 rfl (lv_room (Nat.le_of_ble_eq_true rfl)) dL_law_1047 ⟨(by show _ ≤ 601024; omega), (by show _ ≤ 7293034; omega)⟩) hP hD hS hA (fun r_1 x_1 H locs hq_1 hP hD hS => ?_)
  rw [List.append_assoc] at hP hD
  obtain ⟨hC_1, hQ_1⟩ := hq_1
  refine lv_istore (lv' := [(6, .int r_1), (5, .int (nI (6 * i))), (4, .ref qd), (3, .ref qo), (2, .ref am), (1, .ref x), (0, .ref b)]) hx hb dL_law_1050 hl (by decide) rfl (fun ls hl => ?_)
  refine lv_aload_n hx hb dL_law_1052 rfl (lv_at hl 4 rfl) ?_
  refine lv_aload_n hx hb dL_law_1053 rfl (lv_at hl 6 rfl) ?_
  refine lv_iload hx hb dL_law_1054 (lv_at hl 1 rfl) ?_
  refine lv_iconst (v := 1) hx hb dL_law_1056 (by decide) ?_
  refine lv_iadd hx hb dL_law_1057 ?_
  rw [show ((nI (6 * i)) + 1 : Int32) = nI ((6 * i) + 1) from nI_add (6 * i) 1]
  refine va_sld hx hb hX hbl hbA hS (show vp_in (nI ((6 * i) + 1)) L from ki_in (by omega) (by omega)) dL_law_1058 ?_
  rw [show xs (nI ((6 * i) + 1)).toNatClampNeg = a1 from (congrArg xs (ki_cl (by omega))).trans ea1.symm]
  refine lv_aload_n hx hb dL_law_1059 rfl (lv_at hl 6 rfl) ?_
  refine lv_iload hx hb dL_law_1060 (lv_at hl 1 rfl) ?_
  refine lv_iconst (v := 2) hx hb dL_law_1062 (by decide) ?_
  refine lv_iadd hx hb dL_law_1063 ?_
  rw [show ((nI (6 * i)) + 2 : Int32) = nI ((6 * i) + 2) from nI_add (6 * i) 2]
  refine va_sld hx hb hX hbl hbA hS (show vp_in (nI ((6 * i) + 2)) L from ki_in (by omega) (by omega)) dL_law_1064 ?_
  rw [show xs (nI ((6 * i) + 2)).toNatClampNeg = a2 from (congrArg xs (ki_cl (by omega))).trans ea2.symm]
  refine lv_aload_n hx hb dL_law_1065 rfl (lv_at hl 6 rfl) ?_
  refine lv_iload hx hb dL_law_1066 (lv_at hl 1 rfl) ?_
  refine lv_iconst (v := 3) hx hb dL_law_1068 (by decide) ?_
  refine lv_iadd hx hb dL_law_1069 ?_
  rw [show ((nI (6 * i)) + 3 : Int32) = nI ((6 * i) + 3) from nI_add (6 * i) 3]
  refine va_sld hx hb hX hbl hbA hS (show vp_in (nI ((6 * i) + 3)) L from ki_in (by omega) (by omega)) dL_law_1070 ?_
  rw [show xs (nI ((6 * i) + 3)).toNatClampNeg = a3 from (congrArg xs (ki_cl (by omega))).trans ea3.symm]
  refine lv_aload_n hx hb dL_law_1071 rfl (lv_at hl 6 rfl) ?_
  refine lv_iload hx hb dL_law_1072 (lv_at hl 1 rfl) ?_
  refine lv_iconst (v := 4) hx hb dL_law_1074 (by decide) ?_
  refine lv_iadd hx hb dL_law_1075 ?_
  rw [show ((nI (6 * i)) + 4 : Int32) = nI ((6 * i) + 4) from nI_add (6 * i) 4]
  refine va_sld hx hb hX hbl hbA hS (show vp_in (nI ((6 * i) + 4)) L from ki_in (by omega) (by omega)) dL_law_1076 ?_
  rw [show xs (nI ((6 * i) + 4)).toNatClampNeg = a4 from (congrArg xs (ki_cl (by omega))).trans ea4.symm]
  refine kj_i (pmM _ _ _ _) (va_runV (As := [.int a1, .int a2, .int a3, .int a4]) (rest := []) ⟨hx, hb, hml, hown, htT⟩ (t_holds l D cA _ am r M n na hI a1 a2 a3 a4) (cwV 4 htT (kg_V m_ml_L_191 m_im_X6_holds m_sl_X6_holds m_in_X6 m_cd_X6_holds) rfl rfl rfl (by decide +kernel) ⟨Nat.le_of_ble_eq_true rfl, Nat.le_of_ble_eq_true rfl⟩) (kj_V (pmM _ _ _ _) hK hP hD hTB (kj_rm (pmM _ _ _ _) hK hP)) rfl rfl hl.1 rfl (lv_room (Nat.le_of_ble_eq_true rfl)) dL_law_1077 ⟨(by show _ ≤ 601024; omega), (by show _ ≤ 7293034; omega)⟩) hP hD hS hA (fun r_2 x_2 H locs hq_2 hP hD hS => ?_)
  have hP := kj_P (pmM _ _ _ _).symm hP
  have hD := kj_D (pmM _ _ _ _).symm hD
  obtain ⟨hI_2, hM_2⟩ := hq_2
  have ea_2 := hM_2.2 1 (by decide) (by decide)
  have eb_2 := hM_2.2 2 (by decide) (by decide)
  refine lv_istore (lv' := [(7, .int r_2), (6, .int r_1), (5, .int (nI (6 * i))), (4, .ref qd), (3, .ref qo), (2, .ref am), (1, .ref x), (0, .ref b)]) hx hb dL_law_1080 hl (by decide) rfl (fun ls hl => ?_)
  refine lv_goto (tgt := 1750) hx hb dL_law_1082 (by decide) ?_
  refine W.widen (k := c0 + 20) (n := s0 + 400) (by omega) (by omega) ?_
  exact hnext _ x_2 _ _ _ _ _ _ _ _ _ _ hd0 hC_1 hI_2 (hL9.qc h hQ_1 hM_2) (hY.of (hM_2.1 14 (by decide) (by decide))) (ea_2.trans e1) (eb_2.trans e2) hP hD hS (lv_sub hl [2, 3, 4, 5, 6, 7] rfl)

set_option maxRecDepth 100000 in
set_option maxHeartbeats 4000000 in
theorem law_ask (l : Launch) (hst : l.stackTraces = false) {p : Program} {e : Env} {s : State} {m : MethodId} {below : List Frame} {meth : Method} {c : Code} {b L : Nat} {xs : Nat → Int32} (C0 : lw_At p s m meth c b L xs) {D : va_G} {cA : Nat → ClassId} (hK : va_K D vwCl (ty6 cA) s) (hTB : TBok s) (hTX : TXok (fun q : Nat => s.heap.size ≤ q) s) {x ar ak qo qd am : Nat} {r : Nat → Nat} {c0 s0 i : Nat} (hc0 : c0 + 20 ≤ 601024) (hs0 : s0 + 400 ≤ 7293034) (hi : 6 * i + 6 ≤ L) (hL : L ≤ 3072) (hnext : ∀ (S : Pool) (M : MSt) (fo : Nat → Int64) (fd : Nat → UInt64) (n na : Nat) (hh cc : Int32) (H : Heap) (locs : List Loc) (ls : Array Slot) (d : Drawn), s.drawn.sameBut d lw_cs → INVC n na hh cc S x ar ak → INVR n na M → REL True n na S M ar → LAY n M → M.1 1 = cc → M.1 2 = hh → va_P D vwCl (LW cA S qo fo qd fd am r M) H → va_D (fun q : Nat => s.heap.size ≤ q) (LW cA S qo fo qd fd am r M) → va_S (fun q : Nat => s.heap.size ≤ q) s.heap H locs → lv_has ls 9 [(5, .int (nI (6 * i))), (4, .ref qd), (3, .ref qo), (2, .ref am), (1, .ref x), (0, .ref b)] → W p l e room_1 (s.setDrawn d) m #[Value.ref b] below meth c H locs (c0 + 20) (s0 + 400) (lw_Z below #[Value.ref b] s) (F0 m 1750 ls [])) {S : Pool} {M : MSt} {fo : Nat → Int64} {fd : Nat → UInt64} {n na : Nat} {hh cc : Int32} {H : Heap} {locs : List Loc} {ls : Array Slot} {d : Drawn} (hd0 : s.drawn.sameBut d lw_cs) (h : INVC n na hh cc S x ar ak) (hI : INVR n na M) (hL9 : REL True n na S M ar) (hY : LAY n M) (e1 : M.1 1 = cc) (e2 : M.1 2 = hh) (hP : va_P D vwCl (LW cA S qo fo qd fd am r M) H) (hD : va_D (fun q : Nat => s.heap.size ≤ q) (LW cA S qo fo qd fd am r M)) (hS : va_S (fun q : Nat => s.heap.size ≤ q) s.heap H locs) (hl : lv_has ls 9 [(5, .int (nI (6 * i))), (4, .ref qd), (3, .ref qo), (2, .ref am), (1, .ref x), (0, .ref b)]) : W p l e room_1 (s.setDrawn d) m #[Value.ref b] below meth c H locs c0 s0 (lw_Z below #[Value.ref b] s) (F0 m 1085 ls []) := by
  obtain ⟨hx, hb, hr, hml, hown, hts, hX, hbl, hlocks, hgv⟩ := id C0
  have hA : ∀ q : Nat, s.heap.size ≤ q → (fun q : Nat => s.heap.size ≤ q) q := fun _ h => h
  have hbA : ¬ (fun q : Nat => s.heap.size ≤ q) b := Nat.not_le.mpr hbl
  obtain ⟨a1, ea1⟩ : ∃ z, z = xs (6 * i + 1) := ⟨_, rfl⟩
  obtain ⟨a2, ea2⟩ : ∃ z, z = xs (6 * i + 2) := ⟨_, rfl⟩
  obtain ⟨a3, ea3⟩ : ∃ z, z = xs (6 * i + 3) := ⟨_, rfl⟩
  obtain ⟨a4, ea4⟩ : ∃ z, z = xs (6 * i + 4) := ⟨_, rfl⟩
  obtain ⟨a5, ea5⟩ : ∃ z, z = xs (6 * i + 5) := ⟨_, rfl⟩
  have htT0 : ∀ w ∈ TT, w.before _ s = true := fun w h => hts w (tt_in h)
  have hTB0 := hTB
  have hK0 := hK
  have hown0 : s.vm.findClass RL = some m.cls := hown
  have hTX0 := hTX
  have hX0 := hX
  have htT : ∀ w ∈ TT, w.before _ (s.setDrawn d) = true := dr_words htT0 d
  have hTB : TBok (s.setDrawn d) := TBok.same (u := s) (U := s.setDrawn d) rfl (Vm.Alike.refl s.vm) hTB0
  have hK : va_K D vwCl (ty6 cA) (s.setDrawn d) := hK0
  have hown : (s.setDrawn d).vm.findClass RL = some m.cls := hown0
  have hTX : TXok (fun q : Nat => s.heap.size ≤ q) (s.setDrawn d) := hTX0.dr d
  have hX : va_X b L xs (s.setDrawn d) (s.setDrawn d).heap := hX0
  refine lv_aload_n hx hb dL_law_1085 rfl (lv_at hl 4 rfl) ?_
  refine lv_aload_n hx hb dL_law_1086 rfl (lv_at hl 5 rfl) ?_
  refine lv_iload hx hb dL_law_1087 (lv_at hl 0 rfl) ?_
  refine lv_iconst (v := 1) hx hb dL_law_1089 (by decide) ?_
  refine lv_iadd hx hb dL_law_1090 ?_
  rw [show ((nI (6 * i)) + 1 : Int32) = nI ((6 * i) + 1) from nI_add (6 * i) 1]
  refine va_sld hx hb hX hbl hbA hS (show vp_in (nI ((6 * i) + 1)) L from ki_in (by omega) (by omega)) dL_law_1091 ?_
  rw [show xs (nI ((6 * i) + 1)).toNatClampNeg = a1 from (congrArg xs (ki_cl (by omega))).trans ea1.symm]
  refine lv_aload_n hx hb dL_law_1092 rfl (lv_at hl 5 rfl) ?_
  refine lv_iload hx hb dL_law_1093 (lv_at hl 0 rfl) ?_
  refine lv_iconst (v := 2) hx hb dL_law_1095 (by decide) ?_
  refine lv_iadd hx hb dL_law_1096 ?_
  rw [show ((nI (6 * i)) + 2 : Int32) = nI ((6 * i) + 2) from nI_add (6 * i) 2]
  refine va_sld hx hb hX hbl hbA hS (show vp_in (nI ((6 * i) + 2)) L from ki_in (by omega) (by omega)) dL_law_1097 ?_
  rw [show xs (nI ((6 * i) + 2)).toNatClampNeg = a2 from (congrArg xs (ki_cl (by omega))).trans ea2.symm]
  refine lv_aload_n hx hb dL_law_1098 rfl (lv_at hl 5 rfl) ?_
  refine lv_iload hx hb dL_law_1099 (lv_at hl 0 rfl) ?_
  refine lv_iconst (v := 3) hx hb dL_law_1101 (by decide) ?_
  refine lv_iadd hx hb dL_law_1102 ?_
  rw [show ((nI (6 * i)) + 3 : Int32) = nI ((6 * i) + 3) from nI_add (6 * i) 3]
  refine va_sld hx hb hX hbl hbA hS (show vp_in (nI ((6 * i) + 3)) L from ki_in (by omega) (by omega)) dL_law_1103 ?_
  rw [show xs (nI ((6 * i) + 3)).toNatClampNeg = a3 from (congrArg xs (ki_cl (by omega))).trans ea3.symm]
  refine lv_aload_n hx hb dL_law_1104 rfl (lv_at hl 5 rfl) ?_
  refine lv_iload hx hb dL_law_1105 (lv_at hl 0 rfl) ?_
  refine lv_iconst (v := 4) hx hb dL_law_1107 (by decide) ?_
  refine lv_iadd hx hb dL_law_1108 ?_
  rw [show ((nI (6 * i)) + 4 : Int32) = nI ((6 * i) + 4) from nI_add (6 * i) 4]
  refine va_sld hx hb hX hbl hbA hS (show vp_in (nI ((6 * i) + 4)) L from ki_in (by omega) (by omega)) dL_law_1109 ?_
  rw [show xs (nI ((6 * i) + 4)).toNatClampNeg = a4 from (congrArg xs (ki_cl (by omega))).trans ea4.symm]
  refine lv_aload_n hx hb dL_law_1110 rfl (lv_at hl 2 rfl) ?_
  refine kj_i (pmJ _ _ _ _) (vx_runSW (As := [.ref x, .int a1, .int a2, .int a3, .int a4, .ref qo]) (rest := []) ⟨hx, hb, hml, hown, htT⟩ (w_ask l hst D cA _ S x qo fo n na hh cc ar ak h a1 a2 a3 a4) (vx_cwSW 6 htT (kg_SW m_ml_L_192 m_st_L_ask m_in_L m_cd_L_ask) rfl rfl rfl (by decide +kernel) ⟨Nat.le_of_ble_eq_true rfl, Nat.le_of_ble_eq_true rfl⟩) (kj_SX (pmJ _ _ _ _) hK hP hD hTB hTX hS hA) rfl rfl hl.1 rfl (lv_room (Nat.le_of_ble_eq_true rfl)) dL_law_1111 ⟨(by show _ ≤ 601024; omega), (by show _ ≤ 7293034; omega)⟩) hP hD hS hA (fun r_1 x_1 H locs hq_1 hP hD hS => ?_)
  rw [List.append_assoc] at hP hD
  rcases hq_1 with ⟨er, hk0, eS⟩ | ⟨er, j, a, hjn, ej, hja, hbad, eS⟩ | ⟨er, j, a, hjn, ej, hja, h1, h2, h3, hno, eS, efo⟩ | ⟨er, j, a, v, q, ty, t9, hjn, ej, hja, h1, h2, h3, hyes, hv4, hvn, hq, e6, e60, eS, efo⟩
  · rw [er]
    rw [eS] at hP hD
    refine lv_istore (lv' := [(6, .int 1), (5, .int (nI (6 * i))), (4, .ref qd), (3, .ref qo), (2, .ref am), (1, .ref x), (0, .ref b)]) hx hb dL_law_1114 hl (by decide) rfl (fun ls hl => ?_)
    refine lv_aload_n hx hb dL_law_1116 rfl (lv_at hl 4 rfl) ?_
    refine lv_aload_n hx hb dL_law_1117 rfl (lv_at hl 6 rfl) ?_
    refine lv_iload hx hb dL_law_1118 (lv_at hl 1 rfl) ?_
    refine lv_iconst (v := 1) hx hb dL_law_1120 (by decide) ?_
    refine lv_iadd hx hb dL_law_1121 ?_
    rw [show ((nI (6 * i)) + 1 : Int32) = nI ((6 * i) + 1) from nI_add (6 * i) 1]
    refine va_sld hx hb hX hbl hbA hS (show vp_in (nI ((6 * i) + 1)) L from ki_in (by omega) (by omega)) dL_law_1122 ?_
    rw [show xs (nI ((6 * i) + 1)).toNatClampNeg = a1 from (congrArg xs (ki_cl (by omega))).trans ea1.symm]
    refine lv_aload_n hx hb dL_law_1123 rfl (lv_at hl 6 rfl) ?_
    refine lv_iload hx hb dL_law_1124 (lv_at hl 1 rfl) ?_
    refine lv_iconst (v := 2) hx hb dL_law_1126 (by decide) ?_
    refine lv_iadd hx hb dL_law_1127 ?_
    rw [show ((nI (6 * i)) + 2 : Int32) = nI ((6 * i) + 2) from nI_add (6 * i) 2]
    refine va_sld hx hb hX hbl hbA hS (show vp_in (nI ((6 * i) + 2)) L from ki_in (by omega) (by omega)) dL_law_1128 ?_
    rw [show xs (nI ((6 * i) + 2)).toNatClampNeg = a2 from (congrArg xs (ki_cl (by omega))).trans ea2.symm]
    refine lv_aload_n hx hb dL_law_1129 rfl (lv_at hl 6 rfl) ?_
    refine lv_iload hx hb dL_law_1130 (lv_at hl 1 rfl) ?_
    refine lv_iconst (v := 3) hx hb dL_law_1132 (by decide) ?_
    refine lv_iadd hx hb dL_law_1133 ?_
    rw [show ((nI (6 * i)) + 3 : Int32) = nI ((6 * i) + 3) from nI_add (6 * i) 3]
    refine va_sld hx hb hX hbl hbA hS (show vp_in (nI ((6 * i) + 3)) L from ki_in (by omega) (by omega)) dL_law_1134 ?_
    rw [show xs (nI ((6 * i) + 3)).toNatClampNeg = a3 from (congrArg xs (ki_cl (by omega))).trans ea3.symm]
    refine lv_aload_n hx hb dL_law_1135 rfl (lv_at hl 6 rfl) ?_
    refine lv_iload hx hb dL_law_1136 (lv_at hl 1 rfl) ?_
    refine lv_iconst (v := 4) hx hb dL_law_1138 (by decide) ?_
    refine lv_iadd hx hb dL_law_1139 ?_
    rw [show ((nI (6 * i)) + 4 : Int32) = nI ((6 * i) + 4) from nI_add (6 * i) 4]
    refine va_sld hx hb hX hbl hbA hS (show vp_in (nI ((6 * i) + 4)) L from ki_in (by omega) (by omega)) dL_law_1140 ?_
    rw [show xs (nI ((6 * i) + 4)).toNatClampNeg = a4 from (congrArg xs (ki_cl (by omega))).trans ea4.symm]
    refine kj_i (pmM _ _ _ _) (va_runV (As := [.int a1, .int a2, .int a3, .int a4]) (rest := []) ⟨hx, hb, hml, hown, htT⟩ (m_ask_0 l D cA _ am r M a1 a2 a3 a4 (by rw [hI.h3]; exact hk0)) (cwV 4 htT (kg_V m_ml_L_194 m_im_X6_ask m_sl_X6_ask m_in_X6 m_cd_X6_ask) rfl rfl rfl (by decide +kernel) ⟨Nat.le_of_ble_eq_true rfl, Nat.le_of_ble_eq_true rfl⟩) (kj_V (pmM _ _ _ _) hK hP hD hTB (kj_rm (pmM _ _ _ _) hK hP)) rfl rfl hl.1 rfl (lv_room (Nat.le_of_ble_eq_true rfl)) dL_law_1141 ⟨(by show _ ≤ 601024; omega), (by show _ ≤ 7293034; omega)⟩) hP hD hS hA (fun r_2 x_2 H locs hq_2 hP hD hS => ?_)
    have hP := kj_P (pmM _ _ _ _).symm hP
    have hD := kj_D (pmM _ _ _ _).symm hD
    rw [hq_2.1]
    rw [hq_2.2] at hP hD
    refine lv_istore (lv' := [(7, .int 0), (6, .int 1), (5, .int (nI (6 * i))), (4, .ref qd), (3, .ref qo), (2, .ref am), (1, .ref x), (0, .ref b)]) hx hb dL_law_1144 hl (by decide) rfl (fun ls hl => ?_)
    refine lv_goto (tgt := 1750) hx hb dL_law_1146 (by decide) ?_
    refine W.widen (k := c0 + 20) (n := s0 + 400) (by omega) (by omega) ?_
    exact hnext _ (mS M 0 1) _ _ _ _ _ _ _ _ _ _ hd0 h (hI.iS (by decide) (by decide)) (hL9.m eqM.rf.s0) (hY.of rfl) (e1) (e2) hP hD hS (lv_sub hl [2, 3, 4, 5, 6, 7] rfl)
  · rw [er]
    rw [eS] at hP hD
    refine lv_istore (lv' := [(6, .int 2), (5, .int (nI (6 * i))), (4, .ref qd), (3, .ref qo), (2, .ref am), (1, .ref x), (0, .ref b)]) hx hb dL_law_1114 hl (by decide) rfl (fun ls hl => ?_)
    refine lv_aload_n hx hb dL_law_1116 rfl (lv_at hl 4 rfl) ?_
    refine lv_aload_n hx hb dL_law_1117 rfl (lv_at hl 6 rfl) ?_
    refine lv_iload hx hb dL_law_1118 (lv_at hl 1 rfl) ?_
    refine lv_iconst (v := 1) hx hb dL_law_1120 (by decide) ?_
    refine lv_iadd hx hb dL_law_1121 ?_
    rw [show ((nI (6 * i)) + 1 : Int32) = nI ((6 * i) + 1) from nI_add (6 * i) 1]
    refine va_sld hx hb hX hbl hbA hS (show vp_in (nI ((6 * i) + 1)) L from ki_in (by omega) (by omega)) dL_law_1122 ?_
    rw [show xs (nI ((6 * i) + 1)).toNatClampNeg = a1 from (congrArg xs (ki_cl (by omega))).trans ea1.symm]
    refine lv_aload_n hx hb dL_law_1123 rfl (lv_at hl 6 rfl) ?_
    refine lv_iload hx hb dL_law_1124 (lv_at hl 1 rfl) ?_
    refine lv_iconst (v := 2) hx hb dL_law_1126 (by decide) ?_
    refine lv_iadd hx hb dL_law_1127 ?_
    rw [show ((nI (6 * i)) + 2 : Int32) = nI ((6 * i) + 2) from nI_add (6 * i) 2]
    refine va_sld hx hb hX hbl hbA hS (show vp_in (nI ((6 * i) + 2)) L from ki_in (by omega) (by omega)) dL_law_1128 ?_
    rw [show xs (nI ((6 * i) + 2)).toNatClampNeg = a2 from (congrArg xs (ki_cl (by omega))).trans ea2.symm]
    refine lv_aload_n hx hb dL_law_1129 rfl (lv_at hl 6 rfl) ?_
    refine lv_iload hx hb dL_law_1130 (lv_at hl 1 rfl) ?_
    refine lv_iconst (v := 3) hx hb dL_law_1132 (by decide) ?_
    refine lv_iadd hx hb dL_law_1133 ?_
    rw [show ((nI (6 * i)) + 3 : Int32) = nI ((6 * i) + 3) from nI_add (6 * i) 3]
    refine va_sld hx hb hX hbl hbA hS (show vp_in (nI ((6 * i) + 3)) L from ki_in (by omega) (by omega)) dL_law_1134 ?_
    rw [show xs (nI ((6 * i) + 3)).toNatClampNeg = a3 from (congrArg xs (ki_cl (by omega))).trans ea3.symm]
    refine lv_aload_n hx hb dL_law_1135 rfl (lv_at hl 6 rfl) ?_
    refine lv_iload hx hb dL_law_1136 (lv_at hl 1 rfl) ?_
    refine lv_iconst (v := 4) hx hb dL_law_1138 (by decide) ?_
    refine lv_iadd hx hb dL_law_1139 ?_
    rw [show ((nI (6 * i)) + 4 : Int32) = nI ((6 * i) + 4) from nI_add (6 * i) 4]
    refine va_sld hx hb hX hbl hbA hS (show vp_in (nI ((6 * i) + 4)) L from ki_in (by omega) (by omega)) dL_law_1140 ?_
    rw [show xs (nI ((6 * i) + 4)).toNatClampNeg = a4 from (congrArg xs (ki_cl (by omega))).trans ea4.symm]
    rw [ej]
    refine kj_i (pmM _ _ _ _) (va_runV (As := [.int (nI j), .int a2, .int a3, .int a4]) (rest := []) ⟨hx, hb, hml, hown, htT⟩ (m_ask_1 l D cA _ am r M n j hjn hI.n8 hI.h3 a2 a3 a4 (qAsk_0 hbad)) (cwV 4 htT (kg_V m_ml_L_194 m_im_X6_ask m_sl_X6_ask m_in_X6 m_cd_X6_ask) rfl rfl rfl (by decide +kernel) ⟨Nat.le_of_ble_eq_true rfl, Nat.le_of_ble_eq_true rfl⟩) (kj_V (pmM _ _ _ _) hK hP hD hTB (kj_rm (pmM _ _ _ _) hK hP)) rfl rfl hl.1 rfl (lv_room (Nat.le_of_ble_eq_true rfl)) dL_law_1141 ⟨(by show _ ≤ 601024; omega), (by show _ ≤ 7293034; omega)⟩) hP hD hS hA (fun r_3 x_3 H locs hq_3 hP hD hS => ?_)
    have hP := kj_P (pmM _ _ _ _).symm hP
    have hD := kj_D (pmM _ _ _ _).symm hD
    rw [hq_3.1]
    rw [hq_3.2] at hP hD
    refine lv_istore (lv' := [(7, .int 0), (6, .int 2), (5, .int (nI (6 * i))), (4, .ref qd), (3, .ref qo), (2, .ref am), (1, .ref x), (0, .ref b)]) hx hb dL_law_1144 hl (by decide) rfl (fun ls hl => ?_)
    refine lv_goto (tgt := 1750) hx hb dL_law_1146 (by decide) ?_
    refine W.widen (k := c0 + 20) (n := s0 + 400) (by omega) (by omega) ?_
    exact hnext _ (mS M 0 2) _ _ _ _ _ _ _ _ _ _ hd0 h (hI.iS (by decide) (by decide)) (hL9.m eqM.rf.s0) (hY.of rfl) (e1) (e2) hP hD hS (lv_sub hl [2, 3, 4, 5, 6, 7] rfl)
  · rw [er]
    obtain ⟨ru, hok⟩ := id hI.1
    have hqk := qAsk_1 h1 h2 h3
    obtain ⟨uu, huu, eu⟩ := qAsk_u hqk
    have geq := gets_bec hL9 h hok hY e1 e2 huu eu hjn hja (f := a3) (g := a4)
    rw [geq.2] at efo
    rw [eS] at hP hD
    rw [efo] at hP hD
    refine lv_istore (lv' := [(6, .int 0), (5, .int (nI (6 * i))), (4, .ref qd), (3, .ref qo), (2, .ref am), (1, .ref x), (0, .ref b)]) hx hb dL_law_1114 hl (by decide) rfl (fun ls hl => ?_)
    refine lv_aload_n hx hb dL_law_1116 rfl (lv_at hl 4 rfl) ?_
    refine lv_aload_n hx hb dL_law_1117 rfl (lv_at hl 6 rfl) ?_
    refine lv_iload hx hb dL_law_1118 (lv_at hl 1 rfl) ?_
    refine lv_iconst (v := 1) hx hb dL_law_1120 (by decide) ?_
    refine lv_iadd hx hb dL_law_1121 ?_
    rw [show ((nI (6 * i)) + 1 : Int32) = nI ((6 * i) + 1) from nI_add (6 * i) 1]
    refine va_sld hx hb hX hbl hbA hS (show vp_in (nI ((6 * i) + 1)) L from ki_in (by omega) (by omega)) dL_law_1122 ?_
    rw [show xs (nI ((6 * i) + 1)).toNatClampNeg = a1 from (congrArg xs (ki_cl (by omega))).trans ea1.symm]
    refine lv_aload_n hx hb dL_law_1123 rfl (lv_at hl 6 rfl) ?_
    refine lv_iload hx hb dL_law_1124 (lv_at hl 1 rfl) ?_
    refine lv_iconst (v := 2) hx hb dL_law_1126 (by decide) ?_
    refine lv_iadd hx hb dL_law_1127 ?_
    rw [show ((nI (6 * i)) + 2 : Int32) = nI ((6 * i) + 2) from nI_add (6 * i) 2]
    refine va_sld hx hb hX hbl hbA hS (show vp_in (nI ((6 * i) + 2)) L from ki_in (by omega) (by omega)) dL_law_1128 ?_
    rw [show xs (nI ((6 * i) + 2)).toNatClampNeg = a2 from (congrArg xs (ki_cl (by omega))).trans ea2.symm]
    refine lv_aload_n hx hb dL_law_1129 rfl (lv_at hl 6 rfl) ?_
    refine lv_iload hx hb dL_law_1130 (lv_at hl 1 rfl) ?_
    refine lv_iconst (v := 3) hx hb dL_law_1132 (by decide) ?_
    refine lv_iadd hx hb dL_law_1133 ?_
    rw [show ((nI (6 * i)) + 3 : Int32) = nI ((6 * i) + 3) from nI_add (6 * i) 3]
    refine va_sld hx hb hX hbl hbA hS (show vp_in (nI ((6 * i) + 3)) L from ki_in (by omega) (by omega)) dL_law_1134 ?_
    rw [show xs (nI ((6 * i) + 3)).toNatClampNeg = a3 from (congrArg xs (ki_cl (by omega))).trans ea3.symm]
    refine lv_aload_n hx hb dL_law_1135 rfl (lv_at hl 6 rfl) ?_
    refine lv_iload hx hb dL_law_1136 (lv_at hl 1 rfl) ?_
    refine lv_iconst (v := 4) hx hb dL_law_1138 (by decide) ?_
    refine lv_iadd hx hb dL_law_1139 ?_
    rw [show ((nI (6 * i)) + 4 : Int32) = nI ((6 * i) + 4) from nI_add (6 * i) 4]
    refine va_sld hx hb hX hbl hbA hS (show vp_in (nI ((6 * i) + 4)) L from ki_in (by omega) (by omega)) dL_law_1140 ?_
    rw [show xs (nI ((6 * i) + 4)).toNatClampNeg = a4 from (congrArg xs (ki_cl (by omega))).trans ea4.symm]
    rw [ej]
    rw [eu]
    refine kj_i (pmM _ _ _ _) (va_runV (As := [.int (nI j), .int (nI uu), .int a3, .int a4]) (rest := []) ⟨hx, hb, hml, hown, htT⟩ (m_ask_no l D cA _ am r M n j hjn hI.n8 hI.h3 na ru hok uu a3 a4 huu (by rw [← eu]; exact hqk) hI.na hI.h22 (ask_no hL9 h hok hY e1 e2 huu eu hjn hja hno)) (cwV 4 htT (kg_V m_ml_L_194 m_im_X6_ask m_sl_X6_ask m_in_X6 m_cd_X6_ask) rfl rfl rfl (by decide +kernel) ⟨Nat.le_of_ble_eq_true rfl, Nat.le_of_ble_eq_true rfl⟩) (kj_V (pmM _ _ _ _) hK hP hD hTB (kj_rm (pmM _ _ _ _) hK hP)) rfl rfl hl.1 rfl (lv_room (Nat.le_of_ble_eq_true rfl)) dL_law_1141 ⟨(by show _ ≤ 601024; omega), (by show _ ≤ 7293034; omega)⟩) hP hD hS hA (fun r_4 x_4 H locs hq_4 hP hD hS => ?_)
    have hP := kj_P (pmM _ _ _ _).symm hP
    have hD := kj_D (pmM _ _ _ _).symm hD
    rw [hq_4.1]
    rw [hq_4.2] at hP hD
    refine lv_istore (lv' := [(7, .int ((rG M.2 (M.1 2) (M.2 11) (fun k => rFar M.2 k (M.1 1)) (nI uu) a3 a4 na ru 8 j).1)), (6, .int 0), (5, .int (nI (6 * i))), (4, .ref qd), (3, .ref qo), (2, .ref am), (1, .ref x), (0, .ref b)]) hx hb dL_law_1144 hl (by decide) rfl (fun ls hl => ?_)
    refine lv_goto (tgt := 1750) hx hb dL_law_1146 (by decide) ?_
    refine W.widen (k := c0 + 20) (n := s0 + 400) (by omega) (by omega) ?_
    exact hnext _ (mS (mS M 0 0) 28 (rG M.2 (M.1 2) (M.2 11) (fun k => rFar M.2 k (M.1 1)) (nI uu) a3 a4 na ru 8 j).2) _ _ _ _ _ _ _ _ _ _ hd0 (h.eA (eqA.bec (u := a2) (f := a3) (g := a4))) (INVR.iS (INVR.iS hI (k := 0) (v := 0) (by decide) (by decide)) (by decide) (by decide)) (hL9.qc h ((eqA.bec (S := S) (ak := ak) (u := a2) (f := a3) (g := a4)).qc h.kk) eqM.rf.s0.s28) (hY.of rfl) (e1) (e2) hP hD hS (lv_sub hl [2, 3, 4, 5, 6, 7] rfl)
  · rw [er]
    obtain ⟨ru, hok⟩ := id hI.1
    have hqk := qAsk_1 h1 h2 h3
    obtain ⟨uu, huu, eu⟩ := qAsk_u hqk
    have geq := gets_bec hL9 h hok hY e1 e2 huu eu hjn hja (f := a3) (g := a4)
    have hna : na < 100 := by have h99 := hyes.2.1; rw [h.x3] at h99; exact (nI_ltI (a := na) (b := 100) (by have := h.na1; omega) (by omega)).mp h99
    have g8 := geq.1.symm.trans hyes.1
    have gv := geq.2.symm.trans hvn
    have garm := (arm_bec hL9 h hok eu hjn hja (f := a3) (g := a4)).mp hyes.2.2
    rw [show gI S x 3 + 1 = nI (na + 1) by rw [h.x3]; exact nI_add na 1] at eS
    rw [eS] at hP hD
    rw [efo] at hP hD
    refine lv_istore (lv' := [(6, .int 0), (5, .int (nI (6 * i))), (4, .ref qd), (3, .ref qo), (2, .ref am), (1, .ref x), (0, .ref b)]) hx hb dL_law_1114 hl (by decide) rfl (fun ls hl => ?_)
    refine lv_aload_n hx hb dL_law_1116 rfl (lv_at hl 4 rfl) ?_
    refine lv_aload_n hx hb dL_law_1117 rfl (lv_at hl 6 rfl) ?_
    refine lv_iload hx hb dL_law_1118 (lv_at hl 1 rfl) ?_
    refine lv_iconst (v := 1) hx hb dL_law_1120 (by decide) ?_
    refine lv_iadd hx hb dL_law_1121 ?_
    rw [show ((nI (6 * i)) + 1 : Int32) = nI ((6 * i) + 1) from nI_add (6 * i) 1]
    refine va_sld hx hb hX hbl hbA hS (show vp_in (nI ((6 * i) + 1)) L from ki_in (by omega) (by omega)) dL_law_1122 ?_
    rw [show xs (nI ((6 * i) + 1)).toNatClampNeg = a1 from (congrArg xs (ki_cl (by omega))).trans ea1.symm]
    refine lv_aload_n hx hb dL_law_1123 rfl (lv_at hl 6 rfl) ?_
    refine lv_iload hx hb dL_law_1124 (lv_at hl 1 rfl) ?_
    refine lv_iconst (v := 2) hx hb dL_law_1126 (by decide) ?_
    refine lv_iadd hx hb dL_law_1127 ?_
    rw [show ((nI (6 * i)) + 2 : Int32) = nI ((6 * i) + 2) from nI_add (6 * i) 2]
    refine va_sld hx hb hX hbl hbA hS (show vp_in (nI ((6 * i) + 2)) L from ki_in (by omega) (by omega)) dL_law_1128 ?_
    rw [show xs (nI ((6 * i) + 2)).toNatClampNeg = a2 from (congrArg xs (ki_cl (by omega))).trans ea2.symm]
    refine lv_aload_n hx hb dL_law_1129 rfl (lv_at hl 6 rfl) ?_
    refine lv_iload hx hb dL_law_1130 (lv_at hl 1 rfl) ?_
    refine lv_iconst (v := 3) hx hb dL_law_1132 (by decide) ?_
    refine lv_iadd hx hb dL_law_1133 ?_
    rw [show ((nI (6 * i)) + 3 : Int32) = nI ((6 * i) + 3) from nI_add (6 * i) 3]
    refine va_sld hx hb hX hbl hbA hS (show vp_in (nI ((6 * i) + 3)) L from ki_in (by omega) (by omega)) dL_law_1134 ?_
    rw [show xs (nI ((6 * i) + 3)).toNatClampNeg = a3 from (congrArg xs (ki_cl (by omega))).trans ea3.symm]
    refine lv_aload_n hx hb dL_law_1135 rfl (lv_at hl 6 rfl) ?_
    refine lv_iload hx hb dL_law_1136 (lv_at hl 1 rfl) ?_
    refine lv_iconst (v := 4) hx hb dL_law_1138 (by decide) ?_
    refine lv_iadd hx hb dL_law_1139 ?_
    rw [show ((nI (6 * i)) + 4 : Int32) = nI ((6 * i) + 4) from nI_add (6 * i) 4]
    refine va_sld hx hb hX hbl hbA hS (show vp_in (nI ((6 * i) + 4)) L from ki_in (by omega) (by omega)) dL_law_1140 ?_
    rw [show xs (nI ((6 * i) + 4)).toNatClampNeg = a4 from (congrArg xs (ki_cl (by omega))).trans ea4.symm]
    rw [ej]
    rw [eu]
    refine kj_i (pmM _ _ _ _) (va_runV (As := [.int (nI j), .int (nI uu), .int a3, .int a4]) (rest := []) ⟨hx, hb, hml, hown, htT⟩ (m_ask_yes l D cA _ am r M n j hjn hI.n8 hI.h3 na ru hok uu a3 a4 huu (by rw [← eu]; exact hqk) hI.na hI.h22 g8 hna garm) (cwV 4 htT (kg_V m_ml_L_194 m_im_X6_ask m_sl_X6_ask m_in_X6 m_cd_X6_ask) rfl rfl rfl (by decide +kernel) ⟨Nat.le_of_ble_eq_true rfl, Nat.le_of_ble_eq_true rfl⟩) (kj_V (pmM _ _ _ _) hK hP hD hTB (kj_rm (pmM _ _ _ _) hK hP)) rfl rfl hl.1 rfl (lv_room (Nat.le_of_ble_eq_true rfl)) dL_law_1141 ⟨(by show _ ≤ 601024; omega), (by show _ ≤ 7293034; omega)⟩) hP hD hS hA (fun r_5 x_5 H locs hq_5 hP hD hS => ?_)
    have hP := kj_P (pmM _ _ _ _).symm hP
    have hD := kj_D (pmM _ _ _ _).symm hD
    rw [hq_5.1.trans gv]
    rw [hq_5.2] at hP hD
    refine lv_istore (lv' := [(7, .int (nI v)), (6, .int 0), (5, .int (nI (6 * i))), (4, .ref qd), (3, .ref qo), (2, .ref am), (1, .ref x), (0, .ref b)]) hx hb dL_law_1144 hl (by decide) rfl (fun ls hl => ?_)
    refine lv_goto (tgt := 1750) hx hb dL_law_1146 (by decide) ?_
    refine W.widen (k := c0 + 20) (n := s0 + 400) (by omega) (by omega) ?_
    exact hnext _ (mR (mS (mR (mR (mS (mS M 0 0) 28 (rG M.2 (M.1 2) (M.2 11) (fun k => rFar M.2 k (M.1 1)) (nI uu) a3 a4 na ru 8 j).2) 23 na (nI j)) 24 na (nI uu)) 22 (nI (na + 1))) 25 na (rG M.2 (M.1 2) (M.2 11) (fun k => rFar M.2 k (M.1 1)) (nI uu) a3 a4 na ru 8 j).1) _ _ _ _ _ _ _ _ _ _ hd0 ((h.eA (eqA.bec (u := a2) (f := a3) (g := a4))).arm (by have := h.n8; omega) hja hq ((h.sw (by have := h.n8; omega) hja).ty e6) hna) (INVR.iR (INVR.arm (INVR.iR (INVR.iR (INVR.iS (INVR.iS hI (k := 0) (v := 0) (by decide) (by decide)) (by decide) (by decide)) (by decide)) (by decide)) hna) (by decide)) ((hL9.qc h ((eqA.bec (S := S) (ak := ak) (u := a2) (f := a3) (g := a4)).qc h.kk) eqM.rf).arm (h.eA (eqA.bec (u := a2) (f := a3) (g := a4))) hjn hja hq ((h.sw (by have := h.n8; omega) hja).ty e6) ((h.sw (by have := h.n8; omega) hja).t9 e6 e60) hna hna hyes.2.2 (fun j9 b1 b2 b3 => (up_o b3).trans ((up_o b2).trans (up_o b1))) (fun j9 => rfl) (fun j9 => by rw [eu]; rfl) (fun j9 => by rw [← gv]; rfl)) (hY.of rfl) (e1) (e2) hP hD hS (lv_sub hl [2, 3, 4, 5, 6, 7] rfl)

set_option maxRecDepth 100000 in
set_option maxHeartbeats 4000000 in
theorem law_act (l : Launch) (hst : l.stackTraces = false) {p : Program} {e : Env} {s : State} {m : MethodId} {below : List Frame} {meth : Method} {c : Code} {b L : Nat} {xs : Nat → Int32} (C0 : lw_At p s m meth c b L xs) {D : va_G} {cA : Nat → ClassId} (hK : va_K D vwCl (ty6 cA) s) (hTB : TBok s) (hTX : TXok (fun q : Nat => s.heap.size ≤ q) s) {x ar ak qo qd am : Nat} {r : Nat → Nat} {c0 s0 i : Nat} (hc0 : c0 + 20 ≤ 601024) (hs0 : s0 + 400 ≤ 7293034) (hi : 6 * i + 6 ≤ L) (hL : L ≤ 3072) (hnext : ∀ (S : Pool) (M : MSt) (fo : Nat → Int64) (fd : Nat → UInt64) (n na : Nat) (hh cc : Int32) (H : Heap) (locs : List Loc) (ls : Array Slot) (d : Drawn), s.drawn.sameBut d lw_cs → INVC n na hh cc S x ar ak → INVR n na M → REL True n na S M ar → LAY n M → M.1 1 = cc → M.1 2 = hh → va_P D vwCl (LW cA S qo fo qd fd am r M) H → va_D (fun q : Nat => s.heap.size ≤ q) (LW cA S qo fo qd fd am r M) → va_S (fun q : Nat => s.heap.size ≤ q) s.heap H locs → lv_has ls 9 [(5, .int (nI (6 * i))), (4, .ref qd), (3, .ref qo), (2, .ref am), (1, .ref x), (0, .ref b)] → W p l e room_1 (s.setDrawn d) m #[Value.ref b] below meth c H locs (c0 + 20) (s0 + 400) (lw_Z below #[Value.ref b] s) (F0 m 1750 ls [])) {S : Pool} {M : MSt} {fo : Nat → Int64} {fd : Nat → UInt64} {n na : Nat} {hh cc : Int32} {H : Heap} {locs : List Loc} {ls : Array Slot} {d : Drawn} (hd0 : s.drawn.sameBut d lw_cs) (h : INVC n na hh cc S x ar ak) (hI : INVR n na M) (hL9 : REL True n na S M ar) (hY : LAY n M) (e1 : M.1 1 = cc) (e2 : M.1 2 = hh) (hP : va_P D vwCl (LW cA S qo fo qd fd am r M) H) (hD : va_D (fun q : Nat => s.heap.size ≤ q) (LW cA S qo fo qd fd am r M)) (hS : va_S (fun q : Nat => s.heap.size ≤ q) s.heap H locs) (hl : lv_has ls 9 [(5, .int (nI (6 * i))), (4, .ref qd), (3, .ref qo), (2, .ref am), (1, .ref x), (0, .ref b)]) : W p l e room_1 (s.setDrawn d) m #[Value.ref b] below meth c H locs c0 s0 (lw_Z below #[Value.ref b] s) (F0 m 1149 ls []) := by
  obtain ⟨hx, hb, hr, hml, hown, hts, hX, hbl, hlocks, hgv⟩ := id C0
  have hA : ∀ q : Nat, s.heap.size ≤ q → (fun q : Nat => s.heap.size ≤ q) q := fun _ h => h
  have hbA : ¬ (fun q : Nat => s.heap.size ≤ q) b := Nat.not_le.mpr hbl
  obtain ⟨a1, ea1⟩ : ∃ z, z = xs (6 * i + 1) := ⟨_, rfl⟩
  obtain ⟨a2, ea2⟩ : ∃ z, z = xs (6 * i + 2) := ⟨_, rfl⟩
  obtain ⟨a3, ea3⟩ : ∃ z, z = xs (6 * i + 3) := ⟨_, rfl⟩
  obtain ⟨a4, ea4⟩ : ∃ z, z = xs (6 * i + 4) := ⟨_, rfl⟩
  obtain ⟨a5, ea5⟩ : ∃ z, z = xs (6 * i + 5) := ⟨_, rfl⟩
  have htT0 : ∀ w ∈ TT, w.before _ s = true := fun w h => hts w (tt_in h)
  have hTB0 := hTB
  have hK0 := hK
  have hown0 : s.vm.findClass RL = some m.cls := hown
  have hTX0 := hTX
  have hX0 := hX
  have htT : ∀ w ∈ TT, w.before _ (s.setDrawn d) = true := dr_words htT0 d
  have hTB : TBok (s.setDrawn d) := TBok.same (u := s) (U := s.setDrawn d) rfl (Vm.Alike.refl s.vm) hTB0
  have hK : va_K D vwCl (ty6 cA) (s.setDrawn d) := hK0
  have hown : (s.setDrawn d).vm.findClass RL = some m.cls := hown0
  have hTX : TXok (fun q : Nat => s.heap.size ≤ q) (s.setDrawn d) := hTX0.dr d
  have hX : va_X b L xs (s.setDrawn d) (s.setDrawn d).heap := hX0
  refine lv_aload_n hx hb dL_law_1149 rfl (lv_at hl 4 rfl) ?_
  refine lv_aload_n hx hb dL_law_1150 rfl (lv_at hl 5 rfl) ?_
  refine lv_iload hx hb dL_law_1151 (lv_at hl 0 rfl) ?_
  refine lv_iconst (v := 1) hx hb dL_law_1153 (by decide) ?_
  refine lv_iadd hx hb dL_law_1154 ?_
  rw [show ((nI (6 * i)) + 1 : Int32) = nI ((6 * i) + 1) from nI_add (6 * i) 1]
  refine va_sld hx hb hX hbl hbA hS (show vp_in (nI ((6 * i) + 1)) L from ki_in (by omega) (by omega)) dL_law_1155 ?_
  rw [show xs (nI ((6 * i) + 1)).toNatClampNeg = a1 from (congrArg xs (ki_cl (by omega))).trans ea1.symm]
  refine lv_aload_n hx hb dL_law_1156 rfl (lv_at hl 5 rfl) ?_
  refine lv_iload hx hb dL_law_1157 (lv_at hl 0 rfl) ?_
  refine lv_iconst (v := 2) hx hb dL_law_1159 (by decide) ?_
  refine lv_iadd hx hb dL_law_1160 ?_
  rw [show ((nI (6 * i)) + 2 : Int32) = nI ((6 * i) + 2) from nI_add (6 * i) 2]
  refine va_sld hx hb hX hbl hbA hS (show vp_in (nI ((6 * i) + 2)) L from ki_in (by omega) (by omega)) dL_law_1161 ?_
  rw [show xs (nI ((6 * i) + 2)).toNatClampNeg = a2 from (congrArg xs (ki_cl (by omega))).trans ea2.symm]
  refine lv_aload_n hx hb dL_law_1162 rfl (lv_at hl 2 rfl) ?_
  refine kj_i (pmJ _ _ _ _) (vx_runSW (As := [.ref x, .int a1, .int a2, .ref qo]) (rest := []) ⟨hx, hb, hml, hown, htT⟩ (w_act l hst D cA _ S x qo fo n na hh cc ar ak h a1 a2) (vx_cwSW 4 htT (kg_SW m_ml_L_195 m_st_L_act m_in_L m_cd_L_act) rfl rfl rfl (by decide +kernel) ⟨Nat.le_of_ble_eq_true rfl, Nat.le_of_ble_eq_true rfl⟩) (kj_SX (pmJ _ _ _ _) hK hP hD hTB hTX hS hA) rfl rfl hl.1 rfl (lv_room (Nat.le_of_ble_eq_true rfl)) dL_law_1163 ⟨(by show _ ≤ 601024; omega), (by show _ ≤ 7293034; omega)⟩) hP hD hS hA (fun r_1 x_1 H locs hq_1 hP hD hS => ?_)
  rw [List.append_assoc] at hP hD
  obtain ⟨hC_1, hQ_1⟩ := hq_1
  refine lv_istore (lv' := [(6, .int r_1), (5, .int (nI (6 * i))), (4, .ref qd), (3, .ref qo), (2, .ref am), (1, .ref x), (0, .ref b)]) hx hb dL_law_1166 hl (by decide) rfl (fun ls hl => ?_)
  refine lv_aload_n hx hb dL_law_1168 rfl (lv_at hl 4 rfl) ?_
  refine lv_aload_n hx hb dL_law_1169 rfl (lv_at hl 6 rfl) ?_
  refine lv_iload hx hb dL_law_1170 (lv_at hl 1 rfl) ?_
  refine lv_iconst (v := 1) hx hb dL_law_1172 (by decide) ?_
  refine lv_iadd hx hb dL_law_1173 ?_
  rw [show ((nI (6 * i)) + 1 : Int32) = nI ((6 * i) + 1) from nI_add (6 * i) 1]
  refine va_sld hx hb hX hbl hbA hS (show vp_in (nI ((6 * i) + 1)) L from ki_in (by omega) (by omega)) dL_law_1174 ?_
  rw [show xs (nI ((6 * i) + 1)).toNatClampNeg = a1 from (congrArg xs (ki_cl (by omega))).trans ea1.symm]
  refine lv_aload_n hx hb dL_law_1175 rfl (lv_at hl 6 rfl) ?_
  refine lv_iload hx hb dL_law_1176 (lv_at hl 1 rfl) ?_
  refine lv_iconst (v := 2) hx hb dL_law_1178 (by decide) ?_
  refine lv_iadd hx hb dL_law_1179 ?_
  rw [show ((nI (6 * i)) + 2 : Int32) = nI ((6 * i) + 2) from nI_add (6 * i) 2]
  refine va_sld hx hb hX hbl hbA hS (show vp_in (nI ((6 * i) + 2)) L from ki_in (by omega) (by omega)) dL_law_1180 ?_
  rw [show xs (nI ((6 * i) + 2)).toNatClampNeg = a2 from (congrArg xs (ki_cl (by omega))).trans ea2.symm]
  refine kj_i (pmM _ _ _ _) (va_runV (As := [.int a1, .int a2]) (rest := []) ⟨hx, hb, hml, hown, htT⟩ (t_act l D cA _ am r M n na hI a1 a2) (cwV 2 htT (kg_V m_ml_L_197 m_im_X6_act m_sl_X6_act m_in_X6 m_cd_X6_act) rfl rfl rfl (by decide +kernel) ⟨Nat.le_of_ble_eq_true rfl, Nat.le_of_ble_eq_true rfl⟩) (kj_V (pmM _ _ _ _) hK hP hD hTB (kj_rm (pmM _ _ _ _) hK hP)) rfl rfl hl.1 rfl (lv_room (Nat.le_of_ble_eq_true rfl)) dL_law_1181 ⟨(by show _ ≤ 601024; omega), (by show _ ≤ 7293034; omega)⟩) hP hD hS hA (fun r_2 x_2 H locs hq_2 hP hD hS => ?_)
  have hP := kj_P (pmM _ _ _ _).symm hP
  have hD := kj_D (pmM _ _ _ _).symm hD
  obtain ⟨hI_2, hM_2⟩ := hq_2
  have ea_2 := hM_2.2 1 (by decide) (by decide)
  have eb_2 := hM_2.2 2 (by decide) (by decide)
  refine lv_istore (lv' := [(7, .int r_2), (6, .int r_1), (5, .int (nI (6 * i))), (4, .ref qd), (3, .ref qo), (2, .ref am), (1, .ref x), (0, .ref b)]) hx hb dL_law_1184 hl (by decide) rfl (fun ls hl => ?_)
  refine lv_goto (tgt := 1750) hx hb dL_law_1186 (by decide) ?_
  refine W.widen (k := c0 + 20) (n := s0 + 400) (by omega) (by omega) ?_
  exact hnext _ x_2 _ _ _ _ _ _ _ _ _ _ hd0 hC_1 hI_2 (hL9.qc h hQ_1 hM_2) (hY.of (hM_2.1 14 (by decide) (by decide))) (ea_2.trans e1) (eb_2.trans e2) hP hD hS (lv_sub hl [2, 3, 4, 5, 6, 7] rfl)

set_option maxRecDepth 100000 in
set_option maxHeartbeats 4000000 in
theorem law_arm (l : Launch) (hst : l.stackTraces = false) {p : Program} {e : Env} {s : State} {m : MethodId} {below : List Frame} {meth : Method} {c : Code} {b L : Nat} {xs : Nat → Int32} (C0 : lw_At p s m meth c b L xs) {D : va_G} {cA : Nat → ClassId} (hK : va_K D vwCl (ty6 cA) s) (hTB : TBok s) (hTX : TXok (fun q : Nat => s.heap.size ≤ q) s) {x ar ak qo qd am : Nat} {r : Nat → Nat} {c0 s0 i : Nat} (hc0 : c0 + 20 ≤ 601024) (hs0 : s0 + 400 ≤ 7293034) (hi : 6 * i + 6 ≤ L) (hL : L ≤ 3072) (hnext : ∀ (S : Pool) (M : MSt) (fo : Nat → Int64) (fd : Nat → UInt64) (n na : Nat) (hh cc : Int32) (H : Heap) (locs : List Loc) (ls : Array Slot) (d : Drawn), s.drawn.sameBut d lw_cs → INVC n na hh cc S x ar ak → INVR n na M → REL True n na S M ar → LAY n M → M.1 1 = cc → M.1 2 = hh → va_P D vwCl (LW cA S qo fo qd fd am r M) H → va_D (fun q : Nat => s.heap.size ≤ q) (LW cA S qo fo qd fd am r M) → va_S (fun q : Nat => s.heap.size ≤ q) s.heap H locs → lv_has ls 9 [(5, .int (nI (6 * i))), (4, .ref qd), (3, .ref qo), (2, .ref am), (1, .ref x), (0, .ref b)] → W p l e room_1 (s.setDrawn d) m #[Value.ref b] below meth c H locs (c0 + 20) (s0 + 400) (lw_Z below #[Value.ref b] s) (F0 m 1750 ls [])) {S : Pool} {M : MSt} {fo : Nat → Int64} {fd : Nat → UInt64} {n na : Nat} {hh cc : Int32} {H : Heap} {locs : List Loc} {ls : Array Slot} {d : Drawn} (hd0 : s.drawn.sameBut d lw_cs) (h : INVC n na hh cc S x ar ak) (hI : INVR n na M) (hL9 : REL True n na S M ar) (hY : LAY n M) (e1 : M.1 1 = cc) (e2 : M.1 2 = hh) (hP : va_P D vwCl (LW cA S qo fo qd fd am r M) H) (hD : va_D (fun q : Nat => s.heap.size ≤ q) (LW cA S qo fo qd fd am r M)) (hS : va_S (fun q : Nat => s.heap.size ≤ q) s.heap H locs) (hl : lv_has ls 9 [(5, .int (nI (6 * i))), (4, .ref qd), (3, .ref qo), (2, .ref am), (1, .ref x), (0, .ref b)]) : W p l e room_1 (s.setDrawn d) m #[Value.ref b] below meth c H locs c0 s0 (lw_Z below #[Value.ref b] s) (F0 m 1189 ls []) := by
  obtain ⟨hx, hb, hr, hml, hown, hts, hX, hbl, hlocks, hgv⟩ := id C0
  have hA : ∀ q : Nat, s.heap.size ≤ q → (fun q : Nat => s.heap.size ≤ q) q := fun _ h => h
  have hbA : ¬ (fun q : Nat => s.heap.size ≤ q) b := Nat.not_le.mpr hbl
  obtain ⟨a1, ea1⟩ : ∃ z, z = xs (6 * i + 1) := ⟨_, rfl⟩
  obtain ⟨a2, ea2⟩ : ∃ z, z = xs (6 * i + 2) := ⟨_, rfl⟩
  obtain ⟨a3, ea3⟩ : ∃ z, z = xs (6 * i + 3) := ⟨_, rfl⟩
  obtain ⟨a4, ea4⟩ : ∃ z, z = xs (6 * i + 4) := ⟨_, rfl⟩
  obtain ⟨a5, ea5⟩ : ∃ z, z = xs (6 * i + 5) := ⟨_, rfl⟩
  have htT0 : ∀ w ∈ TT, w.before _ s = true := fun w h => hts w (tt_in h)
  have hTB0 := hTB
  have hK0 := hK
  have hown0 : s.vm.findClass RL = some m.cls := hown
  have hTX0 := hTX
  have hX0 := hX
  have htT : ∀ w ∈ TT, w.before _ (s.setDrawn d) = true := dr_words htT0 d
  have hTB : TBok (s.setDrawn d) := TBok.same (u := s) (U := s.setDrawn d) rfl (Vm.Alike.refl s.vm) hTB0
  have hK : va_K D vwCl (ty6 cA) (s.setDrawn d) := hK0
  have hown : (s.setDrawn d).vm.findClass RL = some m.cls := hown0
  have hTX : TXok (fun q : Nat => s.heap.size ≤ q) (s.setDrawn d) := hTX0.dr d
  have hX : va_X b L xs (s.setDrawn d) (s.setDrawn d).heap := hX0
  refine lv_aload_n hx hb dL_law_1189 rfl (lv_at hl 4 rfl) ?_
  refine lv_aload_n hx hb dL_law_1190 rfl (lv_at hl 5 rfl) ?_
  refine lv_iload hx hb dL_law_1191 (lv_at hl 0 rfl) ?_
  refine lv_iconst (v := 1) hx hb dL_law_1193 (by decide) ?_
  refine lv_iadd hx hb dL_law_1194 ?_
  rw [show ((nI (6 * i)) + 1 : Int32) = nI ((6 * i) + 1) from nI_add (6 * i) 1]
  refine va_sld hx hb hX hbl hbA hS (show vp_in (nI ((6 * i) + 1)) L from ki_in (by omega) (by omega)) dL_law_1195 ?_
  rw [show xs (nI ((6 * i) + 1)).toNatClampNeg = a1 from (congrArg xs (ki_cl (by omega))).trans ea1.symm]
  refine lv_aload_n hx hb dL_law_1196 rfl (lv_at hl 5 rfl) ?_
  refine lv_iload hx hb dL_law_1197 (lv_at hl 0 rfl) ?_
  refine lv_iconst (v := 2) hx hb dL_law_1199 (by decide) ?_
  refine lv_iadd hx hb dL_law_1200 ?_
  rw [show ((nI (6 * i)) + 2 : Int32) = nI ((6 * i) + 2) from nI_add (6 * i) 2]
  refine va_sld hx hb hX hbl hbA hS (show vp_in (nI ((6 * i) + 2)) L from ki_in (by omega) (by omega)) dL_law_1201 ?_
  rw [show xs (nI ((6 * i) + 2)).toNatClampNeg = a2 from (congrArg xs (ki_cl (by omega))).trans ea2.symm]
  refine lv_aload_n hx hb dL_law_1202 rfl (lv_at hl 2 rfl) ?_
  refine kj_i (pmJ _ _ _ _) (vx_runSW (As := [.ref x, .int a1, .int a2, .ref qo]) (rest := []) ⟨hx, hb, hml, hown, htT⟩ (w_arm l hst D cA _ S x qo fo n na hh cc ar ak h a1 a2) (vx_cwSW 4 htT (kg_SW m_ml_L_198 m_st_L_arm m_in_L m_cd_L_arm) rfl rfl rfl (by decide +kernel) ⟨Nat.le_of_ble_eq_true rfl, Nat.le_of_ble_eq_true rfl⟩) (kj_SX (pmJ _ _ _ _) hK hP hD hTB hTX hS hA) rfl rfl hl.1 rfl (lv_room (Nat.le_of_ble_eq_true rfl)) dL_law_1203 ⟨(by show _ ≤ 601024; omega), (by show _ ≤ 7293034; omega)⟩) hP hD hS hA (fun r_1 x_1 H locs hq_1 hP hD hS => ?_)
  rw [List.append_assoc] at hP hD
  obtain ⟨hC_1, hQ_1⟩ := hq_1
  refine lv_istore (lv' := [(6, .int r_1), (5, .int (nI (6 * i))), (4, .ref qd), (3, .ref qo), (2, .ref am), (1, .ref x), (0, .ref b)]) hx hb dL_law_1206 hl (by decide) rfl (fun ls hl => ?_)
  refine lv_aload_n hx hb dL_law_1208 rfl (lv_at hl 4 rfl) ?_
  refine lv_aload_n hx hb dL_law_1209 rfl (lv_at hl 6 rfl) ?_
  refine lv_iload hx hb dL_law_1210 (lv_at hl 1 rfl) ?_
  refine lv_iconst (v := 1) hx hb dL_law_1212 (by decide) ?_
  refine lv_iadd hx hb dL_law_1213 ?_
  rw [show ((nI (6 * i)) + 1 : Int32) = nI ((6 * i) + 1) from nI_add (6 * i) 1]
  refine va_sld hx hb hX hbl hbA hS (show vp_in (nI ((6 * i) + 1)) L from ki_in (by omega) (by omega)) dL_law_1214 ?_
  rw [show xs (nI ((6 * i) + 1)).toNatClampNeg = a1 from (congrArg xs (ki_cl (by omega))).trans ea1.symm]
  refine lv_aload_n hx hb dL_law_1215 rfl (lv_at hl 6 rfl) ?_
  refine lv_iload hx hb dL_law_1216 (lv_at hl 1 rfl) ?_
  refine lv_iconst (v := 2) hx hb dL_law_1218 (by decide) ?_
  refine lv_iadd hx hb dL_law_1219 ?_
  rw [show ((nI (6 * i)) + 2 : Int32) = nI ((6 * i) + 2) from nI_add (6 * i) 2]
  refine va_sld hx hb hX hbl hbA hS (show vp_in (nI ((6 * i) + 2)) L from ki_in (by omega) (by omega)) dL_law_1220 ?_
  rw [show xs (nI ((6 * i) + 2)).toNatClampNeg = a2 from (congrArg xs (ki_cl (by omega))).trans ea2.symm]
  refine kj_i (pmM _ _ _ _) (va_runV (As := [.int a1, .int a2]) (rest := []) ⟨hx, hb, hml, hown, htT⟩ (t_arm l D cA _ am r M n na hI a1 a2) (cwV 2 htT (kg_V m_ml_L_200 m_im_X6_arm m_sl_X6_arm m_in_X6 m_cd_X6_arm) rfl rfl rfl (by decide +kernel) ⟨Nat.le_of_ble_eq_true rfl, Nat.le_of_ble_eq_true rfl⟩) (kj_V (pmM _ _ _ _) hK hP hD hTB (kj_rm (pmM _ _ _ _) hK hP)) rfl rfl hl.1 rfl (lv_room (Nat.le_of_ble_eq_true rfl)) dL_law_1221 ⟨(by show _ ≤ 601024; omega), (by show _ ≤ 7293034; omega)⟩) hP hD hS hA (fun r_2 x_2 H locs hq_2 hP hD hS => ?_)
  have hP := kj_P (pmM _ _ _ _).symm hP
  have hD := kj_D (pmM _ _ _ _).symm hD
  obtain ⟨hI_2, hM_2⟩ := hq_2
  have ea_2 := hM_2.2 1 (by decide) (by decide)
  have eb_2 := hM_2.2 2 (by decide) (by decide)
  refine lv_istore (lv' := [(7, .int r_2), (6, .int r_1), (5, .int (nI (6 * i))), (4, .ref qd), (3, .ref qo), (2, .ref am), (1, .ref x), (0, .ref b)]) hx hb dL_law_1224 hl (by decide) rfl (fun ls hl => ?_)
  refine lv_goto (tgt := 1750) hx hb dL_law_1226 (by decide) ?_
  refine W.widen (k := c0 + 20) (n := s0 + 400) (by omega) (by omega) ?_
  exact hnext _ x_2 _ _ _ _ _ _ _ _ _ _ hd0 hC_1 hI_2 (hL9.qc h hQ_1 hM_2) (hY.of (hM_2.1 14 (by decide) (by decide))) (ea_2.trans e1) (eb_2.trans e2) hP hD hS (lv_sub hl [2, 3, 4, 5, 6, 7] rfl)

set_option maxRecDepth 100000 in
set_option maxHeartbeats 4000000 in
theorem law_arms (l : Launch) (hst : l.stackTraces = false) {p : Program} {e : Env} {s : State} {m : MethodId} {below : List Frame} {meth : Method} {c : Code} {b L : Nat} {xs : Nat → Int32} (C0 : lw_At p s m meth c b L xs) {D : va_G} {cA : Nat → ClassId} (hK : va_K D vwCl (ty6 cA) s) (hTB : TBok s) (hTX : TXok (fun q : Nat => s.heap.size ≤ q) s) {x ar ak qo qd am : Nat} {r : Nat → Nat} {c0 s0 i : Nat} (hc0 : c0 + 20 ≤ 601024) (hs0 : s0 + 400 ≤ 7293034) (hi : 6 * i + 6 ≤ L) (hL : L ≤ 3072) (hnext : ∀ (S : Pool) (M : MSt) (fo : Nat → Int64) (fd : Nat → UInt64) (n na : Nat) (hh cc : Int32) (H : Heap) (locs : List Loc) (ls : Array Slot) (d : Drawn), s.drawn.sameBut d lw_cs → INVC n na hh cc S x ar ak → INVR n na M → REL True n na S M ar → LAY n M → M.1 1 = cc → M.1 2 = hh → va_P D vwCl (LW cA S qo fo qd fd am r M) H → va_D (fun q : Nat => s.heap.size ≤ q) (LW cA S qo fo qd fd am r M) → va_S (fun q : Nat => s.heap.size ≤ q) s.heap H locs → lv_has ls 9 [(5, .int (nI (6 * i))), (4, .ref qd), (3, .ref qo), (2, .ref am), (1, .ref x), (0, .ref b)] → W p l e room_1 (s.setDrawn d) m #[Value.ref b] below meth c H locs (c0 + 20) (s0 + 400) (lw_Z below #[Value.ref b] s) (F0 m 1750 ls [])) {S : Pool} {M : MSt} {fo : Nat → Int64} {fd : Nat → UInt64} {n na : Nat} {hh cc : Int32} {H : Heap} {locs : List Loc} {ls : Array Slot} {d : Drawn} (hd0 : s.drawn.sameBut d lw_cs) (h : INVC n na hh cc S x ar ak) (hI : INVR n na M) (hL9 : REL True n na S M ar) (hY : LAY n M) (e1 : M.1 1 = cc) (e2 : M.1 2 = hh) (hP : va_P D vwCl (LW cA S qo fo qd fd am r M) H) (hD : va_D (fun q : Nat => s.heap.size ≤ q) (LW cA S qo fo qd fd am r M)) (hS : va_S (fun q : Nat => s.heap.size ≤ q) s.heap H locs) (hl : lv_has ls 9 [(5, .int (nI (6 * i))), (4, .ref qd), (3, .ref qo), (2, .ref am), (1, .ref x), (0, .ref b)]) : W p l e room_1 (s.setDrawn d) m #[Value.ref b] below meth c H locs c0 s0 (lw_Z below #[Value.ref b] s) (F0 m 1229 ls []) := by
  obtain ⟨hx, hb, hr, hml, hown, hts, hX, hbl, hlocks, hgv⟩ := id C0
  have hA : ∀ q : Nat, s.heap.size ≤ q → (fun q : Nat => s.heap.size ≤ q) q := fun _ h => h
  have hbA : ¬ (fun q : Nat => s.heap.size ≤ q) b := Nat.not_le.mpr hbl
  obtain ⟨a1, ea1⟩ : ∃ z, z = xs (6 * i + 1) := ⟨_, rfl⟩
  obtain ⟨a2, ea2⟩ : ∃ z, z = xs (6 * i + 2) := ⟨_, rfl⟩
  obtain ⟨a3, ea3⟩ : ∃ z, z = xs (6 * i + 3) := ⟨_, rfl⟩
  obtain ⟨a4, ea4⟩ : ∃ z, z = xs (6 * i + 4) := ⟨_, rfl⟩
  obtain ⟨a5, ea5⟩ : ∃ z, z = xs (6 * i + 5) := ⟨_, rfl⟩
  have htT0 : ∀ w ∈ TT, w.before _ s = true := fun w h => hts w (tt_in h)
  have hTB0 := hTB
  have hK0 := hK
  have hown0 : s.vm.findClass RL = some m.cls := hown
  have hTX0 := hTX
  have hX0 := hX
  have htT : ∀ w ∈ TT, w.before _ (s.setDrawn d) = true := dr_words htT0 d
  have hTB : TBok (s.setDrawn d) := TBok.same (u := s) (U := s.setDrawn d) rfl (Vm.Alike.refl s.vm) hTB0
  have hK : va_K D vwCl (ty6 cA) (s.setDrawn d) := hK0
  have hown : (s.setDrawn d).vm.findClass RL = some m.cls := hown0
  have hTX : TXok (fun q : Nat => s.heap.size ≤ q) (s.setDrawn d) := hTX0.dr d
  have hX : va_X b L xs (s.setDrawn d) (s.setDrawn d).heap := hX0
  refine lv_aload_n hx hb dL_law_1229 rfl (lv_at hl 4 rfl) ?_
  refine kj_i (List.Perm.refl _) (va_runV (As := []) (rest := []) ⟨hx, hb, hml, hown, htT⟩ (c_arms l D cA _ S x h.hx) (cwV 0 htT (kg_V m_ml_L_201 m_im_X5_arms m_sl_X5_arms m_in_X5 m_cd_X5_arms) rfl rfl rfl (by decide +kernel) ⟨Nat.le_of_ble_eq_true rfl, Nat.le_of_ble_eq_true rfl⟩) (kj_V (List.Perm.refl _) hK hP hD hTB (kj_rc (List.Perm.refl _) hK hP h.hx (Nat.le_of_ble_eq_true rfl) rfl)) rfl rfl hl.1 rfl (lv_room (Nat.le_of_ble_eq_true rfl)) dL_law_1230 ⟨(by show _ ≤ 601024; omega), (by show _ ≤ 7293034; omega)⟩) hP hD hS hA (fun r_1 x_1 H locs hq_1 hP hD hS => ?_)
  rw [hq_1.2] at hP hD
  refine lv_pop hx hb dL_law_1233 rfl ?_
  refine lv_aload_n hx hb dL_law_1234 rfl (lv_at hl 3 rfl) ?_
  refine kj_i (pmM _ _ _ _) (va_runV (As := []) (rest := []) ⟨hx, hb, hml, hown, htT⟩ (t_arms l D cA _ am r M n na hI ) (cwV 0 htT (kg_V m_ml_L_204 m_im_X6_arms m_sl_X6_arms m_in_X6 m_cd_X6_arms) rfl rfl rfl (by decide +kernel) ⟨Nat.le_of_ble_eq_true rfl, Nat.le_of_ble_eq_true rfl⟩) (kj_V (pmM _ _ _ _) hK hP hD hTB (kj_rm (pmM _ _ _ _) hK hP)) rfl rfl hl.1 rfl (lv_room (Nat.le_of_ble_eq_true rfl)) dL_law_1235 ⟨(by show _ ≤ 601024; omega), (by show _ ≤ 7293034; omega)⟩) hP hD hS hA (fun r_2 x_2 H locs hq_2 hP hD hS => ?_)
  have hP := kj_P (pmM _ _ _ _).symm hP
  have hD := kj_D (pmM _ _ _ _).symm hD
  obtain ⟨hI_2, hM_2⟩ := hq_2
  have ea_2 := hM_2.2 1 (by decide) (by decide)
  have eb_2 := hM_2.2 2 (by decide) (by decide)
  refine lv_pop hx hb dL_law_1238 rfl ?_
  refine lv_goto (tgt := 1750) hx hb dL_law_1239 (by decide) ?_
  refine W.widen (k := c0 + 20) (n := s0 + 400) (by omega) (by omega) ?_
  exact hnext _ x_2 _ _ _ _ _ _ _ _ _ _ hd0 h hI_2 (hL9.qc h QC.rf hM_2) (hY.of (hM_2.1 14 (by decide) (by decide))) (ea_2.trans e1) (eb_2.trans e2) hP hD hS (lv_sub hl [0, 1, 2, 3, 4, 5] rfl)

set_option maxRecDepth 100000 in
set_option maxHeartbeats 4000000 in
theorem law_told (l : Launch) (hst : l.stackTraces = false) {p : Program} {e : Env} {s : State} {m : MethodId} {below : List Frame} {meth : Method} {c : Code} {b L : Nat} {xs : Nat → Int32} (C0 : lw_At p s m meth c b L xs) {D : va_G} {cA : Nat → ClassId} (hK : va_K D vwCl (ty6 cA) s) (hTB : TBok s) (hTX : TXok (fun q : Nat => s.heap.size ≤ q) s) {x ar ak qo qd am : Nat} {r : Nat → Nat} {c0 s0 i : Nat} (hc0 : c0 + 20 ≤ 601024) (hs0 : s0 + 400 ≤ 7293034) (hi : 6 * i + 6 ≤ L) (hL : L ≤ 3072) (hnext : ∀ (S : Pool) (M : MSt) (fo : Nat → Int64) (fd : Nat → UInt64) (n na : Nat) (hh cc : Int32) (H : Heap) (locs : List Loc) (ls : Array Slot) (d : Drawn), s.drawn.sameBut d lw_cs → INVC n na hh cc S x ar ak → INVR n na M → REL True n na S M ar → LAY n M → M.1 1 = cc → M.1 2 = hh → va_P D vwCl (LW cA S qo fo qd fd am r M) H → va_D (fun q : Nat => s.heap.size ≤ q) (LW cA S qo fo qd fd am r M) → va_S (fun q : Nat => s.heap.size ≤ q) s.heap H locs → lv_has ls 9 [(5, .int (nI (6 * i))), (4, .ref qd), (3, .ref qo), (2, .ref am), (1, .ref x), (0, .ref b)] → W p l e room_1 (s.setDrawn d) m #[Value.ref b] below meth c H locs (c0 + 20) (s0 + 400) (lw_Z below #[Value.ref b] s) (F0 m 1750 ls [])) {S : Pool} {M : MSt} {fo : Nat → Int64} {fd : Nat → UInt64} {n na : Nat} {hh cc : Int32} {H : Heap} {locs : List Loc} {ls : Array Slot} {d : Drawn} (hd0 : s.drawn.sameBut d lw_cs) (h : INVC n na hh cc S x ar ak) (hI : INVR n na M) (hL9 : REL True n na S M ar) (hY : LAY n M) (e1 : M.1 1 = cc) (e2 : M.1 2 = hh) (hP : va_P D vwCl (LW cA S qo fo qd fd am r M) H) (hD : va_D (fun q : Nat => s.heap.size ≤ q) (LW cA S qo fo qd fd am r M)) (hS : va_S (fun q : Nat => s.heap.size ≤ q) s.heap H locs) (hl : lv_has ls 9 [(5, .int (nI (6 * i))), (4, .ref qd), (3, .ref qo), (2, .ref am), (1, .ref x), (0, .ref b)]) : W p l e room_1 (s.setDrawn d) m #[Value.ref b] below meth c H locs c0 s0 (lw_Z below #[Value.ref b] s) (F0 m 1242 ls []) := by
  obtain ⟨hx, hb, hr, hml, hown, hts, hX, hbl, hlocks, hgv⟩ := id C0
  have hA : ∀ q : Nat, s.heap.size ≤ q → (fun q : Nat => s.heap.size ≤ q) q := fun _ h => h
  have hbA : ¬ (fun q : Nat => s.heap.size ≤ q) b := Nat.not_le.mpr hbl
  obtain ⟨a1, ea1⟩ : ∃ z, z = xs (6 * i + 1) := ⟨_, rfl⟩
  obtain ⟨a2, ea2⟩ : ∃ z, z = xs (6 * i + 2) := ⟨_, rfl⟩
  obtain ⟨a3, ea3⟩ : ∃ z, z = xs (6 * i + 3) := ⟨_, rfl⟩
  obtain ⟨a4, ea4⟩ : ∃ z, z = xs (6 * i + 4) := ⟨_, rfl⟩
  obtain ⟨a5, ea5⟩ : ∃ z, z = xs (6 * i + 5) := ⟨_, rfl⟩
  have htT0 : ∀ w ∈ TT, w.before _ s = true := fun w h => hts w (tt_in h)
  have hTB0 := hTB
  have hK0 := hK
  have hown0 : s.vm.findClass RL = some m.cls := hown
  have hTX0 := hTX
  have hX0 := hX
  have htT : ∀ w ∈ TT, w.before _ (s.setDrawn d) = true := dr_words htT0 d
  have hTB : TBok (s.setDrawn d) := TBok.same (u := s) (U := s.setDrawn d) rfl (Vm.Alike.refl s.vm) hTB0
  have hK : va_K D vwCl (ty6 cA) (s.setDrawn d) := hK0
  have hown : (s.setDrawn d).vm.findClass RL = some m.cls := hown0
  have hTX : TXok (fun q : Nat => s.heap.size ≤ q) (s.setDrawn d) := hTX0.dr d
  have hX : va_X b L xs (s.setDrawn d) (s.setDrawn d).heap := hX0
  refine lv_aload_n hx hb dL_law_1242 rfl (lv_at hl 4 rfl) ?_
  refine lv_aload_n hx hb dL_law_1243 rfl (lv_at hl 5 rfl) ?_
  refine lv_iload hx hb dL_law_1244 (lv_at hl 0 rfl) ?_
  refine lv_iconst (v := 1) hx hb dL_law_1246 (by decide) ?_
  refine lv_iadd hx hb dL_law_1247 ?_
  rw [show ((nI (6 * i)) + 1 : Int32) = nI ((6 * i) + 1) from nI_add (6 * i) 1]
  refine va_sld hx hb hX hbl hbA hS (show vp_in (nI ((6 * i) + 1)) L from ki_in (by omega) (by omega)) dL_law_1248 ?_
  rw [show xs (nI ((6 * i) + 1)).toNatClampNeg = a1 from (congrArg xs (ki_cl (by omega))).trans ea1.symm]
  refine lv_aload_n hx hb dL_law_1249 rfl (lv_at hl 5 rfl) ?_
  refine lv_iload hx hb dL_law_1250 (lv_at hl 0 rfl) ?_
  refine lv_iconst (v := 2) hx hb dL_law_1252 (by decide) ?_
  refine lv_iadd hx hb dL_law_1253 ?_
  rw [show ((nI (6 * i)) + 2 : Int32) = nI ((6 * i) + 2) from nI_add (6 * i) 2]
  refine va_sld hx hb hX hbl hbA hS (show vp_in (nI ((6 * i) + 2)) L from ki_in (by omega) (by omega)) dL_law_1254 ?_
  rw [show xs (nI ((6 * i) + 2)).toNatClampNeg = a2 from (congrArg xs (ki_cl (by omega))).trans ea2.symm]
  refine lv_aload_n hx hb dL_law_1255 rfl (lv_at hl 5 rfl) ?_
  refine lv_iload hx hb dL_law_1256 (lv_at hl 0 rfl) ?_
  refine lv_iconst (v := 3) hx hb dL_law_1258 (by decide) ?_
  refine lv_iadd hx hb dL_law_1259 ?_
  rw [show ((nI (6 * i)) + 3 : Int32) = nI ((6 * i) + 3) from nI_add (6 * i) 3]
  refine va_sld hx hb hX hbl hbA hS (show vp_in (nI ((6 * i) + 3)) L from ki_in (by omega) (by omega)) dL_law_1260 ?_
  rw [show xs (nI ((6 * i) + 3)).toNatClampNeg = a3 from (congrArg xs (ki_cl (by omega))).trans ea3.symm]
  refine lv_aload_n hx hb dL_law_1261 rfl (lv_at hl 2 rfl) ?_
  refine kj_i (pmJ _ _ _ _) (vx_runSW (As := [.ref x, .int a1, .int a2, .int a3, .ref qo]) (rest := []) ⟨hx, hb, hml, hown, htT⟩ (w_told l hst D cA _ S x qo fo n na hh cc ar ak h a1 a2 a3) (vx_cwSW 5 htT (kg_SW m_ml_L_205 m_st_L_told m_in_L m_cd_L_told) rfl rfl rfl (by decide +kernel) ⟨Nat.le_of_ble_eq_true rfl, Nat.le_of_ble_eq_true rfl⟩) (kj_SX (pmJ _ _ _ _) hK hP hD hTB hTX hS hA) rfl rfl hl.1 rfl (lv_room (Nat.le_of_ble_eq_true rfl)) dL_law_1262 ⟨(by show _ ≤ 601024; omega), (by show _ ≤ 7293034; omega)⟩) hP hD hS hA (fun r_1 x_1 H locs hq_1 hP hD hS => ?_)
  rw [List.append_assoc] at hP hD
  obtain ⟨hC_1, hQ_1⟩ := hq_1
  refine lv_istore (lv' := [(6, .int r_1), (5, .int (nI (6 * i))), (4, .ref qd), (3, .ref qo), (2, .ref am), (1, .ref x), (0, .ref b)]) hx hb dL_law_1265 hl (by decide) rfl (fun ls hl => ?_)
  refine lv_aload_n hx hb dL_law_1267 rfl (lv_at hl 4 rfl) ?_
  refine lv_aload_n hx hb dL_law_1268 rfl (lv_at hl 6 rfl) ?_
  refine lv_iload hx hb dL_law_1269 (lv_at hl 1 rfl) ?_
  refine lv_iconst (v := 1) hx hb dL_law_1271 (by decide) ?_
  refine lv_iadd hx hb dL_law_1272 ?_
  rw [show ((nI (6 * i)) + 1 : Int32) = nI ((6 * i) + 1) from nI_add (6 * i) 1]
  refine va_sld hx hb hX hbl hbA hS (show vp_in (nI ((6 * i) + 1)) L from ki_in (by omega) (by omega)) dL_law_1273 ?_
  rw [show xs (nI ((6 * i) + 1)).toNatClampNeg = a1 from (congrArg xs (ki_cl (by omega))).trans ea1.symm]
  refine lv_aload_n hx hb dL_law_1274 rfl (lv_at hl 6 rfl) ?_
  refine lv_iload hx hb dL_law_1275 (lv_at hl 1 rfl) ?_
  refine lv_iconst (v := 2) hx hb dL_law_1277 (by decide) ?_
  refine lv_iadd hx hb dL_law_1278 ?_
  rw [show ((nI (6 * i)) + 2 : Int32) = nI ((6 * i) + 2) from nI_add (6 * i) 2]
  refine va_sld hx hb hX hbl hbA hS (show vp_in (nI ((6 * i) + 2)) L from ki_in (by omega) (by omega)) dL_law_1279 ?_
  rw [show xs (nI ((6 * i) + 2)).toNatClampNeg = a2 from (congrArg xs (ki_cl (by omega))).trans ea2.symm]
  refine lv_aload_n hx hb dL_law_1280 rfl (lv_at hl 6 rfl) ?_
  refine lv_iload hx hb dL_law_1281 (lv_at hl 1 rfl) ?_
  refine lv_iconst (v := 3) hx hb dL_law_1283 (by decide) ?_
  refine lv_iadd hx hb dL_law_1284 ?_
  rw [show ((nI (6 * i)) + 3 : Int32) = nI ((6 * i) + 3) from nI_add (6 * i) 3]
  refine va_sld hx hb hX hbl hbA hS (show vp_in (nI ((6 * i) + 3)) L from ki_in (by omega) (by omega)) dL_law_1285 ?_
  rw [show xs (nI ((6 * i) + 3)).toNatClampNeg = a3 from (congrArg xs (ki_cl (by omega))).trans ea3.symm]
  refine kj_i (pmM _ _ _ _) (va_runV (As := [.int a1, .int a2, .int a3]) (rest := []) ⟨hx, hb, hml, hown, htT⟩ (t_told l D cA _ am r M n na hI a1 a2 a3) (cwV 3 htT (kg_V m_ml_L_207 m_im_X6_told m_sl_X6_told m_in_X6 m_cd_X6_told) rfl rfl rfl (by decide +kernel) ⟨Nat.le_of_ble_eq_true rfl, Nat.le_of_ble_eq_true rfl⟩) (kj_V (pmM _ _ _ _) hK hP hD hTB (kj_rm (pmM _ _ _ _) hK hP)) rfl rfl hl.1 rfl (lv_room (Nat.le_of_ble_eq_true rfl)) dL_law_1286 ⟨(by show _ ≤ 601024; omega), (by show _ ≤ 7293034; omega)⟩) hP hD hS hA (fun r_2 x_2 H locs hq_2 hP hD hS => ?_)
  have hP := kj_P (pmM _ _ _ _).symm hP
  have hD := kj_D (pmM _ _ _ _).symm hD
  obtain ⟨hI_2, hM_2⟩ := hq_2
  have ea_2 := hM_2.2 1 (by decide) (by decide)
  have eb_2 := hM_2.2 2 (by decide) (by decide)
  refine lv_istore (lv' := [(7, .int r_2), (6, .int r_1), (5, .int (nI (6 * i))), (4, .ref qd), (3, .ref qo), (2, .ref am), (1, .ref x), (0, .ref b)]) hx hb dL_law_1289 hl (by decide) rfl (fun ls hl => ?_)
  refine lv_goto (tgt := 1750) hx hb dL_law_1291 (by decide) ?_
  refine W.widen (k := c0 + 20) (n := s0 + 400) (by omega) (by omega) ?_
  exact hnext _ x_2 _ _ _ _ _ _ _ _ _ _ hd0 hC_1 hI_2 (hL9.qc h hQ_1 hM_2) (hY.of (hM_2.1 14 (by decide) (by decide))) (ea_2.trans e1) (eb_2.trans e2) hP hD hS (lv_sub hl [2, 3, 4, 5, 6, 7] rfl)

set_option maxRecDepth 100000 in
set_option maxHeartbeats 4000000 in
theorem law_mean (l : Launch) (hst : l.stackTraces = false) {p : Program} {e : Env} {s : State} {m : MethodId} {below : List Frame} {meth : Method} {c : Code} {b L : Nat} {xs : Nat → Int32} (C0 : lw_At p s m meth c b L xs) {D : va_G} {cA : Nat → ClassId} (hK : va_K D vwCl (ty6 cA) s) (hTB : TBok s) (hTX : TXok (fun q : Nat => s.heap.size ≤ q) s) {x ar ak qo qd am : Nat} {r : Nat → Nat} {c0 s0 i : Nat} (hc0 : c0 + 20 ≤ 601024) (hs0 : s0 + 400 ≤ 7293034) (hi : 6 * i + 6 ≤ L) (hL : L ≤ 3072) (hnext : ∀ (S : Pool) (M : MSt) (fo : Nat → Int64) (fd : Nat → UInt64) (n na : Nat) (hh cc : Int32) (H : Heap) (locs : List Loc) (ls : Array Slot) (d : Drawn), s.drawn.sameBut d lw_cs → INVC n na hh cc S x ar ak → INVR n na M → REL True n na S M ar → LAY n M → M.1 1 = cc → M.1 2 = hh → va_P D vwCl (LW cA S qo fo qd fd am r M) H → va_D (fun q : Nat => s.heap.size ≤ q) (LW cA S qo fo qd fd am r M) → va_S (fun q : Nat => s.heap.size ≤ q) s.heap H locs → lv_has ls 9 [(5, .int (nI (6 * i))), (4, .ref qd), (3, .ref qo), (2, .ref am), (1, .ref x), (0, .ref b)] → W p l e room_1 (s.setDrawn d) m #[Value.ref b] below meth c H locs (c0 + 20) (s0 + 400) (lw_Z below #[Value.ref b] s) (F0 m 1750 ls [])) {S : Pool} {M : MSt} {fo : Nat → Int64} {fd : Nat → UInt64} {n na : Nat} {hh cc : Int32} {H : Heap} {locs : List Loc} {ls : Array Slot} {d : Drawn} (hd0 : s.drawn.sameBut d lw_cs) (h : INVC n na hh cc S x ar ak) (hI : INVR n na M) (hL9 : REL True n na S M ar) (hY : LAY n M) (e1 : M.1 1 = cc) (e2 : M.1 2 = hh) (hP : va_P D vwCl (LW cA S qo fo qd fd am r M) H) (hD : va_D (fun q : Nat => s.heap.size ≤ q) (LW cA S qo fo qd fd am r M)) (hS : va_S (fun q : Nat => s.heap.size ≤ q) s.heap H locs) (hl : lv_has ls 9 [(5, .int (nI (6 * i))), (4, .ref qd), (3, .ref qo), (2, .ref am), (1, .ref x), (0, .ref b)]) : W p l e room_1 (s.setDrawn d) m #[Value.ref b] below meth c H locs c0 s0 (lw_Z below #[Value.ref b] s) (F0 m 1294 ls []) := by
  obtain ⟨hx, hb, hr, hml, hown, hts, hX, hbl, hlocks, hgv⟩ := id C0
  have hA : ∀ q : Nat, s.heap.size ≤ q → (fun q : Nat => s.heap.size ≤ q) q := fun _ h => h
  have hbA : ¬ (fun q : Nat => s.heap.size ≤ q) b := Nat.not_le.mpr hbl
  obtain ⟨a1, ea1⟩ : ∃ z, z = xs (6 * i + 1) := ⟨_, rfl⟩
  obtain ⟨a2, ea2⟩ : ∃ z, z = xs (6 * i + 2) := ⟨_, rfl⟩
  obtain ⟨a3, ea3⟩ : ∃ z, z = xs (6 * i + 3) := ⟨_, rfl⟩
  obtain ⟨a4, ea4⟩ : ∃ z, z = xs (6 * i + 4) := ⟨_, rfl⟩
  obtain ⟨a5, ea5⟩ : ∃ z, z = xs (6 * i + 5) := ⟨_, rfl⟩
  have htT0 : ∀ w ∈ TT, w.before _ s = true := fun w h => hts w (tt_in h)
  have hTB0 := hTB
  have hK0 := hK
  have hown0 : s.vm.findClass RL = some m.cls := hown
  have hTX0 := hTX
  have hX0 := hX
  have htT : ∀ w ∈ TT, w.before _ (s.setDrawn d) = true := dr_words htT0 d
  have hTB : TBok (s.setDrawn d) := TBok.same (u := s) (U := s.setDrawn d) rfl (Vm.Alike.refl s.vm) hTB0
  have hK : va_K D vwCl (ty6 cA) (s.setDrawn d) := hK0
  have hown : (s.setDrawn d).vm.findClass RL = some m.cls := hown0
  have hTX : TXok (fun q : Nat => s.heap.size ≤ q) (s.setDrawn d) := hTX0.dr d
  have hX : va_X b L xs (s.setDrawn d) (s.setDrawn d).heap := hX0
  refine lv_aload_n hx hb dL_law_1294 rfl (lv_at hl 4 rfl) ?_
  refine lv_aload_n hx hb dL_law_1295 rfl (lv_at hl 5 rfl) ?_
  refine lv_iload hx hb dL_law_1296 (lv_at hl 0 rfl) ?_
  refine lv_iconst (v := 1) hx hb dL_law_1298 (by decide) ?_
  refine lv_iadd hx hb dL_law_1299 ?_
  rw [show ((nI (6 * i)) + 1 : Int32) = nI ((6 * i) + 1) from nI_add (6 * i) 1]
  refine va_sld hx hb hX hbl hbA hS (show vp_in (nI ((6 * i) + 1)) L from ki_in (by omega) (by omega)) dL_law_1300 ?_
  rw [show xs (nI ((6 * i) + 1)).toNatClampNeg = a1 from (congrArg xs (ki_cl (by omega))).trans ea1.symm]
  refine lv_aload_n hx hb dL_law_1301 rfl (lv_at hl 5 rfl) ?_
  refine lv_iload hx hb dL_law_1302 (lv_at hl 0 rfl) ?_
  refine lv_iconst (v := 2) hx hb dL_law_1304 (by decide) ?_
  refine lv_iadd hx hb dL_law_1305 ?_
  rw [show ((nI (6 * i)) + 2 : Int32) = nI ((6 * i) + 2) from nI_add (6 * i) 2]
  refine va_sld hx hb hX hbl hbA hS (show vp_in (nI ((6 * i) + 2)) L from ki_in (by omega) (by omega)) dL_law_1306 ?_
  rw [show xs (nI ((6 * i) + 2)).toNatClampNeg = a2 from (congrArg xs (ki_cl (by omega))).trans ea2.symm]
  refine lv_aload hx hb dL_law_1307 (lv_at hl 1 rfl) ?_
  refine kjD_i hd0 (pmD _ _ _ _) (kd_runSW (As := [.ref x, .int a1, .int a2, .ref qd]) (rest := []) ⟨hx, hb, hml, hown, htT⟩ (w_mean l hst D cA _ S x qd fd n na hh cc ar ak h a1 a2) (vx_cwSW 4 htT (kg_SW m_ml_L_208 m_st_L_mean m_in_L m_cd_L_mean) rfl rfl rfl (by decide +kernel) ⟨Nat.le_of_ble_eq_true rfl, Nat.le_of_ble_eq_true rfl⟩) (kj_SX (pmD _ _ _ _) hK hP hD hTB hTX hS hA) rfl rfl hl.1 rfl (lv_room (Nat.le_of_ble_eq_true rfl)) dL_law_1309 ⟨(by show _ ≤ 601024; omega), (by show _ ≤ 7293034; omega)⟩) hP hD hS hA (fun r_1 x_1 H locs hq_1 hP hD hS d_1 hd0 => ?_)
  have htT : ∀ w ∈ TT, w.before _ (s.setDrawn d_1) = true := dr_words htT0 d_1
  have hTB : TBok (s.setDrawn d_1) := TBok.same (u := s) (U := s.setDrawn d_1) rfl (Vm.Alike.refl s.vm) hTB0
  have hK : va_K D vwCl (ty6 cA) (s.setDrawn d_1) := hK0
  have hown : (s.setDrawn d_1).vm.findClass RL = some m.cls := hown0
  have hTX : TXok (fun q : Nat => s.heap.size ≤ q) (s.setDrawn d_1) := hTX0.dr d_1
  have hX : va_X b L xs (s.setDrawn d_1) (s.setDrawn d_1).heap := hX0
  have hP := kj_P (pmD _ _ _ _).symm hP
  have hD := kj_D (pmD _ _ _ _).symm hD
  obtain ⟨hC_1, hQ_1⟩ := hq_1
  refine lv_istore (lv' := [(6, .int r_1), (5, .int (nI (6 * i))), (4, .ref qd), (3, .ref qo), (2, .ref am), (1, .ref x), (0, .ref b)]) hx hb dL_law_1312 hl (by decide) rfl (fun ls hl => ?_)
  refine lv_aload_n hx hb dL_law_1314 rfl (lv_at hl 4 rfl) ?_
  refine lv_aload_n hx hb dL_law_1315 rfl (lv_at hl 6 rfl) ?_
  refine lv_iload hx hb dL_law_1316 (lv_at hl 1 rfl) ?_
  refine lv_iconst (v := 1) hx hb dL_law_1318 (by decide) ?_
  refine lv_iadd hx hb dL_law_1319 ?_
  rw [show ((nI (6 * i)) + 1 : Int32) = nI ((6 * i) + 1) from nI_add (6 * i) 1]
  refine va_sld hx hb hX hbl hbA hS (show vp_in (nI ((6 * i) + 1)) L from ki_in (by omega) (by omega)) dL_law_1320 ?_
  rw [show xs (nI ((6 * i) + 1)).toNatClampNeg = a1 from (congrArg xs (ki_cl (by omega))).trans ea1.symm]
  refine lv_aload_n hx hb dL_law_1321 rfl (lv_at hl 6 rfl) ?_
  refine lv_iload hx hb dL_law_1322 (lv_at hl 1 rfl) ?_
  refine lv_iconst (v := 2) hx hb dL_law_1324 (by decide) ?_
  refine lv_iadd hx hb dL_law_1325 ?_
  rw [show ((nI (6 * i)) + 2 : Int32) = nI ((6 * i) + 2) from nI_add (6 * i) 2]
  refine va_sld hx hb hX hbl hbA hS (show vp_in (nI ((6 * i) + 2)) L from ki_in (by omega) (by omega)) dL_law_1326 ?_
  rw [show xs (nI ((6 * i) + 2)).toNatClampNeg = a2 from (congrArg xs (ki_cl (by omega))).trans ea2.symm]
  refine kjD_d hd0 (pmM _ _ _ _) (va_runV_D (As := [.int a1, .int a2]) (rest := []) ⟨hx, hb, hml, hown, htT⟩ (t_mean l D cA _ am r M n na hI a1 a2) (cwV 2 htT (kg_V m_ml_L_211 m_im_X6_mean m_sl_X6_mean m_in_X6 m_cd_X6_mean) rfl rfl rfl (by decide +kernel) ⟨Nat.le_of_ble_eq_true rfl, Nat.le_of_ble_eq_true rfl⟩) (kj_V (pmM _ _ _ _) hK hP hD hTB (kj_rm (pmM _ _ _ _) hK hP)) rfl rfl hl.1 rfl (lv_room (Nat.le_of_ble_eq_true rfl)) dL_law_1327 ⟨(by show _ ≤ 601024; omega), (by show _ ≤ 7293034; omega)⟩) hP hD hS hA (fun r_2 x_2 H locs hq_2 hP hD hS d_2 hd0 => ?_)
  have htT : ∀ w ∈ TT, w.before _ (s.setDrawn d_2) = true := dr_words htT0 d_2
  have hTB : TBok (s.setDrawn d_2) := TBok.same (u := s) (U := s.setDrawn d_2) rfl (Vm.Alike.refl s.vm) hTB0
  have hK : va_K D vwCl (ty6 cA) (s.setDrawn d_2) := hK0
  have hown : (s.setDrawn d_2).vm.findClass RL = some m.cls := hown0
  have hTX : TXok (fun q : Nat => s.heap.size ≤ q) (s.setDrawn d_2) := hTX0.dr d_2
  have hX : va_X b L xs (s.setDrawn d_2) (s.setDrawn d_2).heap := hX0
  have hP := kj_P (pmM _ _ _ _).symm hP
  have hD := kj_D (pmM _ _ _ _).symm hD
  obtain ⟨hI_2, hM_2⟩ := hq_2
  have ea_2 := hM_2.2 1 (by decide) (by decide)
  have eb_2 := hM_2.2 2 (by decide) (by decide)
  refine lv_dstore (lv' := [(7, .double r_2), (6, .int r_1), (5, .int (nI (6 * i))), (4, .ref qd), (3, .ref qo), (2, .ref am), (1, .ref x), (0, .ref b)]) hx hb dL_law_1330 hl (by decide) rfl (fun ls hl => ?_)
  refine lv_goto (tgt := 1750) hx hb dL_law_1332 (by decide) ?_
  refine W.widen (k := c0 + 20) (n := s0 + 400) (by omega) (by omega) ?_
  exact hnext _ x_2 _ _ _ _ _ _ _ _ _ _ hd0 hC_1 hI_2 (hL9.qc h hQ_1 hM_2) (hY.of (hM_2.1 14 (by decide) (by decide))) (ea_2.trans e1) (eb_2.trans e2) hP hD hS (lv_sub hl [2, 3, 4, 5, 6, 7] rfl)

set_option maxRecDepth 100000 in
set_option maxHeartbeats 4000000 in
theorem law_lift (l : Launch) (hst : l.stackTraces = false) {p : Program} {e : Env} {s : State} {m : MethodId} {below : List Frame} {meth : Method} {c : Code} {b L : Nat} {xs : Nat → Int32} (C0 : lw_At p s m meth c b L xs) {D : va_G} {cA : Nat → ClassId} (hK : va_K D vwCl (ty6 cA) s) (hTB : TBok s) (hTX : TXok (fun q : Nat => s.heap.size ≤ q) s) {x ar ak qo qd am : Nat} {r : Nat → Nat} {c0 s0 i : Nat} (hc0 : c0 + 20 ≤ 601024) (hs0 : s0 + 400 ≤ 7293034) (hi : 6 * i + 6 ≤ L) (hL : L ≤ 3072) (hnext : ∀ (S : Pool) (M : MSt) (fo : Nat → Int64) (fd : Nat → UInt64) (n na : Nat) (hh cc : Int32) (H : Heap) (locs : List Loc) (ls : Array Slot) (d : Drawn), s.drawn.sameBut d lw_cs → INVC n na hh cc S x ar ak → INVR n na M → REL True n na S M ar → LAY n M → M.1 1 = cc → M.1 2 = hh → va_P D vwCl (LW cA S qo fo qd fd am r M) H → va_D (fun q : Nat => s.heap.size ≤ q) (LW cA S qo fo qd fd am r M) → va_S (fun q : Nat => s.heap.size ≤ q) s.heap H locs → lv_has ls 9 [(5, .int (nI (6 * i))), (4, .ref qd), (3, .ref qo), (2, .ref am), (1, .ref x), (0, .ref b)] → W p l e room_1 (s.setDrawn d) m #[Value.ref b] below meth c H locs (c0 + 20) (s0 + 400) (lw_Z below #[Value.ref b] s) (F0 m 1750 ls [])) {S : Pool} {M : MSt} {fo : Nat → Int64} {fd : Nat → UInt64} {n na : Nat} {hh cc : Int32} {H : Heap} {locs : List Loc} {ls : Array Slot} {d : Drawn} (hd0 : s.drawn.sameBut d lw_cs) (h : INVC n na hh cc S x ar ak) (hI : INVR n na M) (hL9 : REL True n na S M ar) (hY : LAY n M) (e1 : M.1 1 = cc) (e2 : M.1 2 = hh) (hP : va_P D vwCl (LW cA S qo fo qd fd am r M) H) (hD : va_D (fun q : Nat => s.heap.size ≤ q) (LW cA S qo fo qd fd am r M)) (hS : va_S (fun q : Nat => s.heap.size ≤ q) s.heap H locs) (hl : lv_has ls 9 [(5, .int (nI (6 * i))), (4, .ref qd), (3, .ref qo), (2, .ref am), (1, .ref x), (0, .ref b)]) : W p l e room_1 (s.setDrawn d) m #[Value.ref b] below meth c H locs c0 s0 (lw_Z below #[Value.ref b] s) (F0 m 1335 ls []) := by
  obtain ⟨hx, hb, hr, hml, hown, hts, hX, hbl, hlocks, hgv⟩ := id C0
  have hA : ∀ q : Nat, s.heap.size ≤ q → (fun q : Nat => s.heap.size ≤ q) q := fun _ h => h
  have hbA : ¬ (fun q : Nat => s.heap.size ≤ q) b := Nat.not_le.mpr hbl
  obtain ⟨a1, ea1⟩ : ∃ z, z = xs (6 * i + 1) := ⟨_, rfl⟩
  obtain ⟨a2, ea2⟩ : ∃ z, z = xs (6 * i + 2) := ⟨_, rfl⟩
  obtain ⟨a3, ea3⟩ : ∃ z, z = xs (6 * i + 3) := ⟨_, rfl⟩
  obtain ⟨a4, ea4⟩ : ∃ z, z = xs (6 * i + 4) := ⟨_, rfl⟩
  obtain ⟨a5, ea5⟩ : ∃ z, z = xs (6 * i + 5) := ⟨_, rfl⟩
  have htT0 : ∀ w ∈ TT, w.before _ s = true := fun w h => hts w (tt_in h)
  have hTB0 := hTB
  have hK0 := hK
  have hown0 : s.vm.findClass RL = some m.cls := hown
  have hTX0 := hTX
  have hX0 := hX
  have htT : ∀ w ∈ TT, w.before _ (s.setDrawn d) = true := dr_words htT0 d
  have hTB : TBok (s.setDrawn d) := TBok.same (u := s) (U := s.setDrawn d) rfl (Vm.Alike.refl s.vm) hTB0
  have hK : va_K D vwCl (ty6 cA) (s.setDrawn d) := hK0
  have hown : (s.setDrawn d).vm.findClass RL = some m.cls := hown0
  have hTX : TXok (fun q : Nat => s.heap.size ≤ q) (s.setDrawn d) := hTX0.dr d
  have hX : va_X b L xs (s.setDrawn d) (s.setDrawn d).heap := hX0
  refine lv_aload_n hx hb dL_law_1335 rfl (lv_at hl 4 rfl) ?_
  refine lv_aload_n hx hb dL_law_1336 rfl (lv_at hl 5 rfl) ?_
  refine lv_iload hx hb dL_law_1337 (lv_at hl 0 rfl) ?_
  refine lv_iconst (v := 1) hx hb dL_law_1339 (by decide) ?_
  refine lv_iadd hx hb dL_law_1340 ?_
  rw [show ((nI (6 * i)) + 1 : Int32) = nI ((6 * i) + 1) from nI_add (6 * i) 1]
  refine va_sld hx hb hX hbl hbA hS (show vp_in (nI ((6 * i) + 1)) L from ki_in (by omega) (by omega)) dL_law_1341 ?_
  rw [show xs (nI ((6 * i) + 1)).toNatClampNeg = a1 from (congrArg xs (ki_cl (by omega))).trans ea1.symm]
  refine lv_aload_n hx hb dL_law_1342 rfl (lv_at hl 5 rfl) ?_
  refine lv_iload hx hb dL_law_1343 (lv_at hl 0 rfl) ?_
  refine lv_iconst (v := 2) hx hb dL_law_1345 (by decide) ?_
  refine lv_iadd hx hb dL_law_1346 ?_
  rw [show ((nI (6 * i)) + 2 : Int32) = nI ((6 * i) + 2) from nI_add (6 * i) 2]
  refine va_sld hx hb hX hbl hbA hS (show vp_in (nI ((6 * i) + 2)) L from ki_in (by omega) (by omega)) dL_law_1347 ?_
  rw [show xs (nI ((6 * i) + 2)).toNatClampNeg = a2 from (congrArg xs (ki_cl (by omega))).trans ea2.symm]
  refine lv_aload hx hb dL_law_1348 (lv_at hl 1 rfl) ?_
  refine kjD_i hd0 (pmD _ _ _ _) (kd_runSW (As := [.ref x, .int a1, .int a2, .ref qd]) (rest := []) ⟨hx, hb, hml, hown, htT⟩ (w_lift l hst D cA _ S x qd fd n na hh cc ar ak h a1 a2) (vx_cwSW 4 htT (kg_SW m_ml_L_212 m_st_L_lift m_in_L m_cd_L_lift) rfl rfl rfl (by decide +kernel) ⟨Nat.le_of_ble_eq_true rfl, Nat.le_of_ble_eq_true rfl⟩) (kj_SX (pmD _ _ _ _) hK hP hD hTB hTX hS hA) rfl rfl hl.1 rfl (lv_room (Nat.le_of_ble_eq_true rfl)) dL_law_1350 ⟨(by show _ ≤ 601024; omega), (by show _ ≤ 7293034; omega)⟩) hP hD hS hA (fun r_1 x_1 H locs hq_1 hP hD hS d_1 hd0 => ?_)
  have htT : ∀ w ∈ TT, w.before _ (s.setDrawn d_1) = true := dr_words htT0 d_1
  have hTB : TBok (s.setDrawn d_1) := TBok.same (u := s) (U := s.setDrawn d_1) rfl (Vm.Alike.refl s.vm) hTB0
  have hK : va_K D vwCl (ty6 cA) (s.setDrawn d_1) := hK0
  have hown : (s.setDrawn d_1).vm.findClass RL = some m.cls := hown0
  have hTX : TXok (fun q : Nat => s.heap.size ≤ q) (s.setDrawn d_1) := hTX0.dr d_1
  have hX : va_X b L xs (s.setDrawn d_1) (s.setDrawn d_1).heap := hX0
  have hP := kj_P (pmD _ _ _ _).symm hP
  have hD := kj_D (pmD _ _ _ _).symm hD
  obtain ⟨hC_1, hQ_1⟩ := hq_1
  refine lv_istore (lv' := [(6, .int r_1), (5, .int (nI (6 * i))), (4, .ref qd), (3, .ref qo), (2, .ref am), (1, .ref x), (0, .ref b)]) hx hb dL_law_1353 hl (by decide) rfl (fun ls hl => ?_)
  refine lv_aload_n hx hb dL_law_1355 rfl (lv_at hl 4 rfl) ?_
  refine lv_aload_n hx hb dL_law_1356 rfl (lv_at hl 6 rfl) ?_
  refine lv_iload hx hb dL_law_1357 (lv_at hl 1 rfl) ?_
  refine lv_iconst (v := 1) hx hb dL_law_1359 (by decide) ?_
  refine lv_iadd hx hb dL_law_1360 ?_
  rw [show ((nI (6 * i)) + 1 : Int32) = nI ((6 * i) + 1) from nI_add (6 * i) 1]
  refine va_sld hx hb hX hbl hbA hS (show vp_in (nI ((6 * i) + 1)) L from ki_in (by omega) (by omega)) dL_law_1361 ?_
  rw [show xs (nI ((6 * i) + 1)).toNatClampNeg = a1 from (congrArg xs (ki_cl (by omega))).trans ea1.symm]
  refine lv_aload_n hx hb dL_law_1362 rfl (lv_at hl 6 rfl) ?_
  refine lv_iload hx hb dL_law_1363 (lv_at hl 1 rfl) ?_
  refine lv_iconst (v := 2) hx hb dL_law_1365 (by decide) ?_
  refine lv_iadd hx hb dL_law_1366 ?_
  rw [show ((nI (6 * i)) + 2 : Int32) = nI ((6 * i) + 2) from nI_add (6 * i) 2]
  refine va_sld hx hb hX hbl hbA hS (show vp_in (nI ((6 * i) + 2)) L from ki_in (by omega) (by omega)) dL_law_1367 ?_
  rw [show xs (nI ((6 * i) + 2)).toNatClampNeg = a2 from (congrArg xs (ki_cl (by omega))).trans ea2.symm]
  refine kjD_d hd0 (pmM _ _ _ _) (va_runV_D (As := [.int a1, .int a2]) (rest := []) ⟨hx, hb, hml, hown, htT⟩ (t_lift l D cA _ am r M n na hI a1 a2) (cwV 2 htT (kg_V m_ml_L_214 m_im_X6_lift m_sl_X6_lift m_in_X6 m_cd_X6_lift) rfl rfl rfl (by decide +kernel) ⟨Nat.le_of_ble_eq_true rfl, Nat.le_of_ble_eq_true rfl⟩) (kj_V (pmM _ _ _ _) hK hP hD hTB (kj_rm (pmM _ _ _ _) hK hP)) rfl rfl hl.1 rfl (lv_room (Nat.le_of_ble_eq_true rfl)) dL_law_1368 ⟨(by show _ ≤ 601024; omega), (by show _ ≤ 7293034; omega)⟩) hP hD hS hA (fun r_2 x_2 H locs hq_2 hP hD hS d_2 hd0 => ?_)
  have htT : ∀ w ∈ TT, w.before _ (s.setDrawn d_2) = true := dr_words htT0 d_2
  have hTB : TBok (s.setDrawn d_2) := TBok.same (u := s) (U := s.setDrawn d_2) rfl (Vm.Alike.refl s.vm) hTB0
  have hK : va_K D vwCl (ty6 cA) (s.setDrawn d_2) := hK0
  have hown : (s.setDrawn d_2).vm.findClass RL = some m.cls := hown0
  have hTX : TXok (fun q : Nat => s.heap.size ≤ q) (s.setDrawn d_2) := hTX0.dr d_2
  have hX : va_X b L xs (s.setDrawn d_2) (s.setDrawn d_2).heap := hX0
  have hP := kj_P (pmM _ _ _ _).symm hP
  have hD := kj_D (pmM _ _ _ _).symm hD
  obtain ⟨hI_2, hM_2⟩ := hq_2
  have ea_2 := hM_2.2 1 (by decide) (by decide)
  have eb_2 := hM_2.2 2 (by decide) (by decide)
  refine lv_dstore (lv' := [(7, .double r_2), (6, .int r_1), (5, .int (nI (6 * i))), (4, .ref qd), (3, .ref qo), (2, .ref am), (1, .ref x), (0, .ref b)]) hx hb dL_law_1371 hl (by decide) rfl (fun ls hl => ?_)
  refine lv_goto (tgt := 1750) hx hb dL_law_1373 (by decide) ?_
  refine W.widen (k := c0 + 20) (n := s0 + 400) (by omega) (by omega) ?_
  exact hnext _ x_2 _ _ _ _ _ _ _ _ _ _ hd0 hC_1 hI_2 (hL9.qc h hQ_1 hM_2) (hY.of (hM_2.1 14 (by decide) (by decide))) (ea_2.trans e1) (eb_2.trans e2) hP hD hS (lv_sub hl [2, 3, 4, 5, 6, 7] rfl)

set_option maxRecDepth 100000 in
set_option maxHeartbeats 4000000 in
theorem law_sure (l : Launch) (hst : l.stackTraces = false) {p : Program} {e : Env} {s : State} {m : MethodId} {below : List Frame} {meth : Method} {c : Code} {b L : Nat} {xs : Nat → Int32} (C0 : lw_At p s m meth c b L xs) {D : va_G} {cA : Nat → ClassId} (hK : va_K D vwCl (ty6 cA) s) (hTB : TBok s) (hTX : TXok (fun q : Nat => s.heap.size ≤ q) s) {x ar ak qo qd am : Nat} {r : Nat → Nat} {c0 s0 i : Nat} (hc0 : c0 + 20 ≤ 601024) (hs0 : s0 + 400 ≤ 7293034) (hi : 6 * i + 6 ≤ L) (hL : L ≤ 3072) (hnext : ∀ (S : Pool) (M : MSt) (fo : Nat → Int64) (fd : Nat → UInt64) (n na : Nat) (hh cc : Int32) (H : Heap) (locs : List Loc) (ls : Array Slot) (d : Drawn), s.drawn.sameBut d lw_cs → INVC n na hh cc S x ar ak → INVR n na M → REL True n na S M ar → LAY n M → M.1 1 = cc → M.1 2 = hh → va_P D vwCl (LW cA S qo fo qd fd am r M) H → va_D (fun q : Nat => s.heap.size ≤ q) (LW cA S qo fo qd fd am r M) → va_S (fun q : Nat => s.heap.size ≤ q) s.heap H locs → lv_has ls 9 [(5, .int (nI (6 * i))), (4, .ref qd), (3, .ref qo), (2, .ref am), (1, .ref x), (0, .ref b)] → W p l e room_1 (s.setDrawn d) m #[Value.ref b] below meth c H locs (c0 + 20) (s0 + 400) (lw_Z below #[Value.ref b] s) (F0 m 1750 ls [])) {S : Pool} {M : MSt} {fo : Nat → Int64} {fd : Nat → UInt64} {n na : Nat} {hh cc : Int32} {H : Heap} {locs : List Loc} {ls : Array Slot} {d : Drawn} (hd0 : s.drawn.sameBut d lw_cs) (h : INVC n na hh cc S x ar ak) (hI : INVR n na M) (hL9 : REL True n na S M ar) (hY : LAY n M) (e1 : M.1 1 = cc) (e2 : M.1 2 = hh) (hP : va_P D vwCl (LW cA S qo fo qd fd am r M) H) (hD : va_D (fun q : Nat => s.heap.size ≤ q) (LW cA S qo fo qd fd am r M)) (hS : va_S (fun q : Nat => s.heap.size ≤ q) s.heap H locs) (hl : lv_has ls 9 [(5, .int (nI (6 * i))), (4, .ref qd), (3, .ref qo), (2, .ref am), (1, .ref x), (0, .ref b)]) : W p l e room_1 (s.setDrawn d) m #[Value.ref b] below meth c H locs c0 s0 (lw_Z below #[Value.ref b] s) (F0 m 1376 ls []) := by
  obtain ⟨hx, hb, hr, hml, hown, hts, hX, hbl, hlocks, hgv⟩ := id C0
  have hA : ∀ q : Nat, s.heap.size ≤ q → (fun q : Nat => s.heap.size ≤ q) q := fun _ h => h
  have hbA : ¬ (fun q : Nat => s.heap.size ≤ q) b := Nat.not_le.mpr hbl
  obtain ⟨a1, ea1⟩ : ∃ z, z = xs (6 * i + 1) := ⟨_, rfl⟩
  obtain ⟨a2, ea2⟩ : ∃ z, z = xs (6 * i + 2) := ⟨_, rfl⟩
  obtain ⟨a3, ea3⟩ : ∃ z, z = xs (6 * i + 3) := ⟨_, rfl⟩
  obtain ⟨a4, ea4⟩ : ∃ z, z = xs (6 * i + 4) := ⟨_, rfl⟩
  obtain ⟨a5, ea5⟩ : ∃ z, z = xs (6 * i + 5) := ⟨_, rfl⟩
  have htT0 : ∀ w ∈ TT, w.before _ s = true := fun w h => hts w (tt_in h)
  have hTB0 := hTB
  have hK0 := hK
  have hown0 : s.vm.findClass RL = some m.cls := hown
  have hTX0 := hTX
  have hX0 := hX
  have htT : ∀ w ∈ TT, w.before _ (s.setDrawn d) = true := dr_words htT0 d
  have hTB : TBok (s.setDrawn d) := TBok.same (u := s) (U := s.setDrawn d) rfl (Vm.Alike.refl s.vm) hTB0
  have hK : va_K D vwCl (ty6 cA) (s.setDrawn d) := hK0
  have hown : (s.setDrawn d).vm.findClass RL = some m.cls := hown0
  have hTX : TXok (fun q : Nat => s.heap.size ≤ q) (s.setDrawn d) := hTX0.dr d
  have hX : va_X b L xs (s.setDrawn d) (s.setDrawn d).heap := hX0
  refine lv_aload_n hx hb dL_law_1376 rfl (lv_at hl 4 rfl) ?_
  refine lv_aload_n hx hb dL_law_1377 rfl (lv_at hl 5 rfl) ?_
  refine lv_iload hx hb dL_law_1378 (lv_at hl 0 rfl) ?_
  refine lv_iconst (v := 1) hx hb dL_law_1380 (by decide) ?_
  refine lv_iadd hx hb dL_law_1381 ?_
  rw [show ((nI (6 * i)) + 1 : Int32) = nI ((6 * i) + 1) from nI_add (6 * i) 1]
  refine va_sld hx hb hX hbl hbA hS (show vp_in (nI ((6 * i) + 1)) L from ki_in (by omega) (by omega)) dL_law_1382 ?_
  rw [show xs (nI ((6 * i) + 1)).toNatClampNeg = a1 from (congrArg xs (ki_cl (by omega))).trans ea1.symm]
  refine lv_aload_n hx hb dL_law_1383 rfl (lv_at hl 5 rfl) ?_
  refine lv_iload hx hb dL_law_1384 (lv_at hl 0 rfl) ?_
  refine lv_iconst (v := 2) hx hb dL_law_1386 (by decide) ?_
  refine lv_iadd hx hb dL_law_1387 ?_
  rw [show ((nI (6 * i)) + 2 : Int32) = nI ((6 * i) + 2) from nI_add (6 * i) 2]
  refine va_sld hx hb hX hbl hbA hS (show vp_in (nI ((6 * i) + 2)) L from ki_in (by omega) (by omega)) dL_law_1388 ?_
  rw [show xs (nI ((6 * i) + 2)).toNatClampNeg = a2 from (congrArg xs (ki_cl (by omega))).trans ea2.symm]
  refine lv_aload hx hb dL_law_1389 (lv_at hl 1 rfl) ?_
  refine kjD_i hd0 (pmD _ _ _ _) (kd_runSW (As := [.ref x, .int a1, .int a2, .ref qd]) (rest := []) ⟨hx, hb, hml, hown, htT⟩ (w_sure l hst D cA _ S x qd fd n na hh cc ar ak h a1 a2) (vx_cwSW 4 htT (kg_SW m_ml_L_215 m_st_L_sure m_in_L m_cd_L_sure) rfl rfl rfl (by decide +kernel) ⟨Nat.le_of_ble_eq_true rfl, Nat.le_of_ble_eq_true rfl⟩) (kj_SX (pmD _ _ _ _) hK hP hD hTB hTX hS hA) rfl rfl hl.1 rfl (lv_room (Nat.le_of_ble_eq_true rfl)) dL_law_1391 ⟨(by show _ ≤ 601024; omega), (by show _ ≤ 7293034; omega)⟩) hP hD hS hA (fun r_1 x_1 H locs hq_1 hP hD hS d_1 hd0 => ?_)
  have htT : ∀ w ∈ TT, w.before _ (s.setDrawn d_1) = true := dr_words htT0 d_1
  have hTB : TBok (s.setDrawn d_1) := TBok.same (u := s) (U := s.setDrawn d_1) rfl (Vm.Alike.refl s.vm) hTB0
  have hK : va_K D vwCl (ty6 cA) (s.setDrawn d_1) := hK0
  have hown : (s.setDrawn d_1).vm.findClass RL = some m.cls := hown0
  have hTX : TXok (fun q : Nat => s.heap.size ≤ q) (s.setDrawn d_1) := hTX0.dr d_1
  have hX : va_X b L xs (s.setDrawn d_1) (s.setDrawn d_1).heap := hX0
  have hP := kj_P (pmD _ _ _ _).symm hP
  have hD := kj_D (pmD _ _ _ _).symm hD
  obtain ⟨hC_1, hQ_1⟩ := hq_1
  refine lv_istore (lv' := [(6, .int r_1), (5, .int (nI (6 * i))), (4, .ref qd), (3, .ref qo), (2, .ref am), (1, .ref x), (0, .ref b)]) hx hb dL_law_1394 hl (by decide) rfl (fun ls hl => ?_)
  refine lv_aload_n hx hb dL_law_1396 rfl (lv_at hl 4 rfl) ?_
  refine lv_aload_n hx hb dL_law_1397 rfl (lv_at hl 6 rfl) ?_
  refine lv_iload hx hb dL_law_1398 (lv_at hl 1 rfl) ?_
  refine lv_iconst (v := 1) hx hb dL_law_1400 (by decide) ?_
  refine lv_iadd hx hb dL_law_1401 ?_
  rw [show ((nI (6 * i)) + 1 : Int32) = nI ((6 * i) + 1) from nI_add (6 * i) 1]
  refine va_sld hx hb hX hbl hbA hS (show vp_in (nI ((6 * i) + 1)) L from ki_in (by omega) (by omega)) dL_law_1402 ?_
  rw [show xs (nI ((6 * i) + 1)).toNatClampNeg = a1 from (congrArg xs (ki_cl (by omega))).trans ea1.symm]
  refine lv_aload_n hx hb dL_law_1403 rfl (lv_at hl 6 rfl) ?_
  refine lv_iload hx hb dL_law_1404 (lv_at hl 1 rfl) ?_
  refine lv_iconst (v := 2) hx hb dL_law_1406 (by decide) ?_
  refine lv_iadd hx hb dL_law_1407 ?_
  rw [show ((nI (6 * i)) + 2 : Int32) = nI ((6 * i) + 2) from nI_add (6 * i) 2]
  refine va_sld hx hb hX hbl hbA hS (show vp_in (nI ((6 * i) + 2)) L from ki_in (by omega) (by omega)) dL_law_1408 ?_
  rw [show xs (nI ((6 * i) + 2)).toNatClampNeg = a2 from (congrArg xs (ki_cl (by omega))).trans ea2.symm]
  refine kjD_d hd0 (pmM _ _ _ _) (va_runV_D (As := [.int a1, .int a2]) (rest := []) ⟨hx, hb, hml, hown, htT⟩ (t_sure l D cA _ am r M n na hI a1 a2) (cwV 2 htT (kg_V m_ml_L_217 m_im_X6_sure m_sl_X6_sure m_in_X6 m_cd_X6_sure) rfl rfl rfl (by decide +kernel) ⟨Nat.le_of_ble_eq_true rfl, Nat.le_of_ble_eq_true rfl⟩) (kj_V (pmM _ _ _ _) hK hP hD hTB (kj_rm (pmM _ _ _ _) hK hP)) rfl rfl hl.1 rfl (lv_room (Nat.le_of_ble_eq_true rfl)) dL_law_1409 ⟨(by show _ ≤ 601024; omega), (by show _ ≤ 7293034; omega)⟩) hP hD hS hA (fun r_2 x_2 H locs hq_2 hP hD hS d_2 hd0 => ?_)
  have htT : ∀ w ∈ TT, w.before _ (s.setDrawn d_2) = true := dr_words htT0 d_2
  have hTB : TBok (s.setDrawn d_2) := TBok.same (u := s) (U := s.setDrawn d_2) rfl (Vm.Alike.refl s.vm) hTB0
  have hK : va_K D vwCl (ty6 cA) (s.setDrawn d_2) := hK0
  have hown : (s.setDrawn d_2).vm.findClass RL = some m.cls := hown0
  have hTX : TXok (fun q : Nat => s.heap.size ≤ q) (s.setDrawn d_2) := hTX0.dr d_2
  have hX : va_X b L xs (s.setDrawn d_2) (s.setDrawn d_2).heap := hX0
  have hP := kj_P (pmM _ _ _ _).symm hP
  have hD := kj_D (pmM _ _ _ _).symm hD
  obtain ⟨hI_2, hM_2⟩ := hq_2
  have ea_2 := hM_2.2 1 (by decide) (by decide)
  have eb_2 := hM_2.2 2 (by decide) (by decide)
  refine lv_dstore (lv' := [(7, .double r_2), (6, .int r_1), (5, .int (nI (6 * i))), (4, .ref qd), (3, .ref qo), (2, .ref am), (1, .ref x), (0, .ref b)]) hx hb dL_law_1412 hl (by decide) rfl (fun ls hl => ?_)
  refine lv_goto (tgt := 1750) hx hb dL_law_1414 (by decide) ?_
  refine W.widen (k := c0 + 20) (n := s0 + 400) (by omega) (by omega) ?_
  exact hnext _ x_2 _ _ _ _ _ _ _ _ _ _ hd0 hC_1 hI_2 (hL9.qc h hQ_1 hM_2) (hY.of (hM_2.1 14 (by decide) (by decide))) (ea_2.trans e1) (eb_2.trans e2) hP hD hS (lv_sub hl [2, 3, 4, 5, 6, 7] rfl)

set_option maxRecDepth 100000 in
set_option maxHeartbeats 4000000 in
theorem law_bad (l : Launch) (hst : l.stackTraces = false) {p : Program} {e : Env} {s : State} {m : MethodId} {below : List Frame} {meth : Method} {c : Code} {b L : Nat} {xs : Nat → Int32} (C0 : lw_At p s m meth c b L xs) {D : va_G} {cA : Nat → ClassId} (hK : va_K D vwCl (ty6 cA) s) (hTB : TBok s) (hTX : TXok (fun q : Nat => s.heap.size ≤ q) s) {x ar ak qo qd am : Nat} {r : Nat → Nat} {c0 s0 i : Nat} (hc0 : c0 + 20 ≤ 601024) (hs0 : s0 + 400 ≤ 7293034) (hi : 6 * i + 6 ≤ L) (hL : L ≤ 3072) (hnext : ∀ (S : Pool) (M : MSt) (fo : Nat → Int64) (fd : Nat → UInt64) (n na : Nat) (hh cc : Int32) (H : Heap) (locs : List Loc) (ls : Array Slot) (d : Drawn), s.drawn.sameBut d lw_cs → INVC n na hh cc S x ar ak → INVR n na M → REL True n na S M ar → LAY n M → M.1 1 = cc → M.1 2 = hh → va_P D vwCl (LW cA S qo fo qd fd am r M) H → va_D (fun q : Nat => s.heap.size ≤ q) (LW cA S qo fo qd fd am r M) → va_S (fun q : Nat => s.heap.size ≤ q) s.heap H locs → lv_has ls 9 [(5, .int (nI (6 * i))), (4, .ref qd), (3, .ref qo), (2, .ref am), (1, .ref x), (0, .ref b)] → W p l e room_1 (s.setDrawn d) m #[Value.ref b] below meth c H locs (c0 + 20) (s0 + 400) (lw_Z below #[Value.ref b] s) (F0 m 1750 ls [])) {S : Pool} {M : MSt} {fo : Nat → Int64} {fd : Nat → UInt64} {n na : Nat} {hh cc : Int32} {H : Heap} {locs : List Loc} {ls : Array Slot} {d : Drawn} (hd0 : s.drawn.sameBut d lw_cs) (h : INVC n na hh cc S x ar ak) (hI : INVR n na M) (hL9 : REL True n na S M ar) (hY : LAY n M) (e1 : M.1 1 = cc) (e2 : M.1 2 = hh) (hP : va_P D vwCl (LW cA S qo fo qd fd am r M) H) (hD : va_D (fun q : Nat => s.heap.size ≤ q) (LW cA S qo fo qd fd am r M)) (hS : va_S (fun q : Nat => s.heap.size ≤ q) s.heap H locs) (hl : lv_has ls 9 [(5, .int (nI (6 * i))), (4, .ref qd), (3, .ref qo), (2, .ref am), (1, .ref x), (0, .ref b)]) : W p l e room_1 (s.setDrawn d) m #[Value.ref b] below meth c H locs c0 s0 (lw_Z below #[Value.ref b] s) (F0 m 1417 ls []) := by
  obtain ⟨hx, hb, hr, hml, hown, hts, hX, hbl, hlocks, hgv⟩ := id C0
  have hA : ∀ q : Nat, s.heap.size ≤ q → (fun q : Nat => s.heap.size ≤ q) q := fun _ h => h
  have hbA : ¬ (fun q : Nat => s.heap.size ≤ q) b := Nat.not_le.mpr hbl
  obtain ⟨a1, ea1⟩ : ∃ z, z = xs (6 * i + 1) := ⟨_, rfl⟩
  obtain ⟨a2, ea2⟩ : ∃ z, z = xs (6 * i + 2) := ⟨_, rfl⟩
  obtain ⟨a3, ea3⟩ : ∃ z, z = xs (6 * i + 3) := ⟨_, rfl⟩
  obtain ⟨a4, ea4⟩ : ∃ z, z = xs (6 * i + 4) := ⟨_, rfl⟩
  obtain ⟨a5, ea5⟩ : ∃ z, z = xs (6 * i + 5) := ⟨_, rfl⟩
  have htT0 : ∀ w ∈ TT, w.before _ s = true := fun w h => hts w (tt_in h)
  have hTB0 := hTB
  have hK0 := hK
  have hown0 : s.vm.findClass RL = some m.cls := hown
  have hTX0 := hTX
  have hX0 := hX
  have htT : ∀ w ∈ TT, w.before _ (s.setDrawn d) = true := dr_words htT0 d
  have hTB : TBok (s.setDrawn d) := TBok.same (u := s) (U := s.setDrawn d) rfl (Vm.Alike.refl s.vm) hTB0
  have hK : va_K D vwCl (ty6 cA) (s.setDrawn d) := hK0
  have hown : (s.setDrawn d).vm.findClass RL = some m.cls := hown0
  have hTX : TXok (fun q : Nat => s.heap.size ≤ q) (s.setDrawn d) := hTX0.dr d
  have hX : va_X b L xs (s.setDrawn d) (s.setDrawn d).heap := hX0
  refine lv_aload_n hx hb dL_law_1417 rfl (lv_at hl 4 rfl) ?_
  refine lv_aload_n hx hb dL_law_1418 rfl (lv_at hl 5 rfl) ?_
  refine lv_iload hx hb dL_law_1419 (lv_at hl 0 rfl) ?_
  refine lv_iconst (v := 1) hx hb dL_law_1421 (by decide) ?_
  refine lv_iadd hx hb dL_law_1422 ?_
  rw [show ((nI (6 * i)) + 1 : Int32) = nI ((6 * i) + 1) from nI_add (6 * i) 1]
  refine va_sld hx hb hX hbl hbA hS (show vp_in (nI ((6 * i) + 1)) L from ki_in (by omega) (by omega)) dL_law_1423 ?_
  rw [show xs (nI ((6 * i) + 1)).toNatClampNeg = a1 from (congrArg xs (ki_cl (by omega))).trans ea1.symm]
  refine lv_aload_n hx hb dL_law_1424 rfl (lv_at hl 2 rfl) ?_
  refine kj_i (pmJ _ _ _ _) (vx_runSW (As := [.ref x, .int a1, .ref qo]) (rest := []) ⟨hx, hb, hml, hown, htT⟩ (w_bad l hst D cA _ S x qo fo n na hh cc ar ak h a1) (vx_cwSW 3 htT (kg_SW m_ml_L_218 m_st_L_bad m_in_L m_cd_L_bad) rfl rfl rfl (by decide +kernel) ⟨Nat.le_of_ble_eq_true rfl, Nat.le_of_ble_eq_true rfl⟩) (kj_SX (pmJ _ _ _ _) hK hP hD hTB hTX hS hA) rfl rfl hl.1 rfl (lv_room (Nat.le_of_ble_eq_true rfl)) dL_law_1425 ⟨(by show _ ≤ 601024; omega), (by show _ ≤ 7293034; omega)⟩) hP hD hS hA (fun r_1 x_1 H locs hq_1 hP hD hS => ?_)
  rw [List.append_assoc] at hP hD
  obtain ⟨hC_1, hQ_1⟩ := hq_1
  refine lv_istore (lv' := [(6, .int r_1), (5, .int (nI (6 * i))), (4, .ref qd), (3, .ref qo), (2, .ref am), (1, .ref x), (0, .ref b)]) hx hb dL_law_1428 hl (by decide) rfl (fun ls hl => ?_)
  refine lv_aload_n hx hb dL_law_1430 rfl (lv_at hl 4 rfl) ?_
  refine lv_aload_n hx hb dL_law_1431 rfl (lv_at hl 6 rfl) ?_
  refine lv_iload hx hb dL_law_1432 (lv_at hl 1 rfl) ?_
  refine lv_iconst (v := 1) hx hb dL_law_1434 (by decide) ?_
  refine lv_iadd hx hb dL_law_1435 ?_
  rw [show ((nI (6 * i)) + 1 : Int32) = nI ((6 * i) + 1) from nI_add (6 * i) 1]
  refine va_sld hx hb hX hbl hbA hS (show vp_in (nI ((6 * i) + 1)) L from ki_in (by omega) (by omega)) dL_law_1436 ?_
  rw [show xs (nI ((6 * i) + 1)).toNatClampNeg = a1 from (congrArg xs (ki_cl (by omega))).trans ea1.symm]
  refine kj_i (pmM _ _ _ _) (va_runV (As := [.int a1]) (rest := []) ⟨hx, hb, hml, hown, htT⟩ (t_bad l D cA _ am r M n na hI a1) (cwV 1 htT (kg_V m_ml_L_220 m_im_X6_bad m_sl_X6_bad m_in_X6 m_cd_X6_bad) rfl rfl rfl (by decide +kernel) ⟨Nat.le_of_ble_eq_true rfl, Nat.le_of_ble_eq_true rfl⟩) (kj_V (pmM _ _ _ _) hK hP hD hTB (kj_rm (pmM _ _ _ _) hK hP)) rfl rfl hl.1 rfl (lv_room (Nat.le_of_ble_eq_true rfl)) dL_law_1437 ⟨(by show _ ≤ 601024; omega), (by show _ ≤ 7293034; omega)⟩) hP hD hS hA (fun r_2 x_2 H locs hq_2 hP hD hS => ?_)
  have hP := kj_P (pmM _ _ _ _).symm hP
  have hD := kj_D (pmM _ _ _ _).symm hD
  obtain ⟨hI_2, hM_2⟩ := hq_2
  have ea_2 := hM_2.2 1 (by decide) (by decide)
  have eb_2 := hM_2.2 2 (by decide) (by decide)
  refine lv_istore (lv' := [(7, .int r_2), (6, .int r_1), (5, .int (nI (6 * i))), (4, .ref qd), (3, .ref qo), (2, .ref am), (1, .ref x), (0, .ref b)]) hx hb dL_law_1440 hl (by decide) rfl (fun ls hl => ?_)
  refine lv_goto (tgt := 1750) hx hb dL_law_1442 (by decide) ?_
  refine W.widen (k := c0 + 20) (n := s0 + 400) (by omega) (by omega) ?_
  exact hnext _ x_2 _ _ _ _ _ _ _ _ _ _ hd0 hC_1 hI_2 (hL9.qc h hQ_1 hM_2) (hY.of (hM_2.1 14 (by decide) (by decide))) (ea_2.trans e1) (eb_2.trans e2) hP hD hS (lv_sub hl [2, 3, 4, 5, 6, 7] rfl)

set_option maxRecDepth 100000 in
set_option maxHeartbeats 4000000 in
theorem law_isTrusted (l : Launch) (hst : l.stackTraces = false) {p : Program} {e : Env} {s : State} {m : MethodId} {below : List Frame} {meth : Method} {c : Code} {b L : Nat} {xs : Nat → Int32} (C0 : lw_At p s m meth c b L xs) {D : va_G} {cA : Nat → ClassId} (hK : va_K D vwCl (ty6 cA) s) (hTB : TBok s) (hTX : TXok (fun q : Nat => s.heap.size ≤ q) s) {x ar ak qo qd am : Nat} {r : Nat → Nat} {c0 s0 i : Nat} (hc0 : c0 + 20 ≤ 601024) (hs0 : s0 + 400 ≤ 7293034) (hi : 6 * i + 6 ≤ L) (hL : L ≤ 3072) (hnext : ∀ (S : Pool) (M : MSt) (fo : Nat → Int64) (fd : Nat → UInt64) (n na : Nat) (hh cc : Int32) (H : Heap) (locs : List Loc) (ls : Array Slot) (d : Drawn), s.drawn.sameBut d lw_cs → INVC n na hh cc S x ar ak → INVR n na M → REL True n na S M ar → LAY n M → M.1 1 = cc → M.1 2 = hh → va_P D vwCl (LW cA S qo fo qd fd am r M) H → va_D (fun q : Nat => s.heap.size ≤ q) (LW cA S qo fo qd fd am r M) → va_S (fun q : Nat => s.heap.size ≤ q) s.heap H locs → lv_has ls 9 [(5, .int (nI (6 * i))), (4, .ref qd), (3, .ref qo), (2, .ref am), (1, .ref x), (0, .ref b)] → W p l e room_1 (s.setDrawn d) m #[Value.ref b] below meth c H locs (c0 + 20) (s0 + 400) (lw_Z below #[Value.ref b] s) (F0 m 1750 ls [])) {S : Pool} {M : MSt} {fo : Nat → Int64} {fd : Nat → UInt64} {n na : Nat} {hh cc : Int32} {H : Heap} {locs : List Loc} {ls : Array Slot} {d : Drawn} (hd0 : s.drawn.sameBut d lw_cs) (h : INVC n na hh cc S x ar ak) (hI : INVR n na M) (hL9 : REL True n na S M ar) (hY : LAY n M) (e1 : M.1 1 = cc) (e2 : M.1 2 = hh) (hP : va_P D vwCl (LW cA S qo fo qd fd am r M) H) (hD : va_D (fun q : Nat => s.heap.size ≤ q) (LW cA S qo fo qd fd am r M)) (hS : va_S (fun q : Nat => s.heap.size ≤ q) s.heap H locs) (hl : lv_has ls 9 [(5, .int (nI (6 * i))), (4, .ref qd), (3, .ref qo), (2, .ref am), (1, .ref x), (0, .ref b)]) : W p l e room_1 (s.setDrawn d) m #[Value.ref b] below meth c H locs c0 s0 (lw_Z below #[Value.ref b] s) (F0 m 1445 ls []) := by
  obtain ⟨hx, hb, hr, hml, hown, hts, hX, hbl, hlocks, hgv⟩ := id C0
  have hA : ∀ q : Nat, s.heap.size ≤ q → (fun q : Nat => s.heap.size ≤ q) q := fun _ h => h
  have hbA : ¬ (fun q : Nat => s.heap.size ≤ q) b := Nat.not_le.mpr hbl
  obtain ⟨a1, ea1⟩ : ∃ z, z = xs (6 * i + 1) := ⟨_, rfl⟩
  obtain ⟨a2, ea2⟩ : ∃ z, z = xs (6 * i + 2) := ⟨_, rfl⟩
  obtain ⟨a3, ea3⟩ : ∃ z, z = xs (6 * i + 3) := ⟨_, rfl⟩
  obtain ⟨a4, ea4⟩ : ∃ z, z = xs (6 * i + 4) := ⟨_, rfl⟩
  obtain ⟨a5, ea5⟩ : ∃ z, z = xs (6 * i + 5) := ⟨_, rfl⟩
  have htT0 : ∀ w ∈ TT, w.before _ s = true := fun w h => hts w (tt_in h)
  have hTB0 := hTB
  have hK0 := hK
  have hown0 : s.vm.findClass RL = some m.cls := hown
  have hTX0 := hTX
  have hX0 := hX
  have htT : ∀ w ∈ TT, w.before _ (s.setDrawn d) = true := dr_words htT0 d
  have hTB : TBok (s.setDrawn d) := TBok.same (u := s) (U := s.setDrawn d) rfl (Vm.Alike.refl s.vm) hTB0
  have hK : va_K D vwCl (ty6 cA) (s.setDrawn d) := hK0
  have hown : (s.setDrawn d).vm.findClass RL = some m.cls := hown0
  have hTX : TXok (fun q : Nat => s.heap.size ≤ q) (s.setDrawn d) := hTX0.dr d
  have hX : va_X b L xs (s.setDrawn d) (s.setDrawn d).heap := hX0
  refine lv_aload_n hx hb dL_law_1445 rfl (lv_at hl 4 rfl) ?_
  refine lv_aload_n hx hb dL_law_1446 rfl (lv_at hl 5 rfl) ?_
  refine lv_iload hx hb dL_law_1447 (lv_at hl 0 rfl) ?_
  refine lv_iconst (v := 1) hx hb dL_law_1449 (by decide) ?_
  refine lv_iadd hx hb dL_law_1450 ?_
  rw [show ((nI (6 * i)) + 1 : Int32) = nI ((6 * i) + 1) from nI_add (6 * i) 1]
  refine va_sld hx hb hX hbl hbA hS (show vp_in (nI ((6 * i) + 1)) L from ki_in (by omega) (by omega)) dL_law_1451 ?_
  rw [show xs (nI ((6 * i) + 1)).toNatClampNeg = a1 from (congrArg xs (ki_cl (by omega))).trans ea1.symm]
  refine lv_aload_n hx hb dL_law_1452 rfl (lv_at hl 2 rfl) ?_
  refine kj_i (pmJ _ _ _ _) (vx_runSW (As := [.ref x, .int a1, .ref qo]) (rest := []) ⟨hx, hb, hml, hown, htT⟩ (w_isTrusted l hst D cA _ S x qo fo n na hh cc ar ak h a1) (vx_cwSW 3 htT (kg_SW m_ml_L_221 m_st_L_isTrusted m_in_L m_cd_L_isTrusted) rfl rfl rfl (by decide +kernel) ⟨Nat.le_of_ble_eq_true rfl, Nat.le_of_ble_eq_true rfl⟩) (kj_SX (pmJ _ _ _ _) hK hP hD hTB hTX hS hA) rfl rfl hl.1 rfl (lv_room (Nat.le_of_ble_eq_true rfl)) dL_law_1453 ⟨(by show _ ≤ 601024; omega), (by show _ ≤ 7293034; omega)⟩) hP hD hS hA (fun r_1 x_1 H locs hq_1 hP hD hS => ?_)
  rw [List.append_assoc] at hP hD
  obtain ⟨hC_1, hQ_1⟩ := hq_1
  refine lv_istore (lv' := [(6, .int r_1), (5, .int (nI (6 * i))), (4, .ref qd), (3, .ref qo), (2, .ref am), (1, .ref x), (0, .ref b)]) hx hb dL_law_1456 hl (by decide) rfl (fun ls hl => ?_)
  refine lv_aload_n hx hb dL_law_1458 rfl (lv_at hl 4 rfl) ?_
  refine lv_aload_n hx hb dL_law_1459 rfl (lv_at hl 6 rfl) ?_
  refine lv_iload hx hb dL_law_1460 (lv_at hl 1 rfl) ?_
  refine lv_iconst (v := 1) hx hb dL_law_1462 (by decide) ?_
  refine lv_iadd hx hb dL_law_1463 ?_
  rw [show ((nI (6 * i)) + 1 : Int32) = nI ((6 * i) + 1) from nI_add (6 * i) 1]
  refine va_sld hx hb hX hbl hbA hS (show vp_in (nI ((6 * i) + 1)) L from ki_in (by omega) (by omega)) dL_law_1464 ?_
  rw [show xs (nI ((6 * i) + 1)).toNatClampNeg = a1 from (congrArg xs (ki_cl (by omega))).trans ea1.symm]
  refine kj_i (pmM _ _ _ _) (va_runV (As := [.int a1]) (rest := []) ⟨hx, hb, hml, hown, htT⟩ (t_isTrusted l D cA _ am r M n na hI a1) (cwV 1 htT (kg_V m_ml_L_223 m_im_X6_isTrusted m_sl_X6_isTrusted m_in_X6 m_cd_X6_isTrusted) rfl rfl rfl (by decide +kernel) ⟨Nat.le_of_ble_eq_true rfl, Nat.le_of_ble_eq_true rfl⟩) (kj_V (pmM _ _ _ _) hK hP hD hTB (kj_rm (pmM _ _ _ _) hK hP)) rfl rfl hl.1 rfl (lv_room (Nat.le_of_ble_eq_true rfl)) dL_law_1465 ⟨(by show _ ≤ 601024; omega), (by show _ ≤ 7293034; omega)⟩) hP hD hS hA (fun r_2 x_2 H locs hq_2 hP hD hS => ?_)
  have hP := kj_P (pmM _ _ _ _).symm hP
  have hD := kj_D (pmM _ _ _ _).symm hD
  obtain ⟨hI_2, hM_2⟩ := hq_2
  have ea_2 := hM_2.2 1 (by decide) (by decide)
  have eb_2 := hM_2.2 2 (by decide) (by decide)
  refine lv_istore (lv' := [(7, .int r_2), (6, .int r_1), (5, .int (nI (6 * i))), (4, .ref qd), (3, .ref qo), (2, .ref am), (1, .ref x), (0, .ref b)]) hx hb dL_law_1468 hl (by decide) rfl (fun ls hl => ?_)
  refine lv_goto (tgt := 1750) hx hb dL_law_1470 (by decide) ?_
  refine W.widen (k := c0 + 20) (n := s0 + 400) (by omega) (by omega) ?_
  exact hnext _ x_2 _ _ _ _ _ _ _ _ _ _ hd0 hC_1 hI_2 (hL9.qc h hQ_1 hM_2) (hY.of (hM_2.1 14 (by decide) (by decide))) (ea_2.trans e1) (eb_2.trans e2) hP hD hS (lv_sub hl [2, 3, 4, 5, 6, 7] rfl)

set_option maxRecDepth 100000 in
set_option maxHeartbeats 4000000 in
theorem law_best (l : Launch) (hst : l.stackTraces = false) {p : Program} {e : Env} {s : State} {m : MethodId} {below : List Frame} {meth : Method} {c : Code} {b L : Nat} {xs : Nat → Int32} (C0 : lw_At p s m meth c b L xs) {D : va_G} {cA : Nat → ClassId} (hK : va_K D vwCl (ty6 cA) s) (hTB : TBok s) (hTX : TXok (fun q : Nat => s.heap.size ≤ q) s) {x ar ak qo qd am : Nat} {r : Nat → Nat} {c0 s0 i : Nat} (hc0 : c0 + 20 ≤ 601024) (hs0 : s0 + 400 ≤ 7293034) (hi : 6 * i + 6 ≤ L) (hL : L ≤ 3072) (hnext : ∀ (S : Pool) (M : MSt) (fo : Nat → Int64) (fd : Nat → UInt64) (n na : Nat) (hh cc : Int32) (H : Heap) (locs : List Loc) (ls : Array Slot) (d : Drawn), s.drawn.sameBut d lw_cs → INVC n na hh cc S x ar ak → INVR n na M → REL True n na S M ar → LAY n M → M.1 1 = cc → M.1 2 = hh → va_P D vwCl (LW cA S qo fo qd fd am r M) H → va_D (fun q : Nat => s.heap.size ≤ q) (LW cA S qo fo qd fd am r M) → va_S (fun q : Nat => s.heap.size ≤ q) s.heap H locs → lv_has ls 9 [(5, .int (nI (6 * i))), (4, .ref qd), (3, .ref qo), (2, .ref am), (1, .ref x), (0, .ref b)] → W p l e room_1 (s.setDrawn d) m #[Value.ref b] below meth c H locs (c0 + 20) (s0 + 400) (lw_Z below #[Value.ref b] s) (F0 m 1750 ls [])) {S : Pool} {M : MSt} {fo : Nat → Int64} {fd : Nat → UInt64} {n na : Nat} {hh cc : Int32} {H : Heap} {locs : List Loc} {ls : Array Slot} {d : Drawn} (hd0 : s.drawn.sameBut d lw_cs) (h : INVC n na hh cc S x ar ak) (hI : INVR n na M) (hL9 : REL True n na S M ar) (hY : LAY n M) (e1 : M.1 1 = cc) (e2 : M.1 2 = hh) (hP : va_P D vwCl (LW cA S qo fo qd fd am r M) H) (hD : va_D (fun q : Nat => s.heap.size ≤ q) (LW cA S qo fo qd fd am r M)) (hS : va_S (fun q : Nat => s.heap.size ≤ q) s.heap H locs) (hl : lv_has ls 9 [(5, .int (nI (6 * i))), (4, .ref qd), (3, .ref qo), (2, .ref am), (1, .ref x), (0, .ref b)]) : W p l e room_1 (s.setDrawn d) m #[Value.ref b] below meth c H locs c0 s0 (lw_Z below #[Value.ref b] s) (F0 m 1473 ls []) := by
  obtain ⟨hx, hb, hr, hml, hown, hts, hX, hbl, hlocks, hgv⟩ := id C0
  have hA : ∀ q : Nat, s.heap.size ≤ q → (fun q : Nat => s.heap.size ≤ q) q := fun _ h => h
  have hbA : ¬ (fun q : Nat => s.heap.size ≤ q) b := Nat.not_le.mpr hbl
  obtain ⟨a1, ea1⟩ : ∃ z, z = xs (6 * i + 1) := ⟨_, rfl⟩
  obtain ⟨a2, ea2⟩ : ∃ z, z = xs (6 * i + 2) := ⟨_, rfl⟩
  obtain ⟨a3, ea3⟩ : ∃ z, z = xs (6 * i + 3) := ⟨_, rfl⟩
  obtain ⟨a4, ea4⟩ : ∃ z, z = xs (6 * i + 4) := ⟨_, rfl⟩
  obtain ⟨a5, ea5⟩ : ∃ z, z = xs (6 * i + 5) := ⟨_, rfl⟩
  have htT0 : ∀ w ∈ TT, w.before _ s = true := fun w h => hts w (tt_in h)
  have hTB0 := hTB
  have hK0 := hK
  have hown0 : s.vm.findClass RL = some m.cls := hown
  have hTX0 := hTX
  have hX0 := hX
  have htT : ∀ w ∈ TT, w.before _ (s.setDrawn d) = true := dr_words htT0 d
  have hTB : TBok (s.setDrawn d) := TBok.same (u := s) (U := s.setDrawn d) rfl (Vm.Alike.refl s.vm) hTB0
  have hK : va_K D vwCl (ty6 cA) (s.setDrawn d) := hK0
  have hown : (s.setDrawn d).vm.findClass RL = some m.cls := hown0
  have hTX : TXok (fun q : Nat => s.heap.size ≤ q) (s.setDrawn d) := hTX0.dr d
  have hX : va_X b L xs (s.setDrawn d) (s.setDrawn d).heap := hX0
  refine lv_aload_n hx hb dL_law_1473 rfl (lv_at hl 4 rfl) ?_
  refine lv_aload_n hx hb dL_law_1474 rfl (lv_at hl 5 rfl) ?_
  refine lv_iload hx hb dL_law_1475 (lv_at hl 0 rfl) ?_
  refine lv_iconst (v := 1) hx hb dL_law_1477 (by decide) ?_
  refine lv_iadd hx hb dL_law_1478 ?_
  rw [show ((nI (6 * i)) + 1 : Int32) = nI ((6 * i) + 1) from nI_add (6 * i) 1]
  refine va_sld hx hb hX hbl hbA hS (show vp_in (nI ((6 * i) + 1)) L from ki_in (by omega) (by omega)) dL_law_1479 ?_
  rw [show xs (nI ((6 * i) + 1)).toNatClampNeg = a1 from (congrArg xs (ki_cl (by omega))).trans ea1.symm]
  refine lv_aload_n hx hb dL_law_1480 rfl (lv_at hl 2 rfl) ?_
  refine kjD_i hd0 (pmJ _ _ _ _) (kd_runSW (As := [.ref x, .int a1, .ref qo]) (rest := []) ⟨hx, hb, hml, hown, htT⟩ (w_best l hst D cA _ S x qo fo n na hh cc ar ak h a1) (vx_cwSW 3 htT (kg_SW m_ml_L_224 m_st_L_best m_in_L m_cd_L_best) rfl rfl rfl (by decide +kernel) ⟨Nat.le_of_ble_eq_true rfl, Nat.le_of_ble_eq_true rfl⟩) (kj_SX (pmJ _ _ _ _) hK hP hD hTB hTX hS hA) rfl rfl hl.1 rfl (lv_room (Nat.le_of_ble_eq_true rfl)) dL_law_1481 ⟨(by show _ ≤ 601024; omega), (by show _ ≤ 7293034; omega)⟩) hP hD hS hA (fun r_1 x_1 H locs hq_1 hP hD hS d_1 hd0 => ?_)
  have htT : ∀ w ∈ TT, w.before _ (s.setDrawn d_1) = true := dr_words htT0 d_1
  have hTB : TBok (s.setDrawn d_1) := TBok.same (u := s) (U := s.setDrawn d_1) rfl (Vm.Alike.refl s.vm) hTB0
  have hK : va_K D vwCl (ty6 cA) (s.setDrawn d_1) := hK0
  have hown : (s.setDrawn d_1).vm.findClass RL = some m.cls := hown0
  have hTX : TXok (fun q : Nat => s.heap.size ≤ q) (s.setDrawn d_1) := hTX0.dr d_1
  have hX : va_X b L xs (s.setDrawn d_1) (s.setDrawn d_1).heap := hX0
  rw [List.append_assoc] at hP hD
  obtain ⟨hC_1, hQ_1⟩ := hq_1
  refine lv_istore (lv' := [(6, .int r_1), (5, .int (nI (6 * i))), (4, .ref qd), (3, .ref qo), (2, .ref am), (1, .ref x), (0, .ref b)]) hx hb dL_law_1484 hl (by decide) rfl (fun ls hl => ?_)
  refine lv_aload_n hx hb dL_law_1486 rfl (lv_at hl 4 rfl) ?_
  refine lv_aload_n hx hb dL_law_1487 rfl (lv_at hl 6 rfl) ?_
  refine lv_iload hx hb dL_law_1488 (lv_at hl 1 rfl) ?_
  refine lv_iconst (v := 1) hx hb dL_law_1490 (by decide) ?_
  refine lv_iadd hx hb dL_law_1491 ?_
  rw [show ((nI (6 * i)) + 1 : Int32) = nI ((6 * i) + 1) from nI_add (6 * i) 1]
  refine va_sld hx hb hX hbl hbA hS (show vp_in (nI ((6 * i) + 1)) L from ki_in (by omega) (by omega)) dL_law_1492 ?_
  rw [show xs (nI ((6 * i) + 1)).toNatClampNeg = a1 from (congrArg xs (ki_cl (by omega))).trans ea1.symm]
  refine kjD_i hd0 (pmM _ _ _ _) (va_runV_D (As := [.int a1]) (rest := []) ⟨hx, hb, hml, hown, htT⟩ (t_best l D cA _ am r M n na hI a1) (cwV 1 htT (kg_V m_ml_L_226 m_im_X6_best m_sl_X6_best m_in_X6 m_cd_X6_best) rfl rfl rfl (by decide +kernel) ⟨Nat.le_of_ble_eq_true rfl, Nat.le_of_ble_eq_true rfl⟩) (kj_V (pmM _ _ _ _) hK hP hD hTB (kj_rm (pmM _ _ _ _) hK hP)) rfl rfl hl.1 rfl (lv_room (Nat.le_of_ble_eq_true rfl)) dL_law_1493 ⟨(by show _ ≤ 601024; omega), (by show _ ≤ 7293034; omega)⟩) hP hD hS hA (fun r_2 x_2 H locs hq_2 hP hD hS d_2 hd0 => ?_)
  have htT : ∀ w ∈ TT, w.before _ (s.setDrawn d_2) = true := dr_words htT0 d_2
  have hTB : TBok (s.setDrawn d_2) := TBok.same (u := s) (U := s.setDrawn d_2) rfl (Vm.Alike.refl s.vm) hTB0
  have hK : va_K D vwCl (ty6 cA) (s.setDrawn d_2) := hK0
  have hown : (s.setDrawn d_2).vm.findClass RL = some m.cls := hown0
  have hTX : TXok (fun q : Nat => s.heap.size ≤ q) (s.setDrawn d_2) := hTX0.dr d_2
  have hX : va_X b L xs (s.setDrawn d_2) (s.setDrawn d_2).heap := hX0
  have hP := kj_P (pmM _ _ _ _).symm hP
  have hD := kj_D (pmM _ _ _ _).symm hD
  obtain ⟨hI_2, hM_2⟩ := hq_2
  have ea_2 := hM_2.2 1 (by decide) (by decide)
  have eb_2 := hM_2.2 2 (by decide) (by decide)
  refine lv_istore (lv' := [(7, .int r_2), (6, .int r_1), (5, .int (nI (6 * i))), (4, .ref qd), (3, .ref qo), (2, .ref am), (1, .ref x), (0, .ref b)]) hx hb dL_law_1496 hl (by decide) rfl (fun ls hl => ?_)
  refine lv_goto (tgt := 1750) hx hb dL_law_1498 (by decide) ?_
  refine W.widen (k := c0 + 20) (n := s0 + 400) (by omega) (by omega) ?_
  exact hnext _ x_2 _ _ _ _ _ _ _ _ _ _ hd0 hC_1 hI_2 (hL9.qc h hQ_1 hM_2) (hY.of (hM_2.1 14 (by decide) (by decide))) (ea_2.trans e1) (eb_2.trans e2) hP hD hS (lv_sub hl [2, 3, 4, 5, 6, 7] rfl)

set_option maxRecDepth 100000 in
set_option maxHeartbeats 4000000 in
theorem law_reach (l : Launch) (hst : l.stackTraces = false) {p : Program} {e : Env} {s : State} {m : MethodId} {below : List Frame} {meth : Method} {c : Code} {b L : Nat} {xs : Nat → Int32} (C0 : lw_At p s m meth c b L xs) {D : va_G} {cA : Nat → ClassId} (hK : va_K D vwCl (ty6 cA) s) (hTB : TBok s) (hTX : TXok (fun q : Nat => s.heap.size ≤ q) s) {x ar ak qo qd am : Nat} {r : Nat → Nat} {c0 s0 i : Nat} (hc0 : c0 + 20 ≤ 601024) (hs0 : s0 + 400 ≤ 7293034) (hi : 6 * i + 6 ≤ L) (hL : L ≤ 3072) (hnext : ∀ (S : Pool) (M : MSt) (fo : Nat → Int64) (fd : Nat → UInt64) (n na : Nat) (hh cc : Int32) (H : Heap) (locs : List Loc) (ls : Array Slot) (d : Drawn), s.drawn.sameBut d lw_cs → INVC n na hh cc S x ar ak → INVR n na M → REL True n na S M ar → LAY n M → M.1 1 = cc → M.1 2 = hh → va_P D vwCl (LW cA S qo fo qd fd am r M) H → va_D (fun q : Nat => s.heap.size ≤ q) (LW cA S qo fo qd fd am r M) → va_S (fun q : Nat => s.heap.size ≤ q) s.heap H locs → lv_has ls 9 [(5, .int (nI (6 * i))), (4, .ref qd), (3, .ref qo), (2, .ref am), (1, .ref x), (0, .ref b)] → W p l e room_1 (s.setDrawn d) m #[Value.ref b] below meth c H locs (c0 + 20) (s0 + 400) (lw_Z below #[Value.ref b] s) (F0 m 1750 ls [])) {S : Pool} {M : MSt} {fo : Nat → Int64} {fd : Nat → UInt64} {n na : Nat} {hh cc : Int32} {H : Heap} {locs : List Loc} {ls : Array Slot} {d : Drawn} (hd0 : s.drawn.sameBut d lw_cs) (h : INVC n na hh cc S x ar ak) (hI : INVR n na M) (hL9 : REL True n na S M ar) (hY : LAY n M) (e1 : M.1 1 = cc) (e2 : M.1 2 = hh) (hP : va_P D vwCl (LW cA S qo fo qd fd am r M) H) (hD : va_D (fun q : Nat => s.heap.size ≤ q) (LW cA S qo fo qd fd am r M)) (hS : va_S (fun q : Nat => s.heap.size ≤ q) s.heap H locs) (hl : lv_has ls 9 [(5, .int (nI (6 * i))), (4, .ref qd), (3, .ref qo), (2, .ref am), (1, .ref x), (0, .ref b)]) : W p l e room_1 (s.setDrawn d) m #[Value.ref b] below meth c H locs c0 s0 (lw_Z below #[Value.ref b] s) (F0 m 1501 ls []) := by
  obtain ⟨hx, hb, hr, hml, hown, hts, hX, hbl, hlocks, hgv⟩ := id C0
  have hA : ∀ q : Nat, s.heap.size ≤ q → (fun q : Nat => s.heap.size ≤ q) q := fun _ h => h
  have hbA : ¬ (fun q : Nat => s.heap.size ≤ q) b := Nat.not_le.mpr hbl
  obtain ⟨a1, ea1⟩ : ∃ z, z = xs (6 * i + 1) := ⟨_, rfl⟩
  obtain ⟨a2, ea2⟩ : ∃ z, z = xs (6 * i + 2) := ⟨_, rfl⟩
  obtain ⟨a3, ea3⟩ : ∃ z, z = xs (6 * i + 3) := ⟨_, rfl⟩
  obtain ⟨a4, ea4⟩ : ∃ z, z = xs (6 * i + 4) := ⟨_, rfl⟩
  obtain ⟨a5, ea5⟩ : ∃ z, z = xs (6 * i + 5) := ⟨_, rfl⟩
  have htT0 : ∀ w ∈ TT, w.before _ s = true := fun w h => hts w (tt_in h)
  have hTB0 := hTB
  have hK0 := hK
  have hown0 : s.vm.findClass RL = some m.cls := hown
  have hTX0 := hTX
  have hX0 := hX
  have htT : ∀ w ∈ TT, w.before _ (s.setDrawn d) = true := dr_words htT0 d
  have hTB : TBok (s.setDrawn d) := TBok.same (u := s) (U := s.setDrawn d) rfl (Vm.Alike.refl s.vm) hTB0
  have hK : va_K D vwCl (ty6 cA) (s.setDrawn d) := hK0
  have hown : (s.setDrawn d).vm.findClass RL = some m.cls := hown0
  have hTX : TXok (fun q : Nat => s.heap.size ≤ q) (s.setDrawn d) := hTX0.dr d
  have hX : va_X b L xs (s.setDrawn d) (s.setDrawn d).heap := hX0
  refine lv_aload_n hx hb dL_law_1501 rfl (lv_at hl 4 rfl) ?_
  refine lv_aload_n hx hb dL_law_1502 rfl (lv_at hl 5 rfl) ?_
  refine lv_iload hx hb dL_law_1503 (lv_at hl 0 rfl) ?_
  refine lv_iconst (v := 1) hx hb dL_law_1505 (by decide) ?_
  refine lv_iadd hx hb dL_law_1506 ?_
  rw [show ((nI (6 * i)) + 1 : Int32) = nI ((6 * i) + 1) from nI_add (6 * i) 1]
  refine va_sld hx hb hX hbl hbA hS (show vp_in (nI ((6 * i) + 1)) L from ki_in (by omega) (by omega)) dL_law_1507 ?_
  rw [show xs (nI ((6 * i) + 1)).toNatClampNeg = a1 from (congrArg xs (ki_cl (by omega))).trans ea1.symm]
  refine lv_aload_n hx hb dL_law_1508 rfl (lv_at hl 5 rfl) ?_
  refine lv_iload hx hb dL_law_1509 (lv_at hl 0 rfl) ?_
  refine lv_iconst (v := 2) hx hb dL_law_1511 (by decide) ?_
  refine lv_iadd hx hb dL_law_1512 ?_
  rw [show ((nI (6 * i)) + 2 : Int32) = nI ((6 * i) + 2) from nI_add (6 * i) 2]
  refine va_sld hx hb hX hbl hbA hS (show vp_in (nI ((6 * i) + 2)) L from ki_in (by omega) (by omega)) dL_law_1513 ?_
  rw [show xs (nI ((6 * i) + 2)).toNatClampNeg = a2 from (congrArg xs (ki_cl (by omega))).trans ea2.symm]
  refine lv_aload_n hx hb dL_law_1514 rfl (lv_at hl 5 rfl) ?_
  refine lv_iload hx hb dL_law_1515 (lv_at hl 0 rfl) ?_
  refine lv_iconst (v := 3) hx hb dL_law_1517 (by decide) ?_
  refine lv_iadd hx hb dL_law_1518 ?_
  rw [show ((nI (6 * i)) + 3 : Int32) = nI ((6 * i) + 3) from nI_add (6 * i) 3]
  refine va_sld hx hb hX hbl hbA hS (show vp_in (nI ((6 * i) + 3)) L from ki_in (by omega) (by omega)) dL_law_1519 ?_
  rw [show xs (nI ((6 * i) + 3)).toNatClampNeg = a3 from (congrArg xs (ki_cl (by omega))).trans ea3.symm]
  refine lv_aload_n hx hb dL_law_1520 rfl (lv_at hl 2 rfl) ?_
  refine kj_i (pmJ _ _ _ _) (vx_runSW (As := [.ref x, .int a1, .int a2, .int a3, .ref qo]) (rest := []) ⟨hx, hb, hml, hown, htT⟩ (w_reach l hst D cA _ S x qo fo n na hh cc ar ak h a1 a2 a3) (vx_cwSW 5 htT (kg_SW m_ml_L_227 m_st_L_reach m_in_L m_cd_L_reach) rfl rfl rfl (by decide +kernel) ⟨Nat.le_of_ble_eq_true rfl, Nat.le_of_ble_eq_true rfl⟩) (kj_SX (pmJ _ _ _ _) hK hP hD hTB hTX hS hA) rfl rfl hl.1 rfl (lv_room (Nat.le_of_ble_eq_true rfl)) dL_law_1521 ⟨(by show _ ≤ 601024; omega), (by show _ ≤ 7293034; omega)⟩) hP hD hS hA (fun r_1 x_1 H locs hq_1 hP hD hS => ?_)
  rw [List.append_assoc] at hP hD
  obtain ⟨hC_1, hQ_1⟩ := hq_1
  refine lv_istore (lv' := [(6, .int r_1), (5, .int (nI (6 * i))), (4, .ref qd), (3, .ref qo), (2, .ref am), (1, .ref x), (0, .ref b)]) hx hb dL_law_1524 hl (by decide) rfl (fun ls hl => ?_)
  refine lv_aload_n hx hb dL_law_1526 rfl (lv_at hl 4 rfl) ?_
  refine lv_aload_n hx hb dL_law_1527 rfl (lv_at hl 6 rfl) ?_
  refine lv_iload hx hb dL_law_1528 (lv_at hl 1 rfl) ?_
  refine lv_iconst (v := 1) hx hb dL_law_1530 (by decide) ?_
  refine lv_iadd hx hb dL_law_1531 ?_
  rw [show ((nI (6 * i)) + 1 : Int32) = nI ((6 * i) + 1) from nI_add (6 * i) 1]
  refine va_sld hx hb hX hbl hbA hS (show vp_in (nI ((6 * i) + 1)) L from ki_in (by omega) (by omega)) dL_law_1532 ?_
  rw [show xs (nI ((6 * i) + 1)).toNatClampNeg = a1 from (congrArg xs (ki_cl (by omega))).trans ea1.symm]
  refine lv_aload_n hx hb dL_law_1533 rfl (lv_at hl 6 rfl) ?_
  refine lv_iload hx hb dL_law_1534 (lv_at hl 1 rfl) ?_
  refine lv_iconst (v := 2) hx hb dL_law_1536 (by decide) ?_
  refine lv_iadd hx hb dL_law_1537 ?_
  rw [show ((nI (6 * i)) + 2 : Int32) = nI ((6 * i) + 2) from nI_add (6 * i) 2]
  refine va_sld hx hb hX hbl hbA hS (show vp_in (nI ((6 * i) + 2)) L from ki_in (by omega) (by omega)) dL_law_1538 ?_
  rw [show xs (nI ((6 * i) + 2)).toNatClampNeg = a2 from (congrArg xs (ki_cl (by omega))).trans ea2.symm]
  refine lv_aload_n hx hb dL_law_1539 rfl (lv_at hl 6 rfl) ?_
  refine lv_iload hx hb dL_law_1540 (lv_at hl 1 rfl) ?_
  refine lv_iconst (v := 3) hx hb dL_law_1542 (by decide) ?_
  refine lv_iadd hx hb dL_law_1543 ?_
  rw [show ((nI (6 * i)) + 3 : Int32) = nI ((6 * i) + 3) from nI_add (6 * i) 3]
  refine va_sld hx hb hX hbl hbA hS (show vp_in (nI ((6 * i) + 3)) L from ki_in (by omega) (by omega)) dL_law_1544 ?_
  rw [show xs (nI ((6 * i) + 3)).toNatClampNeg = a3 from (congrArg xs (ki_cl (by omega))).trans ea3.symm]
  refine kj_i (pmM _ _ _ _) (va_runV (As := [.int a1, .int a2, .int a3]) (rest := []) ⟨hx, hb, hml, hown, htT⟩ (t_reach l D cA _ am r M n na hI a1 a2 a3) (cwV 3 htT (kg_V m_ml_L_229 m_im_X6_reach m_sl_X6_reach m_in_X6 m_cd_X6_reach) rfl rfl rfl (by decide +kernel) ⟨Nat.le_of_ble_eq_true rfl, Nat.le_of_ble_eq_true rfl⟩) (kj_V (pmM _ _ _ _) hK hP hD hTB (kj_rm (pmM _ _ _ _) hK hP)) rfl rfl hl.1 rfl (lv_room (Nat.le_of_ble_eq_true rfl)) dL_law_1545 ⟨(by show _ ≤ 601024; omega), (by show _ ≤ 7293034; omega)⟩) hP hD hS hA (fun r_2 x_2 H locs hq_2 hP hD hS => ?_)
  have hP := kj_P (pmM _ _ _ _).symm hP
  have hD := kj_D (pmM _ _ _ _).symm hD
  obtain ⟨hI_2, hM_2⟩ := hq_2
  have ea_2 := hM_2.2 1 (by decide) (by decide)
  have eb_2 := hM_2.2 2 (by decide) (by decide)
  refine lv_istore (lv' := [(7, .int r_2), (6, .int r_1), (5, .int (nI (6 * i))), (4, .ref qd), (3, .ref qo), (2, .ref am), (1, .ref x), (0, .ref b)]) hx hb dL_law_1548 hl (by decide) rfl (fun ls hl => ?_)
  refine lv_goto (tgt := 1750) hx hb dL_law_1550 (by decide) ?_
  refine W.widen (k := c0 + 20) (n := s0 + 400) (by omega) (by omega) ?_
  exact hnext _ x_2 _ _ _ _ _ _ _ _ _ _ hd0 hC_1 hI_2 (hL9.qc h hQ_1 hM_2) (hY.of (hM_2.1 14 (by decide) (by decide))) (ea_2.trans e1) (eb_2.trans e2) hP hD hS (lv_sub hl [2, 3, 4, 5, 6, 7] rfl)

set_option maxRecDepth 100000 in
set_option maxHeartbeats 4000000 in
theorem law_both (l : Launch) (hst : l.stackTraces = false) {p : Program} {e : Env} {s : State} {m : MethodId} {below : List Frame} {meth : Method} {c : Code} {b L : Nat} {xs : Nat → Int32} (C0 : lw_At p s m meth c b L xs) {D : va_G} {cA : Nat → ClassId} (hK : va_K D vwCl (ty6 cA) s) (hTB : TBok s) (hTX : TXok (fun q : Nat => s.heap.size ≤ q) s) {x ar ak qo qd am : Nat} {r : Nat → Nat} {c0 s0 i : Nat} (hc0 : c0 + 20 ≤ 601024) (hs0 : s0 + 400 ≤ 7293034) (hi : 6 * i + 6 ≤ L) (hL : L ≤ 3072) (hnext : ∀ (S : Pool) (M : MSt) (fo : Nat → Int64) (fd : Nat → UInt64) (n na : Nat) (hh cc : Int32) (H : Heap) (locs : List Loc) (ls : Array Slot) (d : Drawn), s.drawn.sameBut d lw_cs → INVC n na hh cc S x ar ak → INVR n na M → REL True n na S M ar → LAY n M → M.1 1 = cc → M.1 2 = hh → va_P D vwCl (LW cA S qo fo qd fd am r M) H → va_D (fun q : Nat => s.heap.size ≤ q) (LW cA S qo fo qd fd am r M) → va_S (fun q : Nat => s.heap.size ≤ q) s.heap H locs → lv_has ls 9 [(5, .int (nI (6 * i))), (4, .ref qd), (3, .ref qo), (2, .ref am), (1, .ref x), (0, .ref b)] → W p l e room_1 (s.setDrawn d) m #[Value.ref b] below meth c H locs (c0 + 20) (s0 + 400) (lw_Z below #[Value.ref b] s) (F0 m 1750 ls [])) {S : Pool} {M : MSt} {fo : Nat → Int64} {fd : Nat → UInt64} {n na : Nat} {hh cc : Int32} {H : Heap} {locs : List Loc} {ls : Array Slot} {d : Drawn} (hd0 : s.drawn.sameBut d lw_cs) (h : INVC n na hh cc S x ar ak) (hI : INVR n na M) (hL9 : REL True n na S M ar) (hY : LAY n M) (e1 : M.1 1 = cc) (e2 : M.1 2 = hh) (hP : va_P D vwCl (LW cA S qo fo qd fd am r M) H) (hD : va_D (fun q : Nat => s.heap.size ≤ q) (LW cA S qo fo qd fd am r M)) (hS : va_S (fun q : Nat => s.heap.size ≤ q) s.heap H locs) (hl : lv_has ls 9 [(5, .int (nI (6 * i))), (4, .ref qd), (3, .ref qo), (2, .ref am), (1, .ref x), (0, .ref b)]) : W p l e room_1 (s.setDrawn d) m #[Value.ref b] below meth c H locs c0 s0 (lw_Z below #[Value.ref b] s) (F0 m 1553 ls []) := by
  obtain ⟨hx, hb, hr, hml, hown, hts, hX, hbl, hlocks, hgv⟩ := id C0
  have hA : ∀ q : Nat, s.heap.size ≤ q → (fun q : Nat => s.heap.size ≤ q) q := fun _ h => h
  have hbA : ¬ (fun q : Nat => s.heap.size ≤ q) b := Nat.not_le.mpr hbl
  obtain ⟨a1, ea1⟩ : ∃ z, z = xs (6 * i + 1) := ⟨_, rfl⟩
  obtain ⟨a2, ea2⟩ : ∃ z, z = xs (6 * i + 2) := ⟨_, rfl⟩
  obtain ⟨a3, ea3⟩ : ∃ z, z = xs (6 * i + 3) := ⟨_, rfl⟩
  obtain ⟨a4, ea4⟩ : ∃ z, z = xs (6 * i + 4) := ⟨_, rfl⟩
  obtain ⟨a5, ea5⟩ : ∃ z, z = xs (6 * i + 5) := ⟨_, rfl⟩
  have htT0 : ∀ w ∈ TT, w.before _ s = true := fun w h => hts w (tt_in h)
  have hTB0 := hTB
  have hK0 := hK
  have hown0 : s.vm.findClass RL = some m.cls := hown
  have hTX0 := hTX
  have hX0 := hX
  have htT : ∀ w ∈ TT, w.before _ (s.setDrawn d) = true := dr_words htT0 d
  have hTB : TBok (s.setDrawn d) := TBok.same (u := s) (U := s.setDrawn d) rfl (Vm.Alike.refl s.vm) hTB0
  have hK : va_K D vwCl (ty6 cA) (s.setDrawn d) := hK0
  have hown : (s.setDrawn d).vm.findClass RL = some m.cls := hown0
  have hTX : TXok (fun q : Nat => s.heap.size ≤ q) (s.setDrawn d) := hTX0.dr d
  have hX : va_X b L xs (s.setDrawn d) (s.setDrawn d).heap := hX0
  refine lv_aload_n hx hb dL_law_1553 rfl (lv_at hl 4 rfl) ?_
  refine lv_aload_n hx hb dL_law_1554 rfl (lv_at hl 5 rfl) ?_
  refine lv_iload hx hb dL_law_1555 (lv_at hl 0 rfl) ?_
  refine lv_iconst (v := 1) hx hb dL_law_1557 (by decide) ?_
  refine lv_iadd hx hb dL_law_1558 ?_
  rw [show ((nI (6 * i)) + 1 : Int32) = nI ((6 * i) + 1) from nI_add (6 * i) 1]
  refine va_sld hx hb hX hbl hbA hS (show vp_in (nI ((6 * i) + 1)) L from ki_in (by omega) (by omega)) dL_law_1559 ?_
  rw [show xs (nI ((6 * i) + 1)).toNatClampNeg = a1 from (congrArg xs (ki_cl (by omega))).trans ea1.symm]
  refine lv_aload_n hx hb dL_law_1560 rfl (lv_at hl 5 rfl) ?_
  refine lv_iload hx hb dL_law_1561 (lv_at hl 0 rfl) ?_
  refine lv_iconst (v := 2) hx hb dL_law_1563 (by decide) ?_
  refine lv_iadd hx hb dL_law_1564 ?_
  rw [show ((nI (6 * i)) + 2 : Int32) = nI ((6 * i) + 2) from nI_add (6 * i) 2]
  refine va_sld hx hb hX hbl hbA hS (show vp_in (nI ((6 * i) + 2)) L from ki_in (by omega) (by omega)) dL_law_1565 ?_
  rw [show xs (nI ((6 * i) + 2)).toNatClampNeg = a2 from (congrArg xs (ki_cl (by omega))).trans ea2.symm]
  refine lv_aload_n hx hb dL_law_1566 rfl (lv_at hl 5 rfl) ?_
  refine lv_iload hx hb dL_law_1567 (lv_at hl 0 rfl) ?_
  refine lv_iconst (v := 3) hx hb dL_law_1569 (by decide) ?_
  refine lv_iadd hx hb dL_law_1570 ?_
  rw [show ((nI (6 * i)) + 3 : Int32) = nI ((6 * i) + 3) from nI_add (6 * i) 3]
  refine va_sld hx hb hX hbl hbA hS (show vp_in (nI ((6 * i) + 3)) L from ki_in (by omega) (by omega)) dL_law_1571 ?_
  rw [show xs (nI ((6 * i) + 3)).toNatClampNeg = a3 from (congrArg xs (ki_cl (by omega))).trans ea3.symm]
  refine lv_aload_n hx hb dL_law_1572 rfl (lv_at hl 2 rfl) ?_
  refine kj_i (pmJ _ _ _ _) (vx_runSW (As := [.ref x, .int a1, .int a2, .int a3, .ref qo]) (rest := []) ⟨hx, hb, hml, hown, htT⟩ (w_both l hst D cA _ S x qo fo n na hh cc ar ak h a1 a2 a3) (vx_cwSW 5 htT (kg_SW m_ml_L_230 m_st_L_both m_in_L m_cd_L_both) rfl rfl rfl (by decide +kernel) ⟨Nat.le_of_ble_eq_true rfl, Nat.le_of_ble_eq_true rfl⟩) (kj_SX (pmJ _ _ _ _) hK hP hD hTB hTX hS hA) rfl rfl hl.1 rfl (lv_room (Nat.le_of_ble_eq_true rfl)) dL_law_1573 ⟨(by show _ ≤ 601024; omega), (by show _ ≤ 7293034; omega)⟩) hP hD hS hA (fun r_1 x_1 H locs hq_1 hP hD hS => ?_)
  rw [List.append_assoc] at hP hD
  obtain ⟨hC_1, hQ_1⟩ := hq_1
  refine lv_istore (lv' := [(6, .int r_1), (5, .int (nI (6 * i))), (4, .ref qd), (3, .ref qo), (2, .ref am), (1, .ref x), (0, .ref b)]) hx hb dL_law_1576 hl (by decide) rfl (fun ls hl => ?_)
  refine lv_aload_n hx hb dL_law_1578 rfl (lv_at hl 4 rfl) ?_
  refine lv_aload_n hx hb dL_law_1579 rfl (lv_at hl 6 rfl) ?_
  refine lv_iload hx hb dL_law_1580 (lv_at hl 1 rfl) ?_
  refine lv_iconst (v := 1) hx hb dL_law_1582 (by decide) ?_
  refine lv_iadd hx hb dL_law_1583 ?_
  rw [show ((nI (6 * i)) + 1 : Int32) = nI ((6 * i) + 1) from nI_add (6 * i) 1]
  refine va_sld hx hb hX hbl hbA hS (show vp_in (nI ((6 * i) + 1)) L from ki_in (by omega) (by omega)) dL_law_1584 ?_
  rw [show xs (nI ((6 * i) + 1)).toNatClampNeg = a1 from (congrArg xs (ki_cl (by omega))).trans ea1.symm]
  refine lv_aload_n hx hb dL_law_1585 rfl (lv_at hl 6 rfl) ?_
  refine lv_iload hx hb dL_law_1586 (lv_at hl 1 rfl) ?_
  refine lv_iconst (v := 2) hx hb dL_law_1588 (by decide) ?_
  refine lv_iadd hx hb dL_law_1589 ?_
  rw [show ((nI (6 * i)) + 2 : Int32) = nI ((6 * i) + 2) from nI_add (6 * i) 2]
  refine va_sld hx hb hX hbl hbA hS (show vp_in (nI ((6 * i) + 2)) L from ki_in (by omega) (by omega)) dL_law_1590 ?_
  rw [show xs (nI ((6 * i) + 2)).toNatClampNeg = a2 from (congrArg xs (ki_cl (by omega))).trans ea2.symm]
  refine lv_aload_n hx hb dL_law_1591 rfl (lv_at hl 6 rfl) ?_
  refine lv_iload hx hb dL_law_1592 (lv_at hl 1 rfl) ?_
  refine lv_iconst (v := 3) hx hb dL_law_1594 (by decide) ?_
  refine lv_iadd hx hb dL_law_1595 ?_
  rw [show ((nI (6 * i)) + 3 : Int32) = nI ((6 * i) + 3) from nI_add (6 * i) 3]
  refine va_sld hx hb hX hbl hbA hS (show vp_in (nI ((6 * i) + 3)) L from ki_in (by omega) (by omega)) dL_law_1596 ?_
  rw [show xs (nI ((6 * i) + 3)).toNatClampNeg = a3 from (congrArg xs (ki_cl (by omega))).trans ea3.symm]
  refine kj_i (pmM _ _ _ _) (va_runV (As := [.int a1, .int a2, .int a3]) (rest := []) ⟨hx, hb, hml, hown, htT⟩ (t_both l D cA _ am r M n na hI a1 a2 a3) (cwV 3 htT (kg_V m_ml_L_232 m_im_X6_both m_sl_X6_both m_in_X6 m_cd_X6_both) rfl rfl rfl (by decide +kernel) ⟨Nat.le_of_ble_eq_true rfl, Nat.le_of_ble_eq_true rfl⟩) (kj_V (pmM _ _ _ _) hK hP hD hTB (kj_rm (pmM _ _ _ _) hK hP)) rfl rfl hl.1 rfl (lv_room (Nat.le_of_ble_eq_true rfl)) dL_law_1597 ⟨(by show _ ≤ 601024; omega), (by show _ ≤ 7293034; omega)⟩) hP hD hS hA (fun r_2 x_2 H locs hq_2 hP hD hS => ?_)
  have hP := kj_P (pmM _ _ _ _).symm hP
  have hD := kj_D (pmM _ _ _ _).symm hD
  obtain ⟨hI_2, hM_2⟩ := hq_2
  have ea_2 := hM_2.2 1 (by decide) (by decide)
  have eb_2 := hM_2.2 2 (by decide) (by decide)
  refine lv_istore (lv' := [(7, .int r_2), (6, .int r_1), (5, .int (nI (6 * i))), (4, .ref qd), (3, .ref qo), (2, .ref am), (1, .ref x), (0, .ref b)]) hx hb dL_law_1600 hl (by decide) rfl (fun ls hl => ?_)
  refine lv_goto (tgt := 1750) hx hb dL_law_1602 (by decide) ?_
  refine W.widen (k := c0 + 20) (n := s0 + 400) (by omega) (by omega) ?_
  exact hnext _ x_2 _ _ _ _ _ _ _ _ _ _ hd0 hC_1 hI_2 (hL9.qc h hQ_1 hM_2) (hY.of (hM_2.1 14 (by decide) (by decide))) (ea_2.trans e1) (eb_2.trans e2) hP hD hS (lv_sub hl [2, 3, 4, 5, 6, 7] rfl)

set_option maxRecDepth 100000 in
set_option maxHeartbeats 4000000 in
theorem law_wouldChange (l : Launch) (hst : l.stackTraces = false) {p : Program} {e : Env} {s : State} {m : MethodId} {below : List Frame} {meth : Method} {c : Code} {b L : Nat} {xs : Nat → Int32} (C0 : lw_At p s m meth c b L xs) {D : va_G} {cA : Nat → ClassId} (hK : va_K D vwCl (ty6 cA) s) (hTB : TBok s) (hTX : TXok (fun q : Nat => s.heap.size ≤ q) s) {x ar ak qo qd am : Nat} {r : Nat → Nat} {c0 s0 i : Nat} (hc0 : c0 + 20 ≤ 601024) (hs0 : s0 + 400 ≤ 7293034) (hi : 6 * i + 6 ≤ L) (hL : L ≤ 3072) (hnext : ∀ (S : Pool) (M : MSt) (fo : Nat → Int64) (fd : Nat → UInt64) (n na : Nat) (hh cc : Int32) (H : Heap) (locs : List Loc) (ls : Array Slot) (d : Drawn), s.drawn.sameBut d lw_cs → INVC n na hh cc S x ar ak → INVR n na M → REL True n na S M ar → LAY n M → M.1 1 = cc → M.1 2 = hh → va_P D vwCl (LW cA S qo fo qd fd am r M) H → va_D (fun q : Nat => s.heap.size ≤ q) (LW cA S qo fo qd fd am r M) → va_S (fun q : Nat => s.heap.size ≤ q) s.heap H locs → lv_has ls 9 [(5, .int (nI (6 * i))), (4, .ref qd), (3, .ref qo), (2, .ref am), (1, .ref x), (0, .ref b)] → W p l e room_1 (s.setDrawn d) m #[Value.ref b] below meth c H locs (c0 + 20) (s0 + 400) (lw_Z below #[Value.ref b] s) (F0 m 1750 ls [])) {S : Pool} {M : MSt} {fo : Nat → Int64} {fd : Nat → UInt64} {n na : Nat} {hh cc : Int32} {H : Heap} {locs : List Loc} {ls : Array Slot} {d : Drawn} (hd0 : s.drawn.sameBut d lw_cs) (h : INVC n na hh cc S x ar ak) (hI : INVR n na M) (hL9 : REL True n na S M ar) (hY : LAY n M) (e1 : M.1 1 = cc) (e2 : M.1 2 = hh) (hP : va_P D vwCl (LW cA S qo fo qd fd am r M) H) (hD : va_D (fun q : Nat => s.heap.size ≤ q) (LW cA S qo fo qd fd am r M)) (hS : va_S (fun q : Nat => s.heap.size ≤ q) s.heap H locs) (hl : lv_has ls 9 [(5, .int (nI (6 * i))), (4, .ref qd), (3, .ref qo), (2, .ref am), (1, .ref x), (0, .ref b)]) : W p l e room_1 (s.setDrawn d) m #[Value.ref b] below meth c H locs c0 s0 (lw_Z below #[Value.ref b] s) (F0 m 1605 ls []) := by
  obtain ⟨hx, hb, hr, hml, hown, hts, hX, hbl, hlocks, hgv⟩ := id C0
  have hA : ∀ q : Nat, s.heap.size ≤ q → (fun q : Nat => s.heap.size ≤ q) q := fun _ h => h
  have hbA : ¬ (fun q : Nat => s.heap.size ≤ q) b := Nat.not_le.mpr hbl
  obtain ⟨a1, ea1⟩ : ∃ z, z = xs (6 * i + 1) := ⟨_, rfl⟩
  obtain ⟨a2, ea2⟩ : ∃ z, z = xs (6 * i + 2) := ⟨_, rfl⟩
  obtain ⟨a3, ea3⟩ : ∃ z, z = xs (6 * i + 3) := ⟨_, rfl⟩
  obtain ⟨a4, ea4⟩ : ∃ z, z = xs (6 * i + 4) := ⟨_, rfl⟩
  obtain ⟨a5, ea5⟩ : ∃ z, z = xs (6 * i + 5) := ⟨_, rfl⟩
  have htT0 : ∀ w ∈ TT, w.before _ s = true := fun w h => hts w (tt_in h)
  have hTB0 := hTB
  have hK0 := hK
  have hown0 : s.vm.findClass RL = some m.cls := hown
  have hTX0 := hTX
  have hX0 := hX
  have htT : ∀ w ∈ TT, w.before _ (s.setDrawn d) = true := dr_words htT0 d
  have hTB : TBok (s.setDrawn d) := TBok.same (u := s) (U := s.setDrawn d) rfl (Vm.Alike.refl s.vm) hTB0
  have hK : va_K D vwCl (ty6 cA) (s.setDrawn d) := hK0
  have hown : (s.setDrawn d).vm.findClass RL = some m.cls := hown0
  have hTX : TXok (fun q : Nat => s.heap.size ≤ q) (s.setDrawn d) := hTX0.dr d
  have hX : va_X b L xs (s.setDrawn d) (s.setDrawn d).heap := hX0
  refine lv_aload_n hx hb dL_law_1605 rfl (lv_at hl 4 rfl) ?_
  refine lv_aload_n hx hb dL_law_1606 rfl (lv_at hl 5 rfl) ?_
  refine lv_iload hx hb dL_law_1607 (lv_at hl 0 rfl) ?_
  refine lv_iconst (v := 1) hx hb dL_law_1609 (by decide) ?_
  refine lv_iadd hx hb dL_law_1610 ?_
  rw [show ((nI (6 * i)) + 1 : Int32) = nI ((6 * i) + 1) from nI_add (6 * i) 1]
  refine va_sld hx hb hX hbl hbA hS (show vp_in (nI ((6 * i) + 1)) L from ki_in (by omega) (by omega)) dL_law_1611 ?_
  rw [show xs (nI ((6 * i) + 1)).toNatClampNeg = a1 from (congrArg xs (ki_cl (by omega))).trans ea1.symm]
  refine lv_aload_n hx hb dL_law_1612 rfl (lv_at hl 5 rfl) ?_
  refine lv_iload hx hb dL_law_1613 (lv_at hl 0 rfl) ?_
  refine lv_iconst (v := 2) hx hb dL_law_1615 (by decide) ?_
  refine lv_iadd hx hb dL_law_1616 ?_
  rw [show ((nI (6 * i)) + 2 : Int32) = nI ((6 * i) + 2) from nI_add (6 * i) 2]
  refine va_sld hx hb hX hbl hbA hS (show vp_in (nI ((6 * i) + 2)) L from ki_in (by omega) (by omega)) dL_law_1617 ?_
  rw [show xs (nI ((6 * i) + 2)).toNatClampNeg = a2 from (congrArg xs (ki_cl (by omega))).trans ea2.symm]
  refine lv_aload_n hx hb dL_law_1618 rfl (lv_at hl 5 rfl) ?_
  refine lv_iload hx hb dL_law_1619 (lv_at hl 0 rfl) ?_
  refine lv_iconst (v := 3) hx hb dL_law_1621 (by decide) ?_
  refine lv_iadd hx hb dL_law_1622 ?_
  rw [show ((nI (6 * i)) + 3 : Int32) = nI ((6 * i) + 3) from nI_add (6 * i) 3]
  refine va_sld hx hb hX hbl hbA hS (show vp_in (nI ((6 * i) + 3)) L from ki_in (by omega) (by omega)) dL_law_1623 ?_
  rw [show xs (nI ((6 * i) + 3)).toNatClampNeg = a3 from (congrArg xs (ki_cl (by omega))).trans ea3.symm]
  refine lv_aload_n hx hb dL_law_1624 rfl (lv_at hl 2 rfl) ?_
  refine kj_i (pmJ _ _ _ _) (vx_runSW (As := [.ref x, .int a1, .int a2, .int a3, .ref qo]) (rest := []) ⟨hx, hb, hml, hown, htT⟩ (w_wouldChange l hst D cA _ S x qo fo n na hh cc ar ak h a1 a2 a3) (vx_cwSW 5 htT (kg_SW m_ml_L_233 m_st_L_wouldChange m_in_L m_cd_L_wouldChange) rfl rfl rfl (by decide +kernel) ⟨Nat.le_of_ble_eq_true rfl, Nat.le_of_ble_eq_true rfl⟩) (kj_SX (pmJ _ _ _ _) hK hP hD hTB hTX hS hA) rfl rfl hl.1 rfl (lv_room (Nat.le_of_ble_eq_true rfl)) dL_law_1625 ⟨(by show _ ≤ 601024; omega), (by show _ ≤ 7293034; omega)⟩) hP hD hS hA (fun r_1 x_1 H locs hq_1 hP hD hS => ?_)
  rw [List.append_assoc] at hP hD
  obtain ⟨hC_1, hQ_1⟩ := hq_1
  refine lv_istore (lv' := [(6, .int r_1), (5, .int (nI (6 * i))), (4, .ref qd), (3, .ref qo), (2, .ref am), (1, .ref x), (0, .ref b)]) hx hb dL_law_1628 hl (by decide) rfl (fun ls hl => ?_)
  refine lv_aload_n hx hb dL_law_1630 rfl (lv_at hl 4 rfl) ?_
  refine lv_aload_n hx hb dL_law_1631 rfl (lv_at hl 6 rfl) ?_
  refine lv_iload hx hb dL_law_1632 (lv_at hl 1 rfl) ?_
  refine lv_iconst (v := 1) hx hb dL_law_1634 (by decide) ?_
  refine lv_iadd hx hb dL_law_1635 ?_
  rw [show ((nI (6 * i)) + 1 : Int32) = nI ((6 * i) + 1) from nI_add (6 * i) 1]
  refine va_sld hx hb hX hbl hbA hS (show vp_in (nI ((6 * i) + 1)) L from ki_in (by omega) (by omega)) dL_law_1636 ?_
  rw [show xs (nI ((6 * i) + 1)).toNatClampNeg = a1 from (congrArg xs (ki_cl (by omega))).trans ea1.symm]
  refine lv_aload_n hx hb dL_law_1637 rfl (lv_at hl 6 rfl) ?_
  refine lv_iload hx hb dL_law_1638 (lv_at hl 1 rfl) ?_
  refine lv_iconst (v := 2) hx hb dL_law_1640 (by decide) ?_
  refine lv_iadd hx hb dL_law_1641 ?_
  rw [show ((nI (6 * i)) + 2 : Int32) = nI ((6 * i) + 2) from nI_add (6 * i) 2]
  refine va_sld hx hb hX hbl hbA hS (show vp_in (nI ((6 * i) + 2)) L from ki_in (by omega) (by omega)) dL_law_1642 ?_
  rw [show xs (nI ((6 * i) + 2)).toNatClampNeg = a2 from (congrArg xs (ki_cl (by omega))).trans ea2.symm]
  refine lv_aload_n hx hb dL_law_1643 rfl (lv_at hl 6 rfl) ?_
  refine lv_iload hx hb dL_law_1644 (lv_at hl 1 rfl) ?_
  refine lv_iconst (v := 3) hx hb dL_law_1646 (by decide) ?_
  refine lv_iadd hx hb dL_law_1647 ?_
  rw [show ((nI (6 * i)) + 3 : Int32) = nI ((6 * i) + 3) from nI_add (6 * i) 3]
  refine va_sld hx hb hX hbl hbA hS (show vp_in (nI ((6 * i) + 3)) L from ki_in (by omega) (by omega)) dL_law_1648 ?_
  rw [show xs (nI ((6 * i) + 3)).toNatClampNeg = a3 from (congrArg xs (ki_cl (by omega))).trans ea3.symm]
  refine kj_i (pmM _ _ _ _) (va_runV (As := [.int a1, .int a2, .int a3]) (rest := []) ⟨hx, hb, hml, hown, htT⟩ (t_wouldChange l D cA _ am r M n na hI a1 a2 a3) (cwV 3 htT (kg_V m_ml_L_235 m_im_X6_wouldChange m_sl_X6_wouldChange m_in_X6 m_cd_X6_wouldChange) rfl rfl rfl (by decide +kernel) ⟨Nat.le_of_ble_eq_true rfl, Nat.le_of_ble_eq_true rfl⟩) (kj_V (pmM _ _ _ _) hK hP hD hTB (kj_rm (pmM _ _ _ _) hK hP)) rfl rfl hl.1 rfl (lv_room (Nat.le_of_ble_eq_true rfl)) dL_law_1649 ⟨(by show _ ≤ 601024; omega), (by show _ ≤ 7293034; omega)⟩) hP hD hS hA (fun r_2 x_2 H locs hq_2 hP hD hS => ?_)
  have hP := kj_P (pmM _ _ _ _).symm hP
  have hD := kj_D (pmM _ _ _ _).symm hD
  obtain ⟨hI_2, hM_2⟩ := hq_2
  have ea_2 := hM_2.2 1 (by decide) (by decide)
  have eb_2 := hM_2.2 2 (by decide) (by decide)
  refine lv_istore (lv' := [(7, .int r_2), (6, .int r_1), (5, .int (nI (6 * i))), (4, .ref qd), (3, .ref qo), (2, .ref am), (1, .ref x), (0, .ref b)]) hx hb dL_law_1652 hl (by decide) rfl (fun ls hl => ?_)
  refine lv_goto (tgt := 1750) hx hb dL_law_1654 (by decide) ?_
  refine W.widen (k := c0 + 20) (n := s0 + 400) (by omega) (by omega) ?_
  exact hnext _ x_2 _ _ _ _ _ _ _ _ _ _ hd0 hC_1 hI_2 (hL9.qc h hQ_1 hM_2) (hY.of (hM_2.1 14 (by decide) (by decide))) (ea_2.trans e1) (eb_2.trans e2) hP hD hS (lv_sub hl [2, 3, 4, 5, 6, 7] rfl)

set_option maxRecDepth 100000 in
set_option maxHeartbeats 4000000 in
theorem law_wouldTurn (l : Launch) (hst : l.stackTraces = false) {p : Program} {e : Env} {s : State} {m : MethodId} {below : List Frame} {meth : Method} {c : Code} {b L : Nat} {xs : Nat → Int32} (C0 : lw_At p s m meth c b L xs) {D : va_G} {cA : Nat → ClassId} (hK : va_K D vwCl (ty6 cA) s) (hTB : TBok s) (hTX : TXok (fun q : Nat => s.heap.size ≤ q) s) {x ar ak qo qd am : Nat} {r : Nat → Nat} {c0 s0 i : Nat} (hc0 : c0 + 20 ≤ 601024) (hs0 : s0 + 400 ≤ 7293034) (hi : 6 * i + 6 ≤ L) (hL : L ≤ 3072) (hnext : ∀ (S : Pool) (M : MSt) (fo : Nat → Int64) (fd : Nat → UInt64) (n na : Nat) (hh cc : Int32) (H : Heap) (locs : List Loc) (ls : Array Slot) (d : Drawn), s.drawn.sameBut d lw_cs → INVC n na hh cc S x ar ak → INVR n na M → REL True n na S M ar → LAY n M → M.1 1 = cc → M.1 2 = hh → va_P D vwCl (LW cA S qo fo qd fd am r M) H → va_D (fun q : Nat => s.heap.size ≤ q) (LW cA S qo fo qd fd am r M) → va_S (fun q : Nat => s.heap.size ≤ q) s.heap H locs → lv_has ls 9 [(5, .int (nI (6 * i))), (4, .ref qd), (3, .ref qo), (2, .ref am), (1, .ref x), (0, .ref b)] → W p l e room_1 (s.setDrawn d) m #[Value.ref b] below meth c H locs (c0 + 20) (s0 + 400) (lw_Z below #[Value.ref b] s) (F0 m 1750 ls [])) {S : Pool} {M : MSt} {fo : Nat → Int64} {fd : Nat → UInt64} {n na : Nat} {hh cc : Int32} {H : Heap} {locs : List Loc} {ls : Array Slot} {d : Drawn} (hd0 : s.drawn.sameBut d lw_cs) (h : INVC n na hh cc S x ar ak) (hI : INVR n na M) (hL9 : REL True n na S M ar) (hY : LAY n M) (e1 : M.1 1 = cc) (e2 : M.1 2 = hh) (hP : va_P D vwCl (LW cA S qo fo qd fd am r M) H) (hD : va_D (fun q : Nat => s.heap.size ≤ q) (LW cA S qo fo qd fd am r M)) (hS : va_S (fun q : Nat => s.heap.size ≤ q) s.heap H locs) (hl : lv_has ls 9 [(5, .int (nI (6 * i))), (4, .ref qd), (3, .ref qo), (2, .ref am), (1, .ref x), (0, .ref b)]) : W p l e room_1 (s.setDrawn d) m #[Value.ref b] below meth c H locs c0 s0 (lw_Z below #[Value.ref b] s) (F0 m 1657 ls []) := by
  obtain ⟨hx, hb, hr, hml, hown, hts, hX, hbl, hlocks, hgv⟩ := id C0
  have hA : ∀ q : Nat, s.heap.size ≤ q → (fun q : Nat => s.heap.size ≤ q) q := fun _ h => h
  have hbA : ¬ (fun q : Nat => s.heap.size ≤ q) b := Nat.not_le.mpr hbl
  obtain ⟨a1, ea1⟩ : ∃ z, z = xs (6 * i + 1) := ⟨_, rfl⟩
  obtain ⟨a2, ea2⟩ : ∃ z, z = xs (6 * i + 2) := ⟨_, rfl⟩
  obtain ⟨a3, ea3⟩ : ∃ z, z = xs (6 * i + 3) := ⟨_, rfl⟩
  obtain ⟨a4, ea4⟩ : ∃ z, z = xs (6 * i + 4) := ⟨_, rfl⟩
  obtain ⟨a5, ea5⟩ : ∃ z, z = xs (6 * i + 5) := ⟨_, rfl⟩
  have htT0 : ∀ w ∈ TT, w.before _ s = true := fun w h => hts w (tt_in h)
  have hTB0 := hTB
  have hK0 := hK
  have hown0 : s.vm.findClass RL = some m.cls := hown
  have hTX0 := hTX
  have hX0 := hX
  have htT : ∀ w ∈ TT, w.before _ (s.setDrawn d) = true := dr_words htT0 d
  have hTB : TBok (s.setDrawn d) := TBok.same (u := s) (U := s.setDrawn d) rfl (Vm.Alike.refl s.vm) hTB0
  have hK : va_K D vwCl (ty6 cA) (s.setDrawn d) := hK0
  have hown : (s.setDrawn d).vm.findClass RL = some m.cls := hown0
  have hTX : TXok (fun q : Nat => s.heap.size ≤ q) (s.setDrawn d) := hTX0.dr d
  have hX : va_X b L xs (s.setDrawn d) (s.setDrawn d).heap := hX0
  refine lv_aload_n hx hb dL_law_1657 rfl (lv_at hl 4 rfl) ?_
  refine lv_aload_n hx hb dL_law_1658 rfl (lv_at hl 5 rfl) ?_
  refine lv_iload hx hb dL_law_1659 (lv_at hl 0 rfl) ?_
  refine lv_iconst (v := 1) hx hb dL_law_1661 (by decide) ?_
  refine lv_iadd hx hb dL_law_1662 ?_
  rw [show ((nI (6 * i)) + 1 : Int32) = nI ((6 * i) + 1) from nI_add (6 * i) 1]
  refine va_sld hx hb hX hbl hbA hS (show vp_in (nI ((6 * i) + 1)) L from ki_in (by omega) (by omega)) dL_law_1663 ?_
  rw [show xs (nI ((6 * i) + 1)).toNatClampNeg = a1 from (congrArg xs (ki_cl (by omega))).trans ea1.symm]
  refine lv_aload_n hx hb dL_law_1664 rfl (lv_at hl 5 rfl) ?_
  refine lv_iload hx hb dL_law_1665 (lv_at hl 0 rfl) ?_
  refine lv_iconst (v := 2) hx hb dL_law_1667 (by decide) ?_
  refine lv_iadd hx hb dL_law_1668 ?_
  rw [show ((nI (6 * i)) + 2 : Int32) = nI ((6 * i) + 2) from nI_add (6 * i) 2]
  refine va_sld hx hb hX hbl hbA hS (show vp_in (nI ((6 * i) + 2)) L from ki_in (by omega) (by omega)) dL_law_1669 ?_
  rw [show xs (nI ((6 * i) + 2)).toNatClampNeg = a2 from (congrArg xs (ki_cl (by omega))).trans ea2.symm]
  refine lv_aload_n hx hb dL_law_1670 rfl (lv_at hl 2 rfl) ?_
  refine kj_i (pmJ _ _ _ _) (vx_runSW (As := [.ref x, .int a1, .int a2, .ref qo]) (rest := []) ⟨hx, hb, hml, hown, htT⟩ (w_wouldTurn l hst D cA _ S x qo fo n na hh cc ar ak h a1 a2) (vx_cwSW 4 htT (kg_SW m_ml_L_236 m_st_L_wouldTurn m_in_L m_cd_L_wouldTurn) rfl rfl rfl (by decide +kernel) ⟨Nat.le_of_ble_eq_true rfl, Nat.le_of_ble_eq_true rfl⟩) (kj_SX (pmJ _ _ _ _) hK hP hD hTB hTX hS hA) rfl rfl hl.1 rfl (lv_room (Nat.le_of_ble_eq_true rfl)) dL_law_1671 ⟨(by show _ ≤ 601024; omega), (by show _ ≤ 7293034; omega)⟩) hP hD hS hA (fun r_1 x_1 H locs hq_1 hP hD hS => ?_)
  rw [List.append_assoc] at hP hD
  obtain ⟨hC_1, hQ_1⟩ := hq_1
  refine lv_istore (lv' := [(6, .int r_1), (5, .int (nI (6 * i))), (4, .ref qd), (3, .ref qo), (2, .ref am), (1, .ref x), (0, .ref b)]) hx hb dL_law_1674 hl (by decide) rfl (fun ls hl => ?_)
  refine lv_aload_n hx hb dL_law_1676 rfl (lv_at hl 4 rfl) ?_
  refine lv_aload_n hx hb dL_law_1677 rfl (lv_at hl 6 rfl) ?_
  refine lv_iload hx hb dL_law_1678 (lv_at hl 1 rfl) ?_
  refine lv_iconst (v := 1) hx hb dL_law_1680 (by decide) ?_
  refine lv_iadd hx hb dL_law_1681 ?_
  rw [show ((nI (6 * i)) + 1 : Int32) = nI ((6 * i) + 1) from nI_add (6 * i) 1]
  refine va_sld hx hb hX hbl hbA hS (show vp_in (nI ((6 * i) + 1)) L from ki_in (by omega) (by omega)) dL_law_1682 ?_
  rw [show xs (nI ((6 * i) + 1)).toNatClampNeg = a1 from (congrArg xs (ki_cl (by omega))).trans ea1.symm]
  refine lv_aload_n hx hb dL_law_1683 rfl (lv_at hl 6 rfl) ?_
  refine lv_iload hx hb dL_law_1684 (lv_at hl 1 rfl) ?_
  refine lv_iconst (v := 2) hx hb dL_law_1686 (by decide) ?_
  refine lv_iadd hx hb dL_law_1687 ?_
  rw [show ((nI (6 * i)) + 2 : Int32) = nI ((6 * i) + 2) from nI_add (6 * i) 2]
  refine va_sld hx hb hX hbl hbA hS (show vp_in (nI ((6 * i) + 2)) L from ki_in (by omega) (by omega)) dL_law_1688 ?_
  rw [show xs (nI ((6 * i) + 2)).toNatClampNeg = a2 from (congrArg xs (ki_cl (by omega))).trans ea2.symm]
  refine kj_i (pmM _ _ _ _) (va_runV (As := [.int a1, .int a2]) (rest := []) ⟨hx, hb, hml, hown, htT⟩ (t_wouldTurn l D cA _ am r M n na hI a1 a2) (cwV 2 htT (kg_V m_ml_L_238 m_im_X6_wouldTurn m_sl_X6_wouldTurn m_in_X6 m_cd_X6_wouldTurn) rfl rfl rfl (by decide +kernel) ⟨Nat.le_of_ble_eq_true rfl, Nat.le_of_ble_eq_true rfl⟩) (kj_V (pmM _ _ _ _) hK hP hD hTB (kj_rm (pmM _ _ _ _) hK hP)) rfl rfl hl.1 rfl (lv_room (Nat.le_of_ble_eq_true rfl)) dL_law_1689 ⟨(by show _ ≤ 601024; omega), (by show _ ≤ 7293034; omega)⟩) hP hD hS hA (fun r_2 x_2 H locs hq_2 hP hD hS => ?_)
  have hP := kj_P (pmM _ _ _ _).symm hP
  have hD := kj_D (pmM _ _ _ _).symm hD
  obtain ⟨hI_2, hM_2⟩ := hq_2
  have ea_2 := hM_2.2 1 (by decide) (by decide)
  have eb_2 := hM_2.2 2 (by decide) (by decide)
  refine lv_istore (lv' := [(7, .int r_2), (6, .int r_1), (5, .int (nI (6 * i))), (4, .ref qd), (3, .ref qo), (2, .ref am), (1, .ref x), (0, .ref b)]) hx hb dL_law_1692 hl (by decide) rfl (fun ls hl => ?_)
  refine lv_goto (tgt := 1750) hx hb dL_law_1694 (by decide) ?_
  refine W.widen (k := c0 + 20) (n := s0 + 400) (by omega) (by omega) ?_
  exact hnext _ x_2 _ _ _ _ _ _ _ _ _ _ hd0 hC_1 hI_2 (hL9.qc h hQ_1 hM_2) (hY.of (hM_2.1 14 (by decide) (by decide))) (ea_2.trans e1) (eb_2.trans e2) hP hD hS (lv_sub hl [2, 3, 4, 5, 6, 7] rfl)

set_option maxRecDepth 100000 in
set_option maxHeartbeats 4000000 in
theorem law_shareIn (l : Launch) (hst : l.stackTraces = false) {p : Program} {e : Env} {s : State} {m : MethodId} {below : List Frame} {meth : Method} {c : Code} {b L : Nat} {xs : Nat → Int32} (C0 : lw_At p s m meth c b L xs) {D : va_G} {cA : Nat → ClassId} (hK : va_K D vwCl (ty6 cA) s) (hTB : TBok s) (hTX : TXok (fun q : Nat => s.heap.size ≤ q) s) {x ar ak qo qd am : Nat} {r : Nat → Nat} {c0 s0 i : Nat} (hc0 : c0 + 20 ≤ 601024) (hs0 : s0 + 400 ≤ 7293034) (hi : 6 * i + 6 ≤ L) (hL : L ≤ 3072) (hnext : ∀ (S : Pool) (M : MSt) (fo : Nat → Int64) (fd : Nat → UInt64) (n na : Nat) (hh cc : Int32) (H : Heap) (locs : List Loc) (ls : Array Slot) (d : Drawn), s.drawn.sameBut d lw_cs → INVC n na hh cc S x ar ak → INVR n na M → REL True n na S M ar → LAY n M → M.1 1 = cc → M.1 2 = hh → va_P D vwCl (LW cA S qo fo qd fd am r M) H → va_D (fun q : Nat => s.heap.size ≤ q) (LW cA S qo fo qd fd am r M) → va_S (fun q : Nat => s.heap.size ≤ q) s.heap H locs → lv_has ls 9 [(5, .int (nI (6 * i))), (4, .ref qd), (3, .ref qo), (2, .ref am), (1, .ref x), (0, .ref b)] → W p l e room_1 (s.setDrawn d) m #[Value.ref b] below meth c H locs (c0 + 20) (s0 + 400) (lw_Z below #[Value.ref b] s) (F0 m 1750 ls [])) {S : Pool} {M : MSt} {fo : Nat → Int64} {fd : Nat → UInt64} {n na : Nat} {hh cc : Int32} {H : Heap} {locs : List Loc} {ls : Array Slot} {d : Drawn} (hd0 : s.drawn.sameBut d lw_cs) (h : INVC n na hh cc S x ar ak) (hI : INVR n na M) (hL9 : REL True n na S M ar) (hY : LAY n M) (e1 : M.1 1 = cc) (e2 : M.1 2 = hh) (hP : va_P D vwCl (LW cA S qo fo qd fd am r M) H) (hD : va_D (fun q : Nat => s.heap.size ≤ q) (LW cA S qo fo qd fd am r M)) (hS : va_S (fun q : Nat => s.heap.size ≤ q) s.heap H locs) (hl : lv_has ls 9 [(5, .int (nI (6 * i))), (4, .ref qd), (3, .ref qo), (2, .ref am), (1, .ref x), (0, .ref b)]) : W p l e room_1 (s.setDrawn d) m #[Value.ref b] below meth c H locs c0 s0 (lw_Z below #[Value.ref b] s) (F0 m 1697 ls []) := by
  obtain ⟨hx, hb, hr, hml, hown, hts, hX, hbl, hlocks, hgv⟩ := id C0
  have hA : ∀ q : Nat, s.heap.size ≤ q → (fun q : Nat => s.heap.size ≤ q) q := fun _ h => h
  have hbA : ¬ (fun q : Nat => s.heap.size ≤ q) b := Nat.not_le.mpr hbl
  obtain ⟨a1, ea1⟩ : ∃ z, z = xs (6 * i + 1) := ⟨_, rfl⟩
  obtain ⟨a2, ea2⟩ : ∃ z, z = xs (6 * i + 2) := ⟨_, rfl⟩
  obtain ⟨a3, ea3⟩ : ∃ z, z = xs (6 * i + 3) := ⟨_, rfl⟩
  obtain ⟨a4, ea4⟩ : ∃ z, z = xs (6 * i + 4) := ⟨_, rfl⟩
  obtain ⟨a5, ea5⟩ : ∃ z, z = xs (6 * i + 5) := ⟨_, rfl⟩
  have htT0 : ∀ w ∈ TT, w.before _ s = true := fun w h => hts w (tt_in h)
  have hTB0 := hTB
  have hK0 := hK
  have hown0 : s.vm.findClass RL = some m.cls := hown
  have hTX0 := hTX
  have hX0 := hX
  have htT : ∀ w ∈ TT, w.before _ (s.setDrawn d) = true := dr_words htT0 d
  have hTB : TBok (s.setDrawn d) := TBok.same (u := s) (U := s.setDrawn d) rfl (Vm.Alike.refl s.vm) hTB0
  have hK : va_K D vwCl (ty6 cA) (s.setDrawn d) := hK0
  have hown : (s.setDrawn d).vm.findClass RL = some m.cls := hown0
  have hTX : TXok (fun q : Nat => s.heap.size ≤ q) (s.setDrawn d) := hTX0.dr d
  have hX : va_X b L xs (s.setDrawn d) (s.setDrawn d).heap := hX0
  refine lv_aload_n hx hb dL_law_1697 rfl (lv_at hl 4 rfl) ?_
  refine lv_aload_n hx hb dL_law_1698 rfl (lv_at hl 5 rfl) ?_
  refine lv_iload hx hb dL_law_1699 (lv_at hl 0 rfl) ?_
  refine lv_iconst (v := 1) hx hb dL_law_1701 (by decide) ?_
  refine lv_iadd hx hb dL_law_1702 ?_
  rw [show ((nI (6 * i)) + 1 : Int32) = nI ((6 * i) + 1) from nI_add (6 * i) 1]
  refine va_sld hx hb hX hbl hbA hS (show vp_in (nI ((6 * i) + 1)) L from ki_in (by omega) (by omega)) dL_law_1703 ?_
  rw [show xs (nI ((6 * i) + 1)).toNatClampNeg = a1 from (congrArg xs (ki_cl (by omega))).trans ea1.symm]
  refine lv_aload_n hx hb dL_law_1704 rfl (lv_at hl 5 rfl) ?_
  refine lv_iload hx hb dL_law_1705 (lv_at hl 0 rfl) ?_
  refine lv_iconst (v := 2) hx hb dL_law_1707 (by decide) ?_
  refine lv_iadd hx hb dL_law_1708 ?_
  rw [show ((nI (6 * i)) + 2 : Int32) = nI ((6 * i) + 2) from nI_add (6 * i) 2]
  refine va_sld hx hb hX hbl hbA hS (show vp_in (nI ((6 * i) + 2)) L from ki_in (by omega) (by omega)) dL_law_1709 ?_
  rw [show xs (nI ((6 * i) + 2)).toNatClampNeg = a2 from (congrArg xs (ki_cl (by omega))).trans ea2.symm]
  refine lv_aload_n hx hb dL_law_1710 rfl (lv_at hl 2 rfl) ?_
  refine kj_i (pmJ _ _ _ _) (vx_runSW (As := [.ref x, .int a1, .int a2, .ref qo]) (rest := []) ⟨hx, hb, hml, hown, htT⟩ (w_shareIn l hst D cA _ S x qo fo n na hh cc ar ak h a1 a2) (vx_cwSW 4 htT (kg_SW m_ml_L_239 m_st_L_shareIn m_in_L m_cd_L_shareIn) rfl rfl rfl (by decide +kernel) ⟨Nat.le_of_ble_eq_true rfl, Nat.le_of_ble_eq_true rfl⟩) (kj_SX (pmJ _ _ _ _) hK hP hD hTB hTX hS hA) rfl rfl hl.1 rfl (lv_room (Nat.le_of_ble_eq_true rfl)) dL_law_1711 ⟨(by show _ ≤ 601024; omega), (by show _ ≤ 7293034; omega)⟩) hP hD hS hA (fun r_1 x_1 H locs hq_1 hP hD hS => ?_)
  rw [List.append_assoc] at hP hD
  obtain ⟨hC_1, hQ_1⟩ := hq_1
  refine lv_istore (lv' := [(6, .int r_1), (5, .int (nI (6 * i))), (4, .ref qd), (3, .ref qo), (2, .ref am), (1, .ref x), (0, .ref b)]) hx hb dL_law_1714 hl (by decide) rfl (fun ls hl => ?_)
  refine lv_aload_n hx hb dL_law_1716 rfl (lv_at hl 4 rfl) ?_
  refine lv_aload_n hx hb dL_law_1717 rfl (lv_at hl 6 rfl) ?_
  refine lv_iload hx hb dL_law_1718 (lv_at hl 1 rfl) ?_
  refine lv_iconst (v := 1) hx hb dL_law_1720 (by decide) ?_
  refine lv_iadd hx hb dL_law_1721 ?_
  rw [show ((nI (6 * i)) + 1 : Int32) = nI ((6 * i) + 1) from nI_add (6 * i) 1]
  refine va_sld hx hb hX hbl hbA hS (show vp_in (nI ((6 * i) + 1)) L from ki_in (by omega) (by omega)) dL_law_1722 ?_
  rw [show xs (nI ((6 * i) + 1)).toNatClampNeg = a1 from (congrArg xs (ki_cl (by omega))).trans ea1.symm]
  refine lv_aload_n hx hb dL_law_1723 rfl (lv_at hl 6 rfl) ?_
  refine lv_iload hx hb dL_law_1724 (lv_at hl 1 rfl) ?_
  refine lv_iconst (v := 2) hx hb dL_law_1726 (by decide) ?_
  refine lv_iadd hx hb dL_law_1727 ?_
  rw [show ((nI (6 * i)) + 2 : Int32) = nI ((6 * i) + 2) from nI_add (6 * i) 2]
  refine va_sld hx hb hX hbl hbA hS (show vp_in (nI ((6 * i) + 2)) L from ki_in (by omega) (by omega)) dL_law_1728 ?_
  rw [show xs (nI ((6 * i) + 2)).toNatClampNeg = a2 from (congrArg xs (ki_cl (by omega))).trans ea2.symm]
  refine kj_i (pmM _ _ _ _) (va_runV (As := [.int a1, .int a2]) (rest := []) ⟨hx, hb, hml, hown, htT⟩ (t_shareIn l D cA _ am r M n na hI a1 a2) (cwV 2 htT (kg_V m_ml_L_241 m_im_X6_shareIn m_sl_X6_shareIn m_in_X6 m_cd_X6_shareIn) rfl rfl rfl (by decide +kernel) ⟨Nat.le_of_ble_eq_true rfl, Nat.le_of_ble_eq_true rfl⟩) (kj_V (pmM _ _ _ _) hK hP hD hTB (kj_rm (pmM _ _ _ _) hK hP)) rfl rfl hl.1 rfl (lv_room (Nat.le_of_ble_eq_true rfl)) dL_law_1729 ⟨(by show _ ≤ 601024; omega), (by show _ ≤ 7293034; omega)⟩) hP hD hS hA (fun r_2 x_2 H locs hq_2 hP hD hS => ?_)
  have hP := kj_P (pmM _ _ _ _).symm hP
  have hD := kj_D (pmM _ _ _ _).symm hD
  obtain ⟨hI_2, hM_2⟩ := hq_2
  have ea_2 := hM_2.2 1 (by decide) (by decide)
  have eb_2 := hM_2.2 2 (by decide) (by decide)
  refine lv_istore (lv' := [(7, .int r_2), (6, .int r_1), (5, .int (nI (6 * i))), (4, .ref qd), (3, .ref qo), (2, .ref am), (1, .ref x), (0, .ref b)]) hx hb dL_law_1732 hl (by decide) rfl (fun ls hl => ?_)
  refine lv_goto (tgt := 1750) hx hb dL_law_1734 (by decide) ?_
  refine W.widen (k := c0 + 20) (n := s0 + 400) (by omega) (by omega) ?_
  exact hnext _ x_2 _ _ _ _ _ _ _ _ _ _ hd0 hC_1 hI_2 (hL9.qc h hQ_1 hM_2) (hY.of (hM_2.1 14 (by decide) (by decide))) (ea_2.trans e1) (eb_2.trans e2) hP hD hS (lv_sub hl [2, 3, 4, 5, 6, 7] rfl)

set_option maxRecDepth 100000 in
set_option maxHeartbeats 4000000 in
theorem law_digest (l : Launch) (hst : l.stackTraces = false) {p : Program} {e : Env} {s : State} {m : MethodId} {below : List Frame} {meth : Method} {c : Code} {b L : Nat} {xs : Nat → Int32} (C0 : lw_At p s m meth c b L xs) {D : va_G} {cA : Nat → ClassId} (hK : va_K D vwCl (ty6 cA) s) (hTB : TBok s) (hTX : TXok (fun q : Nat => s.heap.size ≤ q) s) {x ar ak qo qd am : Nat} {r : Nat → Nat} {c0 s0 i : Nat} (hc0 : c0 + 20 ≤ 601024) (hs0 : s0 + 400 ≤ 7293034) (hi : 6 * i + 6 ≤ L) (hL : L ≤ 3072) (hnext : ∀ (S : Pool) (M : MSt) (fo : Nat → Int64) (fd : Nat → UInt64) (n na : Nat) (hh cc : Int32) (H : Heap) (locs : List Loc) (ls : Array Slot) (d : Drawn), s.drawn.sameBut d lw_cs → INVC n na hh cc S x ar ak → INVR n na M → REL True n na S M ar → LAY n M → M.1 1 = cc → M.1 2 = hh → va_P D vwCl (LW cA S qo fo qd fd am r M) H → va_D (fun q : Nat => s.heap.size ≤ q) (LW cA S qo fo qd fd am r M) → va_S (fun q : Nat => s.heap.size ≤ q) s.heap H locs → lv_has ls 9 [(5, .int (nI (6 * i))), (4, .ref qd), (3, .ref qo), (2, .ref am), (1, .ref x), (0, .ref b)] → W p l e room_1 (s.setDrawn d) m #[Value.ref b] below meth c H locs (c0 + 20) (s0 + 400) (lw_Z below #[Value.ref b] s) (F0 m 1750 ls [])) {S : Pool} {M : MSt} {fo : Nat → Int64} {fd : Nat → UInt64} {n na : Nat} {hh cc : Int32} {H : Heap} {locs : List Loc} {ls : Array Slot} {d : Drawn} (hd0 : s.drawn.sameBut d lw_cs) (h : INVC n na hh cc S x ar ak) (hI : INVR n na M) (hL9 : REL True n na S M ar) (hY : LAY n M) (e1 : M.1 1 = cc) (e2 : M.1 2 = hh) (hP : va_P D vwCl (LW cA S qo fo qd fd am r M) H) (hD : va_D (fun q : Nat => s.heap.size ≤ q) (LW cA S qo fo qd fd am r M)) (hS : va_S (fun q : Nat => s.heap.size ≤ q) s.heap H locs) (hl : lv_has ls 9 [(5, .int (nI (6 * i))), (4, .ref qd), (3, .ref qo), (2, .ref am), (1, .ref x), (0, .ref b)]) : W p l e room_1 (s.setDrawn d) m #[Value.ref b] below meth c H locs c0 s0 (lw_Z below #[Value.ref b] s) (F0 m 1737 ls []) := by
  obtain ⟨hx, hb, hr, hml, hown, hts, hX, hbl, hlocks, hgv⟩ := id C0
  have hA : ∀ q : Nat, s.heap.size ≤ q → (fun q : Nat => s.heap.size ≤ q) q := fun _ h => h
  have hbA : ¬ (fun q : Nat => s.heap.size ≤ q) b := Nat.not_le.mpr hbl
  obtain ⟨a1, ea1⟩ : ∃ z, z = xs (6 * i + 1) := ⟨_, rfl⟩
  obtain ⟨a2, ea2⟩ : ∃ z, z = xs (6 * i + 2) := ⟨_, rfl⟩
  obtain ⟨a3, ea3⟩ : ∃ z, z = xs (6 * i + 3) := ⟨_, rfl⟩
  obtain ⟨a4, ea4⟩ : ∃ z, z = xs (6 * i + 4) := ⟨_, rfl⟩
  obtain ⟨a5, ea5⟩ : ∃ z, z = xs (6 * i + 5) := ⟨_, rfl⟩
  have htT0 : ∀ w ∈ TT, w.before _ s = true := fun w h => hts w (tt_in h)
  have hTB0 := hTB
  have hK0 := hK
  have hown0 : s.vm.findClass RL = some m.cls := hown
  have hTX0 := hTX
  have hX0 := hX
  have htT : ∀ w ∈ TT, w.before _ (s.setDrawn d) = true := dr_words htT0 d
  have hTB : TBok (s.setDrawn d) := TBok.same (u := s) (U := s.setDrawn d) rfl (Vm.Alike.refl s.vm) hTB0
  have hK : va_K D vwCl (ty6 cA) (s.setDrawn d) := hK0
  have hown : (s.setDrawn d).vm.findClass RL = some m.cls := hown0
  have hTX : TXok (fun q : Nat => s.heap.size ≤ q) (s.setDrawn d) := hTX0.dr d
  have hX : va_X b L xs (s.setDrawn d) (s.setDrawn d).heap := hX0
  refine lv_aload_n hx hb dL_law_1737 rfl (lv_at hl 4 rfl) ?_
  refine kjD_l hd0 (List.Perm.refl _) (va_runV_D (As := []) (rest := []) ⟨hx, hb, hml, hown, htT⟩ (c_digest l D cA _ S x h.hx ar h.q0 ak h.q1 h.kk h.R n h.n8 h.x2 h.row (fun k a hk ha => (h.s k hk a ha).2.1)) (cwV 0 htT (kg_V m_ml_L_242 m_im_X5_digest m_sl_X5_digest m_in_X5 m_cd_X5_digest) rfl rfl rfl (by decide +kernel) ⟨Nat.le_of_ble_eq_true rfl, Nat.le_of_ble_eq_true rfl⟩) (kj_V (List.Perm.refl _) hK hP hD hTB (kj_rc (List.Perm.refl _) hK hP h.hx (Nat.le_of_ble_eq_true rfl) rfl)) rfl rfl hl.1 rfl (lv_room (Nat.le_of_ble_eq_true rfl)) dL_law_1738 ⟨(by show _ ≤ 601024; omega), (by show _ ≤ 7293034; omega)⟩) hP hD hS hA (fun r_1 x_1 H locs hq_1 hP hD hS d_1 hd0 => ?_)
  have htT : ∀ w ∈ TT, w.before _ (s.setDrawn d_1) = true := dr_words htT0 d_1
  have hTB : TBok (s.setDrawn d_1) := TBok.same (u := s) (U := s.setDrawn d_1) rfl (Vm.Alike.refl s.vm) hTB0
  have hK : va_K D vwCl (ty6 cA) (s.setDrawn d_1) := hK0
  have hown : (s.setDrawn d_1).vm.findClass RL = some m.cls := hown0
  have hTX : TXok (fun q : Nat => s.heap.size ≤ q) (s.setDrawn d_1) := hTX0.dr d_1
  have hX : va_X b L xs (s.setDrawn d_1) (s.setDrawn d_1).heap := hX0
  have hC_1 := h.eA hq_1
  refine lv_pop2_2 hx hb dL_law_1741 rfl ?_
  refine lv_aload_n hx hb dL_law_1742 rfl (lv_at hl 3 rfl) ?_
  refine kjD_l hd0 (pmM _ _ _ _) (va_runV_D (As := []) (rest := []) ⟨hx, hb, hml, hown, htT⟩ (t_digest l D cA _ am r M n na hI ) (cwV 0 htT (kg_V m_ml_L_246 m_im_X6_digest m_sl_X6_digest m_in_X6 m_cd_X6_digest) rfl rfl rfl (by decide +kernel) ⟨Nat.le_of_ble_eq_true rfl, Nat.le_of_ble_eq_true rfl⟩) (kj_V (pmM _ _ _ _) hK hP hD hTB (kj_rm (pmM _ _ _ _) hK hP)) rfl rfl hl.1 rfl (lv_room (Nat.le_of_ble_eq_true rfl)) dL_law_1743 ⟨(by show _ ≤ 601024; omega), (by show _ ≤ 7293034; omega)⟩) hP hD hS hA (fun r_2 x_2 H locs hq_2 hP hD hS d_2 hd0 => ?_)
  have htT : ∀ w ∈ TT, w.before _ (s.setDrawn d_2) = true := dr_words htT0 d_2
  have hTB : TBok (s.setDrawn d_2) := TBok.same (u := s) (U := s.setDrawn d_2) rfl (Vm.Alike.refl s.vm) hTB0
  have hK : va_K D vwCl (ty6 cA) (s.setDrawn d_2) := hK0
  have hown : (s.setDrawn d_2).vm.findClass RL = some m.cls := hown0
  have hTX : TXok (fun q : Nat => s.heap.size ≤ q) (s.setDrawn d_2) := hTX0.dr d_2
  have hX : va_X b L xs (s.setDrawn d_2) (s.setDrawn d_2).heap := hX0
  have hP := kj_P (pmM _ _ _ _).symm hP
  have hD := kj_D (pmM _ _ _ _).symm hD
  obtain ⟨hI_2, hM_2⟩ := hq_2
  have ea_2 := hM_2.2 1 (by decide) (by decide)
  have eb_2 := hM_2.2 2 (by decide) (by decide)
  refine lv_pop2_2 hx hb dL_law_1746 rfl ?_
  refine lv_goto (tgt := 1750) hx hb dL_law_1747 (by decide) ?_
  refine W.widen (k := c0 + 20) (n := s0 + 400) (by omega) (by omega) ?_
  exact hnext _ x_2 _ _ _ _ _ _ _ _ _ _ hd0 hC_1 hI_2 (hL9.qc h (eqA.qc hq_1 h.kk) hM_2) (hY.of (hM_2.1 14 (by decide) (by decide))) (ea_2.trans e1) (eb_2.trans e2) hP hD hS (lv_sub hl [0, 1, 2, 3, 4, 5] rfl)

