/-! Desk: rows made longer and shorter -/
theorem with_ext {T : Pool} {q n0 a0 q1 : Nat} (hq : q ∉ gL T) : ExtA T (pP (pPr (pW T q 24 (n0 + 1)) q (va_cpy (gP (pW T q 24 (n0 + 1)) a0) (gP (pW T q 24 (n0 + 1)) q) 0 0 n0)) q n0 (some q1)) := fun b9 hb9 => ⟨⟨List.mem_append_left _ hb9, up_ne (ne_new hb9 hq), up_ne (ne_new hb9 hq)⟩, fun _ => gI_new (ki := 24) (n := n0 + 1) hb9 hq, fun _ => gQ_new (ki := 24) (n := n0 + 1) hb9 hq, fun _ => gR_new (ki := 24) (n := n0 + 1) hb9 hq, fun j => (u2_a (ne_new hb9 hq)).trans ((u1_a (ne_new hb9 hq)).trans (gP_new hb9 hq))⟩
theorem with_get {T : Pool} {q n0 a0 q1 : Nat} (hq : q ∉ gL T) (ha0 : isA T a0 24 n0) : ∀ j, j < n0 → gP (pP (pPr (pW T q 24 (n0 + 1)) q (va_cpy (gP (pW T q 24 (n0 + 1)) a0) (gP (pW T q 24 (n0 + 1)) q) 0 0 n0)) q n0 (some q1)) q j = gP T a0 j := fun j hj => by
  refine (u2_k (by omega)).trans (u1_s.trans ?_)
  unfold va_cpy
  rw [if_pos ⟨Nat.zero_le _, by omega⟩, show 0 + (j - 0) = j by omega]
  exact gP_new ha0.1 hq
theorem m_nt_ac : Cond.native arraycopyName ∈ TT := tt_m3 175 (by decide +kernel) (by decide +kernel)
theorem m_st_ac : Cond.static arraycopyName ∈ TT := tt_m3 174 (by decide +kernel) (by decide +kernel)
theorem m_in_sys : Cond.initialized "java/lang/System" ∈ TT := tt_m1 13 (by decide +kernel) (by decide +kernel)
set_option maxRecDepth 100000 in
set_option maxHeartbeats 4000000 in
/-- with -/
theorem d_with (l : Launch) (D : va_G) (cA : Nat → ClassId) (sz : Nat) (wb : va_W) (b L : Nat) (xs : Nat → Int32) (hL : L < 2 ^ 31) (T : Pool) (a0 q1 n0 ki nv : Nat) (hn0 : n0 ≤ 100) (ha0 : isA T a0 24 n0) (hq1 : isA T q1 ki nv) (h6 : 6 ≤ ki) (h20 : ki < 20) (hall : ∀ i : Nat, i < n0 → ∃ y ki nv, gP T a0 i = some y ∧ isA T y ki nv ∧ 6 ≤ ki ∧ ki < 20)  : Met l yX6_with (Cond.code yX6_with cX6_with 3 (some (.array (.array .int))) :: TT) ({ frames := 1, cells := 1, slots := 101, locals := 60 }) (va_Pc [.ref a0, .ref q1] (kPreE D cA (PW cA T ++ wb) b L xs sz)) (va_Qq (fun (r_ : Option Nat) (x_ : Pool) => ∃ q, r_ = some q ∧ q ∉ gL T ∧ ExtA T x_ ∧ isA x_ q 24 (n0 + 1) ∧ (∀ j, j < n0 → gP x_ q j = gP T a0 j) ∧ gP x_ q n0 = some q1) (fun x_ => kB D cA (va_A (PW cA T ++ wb) sz) (PW cA x_ ++ wb)) (va_A (PW cA T ++ wb) sz)) 1 101 (va_A (PW cA T ++ wb) sz) := by
  refine Met.ofW (cc := cX6_with) (maxL := 3) (ret := (some (.array (.array .int)))) (by decide) rfl ?_
  intro p e s m args below meth c s₁ B hml hv
  obtain ⟨rfl, ⟨⟨hsz, hP, hK, hD0, hTB⟩, hTX⟩, hX, hbl, hbA, hAO⟩ := hv
  have hx := B.exec
  have hb := B.bytes
  have hr := B.returns
  have hts := atoms_spec (ws := Cond.code yX6_with cX6_with 3 (some (.array (.array .int))) :: TT) B.pre
  have htT : ∀ w ∈ TT, w.before _ s = true := fun w h => hts w (List.mem_cons_of_mem _ h)
  have hown : s.vm.findClass RX6 = some m.cls := findClass_of_methodNamed B.named
  have hlocks := B.notSynchronized
  subst hsz
  have hD := hD0.self (sz := s.heap.size)
  generalize hAe : va_A (PW cA T ++ wb) s.heap.size = A at hD hTX hbA ⊢
  have hA : ∀ q : Nat, s.heap.size ≤ q → A q := fun q h => by rw [← hAe]; exact Or.inr h
  have hS : va_S A s.heap s.heap [] := va_S.rf
  have hl := lv_entry ([.ref a0, .ref q1]) (n := 3) (Nat.le_of_ble_eq_true rfl)
  rw [lg_entry_eq]
  generalize (lg_sl ([.ref a0, .ref q1]) ++ List.replicate (3 - (lg_sl ([.ref a0, .ref q1])).length) Slot.unset).toArray = ls at hl ⊢
  have hl : lv_has ls 3 [(0, .ref a0), (1, .ref q1)] := hl
  have hel : ∀ U : Pool, ExtA T U → ∀ i : Nat, i < n0 → ∀ y : Nat, gP U a0 i = some y → ∃ ki nv, isA U y ki nv ∧ 6 ≤ ki ∧ ki < 20 := fun U hU i hi y hy => by
    obtain ⟨y2, k2, v2, e1, e2, e3, e4⟩ := hall i hi
    rw [(hU a0 ha0.1).2.2.2.2 i] at hy
    cases e1.symm.trans hy
    exact ⟨k2, v2, hU.a e2, e3, e4⟩
  refine lv_aload_n hx hb dX6_with_0 rfl (lv_at hl 0 rfl) ?_
  refine ky_lena (v := nI (n0)) hx hb hK hP ha0 rfl dX6_with_1 ?_
  refine lv_iconst (v := 1) hx hb dX6_with_2 (by decide) ?_
  refine lv_iadd hx hb dX6_with_3 ?_
  rw [show ((nI (n0)) + 1 : Int32) = nI (n0 + 1) from nI_add n0 1]
  refine ky_newa (n := nI (n0 + 1)) (N' := n0 + 1) hx hb hown (htT _ m_cl_X6_16) hAO.1 hK hP hD hS hA (fun h9 => absurd ((nI_ltI (a := n0 + 1) (b := 0) (by omega) (by omega)).mp h9) (by omega)) (ki_cl (by omega)) (by omega) (Nat.le_of_ble_eq_true rfl) (show 0 + (n0 + 1) ≤ 101 by omega) dX6_with_4 (fun q_1 H hq_1 hP hD hS => ?_)
  refine W.widen (k := 1) (n := 101) (Nat.le_of_ble_eq_true rfl) (show 0 + (n0 + 1) ≤ 101 by omega) ?_
  refine lv_astore_n (lv' := [(2, .ref q_1), (0, .ref a0), (1, .ref q1)]) hx hb dX6_with_7 rfl hl (by decide) rfl (fun ls hl => ?_)
  refine lv_aload_n hx hb dX6_with_8 rfl (lv_at hl 1 rfl) ?_
  refine lv_iconst (v := 0) hx hb dX6_with_9 (by decide) ?_
  refine lv_aload_n hx hb dX6_with_10 rfl (lv_at hl 0 rfl) ?_
  refine lv_iconst (v := 0) hx hb dX6_with_11 (by decide) ?_
  refine lv_aload_n hx hb dX6_with_12 rfl (lv_at hl 1 rfl) ?_
  refine ky_lena (v := nI (n0)) hx hb hK hP (ExtA.a (ExtA.new hq_1) ha0) rfl dX6_with_13 ?_
  refine ky_copya hx hb (hml.trans hl.1.symm) hown (htT _ m_ml_X6_51) (htT _ m_nt_ac) (htT _ m_st_ac) (htT _ m_in_sys) hK hP hD hS (ExtA.a (ExtA.new hq_1) ha0) (isA_q (S := T) (q := q_1) (ki := 24) (n := n0 + 1)) hAO.1 (k := n0) (by omega) (by omega) (by omega) (fun i9 hi9 y9 hy9 => hel _ (ExtA.new hq_1) i9 hi9 y9 hy9) (Nat.le_of_ble_eq_true rfl) (Nat.le_of_ble_eq_true rfl) dX6_with_14 (fun H locs hP hD hS => ?_)
  refine lv_aload_n hx hb dX6_with_17 rfl (lv_at hl 0 rfl) ?_
  refine lv_aload_n hx hb dX6_with_18 rfl (lv_at hl 1 rfl) ?_
  refine ky_lena (v := nI (n0)) hx hb hK hP (ExtA.a (ExtA.new hq_1) ha0) rfl dX6_with_19 ?_
  refine lv_aload_n hx hb dX6_with_20 rfl (lv_at hl 2 rfl) ?_
  refine ky_astav hx hb hP hD hS (isA_q (S := T) (q := q_1) (ki := 24) (n := n0 + 1)) (ExtA.a (ExtA.new hq_1) hq1) h6 h20 (rr_1 hK hAO.1) (show vp_in (nI n0) (n0 + 1) from ki_in (by omega) (by omega)) (ki_cl (n := n0) (by omega)) dX6_with_21 (fun H locs hP hD hS => ?_)
  refine lv_aload_n hx hb dX6_with_22 rfl (lv_at hl 0 rfl) ?_
  exact W.aret (v := va_rf (some q_1)) hx hb hr (Or.inr ⟨_, rfl⟩) (kz_rf _) (fun t ht hW => ⟨⟨(some q_1), pP (pPr (pW T q_1 24 (n0 + 1)) q_1 (va_cpy (gP (pW T q_1 24 (n0 + 1)) a0) (gP (pW T q_1 24 (n0 + 1)) q_1) 0 0 n0)) q_1 n0 (some q1), rfl, ⟨q_1, rfl, hq_1, with_ext hq_1, isA_q (S := T) (q := q_1) (ki := 24) (n := n0 + 1), with_get hq_1 ha0, u2_s⟩, by rw [ht]; exact hP, va_K.moved hW.alike hK, hD⟩, hS.F ht⟩) hS.2.2 dX6_with_23

set_option maxRecDepth 100000 in
set_option maxHeartbeats 4000000 in
/-- gets of four -/
theorem d_gets (l : Launch) (D : va_G) (cA : Nat → ClassId) (sz : Nat) (wb : va_W) (b L : Nat) (xs : Nat → Int32) (hL : L < 2 ^ 31) (T : Pool) (d x : Nat) (Ad : DA) (n na : Nat) (fF : Nat → Int32) (fO fW : Nat → Nat → Int32) (fC : Nat → Nat) (fR : Nat → Nat → Nat → Int32) (fB : Nat → Nat → Int32) (dk : DK T d x b Ad (n, na, fF, fO, fW, fC, fR, fB)) (dr cM sB : Nat) (M : MSt) (hvm : VM (n, na, fF, fO, fW, fC, fR, fB) n na dr M) (hcM : cM < 1000000) (hI : INVR n na M) (ru : Nat → Nat) (hok : okG M n na ru) (hM : MK n na cM sB M) (hW : WG n M) (uu f g : Nat) (huu : uu ≤ 9999) (hf : f ≤ 9) (hg : g ≤ 9) (k : Nat) (hk : k < n) : Met l yX6_gets_ (Cond.code yX6_gets_ cX6_gets_ 5 (some .int) :: TT) ({ frames := 10, cells := 8, slots := 0, locals := 371 }) (va_Pc [.ref d, .int (nI k), .int (nI uu), .int (nI f), .int (nI g)] (kPreE D cA (PW cA T ++ wb) b L xs sz)) (va_Qi (fun (r_ : Int32) (x_ : Pool) => r_ = (rG M.2 (M.1 2) (M.2 11) (fun k => rFar M.2 k (M.1 1)) (nI uu) (nI f) (nI g) na ru 8 k).1 ∧ ExtD d T x_ ∧ gI x_ d 10 = (rG M.2 (M.1 2) (M.2 11) (fun k => rFar M.2 k (M.1 1)) (nI uu) (nI f) (nI g) na ru 8 k).2) (fun x_ => kB D cA (va_A (PW cA T ++ wb) sz) (PW cA x_ ++ wb)) (va_A (PW cA T ++ wb) sz)) 8 0 (va_A (PW cA T ++ wb) sz) := by
  refine Met.ofW (cc := cX6_gets_) (maxL := 5) (ret := (some .int)) (by decide) rfl ?_
  intro p e s m args below meth c s₁ B hml hv
  obtain ⟨rfl, ⟨⟨hsz, hP, hK, hD0, hTB⟩, hTX⟩, hX, hbl, hbA, hAO⟩ := hv
  have hx := B.exec
  have hb := B.bytes
  have hr := B.returns
  have hts := atoms_spec (ws := Cond.code yX6_gets_ cX6_gets_ 5 (some .int) :: TT) B.pre
  have htT : ∀ w ∈ TT, w.before _ s = true := fun w h => hts w (List.mem_cons_of_mem _ h)
  have hown : s.vm.findClass RX6 = some m.cls := findClass_of_methodNamed B.named
  have hlocks := B.notSynchronized
  subst hsz
  have hD := hD0.self (sz := s.heap.size)
  generalize hAe : va_A (PW cA T ++ wb) s.heap.size = A at hD hTX hbA ⊢
  have hA : ∀ q : Nat, s.heap.size ≤ q → A q := fun q h => by rw [← hAe]; exact Or.inr h
  have hS : va_S A s.heap s.heap [] := va_S.rf
  have hl := lv_entry ([.ref d, .int (nI k), .int (nI uu), .int (nI f), .int (nI g)]) (n := 5) (Nat.le_of_ble_eq_true rfl)
  rw [lg_entry_eq]
  generalize (lg_sl ([.ref d, .int (nI k), .int (nI uu), .int (nI f), .int (nI g)]) ++ List.replicate (5 - (lg_sl ([.ref d, .int (nI k), .int (nI uu), .int (nI f), .int (nI g)])).length) Slot.unset).toArray = ls at hl ⊢
  have hl : lv_has ls 5 [(0, .ref d), (1, .int (nI k)), (2, .int (nI uu)), (3, .int (nI f)), (4, .int (nI g))] := hl
  obtain ⟨-, ⟨sh, hsh, esh⟩, ⟨sp, hsp, esp⟩, ⟨zz, hzz, ezz⟩⟩ := hM.2.1 k hk
  have oj4 : fO k 4 = nI sh := (hvm.o hk (q := (4, 7)) (by decide)).trans esh
  have oj5 : fO k 5 = nI sp := (hvm.o hk (q := (5, 8)) (by decide)).trans esp
  have oj6 : fO k 6 = nI zz := (hvm.o hk (q := (6, 9)) (by decide)).trans ezz
  have oF3 : fF 3 = nI cM := hvm.f3.trans hM.1.1
  have hn8 : n ≤ 8 := dk.n8
  have efj : rFar M.2 k (M.1 1) = nI (min 1000 (sh + sp * (cM - zz))) := far_n esh esp ezz hM.1.1 hsh hsp hzz hcM
  refine lv_aload_n hx hb dX6_gets__0 rfl (lv_at hl 0 rfl) ?_
  refine lv_iload_n hx hb dX6_gets__1 rfl (lv_at hl 1 rfl) ?_
  refine lv_iload_n hx hb dX6_gets__2 rfl (lv_at hl 2 rfl) ?_
  refine lv_iload_n hx hb dX6_gets__3 rfl (lv_at hl 3 rfl) ?_
  refine lv_iload hx hb dX6_gets__4 (lv_at hl 4 rfl) ?_
  refine lv_aload_n hx hb dX6_gets__6 rfl (lv_at hl 0 rfl) ?_
  refine lv_iload_n hx hb dX6_gets__7 rfl (lv_at hl 1 rfl) ?_
  refine lv_iconst (v := 0) hx hb dX6_gets__8 (by decide) ?_
  refine kc_i (va_runV (As := [.int (nI k), .int 0]) (rest := [.int (nI g), .int (nI f), .int (nI uu), .int (nI k), .ref d]) ⟨hx, hb, hml, hown, htT⟩ (d_far l D cA _ wb b L xs hL T d x Ad n na fF fO fW fC fR fB dk k hk sh sp zz cM oj4 oj5 oj6 oF3 hsh hsp hzz hcM) (cwV 2 htT (kg_V m_ml_X6_79 m_im_X6_far m_sl_X6_far m_in_X6 m_cd_X6_far) rfl rfl rfl (by decide +kernel) ⟨Nat.le_of_ble_eq_true rfl, Nat.le_of_ble_eq_true rfl⟩) (kpe_V hK hP hD hTB hTX hX hbl hbA hAO hS hA (kpe_rc hK hP dk.o rfl)) rfl rfl hl.1 rfl (lv_room (Nat.le_of_ble_eq_true rfl)) dX6_gets__9 ⟨Nat.le_of_ble_eq_true rfl, Nat.le_of_ble_eq_true rfl⟩) hD hS hA (fun r_1 x_1 H locs hq_1 hP hD hS => ?_)
  rw [hq_1.1]
  rw [hq_1.2] at hP hD
  refine kc_i (va_runV (As := [.int (nI k), .int (nI uu), .int (nI f), .int (nI g), .int (nI (min 1000 (sh + sp * (cM - zz))))]) (rest := []) ⟨hx, hb, hml, hown, htT⟩ (d_GV l D cA wb b L xs hL d x Ad n na fO fW fC fR fB dr cM sB M hcM hI ru hok hM hW uu f g huu hf hg 7 _ _ _ dk hvm k _ hk (by omega) efj (by omega)) (cwV 5 htT (kg_V m_ml_X6_162 m_im_X6_gets m_sl_X6_gets m_in_X6 m_cd_X6_gets) rfl rfl rfl (by decide +kernel) ⟨Nat.le_of_ble_eq_true rfl, Nat.le_of_ble_eq_true rfl⟩) (kpe_V hK hP hD hTB hTX hX hbl hbA hAO hS hA (kpe_rc hK hP dk.o rfl)) rfl rfl hl.1 rfl (lv_room (Nat.le_of_ble_eq_true rfl)) dX6_gets__12 ⟨Nat.le_of_ble_eq_true rfl, Nat.le_of_ble_eq_true rfl⟩) hD hS hA (fun r_2 x_2 H locs hq_2 hP hD hS => ?_)
  exact W.iret (v := r_2) hx hb hr (fun t ht hW => ⟨⟨r_2, x_2, rfl, hq_2, by rw [ht]; exact hP, va_K.moved hW.alike hK, hD⟩, hS.F ht⟩) hS.2.2 dX6_gets__15

