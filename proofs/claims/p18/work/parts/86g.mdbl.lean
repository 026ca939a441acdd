/-! doubles and counts of the reference: that they come -/
theorem due_nw {a b : Int32} (ha : 0 < a) (hb : 0 < lg_cmp b.toInt64 0) : ¬ a.toInt64 * b.toInt64 * 10 = 0 := by
  intro e
  have h1 := due_mod e
  rw [Int64.toInt_mul, Int32.toInt_toInt64, Int32.toInt_toInt64] at h1
  have h2 : (a.toInt * b.toInt * 10) % ((2 ^ 64 : Nat) : Int) = 0 := by
    rw [Int.mul_emod, Int.bmod_emod, ← Int.mul_emod] at h1
    exact h1
  have a0 : 0 < a.toInt := Int32.lt_iff_toInt_lt.mp ha
  have b0 : 0 < b.toInt := by
    have h3 : (0 : Int64) < b.toInt64 := (lg_cmp_gt _ 0).mp hb
    have h4 := Int64.lt_iff_toInt_lt.mp h3
    rw [Int32.toInt_toInt64] at h4
    exact h4
  refine due_int (P := 2 ^ 63) (by decide) (Int.mul_pos a0 b0) ?_ h2
  refine Int.lt_of_le_of_lt (Int.mul_le_mul (Int.le_of_lt a.toInt_lt) (Int.le_of_lt b.toInt_lt) (Int.le_of_lt b0) (by decide)) (by decide)
set_option maxRecDepth 100000 in
set_option maxHeartbeats 4000000 in
/-- meanNow -/
theorem t_meanNow (l : Launch) (D : va_G) (cA : Nat → ClassId) (sz : Nat) (am : Nat) (r : Nat → Nat) (M : MSt) (na : Nat) (hna : na ≤ 100) (h22 : M.1 22 = nI na) (one va : Int32) : MetD lw_cs l yX6_meanNow (Cond.code yX6_meanNow cX6_meanNow 4 (some .double) :: TT) ({ frames := 1, cells := 0, slots := 0, locals := 25 }) (va_Pc [.ref am, .int one, .int va] (kPre D cA (wM cA am r M) sz)) (va_Qd (fun (r_ : UInt64) (x_ : MSt) => True ∧ x_ = M) (fun x_ => kB D cA (va_A (wM cA am r M) sz) (wM cA am r x_)) (va_A (wM cA am r M) sz)) 0 0 (va_A (wM cA am r M) sz) := by
  refine MetD.ofW (cc := cX6_meanNow) (maxL := 4) (ret := (some .double)) (by decide) rfl ?_
  intro p e s m args below meth c s₁ B hml hv hd0
  obtain ⟨rfl, hsz, hP, hK, hD0, hTB⟩ := hv
  have hx := B.exec
  have hb := B.bytes
  have hr := B.returns
  have hts := atoms_spec (ws := Cond.code yX6_meanNow cX6_meanNow 4 (some .double) :: TT) B.pre
  have htT : ∀ w ∈ TT, w.before _ s = true := fun w h => hts w (List.mem_cons_of_mem _ h)
  have hown : s.vm.findClass RX6 = some m.cls := findClass_of_methodNamed B.named
  have hlocks := B.notSynchronized
  subst hsz
  have hD := hD0.self (sz := s.heap.size)
  generalize hAe : va_A (wM cA am r M) s.heap.size = A at hD ⊢
  have hA : ∀ q : Nat, s.heap.size ≤ q → A q := fun q h => by rw [← hAe]; exact Or.inr h
  have hS : va_S A s.heap s.heap [] := va_S.rf
  have hl := lv_entry ([.ref am, .int one, .int va]) (n := 4) (Nat.le_of_ble_eq_true rfl)
  rw [lg_entry_eq]
  generalize (lg_sl ([.ref am, .int one, .int va]) ++ List.replicate (4 - (lg_sl ([.ref am, .int one, .int va])).length) Slot.unset).toArray = ls at hl ⊢
  have hl : lv_has ls 4 [(0, .ref am), (1, .int one), (2, .int va)] := hl
  have htT0 := htT
  have hTB0 := hTB
  have hK0 := hK
  have hown0 := hown
  have htT : ∀ w ∈ TT, w.before _ (s.setDrawn s.drawn) = true := dr_words htT0 s.drawn
  have hTB : TBok (s.setDrawn s.drawn) := TBok.same (u := s) (U := s.setDrawn s.drawn) rfl (Vm.Alike.refl s.vm) hTB0
  have hK : va_K D vwCl (ty6 cA) (s.setDrawn s.drawn) := hK0
  have hown : (s.setDrawn s.drawn).vm.findClass RX6 = some m.cls := hown0
  refine lv_aload_n hx hb dX6_meanNow_0 rfl (lv_at hl 0 rfl) ?_
  refine lv_iload_n hx hb dX6_meanNow_1 rfl (lv_at hl 1 rfl) ?_
  refine lv_iload_n hx hb dX6_meanNow_2 rfl (lv_at hl 2 rfl) ?_
  refine lv_iconst (v := 0) hx hb dX6_meanNow_3 (by decide) ?_
  refine kc_i (va_runV (As := [.int one, .int va, .int 0]) (rest := []) ⟨hx, hb, hml, hown, htT⟩ (m_toldNow l D cA _ am r M na hna h22 one va 0) (cwV 3 htT (kg_V m_ml_X6_182 m_im_X6_toldNow m_sl_X6_toldNow m_in_X6 m_cd_X6_toldNow) rfl rfl rfl (by decide +kernel) ⟨Nat.le_of_ble_eq_true rfl, Nat.le_of_ble_eq_true rfl⟩) (kp_V hK hP hD hTB (km_rc hK hP)) rfl rfl hl.1 rfl (lv_room (Nat.le_of_ble_eq_true rfl)) dX6_meanNow_4 ⟨Nat.le_of_ble_eq_true rfl, Nat.le_of_ble_eq_true rfl⟩) hD hS hA (fun r_1 x_1 H locs hq_1 hP hD hS => ?_)
  rw [hq_1.2] at hP hD
  refine lv_istore_n (lv' := [(3, .int r_1), (0, .ref am), (1, .int one), (2, .int va)]) hx hb dX6_meanNow_7 rfl hl (by decide) rfl (fun ls hl => ?_)
  refine lv_iload_n hx hb dX6_meanNow_8 rfl (lv_at hl 0 rfl) ?_
  refine lv_if_ne (tgt := 16) hx hb dX6_meanNow_9 (by decide) (fun c_2 => ?_) (fun c_2 => ?_)
  · refine lv_aload_n hx hb dX6_meanNow_16 rfl (lv_at hl 1 rfl) ?_
    refine lv_iload_n hx hb dX6_meanNow_17 rfl (lv_at hl 2 rfl) ?_
    refine lv_iload_n hx hb dX6_meanNow_18 rfl (lv_at hl 3 rfl) ?_
    refine lv_iconst (v := 2) hx hb dX6_meanNow_19 (by decide) ?_
    refine kc_i (va_runV (As := [.int one, .int va, .int 2]) (rest := []) ⟨hx, hb, hml, hown, htT⟩ (m_toldNow l D cA _ am r M na hna h22 one va 2) (cwV 3 htT (kg_V m_ml_X6_182 m_im_X6_toldNow m_sl_X6_toldNow m_in_X6 m_cd_X6_toldNow) rfl rfl rfl (by decide +kernel) ⟨Nat.le_of_ble_eq_true rfl, Nat.le_of_ble_eq_true rfl⟩) (kp_V hK hP hD hTB (km_rc hK hP)) rfl rfl hl.1 rfl (lv_room (Nat.le_of_ble_eq_true rfl)) dX6_meanNow_20 ⟨Nat.le_of_ble_eq_true rfl, Nat.le_of_ble_eq_true rfl⟩) hD hS hA (fun r_3 x_3 H locs hq_3 hP hD hS => ?_)
    rw [hq_3.2] at hP hD
    refine lv_i2d hx hb dX6_meanNow_23 ?_
    refine lv_iload_n hx hb dX6_meanNow_24 rfl (lv_at hl 0 rfl) ?_
    refine lv_i2d hx hb dX6_meanNow_25 ?_
    refine lv_ddiv_any hd0 lw_bits hx hb dX6_meanNow_26 (fun r_4 d_4 hal_4 hd0 => ?_)
    have htT : ∀ w ∈ TT, w.before _ (s.setDrawn d_4) = true := dr_words htT0 d_4
    have hTB : TBok (s.setDrawn d_4) := TBok.same (u := s) (U := s.setDrawn d_4) rfl (Vm.Alike.refl s.vm) hTB0
    have hK : va_K D vwCl (ty6 cA) (s.setDrawn d_4) := hK0
    have hown : (s.setDrawn d_4).vm.findClass RX6 = some m.cls := hown0
    refine W.endD hd0 ?_
    exact W.dret (v := r_4) hx hb hr (fun t ht hW => ⟨⟨r_4, M, rfl, ⟨trivial, rfl⟩, by rw [ht]; exact hP, va_K.moved hW.alike hK, hD⟩, hS.F ht⟩) hS.2.2 dX6_meanNow_27
  · refine lv_dconst0 hx hb dX6_meanNow_12 ?_
    refine lv_goto (tgt := 27) hx hb dX6_meanNow_13 (by decide) ?_
    refine W.endD hd0 ?_
    exact W.dret (v := FP.dconst0) hx hb hr (fun t ht hW => ⟨⟨FP.dconst0, M, rfl, ⟨trivial, rfl⟩, by rw [ht]; exact hP, va_K.moved hW.alike hK, hD⟩, hS.F ht⟩) hS.2.2 dX6_meanNow_27

set_option maxRecDepth 100000 in
set_option maxHeartbeats 4000000 in
/-- spread -/
theorem t_spread (l : Launch) (D : va_G) (cA : Nat → ClassId) (sz : Nat) (am : Nat) (r : Nat → Nat) (M : MSt) (na : Nat) (hna : na ≤ 100) (h22 : M.1 22 = nI na) (one va : Int32) : MetD lw_cs l yX6_spread (Cond.code yX6_spread cX6_spread 6 (some .double) :: TT) ({ frames := 2, cells := 0, slots := 0, locals := 48 }) (va_Pc [.ref am, .int one, .int va] (kPre D cA (wM cA am r M) sz)) (va_Qd (fun (r_ : UInt64) (x_ : MSt) => True ∧ x_ = M) (fun x_ => kB D cA (va_A (wM cA am r M) sz) (wM cA am r x_)) (va_A (wM cA am r M) sz)) 0 0 (va_A (wM cA am r M) sz) := by
  refine MetD.ofW (cc := cX6_spread) (maxL := 6) (ret := (some .double)) (by decide) rfl ?_
  intro p e s m args below meth c s₁ B hml hv hd0
  obtain ⟨rfl, hsz, hP, hK, hD0, hTB⟩ := hv
  have hx := B.exec
  have hb := B.bytes
  have hr := B.returns
  have hts := atoms_spec (ws := Cond.code yX6_spread cX6_spread 6 (some .double) :: TT) B.pre
  have htT : ∀ w ∈ TT, w.before _ s = true := fun w h => hts w (List.mem_cons_of_mem _ h)
  have hown : s.vm.findClass RX6 = some m.cls := findClass_of_methodNamed B.named
  have hlocks := B.notSynchronized
  subst hsz
  have hD := hD0.self (sz := s.heap.size)
  generalize hAe : va_A (wM cA am r M) s.heap.size = A at hD ⊢
  have hA : ∀ q : Nat, s.heap.size ≤ q → A q := fun q h => by rw [← hAe]; exact Or.inr h
  have hS : va_S A s.heap s.heap [] := va_S.rf
  have hl := lv_entry ([.ref am, .int one, .int va]) (n := 6) (Nat.le_of_ble_eq_true rfl)
  rw [lg_entry_eq]
  generalize (lg_sl ([.ref am, .int one, .int va]) ++ List.replicate (6 - (lg_sl ([.ref am, .int one, .int va])).length) Slot.unset).toArray = ls at hl ⊢
  have hl : lv_has ls 6 [(0, .ref am), (1, .int one), (2, .int va)] := hl
  have htT0 := htT
  have hTB0 := hTB
  have hK0 := hK
  have hown0 := hown
  have htT : ∀ w ∈ TT, w.before _ (s.setDrawn s.drawn) = true := dr_words htT0 s.drawn
  have hTB : TBok (s.setDrawn s.drawn) := TBok.same (u := s) (U := s.setDrawn s.drawn) rfl (Vm.Alike.refl s.vm) hTB0
  have hK : va_K D vwCl (ty6 cA) (s.setDrawn s.drawn) := hK0
  have hown : (s.setDrawn s.drawn).vm.findClass RX6 = some m.cls := hown0
  refine lv_aload_n hx hb dX6_spread_0 rfl (lv_at hl 0 rfl) ?_
  refine lv_iload_n hx hb dX6_spread_1 rfl (lv_at hl 1 rfl) ?_
  refine lv_iload_n hx hb dX6_spread_2 rfl (lv_at hl 2 rfl) ?_
  refine lv_iconst (v := 0) hx hb dX6_spread_3 (by decide) ?_
  refine kc_i (va_runV (As := [.int one, .int va, .int 0]) (rest := []) ⟨hx, hb, hml, hown, htT⟩ (m_toldNow l D cA _ am r M na hna h22 one va 0) (cwV 3 htT (kg_V m_ml_X6_182 m_im_X6_toldNow m_sl_X6_toldNow m_in_X6 m_cd_X6_toldNow) rfl rfl rfl (by decide +kernel) ⟨Nat.le_of_ble_eq_true rfl, Nat.le_of_ble_eq_true rfl⟩) (kp_V hK hP hD hTB (km_rc hK hP)) rfl rfl hl.1 rfl (lv_room (Nat.le_of_ble_eq_true rfl)) dX6_spread_4 ⟨Nat.le_of_ble_eq_true rfl, Nat.le_of_ble_eq_true rfl⟩) hD hS hA (fun r_1 x_1 H locs hq_1 hP hD hS => ?_)
  rw [hq_1.2] at hP hD
  refine lv_istore_n (lv' := [(3, .int r_1), (0, .ref am), (1, .int one), (2, .int va)]) hx hb dX6_spread_7 rfl hl (by decide) rfl (fun ls hl => ?_)
  refine lv_aload_n hx hb dX6_spread_8 rfl (lv_at hl 1 rfl) ?_
  refine lv_iload_n hx hb dX6_spread_9 rfl (lv_at hl 2 rfl) ?_
  refine lv_iload_n hx hb dX6_spread_10 rfl (lv_at hl 3 rfl) ?_
  refine kcD_d hd0 (va_runV_D (As := [.int one, .int va]) (rest := []) ⟨hx, hb, hml, hown, htT⟩ (t_meanNow l D cA _ am r M na hna h22 one va) (cwV 2 htT (kg_V m_ml_X6_185 m_im_X6_meanNow m_sl_X6_meanNow m_in_X6 m_cd_X6_meanNow) rfl rfl rfl (by decide +kernel) ⟨Nat.le_of_ble_eq_true rfl, Nat.le_of_ble_eq_true rfl⟩) (kp_V hK hP hD hTB (km_rc hK hP)) rfl rfl hl.1 rfl (lv_room (Nat.le_of_ble_eq_true rfl)) dX6_spread_11 ⟨Nat.le_of_ble_eq_true rfl, Nat.le_of_ble_eq_true rfl⟩) hD hS hA (fun r_2 x_2 H locs hq_2 hP hD hS d_2 hd0 => ?_)
  have htT : ∀ w ∈ TT, w.before _ (s.setDrawn d_2) = true := dr_words htT0 d_2
  have hTB : TBok (s.setDrawn d_2) := TBok.same (u := s) (U := s.setDrawn d_2) rfl (Vm.Alike.refl s.vm) hTB0
  have hK : va_K D vwCl (ty6 cA) (s.setDrawn d_2) := hK0
  have hown : (s.setDrawn d_2).vm.findClass RX6 = some m.cls := hown0
  rw [hq_2.2] at hP hD
  refine lv_dstore (lv' := [(4, .double r_2), (3, .int r_1), (0, .ref am), (1, .int one), (2, .int va)]) hx hb dX6_spread_14 hl (by decide) rfl (fun ls hl => ?_)
  refine lv_iload_n hx hb dX6_spread_16 rfl (lv_at hl 1 rfl) ?_
  refine lv_if_ne (tgt := 24) hx hb dX6_spread_17 (by decide) (fun c_3 => ?_) (fun c_3 => ?_)
  · refine lv_aload_n hx hb dX6_spread_24 rfl (lv_at hl 2 rfl) ?_
    refine lv_iload_n hx hb dX6_spread_25 rfl (lv_at hl 3 rfl) ?_
    refine lv_iload_n hx hb dX6_spread_26 rfl (lv_at hl 4 rfl) ?_
    refine lv_iconst (v := 3) hx hb dX6_spread_27 (by decide) ?_
    refine kc_i (va_runV (As := [.int one, .int va, .int 3]) (rest := []) ⟨hx, hb, hml, hown, htT⟩ (m_toldNow l D cA _ am r M na hna h22 one va 3) (cwV 3 htT (kg_V m_ml_X6_182 m_im_X6_toldNow m_sl_X6_toldNow m_in_X6 m_cd_X6_toldNow) rfl rfl rfl (by decide +kernel) ⟨Nat.le_of_ble_eq_true rfl, Nat.le_of_ble_eq_true rfl⟩) (kp_V hK hP hD hTB (km_rc hK hP)) rfl rfl hl.1 rfl (lv_room (Nat.le_of_ble_eq_true rfl)) dX6_spread_28 ⟨Nat.le_of_ble_eq_true rfl, Nat.le_of_ble_eq_true rfl⟩) hD hS hA (fun r_4 x_4 H locs hq_4 hP hD hS => ?_)
    rw [hq_4.2] at hP hD
    refine lv_i2d hx hb dX6_spread_31 ?_
    refine lv_iload_n hx hb dX6_spread_32 rfl (lv_at hl 1 rfl) ?_
    refine lv_i2d hx hb dX6_spread_33 ?_
    refine lv_ddiv_any hd0 lw_bits hx hb dX6_spread_34 (fun r_5 d_5 hal_5 hd0 => ?_)
    have htT : ∀ w ∈ TT, w.before _ (s.setDrawn d_5) = true := dr_words htT0 d_5
    have hTB : TBok (s.setDrawn d_5) := TBok.same (u := s) (U := s.setDrawn d_5) rfl (Vm.Alike.refl s.vm) hTB0
    have hK : va_K D vwCl (ty6 cA) (s.setDrawn d_5) := hK0
    have hown : (s.setDrawn d_5).vm.findClass RX6 = some m.cls := hown0
    refine lv_dload hx hb dX6_spread_35 (lv_at hl 0 rfl) ?_
    refine lv_dload hx hb dX6_spread_37 (lv_at hl 0 rfl) ?_
    refine lv_dmul_any hd0 lw_bits hx hb dX6_spread_39 (fun r_6 d_6 hal_6 hd0 => ?_)
    have htT : ∀ w ∈ TT, w.before _ (s.setDrawn d_6) = true := dr_words htT0 d_6
    have hTB : TBok (s.setDrawn d_6) := TBok.same (u := s) (U := s.setDrawn d_6) rfl (Vm.Alike.refl s.vm) hTB0
    have hK : va_K D vwCl (ty6 cA) (s.setDrawn d_6) := hK0
    have hown : (s.setDrawn d_6).vm.findClass RX6 = some m.cls := hown0
    refine lv_dsub_any hd0 lw_bits hx hb dX6_spread_40 (fun r_7 d_7 hal_7 hd0 => ?_)
    have htT : ∀ w ∈ TT, w.before _ (s.setDrawn d_7) = true := dr_words htT0 d_7
    have hTB : TBok (s.setDrawn d_7) := TBok.same (u := s) (U := s.setDrawn d_7) rfl (Vm.Alike.refl s.vm) hTB0
    have hK : va_K D vwCl (ty6 cA) (s.setDrawn d_7) := hK0
    have hown : (s.setDrawn d_7).vm.findClass RX6 = some m.cls := hown0
    refine W.endD hd0 ?_
    exact W.dret (v := r_7) hx hb hr (fun t ht hW => ⟨⟨r_7, M, rfl, ⟨trivial, rfl⟩, by rw [ht]; exact hP, va_K.moved hW.alike hK, hD⟩, hS.F ht⟩) hS.2.2 dX6_spread_41
  · refine lv_dconst0 hx hb dX6_spread_20 ?_
    refine lv_goto (tgt := 41) hx hb dX6_spread_21 (by decide) ?_
    refine W.endD hd0 ?_
    exact W.dret (v := FP.dconst0) hx hb hr (fun t ht hW => ⟨⟨FP.dconst0, M, rfl, ⟨trivial, rfl⟩, by rw [ht]; exact hP, va_K.moved hW.alike hK, hD⟩, hS.F ht⟩) hS.2.2 dX6_spread_41

set_option maxRecDepth 100000 in
set_option maxHeartbeats 4000000 in
/-- badNow -/
theorem t_badNow (l : Launch) (D : va_G) (cA : Nat → ClassId) (sz : Nat) (am : Nat) (r : Nat → Nat) (M : MSt) (n na : Nat) (hI : INVR n na M) (i : Nat) (hi : i < n) : Met l yX6_badNow (Cond.code yX6_badNow cX6_badNow 10 (some .int) :: TT) ({ frames := 1, cells := 0, slots := 0, locals := 25 }) (va_Pc [.ref am, .int (nI i)] (kPre D cA (wM cA am r M) sz)) (va_Qi (fun (r_ : Int32) (x_ : MSt) => True ∧ x_ = M) (fun x_ => kB D cA (va_A (wM cA am r M) sz) (wM cA am r x_)) (va_A (wM cA am r M) sz)) 0 0 (va_A (wM cA am r M) sz) := by
  refine Met.ofW (cc := cX6_badNow) (maxL := 10) (ret := (some .int)) (by decide) rfl ?_
  intro p e s m args below meth c s₁ B hml hv
  obtain ⟨rfl, hsz, hP, hK, hD0, hTB⟩ := hv
  have hx := B.exec
  have hb := B.bytes
  have hr := B.returns
  have hts := atoms_spec (ws := Cond.code yX6_badNow cX6_badNow 10 (some .int) :: TT) B.pre
  have htT : ∀ w ∈ TT, w.before _ s = true := fun w h => hts w (List.mem_cons_of_mem _ h)
  have hown : s.vm.findClass RX6 = some m.cls := findClass_of_methodNamed B.named
  have hlocks := B.notSynchronized
  subst hsz
  have hD := hD0.self (sz := s.heap.size)
  generalize hAe : va_A (wM cA am r M) s.heap.size = A at hD ⊢
  have hA : ∀ q : Nat, s.heap.size ≤ q → A q := fun q h => by rw [← hAe]; exact Or.inr h
  have hS : va_S A s.heap s.heap [] := va_S.rf
  have hl := lv_entry ([.ref am, .int (nI i)]) (n := 10) (Nat.le_of_ble_eq_true rfl)
  rw [lg_entry_eq]
  generalize (lg_sl ([.ref am, .int (nI i)]) ++ List.replicate (10 - (lg_sl ([.ref am, .int (nI i)])).length) Slot.unset).toArray = ls at hl ⊢
  have hl : lv_has ls 10 [(0, .ref am), (1, .int (nI i))] := hl
  have hn8 := hI.n8
  have hna := hI.na
  have h22 := hI.h22
  obtain ⟨vc, hvc, evc⟩ := (hI.2.1 i hi).1
  refine lv_iconst (v := 0) hx hb dX6_badNow_0 (by decide) ?_
  refine lv_istore_n (lv' := [(2, .int 0), (0, .ref am), (1, .int (nI i))]) hx hb dX6_badNow_1 rfl hl (by decide) rfl (fun ls hl => ?_)
  refine lv_iconst (v := 0) hx hb dX6_badNow_2 (by decide) ?_
  refine lv_istore_n (lv' := [(3, .int 0), (2, .int 0), (0, .ref am), (1, .int (nI i))]) hx hb dX6_badNow_3 rfl hl (by decide) rfl (fun ls hl => ?_)
  refine kz_loop 4 (fun N9 H locs ls => ∃ (j : Nat) (acc : Int32), N9 = vc - j ∧ j ≤ vc ∧ va_P D vwCl (wM cA am r M) H ∧ va_D A (wM cA am r M) ∧ va_S A s.heap H locs ∧ lv_has ls 10 [(3, .int (nI j)), (2, .int acc), (1, .int (nI i)), (0, .ref am)]) (fun N9 ih_4 H locs ls hI => ?_) ⟨0, 0, rfl, by omega, hP, hD, hS, lv_sub hl [0, 1, 3, 2] rfl⟩
  obtain ⟨j, acc, hn9, hj, hP, hD, hS, hl⟩ := hI
  refine lv_iload_n hx hb dX6_badNow_4 rfl (lv_at hl 0 rfl) ?_
  refine lv_aload_n hx hb dX6_badNow_5 rfl (lv_at hl 3 rfl) ?_
  refine km_getr hx hb htT hown hK hP 5 (by decide) rfl (htT _ m_fl_X6_13) dX6_badNow_6 ?_
  refine lv_iload_n hx hb dX6_badNow_9 rfl (lv_at hl 2 rfl) ?_
  refine km_ialdv (x := nI vc) hx hb hK hP 5 rfl rfl (show vp_in (nI (i)) 8 from ki_in (by omega) (by decide)) ((congrArg _ (ki_cl (by omega))).trans evc) dX6_badNow_10 ?_
  refine lv_icmp_ge (tgt := 30) hx hb dX6_badNow_11 (by decide) (fun c_1 => ?_) (fun c_1 => ?_)
  · replace c_1 := (nI_leI (a := vc) (b := j) (by omega) (by omega)).mp c_1
    refine lv_lconst (v := 0) hx hb dX6_badNow_30 (by decide) ?_
    refine lv_lstore_n (lv' := [(3, .long 0), (2, .int acc), (1, .int (nI i)), (0, .ref am)]) hx hb dX6_badNow_31 rfl hl (by decide) rfl (fun ls hl => ?_)
    refine lv_iconst (v := 0) hx hb dX6_badNow_32 (by decide) ?_
    refine lv_istore (lv' := [(5, .int 0), (3, .long 0), (2, .int acc), (1, .int (nI i)), (0, .ref am)]) hx hb dX6_badNow_33 hl (by decide) rfl (fun ls hl => ?_)
    refine kz_loop 35 (fun N9 H locs ls => ∃ (v : Nat) (sm : Int64), N9 = vc - v ∧ v ≤ vc ∧ va_P D vwCl (wM cA am r M) H ∧ va_D A (wM cA am r M) ∧ va_S A s.heap H locs ∧ lv_has ls 10 [(5, .int (nI v)), (3, .long sm), (2, .int acc), (1, .int (nI i)), (0, .ref am)]) (fun N9 ih_35 H locs ls hI => ?_) ⟨0, 0, rfl, by omega, hP, hD, hS, lv_sub hl [0, 1, 2, 3, 4] rfl⟩
    obtain ⟨v, sm, hn9, hv, hP, hD, hS, hl⟩ := hI
    refine lv_iload hx hb dX6_badNow_35 (lv_at hl 0 rfl) ?_
    refine lv_aload_n hx hb dX6_badNow_37 rfl (lv_at hl 4 rfl) ?_
    refine km_getr hx hb htT hown hK hP 5 (by decide) rfl (htT _ m_fl_X6_13) dX6_badNow_38 ?_
    refine lv_iload_n hx hb dX6_badNow_41 rfl (lv_at hl 3 rfl) ?_
    refine km_ialdv (x := nI vc) hx hb hK hP 5 rfl rfl (show vp_in (nI (i)) 8 from ki_in (by omega) (by decide)) ((congrArg _ (ki_cl (by omega))).trans evc) dX6_badNow_42 ?_
    refine lv_icmp_ge (tgt := 116) hx hb dX6_badNow_43 (by decide) (fun c_2 => ?_) (fun c_2 => ?_)
    · replace c_2 := (nI_leI (a := vc) (b := v) (by omega) (by omega)).mp c_2
      refine lv_lload_n hx hb dX6_badNow_116 rfl (lv_at hl 1 rfl) ?_
      refine lv_l2i (v := sm.toInt32) hx hb dX6_badNow_117 rfl ?_
      exact W.iret (v := sm.toInt32) hx hb hr (fun t ht hW => ⟨⟨sm.toInt32, M, rfl, ⟨trivial, rfl⟩, by rw [ht]; exact hP, va_K.moved hW.alike hK, hD⟩, hS.F ht⟩) hS.2.2 dX6_badNow_118
    · replace c_2 : ¬ (vc ≤ v) := fun h9 => c_2 ((nI_leI (a := vc) (b := v) (by omega) (by omega)).mpr h9)
      refine lv_iload_n hx hb dX6_badNow_46 rfl (lv_at hl 2 rfl) ?_
      refine lv_if_le (tgt := 116) hx hb dX6_badNow_47 (by decide) (fun c_3 => ?_) (fun c_3 => ?_)
      · replace c_3 := Int32.not_lt.mpr c_3
        refine lv_lload_n hx hb dX6_badNow_116 rfl (lv_at hl 1 rfl) ?_
        refine lv_l2i (v := sm.toInt32) hx hb dX6_badNow_117 rfl ?_
        exact W.iret (v := sm.toInt32) hx hb hr (fun t ht hW => ⟨⟨sm.toInt32, M, rfl, ⟨trivial, rfl⟩, by rw [ht]; exact hP, va_K.moved hW.alike hK, hD⟩, hS.F ht⟩) hS.2.2 dX6_badNow_118
      · replace c_3 := Int32.not_le.mp c_3
        refine lv_aload_n hx hb dX6_badNow_50 rfl (lv_at hl 4 rfl) ?_
        refine km_getr hx hb htT hown hK hP 6 (by decide) rfl (htT _ m_fl_X6_16) dX6_badNow_51 ?_
        refine lv_iload_n hx hb dX6_badNow_54 rfl (lv_at hl 3 rfl) ?_
        refine lv_iconst (v := 4) hx hb dX6_badNow_55 (by decide) ?_
        refine lv_imul hx hb dX6_badNow_56 ?_
        rw [show ((nI i) * 4 : Int32) = nI (4 * i) from (pk_mul i 4).trans (congrArg nI (by omega))]
        refine lv_iload hx hb dX6_badNow_57 (lv_at hl 0 rfl) ?_
        refine lv_iadd hx hb dX6_badNow_59 ?_
        rw [show ((nI (4 * i)) + (nI v) : Int32) = nI ((4 * i) + v) from nI_add (4 * i) v]
        refine km_ialdv (x := (M.2 6) ((4 * i) + v)) hx hb hK hP 6 rfl rfl (show vp_in (nI ((4 * i) + v)) 32 from ki_in (by omega) (by decide)) (congrArg _ (ki_cl (by omega))) dX6_badNow_60 ?_
        refine lv_i2l (v := ((M.2 6) ((4 * i) + v)).toInt64) hx hb dX6_badNow_61 rfl ?_
        refine lv_lstore (lv' := [(6, .long (((M.2 6) ((4 * i) + v)).toInt64)), (5, .int (nI v)), (3, .long sm), (2, .int acc), (1, .int (nI i)), (0, .ref am)]) hx hb dX6_badNow_62 hl (by decide) rfl (fun ls hl => ?_)
        refine lv_aload_n hx hb dX6_badNow_64 rfl (lv_at hl 5 rfl) ?_
        refine lv_iload_n hx hb dX6_badNow_65 rfl (lv_at hl 4 rfl) ?_
        refine lv_iload hx hb dX6_badNow_66 (lv_at hl 1 rfl) ?_
        refine lv_iconst (v := 0) hx hb dX6_badNow_68 (by decide) ?_
        refine kc_i (va_runV (As := [.int (nI i), .int (nI v), .int 0]) (rest := []) ⟨hx, hb, hml, hown, htT⟩ (m_toldNow l D cA _ am r M na hna h22 (nI i) (nI v) 0) (cwV 3 htT (kg_V m_ml_X6_182 m_im_X6_toldNow m_sl_X6_toldNow m_in_X6 m_cd_X6_toldNow) rfl rfl rfl (by decide +kernel) ⟨Nat.le_of_ble_eq_true rfl, Nat.le_of_ble_eq_true rfl⟩) (kp_V hK hP hD hTB (km_rc hK hP)) rfl rfl hl.1 rfl (lv_room (Nat.le_of_ble_eq_true rfl)) dX6_badNow_69 ⟨Nat.le_of_ble_eq_true rfl, Nat.le_of_ble_eq_true rfl⟩) hD hS hA (fun r_4 x_4 H locs hq_4 hP hD hS => ?_)
        rw [hq_4.2] at hP hD
        refine lv_i2l (v := r_4.toInt64) hx hb dX6_badNow_72 rfl ?_
        refine lv_ldc2 (v := 1000) hx hb hown (htT _ m_lc_X6_109) dX6_badNow_73 ?_
        refine lv_lmul hx hb dX6_badNow_76 ?_
        refine lv_iload_n hx hb dX6_badNow_77 rfl (lv_at hl 3 rfl) ?_
        refine lv_i2l (v := acc.toInt64) hx hb dX6_badNow_78 rfl ?_
        refine lv_lload hx hb dX6_badNow_79 (lv_at hl 0 rfl) ?_
        refine lv_lmul hx hb dX6_badNow_81 ?_
        refine lv_lsub hx hb dX6_badNow_82 ?_
        refine lv_lstore (lv' := [(8, .long ((r_4.toInt64 * 1000) - (acc.toInt64 * (((M.2 6) ((4 * i) + v)).toInt64)))), (6, .long (((M.2 6) ((4 * i) + v)).toInt64)), (5, .int (nI v)), (3, .long sm), (2, .int acc), (1, .int (nI i)), (0, .ref am)]) hx hb dX6_badNow_83 hl (by decide) rfl (fun ls hl => ?_)
        refine lv_lload hx hb dX6_badNow_85 (lv_at hl 1 rfl) ?_
        refine lv_lconst (v := 0) hx hb dX6_badNow_87 (by decide) ?_
        refine W.lcmp hx hb dX6_badNow_88 ?_
        refine lv_if_le (tgt := 110) hx hb dX6_badNow_89 (by decide) (fun c_5 => ?_) (fun c_5 => ?_)
        · replace c_5 := Int32.not_lt.mpr c_5
          refine lv_iinc (v := nI (v + 1)) (lv' := [(5, .int (nI (v + 1))), (8, .long ((r_4.toInt64 * 1000) - (acc.toInt64 * (((M.2 6) ((4 * i) + v)).toInt64)))), (6, .long (((M.2 6) ((4 * i) + v)).toInt64)), (3, .long sm), (2, .int acc), (1, .int (nI i)), (0, .ref am)]) hx hb dX6_badNow_110 hl (k := 2) rfl (nI_1 _) (by decide) rfl (fun ls hl => ?_)
          refine lv_goto (tgt := 35) hx hb dX6_badNow_113 (by decide) ?_
          have hl := lv_sub hl [0, 3, 4, 5, 6] rfl
          exact ih_35 _ (by omega) H locs ls ⟨v + 1, _, rfl, by omega, hP, hD, hS, hl⟩
        · replace c_5 := Int32.not_le.mp c_5
          refine lv_lload_n hx hb dX6_badNow_92 rfl (lv_at hl 3 rfl) ?_
          refine lv_lload hx hb dX6_badNow_93 (lv_at hl 0 rfl) ?_
          refine lv_lload hx hb dX6_badNow_95 (lv_at hl 0 rfl) ?_
          refine lv_lmul hx hb dX6_badNow_97 ?_
          refine lv_iload_n hx hb dX6_badNow_98 rfl (lv_at hl 4 rfl) ?_
          refine lv_i2l (v := acc.toInt64) hx hb dX6_badNow_99 rfl ?_
          refine lv_lload hx hb dX6_badNow_100 (lv_at hl 1 rfl) ?_
          refine lv_lmul hx hb dX6_badNow_102 ?_
          refine lv_ldc2 (v := 10) hx hb hown (htT _ m_lc_X6_192) dX6_badNow_103 ?_
          refine lv_lmul hx hb dX6_badNow_106 ?_
          refine lv_ldiv hx hb dX6_badNow_107 (due_nw (by assumption) (by assumption)) ?_
          refine lv_ladd hx hb dX6_badNow_108 ?_
          refine lv_lstore_n (lv' := [(3, .long (sm + ((((r_4.toInt64 * 1000) - (acc.toInt64 * (((M.2 6) ((4 * i) + v)).toInt64))) * ((r_4.toInt64 * 1000) - (acc.toInt64 * (((M.2 6) ((4 * i) + v)).toInt64)))) / ((acc.toInt64 * (((M.2 6) ((4 * i) + v)).toInt64)) * 10)))), (8, .long ((r_4.toInt64 * 1000) - (acc.toInt64 * (((M.2 6) ((4 * i) + v)).toInt64)))), (6, .long (((M.2 6) ((4 * i) + v)).toInt64)), (5, .int (nI v)), (2, .int acc), (1, .int (nI i)), (0, .ref am)]) hx hb dX6_badNow_109 rfl hl (by decide) rfl (fun ls hl => ?_)
          refine lv_iinc (v := nI (v + 1)) (lv' := [(5, .int (nI (v + 1))), (3, .long (sm + ((((r_4.toInt64 * 1000) - (acc.toInt64 * (((M.2 6) ((4 * i) + v)).toInt64))) * ((r_4.toInt64 * 1000) - (acc.toInt64 * (((M.2 6) ((4 * i) + v)).toInt64)))) / ((acc.toInt64 * (((M.2 6) ((4 * i) + v)).toInt64)) * 10)))), (8, .long ((r_4.toInt64 * 1000) - (acc.toInt64 * (((M.2 6) ((4 * i) + v)).toInt64)))), (6, .long (((M.2 6) ((4 * i) + v)).toInt64)), (2, .int acc), (1, .int (nI i)), (0, .ref am)]) hx hb dX6_badNow_110 hl (k := 3) rfl (nI_1 _) (by decide) rfl (fun ls hl => ?_)
          refine lv_goto (tgt := 35) hx hb dX6_badNow_113 (by decide) ?_
          have hl := lv_sub hl [0, 1, 4, 5, 6] rfl
          exact ih_35 _ (by omega) H locs ls ⟨v + 1, _, rfl, by omega, hP, hD, hS, hl⟩
  · replace c_1 : ¬ (vc ≤ j) := fun h9 => c_1 ((nI_leI (a := vc) (b := j) (by omega) (by omega)).mpr h9)
    refine lv_iload_n hx hb dX6_badNow_14 rfl (lv_at hl 1 rfl) ?_
    refine lv_aload_n hx hb dX6_badNow_15 rfl (lv_at hl 3 rfl) ?_
    refine lv_iload_n hx hb dX6_badNow_16 rfl (lv_at hl 2 rfl) ?_
    refine lv_iload_n hx hb dX6_badNow_17 rfl (lv_at hl 0 rfl) ?_
    refine lv_iconst (v := 0) hx hb dX6_badNow_18 (by decide) ?_
    refine kc_i (va_runV (As := [.int (nI i), .int (nI j), .int 0]) (rest := [.int acc]) ⟨hx, hb, hml, hown, htT⟩ (m_toldNow l D cA _ am r M na hna h22 (nI i) (nI j) 0) (cwV 3 htT (kg_V m_ml_X6_182 m_im_X6_toldNow m_sl_X6_toldNow m_in_X6 m_cd_X6_toldNow) rfl rfl rfl (by decide +kernel) ⟨Nat.le_of_ble_eq_true rfl, Nat.le_of_ble_eq_true rfl⟩) (kp_V hK hP hD hTB (km_rc hK hP)) rfl rfl hl.1 rfl (lv_room (Nat.le_of_ble_eq_true rfl)) dX6_badNow_19 ⟨Nat.le_of_ble_eq_true rfl, Nat.le_of_ble_eq_true rfl⟩) hD hS hA (fun r_6 x_6 H locs hq_6 hP hD hS => ?_)
    rw [hq_6.2] at hP hD
    refine lv_iadd hx hb dX6_badNow_22 ?_
    refine lv_istore_n (lv' := [(2, .int (acc + r_6)), (3, .int (nI j)), (1, .int (nI i)), (0, .ref am)]) hx hb dX6_badNow_23 rfl hl (by decide) rfl (fun ls hl => ?_)
    refine lv_iinc (v := nI (j + 1)) (lv' := [(3, .int (nI (j + 1))), (2, .int (acc + r_6)), (1, .int (nI i)), (0, .ref am)]) hx hb dX6_badNow_24 hl (k := 1) rfl (nI_1 _) (by decide) rfl (fun ls hl => ?_)
    refine lv_goto (tgt := 4) hx hb dX6_badNow_27 (by decide) ?_
    have hl := lv_sub hl [0, 1, 2, 3] rfl
    exact ih_4 _ (by omega) H locs ls ⟨j + 1, _, rfl, by omega, hP, hD, hS, hl⟩

set_option maxRecDepth 100000 in
set_option maxHeartbeats 4000000 in
/-- isTrustedNow -/
theorem t_isTrustedNow (l : Launch) (D : va_G) (cA : Nat → ClassId) (sz : Nat) (am : Nat) (r : Nat → Nat) (M : MSt) (n na : Nat) (hI : INVR n na M) (i : Nat) (hi : i < n) : Met l yX6_isTrustedNow (Cond.code yX6_isTrustedNow cX6_isTrustedNow 4 (some .boolean) :: TT) ({ frames := 2, cells := 0, slots := 0, locals := 54 }) (va_Pc [.ref am, .int (nI i)] (kPre D cA (wM cA am r M) sz)) (va_Qi (fun (r_ : Int32) (x_ : MSt) => (r_ = 0 ∨ r_ = 1) ∧ x_ = M) (fun x_ => kB D cA (va_A (wM cA am r M) sz) (wM cA am r x_)) (va_A (wM cA am r M) sz)) 0 0 (va_A (wM cA am r M) sz) := by
  refine Met.ofW (cc := cX6_isTrustedNow) (maxL := 4) (ret := (some .boolean)) (by decide) rfl ?_
  intro p e s m args below meth c s₁ B hml hv
  obtain ⟨rfl, hsz, hP, hK, hD0, hTB⟩ := hv
  have hx := B.exec
  have hb := B.bytes
  have hr := B.returns
  have hts := atoms_spec (ws := Cond.code yX6_isTrustedNow cX6_isTrustedNow 4 (some .boolean) :: TT) B.pre
  have htT : ∀ w ∈ TT, w.before _ s = true := fun w h => hts w (List.mem_cons_of_mem _ h)
  have hown : s.vm.findClass RX6 = some m.cls := findClass_of_methodNamed B.named
  have hlocks := B.notSynchronized
  subst hsz
  have hD := hD0.self (sz := s.heap.size)
  generalize hAe : va_A (wM cA am r M) s.heap.size = A at hD ⊢
  have hA : ∀ q : Nat, s.heap.size ≤ q → A q := fun q h => by rw [← hAe]; exact Or.inr h
  have hS : va_S A s.heap s.heap [] := va_S.rf
  have hl := lv_entry ([.ref am, .int (nI i)]) (n := 4) (Nat.le_of_ble_eq_true rfl)
  rw [lg_entry_eq]
  generalize (lg_sl ([.ref am, .int (nI i)]) ++ List.replicate (4 - (lg_sl ([.ref am, .int (nI i)])).length) Slot.unset).toArray = ls at hl ⊢
  have hl : lv_has ls 4 [(0, .ref am), (1, .int (nI i))] := hl
  have hn8 := hI.n8
  have hna := hI.na
  have h22 := hI.h22
  obtain ⟨vc, hvc, evc⟩ := (hI.2.1 i hi).1
  refine lv_iconst (v := 0) hx hb dX6_isTrustedNow_0 (by decide) ?_
  refine lv_istore_n (lv' := [(2, .int 0), (0, .ref am), (1, .int (nI i))]) hx hb dX6_isTrustedNow_1 rfl hl (by decide) rfl (fun ls hl => ?_)
  refine lv_iconst (v := 0) hx hb dX6_isTrustedNow_2 (by decide) ?_
  refine lv_istore_n (lv' := [(3, .int 0), (2, .int 0), (0, .ref am), (1, .int (nI i))]) hx hb dX6_isTrustedNow_3 rfl hl (by decide) rfl (fun ls hl => ?_)
  refine kz_loop 4 (fun N9 H locs ls => ∃ (j : Nat) (acc : Int32), N9 = vc - j ∧ j ≤ vc ∧ va_P D vwCl (wM cA am r M) H ∧ va_D A (wM cA am r M) ∧ va_S A s.heap H locs ∧ lv_has ls 4 [(3, .int (nI j)), (2, .int acc), (1, .int (nI i)), (0, .ref am)]) (fun N9 ih_4 H locs ls hI => ?_) ⟨0, 0, rfl, by omega, hP, hD, hS, lv_sub hl [0, 1, 3, 2] rfl⟩
  obtain ⟨j, acc, hn9, hj, hP, hD, hS, hl⟩ := hI
  refine lv_iload_n hx hb dX6_isTrustedNow_4 rfl (lv_at hl 0 rfl) ?_
  refine lv_aload_n hx hb dX6_isTrustedNow_5 rfl (lv_at hl 3 rfl) ?_
  refine km_getr hx hb htT hown hK hP 5 (by decide) rfl (htT _ m_fl_X6_13) dX6_isTrustedNow_6 ?_
  refine lv_iload_n hx hb dX6_isTrustedNow_9 rfl (lv_at hl 2 rfl) ?_
  refine km_ialdv (x := nI vc) hx hb hK hP 5 rfl rfl (show vp_in (nI (i)) 8 from ki_in (by omega) (by decide)) ((congrArg _ (ki_cl (by omega))).trans evc) dX6_isTrustedNow_10 ?_
  refine lv_icmp_ge (tgt := 66) hx hb dX6_isTrustedNow_11 (by decide) (fun c_1 => ?_) (fun c_1 => ?_)
  · replace c_1 := (nI_leI (a := vc) (b := j) (by omega) (by omega)).mp c_1
    refine lv_iload_n hx hb dX6_isTrustedNow_66 rfl (lv_at hl 1 rfl) ?_
    refine lv_iconst (v := 1) hx hb dX6_isTrustedNow_67 (by decide) ?_
    refine lv_icmp_eq (tgt := 104) hx hb dX6_isTrustedNow_68 (by decide) (fun c_2 => ?_) (fun c_2 => ?_)
    · refine lv_iconst (v := 1) hx hb dX6_isTrustedNow_104 (by decide) ?_
      refine lv_goto (tgt := 109) hx hb dX6_isTrustedNow_105 (by decide) ?_
      exact W.zret (v := 1) hx hb hr (rfl) (fun t ht hW => ⟨⟨1, M, rfl, ⟨by first | exact Or.inl rfl | exact Or.inr rfl, rfl⟩, by rw [ht]; exact hP, va_K.moved hW.alike hK, hD⟩, hS.F ht⟩) hS.2.2 dX6_isTrustedNow_109
    · refine lv_aload_n hx hb dX6_isTrustedNow_71 rfl (lv_at hl 3 rfl) ?_
      refine lv_iload_n hx hb dX6_isTrustedNow_72 rfl (lv_at hl 2 rfl) ?_
      refine kc_i (va_runV (As := [.int (nI i)]) (rest := []) ⟨hx, hb, hml, hown, htT⟩ (t_badNow l D cA _ am r M n na hI i hi) (cwV 1 htT (kg_V m_ml_X6_194 m_im_X6_badNow m_sl_X6_badNow m_in_X6 m_cd_X6_badNow) rfl rfl rfl (by decide +kernel) ⟨Nat.le_of_ble_eq_true rfl, Nat.le_of_ble_eq_true rfl⟩) (kp_V hK hP hD hTB (km_rc hK hP)) rfl rfl hl.1 rfl (lv_room (Nat.le_of_ble_eq_true rfl)) dX6_isTrustedNow_73 ⟨Nat.le_of_ble_eq_true rfl, Nat.le_of_ble_eq_true rfl⟩) hD hS hA (fun r_3 x_3 H locs hq_3 hP hD hS => ?_)
      rw [hq_3.2] at hP hD
      refine lv_iload_n hx hb dX6_isTrustedNow_76 rfl (lv_at hl 1 rfl) ?_
      refine lv_iconst (v := 2) hx hb dX6_isTrustedNow_77 (by decide) ?_
      refine lv_icmp_ne (tgt := 87) hx hb dX6_isTrustedNow_78 (by decide) (fun c_4 => ?_) (fun c_4 => ?_)
      · refine lv_iload_n hx hb dX6_isTrustedNow_87 rfl (lv_at hl 1 rfl) ?_
        refine lv_iconst (v := 3) hx hb dX6_isTrustedNow_88 (by decide) ?_
        refine lv_icmp_ne (tgt := 98) hx hb dX6_isTrustedNow_89 (by decide) (fun c_5 => ?_) (fun c_5 => ?_)
        · refine lv_sipush (v := 781) hx hb dX6_isTrustedNow_98 (by decide) ?_
          refine lv_icmp_gt (tgt := 108) hx hb dX6_isTrustedNow_101 (by decide) (fun c_6 => ?_) (fun c_6 => ?_)
          · refine lv_iconst (v := 0) hx hb dX6_isTrustedNow_108 (by decide) ?_
            exact W.zret (v := 0) hx hb hr (rfl) (fun t ht hW => ⟨⟨0, M, rfl, ⟨by first | exact Or.inl rfl | exact Or.inr rfl, rfl⟩, by rw [ht]; exact hP, va_K.moved hW.alike hK, hD⟩, hS.F ht⟩) hS.2.2 dX6_isTrustedNow_109
          · refine lv_iconst (v := 1) hx hb dX6_isTrustedNow_104 (by decide) ?_
            refine lv_goto (tgt := 109) hx hb dX6_isTrustedNow_105 (by decide) ?_
            exact W.zret (v := 1) hx hb hr (rfl) (fun t ht hW => ⟨⟨1, M, rfl, ⟨by first | exact Or.inl rfl | exact Or.inr rfl, rfl⟩, by rw [ht]; exact hP, va_K.moved hW.alike hK, hD⟩, hS.F ht⟩) hS.2.2 dX6_isTrustedNow_109
        · refine lv_sipush (v := 599) hx hb dX6_isTrustedNow_92 (by decide) ?_
          refine lv_goto (tgt := 101) hx hb dX6_isTrustedNow_95 (by decide) ?_
          refine lv_icmp_gt (tgt := 108) hx hb dX6_isTrustedNow_101 (by decide) (fun c_7 => ?_) (fun c_7 => ?_)
          · refine lv_iconst (v := 0) hx hb dX6_isTrustedNow_108 (by decide) ?_
            exact W.zret (v := 0) hx hb hr (rfl) (fun t ht hW => ⟨⟨0, M, rfl, ⟨by first | exact Or.inl rfl | exact Or.inr rfl, rfl⟩, by rw [ht]; exact hP, va_K.moved hW.alike hK, hD⟩, hS.F ht⟩) hS.2.2 dX6_isTrustedNow_109
          · refine lv_iconst (v := 1) hx hb dX6_isTrustedNow_104 (by decide) ?_
            refine lv_goto (tgt := 109) hx hb dX6_isTrustedNow_105 (by decide) ?_
            exact W.zret (v := 1) hx hb hr (rfl) (fun t ht hW => ⟨⟨1, M, rfl, ⟨by first | exact Or.inl rfl | exact Or.inr rfl, rfl⟩, by rw [ht]; exact hP, va_K.moved hW.alike hK, hD⟩, hS.F ht⟩) hS.2.2 dX6_isTrustedNow_109
      · refine lv_sipush (v := 384) hx hb dX6_isTrustedNow_81 (by decide) ?_
        refine lv_goto (tgt := 101) hx hb dX6_isTrustedNow_84 (by decide) ?_
        refine lv_icmp_gt (tgt := 108) hx hb dX6_isTrustedNow_101 (by decide) (fun c_8 => ?_) (fun c_8 => ?_)
        · refine lv_iconst (v := 0) hx hb dX6_isTrustedNow_108 (by decide) ?_
          exact W.zret (v := 0) hx hb hr (rfl) (fun t ht hW => ⟨⟨0, M, rfl, ⟨by first | exact Or.inl rfl | exact Or.inr rfl, rfl⟩, by rw [ht]; exact hP, va_K.moved hW.alike hK, hD⟩, hS.F ht⟩) hS.2.2 dX6_isTrustedNow_109
        · refine lv_iconst (v := 1) hx hb dX6_isTrustedNow_104 (by decide) ?_
          refine lv_goto (tgt := 109) hx hb dX6_isTrustedNow_105 (by decide) ?_
          exact W.zret (v := 1) hx hb hr (rfl) (fun t ht hW => ⟨⟨1, M, rfl, ⟨by first | exact Or.inl rfl | exact Or.inr rfl, rfl⟩, by rw [ht]; exact hP, va_K.moved hW.alike hK, hD⟩, hS.F ht⟩) hS.2.2 dX6_isTrustedNow_109
  · replace c_1 : ¬ (vc ≤ j) := fun h9 => c_1 ((nI_leI (a := vc) (b := j) (by omega) (by omega)).mpr h9)
    refine lv_iload_n hx hb dX6_isTrustedNow_14 rfl (lv_at hl 1 rfl) ?_
    refine lv_aload_n hx hb dX6_isTrustedNow_15 rfl (lv_at hl 3 rfl) ?_
    refine km_getr hx hb htT hown hK hP 6 (by decide) rfl (htT _ m_fl_X6_16) dX6_isTrustedNow_16 ?_
    refine lv_iload_n hx hb dX6_isTrustedNow_19 rfl (lv_at hl 2 rfl) ?_
    refine lv_iconst (v := 4) hx hb dX6_isTrustedNow_20 (by decide) ?_
    refine lv_imul hx hb dX6_isTrustedNow_21 ?_
    rw [show ((nI i) * 4 : Int32) = nI (4 * i) from (pk_mul i 4).trans (congrArg nI (by omega))]
    refine lv_iload_n hx hb dX6_isTrustedNow_22 rfl (lv_at hl 0 rfl) ?_
    refine lv_iadd hx hb dX6_isTrustedNow_23 ?_
    rw [show ((nI (4 * i)) + (nI j) : Int32) = nI ((4 * i) + j) from nI_add (4 * i) j]
    refine km_ialdv (x := (M.2 6) ((4 * i) + j)) hx hb hK hP 6 rfl rfl (show vp_in (nI ((4 * i) + j)) 32 from ki_in (by omega) (by decide)) (congrArg _ (ki_cl (by omega))) dX6_isTrustedNow_24 ?_
    refine lv_if_le (tgt := 32) hx hb dX6_isTrustedNow_25 (by decide) (fun c_9 => ?_) (fun c_9 => ?_)
    · replace c_9 := Int32.not_lt.mpr c_9
      refine lv_iconst (v := 0) hx hb dX6_isTrustedNow_32 (by decide) ?_
      refine lv_iadd hx hb dX6_isTrustedNow_33 ?_
      refine lv_istore_n (lv' := [(2, .int (acc + 0)), (3, .int (nI j)), (1, .int (nI i)), (0, .ref am)]) hx hb dX6_isTrustedNow_34 rfl hl (by decide) rfl (fun ls hl => ?_)
      refine lv_aload_n hx hb dX6_isTrustedNow_35 rfl (lv_at hl 3 rfl) ?_
      refine km_getr hx hb htT hown hK hP 6 (by decide) rfl (htT _ m_fl_X6_16) dX6_isTrustedNow_36 ?_
      refine lv_iload_n hx hb dX6_isTrustedNow_39 rfl (lv_at hl 2 rfl) ?_
      refine lv_iconst (v := 4) hx hb dX6_isTrustedNow_40 (by decide) ?_
      refine lv_imul hx hb dX6_isTrustedNow_41 ?_
      rw [show ((nI i) * 4 : Int32) = nI (4 * i) from (pk_mul i 4).trans (congrArg nI (by omega))]
      refine lv_iload_n hx hb dX6_isTrustedNow_42 rfl (lv_at hl 1 rfl) ?_
      refine lv_iadd hx hb dX6_isTrustedNow_43 ?_
      rw [show ((nI (4 * i)) + (nI j) : Int32) = nI ((4 * i) + j) from nI_add (4 * i) j]
      refine km_ialdv (x := (M.2 6) ((4 * i) + j)) hx hb hK hP 6 rfl rfl (show vp_in (nI ((4 * i) + j)) 32 from ki_in (by omega) (by decide)) (congrArg _ (ki_cl (by omega))) dX6_isTrustedNow_44 ?_
      refine lv_if_ne (tgt := 60) hx hb dX6_isTrustedNow_45 (by decide) (fun c_10 => ?_) (fun c_10 => ?_)
      · refine lv_iinc (v := nI (j + 1)) (lv' := [(3, .int (nI (j + 1))), (2, .int (acc + 0)), (1, .int (nI i)), (0, .ref am)]) hx hb dX6_isTrustedNow_60 hl (k := 1) rfl (nI_1 _) (by decide) rfl (fun ls hl => ?_)
        refine lv_goto (tgt := 4) hx hb dX6_isTrustedNow_63 (by decide) ?_
        have hl := lv_sub hl [0, 1, 2, 3] rfl
        exact ih_4 _ (by omega) H locs ls ⟨j + 1, _, rfl, by omega, hP, hD, hS, hl⟩
      · refine lv_aload_n hx hb dX6_isTrustedNow_48 rfl (lv_at hl 3 rfl) ?_
        refine lv_iload_n hx hb dX6_isTrustedNow_49 rfl (lv_at hl 2 rfl) ?_
        refine lv_iload_n hx hb dX6_isTrustedNow_50 rfl (lv_at hl 1 rfl) ?_
        refine lv_iconst (v := 0) hx hb dX6_isTrustedNow_51 (by decide) ?_
        refine kc_i (va_runV (As := [.int (nI i), .int (nI j), .int 0]) (rest := []) ⟨hx, hb, hml, hown, htT⟩ (m_toldNow l D cA _ am r M na hna h22 (nI i) (nI j) 0) (cwV 3 htT (kg_V m_ml_X6_182 m_im_X6_toldNow m_sl_X6_toldNow m_in_X6 m_cd_X6_toldNow) rfl rfl rfl (by decide +kernel) ⟨Nat.le_of_ble_eq_true rfl, Nat.le_of_ble_eq_true rfl⟩) (kp_V hK hP hD hTB (km_rc hK hP)) rfl rfl hl.1 rfl (lv_room (Nat.le_of_ble_eq_true rfl)) dX6_isTrustedNow_52 ⟨Nat.le_of_ble_eq_true rfl, Nat.le_of_ble_eq_true rfl⟩) hD hS hA (fun r_11 x_11 H locs hq_11 hP hD hS => ?_)
        rw [hq_11.2] at hP hD
        refine lv_if_le (tgt := 60) hx hb dX6_isTrustedNow_55 (by decide) (fun c_12 => ?_) (fun c_12 => ?_)
        · replace c_12 := Int32.not_lt.mpr c_12
          refine lv_iinc (v := nI (j + 1)) (lv' := [(3, .int (nI (j + 1))), (2, .int (acc + 0)), (1, .int (nI i)), (0, .ref am)]) hx hb dX6_isTrustedNow_60 hl (k := 1) rfl (nI_1 _) (by decide) rfl (fun ls hl => ?_)
          refine lv_goto (tgt := 4) hx hb dX6_isTrustedNow_63 (by decide) ?_
          have hl := lv_sub hl [0, 1, 2, 3] rfl
          exact ih_4 _ (by omega) H locs ls ⟨j + 1, _, rfl, by omega, hP, hD, hS, hl⟩
        · replace c_12 := Int32.not_le.mp c_12
          refine lv_iconst (v := 0) hx hb dX6_isTrustedNow_58 (by decide) ?_
          exact W.zret (v := 0) hx hb hr (rfl) (fun t ht hW => ⟨⟨0, M, rfl, ⟨by first | exact Or.inl rfl | exact Or.inr rfl, rfl⟩, by rw [ht]; exact hP, va_K.moved hW.alike hK, hD⟩, hS.F ht⟩) hS.2.2 dX6_isTrustedNow_59
    · replace c_9 := Int32.not_le.mp c_9
      refine lv_iconst (v := 1) hx hb dX6_isTrustedNow_28 (by decide) ?_
      refine lv_goto (tgt := 33) hx hb dX6_isTrustedNow_29 (by decide) ?_
      refine lv_iadd hx hb dX6_isTrustedNow_33 ?_
      refine lv_istore_n (lv' := [(2, .int (acc + 1)), (3, .int (nI j)), (1, .int (nI i)), (0, .ref am)]) hx hb dX6_isTrustedNow_34 rfl hl (by decide) rfl (fun ls hl => ?_)
      refine lv_aload_n hx hb dX6_isTrustedNow_35 rfl (lv_at hl 3 rfl) ?_
      refine km_getr hx hb htT hown hK hP 6 (by decide) rfl (htT _ m_fl_X6_16) dX6_isTrustedNow_36 ?_
      refine lv_iload_n hx hb dX6_isTrustedNow_39 rfl (lv_at hl 2 rfl) ?_
      refine lv_iconst (v := 4) hx hb dX6_isTrustedNow_40 (by decide) ?_
      refine lv_imul hx hb dX6_isTrustedNow_41 ?_
      rw [show ((nI i) * 4 : Int32) = nI (4 * i) from (pk_mul i 4).trans (congrArg nI (by omega))]
      refine lv_iload_n hx hb dX6_isTrustedNow_42 rfl (lv_at hl 1 rfl) ?_
      refine lv_iadd hx hb dX6_isTrustedNow_43 ?_
      rw [show ((nI (4 * i)) + (nI j) : Int32) = nI ((4 * i) + j) from nI_add (4 * i) j]
      refine km_ialdv (x := (M.2 6) ((4 * i) + j)) hx hb hK hP 6 rfl rfl (show vp_in (nI ((4 * i) + j)) 32 from ki_in (by omega) (by decide)) (congrArg _ (ki_cl (by omega))) dX6_isTrustedNow_44 ?_
      refine lv_if_ne (tgt := 60) hx hb dX6_isTrustedNow_45 (by decide) (fun c_13 => ?_) (fun c_13 => ?_)
      · refine lv_iinc (v := nI (j + 1)) (lv' := [(3, .int (nI (j + 1))), (2, .int (acc + 1)), (1, .int (nI i)), (0, .ref am)]) hx hb dX6_isTrustedNow_60 hl (k := 1) rfl (nI_1 _) (by decide) rfl (fun ls hl => ?_)
        refine lv_goto (tgt := 4) hx hb dX6_isTrustedNow_63 (by decide) ?_
        have hl := lv_sub hl [0, 1, 2, 3] rfl
        exact ih_4 _ (by omega) H locs ls ⟨j + 1, _, rfl, by omega, hP, hD, hS, hl⟩
      · refine lv_aload_n hx hb dX6_isTrustedNow_48 rfl (lv_at hl 3 rfl) ?_
        refine lv_iload_n hx hb dX6_isTrustedNow_49 rfl (lv_at hl 2 rfl) ?_
        refine lv_iload_n hx hb dX6_isTrustedNow_50 rfl (lv_at hl 1 rfl) ?_
        refine lv_iconst (v := 0) hx hb dX6_isTrustedNow_51 (by decide) ?_
        refine kc_i (va_runV (As := [.int (nI i), .int (nI j), .int 0]) (rest := []) ⟨hx, hb, hml, hown, htT⟩ (m_toldNow l D cA _ am r M na hna h22 (nI i) (nI j) 0) (cwV 3 htT (kg_V m_ml_X6_182 m_im_X6_toldNow m_sl_X6_toldNow m_in_X6 m_cd_X6_toldNow) rfl rfl rfl (by decide +kernel) ⟨Nat.le_of_ble_eq_true rfl, Nat.le_of_ble_eq_true rfl⟩) (kp_V hK hP hD hTB (km_rc hK hP)) rfl rfl hl.1 rfl (lv_room (Nat.le_of_ble_eq_true rfl)) dX6_isTrustedNow_52 ⟨Nat.le_of_ble_eq_true rfl, Nat.le_of_ble_eq_true rfl⟩) hD hS hA (fun r_14 x_14 H locs hq_14 hP hD hS => ?_)
        rw [hq_14.2] at hP hD
        refine lv_if_le (tgt := 60) hx hb dX6_isTrustedNow_55 (by decide) (fun c_15 => ?_) (fun c_15 => ?_)
        · replace c_15 := Int32.not_lt.mpr c_15
          refine lv_iinc (v := nI (j + 1)) (lv' := [(3, .int (nI (j + 1))), (2, .int (acc + 1)), (1, .int (nI i)), (0, .ref am)]) hx hb dX6_isTrustedNow_60 hl (k := 1) rfl (nI_1 _) (by decide) rfl (fun ls hl => ?_)
          refine lv_goto (tgt := 4) hx hb dX6_isTrustedNow_63 (by decide) ?_
          have hl := lv_sub hl [0, 1, 2, 3] rfl
          exact ih_4 _ (by omega) H locs ls ⟨j + 1, _, rfl, by omega, hP, hD, hS, hl⟩
        · replace c_15 := Int32.not_le.mp c_15
          refine lv_iconst (v := 0) hx hb dX6_isTrustedNow_58 (by decide) ?_
          exact W.zret (v := 0) hx hb hr (rfl) (fun t ht hW => ⟨⟨0, M, rfl, ⟨by first | exact Or.inl rfl | exact Or.inr rfl, rfl⟩, by rw [ht]; exact hP, va_K.moved hW.alike hK, hD⟩, hS.F ht⟩) hS.2.2 dX6_isTrustedNow_59

set_option maxRecDepth 100000 in
set_option maxHeartbeats 4000000 in
/-- bestNow -/
theorem t_bestNow (l : Launch) (D : va_G) (cA : Nat → ClassId) (sz : Nat) (am : Nat) (r : Nat → Nat) (M : MSt) (n na : Nat) (hI : INVR n na M) (i : Nat) (hi : i < n) : MetD lw_cs l yX6_bestNow (Cond.code yX6_bestNow cX6_bestNow 4 (some .int) :: TT) ({ frames := 2, cells := 0, slots := 0, locals := 48 }) (va_Pc [.ref am, .int (nI i)] (kPre D cA (wM cA am r M) sz)) (va_Qi (fun (r_ : Int32) (x_ : MSt) => True ∧ x_ = M) (fun x_ => kB D cA (va_A (wM cA am r M) sz) (wM cA am r x_)) (va_A (wM cA am r M) sz)) 0 0 (va_A (wM cA am r M) sz) := by
  refine MetD.ofW (cc := cX6_bestNow) (maxL := 4) (ret := (some .int)) (by decide) rfl ?_
  intro p e s m args below meth c s₁ B hml hv hd0
  obtain ⟨rfl, hsz, hP, hK, hD0, hTB⟩ := hv
  have hx := B.exec
  have hb := B.bytes
  have hr := B.returns
  have hts := atoms_spec (ws := Cond.code yX6_bestNow cX6_bestNow 4 (some .int) :: TT) B.pre
  have htT : ∀ w ∈ TT, w.before _ s = true := fun w h => hts w (List.mem_cons_of_mem _ h)
  have hown : s.vm.findClass RX6 = some m.cls := findClass_of_methodNamed B.named
  have hlocks := B.notSynchronized
  subst hsz
  have hD := hD0.self (sz := s.heap.size)
  generalize hAe : va_A (wM cA am r M) s.heap.size = A at hD ⊢
  have hA : ∀ q : Nat, s.heap.size ≤ q → A q := fun q h => by rw [← hAe]; exact Or.inr h
  have hS : va_S A s.heap s.heap [] := va_S.rf
  have hl := lv_entry ([.ref am, .int (nI i)]) (n := 4) (Nat.le_of_ble_eq_true rfl)
  rw [lg_entry_eq]
  generalize (lg_sl ([.ref am, .int (nI i)]) ++ List.replicate (4 - (lg_sl ([.ref am, .int (nI i)])).length) Slot.unset).toArray = ls at hl ⊢
  have hl : lv_has ls 4 [(0, .ref am), (1, .int (nI i))] := hl
  have htT0 := htT
  have hTB0 := hTB
  have hK0 := hK
  have hown0 := hown
  have htT : ∀ w ∈ TT, w.before _ (s.setDrawn s.drawn) = true := dr_words htT0 s.drawn
  have hTB : TBok (s.setDrawn s.drawn) := TBok.same (u := s) (U := s.setDrawn s.drawn) rfl (Vm.Alike.refl s.vm) hTB0
  have hK : va_K D vwCl (ty6 cA) (s.setDrawn s.drawn) := hK0
  have hown : (s.setDrawn s.drawn).vm.findClass RX6 = some m.cls := hown0
  have hn8 := hI.n8
  have hna := hI.na
  have h22 := hI.h22
  obtain ⟨vc, hvc, evc⟩ := (hI.2.1 i hi).1
  refine lv_iconst (v := (-1)) hx hb dX6_bestNow_0 (by decide) ?_
  refine lv_istore_n (lv' := [(2, .int (-1)), (0, .ref am), (1, .int (nI i))]) hx hb dX6_bestNow_1 rfl hl (by decide) rfl (fun ls hl => ?_)
  refine lv_iconst (v := 0) hx hb dX6_bestNow_2 (by decide) ?_
  refine lv_istore_n (lv' := [(3, .int 0), (2, .int (-1)), (0, .ref am), (1, .int (nI i))]) hx hb dX6_bestNow_3 rfl hl (by decide) rfl (fun ls hl => ?_)
  refine kz_loopD 4 (fun N9 H locs ls => ∃ (j : Nat) (acc : Int32), N9 = vc - j ∧ j ≤ vc ∧ va_P D vwCl (wM cA am r M) H ∧ va_D A (wM cA am r M) ∧ va_S A s.heap H locs ∧ lv_has ls 4 [(3, .int (nI j)), (2, .int acc), (1, .int (nI i)), (0, .ref am)]) (fun N9 ih_4 H locs ls e_4 hd0 hI => ?_) hd0 ⟨0, (-1), rfl, by omega, hP, hD, hS, lv_sub hl [0, 1, 3, 2] rfl⟩
  obtain ⟨j, acc, hn9, hj, hP, hD, hS, hl⟩ := hI
  have htT : ∀ w ∈ TT, w.before _ (s.setDrawn e_4) = true := dr_words htT0 e_4
  have hTB : TBok (s.setDrawn e_4) := TBok.same (u := s) (U := s.setDrawn e_4) rfl (Vm.Alike.refl s.vm) hTB0
  have hK : va_K D vwCl (ty6 cA) (s.setDrawn e_4) := hK0
  have hown : (s.setDrawn e_4).vm.findClass RX6 = some m.cls := hown0
  refine lv_iload_n hx hb dX6_bestNow_4 rfl (lv_at hl 0 rfl) ?_
  refine lv_aload_n hx hb dX6_bestNow_5 rfl (lv_at hl 3 rfl) ?_
  refine km_getr hx hb htT hown hK hP 5 (by decide) rfl (htT _ m_fl_X6_13) dX6_bestNow_6 ?_
  refine lv_iload_n hx hb dX6_bestNow_9 rfl (lv_at hl 2 rfl) ?_
  refine km_ialdv (x := nI vc) hx hb hK hP 5 rfl rfl (show vp_in (nI (i)) 8 from ki_in (by omega) (by decide)) ((congrArg _ (ki_cl (by omega))).trans evc) dX6_bestNow_10 ?_
  refine lv_icmp_ge (tgt := 53) hx hb dX6_bestNow_11 (by decide) (fun c_1 => ?_) (fun c_1 => ?_)
  · replace c_1 := (nI_leI (a := vc) (b := j) (by omega) (by omega)).mp c_1
    refine lv_iload_n hx hb dX6_bestNow_53 rfl (lv_at hl 1 rfl) ?_
    refine W.endD hd0 ?_
    exact W.iret (v := acc) hx hb hr (fun t ht hW => ⟨⟨acc, M, rfl, ⟨trivial, rfl⟩, by rw [ht]; exact hP, va_K.moved hW.alike hK, hD⟩, hS.F ht⟩) hS.2.2 dX6_bestNow_54
  · replace c_1 : ¬ (vc ≤ j) := fun h9 => c_1 ((nI_leI (a := vc) (b := j) (by omega) (by omega)).mpr h9)
    refine lv_aload_n hx hb dX6_bestNow_14 rfl (lv_at hl 3 rfl) ?_
    refine lv_iload_n hx hb dX6_bestNow_15 rfl (lv_at hl 2 rfl) ?_
    refine lv_iload_n hx hb dX6_bestNow_16 rfl (lv_at hl 0 rfl) ?_
    refine lv_iconst (v := 0) hx hb dX6_bestNow_17 (by decide) ?_
    refine kc_i (va_runV (As := [.int (nI i), .int (nI j), .int 0]) (rest := []) ⟨hx, hb, hml, hown, htT⟩ (m_toldNow l D cA _ am r M na hna h22 (nI i) (nI j) 0) (cwV 3 htT (kg_V m_ml_X6_182 m_im_X6_toldNow m_sl_X6_toldNow m_in_X6 m_cd_X6_toldNow) rfl rfl rfl (by decide +kernel) ⟨Nat.le_of_ble_eq_true rfl, Nat.le_of_ble_eq_true rfl⟩) (kp_V hK hP hD hTB (km_rc hK hP)) rfl rfl hl.1 rfl (lv_room (Nat.le_of_ble_eq_true rfl)) dX6_bestNow_18 ⟨Nat.le_of_ble_eq_true rfl, Nat.le_of_ble_eq_true rfl⟩) hD hS hA (fun r_2 x_2 H locs hq_2 hP hD hS => ?_)
    rw [hq_2.2] at hP hD
    refine lv_if_le (tgt := 47) hx hb dX6_bestNow_21 (by decide) (fun c_3 => ?_) (fun c_3 => ?_)
    · replace c_3 := Int32.not_lt.mpr c_3
      refine lv_iinc (v := nI (j + 1)) (lv' := [(3, .int (nI (j + 1))), (2, .int acc), (1, .int (nI i)), (0, .ref am)]) hx hb dX6_bestNow_47 hl (k := 0) rfl (nI_1 _) (by decide) rfl (fun ls hl => ?_)
      refine lv_goto (tgt := 4) hx hb dX6_bestNow_50 (by decide) ?_
      have hl := lv_sub hl [0, 1, 2, 3] rfl
      exact ih_4 _ (by omega) H locs ls e_4 hd0 ⟨j + 1, _, rfl, by omega, hP, hD, hS, hl⟩
    · replace c_3 := Int32.not_le.mp c_3
      refine lv_iload_n hx hb dX6_bestNow_24 rfl (lv_at hl 1 rfl) ?_
      refine lv_iconst (v := (-1)) hx hb dX6_bestNow_25 (by decide) ?_
      refine lv_icmp_eq (tgt := 45) hx hb dX6_bestNow_26 (by decide) (fun c_4 => ?_) (fun c_4 => ?_)
      · refine lv_iload_n hx hb dX6_bestNow_45 rfl (lv_at hl 0 rfl) ?_
        refine lv_istore_n (lv' := [(2, .int (nI j)), (3, .int (nI j)), (1, .int (nI i)), (0, .ref am)]) hx hb dX6_bestNow_46 rfl hl (by decide) rfl (fun ls hl => ?_)
        refine lv_iinc (v := nI (j + 1)) (lv' := [(3, .int (nI (j + 1))), (2, .int (nI j)), (1, .int (nI i)), (0, .ref am)]) hx hb dX6_bestNow_47 hl (k := 1) rfl (nI_1 _) (by decide) rfl (fun ls hl => ?_)
        refine lv_goto (tgt := 4) hx hb dX6_bestNow_50 (by decide) ?_
        have hl := lv_sub hl [0, 1, 2, 3] rfl
        exact ih_4 _ (by omega) H locs ls e_4 hd0 ⟨j + 1, _, rfl, by omega, hP, hD, hS, hl⟩
      · refine lv_aload_n hx hb dX6_bestNow_29 rfl (lv_at hl 3 rfl) ?_
        refine lv_iload_n hx hb dX6_bestNow_30 rfl (lv_at hl 2 rfl) ?_
        refine lv_iload_n hx hb dX6_bestNow_31 rfl (lv_at hl 0 rfl) ?_
        refine kcD_d hd0 (va_runV_D (As := [.int (nI i), .int (nI j)]) (rest := []) ⟨hx, hb, hml, hown, htT⟩ (t_meanNow l D cA _ am r M na hna h22 (nI i) (nI j)) (cwV 2 htT (kg_V m_ml_X6_185 m_im_X6_meanNow m_sl_X6_meanNow m_in_X6 m_cd_X6_meanNow) rfl rfl rfl (by decide +kernel) ⟨Nat.le_of_ble_eq_true rfl, Nat.le_of_ble_eq_true rfl⟩) (kp_V hK hP hD hTB (km_rc hK hP)) rfl rfl hl.1 rfl (lv_room (Nat.le_of_ble_eq_true rfl)) dX6_bestNow_32 ⟨Nat.le_of_ble_eq_true rfl, Nat.le_of_ble_eq_true rfl⟩) hD hS hA (fun r_5 x_5 H locs hq_5 hP hD hS d_5 hd0 => ?_)
        have htT : ∀ w ∈ TT, w.before _ (s.setDrawn d_5) = true := dr_words htT0 d_5
        have hTB : TBok (s.setDrawn d_5) := TBok.same (u := s) (U := s.setDrawn d_5) rfl (Vm.Alike.refl s.vm) hTB0
        have hK : va_K D vwCl (ty6 cA) (s.setDrawn d_5) := hK0
        have hown : (s.setDrawn d_5).vm.findClass RX6 = some m.cls := hown0
        rw [hq_5.2] at hP hD
        refine lv_aload_n hx hb dX6_bestNow_35 rfl (lv_at hl 3 rfl) ?_
        refine lv_iload_n hx hb dX6_bestNow_36 rfl (lv_at hl 2 rfl) ?_
        refine lv_iload_n hx hb dX6_bestNow_37 rfl (lv_at hl 1 rfl) ?_
        refine kcD_d hd0 (va_runV_D (As := [.int (nI i), .int acc]) (rest := [.double r_5]) ⟨hx, hb, hml, hown, htT⟩ (t_meanNow l D cA _ am r M na hna h22 (nI i) acc) (cwV 2 htT (kg_V m_ml_X6_185 m_im_X6_meanNow m_sl_X6_meanNow m_in_X6 m_cd_X6_meanNow) rfl rfl rfl (by decide +kernel) ⟨Nat.le_of_ble_eq_true rfl, Nat.le_of_ble_eq_true rfl⟩) (kp_V hK hP hD hTB (km_rc hK hP)) rfl rfl hl.1 rfl (lv_room (Nat.le_of_ble_eq_true rfl)) dX6_bestNow_38 ⟨Nat.le_of_ble_eq_true rfl, Nat.le_of_ble_eq_true rfl⟩) hD hS hA (fun r_6 x_6 H locs hq_6 hP hD hS d_6 hd0 => ?_)
        have htT : ∀ w ∈ TT, w.before _ (s.setDrawn d_6) = true := dr_words htT0 d_6
        have hTB : TBok (s.setDrawn d_6) := TBok.same (u := s) (U := s.setDrawn d_6) rfl (Vm.Alike.refl s.vm) hTB0
        have hK : va_K D vwCl (ty6 cA) (s.setDrawn d_6) := hK0
        have hown : (s.setDrawn d_6).vm.findClass RX6 = some m.cls := hown0
        rw [hq_6.2] at hP hD
        refine lv_dcmp hx hb dX6_bestNow_41 ?_
        refine lv_if_le (tgt := 47) hx hb dX6_bestNow_42 (by decide) (fun c_8 => ?_) (fun c_8 => ?_)
        · replace c_8 := Int32.not_lt.mpr c_8
          refine lv_iinc (v := nI (j + 1)) (lv' := [(3, .int (nI (j + 1))), (2, .int acc), (1, .int (nI i)), (0, .ref am)]) hx hb dX6_bestNow_47 hl (k := 0) rfl (nI_1 _) (by decide) rfl (fun ls hl => ?_)
          refine lv_goto (tgt := 4) hx hb dX6_bestNow_50 (by decide) ?_
          have hl := lv_sub hl [0, 1, 2, 3] rfl
          exact ih_4 _ (by omega) H locs ls d_6 hd0 ⟨j + 1, _, rfl, by omega, hP, hD, hS, hl⟩
        · replace c_8 := Int32.not_le.mp c_8
          refine lv_iload_n hx hb dX6_bestNow_45 rfl (lv_at hl 0 rfl) ?_
          refine lv_istore_n (lv' := [(2, .int (nI j)), (3, .int (nI j)), (1, .int (nI i)), (0, .ref am)]) hx hb dX6_bestNow_46 rfl hl (by decide) rfl (fun ls hl => ?_)
          refine lv_iinc (v := nI (j + 1)) (lv' := [(3, .int (nI (j + 1))), (2, .int (nI j)), (1, .int (nI i)), (0, .ref am)]) hx hb dX6_bestNow_47 hl (k := 1) rfl (nI_1 _) (by decide) rfl (fun ls hl => ?_)
          refine lv_goto (tgt := 4) hx hb dX6_bestNow_50 (by decide) ?_
          have hl := lv_sub hl [0, 1, 2, 3] rfl
          exact ih_4 _ (by omega) H locs ls d_6 hd0 ⟨j + 1, _, rfl, by omega, hP, hD, hS, hl⟩

set_option maxRecDepth 100000 in
set_option maxHeartbeats 4000000 in
theorem t_mean (l : Launch) (D : va_G) (cA : Nat → ClassId) (sz : Nat) (am : Nat) (r : Nat → Nat) (M : MSt) (n na : Nat) (hI : INVR n na M) (p0 p1 : Int32) : MetD lw_cs l yX6_mean (Cond.code yX6_mean cX6_mean 3 (some .double) :: TT) ({ frames := 3, cells := 0, slots := 0, locals := 65 }) (va_Pc [.ref am, .int p0, .int p1] (kPre D cA (wM cA am r M) sz)) (va_Qd (fun (r_ : UInt64) (x_ : MSt) => INVR n na x_ ∧ eqM M x_) (fun x_ => kB D cA (va_A (wM cA am r M) sz) (wM cA am r x_)) (va_A (wM cA am r M) sz)) 0 0 (va_A (wM cA am r M) sz) := by
  refine MetD.ofW (cc := cX6_mean) (maxL := 3) (ret := (some .double)) (by decide) rfl ?_
  intro p e s m args below meth c s₁ B hml hv hd0
  obtain ⟨rfl, hsz, hP, hK, hD0, hTB⟩ := hv
  have hx := B.exec
  have hb := B.bytes
  have hr := B.returns
  have hts := atoms_spec (ws := Cond.code yX6_mean cX6_mean 3 (some .double) :: TT) B.pre
  have htT : ∀ w ∈ TT, w.before _ s = true := fun w h => hts w (List.mem_cons_of_mem _ h)
  have hown : s.vm.findClass RX6 = some m.cls := findClass_of_methodNamed B.named
  have hlocks := B.notSynchronized
  subst hsz
  have hD := hD0.self (sz := s.heap.size)
  generalize hAe : va_A (wM cA am r M) s.heap.size = A at hD ⊢
  have hA : ∀ q : Nat, s.heap.size ≤ q → A q := fun q h => by rw [← hAe]; exact Or.inr h
  have hS : va_S A s.heap s.heap [] := va_S.rf
  have hl := lv_entry ([.ref am, .int p0, .int p1]) (n := 3) (Nat.le_of_ble_eq_true rfl)
  rw [lg_entry_eq]
  generalize (lg_sl ([.ref am, .int p0, .int p1]) ++ List.replicate (3 - (lg_sl ([.ref am, .int p0, .int p1])).length) Slot.unset).toArray = ls at hl ⊢
  have hl : lv_has ls 3 [(0, .ref am), (1, .int p0), (2, .int p1)] := hl
  have htT0 := htT
  have hTB0 := hTB
  have hK0 := hK
  have hown0 := hown
  have htT : ∀ w ∈ TT, w.before _ (s.setDrawn s.drawn) = true := dr_words htT0 s.drawn
  have hTB : TBok (s.setDrawn s.drawn) := TBok.same (u := s) (U := s.setDrawn s.drawn) rfl (Vm.Alike.refl s.vm) hTB0
  have hK : va_K D vwCl (ty6 cA) (s.setDrawn s.drawn) := hK0
  have hown : (s.setDrawn s.drawn).vm.findClass RX6 = some m.cls := hown0
  have hn8 := hI.n8
  have hna := hI.na
  have h22 := hI.h22
  refine lv_aload_n hx hb dX6_mean_0 rfl (lv_at hl 0 rfl) ?_
  refine lv_aload_n hx hb dX6_mean_1 rfl (lv_at hl 0 rfl) ?_
  refine lv_iload_n hx hb dX6_mean_2 rfl (lv_at hl 1 rfl) ?_
  refine lv_iload_n hx hb dX6_mean_3 rfl (lv_at hl 2 rfl) ?_
  have h3_1 : M.1 3 = nI n := hI.h3
  rcases kIn_swx (p := p0) hI.n8 h3_1 with hsw | ⟨i, hi, rfl⟩
  · refine kc_i (va_runV (As := [.int p0, .int p1]) (rest := [.ref am]) ⟨hx, hb, hml, hown, htT⟩ (m_isVariant_0 l D cA _ am r M p0 p1 hsw) (cwV 2 htT (kg_V m_ml_X6_102 m_im_X6_isVariant m_sl_X6_isVariant m_in_X6 m_cd_X6_isVariant) rfl rfl rfl (by decide +kernel) ⟨Nat.le_of_ble_eq_true rfl, Nat.le_of_ble_eq_true rfl⟩) (kp_V hK hP hD hTB (km_rc hK hP)) rfl rfl hl.1 rfl (lv_room (Nat.le_of_ble_eq_true rfl)) dX6_mean_4 ⟨Nat.le_of_ble_eq_true rfl, Nat.le_of_ble_eq_true rfl⟩) hD hS hA (fun r_1 x_1 H locs hq_1 hP hD hS => ?_)
    rw [hq_1.1]
    rw [hq_1.2] at hP hD
    refine lv_if_eq (tgt := 14) hx hb dX6_mean_7 (by decide) (fun _ => ?_) (fun c_2 => absurd c_2 (by decide))
    refine lv_iconst (v := 1) hx hb dX6_mean_14 (by decide) ?_
    refine km_puti hx hb htT hown hK hP hD hS 0 (by decide) rfl (htT _ m_fl_X6_80) rfl (by decide +kernel) dX6_mean_15 (fun H locs hP hD hS => ?_)
    refine lv_aload_n hx hb dX6_mean_18 rfl (lv_at hl 0 rfl) ?_
    refine km_getiv (x := 1) hx hb htT hown hK hP 0 (by decide) rfl (htT _ m_fl_X6_80) rfl dX6_mean_19 ?_
    refine lv_if_ne (tgt := 34) hx hb dX6_mean_22 (by decide) (fun _ => ?_) (fun c_3 => absurd c_3 (by decide))
    refine lv_dconst0 hx hb dX6_mean_34 ?_
    refine W.endD hd0 ?_
    exact W.dret (v := FP.dconst0) hx hb hr (fun t ht hW => ⟨⟨FP.dconst0, mS M 0 1, rfl, ⟨(INVR.iS hI (by decide) (by decide)), (eqM.rf).s0⟩, by rw [ht]; exact hP, va_K.moved hW.alike hK, hD⟩, hS.F ht⟩) hS.2.2 dX6_mean_35
  · refine kc_i (va_runV (As := [.int (nI i), .int p1]) (rest := [.ref am]) ⟨hx, hb, hml, hown, htT⟩ (m_isVariant_1 l D cA _ am r M n i hi hI.n8 h3_1 p1) (cwV 2 htT (kg_V m_ml_X6_102 m_im_X6_isVariant m_sl_X6_isVariant m_in_X6 m_cd_X6_isVariant) rfl rfl rfl (by decide +kernel) ⟨Nat.le_of_ble_eq_true rfl, Nat.le_of_ble_eq_true rfl⟩) (kp_V hK hP hD hTB (km_rc hK hP)) rfl rfl hl.1 rfl (lv_room (Nat.le_of_ble_eq_true rfl)) dX6_mean_4 ⟨Nat.le_of_ble_eq_true rfl, Nat.le_of_ble_eq_true rfl⟩) hD hS hA (fun r_1 x_1 H locs hq_1 hP hD hS => ?_)
    rw [hq_1.2] at hP hD
    obtain ⟨vc_1, hvc_1, evc_1⟩ := (hI.2.1 i hi).1
    rcases kIn_swx (n := vc_1) (p := p1) (by omega) evc_1 with hv_1 | ⟨v_1, hv_1, rfl⟩
    · rw [hq_1.1.trans hv_1]
      refine lv_if_eq (tgt := 14) hx hb dX6_mean_7 (by decide) (fun _ => ?_) (fun c_4 => absurd c_4 (by decide))
      refine lv_iconst (v := 1) hx hb dX6_mean_14 (by decide) ?_
      refine km_puti hx hb htT hown hK hP hD hS 0 (by decide) rfl (htT _ m_fl_X6_80) rfl (by decide +kernel) dX6_mean_15 (fun H locs hP hD hS => ?_)
      refine lv_aload_n hx hb dX6_mean_18 rfl (lv_at hl 0 rfl) ?_
      refine km_getiv (x := 1) hx hb htT hown hK hP 0 (by decide) rfl (htT _ m_fl_X6_80) rfl dX6_mean_19 ?_
      refine lv_if_ne (tgt := 34) hx hb dX6_mean_22 (by decide) (fun _ => ?_) (fun c_5 => absurd c_5 (by decide))
      refine lv_dconst0 hx hb dX6_mean_34 ?_
      refine W.endD hd0 ?_
      exact W.dret (v := FP.dconst0) hx hb hr (fun t ht hW => ⟨⟨FP.dconst0, mS M 0 1, rfl, ⟨(INVR.iS hI (by decide) (by decide)), (eqM.rf).s0⟩, by rw [ht]; exact hP, va_K.moved hW.alike hK, hD⟩, hS.F ht⟩) hS.2.2 dX6_mean_35
    · have hv4_1 : v_1 < 4 := by omega
      have hvk_1 := kIn_sw (i := v_1) (n := vc_1) hv_1 (by omega) evc_1
      rw [hq_1.1.trans hvk_1]
      refine lv_if_eq (tgt := 14) hx hb dX6_mean_7 (by decide) (fun c_6 => absurd c_6 (by decide)) (fun _ => ?_)
      refine lv_iconst (v := 0) hx hb dX6_mean_10 (by decide) ?_
      refine lv_goto (tgt := 15) hx hb dX6_mean_11 (by decide) ?_
      refine km_puti hx hb htT hown hK hP hD hS 0 (by decide) rfl (htT _ m_fl_X6_80) rfl (by decide +kernel) dX6_mean_15 (fun H locs hP hD hS => ?_)
      refine lv_aload_n hx hb dX6_mean_18 rfl (lv_at hl 0 rfl) ?_
      refine km_getiv (x := 0) hx hb htT hown hK hP 0 (by decide) rfl (htT _ m_fl_X6_80) rfl dX6_mean_19 ?_
      refine lv_if_ne (tgt := 34) hx hb dX6_mean_22 (by decide) (fun c_7 => absurd c_7 (by decide)) (fun _ => ?_)
      refine lv_aload_n hx hb dX6_mean_25 rfl (lv_at hl 0 rfl) ?_
      refine lv_iload_n hx hb dX6_mean_26 rfl (lv_at hl 1 rfl) ?_
      refine lv_iload_n hx hb dX6_mean_27 rfl (lv_at hl 2 rfl) ?_
      refine kcD_d hd0 (va_runV_D (As := [.int (nI i), .int (nI v_1)]) (rest := []) ⟨hx, hb, hml, hown, htT⟩ (t_meanNow l D cA _ am r (mS M 0 0) na hna h22 (nI i) (nI v_1)) (cwV 2 htT (kg_V m_ml_X6_185 m_im_X6_meanNow m_sl_X6_meanNow m_in_X6 m_cd_X6_meanNow) rfl rfl rfl (by decide +kernel) ⟨Nat.le_of_ble_eq_true rfl, Nat.le_of_ble_eq_true rfl⟩) (kp_V hK hP hD hTB (km_rc hK hP)) rfl rfl hl.1 rfl (lv_room (Nat.le_of_ble_eq_true rfl)) dX6_mean_28 ⟨Nat.le_of_ble_eq_true rfl, Nat.le_of_ble_eq_true rfl⟩) hD hS hA (fun r_8 x_8 H locs hq_8 hP hD hS d_8 hd0 => ?_)
      have htT : ∀ w ∈ TT, w.before _ (s.setDrawn d_8) = true := dr_words htT0 d_8
      have hTB : TBok (s.setDrawn d_8) := TBok.same (u := s) (U := s.setDrawn d_8) rfl (Vm.Alike.refl s.vm) hTB0
      have hK : va_K D vwCl (ty6 cA) (s.setDrawn d_8) := hK0
      have hown : (s.setDrawn d_8).vm.findClass RX6 = some m.cls := hown0
      rw [hq_8.2] at hP hD
      refine lv_goto (tgt := 35) hx hb dX6_mean_31 (by decide) ?_
      refine W.endD hd0 ?_
      exact W.dret (v := r_8) hx hb hr (fun t ht hW => ⟨⟨r_8, mS M 0 0, rfl, ⟨(INVR.iS hI (by decide) (by decide)), (eqM.rf).s0⟩, by rw [ht]; exact hP, va_K.moved hW.alike hK, hD⟩, hS.F ht⟩) hS.2.2 dX6_mean_35

set_option maxRecDepth 100000 in
set_option maxHeartbeats 4000000 in
theorem t_lift (l : Launch) (D : va_G) (cA : Nat → ClassId) (sz : Nat) (am : Nat) (r : Nat → Nat) (M : MSt) (n na : Nat) (hI : INVR n na M) (p0 p1 : Int32) : MetD lw_cs l yX6_lift (Cond.code yX6_lift cX6_lift 3 (some .double) :: TT) ({ frames := 3, cells := 0, slots := 0, locals := 65 }) (va_Pc [.ref am, .int p0, .int p1] (kPre D cA (wM cA am r M) sz)) (va_Qd (fun (r_ : UInt64) (x_ : MSt) => INVR n na x_ ∧ eqM M x_) (fun x_ => kB D cA (va_A (wM cA am r M) sz) (wM cA am r x_)) (va_A (wM cA am r M) sz)) 0 0 (va_A (wM cA am r M) sz) := by
  refine MetD.ofW (cc := cX6_lift) (maxL := 3) (ret := (some .double)) (by decide) rfl ?_
  intro p e s m args below meth c s₁ B hml hv hd0
  obtain ⟨rfl, hsz, hP, hK, hD0, hTB⟩ := hv
  have hx := B.exec
  have hb := B.bytes
  have hr := B.returns
  have hts := atoms_spec (ws := Cond.code yX6_lift cX6_lift 3 (some .double) :: TT) B.pre
  have htT : ∀ w ∈ TT, w.before _ s = true := fun w h => hts w (List.mem_cons_of_mem _ h)
  have hown : s.vm.findClass RX6 = some m.cls := findClass_of_methodNamed B.named
  have hlocks := B.notSynchronized
  subst hsz
  have hD := hD0.self (sz := s.heap.size)
  generalize hAe : va_A (wM cA am r M) s.heap.size = A at hD ⊢
  have hA : ∀ q : Nat, s.heap.size ≤ q → A q := fun q h => by rw [← hAe]; exact Or.inr h
  have hS : va_S A s.heap s.heap [] := va_S.rf
  have hl := lv_entry ([.ref am, .int p0, .int p1]) (n := 3) (Nat.le_of_ble_eq_true rfl)
  rw [lg_entry_eq]
  generalize (lg_sl ([.ref am, .int p0, .int p1]) ++ List.replicate (3 - (lg_sl ([.ref am, .int p0, .int p1])).length) Slot.unset).toArray = ls at hl ⊢
  have hl : lv_has ls 3 [(0, .ref am), (1, .int p0), (2, .int p1)] := hl
  have htT0 := htT
  have hTB0 := hTB
  have hK0 := hK
  have hown0 := hown
  have htT : ∀ w ∈ TT, w.before _ (s.setDrawn s.drawn) = true := dr_words htT0 s.drawn
  have hTB : TBok (s.setDrawn s.drawn) := TBok.same (u := s) (U := s.setDrawn s.drawn) rfl (Vm.Alike.refl s.vm) hTB0
  have hK : va_K D vwCl (ty6 cA) (s.setDrawn s.drawn) := hK0
  have hown : (s.setDrawn s.drawn).vm.findClass RX6 = some m.cls := hown0
  have hn8 := hI.n8
  have hna := hI.na
  have h22 := hI.h22
  refine lv_aload_n hx hb dX6_lift_0 rfl (lv_at hl 0 rfl) ?_
  refine lv_aload_n hx hb dX6_lift_1 rfl (lv_at hl 0 rfl) ?_
  refine lv_iload_n hx hb dX6_lift_2 rfl (lv_at hl 1 rfl) ?_
  refine lv_iload_n hx hb dX6_lift_3 rfl (lv_at hl 2 rfl) ?_
  have h3_1 : M.1 3 = nI n := hI.h3
  rcases kIn_swx (p := p0) hI.n8 h3_1 with hsw | ⟨i, hi, rfl⟩
  · refine kc_i (va_runV (As := [.int p0, .int p1]) (rest := [.ref am]) ⟨hx, hb, hml, hown, htT⟩ (m_isVariant_0 l D cA _ am r M p0 p1 hsw) (cwV 2 htT (kg_V m_ml_X6_102 m_im_X6_isVariant m_sl_X6_isVariant m_in_X6 m_cd_X6_isVariant) rfl rfl rfl (by decide +kernel) ⟨Nat.le_of_ble_eq_true rfl, Nat.le_of_ble_eq_true rfl⟩) (kp_V hK hP hD hTB (km_rc hK hP)) rfl rfl hl.1 rfl (lv_room (Nat.le_of_ble_eq_true rfl)) dX6_lift_4 ⟨Nat.le_of_ble_eq_true rfl, Nat.le_of_ble_eq_true rfl⟩) hD hS hA (fun r_1 x_1 H locs hq_1 hP hD hS => ?_)
    rw [hq_1.1]
    rw [hq_1.2] at hP hD
    refine lv_if_eq (tgt := 14) hx hb dX6_lift_7 (by decide) (fun _ => ?_) (fun c_2 => absurd c_2 (by decide))
    refine lv_iconst (v := 1) hx hb dX6_lift_14 (by decide) ?_
    refine km_puti hx hb htT hown hK hP hD hS 0 (by decide) rfl (htT _ m_fl_X6_80) rfl (by decide +kernel) dX6_lift_15 (fun H locs hP hD hS => ?_)
    refine lv_aload_n hx hb dX6_lift_18 rfl (lv_at hl 0 rfl) ?_
    refine km_getiv (x := 1) hx hb htT hown hK hP 0 (by decide) rfl (htT _ m_fl_X6_80) rfl dX6_lift_19 ?_
    refine lv_if_ne (tgt := 41) hx hb dX6_lift_22 (by decide) (fun _ => ?_) (fun c_3 => absurd c_3 (by decide))
    refine lv_dconst0 hx hb dX6_lift_41 ?_
    refine W.endD hd0 ?_
    exact W.dret (v := FP.dconst0) hx hb hr (fun t ht hW => ⟨⟨FP.dconst0, mS M 0 1, rfl, ⟨(INVR.iS hI (by decide) (by decide)), (eqM.rf).s0⟩, by rw [ht]; exact hP, va_K.moved hW.alike hK, hD⟩, hS.F ht⟩) hS.2.2 dX6_lift_42
  · refine kc_i (va_runV (As := [.int (nI i), .int p1]) (rest := [.ref am]) ⟨hx, hb, hml, hown, htT⟩ (m_isVariant_1 l D cA _ am r M n i hi hI.n8 h3_1 p1) (cwV 2 htT (kg_V m_ml_X6_102 m_im_X6_isVariant m_sl_X6_isVariant m_in_X6 m_cd_X6_isVariant) rfl rfl rfl (by decide +kernel) ⟨Nat.le_of_ble_eq_true rfl, Nat.le_of_ble_eq_true rfl⟩) (kp_V hK hP hD hTB (km_rc hK hP)) rfl rfl hl.1 rfl (lv_room (Nat.le_of_ble_eq_true rfl)) dX6_lift_4 ⟨Nat.le_of_ble_eq_true rfl, Nat.le_of_ble_eq_true rfl⟩) hD hS hA (fun r_1 x_1 H locs hq_1 hP hD hS => ?_)
    rw [hq_1.2] at hP hD
    obtain ⟨vc_1, hvc_1, evc_1⟩ := (hI.2.1 i hi).1
    rcases kIn_swx (n := vc_1) (p := p1) (by omega) evc_1 with hv_1 | ⟨v_1, hv_1, rfl⟩
    · rw [hq_1.1.trans hv_1]
      refine lv_if_eq (tgt := 14) hx hb dX6_lift_7 (by decide) (fun _ => ?_) (fun c_4 => absurd c_4 (by decide))
      refine lv_iconst (v := 1) hx hb dX6_lift_14 (by decide) ?_
      refine km_puti hx hb htT hown hK hP hD hS 0 (by decide) rfl (htT _ m_fl_X6_80) rfl (by decide +kernel) dX6_lift_15 (fun H locs hP hD hS => ?_)
      refine lv_aload_n hx hb dX6_lift_18 rfl (lv_at hl 0 rfl) ?_
      refine km_getiv (x := 1) hx hb htT hown hK hP 0 (by decide) rfl (htT _ m_fl_X6_80) rfl dX6_lift_19 ?_
      refine lv_if_ne (tgt := 41) hx hb dX6_lift_22 (by decide) (fun _ => ?_) (fun c_5 => absurd c_5 (by decide))
      refine lv_dconst0 hx hb dX6_lift_41 ?_
      refine W.endD hd0 ?_
      exact W.dret (v := FP.dconst0) hx hb hr (fun t ht hW => ⟨⟨FP.dconst0, mS M 0 1, rfl, ⟨(INVR.iS hI (by decide) (by decide)), (eqM.rf).s0⟩, by rw [ht]; exact hP, va_K.moved hW.alike hK, hD⟩, hS.F ht⟩) hS.2.2 dX6_lift_42
    · have hv4_1 : v_1 < 4 := by omega
      have hvk_1 := kIn_sw (i := v_1) (n := vc_1) hv_1 (by omega) evc_1
      rw [hq_1.1.trans hvk_1]
      refine lv_if_eq (tgt := 14) hx hb dX6_lift_7 (by decide) (fun c_6 => absurd c_6 (by decide)) (fun _ => ?_)
      refine lv_iconst (v := 0) hx hb dX6_lift_10 (by decide) ?_
      refine lv_goto (tgt := 15) hx hb dX6_lift_11 (by decide) ?_
      refine km_puti hx hb htT hown hK hP hD hS 0 (by decide) rfl (htT _ m_fl_X6_80) rfl (by decide +kernel) dX6_lift_15 (fun H locs hP hD hS => ?_)
      refine lv_aload_n hx hb dX6_lift_18 rfl (lv_at hl 0 rfl) ?_
      refine km_getiv (x := 0) hx hb htT hown hK hP 0 (by decide) rfl (htT _ m_fl_X6_80) rfl dX6_lift_19 ?_
      refine lv_if_ne (tgt := 41) hx hb dX6_lift_22 (by decide) (fun c_7 => absurd c_7 (by decide)) (fun _ => ?_)
      refine lv_aload_n hx hb dX6_lift_25 rfl (lv_at hl 0 rfl) ?_
      refine lv_iload_n hx hb dX6_lift_26 rfl (lv_at hl 1 rfl) ?_
      refine lv_iload_n hx hb dX6_lift_27 rfl (lv_at hl 2 rfl) ?_
      refine kcD_d hd0 (va_runV_D (As := [.int (nI i), .int (nI v_1)]) (rest := []) ⟨hx, hb, hml, hown, htT⟩ (t_meanNow l D cA _ am r (mS M 0 0) na hna h22 (nI i) (nI v_1)) (cwV 2 htT (kg_V m_ml_X6_185 m_im_X6_meanNow m_sl_X6_meanNow m_in_X6 m_cd_X6_meanNow) rfl rfl rfl (by decide +kernel) ⟨Nat.le_of_ble_eq_true rfl, Nat.le_of_ble_eq_true rfl⟩) (kp_V hK hP hD hTB (km_rc hK hP)) rfl rfl hl.1 rfl (lv_room (Nat.le_of_ble_eq_true rfl)) dX6_lift_28 ⟨Nat.le_of_ble_eq_true rfl, Nat.le_of_ble_eq_true rfl⟩) hD hS hA (fun r_8 x_8 H locs hq_8 hP hD hS d_8 hd0 => ?_)
      have htT : ∀ w ∈ TT, w.before _ (s.setDrawn d_8) = true := dr_words htT0 d_8
      have hTB : TBok (s.setDrawn d_8) := TBok.same (u := s) (U := s.setDrawn d_8) rfl (Vm.Alike.refl s.vm) hTB0
      have hK : va_K D vwCl (ty6 cA) (s.setDrawn d_8) := hK0
      have hown : (s.setDrawn d_8).vm.findClass RX6 = some m.cls := hown0
      rw [hq_8.2] at hP hD
      refine lv_aload_n hx hb dX6_lift_31 rfl (lv_at hl 0 rfl) ?_
      refine lv_iload_n hx hb dX6_lift_32 rfl (lv_at hl 1 rfl) ?_
      refine lv_iconst (v := 0) hx hb dX6_lift_33 (by decide) ?_
      refine kcD_d hd0 (va_runV_D (As := [.int (nI i), .int 0]) (rest := [.double r_8]) ⟨hx, hb, hml, hown, htT⟩ (t_meanNow l D cA _ am r (mS M 0 0) na hna h22 (nI i) 0) (cwV 2 htT (kg_V m_ml_X6_185 m_im_X6_meanNow m_sl_X6_meanNow m_in_X6 m_cd_X6_meanNow) rfl rfl rfl (by decide +kernel) ⟨Nat.le_of_ble_eq_true rfl, Nat.le_of_ble_eq_true rfl⟩) (kp_V hK hP hD hTB (km_rc hK hP)) rfl rfl hl.1 rfl (lv_room (Nat.le_of_ble_eq_true rfl)) dX6_lift_34 ⟨Nat.le_of_ble_eq_true rfl, Nat.le_of_ble_eq_true rfl⟩) hD hS hA (fun r_9 x_9 H locs hq_9 hP hD hS d_9 hd0 => ?_)
      have htT : ∀ w ∈ TT, w.before _ (s.setDrawn d_9) = true := dr_words htT0 d_9
      have hTB : TBok (s.setDrawn d_9) := TBok.same (u := s) (U := s.setDrawn d_9) rfl (Vm.Alike.refl s.vm) hTB0
      have hK : va_K D vwCl (ty6 cA) (s.setDrawn d_9) := hK0
      have hown : (s.setDrawn d_9).vm.findClass RX6 = some m.cls := hown0
      rw [hq_9.2] at hP hD
      refine lv_dsub_any hd0 lw_bits hx hb dX6_lift_37 (fun r_10 d_10 hal_10 hd0 => ?_)
      have htT : ∀ w ∈ TT, w.before _ (s.setDrawn d_10) = true := dr_words htT0 d_10
      have hTB : TBok (s.setDrawn d_10) := TBok.same (u := s) (U := s.setDrawn d_10) rfl (Vm.Alike.refl s.vm) hTB0
      have hK : va_K D vwCl (ty6 cA) (s.setDrawn d_10) := hK0
      have hown : (s.setDrawn d_10).vm.findClass RX6 = some m.cls := hown0
      refine lv_goto (tgt := 42) hx hb dX6_lift_38 (by decide) ?_
      refine W.endD hd0 ?_
      exact W.dret (v := r_10) hx hb hr (fun t ht hW => ⟨⟨r_10, mS M 0 0, rfl, ⟨(INVR.iS hI (by decide) (by decide)), (eqM.rf).s0⟩, by rw [ht]; exact hP, va_K.moved hW.alike hK, hD⟩, hS.F ht⟩) hS.2.2 dX6_lift_42

set_option maxRecDepth 100000 in
set_option maxHeartbeats 4000000 in
theorem t_sure (l : Launch) (D : va_G) (cA : Nat → ClassId) (sz : Nat) (am : Nat) (r : Nat → Nat) (M : MSt) (n na : Nat) (hI : INVR n na M) (p0 p1 : Int32) : MetD lw_cs l yX6_sure (Cond.code yX6_sure cX6_sure 9 (some .double) :: TT) ({ frames := 3, cells := 0, slots := 0, locals := 73 }) (va_Pc [.ref am, .int p0, .int p1] (kPre D cA (wM cA am r M) sz)) (va_Qd (fun (r_ : UInt64) (x_ : MSt) => INVR n na x_ ∧ eqM M x_) (fun x_ => kB D cA (va_A (wM cA am r M) sz) (wM cA am r x_)) (va_A (wM cA am r M) sz)) 0 0 (va_A (wM cA am r M) sz) := by
  refine MetD.ofW (cc := cX6_sure) (maxL := 9) (ret := (some .double)) (by decide) rfl ?_
  intro p e s m args below meth c s₁ B hml hv hd0
  obtain ⟨rfl, hsz, hP, hK, hD0, hTB⟩ := hv
  have hx := B.exec
  have hb := B.bytes
  have hr := B.returns
  have hts := atoms_spec (ws := Cond.code yX6_sure cX6_sure 9 (some .double) :: TT) B.pre
  have htT : ∀ w ∈ TT, w.before _ s = true := fun w h => hts w (List.mem_cons_of_mem _ h)
  have hown : s.vm.findClass RX6 = some m.cls := findClass_of_methodNamed B.named
  have hlocks := B.notSynchronized
  subst hsz
  have hD := hD0.self (sz := s.heap.size)
  generalize hAe : va_A (wM cA am r M) s.heap.size = A at hD ⊢
  have hA : ∀ q : Nat, s.heap.size ≤ q → A q := fun q h => by rw [← hAe]; exact Or.inr h
  have hS : va_S A s.heap s.heap [] := va_S.rf
  have hl := lv_entry ([.ref am, .int p0, .int p1]) (n := 9) (Nat.le_of_ble_eq_true rfl)
  rw [lg_entry_eq]
  generalize (lg_sl ([.ref am, .int p0, .int p1]) ++ List.replicate (9 - (lg_sl ([.ref am, .int p0, .int p1])).length) Slot.unset).toArray = ls at hl ⊢
  have hl : lv_has ls 9 [(0, .ref am), (1, .int p0), (2, .int p1)] := hl
  have htT0 := htT
  have hTB0 := hTB
  have hK0 := hK
  have hown0 := hown
  have htT : ∀ w ∈ TT, w.before _ (s.setDrawn s.drawn) = true := dr_words htT0 s.drawn
  have hTB : TBok (s.setDrawn s.drawn) := TBok.same (u := s) (U := s.setDrawn s.drawn) rfl (Vm.Alike.refl s.vm) hTB0
  have hK : va_K D vwCl (ty6 cA) (s.setDrawn s.drawn) := hK0
  have hown : (s.setDrawn s.drawn).vm.findClass RX6 = some m.cls := hown0
  have hn8 := hI.n8
  have hna := hI.na
  have h22 := hI.h22
  refine lv_aload_n hx hb dX6_sure_0 rfl (lv_at hl 0 rfl) ?_
  refine lv_aload_n hx hb dX6_sure_1 rfl (lv_at hl 0 rfl) ?_
  refine lv_iload_n hx hb dX6_sure_2 rfl (lv_at hl 1 rfl) ?_
  refine lv_iload_n hx hb dX6_sure_3 rfl (lv_at hl 2 rfl) ?_
  have h3_1 : M.1 3 = nI n := hI.h3
  rcases kIn_swx (p := p0) hI.n8 h3_1 with hsw | ⟨i, hi, rfl⟩
  · refine kc_i (va_runV (As := [.int p0, .int p1]) (rest := [.ref am]) ⟨hx, hb, hml, hown, htT⟩ (m_isVariant_0 l D cA _ am r M p0 p1 hsw) (cwV 2 htT (kg_V m_ml_X6_102 m_im_X6_isVariant m_sl_X6_isVariant m_in_X6 m_cd_X6_isVariant) rfl rfl rfl (by decide +kernel) ⟨Nat.le_of_ble_eq_true rfl, Nat.le_of_ble_eq_true rfl⟩) (kp_V hK hP hD hTB (km_rc hK hP)) rfl rfl hl.1 rfl (lv_room (Nat.le_of_ble_eq_true rfl)) dX6_sure_4 ⟨Nat.le_of_ble_eq_true rfl, Nat.le_of_ble_eq_true rfl⟩) hD hS hA (fun r_1 x_1 H locs hq_1 hP hD hS => ?_)
    rw [hq_1.1]
    rw [hq_1.2] at hP hD
    refine lv_if_eq (tgt := 14) hx hb dX6_sure_7 (by decide) (fun _ => ?_) (fun c_2 => absurd c_2 (by decide))
    refine lv_iconst (v := 1) hx hb dX6_sure_14 (by decide) ?_
    refine km_puti hx hb htT hown hK hP hD hS 0 (by decide) rfl (htT _ m_fl_X6_80) rfl (by decide +kernel) dX6_sure_15 (fun H locs hP hD hS => ?_)
    refine lv_aload_n hx hb dX6_sure_18 rfl (lv_at hl 0 rfl) ?_
    refine km_getiv (x := 1) hx hb htT hown hK hP 0 (by decide) rfl (htT _ m_fl_X6_80) rfl dX6_sure_19 ?_
    refine lv_if_eq (tgt := 27) hx hb dX6_sure_22 (by decide) (fun c_3 => absurd c_3 (by decide)) (fun _ => ?_)
    refine lv_dconst0 hx hb dX6_sure_25 ?_
    refine W.endD hd0 ?_
    exact W.dret (v := FP.dconst0) hx hb hr (fun t ht hW => ⟨⟨FP.dconst0, mS M 0 1, rfl, ⟨(INVR.iS hI (by decide) (by decide)), (eqM.rf).s0⟩, by rw [ht]; exact hP, va_K.moved hW.alike hK, hD⟩, hS.F ht⟩) hS.2.2 dX6_sure_26
  · refine kc_i (va_runV (As := [.int (nI i), .int p1]) (rest := [.ref am]) ⟨hx, hb, hml, hown, htT⟩ (m_isVariant_1 l D cA _ am r M n i hi hI.n8 h3_1 p1) (cwV 2 htT (kg_V m_ml_X6_102 m_im_X6_isVariant m_sl_X6_isVariant m_in_X6 m_cd_X6_isVariant) rfl rfl rfl (by decide +kernel) ⟨Nat.le_of_ble_eq_true rfl, Nat.le_of_ble_eq_true rfl⟩) (kp_V hK hP hD hTB (km_rc hK hP)) rfl rfl hl.1 rfl (lv_room (Nat.le_of_ble_eq_true rfl)) dX6_sure_4 ⟨Nat.le_of_ble_eq_true rfl, Nat.le_of_ble_eq_true rfl⟩) hD hS hA (fun r_1 x_1 H locs hq_1 hP hD hS => ?_)
    rw [hq_1.2] at hP hD
    obtain ⟨vc_1, hvc_1, evc_1⟩ := (hI.2.1 i hi).1
    rcases kIn_swx (n := vc_1) (p := p1) (by omega) evc_1 with hv_1 | ⟨v_1, hv_1, rfl⟩
    · rw [hq_1.1.trans hv_1]
      refine lv_if_eq (tgt := 14) hx hb dX6_sure_7 (by decide) (fun _ => ?_) (fun c_4 => absurd c_4 (by decide))
      refine lv_iconst (v := 1) hx hb dX6_sure_14 (by decide) ?_
      refine km_puti hx hb htT hown hK hP hD hS 0 (by decide) rfl (htT _ m_fl_X6_80) rfl (by decide +kernel) dX6_sure_15 (fun H locs hP hD hS => ?_)
      refine lv_aload_n hx hb dX6_sure_18 rfl (lv_at hl 0 rfl) ?_
      refine km_getiv (x := 1) hx hb htT hown hK hP 0 (by decide) rfl (htT _ m_fl_X6_80) rfl dX6_sure_19 ?_
      refine lv_if_eq (tgt := 27) hx hb dX6_sure_22 (by decide) (fun c_5 => absurd c_5 (by decide)) (fun _ => ?_)
      refine lv_dconst0 hx hb dX6_sure_25 ?_
      refine W.endD hd0 ?_
      exact W.dret (v := FP.dconst0) hx hb hr (fun t ht hW => ⟨⟨FP.dconst0, mS M 0 1, rfl, ⟨(INVR.iS hI (by decide) (by decide)), (eqM.rf).s0⟩, by rw [ht]; exact hP, va_K.moved hW.alike hK, hD⟩, hS.F ht⟩) hS.2.2 dX6_sure_26
    · have hv4_1 : v_1 < 4 := by omega
      have hvk_1 := kIn_sw (i := v_1) (n := vc_1) hv_1 (by omega) evc_1
      rw [hq_1.1.trans hvk_1]
      refine lv_if_eq (tgt := 14) hx hb dX6_sure_7 (by decide) (fun c_6 => absurd c_6 (by decide)) (fun _ => ?_)
      refine lv_iconst (v := 0) hx hb dX6_sure_10 (by decide) ?_
      refine lv_goto (tgt := 15) hx hb dX6_sure_11 (by decide) ?_
      refine km_puti hx hb htT hown hK hP hD hS 0 (by decide) rfl (htT _ m_fl_X6_80) rfl (by decide +kernel) dX6_sure_15 (fun H locs hP hD hS => ?_)
      refine lv_aload_n hx hb dX6_sure_18 rfl (lv_at hl 0 rfl) ?_
      refine km_getiv (x := 0) hx hb htT hown hK hP 0 (by decide) rfl (htT _ m_fl_X6_80) rfl dX6_sure_19 ?_
      refine lv_if_eq (tgt := 27) hx hb dX6_sure_22 (by decide) (fun _ => ?_) (fun c_7 => absurd c_7 (by decide))
      refine lv_aload_n hx hb dX6_sure_27 rfl (lv_at hl 0 rfl) ?_
      refine lv_iload_n hx hb dX6_sure_28 rfl (lv_at hl 1 rfl) ?_
      refine lv_iload_n hx hb dX6_sure_29 rfl (lv_at hl 2 rfl) ?_
      refine lv_iconst (v := 0) hx hb dX6_sure_30 (by decide) ?_
      refine kc_i (va_runV (As := [.int (nI i), .int (nI v_1), .int 0]) (rest := []) ⟨hx, hb, hml, hown, htT⟩ (m_toldNow l D cA _ am r (mS M 0 0) na hna h22 (nI i) (nI v_1) 0) (cwV 3 htT (kg_V m_ml_X6_182 m_im_X6_toldNow m_sl_X6_toldNow m_in_X6 m_cd_X6_toldNow) rfl rfl rfl (by decide +kernel) ⟨Nat.le_of_ble_eq_true rfl, Nat.le_of_ble_eq_true rfl⟩) (kp_V hK hP hD hTB (km_rc hK hP)) rfl rfl hl.1 rfl (lv_room (Nat.le_of_ble_eq_true rfl)) dX6_sure_31 ⟨Nat.le_of_ble_eq_true rfl, Nat.le_of_ble_eq_true rfl⟩) hD hS hA (fun r_8 x_8 H locs hq_8 hP hD hS => ?_)
      rw [hq_8.2] at hP hD
      refine lv_istore_n (lv' := [(3, .int r_8), (0, .ref am), (1, .int (nI i)), (2, .int (nI v_1))]) hx hb dX6_sure_34 rfl hl (by decide) rfl (fun ls hl => ?_)
      refine lv_aload_n hx hb dX6_sure_35 rfl (lv_at hl 1 rfl) ?_
      refine lv_iload_n hx hb dX6_sure_36 rfl (lv_at hl 2 rfl) ?_
      refine lv_iconst (v := 0) hx hb dX6_sure_37 (by decide) ?_
      refine lv_iconst (v := 0) hx hb dX6_sure_38 (by decide) ?_
      refine kc_i (va_runV (As := [.int (nI i), .int 0, .int 0]) (rest := []) ⟨hx, hb, hml, hown, htT⟩ (m_toldNow l D cA _ am r (mS M 0 0) na hna h22 (nI i) 0 0) (cwV 3 htT (kg_V m_ml_X6_182 m_im_X6_toldNow m_sl_X6_toldNow m_in_X6 m_cd_X6_toldNow) rfl rfl rfl (by decide +kernel) ⟨Nat.le_of_ble_eq_true rfl, Nat.le_of_ble_eq_true rfl⟩) (kp_V hK hP hD hTB (km_rc hK hP)) rfl rfl hl.1 rfl (lv_room (Nat.le_of_ble_eq_true rfl)) dX6_sure_39 ⟨Nat.le_of_ble_eq_true rfl, Nat.le_of_ble_eq_true rfl⟩) hD hS hA (fun r_9 x_9 H locs hq_9 hP hD hS => ?_)
      rw [hq_9.2] at hP hD
      refine lv_istore (lv' := [(4, .int r_9), (3, .int r_8), (0, .ref am), (1, .int (nI i)), (2, .int (nI v_1))]) hx hb dX6_sure_42 hl (by decide) rfl (fun ls hl => ?_)
      refine lv_iload_n hx hb dX6_sure_44 rfl (lv_at hl 1 rfl) ?_
      refine lv_if_eq (tgt := 53) hx hb dX6_sure_45 (by decide) (fun c_10 => ?_) (fun c_10 => ?_)
      · refine lv_dconst0 hx hb dX6_sure_53 ?_
        refine W.endD hd0 ?_
        exact W.dret (v := FP.dconst0) hx hb hr (fun t ht hW => ⟨⟨FP.dconst0, mS M 0 0, rfl, ⟨(INVR.iS hI (by decide) (by decide)), (eqM.rf).s0⟩, by rw [ht]; exact hP, va_K.moved hW.alike hK, hD⟩, hS.F ht⟩) hS.2.2 dX6_sure_54
      · refine lv_iload hx hb dX6_sure_48 (lv_at hl 0 rfl) ?_
        refine lv_if_ne (tgt := 55) hx hb dX6_sure_50 (by decide) (fun c_11 => ?_) (fun c_11 => ?_)
        · refine lv_aload_n hx hb dX6_sure_55 rfl (lv_at hl 2 rfl) ?_
          refine lv_iload_n hx hb dX6_sure_56 rfl (lv_at hl 3 rfl) ?_
          refine lv_iload_n hx hb dX6_sure_57 rfl (lv_at hl 4 rfl) ?_
          refine kcD_d hd0 (va_runV_D (As := [.int (nI i), .int (nI v_1)]) (rest := []) ⟨hx, hb, hml, hown, htT⟩ (t_spread l D cA _ am r (mS M 0 0) na hna h22 (nI i) (nI v_1)) (cwV 2 htT (kg_V m_ml_X6_189 m_im_X6_spread m_sl_X6_spread m_in_X6 m_cd_X6_spread) rfl rfl rfl (by decide +kernel) ⟨Nat.le_of_ble_eq_true rfl, Nat.le_of_ble_eq_true rfl⟩) (kp_V hK hP hD hTB (km_rc hK hP)) rfl rfl hl.1 rfl (lv_room (Nat.le_of_ble_eq_true rfl)) dX6_sure_58 ⟨Nat.le_of_ble_eq_true rfl, Nat.le_of_ble_eq_true rfl⟩) hD hS hA (fun r_12 x_12 H locs hq_12 hP hD hS d_12 hd0 => ?_)
          have htT : ∀ w ∈ TT, w.before _ (s.setDrawn d_12) = true := dr_words htT0 d_12
          have hTB : TBok (s.setDrawn d_12) := TBok.same (u := s) (U := s.setDrawn d_12) rfl (Vm.Alike.refl s.vm) hTB0
          have hK : va_K D vwCl (ty6 cA) (s.setDrawn d_12) := hK0
          have hown : (s.setDrawn d_12).vm.findClass RX6 = some m.cls := hown0
          rw [hq_12.2] at hP hD
          refine lv_iload_n hx hb dX6_sure_61 rfl (lv_at hl 1 rfl) ?_
          refine lv_i2d hx hb dX6_sure_62 ?_
          refine lv_ddiv_any hd0 lw_bits hx hb dX6_sure_63 (fun r_13 d_13 hal_13 hd0 => ?_)
          have htT : ∀ w ∈ TT, w.before _ (s.setDrawn d_13) = true := dr_words htT0 d_13
          have hTB : TBok (s.setDrawn d_13) := TBok.same (u := s) (U := s.setDrawn d_13) rfl (Vm.Alike.refl s.vm) hTB0
          have hK : va_K D vwCl (ty6 cA) (s.setDrawn d_13) := hK0
          have hown : (s.setDrawn d_13).vm.findClass RX6 = some m.cls := hown0
          refine lv_aload_n hx hb dX6_sure_64 rfl (lv_at hl 2 rfl) ?_
          refine lv_iload_n hx hb dX6_sure_65 rfl (lv_at hl 3 rfl) ?_
          refine lv_iconst (v := 0) hx hb dX6_sure_66 (by decide) ?_
          refine kcD_d hd0 (va_runV_D (As := [.int (nI i), .int 0]) (rest := [.double r_13]) ⟨hx, hb, hml, hown, htT⟩ (t_spread l D cA _ am r (mS M 0 0) na hna h22 (nI i) 0) (cwV 2 htT (kg_V m_ml_X6_189 m_im_X6_spread m_sl_X6_spread m_in_X6 m_cd_X6_spread) rfl rfl rfl (by decide +kernel) ⟨Nat.le_of_ble_eq_true rfl, Nat.le_of_ble_eq_true rfl⟩) (kp_V hK hP hD hTB (km_rc hK hP)) rfl rfl hl.1 rfl (lv_room (Nat.le_of_ble_eq_true rfl)) dX6_sure_67 ⟨Nat.le_of_ble_eq_true rfl, Nat.le_of_ble_eq_true rfl⟩) hD hS hA (fun r_14 x_14 H locs hq_14 hP hD hS d_14 hd0 => ?_)
          have htT : ∀ w ∈ TT, w.before _ (s.setDrawn d_14) = true := dr_words htT0 d_14
          have hTB : TBok (s.setDrawn d_14) := TBok.same (u := s) (U := s.setDrawn d_14) rfl (Vm.Alike.refl s.vm) hTB0
          have hK : va_K D vwCl (ty6 cA) (s.setDrawn d_14) := hK0
          have hown : (s.setDrawn d_14).vm.findClass RX6 = some m.cls := hown0
          rw [hq_14.2] at hP hD
          refine lv_iload hx hb dX6_sure_70 (lv_at hl 0 rfl) ?_
          refine lv_i2d hx hb dX6_sure_72 ?_
          refine lv_ddiv_any hd0 lw_bits hx hb dX6_sure_73 (fun r_15 d_15 hal_15 hd0 => ?_)
          have htT : ∀ w ∈ TT, w.before _ (s.setDrawn d_15) = true := dr_words htT0 d_15
          have hTB : TBok (s.setDrawn d_15) := TBok.same (u := s) (U := s.setDrawn d_15) rfl (Vm.Alike.refl s.vm) hTB0
          have hK : va_K D vwCl (ty6 cA) (s.setDrawn d_15) := hK0
          have hown : (s.setDrawn d_15).vm.findClass RX6 = some m.cls := hown0
          refine lv_dadd_any hd0 lw_bits hx hb dX6_sure_74 (fun r_16 d_16 hal_16 hd0 => ?_)
          have htT : ∀ w ∈ TT, w.before _ (s.setDrawn d_16) = true := dr_words htT0 d_16
          have hTB : TBok (s.setDrawn d_16) := TBok.same (u := s) (U := s.setDrawn d_16) rfl (Vm.Alike.refl s.vm) hTB0
          have hK : va_K D vwCl (ty6 cA) (s.setDrawn d_16) := hK0
          have hown : (s.setDrawn d_16).vm.findClass RX6 = some m.cls := hown0
          refine lv_dstore (lv' := [(5, .double r_16), (4, .int r_9), (3, .int r_8), (0, .ref am), (1, .int (nI i)), (2, .int (nI v_1))]) hx hb dX6_sure_75 hl (by decide) rfl (fun ls hl => ?_)
          refine lv_aload_n hx hb dX6_sure_77 rfl (lv_at hl 3 rfl) ?_
          refine lv_iload_n hx hb dX6_sure_78 rfl (lv_at hl 4 rfl) ?_
          refine lv_iload_n hx hb dX6_sure_79 rfl (lv_at hl 5 rfl) ?_
          refine kcD_d hd0 (va_runV_D (As := [.int (nI i), .int (nI v_1)]) (rest := []) ⟨hx, hb, hml, hown, htT⟩ (t_meanNow l D cA _ am r (mS M 0 0) na hna h22 (nI i) (nI v_1)) (cwV 2 htT (kg_V m_ml_X6_185 m_im_X6_meanNow m_sl_X6_meanNow m_in_X6 m_cd_X6_meanNow) rfl rfl rfl (by decide +kernel) ⟨Nat.le_of_ble_eq_true rfl, Nat.le_of_ble_eq_true rfl⟩) (kp_V hK hP hD hTB (km_rc hK hP)) rfl rfl hl.1 rfl (lv_room (Nat.le_of_ble_eq_true rfl)) dX6_sure_80 ⟨Nat.le_of_ble_eq_true rfl, Nat.le_of_ble_eq_true rfl⟩) hD hS hA (fun r_17 x_17 H locs hq_17 hP hD hS d_17 hd0 => ?_)
          have htT : ∀ w ∈ TT, w.before _ (s.setDrawn d_17) = true := dr_words htT0 d_17
          have hTB : TBok (s.setDrawn d_17) := TBok.same (u := s) (U := s.setDrawn d_17) rfl (Vm.Alike.refl s.vm) hTB0
          have hK : va_K D vwCl (ty6 cA) (s.setDrawn d_17) := hK0
          have hown : (s.setDrawn d_17).vm.findClass RX6 = some m.cls := hown0
          rw [hq_17.2] at hP hD
          refine lv_aload_n hx hb dX6_sure_83 rfl (lv_at hl 3 rfl) ?_
          refine lv_iload_n hx hb dX6_sure_84 rfl (lv_at hl 4 rfl) ?_
          refine lv_iconst (v := 0) hx hb dX6_sure_85 (by decide) ?_
          refine kcD_d hd0 (va_runV_D (As := [.int (nI i), .int 0]) (rest := [.double r_17]) ⟨hx, hb, hml, hown, htT⟩ (t_meanNow l D cA _ am r (mS M 0 0) na hna h22 (nI i) 0) (cwV 2 htT (kg_V m_ml_X6_185 m_im_X6_meanNow m_sl_X6_meanNow m_in_X6 m_cd_X6_meanNow) rfl rfl rfl (by decide +kernel) ⟨Nat.le_of_ble_eq_true rfl, Nat.le_of_ble_eq_true rfl⟩) (kp_V hK hP hD hTB (km_rc hK hP)) rfl rfl hl.1 rfl (lv_room (Nat.le_of_ble_eq_true rfl)) dX6_sure_86 ⟨Nat.le_of_ble_eq_true rfl, Nat.le_of_ble_eq_true rfl⟩) hD hS hA (fun r_18 x_18 H locs hq_18 hP hD hS d_18 hd0 => ?_)
          have htT : ∀ w ∈ TT, w.before _ (s.setDrawn d_18) = true := dr_words htT0 d_18
          have hTB : TBok (s.setDrawn d_18) := TBok.same (u := s) (U := s.setDrawn d_18) rfl (Vm.Alike.refl s.vm) hTB0
          have hK : va_K D vwCl (ty6 cA) (s.setDrawn d_18) := hK0
          have hown : (s.setDrawn d_18).vm.findClass RX6 = some m.cls := hown0
          rw [hq_18.2] at hP hD
          refine lv_dsub_any hd0 lw_bits hx hb dX6_sure_89 (fun r_19 d_19 hal_19 hd0 => ?_)
          have htT : ∀ w ∈ TT, w.before _ (s.setDrawn d_19) = true := dr_words htT0 d_19
          have hTB : TBok (s.setDrawn d_19) := TBok.same (u := s) (U := s.setDrawn d_19) rfl (Vm.Alike.refl s.vm) hTB0
          have hK : va_K D vwCl (ty6 cA) (s.setDrawn d_19) := hK0
          have hown : (s.setDrawn d_19).vm.findClass RX6 = some m.cls := hown0
          refine lv_dstore (lv' := [(7, .double r_19), (5, .double r_16), (4, .int r_9), (3, .int r_8), (0, .ref am), (1, .int (nI i)), (2, .int (nI v_1))]) hx hb dX6_sure_90 hl (by decide) rfl (fun ls hl => ?_)
          refine lv_dload hx hb dX6_sure_92 (lv_at hl 1 rfl) ?_
          refine lv_dconst0 hx hb dX6_sure_94 ?_
          refine lv_dcmp hx hb dX6_sure_95 ?_
          refine lv_if_ne (tgt := 103) hx hb dX6_sure_96 (by decide) (fun c_21 => ?_) (fun c_21 => ?_)
          · refine lv_dload hx hb dX6_sure_103 (lv_at hl 0 rfl) ?_
            refine lv_dload hx hb dX6_sure_105 (lv_at hl 0 rfl) ?_
            refine lv_dmul_any hd0 lw_bits hx hb dX6_sure_107 (fun r_22 d_22 hal_22 hd0 => ?_)
            have htT : ∀ w ∈ TT, w.before _ (s.setDrawn d_22) = true := dr_words htT0 d_22
            have hTB : TBok (s.setDrawn d_22) := TBok.same (u := s) (U := s.setDrawn d_22) rfl (Vm.Alike.refl s.vm) hTB0
            have hK : va_K D vwCl (ty6 cA) (s.setDrawn d_22) := hK0
            have hown : (s.setDrawn d_22).vm.findClass RX6 = some m.cls := hown0
            refine lv_dload hx hb dX6_sure_108 (lv_at hl 1 rfl) ?_
            refine lv_ddiv_any hd0 lw_bits hx hb dX6_sure_110 (fun r_23 d_23 hal_23 hd0 => ?_)
            have htT : ∀ w ∈ TT, w.before _ (s.setDrawn d_23) = true := dr_words htT0 d_23
            have hTB : TBok (s.setDrawn d_23) := TBok.same (u := s) (U := s.setDrawn d_23) rfl (Vm.Alike.refl s.vm) hTB0
            have hK : va_K D vwCl (ty6 cA) (s.setDrawn d_23) := hK0
            have hown : (s.setDrawn d_23).vm.findClass RX6 = some m.cls := hown0
            refine W.endD hd0 ?_
            exact W.dret (v := r_23) hx hb hr (fun t ht hW => ⟨⟨r_23, mS M 0 0, rfl, ⟨(INVR.iS hI (by decide) (by decide)), (eqM.rf).s0⟩, by rw [ht]; exact hP, va_K.moved hW.alike hK, hD⟩, hS.F ht⟩) hS.2.2 dX6_sure_111
          · refine lv_dconst0 hx hb dX6_sure_99 ?_
            refine lv_goto (tgt := 111) hx hb dX6_sure_100 (by decide) ?_
            refine W.endD hd0 ?_
            exact W.dret (v := FP.dconst0) hx hb hr (fun t ht hW => ⟨⟨FP.dconst0, mS M 0 0, rfl, ⟨(INVR.iS hI (by decide) (by decide)), (eqM.rf).s0⟩, by rw [ht]; exact hP, va_K.moved hW.alike hK, hD⟩, hS.F ht⟩) hS.2.2 dX6_sure_111
        · refine lv_dconst0 hx hb dX6_sure_53 ?_
          refine W.endD hd0 ?_
          exact W.dret (v := FP.dconst0) hx hb hr (fun t ht hW => ⟨⟨FP.dconst0, mS M 0 0, rfl, ⟨(INVR.iS hI (by decide) (by decide)), (eqM.rf).s0⟩, by rw [ht]; exact hP, va_K.moved hW.alike hK, hD⟩, hS.F ht⟩) hS.2.2 dX6_sure_54

set_option maxRecDepth 100000 in
set_option maxHeartbeats 4000000 in
theorem t_bad (l : Launch) (D : va_G) (cA : Nat → ClassId) (sz : Nat) (am : Nat) (r : Nat → Nat) (M : MSt) (n na : Nat) (hI : INVR n na M) (p0 : Int32) : Met l yX6_bad (Cond.code yX6_bad cX6_bad 2 (some .int) :: TT) ({ frames := 2, cells := 0, slots := 0, locals := 54 }) (va_Pc [.ref am, .int p0] (kPre D cA (wM cA am r M) sz)) (va_Qi (fun (r_ : Int32) (x_ : MSt) => INVR n na x_ ∧ eqM M x_) (fun x_ => kB D cA (va_A (wM cA am r M) sz) (wM cA am r x_)) (va_A (wM cA am r M) sz)) 0 0 (va_A (wM cA am r M) sz) := by
  refine Met.ofW (cc := cX6_bad) (maxL := 2) (ret := (some .int)) (by decide) rfl ?_
  intro p e s m args below meth c s₁ B hml hv
  obtain ⟨rfl, hsz, hP, hK, hD0, hTB⟩ := hv
  have hx := B.exec
  have hb := B.bytes
  have hr := B.returns
  have hts := atoms_spec (ws := Cond.code yX6_bad cX6_bad 2 (some .int) :: TT) B.pre
  have htT : ∀ w ∈ TT, w.before _ s = true := fun w h => hts w (List.mem_cons_of_mem _ h)
  have hown : s.vm.findClass RX6 = some m.cls := findClass_of_methodNamed B.named
  have hlocks := B.notSynchronized
  subst hsz
  have hD := hD0.self (sz := s.heap.size)
  generalize hAe : va_A (wM cA am r M) s.heap.size = A at hD ⊢
  have hA : ∀ q : Nat, s.heap.size ≤ q → A q := fun q h => by rw [← hAe]; exact Or.inr h
  have hS : va_S A s.heap s.heap [] := va_S.rf
  have hl := lv_entry ([.ref am, .int p0]) (n := 2) (Nat.le_of_ble_eq_true rfl)
  rw [lg_entry_eq]
  generalize (lg_sl ([.ref am, .int p0]) ++ List.replicate (2 - (lg_sl ([.ref am, .int p0])).length) Slot.unset).toArray = ls at hl ⊢
  have hl : lv_has ls 2 [(0, .ref am), (1, .int p0)] := hl
  have hn8 := hI.n8
  refine lv_aload_n hx hb dX6_bad_0 rfl (lv_at hl 0 rfl) ?_
  refine lv_iconst (v := 0) hx hb dX6_bad_1 (by decide) ?_
  refine km_puti hx hb htT hown hK hP hD hS 0 (by decide) rfl (htT _ m_fl_X6_80) rfl (by decide +kernel) dX6_bad_2 (fun H locs hP hD hS => ?_)
  refine lv_aload_n hx hb dX6_bad_5 rfl (lv_at hl 0 rfl) ?_
  refine lv_iload_n hx hb dX6_bad_6 rfl (lv_at hl 1 rfl) ?_
  have h3_1 : M.1 3 = nI n := hI.h3
  refine kc_i (va_runV (As := [.int p0]) (rest := []) ⟨hx, hb, hml, hown, htT⟩ (m_isSwitch l D cA _ am r (mS M 0 0) p0) (cwV 1 htT (kg_V m_ml_X6_91 m_im_X6_isSwitch m_sl_X6_isSwitch m_in_X6 m_cd_X6_isSwitch) rfl rfl rfl (by decide +kernel) ⟨Nat.le_of_ble_eq_true rfl, Nat.le_of_ble_eq_true rfl⟩) (kp_V hK hP hD hTB (km_rc hK hP)) rfl rfl hl.1 rfl (lv_room (Nat.le_of_ble_eq_true rfl)) dX6_bad_7 ⟨Nat.le_of_ble_eq_true rfl, Nat.le_of_ble_eq_true rfl⟩) hD hS hA (fun r_1 x_1 H locs hq_1 hP hD hS => ?_)
  rw [hq_1.2] at hP hD
  rcases kIn_swx (p := p0) hI.n8 h3_1 with hsw | ⟨i, hi, rfl⟩
  · rw [hq_1.1.trans hsw]
    refine lv_if_eq (tgt := 21) hx hb dX6_bad_10 (by decide) (fun _ => ?_) (fun c_2 => absurd c_2 (by decide))
    refine lv_aload_n hx hb dX6_bad_21 rfl (lv_at hl 0 rfl) ?_
    refine lv_iconst (v := 1) hx hb dX6_bad_22 (by decide) ?_
    refine kc_i (va_runV (As := [.int 1]) (rest := []) ⟨hx, hb, hml, hown, htT⟩ (m_no l D cA _ am r (mS M 0 0) 1) (cwV 1 htT (kg_V m_ml_X6_95 m_im_X6_no m_sl_X6_no m_in_X6 m_cd_X6_no) rfl rfl rfl (by decide +kernel) ⟨Nat.le_of_ble_eq_true rfl, Nat.le_of_ble_eq_true rfl⟩) (kp_V hK hP hD hTB (km_rc hK hP)) rfl rfl hl.1 rfl (lv_room (Nat.le_of_ble_eq_true rfl)) dX6_bad_23 ⟨Nat.le_of_ble_eq_true rfl, Nat.le_of_ble_eq_true rfl⟩) hD hS hA (fun r_3 x_3 H locs hq_3 hP hD hS => ?_)
    rw [hq_3.1]
    rw [hq_3.2] at hP hD
    exact W.iret (v := 0) hx hb hr (fun t ht hW => ⟨⟨0, mS (mS M 0 0) 0 1, rfl, ⟨(INVR.iS (INVR.iS hI (by decide) (by decide)) (by decide) (by decide)), ((eqM.rf).s0).s0⟩, by rw [ht]; exact hP, va_K.moved hW.alike hK, hD⟩, hS.F ht⟩) hS.2.2 dX6_bad_26
  · rw [hq_1.1.trans (kIn_sw hi hI.n8 h3_1)]
    refine lv_if_eq (tgt := 21) hx hb dX6_bad_10 (by decide) (fun c_4 => absurd c_4 (by decide)) (fun _ => ?_)
    refine lv_aload_n hx hb dX6_bad_13 rfl (lv_at hl 0 rfl) ?_
    refine lv_iload_n hx hb dX6_bad_14 rfl (lv_at hl 1 rfl) ?_
    refine kc_i (va_runV (As := [.int (nI i)]) (rest := []) ⟨hx, hb, hml, hown, htT⟩ (t_badNow l D cA _ am r (mS M 0 0) n na (INVR.iS hI (by decide) (by decide)) i hi) (cwV 1 htT (kg_V m_ml_X6_194 m_im_X6_badNow m_sl_X6_badNow m_in_X6 m_cd_X6_badNow) rfl rfl rfl (by decide +kernel) ⟨Nat.le_of_ble_eq_true rfl, Nat.le_of_ble_eq_true rfl⟩) (kp_V hK hP hD hTB (km_rc hK hP)) rfl rfl hl.1 rfl (lv_room (Nat.le_of_ble_eq_true rfl)) dX6_bad_15 ⟨Nat.le_of_ble_eq_true rfl, Nat.le_of_ble_eq_true rfl⟩) hD hS hA (fun r_5 x_5 H locs hq_5 hP hD hS => ?_)
    rw [hq_5.2] at hP hD
    refine lv_goto (tgt := 26) hx hb dX6_bad_18 (by decide) ?_
    exact W.iret (v := r_5) hx hb hr (fun t ht hW => ⟨⟨r_5, mS M 0 0, rfl, ⟨(INVR.iS hI (by decide) (by decide)), (eqM.rf).s0⟩, by rw [ht]; exact hP, va_K.moved hW.alike hK, hD⟩, hS.F ht⟩) hS.2.2 dX6_bad_26

set_option maxRecDepth 100000 in
set_option maxHeartbeats 4000000 in
theorem t_isTrusted (l : Launch) (D : va_G) (cA : Nat → ClassId) (sz : Nat) (am : Nat) (r : Nat → Nat) (M : MSt) (n na : Nat) (hI : INVR n na M) (p0 : Int32) : Met l yX6_isTrusted (Cond.code yX6_isTrusted cX6_isTrusted 2 (some .boolean) :: TT) ({ frames := 3, cells := 0, slots := 0, locals := 77 }) (va_Pc [.ref am, .int p0] (kPre D cA (wM cA am r M) sz)) (va_Qi (fun (r_ : Int32) (x_ : MSt) => INVR n na x_ ∧ eqM M x_) (fun x_ => kB D cA (va_A (wM cA am r M) sz) (wM cA am r x_)) (va_A (wM cA am r M) sz)) 0 0 (va_A (wM cA am r M) sz) := by
  refine Met.ofW (cc := cX6_isTrusted) (maxL := 2) (ret := (some .boolean)) (by decide) rfl ?_
  intro p e s m args below meth c s₁ B hml hv
  obtain ⟨rfl, hsz, hP, hK, hD0, hTB⟩ := hv
  have hx := B.exec
  have hb := B.bytes
  have hr := B.returns
  have hts := atoms_spec (ws := Cond.code yX6_isTrusted cX6_isTrusted 2 (some .boolean) :: TT) B.pre
  have htT : ∀ w ∈ TT, w.before _ s = true := fun w h => hts w (List.mem_cons_of_mem _ h)
  have hown : s.vm.findClass RX6 = some m.cls := findClass_of_methodNamed B.named
  have hlocks := B.notSynchronized
  subst hsz
  have hD := hD0.self (sz := s.heap.size)
  generalize hAe : va_A (wM cA am r M) s.heap.size = A at hD ⊢
  have hA : ∀ q : Nat, s.heap.size ≤ q → A q := fun q h => by rw [← hAe]; exact Or.inr h
  have hS : va_S A s.heap s.heap [] := va_S.rf
  have hl := lv_entry ([.ref am, .int p0]) (n := 2) (Nat.le_of_ble_eq_true rfl)
  rw [lg_entry_eq]
  generalize (lg_sl ([.ref am, .int p0]) ++ List.replicate (2 - (lg_sl ([.ref am, .int p0])).length) Slot.unset).toArray = ls at hl ⊢
  have hl : lv_has ls 2 [(0, .ref am), (1, .int p0)] := hl
  have hn8 := hI.n8
  refine lv_aload_n hx hb dX6_isTrusted_0 rfl (lv_at hl 0 rfl) ?_
  refine lv_iconst (v := 0) hx hb dX6_isTrusted_1 (by decide) ?_
  refine km_puti hx hb htT hown hK hP hD hS 0 (by decide) rfl (htT _ m_fl_X6_80) rfl (by decide +kernel) dX6_isTrusted_2 (fun H locs hP hD hS => ?_)
  refine lv_aload_n hx hb dX6_isTrusted_5 rfl (lv_at hl 0 rfl) ?_
  refine lv_iload_n hx hb dX6_isTrusted_6 rfl (lv_at hl 1 rfl) ?_
  have h3_1 : M.1 3 = nI n := hI.h3
  refine kc_i (va_runV (As := [.int p0]) (rest := []) ⟨hx, hb, hml, hown, htT⟩ (m_isSwitch l D cA _ am r (mS M 0 0) p0) (cwV 1 htT (kg_V m_ml_X6_91 m_im_X6_isSwitch m_sl_X6_isSwitch m_in_X6 m_cd_X6_isSwitch) rfl rfl rfl (by decide +kernel) ⟨Nat.le_of_ble_eq_true rfl, Nat.le_of_ble_eq_true rfl⟩) (kp_V hK hP hD hTB (km_rc hK hP)) rfl rfl hl.1 rfl (lv_room (Nat.le_of_ble_eq_true rfl)) dX6_isTrusted_7 ⟨Nat.le_of_ble_eq_true rfl, Nat.le_of_ble_eq_true rfl⟩) hD hS hA (fun r_1 x_1 H locs hq_1 hP hD hS => ?_)
  rw [hq_1.2] at hP hD
  rcases kIn_swx (p := p0) hI.n8 h3_1 with hsw | ⟨i, hi, rfl⟩
  · rw [hq_1.1.trans hsw]
    refine lv_if_eq (tgt := 21) hx hb dX6_isTrusted_10 (by decide) (fun _ => ?_) (fun c_2 => absurd c_2 (by decide))
    refine lv_aload_n hx hb dX6_isTrusted_21 rfl (lv_at hl 0 rfl) ?_
    refine lv_iconst (v := 1) hx hb dX6_isTrusted_22 (by decide) ?_
    refine kc_i (va_runV (As := [.int 1]) (rest := []) ⟨hx, hb, hml, hown, htT⟩ (m_isNot l D cA _ am r (mS M 0 0) 1) (cwV 1 htT (kg_V m_ml_X6_106 m_im_X6_isNot m_sl_X6_isNot m_in_X6 m_cd_X6_isNot) rfl rfl rfl (by decide +kernel) ⟨Nat.le_of_ble_eq_true rfl, Nat.le_of_ble_eq_true rfl⟩) (kp_V hK hP hD hTB (km_rc hK hP)) rfl rfl hl.1 rfl (lv_room (Nat.le_of_ble_eq_true rfl)) dX6_isTrusted_23 ⟨Nat.le_of_ble_eq_true rfl, Nat.le_of_ble_eq_true rfl⟩) hD hS hA (fun r_3 x_3 H locs hq_3 hP hD hS => ?_)
    rw [hq_3.1]
    rw [hq_3.2] at hP hD
    exact W.zret (v := 0) hx hb hr ((by first | rfl | exact (kz_b (by assumption)).1 | exact (kz_b hzr).1)) (fun t ht hW => ⟨⟨0, mS (mS M 0 0) 0 1, rfl, ⟨(INVR.iS (INVR.iS hI (by decide) (by decide)) (by decide) (by decide)), ((eqM.rf).s0).s0⟩, by rw [ht]; exact hP, va_K.moved hW.alike hK, hD⟩, hS.F ht⟩) hS.2.2 dX6_isTrusted_26
  · rw [hq_1.1.trans (kIn_sw hi hI.n8 h3_1)]
    refine lv_if_eq (tgt := 21) hx hb dX6_isTrusted_10 (by decide) (fun c_4 => absurd c_4 (by decide)) (fun _ => ?_)
    refine lv_aload_n hx hb dX6_isTrusted_13 rfl (lv_at hl 0 rfl) ?_
    refine lv_iload_n hx hb dX6_isTrusted_14 rfl (lv_at hl 1 rfl) ?_
    refine kc_i (va_runV (As := [.int (nI i)]) (rest := []) ⟨hx, hb, hml, hown, htT⟩ (t_isTrustedNow l D cA _ am r (mS M 0 0) n na (INVR.iS hI (by decide) (by decide)) i hi) (cwV 1 htT (kg_V m_ml_X6_197 m_im_X6_isTrustedNow m_sl_X6_isTrustedNow m_in_X6 m_cd_X6_isTrustedNow) rfl rfl rfl (by decide +kernel) ⟨Nat.le_of_ble_eq_true rfl, Nat.le_of_ble_eq_true rfl⟩) (kp_V hK hP hD hTB (km_rc hK hP)) rfl rfl hl.1 rfl (lv_room (Nat.le_of_ble_eq_true rfl)) dX6_isTrusted_15 ⟨Nat.le_of_ble_eq_true rfl, Nat.le_of_ble_eq_true rfl⟩) hD hS hA (fun r_5 x_5 H locs hq_5 hP hD hS => ?_)
    rw [hq_5.2] at hP hD
    have hzr := hq_5.1
    refine lv_goto (tgt := 26) hx hb dX6_isTrusted_18 (by decide) ?_
    exact W.zret (v := r_5) hx hb hr ((by first | rfl | exact (kz_b (by assumption)).1 | exact (kz_b hzr).1)) (fun t ht hW => ⟨⟨r_5, mS M 0 0, rfl, ⟨(INVR.iS hI (by decide) (by decide)), (eqM.rf).s0⟩, by rw [ht]; exact hP, va_K.moved hW.alike hK, hD⟩, hS.F ht⟩) hS.2.2 dX6_isTrusted_26

set_option maxRecDepth 100000 in
set_option maxHeartbeats 4000000 in
theorem t_best (l : Launch) (D : va_G) (cA : Nat → ClassId) (sz : Nat) (am : Nat) (r : Nat → Nat) (M : MSt) (n na : Nat) (hI : INVR n na M) (p0 : Int32) : MetD lw_cs l yX6_best (Cond.code yX6_best cX6_best 2 (some .int) :: TT) ({ frames := 3, cells := 0, slots := 0, locals := 71 }) (va_Pc [.ref am, .int p0] (kPre D cA (wM cA am r M) sz)) (va_Qi (fun (r_ : Int32) (x_ : MSt) => INVR n na x_ ∧ eqM M x_) (fun x_ => kB D cA (va_A (wM cA am r M) sz) (wM cA am r x_)) (va_A (wM cA am r M) sz)) 0 0 (va_A (wM cA am r M) sz) := by
  refine MetD.ofW (cc := cX6_best) (maxL := 2) (ret := (some .int)) (by decide) rfl ?_
  intro p e s m args below meth c s₁ B hml hv hd0
  obtain ⟨rfl, hsz, hP, hK, hD0, hTB⟩ := hv
  have hx := B.exec
  have hb := B.bytes
  have hr := B.returns
  have hts := atoms_spec (ws := Cond.code yX6_best cX6_best 2 (some .int) :: TT) B.pre
  have htT : ∀ w ∈ TT, w.before _ s = true := fun w h => hts w (List.mem_cons_of_mem _ h)
  have hown : s.vm.findClass RX6 = some m.cls := findClass_of_methodNamed B.named
  have hlocks := B.notSynchronized
  subst hsz
  have hD := hD0.self (sz := s.heap.size)
  generalize hAe : va_A (wM cA am r M) s.heap.size = A at hD ⊢
  have hA : ∀ q : Nat, s.heap.size ≤ q → A q := fun q h => by rw [← hAe]; exact Or.inr h
  have hS : va_S A s.heap s.heap [] := va_S.rf
  have hl := lv_entry ([.ref am, .int p0]) (n := 2) (Nat.le_of_ble_eq_true rfl)
  rw [lg_entry_eq]
  generalize (lg_sl ([.ref am, .int p0]) ++ List.replicate (2 - (lg_sl ([.ref am, .int p0])).length) Slot.unset).toArray = ls at hl ⊢
  have hl : lv_has ls 2 [(0, .ref am), (1, .int p0)] := hl
  have htT0 := htT
  have hTB0 := hTB
  have hK0 := hK
  have hown0 := hown
  have htT : ∀ w ∈ TT, w.before _ (s.setDrawn s.drawn) = true := dr_words htT0 s.drawn
  have hTB : TBok (s.setDrawn s.drawn) := TBok.same (u := s) (U := s.setDrawn s.drawn) rfl (Vm.Alike.refl s.vm) hTB0
  have hK : va_K D vwCl (ty6 cA) (s.setDrawn s.drawn) := hK0
  have hown : (s.setDrawn s.drawn).vm.findClass RX6 = some m.cls := hown0
  have hn8 := hI.n8
  refine lv_aload_n hx hb dX6_best_0 rfl (lv_at hl 0 rfl) ?_
  refine lv_iconst (v := 0) hx hb dX6_best_1 (by decide) ?_
  refine km_puti hx hb htT hown hK hP hD hS 0 (by decide) rfl (htT _ m_fl_X6_80) rfl (by decide +kernel) dX6_best_2 (fun H locs hP hD hS => ?_)
  refine lv_aload_n hx hb dX6_best_5 rfl (lv_at hl 0 rfl) ?_
  refine lv_iload_n hx hb dX6_best_6 rfl (lv_at hl 1 rfl) ?_
  have h3_1 : M.1 3 = nI n := hI.h3
  refine kc_i (va_runV (As := [.int p0]) (rest := []) ⟨hx, hb, hml, hown, htT⟩ (m_isSwitch l D cA _ am r (mS M 0 0) p0) (cwV 1 htT (kg_V m_ml_X6_91 m_im_X6_isSwitch m_sl_X6_isSwitch m_in_X6 m_cd_X6_isSwitch) rfl rfl rfl (by decide +kernel) ⟨Nat.le_of_ble_eq_true rfl, Nat.le_of_ble_eq_true rfl⟩) (kp_V hK hP hD hTB (km_rc hK hP)) rfl rfl hl.1 rfl (lv_room (Nat.le_of_ble_eq_true rfl)) dX6_best_7 ⟨Nat.le_of_ble_eq_true rfl, Nat.le_of_ble_eq_true rfl⟩) hD hS hA (fun r_1 x_1 H locs hq_1 hP hD hS => ?_)
  rw [hq_1.2] at hP hD
  rcases kIn_swx (p := p0) hI.n8 h3_1 with hsw | ⟨i, hi, rfl⟩
  · rw [hq_1.1.trans hsw]
    refine lv_if_eq (tgt := 21) hx hb dX6_best_10 (by decide) (fun _ => ?_) (fun c_2 => absurd c_2 (by decide))
    refine lv_aload_n hx hb dX6_best_21 rfl (lv_at hl 0 rfl) ?_
    refine lv_iconst (v := 1) hx hb dX6_best_22 (by decide) ?_
    refine kc_i (va_runV (As := [.int 1]) (rest := []) ⟨hx, hb, hml, hown, htT⟩ (m_no l D cA _ am r (mS M 0 0) 1) (cwV 1 htT (kg_V m_ml_X6_95 m_im_X6_no m_sl_X6_no m_in_X6 m_cd_X6_no) rfl rfl rfl (by decide +kernel) ⟨Nat.le_of_ble_eq_true rfl, Nat.le_of_ble_eq_true rfl⟩) (kp_V hK hP hD hTB (km_rc hK hP)) rfl rfl hl.1 rfl (lv_room (Nat.le_of_ble_eq_true rfl)) dX6_best_23 ⟨Nat.le_of_ble_eq_true rfl, Nat.le_of_ble_eq_true rfl⟩) hD hS hA (fun r_3 x_3 H locs hq_3 hP hD hS => ?_)
    rw [hq_3.1]
    rw [hq_3.2] at hP hD
    refine W.endD hd0 ?_
    exact W.iret (v := 0) hx hb hr (fun t ht hW => ⟨⟨0, mS (mS M 0 0) 0 1, rfl, ⟨(INVR.iS (INVR.iS hI (by decide) (by decide)) (by decide) (by decide)), ((eqM.rf).s0).s0⟩, by rw [ht]; exact hP, va_K.moved hW.alike hK, hD⟩, hS.F ht⟩) hS.2.2 dX6_best_26
  · rw [hq_1.1.trans (kIn_sw hi hI.n8 h3_1)]
    refine lv_if_eq (tgt := 21) hx hb dX6_best_10 (by decide) (fun c_4 => absurd c_4 (by decide)) (fun _ => ?_)
    refine lv_aload_n hx hb dX6_best_13 rfl (lv_at hl 0 rfl) ?_
    refine lv_iload_n hx hb dX6_best_14 rfl (lv_at hl 1 rfl) ?_
    refine kcD_i hd0 (va_runV_D (As := [.int (nI i)]) (rest := []) ⟨hx, hb, hml, hown, htT⟩ (t_bestNow l D cA _ am r (mS M 0 0) n na (INVR.iS hI (by decide) (by decide)) i hi) (cwV 1 htT (kg_V m_ml_X6_200 m_im_X6_bestNow m_sl_X6_bestNow m_in_X6 m_cd_X6_bestNow) rfl rfl rfl (by decide +kernel) ⟨Nat.le_of_ble_eq_true rfl, Nat.le_of_ble_eq_true rfl⟩) (kp_V hK hP hD hTB (km_rc hK hP)) rfl rfl hl.1 rfl (lv_room (Nat.le_of_ble_eq_true rfl)) dX6_best_15 ⟨Nat.le_of_ble_eq_true rfl, Nat.le_of_ble_eq_true rfl⟩) hD hS hA (fun r_5 x_5 H locs hq_5 hP hD hS d_5 hd0 => ?_)
    have htT : ∀ w ∈ TT, w.before _ (s.setDrawn d_5) = true := dr_words htT0 d_5
    have hTB : TBok (s.setDrawn d_5) := TBok.same (u := s) (U := s.setDrawn d_5) rfl (Vm.Alike.refl s.vm) hTB0
    have hK : va_K D vwCl (ty6 cA) (s.setDrawn d_5) := hK0
    have hown : (s.setDrawn d_5).vm.findClass RX6 = some m.cls := hown0
    rw [hq_5.2] at hP hD
    refine lv_goto (tgt := 26) hx hb dX6_best_18 (by decide) ?_
    refine W.endD hd0 ?_
    exact W.iret (v := r_5) hx hb hr (fun t ht hW => ⟨⟨r_5, mS M 0 0, rfl, ⟨(INVR.iS hI (by decide) (by decide)), (eqM.rf).s0⟩, by rw [ht]; exact hP, va_K.moved hW.alike hK, hD⟩, hS.F ht⟩) hS.2.2 dX6_best_26

