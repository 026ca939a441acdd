/-! layers, arms, what came of them: the reference -/
/-- what is told of the arms of a variant -/
def rTold (T : Rows) (one va what : Int32) : Nat → Nat → Int32 → Int32
  | 0, _, acc => acc
  | c + 1, k, acc => if T 23 k = one then (if T 25 k = va then rTold T one va what c (k + 1) (acc + (if what = 0 then 1 else if what = 1 then (if T 27 k = 0 then 0 else 1) else if what = 2 then T 26 k else T 26 k * T 26 k)) else rTold T one va what c (k + 1) acc) else rTold T one va what c (k + 1) acc
def rArmV (T : Rows) (k : Int32) : Int32 := if k = -1 then -1 else T 25 k.toNatClampNeg
set_option maxRecDepth 100000 in
set_option maxHeartbeats 4000000 in
/-- what is left of a layer -/
theorem m_leftIn (l : Launch) (D : va_G) (cA : Nat → ClassId) (sz : Nat) (am : Nat) (r : Nat → Nat) (M : MSt) (n : Nat) (hn8 : n ≤ 8) (h3 : M.1 3 = nI n) (la : Int32) : Met l yX6_leftIn (Cond.code yX6_leftIn cX6_leftIn 4 (some .int) :: TT) ({ frames := 0, cells := 0, slots := 0, locals := 0 }) (va_Pc [.ref am, .int la] (kPre D cA (wM cA am r M) sz)) (va_Qi (fun (r_ : Int32) (x_ : MSt) => r_ = rLeft M.2 la n 0 1000 ∧ x_ = M) (fun x_ => kB D cA (va_A (wM cA am r M) sz) (wM cA am r x_)) (va_A (wM cA am r M) sz)) 0 0 (va_A (wM cA am r M) sz) := by
  refine Met.ofW (cc := cX6_leftIn) (maxL := 4) (ret := (some .int)) (by decide) rfl ?_
  intro p e s m args below meth c s₁ B hml hv
  obtain ⟨rfl, hsz, hP, hK, hD0, hTB⟩ := hv
  have hx := B.exec
  have hb := B.bytes
  have hr := B.returns
  have hts := atoms_spec (ws := Cond.code yX6_leftIn cX6_leftIn 4 (some .int) :: TT) B.pre
  have htT : ∀ w ∈ TT, w.before _ s = true := fun w h => hts w (List.mem_cons_of_mem _ h)
  have hown : s.vm.findClass RX6 = some m.cls := findClass_of_methodNamed B.named
  have hlocks := B.notSynchronized
  subst hsz
  have hD := hD0.self (sz := s.heap.size)
  generalize hAe : va_A (wM cA am r M) s.heap.size = A at hD ⊢
  have hA : ∀ q : Nat, s.heap.size ≤ q → A q := fun q h => by rw [← hAe]; exact Or.inr h
  have hS : va_S A s.heap s.heap [] := va_S.rf
  have hl := lv_entry ([.ref am, .int la]) (n := 4) (Nat.le_of_ble_eq_true rfl)
  rw [lg_entry_eq]
  generalize (lg_sl ([.ref am, .int la]) ++ List.replicate (4 - (lg_sl ([.ref am, .int la])).length) Slot.unset).toArray = ls at hl ⊢
  have hl : lv_has ls 4 [(0, .ref am), (1, .int la)] := hl
  refine lv_sipush (v := 1000) hx hb dX6_leftIn_0 (by decide) ?_
  refine lv_istore_n (lv' := [(2, .int 1000), (0, .ref am), (1, .int la)]) hx hb dX6_leftIn_3 rfl hl (by decide) rfl (fun ls hl => ?_)
  refine lv_iconst (v := 0) hx hb dX6_leftIn_4 (by decide) ?_
  refine lv_istore_n (lv' := [(3, .int 0), (2, .int 1000), (0, .ref am), (1, .int la)]) hx hb dX6_leftIn_5 rfl hl (by decide) rfl (fun ls hl => ?_)
  refine kz_loop 6 (fun N9 H locs ls => ∃ (j : Nat) (acc : Int32), N9 = n - j ∧ j ≤ n ∧ rLeft M.2 la n 0 1000 = rLeft M.2 la (n - j) j acc ∧ va_P D vwCl (wM cA am r M) H ∧ va_D A (wM cA am r M) ∧ va_S A s.heap H locs ∧ lv_has ls 4 [(3, .int (nI j)), (2, .int acc), (1, .int la), (0, .ref am)]) (fun N9 ih_6 H locs ls hI => ?_) ⟨0, 1000, rfl, by omega, rfl, hP, hD, hS, lv_sub hl [0, 1, 3, 2] rfl⟩
  obtain ⟨j, acc, hn9, hj, hF, hP, hD, hS, hl⟩ := hI
  refine lv_iload_n hx hb dX6_leftIn_6 rfl (lv_at hl 0 rfl) ?_
  refine lv_aload_n hx hb dX6_leftIn_7 rfl (lv_at hl 3 rfl) ?_
  refine km_getiv (x := nI n) hx hb htT hown hK hP 3 (by decide) rfl (htT _ m_fl_X6_84) h3 dX6_leftIn_8 ?_
  refine lv_icmp_ge (tgt := 50) hx hb dX6_leftIn_11 (by decide) (fun c_1 => ?_) (fun c_1 => ?_)
  · replace c_1 := (nI_leI (a := n) (b := j) (by omega) (by omega)).mp c_1
    refine lv_iload_n hx hb dX6_leftIn_50 rfl (lv_at hl 1 rfl) ?_
    exact W.iret (v := acc) hx hb hr (fun t ht hW => ⟨⟨acc, M, rfl, ⟨by rw [hF, show n - j = 0 by omega]; rfl, rfl⟩, by rw [ht]; exact hP, va_K.moved hW.alike hK, hD⟩, hS.F ht⟩) hS.2.2 dX6_leftIn_51
  · replace c_1 : ¬ (n ≤ j) := fun h9 => c_1 ((nI_leI (a := n) (b := j) (by omega) (by omega)).mpr h9)
    refine lv_iload_n hx hb dX6_leftIn_14 rfl (lv_at hl 1 rfl) ?_
    refine lv_aload_n hx hb dX6_leftIn_15 rfl (lv_at hl 3 rfl) ?_
    refine km_getr hx hb htT hown hK hP 12 (by decide) rfl (htT _ m_fl_X6_35) dX6_leftIn_16 ?_
    refine lv_iload_n hx hb dX6_leftIn_19 rfl (lv_at hl 0 rfl) ?_
    refine km_ialdv (x := (M.2 12) j) hx hb hK hP 12 rfl rfl (show vp_in (nI (j)) 8 from ki_in (by omega) (by decide)) (congrArg _ (ki_cl (by omega))) dX6_leftIn_20 ?_
    refine lv_iload_n hx hb dX6_leftIn_21 rfl (lv_at hl 2 rfl) ?_
    refine lv_icmp_ne (tgt := 41) hx hb dX6_leftIn_22 (by decide) (fun c_2 => ?_) (fun c_2 => ?_)
    · refine lv_iconst (v := 0) hx hb dX6_leftIn_41 (by decide) ?_
      refine lv_isub hx hb dX6_leftIn_42 ?_
      refine lv_istore_n (lv' := [(2, .int (acc - 0)), (3, .int (nI j)), (1, .int la), (0, .ref am)]) hx hb dX6_leftIn_43 rfl hl (by decide) rfl (fun ls hl => ?_)
      refine lv_iinc (v := nI (j + 1)) (lv' := [(3, .int (nI (j + 1))), (2, .int (acc - 0)), (1, .int la), (0, .ref am)]) hx hb dX6_leftIn_44 hl (k := 1) rfl (nI_1 _) (by decide) rfl (fun ls hl => ?_)
      refine lv_goto (tgt := 6) hx hb dX6_leftIn_47 (by decide) ?_
      have hl := lv_sub hl [0, 1, 2, 3] rfl
      exact ih_6 _ (by omega) H locs ls ⟨j + 1, _, rfl, by omega, by rw [hF, show n - j = (n - (j + 1)) + 1 by omega]; simp [rLeft, c_2], hP, hD, hS, hl⟩
    · refine lv_aload_n hx hb dX6_leftIn_25 rfl (lv_at hl 3 rfl) ?_
      refine km_getr hx hb htT hown hK hP 14 (by decide) rfl (htT _ m_fl_X6_41) dX6_leftIn_26 ?_
      refine lv_iload_n hx hb dX6_leftIn_29 rfl (lv_at hl 0 rfl) ?_
      refine km_ialdv (x := (M.2 14) j) hx hb hK hP 14 rfl rfl (show vp_in (nI (j)) 8 from ki_in (by omega) (by decide)) (congrArg _ (ki_cl (by omega))) dX6_leftIn_30 ?_
      refine lv_aload_n hx hb dX6_leftIn_31 rfl (lv_at hl 3 rfl) ?_
      refine km_getr hx hb htT hown hK hP 13 (by decide) rfl (htT _ m_fl_X6_38) dX6_leftIn_32 ?_
      refine lv_iload_n hx hb dX6_leftIn_35 rfl (lv_at hl 0 rfl) ?_
      refine km_ialdv (x := (M.2 13) j) hx hb hK hP 13 rfl rfl (show vp_in (nI (j)) 8 from ki_in (by omega) (by decide)) (congrArg _ (ki_cl (by omega))) dX6_leftIn_36 ?_
      refine lv_isub hx hb dX6_leftIn_37 ?_
      refine lv_goto (tgt := 42) hx hb dX6_leftIn_38 (by decide) ?_
      refine lv_isub hx hb dX6_leftIn_42 ?_
      refine lv_istore_n (lv' := [(2, .int (acc - (((M.2 14) j) - ((M.2 13) j)))), (3, .int (nI j)), (1, .int la), (0, .ref am)]) hx hb dX6_leftIn_43 rfl hl (by decide) rfl (fun ls hl => ?_)
      refine lv_iinc (v := nI (j + 1)) (lv' := [(3, .int (nI (j + 1))), (2, .int (acc - (((M.2 14) j) - ((M.2 13) j)))), (1, .int la), (0, .ref am)]) hx hb dX6_leftIn_44 hl (k := 1) rfl (nI_1 _) (by decide) rfl (fun ls hl => ?_)
      refine lv_goto (tgt := 6) hx hb dX6_leftIn_47 (by decide) ?_
      have hl := lv_sub hl [0, 1, 2, 3] rfl
      exact ih_6 _ (by omega) H locs ls ⟨j + 1, _, rfl, by omega, by rw [hF, show n - j = (n - (j + 1)) + 1 by omega]; simp [rLeft, c_2], hP, hD, hS, hl⟩

set_option maxRecDepth 100000 in
set_option maxHeartbeats 4000000 in
theorem m_left (l : Launch) (D : va_G) (cA : Nat → ClassId) (sz : Nat) (am : Nat) (r : Nat → Nat) (M : MSt) (n : Nat) (hn8 : n ≤ 8) (h3 : M.1 3 = nI n) (p0 : Int32) (h1 : kIn p0 0 2 = 1) : Met l yX6_left (Cond.code yX6_left cX6_left 2 (some .int) :: TT) ({ frames := 1, cells := 0, slots := 0, locals := 23 }) (va_Pc [.ref am, .int p0] (kPre D cA (wM cA am r M) sz)) (va_Qi (fun (r_ : Int32) (x_ : MSt) => r_ = rLeft M.2 p0 n 0 1000 ∧ x_ = mS M 0 0) (fun x_ => kB D cA (va_A (wM cA am r M) sz) (wM cA am r x_)) (va_A (wM cA am r M) sz)) 0 0 (va_A (wM cA am r M) sz) := by
  refine Met.ofW (cc := cX6_left) (maxL := 2) (ret := (some .int)) (by decide) rfl ?_
  intro p e s m args below meth c s₁ B hml hv
  obtain ⟨rfl, hsz, hP, hK, hD0, hTB⟩ := hv
  have hx := B.exec
  have hb := B.bytes
  have hr := B.returns
  have hts := atoms_spec (ws := Cond.code yX6_left cX6_left 2 (some .int) :: TT) B.pre
  have htT : ∀ w ∈ TT, w.before _ s = true := fun w h => hts w (List.mem_cons_of_mem _ h)
  have hown : s.vm.findClass RX6 = some m.cls := findClass_of_methodNamed B.named
  have hlocks := B.notSynchronized
  subst hsz
  have hD := hD0.self (sz := s.heap.size)
  generalize hAe : va_A (wM cA am r M) s.heap.size = A at hD ⊢
  have hA : ∀ q : Nat, s.heap.size ≤ q → A q := fun q h => by rw [← hAe]; exact Or.inr h
  have hS : va_S A s.heap s.heap [] := va_S.rf
  have hl := lv_entry ([.ref am, .int p0]) (n := 2) (Nat.le_of_ble_eq_true rfl)
  rw [lg_entry_eq]
  generalize (lg_sl ([.ref am, .int p0]) ++ List.replicate (2 - (lg_sl ([.ref am, .int p0])).length) Slot.unset).toArray = ls at hl ⊢
  have hl : lv_has ls 2 [(0, .ref am), (1, .int p0)] := hl
  refine lv_aload_n hx hb dX6_left_0 rfl (lv_at hl 0 rfl) ?_
  refine lv_iconst (v := 0) hx hb dX6_left_1 (by decide) ?_
  refine km_puti hx hb htT hown hK hP hD hS 0 (by decide) rfl (htT _ m_fl_X6_80) rfl (by decide +kernel) dX6_left_2 (fun H locs hP hD hS => ?_)
  refine lv_iload_n hx hb dX6_left_5 rfl (lv_at hl 1 rfl) ?_
  refine lv_iconst (v := 0) hx hb dX6_left_6 (by decide) ?_
  refine lv_iconst (v := 2) hx hb dX6_left_7 (by decide) ?_
  refine kc_i (va_runS (As := [.int p0, .int 0, .int 2]) (rest := []) ⟨hx, hb, hml, hown, htT⟩ (m_isIn l D cA _ am r (mS M 0 0) p0 0 2) (cwS 3 htT (kg_S m_ml_X6_87 m_st_X6_isIn m_in_X6 m_cd_X6_isIn) rfl rfl rfl (by decide +kernel) ⟨Nat.le_of_ble_eq_true rfl, Nat.le_of_ble_eq_true rfl⟩) (kp_S hK hP hD hTB) rfl rfl hl.1 rfl (lv_room (Nat.le_of_ble_eq_true rfl)) dX6_left_8 ⟨Nat.le_of_ble_eq_true rfl, Nat.le_of_ble_eq_true rfl⟩) hD hS hA (fun r_1 x_1 H locs hq_1 hP hD hS => ?_)
  rw [hq_1.1.trans h1]
  rw [hq_1.2] at hP hD
  refine lv_if_eq (tgt := 22) hx hb dX6_left_11 (by decide) (fun c_2 => absurd c_2 (by decide)) (fun _ => ?_)
  refine lv_aload_n hx hb dX6_left_14 rfl (lv_at hl 0 rfl) ?_
  refine lv_iload_n hx hb dX6_left_15 rfl (lv_at hl 1 rfl) ?_
  refine kc_i (va_runV (As := [.int p0]) (rest := []) ⟨hx, hb, hml, hown, htT⟩ (m_leftIn l D cA _ am r (mS M 0 0) n hn8 h3 p0) (cwV 1 htT (kg_V m_ml_X6_142 m_im_X6_leftIn m_sl_X6_leftIn m_in_X6 m_cd_X6_leftIn) rfl rfl rfl (by decide +kernel) ⟨Nat.le_of_ble_eq_true rfl, Nat.le_of_ble_eq_true rfl⟩) (kp_V hK hP hD hTB (km_rc hK hP)) rfl rfl hl.1 rfl (lv_room (Nat.le_of_ble_eq_true rfl)) dX6_left_16 ⟨Nat.le_of_ble_eq_true rfl, Nat.le_of_ble_eq_true rfl⟩) hD hS hA (fun r_3 x_3 H locs hq_3 hP hD hS => ?_)
  rw [hq_3.1]
  rw [hq_3.2] at hP hD
  refine lv_goto (tgt := 27) hx hb dX6_left_19 (by decide) ?_
  exact W.iret (v := rLeft M.2 p0 n 0 1000) hx hb hr (fun t ht hW => ⟨⟨rLeft M.2 p0 n 0 1000, mS M 0 0, rfl, ⟨rfl, rfl⟩, by rw [ht]; exact hP, va_K.moved hW.alike hK, hD⟩, hS.F ht⟩) hS.2.2 dX6_left_27

set_option maxRecDepth 100000 in
set_option maxHeartbeats 4000000 in
/-- what is told of a variant -/
theorem m_toldNow (l : Launch) (D : va_G) (cA : Nat → ClassId) (sz : Nat) (am : Nat) (r : Nat → Nat) (M : MSt) (na : Nat) (hna : na ≤ 100) (h22 : M.1 22 = nI na) (one va what : Int32) : Met l yX6_toldNow (Cond.code yX6_toldNow cX6_toldNow 6 (some .int) :: TT) ({ frames := 0, cells := 0, slots := 0, locals := 0 }) (va_Pc [.ref am, .int one, .int va, .int what] (kPre D cA (wM cA am r M) sz)) (va_Qi (fun (r_ : Int32) (x_ : MSt) => r_ = rTold M.2 one va what na 0 0 ∧ x_ = M) (fun x_ => kB D cA (va_A (wM cA am r M) sz) (wM cA am r x_)) (va_A (wM cA am r M) sz)) 0 0 (va_A (wM cA am r M) sz) := by
  refine Met.ofW (cc := cX6_toldNow) (maxL := 6) (ret := (some .int)) (by decide) rfl ?_
  intro p e s m args below meth c s₁ B hml hv
  obtain ⟨rfl, hsz, hP, hK, hD0, hTB⟩ := hv
  have hx := B.exec
  have hb := B.bytes
  have hr := B.returns
  have hts := atoms_spec (ws := Cond.code yX6_toldNow cX6_toldNow 6 (some .int) :: TT) B.pre
  have htT : ∀ w ∈ TT, w.before _ s = true := fun w h => hts w (List.mem_cons_of_mem _ h)
  have hown : s.vm.findClass RX6 = some m.cls := findClass_of_methodNamed B.named
  have hlocks := B.notSynchronized
  subst hsz
  have hD := hD0.self (sz := s.heap.size)
  generalize hAe : va_A (wM cA am r M) s.heap.size = A at hD ⊢
  have hA : ∀ q : Nat, s.heap.size ≤ q → A q := fun q h => by rw [← hAe]; exact Or.inr h
  have hS : va_S A s.heap s.heap [] := va_S.rf
  have hl := lv_entry ([.ref am, .int one, .int va, .int what]) (n := 6) (Nat.le_of_ble_eq_true rfl)
  rw [lg_entry_eq]
  generalize (lg_sl ([.ref am, .int one, .int va, .int what]) ++ List.replicate (6 - (lg_sl ([.ref am, .int one, .int va, .int what])).length) Slot.unset).toArray = ls at hl ⊢
  have hl : lv_has ls 6 [(0, .ref am), (1, .int one), (2, .int va), (3, .int what)] := hl
  refine lv_iconst (v := 0) hx hb dX6_toldNow_0 (by decide) ?_
  refine lv_istore (lv' := [(4, .int 0), (0, .ref am), (1, .int one), (2, .int va), (3, .int what)]) hx hb dX6_toldNow_1 hl (by decide) rfl (fun ls hl => ?_)
  refine lv_iconst (v := 0) hx hb dX6_toldNow_3 (by decide) ?_
  refine lv_istore (lv' := [(5, .int 0), (4, .int 0), (0, .ref am), (1, .int one), (2, .int va), (3, .int what)]) hx hb dX6_toldNow_4 hl (by decide) rfl (fun ls hl => ?_)
  refine kz_loop 6 (fun N9 H locs ls => ∃ (j : Nat) (acc : Int32), N9 = na - j ∧ j ≤ na ∧ rTold M.2 one va what na 0 0 = rTold M.2 one va what (na - j) j acc ∧ va_P D vwCl (wM cA am r M) H ∧ va_D A (wM cA am r M) ∧ va_S A s.heap H locs ∧ lv_has ls 6 [(5, .int (nI j)), (4, .int acc), (3, .int what), (2, .int va), (1, .int one), (0, .ref am)]) (fun N9 ih_6 H locs ls hI => ?_) ⟨0, 0, rfl, by omega, rfl, hP, hD, hS, lv_sub hl [0, 1, 5, 4, 3, 2] rfl⟩
  obtain ⟨j, acc, hn9, hj, hF, hP, hD, hS, hl⟩ := hI
  refine lv_iload hx hb dX6_toldNow_6 (lv_at hl 0 rfl) ?_
  refine lv_aload_n hx hb dX6_toldNow_8 rfl (lv_at hl 5 rfl) ?_
  refine km_getiv (x := nI na) hx hb htT hown hK hP 22 (by decide) rfl (htT _ m_fl_X6_151) h22 dX6_toldNow_9 ?_
  refine lv_icmp_ge (tgt := 112) hx hb dX6_toldNow_12 (by decide) (fun c_1 => ?_) (fun c_1 => ?_)
  · replace c_1 := (nI_leI (a := na) (b := j) (by omega) (by omega)).mp c_1
    refine lv_iload hx hb dX6_toldNow_112 (lv_at hl 1 rfl) ?_
    exact W.iret (v := acc) hx hb hr (fun t ht hW => ⟨⟨acc, M, rfl, ⟨by rw [hF, show na - j = 0 by omega]; rfl, rfl⟩, by rw [ht]; exact hP, va_K.moved hW.alike hK, hD⟩, hS.F ht⟩) hS.2.2 dX6_toldNow_114
  · replace c_1 : ¬ (na ≤ j) := fun h9 => c_1 ((nI_leI (a := na) (b := j) (by omega) (by omega)).mpr h9)
    refine lv_aload_n hx hb dX6_toldNow_15 rfl (lv_at hl 5 rfl) ?_
    refine km_getr hx hb htT hown hK hP 23 (by decide) rfl (htT _ m_fl_X6_65) dX6_toldNow_16 ?_
    refine lv_iload hx hb dX6_toldNow_19 (lv_at hl 0 rfl) ?_
    refine km_ialdv (x := (M.2 23) j) hx hb hK hP 23 rfl rfl (show vp_in (nI (j)) 100 from ki_in (by omega) (by decide)) (congrArg _ (ki_cl (by omega))) dX6_toldNow_21 ?_
    refine lv_iload_n hx hb dX6_toldNow_22 rfl (lv_at hl 4 rfl) ?_
    refine lv_icmp_ne (tgt := 106) hx hb dX6_toldNow_23 (by decide) (fun c_2 => ?_) (fun c_2 => ?_)
    · refine lv_iinc (v := nI (j + 1)) (lv' := [(5, .int (nI (j + 1))), (4, .int acc), (3, .int what), (2, .int va), (1, .int one), (0, .ref am)]) hx hb dX6_toldNow_106 hl (k := 0) rfl (nI_1 _) (by decide) rfl (fun ls hl => ?_)
      refine lv_goto (tgt := 6) hx hb dX6_toldNow_109 (by decide) ?_
      have hl := lv_sub hl [0, 1, 2, 3, 4, 5] rfl
      exact ih_6 _ (by omega) H locs ls ⟨j + 1, _, rfl, by omega, by rw [hF, show na - j = (na - (j + 1)) + 1 by omega]; simp [rTold, c_2], hP, hD, hS, hl⟩
    · refine lv_aload_n hx hb dX6_toldNow_26 rfl (lv_at hl 5 rfl) ?_
      refine km_getr hx hb htT hown hK hP 25 (by decide) rfl (htT _ m_fl_X6_71) dX6_toldNow_27 ?_
      refine lv_iload hx hb dX6_toldNow_30 (lv_at hl 0 rfl) ?_
      refine km_ialdv (x := (M.2 25) j) hx hb hK hP 25 rfl rfl (show vp_in (nI (j)) 100 from ki_in (by omega) (by decide)) (congrArg _ (ki_cl (by omega))) dX6_toldNow_32 ?_
      refine lv_iload_n hx hb dX6_toldNow_33 rfl (lv_at hl 3 rfl) ?_
      refine lv_icmp_eq (tgt := 40) hx hb dX6_toldNow_34 (by decide) (fun c_3 => ?_) (fun c_3 => ?_)
      · refine lv_iload hx hb dX6_toldNow_40 (lv_at hl 1 rfl) ?_
        refine lv_iload_n hx hb dX6_toldNow_42 rfl (lv_at hl 2 rfl) ?_
        refine lv_if_ne (tgt := 50) hx hb dX6_toldNow_43 (by decide) (fun c_4 => ?_) (fun c_4 => ?_)
        · refine lv_iload_n hx hb dX6_toldNow_50 rfl (lv_at hl 2 rfl) ?_
          refine lv_iconst (v := 1) hx hb dX6_toldNow_51 (by decide) ?_
          refine lv_icmp_ne (tgt := 73) hx hb dX6_toldNow_52 (by decide) (fun c_5 => ?_) (fun c_5 => ?_)
          · refine lv_iload_n hx hb dX6_toldNow_73 rfl (lv_at hl 2 rfl) ?_
            refine lv_iconst (v := 2) hx hb dX6_toldNow_74 (by decide) ?_
            refine lv_icmp_ne (tgt := 88) hx hb dX6_toldNow_75 (by decide) (fun c_6 => ?_) (fun c_6 => ?_)
            · refine lv_aload_n hx hb dX6_toldNow_88 rfl (lv_at hl 5 rfl) ?_
              refine km_getr hx hb htT hown hK hP 26 (by decide) rfl (htT _ m_fl_X6_74) dX6_toldNow_89 ?_
              refine lv_iload hx hb dX6_toldNow_92 (lv_at hl 0 rfl) ?_
              refine km_ialdv (x := (M.2 26) j) hx hb hK hP 26 rfl rfl (show vp_in (nI (j)) 100 from ki_in (by omega) (by decide)) (congrArg _ (ki_cl (by omega))) dX6_toldNow_94 ?_
              refine lv_aload_n hx hb dX6_toldNow_95 rfl (lv_at hl 5 rfl) ?_
              refine km_getr hx hb htT hown hK hP 26 (by decide) rfl (htT _ m_fl_X6_74) dX6_toldNow_96 ?_
              refine lv_iload hx hb dX6_toldNow_99 (lv_at hl 0 rfl) ?_
              refine km_ialdv (x := (M.2 26) j) hx hb hK hP 26 rfl rfl (show vp_in (nI (j)) 100 from ki_in (by omega) (by decide)) (congrArg _ (ki_cl (by omega))) dX6_toldNow_101 ?_
              refine lv_imul hx hb dX6_toldNow_102 ?_
              refine lv_iadd hx hb dX6_toldNow_103 ?_
              refine lv_istore (lv' := [(4, .int (acc + (((M.2 26) j) * ((M.2 26) j)))), (5, .int (nI j)), (3, .int what), (2, .int va), (1, .int one), (0, .ref am)]) hx hb dX6_toldNow_104 hl (by decide) rfl (fun ls hl => ?_)
              refine lv_iinc (v := nI (j + 1)) (lv' := [(5, .int (nI (j + 1))), (4, .int (acc + (((M.2 26) j) * ((M.2 26) j)))), (3, .int what), (2, .int va), (1, .int one), (0, .ref am)]) hx hb dX6_toldNow_106 hl (k := 1) rfl (nI_1 _) (by decide) rfl (fun ls hl => ?_)
              refine lv_goto (tgt := 6) hx hb dX6_toldNow_109 (by decide) ?_
              have hl := lv_sub hl [0, 1, 2, 3, 4, 5] rfl
              exact ih_6 _ (by omega) H locs ls ⟨j + 1, _, rfl, by omega, by rw [hF, show na - j = (na - (j + 1)) + 1 by omega]; simp [rTold, c_2, c_3, c_4, c_5, c_6], hP, hD, hS, hl⟩
            · refine lv_aload_n hx hb dX6_toldNow_78 rfl (lv_at hl 5 rfl) ?_
              refine km_getr hx hb htT hown hK hP 26 (by decide) rfl (htT _ m_fl_X6_74) dX6_toldNow_79 ?_
              refine lv_iload hx hb dX6_toldNow_82 (lv_at hl 0 rfl) ?_
              refine km_ialdv (x := (M.2 26) j) hx hb hK hP 26 rfl rfl (show vp_in (nI (j)) 100 from ki_in (by omega) (by decide)) (congrArg _ (ki_cl (by omega))) dX6_toldNow_84 ?_
              refine lv_goto (tgt := 103) hx hb dX6_toldNow_85 (by decide) ?_
              refine lv_iadd hx hb dX6_toldNow_103 ?_
              refine lv_istore (lv' := [(4, .int (acc + ((M.2 26) j))), (5, .int (nI j)), (3, .int what), (2, .int va), (1, .int one), (0, .ref am)]) hx hb dX6_toldNow_104 hl (by decide) rfl (fun ls hl => ?_)
              refine lv_iinc (v := nI (j + 1)) (lv' := [(5, .int (nI (j + 1))), (4, .int (acc + ((M.2 26) j))), (3, .int what), (2, .int va), (1, .int one), (0, .ref am)]) hx hb dX6_toldNow_106 hl (k := 1) rfl (nI_1 _) (by decide) rfl (fun ls hl => ?_)
              refine lv_goto (tgt := 6) hx hb dX6_toldNow_109 (by decide) ?_
              have hl := lv_sub hl [0, 1, 2, 3, 4, 5] rfl
              exact ih_6 _ (by omega) H locs ls ⟨j + 1, _, rfl, by omega, by rw [hF, show na - j = (na - (j + 1)) + 1 by omega]; simp [rTold, c_2, c_3, c_4, c_5, c_6], hP, hD, hS, hl⟩
          · refine lv_aload_n hx hb dX6_toldNow_55 rfl (lv_at hl 5 rfl) ?_
            refine km_getr hx hb htT hown hK hP 27 (by decide) rfl (htT _ m_fl_X6_77) dX6_toldNow_56 ?_
            refine lv_iload hx hb dX6_toldNow_59 (lv_at hl 0 rfl) ?_
            refine km_zaldv (x := (M.2 27) j) hx hb hK hP 27 rfl rfl (show vp_in (nI (j)) 100 from ki_in (by omega) (by decide)) (congrArg _ (ki_cl (by omega))) dX6_toldNow_61 ?_
            refine lv_if_eq (tgt := 69) hx hb dX6_toldNow_62 (by decide) (fun c_7 => ?_) (fun c_7 => ?_)
            · refine lv_iconst (v := 0) hx hb dX6_toldNow_69 (by decide) ?_
              refine lv_goto (tgt := 103) hx hb dX6_toldNow_70 (by decide) ?_
              refine lv_iadd hx hb dX6_toldNow_103 ?_
              refine lv_istore (lv' := [(4, .int (acc + 0)), (5, .int (nI j)), (3, .int what), (2, .int va), (1, .int one), (0, .ref am)]) hx hb dX6_toldNow_104 hl (by decide) rfl (fun ls hl => ?_)
              refine lv_iinc (v := nI (j + 1)) (lv' := [(5, .int (nI (j + 1))), (4, .int (acc + 0)), (3, .int what), (2, .int va), (1, .int one), (0, .ref am)]) hx hb dX6_toldNow_106 hl (k := 1) rfl (nI_1 _) (by decide) rfl (fun ls hl => ?_)
              refine lv_goto (tgt := 6) hx hb dX6_toldNow_109 (by decide) ?_
              have hl := lv_sub hl [0, 1, 2, 3, 4, 5] rfl
              exact ih_6 _ (by omega) H locs ls ⟨j + 1, _, rfl, by omega, by rw [hF, show na - j = (na - (j + 1)) + 1 by omega]; simp [rTold, c_2, c_3, c_4, c_5, c_7], hP, hD, hS, hl⟩
            · refine lv_iconst (v := 1) hx hb dX6_toldNow_65 (by decide) ?_
              refine lv_goto (tgt := 103) hx hb dX6_toldNow_66 (by decide) ?_
              refine lv_iadd hx hb dX6_toldNow_103 ?_
              refine lv_istore (lv' := [(4, .int (acc + 1)), (5, .int (nI j)), (3, .int what), (2, .int va), (1, .int one), (0, .ref am)]) hx hb dX6_toldNow_104 hl (by decide) rfl (fun ls hl => ?_)
              refine lv_iinc (v := nI (j + 1)) (lv' := [(5, .int (nI (j + 1))), (4, .int (acc + 1)), (3, .int what), (2, .int va), (1, .int one), (0, .ref am)]) hx hb dX6_toldNow_106 hl (k := 1) rfl (nI_1 _) (by decide) rfl (fun ls hl => ?_)
              refine lv_goto (tgt := 6) hx hb dX6_toldNow_109 (by decide) ?_
              have hl := lv_sub hl [0, 1, 2, 3, 4, 5] rfl
              exact ih_6 _ (by omega) H locs ls ⟨j + 1, _, rfl, by omega, by rw [hF, show na - j = (na - (j + 1)) + 1 by omega]; simp [rTold, c_2, c_3, c_4, c_5, c_7], hP, hD, hS, hl⟩
        · refine lv_iconst (v := 1) hx hb dX6_toldNow_46 (by decide) ?_
          refine lv_goto (tgt := 103) hx hb dX6_toldNow_47 (by decide) ?_
          refine lv_iadd hx hb dX6_toldNow_103 ?_
          refine lv_istore (lv' := [(4, .int (acc + 1)), (5, .int (nI j)), (3, .int what), (2, .int va), (1, .int one), (0, .ref am)]) hx hb dX6_toldNow_104 hl (by decide) rfl (fun ls hl => ?_)
          refine lv_iinc (v := nI (j + 1)) (lv' := [(5, .int (nI (j + 1))), (4, .int (acc + 1)), (3, .int what), (2, .int va), (1, .int one), (0, .ref am)]) hx hb dX6_toldNow_106 hl (k := 1) rfl (nI_1 _) (by decide) rfl (fun ls hl => ?_)
          refine lv_goto (tgt := 6) hx hb dX6_toldNow_109 (by decide) ?_
          have hl := lv_sub hl [0, 1, 2, 3, 4, 5] rfl
          exact ih_6 _ (by omega) H locs ls ⟨j + 1, _, rfl, by omega, by rw [hF, show na - j = (na - (j + 1)) + 1 by omega]; simp [rTold, c_2, c_3, c_4], hP, hD, hS, hl⟩
      · refine lv_goto (tgt := 106) hx hb dX6_toldNow_37 (by decide) ?_
        refine lv_iinc (v := nI (j + 1)) (lv' := [(5, .int (nI (j + 1))), (4, .int acc), (3, .int what), (2, .int va), (1, .int one), (0, .ref am)]) hx hb dX6_toldNow_106 hl (k := 0) rfl (nI_1 _) (by decide) rfl (fun ls hl => ?_)
        refine lv_goto (tgt := 6) hx hb dX6_toldNow_109 (by decide) ?_
        have hl := lv_sub hl [0, 1, 2, 3, 4, 5] rfl
        exact ih_6 _ (by omega) H locs ls ⟨j + 1, _, rfl, by omega, by rw [hF, show na - j = (na - (j + 1)) + 1 by omega]; simp [rTold, c_2, c_3], hP, hD, hS, hl⟩

set_option maxRecDepth 100000 in
set_option maxHeartbeats 4000000 in
/-- the variant of an arm -/
theorem m_armNow (l : Launch) (D : va_G) (cA : Nat → ClassId) (sz : Nat) (am : Nat) (r : Nat → Nat) (M : MSt) (na : Nat) (hna : na ≤ 100) (h22 : M.1 22 = nI na) (one u : Int32) : Met l yX6_armNow (Cond.code yX6_armNow cX6_armNow 4 (some .int) :: TT) ({ frames := 1, cells := 0, slots := 0, locals := 23 }) (va_Pc [.ref am, .int one, .int u] (kPre D cA (wM cA am r M) sz)) (va_Qi (fun (r_ : Int32) (x_ : MSt) => r_ = rArmV M.2 (rArm M.2 one u na 0) ∧ x_ = M) (fun x_ => kB D cA (va_A (wM cA am r M) sz) (wM cA am r x_)) (va_A (wM cA am r M) sz)) 0 0 (va_A (wM cA am r M) sz) := by
  refine Met.ofW (cc := cX6_armNow) (maxL := 4) (ret := (some .int)) (by decide) rfl ?_
  intro p e s m args below meth c s₁ B hml hv
  obtain ⟨rfl, hsz, hP, hK, hD0, hTB⟩ := hv
  have hx := B.exec
  have hb := B.bytes
  have hr := B.returns
  have hts := atoms_spec (ws := Cond.code yX6_armNow cX6_armNow 4 (some .int) :: TT) B.pre
  have htT : ∀ w ∈ TT, w.before _ s = true := fun w h => hts w (List.mem_cons_of_mem _ h)
  have hown : s.vm.findClass RX6 = some m.cls := findClass_of_methodNamed B.named
  have hlocks := B.notSynchronized
  subst hsz
  have hD := hD0.self (sz := s.heap.size)
  generalize hAe : va_A (wM cA am r M) s.heap.size = A at hD ⊢
  have hA : ∀ q : Nat, s.heap.size ≤ q → A q := fun q h => by rw [← hAe]; exact Or.inr h
  have hS : va_S A s.heap s.heap [] := va_S.rf
  have hl := lv_entry ([.ref am, .int one, .int u]) (n := 4) (Nat.le_of_ble_eq_true rfl)
  rw [lg_entry_eq]
  generalize (lg_sl ([.ref am, .int one, .int u]) ++ List.replicate (4 - (lg_sl ([.ref am, .int one, .int u])).length) Slot.unset).toArray = ls at hl ⊢
  have hl : lv_has ls 4 [(0, .ref am), (1, .int one), (2, .int u)] := hl
  refine lv_aload_n hx hb dX6_armNow_0 rfl (lv_at hl 0 rfl) ?_
  refine lv_iload_n hx hb dX6_armNow_1 rfl (lv_at hl 1 rfl) ?_
  refine lv_iload_n hx hb dX6_armNow_2 rfl (lv_at hl 2 rfl) ?_
  refine kc_i (va_runV (As := [.int one, .int u]) (rest := []) ⟨hx, hb, hml, hown, htT⟩ (m_armAt l D cA _ am r M na hna h22 one u) (cwV 2 htT (kg_V m_ml_X6_158 m_im_X6_armAt m_sl_X6_armAt m_in_X6 m_cd_X6_armAt) rfl rfl rfl (by decide +kernel) ⟨Nat.le_of_ble_eq_true rfl, Nat.le_of_ble_eq_true rfl⟩) (kp_V hK hP hD hTB (km_rc hK hP)) rfl rfl hl.1 rfl (lv_room (Nat.le_of_ble_eq_true rfl)) dX6_armNow_3 ⟨Nat.le_of_ble_eq_true rfl, Nat.le_of_ble_eq_true rfl⟩) hD hS hA (fun r_1 x_1 H locs hq_1 hP hD hS => ?_)
  rw [hq_1.2] at hP hD
  rcases rArm_of M.2 one u na 0 with era | ⟨ka, hka0, hka, era, -, -⟩
  · rw [hq_1.1.trans era]
    refine lv_istore_n (lv' := [(3, .int (-1)), (0, .ref am), (1, .int one), (2, .int u)]) hx hb dX6_armNow_6 rfl hl (by decide) rfl (fun ls hl => ?_)
    refine lv_iload_n hx hb dX6_armNow_7 rfl (lv_at hl 0 rfl) ?_
    refine lv_iconst (v := (-1)) hx hb dX6_armNow_8 (by decide) ?_
    refine lv_icmp_ne (tgt := 16) hx hb dX6_armNow_9 (by decide) (fun c_2 => absurd c_2 (by decide)) (fun _ => ?_)
    refine lv_iconst (v := (-1)) hx hb dX6_armNow_12 (by decide) ?_
    refine lv_goto (tgt := 22) hx hb dX6_armNow_13 (by decide) ?_
    exact W.iret (v := -1) hx hb hr (fun t ht hW => ⟨⟨-1, M, rfl, ⟨by rw [era]; rfl, rfl⟩, by rw [ht]; exact hP, va_K.moved hW.alike hK, hD⟩, hS.F ht⟩) hS.2.2 dX6_armNow_22
  · rw [hq_1.1.trans era]
    refine lv_istore_n (lv' := [(3, .int (nI ka)), (0, .ref am), (1, .int one), (2, .int u)]) hx hb dX6_armNow_6 rfl hl (by decide) rfl (fun ls hl => ?_)
    refine lv_iload_n hx hb dX6_armNow_7 rfl (lv_at hl 0 rfl) ?_
    refine lv_iconst (v := (-1)) hx hb dX6_armNow_8 (by decide) ?_
    refine lv_icmp_ne (tgt := 16) hx hb dX6_armNow_9 (by decide) (fun c_3 => ?_) (fun c_3 => ?_)
    · refine lv_aload_n hx hb dX6_armNow_16 rfl (lv_at hl 1 rfl) ?_
      refine km_getr hx hb htT hown hK hP 25 (by decide) rfl (htT _ m_fl_X6_71) dX6_armNow_17 ?_
      refine lv_iload_n hx hb dX6_armNow_20 rfl (lv_at hl 0 rfl) ?_
      refine km_ialdv (x := (M.2 25) ka) hx hb hK hP 25 rfl rfl (show vp_in (nI (ka)) 100 from ki_in (by omega) (by decide)) (congrArg _ (ki_cl (by omega))) dX6_armNow_21 ?_
      exact W.iret (v := (M.2 25) ka) hx hb hr (fun t ht hW => ⟨⟨(M.2 25) ka, M, rfl, ⟨by rw [era, rArmV, if_neg (nI_m1 (by omega)), ki_cl (by omega)], rfl⟩, by rw [ht]; exact hP, va_K.moved hW.alike hK, hD⟩, hS.F ht⟩) hS.2.2 dX6_armNow_22
    · exact absurd c_3 (nI_m1 (by omega))

set_option maxRecDepth 100000 in
set_option maxHeartbeats 4000000 in
theorem m_arm (l : Launch) (D : va_G) (cA : Nat → ClassId) (sz : Nat) (am : Nat) (r : Nat → Nat) (M : MSt) (n i : Nat) (hi : i < n) (hn8 : n ≤ 8) (h3 : M.1 3 = nI n) (na : Nat) (hna : na ≤ 100) (h22 : M.1 22 = nI na) (u : Int32) (h1 : kIn u 0 9999 = 1) : Met l yX6_arm (Cond.code yX6_arm cX6_arm 3 (some .int) :: TT) ({ frames := 2, cells := 0, slots := 0, locals := 46 }) (va_Pc [.ref am, .int (nI i), .int u] (kPre D cA (wM cA am r M) sz)) (va_Qi (fun (r_ : Int32) (x_ : MSt) => r_ = rArmV M.2 (rArm M.2 (nI i) u na 0) ∧ x_ = mS M 0 0) (fun x_ => kB D cA (va_A (wM cA am r M) sz) (wM cA am r x_)) (va_A (wM cA am r M) sz)) 0 0 (va_A (wM cA am r M) sz) := by
  refine Met.ofW (cc := cX6_arm) (maxL := 3) (ret := (some .int)) (by decide) rfl ?_
  intro p e s m args below meth c s₁ B hml hv
  obtain ⟨rfl, hsz, hP, hK, hD0, hTB⟩ := hv
  have hx := B.exec
  have hb := B.bytes
  have hr := B.returns
  have hts := atoms_spec (ws := Cond.code yX6_arm cX6_arm 3 (some .int) :: TT) B.pre
  have htT : ∀ w ∈ TT, w.before _ s = true := fun w h => hts w (List.mem_cons_of_mem _ h)
  have hown : s.vm.findClass RX6 = some m.cls := findClass_of_methodNamed B.named
  have hlocks := B.notSynchronized
  subst hsz
  have hD := hD0.self (sz := s.heap.size)
  generalize hAe : va_A (wM cA am r M) s.heap.size = A at hD ⊢
  have hA : ∀ q : Nat, s.heap.size ≤ q → A q := fun q h => by rw [← hAe]; exact Or.inr h
  have hS : va_S A s.heap s.heap [] := va_S.rf
  have hl := lv_entry ([.ref am, .int (nI i), .int u]) (n := 3) (Nat.le_of_ble_eq_true rfl)
  rw [lg_entry_eq]
  generalize (lg_sl ([.ref am, .int (nI i), .int u]) ++ List.replicate (3 - (lg_sl ([.ref am, .int (nI i), .int u])).length) Slot.unset).toArray = ls at hl ⊢
  have hl : lv_has ls 3 [(0, .ref am), (1, .int (nI i)), (2, .int u)] := hl
  have hsw1 := kIn_sw hi hn8 h3
  refine lv_aload_n hx hb dX6_arm_0 rfl (lv_at hl 0 rfl) ?_
  refine lv_iconst (v := 0) hx hb dX6_arm_1 (by decide) ?_
  refine km_puti hx hb htT hown hK hP hD hS 0 (by decide) rfl (htT _ m_fl_X6_80) rfl (by decide +kernel) dX6_arm_2 (fun H locs hP hD hS => ?_)
  refine lv_aload_n hx hb dX6_arm_5 rfl (lv_at hl 0 rfl) ?_
  refine lv_iload_n hx hb dX6_arm_6 rfl (lv_at hl 1 rfl) ?_
  refine kc_i (va_runV (As := [.int (nI i)]) (rest := []) ⟨hx, hb, hml, hown, htT⟩ (m_isSwitch l D cA _ am r (mS M 0 0) (nI i)) (cwV 1 htT (kg_V m_ml_X6_91 m_im_X6_isSwitch m_sl_X6_isSwitch m_in_X6 m_cd_X6_isSwitch) rfl rfl rfl (by decide +kernel) ⟨Nat.le_of_ble_eq_true rfl, Nat.le_of_ble_eq_true rfl⟩) (kp_V hK hP hD hTB (km_rc hK hP)) rfl rfl hl.1 rfl (lv_room (Nat.le_of_ble_eq_true rfl)) dX6_arm_7 ⟨Nat.le_of_ble_eq_true rfl, Nat.le_of_ble_eq_true rfl⟩) hD hS hA (fun r_1 x_1 H locs hq_1 hP hD hS => ?_)
  rw [hq_1.1.trans hsw1]
  rw [hq_1.2] at hP hD
  refine lv_if_ne (tgt := 19) hx hb dX6_arm_10 (by decide) (fun _ => ?_) (fun c_2 => absurd c_2 (by decide))
  refine lv_iload_n hx hb dX6_arm_19 rfl (lv_at hl 2 rfl) ?_
  refine kc_i (va_runS (As := [.int u]) (rest := []) ⟨hx, hb, hml, hown, htT⟩ (m_isUser l D cA _ am r (mS M 0 0) u) (cwS 1 htT (kg_S m_ml_X6_145 m_st_X6_isUser m_in_X6 m_cd_X6_isUser) rfl rfl rfl (by decide +kernel) ⟨Nat.le_of_ble_eq_true rfl, Nat.le_of_ble_eq_true rfl⟩) (kp_S hK hP hD hTB) rfl rfl hl.1 rfl (lv_room (Nat.le_of_ble_eq_true rfl)) dX6_arm_20 ⟨Nat.le_of_ble_eq_true rfl, Nat.le_of_ble_eq_true rfl⟩) hD hS hA (fun r_3 x_3 H locs hq_3 hP hD hS => ?_)
  rw [hq_3.1.trans h1]
  rw [hq_3.2] at hP hD
  refine lv_if_eq (tgt := 35) hx hb dX6_arm_23 (by decide) (fun c_4 => absurd c_4 (by decide)) (fun _ => ?_)
  refine lv_aload_n hx hb dX6_arm_26 rfl (lv_at hl 0 rfl) ?_
  refine lv_iload_n hx hb dX6_arm_27 rfl (lv_at hl 1 rfl) ?_
  refine lv_iload_n hx hb dX6_arm_28 rfl (lv_at hl 2 rfl) ?_
  refine kc_i (va_runV (As := [.int (nI i), .int u]) (rest := []) ⟨hx, hb, hml, hown, htT⟩ (m_armNow l D cA _ am r (mS M 0 0) na hna h22 (nI i) u) (cwV 2 htT (kg_V m_ml_X6_179 m_im_X6_armNow m_sl_X6_armNow m_in_X6 m_cd_X6_armNow) rfl rfl rfl (by decide +kernel) ⟨Nat.le_of_ble_eq_true rfl, Nat.le_of_ble_eq_true rfl⟩) (kp_V hK hP hD hTB (km_rc hK hP)) rfl rfl hl.1 rfl (lv_room (Nat.le_of_ble_eq_true rfl)) dX6_arm_29 ⟨Nat.le_of_ble_eq_true rfl, Nat.le_of_ble_eq_true rfl⟩) hD hS hA (fun r_5 x_5 H locs hq_5 hP hD hS => ?_)
  rw [hq_5.1]
  rw [hq_5.2] at hP hD
  refine lv_goto (tgt := 40) hx hb dX6_arm_32 (by decide) ?_
  exact W.iret (v := rArmV M.2 (rArm M.2 (nI i) u na 0)) hx hb hr (fun t ht hW => ⟨⟨rArmV M.2 (rArm M.2 (nI i) u na 0), mS M 0 0, rfl, ⟨rfl, rfl⟩, by rw [ht]; exact hP, va_K.moved hW.alike hK, hD⟩, hS.F ht⟩) hS.2.2 dX6_arm_40

set_option maxRecDepth 100000 in
set_option maxHeartbeats 4000000 in
theorem m_arm_1 (l : Launch) (D : va_G) (cA : Nat → ClassId) (sz : Nat) (am : Nat) (r : Nat → Nat) (M : MSt) (n i : Nat) (hi : i < n) (hn8 : n ≤ 8) (h3 : M.1 3 = nI n) (u : Int32) (h1 : kIn u 0 9999 = 0) : Met l yX6_arm (Cond.code yX6_arm cX6_arm 3 (some .int) :: TT) ({ frames := 2, cells := 0, slots := 0, locals := 43 }) (va_Pc [.ref am, .int (nI i), .int u] (kPre D cA (wM cA am r M) sz)) (va_Qi (fun (r_ : Int32) (x_ : MSt) => r_ = 0 ∧ x_ = mS (mS M 0 0) 0 2) (fun x_ => kB D cA (va_A (wM cA am r M) sz) (wM cA am r x_)) (va_A (wM cA am r M) sz)) 0 0 (va_A (wM cA am r M) sz) := by
  refine Met.ofW (cc := cX6_arm) (maxL := 3) (ret := (some .int)) (by decide) rfl ?_
  intro p e s m args below meth c s₁ B hml hv
  obtain ⟨rfl, hsz, hP, hK, hD0, hTB⟩ := hv
  have hx := B.exec
  have hb := B.bytes
  have hr := B.returns
  have hts := atoms_spec (ws := Cond.code yX6_arm cX6_arm 3 (some .int) :: TT) B.pre
  have htT : ∀ w ∈ TT, w.before _ s = true := fun w h => hts w (List.mem_cons_of_mem _ h)
  have hown : s.vm.findClass RX6 = some m.cls := findClass_of_methodNamed B.named
  have hlocks := B.notSynchronized
  subst hsz
  have hD := hD0.self (sz := s.heap.size)
  generalize hAe : va_A (wM cA am r M) s.heap.size = A at hD ⊢
  have hA : ∀ q : Nat, s.heap.size ≤ q → A q := fun q h => by rw [← hAe]; exact Or.inr h
  have hS : va_S A s.heap s.heap [] := va_S.rf
  have hl := lv_entry ([.ref am, .int (nI i), .int u]) (n := 3) (Nat.le_of_ble_eq_true rfl)
  rw [lg_entry_eq]
  generalize (lg_sl ([.ref am, .int (nI i), .int u]) ++ List.replicate (3 - (lg_sl ([.ref am, .int (nI i), .int u])).length) Slot.unset).toArray = ls at hl ⊢
  have hl : lv_has ls 3 [(0, .ref am), (1, .int (nI i)), (2, .int u)] := hl
  have hsw1 := kIn_sw hi hn8 h3
  refine lv_aload_n hx hb dX6_arm_0 rfl (lv_at hl 0 rfl) ?_
  refine lv_iconst (v := 0) hx hb dX6_arm_1 (by decide) ?_
  refine km_puti hx hb htT hown hK hP hD hS 0 (by decide) rfl (htT _ m_fl_X6_80) rfl (by decide +kernel) dX6_arm_2 (fun H locs hP hD hS => ?_)
  refine lv_aload_n hx hb dX6_arm_5 rfl (lv_at hl 0 rfl) ?_
  refine lv_iload_n hx hb dX6_arm_6 rfl (lv_at hl 1 rfl) ?_
  refine kc_i (va_runV (As := [.int (nI i)]) (rest := []) ⟨hx, hb, hml, hown, htT⟩ (m_isSwitch l D cA _ am r (mS M 0 0) (nI i)) (cwV 1 htT (kg_V m_ml_X6_91 m_im_X6_isSwitch m_sl_X6_isSwitch m_in_X6 m_cd_X6_isSwitch) rfl rfl rfl (by decide +kernel) ⟨Nat.le_of_ble_eq_true rfl, Nat.le_of_ble_eq_true rfl⟩) (kp_V hK hP hD hTB (km_rc hK hP)) rfl rfl hl.1 rfl (lv_room (Nat.le_of_ble_eq_true rfl)) dX6_arm_7 ⟨Nat.le_of_ble_eq_true rfl, Nat.le_of_ble_eq_true rfl⟩) hD hS hA (fun r_1 x_1 H locs hq_1 hP hD hS => ?_)
  rw [hq_1.1.trans hsw1]
  rw [hq_1.2] at hP hD
  refine lv_if_ne (tgt := 19) hx hb dX6_arm_10 (by decide) (fun _ => ?_) (fun c_2 => absurd c_2 (by decide))
  refine lv_iload_n hx hb dX6_arm_19 rfl (lv_at hl 2 rfl) ?_
  refine kc_i (va_runS (As := [.int u]) (rest := []) ⟨hx, hb, hml, hown, htT⟩ (m_isUser l D cA _ am r (mS M 0 0) u) (cwS 1 htT (kg_S m_ml_X6_145 m_st_X6_isUser m_in_X6 m_cd_X6_isUser) rfl rfl rfl (by decide +kernel) ⟨Nat.le_of_ble_eq_true rfl, Nat.le_of_ble_eq_true rfl⟩) (kp_S hK hP hD hTB) rfl rfl hl.1 rfl (lv_room (Nat.le_of_ble_eq_true rfl)) dX6_arm_20 ⟨Nat.le_of_ble_eq_true rfl, Nat.le_of_ble_eq_true rfl⟩) hD hS hA (fun r_3 x_3 H locs hq_3 hP hD hS => ?_)
  rw [hq_3.1.trans h1]
  rw [hq_3.2] at hP hD
  refine lv_if_eq (tgt := 35) hx hb dX6_arm_23 (by decide) (fun _ => ?_) (fun c_4 => absurd c_4 (by decide))
  refine lv_aload_n hx hb dX6_arm_35 rfl (lv_at hl 0 rfl) ?_
  refine lv_iconst (v := 2) hx hb dX6_arm_36 (by decide) ?_
  refine kc_i (va_runV (As := [.int 2]) (rest := []) ⟨hx, hb, hml, hown, htT⟩ (m_no l D cA _ am r (mS M 0 0) 2) (cwV 1 htT (kg_V m_ml_X6_95 m_im_X6_no m_sl_X6_no m_in_X6 m_cd_X6_no) rfl rfl rfl (by decide +kernel) ⟨Nat.le_of_ble_eq_true rfl, Nat.le_of_ble_eq_true rfl⟩) (kp_V hK hP hD hTB (km_rc hK hP)) rfl rfl hl.1 rfl (lv_room (Nat.le_of_ble_eq_true rfl)) dX6_arm_37 ⟨Nat.le_of_ble_eq_true rfl, Nat.le_of_ble_eq_true rfl⟩) hD hS hA (fun r_5 x_5 H locs hq_5 hP hD hS => ?_)
  rw [hq_5.1]
  rw [hq_5.2] at hP hD
  exact W.iret (v := 0) hx hb hr (fun t ht hW => ⟨⟨0, mS (mS M 0 0) 0 2, rfl, ⟨rfl, rfl⟩, by rw [ht]; exact hP, va_K.moved hW.alike hK, hD⟩, hS.F ht⟩) hS.2.2 dX6_arm_40

set_option maxRecDepth 100000 in
set_option maxHeartbeats 4000000 in
theorem m_weigh_v (l : Launch) (D : va_G) (cA : Nat → ClassId) (sz : Nat) (am : Nat) (r : Nat → Nat) (M : MSt) (n i : Nat) (hi : i < n) (hn8 : n ≤ 8) (h3 : M.1 3 = nI n) (p1 : Int32) (hv : kIn p1 0 (M.2 5 i - 1) = 0) (p2 : Int32) : Met l yX6_weigh (Cond.code yX6_weigh cX6_weigh 5 (some .int) :: TT) ({ frames := 3, cells := 0, slots := 0, locals := 65 }) (va_Pc [.ref am, .int (nI i), .int p1, .int p2] (kPre D cA (wM cA am r M) sz)) (va_Qi (fun (r_ : Int32) (x_ : MSt) => r_ = 0 ∧ x_ = mS (mS M 0 0) 0 1) (fun x_ => kB D cA (va_A (wM cA am r M) sz) (wM cA am r x_)) (va_A (wM cA am r M) sz)) 0 0 (va_A (wM cA am r M) sz) := by
  refine Met.ofW (cc := cX6_weigh) (maxL := 5) (ret := (some .int)) (by decide) rfl ?_
  intro p e s m args below meth c s₁ B hml hv
  obtain ⟨rfl, hsz, hP, hK, hD0, hTB⟩ := hv
  have hx := B.exec
  have hb := B.bytes
  have hr := B.returns
  have hts := atoms_spec (ws := Cond.code yX6_weigh cX6_weigh 5 (some .int) :: TT) B.pre
  have htT : ∀ w ∈ TT, w.before _ s = true := fun w h => hts w (List.mem_cons_of_mem _ h)
  have hown : s.vm.findClass RX6 = some m.cls := findClass_of_methodNamed B.named
  have hlocks := B.notSynchronized
  subst hsz
  have hD := hD0.self (sz := s.heap.size)
  generalize hAe : va_A (wM cA am r M) s.heap.size = A at hD ⊢
  have hA : ∀ q : Nat, s.heap.size ≤ q → A q := fun q h => by rw [← hAe]; exact Or.inr h
  have hS : va_S A s.heap s.heap [] := va_S.rf
  have hl := lv_entry ([.ref am, .int (nI i), .int p1, .int p2]) (n := 5) (Nat.le_of_ble_eq_true rfl)
  rw [lg_entry_eq]
  generalize (lg_sl ([.ref am, .int (nI i), .int p1, .int p2]) ++ List.replicate (5 - (lg_sl ([.ref am, .int (nI i), .int p1, .int p2])).length) Slot.unset).toArray = ls at hl ⊢
  have hl : lv_has ls 5 [(0, .ref am), (1, .int (nI i)), (2, .int p1), (3, .int p2)] := hl
  have hsw1 := kIn_sw hi hn8 h3
  refine lv_aload_n hx hb dX6_weigh_0 rfl (lv_at hl 0 rfl) ?_
  refine lv_iconst (v := 0) hx hb dX6_weigh_1 (by decide) ?_
  refine km_puti hx hb htT hown hK hP hD hS 0 (by decide) rfl (htT _ m_fl_X6_80) rfl (by decide +kernel) dX6_weigh_2 (fun H locs hP hD hS => ?_)
  refine lv_aload_n hx hb dX6_weigh_5 rfl (lv_at hl 0 rfl) ?_
  refine lv_iload_n hx hb dX6_weigh_6 rfl (lv_at hl 1 rfl) ?_
  refine lv_iload_n hx hb dX6_weigh_7 rfl (lv_at hl 2 rfl) ?_
  refine kc_i (va_runV (As := [.int (nI i), .int p1]) (rest := []) ⟨hx, hb, hml, hown, htT⟩ (m_isVariant_1 l D cA _ am r (mS M 0 0) n i hi hn8 h3 p1) (cwV 2 htT (kg_V m_ml_X6_102 m_im_X6_isVariant m_sl_X6_isVariant m_in_X6 m_cd_X6_isVariant) rfl rfl rfl (by decide +kernel) ⟨Nat.le_of_ble_eq_true rfl, Nat.le_of_ble_eq_true rfl⟩) (kp_V hK hP hD hTB (km_rc hK hP)) rfl rfl hl.1 rfl (lv_room (Nat.le_of_ble_eq_true rfl)) dX6_weigh_8 ⟨Nat.le_of_ble_eq_true rfl, Nat.le_of_ble_eq_true rfl⟩) hD hS hA (fun r_1 x_1 H locs hq_1 hP hD hS => ?_)
  rw [hq_1.1.trans hv]
  rw [hq_1.2] at hP hD
  refine lv_if_ne (tgt := 20) hx hb dX6_weigh_11 (by decide) (fun c_2 => absurd c_2 (by decide)) (fun _ => ?_)
  refine lv_aload_n hx hb dX6_weigh_14 rfl (lv_at hl 0 rfl) ?_
  refine lv_iconst (v := 1) hx hb dX6_weigh_15 (by decide) ?_
  refine kc_i (va_runV (As := [.int 1]) (rest := []) ⟨hx, hb, hml, hown, htT⟩ (m_no l D cA _ am r (mS M 0 0) 1) (cwV 1 htT (kg_V m_ml_X6_95 m_im_X6_no m_sl_X6_no m_in_X6 m_cd_X6_no) rfl rfl rfl (by decide +kernel) ⟨Nat.le_of_ble_eq_true rfl, Nat.le_of_ble_eq_true rfl⟩) (kp_V hK hP hD hTB (km_rc hK hP)) rfl rfl hl.1 rfl (lv_room (Nat.le_of_ble_eq_true rfl)) dX6_weigh_16 ⟨Nat.le_of_ble_eq_true rfl, Nat.le_of_ble_eq_true rfl⟩) hD hS hA (fun r_3 x_3 H locs hq_3 hP hD hS => ?_)
  rw [hq_3.1]
  rw [hq_3.2] at hP hD
  exact W.iret (v := 0) hx hb hr (fun t ht hW => ⟨⟨0, mS (mS M 0 0) 0 1, rfl, ⟨rfl, rfl⟩, by rw [ht]; exact hP, va_K.moved hW.alike hK, hD⟩, hS.F ht⟩) hS.2.2 dX6_weigh_19

set_option maxRecDepth 100000 in
set_option maxHeartbeats 4000000 in
theorem m_weight_v (l : Launch) (D : va_G) (cA : Nat → ClassId) (sz : Nat) (am : Nat) (r : Nat → Nat) (M : MSt) (n i : Nat) (hi : i < n) (hn8 : n ≤ 8) (h3 : M.1 3 = nI n) (p1 : Int32) (hv : kIn p1 0 (M.2 5 i - 1) = 0) : Met l yX6_weight (Cond.code yX6_weight cX6_weight 3 (some .int) :: TT) ({ frames := 3, cells := 0, slots := 0, locals := 65 }) (va_Pc [.ref am, .int (nI i), .int p1] (kPre D cA (wM cA am r M) sz)) (va_Qi (fun (r_ : Int32) (x_ : MSt) => r_ = 0 ∧ x_ = mS (mS M 0 0) 0 1) (fun x_ => kB D cA (va_A (wM cA am r M) sz) (wM cA am r x_)) (va_A (wM cA am r M) sz)) 0 0 (va_A (wM cA am r M) sz) := by
  refine Met.ofW (cc := cX6_weight) (maxL := 3) (ret := (some .int)) (by decide) rfl ?_
  intro p e s m args below meth c s₁ B hml hv
  obtain ⟨rfl, hsz, hP, hK, hD0, hTB⟩ := hv
  have hx := B.exec
  have hb := B.bytes
  have hr := B.returns
  have hts := atoms_spec (ws := Cond.code yX6_weight cX6_weight 3 (some .int) :: TT) B.pre
  have htT : ∀ w ∈ TT, w.before _ s = true := fun w h => hts w (List.mem_cons_of_mem _ h)
  have hown : s.vm.findClass RX6 = some m.cls := findClass_of_methodNamed B.named
  have hlocks := B.notSynchronized
  subst hsz
  have hD := hD0.self (sz := s.heap.size)
  generalize hAe : va_A (wM cA am r M) s.heap.size = A at hD ⊢
  have hA : ∀ q : Nat, s.heap.size ≤ q → A q := fun q h => by rw [← hAe]; exact Or.inr h
  have hS : va_S A s.heap s.heap [] := va_S.rf
  have hl := lv_entry ([.ref am, .int (nI i), .int p1]) (n := 3) (Nat.le_of_ble_eq_true rfl)
  rw [lg_entry_eq]
  generalize (lg_sl ([.ref am, .int (nI i), .int p1]) ++ List.replicate (3 - (lg_sl ([.ref am, .int (nI i), .int p1])).length) Slot.unset).toArray = ls at hl ⊢
  have hl : lv_has ls 3 [(0, .ref am), (1, .int (nI i)), (2, .int p1)] := hl
  have hsw1 := kIn_sw hi hn8 h3
  refine lv_aload_n hx hb dX6_weight_0 rfl (lv_at hl 0 rfl) ?_
  refine lv_iconst (v := 0) hx hb dX6_weight_1 (by decide) ?_
  refine km_puti hx hb htT hown hK hP hD hS 0 (by decide) rfl (htT _ m_fl_X6_80) rfl (by decide +kernel) dX6_weight_2 (fun H locs hP hD hS => ?_)
  refine lv_aload_n hx hb dX6_weight_5 rfl (lv_at hl 0 rfl) ?_
  refine lv_iload_n hx hb dX6_weight_6 rfl (lv_at hl 1 rfl) ?_
  refine lv_iload_n hx hb dX6_weight_7 rfl (lv_at hl 2 rfl) ?_
  refine kc_i (va_runV (As := [.int (nI i), .int p1]) (rest := []) ⟨hx, hb, hml, hown, htT⟩ (m_isVariant_1 l D cA _ am r (mS M 0 0) n i hi hn8 h3 p1) (cwV 2 htT (kg_V m_ml_X6_102 m_im_X6_isVariant m_sl_X6_isVariant m_in_X6 m_cd_X6_isVariant) rfl rfl rfl (by decide +kernel) ⟨Nat.le_of_ble_eq_true rfl, Nat.le_of_ble_eq_true rfl⟩) (kp_V hK hP hD hTB (km_rc hK hP)) rfl rfl hl.1 rfl (lv_room (Nat.le_of_ble_eq_true rfl)) dX6_weight_8 ⟨Nat.le_of_ble_eq_true rfl, Nat.le_of_ble_eq_true rfl⟩) hD hS hA (fun r_1 x_1 H locs hq_1 hP hD hS => ?_)
  rw [hq_1.1.trans hv]
  rw [hq_1.2] at hP hD
  refine lv_if_eq (tgt := 27) hx hb dX6_weight_11 (by decide) (fun _ => ?_) (fun c_2 => absurd c_2 (by decide))
  refine lv_aload_n hx hb dX6_weight_27 rfl (lv_at hl 0 rfl) ?_
  refine lv_iconst (v := 1) hx hb dX6_weight_28 (by decide) ?_
  refine kc_i (va_runV (As := [.int 1]) (rest := []) ⟨hx, hb, hml, hown, htT⟩ (m_no l D cA _ am r (mS M 0 0) 1) (cwV 1 htT (kg_V m_ml_X6_95 m_im_X6_no m_sl_X6_no m_in_X6 m_cd_X6_no) rfl rfl rfl (by decide +kernel) ⟨Nat.le_of_ble_eq_true rfl, Nat.le_of_ble_eq_true rfl⟩) (kp_V hK hP hD hTB (km_rc hK hP)) rfl rfl hl.1 rfl (lv_room (Nat.le_of_ble_eq_true rfl)) dX6_weight_29 ⟨Nat.le_of_ble_eq_true rfl, Nat.le_of_ble_eq_true rfl⟩) hD hS hA (fun r_3 x_3 H locs hq_3 hP hD hS => ?_)
  rw [hq_3.1]
  rw [hq_3.2] at hP hD
  exact W.iret (v := 0) hx hb hr (fun t ht hW => ⟨⟨0, mS (mS M 0 0) 0 1, rfl, ⟨rfl, rfl⟩, by rw [ht]; exact hP, va_K.moved hW.alike hK, hD⟩, hS.F ht⟩) hS.2.2 dX6_weight_32

set_option maxRecDepth 100000 in
set_option maxHeartbeats 4000000 in
theorem m_told_v (l : Launch) (D : va_G) (cA : Nat → ClassId) (sz : Nat) (am : Nat) (r : Nat → Nat) (M : MSt) (n i : Nat) (hi : i < n) (hn8 : n ≤ 8) (h3 : M.1 3 = nI n) (p1 : Int32) (hv : kIn p1 0 (M.2 5 i - 1) = 0) (p2 : Int32) : Met l yX6_told (Cond.code yX6_told cX6_told 4 (some .int) :: TT) ({ frames := 3, cells := 0, slots := 0, locals := 65 }) (va_Pc [.ref am, .int (nI i), .int p1, .int p2] (kPre D cA (wM cA am r M) sz)) (va_Qi (fun (r_ : Int32) (x_ : MSt) => r_ = 0 ∧ x_ = mS (mS M 0 0) 0 1) (fun x_ => kB D cA (va_A (wM cA am r M) sz) (wM cA am r x_)) (va_A (wM cA am r M) sz)) 0 0 (va_A (wM cA am r M) sz) := by
  refine Met.ofW (cc := cX6_told) (maxL := 4) (ret := (some .int)) (by decide) rfl ?_
  intro p e s m args below meth c s₁ B hml hv
  obtain ⟨rfl, hsz, hP, hK, hD0, hTB⟩ := hv
  have hx := B.exec
  have hb := B.bytes
  have hr := B.returns
  have hts := atoms_spec (ws := Cond.code yX6_told cX6_told 4 (some .int) :: TT) B.pre
  have htT : ∀ w ∈ TT, w.before _ s = true := fun w h => hts w (List.mem_cons_of_mem _ h)
  have hown : s.vm.findClass RX6 = some m.cls := findClass_of_methodNamed B.named
  have hlocks := B.notSynchronized
  subst hsz
  have hD := hD0.self (sz := s.heap.size)
  generalize hAe : va_A (wM cA am r M) s.heap.size = A at hD ⊢
  have hA : ∀ q : Nat, s.heap.size ≤ q → A q := fun q h => by rw [← hAe]; exact Or.inr h
  have hS : va_S A s.heap s.heap [] := va_S.rf
  have hl := lv_entry ([.ref am, .int (nI i), .int p1, .int p2]) (n := 4) (Nat.le_of_ble_eq_true rfl)
  rw [lg_entry_eq]
  generalize (lg_sl ([.ref am, .int (nI i), .int p1, .int p2]) ++ List.replicate (4 - (lg_sl ([.ref am, .int (nI i), .int p1, .int p2])).length) Slot.unset).toArray = ls at hl ⊢
  have hl : lv_has ls 4 [(0, .ref am), (1, .int (nI i)), (2, .int p1), (3, .int p2)] := hl
  have hsw1 := kIn_sw hi hn8 h3
  refine lv_aload_n hx hb dX6_told_0 rfl (lv_at hl 0 rfl) ?_
  refine lv_iconst (v := 0) hx hb dX6_told_1 (by decide) ?_
  refine km_puti hx hb htT hown hK hP hD hS 0 (by decide) rfl (htT _ m_fl_X6_80) rfl (by decide +kernel) dX6_told_2 (fun H locs hP hD hS => ?_)
  refine lv_aload_n hx hb dX6_told_5 rfl (lv_at hl 0 rfl) ?_
  refine lv_iload_n hx hb dX6_told_6 rfl (lv_at hl 1 rfl) ?_
  refine lv_iload_n hx hb dX6_told_7 rfl (lv_at hl 2 rfl) ?_
  refine kc_i (va_runV (As := [.int (nI i), .int p1]) (rest := []) ⟨hx, hb, hml, hown, htT⟩ (m_isVariant_1 l D cA _ am r (mS M 0 0) n i hi hn8 h3 p1) (cwV 2 htT (kg_V m_ml_X6_102 m_im_X6_isVariant m_sl_X6_isVariant m_in_X6 m_cd_X6_isVariant) rfl rfl rfl (by decide +kernel) ⟨Nat.le_of_ble_eq_true rfl, Nat.le_of_ble_eq_true rfl⟩) (kp_V hK hP hD hTB (km_rc hK hP)) rfl rfl hl.1 rfl (lv_room (Nat.le_of_ble_eq_true rfl)) dX6_told_8 ⟨Nat.le_of_ble_eq_true rfl, Nat.le_of_ble_eq_true rfl⟩) hD hS hA (fun r_1 x_1 H locs hq_1 hP hD hS => ?_)
  rw [hq_1.1.trans hv]
  rw [hq_1.2] at hP hD
  refine lv_if_ne (tgt := 20) hx hb dX6_told_11 (by decide) (fun c_2 => absurd c_2 (by decide)) (fun _ => ?_)
  refine lv_aload_n hx hb dX6_told_14 rfl (lv_at hl 0 rfl) ?_
  refine lv_iconst (v := 1) hx hb dX6_told_15 (by decide) ?_
  refine kc_i (va_runV (As := [.int 1]) (rest := []) ⟨hx, hb, hml, hown, htT⟩ (m_no l D cA _ am r (mS M 0 0) 1) (cwV 1 htT (kg_V m_ml_X6_95 m_im_X6_no m_sl_X6_no m_in_X6 m_cd_X6_no) rfl rfl rfl (by decide +kernel) ⟨Nat.le_of_ble_eq_true rfl, Nat.le_of_ble_eq_true rfl⟩) (kp_V hK hP hD hTB (km_rc hK hP)) rfl rfl hl.1 rfl (lv_room (Nat.le_of_ble_eq_true rfl)) dX6_told_16 ⟨Nat.le_of_ble_eq_true rfl, Nat.le_of_ble_eq_true rfl⟩) hD hS hA (fun r_3 x_3 H locs hq_3 hP hD hS => ?_)
  rw [hq_3.1]
  rw [hq_3.2] at hP hD
  exact W.iret (v := 0) hx hb hr (fun t ht hW => ⟨⟨0, mS (mS M 0 0) 0 1, rfl, ⟨rfl, rfl⟩, by rw [ht]; exact hP, va_K.moved hW.alike hK, hD⟩, hS.F ht⟩) hS.2.2 dX6_told_19

set_option maxRecDepth 100000 in
set_option maxHeartbeats 4000000 in
theorem m_reach_v (l : Launch) (D : va_G) (cA : Nat → ClassId) (sz : Nat) (am : Nat) (r : Nat → Nat) (M : MSt) (n i : Nat) (hi : i < n) (hn8 : n ≤ 8) (h3 : M.1 3 = nI n) (p1 : Int32) (hv : kIn p1 0 (M.2 5 i - 1) = 0) (p2 : Int32) : Met l yX6_reach (Cond.code yX6_reach cX6_reach 4 (some .int) :: TT) ({ frames := 3, cells := 0, slots := 0, locals := 65 }) (va_Pc [.ref am, .int (nI i), .int p1, .int p2] (kPre D cA (wM cA am r M) sz)) (va_Qi (fun (r_ : Int32) (x_ : MSt) => r_ = 0 ∧ x_ = mS (mS M 0 0) 0 1) (fun x_ => kB D cA (va_A (wM cA am r M) sz) (wM cA am r x_)) (va_A (wM cA am r M) sz)) 0 0 (va_A (wM cA am r M) sz) := by
  refine Met.ofW (cc := cX6_reach) (maxL := 4) (ret := (some .int)) (by decide) rfl ?_
  intro p e s m args below meth c s₁ B hml hv
  obtain ⟨rfl, hsz, hP, hK, hD0, hTB⟩ := hv
  have hx := B.exec
  have hb := B.bytes
  have hr := B.returns
  have hts := atoms_spec (ws := Cond.code yX6_reach cX6_reach 4 (some .int) :: TT) B.pre
  have htT : ∀ w ∈ TT, w.before _ s = true := fun w h => hts w (List.mem_cons_of_mem _ h)
  have hown : s.vm.findClass RX6 = some m.cls := findClass_of_methodNamed B.named
  have hlocks := B.notSynchronized
  subst hsz
  have hD := hD0.self (sz := s.heap.size)
  generalize hAe : va_A (wM cA am r M) s.heap.size = A at hD ⊢
  have hA : ∀ q : Nat, s.heap.size ≤ q → A q := fun q h => by rw [← hAe]; exact Or.inr h
  have hS : va_S A s.heap s.heap [] := va_S.rf
  have hl := lv_entry ([.ref am, .int (nI i), .int p1, .int p2]) (n := 4) (Nat.le_of_ble_eq_true rfl)
  rw [lg_entry_eq]
  generalize (lg_sl ([.ref am, .int (nI i), .int p1, .int p2]) ++ List.replicate (4 - (lg_sl ([.ref am, .int (nI i), .int p1, .int p2])).length) Slot.unset).toArray = ls at hl ⊢
  have hl : lv_has ls 4 [(0, .ref am), (1, .int (nI i)), (2, .int p1), (3, .int p2)] := hl
  have hsw1 := kIn_sw hi hn8 h3
  refine lv_aload_n hx hb dX6_reach_0 rfl (lv_at hl 0 rfl) ?_
  refine lv_iconst (v := 0) hx hb dX6_reach_1 (by decide) ?_
  refine km_puti hx hb htT hown hK hP hD hS 0 (by decide) rfl (htT _ m_fl_X6_80) rfl (by decide +kernel) dX6_reach_2 (fun H locs hP hD hS => ?_)
  refine lv_aload_n hx hb dX6_reach_5 rfl (lv_at hl 0 rfl) ?_
  refine lv_iload_n hx hb dX6_reach_6 rfl (lv_at hl 1 rfl) ?_
  refine lv_iload_n hx hb dX6_reach_7 rfl (lv_at hl 2 rfl) ?_
  refine kc_i (va_runV (As := [.int (nI i), .int p1]) (rest := []) ⟨hx, hb, hml, hown, htT⟩ (m_isVariant_1 l D cA _ am r (mS M 0 0) n i hi hn8 h3 p1) (cwV 2 htT (kg_V m_ml_X6_102 m_im_X6_isVariant m_sl_X6_isVariant m_in_X6 m_cd_X6_isVariant) rfl rfl rfl (by decide +kernel) ⟨Nat.le_of_ble_eq_true rfl, Nat.le_of_ble_eq_true rfl⟩) (kp_V hK hP hD hTB (km_rc hK hP)) rfl rfl hl.1 rfl (lv_room (Nat.le_of_ble_eq_true rfl)) dX6_reach_8 ⟨Nat.le_of_ble_eq_true rfl, Nat.le_of_ble_eq_true rfl⟩) hD hS hA (fun r_1 x_1 H locs hq_1 hP hD hS => ?_)
  rw [hq_1.1.trans hv]
  rw [hq_1.2] at hP hD
  refine lv_if_ne (tgt := 20) hx hb dX6_reach_11 (by decide) (fun c_2 => absurd c_2 (by decide)) (fun _ => ?_)
  refine lv_aload_n hx hb dX6_reach_14 rfl (lv_at hl 0 rfl) ?_
  refine lv_iconst (v := 1) hx hb dX6_reach_15 (by decide) ?_
  refine kc_i (va_runV (As := [.int 1]) (rest := []) ⟨hx, hb, hml, hown, htT⟩ (m_no l D cA _ am r (mS M 0 0) 1) (cwV 1 htT (kg_V m_ml_X6_95 m_im_X6_no m_sl_X6_no m_in_X6 m_cd_X6_no) rfl rfl rfl (by decide +kernel) ⟨Nat.le_of_ble_eq_true rfl, Nat.le_of_ble_eq_true rfl⟩) (kp_V hK hP hD hTB (km_rc hK hP)) rfl rfl hl.1 rfl (lv_room (Nat.le_of_ble_eq_true rfl)) dX6_reach_16 ⟨Nat.le_of_ble_eq_true rfl, Nat.le_of_ble_eq_true rfl⟩) hD hS hA (fun r_3 x_3 H locs hq_3 hP hD hS => ?_)
  rw [hq_3.1]
  rw [hq_3.2] at hP hD
  exact W.iret (v := 0) hx hb hr (fun t ht hW => ⟨⟨0, mS (mS M 0 0) 0 1, rfl, ⟨rfl, rfl⟩, by rw [ht]; exact hP, va_K.moved hW.alike hK, hD⟩, hS.F ht⟩) hS.2.2 dX6_reach_19

set_option maxRecDepth 100000 in
set_option maxHeartbeats 4000000 in
theorem m_weight (l : Launch) (D : va_G) (cA : Nat → ClassId) (sz : Nat) (am : Nat) (r : Nat → Nat) (M : MSt) (n i : Nat) (hi : i < n) (hn8 : n ≤ 8) (h3 : M.1 3 = nI n) (v : Nat) (hv4 : v < 4) (hv : kIn (nI v) 0 (M.2 5 i - 1) = 1) : Met l yX6_weight (Cond.code yX6_weight cX6_weight 3 (some .int) :: TT) ({ frames := 3, cells := 0, slots := 0, locals := 65 }) (va_Pc [.ref am, .int (nI i), .int (nI v)] (kPre D cA (wM cA am r M) sz)) (va_Qi (fun (r_ : Int32) (x_ : MSt) => r_ = M.2 6 (4 * i + v) ∧ x_ = mS M 0 0) (fun x_ => kB D cA (va_A (wM cA am r M) sz) (wM cA am r x_)) (va_A (wM cA am r M) sz)) 0 0 (va_A (wM cA am r M) sz) := by
  refine Met.ofW (cc := cX6_weight) (maxL := 3) (ret := (some .int)) (by decide) rfl ?_
  intro p e s m args below meth c s₁ B hml hv
  obtain ⟨rfl, hsz, hP, hK, hD0, hTB⟩ := hv
  have hx := B.exec
  have hb := B.bytes
  have hr := B.returns
  have hts := atoms_spec (ws := Cond.code yX6_weight cX6_weight 3 (some .int) :: TT) B.pre
  have htT : ∀ w ∈ TT, w.before _ s = true := fun w h => hts w (List.mem_cons_of_mem _ h)
  have hown : s.vm.findClass RX6 = some m.cls := findClass_of_methodNamed B.named
  have hlocks := B.notSynchronized
  subst hsz
  have hD := hD0.self (sz := s.heap.size)
  generalize hAe : va_A (wM cA am r M) s.heap.size = A at hD ⊢
  have hA : ∀ q : Nat, s.heap.size ≤ q → A q := fun q h => by rw [← hAe]; exact Or.inr h
  have hS : va_S A s.heap s.heap [] := va_S.rf
  have hl := lv_entry ([.ref am, .int (nI i), .int (nI v)]) (n := 3) (Nat.le_of_ble_eq_true rfl)
  rw [lg_entry_eq]
  generalize (lg_sl ([.ref am, .int (nI i), .int (nI v)]) ++ List.replicate (3 - (lg_sl ([.ref am, .int (nI i), .int (nI v)])).length) Slot.unset).toArray = ls at hl ⊢
  have hl : lv_has ls 3 [(0, .ref am), (1, .int (nI i)), (2, .int (nI v))] := hl
  have hsw1 := kIn_sw hi hn8 h3
  refine lv_aload_n hx hb dX6_weight_0 rfl (lv_at hl 0 rfl) ?_
  refine lv_iconst (v := 0) hx hb dX6_weight_1 (by decide) ?_
  refine km_puti hx hb htT hown hK hP hD hS 0 (by decide) rfl (htT _ m_fl_X6_80) rfl (by decide +kernel) dX6_weight_2 (fun H locs hP hD hS => ?_)
  refine lv_aload_n hx hb dX6_weight_5 rfl (lv_at hl 0 rfl) ?_
  refine lv_iload_n hx hb dX6_weight_6 rfl (lv_at hl 1 rfl) ?_
  refine lv_iload_n hx hb dX6_weight_7 rfl (lv_at hl 2 rfl) ?_
  refine kc_i (va_runV (As := [.int (nI i), .int (nI v)]) (rest := []) ⟨hx, hb, hml, hown, htT⟩ (m_isVariant_1 l D cA _ am r (mS M 0 0) n i hi hn8 h3 (nI v)) (cwV 2 htT (kg_V m_ml_X6_102 m_im_X6_isVariant m_sl_X6_isVariant m_in_X6 m_cd_X6_isVariant) rfl rfl rfl (by decide +kernel) ⟨Nat.le_of_ble_eq_true rfl, Nat.le_of_ble_eq_true rfl⟩) (kp_V hK hP hD hTB (km_rc hK hP)) rfl rfl hl.1 rfl (lv_room (Nat.le_of_ble_eq_true rfl)) dX6_weight_8 ⟨Nat.le_of_ble_eq_true rfl, Nat.le_of_ble_eq_true rfl⟩) hD hS hA (fun r_1 x_1 H locs hq_1 hP hD hS => ?_)
  rw [hq_1.1.trans hv]
  rw [hq_1.2] at hP hD
  refine lv_if_eq (tgt := 27) hx hb dX6_weight_11 (by decide) (fun c_2 => absurd c_2 (by decide)) (fun _ => ?_)
  refine lv_aload_n hx hb dX6_weight_14 rfl (lv_at hl 0 rfl) ?_
  refine km_getr hx hb htT hown hK hP 6 (by decide) rfl (htT _ m_fl_X6_16) dX6_weight_15 ?_
  refine lv_iload_n hx hb dX6_weight_18 rfl (lv_at hl 1 rfl) ?_
  refine lv_iconst (v := 4) hx hb dX6_weight_19 (by decide) ?_
  refine lv_imul hx hb dX6_weight_20 ?_
  rw [show ((nI i) * 4 : Int32) = nI (4 * i) from (pk_mul i 4).trans (congrArg nI (by omega))]
  refine lv_iload_n hx hb dX6_weight_21 rfl (lv_at hl 2 rfl) ?_
  refine lv_iadd hx hb dX6_weight_22 ?_
  rw [show ((nI (4 * i)) + (nI v) : Int32) = nI (4 * i + v) from (nI_add (4 * i) v).trans (congrArg nI (by omega))]
  refine km_ialdv (x := (M.2 6) (4 * i + v)) hx hb hK hP 6 rfl rfl (show vp_in (nI (4 * i + v)) 32 from ki_in (by omega) (by decide)) (congrArg _ (ki_cl (by omega))) dX6_weight_23 ?_
  refine lv_goto (tgt := 32) hx hb dX6_weight_24 (by decide) ?_
  exact W.iret (v := (M.2 6) (4 * i + v)) hx hb hr (fun t ht hW => ⟨⟨(M.2 6) (4 * i + v), mS M 0 0, rfl, ⟨rfl, rfl⟩, by rw [ht]; exact hP, va_K.moved hW.alike hK, hD⟩, hS.F ht⟩) hS.2.2 dX6_weight_32

set_option maxRecDepth 100000 in
set_option maxHeartbeats 4000000 in
theorem m_told (l : Launch) (D : va_G) (cA : Nat → ClassId) (sz : Nat) (am : Nat) (r : Nat → Nat) (M : MSt) (n i : Nat) (hi : i < n) (hn8 : n ≤ 8) (h3 : M.1 3 = nI n) (na : Nat) (hna : na ≤ 100) (h22 : M.1 22 = nI na) (p1 p2 : Int32) (hv : kIn p1 0 (M.2 5 i - 1) = 1) (h1 : kIn p2 0 3 = 1) : Met l yX6_told (Cond.code yX6_told cX6_told 4 (some .int) :: TT) ({ frames := 3, cells := 0, slots := 0, locals := 65 }) (va_Pc [.ref am, .int (nI i), .int p1, .int p2] (kPre D cA (wM cA am r M) sz)) (va_Qi (fun (r_ : Int32) (x_ : MSt) => r_ = rTold M.2 (nI i) p1 p2 na 0 0 ∧ x_ = mS M 0 0) (fun x_ => kB D cA (va_A (wM cA am r M) sz) (wM cA am r x_)) (va_A (wM cA am r M) sz)) 0 0 (va_A (wM cA am r M) sz) := by
  refine Met.ofW (cc := cX6_told) (maxL := 4) (ret := (some .int)) (by decide) rfl ?_
  intro p e s m args below meth c s₁ B hml hv
  obtain ⟨rfl, hsz, hP, hK, hD0, hTB⟩ := hv
  have hx := B.exec
  have hb := B.bytes
  have hr := B.returns
  have hts := atoms_spec (ws := Cond.code yX6_told cX6_told 4 (some .int) :: TT) B.pre
  have htT : ∀ w ∈ TT, w.before _ s = true := fun w h => hts w (List.mem_cons_of_mem _ h)
  have hown : s.vm.findClass RX6 = some m.cls := findClass_of_methodNamed B.named
  have hlocks := B.notSynchronized
  subst hsz
  have hD := hD0.self (sz := s.heap.size)
  generalize hAe : va_A (wM cA am r M) s.heap.size = A at hD ⊢
  have hA : ∀ q : Nat, s.heap.size ≤ q → A q := fun q h => by rw [← hAe]; exact Or.inr h
  have hS : va_S A s.heap s.heap [] := va_S.rf
  have hl := lv_entry ([.ref am, .int (nI i), .int p1, .int p2]) (n := 4) (Nat.le_of_ble_eq_true rfl)
  rw [lg_entry_eq]
  generalize (lg_sl ([.ref am, .int (nI i), .int p1, .int p2]) ++ List.replicate (4 - (lg_sl ([.ref am, .int (nI i), .int p1, .int p2])).length) Slot.unset).toArray = ls at hl ⊢
  have hl : lv_has ls 4 [(0, .ref am), (1, .int (nI i)), (2, .int p1), (3, .int p2)] := hl
  have hsw1 := kIn_sw hi hn8 h3
  refine lv_aload_n hx hb dX6_told_0 rfl (lv_at hl 0 rfl) ?_
  refine lv_iconst (v := 0) hx hb dX6_told_1 (by decide) ?_
  refine km_puti hx hb htT hown hK hP hD hS 0 (by decide) rfl (htT _ m_fl_X6_80) rfl (by decide +kernel) dX6_told_2 (fun H locs hP hD hS => ?_)
  refine lv_aload_n hx hb dX6_told_5 rfl (lv_at hl 0 rfl) ?_
  refine lv_iload_n hx hb dX6_told_6 rfl (lv_at hl 1 rfl) ?_
  refine lv_iload_n hx hb dX6_told_7 rfl (lv_at hl 2 rfl) ?_
  refine kc_i (va_runV (As := [.int (nI i), .int p1]) (rest := []) ⟨hx, hb, hml, hown, htT⟩ (m_isVariant_1 l D cA _ am r (mS M 0 0) n i hi hn8 h3 p1) (cwV 2 htT (kg_V m_ml_X6_102 m_im_X6_isVariant m_sl_X6_isVariant m_in_X6 m_cd_X6_isVariant) rfl rfl rfl (by decide +kernel) ⟨Nat.le_of_ble_eq_true rfl, Nat.le_of_ble_eq_true rfl⟩) (kp_V hK hP hD hTB (km_rc hK hP)) rfl rfl hl.1 rfl (lv_room (Nat.le_of_ble_eq_true rfl)) dX6_told_8 ⟨Nat.le_of_ble_eq_true rfl, Nat.le_of_ble_eq_true rfl⟩) hD hS hA (fun r_1 x_1 H locs hq_1 hP hD hS => ?_)
  rw [hq_1.1.trans hv]
  rw [hq_1.2] at hP hD
  refine lv_if_ne (tgt := 20) hx hb dX6_told_11 (by decide) (fun _ => ?_) (fun c_2 => absurd c_2 (by decide))
  refine lv_iload_n hx hb dX6_told_20 rfl (lv_at hl 3 rfl) ?_
  refine lv_iconst (v := 0) hx hb dX6_told_21 (by decide) ?_
  refine lv_iconst (v := 3) hx hb dX6_told_22 (by decide) ?_
  refine kc_i (va_runS (As := [.int p2, .int 0, .int 3]) (rest := []) ⟨hx, hb, hml, hown, htT⟩ (m_isIn l D cA _ am r (mS M 0 0) p2 0 3) (cwS 3 htT (kg_S m_ml_X6_87 m_st_X6_isIn m_in_X6 m_cd_X6_isIn) rfl rfl rfl (by decide +kernel) ⟨Nat.le_of_ble_eq_true rfl, Nat.le_of_ble_eq_true rfl⟩) (kp_S hK hP hD hTB) rfl rfl hl.1 rfl (lv_room (Nat.le_of_ble_eq_true rfl)) dX6_told_23 ⟨Nat.le_of_ble_eq_true rfl, Nat.le_of_ble_eq_true rfl⟩) hD hS hA (fun r_3 x_3 H locs hq_3 hP hD hS => ?_)
  rw [hq_3.1.trans h1]
  rw [hq_3.2] at hP hD
  refine lv_if_eq (tgt := 39) hx hb dX6_told_26 (by decide) (fun c_4 => absurd c_4 (by decide)) (fun _ => ?_)
  refine lv_aload_n hx hb dX6_told_29 rfl (lv_at hl 0 rfl) ?_
  refine lv_iload_n hx hb dX6_told_30 rfl (lv_at hl 1 rfl) ?_
  refine lv_iload_n hx hb dX6_told_31 rfl (lv_at hl 2 rfl) ?_
  refine lv_iload_n hx hb dX6_told_32 rfl (lv_at hl 3 rfl) ?_
  refine kc_i (va_runV (As := [.int (nI i), .int p1, .int p2]) (rest := []) ⟨hx, hb, hml, hown, htT⟩ (m_toldNow l D cA _ am r (mS M 0 0) na hna h22 (nI i) p1 p2) (cwV 3 htT (kg_V m_ml_X6_182 m_im_X6_toldNow m_sl_X6_toldNow m_in_X6 m_cd_X6_toldNow) rfl rfl rfl (by decide +kernel) ⟨Nat.le_of_ble_eq_true rfl, Nat.le_of_ble_eq_true rfl⟩) (kp_V hK hP hD hTB (km_rc hK hP)) rfl rfl hl.1 rfl (lv_room (Nat.le_of_ble_eq_true rfl)) dX6_told_33 ⟨Nat.le_of_ble_eq_true rfl, Nat.le_of_ble_eq_true rfl⟩) hD hS hA (fun r_5 x_5 H locs hq_5 hP hD hS => ?_)
  rw [hq_5.1]
  rw [hq_5.2] at hP hD
  refine lv_goto (tgt := 44) hx hb dX6_told_36 (by decide) ?_
  exact W.iret (v := rTold M.2 (nI i) p1 p2 na 0 0) hx hb hr (fun t ht hW => ⟨⟨rTold M.2 (nI i) p1 p2 na 0 0, mS M 0 0, rfl, ⟨rfl, rfl⟩, by rw [ht]; exact hP, va_K.moved hW.alike hK, hD⟩, hS.F ht⟩) hS.2.2 dX6_told_44

set_option maxRecDepth 100000 in
set_option maxHeartbeats 4000000 in
theorem m_told_1 (l : Launch) (D : va_G) (cA : Nat → ClassId) (sz : Nat) (am : Nat) (r : Nat → Nat) (M : MSt) (n i : Nat) (hi : i < n) (hn8 : n ≤ 8) (h3 : M.1 3 = nI n) (p1 p2 : Int32) (hv : kIn p1 0 (M.2 5 i - 1) = 1) (h1 : kIn p2 0 3 = 0) : Met l yX6_told (Cond.code yX6_told cX6_told 4 (some .int) :: TT) ({ frames := 3, cells := 0, slots := 0, locals := 65 }) (va_Pc [.ref am, .int (nI i), .int p1, .int p2] (kPre D cA (wM cA am r M) sz)) (va_Qi (fun (r_ : Int32) (x_ : MSt) => r_ = 0 ∧ x_ = mS (mS M 0 0) 0 2) (fun x_ => kB D cA (va_A (wM cA am r M) sz) (wM cA am r x_)) (va_A (wM cA am r M) sz)) 0 0 (va_A (wM cA am r M) sz) := by
  refine Met.ofW (cc := cX6_told) (maxL := 4) (ret := (some .int)) (by decide) rfl ?_
  intro p e s m args below meth c s₁ B hml hv
  obtain ⟨rfl, hsz, hP, hK, hD0, hTB⟩ := hv
  have hx := B.exec
  have hb := B.bytes
  have hr := B.returns
  have hts := atoms_spec (ws := Cond.code yX6_told cX6_told 4 (some .int) :: TT) B.pre
  have htT : ∀ w ∈ TT, w.before _ s = true := fun w h => hts w (List.mem_cons_of_mem _ h)
  have hown : s.vm.findClass RX6 = some m.cls := findClass_of_methodNamed B.named
  have hlocks := B.notSynchronized
  subst hsz
  have hD := hD0.self (sz := s.heap.size)
  generalize hAe : va_A (wM cA am r M) s.heap.size = A at hD ⊢
  have hA : ∀ q : Nat, s.heap.size ≤ q → A q := fun q h => by rw [← hAe]; exact Or.inr h
  have hS : va_S A s.heap s.heap [] := va_S.rf
  have hl := lv_entry ([.ref am, .int (nI i), .int p1, .int p2]) (n := 4) (Nat.le_of_ble_eq_true rfl)
  rw [lg_entry_eq]
  generalize (lg_sl ([.ref am, .int (nI i), .int p1, .int p2]) ++ List.replicate (4 - (lg_sl ([.ref am, .int (nI i), .int p1, .int p2])).length) Slot.unset).toArray = ls at hl ⊢
  have hl : lv_has ls 4 [(0, .ref am), (1, .int (nI i)), (2, .int p1), (3, .int p2)] := hl
  have hsw1 := kIn_sw hi hn8 h3
  refine lv_aload_n hx hb dX6_told_0 rfl (lv_at hl 0 rfl) ?_
  refine lv_iconst (v := 0) hx hb dX6_told_1 (by decide) ?_
  refine km_puti hx hb htT hown hK hP hD hS 0 (by decide) rfl (htT _ m_fl_X6_80) rfl (by decide +kernel) dX6_told_2 (fun H locs hP hD hS => ?_)
  refine lv_aload_n hx hb dX6_told_5 rfl (lv_at hl 0 rfl) ?_
  refine lv_iload_n hx hb dX6_told_6 rfl (lv_at hl 1 rfl) ?_
  refine lv_iload_n hx hb dX6_told_7 rfl (lv_at hl 2 rfl) ?_
  refine kc_i (va_runV (As := [.int (nI i), .int p1]) (rest := []) ⟨hx, hb, hml, hown, htT⟩ (m_isVariant_1 l D cA _ am r (mS M 0 0) n i hi hn8 h3 p1) (cwV 2 htT (kg_V m_ml_X6_102 m_im_X6_isVariant m_sl_X6_isVariant m_in_X6 m_cd_X6_isVariant) rfl rfl rfl (by decide +kernel) ⟨Nat.le_of_ble_eq_true rfl, Nat.le_of_ble_eq_true rfl⟩) (kp_V hK hP hD hTB (km_rc hK hP)) rfl rfl hl.1 rfl (lv_room (Nat.le_of_ble_eq_true rfl)) dX6_told_8 ⟨Nat.le_of_ble_eq_true rfl, Nat.le_of_ble_eq_true rfl⟩) hD hS hA (fun r_1 x_1 H locs hq_1 hP hD hS => ?_)
  rw [hq_1.1.trans hv]
  rw [hq_1.2] at hP hD
  refine lv_if_ne (tgt := 20) hx hb dX6_told_11 (by decide) (fun _ => ?_) (fun c_2 => absurd c_2 (by decide))
  refine lv_iload_n hx hb dX6_told_20 rfl (lv_at hl 3 rfl) ?_
  refine lv_iconst (v := 0) hx hb dX6_told_21 (by decide) ?_
  refine lv_iconst (v := 3) hx hb dX6_told_22 (by decide) ?_
  refine kc_i (va_runS (As := [.int p2, .int 0, .int 3]) (rest := []) ⟨hx, hb, hml, hown, htT⟩ (m_isIn l D cA _ am r (mS M 0 0) p2 0 3) (cwS 3 htT (kg_S m_ml_X6_87 m_st_X6_isIn m_in_X6 m_cd_X6_isIn) rfl rfl rfl (by decide +kernel) ⟨Nat.le_of_ble_eq_true rfl, Nat.le_of_ble_eq_true rfl⟩) (kp_S hK hP hD hTB) rfl rfl hl.1 rfl (lv_room (Nat.le_of_ble_eq_true rfl)) dX6_told_23 ⟨Nat.le_of_ble_eq_true rfl, Nat.le_of_ble_eq_true rfl⟩) hD hS hA (fun r_3 x_3 H locs hq_3 hP hD hS => ?_)
  rw [hq_3.1.trans h1]
  rw [hq_3.2] at hP hD
  refine lv_if_eq (tgt := 39) hx hb dX6_told_26 (by decide) (fun _ => ?_) (fun c_4 => absurd c_4 (by decide))
  refine lv_aload_n hx hb dX6_told_39 rfl (lv_at hl 0 rfl) ?_
  refine lv_iconst (v := 2) hx hb dX6_told_40 (by decide) ?_
  refine kc_i (va_runV (As := [.int 2]) (rest := []) ⟨hx, hb, hml, hown, htT⟩ (m_no l D cA _ am r (mS M 0 0) 2) (cwV 1 htT (kg_V m_ml_X6_95 m_im_X6_no m_sl_X6_no m_in_X6 m_cd_X6_no) rfl rfl rfl (by decide +kernel) ⟨Nat.le_of_ble_eq_true rfl, Nat.le_of_ble_eq_true rfl⟩) (kp_V hK hP hD hTB (km_rc hK hP)) rfl rfl hl.1 rfl (lv_room (Nat.le_of_ble_eq_true rfl)) dX6_told_41 ⟨Nat.le_of_ble_eq_true rfl, Nat.le_of_ble_eq_true rfl⟩) hD hS hA (fun r_5 x_5 H locs hq_5 hP hD hS => ?_)
  rw [hq_5.1]
  rw [hq_5.2] at hP hD
  exact W.iret (v := 0) hx hb hr (fun t ht hW => ⟨⟨0, mS (mS M 0 0) 0 2, rfl, ⟨rfl, rfl⟩, by rw [ht]; exact hP, va_K.moved hW.alike hK, hD⟩, hS.F ht⟩) hS.2.2 dX6_told_44

set_option maxRecDepth 100000 in
set_option maxHeartbeats 4000000 in
theorem m_weigh (l : Launch) (D : va_G) (cA : Nat → ClassId) (sz : Nat) (am : Nat) (r : Nat → Nat) (M : MSt) (n i : Nat) (hi : i < n) (hn8 : n ≤ 8) (h3 : M.1 3 = nI n) (v : Nat) (hv4 : v < 4) (hv : kIn (nI v) 0 (M.2 5 i - 1) = 1) (hv0 : v ≠ 0) (p2 : Int32) (h1 : kIn p2 0 1000 = 1) (hw : ¬ (M.2 6 (4 * i) + M.2 6 (4 * i + v) < p2)) : Met l yX6_weigh (Cond.code yX6_weigh cX6_weigh 5 (some .int) :: TT) ({ frames := 3, cells := 0, slots := 0, locals := 65 }) (va_Pc [.ref am, .int (nI i), .int (nI v), .int p2] (kPre D cA (wM cA am r M) sz)) (va_Qi (fun (r_ : Int32) (x_ : MSt) => r_ = M.2 6 (4 * i) + (M.2 6 (4 * i + v) - p2) ∧ x_ = mR (mR (mS M 0 0) 6 (4 * i) (M.2 6 (4 * i) + (M.2 6 (4 * i + v) - p2))) 6 (4 * i + v) p2) (fun x_ => kB D cA (va_A (wM cA am r M) sz) (wM cA am r x_)) (va_A (wM cA am r M) sz)) 0 0 (va_A (wM cA am r M) sz) := by
  refine Met.ofW (cc := cX6_weigh) (maxL := 5) (ret := (some .int)) (by decide) rfl ?_
  intro p e s m args below meth c s₁ B hml hv
  obtain ⟨rfl, hsz, hP, hK, hD0, hTB⟩ := hv
  have hx := B.exec
  have hb := B.bytes
  have hr := B.returns
  have hts := atoms_spec (ws := Cond.code yX6_weigh cX6_weigh 5 (some .int) :: TT) B.pre
  have htT : ∀ w ∈ TT, w.before _ s = true := fun w h => hts w (List.mem_cons_of_mem _ h)
  have hown : s.vm.findClass RX6 = some m.cls := findClass_of_methodNamed B.named
  have hlocks := B.notSynchronized
  subst hsz
  have hD := hD0.self (sz := s.heap.size)
  generalize hAe : va_A (wM cA am r M) s.heap.size = A at hD ⊢
  have hA : ∀ q : Nat, s.heap.size ≤ q → A q := fun q h => by rw [← hAe]; exact Or.inr h
  have hS : va_S A s.heap s.heap [] := va_S.rf
  have hl := lv_entry ([.ref am, .int (nI i), .int (nI v), .int p2]) (n := 5) (Nat.le_of_ble_eq_true rfl)
  rw [lg_entry_eq]
  generalize (lg_sl ([.ref am, .int (nI i), .int (nI v), .int p2]) ++ List.replicate (5 - (lg_sl ([.ref am, .int (nI i), .int (nI v), .int p2])).length) Slot.unset).toArray = ls at hl ⊢
  have hl : lv_has ls 5 [(0, .ref am), (1, .int (nI i)), (2, .int (nI v)), (3, .int p2)] := hl
  have hsw1 := kIn_sw hi hn8 h3
  refine lv_aload_n hx hb dX6_weigh_0 rfl (lv_at hl 0 rfl) ?_
  refine lv_iconst (v := 0) hx hb dX6_weigh_1 (by decide) ?_
  refine km_puti hx hb htT hown hK hP hD hS 0 (by decide) rfl (htT _ m_fl_X6_80) rfl (by decide +kernel) dX6_weigh_2 (fun H locs hP hD hS => ?_)
  refine lv_aload_n hx hb dX6_weigh_5 rfl (lv_at hl 0 rfl) ?_
  refine lv_iload_n hx hb dX6_weigh_6 rfl (lv_at hl 1 rfl) ?_
  refine lv_iload_n hx hb dX6_weigh_7 rfl (lv_at hl 2 rfl) ?_
  refine kc_i (va_runV (As := [.int (nI i), .int (nI v)]) (rest := []) ⟨hx, hb, hml, hown, htT⟩ (m_isVariant_1 l D cA _ am r (mS M 0 0) n i hi hn8 h3 (nI v)) (cwV 2 htT (kg_V m_ml_X6_102 m_im_X6_isVariant m_sl_X6_isVariant m_in_X6 m_cd_X6_isVariant) rfl rfl rfl (by decide +kernel) ⟨Nat.le_of_ble_eq_true rfl, Nat.le_of_ble_eq_true rfl⟩) (kp_V hK hP hD hTB (km_rc hK hP)) rfl rfl hl.1 rfl (lv_room (Nat.le_of_ble_eq_true rfl)) dX6_weigh_8 ⟨Nat.le_of_ble_eq_true rfl, Nat.le_of_ble_eq_true rfl⟩) hD hS hA (fun r_1 x_1 H locs hq_1 hP hD hS => ?_)
  rw [hq_1.1.trans hv]
  rw [hq_1.2] at hP hD
  refine lv_if_ne (tgt := 20) hx hb dX6_weigh_11 (by decide) (fun _ => ?_) (fun c_2 => absurd c_2 (by decide))
  refine lv_iload_n hx hb dX6_weigh_20 rfl (lv_at hl 1 rfl) ?_
  refine lv_iconst (v := 4) hx hb dX6_weigh_21 (by decide) ?_
  refine lv_imul hx hb dX6_weigh_22 ?_
  rw [show ((nI i) * 4 : Int32) = nI (4 * i) from (pk_mul i 4).trans (congrArg nI (by omega))]
  refine lv_istore (lv' := [(4, .int (nI (4 * i))), (0, .ref am), (1, .int (nI i)), (2, .int (nI v)), (3, .int p2)]) hx hb dX6_weigh_23 hl (by decide) rfl (fun ls hl => ?_)
  refine lv_iload_n hx hb dX6_weigh_25 rfl (lv_at hl 3 rfl) ?_
  refine lv_if_eq (tgt := 61) hx hb dX6_weigh_26 (by decide) (fun c_3 => ?_) (fun c_3 => ?_)
  · exact absurd ((nI_eq (a := v) (b := 0) (by omega) (by omega)).mp c_3) hv0
  · replace c_3 : ¬ (v = 0) := fun h9 => c_3 ((nI_eq (a := v) (b := 0) (by omega) (by omega)).mpr h9)
    refine lv_iload_n hx hb dX6_weigh_29 rfl (lv_at hl 4 rfl) ?_
    refine lv_iconst (v := 0) hx hb dX6_weigh_30 (by decide) ?_
    refine lv_sipush (v := 1000) hx hb dX6_weigh_31 (by decide) ?_
    refine kc_i (va_runS (As := [.int p2, .int 0, .int 1000]) (rest := []) ⟨hx, hb, hml, hown, htT⟩ (m_isIn l D cA _ am r (mS M 0 0) p2 0 1000) (cwS 3 htT (kg_S m_ml_X6_87 m_st_X6_isIn m_in_X6 m_cd_X6_isIn) rfl rfl rfl (by decide +kernel) ⟨Nat.le_of_ble_eq_true rfl, Nat.le_of_ble_eq_true rfl⟩) (kp_S hK hP hD hTB) rfl rfl hl.1 rfl (lv_room (Nat.le_of_ble_eq_true rfl)) dX6_weigh_34 ⟨Nat.le_of_ble_eq_true rfl, Nat.le_of_ble_eq_true rfl⟩) hD hS hA (fun r_4 x_4 H locs hq_4 hP hD hS => ?_)
    rw [hq_4.1.trans h1]
    rw [hq_4.2] at hP hD
    refine lv_if_eq (tgt := 61) hx hb dX6_weigh_37 (by decide) (fun c_5 => absurd c_5 (by decide)) (fun _ => ?_)
    refine lv_aload_n hx hb dX6_weigh_40 rfl (lv_at hl 1 rfl) ?_
    refine km_getr hx hb htT hown hK hP 6 (by decide) rfl (htT _ m_fl_X6_16) dX6_weigh_41 ?_
    refine lv_iload hx hb dX6_weigh_44 (lv_at hl 0 rfl) ?_
    refine km_ialdv (x := (M.2 6) (4 * i)) hx hb hK hP 6 rfl rfl (show vp_in (nI (4 * i)) 32 from ki_in (by omega) (by decide)) (congrArg _ (ki_cl (by omega))) dX6_weigh_46 ?_
    refine lv_aload_n hx hb dX6_weigh_47 rfl (lv_at hl 1 rfl) ?_
    refine km_getr hx hb htT hown hK hP 6 (by decide) rfl (htT _ m_fl_X6_16) dX6_weigh_48 ?_
    refine lv_iload hx hb dX6_weigh_51 (lv_at hl 0 rfl) ?_
    refine lv_iload_n hx hb dX6_weigh_53 rfl (lv_at hl 3 rfl) ?_
    refine lv_iadd hx hb dX6_weigh_54 ?_
    rw [show ((nI (4 * i)) + (nI v) : Int32) = nI (4 * i + v) from (nI_add (4 * i) v).trans (congrArg nI (by omega))]
    refine km_ialdv (x := (M.2 6) (4 * i + v)) hx hb hK hP 6 rfl rfl (show vp_in (nI (4 * i + v)) 32 from ki_in (by omega) (by decide)) (congrArg _ (ki_cl (by omega))) dX6_weigh_55 ?_
    refine lv_iadd hx hb dX6_weigh_56 ?_
    refine lv_iload_n hx hb dX6_weigh_57 rfl (lv_at hl 4 rfl) ?_
    refine lv_icmp_ge (tgt := 67) hx hb dX6_weigh_58 (by decide) (fun c_6 => ?_) (fun c_6 => ?_)
    · replace c_6 := Int32.not_lt.mpr c_6
      refine lv_aload_n hx hb dX6_weigh_67 rfl (lv_at hl 1 rfl) ?_
      refine km_getr hx hb htT hown hK hP 6 (by decide) rfl (htT _ m_fl_X6_16) dX6_weigh_68 ?_
      refine lv_iload hx hb dX6_weigh_71 (lv_at hl 0 rfl) ?_
      refine lv_dup2_11 hx hb dX6_weigh_73 rfl rfl ?_
      refine km_ialdv (x := (M.2 6) (4 * i)) hx hb hK hP 6 rfl rfl (show vp_in (nI (4 * i)) 32 from ki_in (by omega) (by decide)) (congrArg _ (ki_cl (by omega))) dX6_weigh_74 ?_
      refine lv_aload_n hx hb dX6_weigh_75 rfl (lv_at hl 1 rfl) ?_
      refine km_getr hx hb htT hown hK hP 6 (by decide) rfl (htT _ m_fl_X6_16) dX6_weigh_76 ?_
      refine lv_iload hx hb dX6_weigh_79 (lv_at hl 0 rfl) ?_
      refine lv_iload_n hx hb dX6_weigh_81 rfl (lv_at hl 3 rfl) ?_
      refine lv_iadd hx hb dX6_weigh_82 ?_
      rw [show ((nI (4 * i)) + (nI v) : Int32) = nI (4 * i + v) from (nI_add (4 * i) v).trans (congrArg nI (by omega))]
      refine km_ialdv (x := (M.2 6) (4 * i + v)) hx hb hK hP 6 rfl rfl (show vp_in (nI (4 * i + v)) 32 from ki_in (by omega) (by decide)) (congrArg _ (ki_cl (by omega))) dX6_weigh_83 ?_
      refine lv_iload_n hx hb dX6_weigh_84 rfl (lv_at hl 4 rfl) ?_
      refine lv_isub hx hb dX6_weigh_85 ?_
      refine lv_iadd hx hb dX6_weigh_86 ?_
      refine km_iast hx hb hK hP hD hS 6 rfl rfl (show vp_in (nI (4 * i)) 32 from ki_in (by omega) (by decide)) dX6_weigh_87 (fun H locs hP hD hS => ?_)
      rw [ki_cl (n := 4 * i) (by omega)] at hP hD
      refine lv_aload_n hx hb dX6_weigh_88 rfl (lv_at hl 1 rfl) ?_
      refine km_getr hx hb htT hown hK hP 6 (by decide) rfl (htT _ m_fl_X6_16) dX6_weigh_89 ?_
      refine lv_iload hx hb dX6_weigh_92 (lv_at hl 0 rfl) ?_
      refine lv_iload_n hx hb dX6_weigh_94 rfl (lv_at hl 3 rfl) ?_
      refine lv_iadd hx hb dX6_weigh_95 ?_
      rw [show ((nI (4 * i)) + (nI v) : Int32) = nI (4 * i + v) from (nI_add (4 * i) v).trans (congrArg nI (by omega))]
      refine lv_iload_n hx hb dX6_weigh_96 rfl (lv_at hl 4 rfl) ?_
      refine km_iast hx hb hK hP hD hS 6 rfl rfl (show vp_in (nI (4 * i + v)) 32 from ki_in (by omega) (by decide)) dX6_weigh_97 (fun H locs hP hD hS => ?_)
      rw [ki_cl (n := 4 * i + v) (by omega)] at hP hD
      refine lv_aload_n hx hb dX6_weigh_98 rfl (lv_at hl 1 rfl) ?_
      refine km_getr hx hb htT hown hK hP 6 (by decide) rfl (htT _ m_fl_X6_16) dX6_weigh_99 ?_
      refine lv_iload hx hb dX6_weigh_102 (lv_at hl 0 rfl) ?_
      refine km_ialdv (x := (upd (upd (M.2 6) (4 * i) (((M.2 6) (4 * i)) + (((M.2 6) (4 * i + v)) - p2))) (4 * i + v) p2) (4 * i)) hx hb hK hP 6 rfl rfl (show vp_in (nI (4 * i)) 32 from ki_in (by omega) (by decide)) (congrArg _ (ki_cl (by omega))) dX6_weigh_104 ?_
      exact W.iret (v := (upd (upd (M.2 6) (4 * i) (((M.2 6) (4 * i)) + (((M.2 6) (4 * i + v)) - p2))) (4 * i + v) p2) (4 * i)) hx hb hr (fun t ht hW => ⟨⟨(upd (upd (M.2 6) (4 * i) (((M.2 6) (4 * i)) + (((M.2 6) (4 * i + v)) - p2))) (4 * i + v) p2) (4 * i), mR (mR (mS M 0 0) 6 (4 * i) (((M.2 6) (4 * i)) + (((M.2 6) (4 * i + v)) - p2))) 6 (4 * i + v) p2, rfl, ⟨by simp [upd]; omega, rfl⟩, by rw [ht]; exact hP, va_K.moved hW.alike hK, hD⟩, hS.F ht⟩) hS.2.2 dX6_weigh_105
    · exact absurd (Int32.not_le.mp c_6) hw

set_option maxRecDepth 100000 in
set_option maxHeartbeats 4000000 in
theorem m_weigh_z (l : Launch) (D : va_G) (cA : Nat → ClassId) (sz : Nat) (am : Nat) (r : Nat → Nat) (M : MSt) (n i : Nat) (hi : i < n) (hn8 : n ≤ 8) (h3 : M.1 3 = nI n) (hv : kIn 0 0 (M.2 5 i - 1) = 1) (p2 : Int32) : Met l yX6_weigh (Cond.code yX6_weigh cX6_weigh 5 (some .int) :: TT) ({ frames := 3, cells := 0, slots := 0, locals := 65 }) (va_Pc [.ref am, .int (nI i), .int 0, .int p2] (kPre D cA (wM cA am r M) sz)) (va_Qi (fun (r_ : Int32) (x_ : MSt) => r_ = 0 ∧ x_ = mS (mS M 0 0) 0 2) (fun x_ => kB D cA (va_A (wM cA am r M) sz) (wM cA am r x_)) (va_A (wM cA am r M) sz)) 0 0 (va_A (wM cA am r M) sz) := by
  refine Met.ofW (cc := cX6_weigh) (maxL := 5) (ret := (some .int)) (by decide) rfl ?_
  intro p e s m args below meth c s₁ B hml hv
  obtain ⟨rfl, hsz, hP, hK, hD0, hTB⟩ := hv
  have hx := B.exec
  have hb := B.bytes
  have hr := B.returns
  have hts := atoms_spec (ws := Cond.code yX6_weigh cX6_weigh 5 (some .int) :: TT) B.pre
  have htT : ∀ w ∈ TT, w.before _ s = true := fun w h => hts w (List.mem_cons_of_mem _ h)
  have hown : s.vm.findClass RX6 = some m.cls := findClass_of_methodNamed B.named
  have hlocks := B.notSynchronized
  subst hsz
  have hD := hD0.self (sz := s.heap.size)
  generalize hAe : va_A (wM cA am r M) s.heap.size = A at hD ⊢
  have hA : ∀ q : Nat, s.heap.size ≤ q → A q := fun q h => by rw [← hAe]; exact Or.inr h
  have hS : va_S A s.heap s.heap [] := va_S.rf
  have hl := lv_entry ([.ref am, .int (nI i), .int 0, .int p2]) (n := 5) (Nat.le_of_ble_eq_true rfl)
  rw [lg_entry_eq]
  generalize (lg_sl ([.ref am, .int (nI i), .int 0, .int p2]) ++ List.replicate (5 - (lg_sl ([.ref am, .int (nI i), .int 0, .int p2])).length) Slot.unset).toArray = ls at hl ⊢
  have hl : lv_has ls 5 [(0, .ref am), (1, .int (nI i)), (2, .int 0), (3, .int p2)] := hl
  have hsw1 := kIn_sw hi hn8 h3
  refine lv_aload_n hx hb dX6_weigh_0 rfl (lv_at hl 0 rfl) ?_
  refine lv_iconst (v := 0) hx hb dX6_weigh_1 (by decide) ?_
  refine km_puti hx hb htT hown hK hP hD hS 0 (by decide) rfl (htT _ m_fl_X6_80) rfl (by decide +kernel) dX6_weigh_2 (fun H locs hP hD hS => ?_)
  refine lv_aload_n hx hb dX6_weigh_5 rfl (lv_at hl 0 rfl) ?_
  refine lv_iload_n hx hb dX6_weigh_6 rfl (lv_at hl 1 rfl) ?_
  refine lv_iload_n hx hb dX6_weigh_7 rfl (lv_at hl 2 rfl) ?_
  refine kc_i (va_runV (As := [.int (nI i), .int 0]) (rest := []) ⟨hx, hb, hml, hown, htT⟩ (m_isVariant_1 l D cA _ am r (mS M 0 0) n i hi hn8 h3 0) (cwV 2 htT (kg_V m_ml_X6_102 m_im_X6_isVariant m_sl_X6_isVariant m_in_X6 m_cd_X6_isVariant) rfl rfl rfl (by decide +kernel) ⟨Nat.le_of_ble_eq_true rfl, Nat.le_of_ble_eq_true rfl⟩) (kp_V hK hP hD hTB (km_rc hK hP)) rfl rfl hl.1 rfl (lv_room (Nat.le_of_ble_eq_true rfl)) dX6_weigh_8 ⟨Nat.le_of_ble_eq_true rfl, Nat.le_of_ble_eq_true rfl⟩) hD hS hA (fun r_1 x_1 H locs hq_1 hP hD hS => ?_)
  rw [hq_1.1.trans hv]
  rw [hq_1.2] at hP hD
  refine lv_if_ne (tgt := 20) hx hb dX6_weigh_11 (by decide) (fun _ => ?_) (fun c_2 => absurd c_2 (by decide))
  refine lv_iload_n hx hb dX6_weigh_20 rfl (lv_at hl 1 rfl) ?_
  refine lv_iconst (v := 4) hx hb dX6_weigh_21 (by decide) ?_
  refine lv_imul hx hb dX6_weigh_22 ?_
  rw [show ((nI i) * 4 : Int32) = nI (4 * i) from (pk_mul i 4).trans (congrArg nI (by omega))]
  refine lv_istore (lv' := [(4, .int (nI (4 * i))), (0, .ref am), (1, .int (nI i)), (2, .int 0), (3, .int p2)]) hx hb dX6_weigh_23 hl (by decide) rfl (fun ls hl => ?_)
  refine lv_iload_n hx hb dX6_weigh_25 rfl (lv_at hl 3 rfl) ?_
  refine lv_if_eq (tgt := 61) hx hb dX6_weigh_26 (by decide) (fun _ => ?_) (fun c_3 => absurd c_3 (by decide))
  refine lv_aload_n hx hb dX6_weigh_61 rfl (lv_at hl 1 rfl) ?_
  refine lv_iconst (v := 2) hx hb dX6_weigh_62 (by decide) ?_
  refine kc_i (va_runV (As := [.int 2]) (rest := []) ⟨hx, hb, hml, hown, htT⟩ (m_no l D cA _ am r (mS M 0 0) 2) (cwV 1 htT (kg_V m_ml_X6_95 m_im_X6_no m_sl_X6_no m_in_X6 m_cd_X6_no) rfl rfl rfl (by decide +kernel) ⟨Nat.le_of_ble_eq_true rfl, Nat.le_of_ble_eq_true rfl⟩) (kp_V hK hP hD hTB (km_rc hK hP)) rfl rfl hl.1 rfl (lv_room (Nat.le_of_ble_eq_true rfl)) dX6_weigh_63 ⟨Nat.le_of_ble_eq_true rfl, Nat.le_of_ble_eq_true rfl⟩) hD hS hA (fun r_4 x_4 H locs hq_4 hP hD hS => ?_)
  rw [hq_4.1]
  rw [hq_4.2] at hP hD
  exact W.iret (v := 0) hx hb hr (fun t ht hW => ⟨⟨0, mS (mS M 0 0) 0 2, rfl, ⟨rfl, rfl⟩, by rw [ht]; exact hP, va_K.moved hW.alike hK, hD⟩, hS.F ht⟩) hS.2.2 dX6_weigh_66

set_option maxRecDepth 100000 in
set_option maxHeartbeats 4000000 in
theorem m_weigh_1 (l : Launch) (D : va_G) (cA : Nat → ClassId) (sz : Nat) (am : Nat) (r : Nat → Nat) (M : MSt) (n i : Nat) (hi : i < n) (hn8 : n ≤ 8) (h3 : M.1 3 = nI n) (v : Nat) (hv4 : v < 4) (hv : kIn (nI v) 0 (M.2 5 i - 1) = 1) (hv0 : v ≠ 0) (p2 : Int32) (h1 : kIn p2 0 1000 = 0) : Met l yX6_weigh (Cond.code yX6_weigh cX6_weigh 5 (some .int) :: TT) ({ frames := 3, cells := 0, slots := 0, locals := 65 }) (va_Pc [.ref am, .int (nI i), .int (nI v), .int p2] (kPre D cA (wM cA am r M) sz)) (va_Qi (fun (r_ : Int32) (x_ : MSt) => r_ = 0 ∧ x_ = mS (mS M 0 0) 0 2) (fun x_ => kB D cA (va_A (wM cA am r M) sz) (wM cA am r x_)) (va_A (wM cA am r M) sz)) 0 0 (va_A (wM cA am r M) sz) := by
  refine Met.ofW (cc := cX6_weigh) (maxL := 5) (ret := (some .int)) (by decide) rfl ?_
  intro p e s m args below meth c s₁ B hml hv
  obtain ⟨rfl, hsz, hP, hK, hD0, hTB⟩ := hv
  have hx := B.exec
  have hb := B.bytes
  have hr := B.returns
  have hts := atoms_spec (ws := Cond.code yX6_weigh cX6_weigh 5 (some .int) :: TT) B.pre
  have htT : ∀ w ∈ TT, w.before _ s = true := fun w h => hts w (List.mem_cons_of_mem _ h)
  have hown : s.vm.findClass RX6 = some m.cls := findClass_of_methodNamed B.named
  have hlocks := B.notSynchronized
  subst hsz
  have hD := hD0.self (sz := s.heap.size)
  generalize hAe : va_A (wM cA am r M) s.heap.size = A at hD ⊢
  have hA : ∀ q : Nat, s.heap.size ≤ q → A q := fun q h => by rw [← hAe]; exact Or.inr h
  have hS : va_S A s.heap s.heap [] := va_S.rf
  have hl := lv_entry ([.ref am, .int (nI i), .int (nI v), .int p2]) (n := 5) (Nat.le_of_ble_eq_true rfl)
  rw [lg_entry_eq]
  generalize (lg_sl ([.ref am, .int (nI i), .int (nI v), .int p2]) ++ List.replicate (5 - (lg_sl ([.ref am, .int (nI i), .int (nI v), .int p2])).length) Slot.unset).toArray = ls at hl ⊢
  have hl : lv_has ls 5 [(0, .ref am), (1, .int (nI i)), (2, .int (nI v)), (3, .int p2)] := hl
  have hsw1 := kIn_sw hi hn8 h3
  refine lv_aload_n hx hb dX6_weigh_0 rfl (lv_at hl 0 rfl) ?_
  refine lv_iconst (v := 0) hx hb dX6_weigh_1 (by decide) ?_
  refine km_puti hx hb htT hown hK hP hD hS 0 (by decide) rfl (htT _ m_fl_X6_80) rfl (by decide +kernel) dX6_weigh_2 (fun H locs hP hD hS => ?_)
  refine lv_aload_n hx hb dX6_weigh_5 rfl (lv_at hl 0 rfl) ?_
  refine lv_iload_n hx hb dX6_weigh_6 rfl (lv_at hl 1 rfl) ?_
  refine lv_iload_n hx hb dX6_weigh_7 rfl (lv_at hl 2 rfl) ?_
  refine kc_i (va_runV (As := [.int (nI i), .int (nI v)]) (rest := []) ⟨hx, hb, hml, hown, htT⟩ (m_isVariant_1 l D cA _ am r (mS M 0 0) n i hi hn8 h3 (nI v)) (cwV 2 htT (kg_V m_ml_X6_102 m_im_X6_isVariant m_sl_X6_isVariant m_in_X6 m_cd_X6_isVariant) rfl rfl rfl (by decide +kernel) ⟨Nat.le_of_ble_eq_true rfl, Nat.le_of_ble_eq_true rfl⟩) (kp_V hK hP hD hTB (km_rc hK hP)) rfl rfl hl.1 rfl (lv_room (Nat.le_of_ble_eq_true rfl)) dX6_weigh_8 ⟨Nat.le_of_ble_eq_true rfl, Nat.le_of_ble_eq_true rfl⟩) hD hS hA (fun r_1 x_1 H locs hq_1 hP hD hS => ?_)
  rw [hq_1.1.trans hv]
  rw [hq_1.2] at hP hD
  refine lv_if_ne (tgt := 20) hx hb dX6_weigh_11 (by decide) (fun _ => ?_) (fun c_2 => absurd c_2 (by decide))
  refine lv_iload_n hx hb dX6_weigh_20 rfl (lv_at hl 1 rfl) ?_
  refine lv_iconst (v := 4) hx hb dX6_weigh_21 (by decide) ?_
  refine lv_imul hx hb dX6_weigh_22 ?_
  rw [show ((nI i) * 4 : Int32) = nI (4 * i) from (pk_mul i 4).trans (congrArg nI (by omega))]
  refine lv_istore (lv' := [(4, .int (nI (4 * i))), (0, .ref am), (1, .int (nI i)), (2, .int (nI v)), (3, .int p2)]) hx hb dX6_weigh_23 hl (by decide) rfl (fun ls hl => ?_)
  refine lv_iload_n hx hb dX6_weigh_25 rfl (lv_at hl 3 rfl) ?_
  refine lv_if_eq (tgt := 61) hx hb dX6_weigh_26 (by decide) (fun c_3 => ?_) (fun c_3 => ?_)
  · exact absurd ((nI_eq (a := v) (b := 0) (by omega) (by omega)).mp c_3) hv0
  · replace c_3 : ¬ (v = 0) := fun h9 => c_3 ((nI_eq (a := v) (b := 0) (by omega) (by omega)).mpr h9)
    refine lv_iload_n hx hb dX6_weigh_29 rfl (lv_at hl 4 rfl) ?_
    refine lv_iconst (v := 0) hx hb dX6_weigh_30 (by decide) ?_
    refine lv_sipush (v := 1000) hx hb dX6_weigh_31 (by decide) ?_
    refine kc_i (va_runS (As := [.int p2, .int 0, .int 1000]) (rest := []) ⟨hx, hb, hml, hown, htT⟩ (m_isIn l D cA _ am r (mS M 0 0) p2 0 1000) (cwS 3 htT (kg_S m_ml_X6_87 m_st_X6_isIn m_in_X6 m_cd_X6_isIn) rfl rfl rfl (by decide +kernel) ⟨Nat.le_of_ble_eq_true rfl, Nat.le_of_ble_eq_true rfl⟩) (kp_S hK hP hD hTB) rfl rfl hl.1 rfl (lv_room (Nat.le_of_ble_eq_true rfl)) dX6_weigh_34 ⟨Nat.le_of_ble_eq_true rfl, Nat.le_of_ble_eq_true rfl⟩) hD hS hA (fun r_4 x_4 H locs hq_4 hP hD hS => ?_)
    rw [hq_4.1.trans h1]
    rw [hq_4.2] at hP hD
    refine lv_if_eq (tgt := 61) hx hb dX6_weigh_37 (by decide) (fun _ => ?_) (fun c_5 => absurd c_5 (by decide))
    refine lv_aload_n hx hb dX6_weigh_61 rfl (lv_at hl 1 rfl) ?_
    refine lv_iconst (v := 2) hx hb dX6_weigh_62 (by decide) ?_
    refine kc_i (va_runV (As := [.int 2]) (rest := []) ⟨hx, hb, hml, hown, htT⟩ (m_no l D cA _ am r (mS M 0 0) 2) (cwV 1 htT (kg_V m_ml_X6_95 m_im_X6_no m_sl_X6_no m_in_X6 m_cd_X6_no) rfl rfl rfl (by decide +kernel) ⟨Nat.le_of_ble_eq_true rfl, Nat.le_of_ble_eq_true rfl⟩) (kp_V hK hP hD hTB (km_rc hK hP)) rfl rfl hl.1 rfl (lv_room (Nat.le_of_ble_eq_true rfl)) dX6_weigh_63 ⟨Nat.le_of_ble_eq_true rfl, Nat.le_of_ble_eq_true rfl⟩) hD hS hA (fun r_6 x_6 H locs hq_6 hP hD hS => ?_)
    rw [hq_6.1]
    rw [hq_6.2] at hP hD
    exact W.iret (v := 0) hx hb hr (fun t ht hW => ⟨⟨0, mS (mS M 0 0) 0 2, rfl, ⟨rfl, rfl⟩, by rw [ht]; exact hP, va_K.moved hW.alike hK, hD⟩, hS.F ht⟩) hS.2.2 dX6_weigh_66

set_option maxRecDepth 100000 in
set_option maxHeartbeats 4000000 in
theorem m_weigh_2 (l : Launch) (D : va_G) (cA : Nat → ClassId) (sz : Nat) (am : Nat) (r : Nat → Nat) (M : MSt) (n i : Nat) (hi : i < n) (hn8 : n ≤ 8) (h3 : M.1 3 = nI n) (v : Nat) (hv4 : v < 4) (hv : kIn (nI v) 0 (M.2 5 i - 1) = 1) (hv0 : v ≠ 0) (p2 : Int32) (h1 : kIn p2 0 1000 = 1) (hw : (M.2 6 (4 * i) + M.2 6 (4 * i + v) < p2)) : Met l yX6_weigh (Cond.code yX6_weigh cX6_weigh 5 (some .int) :: TT) ({ frames := 3, cells := 0, slots := 0, locals := 65 }) (va_Pc [.ref am, .int (nI i), .int (nI v), .int p2] (kPre D cA (wM cA am r M) sz)) (va_Qi (fun (r_ : Int32) (x_ : MSt) => r_ = 0 ∧ x_ = mS (mS M 0 0) 0 2) (fun x_ => kB D cA (va_A (wM cA am r M) sz) (wM cA am r x_)) (va_A (wM cA am r M) sz)) 0 0 (va_A (wM cA am r M) sz) := by
  refine Met.ofW (cc := cX6_weigh) (maxL := 5) (ret := (some .int)) (by decide) rfl ?_
  intro p e s m args below meth c s₁ B hml hv
  obtain ⟨rfl, hsz, hP, hK, hD0, hTB⟩ := hv
  have hx := B.exec
  have hb := B.bytes
  have hr := B.returns
  have hts := atoms_spec (ws := Cond.code yX6_weigh cX6_weigh 5 (some .int) :: TT) B.pre
  have htT : ∀ w ∈ TT, w.before _ s = true := fun w h => hts w (List.mem_cons_of_mem _ h)
  have hown : s.vm.findClass RX6 = some m.cls := findClass_of_methodNamed B.named
  have hlocks := B.notSynchronized
  subst hsz
  have hD := hD0.self (sz := s.heap.size)
  generalize hAe : va_A (wM cA am r M) s.heap.size = A at hD ⊢
  have hA : ∀ q : Nat, s.heap.size ≤ q → A q := fun q h => by rw [← hAe]; exact Or.inr h
  have hS : va_S A s.heap s.heap [] := va_S.rf
  have hl := lv_entry ([.ref am, .int (nI i), .int (nI v), .int p2]) (n := 5) (Nat.le_of_ble_eq_true rfl)
  rw [lg_entry_eq]
  generalize (lg_sl ([.ref am, .int (nI i), .int (nI v), .int p2]) ++ List.replicate (5 - (lg_sl ([.ref am, .int (nI i), .int (nI v), .int p2])).length) Slot.unset).toArray = ls at hl ⊢
  have hl : lv_has ls 5 [(0, .ref am), (1, .int (nI i)), (2, .int (nI v)), (3, .int p2)] := hl
  have hsw1 := kIn_sw hi hn8 h3
  refine lv_aload_n hx hb dX6_weigh_0 rfl (lv_at hl 0 rfl) ?_
  refine lv_iconst (v := 0) hx hb dX6_weigh_1 (by decide) ?_
  refine km_puti hx hb htT hown hK hP hD hS 0 (by decide) rfl (htT _ m_fl_X6_80) rfl (by decide +kernel) dX6_weigh_2 (fun H locs hP hD hS => ?_)
  refine lv_aload_n hx hb dX6_weigh_5 rfl (lv_at hl 0 rfl) ?_
  refine lv_iload_n hx hb dX6_weigh_6 rfl (lv_at hl 1 rfl) ?_
  refine lv_iload_n hx hb dX6_weigh_7 rfl (lv_at hl 2 rfl) ?_
  refine kc_i (va_runV (As := [.int (nI i), .int (nI v)]) (rest := []) ⟨hx, hb, hml, hown, htT⟩ (m_isVariant_1 l D cA _ am r (mS M 0 0) n i hi hn8 h3 (nI v)) (cwV 2 htT (kg_V m_ml_X6_102 m_im_X6_isVariant m_sl_X6_isVariant m_in_X6 m_cd_X6_isVariant) rfl rfl rfl (by decide +kernel) ⟨Nat.le_of_ble_eq_true rfl, Nat.le_of_ble_eq_true rfl⟩) (kp_V hK hP hD hTB (km_rc hK hP)) rfl rfl hl.1 rfl (lv_room (Nat.le_of_ble_eq_true rfl)) dX6_weigh_8 ⟨Nat.le_of_ble_eq_true rfl, Nat.le_of_ble_eq_true rfl⟩) hD hS hA (fun r_1 x_1 H locs hq_1 hP hD hS => ?_)
  rw [hq_1.1.trans hv]
  rw [hq_1.2] at hP hD
  refine lv_if_ne (tgt := 20) hx hb dX6_weigh_11 (by decide) (fun _ => ?_) (fun c_2 => absurd c_2 (by decide))
  refine lv_iload_n hx hb dX6_weigh_20 rfl (lv_at hl 1 rfl) ?_
  refine lv_iconst (v := 4) hx hb dX6_weigh_21 (by decide) ?_
  refine lv_imul hx hb dX6_weigh_22 ?_
  rw [show ((nI i) * 4 : Int32) = nI (4 * i) from (pk_mul i 4).trans (congrArg nI (by omega))]
  refine lv_istore (lv' := [(4, .int (nI (4 * i))), (0, .ref am), (1, .int (nI i)), (2, .int (nI v)), (3, .int p2)]) hx hb dX6_weigh_23 hl (by decide) rfl (fun ls hl => ?_)
  refine lv_iload_n hx hb dX6_weigh_25 rfl (lv_at hl 3 rfl) ?_
  refine lv_if_eq (tgt := 61) hx hb dX6_weigh_26 (by decide) (fun c_3 => ?_) (fun c_3 => ?_)
  · exact absurd ((nI_eq (a := v) (b := 0) (by omega) (by omega)).mp c_3) hv0
  · replace c_3 : ¬ (v = 0) := fun h9 => c_3 ((nI_eq (a := v) (b := 0) (by omega) (by omega)).mpr h9)
    refine lv_iload_n hx hb dX6_weigh_29 rfl (lv_at hl 4 rfl) ?_
    refine lv_iconst (v := 0) hx hb dX6_weigh_30 (by decide) ?_
    refine lv_sipush (v := 1000) hx hb dX6_weigh_31 (by decide) ?_
    refine kc_i (va_runS (As := [.int p2, .int 0, .int 1000]) (rest := []) ⟨hx, hb, hml, hown, htT⟩ (m_isIn l D cA _ am r (mS M 0 0) p2 0 1000) (cwS 3 htT (kg_S m_ml_X6_87 m_st_X6_isIn m_in_X6 m_cd_X6_isIn) rfl rfl rfl (by decide +kernel) ⟨Nat.le_of_ble_eq_true rfl, Nat.le_of_ble_eq_true rfl⟩) (kp_S hK hP hD hTB) rfl rfl hl.1 rfl (lv_room (Nat.le_of_ble_eq_true rfl)) dX6_weigh_34 ⟨Nat.le_of_ble_eq_true rfl, Nat.le_of_ble_eq_true rfl⟩) hD hS hA (fun r_4 x_4 H locs hq_4 hP hD hS => ?_)
    rw [hq_4.1.trans h1]
    rw [hq_4.2] at hP hD
    refine lv_if_eq (tgt := 61) hx hb dX6_weigh_37 (by decide) (fun c_5 => absurd c_5 (by decide)) (fun _ => ?_)
    refine lv_aload_n hx hb dX6_weigh_40 rfl (lv_at hl 1 rfl) ?_
    refine km_getr hx hb htT hown hK hP 6 (by decide) rfl (htT _ m_fl_X6_16) dX6_weigh_41 ?_
    refine lv_iload hx hb dX6_weigh_44 (lv_at hl 0 rfl) ?_
    refine km_ialdv (x := (M.2 6) (4 * i)) hx hb hK hP 6 rfl rfl (show vp_in (nI (4 * i)) 32 from ki_in (by omega) (by decide)) (congrArg _ (ki_cl (by omega))) dX6_weigh_46 ?_
    refine lv_aload_n hx hb dX6_weigh_47 rfl (lv_at hl 1 rfl) ?_
    refine km_getr hx hb htT hown hK hP 6 (by decide) rfl (htT _ m_fl_X6_16) dX6_weigh_48 ?_
    refine lv_iload hx hb dX6_weigh_51 (lv_at hl 0 rfl) ?_
    refine lv_iload_n hx hb dX6_weigh_53 rfl (lv_at hl 3 rfl) ?_
    refine lv_iadd hx hb dX6_weigh_54 ?_
    rw [show ((nI (4 * i)) + (nI v) : Int32) = nI (4 * i + v) from (nI_add (4 * i) v).trans (congrArg nI (by omega))]
    refine km_ialdv (x := (M.2 6) (4 * i + v)) hx hb hK hP 6 rfl rfl (show vp_in (nI (4 * i + v)) 32 from ki_in (by omega) (by decide)) (congrArg _ (ki_cl (by omega))) dX6_weigh_55 ?_
    refine lv_iadd hx hb dX6_weigh_56 ?_
    refine lv_iload_n hx hb dX6_weigh_57 rfl (lv_at hl 4 rfl) ?_
    refine lv_icmp_ge (tgt := 67) hx hb dX6_weigh_58 (by decide) (fun c_6 => ?_) (fun c_6 => ?_)
    · exact absurd hw (Int32.not_lt.mpr c_6)
    · replace c_6 := Int32.not_le.mp c_6
      refine lv_aload_n hx hb dX6_weigh_61 rfl (lv_at hl 1 rfl) ?_
      refine lv_iconst (v := 2) hx hb dX6_weigh_62 (by decide) ?_
      refine kc_i (va_runV (As := [.int 2]) (rest := []) ⟨hx, hb, hml, hown, htT⟩ (m_no l D cA _ am r (mS M 0 0) 2) (cwV 1 htT (kg_V m_ml_X6_95 m_im_X6_no m_sl_X6_no m_in_X6 m_cd_X6_no) rfl rfl rfl (by decide +kernel) ⟨Nat.le_of_ble_eq_true rfl, Nat.le_of_ble_eq_true rfl⟩) (kp_V hK hP hD hTB (km_rc hK hP)) rfl rfl hl.1 rfl (lv_room (Nat.le_of_ble_eq_true rfl)) dX6_weigh_63 ⟨Nat.le_of_ble_eq_true rfl, Nat.le_of_ble_eq_true rfl⟩) hD hS hA (fun r_7 x_7 H locs hq_7 hP hD hS => ?_)
      rw [hq_7.1]
      rw [hq_7.2] at hP hD
      exact W.iret (v := 0) hx hb hr (fun t ht hW => ⟨⟨0, mS (mS M 0 0) 0 2, rfl, ⟨rfl, rfl⟩, by rw [ht]; exact hP, va_K.moved hW.alike hK, hD⟩, hS.F ht⟩) hS.2.2 dX6_weigh_66

