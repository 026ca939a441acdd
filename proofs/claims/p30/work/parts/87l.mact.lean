/-! the reference: act, exact -/
def rA26 (T : Rows) (u w : Int32) (c : Nat) : Nat → Int32 := fun k => if k < c ∧ T 24 k = u then T 26 k + w else T 26 k
def rA27 (T : Rows) (u : Int32) (c : Nat) : Nat → Int32 := fun k => if k < c ∧ T 24 k = u then 1 else T 27 k
def rAcN (T : Rows) (u : Int32) : Nat → Nat
  | 0 => 0
  | c + 1 => rAcN T u c + (if T 24 c = u then 1 else 0)
theorem rAcN_y {T : Rows} {u : Int32} {c : Nat} (h : T 24 c = u) : rAcN T u (c + 1) = rAcN T u c + 1 := by
  show rAcN T u c + (if T 24 c = u then 1 else 0) = _
  rw [if_pos h]
theorem rAcN_n {T : Rows} {u : Int32} {c : Nat} (h : ¬ T 24 c = u) : rAcN T u (c + 1) = rAcN T u c := by
  show rAcN T u c + (if T 24 c = u then 1 else 0) = _
  rw [if_neg h, Nat.add_zero]
theorem rAcN_le (T : Rows) (u : Int32) : ∀ c, rAcN T u c ≤ c := by
  intro c
  induction c with
  | zero => exact Nat.le_refl _
  | succ c ih =>
    by_cases h : T 24 c = u
    · rw [rAcN_y h]; omega
    · rw [rAcN_n h]; omega
theorem rA_iff {T : Rows} {u : Int32} {j k : Nat} (hk : ¬ k = j) : (k < j + 1 ∧ T 24 k = u) ↔ (k < j ∧ T 24 k = u) := ⟨fun e => ⟨by omega, e.2⟩, fun e => ⟨by omega, e.2⟩⟩
theorem rA_iffn {T : Rows} {u : Int32} {j k : Nat} (h : ¬ T 24 j = u) : (k < j + 1 ∧ T 24 k = u) ↔ (k < j ∧ T 24 k = u) := by
  by_cases hk : k = j
  · subst hk; exact ⟨fun e => absurd e.2 h, fun e => absurd e.2 h⟩
  · exact rA_iff hk
theorem rA26_0 {T : Rows} {u w : Int32} : rA26 T u w 0 = T 26 := by
  funext k
  have o : ¬ (k < 0 ∧ T 24 k = u) := fun e => absurd e.1 (Nat.not_lt_zero _)
  show (if k < 0 ∧ T 24 k = u then T 26 k + w else T 26 k) = _
  rw [if_neg o]
theorem rA27_0 {T : Rows} {u : Int32} : rA27 T u 0 = T 27 := by
  funext k
  have o : ¬ (k < 0 ∧ T 24 k = u) := fun e => absurd e.1 (Nat.not_lt_zero _)
  show (if k < 0 ∧ T 24 k = u then 1 else T 27 k) = _
  rw [if_neg o]
theorem rA26_n {T : Rows} {u w : Int32} {j : Nat} (h : ¬ T 24 j = u) : rA26 T u w (j + 1) = rA26 T u w j := by
  funext k
  show (if k < j + 1 ∧ T 24 k = u then T 26 k + w else T 26 k) = (if k < j ∧ T 24 k = u then T 26 k + w else T 26 k)
  by_cases q : k < j ∧ T 24 k = u
  · rw [if_pos q, if_pos ((rA_iffn h).mpr q)]
  · rw [if_neg q, if_neg (fun e => q ((rA_iffn h).mp e))]
theorem rA27_n {T : Rows} {u : Int32} {j : Nat} (h : ¬ T 24 j = u) : rA27 T u (j + 1) = rA27 T u j := by
  funext k
  show (if k < j + 1 ∧ T 24 k = u then 1 else T 27 k) = (if k < j ∧ T 24 k = u then 1 else T 27 k)
  by_cases q : k < j ∧ T 24 k = u
  · rw [if_pos q, if_pos ((rA_iffn h).mpr q)]
  · rw [if_neg q, if_neg (fun e => q ((rA_iffn h).mp e))]
theorem rA26_y {T : Rows} {u w : Int32} {j : Nat} (h : T 24 j = u) : upd (rA26 T u w j) j (rA26 T u w j j + w) = rA26 T u w (j + 1) := by
  funext k
  by_cases hk : k = j
  · subst hk
    have o1 : ¬ (k < k ∧ T 24 k = u) := fun e => absurd e.1 (Nat.lt_irrefl _)
    have o2 : k < k + 1 ∧ T 24 k = u := ⟨Nat.lt_succ_self _, h⟩
    show (if k = k then (if k < k ∧ T 24 k = u then T 26 k + w else T 26 k) + w else _) = (if k < k + 1 ∧ T 24 k = u then T 26 k + w else T 26 k)
    rw [if_pos rfl, if_neg o1, if_pos o2]
  · show (if k = j then _ else (if k < j ∧ T 24 k = u then T 26 k + w else T 26 k)) = (if k < j + 1 ∧ T 24 k = u then T 26 k + w else T 26 k)
    rw [if_neg hk]
    by_cases q : k < j ∧ T 24 k = u
    · rw [if_pos q, if_pos ((rA_iff hk).mpr q)]
    · rw [if_neg q, if_neg (fun e => q ((rA_iff hk).mp e))]
theorem rA27_y {T : Rows} {u : Int32} {j : Nat} (h : T 24 j = u) : upd (rA27 T u j) j 1 = rA27 T u (j + 1) := by
  funext k
  by_cases hk : k = j
  · subst hk
    have o2 : k < k + 1 ∧ T 24 k = u := ⟨Nat.lt_succ_self _, h⟩
    show (if k = k then 1 else _) = (if k < k + 1 ∧ T 24 k = u then 1 else T 27 k)
    rw [if_pos rfl, if_pos o2]
  · show (if k = j then 1 else (if k < j ∧ T 24 k = u then 1 else T 27 k)) = (if k < j + 1 ∧ T 24 k = u then 1 else T 27 k)
    rw [if_neg hk]
    by_cases q : k < j ∧ T 24 k = u
    · rw [if_pos q, if_pos ((rA_iff hk).mpr q)]
    · rw [if_neg q, if_neg (fun e => q ((rA_iff hk).mp e))]
theorem act_row {M : MSt} {F G : Nat → Int32} {j : Nat} {a b : Int32} : mR (mR (mU (mU M 26 F) 27 G) 26 j a) 27 j b = mU (mU M 26 (upd F j a)) 27 (upd G j b) := by
  refine Prod.ext rfl (funext fun q => ?_)
  show va_up (va_up (va_up (va_up M.2 26 F) 27 G) 26 (upd (va_up (va_up M.2 26 F) 27 G 26) j a)) 27 (upd (va_up (va_up (va_up M.2 26 F) 27 G) 26 (upd (va_up (va_up M.2 26 F) 27 G 26) j a) 27) j b) q = va_up (va_up M.2 26 (upd F j a)) 27 (upd G j b) q
  by_cases h7 : q = 27
  · subst h7; simp [va_up]
  · by_cases h6 : q = 26
    · subst h6; simp [va_up]
    · simp [va_up, h6, h7]
theorem act_ini {M : MSt} {u w : Int32} : mU (mU M 26 (rA26 M.2 u w 0)) 27 (rA27 M.2 u 0) = M := by
  rw [rA26_0, rA27_0]
  refine Prod.ext rfl (funext fun q => ?_)
  show va_up (va_up M.2 26 (M.2 26)) 27 (M.2 27) q = M.2 q
  by_cases h7 : q = 27
  · subst h7; simp [va_up]
  · by_cases h6 : q = 26
    · subst h6; simp [va_up]
    · simp [va_up, h6, h7]
set_option maxRecDepth 100000 in
set_option maxHeartbeats 4000000 in
theorem m_act (l : Launch) (D : va_G) (cA : Nat → ClassId) (sz : Nat) (am : Nat) (r : Nat → Nat) (M : MSt) (na : Nat) (hna : na ≤ 100) (h22 : M.1 22 = nI na) (p0 p1 : Int32) (h1 : kIn p0 0 9999 = 1) (h2 : kIn p1 0 100 = 1) : Met l yX6_act (Cond.code yX6_act cX6_act 5 (some .int) :: TT) ({ frames := 2, cells := 0, slots := 0, locals := 42 }) (va_Pc [.ref am, .int p0, .int p1] (kPre D cA (wM cA am r M) sz)) (va_Qi (fun (r_ : Int32) (x_ : MSt) => r_ = nI (rAcN M.2 p0 na) ∧ x_ = mU (mU (mS M 0 0) 26 (rA26 M.2 p0 p1 na)) 27 (rA27 M.2 p0 na)) (fun x_ => kB D cA (va_A (wM cA am r M) sz) (wM cA am r x_)) (va_A (wM cA am r M) sz)) 0 0 (va_A (wM cA am r M) sz) := by
  refine Met.ofW (cc := cX6_act) (maxL := 5) (ret := (some .int)) (by decide) rfl ?_
  intro p e s m args below meth c s₁ B hml hv
  obtain ⟨rfl, hsz, hP, hK, hD0, hTB⟩ := hv
  have hx := B.exec
  have hb := B.bytes
  have hr := B.returns
  have hts := atoms_spec (ws := Cond.code yX6_act cX6_act 5 (some .int) :: TT) B.pre
  have htT : ∀ w ∈ TT, w.before _ s = true := fun w h => hts w (List.mem_cons_of_mem _ h)
  have hown : s.vm.findClass RX6 = some m.cls := findClass_of_methodNamed B.named
  have hlocks := B.notSynchronized
  subst hsz
  have hD := hD0.self (sz := s.heap.size)
  generalize hAe : va_A (wM cA am r M) s.heap.size = A at hD ⊢
  have hA : ∀ q : Nat, s.heap.size ≤ q → A q := fun q h => by rw [← hAe]; exact Or.inr h
  have hS : va_S A s.heap s.heap [] := va_S.rf
  have hl := lv_entry ([.ref am, .int p0, .int p1]) (n := 5) (Nat.le_of_ble_eq_true rfl)
  rw [lg_entry_eq]
  generalize (lg_sl ([.ref am, .int p0, .int p1]) ++ List.replicate (5 - (lg_sl ([.ref am, .int p0, .int p1])).length) Slot.unset).toArray = ls at hl ⊢
  have hl : lv_has ls 5 [(0, .ref am), (1, .int p0), (2, .int p1)] := hl
  refine lv_aload_n hx hb dX6_act_0 rfl (lv_at hl 0 rfl) ?_
  refine lv_iconst (v := 0) hx hb dX6_act_1 (by decide) ?_
  refine km_puti hx hb htT hown hK hP hD hS 0 (by decide) rfl (htT _ m_fl_X6_80) rfl (by decide +kernel) dX6_act_2 (fun H locs hP hD hS => ?_)
  refine lv_iload_n hx hb dX6_act_5 rfl (lv_at hl 1 rfl) ?_
  refine kc_i (va_runS (As := [.int p0]) (rest := []) ⟨hx, hb, hml, hown, htT⟩ (m_isUser l D cA _ am r (mS M 0 0) p0) (cwS 1 htT (kg_S m_ml_X6_145 m_st_X6_isUser m_in_X6 m_cd_X6_isUser) rfl rfl rfl (by decide +kernel) ⟨Nat.le_of_ble_eq_true rfl, Nat.le_of_ble_eq_true rfl⟩) (kp_S hK hP hD hTB) rfl rfl hl.1 rfl (lv_room (Nat.le_of_ble_eq_true rfl)) dX6_act_6 ⟨Nat.le_of_ble_eq_true rfl, Nat.le_of_ble_eq_true rfl⟩) hD hS hA (fun r_1 x_1 H locs hq_1 hP hD hS => ?_)
  rw [hq_1.1.trans h1]
  rw [hq_1.2] at hP hD
  refine lv_if_eq (tgt := 22) hx hb dX6_act_9 (by decide) (fun c_2 => absurd c_2 (by decide)) (fun _ => ?_)
  refine lv_iload_n hx hb dX6_act_12 rfl (lv_at hl 2 rfl) ?_
  refine lv_iconst (v := 0) hx hb dX6_act_13 (by decide) ?_
  refine lv_bipush (v := 100) hx hb dX6_act_14 (by decide) ?_
  refine kc_i (va_runS (As := [.int p1, .int 0, .int 100]) (rest := []) ⟨hx, hb, hml, hown, htT⟩ (m_isIn l D cA _ am r (mS M 0 0) p1 0 100) (cwS 3 htT (kg_S m_ml_X6_87 m_st_X6_isIn m_in_X6 m_cd_X6_isIn) rfl rfl rfl (by decide +kernel) ⟨Nat.le_of_ble_eq_true rfl, Nat.le_of_ble_eq_true rfl⟩) (kp_S hK hP hD hTB) rfl rfl hl.1 rfl (lv_room (Nat.le_of_ble_eq_true rfl)) dX6_act_16 ⟨Nat.le_of_ble_eq_true rfl, Nat.le_of_ble_eq_true rfl⟩) hD hS hA (fun r_3 x_3 H locs hq_3 hP hD hS => ?_)
  rw [hq_3.1.trans h2]
  rw [hq_3.2] at hP hD
  refine lv_if_ne (tgt := 28) hx hb dX6_act_19 (by decide) (fun _ => ?_) (fun c_4 => absurd c_4 (by decide))
  refine lv_iconst (v := 0) hx hb dX6_act_28 (by decide) ?_
  refine lv_istore_n (lv' := [(3, .int 0), (0, .ref am), (1, .int p0), (2, .int p1)]) hx hb dX6_act_29 rfl hl (by decide) rfl (fun ls hl => ?_)
  refine lv_iconst (v := 0) hx hb dX6_act_30 (by decide) ?_
  refine lv_istore (lv' := [(4, .int 0), (3, .int 0), (0, .ref am), (1, .int p0), (2, .int p1)]) hx hb dX6_act_31 hl (by decide) rfl (fun ls hl => ?_)
  have hP : va_P D vwCl (wM cA am r (mU (mU (mS M 0 0) 26 (rA26 M.2 p0 p1 0)) 27 (rA27 M.2 p0 0))) H := by rw [show mU (mU (mS M 0 0) 26 (rA26 M.2 p0 p1 0)) 27 (rA27 M.2 p0 0) = mS M 0 0 from act_ini (M := mS M 0 0)]; exact hP
  have hD : va_D A (wM cA am r (mU (mU (mS M 0 0) 26 (rA26 M.2 p0 p1 0)) 27 (rA27 M.2 p0 0))) := by rw [show mU (mU (mS M 0 0) 26 (rA26 M.2 p0 p1 0)) 27 (rA27 M.2 p0 0) = mS M 0 0 from act_ini (M := mS M 0 0)]; exact hD
  refine kz_loop 33 (fun N9 H locs ls => ∃ (j : Nat) (acc : Int32), N9 = na - j ∧ j ≤ na ∧ acc = nI (rAcN M.2 p0 j) ∧ va_P D vwCl (wM cA am r (mU (mU (mS M 0 0) 26 (rA26 M.2 p0 p1 j)) 27 (rA27 M.2 p0 j))) H ∧ va_D A (wM cA am r (mU (mU (mS M 0 0) 26 (rA26 M.2 p0 p1 j)) 27 (rA27 M.2 p0 j))) ∧ va_S A s.heap H locs ∧ lv_has ls 5 [(4, .int (nI j)), (3, .int acc), (2, .int p1), (1, .int p0), (0, .ref am)]) (fun N9 ih_33 H locs ls hI => ?_) ⟨0, 0, rfl, by omega, rfl, hP, hD, hS, lv_sub hl [0, 1, 4, 3, 2] rfl⟩
  obtain ⟨j, acc, hn9, hj, hA9, hP, hD, hS, hl⟩ := hI
  refine lv_iload hx hb dX6_act_33 (lv_at hl 0 rfl) ?_
  refine lv_aload_n hx hb dX6_act_35 rfl (lv_at hl 4 rfl) ?_
  refine km_getiv (x := nI na) hx hb htT hown hK hP 22 (by decide) rfl (htT _ m_fl_X6_151) h22 dX6_act_36 ?_
  refine lv_icmp_ge (tgt := 84) hx hb dX6_act_39 (by decide) (fun c_5 => ?_) (fun c_5 => ?_)
  · replace c_5 := (nI_leI (a := na) (b := j) (by omega) (by omega)).mp c_5
    refine lv_iload_n hx hb dX6_act_84 rfl (lv_at hl 1 rfl) ?_
    exact W.iret (v := acc) hx hb hr (fun t ht hW => ⟨⟨acc, mU (mU (mS M 0 0) 26 (rA26 M.2 p0 p1 j)) 27 (rA27 M.2 p0 j), rfl, ⟨by rw [hA9, show j = na by omega], by rw [show j = na by omega]⟩, by rw [ht]; exact hP, va_K.moved hW.alike hK, hD⟩, hS.F ht⟩) hS.2.2 dX6_act_85
  · replace c_5 : ¬ (na ≤ j) := fun h9 => c_5 ((nI_leI (a := na) (b := j) (by omega) (by omega)).mpr h9)
    refine lv_aload_n hx hb dX6_act_42 rfl (lv_at hl 4 rfl) ?_
    refine km_getr hx hb htT hown hK hP 24 (by decide) rfl (htT _ m_fl_X6_68) dX6_act_43 ?_
    refine lv_iload hx hb dX6_act_46 (lv_at hl 0 rfl) ?_
    refine km_ialdv (x := (M.2 24) j) hx hb hK hP 24 rfl rfl (show vp_in (nI (j)) 100 from ki_in (by omega) (by decide)) (congrArg _ (ki_cl (by omega))) dX6_act_48 ?_
    refine lv_iload_n hx hb dX6_act_49 rfl (lv_at hl 3 rfl) ?_
    refine lv_icmp_eq (tgt := 56) hx hb dX6_act_50 (by decide) (fun c_6 => ?_) (fun c_6 => ?_)
    · refine lv_aload_n hx hb dX6_act_56 rfl (lv_at hl 4 rfl) ?_
      refine km_getr hx hb htT hown hK hP 26 (by decide) rfl (htT _ m_fl_X6_74) dX6_act_57 ?_
      refine lv_iload hx hb dX6_act_60 (lv_at hl 0 rfl) ?_
      refine lv_dup2_11 hx hb dX6_act_62 rfl rfl ?_
      refine km_ialdv (x := (rA26 M.2 p0 p1 j) j) hx hb hK hP 26 rfl rfl (show vp_in (nI (j)) 100 from ki_in (by omega) (by decide)) (congrArg _ (ki_cl (by omega))) dX6_act_63 ?_
      refine lv_iload_n hx hb dX6_act_64 rfl (lv_at hl 2 rfl) ?_
      refine lv_iadd hx hb dX6_act_65 ?_
      refine km_iast hx hb hK hP hD hS 26 rfl rfl (show vp_in (nI (j)) 100 from ki_in (by omega) (by decide)) dX6_act_66 (fun H locs hP hD hS => ?_)
      rw [ki_cl (n := j) (by omega)] at hP hD
      refine lv_aload_n hx hb dX6_act_67 rfl (lv_at hl 4 rfl) ?_
      refine km_getr hx hb htT hown hK hP 27 (by decide) rfl (htT _ m_fl_X6_77) dX6_act_68 ?_
      refine lv_iload hx hb dX6_act_71 (lv_at hl 0 rfl) ?_
      refine lv_iconst (v := 1) hx hb dX6_act_73 (by decide) ?_
      refine km_zast hx hb hK hP hD hS 27 rfl rfl (Or.inr rfl) (show vp_in (nI (j)) 100 from ki_in (by omega) (by decide)) dX6_act_74 (fun H locs hP hD hS => ?_)
      rw [ki_cl (n := j) (by omega)] at hP hD
      obtain ⟨i_7, ei_7⟩ : ∃ y : Int32, y = acc + 1 := ⟨_, rfl⟩
      refine lv_iinc (v := i_7) (lv' := [(3, .int i_7), (4, .int (nI j)), (2, .int p1), (1, .int p0), (0, .ref am)]) hx hb dX6_act_75 hl (k := 1) rfl (by rw [ei_7]; rfl) (by decide) rfl (fun ls hl => ?_)
      refine lv_iinc (v := nI (j + 1)) (lv' := [(4, .int (nI (j + 1))), (3, .int i_7), (2, .int p1), (1, .int p0), (0, .ref am)]) hx hb dX6_act_78 hl (k := 1) rfl (nI_1 _) (by decide) rfl (fun ls hl => ?_)
      refine lv_goto (tgt := 33) hx hb dX6_act_81 (by decide) ?_
      have hl := lv_sub hl [0, 1, 2, 3, 4] rfl
      rw [show mR (mR (mU (mU (mS M 0 0) 26 (rA26 M.2 p0 p1 j)) 27 (rA27 M.2 p0 j)) 26 j (((rA26 M.2 p0 p1 j) j) + p1)) 27 j 1 = mU (mU (mS M 0 0) 26 (rA26 M.2 p0 p1 (j + 1))) 27 (rA27 M.2 p0 (j + 1)) from act_row.trans (by rw [rA26_y c_6, rA27_y c_6])] at hP hD
      exact ih_33 _ (by omega) H locs ls ⟨j + 1, _, rfl, by omega, by rw [ei_7, hA9, rAcN_y c_6]; exact nI_add _ 1, hP, hD, hS, hl⟩
    · refine lv_goto (tgt := 78) hx hb dX6_act_53 (by decide) ?_
      refine lv_iinc (v := nI (j + 1)) (lv' := [(4, .int (nI (j + 1))), (3, .int acc), (2, .int p1), (1, .int p0), (0, .ref am)]) hx hb dX6_act_78 hl (k := 0) rfl (nI_1 _) (by decide) rfl (fun ls hl => ?_)
      refine lv_goto (tgt := 33) hx hb dX6_act_81 (by decide) ?_
      have hl := lv_sub hl [0, 1, 2, 3, 4] rfl
      rw [← rA26_n (w := p1) c_6, ← rA27_n c_6] at hP hD
      exact ih_33 _ (by omega) H locs ls ⟨j + 1, _, rfl, by omega, by rw [rAcN_n c_6]; exact hA9, hP, hD, hS, hl⟩

