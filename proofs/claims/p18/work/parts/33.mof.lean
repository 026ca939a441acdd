set_option maxRecDepth 100000 in
set_option maxHeartbeats 4000000 in
/-- getsOf, out of getsOf of smaller numbers -/
theorem m_getsOf_s (l : Launch) (D : va_G) (cA : Nat → ClassId) (sz : Nat) (am : Nat) (r : Nat → Nat) (n na : Nat) (ru : Nat → Nat) (d : Nat) (hO : ∀ d', d = d' + 1 → PO l D cA am r n na ru d') (i : Nat) (M : MSt) (uu : Nat) (f g : Int32) (hi : i < n) (hid : i ≤ d) (huu : uu ≤ 9999) (hok : okG M n na ru) : Met l yX6_getsOf (Cond.code yX6_getsOf cX6_getsOf 5 (some .int) :: TT) ({ frames := 2 * d + 3, cells := 0, slots := 0, locals := 120 * d + 100 }) (va_Pc [.ref am, .int (nI i), .int (nI uu), .int f, .int g] (kPre D cA (wM cA am r M) sz)) (va_Qi (fun (r_ : Int32) (x_ : MSt) => r_ = (rG M.2 (M.1 2) (M.2 11) (fun k => rFar M.2 k (M.1 1)) (nI uu) f g na ru (d + 1) i).1 ∧ x_ = mS M 28 (rG M.2 (M.1 2) (M.2 11) (fun k => rFar M.2 k (M.1 1)) (nI uu) f g na ru (d + 1) i).2) (fun x_ => kB D cA (va_A (wM cA am r M) sz) (wM cA am r x_)) (va_A (wM cA am r M) sz)) 0 0 (va_A (wM cA am r M) sz) := by
  refine Met.ofW (cc := cX6_getsOf) (maxL := 5) (ret := (some .int)) (by decide) rfl ?_
  intro p e s m args below meth c s₁ B hml hv
  obtain ⟨rfl, hsz, hP, hK, hD0, hTB⟩ := hv
  have hx := B.exec
  have hb := B.bytes
  have hr := B.returns
  have hts := atoms_spec (ws := Cond.code yX6_getsOf cX6_getsOf 5 (some .int) :: TT) B.pre
  have htT : ∀ w ∈ TT, w.before _ s = true := fun w h => hts w (List.mem_cons_of_mem _ h)
  have hown : s.vm.findClass RX6 = some m.cls := findClass_of_methodNamed B.named
  have hlocks := B.notSynchronized
  subst hsz
  have hD := hD0.self (sz := s.heap.size)
  generalize hAe : va_A (wM cA am r M) s.heap.size = A at hD ⊢
  have hA : ∀ q : Nat, s.heap.size ≤ q → A q := fun q h => by rw [← hAe]; exact Or.inr h
  have hS : va_S A s.heap s.heap [] := va_S.rf
  have hl := lv_entry ([.ref am, .int (nI i), .int (nI uu), .int f, .int g]) (n := 5) (Nat.le_of_ble_eq_true rfl)
  rw [lg_entry_eq]
  generalize (lg_sl ([.ref am, .int (nI i), .int (nI uu), .int f, .int g]) ++ List.replicate (5 - (lg_sl ([.ref am, .int (nI i), .int (nI uu), .int f, .int g])).length) Slot.unset).toArray = ls at hl ⊢
  have hl : lv_has ls 5 [(0, .ref am), (1, .int (nI i)), (2, .int (nI uu)), (3, .int f), (4, .int g)] := hl
  obtain ⟨hna, h22, hn8, h3, hsw⟩ := id hok
  refine lv_aload_n hx hb dX6_getsOf_0 rfl (lv_at hl 0 rfl) ?_
  refine lv_iload_n hx hb dX6_getsOf_1 rfl (lv_at hl 1 rfl) ?_
  refine lv_iload_n hx hb dX6_getsOf_2 rfl (lv_at hl 2 rfl) ?_
  refine lv_iload_n hx hb dX6_getsOf_3 rfl (lv_at hl 3 rfl) ?_
  refine lv_iload hx hb dX6_getsOf_4 (lv_at hl 4 rfl) ?_
  refine lv_aload_n hx hb dX6_getsOf_6 rfl (lv_at hl 0 rfl) ?_
  refine lv_iload_n hx hb dX6_getsOf_7 rfl (lv_at hl 1 rfl) ?_
  refine lv_iconst (v := 0) hx hb dX6_getsOf_8 (by decide) ?_
  refine kc_i (va_runV (As := [.int (nI i), .int 0]) (rest := [.int g, .int f, .int (nI uu), .int (nI i), .ref am]) ⟨hx, hb, hml, hown, htT⟩ (m_farIn l D cA _ am r M i (by omega) 0) (cwV 2 htT (kg_V m_ml_X6_117 m_im_X6_farIn m_sl_X6_farIn m_in_X6 m_cd_X6_farIn) rfl rfl rfl (by decide +kernel) ⟨(show 1 + 1 ≤ 2 * d + 3 by omega), (show 8 + (3 + 11) + (15) ≤ 120 * d + 100 by omega)⟩) (kp_V hK hP hD hTB (km_rc hK hP)) rfl rfl hl.1 rfl (lv_room (Nat.le_of_ble_eq_true rfl)) dX6_getsOf_9 ⟨Nat.le_of_ble_eq_true rfl, Nat.le_of_ble_eq_true rfl⟩) hD hS hA (fun r_1 x_1 H locs hq_1 hP hD hS => ?_)
  rw [hq_1.1.trans (congrArg (rFar M.2 i) (Int32.add_zero _))]
  rw [hq_1.2] at hP hD
  refine kc_i (va_runV (As := [.int (nI i), .int (nI uu), .int f, .int g, .int (rFar M.2 i (M.1 1))]) (rest := []) ⟨hx, hb, hml, hown, htT⟩ (m_getsNow_s l D cA _ am r n na ru d hO i M uu f g (rFar M.2 i (M.1 1)) hi hid huu hok) (cwV 5 htT (kg_V m_ml_X6_171 m_im_X6_getsNow m_sl_X6_getsNow m_in_X6 m_cd_X6_getsNow) rfl rfl rfl (by decide +kernel) ⟨(show 2 * d + 2 + 1 ≤ 2 * d + 3 by omega), (show 8 + (9 + 11) + (120 * d + 60) ≤ 120 * d + 100 by omega)⟩) (kp_V hK hP hD hTB (km_rc hK hP)) rfl rfl hl.1 rfl (lv_room (Nat.le_of_ble_eq_true rfl)) dX6_getsOf_12 ⟨Nat.le_of_ble_eq_true rfl, Nat.le_of_ble_eq_true rfl⟩) hD hS hA (fun r_2 x_2 H locs hq_2 hP hD hS => ?_)
  rw [hq_2.1]
  rw [hq_2.2] at hP hD
  exact W.iret (v := (rG M.2 (M.1 2) (M.2 11) (fun k => rFar M.2 k (M.1 1)) (nI uu) f g na ru (d + 1) i).1) hx hb hr (fun t ht hW => ⟨⟨(rG M.2 (M.1 2) (M.2 11) (fun k => rFar M.2 k (M.1 1)) (nI uu) f g na ru (d + 1) i).1, mS M 28 (rG M.2 (M.1 2) (M.2 11) (fun k => rFar M.2 k (M.1 1)) (nI uu) f g na ru (d + 1) i).2, rfl, ⟨rfl, rfl⟩, by rw [ht]; exact hP, va_K.moved hW.alike hK, hD⟩, hS.F ht⟩) hS.2.2 dX6_getsOf_15

theorem m_PO (l : Launch) (D : va_G) (cA : Nat → ClassId) (am : Nat) (r : Nat → Nat) (n na : Nat) (ru : Nat → Nat) : ∀ d, PO l D cA am r n na ru d := by
  intro d
  induction d with
  | zero => exact fun sz i M uu f g hi hid huu hok => m_getsOf_s l D cA sz am r n na ru 0 (fun d9 h => absurd h (by omega)) i M uu f g hi hid huu hok
  | succ d ih => exact fun sz i M uu f g hi hid huu hok => m_getsOf_s l D cA sz am r n na ru (d + 1) (fun d9 h => by cases h; exact ih) i M uu f g hi hid huu hok
