/-! users counted: the reference -/
/-- what the user number u gets of the switch i, and why -/
def rBy (M : MSt) (na : Nat) (ru : Nat → Nat) (i u : Nat) : Int32 × Int32 := rG M.2 (M.1 2) (M.2 11) (fun k => rFar M.2 k (M.1 1)) (nI u) (nI u - nI u / 10 * 10) (nI u / 10 - nI u / 10 / 10 * 10) na ru 8 i
def rCnt (f : Nat → Int32) : Nat → Nat → Int32 → Int32
  | 0, _, acc => acc
  | c + 1, k, acc => rCnt f c (k + 1) (acc + f k)
def rAll (f : Nat → Int32) : Nat → Nat → Int32 → Int32
  | 0, _, acc => acc
  | c + 1, k, acc => rAll f c (k + 1) (acc * 4 + f k)
theorem rBy_s {M : MSt} {na : Nat} {ru : Nat → Nat} {i u : Nat} {ρ : Int32} : rBy (mS M 28 ρ) na ru i u = rBy M na ru i u := rfl
set_option maxRecDepth 100000 in
set_option maxHeartbeats 4000000 in
/-- what a counted user gets -/
theorem m_getsBy (l : Launch) (D : va_G) (cA : Nat → ClassId) (sz : Nat) (am : Nat) (r : Nat → Nat) (M : MSt) (n na : Nat) (ru : Nat → Nat) (hok : okG M n na ru) (i : Nat) (hi : i < n) (uu : Nat) (huu : uu ≤ 9999) : Met l yX6_getsBy (Cond.code yX6_getsBy cX6_getsBy 3 (some .int) :: TT) ({ frames := 18, cells := 0, slots := 0, locals := 964 }) (va_Pc [.ref am, .int (nI i), .int (nI uu)] (kPre D cA (wM cA am r M) sz)) (va_Qi (fun (r_ : Int32) (x_ : MSt) => r_ = (rBy M na ru i uu).1 ∧ x_ = mS M 28 (rBy M na ru i uu).2) (fun x_ => kB D cA (va_A (wM cA am r M) sz) (wM cA am r x_)) (va_A (wM cA am r M) sz)) 0 0 (va_A (wM cA am r M) sz) := by
  refine Met.ofW (cc := cX6_getsBy) (maxL := 3) (ret := (some .int)) (by decide) rfl ?_
  intro p e s m args below meth c s₁ B hml hv
  obtain ⟨rfl, hsz, hP, hK, hD0, hTB⟩ := hv
  have hx := B.exec
  have hb := B.bytes
  have hr := B.returns
  have hts := atoms_spec (ws := Cond.code yX6_getsBy cX6_getsBy 3 (some .int) :: TT) B.pre
  have htT : ∀ w ∈ TT, w.before _ s = true := fun w h => hts w (List.mem_cons_of_mem _ h)
  have hown : s.vm.findClass RX6 = some m.cls := findClass_of_methodNamed B.named
  have hlocks := B.notSynchronized
  subst hsz
  have hD := hD0.self (sz := s.heap.size)
  generalize hAe : va_A (wM cA am r M) s.heap.size = A at hD ⊢
  have hA : ∀ q : Nat, s.heap.size ≤ q → A q := fun q h => by rw [← hAe]; exact Or.inr h
  have hS : va_S A s.heap s.heap [] := va_S.rf
  have hl := lv_entry ([.ref am, .int (nI i), .int (nI uu)]) (n := 3) (Nat.le_of_ble_eq_true rfl)
  rw [lg_entry_eq]
  generalize (lg_sl ([.ref am, .int (nI i), .int (nI uu)]) ++ List.replicate (3 - (lg_sl ([.ref am, .int (nI i), .int (nI uu)])).length) Slot.unset).toArray = ls at hl ⊢
  have hl : lv_has ls 3 [(0, .ref am), (1, .int (nI i)), (2, .int (nI uu))] := hl
  refine lv_aload_n hx hb dX6_getsBy_0 rfl (lv_at hl 0 rfl) ?_
  refine lv_iload_n hx hb dX6_getsBy_1 rfl (lv_at hl 1 rfl) ?_
  refine lv_iload_n hx hb dX6_getsBy_2 rfl (lv_at hl 2 rfl) ?_
  refine lv_iload_n hx hb dX6_getsBy_3 rfl (lv_at hl 2 rfl) ?_
  refine lv_bipush (v := 10) hx hb dX6_getsBy_4 (by decide) ?_
  refine lv_irem hx hb dX6_getsBy_6 (by decide) ?_
  refine lv_iload_n hx hb dX6_getsBy_7 rfl (lv_at hl 2 rfl) ?_
  refine lv_bipush (v := 10) hx hb dX6_getsBy_8 (by decide) ?_
  refine lv_idiv hx hb dX6_getsBy_10 (by decide) ?_
  refine lv_bipush (v := 10) hx hb dX6_getsBy_11 (by decide) ?_
  refine lv_irem hx hb dX6_getsBy_13 (by decide) ?_
  refine kc_i (va_runV (As := [.int (nI i), .int (nI uu), .int ((nI uu) - (nI uu) / 10 * 10), .int (((nI uu) / 10) - ((nI uu) / 10) / 10 * 10)]) (rest := []) ⟨hx, hb, hml, hown, htT⟩ (m_PO l D cA am r n na ru 7 _ i M uu ((nI uu) - (nI uu) / 10 * 10) (((nI uu) / 10) - ((nI uu) / 10) / 10 * 10) hi (by have := hok.2.2.1; omega) huu hok) (cwV 4 htT (kg_V m_ml_X6_154 m_im_X6_getsOf m_sl_X6_getsOf m_in_X6 m_cd_X6_getsOf) rfl rfl rfl (by decide +kernel) ⟨Nat.le_of_ble_eq_true rfl, Nat.le_of_ble_eq_true rfl⟩) (kp_V hK hP hD hTB (km_rc hK hP)) rfl rfl hl.1 rfl (lv_room (Nat.le_of_ble_eq_true rfl)) dX6_getsBy_14 ⟨Nat.le_of_ble_eq_true rfl, Nat.le_of_ble_eq_true rfl⟩) hD hS hA (fun r_1 x_1 H locs hq_1 hP hD hS => ?_)
  rw [show r_1 = (rBy M na ru i uu).1 from hq_1.1]
  rw [show x_1 = mS M 28 (rBy M na ru i uu).2 from hq_1.2] at hP hD
  exact W.iret (v := (rBy M na ru i uu).1) hx hb hr (fun t ht hW => ⟨⟨(rBy M na ru i uu).1, mS M 28 (rBy M na ru i uu).2, rfl, ⟨rfl, rfl⟩, by rw [ht]; exact hP, va_K.moved hW.alike hK, hD⟩, hS.F ht⟩) hS.2.2 dX6_getsBy_17

set_option maxRecDepth 100000 in
set_option maxHeartbeats 4000000 in
/-- how many get a variant -/
theorem m_reachNow (l : Launch) (D : va_G) (cA : Nat → ClassId) (sz : Nat) (am : Nat) (r : Nat → Nat) (M : MSt) (n na : Nat) (ru : Nat → Nat) (hok : okG M n na ru) (i : Nat) (hi : i < n) (va : Int32) (mm : Nat) (hmm : mm ≤ 200) : Met l yX6_reachNow (Cond.code yX6_reachNow cX6_reachNow 6 (some .int) :: TT) ({ frames := 19, cells := 0, slots := 0, locals := 986 }) (va_Pc [.ref am, .int (nI i), .int va, .int (nI mm)] (kPre D cA (wM cA am r M) sz)) (va_Qi (fun (r_ : Int32) (x_ : MSt) => r_ = rCnt (fun u => if (rBy M na ru i u).1 = va then 1 else 0) mm 0 0 ∧ ∃ ρ, x_ = mS M 28 ρ) (fun x_ => kB D cA (va_A (wM cA am r M) sz) (wM cA am r x_)) (va_A (wM cA am r M) sz)) 0 0 (va_A (wM cA am r M) sz) := by
  refine Met.ofW (cc := cX6_reachNow) (maxL := 6) (ret := (some .int)) (by decide) rfl ?_
  intro p e s m args below meth c s₁ B hml hv
  obtain ⟨rfl, hsz, hP, hK, hD0, hTB⟩ := hv
  have hx := B.exec
  have hb := B.bytes
  have hr := B.returns
  have hts := atoms_spec (ws := Cond.code yX6_reachNow cX6_reachNow 6 (some .int) :: TT) B.pre
  have htT : ∀ w ∈ TT, w.before _ s = true := fun w h => hts w (List.mem_cons_of_mem _ h)
  have hown : s.vm.findClass RX6 = some m.cls := findClass_of_methodNamed B.named
  have hlocks := B.notSynchronized
  subst hsz
  have hD := hD0.self (sz := s.heap.size)
  generalize hAe : va_A (wM cA am r M) s.heap.size = A at hD ⊢
  have hA : ∀ q : Nat, s.heap.size ≤ q → A q := fun q h => by rw [← hAe]; exact Or.inr h
  have hS : va_S A s.heap s.heap [] := va_S.rf
  have hl := lv_entry ([.ref am, .int (nI i), .int va, .int (nI mm)]) (n := 6) (Nat.le_of_ble_eq_true rfl)
  rw [lg_entry_eq]
  generalize (lg_sl ([.ref am, .int (nI i), .int va, .int (nI mm)]) ++ List.replicate (6 - (lg_sl ([.ref am, .int (nI i), .int va, .int (nI mm)])).length) Slot.unset).toArray = ls at hl ⊢
  have hl : lv_has ls 6 [(0, .ref am), (1, .int (nI i)), (2, .int va), (3, .int (nI mm))] := hl
  refine lv_iconst (v := 0) hx hb dX6_reachNow_0 (by decide) ?_
  refine lv_istore (lv' := [(4, .int 0), (0, .ref am), (1, .int (nI i)), (2, .int va), (3, .int (nI mm))]) hx hb dX6_reachNow_1 hl (by decide) rfl (fun ls hl => ?_)
  refine lv_iconst (v := 0) hx hb dX6_reachNow_3 (by decide) ?_
  refine lv_istore (lv' := [(5, .int 0), (4, .int 0), (0, .ref am), (1, .int (nI i)), (2, .int va), (3, .int (nI mm))]) hx hb dX6_reachNow_4 hl (by decide) rfl (fun ls hl => ?_)
  rw [← mS_id (M := M) (k := 28)] at hP hD
  refine kz_loop 6 (fun N9 H locs ls => ∃ (j : Nat) (acc : Int32) (ρ : Int32), N9 = mm - j ∧ j ≤ mm ∧ rCnt (fun u => if (rBy M na ru i u).1 = va then 1 else 0) mm 0 0 = rCnt (fun u => if (rBy M na ru i u).1 = va then 1 else 0) (mm - j) j acc ∧ va_P D vwCl (wM cA am r (mS M 28 ρ)) H ∧ va_D A (wM cA am r (mS M 28 ρ)) ∧ va_S A s.heap H locs ∧ lv_has ls 6 [(5, .int (nI j)), (4, .int acc), (3, .int (nI mm)), (2, .int va), (1, .int (nI i)), (0, .ref am)]) (fun N9 ih_6 H locs ls hI => ?_) ⟨0, 0, (M.1 28), rfl, by omega, rfl, hP, hD, hS, lv_sub hl [0, 1, 5, 4, 3, 2] rfl⟩
  obtain ⟨j, acc, ρ, hn9, hj, hF, hP, hD, hS, hl⟩ := hI
  refine lv_iload hx hb dX6_reachNow_6 (lv_at hl 0 rfl) ?_
  refine lv_iload_n hx hb dX6_reachNow_8 rfl (lv_at hl 2 rfl) ?_
  refine lv_icmp_ge (tgt := 39) hx hb dX6_reachNow_9 (by decide) (fun c_1 => ?_) (fun c_1 => ?_)
  · replace c_1 := (nI_leI (a := mm) (b := j) (by omega) (by omega)).mp c_1
    refine lv_iload hx hb dX6_reachNow_39 (lv_at hl 1 rfl) ?_
    exact W.iret (v := acc) hx hb hr (fun t ht hW => ⟨⟨acc, mS M 28 ρ, rfl, ⟨by rw [hF, show mm - j = 0 by omega]; rfl, _, rfl⟩, by rw [ht]; exact hP, va_K.moved hW.alike hK, hD⟩, hS.F ht⟩) hS.2.2 dX6_reachNow_41
  · replace c_1 : ¬ (mm ≤ j) := fun h9 => c_1 ((nI_leI (a := mm) (b := j) (by omega) (by omega)).mpr h9)
    refine lv_iload hx hb dX6_reachNow_12 (lv_at hl 1 rfl) ?_
    refine lv_aload_n hx hb dX6_reachNow_14 rfl (lv_at hl 5 rfl) ?_
    refine lv_iload_n hx hb dX6_reachNow_15 rfl (lv_at hl 4 rfl) ?_
    refine lv_iload hx hb dX6_reachNow_16 (lv_at hl 0 rfl) ?_
    refine kc_i (va_runV (As := [.int (nI i), .int (nI j)]) (rest := [.int acc]) ⟨hx, hb, hml, hown, htT⟩ (m_getsBy l D cA _ am r (mS M 28 ρ) n na ru hok i hi j (by omega)) (cwV 2 htT (kg_V m_ml_X6_203 m_im_X6_getsBy m_sl_X6_getsBy m_in_X6 m_cd_X6_getsBy) rfl rfl rfl (by decide +kernel) ⟨Nat.le_of_ble_eq_true rfl, Nat.le_of_ble_eq_true rfl⟩) (kp_V hK hP hD hTB (km_rc hK hP)) rfl rfl hl.1 rfl (lv_room (Nat.le_of_ble_eq_true rfl)) dX6_reachNow_18 ⟨Nat.le_of_ble_eq_true rfl, Nat.le_of_ble_eq_true rfl⟩) hD hS hA (fun r_2 x_2 H locs hq_2 hP hD hS => ?_)
    rw [show r_2 = (rBy M na ru i j).1 from hq_2.1]
    rw [show x_2 = mS M 28 (rBy M na ru i j).2 from hq_2.2.trans mS_s] at hP hD
    refine lv_iload_n hx hb dX6_reachNow_21 rfl (lv_at hl 3 rfl) ?_
    refine lv_icmp_ne (tgt := 29) hx hb dX6_reachNow_22 (by decide) (fun c_3 => ?_) (fun c_3 => ?_)
    · refine lv_iconst (v := 0) hx hb dX6_reachNow_29 (by decide) ?_
      refine lv_iadd hx hb dX6_reachNow_30 ?_
      refine lv_istore (lv' := [(4, .int (acc + 0)), (5, .int (nI j)), (3, .int (nI mm)), (2, .int va), (1, .int (nI i)), (0, .ref am)]) hx hb dX6_reachNow_31 hl (by decide) rfl (fun ls hl => ?_)
      refine lv_iinc (v := nI (j + 1)) (lv' := [(5, .int (nI (j + 1))), (4, .int (acc + 0)), (3, .int (nI mm)), (2, .int va), (1, .int (nI i)), (0, .ref am)]) hx hb dX6_reachNow_33 hl (k := 1) rfl (nI_1 _) (by decide) rfl (fun ls hl => ?_)
      refine lv_goto (tgt := 6) hx hb dX6_reachNow_36 (by decide) ?_
      have hl := lv_sub hl [0, 1, 2, 3, 4, 5] rfl
      exact ih_6 _ (by omega) H locs ls ⟨j + 1, _, _, rfl, by omega, by rw [hF, show mm - j = (mm - (j + 1)) + 1 by omega]; simp [rCnt, c_3], hP, hD, hS, hl⟩
    · refine lv_iconst (v := 1) hx hb dX6_reachNow_25 (by decide) ?_
      refine lv_goto (tgt := 30) hx hb dX6_reachNow_26 (by decide) ?_
      refine lv_iadd hx hb dX6_reachNow_30 ?_
      refine lv_istore (lv' := [(4, .int (acc + 1)), (5, .int (nI j)), (3, .int (nI mm)), (2, .int va), (1, .int (nI i)), (0, .ref am)]) hx hb dX6_reachNow_31 hl (by decide) rfl (fun ls hl => ?_)
      refine lv_iinc (v := nI (j + 1)) (lv' := [(5, .int (nI (j + 1))), (4, .int (acc + 1)), (3, .int (nI mm)), (2, .int va), (1, .int (nI i)), (0, .ref am)]) hx hb dX6_reachNow_33 hl (k := 1) rfl (nI_1 _) (by decide) rfl (fun ls hl => ?_)
      refine lv_goto (tgt := 6) hx hb dX6_reachNow_36 (by decide) ?_
      have hl := lv_sub hl [0, 1, 2, 3, 4, 5] rfl
      exact ih_6 _ (by omega) H locs ls ⟨j + 1, _, _, rfl, by omega, by rw [hF, show mm - j = (mm - (j + 1)) + 1 by omega]; simp [rCnt, c_3], hP, hD, hS, hl⟩

set_option maxRecDepth 100000 in
set_option maxHeartbeats 4000000 in
/-- what a user gets of all -/
theorem m_all (l : Launch) (D : va_G) (cA : Nat → ClassId) (sz : Nat) (am : Nat) (r : Nat → Nat) (M : MSt) (n na : Nat) (ru : Nat → Nat) (hok : okG M n na ru) (uu : Nat) (huu : uu ≤ 9999) : Met l yX6_all (Cond.code yX6_all cX6_all 4 (some .int) :: TT) ({ frames := 19, cells := 0, slots := 0, locals := 986 }) (va_Pc [.ref am, .int (nI uu)] (kPre D cA (wM cA am r M) sz)) (va_Qi (fun (r_ : Int32) (x_ : MSt) => r_ = rAll (fun k => (rBy M na ru k uu).1) n 0 0 ∧ ∃ ρ, x_ = mS M 28 ρ) (fun x_ => kB D cA (va_A (wM cA am r M) sz) (wM cA am r x_)) (va_A (wM cA am r M) sz)) 0 0 (va_A (wM cA am r M) sz) := by
  refine Met.ofW (cc := cX6_all) (maxL := 4) (ret := (some .int)) (by decide) rfl ?_
  intro p e s m args below meth c s₁ B hml hv
  obtain ⟨rfl, hsz, hP, hK, hD0, hTB⟩ := hv
  have hx := B.exec
  have hb := B.bytes
  have hr := B.returns
  have hts := atoms_spec (ws := Cond.code yX6_all cX6_all 4 (some .int) :: TT) B.pre
  have htT : ∀ w ∈ TT, w.before _ s = true := fun w h => hts w (List.mem_cons_of_mem _ h)
  have hown : s.vm.findClass RX6 = some m.cls := findClass_of_methodNamed B.named
  have hlocks := B.notSynchronized
  subst hsz
  have hD := hD0.self (sz := s.heap.size)
  generalize hAe : va_A (wM cA am r M) s.heap.size = A at hD ⊢
  have hA : ∀ q : Nat, s.heap.size ≤ q → A q := fun q h => by rw [← hAe]; exact Or.inr h
  have hS : va_S A s.heap s.heap [] := va_S.rf
  have hl := lv_entry ([.ref am, .int (nI uu)]) (n := 4) (Nat.le_of_ble_eq_true rfl)
  rw [lg_entry_eq]
  generalize (lg_sl ([.ref am, .int (nI uu)]) ++ List.replicate (4 - (lg_sl ([.ref am, .int (nI uu)])).length) Slot.unset).toArray = ls at hl ⊢
  have hl : lv_has ls 4 [(0, .ref am), (1, .int (nI uu))] := hl
  have hn8 := hok.2.2.1
  refine lv_iconst (v := 0) hx hb dX6_all_0 (by decide) ?_
  refine lv_istore_n (lv' := [(2, .int 0), (0, .ref am), (1, .int (nI uu))]) hx hb dX6_all_1 rfl hl (by decide) rfl (fun ls hl => ?_)
  refine lv_iconst (v := 0) hx hb dX6_all_2 (by decide) ?_
  refine lv_istore_n (lv' := [(3, .int 0), (2, .int 0), (0, .ref am), (1, .int (nI uu))]) hx hb dX6_all_3 rfl hl (by decide) rfl (fun ls hl => ?_)
  rw [← mS_id (M := M) (k := 28)] at hP hD
  refine kz_loop 4 (fun N9 H locs ls => ∃ (j : Nat) (acc : Int32) (ρ : Int32), N9 = n - j ∧ j ≤ n ∧ rAll (fun k => (rBy M na ru k uu).1) n 0 0 = rAll (fun k => (rBy M na ru k uu).1) (n - j) j acc ∧ va_P D vwCl (wM cA am r (mS M 28 ρ)) H ∧ va_D A (wM cA am r (mS M 28 ρ)) ∧ va_S A s.heap H locs ∧ lv_has ls 4 [(3, .int (nI j)), (2, .int acc), (1, .int (nI uu)), (0, .ref am)]) (fun N9 ih_4 H locs ls hI => ?_) ⟨0, 0, (M.1 28), rfl, by omega, rfl, hP, hD, hS, lv_sub hl [0, 1, 3, 2] rfl⟩
  obtain ⟨j, acc, ρ, hn9, hj, hF, hP, hD, hS, hl⟩ := hI
  refine lv_iload_n hx hb dX6_all_4 rfl (lv_at hl 0 rfl) ?_
  refine lv_aload_n hx hb dX6_all_5 rfl (lv_at hl 3 rfl) ?_
  refine km_getiv (x := nI n) hx hb htT hown hK hP 3 (by decide) rfl (htT _ m_fl_X6_84) hok.2.2.2.1 dX6_all_6 ?_
  refine lv_icmp_ge (tgt := 29) hx hb dX6_all_9 (by decide) (fun c_1 => ?_) (fun c_1 => ?_)
  · replace c_1 := (nI_leI (a := n) (b := j) (by omega) (by omega)).mp c_1
    refine lv_iload_n hx hb dX6_all_29 rfl (lv_at hl 1 rfl) ?_
    exact W.iret (v := acc) hx hb hr (fun t ht hW => ⟨⟨acc, mS M 28 ρ, rfl, ⟨by rw [hF, show n - j = 0 by omega]; rfl, _, rfl⟩, by rw [ht]; exact hP, va_K.moved hW.alike hK, hD⟩, hS.F ht⟩) hS.2.2 dX6_all_30
  · replace c_1 : ¬ (n ≤ j) := fun h9 => c_1 ((nI_leI (a := n) (b := j) (by omega) (by omega)).mpr h9)
    refine lv_iload_n hx hb dX6_all_12 rfl (lv_at hl 1 rfl) ?_
    refine lv_iconst (v := 4) hx hb dX6_all_13 (by decide) ?_
    refine lv_imul hx hb dX6_all_14 ?_
    refine lv_aload_n hx hb dX6_all_15 rfl (lv_at hl 3 rfl) ?_
    refine lv_iload_n hx hb dX6_all_16 rfl (lv_at hl 0 rfl) ?_
    refine lv_iload_n hx hb dX6_all_17 rfl (lv_at hl 2 rfl) ?_
    refine kc_i (va_runV (As := [.int (nI j), .int (nI uu)]) (rest := [.int (acc * 4)]) ⟨hx, hb, hml, hown, htT⟩ (m_getsBy l D cA _ am r (mS M 28 ρ) n na ru hok j (by omega) uu (by omega)) (cwV 2 htT (kg_V m_ml_X6_203 m_im_X6_getsBy m_sl_X6_getsBy m_in_X6 m_cd_X6_getsBy) rfl rfl rfl (by decide +kernel) ⟨Nat.le_of_ble_eq_true rfl, Nat.le_of_ble_eq_true rfl⟩) (kp_V hK hP hD hTB (km_rc hK hP)) rfl rfl hl.1 rfl (lv_room (Nat.le_of_ble_eq_true rfl)) dX6_all_18 ⟨Nat.le_of_ble_eq_true rfl, Nat.le_of_ble_eq_true rfl⟩) hD hS hA (fun r_2 x_2 H locs hq_2 hP hD hS => ?_)
    rw [show r_2 = (rBy M na ru j uu).1 from hq_2.1]
    rw [show x_2 = mS M 28 (rBy M na ru j uu).2 from hq_2.2.trans mS_s] at hP hD
    refine lv_iadd hx hb dX6_all_21 ?_
    refine lv_istore_n (lv' := [(2, .int ((acc * 4) + ((rBy M na ru j uu).1))), (3, .int (nI j)), (1, .int (nI uu)), (0, .ref am)]) hx hb dX6_all_22 rfl hl (by decide) rfl (fun ls hl => ?_)
    refine lv_iinc (v := nI (j + 1)) (lv' := [(3, .int (nI (j + 1))), (2, .int ((acc * 4) + ((rBy M na ru j uu).1))), (1, .int (nI uu)), (0, .ref am)]) hx hb dX6_all_23 hl (k := 1) rfl (nI_1 _) (by decide) rfl (fun ls hl => ?_)
    refine lv_goto (tgt := 4) hx hb dX6_all_26 (by decide) ?_
    have hl := lv_sub hl [0, 1, 2, 3] rfl
    exact ih_4 _ (by omega) H locs ls ⟨j + 1, _, _, rfl, by omega, by rw [hF, show n - j = (n - (j + 1)) + 1 by omega]; simp [rAll], hP, hD, hS, hl⟩

