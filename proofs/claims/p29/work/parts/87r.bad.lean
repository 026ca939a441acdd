/-! badness and trust: both sides -/
def cBad (S : Pool) (a : Nat) : Int32 := (cBadL S (wtA S a) (tkA S a 0) (gI S (tyA S a) 4).toInt64 4 0 0).toInt32
def cTrus (S : Pool) (a : Nat) : Int32 := cTru S (wtA S a) (tkA S a 0) (cBad S a) 4 0 0
set_option maxRecDepth 100000 in
set_option maxHeartbeats 4000000 in
/-- bad -/
theorem c_badX (l : Launch) (D : va_G) (cA : Nat → ClassId) (sz : Nat) (S : Pool) (x : Nat) (hx5 : isO S x 5) (ar : Nat) (hq0 : gQ S x 0 = some ar) (ak : Nat) (hq1 : gQ S x 1 = some ak) (hak : isO S ak 1) (hR : okR S ar) (j : Nat) (hj : j < 8) (a : Nat) (hja : gP S ar j = some a) (p0 : Int32) (hsw : kSw S ar p0 = some a)  : Met l yX5_bad (Cond.code yX5_bad cX5_bad 2 (some .int) :: TT) ({ frames := 3, cells := 0, slots := 0, locals := 70 }) (va_Pc [.ref x, .int p0] (kPre D cA (PW cA S) sz)) (va_Qi (fun (r_ : Int32) (x_ : Pool) => r_ = cBad S a ∧ x_ = S) (fun x_ => kB D cA (va_A (PW cA S) sz) (PW cA x_)) (va_A (PW cA S) sz)) 0 0 (va_A (PW cA S) sz) := by
  refine Met.ofW (cc := cX5_bad) (maxL := 2) (ret := (some .int)) (by decide) rfl ?_
  intro p e s m args below meth c s₁ B hml hv
  obtain ⟨rfl, hsz, hP, hK, hD0, hTB⟩ := hv
  have hx := B.exec
  have hb := B.bytes
  have hr := B.returns
  have hts := atoms_spec (ws := Cond.code yX5_bad cX5_bad 2 (some .int) :: TT) B.pre
  have htT : ∀ w ∈ TT, w.before _ s = true := fun w h => hts w (List.mem_cons_of_mem _ h)
  have hown : s.vm.findClass RX5 = some m.cls := findClass_of_methodNamed B.named
  have hlocks := B.notSynchronized
  subst hsz
  have hD := hD0.self (sz := s.heap.size)
  generalize hAe : va_A (PW cA S) s.heap.size = A at hD ⊢
  have hA : ∀ q : Nat, s.heap.size ≤ q → A q := fun q h => by rw [← hAe]; exact Or.inr h
  have hS : va_S A s.heap s.heap [] := va_S.rf
  have hl := lv_entry ([.ref x, .int p0]) (n := 2) (Nat.le_of_ble_eq_true rfl)
  rw [lg_entry_eq]
  generalize (lg_sl ([.ref x, .int p0]) ++ List.replicate (2 - (lg_sl ([.ref x, .int p0])).length) Slot.unset).toArray = ls at hl ⊢
  have hl : lv_has ls 2 [(0, .ref x), (1, .int p0)] := hl
  obtain ⟨-, ⟨wt, hq4, hwt⟩, -, -, ⟨ty, hq6, hty, ⟨t0, hqt0, ht0⟩, ⟨t1, hqt1, ht1⟩, ⟨t2, hqt2, ht2⟩, ⟨t3, hqt3, ht3⟩⟩, -⟩ := (hR.2 j hj a hja).1
  have e0k : tkA S a 0 = t0 := by simp [tkA, tyA, hq6, hqt0]
  have e1k : tkA S a 1 = t1 := by simp [tkA, tyA, hq6, hqt1]
  have e2k : tkA S a 2 = t2 := by simp [tkA, tyA, hq6, hqt2]
  have e3k : tkA S a 3 = t3 := by simp [tkA, tyA, hq6, hqt3]
  have ewk : wtA S a = wt := by simp [wtA, hq4]
  have eyk : tyA S a = ty := by simp [tyA, hq6]
  refine lv_aload_n hx hb dX5_bad_0 rfl (lv_at hl 0 rfl) ?_
  refine lv_iload_n hx hb dX5_bad_1 rfl (lv_at hl 1 rfl) ?_
  refine kc_q (va_runV (As := [.int p0]) (rest := []) ⟨hx, hb, hml, hown, htT⟩ (c_known l D cA _ S x hx5 ar hq0 hR.1 p0 a hsw) (cwV 1 htT (kg_V m_ml_X5_45 m_im_X5_known m_sl_X5_known m_in_X5 m_cd_X5_known) rfl rfl rfl (by decide +kernel) ⟨Nat.le_of_ble_eq_true rfl, Nat.le_of_ble_eq_true rfl⟩) (kp_V hK hP hD hTB (kp_rc hK hP hx5 (Nat.le_of_ble_eq_true rfl) rfl)) rfl rfl hl.1 rfl (lv_room (Nat.le_of_ble_eq_true rfl)) dX5_bad_2 ⟨Nat.le_of_ble_eq_true rfl, Nat.le_of_ble_eq_true rfl⟩) hD hS hA (fun r_1 x_1 H locs hq_1 hP hD hS => ?_)
  rw [hq_1.1]
  rw [hq_1.2] at hP hD
  refine kc_i (va_runV (As := []) (rest := []) ⟨hx, hb, hml, hown, htT⟩ (c_badness l D cA _ S a (hR.2 j hj a hja).1.1 wt hq4 hwt ty hq6 hty t0 hqt0 ht0) (cwV 0 htT (kg_V m_ml_X5_219 m_im_X3_badness m_sl_X3_badness m_in_X3 m_cd_X3_badness) rfl rfl rfl (by decide +kernel) ⟨Nat.le_of_ble_eq_true rfl, Nat.le_of_ble_eq_true rfl⟩) (kp_V hK hP hD hTB (kp_rc hK hP ((hR.2 j hj a hja).1.1) (Nat.le_of_ble_eq_true rfl) rfl)) rfl rfl hl.1 rfl (lv_room (Nat.le_of_ble_eq_true rfl)) dX5_bad_5 ⟨Nat.le_of_ble_eq_true rfl, Nat.le_of_ble_eq_true rfl⟩) hD hS hA (fun r_2 x_2 H locs hq_2 hP hD hS => ?_)
  rw [hq_2.2] at hP hD
  exact W.iret (v := r_2) hx hb hr (fun t ht hW => ⟨⟨r_2, S, rfl, ⟨by unfold cBad; rw [ewk, e0k, eyk]; exact hq_2.1, rfl⟩, by rw [ht]; exact hP, va_K.moved hW.alike hK, hD⟩, hS.F ht⟩) hS.2.2 dX5_bad_8

set_option maxRecDepth 100000 in
set_option maxHeartbeats 4000000 in
/-- isTrusted -/
theorem c_isTrustedX (l : Launch) (D : va_G) (cA : Nat → ClassId) (sz : Nat) (S : Pool) (x : Nat) (hx5 : isO S x 5) (ar : Nat) (hq0 : gQ S x 0 = some ar) (ak : Nat) (hq1 : gQ S x 1 = some ak) (hak : isO S ak 1) (hR : okR S ar) (j : Nat) (hj : j < 8) (a : Nat) (hja : gP S ar j = some a) (p0 : Int32) (hsw : kSw S ar p0 = some a)  : Met l yX5_isTrusted (Cond.code yX5_isTrusted cX5_isTrusted 2 (some .boolean) :: TT) ({ frames := 4, cells := 0, slots := 0, locals := 92 }) (va_Pc [.ref x, .int p0] (kPre D cA (PW cA S) sz)) (va_Qi (fun (r_ : Int32) (x_ : Pool) => r_ = cTrus S a ∧ x_ = S) (fun x_ => kB D cA (va_A (PW cA S) sz) (PW cA x_)) (va_A (PW cA S) sz)) 0 0 (va_A (PW cA S) sz) := by
  refine Met.ofW (cc := cX5_isTrusted) (maxL := 2) (ret := (some .boolean)) (by decide) rfl ?_
  intro p e s m args below meth c s₁ B hml hv
  obtain ⟨rfl, hsz, hP, hK, hD0, hTB⟩ := hv
  have hx := B.exec
  have hb := B.bytes
  have hr := B.returns
  have hts := atoms_spec (ws := Cond.code yX5_isTrusted cX5_isTrusted 2 (some .boolean) :: TT) B.pre
  have htT : ∀ w ∈ TT, w.before _ s = true := fun w h => hts w (List.mem_cons_of_mem _ h)
  have hown : s.vm.findClass RX5 = some m.cls := findClass_of_methodNamed B.named
  have hlocks := B.notSynchronized
  subst hsz
  have hD := hD0.self (sz := s.heap.size)
  generalize hAe : va_A (PW cA S) s.heap.size = A at hD ⊢
  have hA : ∀ q : Nat, s.heap.size ≤ q → A q := fun q h => by rw [← hAe]; exact Or.inr h
  have hS : va_S A s.heap s.heap [] := va_S.rf
  have hl := lv_entry ([.ref x, .int p0]) (n := 2) (Nat.le_of_ble_eq_true rfl)
  rw [lg_entry_eq]
  generalize (lg_sl ([.ref x, .int p0]) ++ List.replicate (2 - (lg_sl ([.ref x, .int p0])).length) Slot.unset).toArray = ls at hl ⊢
  have hl : lv_has ls 2 [(0, .ref x), (1, .int p0)] := hl
  obtain ⟨-, ⟨wt, hq4, hwt⟩, -, -, ⟨ty, hq6, hty, ⟨t0, hqt0, ht0⟩, ⟨t1, hqt1, ht1⟩, ⟨t2, hqt2, ht2⟩, ⟨t3, hqt3, ht3⟩⟩, -⟩ := (hR.2 j hj a hja).1
  have e0k : tkA S a 0 = t0 := by simp [tkA, tyA, hq6, hqt0]
  have e1k : tkA S a 1 = t1 := by simp [tkA, tyA, hq6, hqt1]
  have e2k : tkA S a 2 = t2 := by simp [tkA, tyA, hq6, hqt2]
  have e3k : tkA S a 3 = t3 := by simp [tkA, tyA, hq6, hqt3]
  have ewk : wtA S a = wt := by simp [wtA, hq4]
  have eyk : tyA S a = ty := by simp [tyA, hq6]
  refine lv_aload_n hx hb dX5_isTrusted_0 rfl (lv_at hl 0 rfl) ?_
  refine lv_iload_n hx hb dX5_isTrusted_1 rfl (lv_at hl 1 rfl) ?_
  refine kc_q (va_runV (As := [.int p0]) (rest := []) ⟨hx, hb, hml, hown, htT⟩ (c_known l D cA _ S x hx5 ar hq0 hR.1 p0 a hsw) (cwV 1 htT (kg_V m_ml_X5_45 m_im_X5_known m_sl_X5_known m_in_X5 m_cd_X5_known) rfl rfl rfl (by decide +kernel) ⟨Nat.le_of_ble_eq_true rfl, Nat.le_of_ble_eq_true rfl⟩) (kp_V hK hP hD hTB (kp_rc hK hP hx5 (Nat.le_of_ble_eq_true rfl) rfl)) rfl rfl hl.1 rfl (lv_room (Nat.le_of_ble_eq_true rfl)) dX5_isTrusted_2 ⟨Nat.le_of_ble_eq_true rfl, Nat.le_of_ble_eq_true rfl⟩) hD hS hA (fun r_1 x_1 H locs hq_1 hP hD hS => ?_)
  rw [hq_1.1]
  rw [hq_1.2] at hP hD
  refine kc_i (va_runV (As := []) (rest := []) ⟨hx, hb, hml, hown, htT⟩ (c_canBeTrusted l D cA _ S a (hR.2 j hj a hja).1.1 wt hq4 hwt ty hq6 hty t0 hqt0 ht0) (cwV 0 htT (kg_V m_ml_X5_223 m_im_X3_canBeTrusted m_sl_X3_canBeTrusted m_in_X3 m_cd_X3_canBeTrusted) rfl rfl rfl (by decide +kernel) ⟨Nat.le_of_ble_eq_true rfl, Nat.le_of_ble_eq_true rfl⟩) (kp_V hK hP hD hTB (kp_rc hK hP ((hR.2 j hj a hja).1.1) (Nat.le_of_ble_eq_true rfl) rfl)) rfl rfl hl.1 rfl (lv_room (Nat.le_of_ble_eq_true rfl)) dX5_isTrusted_5 ⟨Nat.le_of_ble_eq_true rfl, Nat.le_of_ble_eq_true rfl⟩) hD hS hA (fun r_2 x_2 H locs hq_2 hP hD hS => ?_)
  rw [hq_2.2] at hP hD
  have hzr : r_2 = 0 ∨ r_2 = 1 := by rw [hq_2.1]; exact cTru_01 _ _ _ _ _ _ _
  exact W.zret (v := r_2) hx hb hr ((kz_b hzr).1) (fun t ht hW => ⟨⟨r_2, S, rfl, ⟨by unfold cTrus cBad; rw [ewk, e0k, eyk]; exact hq_2.1, rfl⟩, by rw [ht]; exact hP, va_K.moved hW.alike hK, hD⟩, hS.F ht⟩) hS.2.2 dX5_isTrusted_8

def rNum (T : Rows) (i na : Nat) : Nat → Nat → Int32 → Int32
  | 0, _, acc => acc
  | c + 1, k, acc => rNum T i na c (k + 1) (acc + rTold T (nI i) (nI k) 0 na 0 0)
def rBadL (T : Rows) (i na : Nat) (n : Int64) : Nat → Nat → Int64 → Int64
  | 0, _, acc => acc
  | c + 1, k, acc => if 0 < lg_cmp (T 6 (4 * i + k)).toInt64 0 then rBadL T i na n c (k + 1) (acc + ((rTold T (nI i) (nI k) 0 na 0 0).toInt64 * 1000 - n * (T 6 (4 * i + k)).toInt64) * ((rTold T (nI i) (nI k) 0 na 0 0).toInt64 * 1000 - n * (T 6 (4 * i + k)).toInt64) / (n * (T 6 (4 * i + k)).toInt64 * 10)) else rBadL T i na n c (k + 1) acc
def rBad (T : Rows) (i na vc : Nat) : Int32 := (if 0 < rNum T i na vc 0 0 then rBadL T i na (rNum T i na vc 0 0).toInt64 vc 0 0 else 0).toInt32
def rTru (T : Rows) (i na : Nat) (bd : Int32) : Nat → Nat → Int32 → Int32
  | 0, _, acc => if acc = 1 then 1 else if kMost acc < bd then 0 else 1
  | c + 1, k, acc => if 0 < T 6 (4 * i + k) then (if T 6 (4 * i + k) = 0 then (if 0 < rTold T (nI i) (nI k) 0 na 0 0 then 0 else rTru T i na bd c (k + 1) (acc + 1)) else rTru T i na bd c (k + 1) (acc + 1)) else (if T 6 (4 * i + k) = 0 then (if 0 < rTold T (nI i) (nI k) 0 na 0 0 then 0 else rTru T i na bd c (k + 1) acc) else rTru T i na bd c (k + 1) acc)
set_option maxRecDepth 100000 in
set_option maxHeartbeats 4000000 in
/-- badNow -/
theorem m_badNow (l : Launch) (D : va_G) (cA : Nat → ClassId) (sz : Nat) (am : Nat) (r : Nat → Nat) (M : MSt) (n na : Nat) (hI : INVR n na M) (i : Nat) (hi : i < n) (vc : Nat) (hvc : vc ≤ 4) (evc : M.2 5 i = nI vc) : Met l yX6_badNow (Cond.code yX6_badNow cX6_badNow 10 (some .int) :: TT) ({ frames := 1, cells := 0, slots := 0, locals := 25 }) (va_Pc [.ref am, .int (nI i)] (kPre D cA (wM cA am r M) sz)) (va_Qi (fun (r_ : Int32) (x_ : MSt) => r_ = rBad M.2 i na vc ∧ x_ = M) (fun x_ => kB D cA (va_A (wM cA am r M) sz) (wM cA am r x_)) (va_A (wM cA am r M) sz)) 0 0 (va_A (wM cA am r M) sz) := by
  refine Met.ofW (cc := cX6_badNow) (maxL := 10) (ret := (some .int)) (by decide) rfl ?_
  intro p e s m args below meth c s₁ B hml hv
  obtain ⟨rfl, hsz, hP, hK, hD0, hTB⟩ := hv
  have hx := B.exec
  have hb := B.bytes
  have hr := B.returns
  have hts := atoms_spec (ws := Cond.code yX6_badNow cX6_badNow 10 (some .int) :: TT) B.pre
  have htT : ∀ w ∈ TT, w.before _ s = true := fun w h => hts w (List.mem_cons_of_mem _ h)
  have hown : s.vm.findClass RX6 = some m.cls := findClass_of_methodNamed B.named
  have hlocks := B.notSynchronized
  subst hsz
  have hD := hD0.self (sz := s.heap.size)
  generalize hAe : va_A (wM cA am r M) s.heap.size = A at hD ⊢
  have hA : ∀ q : Nat, s.heap.size ≤ q → A q := fun q h => by rw [← hAe]; exact Or.inr h
  have hS : va_S A s.heap s.heap [] := va_S.rf
  have hl := lv_entry ([.ref am, .int (nI i)]) (n := 10) (Nat.le_of_ble_eq_true rfl)
  rw [lg_entry_eq]
  generalize (lg_sl ([.ref am, .int (nI i)]) ++ List.replicate (10 - (lg_sl ([.ref am, .int (nI i)])).length) Slot.unset).toArray = ls at hl ⊢
  have hl : lv_has ls 10 [(0, .ref am), (1, .int (nI i))] := hl
  have hn8 := hI.n8
  have hna := hI.na
  have h22 := hI.h22
  refine lv_iconst (v := 0) hx hb dX6_badNow_0 (by decide) ?_
  refine lv_istore_n (lv' := [(2, .int 0), (0, .ref am), (1, .int (nI i))]) hx hb dX6_badNow_1 rfl hl (by decide) rfl (fun ls hl => ?_)
  refine lv_iconst (v := 0) hx hb dX6_badNow_2 (by decide) ?_
  refine lv_istore_n (lv' := [(3, .int 0), (2, .int 0), (0, .ref am), (1, .int (nI i))]) hx hb dX6_badNow_3 rfl hl (by decide) rfl (fun ls hl => ?_)
  refine kz_loop 4 (fun N9 H locs ls => ∃ (j : Nat) (acc : Int32), N9 = vc - j ∧ j ≤ vc ∧ rNum M.2 i na vc 0 0 = rNum M.2 i na (vc - j) j acc ∧ va_P D vwCl (wM cA am r M) H ∧ va_D A (wM cA am r M) ∧ va_S A s.heap H locs ∧ lv_has ls 10 [(3, .int (nI j)), (2, .int acc), (1, .int (nI i)), (0, .ref am)]) (fun N9 ih_4 H locs ls hI => ?_) ⟨0, 0, rfl, by omega, rfl, hP, hD, hS, lv_sub hl [0, 1, 3, 2] rfl⟩
  obtain ⟨j, acc, hn9, hj, hN, hP, hD, hS, hl⟩ := hI
  refine lv_iload_n hx hb dX6_badNow_4 rfl (lv_at hl 0 rfl) ?_
  refine lv_aload_n hx hb dX6_badNow_5 rfl (lv_at hl 3 rfl) ?_
  refine km_getr hx hb htT hown hK hP 5 (by decide) rfl (htT _ m_fl_X6_13) dX6_badNow_6 ?_
  refine lv_iload_n hx hb dX6_badNow_9 rfl (lv_at hl 2 rfl) ?_
  refine km_ialdv (x := nI vc) hx hb hK hP 5 rfl rfl (show vp_in (nI (i)) 8 from ki_in (by omega) (by decide)) ((congrArg _ (ki_cl (by omega))).trans evc) dX6_badNow_10 ?_
  refine lv_icmp_ge (tgt := 30) hx hb dX6_badNow_11 (by decide) (fun c_1 => ?_) (fun c_1 => ?_)
  · replace c_1 := (nI_leI (a := vc) (b := j) (by omega) (by omega)).mp c_1
    refine lv_lconst (v := 0) hx hb dX6_badNow_30 (by decide) ?_
    refine lv_lstore_n (lv' := [(3, .long 0), (2, .int acc), (1, .int (nI i)), (0, .ref am)]) hx hb dX6_badNow_31 rfl hl (by decide) rfl (fun ls hl => ?_)
    refine lv_iconst (v := 0) hx hb dX6_badNow_32 (by decide) ?_
    refine lv_istore (lv' := [(5, .int 0), (3, .long 0), (2, .int acc), (1, .int (nI i)), (0, .ref am)]) hx hb dX6_badNow_33 hl (by decide) rfl (fun ls hl => ?_)
    have hAc : rNum M.2 i na vc 0 0 = acc := by rw [hN, show vc - j = 0 by omega]; rfl
    refine kz_loop 35 (fun N9 H locs ls => ∃ (v : Nat) (sm : Int64), N9 = vc - v ∧ v ≤ vc ∧ (if 0 < acc then rBadL M.2 i na acc.toInt64 vc 0 0 else 0) = (if 0 < acc then rBadL M.2 i na acc.toInt64 (vc - v) v sm else sm) ∧ va_P D vwCl (wM cA am r M) H ∧ va_D A (wM cA am r M) ∧ va_S A s.heap H locs ∧ lv_has ls 10 [(5, .int (nI v)), (3, .long sm), (2, .int acc), (1, .int (nI i)), (0, .ref am)]) (fun N9 ih_35 H locs ls hI => ?_) ⟨0, 0, rfl, by omega, rfl, hP, hD, hS, lv_sub hl [0, 1, 2, 3, 4] rfl⟩
    obtain ⟨v, sm, hn9, hv, hF, hP, hD, hS, hl⟩ := hI
    refine lv_iload hx hb dX6_badNow_35 (lv_at hl 0 rfl) ?_
    refine lv_aload_n hx hb dX6_badNow_37 rfl (lv_at hl 4 rfl) ?_
    refine km_getr hx hb htT hown hK hP 5 (by decide) rfl (htT _ m_fl_X6_13) dX6_badNow_38 ?_
    refine lv_iload_n hx hb dX6_badNow_41 rfl (lv_at hl 3 rfl) ?_
    refine km_ialdv (x := nI vc) hx hb hK hP 5 rfl rfl (show vp_in (nI (i)) 8 from ki_in (by omega) (by decide)) ((congrArg _ (ki_cl (by omega))).trans evc) dX6_badNow_42 ?_
    refine lv_icmp_ge (tgt := 116) hx hb dX6_badNow_43 (by decide) (fun c_2 => ?_) (fun c_2 => ?_)
    · replace c_2 := (nI_leI (a := vc) (b := v) (by omega) (by omega)).mp c_2
      refine lv_lload_n hx hb dX6_badNow_116 rfl (lv_at hl 1 rfl) ?_
      refine lv_l2i (v := sm.toInt32) hx hb dX6_badNow_117 rfl ?_
      exact W.iret (v := sm.toInt32) hx hb hr (fun t ht hW => ⟨⟨sm.toInt32, M, rfl, ⟨by unfold rBad; rw [hAc, hF, show vc - v = 0 by omega]; exact (congrArg Int64.toInt32 (ite_self _)).symm, rfl⟩, by rw [ht]; exact hP, va_K.moved hW.alike hK, hD⟩, hS.F ht⟩) hS.2.2 dX6_badNow_118
    · replace c_2 : ¬ (vc ≤ v) := fun h9 => c_2 ((nI_leI (a := vc) (b := v) (by omega) (by omega)).mpr h9)
      refine lv_iload_n hx hb dX6_badNow_46 rfl (lv_at hl 2 rfl) ?_
      refine lv_if_le (tgt := 116) hx hb dX6_badNow_47 (by decide) (fun c_3 => ?_) (fun c_3 => ?_)
      · replace c_3 := Int32.not_lt.mpr c_3
        refine lv_lload_n hx hb dX6_badNow_116 rfl (lv_at hl 1 rfl) ?_
        refine lv_l2i (v := sm.toInt32) hx hb dX6_badNow_117 rfl ?_
        exact W.iret (v := sm.toInt32) hx hb hr (fun t ht hW => ⟨⟨sm.toInt32, M, rfl, ⟨by unfold rBad; rw [hAc, hF, if_neg c_3], rfl⟩, by rw [ht]; exact hP, va_K.moved hW.alike hK, hD⟩, hS.F ht⟩) hS.2.2 dX6_badNow_118
      · replace c_3 := Int32.not_le.mp c_3
        refine lv_aload_n hx hb dX6_badNow_50 rfl (lv_at hl 4 rfl) ?_
        refine km_getr hx hb htT hown hK hP 6 (by decide) rfl (htT _ m_fl_X6_16) dX6_badNow_51 ?_
        refine lv_iload_n hx hb dX6_badNow_54 rfl (lv_at hl 3 rfl) ?_
        refine lv_iconst (v := 4) hx hb dX6_badNow_55 (by decide) ?_
        refine lv_imul hx hb dX6_badNow_56 ?_
        rw [show ((nI i) * 4 : Int32) = nI (4 * i) from (pk_mul i 4).trans (congrArg nI (by omega))]
        refine lv_iload hx hb dX6_badNow_57 (lv_at hl 0 rfl) ?_
        refine lv_iadd hx hb dX6_badNow_59 ?_
        rw [show ((nI (4 * i)) + (nI v) : Int32) = nI ((4 * i) + v) from nI_add (4 * i) v]
        refine km_ialdv (x := (M.2 6) ((4 * i) + v)) hx hb hK hP 6 rfl rfl (show vp_in (nI ((4 * i) + v)) 32 from ki_in (by omega) (by decide)) (congrArg _ (ki_cl (by omega))) dX6_badNow_60 ?_
        refine lv_i2l (v := ((M.2 6) ((4 * i) + v)).toInt64) hx hb dX6_badNow_61 rfl ?_
        refine lv_lstore (lv' := [(6, .long (((M.2 6) ((4 * i) + v)).toInt64)), (5, .int (nI v)), (3, .long sm), (2, .int acc), (1, .int (nI i)), (0, .ref am)]) hx hb dX6_badNow_62 hl (by decide) rfl (fun ls hl => ?_)
        refine lv_aload_n hx hb dX6_badNow_64 rfl (lv_at hl 5 rfl) ?_
        refine lv_iload_n hx hb dX6_badNow_65 rfl (lv_at hl 4 rfl) ?_
        refine lv_iload hx hb dX6_badNow_66 (lv_at hl 1 rfl) ?_
        refine lv_iconst (v := 0) hx hb dX6_badNow_68 (by decide) ?_
        refine kc_i (va_runV (As := [.int (nI i), .int (nI v), .int 0]) (rest := []) ⟨hx, hb, hml, hown, htT⟩ (m_toldNow l D cA _ am r M na hna h22 (nI i) (nI v) 0) (cwV 3 htT (kg_V m_ml_X6_182 m_im_X6_toldNow m_sl_X6_toldNow m_in_X6 m_cd_X6_toldNow) rfl rfl rfl (by decide +kernel) ⟨Nat.le_of_ble_eq_true rfl, Nat.le_of_ble_eq_true rfl⟩) (kp_V hK hP hD hTB (km_rc hK hP)) rfl rfl hl.1 rfl (lv_room (Nat.le_of_ble_eq_true rfl)) dX6_badNow_69 ⟨Nat.le_of_ble_eq_true rfl, Nat.le_of_ble_eq_true rfl⟩) hD hS hA (fun r_4 x_4 H locs hq_4 hP hD hS => ?_)
        rw [hq_4.1]
        rw [hq_4.2] at hP hD
        refine lv_i2l (v := (rTold M.2 (nI i) (nI v) 0 na 0 0).toInt64) hx hb dX6_badNow_72 rfl ?_
        refine lv_ldc2 (v := 1000) hx hb hown (htT _ m_lc_X6_109) dX6_badNow_73 ?_
        refine lv_lmul hx hb dX6_badNow_76 ?_
        refine lv_iload_n hx hb dX6_badNow_77 rfl (lv_at hl 3 rfl) ?_
        refine lv_i2l (v := acc.toInt64) hx hb dX6_badNow_78 rfl ?_
        refine lv_lload hx hb dX6_badNow_79 (lv_at hl 0 rfl) ?_
        refine lv_lmul hx hb dX6_badNow_81 ?_
        refine lv_lsub hx hb dX6_badNow_82 ?_
        refine lv_lstore (lv' := [(8, .long ((((rTold M.2 (nI i) (nI v) 0 na 0 0).toInt64) * 1000) - (acc.toInt64 * (((M.2 6) ((4 * i) + v)).toInt64)))), (6, .long (((M.2 6) ((4 * i) + v)).toInt64)), (5, .int (nI v)), (3, .long sm), (2, .int acc), (1, .int (nI i)), (0, .ref am)]) hx hb dX6_badNow_83 hl (by decide) rfl (fun ls hl => ?_)
        refine lv_lload hx hb dX6_badNow_85 (lv_at hl 1 rfl) ?_
        refine lv_lconst (v := 0) hx hb dX6_badNow_87 (by decide) ?_
        refine W.lcmp hx hb dX6_badNow_88 ?_
        refine lv_if_le (tgt := 110) hx hb dX6_badNow_89 (by decide) (fun c_5 => ?_) (fun c_5 => ?_)
        · replace c_5 := Int32.not_lt.mpr c_5
          refine lv_iinc (v := nI (v + 1)) (lv' := [(5, .int (nI (v + 1))), (8, .long ((((rTold M.2 (nI i) (nI v) 0 na 0 0).toInt64) * 1000) - (acc.toInt64 * (((M.2 6) ((4 * i) + v)).toInt64)))), (6, .long (((M.2 6) ((4 * i) + v)).toInt64)), (3, .long sm), (2, .int acc), (1, .int (nI i)), (0, .ref am)]) hx hb dX6_badNow_110 hl (k := 2) rfl (nI_1 _) (by decide) rfl (fun ls hl => ?_)
          refine lv_goto (tgt := 35) hx hb dX6_badNow_113 (by decide) ?_
          have hl := lv_sub hl [0, 3, 4, 5, 6] rfl
          exact ih_35 _ (by omega) H locs ls ⟨v + 1, _, rfl, by omega, by rw [hF, if_pos c_3, if_pos c_3, show vc - v = (vc - (v + 1)) + 1 by omega, rBadL, if_neg c_5], hP, hD, hS, hl⟩
        · replace c_5 := Int32.not_le.mp c_5
          refine lv_lload_n hx hb dX6_badNow_92 rfl (lv_at hl 3 rfl) ?_
          refine lv_lload hx hb dX6_badNow_93 (lv_at hl 0 rfl) ?_
          refine lv_lload hx hb dX6_badNow_95 (lv_at hl 0 rfl) ?_
          refine lv_lmul hx hb dX6_badNow_97 ?_
          refine lv_iload_n hx hb dX6_badNow_98 rfl (lv_at hl 4 rfl) ?_
          refine lv_i2l (v := acc.toInt64) hx hb dX6_badNow_99 rfl ?_
          refine lv_lload hx hb dX6_badNow_100 (lv_at hl 1 rfl) ?_
          refine lv_lmul hx hb dX6_badNow_102 ?_
          refine lv_ldc2 (v := 10) hx hb hown (htT _ m_lc_X6_192) dX6_badNow_103 ?_
          refine lv_lmul hx hb dX6_badNow_106 ?_
          refine lv_ldiv hx hb dX6_badNow_107 (due_nw (by assumption) (by assumption)) ?_
          refine lv_ladd hx hb dX6_badNow_108 ?_
          refine lv_lstore_n (lv' := [(3, .long (sm + ((((((rTold M.2 (nI i) (nI v) 0 na 0 0).toInt64) * 1000) - (acc.toInt64 * (((M.2 6) ((4 * i) + v)).toInt64))) * ((((rTold M.2 (nI i) (nI v) 0 na 0 0).toInt64) * 1000) - (acc.toInt64 * (((M.2 6) ((4 * i) + v)).toInt64)))) / ((acc.toInt64 * (((M.2 6) ((4 * i) + v)).toInt64)) * 10)))), (8, .long ((((rTold M.2 (nI i) (nI v) 0 na 0 0).toInt64) * 1000) - (acc.toInt64 * (((M.2 6) ((4 * i) + v)).toInt64)))), (6, .long (((M.2 6) ((4 * i) + v)).toInt64)), (5, .int (nI v)), (2, .int acc), (1, .int (nI i)), (0, .ref am)]) hx hb dX6_badNow_109 rfl hl (by decide) rfl (fun ls hl => ?_)
          refine lv_iinc (v := nI (v + 1)) (lv' := [(5, .int (nI (v + 1))), (3, .long (sm + ((((((rTold M.2 (nI i) (nI v) 0 na 0 0).toInt64) * 1000) - (acc.toInt64 * (((M.2 6) ((4 * i) + v)).toInt64))) * ((((rTold M.2 (nI i) (nI v) 0 na 0 0).toInt64) * 1000) - (acc.toInt64 * (((M.2 6) ((4 * i) + v)).toInt64)))) / ((acc.toInt64 * (((M.2 6) ((4 * i) + v)).toInt64)) * 10)))), (8, .long ((((rTold M.2 (nI i) (nI v) 0 na 0 0).toInt64) * 1000) - (acc.toInt64 * (((M.2 6) ((4 * i) + v)).toInt64)))), (6, .long (((M.2 6) ((4 * i) + v)).toInt64)), (2, .int acc), (1, .int (nI i)), (0, .ref am)]) hx hb dX6_badNow_110 hl (k := 3) rfl (nI_1 _) (by decide) rfl (fun ls hl => ?_)
          refine lv_goto (tgt := 35) hx hb dX6_badNow_113 (by decide) ?_
          have hl := lv_sub hl [0, 1, 4, 5, 6] rfl
          exact ih_35 _ (by omega) H locs ls ⟨v + 1, _, rfl, by omega, by rw [hF, if_pos c_3, if_pos c_3, show vc - v = (vc - (v + 1)) + 1 by omega, rBadL, if_pos c_5], hP, hD, hS, hl⟩
  · replace c_1 : ¬ (vc ≤ j) := fun h9 => c_1 ((nI_leI (a := vc) (b := j) (by omega) (by omega)).mpr h9)
    refine lv_iload_n hx hb dX6_badNow_14 rfl (lv_at hl 1 rfl) ?_
    refine lv_aload_n hx hb dX6_badNow_15 rfl (lv_at hl 3 rfl) ?_
    refine lv_iload_n hx hb dX6_badNow_16 rfl (lv_at hl 2 rfl) ?_
    refine lv_iload_n hx hb dX6_badNow_17 rfl (lv_at hl 0 rfl) ?_
    refine lv_iconst (v := 0) hx hb dX6_badNow_18 (by decide) ?_
    refine kc_i (va_runV (As := [.int (nI i), .int (nI j), .int 0]) (rest := [.int acc]) ⟨hx, hb, hml, hown, htT⟩ (m_toldNow l D cA _ am r M na hna h22 (nI i) (nI j) 0) (cwV 3 htT (kg_V m_ml_X6_182 m_im_X6_toldNow m_sl_X6_toldNow m_in_X6 m_cd_X6_toldNow) rfl rfl rfl (by decide +kernel) ⟨Nat.le_of_ble_eq_true rfl, Nat.le_of_ble_eq_true rfl⟩) (kp_V hK hP hD hTB (km_rc hK hP)) rfl rfl hl.1 rfl (lv_room (Nat.le_of_ble_eq_true rfl)) dX6_badNow_19 ⟨Nat.le_of_ble_eq_true rfl, Nat.le_of_ble_eq_true rfl⟩) hD hS hA (fun r_6 x_6 H locs hq_6 hP hD hS => ?_)
    rw [hq_6.1]
    rw [hq_6.2] at hP hD
    refine lv_iadd hx hb dX6_badNow_22 ?_
    refine lv_istore_n (lv' := [(2, .int (acc + (rTold M.2 (nI i) (nI j) 0 na 0 0))), (3, .int (nI j)), (1, .int (nI i)), (0, .ref am)]) hx hb dX6_badNow_23 rfl hl (by decide) rfl (fun ls hl => ?_)
    refine lv_iinc (v := nI (j + 1)) (lv' := [(3, .int (nI (j + 1))), (2, .int (acc + (rTold M.2 (nI i) (nI j) 0 na 0 0))), (1, .int (nI i)), (0, .ref am)]) hx hb dX6_badNow_24 hl (k := 1) rfl (nI_1 _) (by decide) rfl (fun ls hl => ?_)
    refine lv_goto (tgt := 4) hx hb dX6_badNow_27 (by decide) ?_
    have hl := lv_sub hl [0, 1, 2, 3] rfl
    exact ih_4 _ (by omega) H locs ls ⟨j + 1, _, rfl, by omega, by rw [hN, show vc - j = (vc - (j + 1)) + 1 by omega]; rfl, hP, hD, hS, hl⟩

set_option maxRecDepth 100000 in
set_option maxHeartbeats 4000000 in
/-- isTrustedNow -/
theorem m_isTrustedNow (l : Launch) (D : va_G) (cA : Nat → ClassId) (sz : Nat) (am : Nat) (r : Nat → Nat) (M : MSt) (n na : Nat) (hI : INVR n na M) (i : Nat) (hi : i < n) (vc : Nat) (hvc : vc ≤ 4) (evc : M.2 5 i = nI vc) : Met l yX6_isTrustedNow (Cond.code yX6_isTrustedNow cX6_isTrustedNow 4 (some .boolean) :: TT) ({ frames := 2, cells := 0, slots := 0, locals := 54 }) (va_Pc [.ref am, .int (nI i)] (kPre D cA (wM cA am r M) sz)) (va_Qi (fun (r_ : Int32) (x_ : MSt) => r_ = rTru M.2 i na (rBad M.2 i na vc) vc 0 0 ∧ x_ = M) (fun x_ => kB D cA (va_A (wM cA am r M) sz) (wM cA am r x_)) (va_A (wM cA am r M) sz)) 0 0 (va_A (wM cA am r M) sz) := by
  refine Met.ofW (cc := cX6_isTrustedNow) (maxL := 4) (ret := (some .boolean)) (by decide) rfl ?_
  intro p e s m args below meth c s₁ B hml hv
  obtain ⟨rfl, hsz, hP, hK, hD0, hTB⟩ := hv
  have hx := B.exec
  have hb := B.bytes
  have hr := B.returns
  have hts := atoms_spec (ws := Cond.code yX6_isTrustedNow cX6_isTrustedNow 4 (some .boolean) :: TT) B.pre
  have htT : ∀ w ∈ TT, w.before _ s = true := fun w h => hts w (List.mem_cons_of_mem _ h)
  have hown : s.vm.findClass RX6 = some m.cls := findClass_of_methodNamed B.named
  have hlocks := B.notSynchronized
  subst hsz
  have hD := hD0.self (sz := s.heap.size)
  generalize hAe : va_A (wM cA am r M) s.heap.size = A at hD ⊢
  have hA : ∀ q : Nat, s.heap.size ≤ q → A q := fun q h => by rw [← hAe]; exact Or.inr h
  have hS : va_S A s.heap s.heap [] := va_S.rf
  have hl := lv_entry ([.ref am, .int (nI i)]) (n := 4) (Nat.le_of_ble_eq_true rfl)
  rw [lg_entry_eq]
  generalize (lg_sl ([.ref am, .int (nI i)]) ++ List.replicate (4 - (lg_sl ([.ref am, .int (nI i)])).length) Slot.unset).toArray = ls at hl ⊢
  have hl : lv_has ls 4 [(0, .ref am), (1, .int (nI i))] := hl
  have hn8 := hI.n8
  have hna := hI.na
  have h22 := hI.h22
  refine lv_iconst (v := 0) hx hb dX6_isTrustedNow_0 (by decide) ?_
  refine lv_istore_n (lv' := [(2, .int 0), (0, .ref am), (1, .int (nI i))]) hx hb dX6_isTrustedNow_1 rfl hl (by decide) rfl (fun ls hl => ?_)
  refine lv_iconst (v := 0) hx hb dX6_isTrustedNow_2 (by decide) ?_
  refine lv_istore_n (lv' := [(3, .int 0), (2, .int 0), (0, .ref am), (1, .int (nI i))]) hx hb dX6_isTrustedNow_3 rfl hl (by decide) rfl (fun ls hl => ?_)
  refine kz_loop 4 (fun N9 H locs ls => ∃ (j : Nat) (acc : Int32), N9 = vc - j ∧ j ≤ vc ∧ rTru M.2 i na (rBad M.2 i na vc) vc 0 0 = rTru M.2 i na (rBad M.2 i na vc) (vc - j) j acc ∧ va_P D vwCl (wM cA am r M) H ∧ va_D A (wM cA am r M) ∧ va_S A s.heap H locs ∧ lv_has ls 4 [(3, .int (nI j)), (2, .int acc), (1, .int (nI i)), (0, .ref am)]) (fun N9 ih_4 H locs ls hI => ?_) ⟨0, 0, rfl, by omega, rfl, hP, hD, hS, lv_sub hl [0, 1, 3, 2] rfl⟩
  obtain ⟨j, acc, hn9, hj, hF, hP, hD, hS, hl⟩ := hI
  refine lv_iload_n hx hb dX6_isTrustedNow_4 rfl (lv_at hl 0 rfl) ?_
  refine lv_aload_n hx hb dX6_isTrustedNow_5 rfl (lv_at hl 3 rfl) ?_
  refine km_getr hx hb htT hown hK hP 5 (by decide) rfl (htT _ m_fl_X6_13) dX6_isTrustedNow_6 ?_
  refine lv_iload_n hx hb dX6_isTrustedNow_9 rfl (lv_at hl 2 rfl) ?_
  refine km_ialdv (x := nI vc) hx hb hK hP 5 rfl rfl (show vp_in (nI (i)) 8 from ki_in (by omega) (by decide)) ((congrArg _ (ki_cl (by omega))).trans evc) dX6_isTrustedNow_10 ?_
  refine lv_icmp_ge (tgt := 66) hx hb dX6_isTrustedNow_11 (by decide) (fun c_1 => ?_) (fun c_1 => ?_)
  · replace c_1 := (nI_leI (a := vc) (b := j) (by omega) (by omega)).mp c_1
    refine lv_iload_n hx hb dX6_isTrustedNow_66 rfl (lv_at hl 1 rfl) ?_
    refine lv_iconst (v := 1) hx hb dX6_isTrustedNow_67 (by decide) ?_
    refine lv_icmp_eq (tgt := 104) hx hb dX6_isTrustedNow_68 (by decide) (fun c_2 => ?_) (fun c_2 => ?_)
    · refine lv_iconst (v := 1) hx hb dX6_isTrustedNow_104 (by decide) ?_
      refine lv_goto (tgt := 109) hx hb dX6_isTrustedNow_105 (by decide) ?_
      exact W.zret (v := 1) hx hb hr (rfl) (fun t ht hW => ⟨⟨1, M, rfl, ⟨by rw [hF, show vc - j = 0 by omega]; simp [rTru, kMost, c_2], rfl⟩, by rw [ht]; exact hP, va_K.moved hW.alike hK, hD⟩, hS.F ht⟩) hS.2.2 dX6_isTrustedNow_109
    · refine lv_aload_n hx hb dX6_isTrustedNow_71 rfl (lv_at hl 3 rfl) ?_
      refine lv_iload_n hx hb dX6_isTrustedNow_72 rfl (lv_at hl 2 rfl) ?_
      refine kc_i (va_runV (As := [.int (nI i)]) (rest := []) ⟨hx, hb, hml, hown, htT⟩ (m_badNow l D cA _ am r M n na hI i hi vc hvc evc) (cwV 1 htT (kg_V m_ml_X6_194 m_im_X6_badNow m_sl_X6_badNow m_in_X6 m_cd_X6_badNow) rfl rfl rfl (by decide +kernel) ⟨Nat.le_of_ble_eq_true rfl, Nat.le_of_ble_eq_true rfl⟩) (kp_V hK hP hD hTB (km_rc hK hP)) rfl rfl hl.1 rfl (lv_room (Nat.le_of_ble_eq_true rfl)) dX6_isTrustedNow_73 ⟨Nat.le_of_ble_eq_true rfl, Nat.le_of_ble_eq_true rfl⟩) hD hS hA (fun r_3 x_3 H locs hq_3 hP hD hS => ?_)
      rw [hq_3.1]
      rw [hq_3.2] at hP hD
      refine lv_iload_n hx hb dX6_isTrustedNow_76 rfl (lv_at hl 1 rfl) ?_
      refine lv_iconst (v := 2) hx hb dX6_isTrustedNow_77 (by decide) ?_
      refine lv_icmp_ne (tgt := 87) hx hb dX6_isTrustedNow_78 (by decide) (fun c_4 => ?_) (fun c_4 => ?_)
      · refine lv_iload_n hx hb dX6_isTrustedNow_87 rfl (lv_at hl 1 rfl) ?_
        refine lv_iconst (v := 3) hx hb dX6_isTrustedNow_88 (by decide) ?_
        refine lv_icmp_ne (tgt := 98) hx hb dX6_isTrustedNow_89 (by decide) (fun c_5 => ?_) (fun c_5 => ?_)
        · refine lv_sipush (v := 781) hx hb dX6_isTrustedNow_98 (by decide) ?_
          refine lv_icmp_gt (tgt := 108) hx hb dX6_isTrustedNow_101 (by decide) (fun c_6 => ?_) (fun c_6 => ?_)
          · refine lv_iconst (v := 0) hx hb dX6_isTrustedNow_108 (by decide) ?_
            exact W.zret (v := 0) hx hb hr (rfl) (fun t ht hW => ⟨⟨0, M, rfl, ⟨by rw [hF, show vc - j = 0 by omega]; simp [rTru, kMost, c_2, c_4, c_5, c_6], rfl⟩, by rw [ht]; exact hP, va_K.moved hW.alike hK, hD⟩, hS.F ht⟩) hS.2.2 dX6_isTrustedNow_109
          · refine lv_iconst (v := 1) hx hb dX6_isTrustedNow_104 (by decide) ?_
            refine lv_goto (tgt := 109) hx hb dX6_isTrustedNow_105 (by decide) ?_
            exact W.zret (v := 1) hx hb hr (rfl) (fun t ht hW => ⟨⟨1, M, rfl, ⟨by rw [hF, show vc - j = 0 by omega]; simp [rTru, kMost, c_2, c_4, c_5, c_6], rfl⟩, by rw [ht]; exact hP, va_K.moved hW.alike hK, hD⟩, hS.F ht⟩) hS.2.2 dX6_isTrustedNow_109
        · refine lv_sipush (v := 599) hx hb dX6_isTrustedNow_92 (by decide) ?_
          refine lv_goto (tgt := 101) hx hb dX6_isTrustedNow_95 (by decide) ?_
          refine lv_icmp_gt (tgt := 108) hx hb dX6_isTrustedNow_101 (by decide) (fun c_7 => ?_) (fun c_7 => ?_)
          · refine lv_iconst (v := 0) hx hb dX6_isTrustedNow_108 (by decide) ?_
            exact W.zret (v := 0) hx hb hr (rfl) (fun t ht hW => ⟨⟨0, M, rfl, ⟨by rw [hF, show vc - j = 0 by omega]; simp [rTru, kMost, c_2, c_4, c_5, c_7], rfl⟩, by rw [ht]; exact hP, va_K.moved hW.alike hK, hD⟩, hS.F ht⟩) hS.2.2 dX6_isTrustedNow_109
          · refine lv_iconst (v := 1) hx hb dX6_isTrustedNow_104 (by decide) ?_
            refine lv_goto (tgt := 109) hx hb dX6_isTrustedNow_105 (by decide) ?_
            exact W.zret (v := 1) hx hb hr (rfl) (fun t ht hW => ⟨⟨1, M, rfl, ⟨by rw [hF, show vc - j = 0 by omega]; simp [rTru, kMost, c_2, c_4, c_5, c_7], rfl⟩, by rw [ht]; exact hP, va_K.moved hW.alike hK, hD⟩, hS.F ht⟩) hS.2.2 dX6_isTrustedNow_109
      · refine lv_sipush (v := 384) hx hb dX6_isTrustedNow_81 (by decide) ?_
        refine lv_goto (tgt := 101) hx hb dX6_isTrustedNow_84 (by decide) ?_
        refine lv_icmp_gt (tgt := 108) hx hb dX6_isTrustedNow_101 (by decide) (fun c_8 => ?_) (fun c_8 => ?_)
        · refine lv_iconst (v := 0) hx hb dX6_isTrustedNow_108 (by decide) ?_
          exact W.zret (v := 0) hx hb hr (rfl) (fun t ht hW => ⟨⟨0, M, rfl, ⟨by rw [hF, show vc - j = 0 by omega]; simp [rTru, kMost, c_2, c_4, c_8], rfl⟩, by rw [ht]; exact hP, va_K.moved hW.alike hK, hD⟩, hS.F ht⟩) hS.2.2 dX6_isTrustedNow_109
        · refine lv_iconst (v := 1) hx hb dX6_isTrustedNow_104 (by decide) ?_
          refine lv_goto (tgt := 109) hx hb dX6_isTrustedNow_105 (by decide) ?_
          exact W.zret (v := 1) hx hb hr (rfl) (fun t ht hW => ⟨⟨1, M, rfl, ⟨by rw [hF, show vc - j = 0 by omega]; simp [rTru, kMost, c_2, c_4, c_8], rfl⟩, by rw [ht]; exact hP, va_K.moved hW.alike hK, hD⟩, hS.F ht⟩) hS.2.2 dX6_isTrustedNow_109
  · replace c_1 : ¬ (vc ≤ j) := fun h9 => c_1 ((nI_leI (a := vc) (b := j) (by omega) (by omega)).mpr h9)
    refine lv_iload_n hx hb dX6_isTrustedNow_14 rfl (lv_at hl 1 rfl) ?_
    refine lv_aload_n hx hb dX6_isTrustedNow_15 rfl (lv_at hl 3 rfl) ?_
    refine km_getr hx hb htT hown hK hP 6 (by decide) rfl (htT _ m_fl_X6_16) dX6_isTrustedNow_16 ?_
    refine lv_iload_n hx hb dX6_isTrustedNow_19 rfl (lv_at hl 2 rfl) ?_
    refine lv_iconst (v := 4) hx hb dX6_isTrustedNow_20 (by decide) ?_
    refine lv_imul hx hb dX6_isTrustedNow_21 ?_
    rw [show ((nI i) * 4 : Int32) = nI (4 * i) from (pk_mul i 4).trans (congrArg nI (by omega))]
    refine lv_iload_n hx hb dX6_isTrustedNow_22 rfl (lv_at hl 0 rfl) ?_
    refine lv_iadd hx hb dX6_isTrustedNow_23 ?_
    rw [show ((nI (4 * i)) + (nI j) : Int32) = nI ((4 * i) + j) from nI_add (4 * i) j]
    refine km_ialdv (x := (M.2 6) ((4 * i) + j)) hx hb hK hP 6 rfl rfl (show vp_in (nI ((4 * i) + j)) 32 from ki_in (by omega) (by decide)) (congrArg _ (ki_cl (by omega))) dX6_isTrustedNow_24 ?_
    refine lv_if_le (tgt := 32) hx hb dX6_isTrustedNow_25 (by decide) (fun c_9 => ?_) (fun c_9 => ?_)
    · replace c_9 := Int32.not_lt.mpr c_9
      refine lv_iconst (v := 0) hx hb dX6_isTrustedNow_32 (by decide) ?_
      refine lv_iadd hx hb dX6_isTrustedNow_33 ?_
      refine lv_istore_n (lv' := [(2, .int (acc + 0)), (3, .int (nI j)), (1, .int (nI i)), (0, .ref am)]) hx hb dX6_isTrustedNow_34 rfl hl (by decide) rfl (fun ls hl => ?_)
      refine lv_aload_n hx hb dX6_isTrustedNow_35 rfl (lv_at hl 3 rfl) ?_
      refine km_getr hx hb htT hown hK hP 6 (by decide) rfl (htT _ m_fl_X6_16) dX6_isTrustedNow_36 ?_
      refine lv_iload_n hx hb dX6_isTrustedNow_39 rfl (lv_at hl 2 rfl) ?_
      refine lv_iconst (v := 4) hx hb dX6_isTrustedNow_40 (by decide) ?_
      refine lv_imul hx hb dX6_isTrustedNow_41 ?_
      rw [show ((nI i) * 4 : Int32) = nI (4 * i) from (pk_mul i 4).trans (congrArg nI (by omega))]
      refine lv_iload_n hx hb dX6_isTrustedNow_42 rfl (lv_at hl 1 rfl) ?_
      refine lv_iadd hx hb dX6_isTrustedNow_43 ?_
      rw [show ((nI (4 * i)) + (nI j) : Int32) = nI ((4 * i) + j) from nI_add (4 * i) j]
      refine km_ialdv (x := (M.2 6) ((4 * i) + j)) hx hb hK hP 6 rfl rfl (show vp_in (nI ((4 * i) + j)) 32 from ki_in (by omega) (by decide)) (congrArg _ (ki_cl (by omega))) dX6_isTrustedNow_44 ?_
      refine lv_if_ne (tgt := 60) hx hb dX6_isTrustedNow_45 (by decide) (fun c_10 => ?_) (fun c_10 => ?_)
      · refine lv_iinc (v := nI (j + 1)) (lv' := [(3, .int (nI (j + 1))), (2, .int (acc + 0)), (1, .int (nI i)), (0, .ref am)]) hx hb dX6_isTrustedNow_60 hl (k := 1) rfl (nI_1 _) (by decide) rfl (fun ls hl => ?_)
        refine lv_goto (tgt := 4) hx hb dX6_isTrustedNow_63 (by decide) ?_
        have hl := lv_sub hl [0, 1, 2, 3] rfl
        exact ih_4 _ (by omega) H locs ls ⟨j + 1, _, rfl, by omega, by rw [hF, show vc - j = (vc - (j + 1)) + 1 by omega]; simp [rTru, c_9, c_10], hP, hD, hS, hl⟩
      · refine lv_aload_n hx hb dX6_isTrustedNow_48 rfl (lv_at hl 3 rfl) ?_
        refine lv_iload_n hx hb dX6_isTrustedNow_49 rfl (lv_at hl 2 rfl) ?_
        refine lv_iload_n hx hb dX6_isTrustedNow_50 rfl (lv_at hl 1 rfl) ?_
        refine lv_iconst (v := 0) hx hb dX6_isTrustedNow_51 (by decide) ?_
        refine kc_i (va_runV (As := [.int (nI i), .int (nI j), .int 0]) (rest := []) ⟨hx, hb, hml, hown, htT⟩ (m_toldNow l D cA _ am r M na hna h22 (nI i) (nI j) 0) (cwV 3 htT (kg_V m_ml_X6_182 m_im_X6_toldNow m_sl_X6_toldNow m_in_X6 m_cd_X6_toldNow) rfl rfl rfl (by decide +kernel) ⟨Nat.le_of_ble_eq_true rfl, Nat.le_of_ble_eq_true rfl⟩) (kp_V hK hP hD hTB (km_rc hK hP)) rfl rfl hl.1 rfl (lv_room (Nat.le_of_ble_eq_true rfl)) dX6_isTrustedNow_52 ⟨Nat.le_of_ble_eq_true rfl, Nat.le_of_ble_eq_true rfl⟩) hD hS hA (fun r_11 x_11 H locs hq_11 hP hD hS => ?_)
        rw [hq_11.1]
        rw [hq_11.2] at hP hD
        refine lv_if_le (tgt := 60) hx hb dX6_isTrustedNow_55 (by decide) (fun c_12 => ?_) (fun c_12 => ?_)
        · replace c_12 := Int32.not_lt.mpr c_12
          refine lv_iinc (v := nI (j + 1)) (lv' := [(3, .int (nI (j + 1))), (2, .int (acc + 0)), (1, .int (nI i)), (0, .ref am)]) hx hb dX6_isTrustedNow_60 hl (k := 1) rfl (nI_1 _) (by decide) rfl (fun ls hl => ?_)
          refine lv_goto (tgt := 4) hx hb dX6_isTrustedNow_63 (by decide) ?_
          have hl := lv_sub hl [0, 1, 2, 3] rfl
          exact ih_4 _ (by omega) H locs ls ⟨j + 1, _, rfl, by omega, by rw [hF, show vc - j = (vc - (j + 1)) + 1 by omega]; simp [rTru, c_9, c_10, c_12], hP, hD, hS, hl⟩
        · replace c_12 := Int32.not_le.mp c_12
          refine lv_iconst (v := 0) hx hb dX6_isTrustedNow_58 (by decide) ?_
          exact W.zret (v := 0) hx hb hr (rfl) (fun t ht hW => ⟨⟨0, M, rfl, ⟨by rw [hF, show vc - j = (vc - (j + 1)) + 1 by omega]; simp [rTru, c_9, c_10, c_12], rfl⟩, by rw [ht]; exact hP, va_K.moved hW.alike hK, hD⟩, hS.F ht⟩) hS.2.2 dX6_isTrustedNow_59
    · replace c_9 := Int32.not_le.mp c_9
      refine lv_iconst (v := 1) hx hb dX6_isTrustedNow_28 (by decide) ?_
      refine lv_goto (tgt := 33) hx hb dX6_isTrustedNow_29 (by decide) ?_
      refine lv_iadd hx hb dX6_isTrustedNow_33 ?_
      refine lv_istore_n (lv' := [(2, .int (acc + 1)), (3, .int (nI j)), (1, .int (nI i)), (0, .ref am)]) hx hb dX6_isTrustedNow_34 rfl hl (by decide) rfl (fun ls hl => ?_)
      refine lv_aload_n hx hb dX6_isTrustedNow_35 rfl (lv_at hl 3 rfl) ?_
      refine km_getr hx hb htT hown hK hP 6 (by decide) rfl (htT _ m_fl_X6_16) dX6_isTrustedNow_36 ?_
      refine lv_iload_n hx hb dX6_isTrustedNow_39 rfl (lv_at hl 2 rfl) ?_
      refine lv_iconst (v := 4) hx hb dX6_isTrustedNow_40 (by decide) ?_
      refine lv_imul hx hb dX6_isTrustedNow_41 ?_
      rw [show ((nI i) * 4 : Int32) = nI (4 * i) from (pk_mul i 4).trans (congrArg nI (by omega))]
      refine lv_iload_n hx hb dX6_isTrustedNow_42 rfl (lv_at hl 1 rfl) ?_
      refine lv_iadd hx hb dX6_isTrustedNow_43 ?_
      rw [show ((nI (4 * i)) + (nI j) : Int32) = nI ((4 * i) + j) from nI_add (4 * i) j]
      refine km_ialdv (x := (M.2 6) ((4 * i) + j)) hx hb hK hP 6 rfl rfl (show vp_in (nI ((4 * i) + j)) 32 from ki_in (by omega) (by decide)) (congrArg _ (ki_cl (by omega))) dX6_isTrustedNow_44 ?_
      refine lv_if_ne (tgt := 60) hx hb dX6_isTrustedNow_45 (by decide) (fun c_13 => ?_) (fun c_13 => ?_)
      · refine lv_iinc (v := nI (j + 1)) (lv' := [(3, .int (nI (j + 1))), (2, .int (acc + 1)), (1, .int (nI i)), (0, .ref am)]) hx hb dX6_isTrustedNow_60 hl (k := 1) rfl (nI_1 _) (by decide) rfl (fun ls hl => ?_)
        refine lv_goto (tgt := 4) hx hb dX6_isTrustedNow_63 (by decide) ?_
        have hl := lv_sub hl [0, 1, 2, 3] rfl
        exact ih_4 _ (by omega) H locs ls ⟨j + 1, _, rfl, by omega, by rw [hF, show vc - j = (vc - (j + 1)) + 1 by omega]; simp [rTru, c_9, c_13], hP, hD, hS, hl⟩
      · rw [c_13] at c_9
        exact absurd c_9 (by decide)

set_option maxRecDepth 100000 in
set_option maxHeartbeats 4000000 in
theorem m_bad (l : Launch) (D : va_G) (cA : Nat → ClassId) (sz : Nat) (am : Nat) (r : Nat → Nat) (M : MSt) (n i : Nat) (hi : i < n) (hn8 : n ≤ 8) (h3 : M.1 3 = nI n) (na vc : Nat) (hI : INVR n na M) (hvc : vc ≤ 4) (evc : M.2 5 i = nI vc) : Met l yX6_bad (Cond.code yX6_bad cX6_bad 2 (some .int) :: TT) ({ frames := 2, cells := 0, slots := 0, locals := 54 }) (va_Pc [.ref am, .int (nI i)] (kPre D cA (wM cA am r M) sz)) (va_Qi (fun (r_ : Int32) (x_ : MSt) => r_ = rBad M.2 i na vc ∧ x_ = mS M 0 0) (fun x_ => kB D cA (va_A (wM cA am r M) sz) (wM cA am r x_)) (va_A (wM cA am r M) sz)) 0 0 (va_A (wM cA am r M) sz) := by
  refine Met.ofW (cc := cX6_bad) (maxL := 2) (ret := (some .int)) (by decide) rfl ?_
  intro p e s m args below meth c s₁ B hml hv
  obtain ⟨rfl, hsz, hP, hK, hD0, hTB⟩ := hv
  have hx := B.exec
  have hb := B.bytes
  have hr := B.returns
  have hts := atoms_spec (ws := Cond.code yX6_bad cX6_bad 2 (some .int) :: TT) B.pre
  have htT : ∀ w ∈ TT, w.before _ s = true := fun w h => hts w (List.mem_cons_of_mem _ h)
  have hown : s.vm.findClass RX6 = some m.cls := findClass_of_methodNamed B.named
  have hlocks := B.notSynchronized
  subst hsz
  have hD := hD0.self (sz := s.heap.size)
  generalize hAe : va_A (wM cA am r M) s.heap.size = A at hD ⊢
  have hA : ∀ q : Nat, s.heap.size ≤ q → A q := fun q h => by rw [← hAe]; exact Or.inr h
  have hS : va_S A s.heap s.heap [] := va_S.rf
  have hl := lv_entry ([.ref am, .int (nI i)]) (n := 2) (Nat.le_of_ble_eq_true rfl)
  rw [lg_entry_eq]
  generalize (lg_sl ([.ref am, .int (nI i)]) ++ List.replicate (2 - (lg_sl ([.ref am, .int (nI i)])).length) Slot.unset).toArray = ls at hl ⊢
  have hl : lv_has ls 2 [(0, .ref am), (1, .int (nI i))] := hl
  have hsw1 := kIn_sw hi hn8 h3
  refine lv_aload_n hx hb dX6_bad_0 rfl (lv_at hl 0 rfl) ?_
  refine lv_iconst (v := 0) hx hb dX6_bad_1 (by decide) ?_
  refine km_puti hx hb htT hown hK hP hD hS 0 (by decide) rfl (htT _ m_fl_X6_80) rfl (by decide +kernel) dX6_bad_2 (fun H locs hP hD hS => ?_)
  refine lv_aload_n hx hb dX6_bad_5 rfl (lv_at hl 0 rfl) ?_
  refine lv_iload_n hx hb dX6_bad_6 rfl (lv_at hl 1 rfl) ?_
  refine kc_i (va_runV (As := [.int (nI i)]) (rest := []) ⟨hx, hb, hml, hown, htT⟩ (m_isSwitch l D cA _ am r (mS M 0 0) (nI i)) (cwV 1 htT (kg_V m_ml_X6_91 m_im_X6_isSwitch m_sl_X6_isSwitch m_in_X6 m_cd_X6_isSwitch) rfl rfl rfl (by decide +kernel) ⟨Nat.le_of_ble_eq_true rfl, Nat.le_of_ble_eq_true rfl⟩) (kp_V hK hP hD hTB (km_rc hK hP)) rfl rfl hl.1 rfl (lv_room (Nat.le_of_ble_eq_true rfl)) dX6_bad_7 ⟨Nat.le_of_ble_eq_true rfl, Nat.le_of_ble_eq_true rfl⟩) hD hS hA (fun r_1 x_1 H locs hq_1 hP hD hS => ?_)
  rw [hq_1.1.trans hsw1]
  rw [hq_1.2] at hP hD
  refine lv_if_eq (tgt := 21) hx hb dX6_bad_10 (by decide) (fun c_2 => absurd c_2 (by decide)) (fun _ => ?_)
  refine lv_aload_n hx hb dX6_bad_13 rfl (lv_at hl 0 rfl) ?_
  refine lv_iload_n hx hb dX6_bad_14 rfl (lv_at hl 1 rfl) ?_
  refine kc_i (va_runV (As := [.int (nI i)]) (rest := []) ⟨hx, hb, hml, hown, htT⟩ (m_badNow l D cA _ am r (mS M 0 0) n na (hI.iS (by decide) (by decide)) i hi vc hvc evc) (cwV 1 htT (kg_V m_ml_X6_194 m_im_X6_badNow m_sl_X6_badNow m_in_X6 m_cd_X6_badNow) rfl rfl rfl (by decide +kernel) ⟨Nat.le_of_ble_eq_true rfl, Nat.le_of_ble_eq_true rfl⟩) (kp_V hK hP hD hTB (km_rc hK hP)) rfl rfl hl.1 rfl (lv_room (Nat.le_of_ble_eq_true rfl)) dX6_bad_15 ⟨Nat.le_of_ble_eq_true rfl, Nat.le_of_ble_eq_true rfl⟩) hD hS hA (fun r_3 x_3 H locs hq_3 hP hD hS => ?_)
  rw [hq_3.1]
  rw [hq_3.2] at hP hD
  refine lv_goto (tgt := 26) hx hb dX6_bad_18 (by decide) ?_
  exact W.iret (v := rBad M.2 i na vc) hx hb hr (fun t ht hW => ⟨⟨rBad M.2 i na vc, mS M 0 0, rfl, ⟨rfl, rfl⟩, by rw [ht]; exact hP, va_K.moved hW.alike hK, hD⟩, hS.F ht⟩) hS.2.2 dX6_bad_26

theorem rTru_01 (T : Rows) (i na : Nat) (bd : Int32) : ∀ c k acc, rTru T i na bd c k acc = 0 ∨ rTru T i na bd c k acc = 1 := by
  intro c
  induction c with
  | zero =>
    intro k acc
    unfold rTru
    repeat' split
    all_goals first | exact Or.inl rfl | exact Or.inr rfl
  | succ c ih =>
    intro k acc
    unfold rTru
    repeat' split
    all_goals first | exact Or.inl rfl | exact ih _ _
set_option maxRecDepth 100000 in
set_option maxHeartbeats 4000000 in
theorem m_isTrusted (l : Launch) (D : va_G) (cA : Nat → ClassId) (sz : Nat) (am : Nat) (r : Nat → Nat) (M : MSt) (n i : Nat) (hi : i < n) (hn8 : n ≤ 8) (h3 : M.1 3 = nI n) (na vc : Nat) (hI : INVR n na M) (hvc : vc ≤ 4) (evc : M.2 5 i = nI vc) : Met l yX6_isTrusted (Cond.code yX6_isTrusted cX6_isTrusted 2 (some .boolean) :: TT) ({ frames := 3, cells := 0, slots := 0, locals := 77 }) (va_Pc [.ref am, .int (nI i)] (kPre D cA (wM cA am r M) sz)) (va_Qi (fun (r_ : Int32) (x_ : MSt) => r_ = rTru M.2 i na (rBad M.2 i na vc) vc 0 0 ∧ x_ = mS M 0 0) (fun x_ => kB D cA (va_A (wM cA am r M) sz) (wM cA am r x_)) (va_A (wM cA am r M) sz)) 0 0 (va_A (wM cA am r M) sz) := by
  refine Met.ofW (cc := cX6_isTrusted) (maxL := 2) (ret := (some .boolean)) (by decide) rfl ?_
  intro p e s m args below meth c s₁ B hml hv
  obtain ⟨rfl, hsz, hP, hK, hD0, hTB⟩ := hv
  have hx := B.exec
  have hb := B.bytes
  have hr := B.returns
  have hts := atoms_spec (ws := Cond.code yX6_isTrusted cX6_isTrusted 2 (some .boolean) :: TT) B.pre
  have htT : ∀ w ∈ TT, w.before _ s = true := fun w h => hts w (List.mem_cons_of_mem _ h)
  have hown : s.vm.findClass RX6 = some m.cls := findClass_of_methodNamed B.named
  have hlocks := B.notSynchronized
  subst hsz
  have hD := hD0.self (sz := s.heap.size)
  generalize hAe : va_A (wM cA am r M) s.heap.size = A at hD ⊢
  have hA : ∀ q : Nat, s.heap.size ≤ q → A q := fun q h => by rw [← hAe]; exact Or.inr h
  have hS : va_S A s.heap s.heap [] := va_S.rf
  have hl := lv_entry ([.ref am, .int (nI i)]) (n := 2) (Nat.le_of_ble_eq_true rfl)
  rw [lg_entry_eq]
  generalize (lg_sl ([.ref am, .int (nI i)]) ++ List.replicate (2 - (lg_sl ([.ref am, .int (nI i)])).length) Slot.unset).toArray = ls at hl ⊢
  have hl : lv_has ls 2 [(0, .ref am), (1, .int (nI i))] := hl
  have hsw1 := kIn_sw hi hn8 h3
  refine lv_aload_n hx hb dX6_isTrusted_0 rfl (lv_at hl 0 rfl) ?_
  refine lv_iconst (v := 0) hx hb dX6_isTrusted_1 (by decide) ?_
  refine km_puti hx hb htT hown hK hP hD hS 0 (by decide) rfl (htT _ m_fl_X6_80) rfl (by decide +kernel) dX6_isTrusted_2 (fun H locs hP hD hS => ?_)
  refine lv_aload_n hx hb dX6_isTrusted_5 rfl (lv_at hl 0 rfl) ?_
  refine lv_iload_n hx hb dX6_isTrusted_6 rfl (lv_at hl 1 rfl) ?_
  refine kc_i (va_runV (As := [.int (nI i)]) (rest := []) ⟨hx, hb, hml, hown, htT⟩ (m_isSwitch l D cA _ am r (mS M 0 0) (nI i)) (cwV 1 htT (kg_V m_ml_X6_91 m_im_X6_isSwitch m_sl_X6_isSwitch m_in_X6 m_cd_X6_isSwitch) rfl rfl rfl (by decide +kernel) ⟨Nat.le_of_ble_eq_true rfl, Nat.le_of_ble_eq_true rfl⟩) (kp_V hK hP hD hTB (km_rc hK hP)) rfl rfl hl.1 rfl (lv_room (Nat.le_of_ble_eq_true rfl)) dX6_isTrusted_7 ⟨Nat.le_of_ble_eq_true rfl, Nat.le_of_ble_eq_true rfl⟩) hD hS hA (fun r_1 x_1 H locs hq_1 hP hD hS => ?_)
  rw [hq_1.1.trans hsw1]
  rw [hq_1.2] at hP hD
  refine lv_if_eq (tgt := 21) hx hb dX6_isTrusted_10 (by decide) (fun c_2 => absurd c_2 (by decide)) (fun _ => ?_)
  refine lv_aload_n hx hb dX6_isTrusted_13 rfl (lv_at hl 0 rfl) ?_
  refine lv_iload_n hx hb dX6_isTrusted_14 rfl (lv_at hl 1 rfl) ?_
  refine kc_i (va_runV (As := [.int (nI i)]) (rest := []) ⟨hx, hb, hml, hown, htT⟩ (m_isTrustedNow l D cA _ am r (mS M 0 0) n na (hI.iS (by decide) (by decide)) i hi vc hvc evc) (cwV 1 htT (kg_V m_ml_X6_197 m_im_X6_isTrustedNow m_sl_X6_isTrustedNow m_in_X6 m_cd_X6_isTrustedNow) rfl rfl rfl (by decide +kernel) ⟨Nat.le_of_ble_eq_true rfl, Nat.le_of_ble_eq_true rfl⟩) (kp_V hK hP hD hTB (km_rc hK hP)) rfl rfl hl.1 rfl (lv_room (Nat.le_of_ble_eq_true rfl)) dX6_isTrusted_15 ⟨Nat.le_of_ble_eq_true rfl, Nat.le_of_ble_eq_true rfl⟩) hD hS hA (fun r_3 x_3 H locs hq_3 hP hD hS => ?_)
  rw [hq_3.1]
  rw [hq_3.2] at hP hD
  refine lv_goto (tgt := 26) hx hb dX6_isTrusted_18 (by decide) ?_
  exact W.zret (v := rTru M.2 i na (rBad M.2 i na vc) vc 0 0) hx hb hr ((kz_b (rTru_01 _ _ _ _ _ _ _)).1) (fun t ht hW => ⟨⟨rTru M.2 i na (rBad M.2 i na vc) vc 0 0, mS M 0 0, rfl, ⟨rfl, rfl⟩, by rw [ht]; exact hP, va_K.moved hW.alike hK, hD⟩, hS.F ht⟩) hS.2.2 dX6_isTrusted_26

/-! badness and trust: both sides alike -/
theorem rNum_n {T : Rows} {i na : Nat} : ∀ c k, rNum T i na c k (nI (sumN (fun v => nT T (nI i) (nI v) na) k)) = nI (sumN (fun v => nT T (nI i) (nI v) na) (k + c)) := by
  intro c
  induction c with
  | zero => intro k; rfl
  | succ c ih =>
    intro k
    show rNum T i na c (k + 1) (nI (sumN (fun v => nT T (nI i) (nI v) na) k) + rTold T (nI i) (nI k) 0 na 0 0) = _
    rw [rT_0, nI_add]
    have h := ih (k + 1)
    rw [sumN_s] at h
    rw [h, show k + 1 + c = k + (c + 1) by omega]
theorem sumN_z {f : Nat → Nat} {a : Nat} : ∀ d, (∀ w, a ≤ w → w < a + d → f w = 0) → sumN f (a + d) = sumN f a := by
  intro d
  induction d with
  | zero => intro _; rfl
  | succ d ih =>
    intro h
    rw [show a + (d + 1) = (a + d) + 1 by omega, sumN_s, ih (fun w h1 h2 => h w h1 (by omega)), h (a + d) (by omega) (by omega), Nat.add_zero]
theorem pos_mul {m x : Nat} (hm : 0 < m) (hm2 : m ≤ 100) (hx : x ≤ 1000) : 0 < lg_cmp ((nI m).toInt64 * (nI x).toInt64) 0 ↔ 0 < x := by
  have hb : m * x ≤ 100 * 1000 := Nat.mul_le_mul hm2 hx
  have e : ((nI m).toInt64 * (nI x).toInt64).toInt = ((m * x : Nat) : Int) := by
    rw [Int64.toInt_mul, Int32.toInt_toInt64, Int32.toInt_toInt64, nI_toInt (by omega), nI_toInt (by omega), ← Int.natCast_mul]
    exact Int.bmod_eq_of_le (by omega) (by omega)
  have e0 : (0 : Int64).toInt = 0 := rfl
  rw [show (0 < lg_cmp ((nI m).toInt64 * (nI x).toInt64) 0) ↔ (0 : Int64) < (nI m).toInt64 * (nI x).toInt64 from lg_cmp_gt _ 0, Int64.lt_iff_toInt_lt, e, e0]
  constructor
  · intro h
    rcases Nat.eq_zero_or_pos x with q | q
    · rw [q, Nat.mul_zero] at h; exact absurd h (by decide)
    · exact q
  · intro h
    exact Int.natCast_pos.mpr (Nat.mul_pos hm h)
theorem pos_w {x : Nat} (hx : x ≤ 1000) : 0 < lg_cmp (nI x).toInt64 0 ↔ 0 < x := by
  have e0 : (0 : Int64).toInt = 0 := rfl
  rw [show (0 < lg_cmp (nI x).toInt64 0) ↔ (0 : Int64) < (nI x).toInt64 from lg_cmp_gt _ 0, Int64.lt_iff_toInt_lt, Int32.toInt_toInt64, nI_toInt (by omega), e0]
  omega
theorem pos_i {x : Nat} (hx : x ≤ 1000) : (0 : Int32) < nI x ↔ 0 < x := nI_ltI (a := 0) (b := x) (by omega) (by omega)
/-- what a switch's numbers tell of its variants -/
theorem tal_vc {n na i a : Nat} {S : Pool} {M : MSt} {ar : Nat} (h : TAL n na S M ar) (hL : REL True n na S M ar) (hna : na ≤ 100) (hi : i < n) (ha : gP S ar i = some a) {vc : Nat} (evc : M.2 5 i = nI vc) (hvc : vc ≤ 4) :
    (∀ v, v < 4 → cTal S (tkA S a 0) (nI v) = nI (nT M.2 (nI i) (nI v) na) ∧ ∃ x, x ≤ 1000 ∧ gR S (wtA S a) v = nI x ∧ M.2 6 (4 * i + v) = nI x ∧ (vc ≤ v → x = 0)) ∧ (∀ v, vc ≤ v → v < 4 → nT M.2 (nI i) (nI v) na = 0)
    ∧ gI S (tyA S a) 4 = nI (sumN (fun v => nT M.2 (nI i) (nI v) na) vc) ∧ sumN (fun v => nT M.2 (nI i) (nI v) na) vc ≤ 100 ∧ rNum M.2 i na vc 0 0 = nI (sumN (fun v => nT M.2 (nI i) (nI v) na) vc) := by
  obtain ⟨b1, b2, -⟩ := h.1 i hi a ha
  obtain ⟨vc2, a1, a2, a3, a4, a5⟩ := h.2.2.2.1 i hi
  have e : vc2 = vc := (nI_eq (a := vc2) (b := vc) (by omega) (by omega)).mp (a3.symm.trans evc)
  subst e
  have hz : ∀ v, vc2 ≤ v → v < 4 → nT M.2 (nI i) (nI v) na = 0 := fun v h1 h2 => nT_z na (fun k hk e23 e25 => by
    obtain ⟨w, hw, ew⟩ := a5 k hk e23
    have := (nI_eq (a := w) (b := v) (by omega) (by omega)).mp (ew.symm.trans e25)
    omega)
  have hc : ∀ v, v < 4 → gR S (tkA S a 0) v = nI (nT M.2 (nI i) (nI v) na) := fun v hv => ((b1 v hv).1).trans (rT_0 _ _ _ _)
  have hs4 : sumN (fun v => nT M.2 (nI i) (nI v) na) 4 = sumN (fun v => nT M.2 (nI i) (nI v) na) vc2 := by
    have := sumN_z (f := fun v => nT M.2 (nI i) (nI v) na) (a := vc2) (4 - vc2) (fun w h1 h2 => hz w h1 (by omega))
    rw [show vc2 + (4 - vc2) = 4 by omega] at this
    exact this
  have hle : sumN (fun v => nT M.2 (nI i) (nI v) na) 4 ≤ na := by
    have := nT_sum M.2 (nI i) na
    show 0 + nT M.2 (nI i) (nI 0) na + nT M.2 (nI i) (nI 1) na + nT M.2 (nI i) (nI 2) na + nT M.2 (nI i) (nI 3) na ≤ na
    omega
  refine ⟨fun v hv => ⟨(cTal_n hv).trans (hc v hv), ?_⟩, hz, ?_, by omega, ?_⟩
  · obtain ⟨r1, x, x1, x2⟩ := (hL.1 i hi a ha).2.1 v hv
    refine ⟨x, x1, r1.trans x2, x2, fun hv2 => ?_⟩
    have := a4 v hv2 hv
    exact (nI_eq (a := x) (b := 0) (by omega) (by omega)).mp (x2.symm.trans this)
  · rw [b2, hc 0 (by decide), hc 1 (by decide), hc 2 (by decide), hc 3 (by decide), nI_add, nI_add, nI_add, ← hs4]
    exact congrArg nI (show nT M.2 (nI i) (nI 0) na + nT M.2 (nI i) (nI 1) na + nT M.2 (nI i) (nI 2) na + nT M.2 (nI i) (nI 3) na = 0 + nT M.2 (nI i) (nI 0) na + nT M.2 (nI i) (nI 1) na + nT M.2 (nI i) (nI 2) na + nT M.2 (nI i) (nI 3) na by rw [Nat.zero_add])
  · have := rNum_n (T := M.2) (i := i) (na := na) vc2 0
    rw [Nat.zero_add] at this
    exact this
theorem cBadL_z {S : Pool} {wt t0 : Nat} {n : Int64} : ∀ d k acc, (∀ w, k ≤ w → w < k + d → ¬ 0 < lg_cmp (n * (gR S wt w).toInt64) 0) → cBadL S wt t0 n d k acc = acc := by
  intro d
  induction d with
  | zero => intro k acc _; rfl
  | succ d ih =>
    intro k acc h
    unfold cBadL
    rw [if_neg (h k (Nat.le_refl _) (by omega))]
    exact ih (k + 1) acc (fun w h1 h2 => h w (by omega) (by omega))
theorem bad_eq {n na i a vc : Nat} {S : Pool} {M : MSt} {ar : Nat} (h : TAL n na S M ar) (hL : REL True n na S M ar) (hna : na ≤ 100) (hi : i < n) (ha : gP S ar i = some a) (evc : M.2 5 i = nI vc) (hvc : vc ≤ 4) : cBad S a = rBad M.2 i na vc := by
  obtain ⟨h1, h2, h3, h4, h5⟩ := tal_vc h hL hna hi ha evc hvc
  unfold cBad rBad
  rw [h3, h5]
  generalize sumN (fun v => nT M.2 (nI i) (nI v) na) vc = m at h4 ⊢
  refine congrArg Int64.toInt32 ?_
  have skip : ∀ w, w < 4 → (m = 0 ∨ vc ≤ w) → ¬ 0 < lg_cmp ((nI m).toInt64 * (gR S (wtA S a) w).toInt64) 0 := by
    intro w hw hq
    obtain ⟨x, x1, x2, -, x4⟩ := (h1 w hw).2
    rw [x2]
    rcases Nat.eq_zero_or_pos m with q | q
    · rw [q, show (nI 0).toInt64 = 0 from rfl, Int64.zero_mul]; decide
    · rw [pos_mul q h4 x1, x4 (by omega)]; decide
  rcases Nat.eq_zero_or_pos m with q | q
  · rw [cBadL_z 4 0 0 (fun w _ hw => skip w (by omega) (Or.inl q)), q, if_neg (by decide)]
  · rw [if_pos (show (0 : Int32) < nI m from (nI_ltI (a := 0) (b := m) (by omega) (by omega)).mpr q)]
    have key : ∀ c k acc, k + c = vc → cBadL S (wtA S a) (tkA S a 0) (nI m).toInt64 (c + (4 - vc)) k acc = rBadL M.2 i na (nI m).toInt64 c k acc := by
      intro c
      induction c with
      | zero =>
        intro k acc hk
        rw [Nat.zero_add]
        exact cBadL_z (4 - vc) k acc (fun w h6 h7 => skip w (by omega) (Or.inr (by omega)))
      | succ c ih =>
        intro k acc hk
        obtain ⟨y1, x, x1, x2, x3, -⟩ := h1 k (by omega)
        rw [show c + 1 + (4 - vc) = (c + (4 - vc)) + 1 by omega]
        unfold cBadL rBadL
        rw [y1, x2, x3, rT_0]
        by_cases hx : 0 < x
        · rw [if_pos ((pos_mul q h4 x1).mpr hx), if_pos ((pos_w x1).mpr hx)]
          exact ih (k + 1) _ (by omega)
        · rw [if_neg (fun e => hx ((pos_mul q h4 x1).mp e)), if_neg (fun e => hx ((pos_w x1).mp e))]
          exact ih (k + 1) _ (by omega)
    have := key vc 0 0 (by omega)
    rw [show vc + (4 - vc) = 4 by omega] at this
    exact this
theorem cTru_z {S : Pool} {wt t0 : Nat} {bd : Int32} : ∀ d k acc, (∀ w, k ≤ w → w < k + d → ¬ 0 < gR S wt w ∧ ¬ 0 < cTal S t0 (nI w)) → cTru S wt t0 bd d k acc = cTru S wt t0 bd 0 0 acc := by
  intro d
  induction d with
  | zero => intro k acc _; rfl
  | succ d ih =>
    intro k acc h
    obtain ⟨h1, h2⟩ := h k (Nat.le_refl _) (by omega)
    show (if 0 < gR S wt k then cTru S wt t0 bd d (k + 1) (acc + 1) else if 0 < cTal S t0 (nI k) then 0 else cTru S wt t0 bd d (k + 1) acc) = _
    rw [if_neg h1, if_neg h2]
    exact ih (k + 1) acc (fun w h3 h4 => h w (by omega) (by omega))
theorem trust_eq {n na nm i a vc : Nat} {S : Pool} {M : MSt} {ar : Nat} (h : TAL n na S M ar) (hL : REL True n na S M ar) (hI : INVR n nm M) (hna : na ≤ 100) (hi : i < n) (ha : gP S ar i = some a) (evc : M.2 5 i = nI vc) (hvc : vc ≤ 4) : cTrus S a = rTru M.2 i na (rBad M.2 i na vc) vc 0 0 := by
  obtain ⟨h1, h2, h3, h4, h5⟩ := tal_vc h hL hna hi ha evc hvc
  unfold cTrus
  rw [bad_eq h hL hna hi ha evc hvc]
  generalize rBad M.2 i na vc = bd
  have hsome : ∃ w, 0 ≤ w ∧ w < vc ∧ M.2 6 (4 * i + w) ≠ 0 := by
    apply Classical.byContradiction
    intro hno
    have hall : ∀ w, w < 4 → M.2 6 (4 * i + w) = 0 := by
      intro w hw
      rcases Nat.lt_or_ge w vc with q | q
      · apply Classical.byContradiction
        intro hne
        exact hno ⟨w, Nat.zero_le _, q, hne⟩
      · obtain ⟨x, -, -, x3, x4⟩ := (h1 w hw).2
        rw [x3, x4 q]; rfl
    have hac := hI.acc hi
    rw [rAcc_4, show M.2 6 (4 * i) = 0 from hall 0 (by decide), hall 1 (by decide), hall 2 (by decide), hall 3 (by decide)] at hac
    exact absurd hac (by decide)
  have key : ∀ c k A, k + c = vc → A ≤ k → (0 < A ∨ ∃ w, k ≤ w ∧ w < vc ∧ M.2 6 (4 * i + w) ≠ 0) → cTru S (wtA S a) (tkA S a 0) bd (c + (4 - vc)) k (nI A) = rTru M.2 i na bd c k (nI A) := by
    intro c
    induction c with
    | zero =>
      intro k A hk hA hq
      rw [Nat.zero_add, cTru_z (4 - vc) k (nI A) (fun w h6 h7 => by
        obtain ⟨y1, x, x1, x2, x3, x4⟩ := h1 w (by omega)
        rw [y1, x2, x4 (by omega), h2 w (by omega) (by omega)]
        exact ⟨by decide, by decide⟩)]
      have hA0 : 0 < A := by
        rcases hq with q | ⟨w, w1, w2, -⟩
        · exact q
        · omega
      show (if nI A < 2 then 1 else if kMost (nI A) < bd then 0 else 1) = (if nI A = 1 then 1 else if kMost (nI A) < bd then 0 else 1)
      by_cases h9 : A = 1
      · rw [h9, if_pos (by decide), if_pos (by decide)]
      · rw [if_neg (fun e => by have := (nI_ltI (a := A) (b := 2) (by omega) (by omega)).mp e; omega), if_neg (show ¬ nI A = 1 from fun e => h9 ((nI_eq (a := A) (b := 1) (by omega) (by omega)).mp e))]
    | succ c ih =>
      intro k A hk hA hq
      obtain ⟨y1, x, x1, x2, x3, -⟩ := h1 k (by omega)
      rw [show c + 1 + (4 - vc) = (c + (4 - vc)) + 1 by omega]
      show (if 0 < gR S (wtA S a) k then cTru S (wtA S a) (tkA S a 0) bd (c + (4 - vc)) (k + 1) (nI A + 1) else if 0 < cTal S (tkA S a 0) (nI k) then 0 else cTru S (wtA S a) (tkA S a 0) bd (c + (4 - vc)) (k + 1) (nI A)) = (if 0 < M.2 6 (4 * i + k) then (if M.2 6 (4 * i + k) = 0 then (if 0 < rTold M.2 (nI i) (nI k) 0 na 0 0 then 0 else rTru M.2 i na bd c (k + 1) (nI A + 1)) else rTru M.2 i na bd c (k + 1) (nI A + 1)) else (if M.2 6 (4 * i + k) = 0 then (if 0 < rTold M.2 (nI i) (nI k) 0 na 0 0 then 0 else rTru M.2 i na bd c (k + 1) (nI A)) else rTru M.2 i na bd c (k + 1) (nI A)))
      rw [y1, x2, x3, rT_0]
      by_cases hx : 0 < x
      · have hne : ¬ nI x = 0 := fun e => by have := (nI_eq (a := x) (b := 0) (by omega) (by omega)).mp e; omega
        rw [if_pos ((pos_i x1).mpr hx), if_pos ((pos_i x1).mpr hx), if_neg hne]
        rw [show nI A + 1 = nI (A + 1) from nI_add A 1]
        exact ih (k + 1) (A + 1) (by omega) (by omega) (Or.inl (by omega))
      · have hx0 : x = 0 := by omega
        have e0 : nI x = 0 := by rw [hx0]; rfl
        rw [if_neg (fun e => hx ((pos_i x1).mp e)), if_neg (fun e => hx ((pos_i x1).mp e)), if_pos e0]
        by_cases hc : 0 < nI (nT M.2 (nI i) (nI k) na)
        · rw [if_pos hc, if_pos hc]
        · rw [if_neg hc, if_neg hc]
          refine ih (k + 1) A (by omega) (by omega) ?_
          rcases hq with q | ⟨w, w1, w2, w3⟩
          · exact Or.inl q
          · refine Or.inr ⟨w, ?_, w2, w3⟩
            rcases Nat.lt_or_ge k w with q | q
            · exact q
            · exfalso
              have : w = k := by omega
              rw [this, x3] at w3
              exact w3 e0
  have := key vc 0 0 (by omega) (Nat.le_refl _) (Or.inr hsome)
  rw [show vc + (4 - vc) = 4 by omega] at this
  exact this
