/-! badness and trust: both sides -/
def cBad (S : Pool) (a : Nat) : Int32 := (cBadL S (wtA S a) (tkA S a 0) (gI S (tyA S a) 4).toInt64 4 0 0).toInt32
def cTrus (S : Pool) (a : Nat) : Int32 := cTru S (wtA S a) (tkA S a 0) (cBad S a) 4 0 0
set_option maxRecDepth 100000 in
set_option maxHeartbeats 4000000 in
/-- bad -/
theorem c_badX (l : Launch) (D : va_G) (cA : Nat → ClassId) (sz : Nat) (S : Pool) (x : Nat) (hx5 : isO S x 5) (ar : Nat) (hq0 : gQ S x 0 = some ar) (ak : Nat) (hq1 : gQ S x 1 = some ak) (hak : isO S ak 1) (hR : okR S ar) (j : Nat) (hj : j < 8) (a : Nat) (hja : gP S ar j = some a) (p0 : Int32) (hsw : kSw S ar p0 = some a)  : Met l yX5_bad (Cond.code yX5_bad cX5_bad 2 (some .int) :: TT) ({ frames := 3, cells := 0, slots := 0, locals := 70 }) (va_Pc [.ref x, .int p0] (kPre D cA (PW cA S) sz)) (va_Qi (fun (r_ : Int32) (x_ : Pool) => r_ = cBad S a ∧ x_ = S) (fun x_ => kB D cA (va_A (PW cA S) sz) (PW cA x_)) (va_A (PW cA S) sz)) 0 0 (va_A (PW cA S) sz) := by
  refine Met.ofW (cc := cX5_bad) (maxL := 2) (ret := (some .int)) (by decide) rfl ?_
  intro p e s m args below meth c s₁ B hml hv
  obtain ⟨rfl, hsz, hP, hK, hD0, hTB⟩ := hv
  have hx := B.exec
  have hb := B.bytes
  have hr := B.returns
  have hts := atoms_spec (ws := Cond.code yX5_bad cX5_bad 2 (some .int) :: TT) B.pre
  have htT : ∀ w ∈ TT, w.before _ s = true := fun w h => hts w (List.mem_cons_of_mem _ h)
  have hown : s.vm.findClass RX5 = some m.cls := findClass_of_methodNamed B.named
  have hlocks := B.notSynchronized
  subst hsz
  have hD := hD0.self (sz := s.heap.size)
  generalize hAe : va_A (PW cA S) s.heap.size = A at hD ⊢
  have hA : ∀ q : Nat, s.heap.size ≤ q → A q := fun q h => by rw [← hAe]; exact Or.inr h
  have hS : va_S A s.heap s.heap [] := va_S.rf
  have hl := lv_entry ([.ref x, .int p0]) (n := 2) (Nat.le_of_ble_eq_true rfl)
  rw [lg_entry_eq]
  generalize (lg_sl ([.ref x, .int p0]) ++ List.replicate (2 - (lg_sl ([.ref x, .int p0])).length) Slot.unset).toArray = ls at hl ⊢
  have hl : lv_has ls 2 [(0, .ref x), (1, .int p0)] := hl
  obtain ⟨-, ⟨wt, hq4, hwt⟩, -, -, ⟨ty, hq6, hty, ⟨t0, hqt0, ht0⟩, ⟨t1, hqt1, ht1⟩, ⟨t2, hqt2, ht2⟩, ⟨t3, hqt3, ht3⟩⟩, -⟩ := (hR.2 j hj a hja).1
  have e0k : tkA S a 0 = t0 := by simp [tkA, tyA, hq6, hqt0]
  have e1k : tkA S a 1 = t1 := by simp [tkA, tyA, hq6, hqt1]
  have e2k : tkA S a 2 = t2 := by simp [tkA, tyA, hq6, hqt2]
  have e3k : tkA S a 3 = t3 := by simp [tkA, tyA, hq6, hqt3]
  have ewk : wtA S a = wt := by simp [wtA, hq4]
  have eyk : tyA S a = ty := by simp [tyA, hq6]
  refine lv_aload_n hx hb dX5_bad_0 rfl (lv_at hl 0 rfl) ?_
  refine lv_iload_n hx hb dX5_bad_1 rfl (lv_at hl 1 rfl) ?_
  refine kc_q (va_runV (As := [.int p0]) (rest := []) ⟨hx, hb, hml, hown, htT⟩ (c_known l D cA _ S x hx5 ar hq0 hR.1 p0 a hsw) (cwV 1 htT (kg_V m_ml_X5_45 m_im_X5_known m_sl_X5_known m_in_X5 m_cd_X5_known) rfl rfl rfl (by decide +kernel) ⟨Nat.le_of_ble_eq_true rfl, Nat.le_of_ble_eq_true rfl⟩) (kp_V hK hP hD hTB (kp_rc hK hP hx5 (Nat.le_of_ble_eq_true rfl) rfl)) rfl rfl hl.1 rfl (lv_room (Nat.le_of_ble_eq_true rfl)) dX5_bad_2 ⟨Nat.le_of_ble_eq_true rfl, Nat.le_of_ble_eq_true rfl⟩) hD hS hA (fun r_1 x_1 H locs hq_1 hP hD hS => ?_)
  rw [hq_1.1]
  rw [hq_1.2] at hP hD
  refine kc_i (va_runV (As := []) (rest := []) ⟨hx, hb, hml, hown, htT⟩ (c_badness l D cA _ S a (hR.2 j hj a hja).1.1 wt hq4 hwt ty hq6 hty t0 hqt0 ht0) (cwV 0 htT (kg_V m_ml_X5_219 m_im_X3_badness m_sl_X3_badness m_in_X3 m_cd_X3_badness) rfl rfl rfl (by decide +kernel) ⟨Nat.le_of_ble_eq_true rfl, Nat.le_of_ble_eq_true rfl⟩) (kp_V hK hP hD hTB (kp_rc hK hP ((hR.2 j hj a hja).1.1) (Nat.le_of_ble_eq_true rfl) rfl)) rfl rfl hl.1 rfl (lv_room (Nat.le_of_ble_eq_true rfl)) dX5_bad_5 ⟨Nat.le_of_ble_eq_true rfl, Nat.le_of_ble_eq_true rfl⟩) hD hS hA (fun r_2 x_2 H locs hq_2 hP hD hS => ?_)
  rw [hq_2.2] at hP hD
  exact W.iret (v := r_2) hx hb hr (fun t ht hW => ⟨⟨r_2, S, rfl, ⟨by unfold cBad; rw [ewk, e0k, eyk]; exact hq_2.1, rfl⟩, by rw [ht]; exact hP, va_K.moved hW.alike hK, hD⟩, hS.F ht⟩) hS.2.2 dX5_bad_8

set_option maxRecDepth 100000 in
set_option maxHeartbeats 4000000 in
/-- isTrusted -/
theorem c_isTrustedX (l : Launch) (D : va_G) (cA : Nat → ClassId) (sz : Nat) (S : Pool) (x : Nat) (hx5 : isO S x 5) (ar : Nat) (hq0 : gQ S x 0 = some ar) (ak : Nat) (hq1 : gQ S x 1 = some ak) (hak : isO S ak 1) (hR : okR S ar) (j : Nat) (hj : j < 8) (a : Nat) (hja : gP S ar j = some a) (p0 : Int32) (hsw : kSw S ar p0 = some a)  : Met l yX5_isTrusted (Cond.code yX5_isTrusted cX5_isTrusted 2 (some .boolean) :: TT) ({ frames := 4, cells := 0, slots := 0, locals := 92 }) (va_Pc [.ref x, .int p0] (kPre D cA (PW cA S) sz)) (va_Qi (fun (r_ : Int32) (x_ : Pool) => r_ = cTrus S a ∧ x_ = S) (fun x_ => kB D cA (va_A (PW cA S) sz) (PW cA x_)) (va_A (PW cA S) sz)) 0 0 (va_A (PW cA S) sz) := by
  refine Met.ofW (cc := cX5_isTrusted) (maxL := 2) (ret := (some .boolean)) (by decide) rfl ?_
  intro p e s m args below meth c s₁ B hml hv
  obtain ⟨rfl, hsz, hP, hK, hD0, hTB⟩ := hv
  have hx := B.exec
  have hb := B.bytes
  have hr := B.returns
  have hts := atoms_spec (ws := Cond.code yX5_isTrusted cX5_isTrusted 2 (some .boolean) :: TT) B.pre
  have htT : ∀ w ∈ TT, w.before _ s = true := fun w h => hts w (List.mem_cons_of_mem _ h)
  have hown : s.vm.findClass RX5 = some m.cls := findClass_of_methodNamed B.named
  have hlocks := B.notSynchronized
  subst hsz
  have hD := hD0.self (sz := s.heap.size)
  generalize hAe : va_A (PW cA S) s.heap.size = A at hD ⊢
  have hA : ∀ q : Nat, s.heap.size ≤ q → A q := fun q h => by rw [← hAe]; exact Or.inr h
  have hS : va_S A s.heap s.heap [] := va_S.rf
  have hl := lv_entry ([.ref x, .int p0]) (n := 2) (Nat.le_of_ble_eq_true rfl)
  rw [lg_entry_eq]
  generalize (lg_sl ([.ref x, .int p0]) ++ List.replicate (2 - (lg_sl ([.ref x, .int p0])).length) Slot.unset).toArray = ls at hl ⊢
  have hl : lv_has ls 2 [(0, .ref x), (1, .int p0)] := hl
  obtain ⟨-, ⟨wt, hq4, hwt⟩, -, -, ⟨ty, hq6, hty, ⟨t0, hqt0, ht0⟩, ⟨t1, hqt1, ht1⟩, ⟨t2, hqt2, ht2⟩, ⟨t3, hqt3, ht3⟩⟩, -⟩ := (hR.2 j hj a hja).1
  have e0k : tkA S a 0 = t0 := by simp [tkA, tyA, hq6, hqt0]
  have e1k : tkA S a 1 = t1 := by simp [tkA, tyA, hq6, hqt1]
  have e2k : tkA S a 2 = t2 := by simp [tkA, tyA, hq6, hqt2]
  have e3k : tkA S a 3 = t3 := by simp [tkA, tyA, hq6, hqt3]
  have ewk : wtA S a = wt := by simp [wtA, hq4]
  have eyk : tyA S a = ty := by simp [tyA, hq6]
  refine lv_aload_n hx hb dX5_isTrusted_0 rfl (lv_at hl 0 rfl) ?_
  refine lv_iload_n hx hb dX5_isTrusted_1 rfl (lv_at hl 1 rfl) ?_
  refine kc_q (va_runV (As := [.int p0]) (rest := []) ⟨hx, hb, hml, hown, htT⟩ (c_known l D cA _ S x hx5 ar hq0 hR.1 p0 a hsw) (cwV 1 htT (kg_V m_ml_X5_45 m_im_X5_known m_sl_X5_known m_in_X5 m_cd_X5_known) rfl rfl rfl (by decide +kernel) ⟨Nat.le_of_ble_eq_true rfl, Nat.le_of_ble_eq_true rfl⟩) (kp_V hK hP hD hTB (kp_rc hK hP hx5 (Nat.le_of_ble_eq_true rfl) rfl)) rfl rfl hl.1 rfl (lv_room (Nat.le_of_ble_eq_true rfl)) dX5_isTrusted_2 ⟨Nat.le_of_ble_eq_true rfl, Nat.le_of_ble_eq_true rfl⟩) hD hS hA (fun r_1 x_1 H locs hq_1 hP hD hS => ?_)
  rw [hq_1.1]
  rw [hq_1.2] at hP hD
  refine kc_i (va_runV (As := []) (rest := []) ⟨hx, hb, hml, hown, htT⟩ (c_canBeTrusted l D cA _ S a (hR.2 j hj a hja).1.1 wt hq4 hwt ty hq6 hty t0 hqt0 ht0) (cwV 0 htT (kg_V m_ml_X5_223 m_im_X3_canBeTrusted m_sl_X3_canBeTrusted m_in_X3 m_cd_X3_canBeTrusted) rfl rfl rfl (by decide +kernel) ⟨Nat.le_of_ble_eq_true rfl, Nat.le_of_ble_eq_true rfl⟩) (kp_V hK hP hD hTB (kp_rc hK hP ((hR.2 j hj a hja).1.1) (Nat.le_of_ble_eq_true rfl) rfl)) rfl rfl hl.1 rfl (lv_room (Nat.le_of_ble_eq_true rfl)) dX5_isTrusted_5 ⟨Nat.le_of_ble_eq_true rfl, Nat.le_of_ble_eq_true rfl⟩) hD hS hA (fun r_2 x_2 H locs hq_2 hP hD hS => ?_)
  rw [hq_2.2] at hP hD
  have hzr : r_2 = 0 ∨ r_2 = 1 := by rw [hq_2.1]; exact cTru_01 _ _ _ _ _ _ _
  exact W.zret (v := r_2) hx hb hr ((kz_b hzr).1) (fun t ht hW => ⟨⟨r_2, S, rfl, ⟨by unfold cTrus cBad; rw [ewk, e0k, eyk]; exact hq_2.1, rfl⟩, by rw [ht]; exact hP, va_K.moved hW.alike hK, hD⟩, hS.F ht⟩) hS.2.2 dX5_isTrusted_8

def rNum (T : Rows) (i na : Nat) : Nat → Nat → Int32 → Int32
  | 0, _, acc => acc
  | c + 1, k, acc => rNum T i na c (k + 1) (acc + rTold T (nI i) (nI k) 0 na 0 0)
def rBadL (T : Rows) (i na : Nat) (n : Int64) : Nat → Nat → Int64 → Int64
  | 0, _, acc => acc
  | c + 1, k, acc => if 0 < lg_cmp (T 6 (4 * i + k)).toInt64 0 then rBadL T i na n c (k + 1) (acc + ((rTold T (nI i) (nI k) 0 na 0 0).toInt64 * 1000 - n * (T 6 (4 * i + k)).toInt64) * ((rTold T (nI i) (nI k) 0 na 0 0).toInt64 * 1000 - n * (T 6 (4 * i + k)).toInt64) / (n * (T 6 (4 * i + k)).toInt64 * 10)) else rBadL T i na n c (k + 1) acc
def rBad (T : Rows) (i na vc : Nat) : Int32 := (if 0 < rNum T i na vc 0 0 then rBadL T i na (rNum T i na vc 0 0).toInt64 vc 0 0 else 0).toInt32
def rTru (T : Rows) (i na : Nat) (bd : Int32) : Nat → Nat → Int32 → Int32
  | 0, _, acc => if acc = 1 then 1 else if kMost acc < bd then 0 else 1
  | c + 1, k, acc => if 0 < T 6 (4 * i + k) then (if T 6 (4 * i + k) = 0 then (if 0 < rTold T (nI i) (nI k) 0 na 0 0 then 0 else rTru T i na bd c (k + 1) (acc + 1)) else rTru T i na bd c (k + 1) (acc + 1)) else (if T 6 (4 * i + k) = 0 then (if 0 < rTold T (nI i) (nI k) 0 na 0 0 then 0 else rTru T i na bd c (k + 1) acc) else rTru T i na bd c (k + 1) acc)
theorem rTru_01 (T : Rows) (i na : Nat) (bd : Int32) : ∀ c k acc, rTru T i na bd c k acc = 0 ∨ rTru T i na bd c k acc = 1 := by
  intro c
  induction c with
  | zero =>
    intro k acc
    unfold rTru
    repeat' split
    all_goals first | exact Or.inl rfl | exact Or.inr rfl
  | succ c ih =>
    intro k acc
    unfold rTru
    repeat' split
    all_goals first | exact Or.inl rfl | exact ih _ _
/-! badness and trust: both sides alike -/
theorem rNum_n {T : Rows} {i na : Nat} : ∀ c k, rNum T i na c k (nI (sumN (fun v => nT T (nI i) (nI v) na) k)) = nI (sumN (fun v => nT T (nI i) (nI v) na) (k + c)) := by
  intro c
  induction c with
  | zero => intro k; rfl
  | succ c ih =>
    intro k
    show rNum T i na c (k + 1) (nI (sumN (fun v => nT T (nI i) (nI v) na) k) + rTold T (nI i) (nI k) 0 na 0 0) = _
    rw [rT_0, nI_add]
    have h := ih (k + 1)
    rw [sumN_s] at h
    rw [h, show k + 1 + c = k + (c + 1) by omega]
theorem sumN_z {f : Nat → Nat} {a : Nat} : ∀ d, (∀ w, a ≤ w → w < a + d → f w = 0) → sumN f (a + d) = sumN f a := by
  intro d
  induction d with
  | zero => intro _; rfl
  | succ d ih =>
    intro h
    rw [show a + (d + 1) = (a + d) + 1 by omega, sumN_s, ih (fun w h1 h2 => h w h1 (by omega)), h (a + d) (by omega) (by omega), Nat.add_zero]
theorem pos_mul {m x : Nat} (hm : 0 < m) (hm2 : m ≤ 100) (hx : x ≤ 1000) : 0 < lg_cmp ((nI m).toInt64 * (nI x).toInt64) 0 ↔ 0 < x := by
  have hb : m * x ≤ 100 * 1000 := Nat.mul_le_mul hm2 hx
  have e : ((nI m).toInt64 * (nI x).toInt64).toInt = ((m * x : Nat) : Int) := by
    rw [Int64.toInt_mul, Int32.toInt_toInt64, Int32.toInt_toInt64, nI_toInt (by omega), nI_toInt (by omega), ← Int.natCast_mul]
    exact Int.bmod_eq_of_le (by omega) (by omega)
  have e0 : (0 : Int64).toInt = 0 := rfl
  rw [show (0 < lg_cmp ((nI m).toInt64 * (nI x).toInt64) 0) ↔ (0 : Int64) < (nI m).toInt64 * (nI x).toInt64 from lg_cmp_gt _ 0, Int64.lt_iff_toInt_lt, e, e0]
  constructor
  · intro h
    rcases Nat.eq_zero_or_pos x with q | q
    · rw [q, Nat.mul_zero] at h; exact absurd h (by decide)
    · exact q
  · intro h
    exact Int.natCast_pos.mpr (Nat.mul_pos hm h)
theorem pos_w {x : Nat} (hx : x ≤ 1000) : 0 < lg_cmp (nI x).toInt64 0 ↔ 0 < x := by
  have e0 : (0 : Int64).toInt = 0 := rfl
  rw [show (0 < lg_cmp (nI x).toInt64 0) ↔ (0 : Int64) < (nI x).toInt64 from lg_cmp_gt _ 0, Int64.lt_iff_toInt_lt, Int32.toInt_toInt64, nI_toInt (by omega), e0]
  omega
theorem pos_i {x : Nat} (hx : x ≤ 1000) : (0 : Int32) < nI x ↔ 0 < x := nI_ltI (a := 0) (b := x) (by omega) (by omega)
/-- what a switch's numbers tell of its variants -/
theorem tal_vc {n na i a : Nat} {S : Pool} {M : MSt} {ar : Nat} (h : TAL n na S M ar) (hL : REL True n na S M ar) (hna : na ≤ 100) (hi : i < n) (ha : gP S ar i = some a) {vc : Nat} (evc : M.2 5 i = nI vc) (hvc : vc ≤ 4) :
    (∀ v, v < 4 → cTal S (tkA S a 0) (nI v) = nI (nT M.2 (nI i) (nI v) na) ∧ ∃ x, x ≤ 1000 ∧ gR S (wtA S a) v = nI x ∧ M.2 6 (4 * i + v) = nI x ∧ (vc ≤ v → x = 0)) ∧ (∀ v, vc ≤ v → v < 4 → nT M.2 (nI i) (nI v) na = 0)
    ∧ gI S (tyA S a) 4 = nI (sumN (fun v => nT M.2 (nI i) (nI v) na) vc) ∧ sumN (fun v => nT M.2 (nI i) (nI v) na) vc ≤ 100 ∧ rNum M.2 i na vc 0 0 = nI (sumN (fun v => nT M.2 (nI i) (nI v) na) vc) := by
  obtain ⟨b1, b2, -⟩ := h.1 i hi a ha
  obtain ⟨vc2, a1, a2, a3, a4, a5⟩ := h.2.2.2.1 i hi
  have e : vc2 = vc := (nI_eq (a := vc2) (b := vc) (by omega) (by omega)).mp (a3.symm.trans evc)
  subst e
  have hz : ∀ v, vc2 ≤ v → v < 4 → nT M.2 (nI i) (nI v) na = 0 := fun v h1 h2 => nT_z na (fun k hk e23 e25 => by
    obtain ⟨w, hw, ew⟩ := a5 k hk e23
    have := (nI_eq (a := w) (b := v) (by omega) (by omega)).mp (ew.symm.trans e25)
    omega)
  have hc : ∀ v, v < 4 → gR S (tkA S a 0) v = nI (nT M.2 (nI i) (nI v) na) := fun v hv => ((b1 v hv).1).trans (rT_0 _ _ _ _)
  have hs4 : sumN (fun v => nT M.2 (nI i) (nI v) na) 4 = sumN (fun v => nT M.2 (nI i) (nI v) na) vc2 := by
    have := sumN_z (f := fun v => nT M.2 (nI i) (nI v) na) (a := vc2) (4 - vc2) (fun w h1 h2 => hz w h1 (by omega))
    rw [show vc2 + (4 - vc2) = 4 by omega] at this
    exact this
  have hle : sumN (fun v => nT M.2 (nI i) (nI v) na) 4 ≤ na := by
    have := nT_sum M.2 (nI i) na
    show 0 + nT M.2 (nI i) (nI 0) na + nT M.2 (nI i) (nI 1) na + nT M.2 (nI i) (nI 2) na + nT M.2 (nI i) (nI 3) na ≤ na
    omega
  refine ⟨fun v hv => ⟨(cTal_n hv).trans (hc v hv), ?_⟩, hz, ?_, by omega, ?_⟩
  · obtain ⟨r1, x, x1, x2⟩ := (hL.1 i hi a ha).2.1 v hv
    refine ⟨x, x1, r1.trans x2, x2, fun hv2 => ?_⟩
    have := a4 v hv2 hv
    exact (nI_eq (a := x) (b := 0) (by omega) (by omega)).mp (x2.symm.trans this)
  · rw [b2, hc 0 (by decide), hc 1 (by decide), hc 2 (by decide), hc 3 (by decide), nI_add, nI_add, nI_add, ← hs4]
    exact congrArg nI (show nT M.2 (nI i) (nI 0) na + nT M.2 (nI i) (nI 1) na + nT M.2 (nI i) (nI 2) na + nT M.2 (nI i) (nI 3) na = 0 + nT M.2 (nI i) (nI 0) na + nT M.2 (nI i) (nI 1) na + nT M.2 (nI i) (nI 2) na + nT M.2 (nI i) (nI 3) na by rw [Nat.zero_add])
  · have := rNum_n (T := M.2) (i := i) (na := na) vc2 0
    rw [Nat.zero_add] at this
    exact this
theorem cBadL_z {S : Pool} {wt t0 : Nat} {n : Int64} : ∀ d k acc, (∀ w, k ≤ w → w < k + d → ¬ 0 < lg_cmp (n * (gR S wt w).toInt64) 0) → cBadL S wt t0 n d k acc = acc := by
  intro d
  induction d with
  | zero => intro k acc _; rfl
  | succ d ih =>
    intro k acc h
    unfold cBadL
    rw [if_neg (h k (Nat.le_refl _) (by omega))]
    exact ih (k + 1) acc (fun w h1 h2 => h w (by omega) (by omega))
theorem bad_eq {n na i a vc : Nat} {S : Pool} {M : MSt} {ar : Nat} (h : TAL n na S M ar) (hL : REL True n na S M ar) (hna : na ≤ 100) (hi : i < n) (ha : gP S ar i = some a) (evc : M.2 5 i = nI vc) (hvc : vc ≤ 4) : cBad S a = rBad M.2 i na vc := by
  obtain ⟨h1, h2, h3, h4, h5⟩ := tal_vc h hL hna hi ha evc hvc
  unfold cBad rBad
  rw [h3, h5]
  generalize sumN (fun v => nT M.2 (nI i) (nI v) na) vc = m at h4 ⊢
  refine congrArg Int64.toInt32 ?_
  have skip : ∀ w, w < 4 → (m = 0 ∨ vc ≤ w) → ¬ 0 < lg_cmp ((nI m).toInt64 * (gR S (wtA S a) w).toInt64) 0 := by
    intro w hw hq
    obtain ⟨x, x1, x2, -, x4⟩ := (h1 w hw).2
    rw [x2]
    rcases Nat.eq_zero_or_pos m with q | q
    · rw [q, show (nI 0).toInt64 = 0 from rfl, Int64.zero_mul]; decide
    · rw [pos_mul q h4 x1, x4 (by omega)]; decide
  rcases Nat.eq_zero_or_pos m with q | q
  · rw [cBadL_z 4 0 0 (fun w _ hw => skip w (by omega) (Or.inl q)), q, if_neg (by decide)]
  · rw [if_pos (show (0 : Int32) < nI m from (nI_ltI (a := 0) (b := m) (by omega) (by omega)).mpr q)]
    have key : ∀ c k acc, k + c = vc → cBadL S (wtA S a) (tkA S a 0) (nI m).toInt64 (c + (4 - vc)) k acc = rBadL M.2 i na (nI m).toInt64 c k acc := by
      intro c
      induction c with
      | zero =>
        intro k acc hk
        rw [Nat.zero_add]
        exact cBadL_z (4 - vc) k acc (fun w h6 h7 => skip w (by omega) (Or.inr (by omega)))
      | succ c ih =>
        intro k acc hk
        obtain ⟨y1, x, x1, x2, x3, -⟩ := h1 k (by omega)
        rw [show c + 1 + (4 - vc) = (c + (4 - vc)) + 1 by omega]
        unfold cBadL rBadL
        rw [y1, x2, x3, rT_0]
        by_cases hx : 0 < x
        · rw [if_pos ((pos_mul q h4 x1).mpr hx), if_pos ((pos_w x1).mpr hx)]
          exact ih (k + 1) _ (by omega)
        · rw [if_neg (fun e => hx ((pos_mul q h4 x1).mp e)), if_neg (fun e => hx ((pos_w x1).mp e))]
          exact ih (k + 1) _ (by omega)
    have := key vc 0 0 (by omega)
    rw [show vc + (4 - vc) = 4 by omega] at this
    exact this
theorem cTru_z {S : Pool} {wt t0 : Nat} {bd : Int32} : ∀ d k acc, (∀ w, k ≤ w → w < k + d → ¬ 0 < gR S wt w ∧ ¬ 0 < cTal S t0 (nI w)) → cTru S wt t0 bd d k acc = cTru S wt t0 bd 0 0 acc := by
  intro d
  induction d with
  | zero => intro k acc _; rfl
  | succ d ih =>
    intro k acc h
    obtain ⟨h1, h2⟩ := h k (Nat.le_refl _) (by omega)
    show (if 0 < gR S wt k then cTru S wt t0 bd d (k + 1) (acc + 1) else if 0 < cTal S t0 (nI k) then 0 else cTru S wt t0 bd d (k + 1) acc) = _
    rw [if_neg h1, if_neg h2]
    exact ih (k + 1) acc (fun w h3 h4 => h w (by omega) (by omega))
theorem trust_eq {n na nm i a vc : Nat} {S : Pool} {M : MSt} {ar : Nat} (h : TAL n na S M ar) (hL : REL True n na S M ar) (hI : INVR n nm M) (hna : na ≤ 100) (hi : i < n) (ha : gP S ar i = some a) (evc : M.2 5 i = nI vc) (hvc : vc ≤ 4) : cTrus S a = rTru M.2 i na (rBad M.2 i na vc) vc 0 0 := by
  obtain ⟨h1, h2, h3, h4, h5⟩ := tal_vc h hL hna hi ha evc hvc
  unfold cTrus
  rw [bad_eq h hL hna hi ha evc hvc]
  generalize rBad M.2 i na vc = bd
  have hsome : ∃ w, 0 ≤ w ∧ w < vc ∧ M.2 6 (4 * i + w) ≠ 0 := by
    apply Classical.byContradiction
    intro hno
    have hall : ∀ w, w < 4 → M.2 6 (4 * i + w) = 0 := by
      intro w hw
      rcases Nat.lt_or_ge w vc with q | q
      · apply Classical.byContradiction
        intro hne
        exact hno ⟨w, Nat.zero_le _, q, hne⟩
      · obtain ⟨x, -, -, x3, x4⟩ := (h1 w hw).2
        rw [x3, x4 q]; rfl
    have hac := hI.acc hi
    rw [rAcc_4, show M.2 6 (4 * i) = 0 from hall 0 (by decide), hall 1 (by decide), hall 2 (by decide), hall 3 (by decide)] at hac
    exact absurd hac (by decide)
  have key : ∀ c k A, k + c = vc → A ≤ k → (0 < A ∨ ∃ w, k ≤ w ∧ w < vc ∧ M.2 6 (4 * i + w) ≠ 0) → cTru S (wtA S a) (tkA S a 0) bd (c + (4 - vc)) k (nI A) = rTru M.2 i na bd c k (nI A) := by
    intro c
    induction c with
    | zero =>
      intro k A hk hA hq
      rw [Nat.zero_add, cTru_z (4 - vc) k (nI A) (fun w h6 h7 => by
        obtain ⟨y1, x, x1, x2, x3, x4⟩ := h1 w (by omega)
        rw [y1, x2, x4 (by omega), h2 w (by omega) (by omega)]
        exact ⟨by decide, by decide⟩)]
      have hA0 : 0 < A := by
        rcases hq with q | ⟨w, w1, w2, -⟩
        · exact q
        · omega
      show (if nI A < 2 then 1 else if kMost (nI A) < bd then 0 else 1) = (if nI A = 1 then 1 else if kMost (nI A) < bd then 0 else 1)
      by_cases h9 : A = 1
      · rw [h9, if_pos (by decide), if_pos (by decide)]
      · rw [if_neg (fun e => by have := (nI_ltI (a := A) (b := 2) (by omega) (by omega)).mp e; omega), if_neg (show ¬ nI A = 1 from fun e => h9 ((nI_eq (a := A) (b := 1) (by omega) (by omega)).mp e))]
    | succ c ih =>
      intro k A hk hA hq
      obtain ⟨y1, x, x1, x2, x3, -⟩ := h1 k (by omega)
      rw [show c + 1 + (4 - vc) = (c + (4 - vc)) + 1 by omega]
      show (if 0 < gR S (wtA S a) k then cTru S (wtA S a) (tkA S a 0) bd (c + (4 - vc)) (k + 1) (nI A + 1) else if 0 < cTal S (tkA S a 0) (nI k) then 0 else cTru S (wtA S a) (tkA S a 0) bd (c + (4 - vc)) (k + 1) (nI A)) = (if 0 < M.2 6 (4 * i + k) then (if M.2 6 (4 * i + k) = 0 then (if 0 < rTold M.2 (nI i) (nI k) 0 na 0 0 then 0 else rTru M.2 i na bd c (k + 1) (nI A + 1)) else rTru M.2 i na bd c (k + 1) (nI A + 1)) else (if M.2 6 (4 * i + k) = 0 then (if 0 < rTold M.2 (nI i) (nI k) 0 na 0 0 then 0 else rTru M.2 i na bd c (k + 1) (nI A)) else rTru M.2 i na bd c (k + 1) (nI A)))
      rw [y1, x2, x3, rT_0]
      by_cases hx : 0 < x
      · have hne : ¬ nI x = 0 := fun e => by have := (nI_eq (a := x) (b := 0) (by omega) (by omega)).mp e; omega
        rw [if_pos ((pos_i x1).mpr hx), if_pos ((pos_i x1).mpr hx), if_neg hne]
        rw [show nI A + 1 = nI (A + 1) from nI_add A 1]
        exact ih (k + 1) (A + 1) (by omega) (by omega) (Or.inl (by omega))
      · have hx0 : x = 0 := by omega
        have e0 : nI x = 0 := by rw [hx0]; rfl
        rw [if_neg (fun e => hx ((pos_i x1).mp e)), if_neg (fun e => hx ((pos_i x1).mp e)), if_pos e0]
        by_cases hc : 0 < nI (nT M.2 (nI i) (nI k) na)
        · rw [if_pos hc, if_pos hc]
        · rw [if_neg hc, if_neg hc]
          refine ih (k + 1) A (by omega) (by omega) ?_
          rcases hq with q | ⟨w, w1, w2, w3⟩
          · exact Or.inl q
          · refine Or.inr ⟨w, ?_, w2, w3⟩
            rcases Nat.lt_or_ge k w with q | q
            · exact q
            · exfalso
              have : w = k := by omega
              rw [this, x3] at w3
              exact w3 e0
  have := key vc 0 0 (by omega) (Nat.le_refl _) (Or.inr hsome)
  rw [show vc + (4 - vc) = 4 by omega] at this
  exact this
