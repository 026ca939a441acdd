/-! Desk: how far, which arm, which rule, which place -/
theorem far_j {sh st z t : Nat} (h : z ≤ t) : sh + st * (t + 1 - z) = sh + st * (t - z) + st := by
  rw [show t + 1 - z = (t - z) + 1 by omega, Nat.mul_succ]; omega
theorem far_le {st i j : Nat} (h : i ≤ j) : st * i ≤ st * j := Nat.mul_le_mul_left st h
def nL (k : Nat) : Int64 := Int64.ofNat k
theorem nL_i {k : Nat} (h : k < 2 ^ 31) : (nI k).toInt64 = nL k := by
  apply Int64.toInt_inj.mp
  rw [Int32.toInt_toInt64, nI_toInt h]
  exact (Int64.toInt_ofNat_of_lt (show k < 2 ^ 63 by omega)).symm
theorem nL_add (a b : Nat) : nL a + nL b = nL (a + b) := (Int64.ofNat_add a b).symm
theorem nL_mul (a b : Nat) : nL a * nL b = nL (a * b) := (Int64.ofNat_mul a b).symm
theorem nL_rem {a d : Nat} (ha : a < 2 ^ 63) (hd : d < 2 ^ 63) : nL a - nL a / nL d * nL d = nL (a % d) := by
  have h1 : nL a / nL d = nL (a / d) := (Int64.ofNat_div ha hd).symm
  rw [h1, nL_mul]
  have h2 : a = a % d + a / d * d := by have := Nat.div_add_mod' a d; omega
  have h3 : nL a = nL (a % d) + nL (a / d * d) := by rw [nL_add, ← h2]
  rw [h3, Int64.add_sub_cancel]
theorem nL_32 {k : Nat} : (nL k).toInt32 = nI k := Int64.toInt32_ofNat'
theorem sub_lt0 {a b : Nat} (ha : a < 2 ^ 30) (hb : b < 2 ^ 30) : nI a - nI b < 0 ↔ a < b := by
  rw [Int32.lt_iff_toInt_lt, pk_sub_toInt ha hb, show (0 : Int32).toInt = 0 from rfl]; omega
theorem sub_gt0 {a b : Nat} (ha : a < 2 ^ 30) (hb : b < 2 ^ 30) : 0 < nI a - nI b ↔ b < a := by
  rw [Int32.lt_iff_toInt_lt, pk_sub_toInt ha hb, show (0 : Int32).toInt = 0 from rfl]; omega
theorem sub_eq0 {a b : Nat} (ha : a < 2 ^ 30) (hb : b < 2 ^ 30) : nI a - nI b = 0 ↔ a = b := by
  constructor
  · intro h
    have h1 : (nI a - nI b).toInt = 0 := by rw [h]; rfl
    rw [pk_sub_toInt ha hb] at h1; omega
  · intro h; subst h; exact Int32.sub_self _
/-- does a rule (its four numbers) hold -/
def dMt (r : Nat → Int32) (f g : Int32) : Bool := if r 1 = 1 then decide ((if r 0 = 0 then f else g) < r 2) else if r 1 = 2 then decide ((if r 0 = 0 then f else g) = r 2) else decide (r 2 < (if r 0 = 0 then f else g))
def dHo (P : Nat → Bool) : Nat → Nat → Int32
  | 0, _ => -1
  | c + 1, k => if P k = true then nI k else dHo P c (k + 1)
theorem dHo_y {P : Nat → Bool} {c k : Nat} (h : P k = true) (hc : 0 < c) : dHo P c k = nI k := by
  obtain ⟨c, rfl⟩ : ∃ d, c = d + 1 := ⟨c - 1, by omega⟩
  unfold dHo; rw [if_pos h]
theorem dHo_n {P : Nat → Bool} {c k : Nat} (h : ¬ P k = true) (hc : 0 < c) : dHo P c k = dHo P (c - 1) (k + 1) := by
  obtain ⟨c, rfl⟩ : ∃ d, c = d + 1 := ⟨c - 1, by omega⟩
  show dHo P (c + 1) k = dHo P c (k + 1)
  rw [show dHo P (c + 1) k = if P k = true then nI k else dHo P c (k + 1) from rfl, if_neg h]
theorem dHo_z {P : Nat → Bool} {c k : Nat} (hc : c = 0) : dHo P c k = -1 := by subst hc; rfl
theorem dMt_1 {r : Nat → Int32} {f g : Int32} {a b : Nat} (e0 : (if r 0 = 0 then f else g) = nI a) (e1 : r 1 = 1) (e2 : r 2 = nI b) (ha : a < 100) (hb : b < 100) : dMt r f g = true ↔ nI a - nI b < 0 := by
  unfold dMt; rw [if_pos e1, e0, e2, decide_eq_true_iff, sub_lt0 (by omega) (by omega)]
  exact nI_ltI (by omega) (by omega)
theorem dMt_2 {r : Nat → Int32} {f g : Int32} {a b : Nat} (e0 : (if r 0 = 0 then f else g) = nI a) (e1 : r 1 = 2) (e2 : r 2 = nI b) (ha : a < 100) (hb : b < 100) : dMt r f g = true ↔ nI a - nI b = 0 := by
  unfold dMt; rw [if_neg (by rw [e1]; decide), if_pos e1, e0, e2, decide_eq_true_iff, sub_eq0 (by omega) (by omega)]
  exact nI_eq (by omega) (by omega)
theorem dMt_3 {r : Nat → Int32} {f g : Int32} {a b : Nat} (e0 : (if r 0 = 0 then f else g) = nI a) (e1 : r 1 = 3) (e2 : r 2 = nI b) (ha : a < 100) (hb : b < 100) : dMt r f g = true ↔ 0 < nI a - nI b := by
  unfold dMt; rw [if_neg (by rw [e1]; decide), if_neg (by rw [e1]; decide), e0, e2, decide_eq_true_iff, sub_gt0 (by omega) (by omega)]
  exact nI_ltI (by omega) (by omega)
set_option maxRecDepth 100000 in
set_option maxHeartbeats 4000000 in
/-- far -/
theorem d_far (l : Launch) (D : va_G) (cA : Nat → ClassId) (sz : Nat) (wb : va_W) (b L : Nat) (xs : Nat → Int32) (hL : L < 2 ^ 31) (T : Pool) (d x : Nat) (Ad : DA) (n na : Nat) (fF : Nat → Int32) (fO fW : Nat → Nat → Int32) (fC : Nat → Nat) (fR : Nat → Nat → Nat → Int32) (fB : Nat → Nat → Int32) (dk : DK T d x b Ad (n, na, fF, fO, fW, fC, fR, fB)) (k : Nat) (hk : k < n) (sh sp z ck : Nat) (h4 : fO k 4 = nI sh) (h5 : fO k 5 = nI sp) (h6 : fO k 6 = nI z) (h3 : fF 3 = nI ck) (hsh : sh ≤ 1000) (hsp : sp ≤ 1000) (hz : z ≤ ck) (hc : ck < 1000000)  : Met l yX6_far (Cond.code yX6_far cX6_far 5 (some .int) :: TT) ({ frames := 0, cells := 0, slots := 0, locals := 0 }) (va_Pc [.ref d, .int (nI k), .int 0] (kPreE D cA (PW cA T ++ wb) b L xs sz)) (va_Qi (fun (r_ : Int32) (x_ : Pool) => r_ = nI (min 1000 (sh + sp * (ck - z))) ∧ x_ = T) (fun x_ => kB D cA (va_A (PW cA T ++ wb) sz) (PW cA x_ ++ wb)) (va_A (PW cA T ++ wb) sz)) 0 0 (va_A (PW cA T ++ wb) sz) := by
  refine Met.ofW (cc := cX6_far) (maxL := 5) (ret := (some .int)) (by decide) rfl ?_
  intro p e s m args below meth c s₁ B hml hv
  obtain ⟨rfl, ⟨⟨hsz, hP, hK, hD0, hTB⟩, hTX⟩, hX, hbl, hbA, hAO⟩ := hv
  have hx := B.exec
  have hb := B.bytes
  have hr := B.returns
  have hts := atoms_spec (ws := Cond.code yX6_far cX6_far 5 (some .int) :: TT) B.pre
  have htT : ∀ w ∈ TT, w.before _ s = true := fun w h => hts w (List.mem_cons_of_mem _ h)
  have hown : s.vm.findClass RX6 = some m.cls := findClass_of_methodNamed B.named
  have hlocks := B.notSynchronized
  subst hsz
  have hD := hD0.self (sz := s.heap.size)
  generalize hAe : va_A (PW cA T ++ wb) s.heap.size = A at hD hTX hbA ⊢
  have hA : ∀ q : Nat, s.heap.size ≤ q → A q := fun q h => by rw [← hAe]; exact Or.inr h
  have hS : va_S A s.heap s.heap [] := va_S.rf
  have hl := lv_entry ([.ref d, .int (nI k), .int 0]) (n := 5) (Nat.le_of_ble_eq_true rfl)
  rw [lg_entry_eq]
  generalize (lg_sl ([.ref d, .int (nI k), .int 0]) ++ List.replicate (5 - (lg_sl ([.ref d, .int (nI k), .int 0])).length) Slot.unset).toArray = ls at hl ⊢
  have hl : lv_has ls 5 [(0, .ref d), (1, .int (nI k)), (2, .int 0)] := hl
  have hn8 : n ≤ 8 := dk.n8
  refine lv_aload_n hx hb dX6_far_0 rfl (lv_at hl 0 rfl) ?_
  refine kd_gets (r := (aO Ad)) hx hb htT m_u_X6 hown hK hP dk.o rfl 6 (by decide) (by decide) rfl dk.q6 (htT _ m_fl_X6_18) dX6_far_1 ?_
  refine lv_iload_n hx hb dX6_far_4 rfl (lv_at hl 1 rfl) ?_
  refine ky_alda (r := some (aOk Ad k)) hx hb hK hP dk.ao (show vp_in (nI (k)) 8 from ki_in (by omega) (by omega)) ((congrArg _ (ki_cl (n := k) (by omega))).trans (dk.op (k := k) (show k < n by omega))) dX6_far_5 ?_
  refine lv_iconst (v := 4) hx hb dX6_far_6 (by decide) ?_
  refine kx_ialdv (x := nI sh) hx hb hK (kmy_P hP) (dk.oa (k := k) (show k < n by omega)) (Nat.le_of_ble_eq_true rfl) (Nat.le_of_ble_eq_true rfl) (show vp_in 4 12 from ki_in (n := 4) (by omega) (by omega)) ((congrArg _ (ki_cl (n := 4) (by omega))).trans ((dk.ov (k := k) (j := 4) (show k < n by omega) (show 4 < 12 by omega)).trans (h4))) dX6_far_7 ?_
  refine lv_istore_n (lv' := [(3, .int (nI sh)), (0, .ref d), (1, .int (nI k)), (2, .int 0)]) hx hb dX6_far_8 rfl hl (by decide) rfl (fun ls hl => ?_)
  refine lv_aload_n hx hb dX6_far_9 rfl (lv_at hl 1 rfl) ?_
  refine kd_gets (r := (aO Ad)) hx hb htT m_u_X6 hown hK hP dk.o rfl 6 (by decide) (by decide) rfl dk.q6 (htT _ m_fl_X6_18) dX6_far_10 ?_
  refine lv_iload_n hx hb dX6_far_13 rfl (lv_at hl 2 rfl) ?_
  refine ky_alda (r := some (aOk Ad k)) hx hb hK hP dk.ao (show vp_in (nI (k)) 8 from ki_in (by omega) (by omega)) ((congrArg _ (ki_cl (n := k) (by omega))).trans (dk.op (k := k) (show k < n by omega))) dX6_far_14 ?_
  refine lv_bipush (v := 6) hx hb dX6_far_15 (by decide) ?_
  refine kx_ialdv (x := nI z) hx hb hK (kmy_P hP) (dk.oa (k := k) (show k < n by omega)) (Nat.le_of_ble_eq_true rfl) (Nat.le_of_ble_eq_true rfl) (show vp_in 6 12 from ki_in (n := 6) (by omega) (by omega)) ((congrArg _ (ki_cl (n := 6) (by omega))).trans ((dk.ov (k := k) (j := 6) (show k < n by omega) (show 6 < 12 by omega)).trans (h6))) dX6_far_17 ?_
  refine lv_istore (lv' := [(4, .int (nI z)), (3, .int (nI sh)), (0, .ref d), (1, .int (nI k)), (2, .int 0)]) hx hb dX6_far_18 hl (by decide) rfl (fun ls hl => ?_)
  refine kz_loop 20 (fun N9 H locs ls => ∃ (tk : Nat) (q : Nat), N9 = ck - tk ∧ z ≤ tk ∧ tk ≤ ck ∧ q = sh + sp * (tk - z) ∧ q ≤ 2000 ∧ va_P D vwCl (PW cA T ++ wb) H ∧ va_D A (PW cA T ++ wb) ∧ va_S A s.heap H locs ∧ lv_has ls 5 [(4, .int (nI tk)), (3, .int (nI q)), (0, .ref d), (1, .int (nI k)), (2, .int 0)]) (fun N9 ih_20 H locs ls hI => ?_) ⟨z, sh, rfl, Nat.le_refl _, hz, (by rw [Nat.sub_self]; rfl), (by omega), hP, hD, hS, lv_sub hl [0, 1, 2, 3, 4] rfl⟩
  obtain ⟨tk, q, hn9, hzt, htc, hq9, hq2, hP, hD, hS, hl⟩ := hI
  refine lv_iload hx hb dX6_far_20 (lv_at hl 0 rfl) ?_
  refine lv_aload_n hx hb dX6_far_22 rfl (lv_at hl 2 rfl) ?_
  refine kd_getiv (x := nI ck) hx hb htT m_u_X6 hown hK hP dk.o rfl 3 (by decide) (by decide) rfl (htT _ m_fl_X6_64) ((dk.f 3).trans ((show _ = fF 3 from rfl).trans h3)) dX6_far_23 ?_
  refine lv_iload_n hx hb dX6_far_26 rfl (lv_at hl 4 rfl) ?_
  refine lv_iadd hx hb dX6_far_27 ?_
  rw [show ((nI ck) + 0 : Int32) = nI (ck + 0) from nI_add ck 0]
  refine lv_icmp_ge (tgt := 55) hx hb dX6_far_28 (by decide) (fun c_1 => ?_) (fun c_1 => ?_)
  · replace c_1 := (nI_leI (a := ck + 0) (b := tk) (by omega) (by omega)).mp c_1
    refine lv_iload_n hx hb dX6_far_55 rfl (lv_at hl 1 rfl) ?_
    refine lv_sipush (v := 1000) hx hb dX6_far_56 (by decide) ?_
    refine lv_icmp_le (tgt := 68) hx hb dX6_far_59 (by decide) (fun c_2 => ?_) (fun c_2 => ?_)
    · replace c_2 := (nI_leI (a := q) (b := 1000) (by omega) (by omega)).mp c_2
      refine lv_iload_n hx hb dX6_far_68 rfl (lv_at hl 1 rfl) ?_
      exact W.iret (v := nI q) hx hb hr (fun t ht hW => ⟨⟨nI q, T, rfl, ⟨by have h9 := far_le (st := sp) (show tk - z ≤ ck - z by omega); first | (have e9 : tk = ck := (by omega); subst e9; exact congrArg nI (show (q : Nat) = _ by omega)) | exact congrArg nI (show (q : Nat) = _ by omega), rfl⟩, by rw [ht]; exact hP, va_K.moved hW.alike hK, hD⟩, hS.F ht⟩) hS.2.2 dX6_far_69
    · replace c_2 : ¬ (q ≤ 1000) := fun h9 => c_2 ((nI_leI (a := q) (b := 1000) (by omega) (by omega)).mpr h9)
      refine lv_sipush (v := 1000) hx hb dX6_far_62 (by decide) ?_
      refine lv_goto (tgt := 69) hx hb dX6_far_65 (by decide) ?_
      exact W.iret (v := 1000) hx hb hr (fun t ht hW => ⟨⟨1000, T, rfl, ⟨by have h9 := far_le (st := sp) (show tk - z ≤ ck - z by omega); first | (have e9 : tk = ck := (by omega); subst e9; exact congrArg nI (show (1000 : Nat) = _ by omega)) | exact congrArg nI (show (1000 : Nat) = _ by omega), rfl⟩, by rw [ht]; exact hP, va_K.moved hW.alike hK, hD⟩, hS.F ht⟩) hS.2.2 dX6_far_69
  · replace c_1 : ¬ (ck + 0 ≤ tk) := fun h9 => c_1 ((nI_leI (a := ck + 0) (b := tk) (by omega) (by omega)).mpr h9)
    refine lv_iload_n hx hb dX6_far_31 rfl (lv_at hl 1 rfl) ?_
    refine lv_sipush (v := 1000) hx hb dX6_far_32 (by decide) ?_
    refine lv_icmp_ge (tgt := 55) hx hb dX6_far_35 (by decide) (fun c_3 => ?_) (fun c_3 => ?_)
    · replace c_3 := (nI_leI (a := 1000) (b := q) (by omega) (by omega)).mp c_3
      refine lv_iload_n hx hb dX6_far_55 rfl (lv_at hl 1 rfl) ?_
      refine lv_sipush (v := 1000) hx hb dX6_far_56 (by decide) ?_
      refine lv_icmp_le (tgt := 68) hx hb dX6_far_59 (by decide) (fun c_4 => ?_) (fun c_4 => ?_)
      · replace c_4 := (nI_leI (a := q) (b := 1000) (by omega) (by omega)).mp c_4
        refine lv_iload_n hx hb dX6_far_68 rfl (lv_at hl 1 rfl) ?_
        exact W.iret (v := nI q) hx hb hr (fun t ht hW => ⟨⟨nI q, T, rfl, ⟨by have h9 := far_le (st := sp) (show tk - z ≤ ck - z by omega); first | (have e9 : tk = ck := (by omega); subst e9; exact congrArg nI (show (q : Nat) = _ by omega)) | exact congrArg nI (show (q : Nat) = _ by omega), rfl⟩, by rw [ht]; exact hP, va_K.moved hW.alike hK, hD⟩, hS.F ht⟩) hS.2.2 dX6_far_69
      · replace c_4 : ¬ (q ≤ 1000) := fun h9 => c_4 ((nI_leI (a := q) (b := 1000) (by omega) (by omega)).mpr h9)
        refine lv_sipush (v := 1000) hx hb dX6_far_62 (by decide) ?_
        refine lv_goto (tgt := 69) hx hb dX6_far_65 (by decide) ?_
        exact W.iret (v := 1000) hx hb hr (fun t ht hW => ⟨⟨1000, T, rfl, ⟨by have h9 := far_le (st := sp) (show tk - z ≤ ck - z by omega); first | (have e9 : tk = ck := (by omega); subst e9; exact congrArg nI (show (1000 : Nat) = _ by omega)) | exact congrArg nI (show (1000 : Nat) = _ by omega), rfl⟩, by rw [ht]; exact hP, va_K.moved hW.alike hK, hD⟩, hS.F ht⟩) hS.2.2 dX6_far_69
    · replace c_3 : ¬ (1000 ≤ q) := fun h9 => c_3 ((nI_leI (a := 1000) (b := q) (by omega) (by omega)).mpr h9)
      refine lv_iload_n hx hb dX6_far_38 rfl (lv_at hl 1 rfl) ?_
      refine lv_aload_n hx hb dX6_far_39 rfl (lv_at hl 2 rfl) ?_
      refine kd_gets (r := (aO Ad)) hx hb htT m_u_X6 hown hK hP dk.o rfl 6 (by decide) (by decide) rfl dk.q6 (htT _ m_fl_X6_18) dX6_far_40 ?_
      refine lv_iload_n hx hb dX6_far_43 rfl (lv_at hl 3 rfl) ?_
      refine ky_alda (r := some (aOk Ad k)) hx hb hK hP dk.ao (show vp_in (nI (k)) 8 from ki_in (by omega) (by omega)) ((congrArg _ (ki_cl (n := k) (by omega))).trans (dk.op (k := k) (show k < n by omega))) dX6_far_44 ?_
      refine lv_iconst (v := 5) hx hb dX6_far_45 (by decide) ?_
      refine kx_ialdv (x := nI sp) hx hb hK (kmy_P hP) (dk.oa (k := k) (show k < n by omega)) (Nat.le_of_ble_eq_true rfl) (Nat.le_of_ble_eq_true rfl) (show vp_in 5 12 from ki_in (n := 5) (by omega) (by omega)) ((congrArg _ (ki_cl (n := 5) (by omega))).trans ((dk.ov (k := k) (j := 5) (show k < n by omega) (show 5 < 12 by omega)).trans (h5))) dX6_far_46 ?_
      refine lv_iadd hx hb dX6_far_47 ?_
      rw [show ((nI q) + (nI sp) : Int32) = nI (q + sp) from nI_add q sp]
      refine lv_istore_n (lv' := [(3, .int (nI (q + sp))), (4, .int (nI tk)), (0, .ref d), (1, .int (nI k)), (2, .int 0)]) hx hb dX6_far_48 rfl hl (by decide) rfl (fun ls hl => ?_)
      refine lv_iinc (v := nI (tk + 1)) (lv' := [(4, .int (nI (tk + 1))), (3, .int (nI (q + sp))), (0, .ref d), (1, .int (nI k)), (2, .int 0)]) hx hb dX6_far_49 hl (k := 1) rfl (nI_1 _) (by decide) rfl (fun ls hl => ?_)
      refine lv_goto (tgt := 20) hx hb dX6_far_52 (by decide) ?_
      have hl := lv_sub hl [0, 1, 2, 3, 4] rfl
      exact ih_20 _ (by omega) H locs ls ⟨tk + 1, q + sp, rfl, (by omega), (by omega), (by rw [hq9]; exact (far_j hzt).symm), (by omega), hP, hD, hS, hl⟩

set_option maxRecDepth 100000 in
set_option maxHeartbeats 4000000 in
/-- because -/
theorem d_because (l : Launch) (D : va_G) (cA : Nat → ClassId) (sz : Nat) (wb : va_W) (b L : Nat) (xs : Nat → Int32) (hL : L < 2 ^ 31) (T : Pool) (d x : Nat) (Ad : DA) (n na : Nat) (fF : Nat → Int32) (fO fW : Nat → Nat → Int32) (fC : Nat → Nat) (fR : Nat → Nat → Nat → Int32) (fB : Nat → Nat → Int32) (dk : DK T d x b Ad (n, na, fF, fO, fW, fC, fR, fB)) (p0 p1 : Int32) : Met l yX6_because (Cond.code yX6_because cX6_because 3 (some .int) :: TT) ({ frames := 0, cells := 0, slots := 0, locals := 0 }) (va_Pc [.ref d, .int p0, .int p1] (kPreE D cA (PW cA T ++ wb) b L xs sz)) (va_Qi (fun (r_ : Int32) (x_ : Pool) => r_ = p1 ∧ x_ = pI T d 10 p0) (fun x_ => kB D cA (va_A (PW cA T ++ wb) sz) (PW cA x_ ++ wb)) (va_A (PW cA T ++ wb) sz)) 0 0 (va_A (PW cA T ++ wb) sz) := by
  refine Met.ofW (cc := cX6_because) (maxL := 3) (ret := (some .int)) (by decide) rfl ?_
  intro p e s m args below meth c s₁ B hml hv
  obtain ⟨rfl, ⟨⟨hsz, hP, hK, hD0, hTB⟩, hTX⟩, hX, hbl, hbA, hAO⟩ := hv
  have hx := B.exec
  have hb := B.bytes
  have hr := B.returns
  have hts := atoms_spec (ws := Cond.code yX6_because cX6_because 3 (some .int) :: TT) B.pre
  have htT : ∀ w ∈ TT, w.before _ s = true := fun w h => hts w (List.mem_cons_of_mem _ h)
  have hown : s.vm.findClass RX6 = some m.cls := findClass_of_methodNamed B.named
  have hlocks := B.notSynchronized
  subst hsz
  have hD := hD0.self (sz := s.heap.size)
  generalize hAe : va_A (PW cA T ++ wb) s.heap.size = A at hD hTX hbA ⊢
  have hA : ∀ q : Nat, s.heap.size ≤ q → A q := fun q h => by rw [← hAe]; exact Or.inr h
  have hS : va_S A s.heap s.heap [] := va_S.rf
  have hl := lv_entry ([.ref d, .int p0, .int p1]) (n := 3) (Nat.le_of_ble_eq_true rfl)
  rw [lg_entry_eq]
  generalize (lg_sl ([.ref d, .int p0, .int p1]) ++ List.replicate (3 - (lg_sl ([.ref d, .int p0, .int p1])).length) Slot.unset).toArray = ls at hl ⊢
  have hl : lv_has ls 3 [(0, .ref d), (1, .int p0), (2, .int p1)] := hl
  refine lv_aload_n hx hb dX6_because_0 rfl (lv_at hl 0 rfl) ?_
  refine lv_iload_n hx hb dX6_because_1 rfl (lv_at hl 1 rfl) ?_
  refine kd_puti (ty := .int) hx hb htT m_u_X6 tyX6 tyX6_ok nmX6 hown hK hP hD hS dk.o rfl 10 (by decide) (by decide) rfl (htT _ m_fl_X6_156) rfl (by decide +kernel) rfl rfl dX6_because_2 (fun H locs hP hD hS => ?_)
  have dk_1 : DK (pI T d 10 p0) d x b Ad (n, na, (upd fF 10 p0), fO, fW, fC, fR, fB) := dk.num
  refine lv_iload_n hx hb dX6_because_5 rfl (lv_at hl 2 rfl) ?_
  exact W.iret (v := p1) hx hb hr (fun t ht hW => ⟨⟨p1, pI T d 10 p0, rfl, ⟨rfl, rfl⟩, by rw [ht]; exact hP, va_K.moved hW.alike hK, hD⟩, hS.F ht⟩) hS.2.2 dX6_because_6

set_option maxRecDepth 100000 in
set_option maxHeartbeats 4000000 in
/-- bucket -/
theorem d_bucket (l : Launch) (D : va_G) (cA : Nat → ClassId) (sz : Nat) (ws : va_W) (sa uu : Nat) (hsa : sa ≤ 1000) (huu : uu ≤ 9999) : Met l yX6_bucket (Cond.code yX6_bucket cX6_bucket 4 (some .int) :: TT) ({ frames := 0, cells := 0, slots := 0, locals := 0 }) (va_Pc [.int (nI sa), .int (nI uu)] (kPre D cA ws sz)) (va_Qi (fun (r_ : Int32) (x_ : Unit) => r_ = nI (nBkt sa uu)) (fun x_ => kB D cA (va_A ws sz) (ws)) (va_A ws sz)) 0 0 (va_A ws sz) := by
  refine Met.ofW (cc := cX6_bucket) (maxL := 4) (ret := (some .int)) (by decide) rfl ?_
  intro p e s m args below meth c s₁ B hml hv
  obtain ⟨rfl, hsz, hP, hK, hD0, hTB⟩ := hv
  have hx := B.exec
  have hb := B.bytes
  have hr := B.returns
  have hts := atoms_spec (ws := Cond.code yX6_bucket cX6_bucket 4 (some .int) :: TT) B.pre
  have htT : ∀ w ∈ TT, w.before _ s = true := fun w h => hts w (List.mem_cons_of_mem _ h)
  have hown : s.vm.findClass RX6 = some m.cls := findClass_of_methodNamed B.named
  have hlocks := B.notSynchronized
  subst hsz
  have hD := hD0.self (sz := s.heap.size)
  generalize hAe : va_A ws s.heap.size = A at hD ⊢
  have hA : ∀ q : Nat, s.heap.size ≤ q → A q := fun q h => by rw [← hAe]; exact Or.inr h
  have hS : va_S A s.heap s.heap [] := va_S.rf
  have hl := lv_entry ([.int (nI sa), .int (nI uu)]) (n := 4) (Nat.le_of_ble_eq_true rfl)
  rw [lg_entry_eq]
  generalize (lg_sl ([.int (nI sa), .int (nI uu)]) ++ List.replicate (4 - (lg_sl ([.int (nI sa), .int (nI uu)])).length) Slot.unset).toArray = ls at hl ⊢
  have hl : lv_has ls 4 [(0, .int (nI sa)), (1, .int (nI uu))] := hl
  have hh : ((sa * 7919 + uu * 31 + 17) % 10007) < 10007 := Nat.mod_lt _ (by decide)
  have hh2 : ((sa * 7919 + uu * 31 + 17) % 10007) * ((sa * 7919 + uu * 31 + 17) % 10007) ≤ 10006 * 10006 := Nat.mul_le_mul (by omega) (by omega)
  refine lv_iload_n hx hb dX6_bucket_0 rfl (lv_at hl 0 rfl) ?_
  refine lv_i2l (v := (nI sa).toInt64) hx hb dX6_bucket_1 rfl ?_
  rw [show ((nI sa).toInt64 : Int64) = nL sa from nL_i (by omega)]
  refine lv_ldc2 (v := 7919) hx hb hown (htT _ m_lc_X6_144) dX6_bucket_2 ?_
  refine lv_lmul hx hb dX6_bucket_5 ?_
  refine lv_iload_n hx hb dX6_bucket_6 rfl (lv_at hl 1 rfl) ?_
  refine lv_i2l (v := (nI uu).toInt64) hx hb dX6_bucket_7 rfl ?_
  rw [show ((nI uu).toInt64 : Int64) = nL uu from nL_i (by omega)]
  refine lv_ldc2 (v := 31) hx hb hown (htT _ m_lc_X6_146) dX6_bucket_8 ?_
  refine lv_lmul hx hb dX6_bucket_11 ?_
  refine lv_ladd hx hb dX6_bucket_12 ?_
  refine lv_ldc2 (v := 17) hx hb hown (htT _ m_lc_X6_148) dX6_bucket_13 ?_
  refine lv_ladd hx hb dX6_bucket_16 ?_
  rw [show ((((nL sa) * 7919) + ((nL uu) * 31)) + 17 : Int64) = nL (sa * 7919 + uu * 31 + 17) from by rw [show (7919 : Int64) = nL 7919 from rfl, show (31 : Int64) = nL 31 from rfl, show (17 : Int64) = nL 17 from rfl, nL_mul, nL_mul, nL_add, nL_add]]
  refine lv_ldc2 (v := 10007) hx hb hown (htT _ m_lc_X6_150) dX6_bucket_17 ?_
  refine lv_lrem hx hb dX6_bucket_20 (by decide) ?_
  rw [show ((nL (sa * 7919 + uu * 31 + 17)) - (nL (sa * 7919 + uu * 31 + 17)) / 10007 * 10007 : Int64) = nL ((sa * 7919 + uu * 31 + 17) % 10007) from nL_rem (d := 10007) (by omega) (by omega)]
  refine lv_lstore_n (lv' := [(2, .long (nL ((sa * 7919 + uu * 31 + 17) % 10007))), (0, .int (nI sa)), (1, .int (nI uu))]) hx hb dX6_bucket_21 rfl hl (by decide) rfl (fun ls hl => ?_)
  refine lv_lload_n hx hb dX6_bucket_22 rfl (lv_at hl 0 rfl) ?_
  refine lv_lload_n hx hb dX6_bucket_23 rfl (lv_at hl 0 rfl) ?_
  refine lv_lmul hx hb dX6_bucket_24 ?_
  refine lv_iload_n hx hb dX6_bucket_25 rfl (lv_at hl 1 rfl) ?_
  refine lv_i2l (v := (nI sa).toInt64) hx hb dX6_bucket_26 rfl ?_
  rw [show ((nI sa).toInt64 : Int64) = nL sa from nL_i (by omega)]
  refine lv_ladd hx hb dX6_bucket_27 ?_
  refine lv_ldc2 (v := 3) hx hb hown (htT _ m_lc_X6_152) dX6_bucket_28 ?_
  refine lv_iload_n hx hb dX6_bucket_31 rfl (lv_at hl 2 rfl) ?_
  refine lv_i2l (v := (nI uu).toInt64) hx hb dX6_bucket_32 rfl ?_
  rw [show ((nI uu).toInt64 : Int64) = nL uu from nL_i (by omega)]
  refine lv_lmul hx hb dX6_bucket_33 ?_
  refine lv_ladd hx hb dX6_bucket_34 ?_
  rw [show ((((nL ((sa * 7919 + uu * 31 + 17) % 10007)) * (nL ((sa * 7919 + uu * 31 + 17) % 10007))) + (nL sa)) + (3 * (nL uu)) : Int64) = nL (((sa * 7919 + uu * 31 + 17) % 10007) * ((sa * 7919 + uu * 31 + 17) % 10007) + sa + 3 * uu) from by rw [show (3 : Int64) = nL 3 from rfl, nL_mul, nL_mul, nL_add, nL_add]]
  refine lv_ldc2 (v := 10007) hx hb hown (htT _ m_lc_X6_150) dX6_bucket_35 ?_
  refine lv_lrem hx hb dX6_bucket_38 (by decide) ?_
  rw [show ((nL (((sa * 7919 + uu * 31 + 17) % 10007) * ((sa * 7919 + uu * 31 + 17) % 10007) + sa + 3 * uu)) - (nL (((sa * 7919 + uu * 31 + 17) % 10007) * ((sa * 7919 + uu * 31 + 17) % 10007) + sa + 3 * uu)) / 10007 * 10007 : Int64) = nL ((((sa * 7919 + uu * 31 + 17) % 10007) * ((sa * 7919 + uu * 31 + 17) % 10007) + sa + 3 * uu) % 10007) from nL_rem (d := 10007) (by omega) (by omega)]
  refine lv_ldc2 (v := 1000) hx hb hown (htT _ m_lc_X6_154) dX6_bucket_39 ?_
  refine lv_lrem hx hb dX6_bucket_42 (by decide) ?_
  rw [show ((nL ((((sa * 7919 + uu * 31 + 17) % 10007) * ((sa * 7919 + uu * 31 + 17) % 10007) + sa + 3 * uu) % 10007)) - (nL ((((sa * 7919 + uu * 31 + 17) % 10007) * ((sa * 7919 + uu * 31 + 17) % 10007) + sa + 3 * uu) % 10007)) / 1000 * 1000 : Int64) = nL ((((sa * 7919 + uu * 31 + 17) % 10007) * ((sa * 7919 + uu * 31 + 17) % 10007) + sa + 3 * uu) % 10007 % 1000) from nL_rem (d := 1000) (by omega) (by omega)]
  refine lv_l2i (v := (nL ((((sa * 7919 + uu * 31 + 17) % 10007) * ((sa * 7919 + uu * 31 + 17) % 10007) + sa + 3 * uu) % 10007 % 1000)).toInt32) hx hb dX6_bucket_43 rfl ?_
  rw [show ((nL ((((sa * 7919 + uu * 31 + 17) % 10007) * ((sa * 7919 + uu * 31 + 17) % 10007) + sa + 3 * uu) % 10007 % 1000)).toInt32 : Int32) = nI ((((sa * 7919 + uu * 31 + 17) % 10007) * ((sa * 7919 + uu * 31 + 17) % 10007) + sa + 3 * uu) % 10007 % 1000) from nL_32]
  exact W.iret (v := nI ((((sa * 7919 + uu * 31 + 17) % 10007) * ((sa * 7919 + uu * 31 + 17) % 10007) + sa + 3 * uu) % 10007 % 1000)) hx hb hr (fun t ht hW => ⟨⟨nI ((((sa * 7919 + uu * 31 + 17) % 10007) * ((sa * 7919 + uu * 31 + 17) % 10007) + sa + 3 * uu) % 10007 % 1000), (), rfl, rfl, by rw [ht]; exact hP, va_K.moved hW.alike hK, hD⟩, hS.F ht⟩) hS.2.2 dX6_bucket_44

set_option maxRecDepth 100000 in
set_option maxHeartbeats 4000000 in
/-- arm -/
theorem d_arm (l : Launch) (D : va_G) (cA : Nat → ClassId) (sz : Nat) (wb : va_W) (b L : Nat) (xs : Nat → Int32) (hL : L < 2 ^ 31) (T : Pool) (d x : Nat) (Ad : DA) (n na : Nat) (fF : Nat → Int32) (fO fW : Nat → Nat → Int32) (fC : Nat → Nat) (fR : Nat → Nat → Nat → Int32) (fB : Nat → Nat → Int32) (dk : DK T d x b Ad (n, na, fF, fO, fW, fC, fR, fB)) (hna : na ≤ 100) (k u : Int32)  : Met l yX6_arm (Cond.code yX6_arm cX6_arm 7 (some (.array .int)) :: TT) ({ frames := 0, cells := 1, slots := 0, locals := 0 }) (va_Pc [.ref d, .int k, .int u] (kPreE D cA (PW cA T ++ wb) b L xs sz)) (va_Qq (fun (r_ : Option Nat) (x_ : Pool) => (∃ i, i < na ∧ r_ = some (aAk Ad i) ∧ fB i 0 = k ∧ fB i 1 = u ∧ (∀ j, j < i → ¬ (fB j 0 = k ∧ fB j 1 = u)) ∧ x_ = T) ∨ ((∀ j, j < na → ¬ (fB j 0 = k ∧ fB j 1 = u)) ∧ ∃ q, q ∉ gL T ∧ r_ = some q ∧ x_ = pW T q 14 0)) (fun x_ => kB D cA (va_A (PW cA T ++ wb) sz) (PW cA x_ ++ wb)) (va_A (PW cA T ++ wb) sz)) 1 0 (va_A (PW cA T ++ wb) sz) := by
  refine Met.ofW (cc := cX6_arm) (maxL := 7) (ret := (some (.array .int))) (by decide) rfl ?_
  intro p e s m args below meth c s₁ B hml hv
  obtain ⟨rfl, ⟨⟨hsz, hP, hK, hD0, hTB⟩, hTX⟩, hX, hbl, hbA, hAO⟩ := hv
  have hx := B.exec
  have hb := B.bytes
  have hr := B.returns
  have hts := atoms_spec (ws := Cond.code yX6_arm cX6_arm 7 (some (.array .int)) :: TT) B.pre
  have htT : ∀ w ∈ TT, w.before _ s = true := fun w h => hts w (List.mem_cons_of_mem _ h)
  have hown : s.vm.findClass RX6 = some m.cls := findClass_of_methodNamed B.named
  have hlocks := B.notSynchronized
  subst hsz
  have hD := hD0.self (sz := s.heap.size)
  generalize hAe : va_A (PW cA T ++ wb) s.heap.size = A at hD hTX hbA ⊢
  have hA : ∀ q : Nat, s.heap.size ≤ q → A q := fun q h => by rw [← hAe]; exact Or.inr h
  have hS : va_S A s.heap s.heap [] := va_S.rf
  have hl := lv_entry ([.ref d, .int k, .int u]) (n := 7) (Nat.le_of_ble_eq_true rfl)
  rw [lg_entry_eq]
  generalize (lg_sl ([.ref d, .int k, .int u]) ++ List.replicate (7 - (lg_sl ([.ref d, .int k, .int u])).length) Slot.unset).toArray = ls at hl ⊢
  have hl : lv_has ls 7 [(0, .ref d), (1, .int k), (2, .int u)] := hl
  refine lv_aload_n hx hb dX6_arm_0 rfl (lv_at hl 0 rfl) ?_
  refine kd_gets (r := (aA Ad)) hx hb htT m_u_X6 hown hK hP dk.o rfl 9 (by decide) (by decide) rfl dk.q9 (htT _ m_fl_X6_31) dX6_arm_1 ?_
  refine lv_astore_n (lv' := [(3, .ref (aA Ad)), (0, .ref d), (1, .int k), (2, .int u)]) hx hb dX6_arm_4 rfl hl (by decide) rfl (fun ls hl => ?_)
  refine lv_aload_n hx hb dX6_arm_5 rfl (lv_at hl 0 rfl) ?_
  refine ky_lena (v := nI (na)) hx hb hK hP dk.aa rfl dX6_arm_6 ?_
  refine lv_istore (lv' := [(4, .int (nI (na))), (3, .ref (aA Ad)), (0, .ref d), (1, .int k), (2, .int u)]) hx hb dX6_arm_7 hl (by decide) rfl (fun ls hl => ?_)
  refine lv_iconst (v := 0) hx hb dX6_arm_9 (by decide) ?_
  refine lv_istore (lv' := [(5, .int 0), (4, .int (nI (na))), (3, .ref (aA Ad)), (0, .ref d), (1, .int k), (2, .int u)]) hx hb dX6_arm_10 hl (by decide) rfl (fun ls hl => ?_)
  refine kz_loop 12 (fun N9 H locs ls => ∃ (i : Nat), N9 = na - i ∧ i ≤ na ∧ (∀ j, j < i → ¬ (fB j 0 = k ∧ fB j 1 = u)) ∧ va_P D vwCl (PW cA T ++ wb) H ∧ va_D A (PW cA T ++ wb) ∧ va_S A s.heap H locs ∧ lv_has ls 7 [(5, .int (nI i)), (4, .int (nI na)), (3, .ref (aA Ad)), (0, .ref d), (1, .int k), (2, .int u)]) (fun N9 ih_12 H locs ls hI => ?_) ⟨0, rfl, Nat.zero_le _, (fun j hj => absurd hj (Nat.not_lt_zero _)), hP, hD, hS, lv_sub hl [0, 1, 2, 3, 4, 5] rfl⟩
  obtain ⟨i, hn9, hi9, hall, hP, hD, hS, hl⟩ := hI
  refine lv_iload hx hb dX6_arm_12 (lv_at hl 0 rfl) ?_
  refine lv_iload hx hb dX6_arm_14 (lv_at hl 1 rfl) ?_
  refine lv_icmp_ge (tgt := 50) hx hb dX6_arm_16 (by decide) (fun c_1 => ?_) (fun c_1 => ?_)
  · replace c_1 := (nI_leI (a := na) (b := i) (by omega) (by omega)).mp c_1
    refine lv_iconst (v := 0) hx hb dX6_arm_50 (by decide) ?_
    refine ky_newi (n := 0) (N' := 0) hx hb (htT _ m_ar_int) hK hP hD hS hA 14 (Nat.le_of_ble_eq_true rfl) (Nat.le_of_ble_eq_true rfl) (by decide) (by decide) (Nat.le_of_ble_eq_true rfl) (Nat.le_of_ble_eq_true rfl) (Nat.le_of_ble_eq_true rfl) dX6_arm_51 (fun q_2 H hq_2 hP hD hS => ?_)
    have nq_2 := dk.nq hq_2
    have dk_3 : DK (pW T q_2 14 0) d x b Ad (n, na, fF, fO, fW, fC, fR, fB) := dk.ext (ExtA.new hq_2)
    exact W.aret (v := va_rf (some q_2)) hx hb hr (Or.inr ⟨_, rfl⟩) (kz_rf _) (fun t ht hW => ⟨⟨(some q_2), pW T q_2 14 0, rfl, Or.inr ⟨fun j hj => hall j (by omega), q_2, hq_2, rfl, rfl⟩, by rw [ht]; exact hP, va_K.moved hW.alike hK, hD⟩, hS.F ht⟩) hS.2.2 dX6_arm_53
  · replace c_1 : ¬ (na ≤ i) := fun h9 => c_1 ((nI_leI (a := na) (b := i) (by omega) (by omega)).mpr h9)
    refine lv_aload_n hx hb dX6_arm_19 rfl (lv_at hl 2 rfl) ?_
    refine lv_iload hx hb dX6_arm_20 (lv_at hl 0 rfl) ?_
    refine ky_alda (r := some (aAk Ad i)) hx hb hK hP dk.aa (show vp_in (nI (i)) na from ki_in (by omega) (by omega)) ((congrArg _ (ki_cl (n := i) (by omega))).trans (dk.mp (i := i) (show i < na by omega))) dX6_arm_22 ?_
    refine lv_astore (lv' := [(6, .ref (aAk Ad i)), (5, .int (nI i)), (4, .int (nI na)), (3, .ref (aA Ad)), (0, .ref d), (1, .int k), (2, .int u)]) hx hb dX6_arm_23 hl (by decide) rfl (fun ls hl => ?_)
    refine lv_aload hx hb dX6_arm_25 (lv_at hl 0 rfl) ?_
    refine lv_iconst (v := 0) hx hb dX6_arm_27 (by decide) ?_
    refine kx_ialdv (x := fB i 0) hx hb hK (kmy_P hP) (dk.ma (i := i) (show i < na by omega)) (Nat.le_of_ble_eq_true rfl) (Nat.le_of_ble_eq_true rfl) (show vp_in 0 5 from ki_in (n := 0) (by omega) (by omega)) ((congrArg _ (ki_cl (n := 0) (by omega))).trans ((dk.mv (i := i) (j := 0) (show i < na by omega) (show 0 < 5 by omega)).trans (rfl))) dX6_arm_28 ?_
    refine lv_iload_n hx hb dX6_arm_29 rfl (lv_at hl 5 rfl) ?_
    refine lv_icmp_ne (tgt := 44) hx hb dX6_arm_30 (by decide) (fun c_4 => ?_) (fun c_4 => ?_)
    · refine lv_iinc (v := nI (i + 1)) (lv' := [(5, .int (nI (i + 1))), (6, .ref (aAk Ad i)), (4, .int (nI na)), (3, .ref (aA Ad)), (0, .ref d), (1, .int k), (2, .int u)]) hx hb dX6_arm_44 hl (k := 1) rfl (nI_1 _) (by decide) rfl (fun ls hl => ?_)
      refine lv_goto (tgt := 12) hx hb dX6_arm_47 (by decide) ?_
      have hl := lv_sub hl [0, 2, 3, 4, 5, 6] rfl
      exact ih_12 _ (by omega) H locs ls ⟨i + 1, rfl, (by omega), (fun j hj => (Nat.lt_or_ge j i).elim (fun h9 => hall j h9) (fun h9 => by rw [show j = i by omega]; exact (fun e9 => absurd e9.1 c_4))), hP, hD, hS, hl⟩
    · refine lv_aload hx hb dX6_arm_33 (lv_at hl 0 rfl) ?_
      refine lv_iconst (v := 1) hx hb dX6_arm_35 (by decide) ?_
      refine kx_ialdv (x := fB i 1) hx hb hK (kmy_P hP) (dk.ma (i := i) (show i < na by omega)) (Nat.le_of_ble_eq_true rfl) (Nat.le_of_ble_eq_true rfl) (show vp_in 1 5 from ki_in (n := 1) (by omega) (by omega)) ((congrArg _ (ki_cl (n := 1) (by omega))).trans ((dk.mv (i := i) (j := 1) (show i < na by omega) (show 1 < 5 by omega)).trans (rfl))) dX6_arm_36 ?_
      refine lv_iload_n hx hb dX6_arm_37 rfl (lv_at hl 6 rfl) ?_
      refine lv_icmp_ne (tgt := 44) hx hb dX6_arm_38 (by decide) (fun c_5 => ?_) (fun c_5 => ?_)
      · refine lv_iinc (v := nI (i + 1)) (lv' := [(5, .int (nI (i + 1))), (6, .ref (aAk Ad i)), (4, .int (nI na)), (3, .ref (aA Ad)), (0, .ref d), (1, .int k), (2, .int u)]) hx hb dX6_arm_44 hl (k := 1) rfl (nI_1 _) (by decide) rfl (fun ls hl => ?_)
        refine lv_goto (tgt := 12) hx hb dX6_arm_47 (by decide) ?_
        have hl := lv_sub hl [0, 2, 3, 4, 5, 6] rfl
        exact ih_12 _ (by omega) H locs ls ⟨i + 1, rfl, (by omega), (fun j hj => (Nat.lt_or_ge j i).elim (fun h9 => hall j h9) (fun h9 => by rw [show j = i by omega]; exact (fun e9 => absurd e9.2 c_5))), hP, hD, hS, hl⟩
      · refine lv_aload hx hb dX6_arm_41 (lv_at hl 0 rfl) ?_
        refine W.widen (k := 1) (n := 0) (Nat.le_of_ble_eq_true rfl) (Nat.le_of_ble_eq_true rfl) ?_
        exact W.aret (v := va_rf (some (aAk Ad i))) hx hb hr (Or.inr ⟨_, rfl⟩) (kz_rf _) (fun t ht hW => ⟨⟨(some (aAk Ad i)), T, rfl, Or.inl ⟨i, by omega, rfl, c_4, c_5, hall, rfl⟩, by rw [ht]; exact hP, va_K.moved hW.alike hK, hD⟩, hS.F ht⟩) hS.2.2 dX6_arm_43

set_option maxRecDepth 100000 in
set_option maxHeartbeats 4000000 in
/-- holds -/
theorem d_holds (l : Launch) (D : va_G) (cA : Nat → ClassId) (sz : Nat) (wb : va_W) (b L : Nat) (xs : Nat → Int32) (hL : L < 2 ^ 31) (T : Pool) (d x : Nat) (Ad : DA) (n na : Nat) (fF : Nat → Int32) (fO fW : Nat → Nat → Int32) (fC : Nat → Nat) (fR : Nat → Nat → Nat → Int32) (fB : Nat → Nat → Int32) (dk : DK T d x b Ad (n, na, fF, fO, fW, fC, fR, fB)) (k : Nat) (hk : k < 8) (hC : fC k ≤ 5) (hru : ∀ i, i < fC k → (fR k i 0 = 0 ∨ fR k i 0 = 1) ∧ (fR k i 1 = 1 ∨ fR k i 1 = 2 ∨ fR k i 1 = 3) ∧ ∃ v, v ≤ 9 ∧ fR k i 2 = nI v) (f g : Nat) (hf : f ≤ 9) (hg : g ≤ 9)  : Met l yX6_holds (Cond.code yX6_holds cX6_holds 7 (some .int) :: TT) ({ frames := 0, cells := 0, slots := 0, locals := 0 }) (va_Pc [.ref d, .int (nI k), .int (nI f), .int (nI g)] (kPreE D cA (PW cA T ++ wb) b L xs sz)) (va_Qi (fun (r_ : Int32) (x_ : Pool) => r_ = dHo (fun i => dMt (fR k i) (nI f) (nI g)) (fC k) 0 ∧ x_ = T) (fun x_ => kB D cA (va_A (PW cA T ++ wb) sz) (PW cA x_ ++ wb)) (va_A (PW cA T ++ wb) sz)) 0 0 (va_A (PW cA T ++ wb) sz) := by
  refine Met.ofW (cc := cX6_holds) (maxL := 7) (ret := (some .int)) (by decide) rfl ?_
  intro p e s m args below meth c s₁ B hml hv
  obtain ⟨rfl, ⟨⟨hsz, hP, hK, hD0, hTB⟩, hTX⟩, hX, hbl, hbA, hAO⟩ := hv
  have hx := B.exec
  have hb := B.bytes
  have hr := B.returns
  have hts := atoms_spec (ws := Cond.code yX6_holds cX6_holds 7 (some .int) :: TT) B.pre
  have htT : ∀ w ∈ TT, w.before _ s = true := fun w h => hts w (List.mem_cons_of_mem _ h)
  have hown : s.vm.findClass RX6 = some m.cls := findClass_of_methodNamed B.named
  have hlocks := B.notSynchronized
  subst hsz
  have hD := hD0.self (sz := s.heap.size)
  generalize hAe : va_A (PW cA T ++ wb) s.heap.size = A at hD hTX hbA ⊢
  have hA : ∀ q : Nat, s.heap.size ≤ q → A q := fun q h => by rw [← hAe]; exact Or.inr h
  have hS : va_S A s.heap s.heap [] := va_S.rf
  have hl := lv_entry ([.ref d, .int (nI k), .int (nI f), .int (nI g)]) (n := 7) (Nat.le_of_ble_eq_true rfl)
  rw [lg_entry_eq]
  generalize (lg_sl ([.ref d, .int (nI k), .int (nI f), .int (nI g)]) ++ List.replicate (7 - (lg_sl ([.ref d, .int (nI k), .int (nI f), .int (nI g)])).length) Slot.unset).toArray = ls at hl ⊢
  have hl : lv_has ls 7 [(0, .ref d), (1, .int (nI k)), (2, .int (nI f)), (3, .int (nI g))] := hl
  refine lv_iconst (v := 0) hx hb dX6_holds_0 (by decide) ?_
  refine lv_istore (lv' := [(4, .int 0), (0, .ref d), (1, .int (nI k)), (2, .int (nI f)), (3, .int (nI g))]) hx hb dX6_holds_1 hl (by decide) rfl (fun ls hl => ?_)
  refine kz_loop 3 (fun N9 H locs ls => ∃ (i : Nat), N9 = fC k - i ∧ i ≤ fC k ∧ dHo (fun i => dMt (fR k i) (nI f) (nI g)) (fC k) 0 = dHo (fun i => dMt (fR k i) (nI f) (nI g)) (fC k - i) i ∧ va_P D vwCl (PW cA T ++ wb) H ∧ va_D A (PW cA T ++ wb) ∧ va_S A s.heap H locs ∧ lv_has ls 7 [(4, .int (nI i)), (0, .ref d), (1, .int (nI k)), (2, .int (nI f)), (3, .int (nI g))]) (fun N9 ih_3 H locs ls hI => ?_) ⟨0, rfl, Nat.zero_le _, rfl, hP, hD, hS, lv_sub hl [0, 1, 2, 3, 4] rfl⟩
  obtain ⟨i, hn9, hi9, hdo, hP, hD, hS, hl⟩ := hI
  refine lv_iload hx hb dX6_holds_3 (lv_at hl 0 rfl) ?_
  refine lv_aload_n hx hb dX6_holds_5 rfl (lv_at hl 1 rfl) ?_
  refine kd_gets (r := (aR Ad)) hx hb htT m_u_X6 hown hK hP dk.o rfl 8 (by decide) (by decide) rfl dk.q8 (htT _ m_fl_X6_28) dX6_holds_6 ?_
  refine lv_iload_n hx hb dX6_holds_9 rfl (lv_at hl 2 rfl) ?_
  refine ky_aldb (r := some (aRk Ad k)) hx hb hK hP dk.ar (show vp_in (nI (k)) 8 from ki_in (by omega) (by omega)) ((congrArg _ (ki_cl (n := k) (by omega))).trans (dk.rp (k := k) (show k < 8 by omega))) dX6_holds_10 ?_
  refine ky_lena (v := nI (fC k)) hx hb hK hP (dk.ra (k := k) (show k < 8 by omega)) rfl dX6_holds_11 ?_
  refine lv_icmp_ge (tgt := 93) hx hb dX6_holds_12 (by decide) (fun c_1 => ?_) (fun c_1 => ?_)
  · replace c_1 := (nI_leI (a := fC k) (b := i) (by omega) (by omega)).mp c_1
    refine lv_iconst (v := (-1)) hx hb dX6_holds_93 (by decide) ?_
    exact W.iret (v := -1) hx hb hr (fun t ht hW => ⟨⟨-1, T, rfl, ⟨(hdo.trans (dHo_z (by omega))).symm, rfl⟩, by rw [ht]; exact hP, va_K.moved hW.alike hK, hD⟩, hS.F ht⟩) hS.2.2 dX6_holds_94
  · replace c_1 : ¬ (fC k ≤ i) := fun h9 => c_1 ((nI_leI (a := fC k) (b := i) (by omega) (by omega)).mpr h9)
    refine lv_aload_n hx hb dX6_holds_15 rfl (lv_at hl 1 rfl) ?_
    refine kd_gets (r := (aR Ad)) hx hb htT m_u_X6 hown hK hP dk.o rfl 8 (by decide) (by decide) rfl dk.q8 (htT _ m_fl_X6_28) dX6_holds_16 ?_
    refine lv_iload_n hx hb dX6_holds_19 rfl (lv_at hl 2 rfl) ?_
    refine ky_aldb (r := some (aRk Ad k)) hx hb hK hP dk.ar (show vp_in (nI (k)) 8 from ki_in (by omega) (by omega)) ((congrArg _ (ki_cl (n := k) (by omega))).trans (dk.rp (k := k) (show k < 8 by omega))) dX6_holds_20 ?_
    refine lv_iload hx hb dX6_holds_21 (lv_at hl 0 rfl) ?_
    refine ky_alda (r := some (aRR Ad k i)) hx hb hK hP (dk.ra (k := k) (show k < 8 by omega)) (show vp_in (nI (i)) (fC k) from ki_in (by omega) (by omega)) ((congrArg _ (ki_cl (n := i) (by omega))).trans (dk.rrp (k := k) (i := i) (show k < 8 by omega) (show i < fC k by omega))) dX6_holds_23 ?_
    refine lv_astore (lv' := [(5, .ref (aRR Ad k i)), (4, .int (nI i)), (0, .ref d), (1, .int (nI k)), (2, .int (nI f)), (3, .int (nI g))]) hx hb dX6_holds_24 hl (by decide) rfl (fun ls hl => ?_)
    obtain ⟨hm9, hh9, nn, hnn, en9⟩ := hru i (by omega)
    rcases hm9 with hm9 | hm9
    · rcases hh9 with hh9 | hh9 | hh9
      · have e0 : (if fR k i 0 = 0 then nI f else nI g) = nI f := if_pos hm9
        have hdm := dMt_1 e0 hh9 en9 (by omega) (by omega)
        refine lv_aload hx hb dX6_holds_26 (lv_at hl 0 rfl) ?_
        refine lv_iconst (v := 0) hx hb dX6_holds_28 (by decide) ?_
        refine kx_ialdv (x := 0) hx hb hK (kmy_P hP) (dk.rra (k := k) (i := i) (show k < 8 by omega) (show i < fC k by omega)) (Nat.le_of_ble_eq_true rfl) (Nat.le_of_ble_eq_true rfl) (show vp_in 0 4 from ki_in (n := 0) (by omega) (by omega)) ((congrArg _ (ki_cl (n := 0) (by omega))).trans ((dk.rv (k := k) (i := i) (j := 0) (show k < 8 by omega) (show i < fC k by omega) (show 0 < 4 by omega)).trans (hm9))) dX6_holds_29 ?_
        refine lv_if_ne (tgt := 37) hx hb dX6_holds_30 (by decide) (fun c_2 => absurd c_2 (by decide)) (fun _ => ?_)
        refine lv_iload_n hx hb dX6_holds_33 rfl (lv_at hl 4 rfl) ?_
        refine lv_goto (tgt := 38) hx hb dX6_holds_34 (by decide) ?_
        refine lv_aload hx hb dX6_holds_38 (lv_at hl 0 rfl) ?_
        refine lv_iconst (v := 2) hx hb dX6_holds_40 (by decide) ?_
        refine kx_ialdv (x := nI nn) hx hb hK (kmy_P hP) (dk.rra (k := k) (i := i) (show k < 8 by omega) (show i < fC k by omega)) (Nat.le_of_ble_eq_true rfl) (Nat.le_of_ble_eq_true rfl) (show vp_in 2 4 from ki_in (n := 2) (by omega) (by omega)) ((congrArg _ (ki_cl (n := 2) (by omega))).trans ((dk.rv (k := k) (i := i) (j := 2) (show k < 8 by omega) (show i < fC k by omega) (show 2 < 4 by omega)).trans (en9))) dX6_holds_41 ?_
        refine lv_isub hx hb dX6_holds_42 ?_
        refine lv_istore (lv' := [(6, .int ((nI f) - (nI nn))), (5, .ref (aRR Ad k i)), (4, .int (nI i)), (0, .ref d), (1, .int (nI k)), (2, .int (nI f)), (3, .int (nI g))]) hx hb dX6_holds_43 hl (by decide) rfl (fun ls hl => ?_)
        refine lv_aload hx hb dX6_holds_45 (lv_at hl 1 rfl) ?_
        refine lv_iconst (v := 1) hx hb dX6_holds_47 (by decide) ?_
        refine kx_ialdv (x := 1) hx hb hK (kmy_P hP) (dk.rra (k := k) (i := i) (show k < 8 by omega) (show i < fC k by omega)) (Nat.le_of_ble_eq_true rfl) (Nat.le_of_ble_eq_true rfl) (show vp_in 1 4 from ki_in (n := 1) (by omega) (by omega)) ((congrArg _ (ki_cl (n := 1) (by omega))).trans ((dk.rv (k := k) (i := i) (j := 1) (show k < 8 by omega) (show i < fC k by omega) (show 1 < 4 by omega)).trans (hh9))) dX6_holds_48 ?_
        refine lv_iconst (v := 1) hx hb dX6_holds_49 (by decide) ?_
        refine lv_icmp_ne (tgt := 58) hx hb dX6_holds_50 (by decide) (fun c_3 => absurd c_3 (by decide)) (fun _ => ?_)
        refine lv_iload hx hb dX6_holds_53 (lv_at hl 0 rfl) ?_
        refine lv_if_lt (tgt := 84) hx hb dX6_holds_55 (by decide) (fun c_4 => ?_) (fun c_4 => ?_)
        · refine lv_iload hx hb dX6_holds_84 (lv_at hl 2 rfl) ?_
          exact W.iret (v := nI i) hx hb hr (fun t ht hW => ⟨⟨nI i, T, rfl, ⟨(hdo.trans (dHo_y (hdm.mpr c_4) (by omega))).symm, rfl⟩, by rw [ht]; exact hP, va_K.moved hW.alike hK, hD⟩, hS.F ht⟩) hS.2.2 dX6_holds_86
        · refine lv_aload hx hb dX6_holds_58 (lv_at hl 1 rfl) ?_
          refine lv_iconst (v := 1) hx hb dX6_holds_60 (by decide) ?_
          refine kx_ialdv (x := 1) hx hb hK (kmy_P hP) (dk.rra (k := k) (i := i) (show k < 8 by omega) (show i < fC k by omega)) (Nat.le_of_ble_eq_true rfl) (Nat.le_of_ble_eq_true rfl) (show vp_in 1 4 from ki_in (n := 1) (by omega) (by omega)) ((congrArg _ (ki_cl (n := 1) (by omega))).trans ((dk.rv (k := k) (i := i) (j := 1) (show k < 8 by omega) (show i < fC k by omega) (show 1 < 4 by omega)).trans (hh9))) dX6_holds_61 ?_
          refine lv_iconst (v := 2) hx hb dX6_holds_62 (by decide) ?_
          refine lv_icmp_ne (tgt := 71) hx hb dX6_holds_63 (by decide) (fun _ => ?_) (fun c_5 => absurd c_5 (by decide))
          refine lv_aload hx hb dX6_holds_71 (lv_at hl 1 rfl) ?_
          refine lv_iconst (v := 1) hx hb dX6_holds_73 (by decide) ?_
          refine kx_ialdv (x := 1) hx hb hK (kmy_P hP) (dk.rra (k := k) (i := i) (show k < 8 by omega) (show i < fC k by omega)) (Nat.le_of_ble_eq_true rfl) (Nat.le_of_ble_eq_true rfl) (show vp_in 1 4 from ki_in (n := 1) (by omega) (by omega)) ((congrArg _ (ki_cl (n := 1) (by omega))).trans ((dk.rv (k := k) (i := i) (j := 1) (show k < 8 by omega) (show i < fC k by omega) (show 1 < 4 by omega)).trans (hh9))) dX6_holds_74 ?_
          refine lv_iconst (v := 3) hx hb dX6_holds_75 (by decide) ?_
          refine lv_icmp_ne (tgt := 87) hx hb dX6_holds_76 (by decide) (fun _ => ?_) (fun c_6 => absurd c_6 (by decide))
          refine lv_iinc (v := nI (i + 1)) (lv' := [(4, .int (nI (i + 1))), (6, .int ((nI f) - (nI nn))), (5, .ref (aRR Ad k i)), (0, .ref d), (1, .int (nI k)), (2, .int (nI f)), (3, .int (nI g))]) hx hb dX6_holds_87 hl (k := 2) rfl (nI_1 _) (by decide) rfl (fun ls hl => ?_)
          refine lv_goto (tgt := 3) hx hb dX6_holds_90 (by decide) ?_
          have hl := lv_sub hl [0, 3, 4, 5, 6] rfl
          exact ih_3 _ (by omega) H locs ls ⟨i + 1, rfl, (by omega), (hdo.trans ((dHo_n (fun e9 => absurd (hdm.mp e9) c_4) (by omega)).trans (by rw [show fC k - i - 1 = fC k - (i + 1) by omega]))), hP, hD, hS, hl⟩
      · have e0 : (if fR k i 0 = 0 then nI f else nI g) = nI f := if_pos hm9
        have hdm := dMt_2 e0 hh9 en9 (by omega) (by omega)
        refine lv_aload hx hb dX6_holds_26 (lv_at hl 0 rfl) ?_
        refine lv_iconst (v := 0) hx hb dX6_holds_28 (by decide) ?_
        refine kx_ialdv (x := 0) hx hb hK (kmy_P hP) (dk.rra (k := k) (i := i) (show k < 8 by omega) (show i < fC k by omega)) (Nat.le_of_ble_eq_true rfl) (Nat.le_of_ble_eq_true rfl) (show vp_in 0 4 from ki_in (n := 0) (by omega) (by omega)) ((congrArg _ (ki_cl (n := 0) (by omega))).trans ((dk.rv (k := k) (i := i) (j := 0) (show k < 8 by omega) (show i < fC k by omega) (show 0 < 4 by omega)).trans (hm9))) dX6_holds_29 ?_
        refine lv_if_ne (tgt := 37) hx hb dX6_holds_30 (by decide) (fun c_7 => absurd c_7 (by decide)) (fun _ => ?_)
        refine lv_iload_n hx hb dX6_holds_33 rfl (lv_at hl 4 rfl) ?_
        refine lv_goto (tgt := 38) hx hb dX6_holds_34 (by decide) ?_
        refine lv_aload hx hb dX6_holds_38 (lv_at hl 0 rfl) ?_
        refine lv_iconst (v := 2) hx hb dX6_holds_40 (by decide) ?_
        refine kx_ialdv (x := nI nn) hx hb hK (kmy_P hP) (dk.rra (k := k) (i := i) (show k < 8 by omega) (show i < fC k by omega)) (Nat.le_of_ble_eq_true rfl) (Nat.le_of_ble_eq_true rfl) (show vp_in 2 4 from ki_in (n := 2) (by omega) (by omega)) ((congrArg _ (ki_cl (n := 2) (by omega))).trans ((dk.rv (k := k) (i := i) (j := 2) (show k < 8 by omega) (show i < fC k by omega) (show 2 < 4 by omega)).trans (en9))) dX6_holds_41 ?_
        refine lv_isub hx hb dX6_holds_42 ?_
        refine lv_istore (lv' := [(6, .int ((nI f) - (nI nn))), (5, .ref (aRR Ad k i)), (4, .int (nI i)), (0, .ref d), (1, .int (nI k)), (2, .int (nI f)), (3, .int (nI g))]) hx hb dX6_holds_43 hl (by decide) rfl (fun ls hl => ?_)
        refine lv_aload hx hb dX6_holds_45 (lv_at hl 1 rfl) ?_
        refine lv_iconst (v := 1) hx hb dX6_holds_47 (by decide) ?_
        refine kx_ialdv (x := 2) hx hb hK (kmy_P hP) (dk.rra (k := k) (i := i) (show k < 8 by omega) (show i < fC k by omega)) (Nat.le_of_ble_eq_true rfl) (Nat.le_of_ble_eq_true rfl) (show vp_in 1 4 from ki_in (n := 1) (by omega) (by omega)) ((congrArg _ (ki_cl (n := 1) (by omega))).trans ((dk.rv (k := k) (i := i) (j := 1) (show k < 8 by omega) (show i < fC k by omega) (show 1 < 4 by omega)).trans (hh9))) dX6_holds_48 ?_
        refine lv_iconst (v := 1) hx hb dX6_holds_49 (by decide) ?_
        refine lv_icmp_ne (tgt := 58) hx hb dX6_holds_50 (by decide) (fun _ => ?_) (fun c_8 => absurd c_8 (by decide))
        refine lv_aload hx hb dX6_holds_58 (lv_at hl 1 rfl) ?_
        refine lv_iconst (v := 1) hx hb dX6_holds_60 (by decide) ?_
        refine kx_ialdv (x := 2) hx hb hK (kmy_P hP) (dk.rra (k := k) (i := i) (show k < 8 by omega) (show i < fC k by omega)) (Nat.le_of_ble_eq_true rfl) (Nat.le_of_ble_eq_true rfl) (show vp_in 1 4 from ki_in (n := 1) (by omega) (by omega)) ((congrArg _ (ki_cl (n := 1) (by omega))).trans ((dk.rv (k := k) (i := i) (j := 1) (show k < 8 by omega) (show i < fC k by omega) (show 1 < 4 by omega)).trans (hh9))) dX6_holds_61 ?_
        refine lv_iconst (v := 2) hx hb dX6_holds_62 (by decide) ?_
        refine lv_icmp_ne (tgt := 71) hx hb dX6_holds_63 (by decide) (fun c_9 => absurd c_9 (by decide)) (fun _ => ?_)
        refine lv_iload hx hb dX6_holds_66 (lv_at hl 0 rfl) ?_
        refine lv_if_eq (tgt := 84) hx hb dX6_holds_68 (by decide) (fun c_10 => ?_) (fun c_10 => ?_)
        · refine lv_iload hx hb dX6_holds_84 (lv_at hl 2 rfl) ?_
          exact W.iret (v := nI i) hx hb hr (fun t ht hW => ⟨⟨nI i, T, rfl, ⟨(hdo.trans (dHo_y (hdm.mpr c_10) (by omega))).symm, rfl⟩, by rw [ht]; exact hP, va_K.moved hW.alike hK, hD⟩, hS.F ht⟩) hS.2.2 dX6_holds_86
        · refine lv_aload hx hb dX6_holds_71 (lv_at hl 1 rfl) ?_
          refine lv_iconst (v := 1) hx hb dX6_holds_73 (by decide) ?_
          refine kx_ialdv (x := 2) hx hb hK (kmy_P hP) (dk.rra (k := k) (i := i) (show k < 8 by omega) (show i < fC k by omega)) (Nat.le_of_ble_eq_true rfl) (Nat.le_of_ble_eq_true rfl) (show vp_in 1 4 from ki_in (n := 1) (by omega) (by omega)) ((congrArg _ (ki_cl (n := 1) (by omega))).trans ((dk.rv (k := k) (i := i) (j := 1) (show k < 8 by omega) (show i < fC k by omega) (show 1 < 4 by omega)).trans (hh9))) dX6_holds_74 ?_
          refine lv_iconst (v := 3) hx hb dX6_holds_75 (by decide) ?_
          refine lv_icmp_ne (tgt := 87) hx hb dX6_holds_76 (by decide) (fun _ => ?_) (fun c_11 => absurd c_11 (by decide))
          refine lv_iinc (v := nI (i + 1)) (lv' := [(4, .int (nI (i + 1))), (6, .int ((nI f) - (nI nn))), (5, .ref (aRR Ad k i)), (0, .ref d), (1, .int (nI k)), (2, .int (nI f)), (3, .int (nI g))]) hx hb dX6_holds_87 hl (k := 2) rfl (nI_1 _) (by decide) rfl (fun ls hl => ?_)
          refine lv_goto (tgt := 3) hx hb dX6_holds_90 (by decide) ?_
          have hl := lv_sub hl [0, 3, 4, 5, 6] rfl
          exact ih_3 _ (by omega) H locs ls ⟨i + 1, rfl, (by omega), (hdo.trans ((dHo_n (fun e9 => absurd (hdm.mp e9) c_10) (by omega)).trans (by rw [show fC k - i - 1 = fC k - (i + 1) by omega]))), hP, hD, hS, hl⟩
      · have e0 : (if fR k i 0 = 0 then nI f else nI g) = nI f := if_pos hm9
        have hdm := dMt_3 e0 hh9 en9 (by omega) (by omega)
        refine lv_aload hx hb dX6_holds_26 (lv_at hl 0 rfl) ?_
        refine lv_iconst (v := 0) hx hb dX6_holds_28 (by decide) ?_
        refine kx_ialdv (x := 0) hx hb hK (kmy_P hP) (dk.rra (k := k) (i := i) (show k < 8 by omega) (show i < fC k by omega)) (Nat.le_of_ble_eq_true rfl) (Nat.le_of_ble_eq_true rfl) (show vp_in 0 4 from ki_in (n := 0) (by omega) (by omega)) ((congrArg _ (ki_cl (n := 0) (by omega))).trans ((dk.rv (k := k) (i := i) (j := 0) (show k < 8 by omega) (show i < fC k by omega) (show 0 < 4 by omega)).trans (hm9))) dX6_holds_29 ?_
        refine lv_if_ne (tgt := 37) hx hb dX6_holds_30 (by decide) (fun c_12 => absurd c_12 (by decide)) (fun _ => ?_)
        refine lv_iload_n hx hb dX6_holds_33 rfl (lv_at hl 4 rfl) ?_
        refine lv_goto (tgt := 38) hx hb dX6_holds_34 (by decide) ?_
        refine lv_aload hx hb dX6_holds_38 (lv_at hl 0 rfl) ?_
        refine lv_iconst (v := 2) hx hb dX6_holds_40 (by decide) ?_
        refine kx_ialdv (x := nI nn) hx hb hK (kmy_P hP) (dk.rra (k := k) (i := i) (show k < 8 by omega) (show i < fC k by omega)) (Nat.le_of_ble_eq_true rfl) (Nat.le_of_ble_eq_true rfl) (show vp_in 2 4 from ki_in (n := 2) (by omega) (by omega)) ((congrArg _ (ki_cl (n := 2) (by omega))).trans ((dk.rv (k := k) (i := i) (j := 2) (show k < 8 by omega) (show i < fC k by omega) (show 2 < 4 by omega)).trans (en9))) dX6_holds_41 ?_
        refine lv_isub hx hb dX6_holds_42 ?_
        refine lv_istore (lv' := [(6, .int ((nI f) - (nI nn))), (5, .ref (aRR Ad k i)), (4, .int (nI i)), (0, .ref d), (1, .int (nI k)), (2, .int (nI f)), (3, .int (nI g))]) hx hb dX6_holds_43 hl (by decide) rfl (fun ls hl => ?_)
        refine lv_aload hx hb dX6_holds_45 (lv_at hl 1 rfl) ?_
        refine lv_iconst (v := 1) hx hb dX6_holds_47 (by decide) ?_
        refine kx_ialdv (x := 3) hx hb hK (kmy_P hP) (dk.rra (k := k) (i := i) (show k < 8 by omega) (show i < fC k by omega)) (Nat.le_of_ble_eq_true rfl) (Nat.le_of_ble_eq_true rfl) (show vp_in 1 4 from ki_in (n := 1) (by omega) (by omega)) ((congrArg _ (ki_cl (n := 1) (by omega))).trans ((dk.rv (k := k) (i := i) (j := 1) (show k < 8 by omega) (show i < fC k by omega) (show 1 < 4 by omega)).trans (hh9))) dX6_holds_48 ?_
        refine lv_iconst (v := 1) hx hb dX6_holds_49 (by decide) ?_
        refine lv_icmp_ne (tgt := 58) hx hb dX6_holds_50 (by decide) (fun _ => ?_) (fun c_13 => absurd c_13 (by decide))
        refine lv_aload hx hb dX6_holds_58 (lv_at hl 1 rfl) ?_
        refine lv_iconst (v := 1) hx hb dX6_holds_60 (by decide) ?_
        refine kx_ialdv (x := 3) hx hb hK (kmy_P hP) (dk.rra (k := k) (i := i) (show k < 8 by omega) (show i < fC k by omega)) (Nat.le_of_ble_eq_true rfl) (Nat.le_of_ble_eq_true rfl) (show vp_in 1 4 from ki_in (n := 1) (by omega) (by omega)) ((congrArg _ (ki_cl (n := 1) (by omega))).trans ((dk.rv (k := k) (i := i) (j := 1) (show k < 8 by omega) (show i < fC k by omega) (show 1 < 4 by omega)).trans (hh9))) dX6_holds_61 ?_
        refine lv_iconst (v := 2) hx hb dX6_holds_62 (by decide) ?_
        refine lv_icmp_ne (tgt := 71) hx hb dX6_holds_63 (by decide) (fun _ => ?_) (fun c_14 => absurd c_14 (by decide))
        refine lv_aload hx hb dX6_holds_71 (lv_at hl 1 rfl) ?_
        refine lv_iconst (v := 1) hx hb dX6_holds_73 (by decide) ?_
        refine kx_ialdv (x := 3) hx hb hK (kmy_P hP) (dk.rra (k := k) (i := i) (show k < 8 by omega) (show i < fC k by omega)) (Nat.le_of_ble_eq_true rfl) (Nat.le_of_ble_eq_true rfl) (show vp_in 1 4 from ki_in (n := 1) (by omega) (by omega)) ((congrArg _ (ki_cl (n := 1) (by omega))).trans ((dk.rv (k := k) (i := i) (j := 1) (show k < 8 by omega) (show i < fC k by omega) (show 1 < 4 by omega)).trans (hh9))) dX6_holds_74 ?_
        refine lv_iconst (v := 3) hx hb dX6_holds_75 (by decide) ?_
        refine lv_icmp_ne (tgt := 87) hx hb dX6_holds_76 (by decide) (fun c_15 => absurd c_15 (by decide)) (fun _ => ?_)
        refine lv_iload hx hb dX6_holds_79 (lv_at hl 0 rfl) ?_
        refine lv_if_le (tgt := 87) hx hb dX6_holds_81 (by decide) (fun c_16 => ?_) (fun c_16 => ?_)
        · replace c_16 := Int32.not_lt.mpr c_16
          refine lv_iinc (v := nI (i + 1)) (lv' := [(4, .int (nI (i + 1))), (6, .int ((nI f) - (nI nn))), (5, .ref (aRR Ad k i)), (0, .ref d), (1, .int (nI k)), (2, .int (nI f)), (3, .int (nI g))]) hx hb dX6_holds_87 hl (k := 2) rfl (nI_1 _) (by decide) rfl (fun ls hl => ?_)
          refine lv_goto (tgt := 3) hx hb dX6_holds_90 (by decide) ?_
          have hl := lv_sub hl [0, 3, 4, 5, 6] rfl
          exact ih_3 _ (by omega) H locs ls ⟨i + 1, rfl, (by omega), (hdo.trans ((dHo_n (fun e9 => absurd (hdm.mp e9) c_16) (by omega)).trans (by rw [show fC k - i - 1 = fC k - (i + 1) by omega]))), hP, hD, hS, hl⟩
        · replace c_16 := Int32.not_le.mp c_16
          refine lv_iload hx hb dX6_holds_84 (lv_at hl 2 rfl) ?_
          exact W.iret (v := nI i) hx hb hr (fun t ht hW => ⟨⟨nI i, T, rfl, ⟨(hdo.trans (dHo_y (hdm.mpr c_16) (by omega))).symm, rfl⟩, by rw [ht]; exact hP, va_K.moved hW.alike hK, hD⟩, hS.F ht⟩) hS.2.2 dX6_holds_86
    · rcases hh9 with hh9 | hh9 | hh9
      · have e0 : (if fR k i 0 = 0 then nI f else nI g) = nI g := if_neg (by rw [hm9]; decide)
        have hdm := dMt_1 e0 hh9 en9 (by omega) (by omega)
        refine lv_aload hx hb dX6_holds_26 (lv_at hl 0 rfl) ?_
        refine lv_iconst (v := 0) hx hb dX6_holds_28 (by decide) ?_
        refine kx_ialdv (x := 1) hx hb hK (kmy_P hP) (dk.rra (k := k) (i := i) (show k < 8 by omega) (show i < fC k by omega)) (Nat.le_of_ble_eq_true rfl) (Nat.le_of_ble_eq_true rfl) (show vp_in 0 4 from ki_in (n := 0) (by omega) (by omega)) ((congrArg _ (ki_cl (n := 0) (by omega))).trans ((dk.rv (k := k) (i := i) (j := 0) (show k < 8 by omega) (show i < fC k by omega) (show 0 < 4 by omega)).trans (hm9))) dX6_holds_29 ?_
        refine lv_if_ne (tgt := 37) hx hb dX6_holds_30 (by decide) (fun _ => ?_) (fun c_17 => absurd c_17 (by decide))
        refine lv_iload_n hx hb dX6_holds_37 rfl (lv_at hl 5 rfl) ?_
        refine lv_aload hx hb dX6_holds_38 (lv_at hl 0 rfl) ?_
        refine lv_iconst (v := 2) hx hb dX6_holds_40 (by decide) ?_
        refine kx_ialdv (x := nI nn) hx hb hK (kmy_P hP) (dk.rra (k := k) (i := i) (show k < 8 by omega) (show i < fC k by omega)) (Nat.le_of_ble_eq_true rfl) (Nat.le_of_ble_eq_true rfl) (show vp_in 2 4 from ki_in (n := 2) (by omega) (by omega)) ((congrArg _ (ki_cl (n := 2) (by omega))).trans ((dk.rv (k := k) (i := i) (j := 2) (show k < 8 by omega) (show i < fC k by omega) (show 2 < 4 by omega)).trans (en9))) dX6_holds_41 ?_
        refine lv_isub hx hb dX6_holds_42 ?_
        refine lv_istore (lv' := [(6, .int ((nI g) - (nI nn))), (5, .ref (aRR Ad k i)), (4, .int (nI i)), (0, .ref d), (1, .int (nI k)), (2, .int (nI f)), (3, .int (nI g))]) hx hb dX6_holds_43 hl (by decide) rfl (fun ls hl => ?_)
        refine lv_aload hx hb dX6_holds_45 (lv_at hl 1 rfl) ?_
        refine lv_iconst (v := 1) hx hb dX6_holds_47 (by decide) ?_
        refine kx_ialdv (x := 1) hx hb hK (kmy_P hP) (dk.rra (k := k) (i := i) (show k < 8 by omega) (show i < fC k by omega)) (Nat.le_of_ble_eq_true rfl) (Nat.le_of_ble_eq_true rfl) (show vp_in 1 4 from ki_in (n := 1) (by omega) (by omega)) ((congrArg _ (ki_cl (n := 1) (by omega))).trans ((dk.rv (k := k) (i := i) (j := 1) (show k < 8 by omega) (show i < fC k by omega) (show 1 < 4 by omega)).trans (hh9))) dX6_holds_48 ?_
        refine lv_iconst (v := 1) hx hb dX6_holds_49 (by decide) ?_
        refine lv_icmp_ne (tgt := 58) hx hb dX6_holds_50 (by decide) (fun c_18 => absurd c_18 (by decide)) (fun _ => ?_)
        refine lv_iload hx hb dX6_holds_53 (lv_at hl 0 rfl) ?_
        refine lv_if_lt (tgt := 84) hx hb dX6_holds_55 (by decide) (fun c_19 => ?_) (fun c_19 => ?_)
        · refine lv_iload hx hb dX6_holds_84 (lv_at hl 2 rfl) ?_
          exact W.iret (v := nI i) hx hb hr (fun t ht hW => ⟨⟨nI i, T, rfl, ⟨(hdo.trans (dHo_y (hdm.mpr c_19) (by omega))).symm, rfl⟩, by rw [ht]; exact hP, va_K.moved hW.alike hK, hD⟩, hS.F ht⟩) hS.2.2 dX6_holds_86
        · refine lv_aload hx hb dX6_holds_58 (lv_at hl 1 rfl) ?_
          refine lv_iconst (v := 1) hx hb dX6_holds_60 (by decide) ?_
          refine kx_ialdv (x := 1) hx hb hK (kmy_P hP) (dk.rra (k := k) (i := i) (show k < 8 by omega) (show i < fC k by omega)) (Nat.le_of_ble_eq_true rfl) (Nat.le_of_ble_eq_true rfl) (show vp_in 1 4 from ki_in (n := 1) (by omega) (by omega)) ((congrArg _ (ki_cl (n := 1) (by omega))).trans ((dk.rv (k := k) (i := i) (j := 1) (show k < 8 by omega) (show i < fC k by omega) (show 1 < 4 by omega)).trans (hh9))) dX6_holds_61 ?_
          refine lv_iconst (v := 2) hx hb dX6_holds_62 (by decide) ?_
          refine lv_icmp_ne (tgt := 71) hx hb dX6_holds_63 (by decide) (fun _ => ?_) (fun c_20 => absurd c_20 (by decide))
          refine lv_aload hx hb dX6_holds_71 (lv_at hl 1 rfl) ?_
          refine lv_iconst (v := 1) hx hb dX6_holds_73 (by decide) ?_
          refine kx_ialdv (x := 1) hx hb hK (kmy_P hP) (dk.rra (k := k) (i := i) (show k < 8 by omega) (show i < fC k by omega)) (Nat.le_of_ble_eq_true rfl) (Nat.le_of_ble_eq_true rfl) (show vp_in 1 4 from ki_in (n := 1) (by omega) (by omega)) ((congrArg _ (ki_cl (n := 1) (by omega))).trans ((dk.rv (k := k) (i := i) (j := 1) (show k < 8 by omega) (show i < fC k by omega) (show 1 < 4 by omega)).trans (hh9))) dX6_holds_74 ?_
          refine lv_iconst (v := 3) hx hb dX6_holds_75 (by decide) ?_
          refine lv_icmp_ne (tgt := 87) hx hb dX6_holds_76 (by decide) (fun _ => ?_) (fun c_21 => absurd c_21 (by decide))
          refine lv_iinc (v := nI (i + 1)) (lv' := [(4, .int (nI (i + 1))), (6, .int ((nI g) - (nI nn))), (5, .ref (aRR Ad k i)), (0, .ref d), (1, .int (nI k)), (2, .int (nI f)), (3, .int (nI g))]) hx hb dX6_holds_87 hl (k := 2) rfl (nI_1 _) (by decide) rfl (fun ls hl => ?_)
          refine lv_goto (tgt := 3) hx hb dX6_holds_90 (by decide) ?_
          have hl := lv_sub hl [0, 3, 4, 5, 6] rfl
          exact ih_3 _ (by omega) H locs ls ⟨i + 1, rfl, (by omega), (hdo.trans ((dHo_n (fun e9 => absurd (hdm.mp e9) c_19) (by omega)).trans (by rw [show fC k - i - 1 = fC k - (i + 1) by omega]))), hP, hD, hS, hl⟩
      · have e0 : (if fR k i 0 = 0 then nI f else nI g) = nI g := if_neg (by rw [hm9]; decide)
        have hdm := dMt_2 e0 hh9 en9 (by omega) (by omega)
        refine lv_aload hx hb dX6_holds_26 (lv_at hl 0 rfl) ?_
        refine lv_iconst (v := 0) hx hb dX6_holds_28 (by decide) ?_
        refine kx_ialdv (x := 1) hx hb hK (kmy_P hP) (dk.rra (k := k) (i := i) (show k < 8 by omega) (show i < fC k by omega)) (Nat.le_of_ble_eq_true rfl) (Nat.le_of_ble_eq_true rfl) (show vp_in 0 4 from ki_in (n := 0) (by omega) (by omega)) ((congrArg _ (ki_cl (n := 0) (by omega))).trans ((dk.rv (k := k) (i := i) (j := 0) (show k < 8 by omega) (show i < fC k by omega) (show 0 < 4 by omega)).trans (hm9))) dX6_holds_29 ?_
        refine lv_if_ne (tgt := 37) hx hb dX6_holds_30 (by decide) (fun _ => ?_) (fun c_22 => absurd c_22 (by decide))
        refine lv_iload_n hx hb dX6_holds_37 rfl (lv_at hl 5 rfl) ?_
        refine lv_aload hx hb dX6_holds_38 (lv_at hl 0 rfl) ?_
        refine lv_iconst (v := 2) hx hb dX6_holds_40 (by decide) ?_
        refine kx_ialdv (x := nI nn) hx hb hK (kmy_P hP) (dk.rra (k := k) (i := i) (show k < 8 by omega) (show i < fC k by omega)) (Nat.le_of_ble_eq_true rfl) (Nat.le_of_ble_eq_true rfl) (show vp_in 2 4 from ki_in (n := 2) (by omega) (by omega)) ((congrArg _ (ki_cl (n := 2) (by omega))).trans ((dk.rv (k := k) (i := i) (j := 2) (show k < 8 by omega) (show i < fC k by omega) (show 2 < 4 by omega)).trans (en9))) dX6_holds_41 ?_
        refine lv_isub hx hb dX6_holds_42 ?_
        refine lv_istore (lv' := [(6, .int ((nI g) - (nI nn))), (5, .ref (aRR Ad k i)), (4, .int (nI i)), (0, .ref d), (1, .int (nI k)), (2, .int (nI f)), (3, .int (nI g))]) hx hb dX6_holds_43 hl (by decide) rfl (fun ls hl => ?_)
        refine lv_aload hx hb dX6_holds_45 (lv_at hl 1 rfl) ?_
        refine lv_iconst (v := 1) hx hb dX6_holds_47 (by decide) ?_
        refine kx_ialdv (x := 2) hx hb hK (kmy_P hP) (dk.rra (k := k) (i := i) (show k < 8 by omega) (show i < fC k by omega)) (Nat.le_of_ble_eq_true rfl) (Nat.le_of_ble_eq_true rfl) (show vp_in 1 4 from ki_in (n := 1) (by omega) (by omega)) ((congrArg _ (ki_cl (n := 1) (by omega))).trans ((dk.rv (k := k) (i := i) (j := 1) (show k < 8 by omega) (show i < fC k by omega) (show 1 < 4 by omega)).trans (hh9))) dX6_holds_48 ?_
        refine lv_iconst (v := 1) hx hb dX6_holds_49 (by decide) ?_
        refine lv_icmp_ne (tgt := 58) hx hb dX6_holds_50 (by decide) (fun _ => ?_) (fun c_23 => absurd c_23 (by decide))
        refine lv_aload hx hb dX6_holds_58 (lv_at hl 1 rfl) ?_
        refine lv_iconst (v := 1) hx hb dX6_holds_60 (by decide) ?_
        refine kx_ialdv (x := 2) hx hb hK (kmy_P hP) (dk.rra (k := k) (i := i) (show k < 8 by omega) (show i < fC k by omega)) (Nat.le_of_ble_eq_true rfl) (Nat.le_of_ble_eq_true rfl) (show vp_in 1 4 from ki_in (n := 1) (by omega) (by omega)) ((congrArg _ (ki_cl (n := 1) (by omega))).trans ((dk.rv (k := k) (i := i) (j := 1) (show k < 8 by omega) (show i < fC k by omega) (show 1 < 4 by omega)).trans (hh9))) dX6_holds_61 ?_
        refine lv_iconst (v := 2) hx hb dX6_holds_62 (by decide) ?_
        refine lv_icmp_ne (tgt := 71) hx hb dX6_holds_63 (by decide) (fun c_24 => absurd c_24 (by decide)) (fun _ => ?_)
        refine lv_iload hx hb dX6_holds_66 (lv_at hl 0 rfl) ?_
        refine lv_if_eq (tgt := 84) hx hb dX6_holds_68 (by decide) (fun c_25 => ?_) (fun c_25 => ?_)
        · refine lv_iload hx hb dX6_holds_84 (lv_at hl 2 rfl) ?_
          exact W.iret (v := nI i) hx hb hr (fun t ht hW => ⟨⟨nI i, T, rfl, ⟨(hdo.trans (dHo_y (hdm.mpr c_25) (by omega))).symm, rfl⟩, by rw [ht]; exact hP, va_K.moved hW.alike hK, hD⟩, hS.F ht⟩) hS.2.2 dX6_holds_86
        · refine lv_aload hx hb dX6_holds_71 (lv_at hl 1 rfl) ?_
          refine lv_iconst (v := 1) hx hb dX6_holds_73 (by decide) ?_
          refine kx_ialdv (x := 2) hx hb hK (kmy_P hP) (dk.rra (k := k) (i := i) (show k < 8 by omega) (show i < fC k by omega)) (Nat.le_of_ble_eq_true rfl) (Nat.le_of_ble_eq_true rfl) (show vp_in 1 4 from ki_in (n := 1) (by omega) (by omega)) ((congrArg _ (ki_cl (n := 1) (by omega))).trans ((dk.rv (k := k) (i := i) (j := 1) (show k < 8 by omega) (show i < fC k by omega) (show 1 < 4 by omega)).trans (hh9))) dX6_holds_74 ?_
          refine lv_iconst (v := 3) hx hb dX6_holds_75 (by decide) ?_
          refine lv_icmp_ne (tgt := 87) hx hb dX6_holds_76 (by decide) (fun _ => ?_) (fun c_26 => absurd c_26 (by decide))
          refine lv_iinc (v := nI (i + 1)) (lv' := [(4, .int (nI (i + 1))), (6, .int ((nI g) - (nI nn))), (5, .ref (aRR Ad k i)), (0, .ref d), (1, .int (nI k)), (2, .int (nI f)), (3, .int (nI g))]) hx hb dX6_holds_87 hl (k := 2) rfl (nI_1 _) (by decide) rfl (fun ls hl => ?_)
          refine lv_goto (tgt := 3) hx hb dX6_holds_90 (by decide) ?_
          have hl := lv_sub hl [0, 3, 4, 5, 6] rfl
          exact ih_3 _ (by omega) H locs ls ⟨i + 1, rfl, (by omega), (hdo.trans ((dHo_n (fun e9 => absurd (hdm.mp e9) c_25) (by omega)).trans (by rw [show fC k - i - 1 = fC k - (i + 1) by omega]))), hP, hD, hS, hl⟩
      · have e0 : (if fR k i 0 = 0 then nI f else nI g) = nI g := if_neg (by rw [hm9]; decide)
        have hdm := dMt_3 e0 hh9 en9 (by omega) (by omega)
        refine lv_aload hx hb dX6_holds_26 (lv_at hl 0 rfl) ?_
        refine lv_iconst (v := 0) hx hb dX6_holds_28 (by decide) ?_
        refine kx_ialdv (x := 1) hx hb hK (kmy_P hP) (dk.rra (k := k) (i := i) (show k < 8 by omega) (show i < fC k by omega)) (Nat.le_of_ble_eq_true rfl) (Nat.le_of_ble_eq_true rfl) (show vp_in 0 4 from ki_in (n := 0) (by omega) (by omega)) ((congrArg _ (ki_cl (n := 0) (by omega))).trans ((dk.rv (k := k) (i := i) (j := 0) (show k < 8 by omega) (show i < fC k by omega) (show 0 < 4 by omega)).trans (hm9))) dX6_holds_29 ?_
        refine lv_if_ne (tgt := 37) hx hb dX6_holds_30 (by decide) (fun _ => ?_) (fun c_27 => absurd c_27 (by decide))
        refine lv_iload_n hx hb dX6_holds_37 rfl (lv_at hl 5 rfl) ?_
        refine lv_aload hx hb dX6_holds_38 (lv_at hl 0 rfl) ?_
        refine lv_iconst (v := 2) hx hb dX6_holds_40 (by decide) ?_
        refine kx_ialdv (x := nI nn) hx hb hK (kmy_P hP) (dk.rra (k := k) (i := i) (show k < 8 by omega) (show i < fC k by omega)) (Nat.le_of_ble_eq_true rfl) (Nat.le_of_ble_eq_true rfl) (show vp_in 2 4 from ki_in (n := 2) (by omega) (by omega)) ((congrArg _ (ki_cl (n := 2) (by omega))).trans ((dk.rv (k := k) (i := i) (j := 2) (show k < 8 by omega) (show i < fC k by omega) (show 2 < 4 by omega)).trans (en9))) dX6_holds_41 ?_
        refine lv_isub hx hb dX6_holds_42 ?_
        refine lv_istore (lv' := [(6, .int ((nI g) - (nI nn))), (5, .ref (aRR Ad k i)), (4, .int (nI i)), (0, .ref d), (1, .int (nI k)), (2, .int (nI f)), (3, .int (nI g))]) hx hb dX6_holds_43 hl (by decide) rfl (fun ls hl => ?_)
        refine lv_aload hx hb dX6_holds_45 (lv_at hl 1 rfl) ?_
        refine lv_iconst (v := 1) hx hb dX6_holds_47 (by decide) ?_
        refine kx_ialdv (x := 3) hx hb hK (kmy_P hP) (dk.rra (k := k) (i := i) (show k < 8 by omega) (show i < fC k by omega)) (Nat.le_of_ble_eq_true rfl) (Nat.le_of_ble_eq_true rfl) (show vp_in 1 4 from ki_in (n := 1) (by omega) (by omega)) ((congrArg _ (ki_cl (n := 1) (by omega))).trans ((dk.rv (k := k) (i := i) (j := 1) (show k < 8 by omega) (show i < fC k by omega) (show 1 < 4 by omega)).trans (hh9))) dX6_holds_48 ?_
        refine lv_iconst (v := 1) hx hb dX6_holds_49 (by decide) ?_
        refine lv_icmp_ne (tgt := 58) hx hb dX6_holds_50 (by decide) (fun _ => ?_) (fun c_28 => absurd c_28 (by decide))
        refine lv_aload hx hb dX6_holds_58 (lv_at hl 1 rfl) ?_
        refine lv_iconst (v := 1) hx hb dX6_holds_60 (by decide) ?_
        refine kx_ialdv (x := 3) hx hb hK (kmy_P hP) (dk.rra (k := k) (i := i) (show k < 8 by omega) (show i < fC k by omega)) (Nat.le_of_ble_eq_true rfl) (Nat.le_of_ble_eq_true rfl) (show vp_in 1 4 from ki_in (n := 1) (by omega) (by omega)) ((congrArg _ (ki_cl (n := 1) (by omega))).trans ((dk.rv (k := k) (i := i) (j := 1) (show k < 8 by omega) (show i < fC k by omega) (show 1 < 4 by omega)).trans (hh9))) dX6_holds_61 ?_
        refine lv_iconst (v := 2) hx hb dX6_holds_62 (by decide) ?_
        refine lv_icmp_ne (tgt := 71) hx hb dX6_holds_63 (by decide) (fun _ => ?_) (fun c_29 => absurd c_29 (by decide))
        refine lv_aload hx hb dX6_holds_71 (lv_at hl 1 rfl) ?_
        refine lv_iconst (v := 1) hx hb dX6_holds_73 (by decide) ?_
        refine kx_ialdv (x := 3) hx hb hK (kmy_P hP) (dk.rra (k := k) (i := i) (show k < 8 by omega) (show i < fC k by omega)) (Nat.le_of_ble_eq_true rfl) (Nat.le_of_ble_eq_true rfl) (show vp_in 1 4 from ki_in (n := 1) (by omega) (by omega)) ((congrArg _ (ki_cl (n := 1) (by omega))).trans ((dk.rv (k := k) (i := i) (j := 1) (show k < 8 by omega) (show i < fC k by omega) (show 1 < 4 by omega)).trans (hh9))) dX6_holds_74 ?_
        refine lv_iconst (v := 3) hx hb dX6_holds_75 (by decide) ?_
        refine lv_icmp_ne (tgt := 87) hx hb dX6_holds_76 (by decide) (fun c_30 => absurd c_30 (by decide)) (fun _ => ?_)
        refine lv_iload hx hb dX6_holds_79 (lv_at hl 0 rfl) ?_
        refine lv_if_le (tgt := 87) hx hb dX6_holds_81 (by decide) (fun c_31 => ?_) (fun c_31 => ?_)
        · replace c_31 := Int32.not_lt.mpr c_31
          refine lv_iinc (v := nI (i + 1)) (lv' := [(4, .int (nI (i + 1))), (6, .int ((nI g) - (nI nn))), (5, .ref (aRR Ad k i)), (0, .ref d), (1, .int (nI k)), (2, .int (nI f)), (3, .int (nI g))]) hx hb dX6_holds_87 hl (k := 2) rfl (nI_1 _) (by decide) rfl (fun ls hl => ?_)
          refine lv_goto (tgt := 3) hx hb dX6_holds_90 (by decide) ?_
          have hl := lv_sub hl [0, 3, 4, 5, 6] rfl
          exact ih_3 _ (by omega) H locs ls ⟨i + 1, rfl, (by omega), (hdo.trans ((dHo_n (fun e9 => absurd (hdm.mp e9) c_31) (by omega)).trans (by rw [show fC k - i - 1 = fC k - (i + 1) by omega]))), hP, hD, hS, hl⟩
        · replace c_31 := Int32.not_le.mp c_31
          refine lv_iload hx hb dX6_holds_84 (lv_at hl 2 rfl) ?_
          exact W.iret (v := nI i) hx hb hr (fun t ht hW => ⟨⟨nI i, T, rfl, ⟨(hdo.trans (dHo_y (hdm.mpr c_31) (by omega))).symm, rfl⟩, by rw [ht]; exact hP, va_K.moved hW.alike hK, hD⟩, hS.F ht⟩) hS.2.2 dX6_holds_86

