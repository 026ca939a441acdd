set_option maxRecDepth 100000 in
set_option maxHeartbeats 4000000 in
/-- Rule(..) -/
theorem c_Rule_init (l : Launch) (D : va_G) (cA : Nat → ClassId) (sz : Nat) (S : Pool) (a : Nat) (ho : isO S a 2) (p0 p1 p2 p3 : Int32) : Met l yX2_init (Cond.code yX2_init cX2_init 5 none :: TT) ({ frames := 1, cells := 0, slots := 0, locals := 12 }) (va_Pc [.ref a, .int p0, .int p1, .int p2, .int p3] (kPre D cA (PW cA S) sz)) (va_Qv (fun (x_ : Pool) => x_ = pI (pI (pI (pI S a 0 p0) a 1 p1) a 2 p2) a 3 p3) (fun x_ => kB D cA (va_A (PW cA S) sz) (PW cA x_)) (va_A (PW cA S) sz)) 0 0 (va_A (PW cA S) sz) := by
  refine Met.ofW (cc := cX2_init) (maxL := 5) (ret := none) (by decide) rfl ?_
  intro p e s m args below meth c s₁ B hml hv
  obtain ⟨rfl, hsz, hP, hK, hD0, hTB⟩ := hv
  have hx := B.exec
  have hb := B.bytes
  have hr := B.returns
  have hts := atoms_spec (ws := Cond.code yX2_init cX2_init 5 none :: TT) B.pre
  have htT : ∀ w ∈ TT, w.before _ s = true := fun w h => hts w (List.mem_cons_of_mem _ h)
  have hown : s.vm.findClass RX2 = some m.cls := findClass_of_methodNamed B.named
  have hlocks := B.notSynchronized
  have hin : meth.name = "<init>" := (name_of_methodNamed B.named B.method).1
  subst hsz
  have hD := hD0.self (sz := s.heap.size)
  generalize hAe : va_A (PW cA S) s.heap.size = A at hD ⊢
  have hA : ∀ q : Nat, s.heap.size ≤ q → A q := fun q h => by rw [← hAe]; exact Or.inr h
  have hS : va_S A s.heap s.heap [] := va_S.rf
  have hl := lv_entry ([.ref a, .int p0, .int p1, .int p2, .int p3]) (n := 5) (Nat.le_of_ble_eq_true rfl)
  rw [lg_entry_eq]
  generalize (lg_sl ([.ref a, .int p0, .int p1, .int p2, .int p3]) ++ List.replicate (5 - (lg_sl ([.ref a, .int p0, .int p1, .int p2, .int p3])).length) Slot.unset).toArray = ls at hl ⊢
  have hl : lv_has ls 5 [(0, .ref a), (1, .int p0), (2, .int p1), (3, .int p2), (4, .int p3)] := hl
  refine lv_aload_n hx hb dX2_init_0 rfl (lv_at hl 0 rfl) ?_
  refine W.objInit hx hb hown (htT _ m_ml_X2_3) (htT _ m_im_objectInit) (htT _ m_cd_objectInit) rfl (hl.1.trans hml.symm) rfl dX2_init_1 (Nat.le_of_ble_eq_true rfl) (Nat.le_of_ble_eq_true rfl) ?_
  refine lv_aload_n hx hb dX2_init_4 rfl (lv_at hl 0 rfl) ?_
  refine lv_iload_n hx hb dX2_init_5 rfl (lv_at hl 1 rfl) ?_
  refine kx_putiF (ty := .int) hx hb htT m_u_X2 tyX2 tyX2_ok nmX2 hown hK hP hD hS ho (Nat.le_of_ble_eq_true rfl) rfl 0 (by decide) (by decide) rfl (htT _ m_fl_X2_9) rfl hin rfl (by decide +kernel) rfl rfl dX2_init_6 (fun H locs hP hD hS => ?_)
  refine lv_aload_n hx hb dX2_init_9 rfl (lv_at hl 0 rfl) ?_
  refine lv_iload_n hx hb dX2_init_10 rfl (lv_at hl 2 rfl) ?_
  refine kx_putiF (ty := .int) hx hb htT m_u_X2 tyX2 tyX2_ok nmX2 hown hK hP hD hS ho (Nat.le_of_ble_eq_true rfl) rfl 1 (by decide) (by decide) rfl (htT _ m_fl_X2_15) rfl hin rfl (by decide +kernel) rfl rfl dX2_init_11 (fun H locs hP hD hS => ?_)
  refine lv_aload_n hx hb dX2_init_14 rfl (lv_at hl 0 rfl) ?_
  refine lv_iload_n hx hb dX2_init_15 rfl (lv_at hl 3 rfl) ?_
  refine kx_putiF (ty := .int) hx hb htT m_u_X2 tyX2 tyX2_ok nmX2 hown hK hP hD hS ho (Nat.le_of_ble_eq_true rfl) rfl 2 (by decide) (by decide) rfl (htT _ m_fl_X2_18) rfl hin rfl (by decide +kernel) rfl rfl dX2_init_16 (fun H locs hP hD hS => ?_)
  refine lv_aload_n hx hb dX2_init_19 rfl (lv_at hl 0 rfl) ?_
  refine lv_iload hx hb dX2_init_20 (lv_at hl 4 rfl) ?_
  refine kx_putiF (ty := .int) hx hb htT m_u_X2 tyX2 tyX2_ok nmX2 hown hK hP hD hS ho (Nat.le_of_ble_eq_true rfl) rfl 3 (by decide) (by decide) rfl (htT _ m_fl_X2_21) rfl hin rfl (by decide +kernel) rfl rfl dX2_init_22 (fun H locs hP hD hS => ?_)
  exact W.vret hx hb hr (fun t ht hW => ⟨⟨pI (pI (pI (pI S a 0 p0) a 1 p1) a 2 p2) a 3 p3, rfl, rfl, by rw [ht]; exact hP, va_K.moved hW.alike hK, hD⟩, hS.F ht⟩) hS.2.2 dX2_init_25

set_option maxRecDepth 100000 in
set_option maxHeartbeats 4000000 in
theorem c_addRule (l : Launch) (D : va_G) (cA : Nat → ClassId) (sz : Nat) (S : Pool) (a : Nat) (ho : isO S a 3) (rl : Nat) (hq5 : gQ S a 5 = some rl) (hrl : isA S rl 21 5) (rc : Nat) (hrc5 : rc < 5) (h8 : gI S a 8 = nI rc) (u : Nat) (hu : isO S u 2) : Met l yX3_addRule (Cond.code yX3_addRule cX3_addRule 2 none :: TT) ({ frames := 0, cells := 0, slots := 0, locals := 0 }) (va_Pc [.ref a, .ref u] (kPre D cA (PW cA S) sz)) (va_Qv (fun (x_ : Pool) => x_ = pI (pP S rl rc (some u)) a 8 (nI (rc + 1))) (fun x_ => kB D cA (va_A (PW cA S) sz) (PW cA x_)) (va_A (PW cA S) sz)) 0 0 (va_A (PW cA S) sz) := by
  refine Met.ofW (cc := cX3_addRule) (maxL := 2) (ret := none) (by decide) rfl ?_
  intro p e s m args below meth c s₁ B hml hv
  obtain ⟨rfl, hsz, hP, hK, hD0, hTB⟩ := hv
  have hx := B.exec
  have hb := B.bytes
  have hr := B.returns
  have hts := atoms_spec (ws := Cond.code yX3_addRule cX3_addRule 2 none :: TT) B.pre
  have htT : ∀ w ∈ TT, w.before _ s = true := fun w h => hts w (List.mem_cons_of_mem _ h)
  have hown : s.vm.findClass RX3 = some m.cls := findClass_of_methodNamed B.named
  have hlocks := B.notSynchronized
  subst hsz
  have hD := hD0.self (sz := s.heap.size)
  generalize hAe : va_A (PW cA S) s.heap.size = A at hD ⊢
  have hA : ∀ q : Nat, s.heap.size ≤ q → A q := fun q h => by rw [← hAe]; exact Or.inr h
  have hS : va_S A s.heap s.heap [] := va_S.rf
  have hl := lv_entry ([.ref a, .ref u]) (n := 2) (Nat.le_of_ble_eq_true rfl)
  rw [lg_entry_eq]
  generalize (lg_sl ([.ref a, .ref u]) ++ List.replicate (2 - (lg_sl ([.ref a, .ref u])).length) Slot.unset).toArray = ls at hl ⊢
  have hl : lv_has ls 2 [(0, .ref a), (1, .ref u)] := hl
  refine lv_aload_n hx hb dX3_addRule_0 rfl (lv_at hl 0 rfl) ?_
  refine kx_getiv hx hb htT m_u_X3 hown hK hP ho (Nat.le_of_ble_eq_true rfl) rfl 8 (by decide) (by decide) rfl (htT _ m_fl_X3_74) h8 dX3_addRule_1 ?_
  refine lv_if_lt (tgt := 39) hx hb dX3_addRule_4 (by decide) (fun c_1 => ?_) (fun c_1 => ?_)
  · exact absurd ((nI_ltI (a := rc) (b := 0) (by omega) (by omega)).mp c_1) (by omega)
  · replace c_1 : ¬ (rc < 0) := fun h9 => c_1 ((nI_ltI (a := rc) (b := 0) (by omega) (by omega)).mpr h9)
    refine lv_aload_n hx hb dX3_addRule_7 rfl (lv_at hl 0 rfl) ?_
    refine kx_getiv hx hb htT m_u_X3 hown hK hP ho (Nat.le_of_ble_eq_true rfl) rfl 8 (by decide) (by decide) rfl (htT _ m_fl_X3_74) h8 dX3_addRule_8 ?_
    refine lv_aload_n hx hb dX3_addRule_11 rfl (lv_at hl 0 rfl) ?_
    refine kx_gets hx hb htT m_u_X3 hown hK hP ho (Nat.le_of_ble_eq_true rfl) rfl 5 (by decide) (by decide) rfl hq5 (htT _ m_fl_X3_17) dX3_addRule_12 ?_
    refine kx_alen (v := 5) hx hb hK hP hrl (Nat.le_of_ble_eq_true rfl) (Nat.le_of_ble_eq_true rfl) rfl dX3_addRule_15 ?_
    refine lv_icmp_ge (tgt := 39) hx hb dX3_addRule_16 (by decide) (fun c_2 => ?_) (fun c_2 => ?_)
    · exact absurd ((nI_leI (a := 5) (b := rc) (by omega) (by omega)).mp c_2) (by omega)
    · replace c_2 : ¬ (5 ≤ rc) := fun h9 => c_2 ((nI_leI (a := 5) (b := rc) (by omega) (by omega)).mpr h9)
      refine lv_aload_n hx hb dX3_addRule_19 rfl (lv_at hl 0 rfl) ?_
      refine kx_gets hx hb htT m_u_X3 hown hK hP ho (Nat.le_of_ble_eq_true rfl) rfl 5 (by decide) (by decide) rfl hq5 (htT _ m_fl_X3_17) dX3_addRule_20 ?_
      refine lv_aload_n hx hb dX3_addRule_23 rfl (lv_at hl 0 rfl) ?_
      refine kx_getiv hx hb htT m_u_X3 hown hK hP ho (Nat.le_of_ble_eq_true rfl) rfl 8 (by decide) (by decide) rfl (htT _ m_fl_X3_74) h8 dX3_addRule_24 ?_
      refine lv_aload_n hx hb dX3_addRule_27 rfl (lv_at hl 1 rfl) ?_
      refine kx_astr hx hb hK hP hD hS hrl hu (show vp_in (nI (rc)) 5 from ki_in (by omega) (by decide)) dX3_addRule_28 (fun H locs hP hD hS => ?_)
      rw [ki_cl (n := rc) (by omega)] at hP hD
      refine lv_aload_n hx hb dX3_addRule_29 rfl (lv_at hl 0 rfl) ?_
      refine lv_dup hx hb dX3_addRule_30 rfl ?_
      refine kx_getiv hx hb htT m_u_X3 hown hK hP ho (Nat.le_of_ble_eq_true rfl) rfl 8 (by decide) (by decide) rfl (htT _ m_fl_X3_74) h8 dX3_addRule_31 ?_
      refine lv_iconst (v := 1) hx hb dX3_addRule_34 (by decide) ?_
      refine lv_iadd hx hb dX3_addRule_35 ?_
      rw [show ((nI rc) + 1 : Int32) = nI (rc + 1) from nI_add rc 1]
      refine kx_puti (ty := .int) hx hb htT m_u_X3 tyX3 tyX3_ok nmX3 hown hK hP hD hS ho (Nat.le_of_ble_eq_true rfl) rfl 8 (by decide) (by decide) rfl (htT _ m_fl_X3_74) rfl (by decide +kernel) rfl rfl dX3_addRule_36 (fun H locs hP hD hS => ?_)
      exact W.vret hx hb hr (fun t ht hW => ⟨⟨pI (pP S rl rc (some u)) a 8 (nI (rc + 1)), rfl, rfl, by rw [ht]; exact hP, va_K.moved hW.alike hK, hD⟩, hS.F ht⟩) hS.2.2 dX3_addRule_39

/-- are the numbers of a rule right -/
def kRul (p1 p2 p3 : Int32) : Int32 := if kOut p1 0 1 = 0 then (if kOut p2 1 3 = 0 then (if kOut p3 0 9 = 0 then 1 else 0) else 0) else 0
/-- the rules of a row from k on moved up by one, up to the place j -/
def cRem (S : Pool) (rl k j : Nat) : Pool := (gL S, gK S, gN S, gI S, gQ S, gR S, gJ S, fun b i => if b = rl ∧ k ≤ i ∧ i < j then (if i + 1 < 5 then gP S rl (i + 1) else none) else gP S b i)
theorem cRem_0 {S : Pool} {rl k : Nat} : cRem S rl k k = S := by
  have h : (fun b i => if b = rl ∧ k ≤ i ∧ i < k then (if i + 1 < 5 then gP S rl (i + 1) else none) else gP S b i) = gP S := by
    funext b i
    rw [if_neg (by omega)]
  show (gL S, gK S, gN S, gI S, gQ S, gR S, gJ S, fun b i => if b = rl ∧ k ≤ i ∧ i < k then (if i + 1 < 5 then gP S rl (i + 1) else none) else gP S b i) = S
  rw [h]
theorem cRem_s {S : Pool} {rl k j : Nat} (h : k ≤ j) : pP (cRem S rl k j) rl j (if j + 1 < 5 then gP S rl (j + 1) else none) = cRem S rl k (j + 1) := by
  have h2 : u2 (gP (cRem S rl k j)) rl j (if j + 1 < 5 then gP S rl (j + 1) else none) = gP (cRem S rl k (j + 1)) := by
    funext b i
    show (if b = rl ∧ i = j then _ else (if b = rl ∧ k ≤ i ∧ i < j then (if i + 1 < 5 then gP S rl (i + 1) else none) else gP S b i)) = (if b = rl ∧ k ≤ i ∧ i < j + 1 then (if i + 1 < 5 then gP S rl (i + 1) else none) else gP S b i)
    by_cases hb : b = rl
    · by_cases hi : i = j
      · subst hi; rw [if_pos (show b = rl ∧ i = i from ⟨hb, rfl⟩), if_pos (show b = rl ∧ k ≤ i ∧ i < i + 1 from ⟨hb, h, by omega⟩)]
      · rw [if_neg (fun q => hi q.2)]
        by_cases h3 : k ≤ i ∧ i < j
        · rw [if_pos (show b = rl ∧ k ≤ i ∧ i < j from ⟨hb, h3⟩), if_pos (show b = rl ∧ k ≤ i ∧ i < j + 1 from ⟨hb, h3.1, by omega⟩)]
        · rw [if_neg (fun q => h3 q.2), if_neg (fun q => h3 ⟨q.2.1, by omega⟩)]
    · rw [if_neg (fun q => hb q.1), if_neg (fun q => hb q.1), if_neg (fun q => hb q.1)]
  show (gL S, gK S, gN S, gI S, gQ S, gR S, gJ S, u2 (gP (cRem S rl k j)) rl j _) = _
  rw [h2]
  rfl
theorem cRem_r {S : Pool} {rl k j : Nat} (hj : j < 5) : cRule (cRem S rl k j) rl (nI (j + 1)) = (if j + 1 < 5 then gP S rl (j + 1) else none) := by
  unfold cRule
  rw [if_neg (fun h => by have := (nI_ltI (a := j + 1) (b := 0) (by omega) (by omega)).mp h; omega)]
  by_cases h : j + 1 < 5
  · rw [if_pos h, if_pos (show nI (j + 1) < 5 from (nI_ltI (a := j + 1) (b := 5) (by omega) (by omega)).mpr h), ki_cl (by omega)]
    show (if rl = rl ∧ k ≤ j + 1 ∧ j + 1 < j then _ else gP S rl (j + 1)) = _
    rw [if_neg (by omega)]
  · rw [if_neg h, if_neg (show ¬ nI (j + 1) < (5 : Int32) from fun q => h ((nI_ltI (a := j + 1) (b := 5) (by omega) (by omega)).mp q))]
theorem kMaxI_0 {k : Nat} (h : k < 2 ^ 31) : kMaxI (nI k) 0 = nI k := by
  unfold kMaxI
  rw [if_neg (fun q => by have := (nI_ltI (a := k) (b := 0) h (by omega)).mp q; omega)]
set_option maxRecDepth 100000 in
set_option maxHeartbeats 4000000 in
/-- rule -/
theorem c_rule (l : Launch) (D : va_G) (cA : Nat → ClassId) (sz : Nat) (S : Pool) (x : Nat) (hx5 : isO S x 5) (ar : Nat) (hq0 : gQ S x 0 = some ar) (ak : Nat) (hq1 : gQ S x 1 = some ak) (hak : isO S ak 1) (hR : okR S ar) (j : Nat) (hj : j < 8) (a : Nat) (hja : gP S ar j = some a) (p0 : Int32) (hsw : kSw S ar p0 = some a) (p1 p2 p3 p4 : Int32) (hv : p4 = -1 ∨ kOut p4 0 (gI S a 2 - 1) = 0) (hbad : kRul p1 p2 p3 = 1) (rc : Nat) (hrc5 : rc < 5) (h8 : gI S a 8 = nI rc)  : Met l yX5_rule (Cond.code yX5_rule cX5_rule 7 (some .int) :: TT) ({ frames := 2, cells := 1, slots := 4, locals := 43 }) (va_Pc [.ref x, .int p0, .int p1, .int p2, .int p3, .int p4] (kPre D cA (PW cA S) sz)) (va_Qi (fun (r_ : Int32) (x_ : Pool) => r_ = nI (rc + 1) ∧ ∃ q, q ∉ gL S ∧ x_ = pI (pP (pI (pI (pI (pI (pW S q 2 0) q 0 p1) q 1 p2) q 2 p3) q 3 p4) (rlA S a) rc (some q)) a 8 (nI (rc + 1))) (fun x_ => kB D cA (va_A (PW cA S) sz) (PW cA x_)) (va_A (PW cA S) sz)) 1 4 (va_A (PW cA S) sz) := by
  refine Met.ofW (cc := cX5_rule) (maxL := 7) (ret := (some .int)) (by decide) rfl ?_
  intro p e s m args below meth c s₁ B hml hv
  obtain ⟨rfl, hsz, hP, hK, hD0, hTB⟩ := hv
  have hx := B.exec
  have hb := B.bytes
  have hr := B.returns
  have hts := atoms_spec (ws := Cond.code yX5_rule cX5_rule 7 (some .int) :: TT) B.pre
  have htT : ∀ w ∈ TT, w.before _ s = true := fun w h => hts w (List.mem_cons_of_mem _ h)
  have hown : s.vm.findClass RX5 = some m.cls := findClass_of_methodNamed B.named
  have hlocks := B.notSynchronized
  subst hsz
  have hD := hD0.self (sz := s.heap.size)
  generalize hAe : va_A (PW cA S) s.heap.size = A at hD ⊢
  have hA : ∀ q : Nat, s.heap.size ≤ q → A q := fun q h => by rw [← hAe]; exact Or.inr h
  have hS : va_S A s.heap s.heap [] := va_S.rf
  have hl := lv_entry ([.ref x, .int p0, .int p1, .int p2, .int p3, .int p4]) (n := 7) (Nat.le_of_ble_eq_true rfl)
  rw [lg_entry_eq]
  generalize (lg_sl ([.ref x, .int p0, .int p1, .int p2, .int p3, .int p4]) ++ List.replicate (7 - (lg_sl ([.ref x, .int p0, .int p1, .int p2, .int p3, .int p4])).length) Slot.unset).toArray = ls at hl ⊢
  have hl : lv_has ls 7 [(0, .ref x), (1, .int p0), (2, .int p1), (3, .int p2), (4, .int p3), (5, .int p4)] := hl
  obtain ⟨-, -, ⟨rl, hq5, hrl, -⟩, -⟩ := (hR.2 j hj a hja).1
  have erl : rlA S a = rl := by simp [rlA, hq5]
  refine lv_aload_n hx hb dX5_rule_0 rfl (lv_at hl 0 rfl) ?_
  refine lv_iload_n hx hb dX5_rule_1 rfl (lv_at hl 1 rfl) ?_
  refine kc_q (va_runV (As := [.int p0]) (rest := []) ⟨hx, hb, hml, hown, htT⟩ (c_known l D cA _ S x hx5 ar hq0 hR.1 p0 a hsw) (cwV 1 htT (kg_V m_ml_X5_45 m_im_X5_known m_sl_X5_known m_in_X5 m_cd_X5_known) rfl rfl rfl (by decide +kernel) ⟨Nat.le_of_ble_eq_true rfl, Nat.le_of_ble_eq_true rfl⟩) (kp_V hK hP hD hTB (kp_rc hK hP hx5 (Nat.le_of_ble_eq_true rfl) rfl)) rfl rfl hl.1 rfl (lv_room (Nat.le_of_ble_eq_true rfl)) dX5_rule_2 ⟨Nat.le_of_ble_eq_true rfl, Nat.le_of_ble_eq_true rfl⟩) hD hS hA (fun r_1 x_1 H locs hq_1 hP hD hS => ?_)
  rw [hq_1.1]
  rw [hq_1.2] at hP hD
  refine lv_astore (lv' := [(6, .ref a), (0, .ref x), (1, .int p0), (2, .int p1), (3, .int p2), (4, .int p3), (5, .int p4)]) hx hb dX5_rule_5 hl (by decide) rfl (fun ls hl => ?_)
  refine lv_iload hx hb dX5_rule_7 (lv_at hl 6 rfl) ?_
  refine lv_iconst (v := (-1)) hx hb dX5_rule_9 (by decide) ?_
  refine lv_icmp_eq (tgt := 20) hx hb dX5_rule_10 (by decide) (fun c_2 => ?_) (fun c_2 => ?_)
  · refine lv_iload_n hx hb dX5_rule_20 rfl (lv_at hl 3 rfl) ?_
    refine lv_iconst (v := 0) hx hb dX5_rule_21 (by decide) ?_
    refine lv_iconst (v := 1) hx hb dX5_rule_22 (by decide) ?_
    refine kc_i (va_runS (As := [.int p1, .int 0, .int 1]) (rest := []) ⟨hx, hb, hml, hown, htT⟩ (c_isOutside l D cA _ S p1 0 1) (cwS 3 htT (kg_S m_ml_X5_22 m_st_X5_isOutside m_in_X5 m_cd_X5_isOutside) rfl rfl rfl (by decide +kernel) ⟨Nat.le_of_ble_eq_true rfl, Nat.le_of_ble_eq_true rfl⟩) (kp_S hK hP hD hTB) rfl rfl hl.1 rfl (lv_room (Nat.le_of_ble_eq_true rfl)) dX5_rule_23 ⟨Nat.le_of_ble_eq_true rfl, Nat.le_of_ble_eq_true rfl⟩) hD hS hA (fun r_3 x_3 H locs hq_3 hP hD hS => ?_)
    rw [hq_3.1]
    rw [hq_3.2] at hP hD
    refine lv_if_ne (tgt := 49) hx hb dX5_rule_26 (by decide) (fun c_4 => ?_) (fun c_4 => ?_)
    · exact absurd hbad (by simp [kRul, c_2, c_4])
    · refine lv_iload_n hx hb dX5_rule_29 rfl (lv_at hl 4 rfl) ?_
      refine lv_iconst (v := 1) hx hb dX5_rule_30 (by decide) ?_
      refine lv_iconst (v := 3) hx hb dX5_rule_31 (by decide) ?_
      refine kc_i (va_runS (As := [.int p2, .int 1, .int 3]) (rest := []) ⟨hx, hb, hml, hown, htT⟩ (c_isOutside l D cA _ S p2 1 3) (cwS 3 htT (kg_S m_ml_X5_22 m_st_X5_isOutside m_in_X5 m_cd_X5_isOutside) rfl rfl rfl (by decide +kernel) ⟨Nat.le_of_ble_eq_true rfl, Nat.le_of_ble_eq_true rfl⟩) (kp_S hK hP hD hTB) rfl rfl hl.1 rfl (lv_room (Nat.le_of_ble_eq_true rfl)) dX5_rule_32 ⟨Nat.le_of_ble_eq_true rfl, Nat.le_of_ble_eq_true rfl⟩) hD hS hA (fun r_5 x_5 H locs hq_5 hP hD hS => ?_)
      rw [hq_5.1]
      rw [hq_5.2] at hP hD
      refine lv_if_ne (tgt := 49) hx hb dX5_rule_35 (by decide) (fun c_6 => ?_) (fun c_6 => ?_)
      · exact absurd hbad (by simp [kRul, c_2, c_4, c_6])
      · refine lv_iload hx hb dX5_rule_38 (lv_at hl 5 rfl) ?_
        refine lv_iconst (v := 0) hx hb dX5_rule_40 (by decide) ?_
        refine lv_bipush (v := 9) hx hb dX5_rule_41 (by decide) ?_
        refine kc_i (va_runS (As := [.int p3, .int 0, .int 9]) (rest := []) ⟨hx, hb, hml, hown, htT⟩ (c_isOutside l D cA _ S p3 0 9) (cwS 3 htT (kg_S m_ml_X5_22 m_st_X5_isOutside m_in_X5 m_cd_X5_isOutside) rfl rfl rfl (by decide +kernel) ⟨Nat.le_of_ble_eq_true rfl, Nat.le_of_ble_eq_true rfl⟩) (kp_S hK hP hD hTB) rfl rfl hl.1 rfl (lv_room (Nat.le_of_ble_eq_true rfl)) dX5_rule_43 ⟨Nat.le_of_ble_eq_true rfl, Nat.le_of_ble_eq_true rfl⟩) hD hS hA (fun r_7 x_7 H locs hq_7 hP hD hS => ?_)
        rw [hq_7.1]
        rw [hq_7.2] at hP hD
        refine lv_if_eq (tgt := 59) hx hb dX5_rule_46 (by decide) (fun c_8 => ?_) (fun c_8 => ?_)
        · refine lv_aload hx hb dX5_rule_59 (lv_at hl 0 rfl) ?_
          refine kx_getiNv hx hb htT m_u_X3 hown hK hP ((hR.2 j hj a hja).1.1) (Nat.le_of_ble_eq_true rfl) rfl 8 (by decide) (by decide) rfl (hTB.use m_fl_X5_107) h8 dX5_rule_61 ?_
          refine lv_iconst (v := 5) hx hb dX5_rule_64 (by decide) ?_
          refine lv_icmp_lt (tgt := 78) hx hb dX5_rule_65 (by decide) (fun c_9 => ?_) (fun c_9 => ?_)
          · replace c_9 := (nI_ltI (a := rc) (b := 5) (by omega) (by omega)).mp c_9
            refine lv_aload hx hb dX5_rule_78 (lv_at hl 0 rfl) ?_
            refine kx_new (ci := 2) hx hb htT m_u_X2 tyX2 tyX2_ok hown (htT _ m_cl_X5_112) (htT _ m_nw_X2) (htT _ m_in_X2) hK hP hD hS hA (Nat.le_of_ble_eq_true rfl) rfl rfl (by decide) (Nat.le_of_ble_eq_true rfl) (Nat.le_of_ble_eq_true rfl) dX5_rule_80 (fun q_10 H hq_10 hP hD hS => ?_)
            have ho_11 : isO (pW S q_10 2 0) x 5 := isO_new hx5 hq_10
            have ho_12 : isO (pW S q_10 2 0) ak 1 := isO_new hak hq_10
            have ho_13 : isO (pW S q_10 2 0) a 3 := isO_new ((hR.2 j hj a hja).1.1) hq_10
            have ha_14 : isA (pW S q_10 2 0) rl 21 5 := isA_new hrl hq_10
            have hr_15 : gQ (pW S q_10 2 0) x 1 = some ak := (gQ_new (S := S) (q := q_10) (hx5).1 hq_10).trans hq1
            have hr_16 : gQ (pW S q_10 2 0) x 0 = some ar := (gQ_new (S := S) (q := q_10) (hx5).1 hq_10).trans hq0
            have hr_17 : gQ (pW S q_10 2 0) a 5 = some rl := (gQ_new (S := S) (q := q_10) ((hR.2 j hj a hja).1.1).1 hq_10).trans hq5
            refine lv_dup hx hb dX5_rule_83 rfl ?_
            refine lv_iload_n hx hb dX5_rule_84 rfl (lv_at hl 3 rfl) ?_
            refine lv_iload_n hx hb dX5_rule_85 rfl (lv_at hl 4 rfl) ?_
            refine lv_iload hx hb dX5_rule_86 (lv_at hl 5 rfl) ?_
            refine lv_iload hx hb dX5_rule_88 (lv_at hl 6 rfl) ?_
            refine kc_v (va_runI (As := [.int p1, .int p2, .int p3, .int p4]) (rest := [.ref q_10, .ref a]) ⟨hx, hb, hml, hown, htT⟩ (c_Rule_init l D cA _ (pW S q_10 2 0) q_10 (isO_q (n := 0)) p1 p2 p3 p4) (cwI 4 htT (kg_I m_cd_X2_init) rfl rfl rfl (htT _ m_in_X2) (htT _ m_ml_X5_114) (htT _ m_im_X2_init) rfl (by decide +kernel) ⟨Nat.le_of_ble_eq_true rfl, Nat.le_of_ble_eq_true rfl⟩) (kp_S hK hP hD hTB) rfl rfl hl.1 rfl (lv_room (Nat.le_of_ble_eq_true rfl)) dX5_rule_90 ⟨Nat.le_of_ble_eq_true rfl, Nat.le_of_ble_eq_true rfl⟩) hD hS hA (fun x_18 H locs hq_18 hP hD hS => ?_)
            rw [hq_18] at hP hD
            have hne9 : a ≠ q_10 := ne_new (hR.2 j hj a hja).1.1.1 hq_10
            have h89 : gI (pI (pI (pI (pI (pW S q_10 2 0) q_10 0 p1) q_10 1 p2) q_10 2 p3) q_10 3 p4) a 8 = nI rc := (u2_a hne9).trans ((u2_a hne9).trans ((u2_a hne9).trans ((u2_a hne9).trans ((gI_new (S := S) (ki := 2) (n := 0) (hR.2 j hj a hja).1.1.1 hq_10).trans h8))))
            refine kc_v (va_runV (As := [.ref q_10]) (rest := []) ⟨hx, hb, hml, hown, htT⟩ (c_addRule l D cA _ (pI (pI (pI (pI (pW S q_10 2 0) q_10 0 p1) q_10 1 p2) q_10 2 p3) q_10 3 p4) a ho_13 rl hr_17 ha_14 rc hrc5 h89 q_10 (isO_q (S := S) (ki := 2) (n := 0))) (cwV 1 htT (kg_V m_ml_X5_117 m_im_X3_addRule m_sl_X3_addRule m_in_X3 m_cd_X3_addRule) rfl rfl rfl (by decide +kernel) ⟨Nat.le_of_ble_eq_true rfl, Nat.le_of_ble_eq_true rfl⟩) (kp_V hK hP hD hTB (kp_rc hK hP ho_13 (Nat.le_of_ble_eq_true rfl) rfl)) rfl rfl hl.1 rfl (lv_room (Nat.le_of_ble_eq_true rfl)) dX5_rule_93 ⟨Nat.le_of_ble_eq_true rfl, Nat.le_of_ble_eq_true rfl⟩) hD hS hA (fun x_19 H locs hq_19 hP hD hS => ?_)
            rw [hq_19] at hP hD
            refine lv_aload hx hb dX5_rule_96 (lv_at hl 0 rfl) ?_
            refine kx_getiNv hx hb htT m_u_X3 hown hK hP ho_13 (Nat.le_of_ble_eq_true rfl) rfl 8 (by decide) (by decide) rfl (hTB.use m_fl_X5_107) u2_s dX5_rule_98 ?_
            exact W.iret (v := nI (rc + 1)) hx hb hr (fun t ht hW => ⟨⟨nI (rc + 1), pI (pP (pI (pI (pI (pI (pW S q_10 2 0) q_10 0 p1) q_10 1 p2) q_10 2 p3) q_10 3 p4) rl rc (some q_10)) a 8 (nI (rc + 1)), rfl, ⟨rfl, q_10, hq_10, by rw [erl]⟩, by rw [ht]; exact hP, va_K.moved hW.alike hK, hD⟩, hS.F ht⟩) hS.2.2 dX5_rule_101
          · exact absurd ((nI_ltI (a := rc) (b := 5) (by omega) (by omega)).mpr hrc5) c_9
        · exact absurd hbad (by simp [kRul, c_2, c_4, c_6, c_8])
  · refine lv_aload hx hb dX5_rule_13 (lv_at hl 0 rfl) ?_
    refine lv_iload hx hb dX5_rule_15 (lv_at hl 6 rfl) ?_
    refine kc_v (va_runS (As := [.ref a, .int p4]) (rest := []) ⟨hx, hb, hml, hown, htT⟩ (c_checkVariant l D cA _ S a (hR.2 j hj a hja).1.1 p4 (hv.resolve_left c_2)) (cwS 2 htT (kg_S m_ml_X5_49 m_st_X5_checkVariant m_in_X5 m_cd_X5_checkVariant) rfl rfl rfl (by decide +kernel) ⟨Nat.le_of_ble_eq_true rfl, Nat.le_of_ble_eq_true rfl⟩) (kp_S hK hP hD hTB) rfl rfl hl.1 rfl (lv_room (Nat.le_of_ble_eq_true rfl)) dX5_rule_17 ⟨Nat.le_of_ble_eq_true rfl, Nat.le_of_ble_eq_true rfl⟩) hD hS hA (fun x_20 H locs hq_20 hP hD hS => ?_)
    rw [hq_20] at hP hD
    refine lv_iload_n hx hb dX5_rule_20 rfl (lv_at hl 3 rfl) ?_
    refine lv_iconst (v := 0) hx hb dX5_rule_21 (by decide) ?_
    refine lv_iconst (v := 1) hx hb dX5_rule_22 (by decide) ?_
    refine kc_i (va_runS (As := [.int p1, .int 0, .int 1]) (rest := []) ⟨hx, hb, hml, hown, htT⟩ (c_isOutside l D cA _ S p1 0 1) (cwS 3 htT (kg_S m_ml_X5_22 m_st_X5_isOutside m_in_X5 m_cd_X5_isOutside) rfl rfl rfl (by decide +kernel) ⟨Nat.le_of_ble_eq_true rfl, Nat.le_of_ble_eq_true rfl⟩) (kp_S hK hP hD hTB) rfl rfl hl.1 rfl (lv_room (Nat.le_of_ble_eq_true rfl)) dX5_rule_23 ⟨Nat.le_of_ble_eq_true rfl, Nat.le_of_ble_eq_true rfl⟩) hD hS hA (fun r_21 x_21 H locs hq_21 hP hD hS => ?_)
    rw [hq_21.1]
    rw [hq_21.2] at hP hD
    refine lv_if_ne (tgt := 49) hx hb dX5_rule_26 (by decide) (fun c_22 => ?_) (fun c_22 => ?_)
    · exact absurd hbad (by simp [kRul, c_2, c_22])
    · refine lv_iload_n hx hb dX5_rule_29 rfl (lv_at hl 4 rfl) ?_
      refine lv_iconst (v := 1) hx hb dX5_rule_30 (by decide) ?_
      refine lv_iconst (v := 3) hx hb dX5_rule_31 (by decide) ?_
      refine kc_i (va_runS (As := [.int p2, .int 1, .int 3]) (rest := []) ⟨hx, hb, hml, hown, htT⟩ (c_isOutside l D cA _ S p2 1 3) (cwS 3 htT (kg_S m_ml_X5_22 m_st_X5_isOutside m_in_X5 m_cd_X5_isOutside) rfl rfl rfl (by decide +kernel) ⟨Nat.le_of_ble_eq_true rfl, Nat.le_of_ble_eq_true rfl⟩) (kp_S hK hP hD hTB) rfl rfl hl.1 rfl (lv_room (Nat.le_of_ble_eq_true rfl)) dX5_rule_32 ⟨Nat.le_of_ble_eq_true rfl, Nat.le_of_ble_eq_true rfl⟩) hD hS hA (fun r_23 x_23 H locs hq_23 hP hD hS => ?_)
      rw [hq_23.1]
      rw [hq_23.2] at hP hD
      refine lv_if_ne (tgt := 49) hx hb dX5_rule_35 (by decide) (fun c_24 => ?_) (fun c_24 => ?_)
      · exact absurd hbad (by simp [kRul, c_2, c_22, c_24])
      · refine lv_iload hx hb dX5_rule_38 (lv_at hl 5 rfl) ?_
        refine lv_iconst (v := 0) hx hb dX5_rule_40 (by decide) ?_
        refine lv_bipush (v := 9) hx hb dX5_rule_41 (by decide) ?_
        refine kc_i (va_runS (As := [.int p3, .int 0, .int 9]) (rest := []) ⟨hx, hb, hml, hown, htT⟩ (c_isOutside l D cA _ S p3 0 9) (cwS 3 htT (kg_S m_ml_X5_22 m_st_X5_isOutside m_in_X5 m_cd_X5_isOutside) rfl rfl rfl (by decide +kernel) ⟨Nat.le_of_ble_eq_true rfl, Nat.le_of_ble_eq_true rfl⟩) (kp_S hK hP hD hTB) rfl rfl hl.1 rfl (lv_room (Nat.le_of_ble_eq_true rfl)) dX5_rule_43 ⟨Nat.le_of_ble_eq_true rfl, Nat.le_of_ble_eq_true rfl⟩) hD hS hA (fun r_25 x_25 H locs hq_25 hP hD hS => ?_)
        rw [hq_25.1]
        rw [hq_25.2] at hP hD
        refine lv_if_eq (tgt := 59) hx hb dX5_rule_46 (by decide) (fun c_26 => ?_) (fun c_26 => ?_)
        · refine lv_aload hx hb dX5_rule_59 (lv_at hl 0 rfl) ?_
          refine kx_getiNv hx hb htT m_u_X3 hown hK hP ((hR.2 j hj a hja).1.1) (Nat.le_of_ble_eq_true rfl) rfl 8 (by decide) (by decide) rfl (hTB.use m_fl_X5_107) h8 dX5_rule_61 ?_
          refine lv_iconst (v := 5) hx hb dX5_rule_64 (by decide) ?_
          refine lv_icmp_lt (tgt := 78) hx hb dX5_rule_65 (by decide) (fun c_27 => ?_) (fun c_27 => ?_)
          · replace c_27 := (nI_ltI (a := rc) (b := 5) (by omega) (by omega)).mp c_27
            refine lv_aload hx hb dX5_rule_78 (lv_at hl 0 rfl) ?_
            refine kx_new (ci := 2) hx hb htT m_u_X2 tyX2 tyX2_ok hown (htT _ m_cl_X5_112) (htT _ m_nw_X2) (htT _ m_in_X2) hK hP hD hS hA (Nat.le_of_ble_eq_true rfl) rfl rfl (by decide) (Nat.le_of_ble_eq_true rfl) (Nat.le_of_ble_eq_true rfl) dX5_rule_80 (fun q_28 H hq_28 hP hD hS => ?_)
            have ho_29 : isO (pW S q_28 2 0) x 5 := isO_new hx5 hq_28
            have ho_30 : isO (pW S q_28 2 0) ak 1 := isO_new hak hq_28
            have ho_31 : isO (pW S q_28 2 0) a 3 := isO_new ((hR.2 j hj a hja).1.1) hq_28
            have ha_32 : isA (pW S q_28 2 0) rl 21 5 := isA_new hrl hq_28
            have hr_33 : gQ (pW S q_28 2 0) x 1 = some ak := (gQ_new (S := S) (q := q_28) (hx5).1 hq_28).trans hq1
            have hr_34 : gQ (pW S q_28 2 0) x 0 = some ar := (gQ_new (S := S) (q := q_28) (hx5).1 hq_28).trans hq0
            have hr_35 : gQ (pW S q_28 2 0) a 5 = some rl := (gQ_new (S := S) (q := q_28) ((hR.2 j hj a hja).1.1).1 hq_28).trans hq5
            refine lv_dup hx hb dX5_rule_83 rfl ?_
            refine lv_iload_n hx hb dX5_rule_84 rfl (lv_at hl 3 rfl) ?_
            refine lv_iload_n hx hb dX5_rule_85 rfl (lv_at hl 4 rfl) ?_
            refine lv_iload hx hb dX5_rule_86 (lv_at hl 5 rfl) ?_
            refine lv_iload hx hb dX5_rule_88 (lv_at hl 6 rfl) ?_
            refine kc_v (va_runI (As := [.int p1, .int p2, .int p3, .int p4]) (rest := [.ref q_28, .ref a]) ⟨hx, hb, hml, hown, htT⟩ (c_Rule_init l D cA _ (pW S q_28 2 0) q_28 (isO_q (n := 0)) p1 p2 p3 p4) (cwI 4 htT (kg_I m_cd_X2_init) rfl rfl rfl (htT _ m_in_X2) (htT _ m_ml_X5_114) (htT _ m_im_X2_init) rfl (by decide +kernel) ⟨Nat.le_of_ble_eq_true rfl, Nat.le_of_ble_eq_true rfl⟩) (kp_S hK hP hD hTB) rfl rfl hl.1 rfl (lv_room (Nat.le_of_ble_eq_true rfl)) dX5_rule_90 ⟨Nat.le_of_ble_eq_true rfl, Nat.le_of_ble_eq_true rfl⟩) hD hS hA (fun x_36 H locs hq_36 hP hD hS => ?_)
            rw [hq_36] at hP hD
            have hne9 : a ≠ q_28 := ne_new (hR.2 j hj a hja).1.1.1 hq_28
            have h89 : gI (pI (pI (pI (pI (pW S q_28 2 0) q_28 0 p1) q_28 1 p2) q_28 2 p3) q_28 3 p4) a 8 = nI rc := (u2_a hne9).trans ((u2_a hne9).trans ((u2_a hne9).trans ((u2_a hne9).trans ((gI_new (S := S) (ki := 2) (n := 0) (hR.2 j hj a hja).1.1.1 hq_28).trans h8))))
            refine kc_v (va_runV (As := [.ref q_28]) (rest := []) ⟨hx, hb, hml, hown, htT⟩ (c_addRule l D cA _ (pI (pI (pI (pI (pW S q_28 2 0) q_28 0 p1) q_28 1 p2) q_28 2 p3) q_28 3 p4) a ho_31 rl hr_35 ha_32 rc hrc5 h89 q_28 (isO_q (S := S) (ki := 2) (n := 0))) (cwV 1 htT (kg_V m_ml_X5_117 m_im_X3_addRule m_sl_X3_addRule m_in_X3 m_cd_X3_addRule) rfl rfl rfl (by decide +kernel) ⟨Nat.le_of_ble_eq_true rfl, Nat.le_of_ble_eq_true rfl⟩) (kp_V hK hP hD hTB (kp_rc hK hP ho_31 (Nat.le_of_ble_eq_true rfl) rfl)) rfl rfl hl.1 rfl (lv_room (Nat.le_of_ble_eq_true rfl)) dX5_rule_93 ⟨Nat.le_of_ble_eq_true rfl, Nat.le_of_ble_eq_true rfl⟩) hD hS hA (fun x_37 H locs hq_37 hP hD hS => ?_)
            rw [hq_37] at hP hD
            refine lv_aload hx hb dX5_rule_96 (lv_at hl 0 rfl) ?_
            refine kx_getiNv hx hb htT m_u_X3 hown hK hP ho_31 (Nat.le_of_ble_eq_true rfl) rfl 8 (by decide) (by decide) rfl (hTB.use m_fl_X5_107) u2_s dX5_rule_98 ?_
            exact W.iret (v := nI (rc + 1)) hx hb hr (fun t ht hW => ⟨⟨nI (rc + 1), pI (pP (pI (pI (pI (pI (pW S q_28 2 0) q_28 0 p1) q_28 1 p2) q_28 2 p3) q_28 3 p4) rl rc (some q_28)) a 8 (nI (rc + 1)), rfl, ⟨rfl, q_28, hq_28, by rw [erl]⟩, by rw [ht]; exact hP, va_K.moved hW.alike hK, hD⟩, hS.F ht⟩) hS.2.2 dX5_rule_101
          · exact absurd ((nI_ltI (a := rc) (b := 5) (by omega) (by omega)).mpr hrc5) c_27
        · exact absurd hbad (by simp [kRul, c_2, c_22, c_24, c_26])

set_option maxRecDepth 100000 in
set_option maxHeartbeats 4000000 in
theorem c_rule_v (l : Launch) (hst : l.stackTraces = false) (D : va_G) (cA : Nat → ClassId) (sz : Nat) (S : Pool) (x : Nat) (hx5 : isO S x 5) (ar : Nat) (hq0 : gQ S x 0 = some ar) (ak : Nat) (hq1 : gQ S x 1 = some ak) (hak : isO S ak 1) (hR : okR S ar) (j : Nat) (hj : j < 8) (a : Nat) (hja : gP S ar j = some a) (p0 : Int32) (hsw : kSw S ar p0 = some a) (p1 p2 p3 p4 : Int32) (hn4 : ¬ p4 = -1) (hv : kOut p4 0 (gI S a 2 - 1) = 1) : vx_Met l yX5_rule (Cond.code yX5_rule cX5_rule 7 (some .int) :: TT) ({ frames := 7, cells := 1, slots := 6, locals := 103 }) (va_Pc [.ref x, .int p0, .int p1, .int p2, .int p3, .int p4] (kPreX D cA (PW cA S) sz)) kNo (kXC D cA (PW cA S) "java/lang/IndexOutOfBoundsException" (va_A (PW cA S) sz)) 1 6 (va_A (PW cA S) sz) := by
  refine vx_ofW (cc := cX5_rule) (maxL := 7) (ret := (some .int)) (by decide) rfl ?_
  intro p e s m args below meth c s₁ B hml hTab hv
  obtain ⟨rfl, ⟨hsz, hP, hK, hD0, hTB⟩, hTX⟩ := hv
  have hx := B.exec
  have hb := B.bytes
  have hr := B.returns
  have hts := atoms_spec (ws := Cond.code yX5_rule cX5_rule 7 (some .int) :: TT) B.pre
  have htT : ∀ w ∈ TT, w.before _ s = true := fun w h => hts w (List.mem_cons_of_mem _ h)
  have hown : s.vm.findClass RX5 = some m.cls := findClass_of_methodNamed B.named
  have hlocks := B.notSynchronized
  subst hsz
  have hD := hD0.self (sz := s.heap.size)
  generalize hAe : va_A (PW cA S) s.heap.size = A at hD hTX ⊢
  have hA : ∀ q : Nat, s.heap.size ≤ q → A q := fun q h => by rw [← hAe]; exact Or.inr h
  have hS : va_S A s.heap s.heap [] := va_S.rf
  have hl := lv_entry ([.ref x, .int p0, .int p1, .int p2, .int p3, .int p4]) (n := 7) (Nat.le_of_ble_eq_true rfl)
  rw [lg_entry_eq]
  generalize (lg_sl ([.ref x, .int p0, .int p1, .int p2, .int p3, .int p4]) ++ List.replicate (7 - (lg_sl ([.ref x, .int p0, .int p1, .int p2, .int p3, .int p4])).length) Slot.unset).toArray = ls at hl ⊢
  have hl : lv_has ls 7 [(0, .ref x), (1, .int p0), (2, .int p1), (3, .int p2), (4, .int p3), (5, .int p4)] := hl
  refine lv_aload_n hx hb dX5_rule_0 rfl (lv_at hl 0 rfl) ?_
  refine lv_iload_n hx hb dX5_rule_1 rfl (lv_at hl 1 rfl) ?_
  refine kc_q (va_runV (As := [.int p0]) (rest := []) ⟨hx, hb, hml, hown, htT⟩ (c_known l D cA _ S x hx5 ar hq0 hR.1 p0 a hsw) (cwV 1 htT (kg_V m_ml_X5_45 m_im_X5_known m_sl_X5_known m_in_X5 m_cd_X5_known) rfl rfl rfl (by decide +kernel) ⟨Nat.le_of_ble_eq_true rfl, Nat.le_of_ble_eq_true rfl⟩) (kp_V hK hP hD hTB (kp_rc hK hP hx5 (Nat.le_of_ble_eq_true rfl) rfl)) rfl rfl hl.1 rfl (lv_room (Nat.le_of_ble_eq_true rfl)) dX5_rule_2 ⟨Nat.le_of_ble_eq_true rfl, Nat.le_of_ble_eq_true rfl⟩) hD hS hA (fun r_1 x_1 H locs hq_1 hP hD hS => ?_)
  rw [hq_1.1]
  rw [hq_1.2] at hP hD
  refine lv_astore (lv' := [(6, .ref a), (0, .ref x), (1, .int p0), (2, .int p1), (3, .int p2), (4, .int p3), (5, .int p4)]) hx hb dX5_rule_5 hl (by decide) rfl (fun ls hl => ?_)
  refine lv_iload hx hb dX5_rule_7 (lv_at hl 6 rfl) ?_
  refine lv_iconst (v := (-1)) hx hb dX5_rule_9 (by decide) ?_
  refine lv_icmp_eq (tgt := 20) hx hb dX5_rule_10 (by decide) (fun c_2 => ?_) (fun c_2 => ?_)
  · exact absurd c_2 hn4
  · refine lv_aload hx hb dX5_rule_13 (lv_at hl 0 rfl) ?_
    refine lv_iload hx hb dX5_rule_15 (lv_at hl 6 rfl) ?_
    refine kt_call (vx_runS (As := [.ref a, .int p4]) (rest := []) ⟨hx, hb, hml, hown, htT⟩ (c_checkVariant_t l hst D cA _ S a (hR.2 j hj a hja).1.1 p4 hv) (cwS 2 htT (kg_S m_ml_X5_49 m_st_X5_checkVariant m_in_X5 m_cd_X5_checkVariant) rfl rfl rfl (by decide +kernel) ⟨Nat.le_of_ble_eq_true rfl, Nat.le_of_ble_eq_true rfl⟩) (kp_SX hK hP hD hTB hTX hS hA) rfl rfl hl.1 rfl (lv_room (Nat.le_of_ble_eq_true rfl)) dX5_rule_17 ⟨Nat.le_of_ble_eq_true rfl, Nat.le_of_ble_eq_true rfl⟩) hD hS hA (fun ce q9 H locs hP hD hS hce hcv hcl => ?_)
    exact kt_out hTab hlocks hK hP hD hS hce hcv hcl (Nat.le_of_ble_eq_true rfl) (Nat.le_of_ble_eq_true rfl)

set_option maxRecDepth 100000 in
set_option maxHeartbeats 4000000 in
theorem c_rule_1 (l : Launch) (hst : l.stackTraces = false) (D : va_G) (cA : Nat → ClassId) (sz : Nat) (S : Pool) (x : Nat) (hx5 : isO S x 5) (ar : Nat) (hq0 : gQ S x 0 = some ar) (ak : Nat) (hq1 : gQ S x 1 = some ak) (hak : isO S ak 1) (hR : okR S ar) (j : Nat) (hj : j < 8) (a : Nat) (hja : gP S ar j = some a) (p0 : Int32) (hsw : kSw S ar p0 = some a) (p1 p2 p3 p4 : Int32) (hv : p4 = -1 ∨ kOut p4 0 (gI S a 2 - 1) = 0) (hbad : kRul p1 p2 p3 = 0) : vx_Met l yX5_rule (Cond.code yX5_rule cX5_rule 7 (some .int) :: TT) ({ frames := 6, cells := 1, slots := 6, locals := 82 }) (va_Pc [.ref x, .int p0, .int p1, .int p2, .int p3, .int p4] (kPreX D cA (PW cA S) sz)) kNo (kXC D cA (PW cA S) "java/lang/IllegalArgumentException" (va_A (PW cA S) sz)) 1 6 (va_A (PW cA S) sz) := by
  refine vx_ofW (cc := cX5_rule) (maxL := 7) (ret := (some .int)) (by decide) rfl ?_
  intro p e s m args below meth c s₁ B hml hTab hv
  obtain ⟨rfl, ⟨hsz, hP, hK, hD0, hTB⟩, hTX⟩ := hv
  have hx := B.exec
  have hb := B.bytes
  have hr := B.returns
  have hts := atoms_spec (ws := Cond.code yX5_rule cX5_rule 7 (some .int) :: TT) B.pre
  have htT : ∀ w ∈ TT, w.before _ s = true := fun w h => hts w (List.mem_cons_of_mem _ h)
  have hown : s.vm.findClass RX5 = some m.cls := findClass_of_methodNamed B.named
  have hlocks := B.notSynchronized
  subst hsz
  have hD := hD0.self (sz := s.heap.size)
  generalize hAe : va_A (PW cA S) s.heap.size = A at hD hTX ⊢
  have hA : ∀ q : Nat, s.heap.size ≤ q → A q := fun q h => by rw [← hAe]; exact Or.inr h
  have hS : va_S A s.heap s.heap [] := va_S.rf
  have hl := lv_entry ([.ref x, .int p0, .int p1, .int p2, .int p3, .int p4]) (n := 7) (Nat.le_of_ble_eq_true rfl)
  rw [lg_entry_eq]
  generalize (lg_sl ([.ref x, .int p0, .int p1, .int p2, .int p3, .int p4]) ++ List.replicate (7 - (lg_sl ([.ref x, .int p0, .int p1, .int p2, .int p3, .int p4])).length) Slot.unset).toArray = ls at hl ⊢
  have hl : lv_has ls 7 [(0, .ref x), (1, .int p0), (2, .int p1), (3, .int p2), (4, .int p3), (5, .int p4)] := hl
  refine lv_aload_n hx hb dX5_rule_0 rfl (lv_at hl 0 rfl) ?_
  refine lv_iload_n hx hb dX5_rule_1 rfl (lv_at hl 1 rfl) ?_
  refine kc_q (va_runV (As := [.int p0]) (rest := []) ⟨hx, hb, hml, hown, htT⟩ (c_known l D cA _ S x hx5 ar hq0 hR.1 p0 a hsw) (cwV 1 htT (kg_V m_ml_X5_45 m_im_X5_known m_sl_X5_known m_in_X5 m_cd_X5_known) rfl rfl rfl (by decide +kernel) ⟨Nat.le_of_ble_eq_true rfl, Nat.le_of_ble_eq_true rfl⟩) (kp_V hK hP hD hTB (kp_rc hK hP hx5 (Nat.le_of_ble_eq_true rfl) rfl)) rfl rfl hl.1 rfl (lv_room (Nat.le_of_ble_eq_true rfl)) dX5_rule_2 ⟨Nat.le_of_ble_eq_true rfl, Nat.le_of_ble_eq_true rfl⟩) hD hS hA (fun r_1 x_1 H locs hq_1 hP hD hS => ?_)
  rw [hq_1.1]
  rw [hq_1.2] at hP hD
  refine lv_astore (lv' := [(6, .ref a), (0, .ref x), (1, .int p0), (2, .int p1), (3, .int p2), (4, .int p3), (5, .int p4)]) hx hb dX5_rule_5 hl (by decide) rfl (fun ls hl => ?_)
  refine lv_iload hx hb dX5_rule_7 (lv_at hl 6 rfl) ?_
  refine lv_iconst (v := (-1)) hx hb dX5_rule_9 (by decide) ?_
  refine lv_icmp_eq (tgt := 20) hx hb dX5_rule_10 (by decide) (fun c_2 => ?_) (fun c_2 => ?_)
  · refine lv_iload_n hx hb dX5_rule_20 rfl (lv_at hl 3 rfl) ?_
    refine lv_iconst (v := 0) hx hb dX5_rule_21 (by decide) ?_
    refine lv_iconst (v := 1) hx hb dX5_rule_22 (by decide) ?_
    refine kc_i (va_runS (As := [.int p1, .int 0, .int 1]) (rest := []) ⟨hx, hb, hml, hown, htT⟩ (c_isOutside l D cA _ S p1 0 1) (cwS 3 htT (kg_S m_ml_X5_22 m_st_X5_isOutside m_in_X5 m_cd_X5_isOutside) rfl rfl rfl (by decide +kernel) ⟨Nat.le_of_ble_eq_true rfl, Nat.le_of_ble_eq_true rfl⟩) (kp_S hK hP hD hTB) rfl rfl hl.1 rfl (lv_room (Nat.le_of_ble_eq_true rfl)) dX5_rule_23 ⟨Nat.le_of_ble_eq_true rfl, Nat.le_of_ble_eq_true rfl⟩) hD hS hA (fun r_3 x_3 H locs hq_3 hP hD hS => ?_)
    rw [hq_3.1]
    rw [hq_3.2] at hP hD
    refine lv_if_ne (tgt := 49) hx hb dX5_rule_26 (by decide) (fun c_4 => ?_) (fun c_4 => ?_)
    · exact kt_new (text := "mark, how or n out of range") hx hb hst hown (Or.inl rfl) (htT _ m_cl_X5_26) (htT _ m_in_IllegalArgumentException) (by decide +kernel) (fun w h => htT w (at_IAE w h)) an_IAE (ag_IAE 26) hTB hTX hK hP hD hS (hl.1.trans hml.symm) dX5_rule_49 dX5_rule_52 dX5_rule_53 dX5_rule_55 dX5_rule_58 hTab (Nat.le_of_ble_eq_true rfl) (Nat.le_of_ble_eq_true rfl) (Nat.le_of_ble_eq_true rfl) (Nat.le_of_ble_eq_true rfl) hlocks (Nat.le_of_ble_eq_true rfl) (Nat.le_of_ble_eq_true rfl)
    · refine lv_iload_n hx hb dX5_rule_29 rfl (lv_at hl 4 rfl) ?_
      refine lv_iconst (v := 1) hx hb dX5_rule_30 (by decide) ?_
      refine lv_iconst (v := 3) hx hb dX5_rule_31 (by decide) ?_
      refine kc_i (va_runS (As := [.int p2, .int 1, .int 3]) (rest := []) ⟨hx, hb, hml, hown, htT⟩ (c_isOutside l D cA _ S p2 1 3) (cwS 3 htT (kg_S m_ml_X5_22 m_st_X5_isOutside m_in_X5 m_cd_X5_isOutside) rfl rfl rfl (by decide +kernel) ⟨Nat.le_of_ble_eq_true rfl, Nat.le_of_ble_eq_true rfl⟩) (kp_S hK hP hD hTB) rfl rfl hl.1 rfl (lv_room (Nat.le_of_ble_eq_true rfl)) dX5_rule_32 ⟨Nat.le_of_ble_eq_true rfl, Nat.le_of_ble_eq_true rfl⟩) hD hS hA (fun r_5 x_5 H locs hq_5 hP hD hS => ?_)
      rw [hq_5.1]
      rw [hq_5.2] at hP hD
      refine lv_if_ne (tgt := 49) hx hb dX5_rule_35 (by decide) (fun c_6 => ?_) (fun c_6 => ?_)
      · exact kt_new (text := "mark, how or n out of range") hx hb hst hown (Or.inl rfl) (htT _ m_cl_X5_26) (htT _ m_in_IllegalArgumentException) (by decide +kernel) (fun w h => htT w (at_IAE w h)) an_IAE (ag_IAE 26) hTB hTX hK hP hD hS (hl.1.trans hml.symm) dX5_rule_49 dX5_rule_52 dX5_rule_53 dX5_rule_55 dX5_rule_58 hTab (Nat.le_of_ble_eq_true rfl) (Nat.le_of_ble_eq_true rfl) (Nat.le_of_ble_eq_true rfl) (Nat.le_of_ble_eq_true rfl) hlocks (Nat.le_of_ble_eq_true rfl) (Nat.le_of_ble_eq_true rfl)
      · refine lv_iload hx hb dX5_rule_38 (lv_at hl 5 rfl) ?_
        refine lv_iconst (v := 0) hx hb dX5_rule_40 (by decide) ?_
        refine lv_bipush (v := 9) hx hb dX5_rule_41 (by decide) ?_
        refine kc_i (va_runS (As := [.int p3, .int 0, .int 9]) (rest := []) ⟨hx, hb, hml, hown, htT⟩ (c_isOutside l D cA _ S p3 0 9) (cwS 3 htT (kg_S m_ml_X5_22 m_st_X5_isOutside m_in_X5 m_cd_X5_isOutside) rfl rfl rfl (by decide +kernel) ⟨Nat.le_of_ble_eq_true rfl, Nat.le_of_ble_eq_true rfl⟩) (kp_S hK hP hD hTB) rfl rfl hl.1 rfl (lv_room (Nat.le_of_ble_eq_true rfl)) dX5_rule_43 ⟨Nat.le_of_ble_eq_true rfl, Nat.le_of_ble_eq_true rfl⟩) hD hS hA (fun r_7 x_7 H locs hq_7 hP hD hS => ?_)
        rw [hq_7.1]
        rw [hq_7.2] at hP hD
        refine lv_if_eq (tgt := 59) hx hb dX5_rule_46 (by decide) (fun c_8 => ?_) (fun c_8 => ?_)
        · exact absurd hbad (by simp [kRul, c_2, c_4, c_6, c_8])
        · exact kt_new (text := "mark, how or n out of range") hx hb hst hown (Or.inl rfl) (htT _ m_cl_X5_26) (htT _ m_in_IllegalArgumentException) (by decide +kernel) (fun w h => htT w (at_IAE w h)) an_IAE (ag_IAE 26) hTB hTX hK hP hD hS (hl.1.trans hml.symm) dX5_rule_49 dX5_rule_52 dX5_rule_53 dX5_rule_55 dX5_rule_58 hTab (Nat.le_of_ble_eq_true rfl) (Nat.le_of_ble_eq_true rfl) (Nat.le_of_ble_eq_true rfl) (Nat.le_of_ble_eq_true rfl) hlocks (Nat.le_of_ble_eq_true rfl) (Nat.le_of_ble_eq_true rfl)
  · refine lv_aload hx hb dX5_rule_13 (lv_at hl 0 rfl) ?_
    refine lv_iload hx hb dX5_rule_15 (lv_at hl 6 rfl) ?_
    refine kc_v (va_runS (As := [.ref a, .int p4]) (rest := []) ⟨hx, hb, hml, hown, htT⟩ (c_checkVariant l D cA _ S a (hR.2 j hj a hja).1.1 p4 (hv.resolve_left c_2)) (cwS 2 htT (kg_S m_ml_X5_49 m_st_X5_checkVariant m_in_X5 m_cd_X5_checkVariant) rfl rfl rfl (by decide +kernel) ⟨Nat.le_of_ble_eq_true rfl, Nat.le_of_ble_eq_true rfl⟩) (kp_S hK hP hD hTB) rfl rfl hl.1 rfl (lv_room (Nat.le_of_ble_eq_true rfl)) dX5_rule_17 ⟨Nat.le_of_ble_eq_true rfl, Nat.le_of_ble_eq_true rfl⟩) hD hS hA (fun x_9 H locs hq_9 hP hD hS => ?_)
    rw [hq_9] at hP hD
    refine lv_iload_n hx hb dX5_rule_20 rfl (lv_at hl 3 rfl) ?_
    refine lv_iconst (v := 0) hx hb dX5_rule_21 (by decide) ?_
    refine lv_iconst (v := 1) hx hb dX5_rule_22 (by decide) ?_
    refine kc_i (va_runS (As := [.int p1, .int 0, .int 1]) (rest := []) ⟨hx, hb, hml, hown, htT⟩ (c_isOutside l D cA _ S p1 0 1) (cwS 3 htT (kg_S m_ml_X5_22 m_st_X5_isOutside m_in_X5 m_cd_X5_isOutside) rfl rfl rfl (by decide +kernel) ⟨Nat.le_of_ble_eq_true rfl, Nat.le_of_ble_eq_true rfl⟩) (kp_S hK hP hD hTB) rfl rfl hl.1 rfl (lv_room (Nat.le_of_ble_eq_true rfl)) dX5_rule_23 ⟨Nat.le_of_ble_eq_true rfl, Nat.le_of_ble_eq_true rfl⟩) hD hS hA (fun r_10 x_10 H locs hq_10 hP hD hS => ?_)
    rw [hq_10.1]
    rw [hq_10.2] at hP hD
    refine lv_if_ne (tgt := 49) hx hb dX5_rule_26 (by decide) (fun c_11 => ?_) (fun c_11 => ?_)
    · exact kt_new (text := "mark, how or n out of range") hx hb hst hown (Or.inl rfl) (htT _ m_cl_X5_26) (htT _ m_in_IllegalArgumentException) (by decide +kernel) (fun w h => htT w (at_IAE w h)) an_IAE (ag_IAE 26) hTB hTX hK hP hD hS (hl.1.trans hml.symm) dX5_rule_49 dX5_rule_52 dX5_rule_53 dX5_rule_55 dX5_rule_58 hTab (Nat.le_of_ble_eq_true rfl) (Nat.le_of_ble_eq_true rfl) (Nat.le_of_ble_eq_true rfl) (Nat.le_of_ble_eq_true rfl) hlocks (Nat.le_of_ble_eq_true rfl) (Nat.le_of_ble_eq_true rfl)
    · refine lv_iload_n hx hb dX5_rule_29 rfl (lv_at hl 4 rfl) ?_
      refine lv_iconst (v := 1) hx hb dX5_rule_30 (by decide) ?_
      refine lv_iconst (v := 3) hx hb dX5_rule_31 (by decide) ?_
      refine kc_i (va_runS (As := [.int p2, .int 1, .int 3]) (rest := []) ⟨hx, hb, hml, hown, htT⟩ (c_isOutside l D cA _ S p2 1 3) (cwS 3 htT (kg_S m_ml_X5_22 m_st_X5_isOutside m_in_X5 m_cd_X5_isOutside) rfl rfl rfl (by decide +kernel) ⟨Nat.le_of_ble_eq_true rfl, Nat.le_of_ble_eq_true rfl⟩) (kp_S hK hP hD hTB) rfl rfl hl.1 rfl (lv_room (Nat.le_of_ble_eq_true rfl)) dX5_rule_32 ⟨Nat.le_of_ble_eq_true rfl, Nat.le_of_ble_eq_true rfl⟩) hD hS hA (fun r_12 x_12 H locs hq_12 hP hD hS => ?_)
      rw [hq_12.1]
      rw [hq_12.2] at hP hD
      refine lv_if_ne (tgt := 49) hx hb dX5_rule_35 (by decide) (fun c_13 => ?_) (fun c_13 => ?_)
      · exact kt_new (text := "mark, how or n out of range") hx hb hst hown (Or.inl rfl) (htT _ m_cl_X5_26) (htT _ m_in_IllegalArgumentException) (by decide +kernel) (fun w h => htT w (at_IAE w h)) an_IAE (ag_IAE 26) hTB hTX hK hP hD hS (hl.1.trans hml.symm) dX5_rule_49 dX5_rule_52 dX5_rule_53 dX5_rule_55 dX5_rule_58 hTab (Nat.le_of_ble_eq_true rfl) (Nat.le_of_ble_eq_true rfl) (Nat.le_of_ble_eq_true rfl) (Nat.le_of_ble_eq_true rfl) hlocks (Nat.le_of_ble_eq_true rfl) (Nat.le_of_ble_eq_true rfl)
      · refine lv_iload hx hb dX5_rule_38 (lv_at hl 5 rfl) ?_
        refine lv_iconst (v := 0) hx hb dX5_rule_40 (by decide) ?_
        refine lv_bipush (v := 9) hx hb dX5_rule_41 (by decide) ?_
        refine kc_i (va_runS (As := [.int p3, .int 0, .int 9]) (rest := []) ⟨hx, hb, hml, hown, htT⟩ (c_isOutside l D cA _ S p3 0 9) (cwS 3 htT (kg_S m_ml_X5_22 m_st_X5_isOutside m_in_X5 m_cd_X5_isOutside) rfl rfl rfl (by decide +kernel) ⟨Nat.le_of_ble_eq_true rfl, Nat.le_of_ble_eq_true rfl⟩) (kp_S hK hP hD hTB) rfl rfl hl.1 rfl (lv_room (Nat.le_of_ble_eq_true rfl)) dX5_rule_43 ⟨Nat.le_of_ble_eq_true rfl, Nat.le_of_ble_eq_true rfl⟩) hD hS hA (fun r_14 x_14 H locs hq_14 hP hD hS => ?_)
        rw [hq_14.1]
        rw [hq_14.2] at hP hD
        refine lv_if_eq (tgt := 59) hx hb dX5_rule_46 (by decide) (fun c_15 => ?_) (fun c_15 => ?_)
        · exact absurd hbad (by simp [kRul, c_2, c_11, c_13, c_15])
        · exact kt_new (text := "mark, how or n out of range") hx hb hst hown (Or.inl rfl) (htT _ m_cl_X5_26) (htT _ m_in_IllegalArgumentException) (by decide +kernel) (fun w h => htT w (at_IAE w h)) an_IAE (ag_IAE 26) hTB hTX hK hP hD hS (hl.1.trans hml.symm) dX5_rule_49 dX5_rule_52 dX5_rule_53 dX5_rule_55 dX5_rule_58 hTab (Nat.le_of_ble_eq_true rfl) (Nat.le_of_ble_eq_true rfl) (Nat.le_of_ble_eq_true rfl) (Nat.le_of_ble_eq_true rfl) hlocks (Nat.le_of_ble_eq_true rfl) (Nat.le_of_ble_eq_true rfl)

set_option maxRecDepth 100000 in
set_option maxHeartbeats 4000000 in
theorem c_rule_2 (l : Launch) (hst : l.stackTraces = false) (D : va_G) (cA : Nat → ClassId) (sz : Nat) (S : Pool) (x : Nat) (hx5 : isO S x 5) (ar : Nat) (hq0 : gQ S x 0 = some ar) (ak : Nat) (hq1 : gQ S x 1 = some ak) (hak : isO S ak 1) (hR : okR S ar) (j : Nat) (hj : j < 8) (a : Nat) (hja : gP S ar j = some a) (p0 : Int32) (hsw : kSw S ar p0 = some a) (p1 p2 p3 p4 : Int32) (hv : p4 = -1 ∨ kOut p4 0 (gI S a 2 - 1) = 0) (hbad : kRul p1 p2 p3 = 1) (h8 : ¬ gI S a 8 < 5) : vx_Met l yX5_rule (Cond.code yX5_rule cX5_rule 7 (some .int) :: TT) ({ frames := 6, cells := 1, slots := 6, locals := 82 }) (va_Pc [.ref x, .int p0, .int p1, .int p2, .int p3, .int p4] (kPreX D cA (PW cA S) sz)) kNo (kXC D cA (PW cA S) "java/lang/IllegalStateException" (va_A (PW cA S) sz)) 1 6 (va_A (PW cA S) sz) := by
  refine vx_ofW (cc := cX5_rule) (maxL := 7) (ret := (some .int)) (by decide) rfl ?_
  intro p e s m args below meth c s₁ B hml hTab hv
  obtain ⟨rfl, ⟨hsz, hP, hK, hD0, hTB⟩, hTX⟩ := hv
  have hx := B.exec
  have hb := B.bytes
  have hr := B.returns
  have hts := atoms_spec (ws := Cond.code yX5_rule cX5_rule 7 (some .int) :: TT) B.pre
  have htT : ∀ w ∈ TT, w.before _ s = true := fun w h => hts w (List.mem_cons_of_mem _ h)
  have hown : s.vm.findClass RX5 = some m.cls := findClass_of_methodNamed B.named
  have hlocks := B.notSynchronized
  subst hsz
  have hD := hD0.self (sz := s.heap.size)
  generalize hAe : va_A (PW cA S) s.heap.size = A at hD hTX ⊢
  have hA : ∀ q : Nat, s.heap.size ≤ q → A q := fun q h => by rw [← hAe]; exact Or.inr h
  have hS : va_S A s.heap s.heap [] := va_S.rf
  have hl := lv_entry ([.ref x, .int p0, .int p1, .int p2, .int p3, .int p4]) (n := 7) (Nat.le_of_ble_eq_true rfl)
  rw [lg_entry_eq]
  generalize (lg_sl ([.ref x, .int p0, .int p1, .int p2, .int p3, .int p4]) ++ List.replicate (7 - (lg_sl ([.ref x, .int p0, .int p1, .int p2, .int p3, .int p4])).length) Slot.unset).toArray = ls at hl ⊢
  have hl : lv_has ls 7 [(0, .ref x), (1, .int p0), (2, .int p1), (3, .int p2), (4, .int p3), (5, .int p4)] := hl
  refine lv_aload_n hx hb dX5_rule_0 rfl (lv_at hl 0 rfl) ?_
  refine lv_iload_n hx hb dX5_rule_1 rfl (lv_at hl 1 rfl) ?_
  refine kc_q (va_runV (As := [.int p0]) (rest := []) ⟨hx, hb, hml, hown, htT⟩ (c_known l D cA _ S x hx5 ar hq0 hR.1 p0 a hsw) (cwV 1 htT (kg_V m_ml_X5_45 m_im_X5_known m_sl_X5_known m_in_X5 m_cd_X5_known) rfl rfl rfl (by decide +kernel) ⟨Nat.le_of_ble_eq_true rfl, Nat.le_of_ble_eq_true rfl⟩) (kp_V hK hP hD hTB (kp_rc hK hP hx5 (Nat.le_of_ble_eq_true rfl) rfl)) rfl rfl hl.1 rfl (lv_room (Nat.le_of_ble_eq_true rfl)) dX5_rule_2 ⟨Nat.le_of_ble_eq_true rfl, Nat.le_of_ble_eq_true rfl⟩) hD hS hA (fun r_1 x_1 H locs hq_1 hP hD hS => ?_)
  rw [hq_1.1]
  rw [hq_1.2] at hP hD
  refine lv_astore (lv' := [(6, .ref a), (0, .ref x), (1, .int p0), (2, .int p1), (3, .int p2), (4, .int p3), (5, .int p4)]) hx hb dX5_rule_5 hl (by decide) rfl (fun ls hl => ?_)
  refine lv_iload hx hb dX5_rule_7 (lv_at hl 6 rfl) ?_
  refine lv_iconst (v := (-1)) hx hb dX5_rule_9 (by decide) ?_
  refine lv_icmp_eq (tgt := 20) hx hb dX5_rule_10 (by decide) (fun c_2 => ?_) (fun c_2 => ?_)
  · refine lv_iload_n hx hb dX5_rule_20 rfl (lv_at hl 3 rfl) ?_
    refine lv_iconst (v := 0) hx hb dX5_rule_21 (by decide) ?_
    refine lv_iconst (v := 1) hx hb dX5_rule_22 (by decide) ?_
    refine kc_i (va_runS (As := [.int p1, .int 0, .int 1]) (rest := []) ⟨hx, hb, hml, hown, htT⟩ (c_isOutside l D cA _ S p1 0 1) (cwS 3 htT (kg_S m_ml_X5_22 m_st_X5_isOutside m_in_X5 m_cd_X5_isOutside) rfl rfl rfl (by decide +kernel) ⟨Nat.le_of_ble_eq_true rfl, Nat.le_of_ble_eq_true rfl⟩) (kp_S hK hP hD hTB) rfl rfl hl.1 rfl (lv_room (Nat.le_of_ble_eq_true rfl)) dX5_rule_23 ⟨Nat.le_of_ble_eq_true rfl, Nat.le_of_ble_eq_true rfl⟩) hD hS hA (fun r_3 x_3 H locs hq_3 hP hD hS => ?_)
    rw [hq_3.1]
    rw [hq_3.2] at hP hD
    refine lv_if_ne (tgt := 49) hx hb dX5_rule_26 (by decide) (fun c_4 => ?_) (fun c_4 => ?_)
    · exact absurd hbad (by simp [kRul, c_2, c_4])
    · refine lv_iload_n hx hb dX5_rule_29 rfl (lv_at hl 4 rfl) ?_
      refine lv_iconst (v := 1) hx hb dX5_rule_30 (by decide) ?_
      refine lv_iconst (v := 3) hx hb dX5_rule_31 (by decide) ?_
      refine kc_i (va_runS (As := [.int p2, .int 1, .int 3]) (rest := []) ⟨hx, hb, hml, hown, htT⟩ (c_isOutside l D cA _ S p2 1 3) (cwS 3 htT (kg_S m_ml_X5_22 m_st_X5_isOutside m_in_X5 m_cd_X5_isOutside) rfl rfl rfl (by decide +kernel) ⟨Nat.le_of_ble_eq_true rfl, Nat.le_of_ble_eq_true rfl⟩) (kp_S hK hP hD hTB) rfl rfl hl.1 rfl (lv_room (Nat.le_of_ble_eq_true rfl)) dX5_rule_32 ⟨Nat.le_of_ble_eq_true rfl, Nat.le_of_ble_eq_true rfl⟩) hD hS hA (fun r_5 x_5 H locs hq_5 hP hD hS => ?_)
      rw [hq_5.1]
      rw [hq_5.2] at hP hD
      refine lv_if_ne (tgt := 49) hx hb dX5_rule_35 (by decide) (fun c_6 => ?_) (fun c_6 => ?_)
      · exact absurd hbad (by simp [kRul, c_2, c_4, c_6])
      · refine lv_iload hx hb dX5_rule_38 (lv_at hl 5 rfl) ?_
        refine lv_iconst (v := 0) hx hb dX5_rule_40 (by decide) ?_
        refine lv_bipush (v := 9) hx hb dX5_rule_41 (by decide) ?_
        refine kc_i (va_runS (As := [.int p3, .int 0, .int 9]) (rest := []) ⟨hx, hb, hml, hown, htT⟩ (c_isOutside l D cA _ S p3 0 9) (cwS 3 htT (kg_S m_ml_X5_22 m_st_X5_isOutside m_in_X5 m_cd_X5_isOutside) rfl rfl rfl (by decide +kernel) ⟨Nat.le_of_ble_eq_true rfl, Nat.le_of_ble_eq_true rfl⟩) (kp_S hK hP hD hTB) rfl rfl hl.1 rfl (lv_room (Nat.le_of_ble_eq_true rfl)) dX5_rule_43 ⟨Nat.le_of_ble_eq_true rfl, Nat.le_of_ble_eq_true rfl⟩) hD hS hA (fun r_7 x_7 H locs hq_7 hP hD hS => ?_)
        rw [hq_7.1]
        rw [hq_7.2] at hP hD
        refine lv_if_eq (tgt := 59) hx hb dX5_rule_46 (by decide) (fun c_8 => ?_) (fun c_8 => ?_)
        · refine lv_aload hx hb dX5_rule_59 (lv_at hl 0 rfl) ?_
          refine kx_getiN hx hb htT m_u_X3 hown hK hP ((hR.2 j hj a hja).1.1) (Nat.le_of_ble_eq_true rfl) rfl 8 (by decide) (by decide) rfl (hTB.use m_fl_X5_107) dX5_rule_61 ?_
          refine lv_iconst (v := 5) hx hb dX5_rule_64 (by decide) ?_
          refine lv_icmp_lt (tgt := 78) hx hb dX5_rule_65 (by decide) (fun c_9 => ?_) (fun c_9 => ?_)
          · exact absurd c_9 h8
          · exact kt_new (text := "no more rules") hx hb hst hown (Or.inr (Or.inl rfl)) (htT _ m_cl_X5_37) (htT _ m_in_IllegalStateException) (by decide +kernel) (fun w h => htT w (at_ISE w h)) an_ISE (ag_ISE 37) hTB hTX hK hP hD hS (hl.1.trans hml.symm) dX5_rule_68 dX5_rule_71 dX5_rule_72 dX5_rule_74 dX5_rule_77 hTab (Nat.le_of_ble_eq_true rfl) (Nat.le_of_ble_eq_true rfl) (Nat.le_of_ble_eq_true rfl) (Nat.le_of_ble_eq_true rfl) hlocks (Nat.le_of_ble_eq_true rfl) (Nat.le_of_ble_eq_true rfl)
        · exact absurd hbad (by simp [kRul, c_2, c_4, c_6, c_8])
  · refine lv_aload hx hb dX5_rule_13 (lv_at hl 0 rfl) ?_
    refine lv_iload hx hb dX5_rule_15 (lv_at hl 6 rfl) ?_
    refine kc_v (va_runS (As := [.ref a, .int p4]) (rest := []) ⟨hx, hb, hml, hown, htT⟩ (c_checkVariant l D cA _ S a (hR.2 j hj a hja).1.1 p4 (hv.resolve_left c_2)) (cwS 2 htT (kg_S m_ml_X5_49 m_st_X5_checkVariant m_in_X5 m_cd_X5_checkVariant) rfl rfl rfl (by decide +kernel) ⟨Nat.le_of_ble_eq_true rfl, Nat.le_of_ble_eq_true rfl⟩) (kp_S hK hP hD hTB) rfl rfl hl.1 rfl (lv_room (Nat.le_of_ble_eq_true rfl)) dX5_rule_17 ⟨Nat.le_of_ble_eq_true rfl, Nat.le_of_ble_eq_true rfl⟩) hD hS hA (fun x_10 H locs hq_10 hP hD hS => ?_)
    rw [hq_10] at hP hD
    refine lv_iload_n hx hb dX5_rule_20 rfl (lv_at hl 3 rfl) ?_
    refine lv_iconst (v := 0) hx hb dX5_rule_21 (by decide) ?_
    refine lv_iconst (v := 1) hx hb dX5_rule_22 (by decide) ?_
    refine kc_i (va_runS (As := [.int p1, .int 0, .int 1]) (rest := []) ⟨hx, hb, hml, hown, htT⟩ (c_isOutside l D cA _ S p1 0 1) (cwS 3 htT (kg_S m_ml_X5_22 m_st_X5_isOutside m_in_X5 m_cd_X5_isOutside) rfl rfl rfl (by decide +kernel) ⟨Nat.le_of_ble_eq_true rfl, Nat.le_of_ble_eq_true rfl⟩) (kp_S hK hP hD hTB) rfl rfl hl.1 rfl (lv_room (Nat.le_of_ble_eq_true rfl)) dX5_rule_23 ⟨Nat.le_of_ble_eq_true rfl, Nat.le_of_ble_eq_true rfl⟩) hD hS hA (fun r_11 x_11 H locs hq_11 hP hD hS => ?_)
    rw [hq_11.1]
    rw [hq_11.2] at hP hD
    refine lv_if_ne (tgt := 49) hx hb dX5_rule_26 (by decide) (fun c_12 => ?_) (fun c_12 => ?_)
    · exact absurd hbad (by simp [kRul, c_2, c_12])
    · refine lv_iload_n hx hb dX5_rule_29 rfl (lv_at hl 4 rfl) ?_
      refine lv_iconst (v := 1) hx hb dX5_rule_30 (by decide) ?_
      refine lv_iconst (v := 3) hx hb dX5_rule_31 (by decide) ?_
      refine kc_i (va_runS (As := [.int p2, .int 1, .int 3]) (rest := []) ⟨hx, hb, hml, hown, htT⟩ (c_isOutside l D cA _ S p2 1 3) (cwS 3 htT (kg_S m_ml_X5_22 m_st_X5_isOutside m_in_X5 m_cd_X5_isOutside) rfl rfl rfl (by decide +kernel) ⟨Nat.le_of_ble_eq_true rfl, Nat.le_of_ble_eq_true rfl⟩) (kp_S hK hP hD hTB) rfl rfl hl.1 rfl (lv_room (Nat.le_of_ble_eq_true rfl)) dX5_rule_32 ⟨Nat.le_of_ble_eq_true rfl, Nat.le_of_ble_eq_true rfl⟩) hD hS hA (fun r_13 x_13 H locs hq_13 hP hD hS => ?_)
      rw [hq_13.1]
      rw [hq_13.2] at hP hD
      refine lv_if_ne (tgt := 49) hx hb dX5_rule_35 (by decide) (fun c_14 => ?_) (fun c_14 => ?_)
      · exact absurd hbad (by simp [kRul, c_2, c_12, c_14])
      · refine lv_iload hx hb dX5_rule_38 (lv_at hl 5 rfl) ?_
        refine lv_iconst (v := 0) hx hb dX5_rule_40 (by decide) ?_
        refine lv_bipush (v := 9) hx hb dX5_rule_41 (by decide) ?_
        refine kc_i (va_runS (As := [.int p3, .int 0, .int 9]) (rest := []) ⟨hx, hb, hml, hown, htT⟩ (c_isOutside l D cA _ S p3 0 9) (cwS 3 htT (kg_S m_ml_X5_22 m_st_X5_isOutside m_in_X5 m_cd_X5_isOutside) rfl rfl rfl (by decide +kernel) ⟨Nat.le_of_ble_eq_true rfl, Nat.le_of_ble_eq_true rfl⟩) (kp_S hK hP hD hTB) rfl rfl hl.1 rfl (lv_room (Nat.le_of_ble_eq_true rfl)) dX5_rule_43 ⟨Nat.le_of_ble_eq_true rfl, Nat.le_of_ble_eq_true rfl⟩) hD hS hA (fun r_15 x_15 H locs hq_15 hP hD hS => ?_)
        rw [hq_15.1]
        rw [hq_15.2] at hP hD
        refine lv_if_eq (tgt := 59) hx hb dX5_rule_46 (by decide) (fun c_16 => ?_) (fun c_16 => ?_)
        · refine lv_aload hx hb dX5_rule_59 (lv_at hl 0 rfl) ?_
          refine kx_getiN hx hb htT m_u_X3 hown hK hP ((hR.2 j hj a hja).1.1) (Nat.le_of_ble_eq_true rfl) rfl 8 (by decide) (by decide) rfl (hTB.use m_fl_X5_107) dX5_rule_61 ?_
          refine lv_iconst (v := 5) hx hb dX5_rule_64 (by decide) ?_
          refine lv_icmp_lt (tgt := 78) hx hb dX5_rule_65 (by decide) (fun c_17 => ?_) (fun c_17 => ?_)
          · exact absurd c_17 h8
          · exact kt_new (text := "no more rules") hx hb hst hown (Or.inr (Or.inl rfl)) (htT _ m_cl_X5_37) (htT _ m_in_IllegalStateException) (by decide +kernel) (fun w h => htT w (at_ISE w h)) an_ISE (ag_ISE 37) hTB hTX hK hP hD hS (hl.1.trans hml.symm) dX5_rule_68 dX5_rule_71 dX5_rule_72 dX5_rule_74 dX5_rule_77 hTab (Nat.le_of_ble_eq_true rfl) (Nat.le_of_ble_eq_true rfl) (Nat.le_of_ble_eq_true rfl) (Nat.le_of_ble_eq_true rfl) hlocks (Nat.le_of_ble_eq_true rfl) (Nat.le_of_ble_eq_true rfl)
        · exact absurd hbad (by simp [kRul, c_2, c_12, c_14, c_16])

set_option maxRecDepth 100000 in
set_option maxHeartbeats 4000000 in
/-- removeRule -/
theorem c_removeRule (l : Launch) (D : va_G) (cA : Nat → ClassId) (sz : Nat) (S : Pool) (a : Nat) (ho : isO S a 3) (rl : Nat) (hq5 : gQ S a 5 = some rl) (hrl : isA S rl 21 5) (hro : ∀ k, k < 5 → ∀ u, gP S rl k = some u → isO S u 2) (k : Nat) (hk5 : k ≤ 5) : Met l yX3_removeRule (Cond.code yX3_removeRule cX3_removeRule 3 none :: TT) ({ frames := 1, cells := 0, slots := 0, locals := 21 }) (va_Pc [.ref a, .int (nI k)] (kPre D cA (PW cA S) sz)) (va_Qv (fun (x_ : Pool) => x_ = pI (cRem S rl k 5) a 8 (gI S a 8 - 1)) (fun x_ => kB D cA (va_A (PW cA S) sz) (PW cA x_)) (va_A (PW cA S) sz)) 0 0 (va_A (PW cA S) sz) := by
  refine Met.ofW (cc := cX3_removeRule) (maxL := 3) (ret := none) (by decide) rfl ?_
  intro p e s m args below meth c s₁ B hml hv
  obtain ⟨rfl, hsz, hP, hK, hD0, hTB⟩ := hv
  have hx := B.exec
  have hb := B.bytes
  have hr := B.returns
  have hts := atoms_spec (ws := Cond.code yX3_removeRule cX3_removeRule 3 none :: TT) B.pre
  have htT : ∀ w ∈ TT, w.before _ s = true := fun w h => hts w (List.mem_cons_of_mem _ h)
  have hown : s.vm.findClass RX3 = some m.cls := findClass_of_methodNamed B.named
  have hlocks := B.notSynchronized
  subst hsz
  have hD := hD0.self (sz := s.heap.size)
  generalize hAe : va_A (PW cA S) s.heap.size = A at hD ⊢
  have hA : ∀ q : Nat, s.heap.size ≤ q → A q := fun q h => by rw [← hAe]; exact Or.inr h
  have hS : va_S A s.heap s.heap [] := va_S.rf
  have hl := lv_entry ([.ref a, .int (nI k)]) (n := 3) (Nat.le_of_ble_eq_true rfl)
  rw [lg_entry_eq]
  generalize (lg_sl ([.ref a, .int (nI k)]) ++ List.replicate (3 - (lg_sl ([.ref a, .int (nI k)])).length) Slot.unset).toArray = ls at hl ⊢
  have hl : lv_has ls 3 [(0, .ref a), (1, .int (nI k))] := hl
  refine lv_iload_n hx hb dX3_removeRule_0 rfl (lv_at hl 1 rfl) ?_
  refine lv_iconst (v := 0) hx hb dX3_removeRule_1 (by decide) ?_
  refine va_mmax hx hb (hml.trans hl.1.symm) hown (htT _ m_ml_X3_62) (htT _ m_st_J9_max_7cf53) (htT _ m_in_Math) (htT _ m_cd_J9_max_7cf53) (Nat.le_of_ble_eq_true rfl) (Nat.le_of_ble_eq_true rfl) (Nat.le_of_ble_eq_true rfl) (Nat.le_of_ble_eq_true rfl) dX3_removeRule_2 ?_
  rw [show (if nI k < 0 then 0 else nI k) = nI k from kMaxI_0 (k := k) (by omega)]
  refine lv_istore_n (lv' := [(2, .int (nI k)), (0, .ref a), (1, .int (nI k))]) hx hb dX3_removeRule_5 rfl hl (by decide) rfl (fun ls hl => ?_)
  have hP : va_P D vwCl (PW cA (cRem S rl k k)) s.heap := by rw [cRem_0]; exact hP
  have hD : va_D A (PW cA (cRem S rl k k)) := by rw [cRem_0]; exact hD
  refine kz_loop 6 (fun N9 H locs ls => ∃ (j : Nat), N9 = 5 - j ∧ j ≤ 5 ∧ k ≤ j ∧ va_P D vwCl (PW cA (cRem S rl k j)) H ∧ va_D A (PW cA (cRem S rl k j)) ∧ va_S A s.heap H locs ∧ lv_has ls 3 [(2, .int (nI j)), (1, .int (nI k)), (0, .ref a)]) (fun N9 ih_6 H locs ls hI => ?_) ⟨k, rfl, by omega, Nat.le_refl _, hP, hD, hS, lv_sub hl [0, 2, 1] rfl⟩
  obtain ⟨j, hn9, hj, hkj, hP, hD, hS, hl⟩ := hI
  refine lv_iload_n hx hb dX3_removeRule_6 rfl (lv_at hl 0 rfl) ?_
  refine lv_aload_n hx hb dX3_removeRule_7 rfl (lv_at hl 2 rfl) ?_
  refine kx_gets hx hb htT m_u_X3 hown hK hP ho (Nat.le_of_ble_eq_true rfl) rfl 5 (by decide) (by decide) rfl hq5 (htT _ m_fl_X3_17) dX3_removeRule_8 ?_
  refine kx_alen (v := 5) hx hb hK hP hrl (Nat.le_of_ble_eq_true rfl) (Nat.le_of_ble_eq_true rfl) rfl dX3_removeRule_11 ?_
  refine lv_icmp_ge (tgt := 34) hx hb dX3_removeRule_12 (by decide) (fun c_1 => ?_) (fun c_1 => ?_)
  · replace c_1 := (nI_leI (a := 5) (b := j) (by omega) (by omega)).mp c_1
    refine lv_aload_n hx hb dX3_removeRule_34 rfl (lv_at hl 2 rfl) ?_
    refine lv_dup hx hb dX3_removeRule_35 rfl ?_
    refine kx_geti hx hb htT m_u_X3 hown hK hP ho (Nat.le_of_ble_eq_true rfl) rfl 8 (by decide) (by decide) rfl (htT _ m_fl_X3_74) dX3_removeRule_36 ?_
    refine lv_iconst (v := 1) hx hb dX3_removeRule_39 (by decide) ?_
    refine lv_isub hx hb dX3_removeRule_40 ?_
    refine kx_puti (ty := .int) hx hb htT m_u_X3 tyX3 tyX3_ok nmX3 hown hK hP hD hS ho (Nat.le_of_ble_eq_true rfl) rfl 8 (by decide) (by decide) rfl (htT _ m_fl_X3_74) rfl (by decide +kernel) rfl rfl dX3_removeRule_41 (fun H locs hP hD hS => ?_)
    exact W.vret hx hb hr (fun t ht hW => ⟨⟨pI (cRem S rl k j) a 8 ((gI (cRem S rl k j) a 8) - 1), rfl, (congrArg (fun z => pI (cRem S rl k z) a 8 (gI S a 8 - 1)) (show j = 5 by omega)), by rw [ht]; exact hP, va_K.moved hW.alike hK, hD⟩, hS.F ht⟩) hS.2.2 dX3_removeRule_44
  · replace c_1 : ¬ (5 ≤ j) := fun h9 => c_1 ((nI_leI (a := 5) (b := j) (by omega) (by omega)).mpr h9)
    refine lv_aload_n hx hb dX3_removeRule_15 rfl (lv_at hl 2 rfl) ?_
    refine kx_gets hx hb htT m_u_X3 hown hK hP ho (Nat.le_of_ble_eq_true rfl) rfl 5 (by decide) (by decide) rfl hq5 (htT _ m_fl_X3_17) dX3_removeRule_16 ?_
    refine lv_iload_n hx hb dX3_removeRule_19 rfl (lv_at hl 0 rfl) ?_
    refine lv_aload_n hx hb dX3_removeRule_20 rfl (lv_at hl 2 rfl) ?_
    refine lv_iload_n hx hb dX3_removeRule_21 rfl (lv_at hl 0 rfl) ?_
    refine lv_iconst (v := 1) hx hb dX3_removeRule_22 (by decide) ?_
    refine lv_iadd hx hb dX3_removeRule_23 ?_
    rw [show ((nI j) + 1 : Int32) = nI (j + 1) from nI_add j 1]
    refine kc_q (va_runV (As := [.int (nI (j + 1))]) (rest := [.int (nI j), .ref rl]) ⟨hx, hb, hml, hown, htT⟩ (c_ruleAt l D cA _ (cRem S rl k j) a ho rl hq5 hrl (nI (j + 1))) (cwV 1 htT (kg_V m_ml_X3_77 m_im_X3_ruleAt m_sl_X3_ruleAt m_in_X3 m_cd_X3_ruleAt) rfl rfl rfl (by decide +kernel) ⟨Nat.le_of_ble_eq_true rfl, Nat.le_of_ble_eq_true rfl⟩) (kp_V hK hP hD hTB (kp_rc hK hP ho (Nat.le_of_ble_eq_true rfl) rfl)) rfl rfl hl.1 rfl (lv_room (Nat.le_of_ble_eq_true rfl)) dX3_removeRule_24 ⟨Nat.le_of_ble_eq_true rfl, Nat.le_of_ble_eq_true rfl⟩) hD hS hA (fun r_2 x_2 H locs hq_2 hP hD hS => ?_)
    rw [hq_2.1.trans (cRem_r (S := S) (rl := rl) (k := k) (j := j) (by omega))]
    rw [hq_2.2] at hP hD
    rcases hru9 : (if j + 1 < 5 then gP S rl (j + 1) else none) with _ | y_9
    · refine kx_astrN hx hb hK hP hD hS hrl (show vp_in (nI (j)) 5 from ki_in (by omega) (by decide)) dX3_removeRule_27 (fun H locs hP hD hS => ?_)
      rw [ki_cl (n := j) (by omega)] at hP hD
      rw [show pP (cRem S rl k j) rl j none = cRem S rl k (j + 1) from by rw [← hru9]; exact cRem_s hkj] at hP hD
      refine lv_iinc (v := nI (j + 1)) (lv' := [(2, .int (nI (j + 1))), (1, .int (nI k)), (0, .ref a)]) hx hb dX3_removeRule_28 hl (k := 0) rfl (nI_1 _) (by decide) rfl (fun ls hl => ?_)
      refine lv_goto (tgt := 6) hx hb dX3_removeRule_31 (by decide) ?_
      have hl := lv_sub hl [0, 1, 2] rfl
      exact ih_6 _ (by omega) H locs ls ⟨j + 1, rfl, by omega, by omega, hP, hD, hS, hl⟩
    · have hy9 : isO S y_9 2 := by
        by_cases h9 : j + 1 < 5
        · rw [if_pos h9] at hru9; exact hro _ h9 _ hru9
        · rw [if_neg h9] at hru9; cases hru9
      refine kx_astr hx hb hK hP hD hS hrl hy9 (show vp_in (nI (j)) 5 from ki_in (by omega) (by decide)) dX3_removeRule_27 (fun H locs hP hD hS => ?_)
      rw [ki_cl (n := j) (by omega)] at hP hD
      rw [show pP (cRem S rl k j) rl j (some y_9) = cRem S rl k (j + 1) from by rw [← hru9]; exact cRem_s hkj] at hP hD
      refine lv_iinc (v := nI (j + 1)) (lv' := [(2, .int (nI (j + 1))), (1, .int (nI k)), (0, .ref a)]) hx hb dX3_removeRule_28 hl (k := 0) rfl (nI_1 _) (by decide) rfl (fun ls hl => ?_)
      refine lv_goto (tgt := 6) hx hb dX3_removeRule_31 (by decide) ?_
      have hl := lv_sub hl [0, 1, 2] rfl
      exact ih_6 _ (by omega) H locs ls ⟨j + 1, rfl, by omega, by omega, hP, hD, hS, hl⟩

theorem kOut_sub1 {v : Int32} {k : Nat} (h : kOut v 0 (nI k - 1) = 0) (hk : k ≤ 100) : ∃ i, i < k ∧ v = nI i := by
  unfold kOut at h
  by_cases h0 : v < 0
  · rw [if_pos h0] at h; exact absurd h (by decide)
  · rw [if_neg h0] at h
    by_cases h1 : v ≤ nI k - 1
    · cases k with
      | zero => exact absurd (Int32.lt_of_le_of_lt h1 (show nI 0 - 1 < 0 by decide)) h0
      | succ k =>
        rw [show nI (k + 1) - 1 = nI k from pk_sub (a := k + 1) (b := 1) (by omega)] at h1
        rcases pk_ix v (n := k + 1) (by omega) with h2 | h2 | ⟨i, hi, rfl⟩
        · exact absurd h2 h0
        · have h3 : nI (k + 1) ≤ nI k := Int32.le_trans h2 h1
          have := (nI_leI (a := k + 1) (b := k) (by omega) (by omega)).mp h3
          omega
        · exact ⟨i, hi, rfl⟩
    · rw [if_neg h1] at h; exact absurd h (by decide)
set_option maxRecDepth 100000 in
set_option maxHeartbeats 4000000 in
/-- unrule -/
theorem c_unrule (l : Launch) (D : va_G) (cA : Nat → ClassId) (sz : Nat) (S : Pool) (x : Nat) (hx5 : isO S x 5) (ar : Nat) (hq0 : gQ S x 0 = some ar) (ak : Nat) (hq1 : gQ S x 1 = some ak) (hak : isO S ak 1) (hR : okR S ar) (j : Nat) (hj : j < 8) (a : Nat) (hja : gP S ar j = some a) (p0 : Int32) (hsw : kSw S ar p0 = some a) (k : Nat) (hk5 : k < 5) (h1 : kOut (nI k) 0 (gI S a 8 - 1) = 0) : Met l yX5_unrule (Cond.code yX5_unrule cX5_unrule 4 (some .int) :: TT) ({ frames := 2, cells := 0, slots := 0, locals := 43 }) (va_Pc [.ref x, .int p0, .int (nI k)] (kPre D cA (PW cA S) sz)) (va_Qi (fun (r_ : Int32) (x_ : Pool) => r_ = gI S a 8 - 1 ∧ x_ = pI (cRem S (rlA S a) k 5) a 8 (gI S a 8 - 1)) (fun x_ => kB D cA (va_A (PW cA S) sz) (PW cA x_)) (va_A (PW cA S) sz)) 0 0 (va_A (PW cA S) sz) := by
  refine Met.ofW (cc := cX5_unrule) (maxL := 4) (ret := (some .int)) (by decide) rfl ?_
  intro p e s m args below meth c s₁ B hml hv
  obtain ⟨rfl, hsz, hP, hK, hD0, hTB⟩ := hv
  have hx := B.exec
  have hb := B.bytes
  have hr := B.returns
  have hts := atoms_spec (ws := Cond.code yX5_unrule cX5_unrule 4 (some .int) :: TT) B.pre
  have htT : ∀ w ∈ TT, w.before _ s = true := fun w h => hts w (List.mem_cons_of_mem _ h)
  have hown : s.vm.findClass RX5 = some m.cls := findClass_of_methodNamed B.named
  have hlocks := B.notSynchronized
  subst hsz
  have hD := hD0.self (sz := s.heap.size)
  generalize hAe : va_A (PW cA S) s.heap.size = A at hD ⊢
  have hA : ∀ q : Nat, s.heap.size ≤ q → A q := fun q h => by rw [← hAe]; exact Or.inr h
  have hS : va_S A s.heap s.heap [] := va_S.rf
  have hl := lv_entry ([.ref x, .int p0, .int (nI k)]) (n := 4) (Nat.le_of_ble_eq_true rfl)
  rw [lg_entry_eq]
  generalize (lg_sl ([.ref x, .int p0, .int (nI k)]) ++ List.replicate (4 - (lg_sl ([.ref x, .int p0, .int (nI k)])).length) Slot.unset).toArray = ls at hl ⊢
  have hl : lv_has ls 4 [(0, .ref x), (1, .int p0), (2, .int (nI k))] := hl
  obtain ⟨-, -, ⟨rl, hq5, hrl, hro⟩, -⟩ := (hR.2 j hj a hja).1
  have erl : rlA S a = rl := by simp [rlA, hq5]
  refine lv_aload_n hx hb dX5_unrule_0 rfl (lv_at hl 0 rfl) ?_
  refine lv_iload_n hx hb dX5_unrule_1 rfl (lv_at hl 1 rfl) ?_
  refine kc_q (va_runV (As := [.int p0]) (rest := []) ⟨hx, hb, hml, hown, htT⟩ (c_known l D cA _ S x hx5 ar hq0 hR.1 p0 a hsw) (cwV 1 htT (kg_V m_ml_X5_45 m_im_X5_known m_sl_X5_known m_in_X5 m_cd_X5_known) rfl rfl rfl (by decide +kernel) ⟨Nat.le_of_ble_eq_true rfl, Nat.le_of_ble_eq_true rfl⟩) (kp_V hK hP hD hTB (kp_rc hK hP hx5 (Nat.le_of_ble_eq_true rfl) rfl)) rfl rfl hl.1 rfl (lv_room (Nat.le_of_ble_eq_true rfl)) dX5_unrule_2 ⟨Nat.le_of_ble_eq_true rfl, Nat.le_of_ble_eq_true rfl⟩) hD hS hA (fun r_1 x_1 H locs hq_1 hP hD hS => ?_)
  rw [hq_1.1]
  rw [hq_1.2] at hP hD
  refine lv_astore_n (lv' := [(3, .ref a), (0, .ref x), (1, .int p0), (2, .int (nI k))]) hx hb dX5_unrule_5 rfl hl (by decide) rfl (fun ls hl => ?_)
  refine lv_iload_n hx hb dX5_unrule_6 rfl (lv_at hl 3 rfl) ?_
  refine lv_iconst (v := 0) hx hb dX5_unrule_7 (by decide) ?_
  refine lv_aload_n hx hb dX5_unrule_8 rfl (lv_at hl 0 rfl) ?_
  refine kx_getiN hx hb htT m_u_X3 hown hK hP ((hR.2 j hj a hja).1.1) (Nat.le_of_ble_eq_true rfl) rfl 8 (by decide) (by decide) rfl (hTB.use m_fl_X5_107) dX5_unrule_9 ?_
  refine lv_iconst (v := 1) hx hb dX5_unrule_12 (by decide) ?_
  refine lv_isub hx hb dX5_unrule_13 ?_
  refine kc_i (va_runS (As := [.int (nI k), .int 0, .int ((gI S a 8) - 1)]) (rest := []) ⟨hx, hb, hml, hown, htT⟩ (c_isOutside l D cA _ S (nI k) 0 ((gI S a 8) - 1)) (cwS 3 htT (kg_S m_ml_X5_22 m_st_X5_isOutside m_in_X5 m_cd_X5_isOutside) rfl rfl rfl (by decide +kernel) ⟨Nat.le_of_ble_eq_true rfl, Nat.le_of_ble_eq_true rfl⟩) (kp_S hK hP hD hTB) rfl rfl hl.1 rfl (lv_room (Nat.le_of_ble_eq_true rfl)) dX5_unrule_14 ⟨Nat.le_of_ble_eq_true rfl, Nat.le_of_ble_eq_true rfl⟩) hD hS hA (fun r_2 x_2 H locs hq_2 hP hD hS => ?_)
  rw [hq_2.1.trans h1]
  rw [hq_2.2] at hP hD
  refine lv_if_eq (tgt := 30) hx hb dX5_unrule_17 (by decide) (fun _ => ?_) (fun c_3 => absurd c_3 (by decide))
  refine lv_aload_n hx hb dX5_unrule_30 rfl (lv_at hl 0 rfl) ?_
  refine lv_iload_n hx hb dX5_unrule_31 rfl (lv_at hl 3 rfl) ?_
  refine kc_v (va_runV (As := [.int (nI k)]) (rest := []) ⟨hx, hb, hml, hown, htT⟩ (c_removeRule l D cA _ S a (hR.2 j hj a hja).1.1 rl hq5 hrl hro k (by omega)) (cwV 1 htT (kg_V m_ml_X5_126 m_im_X3_removeRule m_sl_X3_removeRule m_in_X3 m_cd_X3_removeRule) rfl rfl rfl (by decide +kernel) ⟨Nat.le_of_ble_eq_true rfl, Nat.le_of_ble_eq_true rfl⟩) (kp_V hK hP hD hTB (kp_rc hK hP ((hR.2 j hj a hja).1.1) (Nat.le_of_ble_eq_true rfl) rfl)) rfl rfl hl.1 rfl (lv_room (Nat.le_of_ble_eq_true rfl)) dX5_unrule_32 ⟨Nat.le_of_ble_eq_true rfl, Nat.le_of_ble_eq_true rfl⟩) hD hS hA (fun x_4 H locs hq_4 hP hD hS => ?_)
  rw [hq_4] at hP hD
  refine lv_aload_n hx hb dX5_unrule_35 rfl (lv_at hl 0 rfl) ?_
  refine kx_getiNv hx hb htT m_u_X3 hown hK hP ((hR.2 j hj a hja).1.1) (Nat.le_of_ble_eq_true rfl) rfl 8 (by decide) (by decide) rfl (hTB.use m_fl_X5_107) u2_s dX5_unrule_36 ?_
  exact W.iret (v := gI S a 8 - 1) hx hb hr (fun t ht hW => ⟨⟨gI S a 8 - 1, pI (cRem S rl k 5) a 8 (gI S a 8 - 1), rfl, ⟨rfl, by rw [erl]⟩, by rw [ht]; exact hP, va_K.moved hW.alike hK, hD⟩, hS.F ht⟩) hS.2.2 dX5_unrule_39

set_option maxRecDepth 100000 in
set_option maxHeartbeats 4000000 in
theorem c_unrule_1 (l : Launch) (hst : l.stackTraces = false) (D : va_G) (cA : Nat → ClassId) (sz : Nat) (S : Pool) (x : Nat) (hx5 : isO S x 5) (ar : Nat) (hq0 : gQ S x 0 = some ar) (ak : Nat) (hq1 : gQ S x 1 = some ak) (hak : isO S ak 1) (hR : okR S ar) (j : Nat) (hj : j < 8) (a : Nat) (hja : gP S ar j = some a) (p0 : Int32) (hsw : kSw S ar p0 = some a) (p1 : Int32) (h1 : kOut p1 0 (gI S a 8 - 1) = 1) : vx_Met l yX5_unrule (Cond.code yX5_unrule cX5_unrule 4 (some .int) :: TT) ({ frames := 6, cells := 1, slots := 6, locals := 82 }) (va_Pc [.ref x, .int p0, .int p1] (kPreX D cA (PW cA S) sz)) kNo (kXC D cA (PW cA S) "java/lang/IndexOutOfBoundsException" (va_A (PW cA S) sz)) 1 6 (va_A (PW cA S) sz) := by
  refine vx_ofW (cc := cX5_unrule) (maxL := 4) (ret := (some .int)) (by decide) rfl ?_
  intro p e s m args below meth c s₁ B hml hTab hv
  obtain ⟨rfl, ⟨hsz, hP, hK, hD0, hTB⟩, hTX⟩ := hv
  have hx := B.exec
  have hb := B.bytes
  have hr := B.returns
  have hts := atoms_spec (ws := Cond.code yX5_unrule cX5_unrule 4 (some .int) :: TT) B.pre
  have htT : ∀ w ∈ TT, w.before _ s = true := fun w h => hts w (List.mem_cons_of_mem _ h)
  have hown : s.vm.findClass RX5 = some m.cls := findClass_of_methodNamed B.named
  have hlocks := B.notSynchronized
  subst hsz
  have hD := hD0.self (sz := s.heap.size)
  generalize hAe : va_A (PW cA S) s.heap.size = A at hD hTX ⊢
  have hA : ∀ q : Nat, s.heap.size ≤ q → A q := fun q h => by rw [← hAe]; exact Or.inr h
  have hS : va_S A s.heap s.heap [] := va_S.rf
  have hl := lv_entry ([.ref x, .int p0, .int p1]) (n := 4) (Nat.le_of_ble_eq_true rfl)
  rw [lg_entry_eq]
  generalize (lg_sl ([.ref x, .int p0, .int p1]) ++ List.replicate (4 - (lg_sl ([.ref x, .int p0, .int p1])).length) Slot.unset).toArray = ls at hl ⊢
  have hl : lv_has ls 4 [(0, .ref x), (1, .int p0), (2, .int p1)] := hl
  refine lv_aload_n hx hb dX5_unrule_0 rfl (lv_at hl 0 rfl) ?_
  refine lv_iload_n hx hb dX5_unrule_1 rfl (lv_at hl 1 rfl) ?_
  refine kc_q (va_runV (As := [.int p0]) (rest := []) ⟨hx, hb, hml, hown, htT⟩ (c_known l D cA _ S x hx5 ar hq0 hR.1 p0 a hsw) (cwV 1 htT (kg_V m_ml_X5_45 m_im_X5_known m_sl_X5_known m_in_X5 m_cd_X5_known) rfl rfl rfl (by decide +kernel) ⟨Nat.le_of_ble_eq_true rfl, Nat.le_of_ble_eq_true rfl⟩) (kp_V hK hP hD hTB (kp_rc hK hP hx5 (Nat.le_of_ble_eq_true rfl) rfl)) rfl rfl hl.1 rfl (lv_room (Nat.le_of_ble_eq_true rfl)) dX5_unrule_2 ⟨Nat.le_of_ble_eq_true rfl, Nat.le_of_ble_eq_true rfl⟩) hD hS hA (fun r_1 x_1 H locs hq_1 hP hD hS => ?_)
  rw [hq_1.1]
  rw [hq_1.2] at hP hD
  refine lv_astore_n (lv' := [(3, .ref a), (0, .ref x), (1, .int p0), (2, .int p1)]) hx hb dX5_unrule_5 rfl hl (by decide) rfl (fun ls hl => ?_)
  refine lv_iload_n hx hb dX5_unrule_6 rfl (lv_at hl 3 rfl) ?_
  refine lv_iconst (v := 0) hx hb dX5_unrule_7 (by decide) ?_
  refine lv_aload_n hx hb dX5_unrule_8 rfl (lv_at hl 0 rfl) ?_
  refine kx_getiN hx hb htT m_u_X3 hown hK hP ((hR.2 j hj a hja).1.1) (Nat.le_of_ble_eq_true rfl) rfl 8 (by decide) (by decide) rfl (hTB.use m_fl_X5_107) dX5_unrule_9 ?_
  refine lv_iconst (v := 1) hx hb dX5_unrule_12 (by decide) ?_
  refine lv_isub hx hb dX5_unrule_13 ?_
  refine kc_i (va_runS (As := [.int p1, .int 0, .int ((gI S a 8) - 1)]) (rest := []) ⟨hx, hb, hml, hown, htT⟩ (c_isOutside l D cA _ S p1 0 ((gI S a 8) - 1)) (cwS 3 htT (kg_S m_ml_X5_22 m_st_X5_isOutside m_in_X5 m_cd_X5_isOutside) rfl rfl rfl (by decide +kernel) ⟨Nat.le_of_ble_eq_true rfl, Nat.le_of_ble_eq_true rfl⟩) (kp_S hK hP hD hTB) rfl rfl hl.1 rfl (lv_room (Nat.le_of_ble_eq_true rfl)) dX5_unrule_14 ⟨Nat.le_of_ble_eq_true rfl, Nat.le_of_ble_eq_true rfl⟩) hD hS hA (fun r_2 x_2 H locs hq_2 hP hD hS => ?_)
  rw [hq_2.1.trans h1]
  rw [hq_2.2] at hP hD
  refine lv_if_eq (tgt := 30) hx hb dX5_unrule_17 (by decide) (fun c_3 => absurd c_3 (by decide)) (fun _ => ?_)
  exact kt_new (text := "no such rule") hx hb hst hown (Or.inr (Or.inr rfl)) (htT _ m_cl_X5_121) (htT _ m_in_IndexOutOfBoundsException) (by decide +kernel) (fun w h => htT w (at_IOE w h)) an_IOE (ag_IOE 121) hTB hTX hK hP hD hS (hl.1.trans hml.symm) dX5_unrule_20 dX5_unrule_23 dX5_unrule_24 dX5_unrule_26 dX5_unrule_29 hTab (Nat.le_of_ble_eq_true rfl) (Nat.le_of_ble_eq_true rfl) (Nat.le_of_ble_eq_true rfl) (Nat.le_of_ble_eq_true rfl) hlocks (Nat.le_of_ble_eq_true rfl) (Nat.le_of_ble_eq_true rfl)

