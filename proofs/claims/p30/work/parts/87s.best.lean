/-! the best: both sides -/
/-- is the mean of one above that of another -/
def kAbv (sm ct : Int32 → Int32) (v f : Int32) : Bool := decide (0 < Op.cmpValue (FP.dcmp (kMean (sm v) (ct v)) (kMean (sm f) (ct f))) CmpOp.l)
def kBest (sm ct : Int32 → Int32) : Nat → Nat → Int32 → Int32
  | 0, _, f => f
  | c + 1, k, f => if 0 < ct (nI k) then (if f = -1 then kBest sm ct c (k + 1) (nI k) else if kAbv sm ct (nI k) f = true then kBest sm ct c (k + 1) (nI k) else kBest sm ct c (k + 1) f) else kBest sm ct c (k + 1) f
theorem abv_iff {sm ct : Int32 → Int32} {v f : Int32} {x y : UInt64} (h1 : dMean (sm v) (ct v) x) (h2 : dMean (sm f) (ct f) y) : kAbv sm ct v f = decide (0 < Op.cmpValue (FP.dcmp x y) CmpOp.l) := by
  unfold kAbv
  rw [dcmp_alike (mean_alike h1) (mean_alike h2)]
theorem abv_y {sm ct : Int32 → Int32} {v f : Int32} {x y : UInt64} (h1 : dMean (sm v) (ct v) x) (h2 : dMean (sm f) (ct f) y) (h : 0 < Op.cmpValue (FP.dcmp x y) CmpOp.l) : kAbv sm ct v f = true := by rw [abv_iff h1 h2]; exact decide_eq_true h
theorem abv_n {sm ct : Int32 → Int32} {v f : Int32} {x y : UInt64} (h1 : dMean (sm v) (ct v) x) (h2 : dMean (sm f) (ct f) y) (h : ¬ 0 < Op.cmpValue (FP.dcmp x y) CmpOp.l) : kAbv sm ct v f = false := by rw [abv_iff h1 h2]; exact decide_eq_false h
set_option maxRecDepth 100000 in
set_option maxHeartbeats 4000000 in
/-- bestVariant -/
theorem c_bestVariantX (l : Launch) (D : va_G) (cA : Nat → ClassId) (sz : Nat) (S : Pool) (ty : Nat) (hty : isO S ty 4) (t0 : Nat) (hq0 : gQ S ty 0 = some t0) (ht0 : isA S t0 10 4) (t2 : Nat) (hq2 : gQ S ty 2 = some t2) (ht2 : isA S t2 12 4)  : MetD lw_cs l yX4_bestVariant (Cond.code yX4_bestVariant cX4_bestVariant 3 (some .int) :: TT) ({ frames := 3, cells := 0, slots := 0, locals := 63 }) (va_Pc [.ref ty] (kPre D cA (PW cA S) sz)) (va_Qi (fun (r_ : Int32) (x_ : Pool) => r_ = kBest (cTal S t2) (cTal S t0) 4 0 (-1) ∧ x_ = S) (fun x_ => kB D cA (va_A (PW cA S) sz) (PW cA x_)) (va_A (PW cA S) sz)) 0 0 (va_A (PW cA S) sz) := by
  refine MetD.ofW (cc := cX4_bestVariant) (maxL := 3) (ret := (some .int)) (by decide) rfl ?_
  intro p e s m args below meth c s₁ B hml hv hd0
  obtain ⟨rfl, hsz, hP, hK, hD0, hTB⟩ := hv
  have hx := B.exec
  have hb := B.bytes
  have hr := B.returns
  have hts := atoms_spec (ws := Cond.code yX4_bestVariant cX4_bestVariant 3 (some .int) :: TT) B.pre
  have htT : ∀ w ∈ TT, w.before _ s = true := fun w h => hts w (List.mem_cons_of_mem _ h)
  have hown : s.vm.findClass RX4 = some m.cls := findClass_of_methodNamed B.named
  have hlocks := B.notSynchronized
  subst hsz
  have hD := hD0.self (sz := s.heap.size)
  generalize hAe : va_A (PW cA S) s.heap.size = A at hD ⊢
  have hA : ∀ q : Nat, s.heap.size ≤ q → A q := fun q h => by rw [← hAe]; exact Or.inr h
  have hS : va_S A s.heap s.heap [] := va_S.rf
  have hl := lv_entry ([.ref ty]) (n := 3) (Nat.le_of_ble_eq_true rfl)
  rw [lg_entry_eq]
  generalize (lg_sl ([.ref ty]) ++ List.replicate (3 - (lg_sl ([.ref ty])).length) Slot.unset).toArray = ls at hl ⊢
  have hl : lv_has ls 3 [(0, .ref ty)] := hl
  have htT0 := htT
  have hTB0 := hTB
  have hK0 := hK
  have hown0 := hown
  have htT : ∀ w ∈ TT, w.before _ (s.setDrawn s.drawn) = true := dr_words htT0 s.drawn
  have hTB : TBok (s.setDrawn s.drawn) := TBok.same (u := s) (U := s.setDrawn s.drawn) rfl (Vm.Alike.refl s.vm) hTB0
  have hK : va_K D vwCl (ty6 cA) (s.setDrawn s.drawn) := hK0
  have hown : (s.setDrawn s.drawn).vm.findClass RX4 = some m.cls := hown0
  refine lv_iconst (v := (-1)) hx hb dX4_bestVariant_0 (by decide) ?_
  refine lv_istore_n (lv' := [(1, .int (-1)), (0, .ref ty)]) hx hb dX4_bestVariant_1 rfl hl (by decide) rfl (fun ls hl => ?_)
  refine lv_iconst (v := 0) hx hb dX4_bestVariant_2 (by decide) ?_
  refine lv_istore_n (lv' := [(2, .int 0), (1, .int (-1)), (0, .ref ty)]) hx hb dX4_bestVariant_3 rfl hl (by decide) rfl (fun ls hl => ?_)
  refine kz_loopD 4 (fun N9 H locs ls => ∃ (j : Nat) (fd : Int32), N9 = 4 - j ∧ j ≤ 4 ∧ kBest (cTal S t2) (cTal S t0) 4 0 (-1) = kBest (cTal S t2) (cTal S t0) (4 - j) j fd ∧ va_P D vwCl (PW cA S) H ∧ va_D A (PW cA S) ∧ va_S A s.heap H locs ∧ lv_has ls 3 [(2, .int (nI j)), (1, .int fd), (0, .ref ty)]) (fun N9 ih_4 H locs ls e_4 hd0 hI => ?_) hd0 ⟨0, (-1), rfl, by omega, rfl, hP, hD, hS, lv_sub hl [0, 1, 2] rfl⟩
  obtain ⟨j, fd, hn9, hj, hF, hP, hD, hS, hl⟩ := hI
  have htT : ∀ w ∈ TT, w.before _ (s.setDrawn e_4) = true := dr_words htT0 e_4
  have hTB : TBok (s.setDrawn e_4) := TBok.same (u := s) (U := s.setDrawn e_4) rfl (Vm.Alike.refl s.vm) hTB0
  have hK : va_K D vwCl (ty6 cA) (s.setDrawn e_4) := hK0
  have hown : (s.setDrawn e_4).vm.findClass RX4 = some m.cls := hown0
  refine lv_iload_n hx hb dX4_bestVariant_4 rfl (lv_at hl 0 rfl) ?_
  refine lv_iconst (v := 4) hx hb dX4_bestVariant_5 (by decide) ?_
  refine lv_icmp_ge (tgt := 44) hx hb dX4_bestVariant_6 (by decide) (fun c_1 => ?_) (fun c_1 => ?_)
  · replace c_1 := (nI_leI (a := 4) (b := j) (by omega) (by omega)).mp c_1
    refine lv_iload_n hx hb dX4_bestVariant_44 rfl (lv_at hl 1 rfl) ?_
    refine W.endD hd0 ?_
    exact W.iret (v := fd) hx hb hr (fun t ht hW => ⟨⟨fd, S, rfl, ⟨by rw [hF, show 4 - j = 0 by omega]; rfl, rfl⟩, by rw [ht]; exact hP, va_K.moved hW.alike hK, hD⟩, hS.F ht⟩) hS.2.2 dX4_bestVariant_45
  · replace c_1 : ¬ (4 ≤ j) := fun h9 => c_1 ((nI_leI (a := 4) (b := j) (by omega) (by omega)).mpr h9)
    refine lv_aload_n hx hb dX4_bestVariant_9 rfl (lv_at hl 2 rfl) ?_
    refine lv_iload_n hx hb dX4_bestVariant_10 rfl (lv_at hl 0 rfl) ?_
    refine kc_i (va_runV (As := [.int (nI j)]) (rest := []) ⟨hx, hb, hml, hown, htT⟩ (c_countOf l D cA _ S ty hty t0 hq0 ht0 (nI j)) (cwV 1 htT (kg_V m_ml_X4_33 m_im_X4_countOf m_sl_X4_countOf m_in_X4 m_cd_X4_countOf) rfl rfl rfl (by decide +kernel) ⟨Nat.le_of_ble_eq_true rfl, Nat.le_of_ble_eq_true rfl⟩) (kp_V hK hP hD hTB (kp_rc hK hP hty (Nat.le_of_ble_eq_true rfl) rfl)) rfl rfl hl.1 rfl (lv_room (Nat.le_of_ble_eq_true rfl)) dX4_bestVariant_11 ⟨Nat.le_of_ble_eq_true rfl, Nat.le_of_ble_eq_true rfl⟩) hD hS hA (fun r_2 x_2 H locs hq_2 hP hD hS => ?_)
    rw [hq_2.1]
    rw [hq_2.2] at hP hD
    refine lv_if_le (tgt := 38) hx hb dX4_bestVariant_14 (by decide) (fun c_3 => ?_) (fun c_3 => ?_)
    · replace c_3 := Int32.not_lt.mpr c_3
      refine lv_iinc (v := nI (j + 1)) (lv' := [(2, .int (nI (j + 1))), (1, .int fd), (0, .ref ty)]) hx hb dX4_bestVariant_38 hl (k := 0) rfl (nI_1 _) (by decide) rfl (fun ls hl => ?_)
      refine lv_goto (tgt := 4) hx hb dX4_bestVariant_41 (by decide) ?_
      have hl := lv_sub hl [0, 1, 2] rfl
      exact ih_4 _ (by omega) H locs ls e_4 hd0 ⟨j + 1, _, rfl, by omega, by rw [hF, show 4 - j = (4 - (j + 1)) + 1 by omega]; simp [kBest, c_3], hP, hD, hS, hl⟩
    · replace c_3 := Int32.not_le.mp c_3
      refine lv_iload_n hx hb dX4_bestVariant_17 rfl (lv_at hl 1 rfl) ?_
      refine lv_iconst (v := (-1)) hx hb dX4_bestVariant_18 (by decide) ?_
      refine lv_icmp_eq (tgt := 36) hx hb dX4_bestVariant_19 (by decide) (fun c_4 => ?_) (fun c_4 => ?_)
      · refine lv_iload_n hx hb dX4_bestVariant_36 rfl (lv_at hl 0 rfl) ?_
        refine lv_istore_n (lv' := [(1, .int (nI j)), (2, .int (nI j)), (0, .ref ty)]) hx hb dX4_bestVariant_37 rfl hl (by decide) rfl (fun ls hl => ?_)
        refine lv_iinc (v := nI (j + 1)) (lv' := [(2, .int (nI (j + 1))), (1, .int (nI j)), (0, .ref ty)]) hx hb dX4_bestVariant_38 hl (k := 1) rfl (nI_1 _) (by decide) rfl (fun ls hl => ?_)
        refine lv_goto (tgt := 4) hx hb dX4_bestVariant_41 (by decide) ?_
        have hl := lv_sub hl [0, 1, 2] rfl
        exact ih_4 _ (by omega) H locs ls e_4 hd0 ⟨j + 1, _, rfl, by omega, by rw [hF, show 4 - j = (4 - (j + 1)) + 1 by omega]; simp [kBest, c_3, c_4], hP, hD, hS, hl⟩
      · refine lv_aload_n hx hb dX4_bestVariant_22 rfl (lv_at hl 2 rfl) ?_
        refine lv_iload_n hx hb dX4_bestVariant_23 rfl (lv_at hl 0 rfl) ?_
        refine kcD_d hd0 (va_runV_D (As := [.int (nI j)]) (rest := []) ⟨hx, hb, hml, hown, htT⟩ (c_meanOf l D cA _ S ty hty t0 hq0 ht0 t2 hq2 ht2 (nI j)) (cwV 1 htT (kg_V m_ml_X4_40 m_im_X4_meanOf m_sl_X4_meanOf m_in_X4 m_cd_X4_meanOf) rfl rfl rfl (by decide +kernel) ⟨Nat.le_of_ble_eq_true rfl, Nat.le_of_ble_eq_true rfl⟩) (kp_V hK hP hD hTB (kp_rc hK hP hty (Nat.le_of_ble_eq_true rfl) rfl)) rfl rfl hl.1 rfl (lv_room (Nat.le_of_ble_eq_true rfl)) dX4_bestVariant_24 ⟨Nat.le_of_ble_eq_true rfl, Nat.le_of_ble_eq_true rfl⟩) hD hS hA (fun r_5 x_5 H locs hq_5 hP hD hS d_5 hd0 => ?_)
        have htT : ∀ w ∈ TT, w.before _ (s.setDrawn d_5) = true := dr_words htT0 d_5
        have hTB : TBok (s.setDrawn d_5) := TBok.same (u := s) (U := s.setDrawn d_5) rfl (Vm.Alike.refl s.vm) hTB0
        have hK : va_K D vwCl (ty6 cA) (s.setDrawn d_5) := hK0
        have hown : (s.setDrawn d_5).vm.findClass RX4 = some m.cls := hown0
        rw [hq_5.2] at hP hD
        refine lv_aload_n hx hb dX4_bestVariant_27 rfl (lv_at hl 2 rfl) ?_
        refine lv_iload_n hx hb dX4_bestVariant_28 rfl (lv_at hl 1 rfl) ?_
        refine kcD_d hd0 (va_runV_D (As := [.int fd]) (rest := [.double r_5]) ⟨hx, hb, hml, hown, htT⟩ (c_meanOf l D cA _ S ty hty t0 hq0 ht0 t2 hq2 ht2 fd) (cwV 1 htT (kg_V m_ml_X4_40 m_im_X4_meanOf m_sl_X4_meanOf m_in_X4 m_cd_X4_meanOf) rfl rfl rfl (by decide +kernel) ⟨Nat.le_of_ble_eq_true rfl, Nat.le_of_ble_eq_true rfl⟩) (kp_V hK hP hD hTB (kp_rc hK hP hty (Nat.le_of_ble_eq_true rfl) rfl)) rfl rfl hl.1 rfl (lv_room (Nat.le_of_ble_eq_true rfl)) dX4_bestVariant_29 ⟨Nat.le_of_ble_eq_true rfl, Nat.le_of_ble_eq_true rfl⟩) hD hS hA (fun r_6 x_6 H locs hq_6 hP hD hS d_6 hd0 => ?_)
        have htT : ∀ w ∈ TT, w.before _ (s.setDrawn d_6) = true := dr_words htT0 d_6
        have hTB : TBok (s.setDrawn d_6) := TBok.same (u := s) (U := s.setDrawn d_6) rfl (Vm.Alike.refl s.vm) hTB0
        have hK : va_K D vwCl (ty6 cA) (s.setDrawn d_6) := hK0
        have hown : (s.setDrawn d_6).vm.findClass RX4 = some m.cls := hown0
        rw [hq_6.2] at hP hD
        refine lv_dcmp hx hb dX4_bestVariant_32 ?_
        refine lv_if_le (tgt := 38) hx hb dX4_bestVariant_33 (by decide) (fun c_8 => ?_) (fun c_8 => ?_)
        · replace c_8 := Int32.not_lt.mpr c_8
          refine lv_iinc (v := nI (j + 1)) (lv' := [(2, .int (nI (j + 1))), (1, .int fd), (0, .ref ty)]) hx hb dX4_bestVariant_38 hl (k := 0) rfl (nI_1 _) (by decide) rfl (fun ls hl => ?_)
          refine lv_goto (tgt := 4) hx hb dX4_bestVariant_41 (by decide) ?_
          have hl := lv_sub hl [0, 1, 2] rfl
          have hab : kAbv (cTal S t2) (cTal S t0) (nI j) fd = false := abv_n hq_5.1 hq_6.1 c_8
          exact ih_4 _ (by omega) H locs ls d_6 hd0 ⟨j + 1, _, rfl, by omega, by rw [hF, show 4 - j = (4 - (j + 1)) + 1 by omega]; simp [kBest, c_3, c_4, hab], hP, hD, hS, hl⟩
        · replace c_8 := Int32.not_le.mp c_8
          refine lv_iload_n hx hb dX4_bestVariant_36 rfl (lv_at hl 0 rfl) ?_
          refine lv_istore_n (lv' := [(1, .int (nI j)), (2, .int (nI j)), (0, .ref ty)]) hx hb dX4_bestVariant_37 rfl hl (by decide) rfl (fun ls hl => ?_)
          refine lv_iinc (v := nI (j + 1)) (lv' := [(2, .int (nI (j + 1))), (1, .int (nI j)), (0, .ref ty)]) hx hb dX4_bestVariant_38 hl (k := 1) rfl (nI_1 _) (by decide) rfl (fun ls hl => ?_)
          refine lv_goto (tgt := 4) hx hb dX4_bestVariant_41 (by decide) ?_
          have hl := lv_sub hl [0, 1, 2] rfl
          have hab : kAbv (cTal S t2) (cTal S t0) (nI j) fd = true := abv_y hq_5.1 hq_6.1 c_8
          exact ih_4 _ (by omega) H locs ls d_6 hd0 ⟨j + 1, _, rfl, by omega, by rw [hF, show 4 - j = (4 - (j + 1)) + 1 by omega]; simp [kBest, c_3, c_4, hab], hP, hD, hS, hl⟩

def cBest (S : Pool) (a : Nat) : Int32 := kBest (cTal S (tkA S a 2)) (cTal S (tkA S a 0)) 4 0 (-1)
set_option maxRecDepth 100000 in
set_option maxHeartbeats 4000000 in
/-- best -/
theorem c_bestX (l : Launch) (D : va_G) (cA : Nat → ClassId) (sz : Nat) (S : Pool) (x : Nat) (hx5 : isO S x 5) (ar : Nat) (hq0 : gQ S x 0 = some ar) (ak : Nat) (hq1 : gQ S x 1 = some ak) (hak : isO S ak 1) (hR : okR S ar) (j : Nat) (hj : j < 8) (a : Nat) (hja : gP S ar j = some a) (p0 : Int32) (hsw : kSw S ar p0 = some a)  : MetD lw_cs l yX5_best (Cond.code yX5_best cX5_best 2 (some .int) :: TT) ({ frames := 4, cells := 0, slots := 0, locals := 85 }) (va_Pc [.ref x, .int p0] (kPre D cA (PW cA S) sz)) (va_Qi (fun (r_ : Int32) (x_ : Pool) => r_ = cBest S a ∧ x_ = S) (fun x_ => kB D cA (va_A (PW cA S) sz) (PW cA x_)) (va_A (PW cA S) sz)) 0 0 (va_A (PW cA S) sz) := by
  refine MetD.ofW (cc := cX5_best) (maxL := 2) (ret := (some .int)) (by decide) rfl ?_
  intro p e s m args below meth c s₁ B hml hv hd0
  obtain ⟨rfl, hsz, hP, hK, hD0, hTB⟩ := hv
  have hx := B.exec
  have hb := B.bytes
  have hr := B.returns
  have hts := atoms_spec (ws := Cond.code yX5_best cX5_best 2 (some .int) :: TT) B.pre
  have htT : ∀ w ∈ TT, w.before _ s = true := fun w h => hts w (List.mem_cons_of_mem _ h)
  have hown : s.vm.findClass RX5 = some m.cls := findClass_of_methodNamed B.named
  have hlocks := B.notSynchronized
  subst hsz
  have hD := hD0.self (sz := s.heap.size)
  generalize hAe : va_A (PW cA S) s.heap.size = A at hD ⊢
  have hA : ∀ q : Nat, s.heap.size ≤ q → A q := fun q h => by rw [← hAe]; exact Or.inr h
  have hS : va_S A s.heap s.heap [] := va_S.rf
  have hl := lv_entry ([.ref x, .int p0]) (n := 2) (Nat.le_of_ble_eq_true rfl)
  rw [lg_entry_eq]
  generalize (lg_sl ([.ref x, .int p0]) ++ List.replicate (2 - (lg_sl ([.ref x, .int p0])).length) Slot.unset).toArray = ls at hl ⊢
  have hl : lv_has ls 2 [(0, .ref x), (1, .int p0)] := hl
  have htT0 := htT
  have hTB0 := hTB
  have hK0 := hK
  have hown0 := hown
  have htT : ∀ w ∈ TT, w.before _ (s.setDrawn s.drawn) = true := dr_words htT0 s.drawn
  have hTB : TBok (s.setDrawn s.drawn) := TBok.same (u := s) (U := s.setDrawn s.drawn) rfl (Vm.Alike.refl s.vm) hTB0
  have hK : va_K D vwCl (ty6 cA) (s.setDrawn s.drawn) := hK0
  have hown : (s.setDrawn s.drawn).vm.findClass RX5 = some m.cls := hown0
  obtain ⟨-, ⟨wt, hq4, hwt⟩, -, -, ⟨ty, hq6, hty, ⟨t0, hqt0, ht0⟩, ⟨t1, hqt1, ht1⟩, ⟨t2, hqt2, ht2⟩, ⟨t3, hqt3, ht3⟩⟩, -⟩ := (hR.2 j hj a hja).1
  have e0k : tkA S a 0 = t0 := by simp [tkA, tyA, hq6, hqt0]
  have e1k : tkA S a 1 = t1 := by simp [tkA, tyA, hq6, hqt1]
  have e2k : tkA S a 2 = t2 := by simp [tkA, tyA, hq6, hqt2]
  have e3k : tkA S a 3 = t3 := by simp [tkA, tyA, hq6, hqt3]
  have ewk : wtA S a = wt := by simp [wtA, hq4]
  have eyk : tyA S a = ty := by simp [tyA, hq6]
  refine lv_aload_n hx hb dX5_best_0 rfl (lv_at hl 0 rfl) ?_
  refine lv_iload_n hx hb dX5_best_1 rfl (lv_at hl 1 rfl) ?_
  refine kc_q (va_runV (As := [.int p0]) (rest := []) ⟨hx, hb, hml, hown, htT⟩ (c_known l D cA _ S x hx5 ar hq0 hR.1 p0 a hsw) (cwV 1 htT (kg_V m_ml_X5_45 m_im_X5_known m_sl_X5_known m_in_X5 m_cd_X5_known) rfl rfl rfl (by decide +kernel) ⟨Nat.le_of_ble_eq_true rfl, Nat.le_of_ble_eq_true rfl⟩) (kp_V hK hP hD hTB (kp_rc hK hP hx5 (Nat.le_of_ble_eq_true rfl) rfl)) rfl rfl hl.1 rfl (lv_room (Nat.le_of_ble_eq_true rfl)) dX5_best_2 ⟨Nat.le_of_ble_eq_true rfl, Nat.le_of_ble_eq_true rfl⟩) hD hS hA (fun r_1 x_1 H locs hq_1 hP hD hS => ?_)
  rw [hq_1.1]
  rw [hq_1.2] at hP hD
  refine kx_getsN hx hb htT m_u_X3 hown hK hP ((hR.2 j hj a hja).1.1) (Nat.le_of_ble_eq_true rfl) rfl 6 (by decide) (by decide) rfl hq6 (hTB.use m_fl_X5_188) dX5_best_5 ?_
  refine kcD_i hd0 (va_runV_D (As := []) (rest := []) ⟨hx, hb, hml, hown, htT⟩ (c_bestVariantX l D cA _ S ty hty t0 hqt0 ht0 t2 hqt2 ht2 ) (cwV 0 htT (kg_V m_ml_X5_227 m_im_X4_bestVariant m_sl_X4_bestVariant m_in_X4 m_cd_X4_bestVariant) rfl rfl rfl (by decide +kernel) ⟨Nat.le_of_ble_eq_true rfl, Nat.le_of_ble_eq_true rfl⟩) (kp_V hK hP hD hTB (kp_rc hK hP hty (Nat.le_of_ble_eq_true rfl) rfl)) rfl rfl hl.1 rfl (lv_room (Nat.le_of_ble_eq_true rfl)) dX5_best_8 ⟨Nat.le_of_ble_eq_true rfl, Nat.le_of_ble_eq_true rfl⟩) hD hS hA (fun r_2 x_2 H locs hq_2 hP hD hS d_2 hd0 => ?_)
  have htT : ∀ w ∈ TT, w.before _ (s.setDrawn d_2) = true := dr_words htT0 d_2
  have hTB : TBok (s.setDrawn d_2) := TBok.same (u := s) (U := s.setDrawn d_2) rfl (Vm.Alike.refl s.vm) hTB0
  have hK : va_K D vwCl (ty6 cA) (s.setDrawn d_2) := hK0
  have hown : (s.setDrawn d_2).vm.findClass RX5 = some m.cls := hown0
  rw [hq_2.2] at hP hD
  refine W.endD hd0 ?_
  exact W.iret (v := r_2) hx hb hr (fun t ht hW => ⟨⟨r_2, S, rfl, ⟨by unfold cBest; rw [e0k, e2k]; exact hq_2.1, rfl⟩, by rw [ht]; exact hP, va_K.moved hW.alike hK, hD⟩, hS.F ht⟩) hS.2.2 dX5_best_11

set_option maxRecDepth 100000 in
set_option maxHeartbeats 4000000 in
/-- bestNow -/
theorem m_bestNow (l : Launch) (D : va_G) (cA : Nat → ClassId) (sz : Nat) (am : Nat) (r : Nat → Nat) (M : MSt) (n na : Nat) (hI : INVR n na M) (i : Nat) (hi : i < n) (vc : Nat) (hvc : vc ≤ 4) (evc : M.2 5 i = nI vc) : MetD lw_cs l yX6_bestNow (Cond.code yX6_bestNow cX6_bestNow 4 (some .int) :: TT) ({ frames := 2, cells := 0, slots := 0, locals := 48 }) (va_Pc [.ref am, .int (nI i)] (kPre D cA (wM cA am r M) sz)) (va_Qi (fun (r_ : Int32) (x_ : MSt) => r_ = kBest (fun v => rTold M.2 (nI i) v 2 na 0 0) (fun v => rTold M.2 (nI i) v 0 na 0 0) vc 0 (-1) ∧ x_ = M) (fun x_ => kB D cA (va_A (wM cA am r M) sz) (wM cA am r x_)) (va_A (wM cA am r M) sz)) 0 0 (va_A (wM cA am r M) sz) := by
  refine MetD.ofW (cc := cX6_bestNow) (maxL := 4) (ret := (some .int)) (by decide) rfl ?_
  intro p e s m args below meth c s₁ B hml hv hd0
  obtain ⟨rfl, hsz, hP, hK, hD0, hTB⟩ := hv
  have hx := B.exec
  have hb := B.bytes
  have hr := B.returns
  have hts := atoms_spec (ws := Cond.code yX6_bestNow cX6_bestNow 4 (some .int) :: TT) B.pre
  have htT : ∀ w ∈ TT, w.before _ s = true := fun w h => hts w (List.mem_cons_of_mem _ h)
  have hown : s.vm.findClass RX6 = some m.cls := findClass_of_methodNamed B.named
  have hlocks := B.notSynchronized
  subst hsz
  have hD := hD0.self (sz := s.heap.size)
  generalize hAe : va_A (wM cA am r M) s.heap.size = A at hD ⊢
  have hA : ∀ q : Nat, s.heap.size ≤ q → A q := fun q h => by rw [← hAe]; exact Or.inr h
  have hS : va_S A s.heap s.heap [] := va_S.rf
  have hl := lv_entry ([.ref am, .int (nI i)]) (n := 4) (Nat.le_of_ble_eq_true rfl)
  rw [lg_entry_eq]
  generalize (lg_sl ([.ref am, .int (nI i)]) ++ List.replicate (4 - (lg_sl ([.ref am, .int (nI i)])).length) Slot.unset).toArray = ls at hl ⊢
  have hl : lv_has ls 4 [(0, .ref am), (1, .int (nI i))] := hl
  have htT0 := htT
  have hTB0 := hTB
  have hK0 := hK
  have hown0 := hown
  have htT : ∀ w ∈ TT, w.before _ (s.setDrawn s.drawn) = true := dr_words htT0 s.drawn
  have hTB : TBok (s.setDrawn s.drawn) := TBok.same (u := s) (U := s.setDrawn s.drawn) rfl (Vm.Alike.refl s.vm) hTB0
  have hK : va_K D vwCl (ty6 cA) (s.setDrawn s.drawn) := hK0
  have hown : (s.setDrawn s.drawn).vm.findClass RX6 = some m.cls := hown0
  have hn8 := hI.n8
  have hna := hI.na
  have h22 := hI.h22
  refine lv_iconst (v := (-1)) hx hb dX6_bestNow_0 (by decide) ?_
  refine lv_istore_n (lv' := [(2, .int (-1)), (0, .ref am), (1, .int (nI i))]) hx hb dX6_bestNow_1 rfl hl (by decide) rfl (fun ls hl => ?_)
  refine lv_iconst (v := 0) hx hb dX6_bestNow_2 (by decide) ?_
  refine lv_istore_n (lv' := [(3, .int 0), (2, .int (-1)), (0, .ref am), (1, .int (nI i))]) hx hb dX6_bestNow_3 rfl hl (by decide) rfl (fun ls hl => ?_)
  refine kz_loopD 4 (fun N9 H locs ls => ∃ (j : Nat) (fd : Int32), N9 = vc - j ∧ j ≤ vc ∧ kBest (fun v => rTold M.2 (nI i) v 2 na 0 0) (fun v => rTold M.2 (nI i) v 0 na 0 0) vc 0 (-1) = kBest (fun v => rTold M.2 (nI i) v 2 na 0 0) (fun v => rTold M.2 (nI i) v 0 na 0 0) (vc - j) j fd ∧ va_P D vwCl (wM cA am r M) H ∧ va_D A (wM cA am r M) ∧ va_S A s.heap H locs ∧ lv_has ls 4 [(3, .int (nI j)), (2, .int fd), (1, .int (nI i)), (0, .ref am)]) (fun N9 ih_4 H locs ls e_4 hd0 hI => ?_) hd0 ⟨0, (-1), rfl, by omega, rfl, hP, hD, hS, lv_sub hl [0, 1, 3, 2] rfl⟩
  obtain ⟨j, fd, hn9, hj, hF, hP, hD, hS, hl⟩ := hI
  have htT : ∀ w ∈ TT, w.before _ (s.setDrawn e_4) = true := dr_words htT0 e_4
  have hTB : TBok (s.setDrawn e_4) := TBok.same (u := s) (U := s.setDrawn e_4) rfl (Vm.Alike.refl s.vm) hTB0
  have hK : va_K D vwCl (ty6 cA) (s.setDrawn e_4) := hK0
  have hown : (s.setDrawn e_4).vm.findClass RX6 = some m.cls := hown0
  refine lv_iload_n hx hb dX6_bestNow_4 rfl (lv_at hl 0 rfl) ?_
  refine lv_aload_n hx hb dX6_bestNow_5 rfl (lv_at hl 3 rfl) ?_
  refine km_getr hx hb htT hown hK hP 5 (by decide) rfl (htT _ m_fl_X6_13) dX6_bestNow_6 ?_
  refine lv_iload_n hx hb dX6_bestNow_9 rfl (lv_at hl 2 rfl) ?_
  refine km_ialdv (x := nI vc) hx hb hK hP 5 rfl rfl (show vp_in (nI (i)) 8 from ki_in (by omega) (by decide)) ((congrArg _ (ki_cl (by omega))).trans evc) dX6_bestNow_10 ?_
  refine lv_icmp_ge (tgt := 53) hx hb dX6_bestNow_11 (by decide) (fun c_1 => ?_) (fun c_1 => ?_)
  · replace c_1 := (nI_leI (a := vc) (b := j) (by omega) (by omega)).mp c_1
    refine lv_iload_n hx hb dX6_bestNow_53 rfl (lv_at hl 1 rfl) ?_
    refine W.endD hd0 ?_
    exact W.iret (v := fd) hx hb hr (fun t ht hW => ⟨⟨fd, M, rfl, ⟨by rw [hF, show vc - j = 0 by omega]; rfl, rfl⟩, by rw [ht]; exact hP, va_K.moved hW.alike hK, hD⟩, hS.F ht⟩) hS.2.2 dX6_bestNow_54
  · replace c_1 : ¬ (vc ≤ j) := fun h9 => c_1 ((nI_leI (a := vc) (b := j) (by omega) (by omega)).mpr h9)
    refine lv_aload_n hx hb dX6_bestNow_14 rfl (lv_at hl 3 rfl) ?_
    refine lv_iload_n hx hb dX6_bestNow_15 rfl (lv_at hl 2 rfl) ?_
    refine lv_iload_n hx hb dX6_bestNow_16 rfl (lv_at hl 0 rfl) ?_
    refine lv_iconst (v := 0) hx hb dX6_bestNow_17 (by decide) ?_
    refine kc_i (va_runV (As := [.int (nI i), .int (nI j), .int 0]) (rest := []) ⟨hx, hb, hml, hown, htT⟩ (m_toldNow l D cA _ am r M na hna h22 (nI i) (nI j) 0) (cwV 3 htT (kg_V m_ml_X6_182 m_im_X6_toldNow m_sl_X6_toldNow m_in_X6 m_cd_X6_toldNow) rfl rfl rfl (by decide +kernel) ⟨Nat.le_of_ble_eq_true rfl, Nat.le_of_ble_eq_true rfl⟩) (kp_V hK hP hD hTB (km_rc hK hP)) rfl rfl hl.1 rfl (lv_room (Nat.le_of_ble_eq_true rfl)) dX6_bestNow_18 ⟨Nat.le_of_ble_eq_true rfl, Nat.le_of_ble_eq_true rfl⟩) hD hS hA (fun r_2 x_2 H locs hq_2 hP hD hS => ?_)
    rw [hq_2.1]
    rw [hq_2.2] at hP hD
    refine lv_if_le (tgt := 47) hx hb dX6_bestNow_21 (by decide) (fun c_3 => ?_) (fun c_3 => ?_)
    · replace c_3 := Int32.not_lt.mpr c_3
      refine lv_iinc (v := nI (j + 1)) (lv' := [(3, .int (nI (j + 1))), (2, .int fd), (1, .int (nI i)), (0, .ref am)]) hx hb dX6_bestNow_47 hl (k := 0) rfl (nI_1 _) (by decide) rfl (fun ls hl => ?_)
      refine lv_goto (tgt := 4) hx hb dX6_bestNow_50 (by decide) ?_
      have hl := lv_sub hl [0, 1, 2, 3] rfl
      exact ih_4 _ (by omega) H locs ls e_4 hd0 ⟨j + 1, _, rfl, by omega, by rw [hF, show vc - j = (vc - (j + 1)) + 1 by omega]; simp [kBest, c_3], hP, hD, hS, hl⟩
    · replace c_3 := Int32.not_le.mp c_3
      refine lv_iload_n hx hb dX6_bestNow_24 rfl (lv_at hl 1 rfl) ?_
      refine lv_iconst (v := (-1)) hx hb dX6_bestNow_25 (by decide) ?_
      refine lv_icmp_eq (tgt := 45) hx hb dX6_bestNow_26 (by decide) (fun c_4 => ?_) (fun c_4 => ?_)
      · refine lv_iload_n hx hb dX6_bestNow_45 rfl (lv_at hl 0 rfl) ?_
        refine lv_istore_n (lv' := [(2, .int (nI j)), (3, .int (nI j)), (1, .int (nI i)), (0, .ref am)]) hx hb dX6_bestNow_46 rfl hl (by decide) rfl (fun ls hl => ?_)
        refine lv_iinc (v := nI (j + 1)) (lv' := [(3, .int (nI (j + 1))), (2, .int (nI j)), (1, .int (nI i)), (0, .ref am)]) hx hb dX6_bestNow_47 hl (k := 1) rfl (nI_1 _) (by decide) rfl (fun ls hl => ?_)
        refine lv_goto (tgt := 4) hx hb dX6_bestNow_50 (by decide) ?_
        have hl := lv_sub hl [0, 1, 2, 3] rfl
        exact ih_4 _ (by omega) H locs ls e_4 hd0 ⟨j + 1, _, rfl, by omega, by rw [hF, show vc - j = (vc - (j + 1)) + 1 by omega]; simp [kBest, c_3, c_4], hP, hD, hS, hl⟩
      · refine lv_aload_n hx hb dX6_bestNow_29 rfl (lv_at hl 3 rfl) ?_
        refine lv_iload_n hx hb dX6_bestNow_30 rfl (lv_at hl 2 rfl) ?_
        refine lv_iload_n hx hb dX6_bestNow_31 rfl (lv_at hl 0 rfl) ?_
        refine kcD_d hd0 (va_runV_D (As := [.int (nI i), .int (nI j)]) (rest := []) ⟨hx, hb, hml, hown, htT⟩ (m_meanNow l D cA _ am r M na hna h22 (nI i) (nI j)) (cwV 2 htT (kg_V m_ml_X6_185 m_im_X6_meanNow m_sl_X6_meanNow m_in_X6 m_cd_X6_meanNow) rfl rfl rfl (by decide +kernel) ⟨Nat.le_of_ble_eq_true rfl, Nat.le_of_ble_eq_true rfl⟩) (kp_V hK hP hD hTB (km_rc hK hP)) rfl rfl hl.1 rfl (lv_room (Nat.le_of_ble_eq_true rfl)) dX6_bestNow_32 ⟨Nat.le_of_ble_eq_true rfl, Nat.le_of_ble_eq_true rfl⟩) hD hS hA (fun r_5 x_5 H locs hq_5 hP hD hS d_5 hd0 => ?_)
        have htT : ∀ w ∈ TT, w.before _ (s.setDrawn d_5) = true := dr_words htT0 d_5
        have hTB : TBok (s.setDrawn d_5) := TBok.same (u := s) (U := s.setDrawn d_5) rfl (Vm.Alike.refl s.vm) hTB0
        have hK : va_K D vwCl (ty6 cA) (s.setDrawn d_5) := hK0
        have hown : (s.setDrawn d_5).vm.findClass RX6 = some m.cls := hown0
        rw [hq_5.2] at hP hD
        refine lv_aload_n hx hb dX6_bestNow_35 rfl (lv_at hl 3 rfl) ?_
        refine lv_iload_n hx hb dX6_bestNow_36 rfl (lv_at hl 2 rfl) ?_
        refine lv_iload_n hx hb dX6_bestNow_37 rfl (lv_at hl 1 rfl) ?_
        refine kcD_d hd0 (va_runV_D (As := [.int (nI i), .int fd]) (rest := [.double r_5]) ⟨hx, hb, hml, hown, htT⟩ (m_meanNow l D cA _ am r M na hna h22 (nI i) fd) (cwV 2 htT (kg_V m_ml_X6_185 m_im_X6_meanNow m_sl_X6_meanNow m_in_X6 m_cd_X6_meanNow) rfl rfl rfl (by decide +kernel) ⟨Nat.le_of_ble_eq_true rfl, Nat.le_of_ble_eq_true rfl⟩) (kp_V hK hP hD hTB (km_rc hK hP)) rfl rfl hl.1 rfl (lv_room (Nat.le_of_ble_eq_true rfl)) dX6_bestNow_38 ⟨Nat.le_of_ble_eq_true rfl, Nat.le_of_ble_eq_true rfl⟩) hD hS hA (fun r_6 x_6 H locs hq_6 hP hD hS d_6 hd0 => ?_)
        have htT : ∀ w ∈ TT, w.before _ (s.setDrawn d_6) = true := dr_words htT0 d_6
        have hTB : TBok (s.setDrawn d_6) := TBok.same (u := s) (U := s.setDrawn d_6) rfl (Vm.Alike.refl s.vm) hTB0
        have hK : va_K D vwCl (ty6 cA) (s.setDrawn d_6) := hK0
        have hown : (s.setDrawn d_6).vm.findClass RX6 = some m.cls := hown0
        rw [hq_6.2] at hP hD
        refine lv_dcmp hx hb dX6_bestNow_41 ?_
        refine lv_if_le (tgt := 47) hx hb dX6_bestNow_42 (by decide) (fun c_8 => ?_) (fun c_8 => ?_)
        · replace c_8 := Int32.not_lt.mpr c_8
          refine lv_iinc (v := nI (j + 1)) (lv' := [(3, .int (nI (j + 1))), (2, .int fd), (1, .int (nI i)), (0, .ref am)]) hx hb dX6_bestNow_47 hl (k := 0) rfl (nI_1 _) (by decide) rfl (fun ls hl => ?_)
          refine lv_goto (tgt := 4) hx hb dX6_bestNow_50 (by decide) ?_
          have hl := lv_sub hl [0, 1, 2, 3] rfl
          have hab : kAbv (fun v => rTold M.2 (nI i) v 2 na 0 0) (fun v => rTold M.2 (nI i) v 0 na 0 0) (nI j) fd = false := abv_n hq_5.1 hq_6.1 c_8
          exact ih_4 _ (by omega) H locs ls d_6 hd0 ⟨j + 1, _, rfl, by omega, by rw [hF, show vc - j = (vc - (j + 1)) + 1 by omega]; simp [kBest, c_3, c_4, hab], hP, hD, hS, hl⟩
        · replace c_8 := Int32.not_le.mp c_8
          refine lv_iload_n hx hb dX6_bestNow_45 rfl (lv_at hl 0 rfl) ?_
          refine lv_istore_n (lv' := [(2, .int (nI j)), (3, .int (nI j)), (1, .int (nI i)), (0, .ref am)]) hx hb dX6_bestNow_46 rfl hl (by decide) rfl (fun ls hl => ?_)
          refine lv_iinc (v := nI (j + 1)) (lv' := [(3, .int (nI (j + 1))), (2, .int (nI j)), (1, .int (nI i)), (0, .ref am)]) hx hb dX6_bestNow_47 hl (k := 1) rfl (nI_1 _) (by decide) rfl (fun ls hl => ?_)
          refine lv_goto (tgt := 4) hx hb dX6_bestNow_50 (by decide) ?_
          have hl := lv_sub hl [0, 1, 2, 3] rfl
          have hab : kAbv (fun v => rTold M.2 (nI i) v 2 na 0 0) (fun v => rTold M.2 (nI i) v 0 na 0 0) (nI j) fd = true := abv_y hq_5.1 hq_6.1 c_8
          exact ih_4 _ (by omega) H locs ls d_6 hd0 ⟨j + 1, _, rfl, by omega, by rw [hF, show vc - j = (vc - (j + 1)) + 1 by omega]; simp [kBest, c_3, c_4, hab], hP, hD, hS, hl⟩

set_option maxRecDepth 100000 in
set_option maxHeartbeats 4000000 in
theorem m_best (l : Launch) (D : va_G) (cA : Nat → ClassId) (sz : Nat) (am : Nat) (r : Nat → Nat) (M : MSt) (n i : Nat) (hi : i < n) (hn8 : n ≤ 8) (h3 : M.1 3 = nI n) (na vc : Nat) (hI : INVR n na M) (hvc : vc ≤ 4) (evc : M.2 5 i = nI vc) : MetD lw_cs l yX6_best (Cond.code yX6_best cX6_best 2 (some .int) :: TT) ({ frames := 3, cells := 0, slots := 0, locals := 71 }) (va_Pc [.ref am, .int (nI i)] (kPre D cA (wM cA am r M) sz)) (va_Qi (fun (r_ : Int32) (x_ : MSt) => r_ = kBest (fun v => rTold M.2 (nI i) v 2 na 0 0) (fun v => rTold M.2 (nI i) v 0 na 0 0) vc 0 (-1) ∧ x_ = mS M 0 0) (fun x_ => kB D cA (va_A (wM cA am r M) sz) (wM cA am r x_)) (va_A (wM cA am r M) sz)) 0 0 (va_A (wM cA am r M) sz) := by
  refine MetD.ofW (cc := cX6_best) (maxL := 2) (ret := (some .int)) (by decide) rfl ?_
  intro p e s m args below meth c s₁ B hml hv hd0
  obtain ⟨rfl, hsz, hP, hK, hD0, hTB⟩ := hv
  have hx := B.exec
  have hb := B.bytes
  have hr := B.returns
  have hts := atoms_spec (ws := Cond.code yX6_best cX6_best 2 (some .int) :: TT) B.pre
  have htT : ∀ w ∈ TT, w.before _ s = true := fun w h => hts w (List.mem_cons_of_mem _ h)
  have hown : s.vm.findClass RX6 = some m.cls := findClass_of_methodNamed B.named
  have hlocks := B.notSynchronized
  subst hsz
  have hD := hD0.self (sz := s.heap.size)
  generalize hAe : va_A (wM cA am r M) s.heap.size = A at hD ⊢
  have hA : ∀ q : Nat, s.heap.size ≤ q → A q := fun q h => by rw [← hAe]; exact Or.inr h
  have hS : va_S A s.heap s.heap [] := va_S.rf
  have hl := lv_entry ([.ref am, .int (nI i)]) (n := 2) (Nat.le_of_ble_eq_true rfl)
  rw [lg_entry_eq]
  generalize (lg_sl ([.ref am, .int (nI i)]) ++ List.replicate (2 - (lg_sl ([.ref am, .int (nI i)])).length) Slot.unset).toArray = ls at hl ⊢
  have hl : lv_has ls 2 [(0, .ref am), (1, .int (nI i))] := hl
  have htT0 := htT
  have hTB0 := hTB
  have hK0 := hK
  have hown0 := hown
  have htT : ∀ w ∈ TT, w.before _ (s.setDrawn s.drawn) = true := dr_words htT0 s.drawn
  have hTB : TBok (s.setDrawn s.drawn) := TBok.same (u := s) (U := s.setDrawn s.drawn) rfl (Vm.Alike.refl s.vm) hTB0
  have hK : va_K D vwCl (ty6 cA) (s.setDrawn s.drawn) := hK0
  have hown : (s.setDrawn s.drawn).vm.findClass RX6 = some m.cls := hown0
  have hsw1 := kIn_sw hi hn8 h3
  refine lv_aload_n hx hb dX6_best_0 rfl (lv_at hl 0 rfl) ?_
  refine lv_iconst (v := 0) hx hb dX6_best_1 (by decide) ?_
  refine km_puti hx hb htT hown hK hP hD hS 0 (by decide) rfl (htT _ m_fl_X6_80) rfl (by decide +kernel) dX6_best_2 (fun H locs hP hD hS => ?_)
  refine lv_aload_n hx hb dX6_best_5 rfl (lv_at hl 0 rfl) ?_
  refine lv_iload_n hx hb dX6_best_6 rfl (lv_at hl 1 rfl) ?_
  refine kc_i (va_runV (As := [.int (nI i)]) (rest := []) ⟨hx, hb, hml, hown, htT⟩ (m_isSwitch l D cA _ am r (mS M 0 0) (nI i)) (cwV 1 htT (kg_V m_ml_X6_91 m_im_X6_isSwitch m_sl_X6_isSwitch m_in_X6 m_cd_X6_isSwitch) rfl rfl rfl (by decide +kernel) ⟨Nat.le_of_ble_eq_true rfl, Nat.le_of_ble_eq_true rfl⟩) (kp_V hK hP hD hTB (km_rc hK hP)) rfl rfl hl.1 rfl (lv_room (Nat.le_of_ble_eq_true rfl)) dX6_best_7 ⟨Nat.le_of_ble_eq_true rfl, Nat.le_of_ble_eq_true rfl⟩) hD hS hA (fun r_1 x_1 H locs hq_1 hP hD hS => ?_)
  rw [hq_1.1.trans hsw1]
  rw [hq_1.2] at hP hD
  refine lv_if_eq (tgt := 21) hx hb dX6_best_10 (by decide) (fun c_2 => absurd c_2 (by decide)) (fun _ => ?_)
  refine lv_aload_n hx hb dX6_best_13 rfl (lv_at hl 0 rfl) ?_
  refine lv_iload_n hx hb dX6_best_14 rfl (lv_at hl 1 rfl) ?_
  refine kcD_i hd0 (va_runV_D (As := [.int (nI i)]) (rest := []) ⟨hx, hb, hml, hown, htT⟩ (m_bestNow l D cA _ am r (mS M 0 0) n na (hI.iS (by decide) (by decide)) i hi vc hvc evc) (cwV 1 htT (kg_V m_ml_X6_200 m_im_X6_bestNow m_sl_X6_bestNow m_in_X6 m_cd_X6_bestNow) rfl rfl rfl (by decide +kernel) ⟨Nat.le_of_ble_eq_true rfl, Nat.le_of_ble_eq_true rfl⟩) (kp_V hK hP hD hTB (km_rc hK hP)) rfl rfl hl.1 rfl (lv_room (Nat.le_of_ble_eq_true rfl)) dX6_best_15 ⟨Nat.le_of_ble_eq_true rfl, Nat.le_of_ble_eq_true rfl⟩) hD hS hA (fun r_3 x_3 H locs hq_3 hP hD hS d_3 hd0 => ?_)
  have htT : ∀ w ∈ TT, w.before _ (s.setDrawn d_3) = true := dr_words htT0 d_3
  have hTB : TBok (s.setDrawn d_3) := TBok.same (u := s) (U := s.setDrawn d_3) rfl (Vm.Alike.refl s.vm) hTB0
  have hK : va_K D vwCl (ty6 cA) (s.setDrawn d_3) := hK0
  have hown : (s.setDrawn d_3).vm.findClass RX6 = some m.cls := hown0
  rw [hq_3.2] at hP hD
  refine lv_goto (tgt := 26) hx hb dX6_best_18 (by decide) ?_
  refine W.endD hd0 ?_
  exact W.iret (v := r_3) hx hb hr (fun t ht hW => ⟨⟨r_3, mS M 0 0, rfl, ⟨hq_3.1, rfl⟩, by rw [ht]; exact hP, va_K.moved hW.alike hK, hD⟩, hS.F ht⟩) hS.2.2 dX6_best_26

/-! the best: both sides alike -/
theorem kBest_s {sm ct : Int32 → Int32} {c k : Nat} {f : Int32} : kBest sm ct (c + 1) k f = if 0 < ct (nI k) then (if f = -1 then kBest sm ct c (k + 1) (nI k) else if kAbv sm ct (nI k) f = true then kBest sm ct c (k + 1) (nI k) else kBest sm ct c (k + 1) f) else kBest sm ct c (k + 1) f := rfl
theorem kBest_ext {sm ct sm2 ct2 : Int32 → Int32} (he : ∀ w, w < 4 → sm (nI w) = sm2 (nI w) ∧ ct (nI w) = ct2 (nI w)) : ∀ c k f, k + c ≤ 4 → (f = -1 ∨ ∃ w, w < 4 ∧ f = nI w) → kBest sm ct c k f = kBest sm2 ct2 c k f := by
  intro c
  induction c with
  | zero => intro k f _ _; rfl
  | succ c ih =>
    intro k f hk hf
    rw [kBest_s, kBest_s, (he k (by omega)).2]
    have ek : ∀ w, w < 4 → kAbv sm ct (nI k) (nI w) = kAbv sm2 ct2 (nI k) (nI w) := fun w hw => by
      unfold kAbv
      rw [(he k (by omega)).1, (he k (by omega)).2, (he w hw).1, (he w hw).2]
    by_cases h1 : 0 < ct2 (nI k)
    · rw [if_pos h1, if_pos h1]
      by_cases h2 : f = -1
      · rw [if_pos h2, if_pos h2]
        exact ih (k + 1) _ (by omega) (Or.inr ⟨k, by omega, rfl⟩)
      · rw [if_neg h2, if_neg h2]
        rcases hf with q | ⟨w, hw, ew⟩
        · exact absurd q h2
        · rw [ew, ek w hw]
          by_cases h3 : kAbv sm2 ct2 (nI k) (nI w) = true
          · rw [if_pos h3, if_pos h3]
            exact ih (k + 1) _ (by omega) (Or.inr ⟨k, by omega, rfl⟩)
          · rw [if_neg h3, if_neg h3]
            exact ih (k + 1) _ (by omega) (Or.inr ⟨w, hw, rfl⟩)
    · rw [if_neg h1, if_neg h1]
      exact ih (k + 1) f (by omega) hf
theorem kBest_z {sm ct : Int32 → Int32} : ∀ d k f, (∀ w, k ≤ w → w < k + d → ¬ 0 < ct (nI w)) → kBest sm ct d k f = f := by
  intro d
  induction d with
  | zero => intro k f _; rfl
  | succ d ih =>
    intro k f h
    rw [kBest_s, if_neg (h k (Nat.le_refl _) (by omega))]
    exact ih (k + 1) f (fun w h1 h2 => h w (by omega) (by omega))
theorem kBest_app {sm ct : Int32 → Int32} {d : Nat} : ∀ c k f, kBest sm ct (c + d) k f = kBest sm ct d (k + c) (kBest sm ct c k f) := by
  intro c
  induction c with
  | zero => intro k f; rw [Nat.zero_add]; rfl
  | succ c ih =>
    intro k f
    rw [show c + 1 + d = (c + d) + 1 by omega, kBest_s, kBest_s, show k + (c + 1) = k + 1 + c by omega]
    by_cases h1 : 0 < ct (nI k)
    · rw [if_pos h1, if_pos h1]
      by_cases h2 : f = -1
      · rw [if_pos h2, if_pos h2]; exact ih _ _
      · rw [if_neg h2, if_neg h2]
        by_cases h3 : kAbv sm ct (nI k) f = true
        · rw [if_pos h3, if_pos h3]; exact ih _ _
        · rw [if_neg h3, if_neg h3]; exact ih _ _
    · rw [if_neg h1, if_neg h1]; exact ih _ _
theorem best_eq {n na i a vc : Nat} {S : Pool} {M : MSt} {ar : Nat} (h : TAL n na S M ar) (hi : i < n) (ha : gP S ar i = some a) (evc : M.2 5 i = nI vc) (hvc : vc ≤ 4) : cBest S a = kBest (fun v => rTold M.2 (nI i) v 2 na 0 0) (fun v => rTold M.2 (nI i) v 0 na 0 0) vc 0 (-1) := by
  obtain ⟨b1, -, -⟩ := h.1 i hi a ha
  obtain ⟨vc2, a1, a2, a3, a4, a5⟩ := h.2.2.2.1 i hi
  have e : vc2 = vc := (nI_eq (a := vc2) (b := vc) (by omega) (by omega)).mp (a3.symm.trans evc)
  subst e
  unfold cBest
  rw [kBest_ext (sm2 := fun v => rTold M.2 (nI i) v 2 na 0 0) (ct2 := fun v => rTold M.2 (nI i) v 0 na 0 0) (fun w hw => ⟨(cTal_n hw).trans (b1 w hw).2.2.1, (cTal_n hw).trans (b1 w hw).1⟩) 4 0 (-1) (by omega) (Or.inl rfl)]
  have e4 := kBest_app (sm := fun v => rTold M.2 (nI i) v 2 na 0 0) (ct := fun v => rTold M.2 (nI i) v 0 na 0 0) (d := 4 - vc2) vc2 0 (-1)
  rw [show vc2 + (4 - vc2) = 4 by omega] at e4
  rw [e4, kBest_z]
  intro w h1 h2
  show ¬ 0 < rTold M.2 (nI i) (nI w) 0 na 0 0
  rw [rT_0, nT_z na (fun k hk e23 e25 => by
    obtain ⟨z, hz, ez⟩ := a5 k hk e23
    have := (nI_eq (a := z) (b := w) (by omega) (by omega)).mp (ez.symm.trans e25)
    omega)]
  decide
