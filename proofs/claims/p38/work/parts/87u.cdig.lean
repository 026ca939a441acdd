/-! the class: its digest, exact -/
def dn (d : Int64) (v : Int32) : Int64 := d * 31 + v.toInt64
def lfo (g : Nat → Int64 → Int64) : Nat → Nat → Int64 → Int64
  | 0, _, d => d
  | c + 1, k, d => lfo g c (k + 1) (g k d)
theorem lfo_s (g : Nat → Int64 → Int64) (c k : Nat) (d : Int64) : lfo g (c + 1) k d = lfo g c (k + 1) (g k d) := rfl
def dVar (We : Nat → Int32) (To : Nat → Nat → Int32) (F : Nat → Int32) (v : Nat) (d : Int64) : Int64 := dn (lfo (fun q d => dn d (To v q)) 4 0 (dn d (We v))) (rCnt (fun u => if F u = nI v then 1 else 0) 20 0 0)
def dSwi (vc : Nat) (Sh Bd Tr Be : Int32) (We : Nat → Int32) (To : Nat → Nat → Int32) (F : Nat → Int32) (d : Int64) : Int64 := lfo (dVar We To F) vc 0 (dn (dn (dn (dn d Sh) Bd) Tr) Be)
def dUse (n : Nat) (Ge Wh Ar : Nat → Nat → Int32) (u : Nat) (d : Int64) : Int64 := lfo (fun k d => dn (dn (dn d (Ge k u)) (Wh k u)) (Ar k u)) n 0 d
def dAll (n na : Nat) (Lf : Nat → Int32) (sw : Nat → Int64 → Int64) (Ge Wh Ar : Nat → Nat → Int32) : Int64 := lfo (dUse n Ge Wh Ar) 10 0 (lfo sw n 0 (lfo (fun z d => dn d (Lf z)) 3 0 (dn (dn 2687 (nI n)) (nI na))))
def DG1 (S : Pool) (x ar ak a vc : Nat) (Sh Bd Tr Be : Int32) (We : Nat → Int32) (To : Nat → Nat → Int32) (F : Nat → Int32) : Prop := (vc ≤ 4 ∧ gI S a 2 = nI vc ∧ (Tr = 0 ∨ Tr = 1)) ∧ ∀ U, eqA S U ak → cFar U a (gI U x 5) = Sh ∧ cBad U a = Bd ∧ cTrus U a = Tr ∧ cBest U a = Be ∧ (∀ v, v < 4 → cWt U (wtA U a) (nI v) = We v) ∧ (∀ v q, v < 4 → q < 4 → cTold U a (nI v) q = To v q) ∧ ∀ u, u < 200 → cV (cBec U ak (nI u) (nI u - nI u / 10 * 10) (nI u / 10 - nI u / 10 / 10 * 10)) x ar ak 8 a = F u
def DG2 (S : Pool) (x ar ak a : Nat) (Ge Wh Ar : Nat → Int32) : Prop := ∀ U, eqA S U ak → ∀ u, u < 10 → cV (cBec U ak (nI u) (nI u) (9 - nI u)) x ar ak 8 a = Ge u ∧ cRsn (cBec U ak (nI u) (nI u) (9 - nI u)) x ak (cHas (cBec U ak (nI u) (nI u) (9 - nI u)) ar (cV (cBec U ak (nI u) (nI u) (9 - nI u)) x ar ak 7) a) a = Wh u ∧ cArmV U (cArmA U a (nI u)) = Ar u
theorem DG1.q {S T : Pool} {x ar ak a vc : Nat} {Sh Bd Tr Be : Int32} {We : Nat → Int32} {To : Nat → Nat → Int32} {F : Nat → Int32} (h : DG1 S x ar ak a vc Sh Bd Tr Be We To F) (hE : eqA S T ak) (h2 : gI T a 2 = gI S a 2) : DG1 T x ar ak a vc Sh Bd Tr Be We To F := ⟨⟨h.1.1, h2.trans h.1.2.1, h.1.2.2⟩, fun U hU => h.2 U (hE.tr hU)⟩
set_option maxRecDepth 100000 in
set_option maxHeartbeats 4000000 in
/-- withSwitch, exact -/
theorem c_withSwitchX (l : Launch) (D : va_G) (cA : Nat → ClassId) (sz : Nat) (S : Pool) (x : Nat) (hx5 : isO S x 5) (ar : Nat) (hq0 : gQ S x 0 = some ar) (ak : Nat) (hq1 : gQ S x 1 = some ak) (hak : isO S ak 1) (hR : okR S ar) (j : Nat) (hj : j < 8) (a : Nat) (hja : gP S ar j = some a) (i : Nat) (hsw : kSw S ar (nI i) = some a) (vc : Nat) (Sh Bd Tr Be : Int32) (We : Nat → Int32) (To : Nat → Nat → Int32) (F : Nat → Int32) (hDG : DG1 S x ar ak a vc Sh Bd Tr Be We To F) (d0 : Int64) : MetD lw_cs l yX5_withSwitch (Cond.code yX5_withSwitch cX5_withSwitch 9 (some .long) :: TT) ({ frames := 27, cells := 0, slots := 0, locals := 646 }) (va_Pc [.ref x, .long d0, .int (nI i)] (kPre D cA (PW cA S) sz)) (va_Ql (fun (r_ : Int64) (x_ : Pool) => r_ = dSwi vc Sh Bd Tr Be We To F d0 ∧ eqA S x_ ak) (fun x_ => kB D cA (va_A (PW cA S) sz) (PW cA x_)) (va_A (PW cA S) sz)) 0 0 (va_A (PW cA S) sz) := by
  refine MetD.ofW (cc := cX5_withSwitch) (maxL := 9) (ret := (some .long)) (by decide) rfl ?_
  intro p e s m args below meth c s₁ B hml hv hd0
  obtain ⟨rfl, hsz, hP, hK, hD0, hTB⟩ := hv
  have hx := B.exec
  have hb := B.bytes
  have hr := B.returns
  have hts := atoms_spec (ws := Cond.code yX5_withSwitch cX5_withSwitch 9 (some .long) :: TT) B.pre
  have htT : ∀ w ∈ TT, w.before _ s = true := fun w h => hts w (List.mem_cons_of_mem _ h)
  have hown : s.vm.findClass RX5 = some m.cls := findClass_of_methodNamed B.named
  have hlocks := B.notSynchronized
  subst hsz
  have hD := hD0.self (sz := s.heap.size)
  generalize hAe : va_A (PW cA S) s.heap.size = A at hD ⊢
  have hA : ∀ q : Nat, s.heap.size ≤ q → A q := fun q h => by rw [← hAe]; exact Or.inr h
  have hS : va_S A s.heap s.heap [] := va_S.rf
  have hl := lv_entry ([.ref x, .long d0, .int (nI i)]) (n := 9) (Nat.le_of_ble_eq_true rfl)
  rw [lg_entry_eq]
  generalize (lg_sl ([.ref x, .long d0, .int (nI i)]) ++ List.replicate (9 - (lg_sl ([.ref x, .long d0, .int (nI i)])).length) Slot.unset).toArray = ls at hl ⊢
  have hl : lv_has ls 9 [(0, .ref x), (1, .long d0), (3, .int (nI i))] := hl
  have htT0 := htT
  have hTB0 := hTB
  have hK0 := hK
  have hown0 := hown
  have htT : ∀ w ∈ TT, w.before _ (s.setDrawn s.drawn) = true := dr_words htT0 s.drawn
  have hTB : TBok (s.setDrawn s.drawn) := TBok.same (u := s) (U := s.setDrawn s.drawn) rfl (Vm.Alike.refl s.vm) hTB0
  have hK : va_K D vwCl (ty6 cA) (s.setDrawn s.drawn) := hK0
  have hown : (s.setDrawn s.drawn).vm.findClass RX5 = some m.cls := hown0
  have hvc := hDG.1.1
  have h2v := hDG.1.2.1
  have hx5_1 := (eqA.rf (S := S) (ak := ak)).o hx5
  have hak_1 := (eqA.rf (S := S) (ak := ak)).o hak
  have hR_1 := (eqA.rf (S := S) (ak := ak)).okR hak hR
  have hq0_1 := ((eqA.rf (S := S) (ak := ak)).q x 0).trans hq0
  have hq1_1 := ((eqA.rf (S := S) (ak := ak)).q x 1).trans hq1
  have hja_1 := ((eqA.rf (S := S) (ak := ak)).p ar j).trans hja
  refine lv_lload_n hx hb dX5_withSwitch_0 rfl (lv_at hl 1 rfl) ?_
  refine lv_aload_n hx hb dX5_withSwitch_1 rfl (lv_at hl 0 rfl) ?_
  refine lv_iload_n hx hb dX5_withSwitch_2 rfl (lv_at hl 2 rfl) ?_
  refine kc_i (va_runV (As := [.int (nI i)]) (rest := [.long d0]) ⟨hx, hb, hml, hown, htT⟩ (c_share l D cA _ S x hx5_1 ar hq0_1 ak hq1_1 hak_1 hR_1 j hj a hja_1 (nI i) (((eqA.rf (S := S) (ak := ak)).sw _).trans hsw) ) (cwV 1 htT (kg_V m_ml_X5_273 m_im_X5_share m_sl_X5_share m_in_X5 m_cd_X5_share) rfl rfl rfl (by decide +kernel) ⟨Nat.le_of_ble_eq_true rfl, Nat.le_of_ble_eq_true rfl⟩) (kp_V hK hP hD hTB (kp_rc hK hP hx5_1 (Nat.le_of_ble_eq_true rfl) rfl)) rfl rfl hl.1 rfl (lv_room (Nat.le_of_ble_eq_true rfl)) dX5_withSwitch_3 ⟨Nat.le_of_ble_eq_true rfl, Nat.le_of_ble_eq_true rfl⟩) hD hS hA (fun r_2 x_2 H locs hq_2 hP hD hS => ?_)
  rw [hq_2.2] at hP hD
  rw [show r_2 = Sh from hq_2.1.trans (hDG.2 _ (eqA.rf (S := S) (ak := ak))).1]
  refine lv_i2l (v := Sh.toInt64) hx hb dX5_withSwitch_6 rfl ?_
  refine kc_l (va_runS (As := [.long d0, .long Sh.toInt64]) (rest := []) ⟨hx, hb, hml, hown, htT⟩ (c_withNext l D cA _ S d0 Sh.toInt64) (cwS 2 htT (kg_S m_ml_X5_249 m_st_X5_withNext m_in_X5 m_cd_X5_withNext) rfl rfl rfl (by decide +kernel) ⟨Nat.le_of_ble_eq_true rfl, Nat.le_of_ble_eq_true rfl⟩) (kp_S hK hP hD hTB) rfl rfl hl.1 rfl (lv_room (Nat.le_of_ble_eq_true rfl)) dX5_withSwitch_7 ⟨Nat.le_of_ble_eq_true rfl, Nat.le_of_ble_eq_true rfl⟩) hD hS hA (fun r_3 x_3 H locs hq_3 hP hD hS => ?_)
  rw [show r_3 = dn d0 Sh from hq_3.1]
  rw [hq_3.2] at hP hD
  refine lv_lstore (lv' := [(4, .long (dn d0 Sh)), (0, .ref x), (1, .long d0), (3, .int (nI i))]) hx hb dX5_withSwitch_10 hl (by decide) rfl (fun ls hl => ?_)
  refine lv_lload hx hb dX5_withSwitch_12 (lv_at hl 0 rfl) ?_
  refine lv_aload_n hx hb dX5_withSwitch_14 rfl (lv_at hl 1 rfl) ?_
  refine lv_iload_n hx hb dX5_withSwitch_15 rfl (lv_at hl 3 rfl) ?_
  refine kc_i (va_runV (As := [.int (nI i)]) (rest := [.long (dn d0 Sh)]) ⟨hx, hb, hml, hown, htT⟩ (c_badX l D cA _ S x hx5_1 ar hq0_1 ak hq1_1 hak_1 hR_1 j hj a hja_1 (nI i) (((eqA.rf (S := S) (ak := ak)).sw _).trans hsw) ) (cwV 1 htT (kg_V m_ml_X5_276 m_im_X5_bad m_sl_X5_bad m_in_X5 m_cd_X5_bad) rfl rfl rfl (by decide +kernel) ⟨Nat.le_of_ble_eq_true rfl, Nat.le_of_ble_eq_true rfl⟩) (kp_V hK hP hD hTB (kp_rc hK hP hx5_1 (Nat.le_of_ble_eq_true rfl) rfl)) rfl rfl hl.1 rfl (lv_room (Nat.le_of_ble_eq_true rfl)) dX5_withSwitch_16 ⟨Nat.le_of_ble_eq_true rfl, Nat.le_of_ble_eq_true rfl⟩) hD hS hA (fun r_4 x_4 H locs hq_4 hP hD hS => ?_)
  rw [hq_4.2] at hP hD
  rw [show r_4 = Bd from hq_4.1.trans (hDG.2 _ (eqA.rf (S := S) (ak := ak))).2.1]
  refine lv_i2l (v := Bd.toInt64) hx hb dX5_withSwitch_19 rfl ?_
  refine kc_l (va_runS (As := [.long (dn d0 Sh), .long Bd.toInt64]) (rest := []) ⟨hx, hb, hml, hown, htT⟩ (c_withNext l D cA _ S (dn d0 Sh) Bd.toInt64) (cwS 2 htT (kg_S m_ml_X5_249 m_st_X5_withNext m_in_X5 m_cd_X5_withNext) rfl rfl rfl (by decide +kernel) ⟨Nat.le_of_ble_eq_true rfl, Nat.le_of_ble_eq_true rfl⟩) (kp_S hK hP hD hTB) rfl rfl hl.1 rfl (lv_room (Nat.le_of_ble_eq_true rfl)) dX5_withSwitch_20 ⟨Nat.le_of_ble_eq_true rfl, Nat.le_of_ble_eq_true rfl⟩) hD hS hA (fun r_5 x_5 H locs hq_5 hP hD hS => ?_)
  rw [show r_5 = dn (dn d0 Sh) Bd from hq_5.1]
  rw [hq_5.2] at hP hD
  refine lv_lstore (lv' := [(4, .long (dn (dn d0 Sh) Bd)), (0, .ref x), (1, .long d0), (3, .int (nI i))]) hx hb dX5_withSwitch_23 hl (by decide) rfl (fun ls hl => ?_)
  refine lv_lload hx hb dX5_withSwitch_25 (lv_at hl 0 rfl) ?_
  refine lv_aload_n hx hb dX5_withSwitch_27 rfl (lv_at hl 1 rfl) ?_
  refine lv_iload_n hx hb dX5_withSwitch_28 rfl (lv_at hl 3 rfl) ?_
  refine kc_i (va_runV (As := [.int (nI i)]) (rest := [.long (dn (dn d0 Sh) Bd)]) ⟨hx, hb, hml, hown, htT⟩ (c_isTrustedX l D cA _ S x hx5_1 ar hq0_1 ak hq1_1 hak_1 hR_1 j hj a hja_1 (nI i) (((eqA.rf (S := S) (ak := ak)).sw _).trans hsw) ) (cwV 1 htT (kg_V m_ml_X5_279 m_im_X5_isTrusted m_sl_X5_isTrusted m_in_X5 m_cd_X5_isTrusted) rfl rfl rfl (by decide +kernel) ⟨Nat.le_of_ble_eq_true rfl, Nat.le_of_ble_eq_true rfl⟩) (kp_V hK hP hD hTB (kp_rc hK hP hx5_1 (Nat.le_of_ble_eq_true rfl) rfl)) rfl rfl hl.1 rfl (lv_room (Nat.le_of_ble_eq_true rfl)) dX5_withSwitch_29 ⟨Nat.le_of_ble_eq_true rfl, Nat.le_of_ble_eq_true rfl⟩) hD hS hA (fun r_6 x_6 H locs hq_6 hP hD hS => ?_)
  rw [hq_6.2] at hP hD
  rcases hDG.1.2.2 with hz | hz
  · rw [show r_6 = 0 from (hq_6.1.trans (hDG.2 _ (eqA.rf (S := S) (ak := ak))).2.2.1).trans hz]
    refine lv_if_eq (tgt := 39) hx hb dX5_withSwitch_32 (by decide) (fun _ => ?_) (fun c_7 => absurd c_7 (by decide))
    refine lv_lconst (v := 0) hx hb dX5_withSwitch_39 (by decide) ?_
    refine kc_l (va_runS (As := [.long (dn (dn d0 Sh) Bd), .long 0]) (rest := []) ⟨hx, hb, hml, hown, htT⟩ (c_withNext l D cA _ S (dn (dn d0 Sh) Bd) 0) (cwS 2 htT (kg_S m_ml_X5_249 m_st_X5_withNext m_in_X5 m_cd_X5_withNext) rfl rfl rfl (by decide +kernel) ⟨Nat.le_of_ble_eq_true rfl, Nat.le_of_ble_eq_true rfl⟩) (kp_S hK hP hD hTB) rfl rfl hl.1 rfl (lv_room (Nat.le_of_ble_eq_true rfl)) dX5_withSwitch_40 ⟨Nat.le_of_ble_eq_true rfl, Nat.le_of_ble_eq_true rfl⟩) hD hS hA (fun r_8 x_8 H locs hq_8 hP hD hS => ?_)
    rw [show r_8 = dn (dn (dn d0 Sh) Bd) 0 from hq_8.1]
    rw [hq_8.2] at hP hD
    refine lv_lstore (lv' := [(4, .long (dn (dn (dn d0 Sh) Bd) 0)), (0, .ref x), (1, .long d0), (3, .int (nI i))]) hx hb dX5_withSwitch_43 hl (by decide) rfl (fun ls hl => ?_)
    refine lv_lload hx hb dX5_withSwitch_45 (lv_at hl 0 rfl) ?_
    refine lv_aload_n hx hb dX5_withSwitch_47 rfl (lv_at hl 1 rfl) ?_
    refine lv_iload_n hx hb dX5_withSwitch_48 rfl (lv_at hl 3 rfl) ?_
    refine kcD_i hd0 (va_runV_D (As := [.int (nI i)]) (rest := [.long (dn (dn (dn d0 Sh) Bd) 0)]) ⟨hx, hb, hml, hown, htT⟩ (c_bestX l D cA _ S x hx5_1 ar hq0_1 ak hq1_1 hak_1 hR_1 j hj a hja_1 (nI i) (((eqA.rf (S := S) (ak := ak)).sw _).trans hsw) ) (cwV 1 htT (kg_V m_ml_X5_283 m_im_X5_best m_sl_X5_best m_in_X5 m_cd_X5_best) rfl rfl rfl (by decide +kernel) ⟨Nat.le_of_ble_eq_true rfl, Nat.le_of_ble_eq_true rfl⟩) (kp_V hK hP hD hTB (kp_rc hK hP hx5_1 (Nat.le_of_ble_eq_true rfl) rfl)) rfl rfl hl.1 rfl (lv_room (Nat.le_of_ble_eq_true rfl)) dX5_withSwitch_49 ⟨Nat.le_of_ble_eq_true rfl, Nat.le_of_ble_eq_true rfl⟩) hD hS hA (fun r_9 x_9 H locs hq_9 hP hD hS d_9 hd0 => ?_)
    have htT : ∀ w ∈ TT, w.before _ (s.setDrawn d_9) = true := dr_words htT0 d_9
    have hTB : TBok (s.setDrawn d_9) := TBok.same (u := s) (U := s.setDrawn d_9) rfl (Vm.Alike.refl s.vm) hTB0
    have hK : va_K D vwCl (ty6 cA) (s.setDrawn d_9) := hK0
    have hown : (s.setDrawn d_9).vm.findClass RX5 = some m.cls := hown0
    rw [hq_9.2] at hP hD
    rw [show r_9 = Be from hq_9.1.trans (hDG.2 _ (eqA.rf (S := S) (ak := ak))).2.2.2.1]
    refine lv_i2l (v := Be.toInt64) hx hb dX5_withSwitch_52 rfl ?_
    refine kc_l (va_runS (As := [.long (dn (dn (dn d0 Sh) Bd) 0), .long Be.toInt64]) (rest := []) ⟨hx, hb, hml, hown, htT⟩ (c_withNext l D cA _ S (dn (dn (dn d0 Sh) Bd) 0) Be.toInt64) (cwS 2 htT (kg_S m_ml_X5_249 m_st_X5_withNext m_in_X5 m_cd_X5_withNext) rfl rfl rfl (by decide +kernel) ⟨Nat.le_of_ble_eq_true rfl, Nat.le_of_ble_eq_true rfl⟩) (kp_S hK hP hD hTB) rfl rfl hl.1 rfl (lv_room (Nat.le_of_ble_eq_true rfl)) dX5_withSwitch_53 ⟨Nat.le_of_ble_eq_true rfl, Nat.le_of_ble_eq_true rfl⟩) hD hS hA (fun r_10 x_10 H locs hq_10 hP hD hS => ?_)
    rw [show r_10 = dn (dn (dn (dn d0 Sh) Bd) 0) Be from hq_10.1]
    rw [hq_10.2] at hP hD
    refine lv_lstore (lv' := [(4, .long (dn (dn (dn (dn d0 Sh) Bd) 0) Be)), (0, .ref x), (1, .long d0), (3, .int (nI i))]) hx hb dX5_withSwitch_56 hl (by decide) rfl (fun ls hl => ?_)
    refine lv_aload_n hx hb dX5_withSwitch_58 rfl (lv_at hl 1 rfl) ?_
    refine lv_iload_n hx hb dX5_withSwitch_59 rfl (lv_at hl 3 rfl) ?_
    refine kc_q (va_runV (As := [.int (nI i)]) (rest := []) ⟨hx, hb, hml, hown, htT⟩ (c_known l D cA _ S x hx5_1 ar hq0_1 hR_1.1 (nI i) a (((eqA.rf (S := S) (ak := ak)).sw _).trans hsw)) (cwV 1 htT (kg_V m_ml_X5_45 m_im_X5_known m_sl_X5_known m_in_X5 m_cd_X5_known) rfl rfl rfl (by decide +kernel) ⟨Nat.le_of_ble_eq_true rfl, Nat.le_of_ble_eq_true rfl⟩) (kp_V hK hP hD hTB (kp_rc hK hP hx5_1 (Nat.le_of_ble_eq_true rfl) rfl)) rfl rfl hl.1 rfl (lv_room (Nat.le_of_ble_eq_true rfl)) dX5_withSwitch_60 ⟨Nat.le_of_ble_eq_true rfl, Nat.le_of_ble_eq_true rfl⟩) hD hS hA (fun r_11 x_11 H locs hq_11 hP hD hS => ?_)
    rw [hq_11.1]
    rw [hq_11.2] at hP hD
    have h2v_11 : gI S a 2 = nI vc := ((eqA.rf (S := S) (ak := ak)).i hak (hR.2 j hj a hja).1.1 (by decide) 2).trans h2v
    refine kx_getiNv hx hb htT m_u_X3 hown hK hP ((hR_1.2 j hj a hja_1).1.1) (Nat.le_of_ble_eq_true rfl) rfl 2 (by decide) (by decide) rfl (hTB.use m_fl_X5_286) h2v_11 dX5_withSwitch_63 ?_
    refine lv_istore (lv' := [(6, .int (nI vc)), (4, .long (dn (dn (dn (dn d0 Sh) Bd) 0) Be)), (0, .ref x), (1, .long d0), (3, .int (nI i))]) hx hb dX5_withSwitch_66 hl (by decide) rfl (fun ls hl => ?_)
    refine lv_iconst (v := 0) hx hb dX5_withSwitch_68 (by decide) ?_
    refine lv_istore (lv' := [(7, .int 0), (6, .int (nI vc)), (4, .long (dn (dn (dn (dn d0 Sh) Bd) 0) Be)), (0, .ref x), (1, .long d0), (3, .int (nI i))]) hx hb dX5_withSwitch_69 hl (by decide) rfl (fun ls hl => ?_)
    refine kz_loopD 71 (fun N9 H locs ls => ∃ (v : Nat) (d : Int64) (T : Pool), N9 = vc - v ∧ v ≤ vc ∧ dSwi vc Sh Bd Tr Be We To F d0 = lfo (dVar We To F) (vc - v) v d ∧ eqA S T ak ∧ va_P D vwCl (PW cA T) H ∧ va_D A (PW cA T) ∧ va_S A s.heap H locs ∧ lv_has ls 9 [(7, .int (nI v)), (6, .int (nI vc)), (4, .long d), (3, .int (nI i)), (1, .long d0), (0, .ref x)]) (fun N9 ih_71 H locs ls e_71 hd0 hI => ?_) hd0 ⟨0, (dn (dn (dn (dn d0 Sh) Bd) 0) Be), S, rfl, by omega, by unfold dSwi; rw [hz]; rfl, (eqA.rf (S := S) (ak := ak)), hP, hD, hS, lv_sub hl [0, 1, 2, 5, 4, 3] rfl⟩
    obtain ⟨v, d, T, hn9, hle_v, hF_d, hE, hP, hD, hS, hl⟩ := hI
    have htT : ∀ w ∈ TT, w.before _ (s.setDrawn e_71) = true := dr_words htT0 e_71
    have hTB : TBok (s.setDrawn e_71) := TBok.same (u := s) (U := s.setDrawn e_71) rfl (Vm.Alike.refl s.vm) hTB0
    have hK : va_K D vwCl (ty6 cA) (s.setDrawn e_71) := hK0
    have hown : (s.setDrawn e_71).vm.findClass RX5 = some m.cls := hown0
    have hx5_12 := hE.o hx5
    have hak_12 := hE.o hak
    have hR_12 := hE.okR hak hR
    have hq0_12 := (hE.q x 0).trans hq0
    have hq1_12 := (hE.q x 1).trans hq1
    have hja_12 := (hE.p ar j).trans hja
    refine lv_iload hx hb dX5_withSwitch_71 (lv_at hl 0 rfl) ?_
    refine lv_iload hx hb dX5_withSwitch_73 (lv_at hl 1 rfl) ?_
    refine lv_icmp_ge (tgt := 148) hx hb dX5_withSwitch_75 (by decide) (fun c_13 => ?_) (fun c_13 => ?_)
    · replace c_13 := (nI_leI (a := vc) (b := v) (by omega) (by omega)).mp c_13
      refine lv_lload hx hb dX5_withSwitch_148 (lv_at hl 2 rfl) ?_
      refine W.endD hd0 ?_
      exact W.lret (v := d) hx hb hr (fun t ht hW => ⟨⟨d, T, rfl, ⟨by rw [hF_d, show vc - v = 0 by omega]; rfl, hE⟩, by rw [ht]; exact hP, va_K.moved hW.alike hK, hD⟩, hS.F ht⟩) hS.2.2 dX5_withSwitch_150
    · replace c_13 : ¬ (vc ≤ v) := fun h9 => c_13 ((nI_leI (a := vc) (b := v) (by omega) (by omega)).mpr h9)
      have hv : v < vc := by omega
      refine lv_lload hx hb dX5_withSwitch_78 (lv_at hl 2 rfl) ?_
      refine lv_aload_n hx hb dX5_withSwitch_80 rfl (lv_at hl 5 rfl) ?_
      refine lv_iload_n hx hb dX5_withSwitch_81 rfl (lv_at hl 3 rfl) ?_
      refine lv_iload hx hb dX5_withSwitch_82 (lv_at hl 0 rfl) ?_
      refine kc_i (va_runV (As := [.int (nI i), .int (nI v)]) (rest := [.long d]) ⟨hx, hb, hml, hown, htT⟩ (c_weight l D cA _ T x hx5_12 ar hq0_12 ak hq1_12 hak_12 hR_12 j hj a hja_12 (nI i) ((hE.sw _).trans hsw) (nI v) (kOut_sw hv (by omega) ((hE.i hak (hR.2 j hj a hja).1.1 (by decide) 2).trans h2v))) (cwV 2 htT (kg_V m_ml_X5_289 m_im_X5_weight m_sl_X5_weight m_in_X5 m_cd_X5_weight) rfl rfl rfl (by decide +kernel) ⟨Nat.le_of_ble_eq_true rfl, Nat.le_of_ble_eq_true rfl⟩) (kp_V hK hP hD hTB (kp_rc hK hP hx5_12 (Nat.le_of_ble_eq_true rfl) rfl)) rfl rfl hl.1 rfl (lv_room (Nat.le_of_ble_eq_true rfl)) dX5_withSwitch_84 ⟨Nat.le_of_ble_eq_true rfl, Nat.le_of_ble_eq_true rfl⟩) hD hS hA (fun r_14 x_14 H locs hq_14 hP hD hS => ?_)
      rw [hq_14.2] at hP hD
      rw [show r_14 = We v from hq_14.1.trans ((hDG.2 _ hE).2.2.2.2.1 v (by omega))]
      refine lv_i2l (v := (We v).toInt64) hx hb dX5_withSwitch_87 rfl ?_
      refine kc_l (va_runS (As := [.long d, .long ((We v).toInt64)]) (rest := []) ⟨hx, hb, hml, hown, htT⟩ (c_withNext l D cA _ T d ((We v).toInt64)) (cwS 2 htT (kg_S m_ml_X5_249 m_st_X5_withNext m_in_X5 m_cd_X5_withNext) rfl rfl rfl (by decide +kernel) ⟨Nat.le_of_ble_eq_true rfl, Nat.le_of_ble_eq_true rfl⟩) (kp_S hK hP hD hTB) rfl rfl hl.1 rfl (lv_room (Nat.le_of_ble_eq_true rfl)) dX5_withSwitch_88 ⟨Nat.le_of_ble_eq_true rfl, Nat.le_of_ble_eq_true rfl⟩) hD hS hA (fun r_15 x_15 H locs hq_15 hP hD hS => ?_)
      rw [show r_15 = dn d (We v) from hq_15.1]
      rw [hq_15.2] at hP hD
      refine lv_lstore (lv' := [(4, .long (dn d (We v))), (7, .int (nI v)), (6, .int (nI vc)), (3, .int (nI i)), (1, .long d0), (0, .ref x)]) hx hb dX5_withSwitch_91 hl (by decide) rfl (fun ls hl => ?_)
      refine lv_iconst (v := 0) hx hb dX5_withSwitch_93 (by decide) ?_
      refine lv_istore (lv' := [(8, .int 0), (4, .long (dn d (We v))), (7, .int (nI v)), (6, .int (nI vc)), (3, .int (nI i)), (1, .long d0), (0, .ref x)]) hx hb dX5_withSwitch_94 hl (by decide) rfl (fun ls hl => ?_)
      refine kz_loopD 96 (fun N9 H locs ls => ∃ (q : Nat) (d2 : Int64) (T : Pool), N9 = 4 - q ∧ q ≤ 4 ∧ lfo (fun q d => dn d (To v q)) 4 0 (dn d (We v)) = lfo (fun q d => dn d (To v q)) (4 - q) q d2 ∧ eqA S T ak ∧ va_P D vwCl (PW cA T) H ∧ va_D A (PW cA T) ∧ va_S A s.heap H locs ∧ lv_has ls 9 [(8, .int (nI q)), (7, .int (nI v)), (6, .int (nI vc)), (4, .long d2), (3, .int (nI i)), (1, .long d0), (0, .ref x)]) (fun N9 ih_96 H locs ls e_96 hd0 hI => ?_) hd0 ⟨0, (dn d (We v)), T, rfl, by omega, rfl, hE, hP, hD, hS, lv_sub hl [0, 2, 3, 1, 4, 5, 6] rfl⟩
      obtain ⟨q, d2, T, hn9, hle_q, hF_d2, hE, hP, hD, hS, hl⟩ := hI
      have htT : ∀ w ∈ TT, w.before _ (s.setDrawn e_96) = true := dr_words htT0 e_96
      have hTB : TBok (s.setDrawn e_96) := TBok.same (u := s) (U := s.setDrawn e_96) rfl (Vm.Alike.refl s.vm) hTB0
      have hK : va_K D vwCl (ty6 cA) (s.setDrawn e_96) := hK0
      have hown : (s.setDrawn e_96).vm.findClass RX5 = some m.cls := hown0
      have hx5_16 := hE.o hx5
      have hak_16 := hE.o hak
      have hR_16 := hE.okR hak hR
      have hq0_16 := (hE.q x 0).trans hq0
      have hq1_16 := (hE.q x 1).trans hq1
      have hja_16 := (hE.p ar j).trans hja
      refine lv_iload hx hb dX5_withSwitch_96 (lv_at hl 0 rfl) ?_
      refine lv_iconst (v := 3) hx hb dX5_withSwitch_98 (by decide) ?_
      refine lv_icmp_gt (tgt := 125) hx hb dX5_withSwitch_99 (by decide) (fun c_17 => ?_) (fun c_17 => ?_)
      · replace c_17 := (nI_ltI (a := 3) (b := q) (by omega) (by omega)).mp c_17
        refine lv_lload hx hb dX5_withSwitch_125 (lv_at hl 3 rfl) ?_
        refine lv_aload_n hx hb dX5_withSwitch_127 rfl (lv_at hl 6 rfl) ?_
        refine lv_iload_n hx hb dX5_withSwitch_128 rfl (lv_at hl 4 rfl) ?_
        refine lv_iload hx hb dX5_withSwitch_129 (lv_at hl 1 rfl) ?_
        refine lv_bipush (v := 20) hx hb dX5_withSwitch_131 (by decide) ?_
        refine kc_i (va_runV (As := [.int (nI i), .int (nI v), .int 20]) (rest := [.long d2]) ⟨hx, hb, hml, hown, htT⟩ (c_reachX l D cA _ T x hx5_16 ar hq0_16 ak hq1_16 hak_16 hR_16 j hj a hja_16 (nI i) ((hE.sw _).trans hsw) (nI v) (kOut_sw hv (by omega) ((hE.i hak (hR.2 j hj a hja).1.1 (by decide) 2).trans h2v)) 20 (by omega) (by omega) (by decide) F (fun U hU => (hDG.2 U (hE.tr hU)).2.2.2.2.2.2)) (cwV 3 htT (kg_V m_ml_X5_296 m_im_X5_reach m_sl_X5_reach m_in_X5 m_cd_X5_reach) rfl rfl rfl (by decide +kernel) ⟨Nat.le_of_ble_eq_true rfl, Nat.le_of_ble_eq_true rfl⟩) (kp_V hK hP hD hTB (kp_rc hK hP hx5_16 (Nat.le_of_ble_eq_true rfl) rfl)) rfl rfl hl.1 rfl (lv_room (Nat.le_of_ble_eq_true rfl)) dX5_withSwitch_133 ⟨Nat.le_of_ble_eq_true rfl, Nat.le_of_ble_eq_true rfl⟩) hD hS hA (fun r_18 x_18 H locs hq_18 hP hD hS => ?_)
        have hE_18 := hE.tr hq_18.2
        have hx5_19 := hE_18.o hx5
        have hak_19 := hE_18.o hak
        have hR_19 := hE_18.okR hak hR
        have hq0_19 := (hE_18.q x 0).trans hq0
        have hq1_19 := (hE_18.q x 1).trans hq1
        have hja_19 := (hE_18.p ar j).trans hja
        rw [show r_18 = rCnt (fun u => if F u = nI v then 1 else 0) 20 0 0 from hq_18.1]
        refine lv_i2l (v := (rCnt (fun u => if F u = nI v then 1 else 0) 20 0 0).toInt64) hx hb dX5_withSwitch_136 rfl ?_
        refine kc_l (va_runS (As := [.long d2, .long ((rCnt (fun u => if F u = nI v then 1 else 0) 20 0 0).toInt64)]) (rest := []) ⟨hx, hb, hml, hown, htT⟩ (c_withNext l D cA _ x_18 d2 ((rCnt (fun u => if F u = nI v then 1 else 0) 20 0 0).toInt64)) (cwS 2 htT (kg_S m_ml_X5_249 m_st_X5_withNext m_in_X5 m_cd_X5_withNext) rfl rfl rfl (by decide +kernel) ⟨Nat.le_of_ble_eq_true rfl, Nat.le_of_ble_eq_true rfl⟩) (kp_S hK hP hD hTB) rfl rfl hl.1 rfl (lv_room (Nat.le_of_ble_eq_true rfl)) dX5_withSwitch_137 ⟨Nat.le_of_ble_eq_true rfl, Nat.le_of_ble_eq_true rfl⟩) hD hS hA (fun r_20 x_20 H locs hq_20 hP hD hS => ?_)
        rw [show r_20 = dn d2 (rCnt (fun u => if F u = nI v then 1 else 0) 20 0 0) from hq_20.1]
        rw [hq_20.2] at hP hD
        refine lv_lstore (lv' := [(4, .long (dn d2 (rCnt (fun u => if F u = nI v then 1 else 0) 20 0 0))), (8, .int (nI q)), (7, .int (nI v)), (6, .int (nI vc)), (3, .int (nI i)), (1, .long d0), (0, .ref x)]) hx hb dX5_withSwitch_140 hl (by decide) rfl (fun ls hl => ?_)
        refine lv_iinc (v := nI (v + 1)) (lv' := [(7, .int (nI (v + 1))), (4, .long (dn d2 (rCnt (fun u => if F u = nI v then 1 else 0) 20 0 0))), (8, .int (nI q)), (6, .int (nI vc)), (3, .int (nI i)), (1, .long d0), (0, .ref x)]) hx hb dX5_withSwitch_142 hl (k := 2) rfl (nI_1 _) (by decide) rfl (fun ls hl => ?_)
        refine lv_goto (tgt := 71) hx hb dX5_withSwitch_145 (by decide) ?_
        have hl := lv_sub hl [0, 3, 1, 4, 5, 6] rfl
        have e_q : lfo (fun q d => dn d (To v q)) 4 0 (dn d (We v)) = d2 := by rw [hF_d2, show 4 - q = 0 by omega]; rfl
        exact ih_71 _ (by omega) H locs ls e_96 hd0 ⟨v + 1, _, x_18, rfl, by omega, by rw [hF_d, show vc - v = (vc - (v + 1)) + 1 by omega, lfo_s]; show lfo _ _ _ (dn (lfo (fun q d => dn d (To v q)) 4 0 (dn d (We v))) (rCnt (fun u => if F u = nI v then 1 else 0) 20 0 0)) = _; rw [e_q], hE_18, hP, hD, hS, hl⟩
      · replace c_17 : ¬ (3 < q) := fun h9 => c_17 ((nI_ltI (a := 3) (b := q) (by omega) (by omega)).mpr h9)
        refine lv_lload hx hb dX5_withSwitch_102 (lv_at hl 3 rfl) ?_
        refine lv_aload_n hx hb dX5_withSwitch_104 rfl (lv_at hl 6 rfl) ?_
        refine lv_iload_n hx hb dX5_withSwitch_105 rfl (lv_at hl 4 rfl) ?_
        refine lv_iload hx hb dX5_withSwitch_106 (lv_at hl 1 rfl) ?_
        refine lv_iload hx hb dX5_withSwitch_108 (lv_at hl 0 rfl) ?_
        refine kc_i (va_runV (As := [.int (nI i), .int (nI v), .int (nI q)]) (rest := [.long d2]) ⟨hx, hb, hml, hown, htT⟩ (c_toldX l D cA _ T x hx5_16 ar hq0_16 ak hq1_16 hak_16 hR_16 j hj a hja_16 (nI i) ((hE.sw _).trans hsw) (nI v) (kOut_sw hv (by omega) ((hE.i hak (hR.2 j hj a hja).1.1 (by decide) 2).trans h2v)) q (by omega)) (cwV 3 htT (kg_V m_ml_X5_292 m_im_X5_told m_sl_X5_told m_in_X5 m_cd_X5_told) rfl rfl rfl (by decide +kernel) ⟨Nat.le_of_ble_eq_true rfl, Nat.le_of_ble_eq_true rfl⟩) (kp_V hK hP hD hTB (kp_rc hK hP hx5_16 (Nat.le_of_ble_eq_true rfl) rfl)) rfl rfl hl.1 rfl (lv_room (Nat.le_of_ble_eq_true rfl)) dX5_withSwitch_110 ⟨Nat.le_of_ble_eq_true rfl, Nat.le_of_ble_eq_true rfl⟩) hD hS hA (fun r_21 x_21 H locs hq_21 hP hD hS => ?_)
        rw [hq_21.2] at hP hD
        rw [show r_21 = To v q from hq_21.1.trans ((hDG.2 _ hE).2.2.2.2.2.1 v q (by omega) (by omega))]
        refine lv_i2l (v := (To v q).toInt64) hx hb dX5_withSwitch_113 rfl ?_
        refine kc_l (va_runS (As := [.long d2, .long ((To v q).toInt64)]) (rest := []) ⟨hx, hb, hml, hown, htT⟩ (c_withNext l D cA _ T d2 ((To v q).toInt64)) (cwS 2 htT (kg_S m_ml_X5_249 m_st_X5_withNext m_in_X5 m_cd_X5_withNext) rfl rfl rfl (by decide +kernel) ⟨Nat.le_of_ble_eq_true rfl, Nat.le_of_ble_eq_true rfl⟩) (kp_S hK hP hD hTB) rfl rfl hl.1 rfl (lv_room (Nat.le_of_ble_eq_true rfl)) dX5_withSwitch_114 ⟨Nat.le_of_ble_eq_true rfl, Nat.le_of_ble_eq_true rfl⟩) hD hS hA (fun r_22 x_22 H locs hq_22 hP hD hS => ?_)
        rw [show r_22 = dn d2 (To v q) from hq_22.1]
        rw [hq_22.2] at hP hD
        refine lv_lstore (lv' := [(4, .long (dn d2 (To v q))), (8, .int (nI q)), (7, .int (nI v)), (6, .int (nI vc)), (3, .int (nI i)), (1, .long d0), (0, .ref x)]) hx hb dX5_withSwitch_117 hl (by decide) rfl (fun ls hl => ?_)
        refine lv_iinc (v := nI (q + 1)) (lv' := [(8, .int (nI (q + 1))), (4, .long (dn d2 (To v q))), (7, .int (nI v)), (6, .int (nI vc)), (3, .int (nI i)), (1, .long d0), (0, .ref x)]) hx hb dX5_withSwitch_119 hl (k := 1) rfl (nI_1 _) (by decide) rfl (fun ls hl => ?_)
        refine lv_goto (tgt := 96) hx hb dX5_withSwitch_122 (by decide) ?_
        have hl := lv_sub hl [0, 2, 3, 1, 4, 5, 6] rfl
        exact ih_96 _ (by omega) H locs ls e_96 hd0 ⟨q + 1, _, T, rfl, by omega, by rw [hF_d2, show 4 - q = (4 - (q + 1)) + 1 by omega, lfo_s] <;> rfl, hE, hP, hD, hS, hl⟩
  · rw [show r_6 = 1 from (hq_6.1.trans (hDG.2 _ (eqA.rf (S := S) (ak := ak))).2.2.1).trans hz]
    refine lv_if_eq (tgt := 39) hx hb dX5_withSwitch_32 (by decide) (fun c_23 => absurd c_23 (by decide)) (fun _ => ?_)
    refine lv_lconst (v := 1) hx hb dX5_withSwitch_35 (by decide) ?_
    refine lv_goto (tgt := 40) hx hb dX5_withSwitch_36 (by decide) ?_
    refine kc_l (va_runS (As := [.long (dn (dn d0 Sh) Bd), .long 1]) (rest := []) ⟨hx, hb, hml, hown, htT⟩ (c_withNext l D cA _ S (dn (dn d0 Sh) Bd) 1) (cwS 2 htT (kg_S m_ml_X5_249 m_st_X5_withNext m_in_X5 m_cd_X5_withNext) rfl rfl rfl (by decide +kernel) ⟨Nat.le_of_ble_eq_true rfl, Nat.le_of_ble_eq_true rfl⟩) (kp_S hK hP hD hTB) rfl rfl hl.1 rfl (lv_room (Nat.le_of_ble_eq_true rfl)) dX5_withSwitch_40 ⟨Nat.le_of_ble_eq_true rfl, Nat.le_of_ble_eq_true rfl⟩) hD hS hA (fun r_24 x_24 H locs hq_24 hP hD hS => ?_)
    rw [show r_24 = dn (dn (dn d0 Sh) Bd) 1 from hq_24.1]
    rw [hq_24.2] at hP hD
    refine lv_lstore (lv' := [(4, .long (dn (dn (dn d0 Sh) Bd) 1)), (0, .ref x), (1, .long d0), (3, .int (nI i))]) hx hb dX5_withSwitch_43 hl (by decide) rfl (fun ls hl => ?_)
    refine lv_lload hx hb dX5_withSwitch_45 (lv_at hl 0 rfl) ?_
    refine lv_aload_n hx hb dX5_withSwitch_47 rfl (lv_at hl 1 rfl) ?_
    refine lv_iload_n hx hb dX5_withSwitch_48 rfl (lv_at hl 3 rfl) ?_
    refine kcD_i hd0 (va_runV_D (As := [.int (nI i)]) (rest := [.long (dn (dn (dn d0 Sh) Bd) 1)]) ⟨hx, hb, hml, hown, htT⟩ (c_bestX l D cA _ S x hx5_1 ar hq0_1 ak hq1_1 hak_1 hR_1 j hj a hja_1 (nI i) (((eqA.rf (S := S) (ak := ak)).sw _).trans hsw) ) (cwV 1 htT (kg_V m_ml_X5_283 m_im_X5_best m_sl_X5_best m_in_X5 m_cd_X5_best) rfl rfl rfl (by decide +kernel) ⟨Nat.le_of_ble_eq_true rfl, Nat.le_of_ble_eq_true rfl⟩) (kp_V hK hP hD hTB (kp_rc hK hP hx5_1 (Nat.le_of_ble_eq_true rfl) rfl)) rfl rfl hl.1 rfl (lv_room (Nat.le_of_ble_eq_true rfl)) dX5_withSwitch_49 ⟨Nat.le_of_ble_eq_true rfl, Nat.le_of_ble_eq_true rfl⟩) hD hS hA (fun r_25 x_25 H locs hq_25 hP hD hS d_25 hd0 => ?_)
    have htT : ∀ w ∈ TT, w.before _ (s.setDrawn d_25) = true := dr_words htT0 d_25
    have hTB : TBok (s.setDrawn d_25) := TBok.same (u := s) (U := s.setDrawn d_25) rfl (Vm.Alike.refl s.vm) hTB0
    have hK : va_K D vwCl (ty6 cA) (s.setDrawn d_25) := hK0
    have hown : (s.setDrawn d_25).vm.findClass RX5 = some m.cls := hown0
    rw [hq_25.2] at hP hD
    rw [show r_25 = Be from hq_25.1.trans (hDG.2 _ (eqA.rf (S := S) (ak := ak))).2.2.2.1]
    refine lv_i2l (v := Be.toInt64) hx hb dX5_withSwitch_52 rfl ?_
    refine kc_l (va_runS (As := [.long (dn (dn (dn d0 Sh) Bd) 1), .long Be.toInt64]) (rest := []) ⟨hx, hb, hml, hown, htT⟩ (c_withNext l D cA _ S (dn (dn (dn d0 Sh) Bd) 1) Be.toInt64) (cwS 2 htT (kg_S m_ml_X5_249 m_st_X5_withNext m_in_X5 m_cd_X5_withNext) rfl rfl rfl (by decide +kernel) ⟨Nat.le_of_ble_eq_true rfl, Nat.le_of_ble_eq_true rfl⟩) (kp_S hK hP hD hTB) rfl rfl hl.1 rfl (lv_room (Nat.le_of_ble_eq_true rfl)) dX5_withSwitch_53 ⟨Nat.le_of_ble_eq_true rfl, Nat.le_of_ble_eq_true rfl⟩) hD hS hA (fun r_26 x_26 H locs hq_26 hP hD hS => ?_)
    rw [show r_26 = dn (dn (dn (dn d0 Sh) Bd) 1) Be from hq_26.1]
    rw [hq_26.2] at hP hD
    refine lv_lstore (lv' := [(4, .long (dn (dn (dn (dn d0 Sh) Bd) 1) Be)), (0, .ref x), (1, .long d0), (3, .int (nI i))]) hx hb dX5_withSwitch_56 hl (by decide) rfl (fun ls hl => ?_)
    refine lv_aload_n hx hb dX5_withSwitch_58 rfl (lv_at hl 1 rfl) ?_
    refine lv_iload_n hx hb dX5_withSwitch_59 rfl (lv_at hl 3 rfl) ?_
    refine kc_q (va_runV (As := [.int (nI i)]) (rest := []) ⟨hx, hb, hml, hown, htT⟩ (c_known l D cA _ S x hx5_1 ar hq0_1 hR_1.1 (nI i) a (((eqA.rf (S := S) (ak := ak)).sw _).trans hsw)) (cwV 1 htT (kg_V m_ml_X5_45 m_im_X5_known m_sl_X5_known m_in_X5 m_cd_X5_known) rfl rfl rfl (by decide +kernel) ⟨Nat.le_of_ble_eq_true rfl, Nat.le_of_ble_eq_true rfl⟩) (kp_V hK hP hD hTB (kp_rc hK hP hx5_1 (Nat.le_of_ble_eq_true rfl) rfl)) rfl rfl hl.1 rfl (lv_room (Nat.le_of_ble_eq_true rfl)) dX5_withSwitch_60 ⟨Nat.le_of_ble_eq_true rfl, Nat.le_of_ble_eq_true rfl⟩) hD hS hA (fun r_27 x_27 H locs hq_27 hP hD hS => ?_)
    rw [hq_27.1]
    rw [hq_27.2] at hP hD
    have h2v_27 : gI S a 2 = nI vc := ((eqA.rf (S := S) (ak := ak)).i hak (hR.2 j hj a hja).1.1 (by decide) 2).trans h2v
    refine kx_getiNv hx hb htT m_u_X3 hown hK hP ((hR_1.2 j hj a hja_1).1.1) (Nat.le_of_ble_eq_true rfl) rfl 2 (by decide) (by decide) rfl (hTB.use m_fl_X5_286) h2v_27 dX5_withSwitch_63 ?_
    refine lv_istore (lv' := [(6, .int (nI vc)), (4, .long (dn (dn (dn (dn d0 Sh) Bd) 1) Be)), (0, .ref x), (1, .long d0), (3, .int (nI i))]) hx hb dX5_withSwitch_66 hl (by decide) rfl (fun ls hl => ?_)
    refine lv_iconst (v := 0) hx hb dX5_withSwitch_68 (by decide) ?_
    refine lv_istore (lv' := [(7, .int 0), (6, .int (nI vc)), (4, .long (dn (dn (dn (dn d0 Sh) Bd) 1) Be)), (0, .ref x), (1, .long d0), (3, .int (nI i))]) hx hb dX5_withSwitch_69 hl (by decide) rfl (fun ls hl => ?_)
    refine kz_loopD 71 (fun N9 H locs ls => ∃ (v : Nat) (d : Int64) (T : Pool), N9 = vc - v ∧ v ≤ vc ∧ dSwi vc Sh Bd Tr Be We To F d0 = lfo (dVar We To F) (vc - v) v d ∧ eqA S T ak ∧ va_P D vwCl (PW cA T) H ∧ va_D A (PW cA T) ∧ va_S A s.heap H locs ∧ lv_has ls 9 [(7, .int (nI v)), (6, .int (nI vc)), (4, .long d), (3, .int (nI i)), (1, .long d0), (0, .ref x)]) (fun N9 ih_71 H locs ls e_71 hd0 hI => ?_) hd0 ⟨0, (dn (dn (dn (dn d0 Sh) Bd) 1) Be), S, rfl, by omega, by unfold dSwi; rw [hz]; rfl, (eqA.rf (S := S) (ak := ak)), hP, hD, hS, lv_sub hl [0, 1, 2, 5, 4, 3] rfl⟩
    obtain ⟨v, d, T, hn9, hle_v, hF_d, hE, hP, hD, hS, hl⟩ := hI
    have htT : ∀ w ∈ TT, w.before _ (s.setDrawn e_71) = true := dr_words htT0 e_71
    have hTB : TBok (s.setDrawn e_71) := TBok.same (u := s) (U := s.setDrawn e_71) rfl (Vm.Alike.refl s.vm) hTB0
    have hK : va_K D vwCl (ty6 cA) (s.setDrawn e_71) := hK0
    have hown : (s.setDrawn e_71).vm.findClass RX5 = some m.cls := hown0
    have hx5_28 := hE.o hx5
    have hak_28 := hE.o hak
    have hR_28 := hE.okR hak hR
    have hq0_28 := (hE.q x 0).trans hq0
    have hq1_28 := (hE.q x 1).trans hq1
    have hja_28 := (hE.p ar j).trans hja
    refine lv_iload hx hb dX5_withSwitch_71 (lv_at hl 0 rfl) ?_
    refine lv_iload hx hb dX5_withSwitch_73 (lv_at hl 1 rfl) ?_
    refine lv_icmp_ge (tgt := 148) hx hb dX5_withSwitch_75 (by decide) (fun c_29 => ?_) (fun c_29 => ?_)
    · replace c_29 := (nI_leI (a := vc) (b := v) (by omega) (by omega)).mp c_29
      refine lv_lload hx hb dX5_withSwitch_148 (lv_at hl 2 rfl) ?_
      refine W.endD hd0 ?_
      exact W.lret (v := d) hx hb hr (fun t ht hW => ⟨⟨d, T, rfl, ⟨by rw [hF_d, show vc - v = 0 by omega]; rfl, hE⟩, by rw [ht]; exact hP, va_K.moved hW.alike hK, hD⟩, hS.F ht⟩) hS.2.2 dX5_withSwitch_150
    · replace c_29 : ¬ (vc ≤ v) := fun h9 => c_29 ((nI_leI (a := vc) (b := v) (by omega) (by omega)).mpr h9)
      have hv : v < vc := by omega
      refine lv_lload hx hb dX5_withSwitch_78 (lv_at hl 2 rfl) ?_
      refine lv_aload_n hx hb dX5_withSwitch_80 rfl (lv_at hl 5 rfl) ?_
      refine lv_iload_n hx hb dX5_withSwitch_81 rfl (lv_at hl 3 rfl) ?_
      refine lv_iload hx hb dX5_withSwitch_82 (lv_at hl 0 rfl) ?_
      refine kc_i (va_runV (As := [.int (nI i), .int (nI v)]) (rest := [.long d]) ⟨hx, hb, hml, hown, htT⟩ (c_weight l D cA _ T x hx5_28 ar hq0_28 ak hq1_28 hak_28 hR_28 j hj a hja_28 (nI i) ((hE.sw _).trans hsw) (nI v) (kOut_sw hv (by omega) ((hE.i hak (hR.2 j hj a hja).1.1 (by decide) 2).trans h2v))) (cwV 2 htT (kg_V m_ml_X5_289 m_im_X5_weight m_sl_X5_weight m_in_X5 m_cd_X5_weight) rfl rfl rfl (by decide +kernel) ⟨Nat.le_of_ble_eq_true rfl, Nat.le_of_ble_eq_true rfl⟩) (kp_V hK hP hD hTB (kp_rc hK hP hx5_28 (Nat.le_of_ble_eq_true rfl) rfl)) rfl rfl hl.1 rfl (lv_room (Nat.le_of_ble_eq_true rfl)) dX5_withSwitch_84 ⟨Nat.le_of_ble_eq_true rfl, Nat.le_of_ble_eq_true rfl⟩) hD hS hA (fun r_30 x_30 H locs hq_30 hP hD hS => ?_)
      rw [hq_30.2] at hP hD
      rw [show r_30 = We v from hq_30.1.trans ((hDG.2 _ hE).2.2.2.2.1 v (by omega))]
      refine lv_i2l (v := (We v).toInt64) hx hb dX5_withSwitch_87 rfl ?_
      refine kc_l (va_runS (As := [.long d, .long ((We v).toInt64)]) (rest := []) ⟨hx, hb, hml, hown, htT⟩ (c_withNext l D cA _ T d ((We v).toInt64)) (cwS 2 htT (kg_S m_ml_X5_249 m_st_X5_withNext m_in_X5 m_cd_X5_withNext) rfl rfl rfl (by decide +kernel) ⟨Nat.le_of_ble_eq_true rfl, Nat.le_of_ble_eq_true rfl⟩) (kp_S hK hP hD hTB) rfl rfl hl.1 rfl (lv_room (Nat.le_of_ble_eq_true rfl)) dX5_withSwitch_88 ⟨Nat.le_of_ble_eq_true rfl, Nat.le_of_ble_eq_true rfl⟩) hD hS hA (fun r_31 x_31 H locs hq_31 hP hD hS => ?_)
      rw [show r_31 = dn d (We v) from hq_31.1]
      rw [hq_31.2] at hP hD
      refine lv_lstore (lv' := [(4, .long (dn d (We v))), (7, .int (nI v)), (6, .int (nI vc)), (3, .int (nI i)), (1, .long d0), (0, .ref x)]) hx hb dX5_withSwitch_91 hl (by decide) rfl (fun ls hl => ?_)
      refine lv_iconst (v := 0) hx hb dX5_withSwitch_93 (by decide) ?_
      refine lv_istore (lv' := [(8, .int 0), (4, .long (dn d (We v))), (7, .int (nI v)), (6, .int (nI vc)), (3, .int (nI i)), (1, .long d0), (0, .ref x)]) hx hb dX5_withSwitch_94 hl (by decide) rfl (fun ls hl => ?_)
      refine kz_loopD 96 (fun N9 H locs ls => ∃ (q : Nat) (d2 : Int64) (T : Pool), N9 = 4 - q ∧ q ≤ 4 ∧ lfo (fun q d => dn d (To v q)) 4 0 (dn d (We v)) = lfo (fun q d => dn d (To v q)) (4 - q) q d2 ∧ eqA S T ak ∧ va_P D vwCl (PW cA T) H ∧ va_D A (PW cA T) ∧ va_S A s.heap H locs ∧ lv_has ls 9 [(8, .int (nI q)), (7, .int (nI v)), (6, .int (nI vc)), (4, .long d2), (3, .int (nI i)), (1, .long d0), (0, .ref x)]) (fun N9 ih_96 H locs ls e_96 hd0 hI => ?_) hd0 ⟨0, (dn d (We v)), T, rfl, by omega, rfl, hE, hP, hD, hS, lv_sub hl [0, 2, 3, 1, 4, 5, 6] rfl⟩
      obtain ⟨q, d2, T, hn9, hle_q, hF_d2, hE, hP, hD, hS, hl⟩ := hI
      have htT : ∀ w ∈ TT, w.before _ (s.setDrawn e_96) = true := dr_words htT0 e_96
      have hTB : TBok (s.setDrawn e_96) := TBok.same (u := s) (U := s.setDrawn e_96) rfl (Vm.Alike.refl s.vm) hTB0
      have hK : va_K D vwCl (ty6 cA) (s.setDrawn e_96) := hK0
      have hown : (s.setDrawn e_96).vm.findClass RX5 = some m.cls := hown0
      have hx5_32 := hE.o hx5
      have hak_32 := hE.o hak
      have hR_32 := hE.okR hak hR
      have hq0_32 := (hE.q x 0).trans hq0
      have hq1_32 := (hE.q x 1).trans hq1
      have hja_32 := (hE.p ar j).trans hja
      refine lv_iload hx hb dX5_withSwitch_96 (lv_at hl 0 rfl) ?_
      refine lv_iconst (v := 3) hx hb dX5_withSwitch_98 (by decide) ?_
      refine lv_icmp_gt (tgt := 125) hx hb dX5_withSwitch_99 (by decide) (fun c_33 => ?_) (fun c_33 => ?_)
      · replace c_33 := (nI_ltI (a := 3) (b := q) (by omega) (by omega)).mp c_33
        refine lv_lload hx hb dX5_withSwitch_125 (lv_at hl 3 rfl) ?_
        refine lv_aload_n hx hb dX5_withSwitch_127 rfl (lv_at hl 6 rfl) ?_
        refine lv_iload_n hx hb dX5_withSwitch_128 rfl (lv_at hl 4 rfl) ?_
        refine lv_iload hx hb dX5_withSwitch_129 (lv_at hl 1 rfl) ?_
        refine lv_bipush (v := 20) hx hb dX5_withSwitch_131 (by decide) ?_
        refine kc_i (va_runV (As := [.int (nI i), .int (nI v), .int 20]) (rest := [.long d2]) ⟨hx, hb, hml, hown, htT⟩ (c_reachX l D cA _ T x hx5_32 ar hq0_32 ak hq1_32 hak_32 hR_32 j hj a hja_32 (nI i) ((hE.sw _).trans hsw) (nI v) (kOut_sw hv (by omega) ((hE.i hak (hR.2 j hj a hja).1.1 (by decide) 2).trans h2v)) 20 (by omega) (by omega) (by decide) F (fun U hU => (hDG.2 U (hE.tr hU)).2.2.2.2.2.2)) (cwV 3 htT (kg_V m_ml_X5_296 m_im_X5_reach m_sl_X5_reach m_in_X5 m_cd_X5_reach) rfl rfl rfl (by decide +kernel) ⟨Nat.le_of_ble_eq_true rfl, Nat.le_of_ble_eq_true rfl⟩) (kp_V hK hP hD hTB (kp_rc hK hP hx5_32 (Nat.le_of_ble_eq_true rfl) rfl)) rfl rfl hl.1 rfl (lv_room (Nat.le_of_ble_eq_true rfl)) dX5_withSwitch_133 ⟨Nat.le_of_ble_eq_true rfl, Nat.le_of_ble_eq_true rfl⟩) hD hS hA (fun r_34 x_34 H locs hq_34 hP hD hS => ?_)
        have hE_34 := hE.tr hq_34.2
        have hx5_35 := hE_34.o hx5
        have hak_35 := hE_34.o hak
        have hR_35 := hE_34.okR hak hR
        have hq0_35 := (hE_34.q x 0).trans hq0
        have hq1_35 := (hE_34.q x 1).trans hq1
        have hja_35 := (hE_34.p ar j).trans hja
        rw [show r_34 = rCnt (fun u => if F u = nI v then 1 else 0) 20 0 0 from hq_34.1]
        refine lv_i2l (v := (rCnt (fun u => if F u = nI v then 1 else 0) 20 0 0).toInt64) hx hb dX5_withSwitch_136 rfl ?_
        refine kc_l (va_runS (As := [.long d2, .long ((rCnt (fun u => if F u = nI v then 1 else 0) 20 0 0).toInt64)]) (rest := []) ⟨hx, hb, hml, hown, htT⟩ (c_withNext l D cA _ x_34 d2 ((rCnt (fun u => if F u = nI v then 1 else 0) 20 0 0).toInt64)) (cwS 2 htT (kg_S m_ml_X5_249 m_st_X5_withNext m_in_X5 m_cd_X5_withNext) rfl rfl rfl (by decide +kernel) ⟨Nat.le_of_ble_eq_true rfl, Nat.le_of_ble_eq_true rfl⟩) (kp_S hK hP hD hTB) rfl rfl hl.1 rfl (lv_room (Nat.le_of_ble_eq_true rfl)) dX5_withSwitch_137 ⟨Nat.le_of_ble_eq_true rfl, Nat.le_of_ble_eq_true rfl⟩) hD hS hA (fun r_36 x_36 H locs hq_36 hP hD hS => ?_)
        rw [show r_36 = dn d2 (rCnt (fun u => if F u = nI v then 1 else 0) 20 0 0) from hq_36.1]
        rw [hq_36.2] at hP hD
        refine lv_lstore (lv' := [(4, .long (dn d2 (rCnt (fun u => if F u = nI v then 1 else 0) 20 0 0))), (8, .int (nI q)), (7, .int (nI v)), (6, .int (nI vc)), (3, .int (nI i)), (1, .long d0), (0, .ref x)]) hx hb dX5_withSwitch_140 hl (by decide) rfl (fun ls hl => ?_)
        refine lv_iinc (v := nI (v + 1)) (lv' := [(7, .int (nI (v + 1))), (4, .long (dn d2 (rCnt (fun u => if F u = nI v then 1 else 0) 20 0 0))), (8, .int (nI q)), (6, .int (nI vc)), (3, .int (nI i)), (1, .long d0), (0, .ref x)]) hx hb dX5_withSwitch_142 hl (k := 2) rfl (nI_1 _) (by decide) rfl (fun ls hl => ?_)
        refine lv_goto (tgt := 71) hx hb dX5_withSwitch_145 (by decide) ?_
        have hl := lv_sub hl [0, 3, 1, 4, 5, 6] rfl
        have e_q : lfo (fun q d => dn d (To v q)) 4 0 (dn d (We v)) = d2 := by rw [hF_d2, show 4 - q = 0 by omega]; rfl
        exact ih_71 _ (by omega) H locs ls e_96 hd0 ⟨v + 1, _, x_34, rfl, by omega, by rw [hF_d, show vc - v = (vc - (v + 1)) + 1 by omega, lfo_s]; show lfo _ _ _ (dn (lfo (fun q d => dn d (To v q)) 4 0 (dn d (We v))) (rCnt (fun u => if F u = nI v then 1 else 0) 20 0 0)) = _; rw [e_q], hE_34, hP, hD, hS, hl⟩
      · replace c_33 : ¬ (3 < q) := fun h9 => c_33 ((nI_ltI (a := 3) (b := q) (by omega) (by omega)).mpr h9)
        refine lv_lload hx hb dX5_withSwitch_102 (lv_at hl 3 rfl) ?_
        refine lv_aload_n hx hb dX5_withSwitch_104 rfl (lv_at hl 6 rfl) ?_
        refine lv_iload_n hx hb dX5_withSwitch_105 rfl (lv_at hl 4 rfl) ?_
        refine lv_iload hx hb dX5_withSwitch_106 (lv_at hl 1 rfl) ?_
        refine lv_iload hx hb dX5_withSwitch_108 (lv_at hl 0 rfl) ?_
        refine kc_i (va_runV (As := [.int (nI i), .int (nI v), .int (nI q)]) (rest := [.long d2]) ⟨hx, hb, hml, hown, htT⟩ (c_toldX l D cA _ T x hx5_32 ar hq0_32 ak hq1_32 hak_32 hR_32 j hj a hja_32 (nI i) ((hE.sw _).trans hsw) (nI v) (kOut_sw hv (by omega) ((hE.i hak (hR.2 j hj a hja).1.1 (by decide) 2).trans h2v)) q (by omega)) (cwV 3 htT (kg_V m_ml_X5_292 m_im_X5_told m_sl_X5_told m_in_X5 m_cd_X5_told) rfl rfl rfl (by decide +kernel) ⟨Nat.le_of_ble_eq_true rfl, Nat.le_of_ble_eq_true rfl⟩) (kp_V hK hP hD hTB (kp_rc hK hP hx5_32 (Nat.le_of_ble_eq_true rfl) rfl)) rfl rfl hl.1 rfl (lv_room (Nat.le_of_ble_eq_true rfl)) dX5_withSwitch_110 ⟨Nat.le_of_ble_eq_true rfl, Nat.le_of_ble_eq_true rfl⟩) hD hS hA (fun r_37 x_37 H locs hq_37 hP hD hS => ?_)
        rw [hq_37.2] at hP hD
        rw [show r_37 = To v q from hq_37.1.trans ((hDG.2 _ hE).2.2.2.2.2.1 v q (by omega) (by omega))]
        refine lv_i2l (v := (To v q).toInt64) hx hb dX5_withSwitch_113 rfl ?_
        refine kc_l (va_runS (As := [.long d2, .long ((To v q).toInt64)]) (rest := []) ⟨hx, hb, hml, hown, htT⟩ (c_withNext l D cA _ T d2 ((To v q).toInt64)) (cwS 2 htT (kg_S m_ml_X5_249 m_st_X5_withNext m_in_X5 m_cd_X5_withNext) rfl rfl rfl (by decide +kernel) ⟨Nat.le_of_ble_eq_true rfl, Nat.le_of_ble_eq_true rfl⟩) (kp_S hK hP hD hTB) rfl rfl hl.1 rfl (lv_room (Nat.le_of_ble_eq_true rfl)) dX5_withSwitch_114 ⟨Nat.le_of_ble_eq_true rfl, Nat.le_of_ble_eq_true rfl⟩) hD hS hA (fun r_38 x_38 H locs hq_38 hP hD hS => ?_)
        rw [show r_38 = dn d2 (To v q) from hq_38.1]
        rw [hq_38.2] at hP hD
        refine lv_lstore (lv' := [(4, .long (dn d2 (To v q))), (8, .int (nI q)), (7, .int (nI v)), (6, .int (nI vc)), (3, .int (nI i)), (1, .long d0), (0, .ref x)]) hx hb dX5_withSwitch_117 hl (by decide) rfl (fun ls hl => ?_)
        refine lv_iinc (v := nI (q + 1)) (lv' := [(8, .int (nI (q + 1))), (4, .long (dn d2 (To v q))), (7, .int (nI v)), (6, .int (nI vc)), (3, .int (nI i)), (1, .long d0), (0, .ref x)]) hx hb dX5_withSwitch_119 hl (k := 1) rfl (nI_1 _) (by decide) rfl (fun ls hl => ?_)
        refine lv_goto (tgt := 96) hx hb dX5_withSwitch_122 (by decide) ?_
        have hl := lv_sub hl [0, 2, 3, 1, 4, 5, 6] rfl
        exact ih_96 _ (by omega) H locs ls e_96 hd0 ⟨q + 1, _, T, rfl, by omega, by rw [hF_d2, show 4 - q = (4 - (q + 1)) + 1 by omega, lfo_s] <;> rfl, hE, hP, hD, hS, hl⟩

set_option maxRecDepth 100000 in
set_option maxHeartbeats 4000000 in
/-- digest, exact -/
theorem c_digestX (l : Launch) (D : va_G) (cA : Nat → ClassId) (sz : Nat) (S : Pool) (x : Nat) (hx5 : isO S x 5) (ar : Nat) (hq0 : gQ S x 0 = some ar) (ak : Nat) (hq1 : gQ S x 1 = some ak) (hak : isO S ak 1) (hR : okR S ar) (n : Nat) (hn8 : n ≤ 8) (h2n : gI S x 2 = nI n)  (na : Nat) (h3n : gI S x 3 = nI na) (Lf : Nat → Int32) (hLf : ∀ U, eqA S U ak → ∀ z, z < 3 → cLeft U ar (nI z) 8 0 1000 = Lf z) (vcs : Nat → Nat) (Sh Bd Tr Be : Nat → Int32) (We : Nat → Nat → Int32) (To : Nat → Nat → Nat → Int32) (F Ge Wh Ar : Nat → Nat → Int32) (hrow : ∀ k, k < n → ∃ a, gP S ar k = some a) (hDG : ∀ k a, k < n → gP S ar k = some a → DG1 S x ar ak a (vcs k) (Sh k) (Bd k) (Tr k) (Be k) (We k) (To k) (F k) ∧ DG2 S x ar ak a (Ge k) (Wh k) (Ar k))  : MetD lw_cs l yX5_digest (Cond.code yX5_digest cX5_digest 5 (some .long) :: TT) ({ frames := 28, cells := 0, slots := 0, locals := 674 }) (va_Pc [.ref x] (kPre D cA (PW cA S) sz)) (va_Ql (fun (r_ : Int64) (x_ : Pool) => r_ = dAll n na Lf (fun k d => dSwi (vcs k) (Sh k) (Bd k) (Tr k) (Be k) (We k) (To k) (F k) d) Ge Wh Ar ∧ eqA S x_ ak) (fun x_ => kB D cA (va_A (PW cA S) sz) (PW cA x_)) (va_A (PW cA S) sz)) 0 0 (va_A (PW cA S) sz) := by
  refine MetD.ofW (cc := cX5_digest) (maxL := 5) (ret := (some .long)) (by decide) rfl ?_
  intro p e s m args below meth c s₁ B hml hv hd0
  obtain ⟨rfl, hsz, hP, hK, hD0, hTB⟩ := hv
  have hx := B.exec
  have hb := B.bytes
  have hr := B.returns
  have hts := atoms_spec (ws := Cond.code yX5_digest cX5_digest 5 (some .long) :: TT) B.pre
  have htT : ∀ w ∈ TT, w.before _ s = true := fun w h => hts w (List.mem_cons_of_mem _ h)
  have hown : s.vm.findClass RX5 = some m.cls := findClass_of_methodNamed B.named
  have hlocks := B.notSynchronized
  subst hsz
  have hD := hD0.self (sz := s.heap.size)
  generalize hAe : va_A (PW cA S) s.heap.size = A at hD ⊢
  have hA : ∀ q : Nat, s.heap.size ≤ q → A q := fun q h => by rw [← hAe]; exact Or.inr h
  have hS : va_S A s.heap s.heap [] := va_S.rf
  have hl := lv_entry ([.ref x]) (n := 5) (Nat.le_of_ble_eq_true rfl)
  rw [lg_entry_eq]
  generalize (lg_sl ([.ref x]) ++ List.replicate (5 - (lg_sl ([.ref x])).length) Slot.unset).toArray = ls at hl ⊢
  have hl : lv_has ls 5 [(0, .ref x)] := hl
  have htT0 := htT
  have hTB0 := hTB
  have hK0 := hK
  have hown0 := hown
  have htT : ∀ w ∈ TT, w.before _ (s.setDrawn s.drawn) = true := dr_words htT0 s.drawn
  have hTB : TBok (s.setDrawn s.drawn) := TBok.same (u := s) (U := s.setDrawn s.drawn) rfl (Vm.Alike.refl s.vm) hTB0
  have hK : va_K D vwCl (ty6 cA) (s.setDrawn s.drawn) := hK0
  have hown : (s.setDrawn s.drawn).vm.findClass RX5 = some m.cls := hown0
  have hx5_1 := (eqA.rf (S := S) (ak := ak)).o hx5
  have hak_1 := (eqA.rf (S := S) (ak := ak)).o hak
  have hR_1 := (eqA.rf (S := S) (ak := ak)).okR hak hR
  have hq0_1 := ((eqA.rf (S := S) (ak := ak)).q x 0).trans hq0
  have hq1_1 := ((eqA.rf (S := S) (ak := ak)).q x 1).trans hq1
  refine lv_ldc2 (v := 2687) hx hb hown (htT _ m_lc_X5_244) dX5_digest_0 ?_
  refine lv_aload_n hx hb dX5_digest_3 rfl (lv_at hl 0 rfl) ?_
  refine kc_i (va_runV (As := []) (rest := [.long 2687]) ⟨hx, hb, hml, hown, htT⟩ (c_switches l D cA _ S x hx5) (cwV 0 htT (kg_V m_ml_X5_246 m_im_X5_switches m_sl_X5_switches m_in_X5 m_cd_X5_switches) rfl rfl rfl (by decide +kernel) ⟨Nat.le_of_ble_eq_true rfl, Nat.le_of_ble_eq_true rfl⟩) (kp_V hK hP hD hTB (kp_rc hK hP hx5_1 (Nat.le_of_ble_eq_true rfl) rfl)) rfl rfl hl.1 rfl (lv_room (Nat.le_of_ble_eq_true rfl)) dX5_digest_4 ⟨Nat.le_of_ble_eq_true rfl, Nat.le_of_ble_eq_true rfl⟩) hD hS hA (fun r_2 x_2 H locs hq_2 hP hD hS => ?_)
  rw [show r_2 = nI n from hq_2.1.trans h2n]
  rw [hq_2.2] at hP hD
  refine lv_i2l (v := (nI n).toInt64) hx hb dX5_digest_7 rfl ?_
  refine kc_l (va_runS (As := [.long 2687, .long ((nI n).toInt64)]) (rest := []) ⟨hx, hb, hml, hown, htT⟩ (c_withNext l D cA _ S 2687 ((nI n).toInt64)) (cwS 2 htT (kg_S m_ml_X5_249 m_st_X5_withNext m_in_X5 m_cd_X5_withNext) rfl rfl rfl (by decide +kernel) ⟨Nat.le_of_ble_eq_true rfl, Nat.le_of_ble_eq_true rfl⟩) (kp_S hK hP hD hTB) rfl rfl hl.1 rfl (lv_room (Nat.le_of_ble_eq_true rfl)) dX5_digest_8 ⟨Nat.le_of_ble_eq_true rfl, Nat.le_of_ble_eq_true rfl⟩) hD hS hA (fun r_3 x_3 H locs hq_3 hP hD hS => ?_)
  rw [show r_3 = dn 2687 (nI n) from hq_3.1]
  rw [hq_3.2] at hP hD
  refine lv_lstore_n (lv' := [(1, .long (dn 2687 (nI n))), (0, .ref x)]) hx hb dX5_digest_11 rfl hl (by decide) rfl (fun ls hl => ?_)
  refine lv_lload_n hx hb dX5_digest_12 rfl (lv_at hl 0 rfl) ?_
  refine lv_aload_n hx hb dX5_digest_13 rfl (lv_at hl 1 rfl) ?_
  refine kc_i (va_runV (As := []) (rest := [.long (dn 2687 (nI n))]) ⟨hx, hb, hml, hown, htT⟩ (c_arms l D cA _ S x hx5) (cwV 0 htT (kg_V m_ml_X5_253 m_im_X5_arms m_sl_X5_arms m_in_X5 m_cd_X5_arms) rfl rfl rfl (by decide +kernel) ⟨Nat.le_of_ble_eq_true rfl, Nat.le_of_ble_eq_true rfl⟩) (kp_V hK hP hD hTB (kp_rc hK hP hx5_1 (Nat.le_of_ble_eq_true rfl) rfl)) rfl rfl hl.1 rfl (lv_room (Nat.le_of_ble_eq_true rfl)) dX5_digest_14 ⟨Nat.le_of_ble_eq_true rfl, Nat.le_of_ble_eq_true rfl⟩) hD hS hA (fun r_4 x_4 H locs hq_4 hP hD hS => ?_)
  rw [show r_4 = nI na from hq_4.1.trans h3n]
  rw [hq_4.2] at hP hD
  refine lv_i2l (v := (nI na).toInt64) hx hb dX5_digest_17 rfl ?_
  refine kc_l (va_runS (As := [.long (dn 2687 (nI n)), .long ((nI na).toInt64)]) (rest := []) ⟨hx, hb, hml, hown, htT⟩ (c_withNext l D cA _ S (dn 2687 (nI n)) ((nI na).toInt64)) (cwS 2 htT (kg_S m_ml_X5_249 m_st_X5_withNext m_in_X5 m_cd_X5_withNext) rfl rfl rfl (by decide +kernel) ⟨Nat.le_of_ble_eq_true rfl, Nat.le_of_ble_eq_true rfl⟩) (kp_S hK hP hD hTB) rfl rfl hl.1 rfl (lv_room (Nat.le_of_ble_eq_true rfl)) dX5_digest_18 ⟨Nat.le_of_ble_eq_true rfl, Nat.le_of_ble_eq_true rfl⟩) hD hS hA (fun r_5 x_5 H locs hq_5 hP hD hS => ?_)
  rw [show r_5 = dn (dn 2687 (nI n)) (nI na) from hq_5.1]
  rw [hq_5.2] at hP hD
  refine lv_lstore_n (lv' := [(1, .long (dn (dn 2687 (nI n)) (nI na))), (0, .ref x)]) hx hb dX5_digest_21 rfl hl (by decide) rfl (fun ls hl => ?_)
  refine lv_iconst (v := 0) hx hb dX5_digest_22 (by decide) ?_
  refine lv_istore_n (lv' := [(3, .int 0), (1, .long (dn (dn 2687 (nI n)) (nI na))), (0, .ref x)]) hx hb dX5_digest_23 rfl hl (by decide) rfl (fun ls hl => ?_)
  refine kz_loopD 24 (fun N9 H locs ls => ∃ (z : Nat) (dz : Int64) (T : Pool), N9 = 3 - z ∧ z ≤ 3 ∧ lfo (fun z d => dn d (Lf z)) 3 0 (dn (dn 2687 (nI n)) (nI na)) = lfo (fun z d => dn d (Lf z)) (3 - z) z dz ∧ eqA S T ak ∧ va_P D vwCl (PW cA T) H ∧ va_D A (PW cA T) ∧ va_S A s.heap H locs ∧ lv_has ls 5 [(3, .int (nI z)), (1, .long dz), (0, .ref x)]) (fun N9 ih_24 H locs ls e_24 hd0 hI => ?_) hd0 ⟨0, (dn (dn 2687 (nI n)) (nI na)), S, rfl, by omega, rfl, (eqA.rf (S := S) (ak := ak)), hP, hD, hS, lv_sub hl [0, 1, 2] rfl⟩
  obtain ⟨z, dz, T, hn9, hle_z, hF_dz, hE, hP, hD, hS, hl⟩ := hI
  have htT : ∀ w ∈ TT, w.before _ (s.setDrawn e_24) = true := dr_words htT0 e_24
  have hTB : TBok (s.setDrawn e_24) := TBok.same (u := s) (U := s.setDrawn e_24) rfl (Vm.Alike.refl s.vm) hTB0
  have hK : va_K D vwCl (ty6 cA) (s.setDrawn e_24) := hK0
  have hown : (s.setDrawn e_24).vm.findClass RX5 = some m.cls := hown0
  have hx5_6 := hE.o hx5
  have hak_6 := hE.o hak
  have hR_6 := hE.okR hak hR
  have hq0_6 := (hE.q x 0).trans hq0
  have hq1_6 := (hE.q x 1).trans hq1
  have h2n_7 : gI T x 2 = nI n := (hE.i hak hx5 (by decide) 2).trans h2n
  refine lv_iload_n hx hb dX5_digest_24 rfl (lv_at hl 0 rfl) ?_
  refine lv_iconst (v := 3) hx hb dX5_digest_25 (by decide) ?_
  refine lv_icmp_ge (tgt := 46) hx hb dX5_digest_26 (by decide) (fun c_8 => ?_) (fun c_8 => ?_)
  · replace c_8 := (nI_leI (a := 3) (b := z) (by omega) (by omega)).mp c_8
    refine lv_iconst (v := 0) hx hb dX5_digest_46 (by decide) ?_
    refine lv_istore_n (lv' := [(3, .int 0), (1, .long dz), (0, .ref x)]) hx hb dX5_digest_47 rfl hl (by decide) rfl (fun ls hl => ?_)
    have e_z : lfo (fun z d => dn d (Lf z)) 3 0 (dn (dn 2687 (nI n)) (nI na)) = dz := by rw [hF_dz, show 3 - z = 0 by omega]; rfl
    refine kz_loopD 48 (fun N9 H locs ls => ∃ (k : Nat) (dk : Int64) (T : Pool), N9 = n - k ∧ k ≤ n ∧ lfo (fun k d => dSwi (vcs k) (Sh k) (Bd k) (Tr k) (Be k) (We k) (To k) (F k) d) n 0 dz = lfo (fun k d => dSwi (vcs k) (Sh k) (Bd k) (Tr k) (Be k) (We k) (To k) (F k) d) (n - k) k dk ∧ eqA S T ak ∧ va_P D vwCl (PW cA T) H ∧ va_D A (PW cA T) ∧ va_S A s.heap H locs ∧ lv_has ls 5 [(3, .int (nI k)), (1, .long dk), (0, .ref x)]) (fun N9 ih_48 H locs ls e_48 hd0 hI => ?_) hd0 ⟨0, dz, T, rfl, by omega, rfl, hE, hP, hD, hS, lv_sub hl [0, 1, 2] rfl⟩
    obtain ⟨k, dk, T, hn9, hle_k, hF_dk, hE, hP, hD, hS, hl⟩ := hI
    have htT : ∀ w ∈ TT, w.before _ (s.setDrawn e_48) = true := dr_words htT0 e_48
    have hTB : TBok (s.setDrawn e_48) := TBok.same (u := s) (U := s.setDrawn e_48) rfl (Vm.Alike.refl s.vm) hTB0
    have hK : va_K D vwCl (ty6 cA) (s.setDrawn e_48) := hK0
    have hown : (s.setDrawn e_48).vm.findClass RX5 = some m.cls := hown0
    have hx5_9 := hE.o hx5
    have hak_9 := hE.o hak
    have hR_9 := hE.okR hak hR
    have hq0_9 := (hE.q x 0).trans hq0
    have hq1_9 := (hE.q x 1).trans hq1
    have h2n_10 : gI T x 2 = nI n := (hE.i hak hx5 (by decide) 2).trans h2n
    refine lv_iload_n hx hb dX5_digest_48 rfl (lv_at hl 0 rfl) ?_
    refine lv_aload_n hx hb dX5_digest_49 rfl (lv_at hl 2 rfl) ?_
    refine kx_getiv hx hb htT m_u_X5 hown hK hP hx5_9 (Nat.le_of_ble_eq_true rfl) rfl 2 (by decide) (by decide) rfl (htT _ m_fl_X5_33) h2n_10 dX5_digest_50 ?_
    refine lv_icmp_ge (tgt := 69) hx hb dX5_digest_53 (by decide) (fun c_11 => ?_) (fun c_11 => ?_)
    · replace c_11 := (nI_leI (a := n) (b := k) (by omega) (by omega)).mp c_11
      refine lv_iconst (v := 0) hx hb dX5_digest_69 (by decide) ?_
      refine lv_istore_n (lv' := [(3, .int 0), (1, .long dk), (0, .ref x)]) hx hb dX5_digest_70 rfl hl (by decide) rfl (fun ls hl => ?_)
      have e_k : lfo (fun k d => dSwi (vcs k) (Sh k) (Bd k) (Tr k) (Be k) (We k) (To k) (F k) d) n 0 dz = dk := by rw [hF_dk, show n - k = 0 by omega]; rfl
      refine kz_loopD 71 (fun N9 H locs ls => ∃ (u : Nat) (du : Int64) (T : Pool), N9 = 10 - u ∧ u ≤ 10 ∧ lfo (dUse n Ge Wh Ar) 10 0 dk = lfo (dUse n Ge Wh Ar) (10 - u) u du ∧ eqA S T ak ∧ va_P D vwCl (PW cA T) H ∧ va_D A (PW cA T) ∧ va_S A s.heap H locs ∧ lv_has ls 5 [(3, .int (nI u)), (1, .long du), (0, .ref x)]) (fun N9 ih_71 H locs ls e_71 hd0 hI => ?_) hd0 ⟨0, dk, T, rfl, by omega, rfl, hE, hP, hD, hS, lv_sub hl [0, 1, 2] rfl⟩
      obtain ⟨u, du, T, hn9, hle_u, hF_du, hE, hP, hD, hS, hl⟩ := hI
      have htT : ∀ w ∈ TT, w.before _ (s.setDrawn e_71) = true := dr_words htT0 e_71
      have hTB : TBok (s.setDrawn e_71) := TBok.same (u := s) (U := s.setDrawn e_71) rfl (Vm.Alike.refl s.vm) hTB0
      have hK : va_K D vwCl (ty6 cA) (s.setDrawn e_71) := hK0
      have hown : (s.setDrawn e_71).vm.findClass RX5 = some m.cls := hown0
      have hx5_12 := hE.o hx5
      have hak_12 := hE.o hak
      have hR_12 := hE.okR hak hR
      have hq0_12 := (hE.q x 0).trans hq0
      have hq1_12 := (hE.q x 1).trans hq1
      have h2n_13 : gI T x 2 = nI n := (hE.i hak hx5 (by decide) 2).trans h2n
      refine lv_iload_n hx hb dX5_digest_71 rfl (lv_at hl 0 rfl) ?_
      refine lv_bipush (v := 10) hx hb dX5_digest_72 (by decide) ?_
      refine lv_icmp_ge (tgt := 150) hx hb dX5_digest_74 (by decide) (fun c_14 => ?_) (fun c_14 => ?_)
      · replace c_14 := (nI_leI (a := 10) (b := u) (by omega) (by omega)).mp c_14
        refine lv_lload_n hx hb dX5_digest_150 rfl (lv_at hl 1 rfl) ?_
        refine W.endD hd0 ?_
        exact W.lret (v := du) hx hb hr (fun t ht hW => ⟨⟨du, T, rfl, ⟨by unfold dAll; rw [e_z, e_k, hF_du, show 10 - u = 0 by omega]; rfl, hE⟩, by rw [ht]; exact hP, va_K.moved hW.alike hK, hD⟩, hS.F ht⟩) hS.2.2 dX5_digest_151
      · replace c_14 : ¬ (10 ≤ u) := fun h9 => c_14 ((nI_leI (a := 10) (b := u) (by omega) (by omega)).mpr h9)
        refine lv_iconst (v := 0) hx hb dX5_digest_77 (by decide) ?_
        refine lv_istore (lv' := [(4, .int 0), (3, .int (nI u)), (1, .long du), (0, .ref x)]) hx hb dX5_digest_78 hl (by decide) rfl (fun ls hl => ?_)
        refine kz_loopD 80 (fun N9 H locs ls => ∃ (k : Nat) (dj : Int64) (T : Pool), N9 = n - k ∧ k ≤ n ∧ lfo (fun k d => dn (dn (dn d (Ge k u)) (Wh k u)) (Ar k u)) n 0 du = lfo (fun k d => dn (dn (dn d (Ge k u)) (Wh k u)) (Ar k u)) (n - k) k dj ∧ eqA S T ak ∧ va_P D vwCl (PW cA T) H ∧ va_D A (PW cA T) ∧ va_S A s.heap H locs ∧ lv_has ls 5 [(4, .int (nI k)), (3, .int (nI u)), (1, .long dj), (0, .ref x)]) (fun N9 ih_80 H locs ls e_80 hd0 hI => ?_) hd0 ⟨0, du, T, rfl, by omega, rfl, hE, hP, hD, hS, lv_sub hl [0, 1, 2, 3] rfl⟩
        obtain ⟨k, dj, T, hn9, hle_k, hF_dj, hE, hP, hD, hS, hl⟩ := hI
        have htT : ∀ w ∈ TT, w.before _ (s.setDrawn e_80) = true := dr_words htT0 e_80
        have hTB : TBok (s.setDrawn e_80) := TBok.same (u := s) (U := s.setDrawn e_80) rfl (Vm.Alike.refl s.vm) hTB0
        have hK : va_K D vwCl (ty6 cA) (s.setDrawn e_80) := hK0
        have hown : (s.setDrawn e_80).vm.findClass RX5 = some m.cls := hown0
        have hx5_15 := hE.o hx5
        have hak_15 := hE.o hak
        have hR_15 := hE.okR hak hR
        have hq0_15 := (hE.q x 0).trans hq0
        have hq1_15 := (hE.q x 1).trans hq1
        have h2n_16 : gI T x 2 = nI n := (hE.i hak hx5 (by decide) 2).trans h2n
        refine lv_iload hx hb dX5_digest_80 (lv_at hl 0 rfl) ?_
        refine lv_aload_n hx hb dX5_digest_82 rfl (lv_at hl 3 rfl) ?_
        refine kx_getiv hx hb htT m_u_X5 hown hK hP hx5_15 (Nat.le_of_ble_eq_true rfl) rfl 2 (by decide) (by decide) rfl (htT _ m_fl_X5_33) h2n_16 dX5_digest_83 ?_
        refine lv_icmp_ge (tgt := 144) hx hb dX5_digest_86 (by decide) (fun c_17 => ?_) (fun c_17 => ?_)
        · replace c_17 := (nI_leI (a := n) (b := k) (by omega) (by omega)).mp c_17
          refine lv_iinc (v := nI (u + 1)) (lv' := [(3, .int (nI (u + 1))), (4, .int (nI k)), (1, .long dj), (0, .ref x)]) hx hb dX5_digest_144 hl (k := 1) rfl (nI_1 _) (by decide) rfl (fun ls hl => ?_)
          refine lv_goto (tgt := 71) hx hb dX5_digest_147 (by decide) ?_
          have hl := lv_sub hl [0, 2, 3] rfl
          have e_j : lfo (fun k d => dn (dn (dn d (Ge k u)) (Wh k u)) (Ar k u)) n 0 du = dj := by rw [hF_dj, show n - k = 0 by omega]; rfl
          exact ih_71 _ (by omega) H locs ls e_80 hd0 ⟨u + 1, _, T, rfl, by omega, by rw [hF_du, show 10 - u = (10 - (u + 1)) + 1 by omega, lfo_s]; show lfo _ _ _ (lfo (fun k d => dn (dn (dn d (Ge k u)) (Wh k u)) (Ar k u)) n 0 du) = _; rw [e_j], hE, hP, hD, hS, hl⟩
        · replace c_17 : ¬ (n ≤ k) := fun h9 => c_17 ((nI_leI (a := n) (b := k) (by omega) (by omega)).mpr h9)
          obtain ⟨a, hja⟩ := hrow k (by omega)
          have hj : k < 8 := by omega
          have hsw : kSw S ar (nI k) = some a := (kSw_at hj).trans hja
          have hja_15 := (hE.p ar k).trans hja
          refine lv_lload_n hx hb dX5_digest_89 rfl (lv_at hl 2 rfl) ?_
          refine lv_aload_n hx hb dX5_digest_90 rfl (lv_at hl 3 rfl) ?_
          refine lv_iload hx hb dX5_digest_91 (lv_at hl 0 rfl) ?_
          refine lv_iload_n hx hb dX5_digest_93 rfl (lv_at hl 1 rfl) ?_
          refine lv_iload_n hx hb dX5_digest_94 rfl (lv_at hl 1 rfl) ?_
          refine lv_bipush (v := 9) hx hb dX5_digest_95 (by decide) ?_
          refine lv_iload_n hx hb dX5_digest_97 rfl (lv_at hl 1 rfl) ?_
          refine lv_isub hx hb dX5_digest_98 ?_
          refine kc_i (va_runV (As := [.int (nI k), .int (nI u), .int (nI u), .int (9 - (nI u))]) (rest := [.long dj]) ⟨hx, hb, hml, hown, htT⟩ (c_gets l D cA _ T x hx5_15 ar hq0_15 ak hq1_15 hak_15 hR_15 k hj a hja_15 (nI k) ((hE.sw _).trans hsw) (nI u) (nI u) (9 - nI u) (kOut_9 u (by omega)).1 (kOut_9 u (by omega)).2.1 (kOut_9 u (by omega)).2.2) (cwV 4 htT (kg_V m_ml_X5_263 m_im_X5_gets m_sl_X5_gets m_in_X5 m_cd_X5_gets) rfl rfl rfl (by decide +kernel) ⟨Nat.le_of_ble_eq_true rfl, Nat.le_of_ble_eq_true rfl⟩) (kp_V hK hP hD hTB (kp_rc hK hP hx5_15 (Nat.le_of_ble_eq_true rfl) rfl)) rfl rfl hl.1 rfl (lv_room (Nat.le_of_ble_eq_true rfl)) dX5_digest_99 ⟨Nat.le_of_ble_eq_true rfl, Nat.le_of_ble_eq_true rfl⟩) hD hS hA (fun r_18 x_18 H locs hq_18 hP hD hS => ?_)
          have hE_18 : eqA S x_18 ak := by rw [hq_18.2]; exact hE.tr eqA.bec
          have hx5_19 := hE_18.o hx5
          have hak_19 := hE_18.o hak
          have hR_19 := hE_18.okR hak hR
          have hq0_19 := (hE_18.q x 0).trans hq0
          have hq1_19 := (hE_18.q x 1).trans hq1
          have hja_19 := (hE_18.p ar k).trans hja
          rw [show r_18 = Ge k u from hq_18.1.trans ((hDG k a (by omega) hja).2 _ hE u (by omega)).1]
          refine lv_i2l (v := (Ge k u).toInt64) hx hb dX5_digest_102 rfl ?_
          refine kc_l (va_runS (As := [.long dj, .long ((Ge k u).toInt64)]) (rest := []) ⟨hx, hb, hml, hown, htT⟩ (c_withNext l D cA _ x_18 dj ((Ge k u).toInt64)) (cwS 2 htT (kg_S m_ml_X5_249 m_st_X5_withNext m_in_X5 m_cd_X5_withNext) rfl rfl rfl (by decide +kernel) ⟨Nat.le_of_ble_eq_true rfl, Nat.le_of_ble_eq_true rfl⟩) (kp_S hK hP hD hTB) rfl rfl hl.1 rfl (lv_room (Nat.le_of_ble_eq_true rfl)) dX5_digest_103 ⟨Nat.le_of_ble_eq_true rfl, Nat.le_of_ble_eq_true rfl⟩) hD hS hA (fun r_20 x_20 H locs hq_20 hP hD hS => ?_)
          rw [show r_20 = dn dj (Ge k u) from hq_20.1]
          rw [hq_20.2] at hP hD
          refine lv_lstore_n (lv' := [(1, .long (dn dj (Ge k u))), (4, .int (nI k)), (3, .int (nI u)), (0, .ref x)]) hx hb dX5_digest_106 rfl hl (by decide) rfl (fun ls hl => ?_)
          refine lv_lload_n hx hb dX5_digest_107 rfl (lv_at hl 0 rfl) ?_
          refine lv_aload_n hx hb dX5_digest_108 rfl (lv_at hl 3 rfl) ?_
          refine lv_iload hx hb dX5_digest_109 (lv_at hl 1 rfl) ?_
          refine lv_iload_n hx hb dX5_digest_111 rfl (lv_at hl 2 rfl) ?_
          refine lv_iload_n hx hb dX5_digest_112 rfl (lv_at hl 2 rfl) ?_
          refine lv_bipush (v := 9) hx hb dX5_digest_113 (by decide) ?_
          refine lv_iload_n hx hb dX5_digest_115 rfl (lv_at hl 2 rfl) ?_
          refine lv_isub hx hb dX5_digest_116 ?_
          refine kc_i (va_runV (As := [.int (nI k), .int (nI u), .int (nI u), .int (9 - (nI u))]) (rest := [.long (dn dj (Ge k u))]) ⟨hx, hb, hml, hown, htT⟩ (c_why l D cA _ x_18 x hx5_19 ar hq0_19 ak hq1_19 hak_19 hR_19 k hj a hja_19 (nI k) ((hE_18.sw _).trans hsw) (nI u) (nI u) (9 - nI u) (kOut_9 u (by omega)).1 (kOut_9 u (by omega)).2.1 (kOut_9 u (by omega)).2.2) (cwV 4 htT (kg_V m_ml_X5_267 m_im_X5_why m_sl_X5_why m_in_X5 m_cd_X5_why) rfl rfl rfl (by decide +kernel) ⟨Nat.le_of_ble_eq_true rfl, Nat.le_of_ble_eq_true rfl⟩) (kp_V hK hP hD hTB (kp_rc hK hP hx5_19 (Nat.le_of_ble_eq_true rfl) rfl)) rfl rfl hl.1 rfl (lv_room (Nat.le_of_ble_eq_true rfl)) dX5_digest_117 ⟨Nat.le_of_ble_eq_true rfl, Nat.le_of_ble_eq_true rfl⟩) hD hS hA (fun r_21 x_21 H locs hq_21 hP hD hS => ?_)
          have hE_21 : eqA S x_21 ak := by rw [hq_21.2]; exact hE_18.tr eqA.bec
          have hx5_22 := hE_21.o hx5
          have hak_22 := hE_21.o hak
          have hR_22 := hE_21.okR hak hR
          have hq0_22 := (hE_21.q x 0).trans hq0
          have hq1_22 := (hE_21.q x 1).trans hq1
          have hja_22 := (hE_21.p ar k).trans hja
          rw [show r_21 = Wh k u from hq_21.1.trans ((hDG k a (by omega) hja).2 _ hE_18 u (by omega)).2.1]
          refine lv_i2l (v := (Wh k u).toInt64) hx hb dX5_digest_120 rfl ?_
          refine kc_l (va_runS (As := [.long (dn dj (Ge k u)), .long ((Wh k u).toInt64)]) (rest := []) ⟨hx, hb, hml, hown, htT⟩ (c_withNext l D cA _ x_21 (dn dj (Ge k u)) ((Wh k u).toInt64)) (cwS 2 htT (kg_S m_ml_X5_249 m_st_X5_withNext m_in_X5 m_cd_X5_withNext) rfl rfl rfl (by decide +kernel) ⟨Nat.le_of_ble_eq_true rfl, Nat.le_of_ble_eq_true rfl⟩) (kp_S hK hP hD hTB) rfl rfl hl.1 rfl (lv_room (Nat.le_of_ble_eq_true rfl)) dX5_digest_121 ⟨Nat.le_of_ble_eq_true rfl, Nat.le_of_ble_eq_true rfl⟩) hD hS hA (fun r_23 x_23 H locs hq_23 hP hD hS => ?_)
          rw [show r_23 = dn (dn dj (Ge k u)) (Wh k u) from hq_23.1]
          rw [hq_23.2] at hP hD
          refine lv_lstore_n (lv' := [(1, .long (dn (dn dj (Ge k u)) (Wh k u))), (4, .int (nI k)), (3, .int (nI u)), (0, .ref x)]) hx hb dX5_digest_124 rfl hl (by decide) rfl (fun ls hl => ?_)
          refine lv_lload_n hx hb dX5_digest_125 rfl (lv_at hl 0 rfl) ?_
          refine lv_aload_n hx hb dX5_digest_126 rfl (lv_at hl 3 rfl) ?_
          refine lv_iload hx hb dX5_digest_127 (lv_at hl 1 rfl) ?_
          refine lv_iload_n hx hb dX5_digest_129 rfl (lv_at hl 2 rfl) ?_
          refine kc_i (va_runV (As := [.int (nI k), .int (nI u)]) (rest := [.long (dn (dn dj (Ge k u)) (Wh k u))]) ⟨hx, hb, hml, hown, htT⟩ (c_arm l D cA _ x_21 x hx5_22 ar hq0_22 ak hq1_22 hak_22 hR_22 k hj a hja_22 (nI k) ((hE_21.sw _).trans hsw) (nI u) (kOut_9 u (by omega)).1) (cwV 2 htT (kg_V m_ml_X5_270 m_im_X5_arm m_sl_X5_arm m_in_X5 m_cd_X5_arm) rfl rfl rfl (by decide +kernel) ⟨Nat.le_of_ble_eq_true rfl, Nat.le_of_ble_eq_true rfl⟩) (kp_V hK hP hD hTB (kp_rc hK hP hx5_22 (Nat.le_of_ble_eq_true rfl) rfl)) rfl rfl hl.1 rfl (lv_room (Nat.le_of_ble_eq_true rfl)) dX5_digest_130 ⟨Nat.le_of_ble_eq_true rfl, Nat.le_of_ble_eq_true rfl⟩) hD hS hA (fun r_24 x_24 H locs hq_24 hP hD hS => ?_)
          rw [hq_24.2] at hP hD
          rw [show r_24 = Ar k u from hq_24.1.trans ((hDG k a (by omega) hja).2 _ hE_21 u (by omega)).2.2]
          refine lv_i2l (v := (Ar k u).toInt64) hx hb dX5_digest_133 rfl ?_
          refine kc_l (va_runS (As := [.long (dn (dn dj (Ge k u)) (Wh k u)), .long ((Ar k u).toInt64)]) (rest := []) ⟨hx, hb, hml, hown, htT⟩ (c_withNext l D cA _ x_21 (dn (dn dj (Ge k u)) (Wh k u)) ((Ar k u).toInt64)) (cwS 2 htT (kg_S m_ml_X5_249 m_st_X5_withNext m_in_X5 m_cd_X5_withNext) rfl rfl rfl (by decide +kernel) ⟨Nat.le_of_ble_eq_true rfl, Nat.le_of_ble_eq_true rfl⟩) (kp_S hK hP hD hTB) rfl rfl hl.1 rfl (lv_room (Nat.le_of_ble_eq_true rfl)) dX5_digest_134 ⟨Nat.le_of_ble_eq_true rfl, Nat.le_of_ble_eq_true rfl⟩) hD hS hA (fun r_25 x_25 H locs hq_25 hP hD hS => ?_)
          rw [show r_25 = dn (dn (dn dj (Ge k u)) (Wh k u)) (Ar k u) from hq_25.1]
          rw [hq_25.2] at hP hD
          refine lv_lstore_n (lv' := [(1, .long (dn (dn (dn dj (Ge k u)) (Wh k u)) (Ar k u))), (4, .int (nI k)), (3, .int (nI u)), (0, .ref x)]) hx hb dX5_digest_137 rfl hl (by decide) rfl (fun ls hl => ?_)
          refine lv_iinc (v := nI (k + 1)) (lv' := [(4, .int (nI (k + 1))), (1, .long (dn (dn (dn dj (Ge k u)) (Wh k u)) (Ar k u))), (3, .int (nI u)), (0, .ref x)]) hx hb dX5_digest_138 hl (k := 1) rfl (nI_1 _) (by decide) rfl (fun ls hl => ?_)
          refine lv_goto (tgt := 80) hx hb dX5_digest_141 (by decide) ?_
          have hl := lv_sub hl [0, 2, 1, 3] rfl
          exact ih_80 _ (by omega) H locs ls e_80 hd0 ⟨k + 1, _, x_21, rfl, by omega, by rw [hF_dj, show n - k = (n - (k + 1)) + 1 by omega, lfo_s] <;> rfl, hE_21, hP, hD, hS, hl⟩
    · replace c_11 : ¬ (n ≤ k) := fun h9 => c_11 ((nI_leI (a := n) (b := k) (by omega) (by omega)).mpr h9)
      obtain ⟨a, hja⟩ := hrow k (by omega)
      have hj : k < 8 := by omega
      have hsw : kSw S ar (nI k) = some a := (kSw_at hj).trans hja
      have hja_9 := (hE.p ar k).trans hja
      refine lv_aload_n hx hb dX5_digest_56 rfl (lv_at hl 2 rfl) ?_
      refine lv_lload_n hx hb dX5_digest_57 rfl (lv_at hl 1 rfl) ?_
      refine lv_iload_n hx hb dX5_digest_58 rfl (lv_at hl 0 rfl) ?_
      refine kcD_l hd0 (va_runV_D (As := [.long dk, .int (nI k)]) (rest := []) ⟨hx, hb, hml, hown, htT⟩ (c_withSwitchX l D cA _ T x hx5_9 ar hq0_9 ak hq1_9 hak_9 hR_9 k hj a hja_9 k ((hE.sw _).trans hsw) (vcs k) (Sh k) (Bd k) (Tr k) (Be k) (We k) (To k) (F k) ((hDG k a (by omega) hja).1.q hE (hE.i hak (hR.2 k hj a hja).1.1 (by decide) 2)) dk) (cwV 2 htT (kg_V m_ml_X5_259 m_im_X5_withSwitch m_sl_X5_withSwitch m_in_X5 m_cd_X5_withSwitch) rfl rfl rfl (by decide +kernel) ⟨Nat.le_of_ble_eq_true rfl, Nat.le_of_ble_eq_true rfl⟩) (kp_V hK hP hD hTB (kp_rc hK hP hx5_9 (Nat.le_of_ble_eq_true rfl) rfl)) rfl rfl hl.1 rfl (lv_room (Nat.le_of_ble_eq_true rfl)) dX5_digest_59 ⟨Nat.le_of_ble_eq_true rfl, Nat.le_of_ble_eq_true rfl⟩) hD hS hA (fun r_26 x_26 H locs hq_26 hP hD hS d_26 hd0 => ?_)
      have htT : ∀ w ∈ TT, w.before _ (s.setDrawn d_26) = true := dr_words htT0 d_26
      have hTB : TBok (s.setDrawn d_26) := TBok.same (u := s) (U := s.setDrawn d_26) rfl (Vm.Alike.refl s.vm) hTB0
      have hK : va_K D vwCl (ty6 cA) (s.setDrawn d_26) := hK0
      have hown : (s.setDrawn d_26).vm.findClass RX5 = some m.cls := hown0
      rw [show r_26 = dSwi (vcs k) (Sh k) (Bd k) (Tr k) (Be k) (We k) (To k) (F k) dk from hq_26.1]
      have hE_26 := hE.tr hq_26.2
      have hx5_27 := hE_26.o hx5
      have hak_27 := hE_26.o hak
      have hR_27 := hE_26.okR hak hR
      have hq0_27 := (hE_26.q x 0).trans hq0
      have hq1_27 := (hE_26.q x 1).trans hq1
      have hja_27 := (hE_26.p ar k).trans hja
      refine lv_lstore_n (lv' := [(1, .long (dSwi (vcs k) (Sh k) (Bd k) (Tr k) (Be k) (We k) (To k) (F k) dk)), (3, .int (nI k)), (0, .ref x)]) hx hb dX5_digest_62 rfl hl (by decide) rfl (fun ls hl => ?_)
      refine lv_iinc (v := nI (k + 1)) (lv' := [(3, .int (nI (k + 1))), (1, .long (dSwi (vcs k) (Sh k) (Bd k) (Tr k) (Be k) (We k) (To k) (F k) dk)), (0, .ref x)]) hx hb dX5_digest_63 hl (k := 1) rfl (nI_1 _) (by decide) rfl (fun ls hl => ?_)
      refine lv_goto (tgt := 48) hx hb dX5_digest_66 (by decide) ?_
      have hl := lv_sub hl [0, 1, 2] rfl
      exact ih_48 _ (by omega) H locs ls d_26 hd0 ⟨k + 1, _, x_26, rfl, by omega, by rw [hF_dk, show n - k = (n - (k + 1)) + 1 by omega, lfo_s] <;> rfl, hE_26, hP, hD, hS, hl⟩
  · replace c_8 : ¬ (3 ≤ z) := fun h9 => c_8 ((nI_leI (a := 3) (b := z) (by omega) (by omega)).mpr h9)
    refine lv_lload_n hx hb dX5_digest_29 rfl (lv_at hl 1 rfl) ?_
    refine lv_aload_n hx hb dX5_digest_30 rfl (lv_at hl 2 rfl) ?_
    refine lv_iload_n hx hb dX5_digest_31 rfl (lv_at hl 0 rfl) ?_
    refine kc_i (va_runV (As := [.int (nI z)]) (rest := [.long dz]) ⟨hx, hb, hml, hown, htT⟩ (c_left l D cA _ T x hx5_6 ar hq0_6 hR_6 (nI z) (kOut_3 z (by omega))) (cwV 1 htT (kg_V m_ml_X5_256 m_im_X5_left m_sl_X5_left m_in_X5 m_cd_X5_left) rfl rfl rfl (by decide +kernel) ⟨Nat.le_of_ble_eq_true rfl, Nat.le_of_ble_eq_true rfl⟩) (kp_V hK hP hD hTB (kp_rc hK hP hx5_6 (Nat.le_of_ble_eq_true rfl) rfl)) rfl rfl hl.1 rfl (lv_room (Nat.le_of_ble_eq_true rfl)) dX5_digest_32 ⟨Nat.le_of_ble_eq_true rfl, Nat.le_of_ble_eq_true rfl⟩) hD hS hA (fun r_28 x_28 H locs hq_28 hP hD hS => ?_)
    rw [show r_28 = Lf z from hq_28.1.trans (hLf _ hE z (by omega))]
    rw [hq_28.2] at hP hD
    refine lv_i2l (v := (Lf z).toInt64) hx hb dX5_digest_35 rfl ?_
    refine kc_l (va_runS (As := [.long dz, .long ((Lf z).toInt64)]) (rest := []) ⟨hx, hb, hml, hown, htT⟩ (c_withNext l D cA _ T dz ((Lf z).toInt64)) (cwS 2 htT (kg_S m_ml_X5_249 m_st_X5_withNext m_in_X5 m_cd_X5_withNext) rfl rfl rfl (by decide +kernel) ⟨Nat.le_of_ble_eq_true rfl, Nat.le_of_ble_eq_true rfl⟩) (kp_S hK hP hD hTB) rfl rfl hl.1 rfl (lv_room (Nat.le_of_ble_eq_true rfl)) dX5_digest_36 ⟨Nat.le_of_ble_eq_true rfl, Nat.le_of_ble_eq_true rfl⟩) hD hS hA (fun r_29 x_29 H locs hq_29 hP hD hS => ?_)
    rw [show r_29 = dn dz (Lf z) from hq_29.1]
    rw [hq_29.2] at hP hD
    refine lv_lstore_n (lv' := [(1, .long (dn dz (Lf z))), (3, .int (nI z)), (0, .ref x)]) hx hb dX5_digest_39 rfl hl (by decide) rfl (fun ls hl => ?_)
    refine lv_iinc (v := nI (z + 1)) (lv' := [(3, .int (nI (z + 1))), (1, .long (dn dz (Lf z))), (0, .ref x)]) hx hb dX5_digest_40 hl (k := 1) rfl (nI_1 _) (by decide) rfl (fun ls hl => ?_)
    refine lv_goto (tgt := 24) hx hb dX5_digest_43 (by decide) ?_
    have hl := lv_sub hl [0, 1, 2] rfl
    exact ih_24 _ (by omega) H locs ls e_24 hd0 ⟨z + 1, _, T, rfl, by omega, by rw [hF_dz, show 3 - z = (3 - (z + 1)) + 1 by omega, lfo_s] <;> rfl, hE, hP, hD, hS, hl⟩
