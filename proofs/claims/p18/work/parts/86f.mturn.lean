/-! the reference's cells and one row more -/
abbrev oI (cA : Nat → ClassId) (a N : Nat) (f : Nat → Int32) : Nat × va_E := (a, .inl (cA 0, N, .inl f))
theorem kmx_P {D : va_G} {wa wb : va_W} {H : Heap} (h : va_P D vwCl (wa ++ wb) H) : va_P D vwCl wa H := fun k q hk => h k q (by rw [List.getElem?_append_left (List.getElem?_eq_some_iff.mp hk).1]; exact hk)
theorem kmx_D {A : Nat → Prop} {wa wb : va_W} (h : va_D A (wa ++ wb)) : va_D A wa := ⟨fun i j p q hi hj => h.1 i j p q (by rw [List.getElem?_append_left (List.getElem?_eq_some_iff.mp hi).1]; exact hi) (by rw [List.getElem?_append_left (List.getElem?_eq_some_iff.mp hj).1]; exact hj), fun k q hk => h.2 k q (by rw [List.getElem?_append_left (List.getElem?_eq_some_iff.mp hk).1]; exact hk)⟩
theorem kmx_at {wa wb : va_W} {k : Nat} {q : Nat × va_E} (h : wa[k]? = some q) : (wa ++ wb)[k]? = some q := by rw [List.getElem?_append_left (List.getElem?_eq_some_iff.mp h).1]; exact h
theorem kmx_set {wa wb : va_W} {k : Nat} {q q2 : Nat × va_E} (h : wa[k]? = some q) : (wa ++ wb).set k q2 = wa.set k q2 ++ wb := List.set_append_left _ _ (List.getElem?_eq_some_iff.mp h).1
section KMX
variable {p : Program} {l : Launch} {e : Env} {R : Room} {s : State} {m : MethodId} {args : Array Value} {below : List Frame} {meth : Method} {c : Code} {H : Heap} {locs : List Loc} {cells slots : Nat} {Q : State → Prop}
variable {cc : ByteArray} {pc : Nat} {ls : Array Slot} {rest : List Value} {D : va_G} {A : Nat → Prop} {am : Nat} {r : Nat → Nat} {H0 : Heap} {cA : Nat → ClassId} {M : MSt} {wb : va_W} {qn N : Nat} {f : Nat → Int32}
theorem kmx_getr (hexec : p.tables.exec = Jvm.exec) (hb : c.code = cc) (htT : ∀ w ∈ TT, w.before args s = true) (hown : s.vm.findClass RX6 = some m.cls) (hK : va_K D vwCl (ty6 cA) s) (hP : va_P D vwCl (wM cA am r M ++ wb) H) {index : Nat} (k : Nat) (hk : k < 29) (hi : isRm k = true) (hlink : (Cond.fieldLink RX6 index (TX6 k).1 (TX6 k).2.1 (TX6 k).2.2.1).before args s = true) (hdg : decode cc pc = .ok (.getfield index, 3))
    (kk : W p l e R s m args below meth c H locs cells slots Q (F0 m (pc + 3) ls (.ref (r k) :: rest))) : W p l e R s m args below meth c H locs cells slots Q (F0 m pc ls (.ref am :: rest)) := km_getr hexec hb htT hown hK (kmx_P hP) k hk hi hlink hdg kk
theorem kmx_zald (hexec : p.tables.exec = Jvm.exec) (hb : c.code = cc) (hK : va_K D vwCl (ty6 cA) s) (hP : va_P D vwCl (wM cA am r M ++ wb) H) (k : Nat) (hk : isRm k = true) (hz : isZm k = true) {i : Int32} (hin : vp_in i (mLen k)) (hdg : decode cc pc = .ok (.baload, 1))
    (kk : W p l e R s m args below meth c H locs cells slots Q (F0 m (pc + 1) ls (.int (M.2 k i.toNatClampNeg) :: rest))) : W p l e R s m args below meth c H locs cells slots Q (F0 m pc ls (.int i :: .ref (r k) :: rest)) := km_zald hexec hb hK (kmx_P hP) k hk hz hin hdg kk
theorem kmx_zast (hexec : p.tables.exec = Jvm.exec) (hb : c.code = cc) (hK : va_K D vwCl (ty6 cA) s) (hP : va_P D vwCl (wM cA am r M ++ wb) H) (hD : va_D A (wM cA am r M ++ wb)) (hS : va_S A H0 H locs) (k : Nat) (hk : isRm k = true) (hz : isZm k = true) {i x : Int32} (hx : x = 0 ∨ x = 1) (hin : vp_in i (mLen k)) (hdg : decode cc pc = .ok (.bastore, 1))
    (kk : ∀ (H1 : Heap) (locs1 : List Loc), va_P D vwCl (wM cA am r (mR M k i.toNatClampNeg x) ++ wb) H1 → va_D A (wM cA am r (mR M k i.toNatClampNeg x) ++ wb) → va_S A H0 H1 locs1 → W p l e R s m args below meth c H1 locs1 cells slots Q (F0 m (pc + 1) ls rest)) : W p l e R s m args below meth c H locs cells slots Q (F0 m pc ls (.int x :: .int i :: .ref (r k) :: rest)) := by
  have h := wM_k (cA := cA) (am := am) (r := r) (M := M) hk
  unfold mrow at h
  rw [hz] at h
  have h2 := wM_setk (cA := cA) (am := am) (r := r) (M := M) (f := upd (M.2 k) i.toNatClampNeg x) hk
  rw [hz] at h2
  have hv : vp_nar .boolean x = x := by rcases hx with rfl | rfl <;> decide
  refine va_zast hexec hb hK hP hD hS (mPos k) 2 (kmx_at h) rfl hin hdg (fun H1 locs1 a1 a2 a3 => ?_)
  rw [hv, kmx_set h] at a1 a2
  exact kk H1 locs1 (h2 ▸ a1) (h2 ▸ a2) a3
theorem kmx_ald (hexec : p.tables.exec = Jvm.exec) (hb : c.code = cc) (hK : va_K D vwCl (ty6 cA) s) (hP : va_P D vwCl (wM cA am r M ++ [oI cA qn N f]) H) {i : Int32} (hin : vp_in i N) (hdg : decode cc pc = .ok (.iaload, 1))
    (kk : ∀ v : Int32, W p l e R s m args below meth c H locs cells slots Q (F0 m (pc + 1) ls (.int v :: rest))) : W p l e R s m args below meth c H locs cells slots Q (F0 m pc ls (.int i :: .ref qn :: rest)) := va_iald hexec hb hK hP (wM cA am r M).length 0 kw_get rfl hin hdg (kk _)
theorem kmx_ast (hexec : p.tables.exec = Jvm.exec) (hb : c.code = cc) (hK : va_K D vwCl (ty6 cA) s) (hP : va_P D vwCl (wM cA am r M ++ [oI cA qn N f]) H) (hD : va_D A (wM cA am r M ++ [oI cA qn N f])) (hS : va_S A H0 H locs) {i x : Int32} (hin : vp_in i N) (hdg : decode cc pc = .ok (.iastore, 1))
    (kk : ∀ (g : Nat → Int32) (H1 : Heap) (locs1 : List Loc), va_P D vwCl (wM cA am r M ++ [oI cA qn N g]) H1 → va_D A (wM cA am r M ++ [oI cA qn N g]) → va_S A H0 H1 locs1 → W p l e R s m args below meth c H1 locs1 cells slots Q (F0 m (pc + 1) ls rest)) : W p l e R s m args below meth c H locs cells slots Q (F0 m pc ls (.int x :: .int i :: .ref qn :: rest)) := by
  refine va_iast hexec hb hK hP hD hS (wM cA am r M).length 0 kw_get rfl hin hdg (fun H1 locs1 a1 a2 a3 => ?_)
  rw [kw_set] at a1 a2
  exact kk _ H1 locs1 a1 a2 a3
theorem kmx_new (hexec : p.tables.exec = Jvm.exec) (hb : c.code = cc) (harr : (Cond.arrayClass .int).before args s = true) (hK : va_K D vwCl (ty6 cA) s) (hP : va_P D vwCl (wM cA am r M) H) (hD : va_D A (wM cA am r M)) (hS : va_S A H0 H locs) (hA : ∀ q, H0.size ≤ q → A q)
    {mm : Nat} (hm : mm ≤ 200) (hcells : cells + 1 ≤ R.cells) (hslots : slots + 200 ≤ R.slots) (hdg : decode cc pc = .ok (.newarray .int, 2))
    (kk : ∀ (q : Nat) (H1 : Heap), va_P D vwCl (wM cA am r M ++ [oI cA q mm (fun _ => 0)]) H1 → va_D A (wM cA am r M ++ [oI cA q mm (fun _ => 0)]) → va_S A H0 H1 locs →
      W p l e R s m args below meth c H1 locs (cells + 1) (slots + 200) Q (F0 m (pc + 2) ls (.ref q :: rest))) : W p l e R s m args below meth c H locs cells slots Q (F0 m pc ls (.int (nI mm) :: rest)) := by
  refine va_newa (atype := .int) (ty := .int) (N' := mm) hexec hb harr rfl hK hP hD hS hA (a0 := (mm, .inl (fun _ => 0))) (fun _ => rfl) (fun h9 => by have := (nI_ltI (a := mm) (b := 0) (by omega) (by omega)).mp h9; omega) (ki_cl (by omega)) (by show mm * 4 ≤ _; omega) hcells (by omega) hdg (fun q c1 H1 b0 a1 a2 a3 => ?_)
  have e : c1 = cA 0 := kx_arrI (b0.2 6 _ rfl).2 (hK.2 0 _ rfl).2
  subst e
  refine W.widen (k := cells + 1) (n := slots + 200) (Nat.le_refl _) (by omega) ?_
  exact kk q H1 a1 a2 a3
end KMX
theorem eqM.tog1 {M T : MSt} {i : Nat} {a : Int32} (h : eqM M T) : eqM (mR M 11 i a) (mR T 11 i a) := by
  refine ⟨fun k h1 h2 => ?_, h.2⟩
  funext j
  rw [mR_at, mR_at, h.1 k h1 h2]
theorem eqM.tog2 {M T : MSt} {i : Nat} {a b : Int32} (h : eqM (mR M 11 i a) T) (hb : M.2 11 i = b) : eqM M (mR T 11 i b) := by
  refine ⟨fun k h1 h2 => ?_, h.2⟩
  funext j
  rw [mR_at, h.1 k h1 h2, mR_at]
  by_cases hk : k = 11 ∧ j = i
  · rw [if_pos hk, hk.1, hk.2, hb]
  · rw [if_neg hk, if_neg hk]
set_option maxRecDepth 100000 in
set_option maxHeartbeats 4000000 in
theorem t_wouldTurn (l : Launch) (D : va_G) (cA : Nat → ClassId) (sz : Nat) (am : Nat) (r : Nat → Nat) (M : MSt) (n na : Nat) (hI : INVR n na M) (p0 p1 : Int32) : Met l yX6_wouldTurn (Cond.code yX6_wouldTurn cX6_wouldTurn 6 (some .int) :: TT) ({ frames := 20, cells := 1, slots := 200, locals := 1009 }) (va_Pc [.ref am, .int p0, .int p1] (kPre D cA (wM cA am r M) sz)) (va_Qi (fun (r_ : Int32) (x_ : MSt) => INVR n na x_ ∧ eqM M x_) (fun x_ => kB D cA (va_A (wM cA am r M) sz) (wM cA am r x_)) (va_A (wM cA am r M) sz)) 1 200 (va_A (wM cA am r M) sz) := by
  refine Met.ofW (cc := cX6_wouldTurn) (maxL := 6) (ret := (some .int)) (by decide) rfl ?_
  intro p e s m args below meth c s₁ B hml hv
  obtain ⟨rfl, hsz, hP, hK, hD0, hTB⟩ := hv
  have hx := B.exec
  have hb := B.bytes
  have hr := B.returns
  have hts := atoms_spec (ws := Cond.code yX6_wouldTurn cX6_wouldTurn 6 (some .int) :: TT) B.pre
  have htT : ∀ w ∈ TT, w.before _ s = true := fun w h => hts w (List.mem_cons_of_mem _ h)
  have hown : s.vm.findClass RX6 = some m.cls := findClass_of_methodNamed B.named
  have hlocks := B.notSynchronized
  subst hsz
  have hD := hD0.self (sz := s.heap.size)
  generalize hAe : va_A (wM cA am r M) s.heap.size = A at hD ⊢
  have hA : ∀ q : Nat, s.heap.size ≤ q → A q := fun q h => by rw [← hAe]; exact Or.inr h
  have hS : va_S A s.heap s.heap [] := va_S.rf
  have hl := lv_entry ([.ref am, .int p0, .int p1]) (n := 6) (Nat.le_of_ble_eq_true rfl)
  rw [lg_entry_eq]
  generalize (lg_sl ([.ref am, .int p0, .int p1]) ++ List.replicate (6 - (lg_sl ([.ref am, .int p0, .int p1])).length) Slot.unset).toArray = ls at hl ⊢
  have hl : lv_has ls 6 [(0, .ref am), (1, .int p0), (2, .int p1)] := hl
  have hn8 := hI.n8
  have hna9 := hI.na
  obtain ⟨ru, hok⟩ := id hI.1
  refine lv_aload_n hx hb dX6_wouldTurn_0 rfl (lv_at hl 0 rfl) ?_
  refine lv_iconst (v := 0) hx hb dX6_wouldTurn_1 (by decide) ?_
  refine km_puti hx hb htT hown hK hP hD hS 0 (by decide) rfl (htT _ m_fl_X6_80) rfl (by decide +kernel) dX6_wouldTurn_2 (fun H locs hP hD hS => ?_)
  refine lv_aload_n hx hb dX6_wouldTurn_5 rfl (lv_at hl 0 rfl) ?_
  refine lv_iload_n hx hb dX6_wouldTurn_6 rfl (lv_at hl 1 rfl) ?_
  have h3_1 : M.1 3 = nI n := hI.h3
  refine kc_i (va_runV (As := [.int p0]) (rest := []) ⟨hx, hb, hml, hown, htT⟩ (m_isSwitch l D cA _ am r (mS M 0 0) p0) (cwV 1 htT (kg_V m_ml_X6_91 m_im_X6_isSwitch m_sl_X6_isSwitch m_in_X6 m_cd_X6_isSwitch) rfl rfl rfl (by decide +kernel) ⟨Nat.le_of_ble_eq_true rfl, Nat.le_of_ble_eq_true rfl⟩) (kp_V hK hP hD hTB (km_rc hK hP)) rfl rfl hl.1 rfl (lv_room (Nat.le_of_ble_eq_true rfl)) dX6_wouldTurn_7 ⟨Nat.le_of_ble_eq_true rfl, Nat.le_of_ble_eq_true rfl⟩) hD hS hA (fun r_1 x_1 H locs hq_1 hP hD hS => ?_)
  rw [hq_1.2] at hP hD
  rcases kIn_swx (p := p0) hI.n8 h3_1 with hsw | ⟨i, hi, rfl⟩
  · rw [hq_1.1.trans hsw]
    refine lv_if_ne (tgt := 19) hx hb dX6_wouldTurn_10 (by decide) (fun c_2 => absurd c_2 (by decide)) (fun _ => ?_)
    refine lv_aload_n hx hb dX6_wouldTurn_13 rfl (lv_at hl 0 rfl) ?_
    refine lv_iconst (v := 1) hx hb dX6_wouldTurn_14 (by decide) ?_
    refine kc_i (va_runV (As := [.int 1]) (rest := []) ⟨hx, hb, hml, hown, htT⟩ (m_no l D cA _ am r (mS M 0 0) 1) (cwV 1 htT (kg_V m_ml_X6_95 m_im_X6_no m_sl_X6_no m_in_X6 m_cd_X6_no) rfl rfl rfl (by decide +kernel) ⟨Nat.le_of_ble_eq_true rfl, Nat.le_of_ble_eq_true rfl⟩) (kp_V hK hP hD hTB (km_rc hK hP)) rfl rfl hl.1 rfl (lv_room (Nat.le_of_ble_eq_true rfl)) dX6_wouldTurn_15 ⟨Nat.le_of_ble_eq_true rfl, Nat.le_of_ble_eq_true rfl⟩) hD hS hA (fun r_3 x_3 H locs hq_3 hP hD hS => ?_)
    rw [hq_3.1]
    rw [hq_3.2] at hP hD
    refine W.widen (k := 1) (n := 200) (Nat.le_of_ble_eq_true rfl) (Nat.le_of_ble_eq_true rfl) ?_
    exact W.iret (v := 0) hx hb hr (fun t ht hW => ⟨⟨0, mS (mS M 0 0) 0 1, rfl, ⟨(INVR.iS (INVR.iS hI (by decide) (by decide)) (by decide) (by decide)), ((eqM.rf).s0).s0⟩, by rw [ht]; exact hP, va_K.moved hW.alike hK, hD⟩, hS.F ht⟩) hS.2.2 dX6_wouldTurn_18
  · rw [hq_1.1.trans (kIn_sw hi hI.n8 h3_1)]
    refine lv_if_ne (tgt := 19) hx hb dX6_wouldTurn_10 (by decide) (fun _ => ?_) (fun c_4 => absurd c_4 (by decide))
    refine lv_iload_n hx hb dX6_wouldTurn_19 rfl (lv_at hl 2 rfl) ?_
    refine lv_iconst (v := 1) hx hb dX6_wouldTurn_20 (by decide) ?_
    refine lv_sipush (v := 200) hx hb dX6_wouldTurn_21 (by decide) ?_
    refine kc_i (va_runS (As := [.int p1, .int 1, .int 200]) (rest := []) ⟨hx, hb, hml, hown, htT⟩ (m_isIn l D cA _ am r (mS M 0 0) p1 1 200) (cwS 3 htT (kg_S m_ml_X6_87 m_st_X6_isIn m_in_X6 m_cd_X6_isIn) rfl rfl rfl (by decide +kernel) ⟨Nat.le_of_ble_eq_true rfl, Nat.le_of_ble_eq_true rfl⟩) (kp_S hK hP hD hTB) rfl rfl hl.1 rfl (lv_room (Nat.le_of_ble_eq_true rfl)) dX6_wouldTurn_24 ⟨Nat.le_of_ble_eq_true rfl, Nat.le_of_ble_eq_true rfl⟩) hD hS hA (fun r_5 x_5 H locs hq_5 hP hD hS => ?_)
    rw [hq_5.2] at hP hD
    rcases kIn_01 p1 1 200 with hn_5 | hn_5
    · rw [hq_5.1.trans hn_5]
      refine lv_if_ne (tgt := 36) hx hb dX6_wouldTurn_27 (by decide) (fun c_6 => absurd c_6 (by decide)) (fun _ => ?_)
      refine lv_aload_n hx hb dX6_wouldTurn_30 rfl (lv_at hl 0 rfl) ?_
      refine lv_iconst (v := 2) hx hb dX6_wouldTurn_31 (by decide) ?_
      refine kc_i (va_runV (As := [.int 2]) (rest := []) ⟨hx, hb, hml, hown, htT⟩ (m_no l D cA _ am r (mS M 0 0) 2) (cwV 1 htT (kg_V m_ml_X6_95 m_im_X6_no m_sl_X6_no m_in_X6 m_cd_X6_no) rfl rfl rfl (by decide +kernel) ⟨Nat.le_of_ble_eq_true rfl, Nat.le_of_ble_eq_true rfl⟩) (kp_V hK hP hD hTB (km_rc hK hP)) rfl rfl hl.1 rfl (lv_room (Nat.le_of_ble_eq_true rfl)) dX6_wouldTurn_32 ⟨Nat.le_of_ble_eq_true rfl, Nat.le_of_ble_eq_true rfl⟩) hD hS hA (fun r_7 x_7 H locs hq_7 hP hD hS => ?_)
      rw [hq_7.1]
      rw [hq_7.2] at hP hD
      refine W.widen (k := 1) (n := 200) (Nat.le_of_ble_eq_true rfl) (Nat.le_of_ble_eq_true rfl) ?_
      exact W.iret (v := 0) hx hb hr (fun t ht hW => ⟨⟨0, mS (mS M 0 0) 0 2, rfl, ⟨(INVR.iS (INVR.iS hI (by decide) (by decide)) (by decide) (by decide)), ((eqM.rf).s0).s0⟩, by rw [ht]; exact hP, va_K.moved hW.alike hK, hD⟩, hS.F ht⟩) hS.2.2 dX6_wouldTurn_35
    · rw [hq_5.1.trans hn_5]
      have hk_5 := hn_5
      obtain ⟨mm, hlmm, hmm, rfl⟩ := kIn_nat 1 200 (by omega) (by omega) hk_5
      refine lv_if_ne (tgt := 36) hx hb dX6_wouldTurn_27 (by decide) (fun _ => ?_) (fun c_8 => absurd c_8 (by decide))
      refine lv_iload_n hx hb dX6_wouldTurn_36 rfl (lv_at hl 2 rfl) ?_
      refine kmx_new hx hb (htT _ m_ar_int) hK hP hD hS hA (mm := mm) hmm (Nat.le_of_ble_eq_true rfl) (Nat.le_of_ble_eq_true rfl) dX6_wouldTurn_37 (fun qn H hP hD hS => ?_)
      refine lv_astore_n (lv' := [(3, .ref qn), (0, .ref am), (1, .int (nI i)), (2, .int (nI mm))]) hx hb dX6_wouldTurn_39 rfl hl (by decide) rfl (fun ls hl => ?_)
      refine lv_iconst (v := 0) hx hb dX6_wouldTurn_40 (by decide) ?_
      refine lv_istore (lv' := [(4, .int 0), (3, .ref qn), (0, .ref am), (1, .int (nI i)), (2, .int (nI mm))]) hx hb dX6_wouldTurn_41 hl (by decide) rfl (fun ls hl => ?_)
      refine kz_loop 43 (fun N9 H locs ls => ∃ (j : Nat) (T : MSt) (f : Nat → Int32), N9 = mm - j ∧ j ≤ mm ∧ INVR n na T ∧ eqM M T ∧ va_P D vwCl (wM cA am r T ++ [oI cA qn mm f]) H ∧ va_D A (wM cA am r T ++ [oI cA qn mm f]) ∧ va_S A s.heap H locs ∧ lv_has ls 6 [(4, .int (nI j)), (3, .ref qn), (2, .int (nI mm)), (1, .int (nI i)), (0, .ref am)]) (fun N9 ih_43 H locs ls hI => ?_) ⟨0, (mS M 0 0), (fun _ => 0), rfl, by omega, (INVR.iS hI (by decide) (by decide)), (eqM.rf).s0, hP, hD, hS, lv_sub hl [0, 1, 4, 3, 2] rfl⟩
      obtain ⟨j, T, f, hn9, hj, hT, hT1, hP, hD, hS, hl⟩ := hI
      refine lv_iload hx hb dX6_wouldTurn_43 (lv_at hl 0 rfl) ?_
      refine lv_iload_n hx hb dX6_wouldTurn_45 rfl (lv_at hl 2 rfl) ?_
      refine lv_icmp_ge (tgt := 65) hx hb dX6_wouldTurn_46 (by decide) (fun c_10 => ?_) (fun c_10 => ?_)
      · replace c_10 := (nI_leI (a := mm) (b := j) (by omega) (by omega)).mp c_10
        refine lv_aload_n hx hb dX6_wouldTurn_65 rfl (lv_at hl 4 rfl) ?_
        refine kmx_getr hx hb htT hown hK hP 11 (by decide) rfl (htT _ m_fl_X6_32) dX6_wouldTurn_66 ?_
        refine lv_iload_n hx hb dX6_wouldTurn_69 rfl (lv_at hl 3 rfl) ?_
        refine lv_aload_n hx hb dX6_wouldTurn_70 rfl (lv_at hl 4 rfl) ?_
        refine kmx_getr hx hb htT hown hK hP 11 (by decide) rfl (htT _ m_fl_X6_32) dX6_wouldTurn_71 ?_
        refine lv_iload_n hx hb dX6_wouldTurn_74 rfl (lv_at hl 3 rfl) ?_
        refine kmx_zald hx hb hK hP 11 rfl rfl (show vp_in (nI i) 8 from ki_in (by omega) (by decide)) dX6_wouldTurn_75 ?_
        rw [ki_cl (n := i) (by omega)]
        rcases (hI.2.1 i hi).2 with hz9 | hz9
        · rw [show T.2 11 i = 0 from (congrFun (hT1.1 11 (by decide) (by decide)) i).trans hz9]
          refine lv_if_ne (tgt := 83) hx hb dX6_wouldTurn_76 (by decide) (fun c_12 => absurd c_12 (by decide)) (fun _ => ?_)
          refine lv_iconst (v := 1) hx hb dX6_wouldTurn_79 (by decide) ?_
          refine lv_goto (tgt := 84) hx hb dX6_wouldTurn_80 (by decide) ?_
          refine kmx_zast hx hb hK hP hD hS 11 rfl rfl (Or.inr rfl) (show vp_in (nI i) 8 from ki_in (by omega) (by decide)) dX6_wouldTurn_84 (fun H locs hP hD hS => ?_)
          rw [ki_cl (n := i) (by omega)] at hP hD
          refine lv_iconst (v := 0) hx hb dX6_wouldTurn_85 (by decide) ?_
          refine lv_istore (lv' := [(4, .int 0), (3, .ref qn), (2, .int (nI mm)), (1, .int (nI i)), (0, .ref am)]) hx hb dX6_wouldTurn_86 hl (by decide) rfl (fun ls hl => ?_)
          refine lv_iconst (v := 0) hx hb dX6_wouldTurn_88 (by decide) ?_
          refine lv_istore (lv' := [(5, .int 0), (4, .int 0), (3, .ref qn), (2, .int (nI mm)), (1, .int (nI i)), (0, .ref am)]) hx hb dX6_wouldTurn_89 hl (by decide) rfl (fun ls hl => ?_)
          refine kz_loop 91 (fun N9 H locs ls => ∃ (j : Nat) (acc : Int32) (T : MSt) (f : Nat → Int32), N9 = mm - j ∧ j ≤ mm ∧ INVR n na T ∧ eqM (mR M 11 i 1) T ∧ va_P D vwCl (wM cA am r T ++ [oI cA qn mm f]) H ∧ va_D A (wM cA am r T ++ [oI cA qn mm f]) ∧ va_S A s.heap H locs ∧ lv_has ls 6 [(5, .int (nI j)), (4, .int acc), (3, .ref qn), (2, .int (nI mm)), (1, .int (nI i)), (0, .ref am)]) (fun N9 ih_91 H locs ls hI => ?_) ⟨0, 0, (mR T 11 i 1), f, rfl, by omega, (INVR.on hT hi (by first | exact hz | decide)), (eqM.tog1 hT1), hP, hD, hS, lv_sub hl [0, 1, 2, 3, 4, 5] rfl⟩
          obtain ⟨j, acc, T, f, hn9, hj, hT, hT1, hP, hD, hS, hl⟩ := hI
          have hz11 : T.2 11 i = 1 := (congrFun (hT1.1 11 (by decide) (by decide)) i).trans (by rw [mR_at, if_pos ⟨rfl, rfl⟩])
          refine lv_iload hx hb dX6_wouldTurn_91 (lv_at hl 0 rfl) ?_
          refine lv_iload_n hx hb dX6_wouldTurn_93 rfl (lv_at hl 3 rfl) ?_
          refine lv_icmp_ge (tgt := 126) hx hb dX6_wouldTurn_94 (by decide) (fun c_13 => ?_) (fun c_13 => ?_)
          · replace c_13 := (nI_leI (a := mm) (b := j) (by omega) (by omega)).mp c_13
            refine lv_aload_n hx hb dX6_wouldTurn_126 rfl (lv_at hl 5 rfl) ?_
            refine kmx_getr hx hb htT hown hK hP 11 (by decide) rfl (htT _ m_fl_X6_32) dX6_wouldTurn_127 ?_
            refine lv_iload_n hx hb dX6_wouldTurn_130 rfl (lv_at hl 4 rfl) ?_
            refine lv_aload_n hx hb dX6_wouldTurn_131 rfl (lv_at hl 5 rfl) ?_
            refine kmx_getr hx hb htT hown hK hP 11 (by decide) rfl (htT _ m_fl_X6_32) dX6_wouldTurn_132 ?_
            refine lv_iload_n hx hb dX6_wouldTurn_135 rfl (lv_at hl 4 rfl) ?_
            refine kmx_zald hx hb hK hP 11 rfl rfl (show vp_in (nI i) 8 from ki_in (by omega) (by decide)) dX6_wouldTurn_136 ?_
            rw [ki_cl (n := i) (by omega)]
            rw [show T.2 11 i = 1 from hz11]
            refine lv_if_ne (tgt := 144) hx hb dX6_wouldTurn_137 (by decide) (fun _ => ?_) (fun c_15 => absurd c_15 (by decide))
            refine lv_iconst (v := 0) hx hb dX6_wouldTurn_144 (by decide) ?_
            refine kmx_zast hx hb hK hP hD hS 11 rfl rfl (Or.inl rfl) (show vp_in (nI i) 8 from ki_in (by omega) (by decide)) dX6_wouldTurn_145 (fun H locs hP hD hS => ?_)
            rw [ki_cl (n := i) (by omega)] at hP hD
            refine lv_iload hx hb dX6_wouldTurn_146 (lv_at hl 1 rfl) ?_
            have hP := kmx_P hP
            have hD := kmx_D hD
            exact W.iret (v := acc) hx hb hr (fun t ht hW => ⟨⟨acc, mR T 11 i 0, rfl, ⟨(INVR.on hT hi (by first | exact hz | decide)), eqM.tog2 hT1 hz9⟩, by rw [ht]; exact hP, va_K.moved hW.alike hK, hD⟩, hS.F ht⟩) hS.2.2 dX6_wouldTurn_148
          · replace c_13 : ¬ (mm ≤ j) := fun h9 => c_13 ((nI_leI (a := mm) (b := j) (by omega) (by omega)).mpr h9)
            refine lv_iload hx hb dX6_wouldTurn_97 (lv_at hl 1 rfl) ?_
            refine lv_aload_n hx hb dX6_wouldTurn_99 rfl (lv_at hl 5 rfl) ?_
            refine lv_iload hx hb dX6_wouldTurn_100 (lv_at hl 0 rfl) ?_
            obtain ⟨ru_16, hok_16⟩ := hT.1
            refine kj_i (List.Perm.refl _) (va_runV (As := [.int (nI j)]) (rest := [.int acc]) ⟨hx, hb, hml, hown, htT⟩ (m_all l D cA _ am r T n na ru_16 hok_16 j (by omega)) (cwV 1 htT (kg_V m_ml_X6_212 m_im_X6_all m_sl_X6_all m_in_X6 m_cd_X6_all) rfl rfl rfl (by decide +kernel) ⟨Nat.le_of_ble_eq_true rfl, Nat.le_of_ble_eq_true rfl⟩) (kj_V (List.Perm.refl _) hK hP hD hTB (kj_rm (List.Perm.refl _) hK hP)) rfl rfl hl.1 rfl (lv_room (Nat.le_of_ble_eq_true rfl)) dX6_wouldTurn_102 ⟨Nat.le_of_ble_eq_true rfl, Nat.le_of_ble_eq_true rfl⟩) hP hD hS hA (fun r_16 x_16 H locs hq_16 hP hD hS => ?_)
            obtain ⟨ρ_16, rfl⟩ := hq_16.2
            refine lv_aload_n hx hb dX6_wouldTurn_105 rfl (lv_at hl 2 rfl) ?_
            refine lv_iload hx hb dX6_wouldTurn_106 (lv_at hl 0 rfl) ?_
            refine kmx_ald hx hb hK hP (show vp_in (nI j) mm from ki_in (by omega) (by omega)) dX6_wouldTurn_108 (fun v_17 => ?_)
            refine lv_icmp_ne (tgt := 116) hx hb dX6_wouldTurn_109 (by decide) (fun c_18 => ?_) (fun c_18 => ?_)
            · refine lv_iconst (v := 1) hx hb dX6_wouldTurn_116 (by decide) ?_
              refine lv_iadd hx hb dX6_wouldTurn_117 ?_
              refine lv_istore (lv' := [(4, .int (acc + 1)), (5, .int (nI j)), (3, .ref qn), (2, .int (nI mm)), (1, .int (nI i)), (0, .ref am)]) hx hb dX6_wouldTurn_118 hl (by decide) rfl (fun ls hl => ?_)
              refine lv_iinc (v := nI (j + 1)) (lv' := [(5, .int (nI (j + 1))), (4, .int (acc + 1)), (3, .ref qn), (2, .int (nI mm)), (1, .int (nI i)), (0, .ref am)]) hx hb dX6_wouldTurn_120 hl (k := 1) rfl (nI_1 _) (by decide) rfl (fun ls hl => ?_)
              refine lv_goto (tgt := 91) hx hb dX6_wouldTurn_123 (by decide) ?_
              have hl := lv_sub hl [0, 1, 2, 3, 4, 5] rfl
              exact ih_91 _ (by omega) H locs ls ⟨j + 1, _, mS T 28 ρ_16, f, rfl, by omega, (INVR.iS hT (by decide) (by decide)), (hT1).s28, hP, hD, hS, hl⟩
            · refine lv_iconst (v := 0) hx hb dX6_wouldTurn_112 (by decide) ?_
              refine lv_goto (tgt := 117) hx hb dX6_wouldTurn_113 (by decide) ?_
              refine lv_iadd hx hb dX6_wouldTurn_117 ?_
              refine lv_istore (lv' := [(4, .int (acc + 0)), (5, .int (nI j)), (3, .ref qn), (2, .int (nI mm)), (1, .int (nI i)), (0, .ref am)]) hx hb dX6_wouldTurn_118 hl (by decide) rfl (fun ls hl => ?_)
              refine lv_iinc (v := nI (j + 1)) (lv' := [(5, .int (nI (j + 1))), (4, .int (acc + 0)), (3, .ref qn), (2, .int (nI mm)), (1, .int (nI i)), (0, .ref am)]) hx hb dX6_wouldTurn_120 hl (k := 1) rfl (nI_1 _) (by decide) rfl (fun ls hl => ?_)
              refine lv_goto (tgt := 91) hx hb dX6_wouldTurn_123 (by decide) ?_
              have hl := lv_sub hl [0, 1, 2, 3, 4, 5] rfl
              exact ih_91 _ (by omega) H locs ls ⟨j + 1, _, mS T 28 ρ_16, f, rfl, by omega, (INVR.iS hT (by decide) (by decide)), (hT1).s28, hP, hD, hS, hl⟩
        · rw [show T.2 11 i = 1 from (congrFun (hT1.1 11 (by decide) (by decide)) i).trans hz9]
          refine lv_if_ne (tgt := 83) hx hb dX6_wouldTurn_76 (by decide) (fun _ => ?_) (fun c_19 => absurd c_19 (by decide))
          refine lv_iconst (v := 0) hx hb dX6_wouldTurn_83 (by decide) ?_
          refine kmx_zast hx hb hK hP hD hS 11 rfl rfl (Or.inl rfl) (show vp_in (nI i) 8 from ki_in (by omega) (by decide)) dX6_wouldTurn_84 (fun H locs hP hD hS => ?_)
          rw [ki_cl (n := i) (by omega)] at hP hD
          refine lv_iconst (v := 0) hx hb dX6_wouldTurn_85 (by decide) ?_
          refine lv_istore (lv' := [(4, .int 0), (3, .ref qn), (2, .int (nI mm)), (1, .int (nI i)), (0, .ref am)]) hx hb dX6_wouldTurn_86 hl (by decide) rfl (fun ls hl => ?_)
          refine lv_iconst (v := 0) hx hb dX6_wouldTurn_88 (by decide) ?_
          refine lv_istore (lv' := [(5, .int 0), (4, .int 0), (3, .ref qn), (2, .int (nI mm)), (1, .int (nI i)), (0, .ref am)]) hx hb dX6_wouldTurn_89 hl (by decide) rfl (fun ls hl => ?_)
          refine kz_loop 91 (fun N9 H locs ls => ∃ (j : Nat) (acc : Int32) (T : MSt) (f : Nat → Int32), N9 = mm - j ∧ j ≤ mm ∧ INVR n na T ∧ eqM (mR M 11 i 0) T ∧ va_P D vwCl (wM cA am r T ++ [oI cA qn mm f]) H ∧ va_D A (wM cA am r T ++ [oI cA qn mm f]) ∧ va_S A s.heap H locs ∧ lv_has ls 6 [(5, .int (nI j)), (4, .int acc), (3, .ref qn), (2, .int (nI mm)), (1, .int (nI i)), (0, .ref am)]) (fun N9 ih_91 H locs ls hI => ?_) ⟨0, 0, (mR T 11 i 0), f, rfl, by omega, (INVR.on hT hi (by first | exact hz | decide)), (eqM.tog1 hT1), hP, hD, hS, lv_sub hl [0, 1, 2, 3, 4, 5] rfl⟩
          obtain ⟨j, acc, T, f, hn9, hj, hT, hT1, hP, hD, hS, hl⟩ := hI
          have hz11 : T.2 11 i = 0 := (congrFun (hT1.1 11 (by decide) (by decide)) i).trans (by rw [mR_at, if_pos ⟨rfl, rfl⟩])
          refine lv_iload hx hb dX6_wouldTurn_91 (lv_at hl 0 rfl) ?_
          refine lv_iload_n hx hb dX6_wouldTurn_93 rfl (lv_at hl 3 rfl) ?_
          refine lv_icmp_ge (tgt := 126) hx hb dX6_wouldTurn_94 (by decide) (fun c_20 => ?_) (fun c_20 => ?_)
          · replace c_20 := (nI_leI (a := mm) (b := j) (by omega) (by omega)).mp c_20
            refine lv_aload_n hx hb dX6_wouldTurn_126 rfl (lv_at hl 5 rfl) ?_
            refine kmx_getr hx hb htT hown hK hP 11 (by decide) rfl (htT _ m_fl_X6_32) dX6_wouldTurn_127 ?_
            refine lv_iload_n hx hb dX6_wouldTurn_130 rfl (lv_at hl 4 rfl) ?_
            refine lv_aload_n hx hb dX6_wouldTurn_131 rfl (lv_at hl 5 rfl) ?_
            refine kmx_getr hx hb htT hown hK hP 11 (by decide) rfl (htT _ m_fl_X6_32) dX6_wouldTurn_132 ?_
            refine lv_iload_n hx hb dX6_wouldTurn_135 rfl (lv_at hl 4 rfl) ?_
            refine kmx_zald hx hb hK hP 11 rfl rfl (show vp_in (nI i) 8 from ki_in (by omega) (by decide)) dX6_wouldTurn_136 ?_
            rw [ki_cl (n := i) (by omega)]
            rw [show T.2 11 i = 0 from hz11]
            refine lv_if_ne (tgt := 144) hx hb dX6_wouldTurn_137 (by decide) (fun c_22 => absurd c_22 (by decide)) (fun _ => ?_)
            refine lv_iconst (v := 1) hx hb dX6_wouldTurn_140 (by decide) ?_
            refine lv_goto (tgt := 145) hx hb dX6_wouldTurn_141 (by decide) ?_
            refine kmx_zast hx hb hK hP hD hS 11 rfl rfl (Or.inr rfl) (show vp_in (nI i) 8 from ki_in (by omega) (by decide)) dX6_wouldTurn_145 (fun H locs hP hD hS => ?_)
            rw [ki_cl (n := i) (by omega)] at hP hD
            refine lv_iload hx hb dX6_wouldTurn_146 (lv_at hl 1 rfl) ?_
            have hP := kmx_P hP
            have hD := kmx_D hD
            exact W.iret (v := acc) hx hb hr (fun t ht hW => ⟨⟨acc, mR T 11 i 1, rfl, ⟨(INVR.on hT hi (by first | exact hz | decide)), eqM.tog2 hT1 hz9⟩, by rw [ht]; exact hP, va_K.moved hW.alike hK, hD⟩, hS.F ht⟩) hS.2.2 dX6_wouldTurn_148
          · replace c_20 : ¬ (mm ≤ j) := fun h9 => c_20 ((nI_leI (a := mm) (b := j) (by omega) (by omega)).mpr h9)
            refine lv_iload hx hb dX6_wouldTurn_97 (lv_at hl 1 rfl) ?_
            refine lv_aload_n hx hb dX6_wouldTurn_99 rfl (lv_at hl 5 rfl) ?_
            refine lv_iload hx hb dX6_wouldTurn_100 (lv_at hl 0 rfl) ?_
            obtain ⟨ru_23, hok_23⟩ := hT.1
            refine kj_i (List.Perm.refl _) (va_runV (As := [.int (nI j)]) (rest := [.int acc]) ⟨hx, hb, hml, hown, htT⟩ (m_all l D cA _ am r T n na ru_23 hok_23 j (by omega)) (cwV 1 htT (kg_V m_ml_X6_212 m_im_X6_all m_sl_X6_all m_in_X6 m_cd_X6_all) rfl rfl rfl (by decide +kernel) ⟨Nat.le_of_ble_eq_true rfl, Nat.le_of_ble_eq_true rfl⟩) (kj_V (List.Perm.refl _) hK hP hD hTB (kj_rm (List.Perm.refl _) hK hP)) rfl rfl hl.1 rfl (lv_room (Nat.le_of_ble_eq_true rfl)) dX6_wouldTurn_102 ⟨Nat.le_of_ble_eq_true rfl, Nat.le_of_ble_eq_true rfl⟩) hP hD hS hA (fun r_23 x_23 H locs hq_23 hP hD hS => ?_)
            obtain ⟨ρ_23, rfl⟩ := hq_23.2
            refine lv_aload_n hx hb dX6_wouldTurn_105 rfl (lv_at hl 2 rfl) ?_
            refine lv_iload hx hb dX6_wouldTurn_106 (lv_at hl 0 rfl) ?_
            refine kmx_ald hx hb hK hP (show vp_in (nI j) mm from ki_in (by omega) (by omega)) dX6_wouldTurn_108 (fun v_24 => ?_)
            refine lv_icmp_ne (tgt := 116) hx hb dX6_wouldTurn_109 (by decide) (fun c_25 => ?_) (fun c_25 => ?_)
            · refine lv_iconst (v := 1) hx hb dX6_wouldTurn_116 (by decide) ?_
              refine lv_iadd hx hb dX6_wouldTurn_117 ?_
              refine lv_istore (lv' := [(4, .int (acc + 1)), (5, .int (nI j)), (3, .ref qn), (2, .int (nI mm)), (1, .int (nI i)), (0, .ref am)]) hx hb dX6_wouldTurn_118 hl (by decide) rfl (fun ls hl => ?_)
              refine lv_iinc (v := nI (j + 1)) (lv' := [(5, .int (nI (j + 1))), (4, .int (acc + 1)), (3, .ref qn), (2, .int (nI mm)), (1, .int (nI i)), (0, .ref am)]) hx hb dX6_wouldTurn_120 hl (k := 1) rfl (nI_1 _) (by decide) rfl (fun ls hl => ?_)
              refine lv_goto (tgt := 91) hx hb dX6_wouldTurn_123 (by decide) ?_
              have hl := lv_sub hl [0, 1, 2, 3, 4, 5] rfl
              exact ih_91 _ (by omega) H locs ls ⟨j + 1, _, mS T 28 ρ_23, f, rfl, by omega, (INVR.iS hT (by decide) (by decide)), (hT1).s28, hP, hD, hS, hl⟩
            · refine lv_iconst (v := 0) hx hb dX6_wouldTurn_112 (by decide) ?_
              refine lv_goto (tgt := 117) hx hb dX6_wouldTurn_113 (by decide) ?_
              refine lv_iadd hx hb dX6_wouldTurn_117 ?_
              refine lv_istore (lv' := [(4, .int (acc + 0)), (5, .int (nI j)), (3, .ref qn), (2, .int (nI mm)), (1, .int (nI i)), (0, .ref am)]) hx hb dX6_wouldTurn_118 hl (by decide) rfl (fun ls hl => ?_)
              refine lv_iinc (v := nI (j + 1)) (lv' := [(5, .int (nI (j + 1))), (4, .int (acc + 0)), (3, .ref qn), (2, .int (nI mm)), (1, .int (nI i)), (0, .ref am)]) hx hb dX6_wouldTurn_120 hl (k := 1) rfl (nI_1 _) (by decide) rfl (fun ls hl => ?_)
              refine lv_goto (tgt := 91) hx hb dX6_wouldTurn_123 (by decide) ?_
              have hl := lv_sub hl [0, 1, 2, 3, 4, 5] rfl
              exact ih_91 _ (by omega) H locs ls ⟨j + 1, _, mS T 28 ρ_23, f, rfl, by omega, (INVR.iS hT (by decide) (by decide)), (hT1).s28, hP, hD, hS, hl⟩
      · replace c_10 : ¬ (mm ≤ j) := fun h9 => c_10 ((nI_leI (a := mm) (b := j) (by omega) (by omega)).mpr h9)
        refine lv_aload_n hx hb dX6_wouldTurn_49 rfl (lv_at hl 1 rfl) ?_
        refine lv_iload hx hb dX6_wouldTurn_50 (lv_at hl 0 rfl) ?_
        refine lv_aload_n hx hb dX6_wouldTurn_52 rfl (lv_at hl 4 rfl) ?_
        refine lv_iload hx hb dX6_wouldTurn_53 (lv_at hl 0 rfl) ?_
        obtain ⟨ru_26, hok_26⟩ := hT.1
        refine kj_i (List.Perm.refl _) (va_runV (As := [.int (nI j)]) (rest := [.int (nI j), .ref qn]) ⟨hx, hb, hml, hown, htT⟩ (m_all l D cA _ am r T n na ru_26 hok_26 j (by omega)) (cwV 1 htT (kg_V m_ml_X6_212 m_im_X6_all m_sl_X6_all m_in_X6 m_cd_X6_all) rfl rfl rfl (by decide +kernel) ⟨Nat.le_of_ble_eq_true rfl, Nat.le_of_ble_eq_true rfl⟩) (kj_V (List.Perm.refl _) hK hP hD hTB (kj_rm (List.Perm.refl _) hK hP)) rfl rfl hl.1 rfl (lv_room (Nat.le_of_ble_eq_true rfl)) dX6_wouldTurn_55 ⟨Nat.le_of_ble_eq_true rfl, Nat.le_of_ble_eq_true rfl⟩) hP hD hS hA (fun r_26 x_26 H locs hq_26 hP hD hS => ?_)
        obtain ⟨ρ_26, rfl⟩ := hq_26.2
        refine kmx_ast hx hb hK hP hD hS (show vp_in (nI j) mm from ki_in (by omega) (by omega)) dX6_wouldTurn_58 (fun f_27 H locs hP hD hS => ?_)
        refine lv_iinc (v := nI (j + 1)) (lv' := [(4, .int (nI (j + 1))), (3, .ref qn), (2, .int (nI mm)), (1, .int (nI i)), (0, .ref am)]) hx hb dX6_wouldTurn_59 hl (k := 0) rfl (nI_1 _) (by decide) rfl (fun ls hl => ?_)
        refine lv_goto (tgt := 43) hx hb dX6_wouldTurn_62 (by decide) ?_
        have hl := lv_sub hl [0, 1, 2, 3, 4] rfl
        exact ih_43 _ (by omega) H locs ls ⟨j + 1, mS T 28 ρ_26, f_27, rfl, by omega, (INVR.iS hT (by decide) (by decide)), (hT1).s28, hP, hD, hS, hl⟩

