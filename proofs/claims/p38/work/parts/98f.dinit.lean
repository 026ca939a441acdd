def DI (T : Pool) (d : Nat) (F : Nat → Option Nat) : Prop := isO T d 23 ∧ (∀ k, gI T d k = 0) ∧ ∀ k, gQ T d k = F k
theorem DI.ext {T U : Pool} {d : Nat} {F : Nat → Option Nat} (h : DI T d F) (e : ExtA T U) : DI U d F := ⟨e.o h.1, fun k => ((e d h.1.1).2.1 k).trans (h.2.1 k), fun k => ((e d h.1.1).2.2.1 k).trans (h.2.2 k)⟩
theorem DI.q {T : Pool} {d : Nat} {F : Nat → Option Nat} (h : DI T d F) {k : Nat} {v : Option Nat} : DI (pQ T d k v) d (fun j => if j = k then v else F j) := ⟨h.1, h.2.1, fun j => by
  show u2 (gQ T) d k v d j = if j = k then v else F j
  by_cases e : j = k
  · rw [e, u2_s, if_pos rfl]
  · rw [u2_k e, if_neg e]; exact h.2.2 j⟩
theorem DK.init {T T1 T2 T3 T4 : Pool} {d x b q1 q2 q3 q4 : Nat} {r2 r3 : Nat → Nat} {v : Int32} (ho : isO T d 23) (hz : ∀ k, gI T d k = 0)
    (e1 : T1 = pW (pQ T d 0 (some x)) q1 24 8) (h1 : q1 ∉ gL (pQ T d 0 (some x)))
    (e2 : T2 = pMN (pQ T1 d 6 (some q1)) q2 r2 8 24 8 4) (i2 : ∀ i j : Nat, i < 8 → j < 8 → r2 i = r2 j → i = j) (n2 : ∀ i : Nat, i < 8 → r2 i ∉ gL (pQ T1 d 6 (some q1))) (h2 : q2 ∉ gL (pQ T1 d 6 (some q1)) ++ rwL r2 8)
    (e3 : T3 = pMN (pQ T2 d 7 (some q2)) q3 r3 8 25 24 0) (i3 : ∀ i j : Nat, i < 8 → j < 8 → r3 i = r3 j → i = j) (n3 : ∀ i : Nat, i < 8 → r3 i ∉ gL (pQ T2 d 7 (some q2))) (h3 : q3 ∉ gL (pQ T2 d 7 (some q2)) ++ rwL r3 8)
    (e4 : T4 = pW (pQ T3 d 8 (some q3)) q4 24 0) (h4 : q4 ∉ gL (pQ T3 d 8 (some q3))) :
    DK (pI (pQ (pQ T4 d 9 (some q4)) d 1 (some b)) d 2 v) d x b (q1, q2, q3, q4, fun _ => 0, r2, r3, fun _ _ => 0, fun _ => 0) (0, 0, upd (fun _ => 0) 2 v, fun _ _ => 0, fun _ _ => 0, fun _ => 0, fun _ _ _ => 0, fun _ _ => 0) := by
  have m2 : q2 ∉ gL (pQ T1 d 6 (some q1)) := fun h => h2 (List.mem_append_left _ h)
  have m3 : q3 ∉ gL (pQ T2 d 7 (some q2)) := fun h => h3 (List.mem_append_left _ h)
  have E1 : ExtA (pQ T d 0 (some x)) T1 := by rw [e1]; exact ExtA.new h1
  have E2 : ExtA (pQ T1 d 6 (some q1)) T2 := by rw [e2]; exact pMN_ext m2 n2
  have E3 : ExtA (pQ T2 d 7 (some q2)) T3 := by rw [e3]; exact pMN_ext m3 n3
  have E4 : ExtA (pQ T3 d 8 (some q3)) T4 := by rw [e4]; exact ExtA.new h4
  have d0 : DI T d (gQ T d) := ⟨ho, hz, fun _ => rfl⟩
  have d4 := ((((d0.q (k := 0) (v := some x)).ext E1).q (k := 6) (v := some q1)).ext E2).q (k := 7) (v := some q2)
  have d5 := (((d4.ext E3).q (k := 8) (v := some q3)).ext E4).q (k := 9) (v := some q4)
  have d6 := d5.q (k := 1) (v := some b)
  have a1 : isA T1 q1 24 8 := by rw [e1]; exact isA_q
  have a1' : isA (pQ T1 d 6 (some q1)) q1 24 8 := a1
  have b1 : isA T2 q1 24 8 := E2.a a1'
  have b1' : isA (pQ T2 d 7 (some q2)) q1 24 8 := b1
  have c1 : isA T3 q1 24 8 := E3.a b1'
  have c1' : isA (pQ T3 d 8 (some q3)) q1 24 8 := c1
  have f1 : isA T4 q1 24 8 := E4.a c1'
  have b2 : isA T2 q2 24 8 := by rw [e2]; exact pMN_q
  have b2' : isA (pQ T2 d 7 (some q2)) q2 24 8 := b2
  have c2 : isA T3 q2 24 8 := E3.a b2'
  have c2' : isA (pQ T3 d 8 (some q3)) q2 24 8 := c2
  have f2 : isA T4 q2 24 8 := E4.a c2'
  have c3 : isA T3 q3 25 8 := by rw [e3]; exact pMN_q
  have c3' : isA (pQ T3 d 8 (some q3)) q3 25 8 := c3
  have f3 : isA T4 q3 25 8 := E4.a c3'
  have f4 : isA T4 q4 24 0 := by rw [e4]; exact isA_q
  have nq : ∀ {r : Nat → Nat} {L : List Nat} {q : Nat}, q ∉ L ++ rwL r 8 → ∀ k, k < 8 → r k ≠ q := fun h k hk e => h (List.mem_append_right _ (e ▸ rw_in hk))
  have w1 : ∀ k, k < 8 → gP T4 q2 k = some (r2 k) ∧ isA T4 (r2 k) 8 4 ∧ ∀ j, j < 4 → gR T4 (r2 k) j = 0 := fun k hk => by
    have p1 : gP T2 q2 k = some (r2 k) := by rw [e2]; exact pMN_p hk
    have p2 : isA T2 (r2 k) 8 4 := by rw [e2]; exact pMN_r hk (nq h2 k hk)
    have p3 : ∀ j, gR T2 (r2 k) j = 0 := fun j => by rw [e2]; exact pMN_v hk
    have p2' : isA (pQ T2 d 7 (some q2)) (r2 k) 8 4 := p2
    have s2 : isA T3 (r2 k) 8 4 := E3.a p2'
    have s2' : isA (pQ T3 d 8 (some q3)) (r2 k) 8 4 := s2
    exact ⟨((E4 q2 c2'.1).2.2.2.2 k).trans (((E3 q2 b2'.1).2.2.2.2 k).trans p1), E4.a s2', fun j _ => ((E4 _ s2'.1).2.2.2.1 j).trans (((E3 _ p2'.1).2.2.2.1 j).trans (p3 j))⟩
  have w2 : ∀ k, k < 8 → gP T4 q3 k = some (r3 k) ∧ isA T4 (r3 k) 24 0 := fun k hk => by
    have p1 : gP T3 q3 k = some (r3 k) := by rw [e3]; exact pMN_p hk
    have p2 : isA T3 (r3 k) 24 0 := by rw [e3]; exact pMN_r hk (nq h3 k hk)
    have p2' : isA (pQ T3 d 8 (some q3)) (r3 k) 24 0 := p2
    exact ⟨((E4 q3 c3'.1).2.2.2.2 k).trans p1, E4.a p2'⟩
  refine ⟨⟨d6.1, d6.2.2 0, d6.2.2 1, d6.2.2 6, d6.2.2 7, d6.2.2 8, d6.2.2 9, fun k => ?_⟩, ⟨f1, f2, f3, f4, fun e => m2 (by have e : q1 = q2 := e; rw [← e]; exact a1'.1), fun e => h4 (by have e : q1 = q4 := e; rw [← e]; exact c1'.1), fun k hk e => n3 k hk (by have e : q1 = r3 k := e; rw [← e]; exact b1'.1), Nat.zero_le _⟩, ⟨fun k hk => absurd hk (Nat.not_lt_zero _), fun i k hi => absurd hi (Nat.not_lt_zero _)⟩, ⟨w1, fun i k hi hk e => i2 i k hi hk e⟩, fun k hk => ⟨(w2 k hk).1, (w2 k hk).2, fun i hi => absurd hi (Nat.not_lt_zero _)⟩, ⟨fun i hi => absurd hi (Nat.not_lt_zero _), fun i k hi => absurd hi (Nat.not_lt_zero _)⟩⟩
  show u2 (gI (pQ (pQ T4 d 9 (some q4)) d 1 (some b))) d 2 v d k = upd (fun _ => 0) 2 v k
  by_cases e : k = 2
  · rw [e, u2_s]; rfl
  · rw [u2_k e]; exact (d6.2.1 k).trans (by simp [upd, e])

theorem VM.init {dr : Nat} : VM (0, 0, upd (fun _ => 0) 2 (nI dr), fun _ _ => 0, fun _ _ => 0, fun _ => 0, fun _ _ _ => 0, fun _ _ => 0) 0 0 dr mZ := ⟨⟨rfl, rfl, rfl, rfl, rfl, rfl⟩, ⟨fun k hk => absurd hk (Nat.not_lt_zero _), fun k hk => absurd hk (Nat.not_lt_zero _)⟩, fun k hk v hv => rfl, fun k hk => ⟨Nat.zero_le _, rfl, fun i hi => absurd hi (Nat.not_lt_zero _)⟩, fun i hi => absurd hi (Nat.not_lt_zero _)⟩
set_option maxRecDepth 100000 in
set_option maxHeartbeats 4000000 in
/-- Desk -/
theorem d_init (l : Launch) (D : va_G) (cA : Nat → ClassId) (sz : Nat) (b L : Nat) (xs : Nat → Int32) (hL : L < 2 ^ 31) (T : Pool) (d dr : Nat) (ho : isO T d 23) (hz : ∀ k, gI T d k = 0)  : Met l yX6_init (Cond.code yX6_init cX6_init 3 none :: TT) ({ frames := 3, cells := 23, slots := 76, locals := 52 }) (va_Pc [.ref d, .ref b, .int (nI dr)] (kPreE D cA (PW cA T ++ PW cA P0) b L xs sz)) (va_Qv (fun (x_ : Pool × Pool) => ∃ x ar ak, J38 d x b ar ak dr 0 0 0 x_.1 x_.2) (fun x_ => kB D cA (va_A (PW cA T ++ PW cA P0) sz) (PW cA x_.1 ++ PW cA x_.2)) (va_A (PW cA T ++ PW cA P0) sz)) 23 76 (va_A (PW cA T ++ PW cA P0) sz) := by
  refine Met.ofW (cc := cX6_init) (maxL := 3) (ret := none) (by decide) rfl ?_
  intro p e s m args below meth c s₁ B hml hv
  obtain ⟨rfl, ⟨⟨hsz, hP, hK, hD0, hTB⟩, hTX⟩, hX, hbl, hbA, hAO⟩ := hv
  have hx := B.exec
  have hb := B.bytes
  have hr := B.returns
  have hts := atoms_spec (ws := Cond.code yX6_init cX6_init 3 none :: TT) B.pre
  have htT : ∀ w ∈ TT, w.before _ s = true := fun w h => hts w (List.mem_cons_of_mem _ h)
  have hown : s.vm.findClass RX6 = some m.cls := findClass_of_methodNamed B.named
  have hlocks := B.notSynchronized
  have hin : meth.name = "<init>" := (name_of_methodNamed B.named B.method).1
  subst hsz
  have hD := hD0.self (sz := s.heap.size)
  generalize hAe : va_A (PW cA T ++ PW cA P0) s.heap.size = A at hD hTX hbA ⊢
  have hA : ∀ q : Nat, s.heap.size ≤ q → A q := fun q h => by rw [← hAe]; exact Or.inr h
  have hS : va_S A s.heap s.heap [] := va_S.rf
  have hl := lv_entry ([.ref d, .ref b, .int (nI dr)]) (n := 3) (Nat.le_of_ble_eq_true rfl)
  rw [lg_entry_eq]
  generalize (lg_sl ([.ref d, .ref b, .int (nI dr)]) ++ List.replicate (3 - (lg_sl ([.ref d, .ref b, .int (nI dr)])).length) Slot.unset).toArray = ls at hl ⊢
  have hl : lv_has ls 3 [(0, .ref d), (1, .ref b), (2, .int (nI dr))] := hl
  refine lv_aload_n hx hb dX6_init_0 rfl (lv_at hl 0 rfl) ?_
  refine W.objInit hx hb hown (htT _ m_ml_X6_1) (htT _ m_im_objectInit) (htT _ m_cd_objectInit) rfl (hl.1.trans hml.symm) rfl dX6_init_1 (Nat.le_of_ble_eq_true rfl) (Nat.le_of_ble_eq_true rfl) ?_
  refine lv_aload_n hx hb dX6_init_4 rfl (lv_at hl 0 rfl) ?_
  replace hP := kj_P List.perm_append_comm hP
  replace hD := kj_D List.perm_append_comm hD
  refine ky_new (S := P0) (wb := PW cA T) (ci := 5) hx hb htT m_u_X5 tyX5 tyX5_ok hown (htT _ m_cl_X6_7) (htT _ m_nw_X5) (htT _ m_in_X5) hK hP hD hS hA (Nat.le_of_ble_eq_true rfl) rfl rfl (by decide) (Nat.le_of_ble_eq_true rfl) (Nat.le_of_ble_eq_true rfl) dX6_init_5 (fun x H hqx hP hD hS => ?_)
  replace hP := kj_P List.perm_append_comm hP
  replace hD := kj_D List.perm_append_comm hD
  refine lv_dup hx hb dX6_init_8 rfl ?_
  refine kn_v (va_runI (As := []) (rest := [.ref x, .ref d]) ⟨hx, hb, hml, hown, htT⟩ (c_init l D cA _ (pW P0 x 5 0) x isO_q) (cwI 0 htT (kg_I m_cd_X5_init) rfl rfl rfl (htT _ m_in_X5) (htT _ m_ml_X6_9) (htT _ m_im_X5_init) rfl (by decide +kernel) ⟨Nat.le_of_ble_eq_true rfl, Nat.le_of_ble_eq_true rfl⟩) (kp_S hK (kmy_P (kj_P List.perm_append_comm hP)) (kmy_D (kj_D List.perm_append_comm hD)) hTB) rfl rfl hl.1 rfl (lv_room (Nat.le_of_ble_eq_true rfl)) dX6_init_9 ⟨Nat.le_of_ble_eq_true rfl, Nat.le_of_ble_eq_true rfl⟩) hP hD hS hA (fun z H locs hz hP hD hS => ?_)
  obtain ⟨ar, ak, h1, h2, ez⟩ := hz
  rw [ez] at hP hD
  obtain ⟨S, eS⟩ : ∃ z, z = pQ (pI (pI (pW (pQ (pW (pW P0 x 5 0) ar 22 8) x 0 (some ar)) ak 1 0) ak 3 (-1)) ak 4 (-1)) x 1 (some ak) := ⟨_, rfl⟩
  rw [← eS] at hP hD
  refine kd_putrF (ty := (.object "DaybreakFlags")) (r := (some x)) hx hb htT m_u_X6 tyX6 tyX6_ok nmX6 hown hK hP hD hS ho rfl 0 (by decide) (by decide) rfl (htT _ m_fl_X6_10) rfl hin rfl (by decide +kernel) rfl rfl dX6_init_12 (fun H locs hP hD hS => ?_)
  refine lv_aload_n hx hb dX6_init_15 rfl (lv_at hl 0 rfl) ?_
  refine lv_bipush (v := 8) hx hb dX6_init_16 (by decide) ?_
  refine ky_newa (S := (pQ T d 0 (some x))) (n := 8) (N' := 8) hx hb hown (htT _ m_cl_X6_16) hAO.1 hK hP hD hS hA (by decide) (by decide) (by decide) (Nat.le_of_ble_eq_true rfl) (Nat.le_of_ble_eq_true rfl) dX6_init_18 (fun q1 H hq1 hP hD hS => ?_)
  obtain ⟨T1, eT1⟩ : ∃ z, z = pW (pQ T d 0 (some x)) q1 24 8 := ⟨_, rfl⟩
  rw [← eT1] at hP hD
  have hoT1 : isO T1 d 23 := by rw [eT1]; exact isO_new ho hq1
  refine kd_putrF (ty := (.array (.array .int))) (r := (some q1)) hx hb htT m_u_X6 tyX6 tyX6_ok nmX6 hown hK hP hD hS hoT1 rfl 6 (by decide) (by decide) rfl (htT _ m_fl_X6_18) rfl hin rfl (by decide +kernel) rfl rfl dX6_init_21 (fun H locs hP hD hS => ?_)
  refine lv_aload_n hx hb dX6_init_24 rfl (lv_at hl 0 rfl) ?_
  refine lv_bipush (v := 8) hx hb dX6_init_25 (by decide) ?_
  refine lv_iconst (v := 4) hx hb dX6_init_27 (by decide) ?_
  refine ky_mnaW (S := (pQ T1 d 6 (some q1))) hx hb hown (htT _ m_cl_X6_22) hAO.1 (htT _ m_ar_int) hK hP hD hS hA (n := 8) (k := 4) (N := 8) (K := 4) (by decide) (by decide) (by decide) (by decide) (by decide) (by decide) (by decide) 8 (by decide) (by decide) (Nat.le_of_ble_eq_true rfl) (Nat.le_of_ble_eq_true rfl) dX6_init_28 (fun q2 r2 H hq21 hq22 hq23 hP hD hS => ?_)
  obtain ⟨T2, eT2⟩ : ∃ z, z = pMN (pQ T1 d 6 (some q1)) q2 r2 8 24 8 4 := ⟨_, rfl⟩
  rw [← eT2] at hP hD
  have hoT2 : isO T2 d 23 := by rw [eT2]; exact (pMN_ext (fun h9 => hq23 (List.mem_append_left _ h9)) hq22).o hoT1
  refine kd_putrF (ty := (.array (.array .int))) (r := (some q2)) hx hb htT m_u_X6 tyX6 tyX6_ok nmX6 hown hK hP hD hS hoT2 rfl 7 (by decide) (by decide) rfl (htT _ m_fl_X6_23) rfl hin rfl (by decide +kernel) rfl rfl dX6_init_32 (fun H locs hP hD hS => ?_)
  refine lv_aload_n hx hb dX6_init_35 rfl (lv_at hl 0 rfl) ?_
  refine lv_bipush (v := 8) hx hb dX6_init_36 (by decide) ?_
  refine lv_iconst (v := 0) hx hb dX6_init_38 (by decide) ?_
  refine ky_mnaR (S := (pQ T2 d 7 (some q2))) hx hb hown (htT _ m_cl_X6_26) hAO hK hP hD hS hA (n := 8) (k := 0) (N := 8) (K := 0) (by decide) (by decide) (by decide) (by decide) (by decide) (by decide) (by decide) (Nat.le_of_ble_eq_true rfl) (Nat.le_of_ble_eq_true rfl) dX6_init_39 (fun q3 r3 H hq31 hq32 hq33 hP hD hS => ?_)
  obtain ⟨T3, eT3⟩ : ∃ z, z = pMN (pQ T2 d 7 (some q2)) q3 r3 8 25 24 0 := ⟨_, rfl⟩
  rw [← eT3] at hP hD
  have hoT3 : isO T3 d 23 := by rw [eT3]; exact (pMN_ext (fun h9 => hq33 (List.mem_append_left _ h9)) hq32).o hoT2
  refine kd_putrF (ty := (.array (.array (.array .int)))) (r := (some q3)) hx hb htT m_u_X6 tyX6 tyX6_ok nmX6 hown hK hP hD hS hoT3 rfl 8 (by decide) (by decide) rfl (htT _ m_fl_X6_28) rfl hin rfl (by decide +kernel) rfl rfl dX6_init_43 (fun H locs hP hD hS => ?_)
  refine lv_aload_n hx hb dX6_init_46 rfl (lv_at hl 0 rfl) ?_
  refine lv_iconst (v := 0) hx hb dX6_init_47 (by decide) ?_
  refine ky_newa (S := (pQ T3 d 8 (some q3))) (n := 0) (N' := 0) hx hb hown (htT _ m_cl_X6_16) hAO.1 hK hP hD hS hA (by decide) (by decide) (by decide) (Nat.le_of_ble_eq_true rfl) (Nat.le_of_ble_eq_true rfl) dX6_init_48 (fun q4 H hq4 hP hD hS => ?_)
  obtain ⟨T4, eT4⟩ : ∃ z, z = pW (pQ T3 d 8 (some q3)) q4 24 0 := ⟨_, rfl⟩
  rw [← eT4] at hP hD
  have hoT4 : isO T4 d 23 := by rw [eT4]; exact isO_new hoT3 hq4
  refine kd_putr (ty := (.array (.array .int))) (r := (some q4)) hx hb htT m_u_X6 tyX6 tyX6_ok nmX6 hown hK hP hD hS hoT4 rfl 9 (by decide) (by decide) rfl (htT _ m_fl_X6_31) rfl (by decide +kernel) rfl rfl dX6_init_51 (fun H locs hP hD hS => ?_)
  refine lv_aload_n hx hb dX6_init_54 rfl (lv_at hl 0 rfl) ?_
  refine lv_aload_n hx hb dX6_init_55 rfl (lv_at hl 1 rfl) ?_
  refine kd_putrF (ty := (.array .int)) (r := (some b)) hx hb htT m_u_X6 tyX6 tyX6_ok nmX6 hown hK hP hD hS hoT4 rfl 1 (by decide) (by decide) rfl (htT _ m_fl_X6_34) rfl hin rfl (by decide +kernel) rfl rfl dX6_init_56 (fun H locs hP hD hS => ?_)
  refine lv_aload_n hx hb dX6_init_59 rfl (lv_at hl 0 rfl) ?_
  refine lv_iload_n hx hb dX6_init_60 rfl (lv_at hl 2 rfl) ?_
  refine kd_puti (ty := .int) hx hb htT m_u_X6 tyX6 tyX6_ok nmX6 hown hK hP hD hS hoT4 rfl 2 (by decide) (by decide) rfl (htT _ m_fl_X6_37) rfl (by decide +kernel) rfl rfl dX6_init_61 (fun H locs hP hD hS => ?_)
  exact W.vret hx hb hr (fun t ht hW => ⟨⟨((pI (pQ (pQ T4 d 9 (some q4)) d 1 (some b)) d 2 (nI dr)), S), rfl, ⟨x, ar, ak, 0, 0, dr, 0, 0, _, _, _, _, _, _, _, mZ, Nat.le_refl _, Nat.le_refl _, Nat.le_refl _, Nat.le_refl _, DK.init ho hz eT1 hq1 eT2 hq21 hq22 hq23 eT3 hq31 hq32 hq33 eT4 hq4, VM.init, by rw [eS]; exact GG.init h1 h2, MK.init⟩, by rw [ht]; exact hP, va_K.moved hW.alike hK, hD⟩, hS.F ht⟩) hS.2.2 dX6_init_64

