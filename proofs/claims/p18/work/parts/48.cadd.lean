set_option maxRecDepth 100000 in
set_option maxHeartbeats 4000000 in
/-- add, where all are there -/
theorem c_add_full (l : Launch) (hst : l.stackTraces = false) (D : va_G) (cA : Nat → ClassId) (sz : Nat) (S : Pool) (x : Nat) (hx5 : isO S x 5) (ar : Nat) (hq0 : gQ S x 0 = some ar) (har : isA S ar 22 8) (p0 p1 p2 : Int32) (h1 : kOut p0 0 498 = 0) (h2 : kOut p1 2 4 = 0) (hc0 : ¬ gI S x 2 < 0) (hc8 : ¬ gI S x 2 < 8) : vx_Met l yX5_add (Cond.code yX5_add cX5_add 5 (some .int) :: TT) ({ frames := 6, cells := 1, slots := 6, locals := 82 }) (va_Pc [.ref x, .int p0, .int p1, .int p2] (kPreX D cA (PW cA S) sz)) kNo (kXC D cA (PW cA S) "java/lang/IllegalStateException" (va_A (PW cA S) sz)) 1 6 (va_A (PW cA S) sz) := by
  refine vx_ofW (cc := cX5_add) (maxL := 5) (ret := (some .int)) (by decide) rfl ?_
  intro p e s m args below meth c s₁ B hml hTab hv
  obtain ⟨rfl, ⟨hsz, hP, hK, hD0, hTB⟩, hTX⟩ := hv
  have hx := B.exec
  have hb := B.bytes
  have hr := B.returns
  have hts := atoms_spec (ws := Cond.code yX5_add cX5_add 5 (some .int) :: TT) B.pre
  have htT : ∀ w ∈ TT, w.before _ s = true := fun w h => hts w (List.mem_cons_of_mem _ h)
  have hown : s.vm.findClass RX5 = some m.cls := findClass_of_methodNamed B.named
  have hlocks := B.notSynchronized
  subst hsz
  have hD := hD0.self (sz := s.heap.size)
  generalize hAe : va_A (PW cA S) s.heap.size = A at hD hTX ⊢
  have hA : ∀ q : Nat, s.heap.size ≤ q → A q := fun q h => by rw [← hAe]; exact Or.inr h
  have hS : va_S A s.heap s.heap [] := va_S.rf
  have hl := lv_entry ([.ref x, .int p0, .int p1, .int p2]) (n := 5) (Nat.le_of_ble_eq_true rfl)
  rw [lg_entry_eq]
  generalize (lg_sl ([.ref x, .int p0, .int p1, .int p2]) ++ List.replicate (5 - (lg_sl ([.ref x, .int p0, .int p1, .int p2])).length) Slot.unset).toArray = ls at hl ⊢
  have hl : lv_has ls 5 [(0, .ref x), (1, .int p0), (2, .int p1), (3, .int p2)] := hl
  refine lv_iload_n hx hb dX5_add_0 rfl (lv_at hl 1 rfl) ?_
  refine lv_iconst (v := 0) hx hb dX5_add_1 (by decide) ?_
  refine lv_sipush (v := 498) hx hb dX5_add_2 (by decide) ?_
  refine kc_i (va_runS (As := [.int p0, .int 0, .int 498]) (rest := []) ⟨hx, hb, hml, hown, htT⟩ (c_isOutside l D cA _ S p0 0 498) (cwS 3 htT (kg_S m_ml_X5_22 m_st_X5_isOutside m_in_X5 m_cd_X5_isOutside) rfl rfl rfl (by decide +kernel) ⟨Nat.le_of_ble_eq_true rfl, Nat.le_of_ble_eq_true rfl⟩) (kp_S hK hP hD hTB) rfl rfl hl.1 rfl (lv_room (Nat.le_of_ble_eq_true rfl)) dX5_add_5 ⟨Nat.le_of_ble_eq_true rfl, Nat.le_of_ble_eq_true rfl⟩) hD hS hA (fun r_1 x_1 H locs hq_1 hP hD hS => ?_)
  rw [hq_1.1.trans h1]
  rw [hq_1.2] at hP hD
  refine lv_if_ne (tgt := 20) hx hb dX5_add_8 (by decide) (fun c_2 => absurd c_2 (by decide)) (fun _ => ?_)
  refine lv_iload_n hx hb dX5_add_11 rfl (lv_at hl 2 rfl) ?_
  refine lv_iconst (v := 2) hx hb dX5_add_12 (by decide) ?_
  refine lv_iconst (v := 4) hx hb dX5_add_13 (by decide) ?_
  refine kc_i (va_runS (As := [.int p1, .int 2, .int 4]) (rest := []) ⟨hx, hb, hml, hown, htT⟩ (c_isOutside l D cA _ S p1 2 4) (cwS 3 htT (kg_S m_ml_X5_22 m_st_X5_isOutside m_in_X5 m_cd_X5_isOutside) rfl rfl rfl (by decide +kernel) ⟨Nat.le_of_ble_eq_true rfl, Nat.le_of_ble_eq_true rfl⟩) (kp_S hK hP hD hTB) rfl rfl hl.1 rfl (lv_room (Nat.le_of_ble_eq_true rfl)) dX5_add_14 ⟨Nat.le_of_ble_eq_true rfl, Nat.le_of_ble_eq_true rfl⟩) hD hS hA (fun r_3 x_3 H locs hq_3 hP hD hS => ?_)
  rw [hq_3.1.trans h2]
  rw [hq_3.2] at hP hD
  refine lv_if_eq (tgt := 30) hx hb dX5_add_17 (by decide) (fun _ => ?_) (fun c_4 => absurd c_4 (by decide))
  refine lv_aload_n hx hb dX5_add_30 rfl (lv_at hl 0 rfl) ?_
  refine kx_geti hx hb htT m_u_X5 hown hK hP hx5 (Nat.le_of_ble_eq_true rfl) rfl 2 (by decide) (by decide) rfl (htT _ m_fl_X5_33) dX5_add_31 ?_
  refine lv_istore (lv' := [(4, .int (gI S x 2)), (0, .ref x), (1, .int p0), (2, .int p1), (3, .int p2)]) hx hb dX5_add_34 hl (by decide) rfl (fun ls hl => ?_)
  refine lv_iload hx hb dX5_add_36 (lv_at hl 0 rfl) ?_
  refine lv_if_lt (tgt := 51) hx hb dX5_add_38 (by decide) (fun c_5 => ?_) (fun c_5 => ?_)
  · exact absurd c_5 hc0
  · refine lv_iload hx hb dX5_add_41 (lv_at hl 0 rfl) ?_
    refine lv_aload_n hx hb dX5_add_43 rfl (lv_at hl 1 rfl) ?_
    refine kx_gets hx hb htT m_u_X5 hown hK hP hx5 (Nat.le_of_ble_eq_true rfl) rfl 0 (by decide) (by decide) rfl hq0 (htT _ m_fl_X5_11) dX5_add_44 ?_
    refine kx_alen (v := 8) hx hb hK hP har (Nat.le_of_ble_eq_true rfl) (Nat.le_of_ble_eq_true rfl) rfl dX5_add_47 ?_
    refine lv_icmp_lt (tgt := 61) hx hb dX5_add_48 (by decide) (fun c_6 => ?_) (fun c_6 => ?_)
    · exact absurd c_6 hc8
    · exact kt_new (text := "no more switches") hx hb hst hown (Or.inr (Or.inl rfl)) (htT _ m_cl_X5_37) (htT _ m_in_IllegalStateException) (by decide +kernel) (fun w h => htT w (at_ISE w h)) an_ISE (ag_ISE 37) hTB hTX hK hP hD hS (hl.1.trans hml.symm) dX5_add_51 dX5_add_54 dX5_add_55 dX5_add_57 dX5_add_60 hTab (Nat.le_of_ble_eq_true rfl) (Nat.le_of_ble_eq_true rfl) (Nat.le_of_ble_eq_true rfl) (Nat.le_of_ble_eq_true rfl) hlocks (Nat.le_of_ble_eq_true rfl) (Nat.le_of_ble_eq_true rfl)

