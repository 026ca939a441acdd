set_option maxRecDepth 100000 in
set_option maxHeartbeats 4000000 in
theorem whole_start {p : Program} {e : Env} {s : State} {m : MethodId} {below : List Frame} {meth : Method} {c : Code} (l : Launch) (hflags : l.flags = flags0) {b L : Nat} {xs : Nat → Int32} (hL : L ≤ 6) (C0 : lw_At p s m meth c b L xs) : W p l e room_1 s m #[Value.ref b] below meth c s.heap [] 0 0 (lw_Z below #[Value.ref b] s) (entryFrame m ([Value.ref b] : List Value).toArray 9) := by
  obtain ⟨hx, hb, hr, hml, hown, hts, hX, hbl, hlocks, hgv⟩ := id C0
  have hst := kl_st hflags
  have hA : ∀ q : Nat, s.heap.size ≤ q → (fun q : Nat => s.heap.size ≤ q) q := fun _ h => h
  have hbA : ¬ (fun q : Nat => s.heap.size ≤ q) b := Nat.not_le.mpr hbl
  have htT : ∀ w ∈ TT, w.before _ s = true := fun w h => hts w (tt_in h)
  obtain ⟨D, cA, hK⟩ := kl_K hts
  have hTB := kl_TB hts
  have hTX := kl_TX hts hgv
  have hS : va_S (fun q : Nat => s.heap.size ≤ q) s.heap s.heap [] := va_S.rf
  have hP : va_P D vwCl (PW cA P0) s.heap := fun k q h => by have h9 : ([] : va_W)[k]? = some q := h; simp at h9
  have hD : va_D (fun q : Nat => s.heap.size ≤ q) (PW cA P0) := ⟨fun i j p q h => by have h9 : ([] : va_W)[i]? = some p := h; simp at h9, fun k q h => by have h9 : ([] : va_W)[k]? = some q := h; simp at h9⟩
  have hl := lv_entry ([.ref b]) (n := 9) (Nat.le_of_ble_eq_true rfl)
  rw [lg_entry_eq]
  generalize (lg_sl ([.ref b]) ++ List.replicate (9 - (lg_sl ([.ref b])).length) Slot.unset).toArray = ls at hl ⊢
  have hl : lv_has ls 9 [(0, .ref b)] := hl
  refine kx_new (ci := 5) (S := P0) hx hb htT m_u_X5 tyX5 tyX5_ok hown (htT _ m_cl_L_8) (htT _ m_nw_X5) (htT _ m_in_X5) hK hP hD hS hA (Nat.le_of_ble_eq_true rfl) rfl rfl (by decide) (Nat.le_of_ble_eq_true rfl) (Nat.le_of_ble_eq_true rfl) dL_law_0 (fun x H hqx hP hD hS => ?_)
  refine lv_dup hx hb dL_law_3 rfl ?_
  refine kc_v (va_runI (As := []) (rest := [.ref x]) ⟨hx, hb, hml, hown, htT⟩ (c_init l D cA _ (pW P0 x 5 0) x isO_q) (cwI 0 htT (kg_I m_cd_X5_init) rfl rfl rfl (htT _ m_in_X5) (htT _ m_ml_L_120) (htT _ m_im_X5_init) rfl (by decide +kernel) ⟨Nat.le_of_ble_eq_true rfl, Nat.le_of_ble_eq_true rfl⟩) (kp_S hK hP hD hTB) rfl rfl hl.1 rfl (lv_room (Nat.le_of_ble_eq_true rfl)) dL_law_4 ⟨Nat.le_of_ble_eq_true rfl, Nat.le_of_ble_eq_true rfl⟩) hD hS hA (fun z H locs hz hP hD hS => ?_)
  obtain ⟨ar, ak, h1, h2, ez⟩ := hz
  rw [ez] at hP hD
  have hne : x ≠ ar := ne_new (S := pW P0 x 5 0) (isO_q (S := P0) (ki := 5) (n := 0)).1 h1
  have hnk : x ≠ ak := ne_new (S := pQ (pW (pW P0 x 5 0) ar 22 8) x 0 (some ar)) (List.mem_append_left _ (isO_q (S := P0) (ki := 5) (n := 0)).1) h2
  have hra : ar ≠ ak := ne_new (S := pQ (pW (pW P0 x 5 0) ar 22 8) x 0 (some ar)) (isA_q (S := pW P0 x 5 0) (ki := 22) (n := 8)).1 h2
  obtain ⟨S, eS⟩ : ∃ z, z = pQ (pI (pI (pW (pQ (pW (pW P0 x 5 0) ar 22 8) x 0 (some ar)) ak 1 0) ak 3 (-1)) ak 4 (-1)) x 1 (some ak) := ⟨_, rfl⟩
  rw [← eS] at hP hD
  have hx1 : isO (pW P0 x 5 0) x 5 := isO_q (S := P0) (ki := 5) (n := 0)
  have hxT : isO (pQ (pW (pW P0 x 5 0) ar 22 8) x 0 (some ar)) x 5 := isO_new (S := pW P0 x 5 0) (ki := 22) (n := 8) hx1 h1
  have haT : isA (pQ (pW (pW P0 x 5 0) ar 22 8) x 0 (some ar)) ar 22 8 := isA_q (S := pW P0 x 5 0) (ki := 22) (n := 8)
  have ho : isO S x 5 := by rw [eS]; exact isO_new (S := (pQ (pW (pW P0 x 5 0) ar 22 8) x 0 (some ar))) (ki := 1) (n := 0) hxT h2
  have har : isA S ar 22 8 := by rw [eS]; exact isA_new (S := (pQ (pW (pW P0 x 5 0) ar 22 8) x 0 (some ar))) (ki := 1) (n := 0) haT h2
  have hq0 : gQ S x 0 = some ar := by
    rw [eS]
    have e1 : gQ (pW (pQ (pW (pW P0 x 5 0) ar 22 8) x 0 (some ar)) ak 1 0) x 0 = gQ (pQ (pW (pW P0 x 5 0) ar 22 8) x 0 (some ar)) x 0 := gQ_new hxT.1 h2
    have e2 : gQ (pQ (pW (pW P0 x 5 0) ar 22 8) x 0 (some ar)) x 0 = some ar := show u2 (gQ (pW (pW P0 x 5 0) ar 22 8)) x 0 (some ar) x 0 = some ar from u2_s
    exact (show u2 (gQ (pW (pQ (pW (pW P0 x 5 0) ar 22 8) x 0 (some ar)) ak 1 0)) x 1 (some ak) x 0 = some ar from (u2_k (by decide)).trans (e1.trans e2))
  have hn : ∀ j, j < 8 → gP S ar j = none := by
    intro j _
    rw [eS]
    have e1 : gP (pW (pQ (pW (pW P0 x 5 0) ar 22 8) x 0 (some ar)) ak 1 0) ar j = gP (pQ (pW (pW P0 x 5 0) ar 22 8) x 0 (some ar)) ar j := gP_new haT.1 h2
    exact (show gP (pW (pQ (pW (pW P0 x 5 0) ar 22 8) x 0 (some ar)) ak 1 0) ar j = none from e1.trans (gP_q (S := pW P0 x 5 0) (ki := 22) (n := 8)))
  have hnum : ∀ k, gI S x k = 0 := by
    intro k
    rw [eS]
    have e1 : gI (pW (pQ (pW (pW P0 x 5 0) ar 22 8) x 0 (some ar)) ak 1 0) x k = gI (pQ (pW (pW P0 x 5 0) ar 22 8) x 0 (some ar)) x k := gI_new hxT.1 h2
    have e2 : gI (pQ (pW (pW P0 x 5 0) ar 22 8) x 0 (some ar)) x k = gI (pW P0 x 5 0) x k := gI_new (S := pW P0 x 5 0) (ki := 22) (n := 8) hx1.1 h1
    have e3 : gI (pW P0 x 5 0) x k = 0 := gI_q (S := P0) (ki := 5) (n := 0)
    exact (show u2 (u2 (gI (pW (pQ (pW (pW P0 x 5 0) ar 22 8) x 0 (some ar)) ak 1 0)) ak 3 (-1)) ak 4 (-1) x k = 0 from (u2_a hnk).trans ((u2_a hnk).trans (e1.trans (e2.trans e3))))
  refine lv_astore_n (lv' := [(1, .ref x), (0, .ref b)]) hx hb dL_law_7 rfl hl (by decide) rfl (fun ls hl => ?_)
  refine va_new (D := D) (ci := 6) (fs := [.int 0, .int 0, .int 0, .int 0, .null, .null, .null, .null, .null, .null, .null, .null, .null, .null, .null, .null, .null, .null, .null, .null, .null, .null, .int 0, .null, .null, .null, .null, .null, .int 0]) (C := RX6) (T := TX6) (N := 29) hx hb htT m_u_X6 tyX6 tyX6_ok hown (htT _ m_cl_L_121) (htT _ m_nw_X6) (htT _ m_in_X6) hK hP hD hS hA rfl (by decide +kernel) (Nat.le_of_ble_eq_true rfl) (Nat.le_of_ble_eq_true rfl) dL_law_8 (fun am H hP hD hS => ?_)
  refine lv_dup hx hb dL_law_11 rfl ?_
  refine kj_v (List.perm_append_comm) (va_runI (As := []) (rest := [.ref am]) ⟨hx, hb, hml, hown, htT⟩ (m_init l D cA _ am) (cwI 0 htT (kg_I m_cd_X6_init) rfl rfl rfl (htT _ m_in_X6) (htT _ m_ml_L_123) (htT _ m_im_X6_init) rfl (by decide +kernel) ⟨Nat.le_of_ble_eq_true rfl, Nat.le_of_ble_eq_true rfl⟩) (kj_S (List.perm_append_comm) hK hP hD hTB) rfl rfl hl.1 rfl (lv_room (Nat.le_of_ble_eq_true rfl)) dL_law_12 ⟨Nat.le_of_ble_eq_true rfl, Nat.le_of_ble_eq_true rfl⟩) hP hD hS hA (fun z H locs hz hP hD hS => ?_)
  obtain ⟨r, M⟩ := z
  have hM : M = mZ := hz
  subst hM
  refine lv_astore_n (lv' := [(2, .ref am), (1, .ref x), (0, .ref b)]) hx hb dL_law_15 rfl hl (by decide) rfl (fun ls hl => ?_)
  refine lv_iconst (v := 1) hx hb dL_law_16 (by decide) ?_
  refine va_newa (D := D) (atype := .long) (ty := .long) (n := 1) (N' := 1) hx hb (htT _ m_ar_long) rfl hK hP hD hS hA (a0 := (1, .inr (.inl (fun _ => 0)))) (fun _ => rfl) (by decide) (by decide) (Nat.le_of_ble_eq_true rfl) (Nat.le_of_ble_eq_true rfl) (Nat.le_of_ble_eq_true rfl) dL_law_17 (fun qo c_1 H hK_1 hP hD hS => ?_)
  obtain rfl : c_1 = cA 1 := kx_arrI (hK_1.2 6 _ rfl).2 (hK.2 1 _ rfl).2
  refine lv_astore_n (lv' := [(3, .ref qo), (2, .ref am), (1, .ref x), (0, .ref b)]) hx hb dL_law_19 rfl hl (by decide) rfl (fun ls hl => ?_)
  refine lv_iconst (v := 1) hx hb dL_law_20 (by decide) ?_
  refine va_newa (D := D) (atype := .double) (ty := .double) (n := 1) (N' := 1) hx hb (htT _ m_ar_double) rfl hK hP hD hS hA (a0 := (1, .inr (.inr (.inr (.inl (fun _ => 0)))))) (fun _ => rfl) (by decide) (by decide) (Nat.le_of_ble_eq_true rfl) (Nat.le_of_ble_eq_true rfl) (Nat.le_of_ble_eq_true rfl) dL_law_21 (fun qd c_2 H hK_2 hP hD hS => ?_)
  obtain rfl : c_2 = cA 3 := kx_arrI (hK_2.2 6 _ rfl).2 (hK.2 3 _ rfl).2
  have hP : va_P D vwCl (LW cA S qo (fun _ => 0) qd (fun _ => 0) am r mZ) H := kj_P (pm0 _ _ _ _) hP
  have hD : va_D (fun q : Nat => s.heap.size ≤ q) (LW cA S qo (fun _ => 0) qd (fun _ => 0) am r mZ) := kj_D (pm0 _ _ _ _) hD
  refine lv_astore (lv' := [(4, .ref qd), (3, .ref qo), (2, .ref am), (1, .ref x), (0, .ref b)]) hx hb dL_law_23 hl (by decide) rfl (fun ls hl => ?_)
  refine lv_iconst (v := 0) hx hb dL_law_25 (by decide) ?_
  refine lv_istore (lv' := [(5, .int 0), (4, .ref qd), (3, .ref qo), (2, .ref am), (1, .ref x), (0, .ref b)]) hx hb dL_law_26 hl (by decide) rfl (fun ls hl => ?_)
  refine lv_iload hx hb dL_law_28 (lv_at hl 0 rfl) ?_
  refine lv_aload_n hx hb dL_law_30 rfl (lv_at hl 5 rfl) ?_
  refine va_slen hx hb hX hbl hbA hS dL_law_31 ?_
  refine lv_bipush (v := 6) hx hb dL_law_32 (by decide) ?_
  refine lv_isub hx hb dL_law_34 ?_
  refine W.widen (k := 100) (n := 2000) (Nat.le_of_ble_eq_true rfl) (Nat.le_of_ble_eq_true rfl) ?_
  refine lv_icmp_gt (tgt := 2699) hx hb dL_law_35 (by decide) (fun _ => ?_) (fun c_1 => ?_)
  · refine lv_iconst (v := 1) hx hb dL_law_2699 (by decide) ?_
    refine va_forget (fun q hq => hS.2.2 q hq) ?_
    refine W.widen (k := 600002) (n := 7302232) (Nat.le_of_ble_eq_true rfl) (Nat.le_of_ble_eq_true rfl) ?_
    refine W.base ?_
    exact lw_ret (Drawn.sameBut.refl s.drawn lw_cs) hx hb hr hlocks dL_law_2700
  · have h6 : L = 6 := by
      rcases (show L = 0 ∨ L = 1 ∨ L = 2 ∨ L = 3 ∨ L = 4 ∨ L = 5 ∨ L = 6 by omega) with rfl | rfl | rfl | rfl | rfl | rfl | rfl
      · exact absurd (by decide) c_1
      · exact absurd (by decide) c_1
      · exact absurd (by decide) c_1
      · exact absurd (by decide) c_1
      · exact absurd (by decide) c_1
      · exact absurd (by decide) c_1
      · rfl
    subst h6
    exact law_round l hst C0 hK hTB hTX ho hq0 har hn hnum hP hD hS hl
