set_option maxRecDepth 100000 in
set_option maxHeartbeats 4000000 in
theorem law_weigh (l : Launch) (hst : l.stackTraces = false) {p : Program} {e : Env} {s : State} {m : MethodId} {below : List Frame} {meth : Method} {c : Code} {b : Nat} {xs : Nat → Int32} (C0 : lw_At p s m meth c b 6 xs) {D : va_G} {cA : Nat → ClassId} (hK : va_K D vwCl (ty6 cA) s) (hTB : TBok s) (hTX : TXok (fun q : Nat => s.heap.size ≤ q) s) {S : Pool} {x ar qo qd am : Nat} {r : Nat → Nat} {fo : Nat → Int64} {fd : Nat → UInt64} {H : Heap} {locs : List Loc} {ls : Array Slot} (ho : isO S x 5) (hq0 : gQ S x 0 = some ar) (har : isA S ar 22 8) (hn : ∀ j, j < 8 → gP S ar j = none) (hnum : ∀ k, gI S x k = 0) (hP : va_P D vwCl (LW cA S qo fo qd fd am r mZ) H) (hD : va_D (fun q : Nat => s.heap.size ≤ q) (LW cA S qo fo qd fd am r mZ)) (hS : va_S (fun q : Nat => s.heap.size ≤ q) s.heap H locs) (hl : lv_has ls 9 [(5, .int 0), (4, .ref qd), (3, .ref qo), (2, .ref am), (1, .ref x), (0, .ref b)])  : W p l e room_1 s m #[Value.ref b] below meth c H locs 100 2000 (lw_Z below #[Value.ref b] s) (F0 m 296 ls []) := by
  obtain ⟨hx, hb, hr, hml, hown, hts, hX, hbl, hlocks, hgv⟩ := id C0
  have htT : ∀ w ∈ TT, w.before _ s = true := fun w h => hts w (tt_in h)
  have hA : ∀ q : Nat, s.heap.size ≤ q → (fun q : Nat => s.heap.size ≤ q) q := fun _ h => h
  have hbA : ¬ (fun q : Nat => s.heap.size ≤ q) b := Nat.not_le.mpr hbl
  refine lv_aload_n hx hb dL_law_296 rfl (lv_at hl 4 rfl) ?_
  refine lv_aload_n hx hb dL_law_297 rfl (lv_at hl 5 rfl) ?_
  refine lv_iload hx hb dL_law_298 (lv_at hl 0 rfl) ?_
  refine lv_iconst (v := 1) hx hb dL_law_300 (by decide) ?_
  refine lv_iadd hx hb dL_law_301 ?_
  rw [show (0 + 1 : Int32) = 1 from by decide]
  refine va_sld hx hb hX hbl hbA hS (vp_in_iff.mpr (by decide)) dL_law_302 ?_
  refine lv_aload_n hx hb dL_law_303 rfl (lv_at hl 5 rfl) ?_
  refine lv_iload hx hb dL_law_304 (lv_at hl 0 rfl) ?_
  refine lv_iconst (v := 2) hx hb dL_law_306 (by decide) ?_
  refine lv_iadd hx hb dL_law_307 ?_
  rw [show (0 + 2 : Int32) = 2 from by decide]
  refine va_sld hx hb hX hbl hbA hS (vp_in_iff.mpr (by decide)) dL_law_308 ?_
  refine lv_aload_n hx hb dL_law_309 rfl (lv_at hl 5 rfl) ?_
  refine lv_iload hx hb dL_law_310 (lv_at hl 0 rfl) ?_
  refine lv_iconst (v := 3) hx hb dL_law_312 (by decide) ?_
  refine lv_iadd hx hb dL_law_313 ?_
  rw [show (0 + 3 : Int32) = 3 from by decide]
  refine va_sld hx hb hX hbl hbA hS (vp_in_iff.mpr (by decide)) dL_law_314 ?_
  refine lv_aload_n hx hb dL_law_315 rfl (lv_at hl 2 rfl) ?_
  refine kj_i (pmJ _ _ _ _) (vx_runSW (As := [.ref x, .int (xs (1 : Int32).toNatClampNeg), .int (xs (2 : Int32).toNatClampNeg), .int (xs (3 : Int32).toNatClampNeg), .ref qo]) (rest := []) ⟨hx, hb, hml, hown, htT⟩ (w_weigh_t l hst D cA _ S x qo fo ho ar hq0 har (xs (1 : Int32).toNatClampNeg) (xs (2 : Int32).toNatClampNeg) (xs (3 : Int32).toNatClampNeg) (fresh_sw hn _)) (vx_cwSW 5 htT (kg_SW m_ml_L_134 m_st_L_weigh m_in_L m_cd_L_weigh) rfl rfl rfl (by decide +kernel) ⟨Nat.le_of_ble_eq_true rfl, Nat.le_of_ble_eq_true rfl⟩) (kj_SX (pmJ _ _ _ _) hK hP hD hTB hTX hS hA) rfl rfl hl.1 rfl (lv_room (Nat.le_of_ble_eq_true rfl)) dL_law_316 ⟨Nat.le_of_ble_eq_true rfl, Nat.le_of_ble_eq_true rfl⟩) hP hD hS hA (fun r_1 x_1 H locs hq_1 hP hD hS => ?_)
  rw [hq_1.1]
  rw [hq_1.2.1, hq_1.2.2] at hP hD
  rw [List.append_assoc] at hP hD
  refine lv_istore (lv' := [(6, .int 1), (5, .int 0), (4, .ref qd), (3, .ref qo), (2, .ref am), (1, .ref x), (0, .ref b)]) hx hb dL_law_319 hl (by decide) rfl (fun ls hl => ?_)
  refine lv_aload_n hx hb dL_law_321 rfl (lv_at hl 4 rfl) ?_
  refine lv_aload_n hx hb dL_law_322 rfl (lv_at hl 6 rfl) ?_
  refine lv_iload hx hb dL_law_323 (lv_at hl 1 rfl) ?_
  refine lv_iconst (v := 1) hx hb dL_law_325 (by decide) ?_
  refine lv_iadd hx hb dL_law_326 ?_
  rw [show (0 + 1 : Int32) = 1 from by decide]
  refine va_sld hx hb hX hbl hbA hS (vp_in_iff.mpr (by decide)) dL_law_327 ?_
  refine lv_aload_n hx hb dL_law_328 rfl (lv_at hl 6 rfl) ?_
  refine lv_iload hx hb dL_law_329 (lv_at hl 1 rfl) ?_
  refine lv_iconst (v := 2) hx hb dL_law_331 (by decide) ?_
  refine lv_iadd hx hb dL_law_332 ?_
  rw [show (0 + 2 : Int32) = 2 from by decide]
  refine va_sld hx hb hX hbl hbA hS (vp_in_iff.mpr (by decide)) dL_law_333 ?_
  refine lv_aload_n hx hb dL_law_334 rfl (lv_at hl 6 rfl) ?_
  refine lv_iload hx hb dL_law_335 (lv_at hl 1 rfl) ?_
  refine lv_iconst (v := 3) hx hb dL_law_337 (by decide) ?_
  refine lv_iadd hx hb dL_law_338 ?_
  rw [show (0 + 3 : Int32) = 3 from by decide]
  refine va_sld hx hb hX hbl hbA hS (vp_in_iff.mpr (by decide)) dL_law_339 ?_
  refine kj_i (pmM _ _ _ _) (va_runV (As := [.int (xs (1 : Int32).toNatClampNeg), .int (xs (2 : Int32).toNatClampNeg), .int (xs (3 : Int32).toNatClampNeg)]) (rest := []) ⟨hx, hb, hml, hown, htT⟩ (m_weigh_0 l D cA _ am r mZ (xs (1 : Int32).toNatClampNeg) (xs (2 : Int32).toNatClampNeg) (xs (3 : Int32).toNatClampNeg) (fresh_in _)) (cwV 3 htT (kg_V m_ml_L_137 m_im_X6_weigh m_sl_X6_weigh m_in_X6 m_cd_X6_weigh) rfl rfl rfl (by decide +kernel) ⟨Nat.le_of_ble_eq_true rfl, Nat.le_of_ble_eq_true rfl⟩) (kj_V (pmM _ _ _ _) hK hP hD hTB (kj_rm (pmM _ _ _ _) hK hP)) rfl rfl hl.1 rfl (lv_room (Nat.le_of_ble_eq_true rfl)) dL_law_340 ⟨Nat.le_of_ble_eq_true rfl, Nat.le_of_ble_eq_true rfl⟩) hP hD hS hA (fun r_2 x_2 H locs hq_2 hP hD hS => ?_)
  rw [hq_2.1]
  rw [hq_2.2] at hP hD
  have hP := kj_P (pmM _ _ _ _).symm hP
  have hD := kj_D (pmM _ _ _ _).symm hD
  refine lv_istore (lv' := [(7, .int 0), (6, .int 1), (5, .int 0), (4, .ref qd), (3, .ref qo), (2, .ref am), (1, .ref x), (0, .ref b)]) hx hb dL_law_343 hl (by decide) rfl (fun ls hl => ?_)
  refine lv_aload_n hx hb dL_law_345 rfl (lv_at hl 5 rfl) ?_
  refine kj_i (pmM _ _ _ _) (va_runV (As := []) (rest := []) ⟨hx, hb, hml, hown, htT⟩ (m_thrown l D cA _ am r (mS (mS mZ 0 0) 0 1)) (cwV 0 htT (kg_V m_ml_L_130 m_im_X6_thrown m_sl_X6_thrown m_in_X6 m_cd_X6_thrown) rfl rfl rfl (by decide +kernel) ⟨Nat.le_of_ble_eq_true rfl, Nat.le_of_ble_eq_true rfl⟩) (kj_V (pmM _ _ _ _) hK hP hD hTB (kj_rm (pmM _ _ _ _) hK hP)) rfl rfl hl.1 rfl (lv_room (Nat.le_of_ble_eq_true rfl)) dL_law_346 ⟨Nat.le_of_ble_eq_true rfl, Nat.le_of_ble_eq_true rfl⟩) hP hD hS hA (fun r_3 x_3 H locs hq_3 hP hD hS => ?_)
  rw [hq_3.1.trans (show (mS (mS mZ 0 0) 0 1).1 0 = 1 from rfl)]
  rw [hq_3.2] at hP hD
  have hP := kj_P (pmM _ _ _ _).symm hP
  have hD := kj_D (pmM _ _ _ _).symm hD
  refine lv_iload hx hb dL_law_349 (lv_at hl 1 rfl) ?_
  refine lv_icmp_eq (tgt := 356) hx hb dL_law_351 (by decide) (fun _ => ?_) (fun c_4 => absurd c_4 (by decide))
  refine lv_iload hx hb dL_law_356 (lv_at hl 1 rfl) ?_
  refine lv_if_ne (tgt := 373) hx hb dL_law_358 (by decide) (fun _ => ?_) (fun c_5 => absurd c_5 (by decide))
  refine lv_goto (tgt := 2693) hx hb dL_law_373 (by decide) ?_
  exact law_end C0 hS (Nat.le_of_ble_eq_true rfl) (Nat.le_of_ble_eq_true rfl) (lv_sub hl [2, 7] rfl)

set_option maxRecDepth 100000 in
set_option maxHeartbeats 4000000 in
theorem law_turn (l : Launch) (hst : l.stackTraces = false) {p : Program} {e : Env} {s : State} {m : MethodId} {below : List Frame} {meth : Method} {c : Code} {b : Nat} {xs : Nat → Int32} (C0 : lw_At p s m meth c b 6 xs) {D : va_G} {cA : Nat → ClassId} (hK : va_K D vwCl (ty6 cA) s) (hTB : TBok s) (hTX : TXok (fun q : Nat => s.heap.size ≤ q) s) {S : Pool} {x ar qo qd am : Nat} {r : Nat → Nat} {fo : Nat → Int64} {fd : Nat → UInt64} {H : Heap} {locs : List Loc} {ls : Array Slot} (ho : isO S x 5) (hq0 : gQ S x 0 = some ar) (har : isA S ar 22 8) (hn : ∀ j, j < 8 → gP S ar j = none) (hnum : ∀ k, gI S x k = 0) (hP : va_P D vwCl (LW cA S qo fo qd fd am r mZ) H) (hD : va_D (fun q : Nat => s.heap.size ≤ q) (LW cA S qo fo qd fd am r mZ)) (hS : va_S (fun q : Nat => s.heap.size ≤ q) s.heap H locs) (hl : lv_has ls 9 [(5, .int 0), (4, .ref qd), (3, .ref qo), (2, .ref am), (1, .ref x), (0, .ref b)])  : W p l e room_1 s m #[Value.ref b] below meth c H locs 100 2000 (lw_Z below #[Value.ref b] s) (F0 m 376 ls []) := by
  obtain ⟨hx, hb, hr, hml, hown, hts, hX, hbl, hlocks, hgv⟩ := id C0
  have htT : ∀ w ∈ TT, w.before _ s = true := fun w h => hts w (tt_in h)
  have hA : ∀ q : Nat, s.heap.size ≤ q → (fun q : Nat => s.heap.size ≤ q) q := fun _ h => h
  have hbA : ¬ (fun q : Nat => s.heap.size ≤ q) b := Nat.not_le.mpr hbl
  refine lv_aload_n hx hb dL_law_376 rfl (lv_at hl 4 rfl) ?_
  refine lv_aload_n hx hb dL_law_377 rfl (lv_at hl 5 rfl) ?_
  refine lv_iload hx hb dL_law_378 (lv_at hl 0 rfl) ?_
  refine lv_iconst (v := 1) hx hb dL_law_380 (by decide) ?_
  refine lv_iadd hx hb dL_law_381 ?_
  rw [show (0 + 1 : Int32) = 1 from by decide]
  refine va_sld hx hb hX hbl hbA hS (vp_in_iff.mpr (by decide)) dL_law_382 ?_
  refine lv_aload_n hx hb dL_law_383 rfl (lv_at hl 5 rfl) ?_
  refine lv_iload hx hb dL_law_384 (lv_at hl 0 rfl) ?_
  refine lv_iconst (v := 2) hx hb dL_law_386 (by decide) ?_
  refine lv_iadd hx hb dL_law_387 ?_
  rw [show (0 + 2 : Int32) = 2 from by decide]
  refine va_sld hx hb hX hbl hbA hS (vp_in_iff.mpr (by decide)) dL_law_388 ?_
  refine lv_if_eq (tgt := 396) hx hb dL_law_389 (by decide) (fun c_1 => ?_) (fun c_1 => ?_)
  · refine lv_iconst (v := 0) hx hb dL_law_396 (by decide) ?_
    refine lv_aload_n hx hb dL_law_397 rfl (lv_at hl 2 rfl) ?_
    refine kj_i (pmJ _ _ _ _) (vx_runSW (As := [.ref x, .int (xs (1 : Int32).toNatClampNeg), .int 0, .ref qo]) (rest := []) ⟨hx, hb, hml, hown, htT⟩ (w_turn_t l hst D cA _ S x qo fo ho ar hq0 har (xs (1 : Int32).toNatClampNeg) 0 (fresh_sw hn _)) (vx_cwSW 4 htT (kg_SW m_ml_L_138 m_st_L_turn m_in_L m_cd_L_turn) rfl rfl rfl (by decide +kernel) ⟨Nat.le_of_ble_eq_true rfl, Nat.le_of_ble_eq_true rfl⟩) (kj_SX (pmJ _ _ _ _) hK hP hD hTB hTX hS hA) rfl rfl hl.1 rfl (lv_room (Nat.le_of_ble_eq_true rfl)) dL_law_398 ⟨Nat.le_of_ble_eq_true rfl, Nat.le_of_ble_eq_true rfl⟩) hP hD hS hA (fun r_2 x_2 H locs hq_2 hP hD hS => ?_)
    rw [hq_2.1]
    rw [hq_2.2.1, hq_2.2.2] at hP hD
    rw [List.append_assoc] at hP hD
    refine lv_istore (lv' := [(6, .int 1), (5, .int 0), (4, .ref qd), (3, .ref qo), (2, .ref am), (1, .ref x), (0, .ref b)]) hx hb dL_law_401 hl (by decide) rfl (fun ls hl => ?_)
    refine lv_aload_n hx hb dL_law_403 rfl (lv_at hl 4 rfl) ?_
    refine lv_aload_n hx hb dL_law_404 rfl (lv_at hl 6 rfl) ?_
    refine lv_iload hx hb dL_law_405 (lv_at hl 1 rfl) ?_
    refine lv_iconst (v := 1) hx hb dL_law_407 (by decide) ?_
    refine lv_iadd hx hb dL_law_408 ?_
    rw [show (0 + 1 : Int32) = 1 from by decide]
    refine va_sld hx hb hX hbl hbA hS (vp_in_iff.mpr (by decide)) dL_law_409 ?_
    refine lv_aload_n hx hb dL_law_410 rfl (lv_at hl 6 rfl) ?_
    refine lv_iload hx hb dL_law_411 (lv_at hl 1 rfl) ?_
    refine lv_iconst (v := 2) hx hb dL_law_413 (by decide) ?_
    refine lv_iadd hx hb dL_law_414 ?_
    rw [show (0 + 2 : Int32) = 2 from by decide]
    refine va_sld hx hb hX hbl hbA hS (vp_in_iff.mpr (by decide)) dL_law_415 ?_
    refine lv_if_eq (tgt := 423) hx hb dL_law_416 (by decide) (fun c_3 => ?_) (fun c_3 => ?_)
    · refine lv_iconst (v := 0) hx hb dL_law_423 (by decide) ?_
      refine kj_i (pmM _ _ _ _) (va_runV (As := [.int (xs (1 : Int32).toNatClampNeg), .int 0]) (rest := []) ⟨hx, hb, hml, hown, htT⟩ (m_turn_0 l D cA _ am r mZ (xs (1 : Int32).toNatClampNeg) 0 (fresh_in _)) (cwV 2 htT (kg_V m_ml_L_141 m_im_X6_turn m_sl_X6_turn m_in_X6 m_cd_X6_turn) rfl rfl rfl (by decide +kernel) ⟨Nat.le_of_ble_eq_true rfl, Nat.le_of_ble_eq_true rfl⟩) (kj_V (pmM _ _ _ _) hK hP hD hTB (kj_rm (pmM _ _ _ _) hK hP)) rfl rfl hl.1 rfl (lv_room (Nat.le_of_ble_eq_true rfl)) dL_law_424 ⟨Nat.le_of_ble_eq_true rfl, Nat.le_of_ble_eq_true rfl⟩) hP hD hS hA (fun r_4 x_4 H locs hq_4 hP hD hS => ?_)
      rw [hq_4.1]
      rw [hq_4.2] at hP hD
      have hP := kj_P (pmM _ _ _ _).symm hP
      have hD := kj_D (pmM _ _ _ _).symm hD
      refine lv_istore (lv' := [(7, .int 0), (6, .int 1), (5, .int 0), (4, .ref qd), (3, .ref qo), (2, .ref am), (1, .ref x), (0, .ref b)]) hx hb dL_law_427 hl (by decide) rfl (fun ls hl => ?_)
      refine lv_aload_n hx hb dL_law_429 rfl (lv_at hl 5 rfl) ?_
      refine kj_i (pmM _ _ _ _) (va_runV (As := []) (rest := []) ⟨hx, hb, hml, hown, htT⟩ (m_thrown l D cA _ am r (mS (mS mZ 0 0) 0 1)) (cwV 0 htT (kg_V m_ml_L_130 m_im_X6_thrown m_sl_X6_thrown m_in_X6 m_cd_X6_thrown) rfl rfl rfl (by decide +kernel) ⟨Nat.le_of_ble_eq_true rfl, Nat.le_of_ble_eq_true rfl⟩) (kj_V (pmM _ _ _ _) hK hP hD hTB (kj_rm (pmM _ _ _ _) hK hP)) rfl rfl hl.1 rfl (lv_room (Nat.le_of_ble_eq_true rfl)) dL_law_430 ⟨Nat.le_of_ble_eq_true rfl, Nat.le_of_ble_eq_true rfl⟩) hP hD hS hA (fun r_5 x_5 H locs hq_5 hP hD hS => ?_)
      rw [hq_5.1.trans (show (mS (mS mZ 0 0) 0 1).1 0 = 1 from rfl)]
      rw [hq_5.2] at hP hD
      have hP := kj_P (pmM _ _ _ _).symm hP
      have hD := kj_D (pmM _ _ _ _).symm hD
      refine lv_iload hx hb dL_law_433 (lv_at hl 1 rfl) ?_
      refine lv_icmp_eq (tgt := 440) hx hb dL_law_435 (by decide) (fun _ => ?_) (fun c_6 => absurd c_6 (by decide))
      refine lv_iload hx hb dL_law_440 (lv_at hl 1 rfl) ?_
      refine lv_if_ne (tgt := 464) hx hb dL_law_442 (by decide) (fun _ => ?_) (fun c_7 => absurd c_7 (by decide))
      refine lv_goto (tgt := 2693) hx hb dL_law_464 (by decide) ?_
      exact law_end C0 hS (Nat.le_of_ble_eq_true rfl) (Nat.le_of_ble_eq_true rfl) (lv_sub hl [2, 7] rfl)
    · exact absurd c_1 c_3
  · refine lv_iconst (v := 1) hx hb dL_law_392 (by decide) ?_
    refine lv_goto (tgt := 397) hx hb dL_law_393 (by decide) ?_
    refine lv_aload_n hx hb dL_law_397 rfl (lv_at hl 2 rfl) ?_
    refine kj_i (pmJ _ _ _ _) (vx_runSW (As := [.ref x, .int (xs (1 : Int32).toNatClampNeg), .int 1, .ref qo]) (rest := []) ⟨hx, hb, hml, hown, htT⟩ (w_turn_t l hst D cA _ S x qo fo ho ar hq0 har (xs (1 : Int32).toNatClampNeg) 1 (fresh_sw hn _)) (vx_cwSW 4 htT (kg_SW m_ml_L_138 m_st_L_turn m_in_L m_cd_L_turn) rfl rfl rfl (by decide +kernel) ⟨Nat.le_of_ble_eq_true rfl, Nat.le_of_ble_eq_true rfl⟩) (kj_SX (pmJ _ _ _ _) hK hP hD hTB hTX hS hA) rfl rfl hl.1 rfl (lv_room (Nat.le_of_ble_eq_true rfl)) dL_law_398 ⟨Nat.le_of_ble_eq_true rfl, Nat.le_of_ble_eq_true rfl⟩) hP hD hS hA (fun r_8 x_8 H locs hq_8 hP hD hS => ?_)
    rw [hq_8.1]
    rw [hq_8.2.1, hq_8.2.2] at hP hD
    rw [List.append_assoc] at hP hD
    refine lv_istore (lv' := [(6, .int 1), (5, .int 0), (4, .ref qd), (3, .ref qo), (2, .ref am), (1, .ref x), (0, .ref b)]) hx hb dL_law_401 hl (by decide) rfl (fun ls hl => ?_)
    refine lv_aload_n hx hb dL_law_403 rfl (lv_at hl 4 rfl) ?_
    refine lv_aload_n hx hb dL_law_404 rfl (lv_at hl 6 rfl) ?_
    refine lv_iload hx hb dL_law_405 (lv_at hl 1 rfl) ?_
    refine lv_iconst (v := 1) hx hb dL_law_407 (by decide) ?_
    refine lv_iadd hx hb dL_law_408 ?_
    rw [show (0 + 1 : Int32) = 1 from by decide]
    refine va_sld hx hb hX hbl hbA hS (vp_in_iff.mpr (by decide)) dL_law_409 ?_
    refine lv_aload_n hx hb dL_law_410 rfl (lv_at hl 6 rfl) ?_
    refine lv_iload hx hb dL_law_411 (lv_at hl 1 rfl) ?_
    refine lv_iconst (v := 2) hx hb dL_law_413 (by decide) ?_
    refine lv_iadd hx hb dL_law_414 ?_
    rw [show (0 + 2 : Int32) = 2 from by decide]
    refine va_sld hx hb hX hbl hbA hS (vp_in_iff.mpr (by decide)) dL_law_415 ?_
    refine lv_if_eq (tgt := 423) hx hb dL_law_416 (by decide) (fun c_9 => ?_) (fun c_9 => ?_)
    · exact absurd c_9 c_1
    · refine lv_iconst (v := 1) hx hb dL_law_419 (by decide) ?_
      refine lv_goto (tgt := 424) hx hb dL_law_420 (by decide) ?_
      refine kj_i (pmM _ _ _ _) (va_runV (As := [.int (xs (1 : Int32).toNatClampNeg), .int 1]) (rest := []) ⟨hx, hb, hml, hown, htT⟩ (m_turn_0 l D cA _ am r mZ (xs (1 : Int32).toNatClampNeg) 1 (fresh_in _)) (cwV 2 htT (kg_V m_ml_L_141 m_im_X6_turn m_sl_X6_turn m_in_X6 m_cd_X6_turn) rfl rfl rfl (by decide +kernel) ⟨Nat.le_of_ble_eq_true rfl, Nat.le_of_ble_eq_true rfl⟩) (kj_V (pmM _ _ _ _) hK hP hD hTB (kj_rm (pmM _ _ _ _) hK hP)) rfl rfl hl.1 rfl (lv_room (Nat.le_of_ble_eq_true rfl)) dL_law_424 ⟨Nat.le_of_ble_eq_true rfl, Nat.le_of_ble_eq_true rfl⟩) hP hD hS hA (fun r_10 x_10 H locs hq_10 hP hD hS => ?_)
      rw [hq_10.1]
      rw [hq_10.2] at hP hD
      have hP := kj_P (pmM _ _ _ _).symm hP
      have hD := kj_D (pmM _ _ _ _).symm hD
      refine lv_istore (lv' := [(7, .int 0), (6, .int 1), (5, .int 0), (4, .ref qd), (3, .ref qo), (2, .ref am), (1, .ref x), (0, .ref b)]) hx hb dL_law_427 hl (by decide) rfl (fun ls hl => ?_)
      refine lv_aload_n hx hb dL_law_429 rfl (lv_at hl 5 rfl) ?_
      refine kj_i (pmM _ _ _ _) (va_runV (As := []) (rest := []) ⟨hx, hb, hml, hown, htT⟩ (m_thrown l D cA _ am r (mS (mS mZ 0 0) 0 1)) (cwV 0 htT (kg_V m_ml_L_130 m_im_X6_thrown m_sl_X6_thrown m_in_X6 m_cd_X6_thrown) rfl rfl rfl (by decide +kernel) ⟨Nat.le_of_ble_eq_true rfl, Nat.le_of_ble_eq_true rfl⟩) (kj_V (pmM _ _ _ _) hK hP hD hTB (kj_rm (pmM _ _ _ _) hK hP)) rfl rfl hl.1 rfl (lv_room (Nat.le_of_ble_eq_true rfl)) dL_law_430 ⟨Nat.le_of_ble_eq_true rfl, Nat.le_of_ble_eq_true rfl⟩) hP hD hS hA (fun r_11 x_11 H locs hq_11 hP hD hS => ?_)
      rw [hq_11.1.trans (show (mS (mS mZ 0 0) 0 1).1 0 = 1 from rfl)]
      rw [hq_11.2] at hP hD
      have hP := kj_P (pmM _ _ _ _).symm hP
      have hD := kj_D (pmM _ _ _ _).symm hD
      refine lv_iload hx hb dL_law_433 (lv_at hl 1 rfl) ?_
      refine lv_icmp_eq (tgt := 440) hx hb dL_law_435 (by decide) (fun _ => ?_) (fun c_12 => absurd c_12 (by decide))
      refine lv_iload hx hb dL_law_440 (lv_at hl 1 rfl) ?_
      refine lv_if_ne (tgt := 464) hx hb dL_law_442 (by decide) (fun _ => ?_) (fun c_13 => absurd c_13 (by decide))
      refine lv_goto (tgt := 2693) hx hb dL_law_464 (by decide) ?_
      exact law_end C0 hS (Nat.le_of_ble_eq_true rfl) (Nat.le_of_ble_eq_true rfl) (lv_sub hl [2, 7] rfl)

set_option maxRecDepth 100000 in
set_option maxHeartbeats 4000000 in
theorem law_ramp (l : Launch) (hst : l.stackTraces = false) {p : Program} {e : Env} {s : State} {m : MethodId} {below : List Frame} {meth : Method} {c : Code} {b : Nat} {xs : Nat → Int32} (C0 : lw_At p s m meth c b 6 xs) {D : va_G} {cA : Nat → ClassId} (hK : va_K D vwCl (ty6 cA) s) (hTB : TBok s) (hTX : TXok (fun q : Nat => s.heap.size ≤ q) s) {S : Pool} {x ar qo qd am : Nat} {r : Nat → Nat} {fo : Nat → Int64} {fd : Nat → UInt64} {H : Heap} {locs : List Loc} {ls : Array Slot} (ho : isO S x 5) (hq0 : gQ S x 0 = some ar) (har : isA S ar 22 8) (hn : ∀ j, j < 8 → gP S ar j = none) (hnum : ∀ k, gI S x k = 0) (hP : va_P D vwCl (LW cA S qo fo qd fd am r mZ) H) (hD : va_D (fun q : Nat => s.heap.size ≤ q) (LW cA S qo fo qd fd am r mZ)) (hS : va_S (fun q : Nat => s.heap.size ≤ q) s.heap H locs) (hl : lv_has ls 9 [(5, .int 0), (4, .ref qd), (3, .ref qo), (2, .ref am), (1, .ref x), (0, .ref b)])  : W p l e room_1 s m #[Value.ref b] below meth c H locs 100 2000 (lw_Z below #[Value.ref b] s) (F0 m 467 ls []) := by
  obtain ⟨hx, hb, hr, hml, hown, hts, hX, hbl, hlocks, hgv⟩ := id C0
  have htT : ∀ w ∈ TT, w.before _ s = true := fun w h => hts w (tt_in h)
  have hA : ∀ q : Nat, s.heap.size ≤ q → (fun q : Nat => s.heap.size ≤ q) q := fun _ h => h
  have hbA : ¬ (fun q : Nat => s.heap.size ≤ q) b := Nat.not_le.mpr hbl
  refine lv_aload_n hx hb dL_law_467 rfl (lv_at hl 4 rfl) ?_
  refine lv_aload_n hx hb dL_law_468 rfl (lv_at hl 5 rfl) ?_
  refine lv_iload hx hb dL_law_469 (lv_at hl 0 rfl) ?_
  refine lv_iconst (v := 1) hx hb dL_law_471 (by decide) ?_
  refine lv_iadd hx hb dL_law_472 ?_
  rw [show (0 + 1 : Int32) = 1 from by decide]
  refine va_sld hx hb hX hbl hbA hS (vp_in_iff.mpr (by decide)) dL_law_473 ?_
  refine lv_aload_n hx hb dL_law_474 rfl (lv_at hl 5 rfl) ?_
  refine lv_iload hx hb dL_law_475 (lv_at hl 0 rfl) ?_
  refine lv_iconst (v := 2) hx hb dL_law_477 (by decide) ?_
  refine lv_iadd hx hb dL_law_478 ?_
  rw [show (0 + 2 : Int32) = 2 from by decide]
  refine va_sld hx hb hX hbl hbA hS (vp_in_iff.mpr (by decide)) dL_law_479 ?_
  refine lv_aload_n hx hb dL_law_480 rfl (lv_at hl 5 rfl) ?_
  refine lv_iload hx hb dL_law_481 (lv_at hl 0 rfl) ?_
  refine lv_iconst (v := 3) hx hb dL_law_483 (by decide) ?_
  refine lv_iadd hx hb dL_law_484 ?_
  rw [show (0 + 3 : Int32) = 3 from by decide]
  refine va_sld hx hb hX hbl hbA hS (vp_in_iff.mpr (by decide)) dL_law_485 ?_
  refine lv_aload_n hx hb dL_law_486 rfl (lv_at hl 2 rfl) ?_
  refine kj_i (pmJ _ _ _ _) (vx_runSW (As := [.ref x, .int (xs (1 : Int32).toNatClampNeg), .int (xs (2 : Int32).toNatClampNeg), .int (xs (3 : Int32).toNatClampNeg), .ref qo]) (rest := []) ⟨hx, hb, hml, hown, htT⟩ (w_ramp_t l hst D cA _ S x qo fo ho ar hq0 har (xs (1 : Int32).toNatClampNeg) (xs (2 : Int32).toNatClampNeg) (xs (3 : Int32).toNatClampNeg) (fresh_sw hn _)) (vx_cwSW 5 htT (kg_SW m_ml_L_142 m_st_L_ramp m_in_L m_cd_L_ramp) rfl rfl rfl (by decide +kernel) ⟨Nat.le_of_ble_eq_true rfl, Nat.le_of_ble_eq_true rfl⟩) (kj_SX (pmJ _ _ _ _) hK hP hD hTB hTX hS hA) rfl rfl hl.1 rfl (lv_room (Nat.le_of_ble_eq_true rfl)) dL_law_487 ⟨Nat.le_of_ble_eq_true rfl, Nat.le_of_ble_eq_true rfl⟩) hP hD hS hA (fun r_1 x_1 H locs hq_1 hP hD hS => ?_)
  rw [hq_1.1]
  rw [hq_1.2.1, hq_1.2.2] at hP hD
  rw [List.append_assoc] at hP hD
  refine lv_istore (lv' := [(6, .int 1), (5, .int 0), (4, .ref qd), (3, .ref qo), (2, .ref am), (1, .ref x), (0, .ref b)]) hx hb dL_law_490 hl (by decide) rfl (fun ls hl => ?_)
  refine lv_aload_n hx hb dL_law_492 rfl (lv_at hl 4 rfl) ?_
  refine lv_aload_n hx hb dL_law_493 rfl (lv_at hl 6 rfl) ?_
  refine lv_iload hx hb dL_law_494 (lv_at hl 1 rfl) ?_
  refine lv_iconst (v := 1) hx hb dL_law_496 (by decide) ?_
  refine lv_iadd hx hb dL_law_497 ?_
  rw [show (0 + 1 : Int32) = 1 from by decide]
  refine va_sld hx hb hX hbl hbA hS (vp_in_iff.mpr (by decide)) dL_law_498 ?_
  refine lv_aload_n hx hb dL_law_499 rfl (lv_at hl 6 rfl) ?_
  refine lv_iload hx hb dL_law_500 (lv_at hl 1 rfl) ?_
  refine lv_iconst (v := 2) hx hb dL_law_502 (by decide) ?_
  refine lv_iadd hx hb dL_law_503 ?_
  rw [show (0 + 2 : Int32) = 2 from by decide]
  refine va_sld hx hb hX hbl hbA hS (vp_in_iff.mpr (by decide)) dL_law_504 ?_
  refine lv_aload_n hx hb dL_law_505 rfl (lv_at hl 6 rfl) ?_
  refine lv_iload hx hb dL_law_506 (lv_at hl 1 rfl) ?_
  refine lv_iconst (v := 3) hx hb dL_law_508 (by decide) ?_
  refine lv_iadd hx hb dL_law_509 ?_
  rw [show (0 + 3 : Int32) = 3 from by decide]
  refine va_sld hx hb hX hbl hbA hS (vp_in_iff.mpr (by decide)) dL_law_510 ?_
  refine kj_i (pmM _ _ _ _) (va_runV (As := [.int (xs (1 : Int32).toNatClampNeg), .int (xs (2 : Int32).toNatClampNeg), .int (xs (3 : Int32).toNatClampNeg)]) (rest := []) ⟨hx, hb, hml, hown, htT⟩ (m_ramp_0 l D cA _ am r mZ (xs (1 : Int32).toNatClampNeg) (xs (2 : Int32).toNatClampNeg) (xs (3 : Int32).toNatClampNeg) (fresh_in _)) (cwV 3 htT (kg_V m_ml_L_144 m_im_X6_ramp m_sl_X6_ramp m_in_X6 m_cd_X6_ramp) rfl rfl rfl (by decide +kernel) ⟨Nat.le_of_ble_eq_true rfl, Nat.le_of_ble_eq_true rfl⟩) (kj_V (pmM _ _ _ _) hK hP hD hTB (kj_rm (pmM _ _ _ _) hK hP)) rfl rfl hl.1 rfl (lv_room (Nat.le_of_ble_eq_true rfl)) dL_law_511 ⟨Nat.le_of_ble_eq_true rfl, Nat.le_of_ble_eq_true rfl⟩) hP hD hS hA (fun r_2 x_2 H locs hq_2 hP hD hS => ?_)
  rw [hq_2.1]
  rw [hq_2.2] at hP hD
  have hP := kj_P (pmM _ _ _ _).symm hP
  have hD := kj_D (pmM _ _ _ _).symm hD
  refine lv_istore (lv' := [(7, .int 0), (6, .int 1), (5, .int 0), (4, .ref qd), (3, .ref qo), (2, .ref am), (1, .ref x), (0, .ref b)]) hx hb dL_law_514 hl (by decide) rfl (fun ls hl => ?_)
  refine lv_aload_n hx hb dL_law_516 rfl (lv_at hl 5 rfl) ?_
  refine kj_i (pmM _ _ _ _) (va_runV (As := []) (rest := []) ⟨hx, hb, hml, hown, htT⟩ (m_thrown l D cA _ am r (mS (mS mZ 0 0) 0 1)) (cwV 0 htT (kg_V m_ml_L_130 m_im_X6_thrown m_sl_X6_thrown m_in_X6 m_cd_X6_thrown) rfl rfl rfl (by decide +kernel) ⟨Nat.le_of_ble_eq_true rfl, Nat.le_of_ble_eq_true rfl⟩) (kj_V (pmM _ _ _ _) hK hP hD hTB (kj_rm (pmM _ _ _ _) hK hP)) rfl rfl hl.1 rfl (lv_room (Nat.le_of_ble_eq_true rfl)) dL_law_517 ⟨Nat.le_of_ble_eq_true rfl, Nat.le_of_ble_eq_true rfl⟩) hP hD hS hA (fun r_3 x_3 H locs hq_3 hP hD hS => ?_)
  rw [hq_3.1.trans (show (mS (mS mZ 0 0) 0 1).1 0 = 1 from rfl)]
  rw [hq_3.2] at hP hD
  have hP := kj_P (pmM _ _ _ _).symm hP
  have hD := kj_D (pmM _ _ _ _).symm hD
  refine lv_iload hx hb dL_law_520 (lv_at hl 1 rfl) ?_
  refine lv_icmp_eq (tgt := 527) hx hb dL_law_522 (by decide) (fun _ => ?_) (fun c_4 => absurd c_4 (by decide))
  refine lv_iload hx hb dL_law_527 (lv_at hl 1 rfl) ?_
  refine lv_if_ne (tgt := 544) hx hb dL_law_529 (by decide) (fun _ => ?_) (fun c_5 => absurd c_5 (by decide))
  refine lv_goto (tgt := 2693) hx hb dL_law_544 (by decide) ?_
  exact law_end C0 hS (Nat.le_of_ble_eq_true rfl) (Nat.le_of_ble_eq_true rfl) (lv_sub hl [2, 7] rfl)

set_option maxRecDepth 100000 in
set_option maxHeartbeats 4000000 in
theorem law_place (l : Launch) (hst : l.stackTraces = false) {p : Program} {e : Env} {s : State} {m : MethodId} {below : List Frame} {meth : Method} {c : Code} {b : Nat} {xs : Nat → Int32} (C0 : lw_At p s m meth c b 6 xs) {D : va_G} {cA : Nat → ClassId} (hK : va_K D vwCl (ty6 cA) s) (hTB : TBok s) (hTX : TXok (fun q : Nat => s.heap.size ≤ q) s) {S : Pool} {x ar qo qd am : Nat} {r : Nat → Nat} {fo : Nat → Int64} {fd : Nat → UInt64} {H : Heap} {locs : List Loc} {ls : Array Slot} (ho : isO S x 5) (hq0 : gQ S x 0 = some ar) (har : isA S ar 22 8) (hn : ∀ j, j < 8 → gP S ar j = none) (hnum : ∀ k, gI S x k = 0) (hP : va_P D vwCl (LW cA S qo fo qd fd am r mZ) H) (hD : va_D (fun q : Nat => s.heap.size ≤ q) (LW cA S qo fo qd fd am r mZ)) (hS : va_S (fun q : Nat => s.heap.size ≤ q) s.heap H locs) (hl : lv_has ls 9 [(5, .int 0), (4, .ref qd), (3, .ref qo), (2, .ref am), (1, .ref x), (0, .ref b)])  : W p l e room_1 s m #[Value.ref b] below meth c H locs 100 2000 (lw_Z below #[Value.ref b] s) (F0 m 547 ls []) := by
  obtain ⟨hx, hb, hr, hml, hown, hts, hX, hbl, hlocks, hgv⟩ := id C0
  have htT : ∀ w ∈ TT, w.before _ s = true := fun w h => hts w (tt_in h)
  have hA : ∀ q : Nat, s.heap.size ≤ q → (fun q : Nat => s.heap.size ≤ q) q := fun _ h => h
  have hbA : ¬ (fun q : Nat => s.heap.size ≤ q) b := Nat.not_le.mpr hbl
  refine lv_aload_n hx hb dL_law_547 rfl (lv_at hl 4 rfl) ?_
  refine lv_aload_n hx hb dL_law_548 rfl (lv_at hl 5 rfl) ?_
  refine lv_iload hx hb dL_law_549 (lv_at hl 0 rfl) ?_
  refine lv_iconst (v := 1) hx hb dL_law_551 (by decide) ?_
  refine lv_iadd hx hb dL_law_552 ?_
  rw [show (0 + 1 : Int32) = 1 from by decide]
  refine va_sld hx hb hX hbl hbA hS (vp_in_iff.mpr (by decide)) dL_law_553 ?_
  refine lv_aload_n hx hb dL_law_554 rfl (lv_at hl 5 rfl) ?_
  refine lv_iload hx hb dL_law_555 (lv_at hl 0 rfl) ?_
  refine lv_iconst (v := 2) hx hb dL_law_557 (by decide) ?_
  refine lv_iadd hx hb dL_law_558 ?_
  rw [show (0 + 2 : Int32) = 2 from by decide]
  refine va_sld hx hb hX hbl hbA hS (vp_in_iff.mpr (by decide)) dL_law_559 ?_
  refine lv_aload_n hx hb dL_law_560 rfl (lv_at hl 5 rfl) ?_
  refine lv_iload hx hb dL_law_561 (lv_at hl 0 rfl) ?_
  refine lv_iconst (v := 3) hx hb dL_law_563 (by decide) ?_
  refine lv_iadd hx hb dL_law_564 ?_
  rw [show (0 + 3 : Int32) = 3 from by decide]
  refine va_sld hx hb hX hbl hbA hS (vp_in_iff.mpr (by decide)) dL_law_565 ?_
  refine lv_aload_n hx hb dL_law_566 rfl (lv_at hl 5 rfl) ?_
  refine lv_iload hx hb dL_law_567 (lv_at hl 0 rfl) ?_
  refine lv_iconst (v := 4) hx hb dL_law_569 (by decide) ?_
  refine lv_iadd hx hb dL_law_570 ?_
  rw [show (0 + 4 : Int32) = 4 from by decide]
  refine va_sld hx hb hX hbl hbA hS (vp_in_iff.mpr (by decide)) dL_law_571 ?_
  refine lv_aload_n hx hb dL_law_572 rfl (lv_at hl 2 rfl) ?_
  refine kj_i (pmJ _ _ _ _) (vx_runSW (As := [.ref x, .int (xs (1 : Int32).toNatClampNeg), .int (xs (2 : Int32).toNatClampNeg), .int (xs (3 : Int32).toNatClampNeg), .int (xs (4 : Int32).toNatClampNeg), .ref qo]) (rest := []) ⟨hx, hb, hml, hown, htT⟩ (w_place_t l hst D cA _ S x qo fo ho ar hq0 har (xs (1 : Int32).toNatClampNeg) (xs (2 : Int32).toNatClampNeg) (xs (3 : Int32).toNatClampNeg) (xs (4 : Int32).toNatClampNeg) (fresh_sw hn _)) (vx_cwSW 6 htT (kg_SW m_ml_L_145 m_st_L_place m_in_L m_cd_L_place) rfl rfl rfl (by decide +kernel) ⟨Nat.le_of_ble_eq_true rfl, Nat.le_of_ble_eq_true rfl⟩) (kj_SX (pmJ _ _ _ _) hK hP hD hTB hTX hS hA) rfl rfl hl.1 rfl (lv_room (Nat.le_of_ble_eq_true rfl)) dL_law_573 ⟨Nat.le_of_ble_eq_true rfl, Nat.le_of_ble_eq_true rfl⟩) hP hD hS hA (fun r_1 x_1 H locs hq_1 hP hD hS => ?_)
  rw [hq_1.1]
  rw [hq_1.2.1, hq_1.2.2] at hP hD
  rw [List.append_assoc] at hP hD
  refine lv_istore (lv' := [(6, .int 1), (5, .int 0), (4, .ref qd), (3, .ref qo), (2, .ref am), (1, .ref x), (0, .ref b)]) hx hb dL_law_576 hl (by decide) rfl (fun ls hl => ?_)
  refine lv_aload_n hx hb dL_law_578 rfl (lv_at hl 4 rfl) ?_
  refine lv_aload_n hx hb dL_law_579 rfl (lv_at hl 6 rfl) ?_
  refine lv_iload hx hb dL_law_580 (lv_at hl 1 rfl) ?_
  refine lv_iconst (v := 1) hx hb dL_law_582 (by decide) ?_
  refine lv_iadd hx hb dL_law_583 ?_
  rw [show (0 + 1 : Int32) = 1 from by decide]
  refine va_sld hx hb hX hbl hbA hS (vp_in_iff.mpr (by decide)) dL_law_584 ?_
  refine lv_aload_n hx hb dL_law_585 rfl (lv_at hl 6 rfl) ?_
  refine lv_iload hx hb dL_law_586 (lv_at hl 1 rfl) ?_
  refine lv_iconst (v := 2) hx hb dL_law_588 (by decide) ?_
  refine lv_iadd hx hb dL_law_589 ?_
  rw [show (0 + 2 : Int32) = 2 from by decide]
  refine va_sld hx hb hX hbl hbA hS (vp_in_iff.mpr (by decide)) dL_law_590 ?_
  refine lv_aload_n hx hb dL_law_591 rfl (lv_at hl 6 rfl) ?_
  refine lv_iload hx hb dL_law_592 (lv_at hl 1 rfl) ?_
  refine lv_iconst (v := 3) hx hb dL_law_594 (by decide) ?_
  refine lv_iadd hx hb dL_law_595 ?_
  rw [show (0 + 3 : Int32) = 3 from by decide]
  refine va_sld hx hb hX hbl hbA hS (vp_in_iff.mpr (by decide)) dL_law_596 ?_
  refine lv_aload_n hx hb dL_law_597 rfl (lv_at hl 6 rfl) ?_
  refine lv_iload hx hb dL_law_598 (lv_at hl 1 rfl) ?_
  refine lv_iconst (v := 4) hx hb dL_law_600 (by decide) ?_
  refine lv_iadd hx hb dL_law_601 ?_
  rw [show (0 + 4 : Int32) = 4 from by decide]
  refine va_sld hx hb hX hbl hbA hS (vp_in_iff.mpr (by decide)) dL_law_602 ?_
  refine kj_i (pmM _ _ _ _) (va_runV (As := [.int (xs (1 : Int32).toNatClampNeg), .int (xs (2 : Int32).toNatClampNeg), .int (xs (3 : Int32).toNatClampNeg), .int (xs (4 : Int32).toNatClampNeg)]) (rest := []) ⟨hx, hb, hml, hown, htT⟩ (m_place_0 l D cA _ am r mZ (xs (1 : Int32).toNatClampNeg) (xs (2 : Int32).toNatClampNeg) (xs (3 : Int32).toNatClampNeg) (xs (4 : Int32).toNatClampNeg) (fresh_in _)) (cwV 4 htT (kg_V m_ml_L_148 m_im_X6_place m_sl_X6_place m_in_X6 m_cd_X6_place) rfl rfl rfl (by decide +kernel) ⟨Nat.le_of_ble_eq_true rfl, Nat.le_of_ble_eq_true rfl⟩) (kj_V (pmM _ _ _ _) hK hP hD hTB (kj_rm (pmM _ _ _ _) hK hP)) rfl rfl hl.1 rfl (lv_room (Nat.le_of_ble_eq_true rfl)) dL_law_603 ⟨Nat.le_of_ble_eq_true rfl, Nat.le_of_ble_eq_true rfl⟩) hP hD hS hA (fun r_2 x_2 H locs hq_2 hP hD hS => ?_)
  rw [hq_2.1]
  rw [hq_2.2] at hP hD
  have hP := kj_P (pmM _ _ _ _).symm hP
  have hD := kj_D (pmM _ _ _ _).symm hD
  refine lv_istore (lv' := [(7, .int 0), (6, .int 1), (5, .int 0), (4, .ref qd), (3, .ref qo), (2, .ref am), (1, .ref x), (0, .ref b)]) hx hb dL_law_606 hl (by decide) rfl (fun ls hl => ?_)
  refine lv_aload_n hx hb dL_law_608 rfl (lv_at hl 5 rfl) ?_
  refine kj_i (pmM _ _ _ _) (va_runV (As := []) (rest := []) ⟨hx, hb, hml, hown, htT⟩ (m_thrown l D cA _ am r (mS (mS mZ 0 0) 0 1)) (cwV 0 htT (kg_V m_ml_L_130 m_im_X6_thrown m_sl_X6_thrown m_in_X6 m_cd_X6_thrown) rfl rfl rfl (by decide +kernel) ⟨Nat.le_of_ble_eq_true rfl, Nat.le_of_ble_eq_true rfl⟩) (kj_V (pmM _ _ _ _) hK hP hD hTB (kj_rm (pmM _ _ _ _) hK hP)) rfl rfl hl.1 rfl (lv_room (Nat.le_of_ble_eq_true rfl)) dL_law_609 ⟨Nat.le_of_ble_eq_true rfl, Nat.le_of_ble_eq_true rfl⟩) hP hD hS hA (fun r_3 x_3 H locs hq_3 hP hD hS => ?_)
  rw [hq_3.1.trans (show (mS (mS mZ 0 0) 0 1).1 0 = 1 from rfl)]
  rw [hq_3.2] at hP hD
  have hP := kj_P (pmM _ _ _ _).symm hP
  have hD := kj_D (pmM _ _ _ _).symm hD
  refine lv_iload hx hb dL_law_612 (lv_at hl 1 rfl) ?_
  refine lv_icmp_eq (tgt := 619) hx hb dL_law_614 (by decide) (fun _ => ?_) (fun c_4 => absurd c_4 (by decide))
  refine lv_iload hx hb dL_law_619 (lv_at hl 1 rfl) ?_
  refine lv_if_ne (tgt := 636) hx hb dL_law_621 (by decide) (fun _ => ?_) (fun c_5 => absurd c_5 (by decide))
  refine lv_goto (tgt := 2693) hx hb dL_law_636 (by decide) ?_
  exact law_end C0 hS (Nat.le_of_ble_eq_true rfl) (Nat.le_of_ble_eq_true rfl) (lv_sub hl [2, 7] rfl)

set_option maxRecDepth 100000 in
set_option maxHeartbeats 4000000 in
theorem law_need (l : Launch) (hst : l.stackTraces = false) {p : Program} {e : Env} {s : State} {m : MethodId} {below : List Frame} {meth : Method} {c : Code} {b : Nat} {xs : Nat → Int32} (C0 : lw_At p s m meth c b 6 xs) {D : va_G} {cA : Nat → ClassId} (hK : va_K D vwCl (ty6 cA) s) (hTB : TBok s) (hTX : TXok (fun q : Nat => s.heap.size ≤ q) s) {S : Pool} {x ar qo qd am : Nat} {r : Nat → Nat} {fo : Nat → Int64} {fd : Nat → UInt64} {H : Heap} {locs : List Loc} {ls : Array Slot} (ho : isO S x 5) (hq0 : gQ S x 0 = some ar) (har : isA S ar 22 8) (hn : ∀ j, j < 8 → gP S ar j = none) (hnum : ∀ k, gI S x k = 0) (hP : va_P D vwCl (LW cA S qo fo qd fd am r mZ) H) (hD : va_D (fun q : Nat => s.heap.size ≤ q) (LW cA S qo fo qd fd am r mZ)) (hS : va_S (fun q : Nat => s.heap.size ≤ q) s.heap H locs) (hl : lv_has ls 9 [(5, .int 0), (4, .ref qd), (3, .ref qo), (2, .ref am), (1, .ref x), (0, .ref b)])  : W p l e room_1 s m #[Value.ref b] below meth c H locs 100 2000 (lw_Z below #[Value.ref b] s) (F0 m 639 ls []) := by
  obtain ⟨hx, hb, hr, hml, hown, hts, hX, hbl, hlocks, hgv⟩ := id C0
  have htT : ∀ w ∈ TT, w.before _ s = true := fun w h => hts w (tt_in h)
  have hA : ∀ q : Nat, s.heap.size ≤ q → (fun q : Nat => s.heap.size ≤ q) q := fun _ h => h
  have hbA : ¬ (fun q : Nat => s.heap.size ≤ q) b := Nat.not_le.mpr hbl
  refine lv_aload_n hx hb dL_law_639 rfl (lv_at hl 4 rfl) ?_
  refine lv_aload_n hx hb dL_law_640 rfl (lv_at hl 5 rfl) ?_
  refine lv_iload hx hb dL_law_641 (lv_at hl 0 rfl) ?_
  refine lv_iconst (v := 1) hx hb dL_law_643 (by decide) ?_
  refine lv_iadd hx hb dL_law_644 ?_
  rw [show (0 + 1 : Int32) = 1 from by decide]
  refine va_sld hx hb hX hbl hbA hS (vp_in_iff.mpr (by decide)) dL_law_645 ?_
  refine lv_aload_n hx hb dL_law_646 rfl (lv_at hl 5 rfl) ?_
  refine lv_iload hx hb dL_law_647 (lv_at hl 0 rfl) ?_
  refine lv_iconst (v := 2) hx hb dL_law_649 (by decide) ?_
  refine lv_iadd hx hb dL_law_650 ?_
  rw [show (0 + 2 : Int32) = 2 from by decide]
  refine va_sld hx hb hX hbl hbA hS (vp_in_iff.mpr (by decide)) dL_law_651 ?_
  refine lv_aload_n hx hb dL_law_652 rfl (lv_at hl 5 rfl) ?_
  refine lv_iload hx hb dL_law_653 (lv_at hl 0 rfl) ?_
  refine lv_iconst (v := 3) hx hb dL_law_655 (by decide) ?_
  refine lv_iadd hx hb dL_law_656 ?_
  rw [show (0 + 3 : Int32) = 3 from by decide]
  refine va_sld hx hb hX hbl hbA hS (vp_in_iff.mpr (by decide)) dL_law_657 ?_
  refine lv_aload_n hx hb dL_law_658 rfl (lv_at hl 2 rfl) ?_
  refine kj_i (pmJ _ _ _ _) (vx_runSW (As := [.ref x, .int (xs (1 : Int32).toNatClampNeg), .int (xs (2 : Int32).toNatClampNeg), .int (xs (3 : Int32).toNatClampNeg), .ref qo]) (rest := []) ⟨hx, hb, hml, hown, htT⟩ (w_need_t l hst D cA _ S x qo fo ho ar hq0 har (xs (1 : Int32).toNatClampNeg) (xs (2 : Int32).toNatClampNeg) (xs (3 : Int32).toNatClampNeg) (fresh_sw hn _)) (vx_cwSW 5 htT (kg_SW m_ml_L_149 m_st_L_need m_in_L m_cd_L_need) rfl rfl rfl (by decide +kernel) ⟨Nat.le_of_ble_eq_true rfl, Nat.le_of_ble_eq_true rfl⟩) (kj_SX (pmJ _ _ _ _) hK hP hD hTB hTX hS hA) rfl rfl hl.1 rfl (lv_room (Nat.le_of_ble_eq_true rfl)) dL_law_659 ⟨Nat.le_of_ble_eq_true rfl, Nat.le_of_ble_eq_true rfl⟩) hP hD hS hA (fun r_1 x_1 H locs hq_1 hP hD hS => ?_)
  rw [hq_1.1]
  rw [hq_1.2.1, hq_1.2.2] at hP hD
  rw [List.append_assoc] at hP hD
  refine lv_istore (lv' := [(6, .int 1), (5, .int 0), (4, .ref qd), (3, .ref qo), (2, .ref am), (1, .ref x), (0, .ref b)]) hx hb dL_law_662 hl (by decide) rfl (fun ls hl => ?_)
  refine lv_aload_n hx hb dL_law_664 rfl (lv_at hl 4 rfl) ?_
  refine lv_aload_n hx hb dL_law_665 rfl (lv_at hl 6 rfl) ?_
  refine lv_iload hx hb dL_law_666 (lv_at hl 1 rfl) ?_
  refine lv_iconst (v := 1) hx hb dL_law_668 (by decide) ?_
  refine lv_iadd hx hb dL_law_669 ?_
  rw [show (0 + 1 : Int32) = 1 from by decide]
  refine va_sld hx hb hX hbl hbA hS (vp_in_iff.mpr (by decide)) dL_law_670 ?_
  refine lv_aload_n hx hb dL_law_671 rfl (lv_at hl 6 rfl) ?_
  refine lv_iload hx hb dL_law_672 (lv_at hl 1 rfl) ?_
  refine lv_iconst (v := 2) hx hb dL_law_674 (by decide) ?_
  refine lv_iadd hx hb dL_law_675 ?_
  rw [show (0 + 2 : Int32) = 2 from by decide]
  refine va_sld hx hb hX hbl hbA hS (vp_in_iff.mpr (by decide)) dL_law_676 ?_
  refine lv_aload_n hx hb dL_law_677 rfl (lv_at hl 6 rfl) ?_
  refine lv_iload hx hb dL_law_678 (lv_at hl 1 rfl) ?_
  refine lv_iconst (v := 3) hx hb dL_law_680 (by decide) ?_
  refine lv_iadd hx hb dL_law_681 ?_
  rw [show (0 + 3 : Int32) = 3 from by decide]
  refine va_sld hx hb hX hbl hbA hS (vp_in_iff.mpr (by decide)) dL_law_682 ?_
  refine kj_i (pmM _ _ _ _) (va_runV (As := [.int (xs (1 : Int32).toNatClampNeg), .int (xs (2 : Int32).toNatClampNeg), .int (xs (3 : Int32).toNatClampNeg)]) (rest := []) ⟨hx, hb, hml, hown, htT⟩ (m_need_0 l D cA _ am r mZ (xs (1 : Int32).toNatClampNeg) (xs (2 : Int32).toNatClampNeg) (xs (3 : Int32).toNatClampNeg) (fresh_in _)) (cwV 3 htT (kg_V m_ml_L_151 m_im_X6_need m_sl_X6_need m_in_X6 m_cd_X6_need) rfl rfl rfl (by decide +kernel) ⟨Nat.le_of_ble_eq_true rfl, Nat.le_of_ble_eq_true rfl⟩) (kj_V (pmM _ _ _ _) hK hP hD hTB (kj_rm (pmM _ _ _ _) hK hP)) rfl rfl hl.1 rfl (lv_room (Nat.le_of_ble_eq_true rfl)) dL_law_683 ⟨Nat.le_of_ble_eq_true rfl, Nat.le_of_ble_eq_true rfl⟩) hP hD hS hA (fun r_2 x_2 H locs hq_2 hP hD hS => ?_)
  rw [hq_2.1]
  rw [hq_2.2] at hP hD
  have hP := kj_P (pmM _ _ _ _).symm hP
  have hD := kj_D (pmM _ _ _ _).symm hD
  refine lv_istore (lv' := [(7, .int 0), (6, .int 1), (5, .int 0), (4, .ref qd), (3, .ref qo), (2, .ref am), (1, .ref x), (0, .ref b)]) hx hb dL_law_686 hl (by decide) rfl (fun ls hl => ?_)
  refine lv_aload_n hx hb dL_law_688 rfl (lv_at hl 5 rfl) ?_
  refine kj_i (pmM _ _ _ _) (va_runV (As := []) (rest := []) ⟨hx, hb, hml, hown, htT⟩ (m_thrown l D cA _ am r (mS (mS mZ 0 0) 0 1)) (cwV 0 htT (kg_V m_ml_L_130 m_im_X6_thrown m_sl_X6_thrown m_in_X6 m_cd_X6_thrown) rfl rfl rfl (by decide +kernel) ⟨Nat.le_of_ble_eq_true rfl, Nat.le_of_ble_eq_true rfl⟩) (kj_V (pmM _ _ _ _) hK hP hD hTB (kj_rm (pmM _ _ _ _) hK hP)) rfl rfl hl.1 rfl (lv_room (Nat.le_of_ble_eq_true rfl)) dL_law_689 ⟨Nat.le_of_ble_eq_true rfl, Nat.le_of_ble_eq_true rfl⟩) hP hD hS hA (fun r_3 x_3 H locs hq_3 hP hD hS => ?_)
  rw [hq_3.1.trans (show (mS (mS mZ 0 0) 0 1).1 0 = 1 from rfl)]
  rw [hq_3.2] at hP hD
  have hP := kj_P (pmM _ _ _ _).symm hP
  have hD := kj_D (pmM _ _ _ _).symm hD
  refine lv_iload hx hb dL_law_692 (lv_at hl 1 rfl) ?_
  refine lv_icmp_eq (tgt := 699) hx hb dL_law_694 (by decide) (fun _ => ?_) (fun c_4 => absurd c_4 (by decide))
  refine lv_iload hx hb dL_law_699 (lv_at hl 1 rfl) ?_
  refine lv_if_ne (tgt := 716) hx hb dL_law_701 (by decide) (fun _ => ?_) (fun c_5 => absurd c_5 (by decide))
  refine lv_goto (tgt := 2693) hx hb dL_law_716 (by decide) ?_
  exact law_end C0 hS (Nat.le_of_ble_eq_true rfl) (Nat.le_of_ble_eq_true rfl) (lv_sub hl [2, 7] rfl)

set_option maxRecDepth 100000 in
set_option maxHeartbeats 4000000 in
theorem law_rule (l : Launch) (hst : l.stackTraces = false) {p : Program} {e : Env} {s : State} {m : MethodId} {below : List Frame} {meth : Method} {c : Code} {b : Nat} {xs : Nat → Int32} (C0 : lw_At p s m meth c b 6 xs) {D : va_G} {cA : Nat → ClassId} (hK : va_K D vwCl (ty6 cA) s) (hTB : TBok s) (hTX : TXok (fun q : Nat => s.heap.size ≤ q) s) {S : Pool} {x ar qo qd am : Nat} {r : Nat → Nat} {fo : Nat → Int64} {fd : Nat → UInt64} {H : Heap} {locs : List Loc} {ls : Array Slot} (ho : isO S x 5) (hq0 : gQ S x 0 = some ar) (har : isA S ar 22 8) (hn : ∀ j, j < 8 → gP S ar j = none) (hnum : ∀ k, gI S x k = 0) (hP : va_P D vwCl (LW cA S qo fo qd fd am r mZ) H) (hD : va_D (fun q : Nat => s.heap.size ≤ q) (LW cA S qo fo qd fd am r mZ)) (hS : va_S (fun q : Nat => s.heap.size ≤ q) s.heap H locs) (hl : lv_has ls 9 [(5, .int 0), (4, .ref qd), (3, .ref qo), (2, .ref am), (1, .ref x), (0, .ref b)])  : W p l e room_1 s m #[Value.ref b] below meth c H locs 100 2000 (lw_Z below #[Value.ref b] s) (F0 m 719 ls []) := by
  obtain ⟨hx, hb, hr, hml, hown, hts, hX, hbl, hlocks, hgv⟩ := id C0
  have htT : ∀ w ∈ TT, w.before _ s = true := fun w h => hts w (tt_in h)
  have hA : ∀ q : Nat, s.heap.size ≤ q → (fun q : Nat => s.heap.size ≤ q) q := fun _ h => h
  have hbA : ¬ (fun q : Nat => s.heap.size ≤ q) b := Nat.not_le.mpr hbl
  refine lv_aload_n hx hb dL_law_719 rfl (lv_at hl 4 rfl) ?_
  refine lv_aload_n hx hb dL_law_720 rfl (lv_at hl 5 rfl) ?_
  refine lv_iload hx hb dL_law_721 (lv_at hl 0 rfl) ?_
  refine lv_iconst (v := 1) hx hb dL_law_723 (by decide) ?_
  refine lv_iadd hx hb dL_law_724 ?_
  rw [show (0 + 1 : Int32) = 1 from by decide]
  refine va_sld hx hb hX hbl hbA hS (vp_in_iff.mpr (by decide)) dL_law_725 ?_
  refine lv_aload_n hx hb dL_law_726 rfl (lv_at hl 5 rfl) ?_
  refine lv_iload hx hb dL_law_727 (lv_at hl 0 rfl) ?_
  refine lv_iconst (v := 2) hx hb dL_law_729 (by decide) ?_
  refine lv_iadd hx hb dL_law_730 ?_
  rw [show (0 + 2 : Int32) = 2 from by decide]
  refine va_sld hx hb hX hbl hbA hS (vp_in_iff.mpr (by decide)) dL_law_731 ?_
  refine lv_aload_n hx hb dL_law_732 rfl (lv_at hl 5 rfl) ?_
  refine lv_iload hx hb dL_law_733 (lv_at hl 0 rfl) ?_
  refine lv_iconst (v := 3) hx hb dL_law_735 (by decide) ?_
  refine lv_iadd hx hb dL_law_736 ?_
  rw [show (0 + 3 : Int32) = 3 from by decide]
  refine va_sld hx hb hX hbl hbA hS (vp_in_iff.mpr (by decide)) dL_law_737 ?_
  refine lv_aload_n hx hb dL_law_738 rfl (lv_at hl 5 rfl) ?_
  refine lv_iload hx hb dL_law_739 (lv_at hl 0 rfl) ?_
  refine lv_iconst (v := 4) hx hb dL_law_741 (by decide) ?_
  refine lv_iadd hx hb dL_law_742 ?_
  rw [show (0 + 4 : Int32) = 4 from by decide]
  refine va_sld hx hb hX hbl hbA hS (vp_in_iff.mpr (by decide)) dL_law_743 ?_
  refine lv_aload_n hx hb dL_law_744 rfl (lv_at hl 5 rfl) ?_
  refine lv_iload hx hb dL_law_745 (lv_at hl 0 rfl) ?_
  refine lv_iconst (v := 5) hx hb dL_law_747 (by decide) ?_
  refine lv_iadd hx hb dL_law_748 ?_
  rw [show (0 + 5 : Int32) = 5 from by decide]
  refine va_sld hx hb hX hbl hbA hS (vp_in_iff.mpr (by decide)) dL_law_749 ?_
  refine lv_aload_n hx hb dL_law_750 rfl (lv_at hl 2 rfl) ?_
  refine kj_i (pmJ _ _ _ _) (vx_runSW (As := [.ref x, .int (xs (1 : Int32).toNatClampNeg), .int (xs (2 : Int32).toNatClampNeg), .int (xs (3 : Int32).toNatClampNeg), .int (xs (4 : Int32).toNatClampNeg), .int (xs (5 : Int32).toNatClampNeg), .ref qo]) (rest := []) ⟨hx, hb, hml, hown, htT⟩ (w_rule_t l hst D cA _ S x qo fo ho ar hq0 har (xs (1 : Int32).toNatClampNeg) (xs (2 : Int32).toNatClampNeg) (xs (3 : Int32).toNatClampNeg) (xs (4 : Int32).toNatClampNeg) (xs (5 : Int32).toNatClampNeg) (fresh_sw hn _)) (vx_cwSW 7 htT (kg_SW m_ml_L_152 m_st_L_rule m_in_L m_cd_L_rule) rfl rfl rfl (by decide +kernel) ⟨Nat.le_of_ble_eq_true rfl, Nat.le_of_ble_eq_true rfl⟩) (kj_SX (pmJ _ _ _ _) hK hP hD hTB hTX hS hA) rfl rfl hl.1 rfl (lv_room (Nat.le_of_ble_eq_true rfl)) dL_law_751 ⟨Nat.le_of_ble_eq_true rfl, Nat.le_of_ble_eq_true rfl⟩) hP hD hS hA (fun r_1 x_1 H locs hq_1 hP hD hS => ?_)
  rw [hq_1.1]
  rw [hq_1.2.1, hq_1.2.2] at hP hD
  rw [List.append_assoc] at hP hD
  refine lv_istore (lv' := [(6, .int 1), (5, .int 0), (4, .ref qd), (3, .ref qo), (2, .ref am), (1, .ref x), (0, .ref b)]) hx hb dL_law_754 hl (by decide) rfl (fun ls hl => ?_)
  refine lv_aload_n hx hb dL_law_756 rfl (lv_at hl 4 rfl) ?_
  refine lv_aload_n hx hb dL_law_757 rfl (lv_at hl 6 rfl) ?_
  refine lv_iload hx hb dL_law_758 (lv_at hl 1 rfl) ?_
  refine lv_iconst (v := 1) hx hb dL_law_760 (by decide) ?_
  refine lv_iadd hx hb dL_law_761 ?_
  rw [show (0 + 1 : Int32) = 1 from by decide]
  refine va_sld hx hb hX hbl hbA hS (vp_in_iff.mpr (by decide)) dL_law_762 ?_
  refine lv_aload_n hx hb dL_law_763 rfl (lv_at hl 6 rfl) ?_
  refine lv_iload hx hb dL_law_764 (lv_at hl 1 rfl) ?_
  refine lv_iconst (v := 2) hx hb dL_law_766 (by decide) ?_
  refine lv_iadd hx hb dL_law_767 ?_
  rw [show (0 + 2 : Int32) = 2 from by decide]
  refine va_sld hx hb hX hbl hbA hS (vp_in_iff.mpr (by decide)) dL_law_768 ?_
  refine lv_aload_n hx hb dL_law_769 rfl (lv_at hl 6 rfl) ?_
  refine lv_iload hx hb dL_law_770 (lv_at hl 1 rfl) ?_
  refine lv_iconst (v := 3) hx hb dL_law_772 (by decide) ?_
  refine lv_iadd hx hb dL_law_773 ?_
  rw [show (0 + 3 : Int32) = 3 from by decide]
  refine va_sld hx hb hX hbl hbA hS (vp_in_iff.mpr (by decide)) dL_law_774 ?_
  refine lv_aload_n hx hb dL_law_775 rfl (lv_at hl 6 rfl) ?_
  refine lv_iload hx hb dL_law_776 (lv_at hl 1 rfl) ?_
  refine lv_iconst (v := 4) hx hb dL_law_778 (by decide) ?_
  refine lv_iadd hx hb dL_law_779 ?_
  rw [show (0 + 4 : Int32) = 4 from by decide]
  refine va_sld hx hb hX hbl hbA hS (vp_in_iff.mpr (by decide)) dL_law_780 ?_
  refine lv_aload_n hx hb dL_law_781 rfl (lv_at hl 6 rfl) ?_
  refine lv_iload hx hb dL_law_782 (lv_at hl 1 rfl) ?_
  refine lv_iconst (v := 5) hx hb dL_law_784 (by decide) ?_
  refine lv_iadd hx hb dL_law_785 ?_
  rw [show (0 + 5 : Int32) = 5 from by decide]
  refine va_sld hx hb hX hbl hbA hS (vp_in_iff.mpr (by decide)) dL_law_786 ?_
  refine kj_i (pmM _ _ _ _) (va_runV (As := [.int (xs (1 : Int32).toNatClampNeg), .int (xs (2 : Int32).toNatClampNeg), .int (xs (3 : Int32).toNatClampNeg), .int (xs (4 : Int32).toNatClampNeg), .int (xs (5 : Int32).toNatClampNeg)]) (rest := []) ⟨hx, hb, hml, hown, htT⟩ (m_rule_0 l D cA _ am r mZ (xs (1 : Int32).toNatClampNeg) (xs (2 : Int32).toNatClampNeg) (xs (3 : Int32).toNatClampNeg) (xs (4 : Int32).toNatClampNeg) (xs (5 : Int32).toNatClampNeg) (fresh_in _)) (cwV 5 htT (kg_V m_ml_L_155 m_im_X6_rule m_sl_X6_rule m_in_X6 m_cd_X6_rule) rfl rfl rfl (by decide +kernel) ⟨Nat.le_of_ble_eq_true rfl, Nat.le_of_ble_eq_true rfl⟩) (kj_V (pmM _ _ _ _) hK hP hD hTB (kj_rm (pmM _ _ _ _) hK hP)) rfl rfl hl.1 rfl (lv_room (Nat.le_of_ble_eq_true rfl)) dL_law_787 ⟨Nat.le_of_ble_eq_true rfl, Nat.le_of_ble_eq_true rfl⟩) hP hD hS hA (fun r_2 x_2 H locs hq_2 hP hD hS => ?_)
  rw [hq_2.1]
  rw [hq_2.2] at hP hD
  have hP := kj_P (pmM _ _ _ _).symm hP
  have hD := kj_D (pmM _ _ _ _).symm hD
  refine lv_istore (lv' := [(7, .int 0), (6, .int 1), (5, .int 0), (4, .ref qd), (3, .ref qo), (2, .ref am), (1, .ref x), (0, .ref b)]) hx hb dL_law_790 hl (by decide) rfl (fun ls hl => ?_)
  refine lv_aload_n hx hb dL_law_792 rfl (lv_at hl 5 rfl) ?_
  refine kj_i (pmM _ _ _ _) (va_runV (As := []) (rest := []) ⟨hx, hb, hml, hown, htT⟩ (m_thrown l D cA _ am r (mS (mS mZ 0 0) 0 1)) (cwV 0 htT (kg_V m_ml_L_130 m_im_X6_thrown m_sl_X6_thrown m_in_X6 m_cd_X6_thrown) rfl rfl rfl (by decide +kernel) ⟨Nat.le_of_ble_eq_true rfl, Nat.le_of_ble_eq_true rfl⟩) (kj_V (pmM _ _ _ _) hK hP hD hTB (kj_rm (pmM _ _ _ _) hK hP)) rfl rfl hl.1 rfl (lv_room (Nat.le_of_ble_eq_true rfl)) dL_law_793 ⟨Nat.le_of_ble_eq_true rfl, Nat.le_of_ble_eq_true rfl⟩) hP hD hS hA (fun r_3 x_3 H locs hq_3 hP hD hS => ?_)
  rw [hq_3.1.trans (show (mS (mS mZ 0 0) 0 1).1 0 = 1 from rfl)]
  rw [hq_3.2] at hP hD
  have hP := kj_P (pmM _ _ _ _).symm hP
  have hD := kj_D (pmM _ _ _ _).symm hD
  refine lv_iload hx hb dL_law_796 (lv_at hl 1 rfl) ?_
  refine lv_icmp_eq (tgt := 803) hx hb dL_law_798 (by decide) (fun _ => ?_) (fun c_4 => absurd c_4 (by decide))
  refine lv_iload hx hb dL_law_803 (lv_at hl 1 rfl) ?_
  refine lv_if_ne (tgt := 820) hx hb dL_law_805 (by decide) (fun _ => ?_) (fun c_5 => absurd c_5 (by decide))
  refine lv_goto (tgt := 2693) hx hb dL_law_820 (by decide) ?_
  exact law_end C0 hS (Nat.le_of_ble_eq_true rfl) (Nat.le_of_ble_eq_true rfl) (lv_sub hl [2, 7] rfl)

set_option maxRecDepth 100000 in
set_option maxHeartbeats 4000000 in
theorem law_unrule (l : Launch) (hst : l.stackTraces = false) {p : Program} {e : Env} {s : State} {m : MethodId} {below : List Frame} {meth : Method} {c : Code} {b : Nat} {xs : Nat → Int32} (C0 : lw_At p s m meth c b 6 xs) {D : va_G} {cA : Nat → ClassId} (hK : va_K D vwCl (ty6 cA) s) (hTB : TBok s) (hTX : TXok (fun q : Nat => s.heap.size ≤ q) s) {S : Pool} {x ar qo qd am : Nat} {r : Nat → Nat} {fo : Nat → Int64} {fd : Nat → UInt64} {H : Heap} {locs : List Loc} {ls : Array Slot} (ho : isO S x 5) (hq0 : gQ S x 0 = some ar) (har : isA S ar 22 8) (hn : ∀ j, j < 8 → gP S ar j = none) (hnum : ∀ k, gI S x k = 0) (hP : va_P D vwCl (LW cA S qo fo qd fd am r mZ) H) (hD : va_D (fun q : Nat => s.heap.size ≤ q) (LW cA S qo fo qd fd am r mZ)) (hS : va_S (fun q : Nat => s.heap.size ≤ q) s.heap H locs) (hl : lv_has ls 9 [(5, .int 0), (4, .ref qd), (3, .ref qo), (2, .ref am), (1, .ref x), (0, .ref b)])  : W p l e room_1 s m #[Value.ref b] below meth c H locs 100 2000 (lw_Z below #[Value.ref b] s) (F0 m 823 ls []) := by
  obtain ⟨hx, hb, hr, hml, hown, hts, hX, hbl, hlocks, hgv⟩ := id C0
  have htT : ∀ w ∈ TT, w.before _ s = true := fun w h => hts w (tt_in h)
  have hA : ∀ q : Nat, s.heap.size ≤ q → (fun q : Nat => s.heap.size ≤ q) q := fun _ h => h
  have hbA : ¬ (fun q : Nat => s.heap.size ≤ q) b := Nat.not_le.mpr hbl
  refine lv_aload_n hx hb dL_law_823 rfl (lv_at hl 4 rfl) ?_
  refine lv_aload_n hx hb dL_law_824 rfl (lv_at hl 5 rfl) ?_
  refine lv_iload hx hb dL_law_825 (lv_at hl 0 rfl) ?_
  refine lv_iconst (v := 1) hx hb dL_law_827 (by decide) ?_
  refine lv_iadd hx hb dL_law_828 ?_
  rw [show (0 + 1 : Int32) = 1 from by decide]
  refine va_sld hx hb hX hbl hbA hS (vp_in_iff.mpr (by decide)) dL_law_829 ?_
  refine lv_aload_n hx hb dL_law_830 rfl (lv_at hl 5 rfl) ?_
  refine lv_iload hx hb dL_law_831 (lv_at hl 0 rfl) ?_
  refine lv_iconst (v := 2) hx hb dL_law_833 (by decide) ?_
  refine lv_iadd hx hb dL_law_834 ?_
  rw [show (0 + 2 : Int32) = 2 from by decide]
  refine va_sld hx hb hX hbl hbA hS (vp_in_iff.mpr (by decide)) dL_law_835 ?_
  refine lv_aload_n hx hb dL_law_836 rfl (lv_at hl 2 rfl) ?_
  refine kj_i (pmJ _ _ _ _) (vx_runSW (As := [.ref x, .int (xs (1 : Int32).toNatClampNeg), .int (xs (2 : Int32).toNatClampNeg), .ref qo]) (rest := []) ⟨hx, hb, hml, hown, htT⟩ (w_unrule_t l hst D cA _ S x qo fo ho ar hq0 har (xs (1 : Int32).toNatClampNeg) (xs (2 : Int32).toNatClampNeg) (fresh_sw hn _)) (vx_cwSW 4 htT (kg_SW m_ml_L_156 m_st_L_unrule m_in_L m_cd_L_unrule) rfl rfl rfl (by decide +kernel) ⟨Nat.le_of_ble_eq_true rfl, Nat.le_of_ble_eq_true rfl⟩) (kj_SX (pmJ _ _ _ _) hK hP hD hTB hTX hS hA) rfl rfl hl.1 rfl (lv_room (Nat.le_of_ble_eq_true rfl)) dL_law_837 ⟨Nat.le_of_ble_eq_true rfl, Nat.le_of_ble_eq_true rfl⟩) hP hD hS hA (fun r_1 x_1 H locs hq_1 hP hD hS => ?_)
  rw [hq_1.1]
  rw [hq_1.2.1, hq_1.2.2] at hP hD
  rw [List.append_assoc] at hP hD
  refine lv_istore (lv' := [(6, .int 1), (5, .int 0), (4, .ref qd), (3, .ref qo), (2, .ref am), (1, .ref x), (0, .ref b)]) hx hb dL_law_840 hl (by decide) rfl (fun ls hl => ?_)
  refine lv_aload_n hx hb dL_law_842 rfl (lv_at hl 4 rfl) ?_
  refine lv_aload_n hx hb dL_law_843 rfl (lv_at hl 6 rfl) ?_
  refine lv_iload hx hb dL_law_844 (lv_at hl 1 rfl) ?_
  refine lv_iconst (v := 1) hx hb dL_law_846 (by decide) ?_
  refine lv_iadd hx hb dL_law_847 ?_
  rw [show (0 + 1 : Int32) = 1 from by decide]
  refine va_sld hx hb hX hbl hbA hS (vp_in_iff.mpr (by decide)) dL_law_848 ?_
  refine lv_aload_n hx hb dL_law_849 rfl (lv_at hl 6 rfl) ?_
  refine lv_iload hx hb dL_law_850 (lv_at hl 1 rfl) ?_
  refine lv_iconst (v := 2) hx hb dL_law_852 (by decide) ?_
  refine lv_iadd hx hb dL_law_853 ?_
  rw [show (0 + 2 : Int32) = 2 from by decide]
  refine va_sld hx hb hX hbl hbA hS (vp_in_iff.mpr (by decide)) dL_law_854 ?_
  refine kj_i (pmM _ _ _ _) (va_runV (As := [.int (xs (1 : Int32).toNatClampNeg), .int (xs (2 : Int32).toNatClampNeg)]) (rest := []) ⟨hx, hb, hml, hown, htT⟩ (m_unrule_0 l D cA _ am r mZ (xs (1 : Int32).toNatClampNeg) (xs (2 : Int32).toNatClampNeg) (fresh_in _)) (cwV 2 htT (kg_V m_ml_L_159 m_im_X6_unrule m_sl_X6_unrule m_in_X6 m_cd_X6_unrule) rfl rfl rfl (by decide +kernel) ⟨Nat.le_of_ble_eq_true rfl, Nat.le_of_ble_eq_true rfl⟩) (kj_V (pmM _ _ _ _) hK hP hD hTB (kj_rm (pmM _ _ _ _) hK hP)) rfl rfl hl.1 rfl (lv_room (Nat.le_of_ble_eq_true rfl)) dL_law_855 ⟨Nat.le_of_ble_eq_true rfl, Nat.le_of_ble_eq_true rfl⟩) hP hD hS hA (fun r_2 x_2 H locs hq_2 hP hD hS => ?_)
  rw [hq_2.1]
  rw [hq_2.2] at hP hD
  have hP := kj_P (pmM _ _ _ _).symm hP
  have hD := kj_D (pmM _ _ _ _).symm hD
  refine lv_istore (lv' := [(7, .int 0), (6, .int 1), (5, .int 0), (4, .ref qd), (3, .ref qo), (2, .ref am), (1, .ref x), (0, .ref b)]) hx hb dL_law_858 hl (by decide) rfl (fun ls hl => ?_)
  refine lv_aload_n hx hb dL_law_860 rfl (lv_at hl 5 rfl) ?_
  refine kj_i (pmM _ _ _ _) (va_runV (As := []) (rest := []) ⟨hx, hb, hml, hown, htT⟩ (m_thrown l D cA _ am r (mS (mS mZ 0 0) 0 1)) (cwV 0 htT (kg_V m_ml_L_130 m_im_X6_thrown m_sl_X6_thrown m_in_X6 m_cd_X6_thrown) rfl rfl rfl (by decide +kernel) ⟨Nat.le_of_ble_eq_true rfl, Nat.le_of_ble_eq_true rfl⟩) (kj_V (pmM _ _ _ _) hK hP hD hTB (kj_rm (pmM _ _ _ _) hK hP)) rfl rfl hl.1 rfl (lv_room (Nat.le_of_ble_eq_true rfl)) dL_law_861 ⟨Nat.le_of_ble_eq_true rfl, Nat.le_of_ble_eq_true rfl⟩) hP hD hS hA (fun r_3 x_3 H locs hq_3 hP hD hS => ?_)
  rw [hq_3.1.trans (show (mS (mS mZ 0 0) 0 1).1 0 = 1 from rfl)]
  rw [hq_3.2] at hP hD
  have hP := kj_P (pmM _ _ _ _).symm hP
  have hD := kj_D (pmM _ _ _ _).symm hD
  refine lv_iload hx hb dL_law_864 (lv_at hl 1 rfl) ?_
  refine lv_icmp_eq (tgt := 871) hx hb dL_law_866 (by decide) (fun _ => ?_) (fun c_4 => absurd c_4 (by decide))
  refine lv_iload hx hb dL_law_871 (lv_at hl 1 rfl) ?_
  refine lv_if_ne (tgt := 888) hx hb dL_law_873 (by decide) (fun _ => ?_) (fun c_5 => absurd c_5 (by decide))
  refine lv_goto (tgt := 2693) hx hb dL_law_888 (by decide) ?_
  exact law_end C0 hS (Nat.le_of_ble_eq_true rfl) (Nat.le_of_ble_eq_true rfl) (lv_sub hl [2, 7] rfl)

set_option maxRecDepth 100000 in
set_option maxHeartbeats 4000000 in
theorem law_weight (l : Launch) (hst : l.stackTraces = false) {p : Program} {e : Env} {s : State} {m : MethodId} {below : List Frame} {meth : Method} {c : Code} {b : Nat} {xs : Nat → Int32} (C0 : lw_At p s m meth c b 6 xs) {D : va_G} {cA : Nat → ClassId} (hK : va_K D vwCl (ty6 cA) s) (hTB : TBok s) (hTX : TXok (fun q : Nat => s.heap.size ≤ q) s) {S : Pool} {x ar qo qd am : Nat} {r : Nat → Nat} {fo : Nat → Int64} {fd : Nat → UInt64} {H : Heap} {locs : List Loc} {ls : Array Slot} (ho : isO S x 5) (hq0 : gQ S x 0 = some ar) (har : isA S ar 22 8) (hn : ∀ j, j < 8 → gP S ar j = none) (hnum : ∀ k, gI S x k = 0) (hP : va_P D vwCl (LW cA S qo fo qd fd am r mZ) H) (hD : va_D (fun q : Nat => s.heap.size ≤ q) (LW cA S qo fo qd fd am r mZ)) (hS : va_S (fun q : Nat => s.heap.size ≤ q) s.heap H locs) (hl : lv_has ls 9 [(5, .int 0), (4, .ref qd), (3, .ref qo), (2, .ref am), (1, .ref x), (0, .ref b)])  : W p l e room_1 s m #[Value.ref b] below meth c H locs 100 2000 (lw_Z below #[Value.ref b] s) (F0 m 1016 ls []) := by
  obtain ⟨hx, hb, hr, hml, hown, hts, hX, hbl, hlocks, hgv⟩ := id C0
  have htT : ∀ w ∈ TT, w.before _ s = true := fun w h => hts w (tt_in h)
  have hA : ∀ q : Nat, s.heap.size ≤ q → (fun q : Nat => s.heap.size ≤ q) q := fun _ h => h
  have hbA : ¬ (fun q : Nat => s.heap.size ≤ q) b := Nat.not_le.mpr hbl
  refine lv_aload_n hx hb dL_law_1016 rfl (lv_at hl 4 rfl) ?_
  refine lv_aload_n hx hb dL_law_1017 rfl (lv_at hl 5 rfl) ?_
  refine lv_iload hx hb dL_law_1018 (lv_at hl 0 rfl) ?_
  refine lv_iconst (v := 1) hx hb dL_law_1020 (by decide) ?_
  refine lv_iadd hx hb dL_law_1021 ?_
  rw [show (0 + 1 : Int32) = 1 from by decide]
  refine va_sld hx hb hX hbl hbA hS (vp_in_iff.mpr (by decide)) dL_law_1022 ?_
  refine lv_aload_n hx hb dL_law_1023 rfl (lv_at hl 5 rfl) ?_
  refine lv_iload hx hb dL_law_1024 (lv_at hl 0 rfl) ?_
  refine lv_iconst (v := 2) hx hb dL_law_1026 (by decide) ?_
  refine lv_iadd hx hb dL_law_1027 ?_
  rw [show (0 + 2 : Int32) = 2 from by decide]
  refine va_sld hx hb hX hbl hbA hS (vp_in_iff.mpr (by decide)) dL_law_1028 ?_
  refine lv_aload_n hx hb dL_law_1029 rfl (lv_at hl 2 rfl) ?_
  refine kj_i (pmJ _ _ _ _) (vx_runSW (As := [.ref x, .int (xs (1 : Int32).toNatClampNeg), .int (xs (2 : Int32).toNatClampNeg), .ref qo]) (rest := []) ⟨hx, hb, hml, hown, htT⟩ (w_weight_t l hst D cA _ S x qo fo ho ar hq0 har (xs (1 : Int32).toNatClampNeg) (xs (2 : Int32).toNatClampNeg) (fresh_sw hn _)) (vx_cwSW 4 htT (kg_SW m_ml_L_171 m_st_L_weight m_in_L m_cd_L_weight) rfl rfl rfl (by decide +kernel) ⟨Nat.le_of_ble_eq_true rfl, Nat.le_of_ble_eq_true rfl⟩) (kj_SX (pmJ _ _ _ _) hK hP hD hTB hTX hS hA) rfl rfl hl.1 rfl (lv_room (Nat.le_of_ble_eq_true rfl)) dL_law_1030 ⟨Nat.le_of_ble_eq_true rfl, Nat.le_of_ble_eq_true rfl⟩) hP hD hS hA (fun r_1 x_1 H locs hq_1 hP hD hS => ?_)
  rw [hq_1.1]
  rw [hq_1.2.1, hq_1.2.2] at hP hD
  rw [List.append_assoc] at hP hD
  refine lv_istore (lv' := [(6, .int 1), (5, .int 0), (4, .ref qd), (3, .ref qo), (2, .ref am), (1, .ref x), (0, .ref b)]) hx hb dL_law_1033 hl (by decide) rfl (fun ls hl => ?_)
  refine lv_aload_n hx hb dL_law_1035 rfl (lv_at hl 4 rfl) ?_
  refine lv_aload_n hx hb dL_law_1036 rfl (lv_at hl 6 rfl) ?_
  refine lv_iload hx hb dL_law_1037 (lv_at hl 1 rfl) ?_
  refine lv_iconst (v := 1) hx hb dL_law_1039 (by decide) ?_
  refine lv_iadd hx hb dL_law_1040 ?_
  rw [show (0 + 1 : Int32) = 1 from by decide]
  refine va_sld hx hb hX hbl hbA hS (vp_in_iff.mpr (by decide)) dL_law_1041 ?_
  refine lv_aload_n hx hb dL_law_1042 rfl (lv_at hl 6 rfl) ?_
  refine lv_iload hx hb dL_law_1043 (lv_at hl 1 rfl) ?_
  refine lv_iconst (v := 2) hx hb dL_law_1045 (by decide) ?_
  refine lv_iadd hx hb dL_law_1046 ?_
  rw [show (0 + 2 : Int32) = 2 from by decide]
  refine va_sld hx hb hX hbl hbA hS (vp_in_iff.mpr (by decide)) dL_law_1047 ?_
  refine kj_i (pmM _ _ _ _) (va_runV (As := [.int (xs (1 : Int32).toNatClampNeg), .int (xs (2 : Int32).toNatClampNeg)]) (rest := []) ⟨hx, hb, hml, hown, htT⟩ (m_weight_0 l D cA _ am r mZ (xs (1 : Int32).toNatClampNeg) (xs (2 : Int32).toNatClampNeg) (fresh_in _)) (cwV 2 htT (kg_V m_ml_L_173 m_im_X6_weight m_sl_X6_weight m_in_X6 m_cd_X6_weight) rfl rfl rfl (by decide +kernel) ⟨Nat.le_of_ble_eq_true rfl, Nat.le_of_ble_eq_true rfl⟩) (kj_V (pmM _ _ _ _) hK hP hD hTB (kj_rm (pmM _ _ _ _) hK hP)) rfl rfl hl.1 rfl (lv_room (Nat.le_of_ble_eq_true rfl)) dL_law_1048 ⟨Nat.le_of_ble_eq_true rfl, Nat.le_of_ble_eq_true rfl⟩) hP hD hS hA (fun r_2 x_2 H locs hq_2 hP hD hS => ?_)
  rw [hq_2.1]
  rw [hq_2.2] at hP hD
  have hP := kj_P (pmM _ _ _ _).symm hP
  have hD := kj_D (pmM _ _ _ _).symm hD
  refine lv_istore (lv' := [(7, .int 0), (6, .int 1), (5, .int 0), (4, .ref qd), (3, .ref qo), (2, .ref am), (1, .ref x), (0, .ref b)]) hx hb dL_law_1051 hl (by decide) rfl (fun ls hl => ?_)
  refine lv_aload_n hx hb dL_law_1053 rfl (lv_at hl 5 rfl) ?_
  refine kj_i (pmM _ _ _ _) (va_runV (As := []) (rest := []) ⟨hx, hb, hml, hown, htT⟩ (m_thrown l D cA _ am r (mS (mS mZ 0 0) 0 1)) (cwV 0 htT (kg_V m_ml_L_130 m_im_X6_thrown m_sl_X6_thrown m_in_X6 m_cd_X6_thrown) rfl rfl rfl (by decide +kernel) ⟨Nat.le_of_ble_eq_true rfl, Nat.le_of_ble_eq_true rfl⟩) (kj_V (pmM _ _ _ _) hK hP hD hTB (kj_rm (pmM _ _ _ _) hK hP)) rfl rfl hl.1 rfl (lv_room (Nat.le_of_ble_eq_true rfl)) dL_law_1054 ⟨Nat.le_of_ble_eq_true rfl, Nat.le_of_ble_eq_true rfl⟩) hP hD hS hA (fun r_3 x_3 H locs hq_3 hP hD hS => ?_)
  rw [hq_3.1.trans (show (mS (mS mZ 0 0) 0 1).1 0 = 1 from rfl)]
  rw [hq_3.2] at hP hD
  have hP := kj_P (pmM _ _ _ _).symm hP
  have hD := kj_D (pmM _ _ _ _).symm hD
  refine lv_iload hx hb dL_law_1057 (lv_at hl 1 rfl) ?_
  refine lv_icmp_eq (tgt := 1064) hx hb dL_law_1059 (by decide) (fun _ => ?_) (fun c_4 => absurd c_4 (by decide))
  refine lv_iload hx hb dL_law_1064 (lv_at hl 1 rfl) ?_
  refine lv_if_ne (tgt := 1081) hx hb dL_law_1066 (by decide) (fun _ => ?_) (fun c_5 => absurd c_5 (by decide))
  refine lv_goto (tgt := 2693) hx hb dL_law_1081 (by decide) ?_
  exact law_end C0 hS (Nat.le_of_ble_eq_true rfl) (Nat.le_of_ble_eq_true rfl) (lv_sub hl [2, 7] rfl)

set_option maxRecDepth 100000 in
set_option maxHeartbeats 4000000 in
theorem law_share (l : Launch) (hst : l.stackTraces = false) {p : Program} {e : Env} {s : State} {m : MethodId} {below : List Frame} {meth : Method} {c : Code} {b : Nat} {xs : Nat → Int32} (C0 : lw_At p s m meth c b 6 xs) {D : va_G} {cA : Nat → ClassId} (hK : va_K D vwCl (ty6 cA) s) (hTB : TBok s) (hTX : TXok (fun q : Nat => s.heap.size ≤ q) s) {S : Pool} {x ar qo qd am : Nat} {r : Nat → Nat} {fo : Nat → Int64} {fd : Nat → UInt64} {H : Heap} {locs : List Loc} {ls : Array Slot} (ho : isO S x 5) (hq0 : gQ S x 0 = some ar) (har : isA S ar 22 8) (hn : ∀ j, j < 8 → gP S ar j = none) (hnum : ∀ k, gI S x k = 0) (hP : va_P D vwCl (LW cA S qo fo qd fd am r mZ) H) (hD : va_D (fun q : Nat => s.heap.size ≤ q) (LW cA S qo fo qd fd am r mZ)) (hS : va_S (fun q : Nat => s.heap.size ≤ q) s.heap H locs) (hl : lv_has ls 9 [(5, .int 0), (4, .ref qd), (3, .ref qo), (2, .ref am), (1, .ref x), (0, .ref b)])  : W p l e room_1 s m #[Value.ref b] below meth c H locs 100 2000 (lw_Z below #[Value.ref b] s) (F0 m 1084 ls []) := by
  obtain ⟨hx, hb, hr, hml, hown, hts, hX, hbl, hlocks, hgv⟩ := id C0
  have htT : ∀ w ∈ TT, w.before _ s = true := fun w h => hts w (tt_in h)
  have hA : ∀ q : Nat, s.heap.size ≤ q → (fun q : Nat => s.heap.size ≤ q) q := fun _ h => h
  have hbA : ¬ (fun q : Nat => s.heap.size ≤ q) b := Nat.not_le.mpr hbl
  refine lv_aload_n hx hb dL_law_1084 rfl (lv_at hl 4 rfl) ?_
  refine lv_aload_n hx hb dL_law_1085 rfl (lv_at hl 5 rfl) ?_
  refine lv_iload hx hb dL_law_1086 (lv_at hl 0 rfl) ?_
  refine lv_iconst (v := 1) hx hb dL_law_1088 (by decide) ?_
  refine lv_iadd hx hb dL_law_1089 ?_
  rw [show (0 + 1 : Int32) = 1 from by decide]
  refine va_sld hx hb hX hbl hbA hS (vp_in_iff.mpr (by decide)) dL_law_1090 ?_
  refine lv_aload_n hx hb dL_law_1091 rfl (lv_at hl 2 rfl) ?_
  refine kj_i (pmJ _ _ _ _) (vx_runSW (As := [.ref x, .int (xs (1 : Int32).toNatClampNeg), .ref qo]) (rest := []) ⟨hx, hb, hml, hown, htT⟩ (w_share_t l hst D cA _ S x qo fo ho ar hq0 har (xs (1 : Int32).toNatClampNeg) (fresh_sw hn _)) (vx_cwSW 3 htT (kg_SW m_ml_L_174 m_st_L_share m_in_L m_cd_L_share) rfl rfl rfl (by decide +kernel) ⟨Nat.le_of_ble_eq_true rfl, Nat.le_of_ble_eq_true rfl⟩) (kj_SX (pmJ _ _ _ _) hK hP hD hTB hTX hS hA) rfl rfl hl.1 rfl (lv_room (Nat.le_of_ble_eq_true rfl)) dL_law_1092 ⟨Nat.le_of_ble_eq_true rfl, Nat.le_of_ble_eq_true rfl⟩) hP hD hS hA (fun r_1 x_1 H locs hq_1 hP hD hS => ?_)
  rw [hq_1.1]
  rw [hq_1.2.1, hq_1.2.2] at hP hD
  rw [List.append_assoc] at hP hD
  refine lv_istore (lv' := [(6, .int 1), (5, .int 0), (4, .ref qd), (3, .ref qo), (2, .ref am), (1, .ref x), (0, .ref b)]) hx hb dL_law_1095 hl (by decide) rfl (fun ls hl => ?_)
  refine lv_aload_n hx hb dL_law_1097 rfl (lv_at hl 4 rfl) ?_
  refine lv_aload_n hx hb dL_law_1098 rfl (lv_at hl 6 rfl) ?_
  refine lv_iload hx hb dL_law_1099 (lv_at hl 1 rfl) ?_
  refine lv_iconst (v := 1) hx hb dL_law_1101 (by decide) ?_
  refine lv_iadd hx hb dL_law_1102 ?_
  rw [show (0 + 1 : Int32) = 1 from by decide]
  refine va_sld hx hb hX hbl hbA hS (vp_in_iff.mpr (by decide)) dL_law_1103 ?_
  refine kj_i (pmM _ _ _ _) (va_runV (As := [.int (xs (1 : Int32).toNatClampNeg)]) (rest := []) ⟨hx, hb, hml, hown, htT⟩ (m_share_0 l D cA _ am r mZ (xs (1 : Int32).toNatClampNeg) (fresh_in _)) (cwV 1 htT (kg_V m_ml_L_176 m_im_X6_share m_sl_X6_share m_in_X6 m_cd_X6_share) rfl rfl rfl (by decide +kernel) ⟨Nat.le_of_ble_eq_true rfl, Nat.le_of_ble_eq_true rfl⟩) (kj_V (pmM _ _ _ _) hK hP hD hTB (kj_rm (pmM _ _ _ _) hK hP)) rfl rfl hl.1 rfl (lv_room (Nat.le_of_ble_eq_true rfl)) dL_law_1104 ⟨Nat.le_of_ble_eq_true rfl, Nat.le_of_ble_eq_true rfl⟩) hP hD hS hA (fun r_2 x_2 H locs hq_2 hP hD hS => ?_)
  rw [hq_2.1]
  rw [hq_2.2] at hP hD
  have hP := kj_P (pmM _ _ _ _).symm hP
  have hD := kj_D (pmM _ _ _ _).symm hD
  refine lv_istore (lv' := [(7, .int 0), (6, .int 1), (5, .int 0), (4, .ref qd), (3, .ref qo), (2, .ref am), (1, .ref x), (0, .ref b)]) hx hb dL_law_1107 hl (by decide) rfl (fun ls hl => ?_)
  refine lv_aload_n hx hb dL_law_1109 rfl (lv_at hl 5 rfl) ?_
  refine kj_i (pmM _ _ _ _) (va_runV (As := []) (rest := []) ⟨hx, hb, hml, hown, htT⟩ (m_thrown l D cA _ am r (mS (mS mZ 0 0) 0 1)) (cwV 0 htT (kg_V m_ml_L_130 m_im_X6_thrown m_sl_X6_thrown m_in_X6 m_cd_X6_thrown) rfl rfl rfl (by decide +kernel) ⟨Nat.le_of_ble_eq_true rfl, Nat.le_of_ble_eq_true rfl⟩) (kj_V (pmM _ _ _ _) hK hP hD hTB (kj_rm (pmM _ _ _ _) hK hP)) rfl rfl hl.1 rfl (lv_room (Nat.le_of_ble_eq_true rfl)) dL_law_1110 ⟨Nat.le_of_ble_eq_true rfl, Nat.le_of_ble_eq_true rfl⟩) hP hD hS hA (fun r_3 x_3 H locs hq_3 hP hD hS => ?_)
  rw [hq_3.1.trans (show (mS (mS mZ 0 0) 0 1).1 0 = 1 from rfl)]
  rw [hq_3.2] at hP hD
  have hP := kj_P (pmM _ _ _ _).symm hP
  have hD := kj_D (pmM _ _ _ _).symm hD
  refine lv_iload hx hb dL_law_1113 (lv_at hl 1 rfl) ?_
  refine lv_icmp_eq (tgt := 1120) hx hb dL_law_1115 (by decide) (fun _ => ?_) (fun c_4 => absurd c_4 (by decide))
  refine lv_iload hx hb dL_law_1120 (lv_at hl 1 rfl) ?_
  refine lv_if_ne (tgt := 1137) hx hb dL_law_1122 (by decide) (fun _ => ?_) (fun c_5 => absurd c_5 (by decide))
  refine lv_goto (tgt := 2693) hx hb dL_law_1137 (by decide) ?_
  exact law_end C0 hS (Nat.le_of_ble_eq_true rfl) (Nat.le_of_ble_eq_true rfl) (lv_sub hl [2, 7] rfl)

set_option maxRecDepth 100000 in
set_option maxHeartbeats 4000000 in
theorem law_gets (l : Launch) (hst : l.stackTraces = false) {p : Program} {e : Env} {s : State} {m : MethodId} {below : List Frame} {meth : Method} {c : Code} {b : Nat} {xs : Nat → Int32} (C0 : lw_At p s m meth c b 6 xs) {D : va_G} {cA : Nat → ClassId} (hK : va_K D vwCl (ty6 cA) s) (hTB : TBok s) (hTX : TXok (fun q : Nat => s.heap.size ≤ q) s) {S : Pool} {x ar qo qd am : Nat} {r : Nat → Nat} {fo : Nat → Int64} {fd : Nat → UInt64} {H : Heap} {locs : List Loc} {ls : Array Slot} (ho : isO S x 5) (hq0 : gQ S x 0 = some ar) (har : isA S ar 22 8) (hn : ∀ j, j < 8 → gP S ar j = none) (hnum : ∀ k, gI S x k = 0) (hP : va_P D vwCl (LW cA S qo fo qd fd am r mZ) H) (hD : va_D (fun q : Nat => s.heap.size ≤ q) (LW cA S qo fo qd fd am r mZ)) (hS : va_S (fun q : Nat => s.heap.size ≤ q) s.heap H locs) (hl : lv_has ls 9 [(5, .int 0), (4, .ref qd), (3, .ref qo), (2, .ref am), (1, .ref x), (0, .ref b)])  : W p l e room_1 s m #[Value.ref b] below meth c H locs 100 2000 (lw_Z below #[Value.ref b] s) (F0 m 1264 ls []) := by
  obtain ⟨hx, hb, hr, hml, hown, hts, hX, hbl, hlocks, hgv⟩ := id C0
  have htT : ∀ w ∈ TT, w.before _ s = true := fun w h => hts w (tt_in h)
  have hA : ∀ q : Nat, s.heap.size ≤ q → (fun q : Nat => s.heap.size ≤ q) q := fun _ h => h
  have hbA : ¬ (fun q : Nat => s.heap.size ≤ q) b := Nat.not_le.mpr hbl
  refine lv_aload_n hx hb dL_law_1264 rfl (lv_at hl 4 rfl) ?_
  refine lv_aload_n hx hb dL_law_1265 rfl (lv_at hl 5 rfl) ?_
  refine lv_iload hx hb dL_law_1266 (lv_at hl 0 rfl) ?_
  refine lv_iconst (v := 1) hx hb dL_law_1268 (by decide) ?_
  refine lv_iadd hx hb dL_law_1269 ?_
  rw [show (0 + 1 : Int32) = 1 from by decide]
  refine va_sld hx hb hX hbl hbA hS (vp_in_iff.mpr (by decide)) dL_law_1270 ?_
  refine lv_aload_n hx hb dL_law_1271 rfl (lv_at hl 5 rfl) ?_
  refine lv_iload hx hb dL_law_1272 (lv_at hl 0 rfl) ?_
  refine lv_iconst (v := 2) hx hb dL_law_1274 (by decide) ?_
  refine lv_iadd hx hb dL_law_1275 ?_
  rw [show (0 + 2 : Int32) = 2 from by decide]
  refine va_sld hx hb hX hbl hbA hS (vp_in_iff.mpr (by decide)) dL_law_1276 ?_
  refine lv_aload_n hx hb dL_law_1277 rfl (lv_at hl 5 rfl) ?_
  refine lv_iload hx hb dL_law_1278 (lv_at hl 0 rfl) ?_
  refine lv_iconst (v := 3) hx hb dL_law_1280 (by decide) ?_
  refine lv_iadd hx hb dL_law_1281 ?_
  rw [show (0 + 3 : Int32) = 3 from by decide]
  refine va_sld hx hb hX hbl hbA hS (vp_in_iff.mpr (by decide)) dL_law_1282 ?_
  refine lv_aload_n hx hb dL_law_1283 rfl (lv_at hl 5 rfl) ?_
  refine lv_iload hx hb dL_law_1284 (lv_at hl 0 rfl) ?_
  refine lv_iconst (v := 4) hx hb dL_law_1286 (by decide) ?_
  refine lv_iadd hx hb dL_law_1287 ?_
  rw [show (0 + 4 : Int32) = 4 from by decide]
  refine va_sld hx hb hX hbl hbA hS (vp_in_iff.mpr (by decide)) dL_law_1288 ?_
  refine lv_aload_n hx hb dL_law_1289 rfl (lv_at hl 2 rfl) ?_
  refine kj_i (pmJ _ _ _ _) (vx_runSW (As := [.ref x, .int (xs (1 : Int32).toNatClampNeg), .int (xs (2 : Int32).toNatClampNeg), .int (xs (3 : Int32).toNatClampNeg), .int (xs (4 : Int32).toNatClampNeg), .ref qo]) (rest := []) ⟨hx, hb, hml, hown, htT⟩ (w_gets_t l hst D cA _ S x qo fo ho ar hq0 har (xs (1 : Int32).toNatClampNeg) (xs (2 : Int32).toNatClampNeg) (xs (3 : Int32).toNatClampNeg) (xs (4 : Int32).toNatClampNeg) (fresh_sw hn _)) (vx_cwSW 6 htT (kg_SW m_ml_L_183 m_st_L_gets m_in_L m_cd_L_gets) rfl rfl rfl (by decide +kernel) ⟨Nat.le_of_ble_eq_true rfl, Nat.le_of_ble_eq_true rfl⟩) (kj_SX (pmJ _ _ _ _) hK hP hD hTB hTX hS hA) rfl rfl hl.1 rfl (lv_room (Nat.le_of_ble_eq_true rfl)) dL_law_1290 ⟨Nat.le_of_ble_eq_true rfl, Nat.le_of_ble_eq_true rfl⟩) hP hD hS hA (fun r_1 x_1 H locs hq_1 hP hD hS => ?_)
  rw [hq_1.1]
  rw [hq_1.2.1, hq_1.2.2] at hP hD
  rw [List.append_assoc] at hP hD
  refine lv_istore (lv' := [(6, .int 1), (5, .int 0), (4, .ref qd), (3, .ref qo), (2, .ref am), (1, .ref x), (0, .ref b)]) hx hb dL_law_1293 hl (by decide) rfl (fun ls hl => ?_)
  refine lv_aload_n hx hb dL_law_1295 rfl (lv_at hl 4 rfl) ?_
  refine lv_aload_n hx hb dL_law_1296 rfl (lv_at hl 6 rfl) ?_
  refine lv_iload hx hb dL_law_1297 (lv_at hl 1 rfl) ?_
  refine lv_iconst (v := 1) hx hb dL_law_1299 (by decide) ?_
  refine lv_iadd hx hb dL_law_1300 ?_
  rw [show (0 + 1 : Int32) = 1 from by decide]
  refine va_sld hx hb hX hbl hbA hS (vp_in_iff.mpr (by decide)) dL_law_1301 ?_
  refine lv_aload_n hx hb dL_law_1302 rfl (lv_at hl 6 rfl) ?_
  refine lv_iload hx hb dL_law_1303 (lv_at hl 1 rfl) ?_
  refine lv_iconst (v := 2) hx hb dL_law_1305 (by decide) ?_
  refine lv_iadd hx hb dL_law_1306 ?_
  rw [show (0 + 2 : Int32) = 2 from by decide]
  refine va_sld hx hb hX hbl hbA hS (vp_in_iff.mpr (by decide)) dL_law_1307 ?_
  refine lv_aload_n hx hb dL_law_1308 rfl (lv_at hl 6 rfl) ?_
  refine lv_iload hx hb dL_law_1309 (lv_at hl 1 rfl) ?_
  refine lv_iconst (v := 3) hx hb dL_law_1311 (by decide) ?_
  refine lv_iadd hx hb dL_law_1312 ?_
  rw [show (0 + 3 : Int32) = 3 from by decide]
  refine va_sld hx hb hX hbl hbA hS (vp_in_iff.mpr (by decide)) dL_law_1313 ?_
  refine lv_aload_n hx hb dL_law_1314 rfl (lv_at hl 6 rfl) ?_
  refine lv_iload hx hb dL_law_1315 (lv_at hl 1 rfl) ?_
  refine lv_iconst (v := 4) hx hb dL_law_1317 (by decide) ?_
  refine lv_iadd hx hb dL_law_1318 ?_
  rw [show (0 + 4 : Int32) = 4 from by decide]
  refine va_sld hx hb hX hbl hbA hS (vp_in_iff.mpr (by decide)) dL_law_1319 ?_
  refine kj_i (pmM _ _ _ _) (va_runV (As := [.int (xs (1 : Int32).toNatClampNeg), .int (xs (2 : Int32).toNatClampNeg), .int (xs (3 : Int32).toNatClampNeg), .int (xs (4 : Int32).toNatClampNeg)]) (rest := []) ⟨hx, hb, hml, hown, htT⟩ (m_gets_0 l D cA _ am r mZ (xs (1 : Int32).toNatClampNeg) (xs (2 : Int32).toNatClampNeg) (xs (3 : Int32).toNatClampNeg) (xs (4 : Int32).toNatClampNeg) (fresh_in _)) (cwV 4 htT (kg_V m_ml_L_185 m_im_X6_gets m_sl_X6_gets m_in_X6 m_cd_X6_gets) rfl rfl rfl (by decide +kernel) ⟨Nat.le_of_ble_eq_true rfl, Nat.le_of_ble_eq_true rfl⟩) (kj_V (pmM _ _ _ _) hK hP hD hTB (kj_rm (pmM _ _ _ _) hK hP)) rfl rfl hl.1 rfl (lv_room (Nat.le_of_ble_eq_true rfl)) dL_law_1320 ⟨Nat.le_of_ble_eq_true rfl, Nat.le_of_ble_eq_true rfl⟩) hP hD hS hA (fun r_2 x_2 H locs hq_2 hP hD hS => ?_)
  rw [hq_2.1]
  rw [hq_2.2] at hP hD
  have hP := kj_P (pmM _ _ _ _).symm hP
  have hD := kj_D (pmM _ _ _ _).symm hD
  refine lv_istore (lv' := [(7, .int 0), (6, .int 1), (5, .int 0), (4, .ref qd), (3, .ref qo), (2, .ref am), (1, .ref x), (0, .ref b)]) hx hb dL_law_1323 hl (by decide) rfl (fun ls hl => ?_)
  refine lv_aload_n hx hb dL_law_1325 rfl (lv_at hl 5 rfl) ?_
  refine kj_i (pmM _ _ _ _) (va_runV (As := []) (rest := []) ⟨hx, hb, hml, hown, htT⟩ (m_thrown l D cA _ am r (mS mZ 0 1)) (cwV 0 htT (kg_V m_ml_L_130 m_im_X6_thrown m_sl_X6_thrown m_in_X6 m_cd_X6_thrown) rfl rfl rfl (by decide +kernel) ⟨Nat.le_of_ble_eq_true rfl, Nat.le_of_ble_eq_true rfl⟩) (kj_V (pmM _ _ _ _) hK hP hD hTB (kj_rm (pmM _ _ _ _) hK hP)) rfl rfl hl.1 rfl (lv_room (Nat.le_of_ble_eq_true rfl)) dL_law_1326 ⟨Nat.le_of_ble_eq_true rfl, Nat.le_of_ble_eq_true rfl⟩) hP hD hS hA (fun r_3 x_3 H locs hq_3 hP hD hS => ?_)
  rw [hq_3.1.trans (show (mS mZ 0 1).1 0 = 1 from rfl)]
  rw [hq_3.2] at hP hD
  have hP := kj_P (pmM _ _ _ _).symm hP
  have hD := kj_D (pmM _ _ _ _).symm hD
  refine lv_iload hx hb dL_law_1329 (lv_at hl 1 rfl) ?_
  refine lv_icmp_eq (tgt := 1336) hx hb dL_law_1331 (by decide) (fun _ => ?_) (fun c_4 => absurd c_4 (by decide))
  refine lv_iload hx hb dL_law_1336 (lv_at hl 1 rfl) ?_
  refine lv_if_ne (tgt := 1353) hx hb dL_law_1338 (by decide) (fun _ => ?_) (fun c_5 => absurd c_5 (by decide))
  refine lv_goto (tgt := 2693) hx hb dL_law_1353 (by decide) ?_
  exact law_end C0 hS (Nat.le_of_ble_eq_true rfl) (Nat.le_of_ble_eq_true rfl) (lv_sub hl [2, 7] rfl)

set_option maxRecDepth 100000 in
set_option maxHeartbeats 4000000 in
theorem law_why (l : Launch) (hst : l.stackTraces = false) {p : Program} {e : Env} {s : State} {m : MethodId} {below : List Frame} {meth : Method} {c : Code} {b : Nat} {xs : Nat → Int32} (C0 : lw_At p s m meth c b 6 xs) {D : va_G} {cA : Nat → ClassId} (hK : va_K D vwCl (ty6 cA) s) (hTB : TBok s) (hTX : TXok (fun q : Nat => s.heap.size ≤ q) s) {S : Pool} {x ar qo qd am : Nat} {r : Nat → Nat} {fo : Nat → Int64} {fd : Nat → UInt64} {H : Heap} {locs : List Loc} {ls : Array Slot} (ho : isO S x 5) (hq0 : gQ S x 0 = some ar) (har : isA S ar 22 8) (hn : ∀ j, j < 8 → gP S ar j = none) (hnum : ∀ k, gI S x k = 0) (hP : va_P D vwCl (LW cA S qo fo qd fd am r mZ) H) (hD : va_D (fun q : Nat => s.heap.size ≤ q) (LW cA S qo fo qd fd am r mZ)) (hS : va_S (fun q : Nat => s.heap.size ≤ q) s.heap H locs) (hl : lv_has ls 9 [(5, .int 0), (4, .ref qd), (3, .ref qo), (2, .ref am), (1, .ref x), (0, .ref b)])  : W p l e room_1 s m #[Value.ref b] below meth c H locs 100 2000 (lw_Z below #[Value.ref b] s) (F0 m 1356 ls []) := by
  obtain ⟨hx, hb, hr, hml, hown, hts, hX, hbl, hlocks, hgv⟩ := id C0
  have htT : ∀ w ∈ TT, w.before _ s = true := fun w h => hts w (tt_in h)
  have hA : ∀ q : Nat, s.heap.size ≤ q → (fun q : Nat => s.heap.size ≤ q) q := fun _ h => h
  have hbA : ¬ (fun q : Nat => s.heap.size ≤ q) b := Nat.not_le.mpr hbl
  refine lv_aload_n hx hb dL_law_1356 rfl (lv_at hl 4 rfl) ?_
  refine lv_aload_n hx hb dL_law_1357 rfl (lv_at hl 5 rfl) ?_
  refine lv_iload hx hb dL_law_1358 (lv_at hl 0 rfl) ?_
  refine lv_iconst (v := 1) hx hb dL_law_1360 (by decide) ?_
  refine lv_iadd hx hb dL_law_1361 ?_
  rw [show (0 + 1 : Int32) = 1 from by decide]
  refine va_sld hx hb hX hbl hbA hS (vp_in_iff.mpr (by decide)) dL_law_1362 ?_
  refine lv_aload_n hx hb dL_law_1363 rfl (lv_at hl 5 rfl) ?_
  refine lv_iload hx hb dL_law_1364 (lv_at hl 0 rfl) ?_
  refine lv_iconst (v := 2) hx hb dL_law_1366 (by decide) ?_
  refine lv_iadd hx hb dL_law_1367 ?_
  rw [show (0 + 2 : Int32) = 2 from by decide]
  refine va_sld hx hb hX hbl hbA hS (vp_in_iff.mpr (by decide)) dL_law_1368 ?_
  refine lv_aload_n hx hb dL_law_1369 rfl (lv_at hl 5 rfl) ?_
  refine lv_iload hx hb dL_law_1370 (lv_at hl 0 rfl) ?_
  refine lv_iconst (v := 3) hx hb dL_law_1372 (by decide) ?_
  refine lv_iadd hx hb dL_law_1373 ?_
  rw [show (0 + 3 : Int32) = 3 from by decide]
  refine va_sld hx hb hX hbl hbA hS (vp_in_iff.mpr (by decide)) dL_law_1374 ?_
  refine lv_aload_n hx hb dL_law_1375 rfl (lv_at hl 5 rfl) ?_
  refine lv_iload hx hb dL_law_1376 (lv_at hl 0 rfl) ?_
  refine lv_iconst (v := 4) hx hb dL_law_1378 (by decide) ?_
  refine lv_iadd hx hb dL_law_1379 ?_
  rw [show (0 + 4 : Int32) = 4 from by decide]
  refine va_sld hx hb hX hbl hbA hS (vp_in_iff.mpr (by decide)) dL_law_1380 ?_
  refine lv_aload_n hx hb dL_law_1381 rfl (lv_at hl 2 rfl) ?_
  refine kj_i (pmJ _ _ _ _) (vx_runSW (As := [.ref x, .int (xs (1 : Int32).toNatClampNeg), .int (xs (2 : Int32).toNatClampNeg), .int (xs (3 : Int32).toNatClampNeg), .int (xs (4 : Int32).toNatClampNeg), .ref qo]) (rest := []) ⟨hx, hb, hml, hown, htT⟩ (w_why_t l hst D cA _ S x qo fo ho ar hq0 har (xs (1 : Int32).toNatClampNeg) (xs (2 : Int32).toNatClampNeg) (xs (3 : Int32).toNatClampNeg) (xs (4 : Int32).toNatClampNeg) (fresh_sw hn _)) (vx_cwSW 6 htT (kg_SW m_ml_L_186 m_st_L_why m_in_L m_cd_L_why) rfl rfl rfl (by decide +kernel) ⟨Nat.le_of_ble_eq_true rfl, Nat.le_of_ble_eq_true rfl⟩) (kj_SX (pmJ _ _ _ _) hK hP hD hTB hTX hS hA) rfl rfl hl.1 rfl (lv_room (Nat.le_of_ble_eq_true rfl)) dL_law_1382 ⟨Nat.le_of_ble_eq_true rfl, Nat.le_of_ble_eq_true rfl⟩) hP hD hS hA (fun r_1 x_1 H locs hq_1 hP hD hS => ?_)
  rw [hq_1.1]
  rw [hq_1.2.1, hq_1.2.2] at hP hD
  rw [List.append_assoc] at hP hD
  refine lv_istore (lv' := [(6, .int 1), (5, .int 0), (4, .ref qd), (3, .ref qo), (2, .ref am), (1, .ref x), (0, .ref b)]) hx hb dL_law_1385 hl (by decide) rfl (fun ls hl => ?_)
  refine lv_aload_n hx hb dL_law_1387 rfl (lv_at hl 4 rfl) ?_
  refine lv_aload_n hx hb dL_law_1388 rfl (lv_at hl 6 rfl) ?_
  refine lv_iload hx hb dL_law_1389 (lv_at hl 1 rfl) ?_
  refine lv_iconst (v := 1) hx hb dL_law_1391 (by decide) ?_
  refine lv_iadd hx hb dL_law_1392 ?_
  rw [show (0 + 1 : Int32) = 1 from by decide]
  refine va_sld hx hb hX hbl hbA hS (vp_in_iff.mpr (by decide)) dL_law_1393 ?_
  refine lv_aload_n hx hb dL_law_1394 rfl (lv_at hl 6 rfl) ?_
  refine lv_iload hx hb dL_law_1395 (lv_at hl 1 rfl) ?_
  refine lv_iconst (v := 2) hx hb dL_law_1397 (by decide) ?_
  refine lv_iadd hx hb dL_law_1398 ?_
  rw [show (0 + 2 : Int32) = 2 from by decide]
  refine va_sld hx hb hX hbl hbA hS (vp_in_iff.mpr (by decide)) dL_law_1399 ?_
  refine lv_aload_n hx hb dL_law_1400 rfl (lv_at hl 6 rfl) ?_
  refine lv_iload hx hb dL_law_1401 (lv_at hl 1 rfl) ?_
  refine lv_iconst (v := 3) hx hb dL_law_1403 (by decide) ?_
  refine lv_iadd hx hb dL_law_1404 ?_
  rw [show (0 + 3 : Int32) = 3 from by decide]
  refine va_sld hx hb hX hbl hbA hS (vp_in_iff.mpr (by decide)) dL_law_1405 ?_
  refine lv_aload_n hx hb dL_law_1406 rfl (lv_at hl 6 rfl) ?_
  refine lv_iload hx hb dL_law_1407 (lv_at hl 1 rfl) ?_
  refine lv_iconst (v := 4) hx hb dL_law_1409 (by decide) ?_
  refine lv_iadd hx hb dL_law_1410 ?_
  rw [show (0 + 4 : Int32) = 4 from by decide]
  refine va_sld hx hb hX hbl hbA hS (vp_in_iff.mpr (by decide)) dL_law_1411 ?_
  refine kj_i (pmM _ _ _ _) (va_runV (As := [.int (xs (1 : Int32).toNatClampNeg), .int (xs (2 : Int32).toNatClampNeg), .int (xs (3 : Int32).toNatClampNeg), .int (xs (4 : Int32).toNatClampNeg)]) (rest := []) ⟨hx, hb, hml, hown, htT⟩ (m_why_0 l D cA _ am r mZ (xs (1 : Int32).toNatClampNeg) (xs (2 : Int32).toNatClampNeg) (xs (3 : Int32).toNatClampNeg) (xs (4 : Int32).toNatClampNeg) (fresh_in _)) (cwV 4 htT (kg_V m_ml_L_188 m_im_X6_why m_sl_X6_why m_in_X6 m_cd_X6_why) rfl rfl rfl (by decide +kernel) ⟨Nat.le_of_ble_eq_true rfl, Nat.le_of_ble_eq_true rfl⟩) (kj_V (pmM _ _ _ _) hK hP hD hTB (kj_rm (pmM _ _ _ _) hK hP)) rfl rfl hl.1 rfl (lv_room (Nat.le_of_ble_eq_true rfl)) dL_law_1412 ⟨Nat.le_of_ble_eq_true rfl, Nat.le_of_ble_eq_true rfl⟩) hP hD hS hA (fun r_2 x_2 H locs hq_2 hP hD hS => ?_)
  rw [hq_2.1]
  rw [hq_2.2] at hP hD
  have hP := kj_P (pmM _ _ _ _).symm hP
  have hD := kj_D (pmM _ _ _ _).symm hD
  refine lv_istore (lv' := [(7, .int 0), (6, .int 1), (5, .int 0), (4, .ref qd), (3, .ref qo), (2, .ref am), (1, .ref x), (0, .ref b)]) hx hb dL_law_1415 hl (by decide) rfl (fun ls hl => ?_)
  refine lv_aload_n hx hb dL_law_1417 rfl (lv_at hl 5 rfl) ?_
  refine kj_i (pmM _ _ _ _) (va_runV (As := []) (rest := []) ⟨hx, hb, hml, hown, htT⟩ (m_thrown l D cA _ am r (mS mZ 0 1)) (cwV 0 htT (kg_V m_ml_L_130 m_im_X6_thrown m_sl_X6_thrown m_in_X6 m_cd_X6_thrown) rfl rfl rfl (by decide +kernel) ⟨Nat.le_of_ble_eq_true rfl, Nat.le_of_ble_eq_true rfl⟩) (kj_V (pmM _ _ _ _) hK hP hD hTB (kj_rm (pmM _ _ _ _) hK hP)) rfl rfl hl.1 rfl (lv_room (Nat.le_of_ble_eq_true rfl)) dL_law_1418 ⟨Nat.le_of_ble_eq_true rfl, Nat.le_of_ble_eq_true rfl⟩) hP hD hS hA (fun r_3 x_3 H locs hq_3 hP hD hS => ?_)
  rw [hq_3.1.trans (show (mS mZ 0 1).1 0 = 1 from rfl)]
  rw [hq_3.2] at hP hD
  have hP := kj_P (pmM _ _ _ _).symm hP
  have hD := kj_D (pmM _ _ _ _).symm hD
  refine lv_iload hx hb dL_law_1421 (lv_at hl 1 rfl) ?_
  refine lv_icmp_eq (tgt := 1428) hx hb dL_law_1423 (by decide) (fun _ => ?_) (fun c_4 => absurd c_4 (by decide))
  refine lv_iload hx hb dL_law_1428 (lv_at hl 1 rfl) ?_
  refine lv_if_ne (tgt := 1445) hx hb dL_law_1430 (by decide) (fun _ => ?_) (fun c_5 => absurd c_5 (by decide))
  refine lv_goto (tgt := 2693) hx hb dL_law_1445 (by decide) ?_
  exact law_end C0 hS (Nat.le_of_ble_eq_true rfl) (Nat.le_of_ble_eq_true rfl) (lv_sub hl [2, 7] rfl)

set_option maxRecDepth 100000 in
set_option maxHeartbeats 4000000 in
theorem law_holds (l : Launch) (hst : l.stackTraces = false) {p : Program} {e : Env} {s : State} {m : MethodId} {below : List Frame} {meth : Method} {c : Code} {b : Nat} {xs : Nat → Int32} (C0 : lw_At p s m meth c b 6 xs) {D : va_G} {cA : Nat → ClassId} (hK : va_K D vwCl (ty6 cA) s) (hTB : TBok s) (hTX : TXok (fun q : Nat => s.heap.size ≤ q) s) {S : Pool} {x ar qo qd am : Nat} {r : Nat → Nat} {fo : Nat → Int64} {fd : Nat → UInt64} {H : Heap} {locs : List Loc} {ls : Array Slot} (ho : isO S x 5) (hq0 : gQ S x 0 = some ar) (har : isA S ar 22 8) (hn : ∀ j, j < 8 → gP S ar j = none) (hnum : ∀ k, gI S x k = 0) (hP : va_P D vwCl (LW cA S qo fo qd fd am r mZ) H) (hD : va_D (fun q : Nat => s.heap.size ≤ q) (LW cA S qo fo qd fd am r mZ)) (hS : va_S (fun q : Nat => s.heap.size ≤ q) s.heap H locs) (hl : lv_has ls 9 [(5, .int 0), (4, .ref qd), (3, .ref qo), (2, .ref am), (1, .ref x), (0, .ref b)])  : W p l e room_1 s m #[Value.ref b] below meth c H locs 100 2000 (lw_Z below #[Value.ref b] s) (F0 m 1448 ls []) := by
  obtain ⟨hx, hb, hr, hml, hown, hts, hX, hbl, hlocks, hgv⟩ := id C0
  have htT : ∀ w ∈ TT, w.before _ s = true := fun w h => hts w (tt_in h)
  have hA : ∀ q : Nat, s.heap.size ≤ q → (fun q : Nat => s.heap.size ≤ q) q := fun _ h => h
  have hbA : ¬ (fun q : Nat => s.heap.size ≤ q) b := Nat.not_le.mpr hbl
  refine lv_aload_n hx hb dL_law_1448 rfl (lv_at hl 4 rfl) ?_
  refine lv_aload_n hx hb dL_law_1449 rfl (lv_at hl 5 rfl) ?_
  refine lv_iload hx hb dL_law_1450 (lv_at hl 0 rfl) ?_
  refine lv_iconst (v := 1) hx hb dL_law_1452 (by decide) ?_
  refine lv_iadd hx hb dL_law_1453 ?_
  rw [show (0 + 1 : Int32) = 1 from by decide]
  refine va_sld hx hb hX hbl hbA hS (vp_in_iff.mpr (by decide)) dL_law_1454 ?_
  refine lv_aload_n hx hb dL_law_1455 rfl (lv_at hl 5 rfl) ?_
  refine lv_iload hx hb dL_law_1456 (lv_at hl 0 rfl) ?_
  refine lv_iconst (v := 2) hx hb dL_law_1458 (by decide) ?_
  refine lv_iadd hx hb dL_law_1459 ?_
  rw [show (0 + 2 : Int32) = 2 from by decide]
  refine va_sld hx hb hX hbl hbA hS (vp_in_iff.mpr (by decide)) dL_law_1460 ?_
  refine lv_aload_n hx hb dL_law_1461 rfl (lv_at hl 5 rfl) ?_
  refine lv_iload hx hb dL_law_1462 (lv_at hl 0 rfl) ?_
  refine lv_iconst (v := 3) hx hb dL_law_1464 (by decide) ?_
  refine lv_iadd hx hb dL_law_1465 ?_
  rw [show (0 + 3 : Int32) = 3 from by decide]
  refine va_sld hx hb hX hbl hbA hS (vp_in_iff.mpr (by decide)) dL_law_1466 ?_
  refine lv_aload_n hx hb dL_law_1467 rfl (lv_at hl 5 rfl) ?_
  refine lv_iload hx hb dL_law_1468 (lv_at hl 0 rfl) ?_
  refine lv_iconst (v := 4) hx hb dL_law_1470 (by decide) ?_
  refine lv_iadd hx hb dL_law_1471 ?_
  rw [show (0 + 4 : Int32) = 4 from by decide]
  refine va_sld hx hb hX hbl hbA hS (vp_in_iff.mpr (by decide)) dL_law_1472 ?_
  refine lv_aload_n hx hb dL_law_1473 rfl (lv_at hl 2 rfl) ?_
  refine kj_i (pmJ _ _ _ _) (vx_runSW (As := [.ref x, .int (xs (1 : Int32).toNatClampNeg), .int (xs (2 : Int32).toNatClampNeg), .int (xs (3 : Int32).toNatClampNeg), .int (xs (4 : Int32).toNatClampNeg), .ref qo]) (rest := []) ⟨hx, hb, hml, hown, htT⟩ (w_holds_t l hst D cA _ S x qo fo ho ar hq0 har (xs (1 : Int32).toNatClampNeg) (xs (2 : Int32).toNatClampNeg) (xs (3 : Int32).toNatClampNeg) (xs (4 : Int32).toNatClampNeg) (fresh_sw hn _)) (vx_cwSW 6 htT (kg_SW m_ml_L_189 m_st_L_holds m_in_L m_cd_L_holds) rfl rfl rfl (by decide +kernel) ⟨Nat.le_of_ble_eq_true rfl, Nat.le_of_ble_eq_true rfl⟩) (kj_SX (pmJ _ _ _ _) hK hP hD hTB hTX hS hA) rfl rfl hl.1 rfl (lv_room (Nat.le_of_ble_eq_true rfl)) dL_law_1474 ⟨Nat.le_of_ble_eq_true rfl, Nat.le_of_ble_eq_true rfl⟩) hP hD hS hA (fun r_1 x_1 H locs hq_1 hP hD hS => ?_)
  rw [hq_1.1]
  rw [hq_1.2.1, hq_1.2.2] at hP hD
  rw [List.append_assoc] at hP hD
  refine lv_istore (lv' := [(6, .int 1), (5, .int 0), (4, .ref qd), (3, .ref qo), (2, .ref am), (1, .ref x), (0, .ref b)]) hx hb dL_law_1477 hl (by decide) rfl (fun ls hl => ?_)
  refine lv_aload_n hx hb dL_law_1479 rfl (lv_at hl 4 rfl) ?_
  refine lv_aload_n hx hb dL_law_1480 rfl (lv_at hl 6 rfl) ?_
  refine lv_iload hx hb dL_law_1481 (lv_at hl 1 rfl) ?_
  refine lv_iconst (v := 1) hx hb dL_law_1483 (by decide) ?_
  refine lv_iadd hx hb dL_law_1484 ?_
  rw [show (0 + 1 : Int32) = 1 from by decide]
  refine va_sld hx hb hX hbl hbA hS (vp_in_iff.mpr (by decide)) dL_law_1485 ?_
  refine lv_aload_n hx hb dL_law_1486 rfl (lv_at hl 6 rfl) ?_
  refine lv_iload hx hb dL_law_1487 (lv_at hl 1 rfl) ?_
  refine lv_iconst (v := 2) hx hb dL_law_1489 (by decide) ?_
  refine lv_iadd hx hb dL_law_1490 ?_
  rw [show (0 + 2 : Int32) = 2 from by decide]
  refine va_sld hx hb hX hbl hbA hS (vp_in_iff.mpr (by decide)) dL_law_1491 ?_
  refine lv_aload_n hx hb dL_law_1492 rfl (lv_at hl 6 rfl) ?_
  refine lv_iload hx hb dL_law_1493 (lv_at hl 1 rfl) ?_
  refine lv_iconst (v := 3) hx hb dL_law_1495 (by decide) ?_
  refine lv_iadd hx hb dL_law_1496 ?_
  rw [show (0 + 3 : Int32) = 3 from by decide]
  refine va_sld hx hb hX hbl hbA hS (vp_in_iff.mpr (by decide)) dL_law_1497 ?_
  refine lv_aload_n hx hb dL_law_1498 rfl (lv_at hl 6 rfl) ?_
  refine lv_iload hx hb dL_law_1499 (lv_at hl 1 rfl) ?_
  refine lv_iconst (v := 4) hx hb dL_law_1501 (by decide) ?_
  refine lv_iadd hx hb dL_law_1502 ?_
  rw [show (0 + 4 : Int32) = 4 from by decide]
  refine va_sld hx hb hX hbl hbA hS (vp_in_iff.mpr (by decide)) dL_law_1503 ?_
  refine kj_i (pmM _ _ _ _) (va_runV (As := [.int (xs (1 : Int32).toNatClampNeg), .int (xs (2 : Int32).toNatClampNeg), .int (xs (3 : Int32).toNatClampNeg), .int (xs (4 : Int32).toNatClampNeg)]) (rest := []) ⟨hx, hb, hml, hown, htT⟩ (m_holds_0 l D cA _ am r mZ (xs (1 : Int32).toNatClampNeg) (xs (2 : Int32).toNatClampNeg) (xs (3 : Int32).toNatClampNeg) (xs (4 : Int32).toNatClampNeg) (fresh_in _)) (cwV 4 htT (kg_V m_ml_L_191 m_im_X6_holds m_sl_X6_holds m_in_X6 m_cd_X6_holds) rfl rfl rfl (by decide +kernel) ⟨Nat.le_of_ble_eq_true rfl, Nat.le_of_ble_eq_true rfl⟩) (kj_V (pmM _ _ _ _) hK hP hD hTB (kj_rm (pmM _ _ _ _) hK hP)) rfl rfl hl.1 rfl (lv_room (Nat.le_of_ble_eq_true rfl)) dL_law_1504 ⟨Nat.le_of_ble_eq_true rfl, Nat.le_of_ble_eq_true rfl⟩) hP hD hS hA (fun r_2 x_2 H locs hq_2 hP hD hS => ?_)
  rw [hq_2.1]
  rw [hq_2.2] at hP hD
  have hP := kj_P (pmM _ _ _ _).symm hP
  have hD := kj_D (pmM _ _ _ _).symm hD
  refine lv_istore (lv' := [(7, .int 0), (6, .int 1), (5, .int 0), (4, .ref qd), (3, .ref qo), (2, .ref am), (1, .ref x), (0, .ref b)]) hx hb dL_law_1507 hl (by decide) rfl (fun ls hl => ?_)
  refine lv_aload_n hx hb dL_law_1509 rfl (lv_at hl 5 rfl) ?_
  refine kj_i (pmM _ _ _ _) (va_runV (As := []) (rest := []) ⟨hx, hb, hml, hown, htT⟩ (m_thrown l D cA _ am r (mS mZ 0 1)) (cwV 0 htT (kg_V m_ml_L_130 m_im_X6_thrown m_sl_X6_thrown m_in_X6 m_cd_X6_thrown) rfl rfl rfl (by decide +kernel) ⟨Nat.le_of_ble_eq_true rfl, Nat.le_of_ble_eq_true rfl⟩) (kj_V (pmM _ _ _ _) hK hP hD hTB (kj_rm (pmM _ _ _ _) hK hP)) rfl rfl hl.1 rfl (lv_room (Nat.le_of_ble_eq_true rfl)) dL_law_1510 ⟨Nat.le_of_ble_eq_true rfl, Nat.le_of_ble_eq_true rfl⟩) hP hD hS hA (fun r_3 x_3 H locs hq_3 hP hD hS => ?_)
  rw [hq_3.1.trans (show (mS mZ 0 1).1 0 = 1 from rfl)]
  rw [hq_3.2] at hP hD
  have hP := kj_P (pmM _ _ _ _).symm hP
  have hD := kj_D (pmM _ _ _ _).symm hD
  refine lv_iload hx hb dL_law_1513 (lv_at hl 1 rfl) ?_
  refine lv_icmp_eq (tgt := 1520) hx hb dL_law_1515 (by decide) (fun _ => ?_) (fun c_4 => absurd c_4 (by decide))
  refine lv_iload hx hb dL_law_1520 (lv_at hl 1 rfl) ?_
  refine lv_if_ne (tgt := 1537) hx hb dL_law_1522 (by decide) (fun _ => ?_) (fun c_5 => absurd c_5 (by decide))
  refine lv_goto (tgt := 2693) hx hb dL_law_1537 (by decide) ?_
  exact law_end C0 hS (Nat.le_of_ble_eq_true rfl) (Nat.le_of_ble_eq_true rfl) (lv_sub hl [2, 7] rfl)

set_option maxRecDepth 100000 in
set_option maxHeartbeats 4000000 in
theorem law_ask (l : Launch) (hst : l.stackTraces = false) {p : Program} {e : Env} {s : State} {m : MethodId} {below : List Frame} {meth : Method} {c : Code} {b : Nat} {xs : Nat → Int32} (C0 : lw_At p s m meth c b 6 xs) {D : va_G} {cA : Nat → ClassId} (hK : va_K D vwCl (ty6 cA) s) (hTB : TBok s) (hTX : TXok (fun q : Nat => s.heap.size ≤ q) s) {S : Pool} {x ar qo qd am : Nat} {r : Nat → Nat} {fo : Nat → Int64} {fd : Nat → UInt64} {H : Heap} {locs : List Loc} {ls : Array Slot} (ho : isO S x 5) (hq0 : gQ S x 0 = some ar) (har : isA S ar 22 8) (hn : ∀ j, j < 8 → gP S ar j = none) (hnum : ∀ k, gI S x k = 0) (hP : va_P D vwCl (LW cA S qo fo qd fd am r mZ) H) (hD : va_D (fun q : Nat => s.heap.size ≤ q) (LW cA S qo fo qd fd am r mZ)) (hS : va_S (fun q : Nat => s.heap.size ≤ q) s.heap H locs) (hl : lv_has ls 9 [(5, .int 0), (4, .ref qd), (3, .ref qo), (2, .ref am), (1, .ref x), (0, .ref b)])  : W p l e room_1 s m #[Value.ref b] below meth c H locs 100 2000 (lw_Z below #[Value.ref b] s) (F0 m 1540 ls []) := by
  obtain ⟨hx, hb, hr, hml, hown, hts, hX, hbl, hlocks, hgv⟩ := id C0
  have htT : ∀ w ∈ TT, w.before _ s = true := fun w h => hts w (tt_in h)
  have hA : ∀ q : Nat, s.heap.size ≤ q → (fun q : Nat => s.heap.size ≤ q) q := fun _ h => h
  have hbA : ¬ (fun q : Nat => s.heap.size ≤ q) b := Nat.not_le.mpr hbl
  refine lv_aload_n hx hb dL_law_1540 rfl (lv_at hl 4 rfl) ?_
  refine lv_aload_n hx hb dL_law_1541 rfl (lv_at hl 5 rfl) ?_
  refine lv_iload hx hb dL_law_1542 (lv_at hl 0 rfl) ?_
  refine lv_iconst (v := 1) hx hb dL_law_1544 (by decide) ?_
  refine lv_iadd hx hb dL_law_1545 ?_
  rw [show (0 + 1 : Int32) = 1 from by decide]
  refine va_sld hx hb hX hbl hbA hS (vp_in_iff.mpr (by decide)) dL_law_1546 ?_
  refine lv_aload_n hx hb dL_law_1547 rfl (lv_at hl 5 rfl) ?_
  refine lv_iload hx hb dL_law_1548 (lv_at hl 0 rfl) ?_
  refine lv_iconst (v := 2) hx hb dL_law_1550 (by decide) ?_
  refine lv_iadd hx hb dL_law_1551 ?_
  rw [show (0 + 2 : Int32) = 2 from by decide]
  refine va_sld hx hb hX hbl hbA hS (vp_in_iff.mpr (by decide)) dL_law_1552 ?_
  refine lv_aload_n hx hb dL_law_1553 rfl (lv_at hl 5 rfl) ?_
  refine lv_iload hx hb dL_law_1554 (lv_at hl 0 rfl) ?_
  refine lv_iconst (v := 3) hx hb dL_law_1556 (by decide) ?_
  refine lv_iadd hx hb dL_law_1557 ?_
  rw [show (0 + 3 : Int32) = 3 from by decide]
  refine va_sld hx hb hX hbl hbA hS (vp_in_iff.mpr (by decide)) dL_law_1558 ?_
  refine lv_aload_n hx hb dL_law_1559 rfl (lv_at hl 5 rfl) ?_
  refine lv_iload hx hb dL_law_1560 (lv_at hl 0 rfl) ?_
  refine lv_iconst (v := 4) hx hb dL_law_1562 (by decide) ?_
  refine lv_iadd hx hb dL_law_1563 ?_
  rw [show (0 + 4 : Int32) = 4 from by decide]
  refine va_sld hx hb hX hbl hbA hS (vp_in_iff.mpr (by decide)) dL_law_1564 ?_
  refine lv_aload_n hx hb dL_law_1565 rfl (lv_at hl 2 rfl) ?_
  refine kj_i (pmJ _ _ _ _) (vx_runSW (As := [.ref x, .int (xs (1 : Int32).toNatClampNeg), .int (xs (2 : Int32).toNatClampNeg), .int (xs (3 : Int32).toNatClampNeg), .int (xs (4 : Int32).toNatClampNeg), .ref qo]) (rest := []) ⟨hx, hb, hml, hown, htT⟩ (w_ask_t l hst D cA _ S x qo fo ho ar hq0 har (xs (1 : Int32).toNatClampNeg) (xs (2 : Int32).toNatClampNeg) (xs (3 : Int32).toNatClampNeg) (xs (4 : Int32).toNatClampNeg) (fresh_sw hn _)) (vx_cwSW 6 htT (kg_SW m_ml_L_192 m_st_L_ask m_in_L m_cd_L_ask) rfl rfl rfl (by decide +kernel) ⟨Nat.le_of_ble_eq_true rfl, Nat.le_of_ble_eq_true rfl⟩) (kj_SX (pmJ _ _ _ _) hK hP hD hTB hTX hS hA) rfl rfl hl.1 rfl (lv_room (Nat.le_of_ble_eq_true rfl)) dL_law_1566 ⟨Nat.le_of_ble_eq_true rfl, Nat.le_of_ble_eq_true rfl⟩) hP hD hS hA (fun r_1 x_1 H locs hq_1 hP hD hS => ?_)
  rw [hq_1.1]
  rw [hq_1.2.1, hq_1.2.2] at hP hD
  rw [List.append_assoc] at hP hD
  refine lv_istore (lv' := [(6, .int 1), (5, .int 0), (4, .ref qd), (3, .ref qo), (2, .ref am), (1, .ref x), (0, .ref b)]) hx hb dL_law_1569 hl (by decide) rfl (fun ls hl => ?_)
  refine lv_aload_n hx hb dL_law_1571 rfl (lv_at hl 4 rfl) ?_
  refine lv_aload_n hx hb dL_law_1572 rfl (lv_at hl 6 rfl) ?_
  refine lv_iload hx hb dL_law_1573 (lv_at hl 1 rfl) ?_
  refine lv_iconst (v := 1) hx hb dL_law_1575 (by decide) ?_
  refine lv_iadd hx hb dL_law_1576 ?_
  rw [show (0 + 1 : Int32) = 1 from by decide]
  refine va_sld hx hb hX hbl hbA hS (vp_in_iff.mpr (by decide)) dL_law_1577 ?_
  refine lv_aload_n hx hb dL_law_1578 rfl (lv_at hl 6 rfl) ?_
  refine lv_iload hx hb dL_law_1579 (lv_at hl 1 rfl) ?_
  refine lv_iconst (v := 2) hx hb dL_law_1581 (by decide) ?_
  refine lv_iadd hx hb dL_law_1582 ?_
  rw [show (0 + 2 : Int32) = 2 from by decide]
  refine va_sld hx hb hX hbl hbA hS (vp_in_iff.mpr (by decide)) dL_law_1583 ?_
  refine lv_aload_n hx hb dL_law_1584 rfl (lv_at hl 6 rfl) ?_
  refine lv_iload hx hb dL_law_1585 (lv_at hl 1 rfl) ?_
  refine lv_iconst (v := 3) hx hb dL_law_1587 (by decide) ?_
  refine lv_iadd hx hb dL_law_1588 ?_
  rw [show (0 + 3 : Int32) = 3 from by decide]
  refine va_sld hx hb hX hbl hbA hS (vp_in_iff.mpr (by decide)) dL_law_1589 ?_
  refine lv_aload_n hx hb dL_law_1590 rfl (lv_at hl 6 rfl) ?_
  refine lv_iload hx hb dL_law_1591 (lv_at hl 1 rfl) ?_
  refine lv_iconst (v := 4) hx hb dL_law_1593 (by decide) ?_
  refine lv_iadd hx hb dL_law_1594 ?_
  rw [show (0 + 4 : Int32) = 4 from by decide]
  refine va_sld hx hb hX hbl hbA hS (vp_in_iff.mpr (by decide)) dL_law_1595 ?_
  refine kj_i (pmM _ _ _ _) (va_runV (As := [.int (xs (1 : Int32).toNatClampNeg), .int (xs (2 : Int32).toNatClampNeg), .int (xs (3 : Int32).toNatClampNeg), .int (xs (4 : Int32).toNatClampNeg)]) (rest := []) ⟨hx, hb, hml, hown, htT⟩ (m_ask_0 l D cA _ am r mZ (xs (1 : Int32).toNatClampNeg) (xs (2 : Int32).toNatClampNeg) (xs (3 : Int32).toNatClampNeg) (xs (4 : Int32).toNatClampNeg) (fresh_in _)) (cwV 4 htT (kg_V m_ml_L_194 m_im_X6_ask m_sl_X6_ask m_in_X6 m_cd_X6_ask) rfl rfl rfl (by decide +kernel) ⟨Nat.le_of_ble_eq_true rfl, Nat.le_of_ble_eq_true rfl⟩) (kj_V (pmM _ _ _ _) hK hP hD hTB (kj_rm (pmM _ _ _ _) hK hP)) rfl rfl hl.1 rfl (lv_room (Nat.le_of_ble_eq_true rfl)) dL_law_1596 ⟨Nat.le_of_ble_eq_true rfl, Nat.le_of_ble_eq_true rfl⟩) hP hD hS hA (fun r_2 x_2 H locs hq_2 hP hD hS => ?_)
  rw [hq_2.1]
  rw [hq_2.2] at hP hD
  have hP := kj_P (pmM _ _ _ _).symm hP
  have hD := kj_D (pmM _ _ _ _).symm hD
  refine lv_istore (lv' := [(7, .int 0), (6, .int 1), (5, .int 0), (4, .ref qd), (3, .ref qo), (2, .ref am), (1, .ref x), (0, .ref b)]) hx hb dL_law_1599 hl (by decide) rfl (fun ls hl => ?_)
  refine lv_aload_n hx hb dL_law_1601 rfl (lv_at hl 5 rfl) ?_
  refine kj_i (pmM _ _ _ _) (va_runV (As := []) (rest := []) ⟨hx, hb, hml, hown, htT⟩ (m_thrown l D cA _ am r (mS mZ 0 1)) (cwV 0 htT (kg_V m_ml_L_130 m_im_X6_thrown m_sl_X6_thrown m_in_X6 m_cd_X6_thrown) rfl rfl rfl (by decide +kernel) ⟨Nat.le_of_ble_eq_true rfl, Nat.le_of_ble_eq_true rfl⟩) (kj_V (pmM _ _ _ _) hK hP hD hTB (kj_rm (pmM _ _ _ _) hK hP)) rfl rfl hl.1 rfl (lv_room (Nat.le_of_ble_eq_true rfl)) dL_law_1602 ⟨Nat.le_of_ble_eq_true rfl, Nat.le_of_ble_eq_true rfl⟩) hP hD hS hA (fun r_3 x_3 H locs hq_3 hP hD hS => ?_)
  rw [hq_3.1.trans (show (mS mZ 0 1).1 0 = 1 from rfl)]
  rw [hq_3.2] at hP hD
  have hP := kj_P (pmM _ _ _ _).symm hP
  have hD := kj_D (pmM _ _ _ _).symm hD
  refine lv_iload hx hb dL_law_1605 (lv_at hl 1 rfl) ?_
  refine lv_icmp_eq (tgt := 1612) hx hb dL_law_1607 (by decide) (fun _ => ?_) (fun c_4 => absurd c_4 (by decide))
  refine lv_iload hx hb dL_law_1612 (lv_at hl 1 rfl) ?_
  refine lv_if_ne (tgt := 1629) hx hb dL_law_1614 (by decide) (fun _ => ?_) (fun c_5 => absurd c_5 (by decide))
  refine lv_goto (tgt := 2693) hx hb dL_law_1629 (by decide) ?_
  exact law_end C0 hS (Nat.le_of_ble_eq_true rfl) (Nat.le_of_ble_eq_true rfl) (lv_sub hl [2, 7] rfl)

set_option maxRecDepth 100000 in
set_option maxHeartbeats 4000000 in
theorem law_arm (l : Launch) (hst : l.stackTraces = false) {p : Program} {e : Env} {s : State} {m : MethodId} {below : List Frame} {meth : Method} {c : Code} {b : Nat} {xs : Nat → Int32} (C0 : lw_At p s m meth c b 6 xs) {D : va_G} {cA : Nat → ClassId} (hK : va_K D vwCl (ty6 cA) s) (hTB : TBok s) (hTX : TXok (fun q : Nat => s.heap.size ≤ q) s) {S : Pool} {x ar qo qd am : Nat} {r : Nat → Nat} {fo : Nat → Int64} {fd : Nat → UInt64} {H : Heap} {locs : List Loc} {ls : Array Slot} (ho : isO S x 5) (hq0 : gQ S x 0 = some ar) (har : isA S ar 22 8) (hn : ∀ j, j < 8 → gP S ar j = none) (hnum : ∀ k, gI S x k = 0) (hP : va_P D vwCl (LW cA S qo fo qd fd am r mZ) H) (hD : va_D (fun q : Nat => s.heap.size ≤ q) (LW cA S qo fo qd fd am r mZ)) (hS : va_S (fun q : Nat => s.heap.size ≤ q) s.heap H locs) (hl : lv_has ls 9 [(5, .int 0), (4, .ref qd), (3, .ref qo), (2, .ref am), (1, .ref x), (0, .ref b)])  : W p l e room_1 s m #[Value.ref b] below meth c H locs 100 2000 (lw_Z below #[Value.ref b] s) (F0 m 1700 ls []) := by
  obtain ⟨hx, hb, hr, hml, hown, hts, hX, hbl, hlocks, hgv⟩ := id C0
  have htT : ∀ w ∈ TT, w.before _ s = true := fun w h => hts w (tt_in h)
  have hA : ∀ q : Nat, s.heap.size ≤ q → (fun q : Nat => s.heap.size ≤ q) q := fun _ h => h
  have hbA : ¬ (fun q : Nat => s.heap.size ≤ q) b := Nat.not_le.mpr hbl
  refine lv_aload_n hx hb dL_law_1700 rfl (lv_at hl 4 rfl) ?_
  refine lv_aload_n hx hb dL_law_1701 rfl (lv_at hl 5 rfl) ?_
  refine lv_iload hx hb dL_law_1702 (lv_at hl 0 rfl) ?_
  refine lv_iconst (v := 1) hx hb dL_law_1704 (by decide) ?_
  refine lv_iadd hx hb dL_law_1705 ?_
  rw [show (0 + 1 : Int32) = 1 from by decide]
  refine va_sld hx hb hX hbl hbA hS (vp_in_iff.mpr (by decide)) dL_law_1706 ?_
  refine lv_aload_n hx hb dL_law_1707 rfl (lv_at hl 5 rfl) ?_
  refine lv_iload hx hb dL_law_1708 (lv_at hl 0 rfl) ?_
  refine lv_iconst (v := 2) hx hb dL_law_1710 (by decide) ?_
  refine lv_iadd hx hb dL_law_1711 ?_
  rw [show (0 + 2 : Int32) = 2 from by decide]
  refine va_sld hx hb hX hbl hbA hS (vp_in_iff.mpr (by decide)) dL_law_1712 ?_
  refine lv_aload_n hx hb dL_law_1713 rfl (lv_at hl 2 rfl) ?_
  refine kj_i (pmJ _ _ _ _) (vx_runSW (As := [.ref x, .int (xs (1 : Int32).toNatClampNeg), .int (xs (2 : Int32).toNatClampNeg), .ref qo]) (rest := []) ⟨hx, hb, hml, hown, htT⟩ (w_arm_t l hst D cA _ S x qo fo ho ar hq0 har (xs (1 : Int32).toNatClampNeg) (xs (2 : Int32).toNatClampNeg) (fresh_sw hn _)) (vx_cwSW 4 htT (kg_SW m_ml_L_198 m_st_L_arm m_in_L m_cd_L_arm) rfl rfl rfl (by decide +kernel) ⟨Nat.le_of_ble_eq_true rfl, Nat.le_of_ble_eq_true rfl⟩) (kj_SX (pmJ _ _ _ _) hK hP hD hTB hTX hS hA) rfl rfl hl.1 rfl (lv_room (Nat.le_of_ble_eq_true rfl)) dL_law_1714 ⟨Nat.le_of_ble_eq_true rfl, Nat.le_of_ble_eq_true rfl⟩) hP hD hS hA (fun r_1 x_1 H locs hq_1 hP hD hS => ?_)
  rw [hq_1.1]
  rw [hq_1.2.1, hq_1.2.2] at hP hD
  rw [List.append_assoc] at hP hD
  refine lv_istore (lv' := [(6, .int 1), (5, .int 0), (4, .ref qd), (3, .ref qo), (2, .ref am), (1, .ref x), (0, .ref b)]) hx hb dL_law_1717 hl (by decide) rfl (fun ls hl => ?_)
  refine lv_aload_n hx hb dL_law_1719 rfl (lv_at hl 4 rfl) ?_
  refine lv_aload_n hx hb dL_law_1720 rfl (lv_at hl 6 rfl) ?_
  refine lv_iload hx hb dL_law_1721 (lv_at hl 1 rfl) ?_
  refine lv_iconst (v := 1) hx hb dL_law_1723 (by decide) ?_
  refine lv_iadd hx hb dL_law_1724 ?_
  rw [show (0 + 1 : Int32) = 1 from by decide]
  refine va_sld hx hb hX hbl hbA hS (vp_in_iff.mpr (by decide)) dL_law_1725 ?_
  refine lv_aload_n hx hb dL_law_1726 rfl (lv_at hl 6 rfl) ?_
  refine lv_iload hx hb dL_law_1727 (lv_at hl 1 rfl) ?_
  refine lv_iconst (v := 2) hx hb dL_law_1729 (by decide) ?_
  refine lv_iadd hx hb dL_law_1730 ?_
  rw [show (0 + 2 : Int32) = 2 from by decide]
  refine va_sld hx hb hX hbl hbA hS (vp_in_iff.mpr (by decide)) dL_law_1731 ?_
  refine kj_i (pmM _ _ _ _) (va_runV (As := [.int (xs (1 : Int32).toNatClampNeg), .int (xs (2 : Int32).toNatClampNeg)]) (rest := []) ⟨hx, hb, hml, hown, htT⟩ (m_arm_0 l D cA _ am r mZ (xs (1 : Int32).toNatClampNeg) (xs (2 : Int32).toNatClampNeg) (fresh_in _)) (cwV 2 htT (kg_V m_ml_L_200 m_im_X6_arm m_sl_X6_arm m_in_X6 m_cd_X6_arm) rfl rfl rfl (by decide +kernel) ⟨Nat.le_of_ble_eq_true rfl, Nat.le_of_ble_eq_true rfl⟩) (kj_V (pmM _ _ _ _) hK hP hD hTB (kj_rm (pmM _ _ _ _) hK hP)) rfl rfl hl.1 rfl (lv_room (Nat.le_of_ble_eq_true rfl)) dL_law_1732 ⟨Nat.le_of_ble_eq_true rfl, Nat.le_of_ble_eq_true rfl⟩) hP hD hS hA (fun r_2 x_2 H locs hq_2 hP hD hS => ?_)
  rw [hq_2.1]
  rw [hq_2.2] at hP hD
  have hP := kj_P (pmM _ _ _ _).symm hP
  have hD := kj_D (pmM _ _ _ _).symm hD
  refine lv_istore (lv' := [(7, .int 0), (6, .int 1), (5, .int 0), (4, .ref qd), (3, .ref qo), (2, .ref am), (1, .ref x), (0, .ref b)]) hx hb dL_law_1735 hl (by decide) rfl (fun ls hl => ?_)
  refine lv_aload_n hx hb dL_law_1737 rfl (lv_at hl 5 rfl) ?_
  refine kj_i (pmM _ _ _ _) (va_runV (As := []) (rest := []) ⟨hx, hb, hml, hown, htT⟩ (m_thrown l D cA _ am r (mS (mS mZ 0 0) 0 1)) (cwV 0 htT (kg_V m_ml_L_130 m_im_X6_thrown m_sl_X6_thrown m_in_X6 m_cd_X6_thrown) rfl rfl rfl (by decide +kernel) ⟨Nat.le_of_ble_eq_true rfl, Nat.le_of_ble_eq_true rfl⟩) (kj_V (pmM _ _ _ _) hK hP hD hTB (kj_rm (pmM _ _ _ _) hK hP)) rfl rfl hl.1 rfl (lv_room (Nat.le_of_ble_eq_true rfl)) dL_law_1738 ⟨Nat.le_of_ble_eq_true rfl, Nat.le_of_ble_eq_true rfl⟩) hP hD hS hA (fun r_3 x_3 H locs hq_3 hP hD hS => ?_)
  rw [hq_3.1.trans (show (mS (mS mZ 0 0) 0 1).1 0 = 1 from rfl)]
  rw [hq_3.2] at hP hD
  have hP := kj_P (pmM _ _ _ _).symm hP
  have hD := kj_D (pmM _ _ _ _).symm hD
  refine lv_iload hx hb dL_law_1741 (lv_at hl 1 rfl) ?_
  refine lv_icmp_eq (tgt := 1748) hx hb dL_law_1743 (by decide) (fun _ => ?_) (fun c_4 => absurd c_4 (by decide))
  refine lv_iload hx hb dL_law_1748 (lv_at hl 1 rfl) ?_
  refine lv_if_ne (tgt := 1765) hx hb dL_law_1750 (by decide) (fun _ => ?_) (fun c_5 => absurd c_5 (by decide))
  refine lv_goto (tgt := 2693) hx hb dL_law_1765 (by decide) ?_
  exact law_end C0 hS (Nat.le_of_ble_eq_true rfl) (Nat.le_of_ble_eq_true rfl) (lv_sub hl [2, 7] rfl)

set_option maxRecDepth 100000 in
set_option maxHeartbeats 4000000 in
theorem law_told (l : Launch) (hst : l.stackTraces = false) {p : Program} {e : Env} {s : State} {m : MethodId} {below : List Frame} {meth : Method} {c : Code} {b : Nat} {xs : Nat → Int32} (C0 : lw_At p s m meth c b 6 xs) {D : va_G} {cA : Nat → ClassId} (hK : va_K D vwCl (ty6 cA) s) (hTB : TBok s) (hTX : TXok (fun q : Nat => s.heap.size ≤ q) s) {S : Pool} {x ar qo qd am : Nat} {r : Nat → Nat} {fo : Nat → Int64} {fd : Nat → UInt64} {H : Heap} {locs : List Loc} {ls : Array Slot} (ho : isO S x 5) (hq0 : gQ S x 0 = some ar) (har : isA S ar 22 8) (hn : ∀ j, j < 8 → gP S ar j = none) (hnum : ∀ k, gI S x k = 0) (hP : va_P D vwCl (LW cA S qo fo qd fd am r mZ) H) (hD : va_D (fun q : Nat => s.heap.size ≤ q) (LW cA S qo fo qd fd am r mZ)) (hS : va_S (fun q : Nat => s.heap.size ≤ q) s.heap H locs) (hl : lv_has ls 9 [(5, .int 0), (4, .ref qd), (3, .ref qo), (2, .ref am), (1, .ref x), (0, .ref b)])  : W p l e room_1 s m #[Value.ref b] below meth c H locs 100 2000 (lw_Z below #[Value.ref b] s) (F0 m 1781 ls []) := by
  obtain ⟨hx, hb, hr, hml, hown, hts, hX, hbl, hlocks, hgv⟩ := id C0
  have htT : ∀ w ∈ TT, w.before _ s = true := fun w h => hts w (tt_in h)
  have hA : ∀ q : Nat, s.heap.size ≤ q → (fun q : Nat => s.heap.size ≤ q) q := fun _ h => h
  have hbA : ¬ (fun q : Nat => s.heap.size ≤ q) b := Nat.not_le.mpr hbl
  refine lv_aload_n hx hb dL_law_1781 rfl (lv_at hl 4 rfl) ?_
  refine lv_aload_n hx hb dL_law_1782 rfl (lv_at hl 5 rfl) ?_
  refine lv_iload hx hb dL_law_1783 (lv_at hl 0 rfl) ?_
  refine lv_iconst (v := 1) hx hb dL_law_1785 (by decide) ?_
  refine lv_iadd hx hb dL_law_1786 ?_
  rw [show (0 + 1 : Int32) = 1 from by decide]
  refine va_sld hx hb hX hbl hbA hS (vp_in_iff.mpr (by decide)) dL_law_1787 ?_
  refine lv_aload_n hx hb dL_law_1788 rfl (lv_at hl 5 rfl) ?_
  refine lv_iload hx hb dL_law_1789 (lv_at hl 0 rfl) ?_
  refine lv_iconst (v := 2) hx hb dL_law_1791 (by decide) ?_
  refine lv_iadd hx hb dL_law_1792 ?_
  rw [show (0 + 2 : Int32) = 2 from by decide]
  refine va_sld hx hb hX hbl hbA hS (vp_in_iff.mpr (by decide)) dL_law_1793 ?_
  refine lv_aload_n hx hb dL_law_1794 rfl (lv_at hl 5 rfl) ?_
  refine lv_iload hx hb dL_law_1795 (lv_at hl 0 rfl) ?_
  refine lv_iconst (v := 3) hx hb dL_law_1797 (by decide) ?_
  refine lv_iadd hx hb dL_law_1798 ?_
  rw [show (0 + 3 : Int32) = 3 from by decide]
  refine va_sld hx hb hX hbl hbA hS (vp_in_iff.mpr (by decide)) dL_law_1799 ?_
  refine lv_aload_n hx hb dL_law_1800 rfl (lv_at hl 2 rfl) ?_
  refine kj_i (pmJ _ _ _ _) (vx_runSW (As := [.ref x, .int (xs (1 : Int32).toNatClampNeg), .int (xs (2 : Int32).toNatClampNeg), .int (xs (3 : Int32).toNatClampNeg), .ref qo]) (rest := []) ⟨hx, hb, hml, hown, htT⟩ (w_told_t l hst D cA _ S x qo fo ho ar hq0 har (xs (1 : Int32).toNatClampNeg) (xs (2 : Int32).toNatClampNeg) (xs (3 : Int32).toNatClampNeg) (fresh_sw hn _)) (vx_cwSW 5 htT (kg_SW m_ml_L_205 m_st_L_told m_in_L m_cd_L_told) rfl rfl rfl (by decide +kernel) ⟨Nat.le_of_ble_eq_true rfl, Nat.le_of_ble_eq_true rfl⟩) (kj_SX (pmJ _ _ _ _) hK hP hD hTB hTX hS hA) rfl rfl hl.1 rfl (lv_room (Nat.le_of_ble_eq_true rfl)) dL_law_1801 ⟨Nat.le_of_ble_eq_true rfl, Nat.le_of_ble_eq_true rfl⟩) hP hD hS hA (fun r_1 x_1 H locs hq_1 hP hD hS => ?_)
  rw [hq_1.1]
  rw [hq_1.2.1, hq_1.2.2] at hP hD
  rw [List.append_assoc] at hP hD
  refine lv_istore (lv' := [(6, .int 1), (5, .int 0), (4, .ref qd), (3, .ref qo), (2, .ref am), (1, .ref x), (0, .ref b)]) hx hb dL_law_1804 hl (by decide) rfl (fun ls hl => ?_)
  refine lv_aload_n hx hb dL_law_1806 rfl (lv_at hl 4 rfl) ?_
  refine lv_aload_n hx hb dL_law_1807 rfl (lv_at hl 6 rfl) ?_
  refine lv_iload hx hb dL_law_1808 (lv_at hl 1 rfl) ?_
  refine lv_iconst (v := 1) hx hb dL_law_1810 (by decide) ?_
  refine lv_iadd hx hb dL_law_1811 ?_
  rw [show (0 + 1 : Int32) = 1 from by decide]
  refine va_sld hx hb hX hbl hbA hS (vp_in_iff.mpr (by decide)) dL_law_1812 ?_
  refine lv_aload_n hx hb dL_law_1813 rfl (lv_at hl 6 rfl) ?_
  refine lv_iload hx hb dL_law_1814 (lv_at hl 1 rfl) ?_
  refine lv_iconst (v := 2) hx hb dL_law_1816 (by decide) ?_
  refine lv_iadd hx hb dL_law_1817 ?_
  rw [show (0 + 2 : Int32) = 2 from by decide]
  refine va_sld hx hb hX hbl hbA hS (vp_in_iff.mpr (by decide)) dL_law_1818 ?_
  refine lv_aload_n hx hb dL_law_1819 rfl (lv_at hl 6 rfl) ?_
  refine lv_iload hx hb dL_law_1820 (lv_at hl 1 rfl) ?_
  refine lv_iconst (v := 3) hx hb dL_law_1822 (by decide) ?_
  refine lv_iadd hx hb dL_law_1823 ?_
  rw [show (0 + 3 : Int32) = 3 from by decide]
  refine va_sld hx hb hX hbl hbA hS (vp_in_iff.mpr (by decide)) dL_law_1824 ?_
  refine kj_i (pmM _ _ _ _) (va_runV (As := [.int (xs (1 : Int32).toNatClampNeg), .int (xs (2 : Int32).toNatClampNeg), .int (xs (3 : Int32).toNatClampNeg)]) (rest := []) ⟨hx, hb, hml, hown, htT⟩ (m_told_0 l D cA _ am r mZ (xs (1 : Int32).toNatClampNeg) (xs (2 : Int32).toNatClampNeg) (xs (3 : Int32).toNatClampNeg) (fresh_in _)) (cwV 3 htT (kg_V m_ml_L_207 m_im_X6_told m_sl_X6_told m_in_X6 m_cd_X6_told) rfl rfl rfl (by decide +kernel) ⟨Nat.le_of_ble_eq_true rfl, Nat.le_of_ble_eq_true rfl⟩) (kj_V (pmM _ _ _ _) hK hP hD hTB (kj_rm (pmM _ _ _ _) hK hP)) rfl rfl hl.1 rfl (lv_room (Nat.le_of_ble_eq_true rfl)) dL_law_1825 ⟨Nat.le_of_ble_eq_true rfl, Nat.le_of_ble_eq_true rfl⟩) hP hD hS hA (fun r_2 x_2 H locs hq_2 hP hD hS => ?_)
  rw [hq_2.1]
  rw [hq_2.2] at hP hD
  have hP := kj_P (pmM _ _ _ _).symm hP
  have hD := kj_D (pmM _ _ _ _).symm hD
  refine lv_istore (lv' := [(7, .int 0), (6, .int 1), (5, .int 0), (4, .ref qd), (3, .ref qo), (2, .ref am), (1, .ref x), (0, .ref b)]) hx hb dL_law_1828 hl (by decide) rfl (fun ls hl => ?_)
  refine lv_aload_n hx hb dL_law_1830 rfl (lv_at hl 5 rfl) ?_
  refine kj_i (pmM _ _ _ _) (va_runV (As := []) (rest := []) ⟨hx, hb, hml, hown, htT⟩ (m_thrown l D cA _ am r (mS (mS mZ 0 0) 0 1)) (cwV 0 htT (kg_V m_ml_L_130 m_im_X6_thrown m_sl_X6_thrown m_in_X6 m_cd_X6_thrown) rfl rfl rfl (by decide +kernel) ⟨Nat.le_of_ble_eq_true rfl, Nat.le_of_ble_eq_true rfl⟩) (kj_V (pmM _ _ _ _) hK hP hD hTB (kj_rm (pmM _ _ _ _) hK hP)) rfl rfl hl.1 rfl (lv_room (Nat.le_of_ble_eq_true rfl)) dL_law_1831 ⟨Nat.le_of_ble_eq_true rfl, Nat.le_of_ble_eq_true rfl⟩) hP hD hS hA (fun r_3 x_3 H locs hq_3 hP hD hS => ?_)
  rw [hq_3.1.trans (show (mS (mS mZ 0 0) 0 1).1 0 = 1 from rfl)]
  rw [hq_3.2] at hP hD
  have hP := kj_P (pmM _ _ _ _).symm hP
  have hD := kj_D (pmM _ _ _ _).symm hD
  refine lv_iload hx hb dL_law_1834 (lv_at hl 1 rfl) ?_
  refine lv_icmp_eq (tgt := 1841) hx hb dL_law_1836 (by decide) (fun _ => ?_) (fun c_4 => absurd c_4 (by decide))
  refine lv_iload hx hb dL_law_1841 (lv_at hl 1 rfl) ?_
  refine lv_if_ne (tgt := 1858) hx hb dL_law_1843 (by decide) (fun _ => ?_) (fun c_5 => absurd c_5 (by decide))
  refine lv_goto (tgt := 2693) hx hb dL_law_1858 (by decide) ?_
  exact law_end C0 hS (Nat.le_of_ble_eq_true rfl) (Nat.le_of_ble_eq_true rfl) (lv_sub hl [2, 7] rfl)

set_option maxRecDepth 100000 in
set_option maxHeartbeats 4000000 in
theorem law_mean (l : Launch) (hst : l.stackTraces = false) {p : Program} {e : Env} {s : State} {m : MethodId} {below : List Frame} {meth : Method} {c : Code} {b : Nat} {xs : Nat → Int32} (C0 : lw_At p s m meth c b 6 xs) {D : va_G} {cA : Nat → ClassId} (hK : va_K D vwCl (ty6 cA) s) (hTB : TBok s) (hTX : TXok (fun q : Nat => s.heap.size ≤ q) s) {S : Pool} {x ar qo qd am : Nat} {r : Nat → Nat} {fo : Nat → Int64} {fd : Nat → UInt64} {H : Heap} {locs : List Loc} {ls : Array Slot} (ho : isO S x 5) (hq0 : gQ S x 0 = some ar) (har : isA S ar 22 8) (hn : ∀ j, j < 8 → gP S ar j = none) (hnum : ∀ k, gI S x k = 0) (hP : va_P D vwCl (LW cA S qo fo qd fd am r mZ) H) (hD : va_D (fun q : Nat => s.heap.size ≤ q) (LW cA S qo fo qd fd am r mZ)) (hS : va_S (fun q : Nat => s.heap.size ≤ q) s.heap H locs) (hl : lv_has ls 9 [(5, .int 0), (4, .ref qd), (3, .ref qo), (2, .ref am), (1, .ref x), (0, .ref b)])  : W p l e room_1 s m #[Value.ref b] below meth c H locs 100 2000 (lw_Z below #[Value.ref b] s) (F0 m 1861 ls []) := by
  obtain ⟨hx, hb, hr, hml, hown, hts, hX, hbl, hlocks, hgv⟩ := id C0
  have htT : ∀ w ∈ TT, w.before _ s = true := fun w h => hts w (tt_in h)
  have hA : ∀ q : Nat, s.heap.size ≤ q → (fun q : Nat => s.heap.size ≤ q) q := fun _ h => h
  have hbA : ¬ (fun q : Nat => s.heap.size ≤ q) b := Nat.not_le.mpr hbl
  refine lv_aload_n hx hb dL_law_1861 rfl (lv_at hl 4 rfl) ?_
  refine lv_aload_n hx hb dL_law_1862 rfl (lv_at hl 5 rfl) ?_
  refine lv_iload hx hb dL_law_1863 (lv_at hl 0 rfl) ?_
  refine lv_iconst (v := 1) hx hb dL_law_1865 (by decide) ?_
  refine lv_iadd hx hb dL_law_1866 ?_
  rw [show (0 + 1 : Int32) = 1 from by decide]
  refine va_sld hx hb hX hbl hbA hS (vp_in_iff.mpr (by decide)) dL_law_1867 ?_
  refine lv_aload_n hx hb dL_law_1868 rfl (lv_at hl 5 rfl) ?_
  refine lv_iload hx hb dL_law_1869 (lv_at hl 0 rfl) ?_
  refine lv_iconst (v := 2) hx hb dL_law_1871 (by decide) ?_
  refine lv_iadd hx hb dL_law_1872 ?_
  rw [show (0 + 2 : Int32) = 2 from by decide]
  refine va_sld hx hb hX hbl hbA hS (vp_in_iff.mpr (by decide)) dL_law_1873 ?_
  refine lv_aload hx hb dL_law_1874 (lv_at hl 1 rfl) ?_
  refine kj_i (pmD _ _ _ _) (vx_runSW (As := [.ref x, .int (xs (1 : Int32).toNatClampNeg), .int (xs (2 : Int32).toNatClampNeg), .ref qd]) (rest := []) ⟨hx, hb, hml, hown, htT⟩ (w_mean_t l hst D cA _ S x qd fd ho ar hq0 har (xs (1 : Int32).toNatClampNeg) (xs (2 : Int32).toNatClampNeg) (fresh_sw hn _)) (vx_cwSW 4 htT (kg_SW m_ml_L_208 m_st_L_mean m_in_L m_cd_L_mean) rfl rfl rfl (by decide +kernel) ⟨Nat.le_of_ble_eq_true rfl, Nat.le_of_ble_eq_true rfl⟩) (kj_SX (pmD _ _ _ _) hK hP hD hTB hTX hS hA) rfl rfl hl.1 rfl (lv_room (Nat.le_of_ble_eq_true rfl)) dL_law_1876 ⟨Nat.le_of_ble_eq_true rfl, Nat.le_of_ble_eq_true rfl⟩) hP hD hS hA (fun r_1 x_1 H locs hq_1 hP hD hS => ?_)
  rw [hq_1.1]
  rw [hq_1.2.1, hq_1.2.2] at hP hD
  have hP := kj_P (pmD _ _ _ _).symm hP
  have hD := kj_D (pmD _ _ _ _).symm hD
  refine lv_istore (lv' := [(6, .int 1), (5, .int 0), (4, .ref qd), (3, .ref qo), (2, .ref am), (1, .ref x), (0, .ref b)]) hx hb dL_law_1879 hl (by decide) rfl (fun ls hl => ?_)
  refine lv_aload_n hx hb dL_law_1881 rfl (lv_at hl 4 rfl) ?_
  refine lv_aload_n hx hb dL_law_1882 rfl (lv_at hl 6 rfl) ?_
  refine lv_iload hx hb dL_law_1883 (lv_at hl 1 rfl) ?_
  refine lv_iconst (v := 1) hx hb dL_law_1885 (by decide) ?_
  refine lv_iadd hx hb dL_law_1886 ?_
  rw [show (0 + 1 : Int32) = 1 from by decide]
  refine va_sld hx hb hX hbl hbA hS (vp_in_iff.mpr (by decide)) dL_law_1887 ?_
  refine lv_aload_n hx hb dL_law_1888 rfl (lv_at hl 6 rfl) ?_
  refine lv_iload hx hb dL_law_1889 (lv_at hl 1 rfl) ?_
  refine lv_iconst (v := 2) hx hb dL_law_1891 (by decide) ?_
  refine lv_iadd hx hb dL_law_1892 ?_
  rw [show (0 + 2 : Int32) = 2 from by decide]
  refine va_sld hx hb hX hbl hbA hS (vp_in_iff.mpr (by decide)) dL_law_1893 ?_
  refine kj_d (pmM _ _ _ _) (va_runV (As := [.int (xs (1 : Int32).toNatClampNeg), .int (xs (2 : Int32).toNatClampNeg)]) (rest := []) ⟨hx, hb, hml, hown, htT⟩ (m_mean_0 l D cA _ am r mZ (xs (1 : Int32).toNatClampNeg) (xs (2 : Int32).toNatClampNeg) (fresh_in _)) (cwV 2 htT (kg_V m_ml_L_211 m_im_X6_mean m_sl_X6_mean m_in_X6 m_cd_X6_mean) rfl rfl rfl (by decide +kernel) ⟨Nat.le_of_ble_eq_true rfl, Nat.le_of_ble_eq_true rfl⟩) (kj_V (pmM _ _ _ _) hK hP hD hTB (kj_rm (pmM _ _ _ _) hK hP)) rfl rfl hl.1 rfl (lv_room (Nat.le_of_ble_eq_true rfl)) dL_law_1894 ⟨Nat.le_of_ble_eq_true rfl, Nat.le_of_ble_eq_true rfl⟩) hP hD hS hA (fun r_2 x_2 H locs hq_2 hP hD hS => ?_)
  rw [hq_2.1]
  rw [hq_2.2] at hP hD
  have hP := kj_P (pmM _ _ _ _).symm hP
  have hD := kj_D (pmM _ _ _ _).symm hD
  refine lv_dstore (lv' := [(7, .double FP.dconst0), (6, .int 1), (5, .int 0), (4, .ref qd), (3, .ref qo), (2, .ref am), (1, .ref x), (0, .ref b)]) hx hb dL_law_1897 hl (by decide) rfl (fun ls hl => ?_)
  refine lv_aload_n hx hb dL_law_1899 rfl (lv_at hl 5 rfl) ?_
  refine kj_i (pmM _ _ _ _) (va_runV (As := []) (rest := []) ⟨hx, hb, hml, hown, htT⟩ (m_thrown l D cA _ am r (mS mZ 0 1)) (cwV 0 htT (kg_V m_ml_L_130 m_im_X6_thrown m_sl_X6_thrown m_in_X6 m_cd_X6_thrown) rfl rfl rfl (by decide +kernel) ⟨Nat.le_of_ble_eq_true rfl, Nat.le_of_ble_eq_true rfl⟩) (kj_V (pmM _ _ _ _) hK hP hD hTB (kj_rm (pmM _ _ _ _) hK hP)) rfl rfl hl.1 rfl (lv_room (Nat.le_of_ble_eq_true rfl)) dL_law_1900 ⟨Nat.le_of_ble_eq_true rfl, Nat.le_of_ble_eq_true rfl⟩) hP hD hS hA (fun r_3 x_3 H locs hq_3 hP hD hS => ?_)
  rw [hq_3.1.trans (show (mS mZ 0 1).1 0 = 1 from rfl)]
  rw [hq_3.2] at hP hD
  have hP := kj_P (pmM _ _ _ _).symm hP
  have hD := kj_D (pmM _ _ _ _).symm hD
  refine lv_iload hx hb dL_law_1903 (lv_at hl 1 rfl) ?_
  refine lv_icmp_eq (tgt := 1910) hx hb dL_law_1905 (by decide) (fun _ => ?_) (fun c_4 => absurd c_4 (by decide))
  refine lv_iload hx hb dL_law_1910 (lv_at hl 1 rfl) ?_
  refine lv_if_ne (tgt := 1947) hx hb dL_law_1912 (by decide) (fun _ => ?_) (fun c_5 => absurd c_5 (by decide))
  refine lv_goto (tgt := 2693) hx hb dL_law_1947 (by decide) ?_
  exact law_end C0 hS (Nat.le_of_ble_eq_true rfl) (Nat.le_of_ble_eq_true rfl) (lv_sub hl [2, 7] rfl)

set_option maxRecDepth 100000 in
set_option maxHeartbeats 4000000 in
theorem law_lift (l : Launch) (hst : l.stackTraces = false) {p : Program} {e : Env} {s : State} {m : MethodId} {below : List Frame} {meth : Method} {c : Code} {b : Nat} {xs : Nat → Int32} (C0 : lw_At p s m meth c b 6 xs) {D : va_G} {cA : Nat → ClassId} (hK : va_K D vwCl (ty6 cA) s) (hTB : TBok s) (hTX : TXok (fun q : Nat => s.heap.size ≤ q) s) {S : Pool} {x ar qo qd am : Nat} {r : Nat → Nat} {fo : Nat → Int64} {fd : Nat → UInt64} {H : Heap} {locs : List Loc} {ls : Array Slot} (ho : isO S x 5) (hq0 : gQ S x 0 = some ar) (har : isA S ar 22 8) (hn : ∀ j, j < 8 → gP S ar j = none) (hnum : ∀ k, gI S x k = 0) (hP : va_P D vwCl (LW cA S qo fo qd fd am r mZ) H) (hD : va_D (fun q : Nat => s.heap.size ≤ q) (LW cA S qo fo qd fd am r mZ)) (hS : va_S (fun q : Nat => s.heap.size ≤ q) s.heap H locs) (hl : lv_has ls 9 [(5, .int 0), (4, .ref qd), (3, .ref qo), (2, .ref am), (1, .ref x), (0, .ref b)])  : W p l e room_1 s m #[Value.ref b] below meth c H locs 100 2000 (lw_Z below #[Value.ref b] s) (F0 m 1950 ls []) := by
  obtain ⟨hx, hb, hr, hml, hown, hts, hX, hbl, hlocks, hgv⟩ := id C0
  have htT : ∀ w ∈ TT, w.before _ s = true := fun w h => hts w (tt_in h)
  have hA : ∀ q : Nat, s.heap.size ≤ q → (fun q : Nat => s.heap.size ≤ q) q := fun _ h => h
  have hbA : ¬ (fun q : Nat => s.heap.size ≤ q) b := Nat.not_le.mpr hbl
  refine lv_aload_n hx hb dL_law_1950 rfl (lv_at hl 4 rfl) ?_
  refine lv_aload_n hx hb dL_law_1951 rfl (lv_at hl 5 rfl) ?_
  refine lv_iload hx hb dL_law_1952 (lv_at hl 0 rfl) ?_
  refine lv_iconst (v := 1) hx hb dL_law_1954 (by decide) ?_
  refine lv_iadd hx hb dL_law_1955 ?_
  rw [show (0 + 1 : Int32) = 1 from by decide]
  refine va_sld hx hb hX hbl hbA hS (vp_in_iff.mpr (by decide)) dL_law_1956 ?_
  refine lv_aload_n hx hb dL_law_1957 rfl (lv_at hl 5 rfl) ?_
  refine lv_iload hx hb dL_law_1958 (lv_at hl 0 rfl) ?_
  refine lv_iconst (v := 2) hx hb dL_law_1960 (by decide) ?_
  refine lv_iadd hx hb dL_law_1961 ?_
  rw [show (0 + 2 : Int32) = 2 from by decide]
  refine va_sld hx hb hX hbl hbA hS (vp_in_iff.mpr (by decide)) dL_law_1962 ?_
  refine lv_aload hx hb dL_law_1963 (lv_at hl 1 rfl) ?_
  refine kj_i (pmD _ _ _ _) (vx_runSW (As := [.ref x, .int (xs (1 : Int32).toNatClampNeg), .int (xs (2 : Int32).toNatClampNeg), .ref qd]) (rest := []) ⟨hx, hb, hml, hown, htT⟩ (w_lift_t l hst D cA _ S x qd fd ho ar hq0 har (xs (1 : Int32).toNatClampNeg) (xs (2 : Int32).toNatClampNeg) (fresh_sw hn _)) (vx_cwSW 4 htT (kg_SW m_ml_L_212 m_st_L_lift m_in_L m_cd_L_lift) rfl rfl rfl (by decide +kernel) ⟨Nat.le_of_ble_eq_true rfl, Nat.le_of_ble_eq_true rfl⟩) (kj_SX (pmD _ _ _ _) hK hP hD hTB hTX hS hA) rfl rfl hl.1 rfl (lv_room (Nat.le_of_ble_eq_true rfl)) dL_law_1965 ⟨Nat.le_of_ble_eq_true rfl, Nat.le_of_ble_eq_true rfl⟩) hP hD hS hA (fun r_1 x_1 H locs hq_1 hP hD hS => ?_)
  rw [hq_1.1]
  rw [hq_1.2.1, hq_1.2.2] at hP hD
  have hP := kj_P (pmD _ _ _ _).symm hP
  have hD := kj_D (pmD _ _ _ _).symm hD
  refine lv_istore (lv' := [(6, .int 1), (5, .int 0), (4, .ref qd), (3, .ref qo), (2, .ref am), (1, .ref x), (0, .ref b)]) hx hb dL_law_1968 hl (by decide) rfl (fun ls hl => ?_)
  refine lv_aload_n hx hb dL_law_1970 rfl (lv_at hl 4 rfl) ?_
  refine lv_aload_n hx hb dL_law_1971 rfl (lv_at hl 6 rfl) ?_
  refine lv_iload hx hb dL_law_1972 (lv_at hl 1 rfl) ?_
  refine lv_iconst (v := 1) hx hb dL_law_1974 (by decide) ?_
  refine lv_iadd hx hb dL_law_1975 ?_
  rw [show (0 + 1 : Int32) = 1 from by decide]
  refine va_sld hx hb hX hbl hbA hS (vp_in_iff.mpr (by decide)) dL_law_1976 ?_
  refine lv_aload_n hx hb dL_law_1977 rfl (lv_at hl 6 rfl) ?_
  refine lv_iload hx hb dL_law_1978 (lv_at hl 1 rfl) ?_
  refine lv_iconst (v := 2) hx hb dL_law_1980 (by decide) ?_
  refine lv_iadd hx hb dL_law_1981 ?_
  rw [show (0 + 2 : Int32) = 2 from by decide]
  refine va_sld hx hb hX hbl hbA hS (vp_in_iff.mpr (by decide)) dL_law_1982 ?_
  refine kj_d (pmM _ _ _ _) (va_runV (As := [.int (xs (1 : Int32).toNatClampNeg), .int (xs (2 : Int32).toNatClampNeg)]) (rest := []) ⟨hx, hb, hml, hown, htT⟩ (m_lift_0 l D cA _ am r mZ (xs (1 : Int32).toNatClampNeg) (xs (2 : Int32).toNatClampNeg) (fresh_in _)) (cwV 2 htT (kg_V m_ml_L_214 m_im_X6_lift m_sl_X6_lift m_in_X6 m_cd_X6_lift) rfl rfl rfl (by decide +kernel) ⟨Nat.le_of_ble_eq_true rfl, Nat.le_of_ble_eq_true rfl⟩) (kj_V (pmM _ _ _ _) hK hP hD hTB (kj_rm (pmM _ _ _ _) hK hP)) rfl rfl hl.1 rfl (lv_room (Nat.le_of_ble_eq_true rfl)) dL_law_1983 ⟨Nat.le_of_ble_eq_true rfl, Nat.le_of_ble_eq_true rfl⟩) hP hD hS hA (fun r_2 x_2 H locs hq_2 hP hD hS => ?_)
  rw [hq_2.1]
  rw [hq_2.2] at hP hD
  have hP := kj_P (pmM _ _ _ _).symm hP
  have hD := kj_D (pmM _ _ _ _).symm hD
  refine lv_dstore (lv' := [(7, .double FP.dconst0), (6, .int 1), (5, .int 0), (4, .ref qd), (3, .ref qo), (2, .ref am), (1, .ref x), (0, .ref b)]) hx hb dL_law_1986 hl (by decide) rfl (fun ls hl => ?_)
  refine lv_aload_n hx hb dL_law_1988 rfl (lv_at hl 5 rfl) ?_
  refine kj_i (pmM _ _ _ _) (va_runV (As := []) (rest := []) ⟨hx, hb, hml, hown, htT⟩ (m_thrown l D cA _ am r (mS mZ 0 1)) (cwV 0 htT (kg_V m_ml_L_130 m_im_X6_thrown m_sl_X6_thrown m_in_X6 m_cd_X6_thrown) rfl rfl rfl (by decide +kernel) ⟨Nat.le_of_ble_eq_true rfl, Nat.le_of_ble_eq_true rfl⟩) (kj_V (pmM _ _ _ _) hK hP hD hTB (kj_rm (pmM _ _ _ _) hK hP)) rfl rfl hl.1 rfl (lv_room (Nat.le_of_ble_eq_true rfl)) dL_law_1989 ⟨Nat.le_of_ble_eq_true rfl, Nat.le_of_ble_eq_true rfl⟩) hP hD hS hA (fun r_3 x_3 H locs hq_3 hP hD hS => ?_)
  rw [hq_3.1.trans (show (mS mZ 0 1).1 0 = 1 from rfl)]
  rw [hq_3.2] at hP hD
  have hP := kj_P (pmM _ _ _ _).symm hP
  have hD := kj_D (pmM _ _ _ _).symm hD
  refine lv_iload hx hb dL_law_1992 (lv_at hl 1 rfl) ?_
  refine lv_icmp_eq (tgt := 1999) hx hb dL_law_1994 (by decide) (fun _ => ?_) (fun c_4 => absurd c_4 (by decide))
  refine lv_iload hx hb dL_law_1999 (lv_at hl 1 rfl) ?_
  refine lv_if_ne (tgt := 2036) hx hb dL_law_2001 (by decide) (fun _ => ?_) (fun c_5 => absurd c_5 (by decide))
  refine lv_goto (tgt := 2693) hx hb dL_law_2036 (by decide) ?_
  exact law_end C0 hS (Nat.le_of_ble_eq_true rfl) (Nat.le_of_ble_eq_true rfl) (lv_sub hl [2, 7] rfl)

set_option maxRecDepth 100000 in
set_option maxHeartbeats 4000000 in
theorem law_sure (l : Launch) (hst : l.stackTraces = false) {p : Program} {e : Env} {s : State} {m : MethodId} {below : List Frame} {meth : Method} {c : Code} {b : Nat} {xs : Nat → Int32} (C0 : lw_At p s m meth c b 6 xs) {D : va_G} {cA : Nat → ClassId} (hK : va_K D vwCl (ty6 cA) s) (hTB : TBok s) (hTX : TXok (fun q : Nat => s.heap.size ≤ q) s) {S : Pool} {x ar qo qd am : Nat} {r : Nat → Nat} {fo : Nat → Int64} {fd : Nat → UInt64} {H : Heap} {locs : List Loc} {ls : Array Slot} (ho : isO S x 5) (hq0 : gQ S x 0 = some ar) (har : isA S ar 22 8) (hn : ∀ j, j < 8 → gP S ar j = none) (hnum : ∀ k, gI S x k = 0) (hP : va_P D vwCl (LW cA S qo fo qd fd am r mZ) H) (hD : va_D (fun q : Nat => s.heap.size ≤ q) (LW cA S qo fo qd fd am r mZ)) (hS : va_S (fun q : Nat => s.heap.size ≤ q) s.heap H locs) (hl : lv_has ls 9 [(5, .int 0), (4, .ref qd), (3, .ref qo), (2, .ref am), (1, .ref x), (0, .ref b)])  : W p l e room_1 s m #[Value.ref b] below meth c H locs 100 2000 (lw_Z below #[Value.ref b] s) (F0 m 2039 ls []) := by
  obtain ⟨hx, hb, hr, hml, hown, hts, hX, hbl, hlocks, hgv⟩ := id C0
  have htT : ∀ w ∈ TT, w.before _ s = true := fun w h => hts w (tt_in h)
  have hA : ∀ q : Nat, s.heap.size ≤ q → (fun q : Nat => s.heap.size ≤ q) q := fun _ h => h
  have hbA : ¬ (fun q : Nat => s.heap.size ≤ q) b := Nat.not_le.mpr hbl
  refine lv_aload_n hx hb dL_law_2039 rfl (lv_at hl 4 rfl) ?_
  refine lv_aload_n hx hb dL_law_2040 rfl (lv_at hl 5 rfl) ?_
  refine lv_iload hx hb dL_law_2041 (lv_at hl 0 rfl) ?_
  refine lv_iconst (v := 1) hx hb dL_law_2043 (by decide) ?_
  refine lv_iadd hx hb dL_law_2044 ?_
  rw [show (0 + 1 : Int32) = 1 from by decide]
  refine va_sld hx hb hX hbl hbA hS (vp_in_iff.mpr (by decide)) dL_law_2045 ?_
  refine lv_aload_n hx hb dL_law_2046 rfl (lv_at hl 5 rfl) ?_
  refine lv_iload hx hb dL_law_2047 (lv_at hl 0 rfl) ?_
  refine lv_iconst (v := 2) hx hb dL_law_2049 (by decide) ?_
  refine lv_iadd hx hb dL_law_2050 ?_
  rw [show (0 + 2 : Int32) = 2 from by decide]
  refine va_sld hx hb hX hbl hbA hS (vp_in_iff.mpr (by decide)) dL_law_2051 ?_
  refine lv_aload hx hb dL_law_2052 (lv_at hl 1 rfl) ?_
  refine kj_i (pmD _ _ _ _) (vx_runSW (As := [.ref x, .int (xs (1 : Int32).toNatClampNeg), .int (xs (2 : Int32).toNatClampNeg), .ref qd]) (rest := []) ⟨hx, hb, hml, hown, htT⟩ (w_sure_t l hst D cA _ S x qd fd ho ar hq0 har (xs (1 : Int32).toNatClampNeg) (xs (2 : Int32).toNatClampNeg) (fresh_sw hn _)) (vx_cwSW 4 htT (kg_SW m_ml_L_215 m_st_L_sure m_in_L m_cd_L_sure) rfl rfl rfl (by decide +kernel) ⟨Nat.le_of_ble_eq_true rfl, Nat.le_of_ble_eq_true rfl⟩) (kj_SX (pmD _ _ _ _) hK hP hD hTB hTX hS hA) rfl rfl hl.1 rfl (lv_room (Nat.le_of_ble_eq_true rfl)) dL_law_2054 ⟨Nat.le_of_ble_eq_true rfl, Nat.le_of_ble_eq_true rfl⟩) hP hD hS hA (fun r_1 x_1 H locs hq_1 hP hD hS => ?_)
  rw [hq_1.1]
  rw [hq_1.2.1, hq_1.2.2] at hP hD
  have hP := kj_P (pmD _ _ _ _).symm hP
  have hD := kj_D (pmD _ _ _ _).symm hD
  refine lv_istore (lv' := [(6, .int 1), (5, .int 0), (4, .ref qd), (3, .ref qo), (2, .ref am), (1, .ref x), (0, .ref b)]) hx hb dL_law_2057 hl (by decide) rfl (fun ls hl => ?_)
  refine lv_aload_n hx hb dL_law_2059 rfl (lv_at hl 4 rfl) ?_
  refine lv_aload_n hx hb dL_law_2060 rfl (lv_at hl 6 rfl) ?_
  refine lv_iload hx hb dL_law_2061 (lv_at hl 1 rfl) ?_
  refine lv_iconst (v := 1) hx hb dL_law_2063 (by decide) ?_
  refine lv_iadd hx hb dL_law_2064 ?_
  rw [show (0 + 1 : Int32) = 1 from by decide]
  refine va_sld hx hb hX hbl hbA hS (vp_in_iff.mpr (by decide)) dL_law_2065 ?_
  refine lv_aload_n hx hb dL_law_2066 rfl (lv_at hl 6 rfl) ?_
  refine lv_iload hx hb dL_law_2067 (lv_at hl 1 rfl) ?_
  refine lv_iconst (v := 2) hx hb dL_law_2069 (by decide) ?_
  refine lv_iadd hx hb dL_law_2070 ?_
  rw [show (0 + 2 : Int32) = 2 from by decide]
  refine va_sld hx hb hX hbl hbA hS (vp_in_iff.mpr (by decide)) dL_law_2071 ?_
  refine kj_d (pmM _ _ _ _) (va_runV (As := [.int (xs (1 : Int32).toNatClampNeg), .int (xs (2 : Int32).toNatClampNeg)]) (rest := []) ⟨hx, hb, hml, hown, htT⟩ (m_sure_0 l D cA _ am r mZ (xs (1 : Int32).toNatClampNeg) (xs (2 : Int32).toNatClampNeg) (fresh_in _)) (cwV 2 htT (kg_V m_ml_L_217 m_im_X6_sure m_sl_X6_sure m_in_X6 m_cd_X6_sure) rfl rfl rfl (by decide +kernel) ⟨Nat.le_of_ble_eq_true rfl, Nat.le_of_ble_eq_true rfl⟩) (kj_V (pmM _ _ _ _) hK hP hD hTB (kj_rm (pmM _ _ _ _) hK hP)) rfl rfl hl.1 rfl (lv_room (Nat.le_of_ble_eq_true rfl)) dL_law_2072 ⟨Nat.le_of_ble_eq_true rfl, Nat.le_of_ble_eq_true rfl⟩) hP hD hS hA (fun r_2 x_2 H locs hq_2 hP hD hS => ?_)
  rw [hq_2.1]
  rw [hq_2.2] at hP hD
  have hP := kj_P (pmM _ _ _ _).symm hP
  have hD := kj_D (pmM _ _ _ _).symm hD
  refine lv_dstore (lv' := [(7, .double FP.dconst0), (6, .int 1), (5, .int 0), (4, .ref qd), (3, .ref qo), (2, .ref am), (1, .ref x), (0, .ref b)]) hx hb dL_law_2075 hl (by decide) rfl (fun ls hl => ?_)
  refine lv_aload_n hx hb dL_law_2077 rfl (lv_at hl 5 rfl) ?_
  refine kj_i (pmM _ _ _ _) (va_runV (As := []) (rest := []) ⟨hx, hb, hml, hown, htT⟩ (m_thrown l D cA _ am r (mS mZ 0 1)) (cwV 0 htT (kg_V m_ml_L_130 m_im_X6_thrown m_sl_X6_thrown m_in_X6 m_cd_X6_thrown) rfl rfl rfl (by decide +kernel) ⟨Nat.le_of_ble_eq_true rfl, Nat.le_of_ble_eq_true rfl⟩) (kj_V (pmM _ _ _ _) hK hP hD hTB (kj_rm (pmM _ _ _ _) hK hP)) rfl rfl hl.1 rfl (lv_room (Nat.le_of_ble_eq_true rfl)) dL_law_2078 ⟨Nat.le_of_ble_eq_true rfl, Nat.le_of_ble_eq_true rfl⟩) hP hD hS hA (fun r_3 x_3 H locs hq_3 hP hD hS => ?_)
  rw [hq_3.1.trans (show (mS mZ 0 1).1 0 = 1 from rfl)]
  rw [hq_3.2] at hP hD
  have hP := kj_P (pmM _ _ _ _).symm hP
  have hD := kj_D (pmM _ _ _ _).symm hD
  refine lv_iload hx hb dL_law_2081 (lv_at hl 1 rfl) ?_
  refine lv_icmp_eq (tgt := 2088) hx hb dL_law_2083 (by decide) (fun _ => ?_) (fun c_4 => absurd c_4 (by decide))
  refine lv_iload hx hb dL_law_2088 (lv_at hl 1 rfl) ?_
  refine lv_if_ne (tgt := 2125) hx hb dL_law_2090 (by decide) (fun _ => ?_) (fun c_5 => absurd c_5 (by decide))
  refine lv_goto (tgt := 2693) hx hb dL_law_2125 (by decide) ?_
  exact law_end C0 hS (Nat.le_of_ble_eq_true rfl) (Nat.le_of_ble_eq_true rfl) (lv_sub hl [2, 7] rfl)

set_option maxRecDepth 100000 in
set_option maxHeartbeats 4000000 in
theorem law_bad (l : Launch) (hst : l.stackTraces = false) {p : Program} {e : Env} {s : State} {m : MethodId} {below : List Frame} {meth : Method} {c : Code} {b : Nat} {xs : Nat → Int32} (C0 : lw_At p s m meth c b 6 xs) {D : va_G} {cA : Nat → ClassId} (hK : va_K D vwCl (ty6 cA) s) (hTB : TBok s) (hTX : TXok (fun q : Nat => s.heap.size ≤ q) s) {S : Pool} {x ar qo qd am : Nat} {r : Nat → Nat} {fo : Nat → Int64} {fd : Nat → UInt64} {H : Heap} {locs : List Loc} {ls : Array Slot} (ho : isO S x 5) (hq0 : gQ S x 0 = some ar) (har : isA S ar 22 8) (hn : ∀ j, j < 8 → gP S ar j = none) (hnum : ∀ k, gI S x k = 0) (hP : va_P D vwCl (LW cA S qo fo qd fd am r mZ) H) (hD : va_D (fun q : Nat => s.heap.size ≤ q) (LW cA S qo fo qd fd am r mZ)) (hS : va_S (fun q : Nat => s.heap.size ≤ q) s.heap H locs) (hl : lv_has ls 9 [(5, .int 0), (4, .ref qd), (3, .ref qo), (2, .ref am), (1, .ref x), (0, .ref b)])  : W p l e room_1 s m #[Value.ref b] below meth c H locs 100 2000 (lw_Z below #[Value.ref b] s) (F0 m 2128 ls []) := by
  obtain ⟨hx, hb, hr, hml, hown, hts, hX, hbl, hlocks, hgv⟩ := id C0
  have htT : ∀ w ∈ TT, w.before _ s = true := fun w h => hts w (tt_in h)
  have hA : ∀ q : Nat, s.heap.size ≤ q → (fun q : Nat => s.heap.size ≤ q) q := fun _ h => h
  have hbA : ¬ (fun q : Nat => s.heap.size ≤ q) b := Nat.not_le.mpr hbl
  refine lv_aload_n hx hb dL_law_2128 rfl (lv_at hl 4 rfl) ?_
  refine lv_aload_n hx hb dL_law_2129 rfl (lv_at hl 5 rfl) ?_
  refine lv_iload hx hb dL_law_2130 (lv_at hl 0 rfl) ?_
  refine lv_iconst (v := 1) hx hb dL_law_2132 (by decide) ?_
  refine lv_iadd hx hb dL_law_2133 ?_
  rw [show (0 + 1 : Int32) = 1 from by decide]
  refine va_sld hx hb hX hbl hbA hS (vp_in_iff.mpr (by decide)) dL_law_2134 ?_
  refine lv_aload_n hx hb dL_law_2135 rfl (lv_at hl 2 rfl) ?_
  refine kj_i (pmJ _ _ _ _) (vx_runSW (As := [.ref x, .int (xs (1 : Int32).toNatClampNeg), .ref qo]) (rest := []) ⟨hx, hb, hml, hown, htT⟩ (w_bad_t l hst D cA _ S x qo fo ho ar hq0 har (xs (1 : Int32).toNatClampNeg) (fresh_sw hn _)) (vx_cwSW 3 htT (kg_SW m_ml_L_218 m_st_L_bad m_in_L m_cd_L_bad) rfl rfl rfl (by decide +kernel) ⟨Nat.le_of_ble_eq_true rfl, Nat.le_of_ble_eq_true rfl⟩) (kj_SX (pmJ _ _ _ _) hK hP hD hTB hTX hS hA) rfl rfl hl.1 rfl (lv_room (Nat.le_of_ble_eq_true rfl)) dL_law_2136 ⟨Nat.le_of_ble_eq_true rfl, Nat.le_of_ble_eq_true rfl⟩) hP hD hS hA (fun r_1 x_1 H locs hq_1 hP hD hS => ?_)
  rw [hq_1.1]
  rw [hq_1.2.1, hq_1.2.2] at hP hD
  rw [List.append_assoc] at hP hD
  refine lv_istore (lv' := [(6, .int 1), (5, .int 0), (4, .ref qd), (3, .ref qo), (2, .ref am), (1, .ref x), (0, .ref b)]) hx hb dL_law_2139 hl (by decide) rfl (fun ls hl => ?_)
  refine lv_aload_n hx hb dL_law_2141 rfl (lv_at hl 4 rfl) ?_
  refine lv_aload_n hx hb dL_law_2142 rfl (lv_at hl 6 rfl) ?_
  refine lv_iload hx hb dL_law_2143 (lv_at hl 1 rfl) ?_
  refine lv_iconst (v := 1) hx hb dL_law_2145 (by decide) ?_
  refine lv_iadd hx hb dL_law_2146 ?_
  rw [show (0 + 1 : Int32) = 1 from by decide]
  refine va_sld hx hb hX hbl hbA hS (vp_in_iff.mpr (by decide)) dL_law_2147 ?_
  refine kj_i (pmM _ _ _ _) (va_runV (As := [.int (xs (1 : Int32).toNatClampNeg)]) (rest := []) ⟨hx, hb, hml, hown, htT⟩ (m_bad_0 l D cA _ am r mZ (xs (1 : Int32).toNatClampNeg) (fresh_in _)) (cwV 1 htT (kg_V m_ml_L_220 m_im_X6_bad m_sl_X6_bad m_in_X6 m_cd_X6_bad) rfl rfl rfl (by decide +kernel) ⟨Nat.le_of_ble_eq_true rfl, Nat.le_of_ble_eq_true rfl⟩) (kj_V (pmM _ _ _ _) hK hP hD hTB (kj_rm (pmM _ _ _ _) hK hP)) rfl rfl hl.1 rfl (lv_room (Nat.le_of_ble_eq_true rfl)) dL_law_2148 ⟨Nat.le_of_ble_eq_true rfl, Nat.le_of_ble_eq_true rfl⟩) hP hD hS hA (fun r_2 x_2 H locs hq_2 hP hD hS => ?_)
  rw [hq_2.1]
  rw [hq_2.2] at hP hD
  have hP := kj_P (pmM _ _ _ _).symm hP
  have hD := kj_D (pmM _ _ _ _).symm hD
  refine lv_istore (lv' := [(7, .int 0), (6, .int 1), (5, .int 0), (4, .ref qd), (3, .ref qo), (2, .ref am), (1, .ref x), (0, .ref b)]) hx hb dL_law_2151 hl (by decide) rfl (fun ls hl => ?_)
  refine lv_aload_n hx hb dL_law_2153 rfl (lv_at hl 5 rfl) ?_
  refine kj_i (pmM _ _ _ _) (va_runV (As := []) (rest := []) ⟨hx, hb, hml, hown, htT⟩ (m_thrown l D cA _ am r (mS (mS mZ 0 0) 0 1)) (cwV 0 htT (kg_V m_ml_L_130 m_im_X6_thrown m_sl_X6_thrown m_in_X6 m_cd_X6_thrown) rfl rfl rfl (by decide +kernel) ⟨Nat.le_of_ble_eq_true rfl, Nat.le_of_ble_eq_true rfl⟩) (kj_V (pmM _ _ _ _) hK hP hD hTB (kj_rm (pmM _ _ _ _) hK hP)) rfl rfl hl.1 rfl (lv_room (Nat.le_of_ble_eq_true rfl)) dL_law_2154 ⟨Nat.le_of_ble_eq_true rfl, Nat.le_of_ble_eq_true rfl⟩) hP hD hS hA (fun r_3 x_3 H locs hq_3 hP hD hS => ?_)
  rw [hq_3.1.trans (show (mS (mS mZ 0 0) 0 1).1 0 = 1 from rfl)]
  rw [hq_3.2] at hP hD
  have hP := kj_P (pmM _ _ _ _).symm hP
  have hD := kj_D (pmM _ _ _ _).symm hD
  refine lv_iload hx hb dL_law_2157 (lv_at hl 1 rfl) ?_
  refine lv_icmp_eq (tgt := 2164) hx hb dL_law_2159 (by decide) (fun _ => ?_) (fun c_4 => absurd c_4 (by decide))
  refine lv_iload hx hb dL_law_2164 (lv_at hl 1 rfl) ?_
  refine lv_if_ne (tgt := 2181) hx hb dL_law_2166 (by decide) (fun _ => ?_) (fun c_5 => absurd c_5 (by decide))
  refine lv_goto (tgt := 2693) hx hb dL_law_2181 (by decide) ?_
  exact law_end C0 hS (Nat.le_of_ble_eq_true rfl) (Nat.le_of_ble_eq_true rfl) (lv_sub hl [2, 7] rfl)

set_option maxRecDepth 100000 in
set_option maxHeartbeats 4000000 in
theorem law_isTrusted (l : Launch) (hst : l.stackTraces = false) {p : Program} {e : Env} {s : State} {m : MethodId} {below : List Frame} {meth : Method} {c : Code} {b : Nat} {xs : Nat → Int32} (C0 : lw_At p s m meth c b 6 xs) {D : va_G} {cA : Nat → ClassId} (hK : va_K D vwCl (ty6 cA) s) (hTB : TBok s) (hTX : TXok (fun q : Nat => s.heap.size ≤ q) s) {S : Pool} {x ar qo qd am : Nat} {r : Nat → Nat} {fo : Nat → Int64} {fd : Nat → UInt64} {H : Heap} {locs : List Loc} {ls : Array Slot} (ho : isO S x 5) (hq0 : gQ S x 0 = some ar) (har : isA S ar 22 8) (hn : ∀ j, j < 8 → gP S ar j = none) (hnum : ∀ k, gI S x k = 0) (hP : va_P D vwCl (LW cA S qo fo qd fd am r mZ) H) (hD : va_D (fun q : Nat => s.heap.size ≤ q) (LW cA S qo fo qd fd am r mZ)) (hS : va_S (fun q : Nat => s.heap.size ≤ q) s.heap H locs) (hl : lv_has ls 9 [(5, .int 0), (4, .ref qd), (3, .ref qo), (2, .ref am), (1, .ref x), (0, .ref b)])  : W p l e room_1 s m #[Value.ref b] below meth c H locs 100 2000 (lw_Z below #[Value.ref b] s) (F0 m 2184 ls []) := by
  obtain ⟨hx, hb, hr, hml, hown, hts, hX, hbl, hlocks, hgv⟩ := id C0
  have htT : ∀ w ∈ TT, w.before _ s = true := fun w h => hts w (tt_in h)
  have hA : ∀ q : Nat, s.heap.size ≤ q → (fun q : Nat => s.heap.size ≤ q) q := fun _ h => h
  have hbA : ¬ (fun q : Nat => s.heap.size ≤ q) b := Nat.not_le.mpr hbl
  refine lv_aload_n hx hb dL_law_2184 rfl (lv_at hl 4 rfl) ?_
  refine lv_aload_n hx hb dL_law_2185 rfl (lv_at hl 5 rfl) ?_
  refine lv_iload hx hb dL_law_2186 (lv_at hl 0 rfl) ?_
  refine lv_iconst (v := 1) hx hb dL_law_2188 (by decide) ?_
  refine lv_iadd hx hb dL_law_2189 ?_
  rw [show (0 + 1 : Int32) = 1 from by decide]
  refine va_sld hx hb hX hbl hbA hS (vp_in_iff.mpr (by decide)) dL_law_2190 ?_
  refine lv_aload_n hx hb dL_law_2191 rfl (lv_at hl 2 rfl) ?_
  refine kj_i (pmJ _ _ _ _) (vx_runSW (As := [.ref x, .int (xs (1 : Int32).toNatClampNeg), .ref qo]) (rest := []) ⟨hx, hb, hml, hown, htT⟩ (w_isTrusted_t l hst D cA _ S x qo fo ho ar hq0 har (xs (1 : Int32).toNatClampNeg) (fresh_sw hn _)) (vx_cwSW 3 htT (kg_SW m_ml_L_221 m_st_L_isTrusted m_in_L m_cd_L_isTrusted) rfl rfl rfl (by decide +kernel) ⟨Nat.le_of_ble_eq_true rfl, Nat.le_of_ble_eq_true rfl⟩) (kj_SX (pmJ _ _ _ _) hK hP hD hTB hTX hS hA) rfl rfl hl.1 rfl (lv_room (Nat.le_of_ble_eq_true rfl)) dL_law_2192 ⟨Nat.le_of_ble_eq_true rfl, Nat.le_of_ble_eq_true rfl⟩) hP hD hS hA (fun r_1 x_1 H locs hq_1 hP hD hS => ?_)
  rw [hq_1.1]
  rw [hq_1.2.1, hq_1.2.2] at hP hD
  rw [List.append_assoc] at hP hD
  refine lv_istore (lv' := [(6, .int 1), (5, .int 0), (4, .ref qd), (3, .ref qo), (2, .ref am), (1, .ref x), (0, .ref b)]) hx hb dL_law_2195 hl (by decide) rfl (fun ls hl => ?_)
  refine lv_aload_n hx hb dL_law_2197 rfl (lv_at hl 4 rfl) ?_
  refine lv_aload_n hx hb dL_law_2198 rfl (lv_at hl 6 rfl) ?_
  refine lv_iload hx hb dL_law_2199 (lv_at hl 1 rfl) ?_
  refine lv_iconst (v := 1) hx hb dL_law_2201 (by decide) ?_
  refine lv_iadd hx hb dL_law_2202 ?_
  rw [show (0 + 1 : Int32) = 1 from by decide]
  refine va_sld hx hb hX hbl hbA hS (vp_in_iff.mpr (by decide)) dL_law_2203 ?_
  refine kj_i (pmM _ _ _ _) (va_runV (As := [.int (xs (1 : Int32).toNatClampNeg)]) (rest := []) ⟨hx, hb, hml, hown, htT⟩ (m_isTrusted_0 l D cA _ am r mZ (xs (1 : Int32).toNatClampNeg) (fresh_in _)) (cwV 1 htT (kg_V m_ml_L_223 m_im_X6_isTrusted m_sl_X6_isTrusted m_in_X6 m_cd_X6_isTrusted) rfl rfl rfl (by decide +kernel) ⟨Nat.le_of_ble_eq_true rfl, Nat.le_of_ble_eq_true rfl⟩) (kj_V (pmM _ _ _ _) hK hP hD hTB (kj_rm (pmM _ _ _ _) hK hP)) rfl rfl hl.1 rfl (lv_room (Nat.le_of_ble_eq_true rfl)) dL_law_2204 ⟨Nat.le_of_ble_eq_true rfl, Nat.le_of_ble_eq_true rfl⟩) hP hD hS hA (fun r_2 x_2 H locs hq_2 hP hD hS => ?_)
  rw [hq_2.1]
  rw [hq_2.2] at hP hD
  have hP := kj_P (pmM _ _ _ _).symm hP
  have hD := kj_D (pmM _ _ _ _).symm hD
  refine lv_istore (lv' := [(7, .int 0), (6, .int 1), (5, .int 0), (4, .ref qd), (3, .ref qo), (2, .ref am), (1, .ref x), (0, .ref b)]) hx hb dL_law_2207 hl (by decide) rfl (fun ls hl => ?_)
  refine lv_aload_n hx hb dL_law_2209 rfl (lv_at hl 5 rfl) ?_
  refine kj_i (pmM _ _ _ _) (va_runV (As := []) (rest := []) ⟨hx, hb, hml, hown, htT⟩ (m_thrown l D cA _ am r (mS (mS mZ 0 0) 0 1)) (cwV 0 htT (kg_V m_ml_L_130 m_im_X6_thrown m_sl_X6_thrown m_in_X6 m_cd_X6_thrown) rfl rfl rfl (by decide +kernel) ⟨Nat.le_of_ble_eq_true rfl, Nat.le_of_ble_eq_true rfl⟩) (kj_V (pmM _ _ _ _) hK hP hD hTB (kj_rm (pmM _ _ _ _) hK hP)) rfl rfl hl.1 rfl (lv_room (Nat.le_of_ble_eq_true rfl)) dL_law_2210 ⟨Nat.le_of_ble_eq_true rfl, Nat.le_of_ble_eq_true rfl⟩) hP hD hS hA (fun r_3 x_3 H locs hq_3 hP hD hS => ?_)
  rw [hq_3.1.trans (show (mS (mS mZ 0 0) 0 1).1 0 = 1 from rfl)]
  rw [hq_3.2] at hP hD
  have hP := kj_P (pmM _ _ _ _).symm hP
  have hD := kj_D (pmM _ _ _ _).symm hD
  refine lv_iload hx hb dL_law_2213 (lv_at hl 1 rfl) ?_
  refine lv_icmp_eq (tgt := 2220) hx hb dL_law_2215 (by decide) (fun _ => ?_) (fun c_4 => absurd c_4 (by decide))
  refine lv_iload hx hb dL_law_2220 (lv_at hl 1 rfl) ?_
  refine lv_if_ne (tgt := 2244) hx hb dL_law_2222 (by decide) (fun _ => ?_) (fun c_5 => absurd c_5 (by decide))
  refine lv_goto (tgt := 2693) hx hb dL_law_2244 (by decide) ?_
  exact law_end C0 hS (Nat.le_of_ble_eq_true rfl) (Nat.le_of_ble_eq_true rfl) (lv_sub hl [2, 7] rfl)

set_option maxRecDepth 100000 in
set_option maxHeartbeats 4000000 in
theorem law_best (l : Launch) (hst : l.stackTraces = false) {p : Program} {e : Env} {s : State} {m : MethodId} {below : List Frame} {meth : Method} {c : Code} {b : Nat} {xs : Nat → Int32} (C0 : lw_At p s m meth c b 6 xs) {D : va_G} {cA : Nat → ClassId} (hK : va_K D vwCl (ty6 cA) s) (hTB : TBok s) (hTX : TXok (fun q : Nat => s.heap.size ≤ q) s) {S : Pool} {x ar qo qd am : Nat} {r : Nat → Nat} {fo : Nat → Int64} {fd : Nat → UInt64} {H : Heap} {locs : List Loc} {ls : Array Slot} (ho : isO S x 5) (hq0 : gQ S x 0 = some ar) (har : isA S ar 22 8) (hn : ∀ j, j < 8 → gP S ar j = none) (hnum : ∀ k, gI S x k = 0) (hP : va_P D vwCl (LW cA S qo fo qd fd am r mZ) H) (hD : va_D (fun q : Nat => s.heap.size ≤ q) (LW cA S qo fo qd fd am r mZ)) (hS : va_S (fun q : Nat => s.heap.size ≤ q) s.heap H locs) (hl : lv_has ls 9 [(5, .int 0), (4, .ref qd), (3, .ref qo), (2, .ref am), (1, .ref x), (0, .ref b)])  : W p l e room_1 s m #[Value.ref b] below meth c H locs 100 2000 (lw_Z below #[Value.ref b] s) (F0 m 2247 ls []) := by
  obtain ⟨hx, hb, hr, hml, hown, hts, hX, hbl, hlocks, hgv⟩ := id C0
  have htT : ∀ w ∈ TT, w.before _ s = true := fun w h => hts w (tt_in h)
  have hA : ∀ q : Nat, s.heap.size ≤ q → (fun q : Nat => s.heap.size ≤ q) q := fun _ h => h
  have hbA : ¬ (fun q : Nat => s.heap.size ≤ q) b := Nat.not_le.mpr hbl
  refine lv_aload_n hx hb dL_law_2247 rfl (lv_at hl 4 rfl) ?_
  refine lv_aload_n hx hb dL_law_2248 rfl (lv_at hl 5 rfl) ?_
  refine lv_iload hx hb dL_law_2249 (lv_at hl 0 rfl) ?_
  refine lv_iconst (v := 1) hx hb dL_law_2251 (by decide) ?_
  refine lv_iadd hx hb dL_law_2252 ?_
  rw [show (0 + 1 : Int32) = 1 from by decide]
  refine va_sld hx hb hX hbl hbA hS (vp_in_iff.mpr (by decide)) dL_law_2253 ?_
  refine lv_aload_n hx hb dL_law_2254 rfl (lv_at hl 2 rfl) ?_
  refine kj_i (pmJ _ _ _ _) (vx_runSW (As := [.ref x, .int (xs (1 : Int32).toNatClampNeg), .ref qo]) (rest := []) ⟨hx, hb, hml, hown, htT⟩ (w_best_t l hst D cA _ S x qo fo ho ar hq0 har (xs (1 : Int32).toNatClampNeg) (fresh_sw hn _)) (vx_cwSW 3 htT (kg_SW m_ml_L_224 m_st_L_best m_in_L m_cd_L_best) rfl rfl rfl (by decide +kernel) ⟨Nat.le_of_ble_eq_true rfl, Nat.le_of_ble_eq_true rfl⟩) (kj_SX (pmJ _ _ _ _) hK hP hD hTB hTX hS hA) rfl rfl hl.1 rfl (lv_room (Nat.le_of_ble_eq_true rfl)) dL_law_2255 ⟨Nat.le_of_ble_eq_true rfl, Nat.le_of_ble_eq_true rfl⟩) hP hD hS hA (fun r_1 x_1 H locs hq_1 hP hD hS => ?_)
  rw [hq_1.1]
  rw [hq_1.2.1, hq_1.2.2] at hP hD
  rw [List.append_assoc] at hP hD
  refine lv_istore (lv' := [(6, .int 1), (5, .int 0), (4, .ref qd), (3, .ref qo), (2, .ref am), (1, .ref x), (0, .ref b)]) hx hb dL_law_2258 hl (by decide) rfl (fun ls hl => ?_)
  refine lv_aload_n hx hb dL_law_2260 rfl (lv_at hl 4 rfl) ?_
  refine lv_aload_n hx hb dL_law_2261 rfl (lv_at hl 6 rfl) ?_
  refine lv_iload hx hb dL_law_2262 (lv_at hl 1 rfl) ?_
  refine lv_iconst (v := 1) hx hb dL_law_2264 (by decide) ?_
  refine lv_iadd hx hb dL_law_2265 ?_
  rw [show (0 + 1 : Int32) = 1 from by decide]
  refine va_sld hx hb hX hbl hbA hS (vp_in_iff.mpr (by decide)) dL_law_2266 ?_
  refine kj_i (pmM _ _ _ _) (va_runV (As := [.int (xs (1 : Int32).toNatClampNeg)]) (rest := []) ⟨hx, hb, hml, hown, htT⟩ (m_best_0 l D cA _ am r mZ (xs (1 : Int32).toNatClampNeg) (fresh_in _)) (cwV 1 htT (kg_V m_ml_L_226 m_im_X6_best m_sl_X6_best m_in_X6 m_cd_X6_best) rfl rfl rfl (by decide +kernel) ⟨Nat.le_of_ble_eq_true rfl, Nat.le_of_ble_eq_true rfl⟩) (kj_V (pmM _ _ _ _) hK hP hD hTB (kj_rm (pmM _ _ _ _) hK hP)) rfl rfl hl.1 rfl (lv_room (Nat.le_of_ble_eq_true rfl)) dL_law_2267 ⟨Nat.le_of_ble_eq_true rfl, Nat.le_of_ble_eq_true rfl⟩) hP hD hS hA (fun r_2 x_2 H locs hq_2 hP hD hS => ?_)
  rw [hq_2.1]
  rw [hq_2.2] at hP hD
  have hP := kj_P (pmM _ _ _ _).symm hP
  have hD := kj_D (pmM _ _ _ _).symm hD
  refine lv_istore (lv' := [(7, .int 0), (6, .int 1), (5, .int 0), (4, .ref qd), (3, .ref qo), (2, .ref am), (1, .ref x), (0, .ref b)]) hx hb dL_law_2270 hl (by decide) rfl (fun ls hl => ?_)
  refine lv_aload_n hx hb dL_law_2272 rfl (lv_at hl 5 rfl) ?_
  refine kj_i (pmM _ _ _ _) (va_runV (As := []) (rest := []) ⟨hx, hb, hml, hown, htT⟩ (m_thrown l D cA _ am r (mS (mS mZ 0 0) 0 1)) (cwV 0 htT (kg_V m_ml_L_130 m_im_X6_thrown m_sl_X6_thrown m_in_X6 m_cd_X6_thrown) rfl rfl rfl (by decide +kernel) ⟨Nat.le_of_ble_eq_true rfl, Nat.le_of_ble_eq_true rfl⟩) (kj_V (pmM _ _ _ _) hK hP hD hTB (kj_rm (pmM _ _ _ _) hK hP)) rfl rfl hl.1 rfl (lv_room (Nat.le_of_ble_eq_true rfl)) dL_law_2273 ⟨Nat.le_of_ble_eq_true rfl, Nat.le_of_ble_eq_true rfl⟩) hP hD hS hA (fun r_3 x_3 H locs hq_3 hP hD hS => ?_)
  rw [hq_3.1.trans (show (mS (mS mZ 0 0) 0 1).1 0 = 1 from rfl)]
  rw [hq_3.2] at hP hD
  have hP := kj_P (pmM _ _ _ _).symm hP
  have hD := kj_D (pmM _ _ _ _).symm hD
  refine lv_iload hx hb dL_law_2276 (lv_at hl 1 rfl) ?_
  refine lv_icmp_eq (tgt := 2283) hx hb dL_law_2278 (by decide) (fun _ => ?_) (fun c_4 => absurd c_4 (by decide))
  refine lv_iload hx hb dL_law_2283 (lv_at hl 1 rfl) ?_
  refine lv_if_ne (tgt := 2300) hx hb dL_law_2285 (by decide) (fun _ => ?_) (fun c_5 => absurd c_5 (by decide))
  refine lv_goto (tgt := 2693) hx hb dL_law_2300 (by decide) ?_
  exact law_end C0 hS (Nat.le_of_ble_eq_true rfl) (Nat.le_of_ble_eq_true rfl) (lv_sub hl [2, 7] rfl)

set_option maxRecDepth 100000 in
set_option maxHeartbeats 4000000 in
theorem law_reach (l : Launch) (hst : l.stackTraces = false) {p : Program} {e : Env} {s : State} {m : MethodId} {below : List Frame} {meth : Method} {c : Code} {b : Nat} {xs : Nat → Int32} (C0 : lw_At p s m meth c b 6 xs) {D : va_G} {cA : Nat → ClassId} (hK : va_K D vwCl (ty6 cA) s) (hTB : TBok s) (hTX : TXok (fun q : Nat => s.heap.size ≤ q) s) {S : Pool} {x ar qo qd am : Nat} {r : Nat → Nat} {fo : Nat → Int64} {fd : Nat → UInt64} {H : Heap} {locs : List Loc} {ls : Array Slot} (ho : isO S x 5) (hq0 : gQ S x 0 = some ar) (har : isA S ar 22 8) (hn : ∀ j, j < 8 → gP S ar j = none) (hnum : ∀ k, gI S x k = 0) (hP : va_P D vwCl (LW cA S qo fo qd fd am r mZ) H) (hD : va_D (fun q : Nat => s.heap.size ≤ q) (LW cA S qo fo qd fd am r mZ)) (hS : va_S (fun q : Nat => s.heap.size ≤ q) s.heap H locs) (hl : lv_has ls 9 [(5, .int 0), (4, .ref qd), (3, .ref qo), (2, .ref am), (1, .ref x), (0, .ref b)])  : W p l e room_1 s m #[Value.ref b] below meth c H locs 100 2000 (lw_Z below #[Value.ref b] s) (F0 m 2303 ls []) := by
  obtain ⟨hx, hb, hr, hml, hown, hts, hX, hbl, hlocks, hgv⟩ := id C0
  have htT : ∀ w ∈ TT, w.before _ s = true := fun w h => hts w (tt_in h)
  have hA : ∀ q : Nat, s.heap.size ≤ q → (fun q : Nat => s.heap.size ≤ q) q := fun _ h => h
  have hbA : ¬ (fun q : Nat => s.heap.size ≤ q) b := Nat.not_le.mpr hbl
  refine lv_aload_n hx hb dL_law_2303 rfl (lv_at hl 4 rfl) ?_
  refine lv_aload_n hx hb dL_law_2304 rfl (lv_at hl 5 rfl) ?_
  refine lv_iload hx hb dL_law_2305 (lv_at hl 0 rfl) ?_
  refine lv_iconst (v := 1) hx hb dL_law_2307 (by decide) ?_
  refine lv_iadd hx hb dL_law_2308 ?_
  rw [show (0 + 1 : Int32) = 1 from by decide]
  refine va_sld hx hb hX hbl hbA hS (vp_in_iff.mpr (by decide)) dL_law_2309 ?_
  refine lv_aload_n hx hb dL_law_2310 rfl (lv_at hl 5 rfl) ?_
  refine lv_iload hx hb dL_law_2311 (lv_at hl 0 rfl) ?_
  refine lv_iconst (v := 2) hx hb dL_law_2313 (by decide) ?_
  refine lv_iadd hx hb dL_law_2314 ?_
  rw [show (0 + 2 : Int32) = 2 from by decide]
  refine va_sld hx hb hX hbl hbA hS (vp_in_iff.mpr (by decide)) dL_law_2315 ?_
  refine lv_aload_n hx hb dL_law_2316 rfl (lv_at hl 5 rfl) ?_
  refine lv_iload hx hb dL_law_2317 (lv_at hl 0 rfl) ?_
  refine lv_iconst (v := 3) hx hb dL_law_2319 (by decide) ?_
  refine lv_iadd hx hb dL_law_2320 ?_
  rw [show (0 + 3 : Int32) = 3 from by decide]
  refine va_sld hx hb hX hbl hbA hS (vp_in_iff.mpr (by decide)) dL_law_2321 ?_
  refine lv_aload_n hx hb dL_law_2322 rfl (lv_at hl 2 rfl) ?_
  refine kj_i (pmJ _ _ _ _) (vx_runSW (As := [.ref x, .int (xs (1 : Int32).toNatClampNeg), .int (xs (2 : Int32).toNatClampNeg), .int (xs (3 : Int32).toNatClampNeg), .ref qo]) (rest := []) ⟨hx, hb, hml, hown, htT⟩ (w_reach_t l hst D cA _ S x qo fo ho ar hq0 har (xs (1 : Int32).toNatClampNeg) (xs (2 : Int32).toNatClampNeg) (xs (3 : Int32).toNatClampNeg) (fresh_sw hn _)) (vx_cwSW 5 htT (kg_SW m_ml_L_227 m_st_L_reach m_in_L m_cd_L_reach) rfl rfl rfl (by decide +kernel) ⟨Nat.le_of_ble_eq_true rfl, Nat.le_of_ble_eq_true rfl⟩) (kj_SX (pmJ _ _ _ _) hK hP hD hTB hTX hS hA) rfl rfl hl.1 rfl (lv_room (Nat.le_of_ble_eq_true rfl)) dL_law_2323 ⟨Nat.le_of_ble_eq_true rfl, Nat.le_of_ble_eq_true rfl⟩) hP hD hS hA (fun r_1 x_1 H locs hq_1 hP hD hS => ?_)
  rw [hq_1.1]
  rw [hq_1.2.1, hq_1.2.2] at hP hD
  rw [List.append_assoc] at hP hD
  refine lv_istore (lv' := [(6, .int 1), (5, .int 0), (4, .ref qd), (3, .ref qo), (2, .ref am), (1, .ref x), (0, .ref b)]) hx hb dL_law_2326 hl (by decide) rfl (fun ls hl => ?_)
  refine lv_aload_n hx hb dL_law_2328 rfl (lv_at hl 4 rfl) ?_
  refine lv_aload_n hx hb dL_law_2329 rfl (lv_at hl 6 rfl) ?_
  refine lv_iload hx hb dL_law_2330 (lv_at hl 1 rfl) ?_
  refine lv_iconst (v := 1) hx hb dL_law_2332 (by decide) ?_
  refine lv_iadd hx hb dL_law_2333 ?_
  rw [show (0 + 1 : Int32) = 1 from by decide]
  refine va_sld hx hb hX hbl hbA hS (vp_in_iff.mpr (by decide)) dL_law_2334 ?_
  refine lv_aload_n hx hb dL_law_2335 rfl (lv_at hl 6 rfl) ?_
  refine lv_iload hx hb dL_law_2336 (lv_at hl 1 rfl) ?_
  refine lv_iconst (v := 2) hx hb dL_law_2338 (by decide) ?_
  refine lv_iadd hx hb dL_law_2339 ?_
  rw [show (0 + 2 : Int32) = 2 from by decide]
  refine va_sld hx hb hX hbl hbA hS (vp_in_iff.mpr (by decide)) dL_law_2340 ?_
  refine lv_aload_n hx hb dL_law_2341 rfl (lv_at hl 6 rfl) ?_
  refine lv_iload hx hb dL_law_2342 (lv_at hl 1 rfl) ?_
  refine lv_iconst (v := 3) hx hb dL_law_2344 (by decide) ?_
  refine lv_iadd hx hb dL_law_2345 ?_
  rw [show (0 + 3 : Int32) = 3 from by decide]
  refine va_sld hx hb hX hbl hbA hS (vp_in_iff.mpr (by decide)) dL_law_2346 ?_
  refine kj_i (pmM _ _ _ _) (va_runV (As := [.int (xs (1 : Int32).toNatClampNeg), .int (xs (2 : Int32).toNatClampNeg), .int (xs (3 : Int32).toNatClampNeg)]) (rest := []) ⟨hx, hb, hml, hown, htT⟩ (m_reach_0 l D cA _ am r mZ (xs (1 : Int32).toNatClampNeg) (xs (2 : Int32).toNatClampNeg) (xs (3 : Int32).toNatClampNeg) (fresh_in _)) (cwV 3 htT (kg_V m_ml_L_229 m_im_X6_reach m_sl_X6_reach m_in_X6 m_cd_X6_reach) rfl rfl rfl (by decide +kernel) ⟨Nat.le_of_ble_eq_true rfl, Nat.le_of_ble_eq_true rfl⟩) (kj_V (pmM _ _ _ _) hK hP hD hTB (kj_rm (pmM _ _ _ _) hK hP)) rfl rfl hl.1 rfl (lv_room (Nat.le_of_ble_eq_true rfl)) dL_law_2347 ⟨Nat.le_of_ble_eq_true rfl, Nat.le_of_ble_eq_true rfl⟩) hP hD hS hA (fun r_2 x_2 H locs hq_2 hP hD hS => ?_)
  rw [hq_2.1]
  rw [hq_2.2] at hP hD
  have hP := kj_P (pmM _ _ _ _).symm hP
  have hD := kj_D (pmM _ _ _ _).symm hD
  refine lv_istore (lv' := [(7, .int 0), (6, .int 1), (5, .int 0), (4, .ref qd), (3, .ref qo), (2, .ref am), (1, .ref x), (0, .ref b)]) hx hb dL_law_2350 hl (by decide) rfl (fun ls hl => ?_)
  refine lv_aload_n hx hb dL_law_2352 rfl (lv_at hl 5 rfl) ?_
  refine kj_i (pmM _ _ _ _) (va_runV (As := []) (rest := []) ⟨hx, hb, hml, hown, htT⟩ (m_thrown l D cA _ am r (mS (mS mZ 0 0) 0 1)) (cwV 0 htT (kg_V m_ml_L_130 m_im_X6_thrown m_sl_X6_thrown m_in_X6 m_cd_X6_thrown) rfl rfl rfl (by decide +kernel) ⟨Nat.le_of_ble_eq_true rfl, Nat.le_of_ble_eq_true rfl⟩) (kj_V (pmM _ _ _ _) hK hP hD hTB (kj_rm (pmM _ _ _ _) hK hP)) rfl rfl hl.1 rfl (lv_room (Nat.le_of_ble_eq_true rfl)) dL_law_2353 ⟨Nat.le_of_ble_eq_true rfl, Nat.le_of_ble_eq_true rfl⟩) hP hD hS hA (fun r_3 x_3 H locs hq_3 hP hD hS => ?_)
  rw [hq_3.1.trans (show (mS (mS mZ 0 0) 0 1).1 0 = 1 from rfl)]
  rw [hq_3.2] at hP hD
  have hP := kj_P (pmM _ _ _ _).symm hP
  have hD := kj_D (pmM _ _ _ _).symm hD
  refine lv_iload hx hb dL_law_2356 (lv_at hl 1 rfl) ?_
  refine lv_icmp_eq (tgt := 2363) hx hb dL_law_2358 (by decide) (fun _ => ?_) (fun c_4 => absurd c_4 (by decide))
  refine lv_iload hx hb dL_law_2363 (lv_at hl 1 rfl) ?_
  refine lv_if_ne (tgt := 2380) hx hb dL_law_2365 (by decide) (fun _ => ?_) (fun c_5 => absurd c_5 (by decide))
  refine lv_goto (tgt := 2693) hx hb dL_law_2380 (by decide) ?_
  exact law_end C0 hS (Nat.le_of_ble_eq_true rfl) (Nat.le_of_ble_eq_true rfl) (lv_sub hl [2, 7] rfl)

