set_option maxRecDepth 100000 in
set_option maxHeartbeats 4000000 in
theorem law_both (l : Launch) (hst : l.stackTraces = false) {p : Program} {e : Env} {s : State} {m : MethodId} {below : List Frame} {meth : Method} {c : Code} {b : Nat} {xs : Nat → Int32} (C0 : lw_At p s m meth c b 6 xs) {D : va_G} {cA : Nat → ClassId} (hK : va_K D vwCl (ty6 cA) s) (hTB : TBok s) (hTX : TXok (fun q : Nat => s.heap.size ≤ q) s) {S : Pool} {x ar qo qd am : Nat} {r : Nat → Nat} {fo : Nat → Int64} {fd : Nat → UInt64} {H : Heap} {locs : List Loc} {ls : Array Slot} (ho : isO S x 5) (hq0 : gQ S x 0 = some ar) (har : isA S ar 22 8) (hn : ∀ j, j < 8 → gP S ar j = none) (hnum : ∀ k, gI S x k = 0) (hP : va_P D vwCl (LW cA S qo fo qd fd am r mZ) H) (hD : va_D (fun q : Nat => s.heap.size ≤ q) (LW cA S qo fo qd fd am r mZ)) (hS : va_S (fun q : Nat => s.heap.size ≤ q) s.heap H locs) (hl : lv_has ls 9 [(5, .int 0), (4, .ref qd), (3, .ref qo), (2, .ref am), (1, .ref x), (0, .ref b)])  : W p l e room_1 s m #[Value.ref b] below meth c H locs 100 2000 (lw_Z below #[Value.ref b] s) (F0 m 2383 ls []) := by
  obtain ⟨hx, hb, hr, hml, hown, hts, hX, hbl, hlocks, hgv⟩ := id C0
  have htT : ∀ w ∈ TT, w.before _ s = true := fun w h => hts w (tt_in h)
  have hA : ∀ q : Nat, s.heap.size ≤ q → (fun q : Nat => s.heap.size ≤ q) q := fun _ h => h
  have hbA : ¬ (fun q : Nat => s.heap.size ≤ q) b := Nat.not_le.mpr hbl
  refine lv_aload_n hx hb dL_law_2383 rfl (lv_at hl 4 rfl) ?_
  refine lv_aload_n hx hb dL_law_2384 rfl (lv_at hl 5 rfl) ?_
  refine lv_iload hx hb dL_law_2385 (lv_at hl 0 rfl) ?_
  refine lv_iconst (v := 1) hx hb dL_law_2387 (by decide) ?_
  refine lv_iadd hx hb dL_law_2388 ?_
  rw [show (0 + 1 : Int32) = 1 from by decide]
  refine va_sld hx hb hX hbl hbA hS (vp_in_iff.mpr (by decide)) dL_law_2389 ?_
  refine lv_aload_n hx hb dL_law_2390 rfl (lv_at hl 5 rfl) ?_
  refine lv_iload hx hb dL_law_2391 (lv_at hl 0 rfl) ?_
  refine lv_iconst (v := 2) hx hb dL_law_2393 (by decide) ?_
  refine lv_iadd hx hb dL_law_2394 ?_
  rw [show (0 + 2 : Int32) = 2 from by decide]
  refine va_sld hx hb hX hbl hbA hS (vp_in_iff.mpr (by decide)) dL_law_2395 ?_
  refine lv_aload_n hx hb dL_law_2396 rfl (lv_at hl 5 rfl) ?_
  refine lv_iload hx hb dL_law_2397 (lv_at hl 0 rfl) ?_
  refine lv_iconst (v := 3) hx hb dL_law_2399 (by decide) ?_
  refine lv_iadd hx hb dL_law_2400 ?_
  rw [show (0 + 3 : Int32) = 3 from by decide]
  refine va_sld hx hb hX hbl hbA hS (vp_in_iff.mpr (by decide)) dL_law_2401 ?_
  refine lv_aload_n hx hb dL_law_2402 rfl (lv_at hl 2 rfl) ?_
  refine kj_i (pmJ _ _ _ _) (vx_runSW (As := [.ref x, .int (xs (1 : Int32).toNatClampNeg), .int (xs (2 : Int32).toNatClampNeg), .int (xs (3 : Int32).toNatClampNeg), .ref qo]) (rest := []) ⟨hx, hb, hml, hown, htT⟩ (w_both_t l hst D cA _ S x qo fo ho ar hq0 har (xs (1 : Int32).toNatClampNeg) (xs (2 : Int32).toNatClampNeg) (xs (3 : Int32).toNatClampNeg) (fresh_sw hn _)) (vx_cwSW 5 htT (kg_SW m_ml_L_230 m_st_L_both m_in_L m_cd_L_both) rfl rfl rfl (by decide +kernel) ⟨Nat.le_of_ble_eq_true rfl, Nat.le_of_ble_eq_true rfl⟩) (kj_SX (pmJ _ _ _ _) hK hP hD hTB hTX hS hA) rfl rfl hl.1 rfl (lv_room (Nat.le_of_ble_eq_true rfl)) dL_law_2403 ⟨Nat.le_of_ble_eq_true rfl, Nat.le_of_ble_eq_true rfl⟩) hP hD hS hA (fun r_1 x_1 H locs hq_1 hP hD hS => ?_)
  rw [hq_1.1]
  rw [hq_1.2.1, hq_1.2.2] at hP hD
  rw [List.append_assoc] at hP hD
  refine lv_istore (lv' := [(6, .int 1), (5, .int 0), (4, .ref qd), (3, .ref qo), (2, .ref am), (1, .ref x), (0, .ref b)]) hx hb dL_law_2406 hl (by decide) rfl (fun ls hl => ?_)
  refine lv_aload_n hx hb dL_law_2408 rfl (lv_at hl 4 rfl) ?_
  refine lv_aload_n hx hb dL_law_2409 rfl (lv_at hl 6 rfl) ?_
  refine lv_iload hx hb dL_law_2410 (lv_at hl 1 rfl) ?_
  refine lv_iconst (v := 1) hx hb dL_law_2412 (by decide) ?_
  refine lv_iadd hx hb dL_law_2413 ?_
  rw [show (0 + 1 : Int32) = 1 from by decide]
  refine va_sld hx hb hX hbl hbA hS (vp_in_iff.mpr (by decide)) dL_law_2414 ?_
  refine lv_aload_n hx hb dL_law_2415 rfl (lv_at hl 6 rfl) ?_
  refine lv_iload hx hb dL_law_2416 (lv_at hl 1 rfl) ?_
  refine lv_iconst (v := 2) hx hb dL_law_2418 (by decide) ?_
  refine lv_iadd hx hb dL_law_2419 ?_
  rw [show (0 + 2 : Int32) = 2 from by decide]
  refine va_sld hx hb hX hbl hbA hS (vp_in_iff.mpr (by decide)) dL_law_2420 ?_
  refine lv_aload_n hx hb dL_law_2421 rfl (lv_at hl 6 rfl) ?_
  refine lv_iload hx hb dL_law_2422 (lv_at hl 1 rfl) ?_
  refine lv_iconst (v := 3) hx hb dL_law_2424 (by decide) ?_
  refine lv_iadd hx hb dL_law_2425 ?_
  rw [show (0 + 3 : Int32) = 3 from by decide]
  refine va_sld hx hb hX hbl hbA hS (vp_in_iff.mpr (by decide)) dL_law_2426 ?_
  refine kj_i (pmM _ _ _ _) (va_runV (As := [.int (xs (1 : Int32).toNatClampNeg), .int (xs (2 : Int32).toNatClampNeg), .int (xs (3 : Int32).toNatClampNeg)]) (rest := []) ⟨hx, hb, hml, hown, htT⟩ (m_both_0 l D cA _ am r mZ (xs (1 : Int32).toNatClampNeg) (xs (2 : Int32).toNatClampNeg) (xs (3 : Int32).toNatClampNeg) (fresh_in _)) (cwV 3 htT (kg_V m_ml_L_232 m_im_X6_both m_sl_X6_both m_in_X6 m_cd_X6_both) rfl rfl rfl (by decide +kernel) ⟨Nat.le_of_ble_eq_true rfl, Nat.le_of_ble_eq_true rfl⟩) (kj_V (pmM _ _ _ _) hK hP hD hTB (kj_rm (pmM _ _ _ _) hK hP)) rfl rfl hl.1 rfl (lv_room (Nat.le_of_ble_eq_true rfl)) dL_law_2427 ⟨Nat.le_of_ble_eq_true rfl, Nat.le_of_ble_eq_true rfl⟩) hP hD hS hA (fun r_2 x_2 H locs hq_2 hP hD hS => ?_)
  rw [hq_2.1]
  rw [hq_2.2] at hP hD
  have hP := kj_P (pmM _ _ _ _).symm hP
  have hD := kj_D (pmM _ _ _ _).symm hD
  refine lv_istore (lv' := [(7, .int 0), (6, .int 1), (5, .int 0), (4, .ref qd), (3, .ref qo), (2, .ref am), (1, .ref x), (0, .ref b)]) hx hb dL_law_2430 hl (by decide) rfl (fun ls hl => ?_)
  refine lv_aload_n hx hb dL_law_2432 rfl (lv_at hl 5 rfl) ?_
  refine kj_i (pmM _ _ _ _) (va_runV (As := []) (rest := []) ⟨hx, hb, hml, hown, htT⟩ (m_thrown l D cA _ am r (mS (mS mZ 0 0) 0 1)) (cwV 0 htT (kg_V m_ml_L_130 m_im_X6_thrown m_sl_X6_thrown m_in_X6 m_cd_X6_thrown) rfl rfl rfl (by decide +kernel) ⟨Nat.le_of_ble_eq_true rfl, Nat.le_of_ble_eq_true rfl⟩) (kj_V (pmM _ _ _ _) hK hP hD hTB (kj_rm (pmM _ _ _ _) hK hP)) rfl rfl hl.1 rfl (lv_room (Nat.le_of_ble_eq_true rfl)) dL_law_2433 ⟨Nat.le_of_ble_eq_true rfl, Nat.le_of_ble_eq_true rfl⟩) hP hD hS hA (fun r_3 x_3 H locs hq_3 hP hD hS => ?_)
  rw [hq_3.1.trans (show (mS (mS mZ 0 0) 0 1).1 0 = 1 from rfl)]
  rw [hq_3.2] at hP hD
  have hP := kj_P (pmM _ _ _ _).symm hP
  have hD := kj_D (pmM _ _ _ _).symm hD
  refine lv_iload hx hb dL_law_2436 (lv_at hl 1 rfl) ?_
  refine lv_icmp_eq (tgt := 2443) hx hb dL_law_2438 (by decide) (fun _ => ?_) (fun c_4 => absurd c_4 (by decide))
  refine lv_iload hx hb dL_law_2443 (lv_at hl 1 rfl) ?_
  refine lv_if_ne (tgt := 2460) hx hb dL_law_2445 (by decide) (fun _ => ?_) (fun c_5 => absurd c_5 (by decide))
  refine lv_goto (tgt := 2693) hx hb dL_law_2460 (by decide) ?_
  exact law_end C0 hS (Nat.le_of_ble_eq_true rfl) (Nat.le_of_ble_eq_true rfl) (lv_sub hl [2, 7] rfl)

set_option maxRecDepth 100000 in
set_option maxHeartbeats 4000000 in
theorem law_wouldChange (l : Launch) (hst : l.stackTraces = false) {p : Program} {e : Env} {s : State} {m : MethodId} {below : List Frame} {meth : Method} {c : Code} {b : Nat} {xs : Nat → Int32} (C0 : lw_At p s m meth c b 6 xs) {D : va_G} {cA : Nat → ClassId} (hK : va_K D vwCl (ty6 cA) s) (hTB : TBok s) (hTX : TXok (fun q : Nat => s.heap.size ≤ q) s) {S : Pool} {x ar qo qd am : Nat} {r : Nat → Nat} {fo : Nat → Int64} {fd : Nat → UInt64} {H : Heap} {locs : List Loc} {ls : Array Slot} (ho : isO S x 5) (hq0 : gQ S x 0 = some ar) (har : isA S ar 22 8) (hn : ∀ j, j < 8 → gP S ar j = none) (hnum : ∀ k, gI S x k = 0) (hP : va_P D vwCl (LW cA S qo fo qd fd am r mZ) H) (hD : va_D (fun q : Nat => s.heap.size ≤ q) (LW cA S qo fo qd fd am r mZ)) (hS : va_S (fun q : Nat => s.heap.size ≤ q) s.heap H locs) (hl : lv_has ls 9 [(5, .int 0), (4, .ref qd), (3, .ref qo), (2, .ref am), (1, .ref x), (0, .ref b)])  : W p l e room_1 s m #[Value.ref b] below meth c H locs 100 2000 (lw_Z below #[Value.ref b] s) (F0 m 2463 ls []) := by
  obtain ⟨hx, hb, hr, hml, hown, hts, hX, hbl, hlocks, hgv⟩ := id C0
  have htT : ∀ w ∈ TT, w.before _ s = true := fun w h => hts w (tt_in h)
  have hA : ∀ q : Nat, s.heap.size ≤ q → (fun q : Nat => s.heap.size ≤ q) q := fun _ h => h
  have hbA : ¬ (fun q : Nat => s.heap.size ≤ q) b := Nat.not_le.mpr hbl
  refine lv_aload_n hx hb dL_law_2463 rfl (lv_at hl 4 rfl) ?_
  refine lv_aload_n hx hb dL_law_2464 rfl (lv_at hl 5 rfl) ?_
  refine lv_iload hx hb dL_law_2465 (lv_at hl 0 rfl) ?_
  refine lv_iconst (v := 1) hx hb dL_law_2467 (by decide) ?_
  refine lv_iadd hx hb dL_law_2468 ?_
  rw [show (0 + 1 : Int32) = 1 from by decide]
  refine va_sld hx hb hX hbl hbA hS (vp_in_iff.mpr (by decide)) dL_law_2469 ?_
  refine lv_aload_n hx hb dL_law_2470 rfl (lv_at hl 5 rfl) ?_
  refine lv_iload hx hb dL_law_2471 (lv_at hl 0 rfl) ?_
  refine lv_iconst (v := 2) hx hb dL_law_2473 (by decide) ?_
  refine lv_iadd hx hb dL_law_2474 ?_
  rw [show (0 + 2 : Int32) = 2 from by decide]
  refine va_sld hx hb hX hbl hbA hS (vp_in_iff.mpr (by decide)) dL_law_2475 ?_
  refine lv_aload_n hx hb dL_law_2476 rfl (lv_at hl 5 rfl) ?_
  refine lv_iload hx hb dL_law_2477 (lv_at hl 0 rfl) ?_
  refine lv_iconst (v := 3) hx hb dL_law_2479 (by decide) ?_
  refine lv_iadd hx hb dL_law_2480 ?_
  rw [show (0 + 3 : Int32) = 3 from by decide]
  refine va_sld hx hb hX hbl hbA hS (vp_in_iff.mpr (by decide)) dL_law_2481 ?_
  refine lv_aload_n hx hb dL_law_2482 rfl (lv_at hl 2 rfl) ?_
  refine kj_i (pmJ _ _ _ _) (vx_runSW (As := [.ref x, .int (xs (1 : Int32).toNatClampNeg), .int (xs (2 : Int32).toNatClampNeg), .int (xs (3 : Int32).toNatClampNeg), .ref qo]) (rest := []) ⟨hx, hb, hml, hown, htT⟩ (w_wouldChange_t l hst D cA _ S x qo fo ho ar hq0 har (xs (1 : Int32).toNatClampNeg) (xs (2 : Int32).toNatClampNeg) (xs (3 : Int32).toNatClampNeg) (fresh_sw hn _)) (vx_cwSW 5 htT (kg_SW m_ml_L_233 m_st_L_wouldChange m_in_L m_cd_L_wouldChange) rfl rfl rfl (by decide +kernel) ⟨Nat.le_of_ble_eq_true rfl, Nat.le_of_ble_eq_true rfl⟩) (kj_SX (pmJ _ _ _ _) hK hP hD hTB hTX hS hA) rfl rfl hl.1 rfl (lv_room (Nat.le_of_ble_eq_true rfl)) dL_law_2483 ⟨Nat.le_of_ble_eq_true rfl, Nat.le_of_ble_eq_true rfl⟩) hP hD hS hA (fun r_1 x_1 H locs hq_1 hP hD hS => ?_)
  rw [hq_1.1]
  rw [hq_1.2.1, hq_1.2.2] at hP hD
  rw [List.append_assoc] at hP hD
  refine lv_istore (lv' := [(6, .int 1), (5, .int 0), (4, .ref qd), (3, .ref qo), (2, .ref am), (1, .ref x), (0, .ref b)]) hx hb dL_law_2486 hl (by decide) rfl (fun ls hl => ?_)
  refine lv_aload_n hx hb dL_law_2488 rfl (lv_at hl 4 rfl) ?_
  refine lv_aload_n hx hb dL_law_2489 rfl (lv_at hl 6 rfl) ?_
  refine lv_iload hx hb dL_law_2490 (lv_at hl 1 rfl) ?_
  refine lv_iconst (v := 1) hx hb dL_law_2492 (by decide) ?_
  refine lv_iadd hx hb dL_law_2493 ?_
  rw [show (0 + 1 : Int32) = 1 from by decide]
  refine va_sld hx hb hX hbl hbA hS (vp_in_iff.mpr (by decide)) dL_law_2494 ?_
  refine lv_aload_n hx hb dL_law_2495 rfl (lv_at hl 6 rfl) ?_
  refine lv_iload hx hb dL_law_2496 (lv_at hl 1 rfl) ?_
  refine lv_iconst (v := 2) hx hb dL_law_2498 (by decide) ?_
  refine lv_iadd hx hb dL_law_2499 ?_
  rw [show (0 + 2 : Int32) = 2 from by decide]
  refine va_sld hx hb hX hbl hbA hS (vp_in_iff.mpr (by decide)) dL_law_2500 ?_
  refine lv_aload_n hx hb dL_law_2501 rfl (lv_at hl 6 rfl) ?_
  refine lv_iload hx hb dL_law_2502 (lv_at hl 1 rfl) ?_
  refine lv_iconst (v := 3) hx hb dL_law_2504 (by decide) ?_
  refine lv_iadd hx hb dL_law_2505 ?_
  rw [show (0 + 3 : Int32) = 3 from by decide]
  refine va_sld hx hb hX hbl hbA hS (vp_in_iff.mpr (by decide)) dL_law_2506 ?_
  refine kj_i (pmM _ _ _ _) (va_runV (As := [.int (xs (1 : Int32).toNatClampNeg), .int (xs (2 : Int32).toNatClampNeg), .int (xs (3 : Int32).toNatClampNeg)]) (rest := []) ⟨hx, hb, hml, hown, htT⟩ (m_wouldChange_0 l D cA _ am r mZ (xs (1 : Int32).toNatClampNeg) (xs (2 : Int32).toNatClampNeg) (xs (3 : Int32).toNatClampNeg) (fresh_in _)) (cwV 3 htT (kg_V m_ml_L_235 m_im_X6_wouldChange m_sl_X6_wouldChange m_in_X6 m_cd_X6_wouldChange) rfl rfl rfl (by decide +kernel) ⟨Nat.le_of_ble_eq_true rfl, Nat.le_of_ble_eq_true rfl⟩) (kj_V (pmM _ _ _ _) hK hP hD hTB (kj_rm (pmM _ _ _ _) hK hP)) rfl rfl hl.1 rfl (lv_room (Nat.le_of_ble_eq_true rfl)) dL_law_2507 ⟨Nat.le_of_ble_eq_true rfl, Nat.le_of_ble_eq_true rfl⟩) hP hD hS hA (fun r_2 x_2 H locs hq_2 hP hD hS => ?_)
  rw [hq_2.1]
  rw [hq_2.2] at hP hD
  have hP := kj_P (pmM _ _ _ _).symm hP
  have hD := kj_D (pmM _ _ _ _).symm hD
  refine lv_istore (lv' := [(7, .int 0), (6, .int 1), (5, .int 0), (4, .ref qd), (3, .ref qo), (2, .ref am), (1, .ref x), (0, .ref b)]) hx hb dL_law_2510 hl (by decide) rfl (fun ls hl => ?_)
  refine lv_aload_n hx hb dL_law_2512 rfl (lv_at hl 5 rfl) ?_
  refine kj_i (pmM _ _ _ _) (va_runV (As := []) (rest := []) ⟨hx, hb, hml, hown, htT⟩ (m_thrown l D cA _ am r (mS (mS mZ 0 0) 0 1)) (cwV 0 htT (kg_V m_ml_L_130 m_im_X6_thrown m_sl_X6_thrown m_in_X6 m_cd_X6_thrown) rfl rfl rfl (by decide +kernel) ⟨Nat.le_of_ble_eq_true rfl, Nat.le_of_ble_eq_true rfl⟩) (kj_V (pmM _ _ _ _) hK hP hD hTB (kj_rm (pmM _ _ _ _) hK hP)) rfl rfl hl.1 rfl (lv_room (Nat.le_of_ble_eq_true rfl)) dL_law_2513 ⟨Nat.le_of_ble_eq_true rfl, Nat.le_of_ble_eq_true rfl⟩) hP hD hS hA (fun r_3 x_3 H locs hq_3 hP hD hS => ?_)
  rw [hq_3.1.trans (show (mS (mS mZ 0 0) 0 1).1 0 = 1 from rfl)]
  rw [hq_3.2] at hP hD
  have hP := kj_P (pmM _ _ _ _).symm hP
  have hD := kj_D (pmM _ _ _ _).symm hD
  refine lv_iload hx hb dL_law_2516 (lv_at hl 1 rfl) ?_
  refine lv_icmp_eq (tgt := 2523) hx hb dL_law_2518 (by decide) (fun _ => ?_) (fun c_4 => absurd c_4 (by decide))
  refine lv_iload hx hb dL_law_2523 (lv_at hl 1 rfl) ?_
  refine lv_if_ne (tgt := 2540) hx hb dL_law_2525 (by decide) (fun _ => ?_) (fun c_5 => absurd c_5 (by decide))
  refine lv_goto (tgt := 2693) hx hb dL_law_2540 (by decide) ?_
  exact law_end C0 hS (Nat.le_of_ble_eq_true rfl) (Nat.le_of_ble_eq_true rfl) (lv_sub hl [2, 7] rfl)

set_option maxRecDepth 100000 in
set_option maxHeartbeats 4000000 in
theorem law_wouldTurn (l : Launch) (hst : l.stackTraces = false) {p : Program} {e : Env} {s : State} {m : MethodId} {below : List Frame} {meth : Method} {c : Code} {b : Nat} {xs : Nat → Int32} (C0 : lw_At p s m meth c b 6 xs) {D : va_G} {cA : Nat → ClassId} (hK : va_K D vwCl (ty6 cA) s) (hTB : TBok s) (hTX : TXok (fun q : Nat => s.heap.size ≤ q) s) {S : Pool} {x ar qo qd am : Nat} {r : Nat → Nat} {fo : Nat → Int64} {fd : Nat → UInt64} {H : Heap} {locs : List Loc} {ls : Array Slot} (ho : isO S x 5) (hq0 : gQ S x 0 = some ar) (har : isA S ar 22 8) (hn : ∀ j, j < 8 → gP S ar j = none) (hnum : ∀ k, gI S x k = 0) (hP : va_P D vwCl (LW cA S qo fo qd fd am r mZ) H) (hD : va_D (fun q : Nat => s.heap.size ≤ q) (LW cA S qo fo qd fd am r mZ)) (hS : va_S (fun q : Nat => s.heap.size ≤ q) s.heap H locs) (hl : lv_has ls 9 [(5, .int 0), (4, .ref qd), (3, .ref qo), (2, .ref am), (1, .ref x), (0, .ref b)])  : W p l e room_1 s m #[Value.ref b] below meth c H locs 100 2000 (lw_Z below #[Value.ref b] s) (F0 m 2543 ls []) := by
  obtain ⟨hx, hb, hr, hml, hown, hts, hX, hbl, hlocks, hgv⟩ := id C0
  have htT : ∀ w ∈ TT, w.before _ s = true := fun w h => hts w (tt_in h)
  have hA : ∀ q : Nat, s.heap.size ≤ q → (fun q : Nat => s.heap.size ≤ q) q := fun _ h => h
  have hbA : ¬ (fun q : Nat => s.heap.size ≤ q) b := Nat.not_le.mpr hbl
  refine lv_aload_n hx hb dL_law_2543 rfl (lv_at hl 4 rfl) ?_
  refine lv_aload_n hx hb dL_law_2544 rfl (lv_at hl 5 rfl) ?_
  refine lv_iload hx hb dL_law_2545 (lv_at hl 0 rfl) ?_
  refine lv_iconst (v := 1) hx hb dL_law_2547 (by decide) ?_
  refine lv_iadd hx hb dL_law_2548 ?_
  rw [show (0 + 1 : Int32) = 1 from by decide]
  refine va_sld hx hb hX hbl hbA hS (vp_in_iff.mpr (by decide)) dL_law_2549 ?_
  refine lv_aload_n hx hb dL_law_2550 rfl (lv_at hl 5 rfl) ?_
  refine lv_iload hx hb dL_law_2551 (lv_at hl 0 rfl) ?_
  refine lv_iconst (v := 2) hx hb dL_law_2553 (by decide) ?_
  refine lv_iadd hx hb dL_law_2554 ?_
  rw [show (0 + 2 : Int32) = 2 from by decide]
  refine va_sld hx hb hX hbl hbA hS (vp_in_iff.mpr (by decide)) dL_law_2555 ?_
  refine lv_aload_n hx hb dL_law_2556 rfl (lv_at hl 2 rfl) ?_
  refine kj_i (pmJ _ _ _ _) (vx_runSW (As := [.ref x, .int (xs (1 : Int32).toNatClampNeg), .int (xs (2 : Int32).toNatClampNeg), .ref qo]) (rest := []) ⟨hx, hb, hml, hown, htT⟩ (w_wouldTurn_t l hst D cA _ S x qo fo ho ar hq0 har (xs (1 : Int32).toNatClampNeg) (xs (2 : Int32).toNatClampNeg) (fresh_sw hn _)) (vx_cwSW 4 htT (kg_SW m_ml_L_236 m_st_L_wouldTurn m_in_L m_cd_L_wouldTurn) rfl rfl rfl (by decide +kernel) ⟨Nat.le_of_ble_eq_true rfl, Nat.le_of_ble_eq_true rfl⟩) (kj_SX (pmJ _ _ _ _) hK hP hD hTB hTX hS hA) rfl rfl hl.1 rfl (lv_room (Nat.le_of_ble_eq_true rfl)) dL_law_2557 ⟨Nat.le_of_ble_eq_true rfl, Nat.le_of_ble_eq_true rfl⟩) hP hD hS hA (fun r_1 x_1 H locs hq_1 hP hD hS => ?_)
  rw [hq_1.1]
  rw [hq_1.2.1, hq_1.2.2] at hP hD
  rw [List.append_assoc] at hP hD
  refine lv_istore (lv' := [(6, .int 1), (5, .int 0), (4, .ref qd), (3, .ref qo), (2, .ref am), (1, .ref x), (0, .ref b)]) hx hb dL_law_2560 hl (by decide) rfl (fun ls hl => ?_)
  refine lv_aload_n hx hb dL_law_2562 rfl (lv_at hl 4 rfl) ?_
  refine lv_aload_n hx hb dL_law_2563 rfl (lv_at hl 6 rfl) ?_
  refine lv_iload hx hb dL_law_2564 (lv_at hl 1 rfl) ?_
  refine lv_iconst (v := 1) hx hb dL_law_2566 (by decide) ?_
  refine lv_iadd hx hb dL_law_2567 ?_
  rw [show (0 + 1 : Int32) = 1 from by decide]
  refine va_sld hx hb hX hbl hbA hS (vp_in_iff.mpr (by decide)) dL_law_2568 ?_
  refine lv_aload_n hx hb dL_law_2569 rfl (lv_at hl 6 rfl) ?_
  refine lv_iload hx hb dL_law_2570 (lv_at hl 1 rfl) ?_
  refine lv_iconst (v := 2) hx hb dL_law_2572 (by decide) ?_
  refine lv_iadd hx hb dL_law_2573 ?_
  rw [show (0 + 2 : Int32) = 2 from by decide]
  refine va_sld hx hb hX hbl hbA hS (vp_in_iff.mpr (by decide)) dL_law_2574 ?_
  refine kj_i (pmM _ _ _ _) (va_runV (As := [.int (xs (1 : Int32).toNatClampNeg), .int (xs (2 : Int32).toNatClampNeg)]) (rest := []) ⟨hx, hb, hml, hown, htT⟩ (m_wouldTurn_0 l D cA _ am r mZ (xs (1 : Int32).toNatClampNeg) (xs (2 : Int32).toNatClampNeg) (fresh_in _)) (cwV 2 htT (kg_V m_ml_L_238 m_im_X6_wouldTurn m_sl_X6_wouldTurn m_in_X6 m_cd_X6_wouldTurn) rfl rfl rfl (by decide +kernel) ⟨Nat.le_of_ble_eq_true rfl, Nat.le_of_ble_eq_true rfl⟩) (kj_V (pmM _ _ _ _) hK hP hD hTB (kj_rm (pmM _ _ _ _) hK hP)) rfl rfl hl.1 rfl (lv_room (Nat.le_of_ble_eq_true rfl)) dL_law_2575 ⟨Nat.le_of_ble_eq_true rfl, Nat.le_of_ble_eq_true rfl⟩) hP hD hS hA (fun r_2 x_2 H locs hq_2 hP hD hS => ?_)
  rw [hq_2.1]
  rw [hq_2.2] at hP hD
  have hP := kj_P (pmM _ _ _ _).symm hP
  have hD := kj_D (pmM _ _ _ _).symm hD
  refine lv_istore (lv' := [(7, .int 0), (6, .int 1), (5, .int 0), (4, .ref qd), (3, .ref qo), (2, .ref am), (1, .ref x), (0, .ref b)]) hx hb dL_law_2578 hl (by decide) rfl (fun ls hl => ?_)
  refine lv_aload_n hx hb dL_law_2580 rfl (lv_at hl 5 rfl) ?_
  refine kj_i (pmM _ _ _ _) (va_runV (As := []) (rest := []) ⟨hx, hb, hml, hown, htT⟩ (m_thrown l D cA _ am r (mS (mS mZ 0 0) 0 1)) (cwV 0 htT (kg_V m_ml_L_130 m_im_X6_thrown m_sl_X6_thrown m_in_X6 m_cd_X6_thrown) rfl rfl rfl (by decide +kernel) ⟨Nat.le_of_ble_eq_true rfl, Nat.le_of_ble_eq_true rfl⟩) (kj_V (pmM _ _ _ _) hK hP hD hTB (kj_rm (pmM _ _ _ _) hK hP)) rfl rfl hl.1 rfl (lv_room (Nat.le_of_ble_eq_true rfl)) dL_law_2581 ⟨Nat.le_of_ble_eq_true rfl, Nat.le_of_ble_eq_true rfl⟩) hP hD hS hA (fun r_3 x_3 H locs hq_3 hP hD hS => ?_)
  rw [hq_3.1.trans (show (mS (mS mZ 0 0) 0 1).1 0 = 1 from rfl)]
  rw [hq_3.2] at hP hD
  have hP := kj_P (pmM _ _ _ _).symm hP
  have hD := kj_D (pmM _ _ _ _).symm hD
  refine lv_iload hx hb dL_law_2584 (lv_at hl 1 rfl) ?_
  refine lv_icmp_eq (tgt := 2591) hx hb dL_law_2586 (by decide) (fun _ => ?_) (fun c_4 => absurd c_4 (by decide))
  refine lv_iload hx hb dL_law_2591 (lv_at hl 1 rfl) ?_
  refine lv_if_ne (tgt := 2608) hx hb dL_law_2593 (by decide) (fun _ => ?_) (fun c_5 => absurd c_5 (by decide))
  refine lv_goto (tgt := 2693) hx hb dL_law_2608 (by decide) ?_
  exact law_end C0 hS (Nat.le_of_ble_eq_true rfl) (Nat.le_of_ble_eq_true rfl) (lv_sub hl [2, 7] rfl)

set_option maxRecDepth 100000 in
set_option maxHeartbeats 4000000 in
theorem law_shareIn (l : Launch) (hst : l.stackTraces = false) {p : Program} {e : Env} {s : State} {m : MethodId} {below : List Frame} {meth : Method} {c : Code} {b : Nat} {xs : Nat → Int32} (C0 : lw_At p s m meth c b 6 xs) {D : va_G} {cA : Nat → ClassId} (hK : va_K D vwCl (ty6 cA) s) (hTB : TBok s) (hTX : TXok (fun q : Nat => s.heap.size ≤ q) s) {S : Pool} {x ar qo qd am : Nat} {r : Nat → Nat} {fo : Nat → Int64} {fd : Nat → UInt64} {H : Heap} {locs : List Loc} {ls : Array Slot} (ho : isO S x 5) (hq0 : gQ S x 0 = some ar) (har : isA S ar 22 8) (hn : ∀ j, j < 8 → gP S ar j = none) (hnum : ∀ k, gI S x k = 0) (hP : va_P D vwCl (LW cA S qo fo qd fd am r mZ) H) (hD : va_D (fun q : Nat => s.heap.size ≤ q) (LW cA S qo fo qd fd am r mZ)) (hS : va_S (fun q : Nat => s.heap.size ≤ q) s.heap H locs) (hl : lv_has ls 9 [(5, .int 0), (4, .ref qd), (3, .ref qo), (2, .ref am), (1, .ref x), (0, .ref b)])  : W p l e room_1 s m #[Value.ref b] below meth c H locs 100 2000 (lw_Z below #[Value.ref b] s) (F0 m 2611 ls []) := by
  obtain ⟨hx, hb, hr, hml, hown, hts, hX, hbl, hlocks, hgv⟩ := id C0
  have htT : ∀ w ∈ TT, w.before _ s = true := fun w h => hts w (tt_in h)
  have hA : ∀ q : Nat, s.heap.size ≤ q → (fun q : Nat => s.heap.size ≤ q) q := fun _ h => h
  have hbA : ¬ (fun q : Nat => s.heap.size ≤ q) b := Nat.not_le.mpr hbl
  refine lv_aload_n hx hb dL_law_2611 rfl (lv_at hl 4 rfl) ?_
  refine lv_aload_n hx hb dL_law_2612 rfl (lv_at hl 5 rfl) ?_
  refine lv_iload hx hb dL_law_2613 (lv_at hl 0 rfl) ?_
  refine lv_iconst (v := 1) hx hb dL_law_2615 (by decide) ?_
  refine lv_iadd hx hb dL_law_2616 ?_
  rw [show (0 + 1 : Int32) = 1 from by decide]
  refine va_sld hx hb hX hbl hbA hS (vp_in_iff.mpr (by decide)) dL_law_2617 ?_
  refine lv_aload_n hx hb dL_law_2618 rfl (lv_at hl 5 rfl) ?_
  refine lv_iload hx hb dL_law_2619 (lv_at hl 0 rfl) ?_
  refine lv_iconst (v := 2) hx hb dL_law_2621 (by decide) ?_
  refine lv_iadd hx hb dL_law_2622 ?_
  rw [show (0 + 2 : Int32) = 2 from by decide]
  refine va_sld hx hb hX hbl hbA hS (vp_in_iff.mpr (by decide)) dL_law_2623 ?_
  refine lv_aload_n hx hb dL_law_2624 rfl (lv_at hl 2 rfl) ?_
  refine kj_i (pmJ _ _ _ _) (vx_runSW (As := [.ref x, .int (xs (1 : Int32).toNatClampNeg), .int (xs (2 : Int32).toNatClampNeg), .ref qo]) (rest := []) ⟨hx, hb, hml, hown, htT⟩ (w_shareIn_t l hst D cA _ S x qo fo ho ar hq0 har (xs (1 : Int32).toNatClampNeg) (xs (2 : Int32).toNatClampNeg) (fresh_sw hn _)) (vx_cwSW 4 htT (kg_SW m_ml_L_239 m_st_L_shareIn m_in_L m_cd_L_shareIn) rfl rfl rfl (by decide +kernel) ⟨Nat.le_of_ble_eq_true rfl, Nat.le_of_ble_eq_true rfl⟩) (kj_SX (pmJ _ _ _ _) hK hP hD hTB hTX hS hA) rfl rfl hl.1 rfl (lv_room (Nat.le_of_ble_eq_true rfl)) dL_law_2625 ⟨Nat.le_of_ble_eq_true rfl, Nat.le_of_ble_eq_true rfl⟩) hP hD hS hA (fun r_1 x_1 H locs hq_1 hP hD hS => ?_)
  rw [hq_1.1]
  rw [hq_1.2.1, hq_1.2.2] at hP hD
  rw [List.append_assoc] at hP hD
  refine lv_istore (lv' := [(6, .int 1), (5, .int 0), (4, .ref qd), (3, .ref qo), (2, .ref am), (1, .ref x), (0, .ref b)]) hx hb dL_law_2628 hl (by decide) rfl (fun ls hl => ?_)
  refine lv_aload_n hx hb dL_law_2630 rfl (lv_at hl 4 rfl) ?_
  refine lv_aload_n hx hb dL_law_2631 rfl (lv_at hl 6 rfl) ?_
  refine lv_iload hx hb dL_law_2632 (lv_at hl 1 rfl) ?_
  refine lv_iconst (v := 1) hx hb dL_law_2634 (by decide) ?_
  refine lv_iadd hx hb dL_law_2635 ?_
  rw [show (0 + 1 : Int32) = 1 from by decide]
  refine va_sld hx hb hX hbl hbA hS (vp_in_iff.mpr (by decide)) dL_law_2636 ?_
  refine lv_aload_n hx hb dL_law_2637 rfl (lv_at hl 6 rfl) ?_
  refine lv_iload hx hb dL_law_2638 (lv_at hl 1 rfl) ?_
  refine lv_iconst (v := 2) hx hb dL_law_2640 (by decide) ?_
  refine lv_iadd hx hb dL_law_2641 ?_
  rw [show (0 + 2 : Int32) = 2 from by decide]
  refine va_sld hx hb hX hbl hbA hS (vp_in_iff.mpr (by decide)) dL_law_2642 ?_
  refine kj_i (pmM _ _ _ _) (va_runV (As := [.int (xs (1 : Int32).toNatClampNeg), .int (xs (2 : Int32).toNatClampNeg)]) (rest := []) ⟨hx, hb, hml, hown, htT⟩ (m_shareIn_0 l D cA _ am r mZ (xs (1 : Int32).toNatClampNeg) (xs (2 : Int32).toNatClampNeg) (fresh_in _)) (cwV 2 htT (kg_V m_ml_L_241 m_im_X6_shareIn m_sl_X6_shareIn m_in_X6 m_cd_X6_shareIn) rfl rfl rfl (by decide +kernel) ⟨Nat.le_of_ble_eq_true rfl, Nat.le_of_ble_eq_true rfl⟩) (kj_V (pmM _ _ _ _) hK hP hD hTB (kj_rm (pmM _ _ _ _) hK hP)) rfl rfl hl.1 rfl (lv_room (Nat.le_of_ble_eq_true rfl)) dL_law_2643 ⟨Nat.le_of_ble_eq_true rfl, Nat.le_of_ble_eq_true rfl⟩) hP hD hS hA (fun r_2 x_2 H locs hq_2 hP hD hS => ?_)
  rw [hq_2.1]
  rw [hq_2.2] at hP hD
  have hP := kj_P (pmM _ _ _ _).symm hP
  have hD := kj_D (pmM _ _ _ _).symm hD
  refine lv_istore (lv' := [(7, .int 0), (6, .int 1), (5, .int 0), (4, .ref qd), (3, .ref qo), (2, .ref am), (1, .ref x), (0, .ref b)]) hx hb dL_law_2646 hl (by decide) rfl (fun ls hl => ?_)
  refine lv_aload_n hx hb dL_law_2648 rfl (lv_at hl 5 rfl) ?_
  refine kj_i (pmM _ _ _ _) (va_runV (As := []) (rest := []) ⟨hx, hb, hml, hown, htT⟩ (m_thrown l D cA _ am r (mS (mS mZ 0 0) 0 1)) (cwV 0 htT (kg_V m_ml_L_130 m_im_X6_thrown m_sl_X6_thrown m_in_X6 m_cd_X6_thrown) rfl rfl rfl (by decide +kernel) ⟨Nat.le_of_ble_eq_true rfl, Nat.le_of_ble_eq_true rfl⟩) (kj_V (pmM _ _ _ _) hK hP hD hTB (kj_rm (pmM _ _ _ _) hK hP)) rfl rfl hl.1 rfl (lv_room (Nat.le_of_ble_eq_true rfl)) dL_law_2649 ⟨Nat.le_of_ble_eq_true rfl, Nat.le_of_ble_eq_true rfl⟩) hP hD hS hA (fun r_3 x_3 H locs hq_3 hP hD hS => ?_)
  rw [hq_3.1.trans (show (mS (mS mZ 0 0) 0 1).1 0 = 1 from rfl)]
  rw [hq_3.2] at hP hD
  have hP := kj_P (pmM _ _ _ _).symm hP
  have hD := kj_D (pmM _ _ _ _).symm hD
  refine lv_iload hx hb dL_law_2652 (lv_at hl 1 rfl) ?_
  refine lv_icmp_eq (tgt := 2659) hx hb dL_law_2654 (by decide) (fun _ => ?_) (fun c_4 => absurd c_4 (by decide))
  refine lv_iload hx hb dL_law_2659 (lv_at hl 1 rfl) ?_
  refine lv_if_ne (tgt := 2676) hx hb dL_law_2661 (by decide) (fun _ => ?_) (fun c_5 => absurd c_5 (by decide))
  refine lv_goto (tgt := 2693) hx hb dL_law_2676 (by decide) ?_
  exact law_end C0 hS (Nat.le_of_ble_eq_true rfl) (Nat.le_of_ble_eq_true rfl) (lv_sub hl [2, 7] rfl)

set_option maxRecDepth 100000 in
set_option maxHeartbeats 4000000 in
theorem law_hold_t (l : Launch) (hst : l.stackTraces = false) {p : Program} {e : Env} {s : State} {m : MethodId} {below : List Frame} {meth : Method} {c : Code} {b : Nat} {xs : Nat → Int32} (C0 : lw_At p s m meth c b 6 xs) {D : va_G} {cA : Nat → ClassId} (hK : va_K D vwCl (ty6 cA) s) (hTB : TBok s) (hTX : TXok (fun q : Nat => s.heap.size ≤ q) s) {S : Pool} {x ar qo qd am : Nat} {r : Nat → Nat} {fo : Nat → Int64} {fd : Nat → UInt64} {H : Heap} {locs : List Loc} {ls : Array Slot} (ho : isO S x 5) (hq0 : gQ S x 0 = some ar) (har : isA S ar 22 8) (hn : ∀ j, j < 8 → gP S ar j = none) (hnum : ∀ k, gI S x k = 0) (hP : va_P D vwCl (LW cA S qo fo qd fd am r mZ) H) (hD : va_D (fun q : Nat => s.heap.size ≤ q) (LW cA S qo fo qd fd am r mZ)) (hS : va_S (fun q : Nat => s.heap.size ≤ q) s.heap H locs) (hl : lv_has ls 9 [(5, .int 0), (4, .ref qd), (3, .ref qo), (2, .ref am), (1, .ref x), (0, .ref b)]) (h1 : kOut (xs (1 : Int32).toNatClampNeg) 0 1000 = 1) : W p l e room_1 s m #[Value.ref b] below meth c H locs 100 2000 (lw_Z below #[Value.ref b] s) (F0 m 891 ls []) := by
  obtain ⟨hx, hb, hr, hml, hown, hts, hX, hbl, hlocks, hgv⟩ := id C0
  have htT : ∀ w ∈ TT, w.before _ s = true := fun w h => hts w (tt_in h)
  have hA : ∀ q : Nat, s.heap.size ≤ q → (fun q : Nat => s.heap.size ≤ q) q := fun _ h => h
  have hbA : ¬ (fun q : Nat => s.heap.size ≤ q) b := Nat.not_le.mpr hbl
  refine lv_aload_n hx hb dL_law_891 rfl (lv_at hl 4 rfl) ?_
  refine lv_aload_n hx hb dL_law_892 rfl (lv_at hl 5 rfl) ?_
  refine lv_iload hx hb dL_law_893 (lv_at hl 0 rfl) ?_
  refine lv_iconst (v := 1) hx hb dL_law_895 (by decide) ?_
  refine lv_iadd hx hb dL_law_896 ?_
  rw [show (0 + 1 : Int32) = 1 from by decide]
  refine va_sld hx hb hX hbl hbA hS (vp_in_iff.mpr (by decide)) dL_law_897 ?_
  refine lv_aload_n hx hb dL_law_898 rfl (lv_at hl 2 rfl) ?_
  refine kj_i (pmJ _ _ _ _) (vx_runSW (As := [.ref x, .int (xs (1 : Int32).toNatClampNeg), .ref qo]) (rest := []) ⟨hx, hb, hml, hown, htT⟩ (w_hold_t l hst D cA _ S x qo fo ho (xs (1 : Int32).toNatClampNeg) h1) (vx_cwSW 3 htT (kg_SW m_ml_L_160 m_st_L_hold m_in_L m_cd_L_hold) rfl rfl rfl (by decide +kernel) ⟨Nat.le_of_ble_eq_true rfl, Nat.le_of_ble_eq_true rfl⟩) (kj_SX (pmJ _ _ _ _) hK hP hD hTB hTX hS hA) rfl rfl hl.1 rfl (lv_room (Nat.le_of_ble_eq_true rfl)) dL_law_899 ⟨Nat.le_of_ble_eq_true rfl, Nat.le_of_ble_eq_true rfl⟩) hP hD hS hA (fun r_1 x_1 H locs hq_1 hP hD hS => ?_)
  rw [hq_1.1]
  rw [hq_1.2.1, hq_1.2.2] at hP hD
  rw [List.append_assoc] at hP hD
  refine lv_istore (lv' := [(6, .int 1), (5, .int 0), (4, .ref qd), (3, .ref qo), (2, .ref am), (1, .ref x), (0, .ref b)]) hx hb dL_law_902 hl (by decide) rfl (fun ls hl => ?_)
  refine lv_aload_n hx hb dL_law_904 rfl (lv_at hl 4 rfl) ?_
  refine lv_aload_n hx hb dL_law_905 rfl (lv_at hl 6 rfl) ?_
  refine lv_iload hx hb dL_law_906 (lv_at hl 1 rfl) ?_
  refine lv_iconst (v := 1) hx hb dL_law_908 (by decide) ?_
  refine lv_iadd hx hb dL_law_909 ?_
  rw [show (0 + 1 : Int32) = 1 from by decide]
  refine va_sld hx hb hX hbl hbA hS (vp_in_iff.mpr (by decide)) dL_law_910 ?_
  refine kj_i (pmM _ _ _ _) (va_runV (As := [.int (xs (1 : Int32).toNatClampNeg)]) (rest := []) ⟨hx, hb, hml, hown, htT⟩ (m_hold_0 l D cA _ am r mZ (xs (1 : Int32).toNatClampNeg) (kIn_out0.mpr h1)) (cwV 1 htT (kg_V m_ml_L_163 m_im_X6_hold m_sl_X6_hold m_in_X6 m_cd_X6_hold) rfl rfl rfl (by decide +kernel) ⟨Nat.le_of_ble_eq_true rfl, Nat.le_of_ble_eq_true rfl⟩) (kj_V (pmM _ _ _ _) hK hP hD hTB (kj_rm (pmM _ _ _ _) hK hP)) rfl rfl hl.1 rfl (lv_room (Nat.le_of_ble_eq_true rfl)) dL_law_911 ⟨Nat.le_of_ble_eq_true rfl, Nat.le_of_ble_eq_true rfl⟩) hP hD hS hA (fun r_2 x_2 H locs hq_2 hP hD hS => ?_)
  rw [hq_2.1]
  rw [hq_2.2] at hP hD
  have hP := kj_P (pmM _ _ _ _).symm hP
  have hD := kj_D (pmM _ _ _ _).symm hD
  refine lv_istore (lv' := [(7, .int 0), (6, .int 1), (5, .int 0), (4, .ref qd), (3, .ref qo), (2, .ref am), (1, .ref x), (0, .ref b)]) hx hb dL_law_914 hl (by decide) rfl (fun ls hl => ?_)
  refine lv_aload_n hx hb dL_law_916 rfl (lv_at hl 5 rfl) ?_
  refine kj_i (pmM _ _ _ _) (va_runV (As := []) (rest := []) ⟨hx, hb, hml, hown, htT⟩ (m_thrown l D cA _ am r (mS (mS mZ 0 0) 0 1)) (cwV 0 htT (kg_V m_ml_L_130 m_im_X6_thrown m_sl_X6_thrown m_in_X6 m_cd_X6_thrown) rfl rfl rfl (by decide +kernel) ⟨Nat.le_of_ble_eq_true rfl, Nat.le_of_ble_eq_true rfl⟩) (kj_V (pmM _ _ _ _) hK hP hD hTB (kj_rm (pmM _ _ _ _) hK hP)) rfl rfl hl.1 rfl (lv_room (Nat.le_of_ble_eq_true rfl)) dL_law_917 ⟨Nat.le_of_ble_eq_true rfl, Nat.le_of_ble_eq_true rfl⟩) hP hD hS hA (fun r_3 x_3 H locs hq_3 hP hD hS => ?_)
  rw [hq_3.1.trans (show (mS (mS mZ 0 0) 0 1).1 0 = 1 from rfl)]
  rw [hq_3.2] at hP hD
  have hP := kj_P (pmM _ _ _ _).symm hP
  have hD := kj_D (pmM _ _ _ _).symm hD
  refine lv_iload hx hb dL_law_920 (lv_at hl 1 rfl) ?_
  refine lv_icmp_eq (tgt := 927) hx hb dL_law_922 (by decide) (fun _ => ?_) (fun c_4 => absurd c_4 (by decide))
  refine lv_iload hx hb dL_law_927 (lv_at hl 1 rfl) ?_
  refine lv_if_ne (tgt := 944) hx hb dL_law_929 (by decide) (fun _ => ?_) (fun c_5 => absurd c_5 (by decide))
  refine lv_goto (tgt := 2693) hx hb dL_law_944 (by decide) ?_
  exact law_end C0 hS (Nat.le_of_ble_eq_true rfl) (Nat.le_of_ble_eq_true rfl) (lv_sub hl [2, 7] rfl)

set_option maxRecDepth 100000 in
set_option maxHeartbeats 4000000 in
theorem law_hold (l : Launch) (hst : l.stackTraces = false) {p : Program} {e : Env} {s : State} {m : MethodId} {below : List Frame} {meth : Method} {c : Code} {b : Nat} {xs : Nat → Int32} (C0 : lw_At p s m meth c b 6 xs) {D : va_G} {cA : Nat → ClassId} (hK : va_K D vwCl (ty6 cA) s) (hTB : TBok s) (hTX : TXok (fun q : Nat => s.heap.size ≤ q) s) {S : Pool} {x ar qo qd am : Nat} {r : Nat → Nat} {fo : Nat → Int64} {fd : Nat → UInt64} {H : Heap} {locs : List Loc} {ls : Array Slot} (ho : isO S x 5) (hq0 : gQ S x 0 = some ar) (har : isA S ar 22 8) (hn : ∀ j, j < 8 → gP S ar j = none) (hnum : ∀ k, gI S x k = 0) (hP : va_P D vwCl (LW cA S qo fo qd fd am r mZ) H) (hD : va_D (fun q : Nat => s.heap.size ≤ q) (LW cA S qo fo qd fd am r mZ)) (hS : va_S (fun q : Nat => s.heap.size ≤ q) s.heap H locs) (hl : lv_has ls 9 [(5, .int 0), (4, .ref qd), (3, .ref qo), (2, .ref am), (1, .ref x), (0, .ref b)]) (h1 : kOut (xs (1 : Int32).toNatClampNeg) 0 1000 = 0) : W p l e room_1 s m #[Value.ref b] below meth c H locs 100 2000 (lw_Z below #[Value.ref b] s) (F0 m 891 ls []) := by
  obtain ⟨hx, hb, hr, hml, hown, hts, hX, hbl, hlocks, hgv⟩ := id C0
  have htT : ∀ w ∈ TT, w.before _ s = true := fun w h => hts w (tt_in h)
  have hA : ∀ q : Nat, s.heap.size ≤ q → (fun q : Nat => s.heap.size ≤ q) q := fun _ h => h
  have hbA : ¬ (fun q : Nat => s.heap.size ≤ q) b := Nat.not_le.mpr hbl
  refine lv_aload_n hx hb dL_law_891 rfl (lv_at hl 4 rfl) ?_
  refine lv_aload_n hx hb dL_law_892 rfl (lv_at hl 5 rfl) ?_
  refine lv_iload hx hb dL_law_893 (lv_at hl 0 rfl) ?_
  refine lv_iconst (v := 1) hx hb dL_law_895 (by decide) ?_
  refine lv_iadd hx hb dL_law_896 ?_
  rw [show (0 + 1 : Int32) = 1 from by decide]
  refine va_sld hx hb hX hbl hbA hS (vp_in_iff.mpr (by decide)) dL_law_897 ?_
  refine lv_aload_n hx hb dL_law_898 rfl (lv_at hl 2 rfl) ?_
  refine kj_i (pmJ _ _ _ _) (vx_runSW (As := [.ref x, .int (xs (1 : Int32).toNatClampNeg), .ref qo]) (rest := []) ⟨hx, hb, hml, hown, htT⟩ (w_hold l hst D cA _ S x qo fo ho (xs (1 : Int32).toNatClampNeg) h1) (vx_cwSW 3 htT (kg_SW m_ml_L_160 m_st_L_hold m_in_L m_cd_L_hold) rfl rfl rfl (by decide +kernel) ⟨Nat.le_of_ble_eq_true rfl, Nat.le_of_ble_eq_true rfl⟩) (kj_SX (pmJ _ _ _ _) hK hP hD hTB hTX hS hA) rfl rfl hl.1 rfl (lv_room (Nat.le_of_ble_eq_true rfl)) dL_law_899 ⟨Nat.le_of_ble_eq_true rfl, Nat.le_of_ble_eq_true rfl⟩) hP hD hS hA (fun r_1 x_1 H locs hq_1 hP hD hS => ?_)
  rw [hq_1.1]
  have e_1 := hq_1.2.2
  rw [hnum 4] at e_1
  rw [hq_1.2.1, e_1] at hP hD
  rw [List.append_assoc] at hP hD
  refine lv_istore (lv' := [(6, .int 0), (5, .int 0), (4, .ref qd), (3, .ref qo), (2, .ref am), (1, .ref x), (0, .ref b)]) hx hb dL_law_902 hl (by decide) rfl (fun ls hl => ?_)
  refine lv_aload_n hx hb dL_law_904 rfl (lv_at hl 4 rfl) ?_
  refine lv_aload_n hx hb dL_law_905 rfl (lv_at hl 6 rfl) ?_
  refine lv_iload hx hb dL_law_906 (lv_at hl 1 rfl) ?_
  refine lv_iconst (v := 1) hx hb dL_law_908 (by decide) ?_
  refine lv_iadd hx hb dL_law_909 ?_
  rw [show (0 + 1 : Int32) = 1 from by decide]
  refine va_sld hx hb hX hbl hbA hS (vp_in_iff.mpr (by decide)) dL_law_910 ?_
  refine kj_i (pmM _ _ _ _) (va_runV (As := [.int (xs (1 : Int32).toNatClampNeg)]) (rest := []) ⟨hx, hb, hml, hown, htT⟩ (m_hold l D cA _ am r mZ (xs (1 : Int32).toNatClampNeg) (kIn_out.mpr h1)) (cwV 1 htT (kg_V m_ml_L_163 m_im_X6_hold m_sl_X6_hold m_in_X6 m_cd_X6_hold) rfl rfl rfl (by decide +kernel) ⟨Nat.le_of_ble_eq_true rfl, Nat.le_of_ble_eq_true rfl⟩) (kj_V (pmM _ _ _ _) hK hP hD hTB (kj_rm (pmM _ _ _ _) hK hP)) rfl rfl hl.1 rfl (lv_room (Nat.le_of_ble_eq_true rfl)) dL_law_911 ⟨Nat.le_of_ble_eq_true rfl, Nat.le_of_ble_eq_true rfl⟩) hP hD hS hA (fun r_2 x_2 H locs hq_2 hP hD hS => ?_)
  rw [hq_2.1]
  rw [hq_2.2] at hP hD
  have hP := kj_P (pmM _ _ _ _).symm hP
  have hD := kj_D (pmM _ _ _ _).symm hD
  refine lv_istore (lv' := [(7, .int 0), (6, .int 0), (5, .int 0), (4, .ref qd), (3, .ref qo), (2, .ref am), (1, .ref x), (0, .ref b)]) hx hb dL_law_914 hl (by decide) rfl (fun ls hl => ?_)
  refine lv_aload_n hx hb dL_law_916 rfl (lv_at hl 5 rfl) ?_
  refine kj_i (pmM _ _ _ _) (va_runV (As := []) (rest := []) ⟨hx, hb, hml, hown, htT⟩ (m_thrown l D cA _ am r (mS (mS mZ 0 0) 2 (xs (1 : Int32).toNatClampNeg))) (cwV 0 htT (kg_V m_ml_L_130 m_im_X6_thrown m_sl_X6_thrown m_in_X6 m_cd_X6_thrown) rfl rfl rfl (by decide +kernel) ⟨Nat.le_of_ble_eq_true rfl, Nat.le_of_ble_eq_true rfl⟩) (kj_V (pmM _ _ _ _) hK hP hD hTB (kj_rm (pmM _ _ _ _) hK hP)) rfl rfl hl.1 rfl (lv_room (Nat.le_of_ble_eq_true rfl)) dL_law_917 ⟨Nat.le_of_ble_eq_true rfl, Nat.le_of_ble_eq_true rfl⟩) hP hD hS hA (fun r_3 x_3 H locs hq_3 hP hD hS => ?_)
  rw [hq_3.1.trans (show (mS (mS mZ 0 0) 2 (xs (1 : Int32).toNatClampNeg)).1 0 = 0 from rfl)]
  rw [hq_3.2] at hP hD
  have hP := kj_P (pmM _ _ _ _).symm hP
  have hD := kj_D (pmM _ _ _ _).symm hD
  refine lv_iload hx hb dL_law_920 (lv_at hl 1 rfl) ?_
  refine lv_icmp_eq (tgt := 927) hx hb dL_law_922 (by decide) (fun _ => ?_) (fun c_4 => absurd c_4 (by decide))
  refine lv_iload hx hb dL_law_927 (lv_at hl 1 rfl) ?_
  refine lv_if_ne (tgt := 944) hx hb dL_law_929 (by decide) (fun c_5 => absurd c_5 (by decide)) (fun _ => ?_)
  refine lv_aload_n hx hb dL_law_932 rfl (lv_at hl 4 rfl) ?_
  refine lv_iconst (v := 0) hx hb dL_law_933 (by decide) ?_
  refine kw_lald (v := (0 : Int32).toInt64) hx hb hK hP rfl dL_law_934 ?_
  refine lv_iload hx hb dL_law_935 (lv_at hl 0 rfl) ?_
  refine lv_i2l (v := 0) hx hb dL_law_937 (by decide) ?_
  refine W.lcmp hx hb dL_law_938 ?_
  refine lv_if_eq (tgt := 944) hx hb dL_law_939 (by decide) (fun c_6 => ?_) (fun c_6 => ?_)
  · refine lv_goto (tgt := 2693) hx hb dL_law_944 (by decide) ?_
    exact law_end C0 hS (Nat.le_of_ble_eq_true rfl) (Nat.le_of_ble_eq_true rfl) (lv_sub hl [2, 7] rfl)
  · exact absurd (lg_self _) c_6

set_option maxRecDepth 100000 in
set_option maxHeartbeats 4000000 in
theorem law_goOn_t (l : Launch) (hst : l.stackTraces = false) {p : Program} {e : Env} {s : State} {m : MethodId} {below : List Frame} {meth : Method} {c : Code} {b : Nat} {xs : Nat → Int32} (C0 : lw_At p s m meth c b 6 xs) {D : va_G} {cA : Nat → ClassId} (hK : va_K D vwCl (ty6 cA) s) (hTB : TBok s) (hTX : TXok (fun q : Nat => s.heap.size ≤ q) s) {S : Pool} {x ar qo qd am : Nat} {r : Nat → Nat} {fo : Nat → Int64} {fd : Nat → UInt64} {H : Heap} {locs : List Loc} {ls : Array Slot} (ho : isO S x 5) (hq0 : gQ S x 0 = some ar) (har : isA S ar 22 8) (hn : ∀ j, j < 8 → gP S ar j = none) (hnum : ∀ k, gI S x k = 0) (hP : va_P D vwCl (LW cA S qo fo qd fd am r mZ) H) (hD : va_D (fun q : Nat => s.heap.size ≤ q) (LW cA S qo fo qd fd am r mZ)) (hS : va_S (fun q : Nat => s.heap.size ≤ q) s.heap H locs) (hl : lv_has ls 9 [(5, .int 0), (4, .ref qd), (3, .ref qo), (2, .ref am), (1, .ref x), (0, .ref b)]) (h1 : kOut (xs (1 : Int32).toNatClampNeg) 1 100 = 1) : W p l e room_1 s m #[Value.ref b] below meth c H locs 100 2000 (lw_Z below #[Value.ref b] s) (F0 m 947 ls []) := by
  obtain ⟨hx, hb, hr, hml, hown, hts, hX, hbl, hlocks, hgv⟩ := id C0
  have htT : ∀ w ∈ TT, w.before _ s = true := fun w h => hts w (tt_in h)
  have hA : ∀ q : Nat, s.heap.size ≤ q → (fun q : Nat => s.heap.size ≤ q) q := fun _ h => h
  have hbA : ¬ (fun q : Nat => s.heap.size ≤ q) b := Nat.not_le.mpr hbl
  refine lv_aload_n hx hb dL_law_947 rfl (lv_at hl 4 rfl) ?_
  refine lv_aload_n hx hb dL_law_948 rfl (lv_at hl 5 rfl) ?_
  refine lv_iload hx hb dL_law_949 (lv_at hl 0 rfl) ?_
  refine lv_iconst (v := 1) hx hb dL_law_951 (by decide) ?_
  refine lv_iadd hx hb dL_law_952 ?_
  rw [show (0 + 1 : Int32) = 1 from by decide]
  refine va_sld hx hb hX hbl hbA hS (vp_in_iff.mpr (by decide)) dL_law_953 ?_
  refine lv_aload_n hx hb dL_law_954 rfl (lv_at hl 2 rfl) ?_
  refine kj_i (pmJ _ _ _ _) (vx_runSW (As := [.ref x, .int (xs (1 : Int32).toNatClampNeg), .ref qo]) (rest := []) ⟨hx, hb, hml, hown, htT⟩ (w_goOn_t l hst D cA _ S x qo fo ho (xs (1 : Int32).toNatClampNeg) h1) (vx_cwSW 3 htT (kg_SW m_ml_L_164 m_st_L_goOn m_in_L m_cd_L_goOn) rfl rfl rfl (by decide +kernel) ⟨Nat.le_of_ble_eq_true rfl, Nat.le_of_ble_eq_true rfl⟩) (kj_SX (pmJ _ _ _ _) hK hP hD hTB hTX hS hA) rfl rfl hl.1 rfl (lv_room (Nat.le_of_ble_eq_true rfl)) dL_law_955 ⟨Nat.le_of_ble_eq_true rfl, Nat.le_of_ble_eq_true rfl⟩) hP hD hS hA (fun r_1 x_1 H locs hq_1 hP hD hS => ?_)
  rw [hq_1.1]
  rw [hq_1.2.1, hq_1.2.2] at hP hD
  rw [List.append_assoc] at hP hD
  refine lv_istore (lv' := [(6, .int 1), (5, .int 0), (4, .ref qd), (3, .ref qo), (2, .ref am), (1, .ref x), (0, .ref b)]) hx hb dL_law_958 hl (by decide) rfl (fun ls hl => ?_)
  refine lv_aload_n hx hb dL_law_960 rfl (lv_at hl 4 rfl) ?_
  refine lv_aload_n hx hb dL_law_961 rfl (lv_at hl 6 rfl) ?_
  refine lv_iload hx hb dL_law_962 (lv_at hl 1 rfl) ?_
  refine lv_iconst (v := 1) hx hb dL_law_964 (by decide) ?_
  refine lv_iadd hx hb dL_law_965 ?_
  rw [show (0 + 1 : Int32) = 1 from by decide]
  refine va_sld hx hb hX hbl hbA hS (vp_in_iff.mpr (by decide)) dL_law_966 ?_
  refine kj_i (pmM _ _ _ _) (va_runV (As := [.int (xs (1 : Int32).toNatClampNeg)]) (rest := []) ⟨hx, hb, hml, hown, htT⟩ (m_goOn_0 l D cA _ am r mZ (xs (1 : Int32).toNatClampNeg) (kIn_out0.mpr h1)) (cwV 1 htT (kg_V m_ml_L_166 m_im_X6_goOn m_sl_X6_goOn m_in_X6 m_cd_X6_goOn) rfl rfl rfl (by decide +kernel) ⟨Nat.le_of_ble_eq_true rfl, Nat.le_of_ble_eq_true rfl⟩) (kj_V (pmM _ _ _ _) hK hP hD hTB (kj_rm (pmM _ _ _ _) hK hP)) rfl rfl hl.1 rfl (lv_room (Nat.le_of_ble_eq_true rfl)) dL_law_967 ⟨Nat.le_of_ble_eq_true rfl, Nat.le_of_ble_eq_true rfl⟩) hP hD hS hA (fun r_2 x_2 H locs hq_2 hP hD hS => ?_)
  rw [hq_2.1]
  rw [hq_2.2] at hP hD
  have hP := kj_P (pmM _ _ _ _).symm hP
  have hD := kj_D (pmM _ _ _ _).symm hD
  refine lv_istore (lv' := [(7, .int 0), (6, .int 1), (5, .int 0), (4, .ref qd), (3, .ref qo), (2, .ref am), (1, .ref x), (0, .ref b)]) hx hb dL_law_970 hl (by decide) rfl (fun ls hl => ?_)
  refine lv_aload_n hx hb dL_law_972 rfl (lv_at hl 5 rfl) ?_
  refine kj_i (pmM _ _ _ _) (va_runV (As := []) (rest := []) ⟨hx, hb, hml, hown, htT⟩ (m_thrown l D cA _ am r (mS (mS mZ 0 0) 0 1)) (cwV 0 htT (kg_V m_ml_L_130 m_im_X6_thrown m_sl_X6_thrown m_in_X6 m_cd_X6_thrown) rfl rfl rfl (by decide +kernel) ⟨Nat.le_of_ble_eq_true rfl, Nat.le_of_ble_eq_true rfl⟩) (kj_V (pmM _ _ _ _) hK hP hD hTB (kj_rm (pmM _ _ _ _) hK hP)) rfl rfl hl.1 rfl (lv_room (Nat.le_of_ble_eq_true rfl)) dL_law_973 ⟨Nat.le_of_ble_eq_true rfl, Nat.le_of_ble_eq_true rfl⟩) hP hD hS hA (fun r_3 x_3 H locs hq_3 hP hD hS => ?_)
  rw [hq_3.1.trans (show (mS (mS mZ 0 0) 0 1).1 0 = 1 from rfl)]
  rw [hq_3.2] at hP hD
  have hP := kj_P (pmM _ _ _ _).symm hP
  have hD := kj_D (pmM _ _ _ _).symm hD
  refine lv_iload hx hb dL_law_976 (lv_at hl 1 rfl) ?_
  refine lv_icmp_eq (tgt := 983) hx hb dL_law_978 (by decide) (fun _ => ?_) (fun c_4 => absurd c_4 (by decide))
  refine lv_iload hx hb dL_law_983 (lv_at hl 1 rfl) ?_
  refine lv_if_ne (tgt := 1000) hx hb dL_law_985 (by decide) (fun _ => ?_) (fun c_5 => absurd c_5 (by decide))
  refine lv_goto (tgt := 2693) hx hb dL_law_1000 (by decide) ?_
  exact law_end C0 hS (Nat.le_of_ble_eq_true rfl) (Nat.le_of_ble_eq_true rfl) (lv_sub hl [2, 7] rfl)

set_option maxRecDepth 100000 in
set_option maxHeartbeats 4000000 in
theorem law_goOn (l : Launch) (hst : l.stackTraces = false) {p : Program} {e : Env} {s : State} {m : MethodId} {below : List Frame} {meth : Method} {c : Code} {b : Nat} {xs : Nat → Int32} (C0 : lw_At p s m meth c b 6 xs) {D : va_G} {cA : Nat → ClassId} (hK : va_K D vwCl (ty6 cA) s) (hTB : TBok s) (hTX : TXok (fun q : Nat => s.heap.size ≤ q) s) {S : Pool} {x ar qo qd am : Nat} {r : Nat → Nat} {fo : Nat → Int64} {fd : Nat → UInt64} {H : Heap} {locs : List Loc} {ls : Array Slot} (ho : isO S x 5) (hq0 : gQ S x 0 = some ar) (har : isA S ar 22 8) (hn : ∀ j, j < 8 → gP S ar j = none) (hnum : ∀ k, gI S x k = 0) (hP : va_P D vwCl (LW cA S qo fo qd fd am r mZ) H) (hD : va_D (fun q : Nat => s.heap.size ≤ q) (LW cA S qo fo qd fd am r mZ)) (hS : va_S (fun q : Nat => s.heap.size ≤ q) s.heap H locs) (hl : lv_has ls 9 [(5, .int 0), (4, .ref qd), (3, .ref qo), (2, .ref am), (1, .ref x), (0, .ref b)]) (h1 : kOut (xs (1 : Int32).toNatClampNeg) 1 100 = 0) : W p l e room_1 s m #[Value.ref b] below meth c H locs 100 2000 (lw_Z below #[Value.ref b] s) (F0 m 947 ls []) := by
  obtain ⟨hx, hb, hr, hml, hown, hts, hX, hbl, hlocks, hgv⟩ := id C0
  have htT : ∀ w ∈ TT, w.before _ s = true := fun w h => hts w (tt_in h)
  have hA : ∀ q : Nat, s.heap.size ≤ q → (fun q : Nat => s.heap.size ≤ q) q := fun _ h => h
  have hbA : ¬ (fun q : Nat => s.heap.size ≤ q) b := Nat.not_le.mpr hbl
  refine lv_aload_n hx hb dL_law_947 rfl (lv_at hl 4 rfl) ?_
  refine lv_aload_n hx hb dL_law_948 rfl (lv_at hl 5 rfl) ?_
  refine lv_iload hx hb dL_law_949 (lv_at hl 0 rfl) ?_
  refine lv_iconst (v := 1) hx hb dL_law_951 (by decide) ?_
  refine lv_iadd hx hb dL_law_952 ?_
  rw [show (0 + 1 : Int32) = 1 from by decide]
  refine va_sld hx hb hX hbl hbA hS (vp_in_iff.mpr (by decide)) dL_law_953 ?_
  refine lv_aload_n hx hb dL_law_954 rfl (lv_at hl 2 rfl) ?_
  refine kj_i (pmJ _ _ _ _) (vx_runSW (As := [.ref x, .int (xs (1 : Int32).toNatClampNeg), .ref qo]) (rest := []) ⟨hx, hb, hml, hown, htT⟩ (w_goOn l hst D cA _ S x qo fo ho (xs (1 : Int32).toNatClampNeg) h1) (vx_cwSW 3 htT (kg_SW m_ml_L_164 m_st_L_goOn m_in_L m_cd_L_goOn) rfl rfl rfl (by decide +kernel) ⟨Nat.le_of_ble_eq_true rfl, Nat.le_of_ble_eq_true rfl⟩) (kj_SX (pmJ _ _ _ _) hK hP hD hTB hTX hS hA) rfl rfl hl.1 rfl (lv_room (Nat.le_of_ble_eq_true rfl)) dL_law_955 ⟨Nat.le_of_ble_eq_true rfl, Nat.le_of_ble_eq_true rfl⟩) hP hD hS hA (fun r_1 x_1 H locs hq_1 hP hD hS => ?_)
  rw [hq_1.1]
  have e_1 := hq_1.2.2
  rw [hnum 5] at e_1
  rw [hq_1.2.1, e_1] at hP hD
  rw [List.append_assoc] at hP hD
  refine lv_istore (lv' := [(6, .int 0), (5, .int 0), (4, .ref qd), (3, .ref qo), (2, .ref am), (1, .ref x), (0, .ref b)]) hx hb dL_law_958 hl (by decide) rfl (fun ls hl => ?_)
  refine lv_aload_n hx hb dL_law_960 rfl (lv_at hl 4 rfl) ?_
  refine lv_aload_n hx hb dL_law_961 rfl (lv_at hl 6 rfl) ?_
  refine lv_iload hx hb dL_law_962 (lv_at hl 1 rfl) ?_
  refine lv_iconst (v := 1) hx hb dL_law_964 (by decide) ?_
  refine lv_iadd hx hb dL_law_965 ?_
  rw [show (0 + 1 : Int32) = 1 from by decide]
  refine va_sld hx hb hX hbl hbA hS (vp_in_iff.mpr (by decide)) dL_law_966 ?_
  refine kj_i (pmM _ _ _ _) (va_runV (As := [.int (xs (1 : Int32).toNatClampNeg)]) (rest := []) ⟨hx, hb, hml, hown, htT⟩ (m_goOn l D cA _ am r mZ (xs (1 : Int32).toNatClampNeg) (kIn_out.mpr h1)) (cwV 1 htT (kg_V m_ml_L_166 m_im_X6_goOn m_sl_X6_goOn m_in_X6 m_cd_X6_goOn) rfl rfl rfl (by decide +kernel) ⟨Nat.le_of_ble_eq_true rfl, Nat.le_of_ble_eq_true rfl⟩) (kj_V (pmM _ _ _ _) hK hP hD hTB (kj_rm (pmM _ _ _ _) hK hP)) rfl rfl hl.1 rfl (lv_room (Nat.le_of_ble_eq_true rfl)) dL_law_967 ⟨Nat.le_of_ble_eq_true rfl, Nat.le_of_ble_eq_true rfl⟩) hP hD hS hA (fun r_2 x_2 H locs hq_2 hP hD hS => ?_)
  rw [hq_2.1.trans (show mZ.1 1 + (xs (1 : Int32).toNatClampNeg) = 0 + (xs (1 : Int32).toNatClampNeg) from rfl)]
  rw [hq_2.2] at hP hD
  have hP := kj_P (pmM _ _ _ _).symm hP
  have hD := kj_D (pmM _ _ _ _).symm hD
  refine lv_istore (lv' := [(7, .int (0 + (xs (1 : Int32).toNatClampNeg))), (6, .int 0), (5, .int 0), (4, .ref qd), (3, .ref qo), (2, .ref am), (1, .ref x), (0, .ref b)]) hx hb dL_law_970 hl (by decide) rfl (fun ls hl => ?_)
  refine lv_aload_n hx hb dL_law_972 rfl (lv_at hl 5 rfl) ?_
  refine kj_i (pmM _ _ _ _) (va_runV (As := []) (rest := []) ⟨hx, hb, hml, hown, htT⟩ (m_thrown l D cA _ am r (mS (mS mZ 0 0) 1 (mZ.1 1 + (xs (1 : Int32).toNatClampNeg)))) (cwV 0 htT (kg_V m_ml_L_130 m_im_X6_thrown m_sl_X6_thrown m_in_X6 m_cd_X6_thrown) rfl rfl rfl (by decide +kernel) ⟨Nat.le_of_ble_eq_true rfl, Nat.le_of_ble_eq_true rfl⟩) (kj_V (pmM _ _ _ _) hK hP hD hTB (kj_rm (pmM _ _ _ _) hK hP)) rfl rfl hl.1 rfl (lv_room (Nat.le_of_ble_eq_true rfl)) dL_law_973 ⟨Nat.le_of_ble_eq_true rfl, Nat.le_of_ble_eq_true rfl⟩) hP hD hS hA (fun r_3 x_3 H locs hq_3 hP hD hS => ?_)
  rw [hq_3.1.trans (show (mS (mS mZ 0 0) 1 (mZ.1 1 + (xs (1 : Int32).toNatClampNeg))).1 0 = 0 from rfl)]
  rw [hq_3.2] at hP hD
  have hP := kj_P (pmM _ _ _ _).symm hP
  have hD := kj_D (pmM _ _ _ _).symm hD
  refine lv_iload hx hb dL_law_976 (lv_at hl 1 rfl) ?_
  refine lv_icmp_eq (tgt := 983) hx hb dL_law_978 (by decide) (fun _ => ?_) (fun c_4 => absurd c_4 (by decide))
  refine lv_iload hx hb dL_law_983 (lv_at hl 1 rfl) ?_
  refine lv_if_ne (tgt := 1000) hx hb dL_law_985 (by decide) (fun c_5 => absurd c_5 (by decide)) (fun _ => ?_)
  refine lv_aload_n hx hb dL_law_988 rfl (lv_at hl 4 rfl) ?_
  refine lv_iconst (v := 0) hx hb dL_law_989 (by decide) ?_
  refine kw_lald (v := (0 + (xs (1 : Int32).toNatClampNeg)).toInt64) hx hb hK hP rfl dL_law_990 ?_
  refine lv_iload hx hb dL_law_991 (lv_at hl 0 rfl) ?_
  refine lv_i2l (v := (0 + (xs (1 : Int32).toNatClampNeg)).toInt64) hx hb dL_law_993 rfl ?_
  refine W.lcmp hx hb dL_law_994 ?_
  refine lv_if_eq (tgt := 1000) hx hb dL_law_995 (by decide) (fun c_6 => ?_) (fun c_6 => ?_)
  · refine lv_goto (tgt := 2693) hx hb dL_law_1000 (by decide) ?_
    exact law_end C0 hS (Nat.le_of_ble_eq_true rfl) (Nat.le_of_ble_eq_true rfl) (lv_sub hl [2, 7] rfl)
  · exact absurd (lg_self _) c_6

set_option maxRecDepth 100000 in
set_option maxHeartbeats 4000000 in
theorem law_left_t (l : Launch) (hst : l.stackTraces = false) {p : Program} {e : Env} {s : State} {m : MethodId} {below : List Frame} {meth : Method} {c : Code} {b : Nat} {xs : Nat → Int32} (C0 : lw_At p s m meth c b 6 xs) {D : va_G} {cA : Nat → ClassId} (hK : va_K D vwCl (ty6 cA) s) (hTB : TBok s) (hTX : TXok (fun q : Nat => s.heap.size ≤ q) s) {S : Pool} {x ar qo qd am : Nat} {r : Nat → Nat} {fo : Nat → Int64} {fd : Nat → UInt64} {H : Heap} {locs : List Loc} {ls : Array Slot} (ho : isO S x 5) (hq0 : gQ S x 0 = some ar) (har : isA S ar 22 8) (hn : ∀ j, j < 8 → gP S ar j = none) (hnum : ∀ k, gI S x k = 0) (hP : va_P D vwCl (LW cA S qo fo qd fd am r mZ) H) (hD : va_D (fun q : Nat => s.heap.size ≤ q) (LW cA S qo fo qd fd am r mZ)) (hS : va_S (fun q : Nat => s.heap.size ≤ q) s.heap H locs) (hl : lv_has ls 9 [(5, .int 0), (4, .ref qd), (3, .ref qo), (2, .ref am), (1, .ref x), (0, .ref b)]) (h1 : kOut (xs (1 : Int32).toNatClampNeg) 0 2 = 1) : W p l e room_1 s m #[Value.ref b] below meth c H locs 100 2000 (lw_Z below #[Value.ref b] s) (F0 m 1140 ls []) := by
  obtain ⟨hx, hb, hr, hml, hown, hts, hX, hbl, hlocks, hgv⟩ := id C0
  have htT : ∀ w ∈ TT, w.before _ s = true := fun w h => hts w (tt_in h)
  have hA : ∀ q : Nat, s.heap.size ≤ q → (fun q : Nat => s.heap.size ≤ q) q := fun _ h => h
  have hbA : ¬ (fun q : Nat => s.heap.size ≤ q) b := Nat.not_le.mpr hbl
  refine lv_aload_n hx hb dL_law_1140 rfl (lv_at hl 4 rfl) ?_
  refine lv_aload_n hx hb dL_law_1141 rfl (lv_at hl 5 rfl) ?_
  refine lv_iload hx hb dL_law_1142 (lv_at hl 0 rfl) ?_
  refine lv_iconst (v := 1) hx hb dL_law_1144 (by decide) ?_
  refine lv_iadd hx hb dL_law_1145 ?_
  rw [show (0 + 1 : Int32) = 1 from by decide]
  refine va_sld hx hb hX hbl hbA hS (vp_in_iff.mpr (by decide)) dL_law_1146 ?_
  refine lv_aload_n hx hb dL_law_1147 rfl (lv_at hl 2 rfl) ?_
  refine kj_i (pmJ _ _ _ _) (vx_runSW (As := [.ref x, .int (xs (1 : Int32).toNatClampNeg), .ref qo]) (rest := []) ⟨hx, hb, hml, hown, htT⟩ (w_left_t l hst D cA _ S x qo fo ho (xs (1 : Int32).toNatClampNeg) h1) (vx_cwSW 3 htT (kg_SW m_ml_L_177 m_st_L_left m_in_L m_cd_L_left) rfl rfl rfl (by decide +kernel) ⟨Nat.le_of_ble_eq_true rfl, Nat.le_of_ble_eq_true rfl⟩) (kj_SX (pmJ _ _ _ _) hK hP hD hTB hTX hS hA) rfl rfl hl.1 rfl (lv_room (Nat.le_of_ble_eq_true rfl)) dL_law_1148 ⟨Nat.le_of_ble_eq_true rfl, Nat.le_of_ble_eq_true rfl⟩) hP hD hS hA (fun r_1 x_1 H locs hq_1 hP hD hS => ?_)
  rw [hq_1.1]
  rw [hq_1.2.1, hq_1.2.2] at hP hD
  rw [List.append_assoc] at hP hD
  refine lv_istore (lv' := [(6, .int 1), (5, .int 0), (4, .ref qd), (3, .ref qo), (2, .ref am), (1, .ref x), (0, .ref b)]) hx hb dL_law_1151 hl (by decide) rfl (fun ls hl => ?_)
  refine lv_aload_n hx hb dL_law_1153 rfl (lv_at hl 4 rfl) ?_
  refine lv_aload_n hx hb dL_law_1154 rfl (lv_at hl 6 rfl) ?_
  refine lv_iload hx hb dL_law_1155 (lv_at hl 1 rfl) ?_
  refine lv_iconst (v := 1) hx hb dL_law_1157 (by decide) ?_
  refine lv_iadd hx hb dL_law_1158 ?_
  rw [show (0 + 1 : Int32) = 1 from by decide]
  refine va_sld hx hb hX hbl hbA hS (vp_in_iff.mpr (by decide)) dL_law_1159 ?_
  refine kj_i (pmM _ _ _ _) (va_runV (As := [.int (xs (1 : Int32).toNatClampNeg)]) (rest := []) ⟨hx, hb, hml, hown, htT⟩ (m_left_0 l D cA _ am r mZ (xs (1 : Int32).toNatClampNeg) (kIn_out0.mpr h1)) (cwV 1 htT (kg_V m_ml_L_179 m_im_X6_left m_sl_X6_left m_in_X6 m_cd_X6_left) rfl rfl rfl (by decide +kernel) ⟨Nat.le_of_ble_eq_true rfl, Nat.le_of_ble_eq_true rfl⟩) (kj_V (pmM _ _ _ _) hK hP hD hTB (kj_rm (pmM _ _ _ _) hK hP)) rfl rfl hl.1 rfl (lv_room (Nat.le_of_ble_eq_true rfl)) dL_law_1160 ⟨Nat.le_of_ble_eq_true rfl, Nat.le_of_ble_eq_true rfl⟩) hP hD hS hA (fun r_2 x_2 H locs hq_2 hP hD hS => ?_)
  rw [hq_2.1]
  rw [hq_2.2] at hP hD
  have hP := kj_P (pmM _ _ _ _).symm hP
  have hD := kj_D (pmM _ _ _ _).symm hD
  refine lv_istore (lv' := [(7, .int 0), (6, .int 1), (5, .int 0), (4, .ref qd), (3, .ref qo), (2, .ref am), (1, .ref x), (0, .ref b)]) hx hb dL_law_1163 hl (by decide) rfl (fun ls hl => ?_)
  refine lv_aload_n hx hb dL_law_1165 rfl (lv_at hl 5 rfl) ?_
  refine kj_i (pmM _ _ _ _) (va_runV (As := []) (rest := []) ⟨hx, hb, hml, hown, htT⟩ (m_thrown l D cA _ am r (mS (mS mZ 0 0) 0 1)) (cwV 0 htT (kg_V m_ml_L_130 m_im_X6_thrown m_sl_X6_thrown m_in_X6 m_cd_X6_thrown) rfl rfl rfl (by decide +kernel) ⟨Nat.le_of_ble_eq_true rfl, Nat.le_of_ble_eq_true rfl⟩) (kj_V (pmM _ _ _ _) hK hP hD hTB (kj_rm (pmM _ _ _ _) hK hP)) rfl rfl hl.1 rfl (lv_room (Nat.le_of_ble_eq_true rfl)) dL_law_1166 ⟨Nat.le_of_ble_eq_true rfl, Nat.le_of_ble_eq_true rfl⟩) hP hD hS hA (fun r_3 x_3 H locs hq_3 hP hD hS => ?_)
  rw [hq_3.1.trans (show (mS (mS mZ 0 0) 0 1).1 0 = 1 from rfl)]
  rw [hq_3.2] at hP hD
  have hP := kj_P (pmM _ _ _ _).symm hP
  have hD := kj_D (pmM _ _ _ _).symm hD
  refine lv_iload hx hb dL_law_1169 (lv_at hl 1 rfl) ?_
  refine lv_icmp_eq (tgt := 1176) hx hb dL_law_1171 (by decide) (fun _ => ?_) (fun c_4 => absurd c_4 (by decide))
  refine lv_iload hx hb dL_law_1176 (lv_at hl 1 rfl) ?_
  refine lv_if_ne (tgt := 1193) hx hb dL_law_1178 (by decide) (fun _ => ?_) (fun c_5 => absurd c_5 (by decide))
  refine lv_goto (tgt := 2693) hx hb dL_law_1193 (by decide) ?_
  exact law_end C0 hS (Nat.le_of_ble_eq_true rfl) (Nat.le_of_ble_eq_true rfl) (lv_sub hl [2, 7] rfl)

set_option maxRecDepth 100000 in
set_option maxHeartbeats 4000000 in
theorem law_left (l : Launch) (hst : l.stackTraces = false) {p : Program} {e : Env} {s : State} {m : MethodId} {below : List Frame} {meth : Method} {c : Code} {b : Nat} {xs : Nat → Int32} (C0 : lw_At p s m meth c b 6 xs) {D : va_G} {cA : Nat → ClassId} (hK : va_K D vwCl (ty6 cA) s) (hTB : TBok s) (hTX : TXok (fun q : Nat => s.heap.size ≤ q) s) {S : Pool} {x ar qo qd am : Nat} {r : Nat → Nat} {fo : Nat → Int64} {fd : Nat → UInt64} {H : Heap} {locs : List Loc} {ls : Array Slot} (ho : isO S x 5) (hq0 : gQ S x 0 = some ar) (har : isA S ar 22 8) (hn : ∀ j, j < 8 → gP S ar j = none) (hnum : ∀ k, gI S x k = 0) (hP : va_P D vwCl (LW cA S qo fo qd fd am r mZ) H) (hD : va_D (fun q : Nat => s.heap.size ≤ q) (LW cA S qo fo qd fd am r mZ)) (hS : va_S (fun q : Nat => s.heap.size ≤ q) s.heap H locs) (hl : lv_has ls 9 [(5, .int 0), (4, .ref qd), (3, .ref qo), (2, .ref am), (1, .ref x), (0, .ref b)]) (h1 : kOut (xs (1 : Int32).toNatClampNeg) 0 2 = 0) : W p l e room_1 s m #[Value.ref b] below meth c H locs 100 2000 (lw_Z below #[Value.ref b] s) (F0 m 1140 ls []) := by
  obtain ⟨hx, hb, hr, hml, hown, hts, hX, hbl, hlocks, hgv⟩ := id C0
  have htT : ∀ w ∈ TT, w.before _ s = true := fun w h => hts w (tt_in h)
  have hA : ∀ q : Nat, s.heap.size ≤ q → (fun q : Nat => s.heap.size ≤ q) q := fun _ h => h
  have hbA : ¬ (fun q : Nat => s.heap.size ≤ q) b := Nat.not_le.mpr hbl
  refine lv_aload_n hx hb dL_law_1140 rfl (lv_at hl 4 rfl) ?_
  refine lv_aload_n hx hb dL_law_1141 rfl (lv_at hl 5 rfl) ?_
  refine lv_iload hx hb dL_law_1142 (lv_at hl 0 rfl) ?_
  refine lv_iconst (v := 1) hx hb dL_law_1144 (by decide) ?_
  refine lv_iadd hx hb dL_law_1145 ?_
  rw [show (0 + 1 : Int32) = 1 from by decide]
  refine va_sld hx hb hX hbl hbA hS (vp_in_iff.mpr (by decide)) dL_law_1146 ?_
  refine lv_aload_n hx hb dL_law_1147 rfl (lv_at hl 2 rfl) ?_
  refine kj_i (pmJ _ _ _ _) (vx_runSW (As := [.ref x, .int (xs (1 : Int32).toNatClampNeg), .ref qo]) (rest := []) ⟨hx, hb, hml, hown, htT⟩ (w_left_0 l hst D cA _ S x qo fo ho ar hq0 har (xs (1 : Int32).toNatClampNeg) hn h1) (vx_cwSW 3 htT (kg_SW m_ml_L_177 m_st_L_left m_in_L m_cd_L_left) rfl rfl rfl (by decide +kernel) ⟨Nat.le_of_ble_eq_true rfl, Nat.le_of_ble_eq_true rfl⟩) (kj_SX (pmJ _ _ _ _) hK hP hD hTB hTX hS hA) rfl rfl hl.1 rfl (lv_room (Nat.le_of_ble_eq_true rfl)) dL_law_1148 ⟨Nat.le_of_ble_eq_true rfl, Nat.le_of_ble_eq_true rfl⟩) hP hD hS hA (fun r_1 x_1 H locs hq_1 hP hD hS => ?_)
  rw [hq_1.1]
  have e_1 := hq_1.2.2
  rw [hq_1.2.1, e_1] at hP hD
  rw [List.append_assoc] at hP hD
  refine lv_istore (lv' := [(6, .int 0), (5, .int 0), (4, .ref qd), (3, .ref qo), (2, .ref am), (1, .ref x), (0, .ref b)]) hx hb dL_law_1151 hl (by decide) rfl (fun ls hl => ?_)
  refine lv_aload_n hx hb dL_law_1153 rfl (lv_at hl 4 rfl) ?_
  refine lv_aload_n hx hb dL_law_1154 rfl (lv_at hl 6 rfl) ?_
  refine lv_iload hx hb dL_law_1155 (lv_at hl 1 rfl) ?_
  refine lv_iconst (v := 1) hx hb dL_law_1157 (by decide) ?_
  refine lv_iadd hx hb dL_law_1158 ?_
  rw [show (0 + 1 : Int32) = 1 from by decide]
  refine va_sld hx hb hX hbl hbA hS (vp_in_iff.mpr (by decide)) dL_law_1159 ?_
  refine kj_i (pmM _ _ _ _) (va_runV (As := [.int (xs (1 : Int32).toNatClampNeg)]) (rest := []) ⟨hx, hb, hml, hown, htT⟩ (m_left_e l D cA _ am r mZ (xs (1 : Int32).toNatClampNeg) rfl (kIn_out.mpr h1)) (cwV 1 htT (kg_V m_ml_L_179 m_im_X6_left m_sl_X6_left m_in_X6 m_cd_X6_left) rfl rfl rfl (by decide +kernel) ⟨Nat.le_of_ble_eq_true rfl, Nat.le_of_ble_eq_true rfl⟩) (kj_V (pmM _ _ _ _) hK hP hD hTB (kj_rm (pmM _ _ _ _) hK hP)) rfl rfl hl.1 rfl (lv_room (Nat.le_of_ble_eq_true rfl)) dL_law_1160 ⟨Nat.le_of_ble_eq_true rfl, Nat.le_of_ble_eq_true rfl⟩) hP hD hS hA (fun r_2 x_2 H locs hq_2 hP hD hS => ?_)
  rw [hq_2.1]
  rw [hq_2.2] at hP hD
  have hP := kj_P (pmM _ _ _ _).symm hP
  have hD := kj_D (pmM _ _ _ _).symm hD
  refine lv_istore (lv' := [(7, .int 1000), (6, .int 0), (5, .int 0), (4, .ref qd), (3, .ref qo), (2, .ref am), (1, .ref x), (0, .ref b)]) hx hb dL_law_1163 hl (by decide) rfl (fun ls hl => ?_)
  refine lv_aload_n hx hb dL_law_1165 rfl (lv_at hl 5 rfl) ?_
  refine kj_i (pmM _ _ _ _) (va_runV (As := []) (rest := []) ⟨hx, hb, hml, hown, htT⟩ (m_thrown l D cA _ am r (mS mZ 0 0)) (cwV 0 htT (kg_V m_ml_L_130 m_im_X6_thrown m_sl_X6_thrown m_in_X6 m_cd_X6_thrown) rfl rfl rfl (by decide +kernel) ⟨Nat.le_of_ble_eq_true rfl, Nat.le_of_ble_eq_true rfl⟩) (kj_V (pmM _ _ _ _) hK hP hD hTB (kj_rm (pmM _ _ _ _) hK hP)) rfl rfl hl.1 rfl (lv_room (Nat.le_of_ble_eq_true rfl)) dL_law_1166 ⟨Nat.le_of_ble_eq_true rfl, Nat.le_of_ble_eq_true rfl⟩) hP hD hS hA (fun r_3 x_3 H locs hq_3 hP hD hS => ?_)
  rw [hq_3.1.trans (show (mS mZ 0 0).1 0 = 0 from rfl)]
  rw [hq_3.2] at hP hD
  have hP := kj_P (pmM _ _ _ _).symm hP
  have hD := kj_D (pmM _ _ _ _).symm hD
  refine lv_iload hx hb dL_law_1169 (lv_at hl 1 rfl) ?_
  refine lv_icmp_eq (tgt := 1176) hx hb dL_law_1171 (by decide) (fun _ => ?_) (fun c_4 => absurd c_4 (by decide))
  refine lv_iload hx hb dL_law_1176 (lv_at hl 1 rfl) ?_
  refine lv_if_ne (tgt := 1193) hx hb dL_law_1178 (by decide) (fun c_5 => absurd c_5 (by decide)) (fun _ => ?_)
  refine lv_aload_n hx hb dL_law_1181 rfl (lv_at hl 4 rfl) ?_
  refine lv_iconst (v := 0) hx hb dL_law_1182 (by decide) ?_
  refine kw_lald (v := (1000 : Int32).toInt64) hx hb hK hP rfl dL_law_1183 ?_
  refine lv_iload hx hb dL_law_1184 (lv_at hl 0 rfl) ?_
  refine lv_i2l (v := 1000) hx hb dL_law_1186 (by decide) ?_
  refine W.lcmp hx hb dL_law_1187 ?_
  refine lv_if_eq (tgt := 1193) hx hb dL_law_1188 (by decide) (fun c_6 => ?_) (fun c_6 => ?_)
  · refine lv_goto (tgt := 2693) hx hb dL_law_1193 (by decide) ?_
    exact law_end C0 hS (Nat.le_of_ble_eq_true rfl) (Nat.le_of_ble_eq_true rfl) (lv_sub hl [2, 7] rfl)
  · exact absurd (lg_self _) c_6

set_option maxRecDepth 100000 in
set_option maxHeartbeats 4000000 in
theorem law_bucket_1 (l : Launch) (hst : l.stackTraces = false) {p : Program} {e : Env} {s : State} {m : MethodId} {below : List Frame} {meth : Method} {c : Code} {b : Nat} {xs : Nat → Int32} (C0 : lw_At p s m meth c b 6 xs) {D : va_G} {cA : Nat → ClassId} (hK : va_K D vwCl (ty6 cA) s) (hTB : TBok s) (hTX : TXok (fun q : Nat => s.heap.size ≤ q) s) {S : Pool} {x ar qo qd am : Nat} {r : Nat → Nat} {fo : Nat → Int64} {fd : Nat → UInt64} {H : Heap} {locs : List Loc} {ls : Array Slot} (ho : isO S x 5) (hq0 : gQ S x 0 = some ar) (har : isA S ar 22 8) (hn : ∀ j, j < 8 → gP S ar j = none) (hnum : ∀ k, gI S x k = 0) (hP : va_P D vwCl (LW cA S qo fo qd fd am r mZ) H) (hD : va_D (fun q : Nat => s.heap.size ≤ q) (LW cA S qo fo qd fd am r mZ)) (hS : va_S (fun q : Nat => s.heap.size ≤ q) s.heap H locs) (hl : lv_has ls 9 [(5, .int 0), (4, .ref qd), (3, .ref qo), (2, .ref am), (1, .ref x), (0, .ref b)]) (h1 : kOut (xs (1 : Int32).toNatClampNeg) 0 999 = 1) : W p l e room_1 s m #[Value.ref b] below meth c H locs 100 2000 (lw_Z below #[Value.ref b] s) (F0 m 1196 ls []) := by
  obtain ⟨hx, hb, hr, hml, hown, hts, hX, hbl, hlocks, hgv⟩ := id C0
  have htT : ∀ w ∈ TT, w.before _ s = true := fun w h => hts w (tt_in h)
  have hA : ∀ q : Nat, s.heap.size ≤ q → (fun q : Nat => s.heap.size ≤ q) q := fun _ h => h
  have hbA : ¬ (fun q : Nat => s.heap.size ≤ q) b := Nat.not_le.mpr hbl
  refine lv_aload_n hx hb dL_law_1196 rfl (lv_at hl 4 rfl) ?_
  refine lv_aload_n hx hb dL_law_1197 rfl (lv_at hl 5 rfl) ?_
  refine lv_iload hx hb dL_law_1198 (lv_at hl 0 rfl) ?_
  refine lv_iconst (v := 1) hx hb dL_law_1200 (by decide) ?_
  refine lv_iadd hx hb dL_law_1201 ?_
  rw [show (0 + 1 : Int32) = 1 from by decide]
  refine va_sld hx hb hX hbl hbA hS (vp_in_iff.mpr (by decide)) dL_law_1202 ?_
  refine lv_aload_n hx hb dL_law_1203 rfl (lv_at hl 5 rfl) ?_
  refine lv_iload hx hb dL_law_1204 (lv_at hl 0 rfl) ?_
  refine lv_iconst (v := 2) hx hb dL_law_1206 (by decide) ?_
  refine lv_iadd hx hb dL_law_1207 ?_
  rw [show (0 + 2 : Int32) = 2 from by decide]
  refine va_sld hx hb hX hbl hbA hS (vp_in_iff.mpr (by decide)) dL_law_1208 ?_
  refine lv_aload_n hx hb dL_law_1209 rfl (lv_at hl 2 rfl) ?_
  refine kj_i (pmJ _ _ _ _) (vx_runSW (As := [.ref x, .int (xs (1 : Int32).toNatClampNeg), .int (xs (2 : Int32).toNatClampNeg), .ref qo]) (rest := []) ⟨hx, hb, hml, hown, htT⟩ (w_bucket_t1 l hst D cA _ S x qo fo ho (xs (1 : Int32).toNatClampNeg) (xs (2 : Int32).toNatClampNeg) h1) (vx_cwSW 4 htT (kg_SW m_ml_L_180 m_st_L_bucket m_in_L m_cd_L_bucket) rfl rfl rfl (by decide +kernel) ⟨Nat.le_of_ble_eq_true rfl, Nat.le_of_ble_eq_true rfl⟩) (kj_SX (pmJ _ _ _ _) hK hP hD hTB hTX hS hA) rfl rfl hl.1 rfl (lv_room (Nat.le_of_ble_eq_true rfl)) dL_law_1210 ⟨Nat.le_of_ble_eq_true rfl, Nat.le_of_ble_eq_true rfl⟩) hP hD hS hA (fun r_1 x_1 H locs hq_1 hP hD hS => ?_)
  rw [hq_1.1]
  rw [hq_1.2.1, hq_1.2.2] at hP hD
  rw [List.append_assoc] at hP hD
  refine lv_istore (lv' := [(6, .int 1), (5, .int 0), (4, .ref qd), (3, .ref qo), (2, .ref am), (1, .ref x), (0, .ref b)]) hx hb dL_law_1213 hl (by decide) rfl (fun ls hl => ?_)
  refine lv_aload_n hx hb dL_law_1215 rfl (lv_at hl 4 rfl) ?_
  refine lv_aload_n hx hb dL_law_1216 rfl (lv_at hl 6 rfl) ?_
  refine lv_iload hx hb dL_law_1217 (lv_at hl 1 rfl) ?_
  refine lv_iconst (v := 1) hx hb dL_law_1219 (by decide) ?_
  refine lv_iadd hx hb dL_law_1220 ?_
  rw [show (0 + 1 : Int32) = 1 from by decide]
  refine va_sld hx hb hX hbl hbA hS (vp_in_iff.mpr (by decide)) dL_law_1221 ?_
  refine lv_aload_n hx hb dL_law_1222 rfl (lv_at hl 6 rfl) ?_
  refine lv_iload hx hb dL_law_1223 (lv_at hl 1 rfl) ?_
  refine lv_iconst (v := 2) hx hb dL_law_1225 (by decide) ?_
  refine lv_iadd hx hb dL_law_1226 ?_
  rw [show (0 + 2 : Int32) = 2 from by decide]
  refine va_sld hx hb hX hbl hbA hS (vp_in_iff.mpr (by decide)) dL_law_1227 ?_
  refine kj_i (pmM _ _ _ _) (va_runV (As := [.int (xs (1 : Int32).toNatClampNeg), .int (xs (2 : Int32).toNatClampNeg)]) (rest := []) ⟨hx, hb, hml, hown, htT⟩ (m_bucket_1 l D cA _ am r mZ (xs (1 : Int32).toNatClampNeg) (xs (2 : Int32).toNatClampNeg) (kIn_out0.mpr h1)) (cwV 2 htT (kg_V m_ml_L_182 m_im_X6_bucket m_sl_X6_bucket m_in_X6 m_cd_X6_bucket) rfl rfl rfl (by decide +kernel) ⟨Nat.le_of_ble_eq_true rfl, Nat.le_of_ble_eq_true rfl⟩) (kj_V (pmM _ _ _ _) hK hP hD hTB (kj_rm (pmM _ _ _ _) hK hP)) rfl rfl hl.1 rfl (lv_room (Nat.le_of_ble_eq_true rfl)) dL_law_1228 ⟨Nat.le_of_ble_eq_true rfl, Nat.le_of_ble_eq_true rfl⟩) hP hD hS hA (fun r_2 x_2 H locs hq_2 hP hD hS => ?_)
  rw [hq_2.1]
  rw [hq_2.2] at hP hD
  have hP := kj_P (pmM _ _ _ _).symm hP
  have hD := kj_D (pmM _ _ _ _).symm hD
  refine lv_istore (lv' := [(7, .int 0), (6, .int 1), (5, .int 0), (4, .ref qd), (3, .ref qo), (2, .ref am), (1, .ref x), (0, .ref b)]) hx hb dL_law_1231 hl (by decide) rfl (fun ls hl => ?_)
  refine lv_aload_n hx hb dL_law_1233 rfl (lv_at hl 5 rfl) ?_
  refine kj_i (pmM _ _ _ _) (va_runV (As := []) (rest := []) ⟨hx, hb, hml, hown, htT⟩ (m_thrown l D cA _ am r (mS (mS mZ 0 0) 0 1)) (cwV 0 htT (kg_V m_ml_L_130 m_im_X6_thrown m_sl_X6_thrown m_in_X6 m_cd_X6_thrown) rfl rfl rfl (by decide +kernel) ⟨Nat.le_of_ble_eq_true rfl, Nat.le_of_ble_eq_true rfl⟩) (kj_V (pmM _ _ _ _) hK hP hD hTB (kj_rm (pmM _ _ _ _) hK hP)) rfl rfl hl.1 rfl (lv_room (Nat.le_of_ble_eq_true rfl)) dL_law_1234 ⟨Nat.le_of_ble_eq_true rfl, Nat.le_of_ble_eq_true rfl⟩) hP hD hS hA (fun r_3 x_3 H locs hq_3 hP hD hS => ?_)
  rw [hq_3.1.trans (show (mS (mS mZ 0 0) 0 1).1 0 = 1 from rfl)]
  rw [hq_3.2] at hP hD
  have hP := kj_P (pmM _ _ _ _).symm hP
  have hD := kj_D (pmM _ _ _ _).symm hD
  refine lv_iload hx hb dL_law_1237 (lv_at hl 1 rfl) ?_
  refine lv_icmp_eq (tgt := 1244) hx hb dL_law_1239 (by decide) (fun _ => ?_) (fun c_4 => absurd c_4 (by decide))
  refine lv_iload hx hb dL_law_1244 (lv_at hl 1 rfl) ?_
  refine lv_if_ne (tgt := 1261) hx hb dL_law_1246 (by decide) (fun _ => ?_) (fun c_5 => absurd c_5 (by decide))
  refine lv_goto (tgt := 2693) hx hb dL_law_1261 (by decide) ?_
  exact law_end C0 hS (Nat.le_of_ble_eq_true rfl) (Nat.le_of_ble_eq_true rfl) (lv_sub hl [2, 7] rfl)

set_option maxRecDepth 100000 in
set_option maxHeartbeats 4000000 in
theorem law_bucket_2 (l : Launch) (hst : l.stackTraces = false) {p : Program} {e : Env} {s : State} {m : MethodId} {below : List Frame} {meth : Method} {c : Code} {b : Nat} {xs : Nat → Int32} (C0 : lw_At p s m meth c b 6 xs) {D : va_G} {cA : Nat → ClassId} (hK : va_K D vwCl (ty6 cA) s) (hTB : TBok s) (hTX : TXok (fun q : Nat => s.heap.size ≤ q) s) {S : Pool} {x ar qo qd am : Nat} {r : Nat → Nat} {fo : Nat → Int64} {fd : Nat → UInt64} {H : Heap} {locs : List Loc} {ls : Array Slot} (ho : isO S x 5) (hq0 : gQ S x 0 = some ar) (har : isA S ar 22 8) (hn : ∀ j, j < 8 → gP S ar j = none) (hnum : ∀ k, gI S x k = 0) (hP : va_P D vwCl (LW cA S qo fo qd fd am r mZ) H) (hD : va_D (fun q : Nat => s.heap.size ≤ q) (LW cA S qo fo qd fd am r mZ)) (hS : va_S (fun q : Nat => s.heap.size ≤ q) s.heap H locs) (hl : lv_has ls 9 [(5, .int 0), (4, .ref qd), (3, .ref qo), (2, .ref am), (1, .ref x), (0, .ref b)]) (h1 : kOut (xs (1 : Int32).toNatClampNeg) 0 999 = 0) (h2 : kOut (xs (2 : Int32).toNatClampNeg) 0 9999 = 1) : W p l e room_1 s m #[Value.ref b] below meth c H locs 100 2000 (lw_Z below #[Value.ref b] s) (F0 m 1196 ls []) := by
  obtain ⟨hx, hb, hr, hml, hown, hts, hX, hbl, hlocks, hgv⟩ := id C0
  have htT : ∀ w ∈ TT, w.before _ s = true := fun w h => hts w (tt_in h)
  have hA : ∀ q : Nat, s.heap.size ≤ q → (fun q : Nat => s.heap.size ≤ q) q := fun _ h => h
  have hbA : ¬ (fun q : Nat => s.heap.size ≤ q) b := Nat.not_le.mpr hbl
  refine lv_aload_n hx hb dL_law_1196 rfl (lv_at hl 4 rfl) ?_
  refine lv_aload_n hx hb dL_law_1197 rfl (lv_at hl 5 rfl) ?_
  refine lv_iload hx hb dL_law_1198 (lv_at hl 0 rfl) ?_
  refine lv_iconst (v := 1) hx hb dL_law_1200 (by decide) ?_
  refine lv_iadd hx hb dL_law_1201 ?_
  rw [show (0 + 1 : Int32) = 1 from by decide]
  refine va_sld hx hb hX hbl hbA hS (vp_in_iff.mpr (by decide)) dL_law_1202 ?_
  refine lv_aload_n hx hb dL_law_1203 rfl (lv_at hl 5 rfl) ?_
  refine lv_iload hx hb dL_law_1204 (lv_at hl 0 rfl) ?_
  refine lv_iconst (v := 2) hx hb dL_law_1206 (by decide) ?_
  refine lv_iadd hx hb dL_law_1207 ?_
  rw [show (0 + 2 : Int32) = 2 from by decide]
  refine va_sld hx hb hX hbl hbA hS (vp_in_iff.mpr (by decide)) dL_law_1208 ?_
  refine lv_aload_n hx hb dL_law_1209 rfl (lv_at hl 2 rfl) ?_
  refine kj_i (pmJ _ _ _ _) (vx_runSW (As := [.ref x, .int (xs (1 : Int32).toNatClampNeg), .int (xs (2 : Int32).toNatClampNeg), .ref qo]) (rest := []) ⟨hx, hb, hml, hown, htT⟩ (w_bucket_t2 l hst D cA _ S x qo fo ho (xs (1 : Int32).toNatClampNeg) (xs (2 : Int32).toNatClampNeg) h1 h2) (vx_cwSW 4 htT (kg_SW m_ml_L_180 m_st_L_bucket m_in_L m_cd_L_bucket) rfl rfl rfl (by decide +kernel) ⟨Nat.le_of_ble_eq_true rfl, Nat.le_of_ble_eq_true rfl⟩) (kj_SX (pmJ _ _ _ _) hK hP hD hTB hTX hS hA) rfl rfl hl.1 rfl (lv_room (Nat.le_of_ble_eq_true rfl)) dL_law_1210 ⟨Nat.le_of_ble_eq_true rfl, Nat.le_of_ble_eq_true rfl⟩) hP hD hS hA (fun r_1 x_1 H locs hq_1 hP hD hS => ?_)
  rw [hq_1.1]
  rw [hq_1.2.1, hq_1.2.2] at hP hD
  rw [List.append_assoc] at hP hD
  refine lv_istore (lv' := [(6, .int 1), (5, .int 0), (4, .ref qd), (3, .ref qo), (2, .ref am), (1, .ref x), (0, .ref b)]) hx hb dL_law_1213 hl (by decide) rfl (fun ls hl => ?_)
  refine lv_aload_n hx hb dL_law_1215 rfl (lv_at hl 4 rfl) ?_
  refine lv_aload_n hx hb dL_law_1216 rfl (lv_at hl 6 rfl) ?_
  refine lv_iload hx hb dL_law_1217 (lv_at hl 1 rfl) ?_
  refine lv_iconst (v := 1) hx hb dL_law_1219 (by decide) ?_
  refine lv_iadd hx hb dL_law_1220 ?_
  rw [show (0 + 1 : Int32) = 1 from by decide]
  refine va_sld hx hb hX hbl hbA hS (vp_in_iff.mpr (by decide)) dL_law_1221 ?_
  refine lv_aload_n hx hb dL_law_1222 rfl (lv_at hl 6 rfl) ?_
  refine lv_iload hx hb dL_law_1223 (lv_at hl 1 rfl) ?_
  refine lv_iconst (v := 2) hx hb dL_law_1225 (by decide) ?_
  refine lv_iadd hx hb dL_law_1226 ?_
  rw [show (0 + 2 : Int32) = 2 from by decide]
  refine va_sld hx hb hX hbl hbA hS (vp_in_iff.mpr (by decide)) dL_law_1227 ?_
  refine kj_i (pmM _ _ _ _) (va_runV (As := [.int (xs (1 : Int32).toNatClampNeg), .int (xs (2 : Int32).toNatClampNeg)]) (rest := []) ⟨hx, hb, hml, hown, htT⟩ (m_bucket_2 l D cA _ am r mZ (xs (1 : Int32).toNatClampNeg) (xs (2 : Int32).toNatClampNeg) (kIn_out.mpr h1) (kIn_out0.mpr h2)) (cwV 2 htT (kg_V m_ml_L_182 m_im_X6_bucket m_sl_X6_bucket m_in_X6 m_cd_X6_bucket) rfl rfl rfl (by decide +kernel) ⟨Nat.le_of_ble_eq_true rfl, Nat.le_of_ble_eq_true rfl⟩) (kj_V (pmM _ _ _ _) hK hP hD hTB (kj_rm (pmM _ _ _ _) hK hP)) rfl rfl hl.1 rfl (lv_room (Nat.le_of_ble_eq_true rfl)) dL_law_1228 ⟨Nat.le_of_ble_eq_true rfl, Nat.le_of_ble_eq_true rfl⟩) hP hD hS hA (fun r_2 x_2 H locs hq_2 hP hD hS => ?_)
  rw [hq_2.1]
  rw [hq_2.2] at hP hD
  have hP := kj_P (pmM _ _ _ _).symm hP
  have hD := kj_D (pmM _ _ _ _).symm hD
  refine lv_istore (lv' := [(7, .int 0), (6, .int 1), (5, .int 0), (4, .ref qd), (3, .ref qo), (2, .ref am), (1, .ref x), (0, .ref b)]) hx hb dL_law_1231 hl (by decide) rfl (fun ls hl => ?_)
  refine lv_aload_n hx hb dL_law_1233 rfl (lv_at hl 5 rfl) ?_
  refine kj_i (pmM _ _ _ _) (va_runV (As := []) (rest := []) ⟨hx, hb, hml, hown, htT⟩ (m_thrown l D cA _ am r (mS (mS mZ 0 0) 0 1)) (cwV 0 htT (kg_V m_ml_L_130 m_im_X6_thrown m_sl_X6_thrown m_in_X6 m_cd_X6_thrown) rfl rfl rfl (by decide +kernel) ⟨Nat.le_of_ble_eq_true rfl, Nat.le_of_ble_eq_true rfl⟩) (kj_V (pmM _ _ _ _) hK hP hD hTB (kj_rm (pmM _ _ _ _) hK hP)) rfl rfl hl.1 rfl (lv_room (Nat.le_of_ble_eq_true rfl)) dL_law_1234 ⟨Nat.le_of_ble_eq_true rfl, Nat.le_of_ble_eq_true rfl⟩) hP hD hS hA (fun r_3 x_3 H locs hq_3 hP hD hS => ?_)
  rw [hq_3.1.trans (show (mS (mS mZ 0 0) 0 1).1 0 = 1 from rfl)]
  rw [hq_3.2] at hP hD
  have hP := kj_P (pmM _ _ _ _).symm hP
  have hD := kj_D (pmM _ _ _ _).symm hD
  refine lv_iload hx hb dL_law_1237 (lv_at hl 1 rfl) ?_
  refine lv_icmp_eq (tgt := 1244) hx hb dL_law_1239 (by decide) (fun _ => ?_) (fun c_4 => absurd c_4 (by decide))
  refine lv_iload hx hb dL_law_1244 (lv_at hl 1 rfl) ?_
  refine lv_if_ne (tgt := 1261) hx hb dL_law_1246 (by decide) (fun _ => ?_) (fun c_5 => absurd c_5 (by decide))
  refine lv_goto (tgt := 2693) hx hb dL_law_1261 (by decide) ?_
  exact law_end C0 hS (Nat.le_of_ble_eq_true rfl) (Nat.le_of_ble_eq_true rfl) (lv_sub hl [2, 7] rfl)

set_option maxRecDepth 100000 in
set_option maxHeartbeats 4000000 in
theorem law_bucket (l : Launch) (hst : l.stackTraces = false) {p : Program} {e : Env} {s : State} {m : MethodId} {below : List Frame} {meth : Method} {c : Code} {b : Nat} {xs : Nat → Int32} (C0 : lw_At p s m meth c b 6 xs) {D : va_G} {cA : Nat → ClassId} (hK : va_K D vwCl (ty6 cA) s) (hTB : TBok s) (hTX : TXok (fun q : Nat => s.heap.size ≤ q) s) {S : Pool} {x ar qo qd am : Nat} {r : Nat → Nat} {fo : Nat → Int64} {fd : Nat → UInt64} {H : Heap} {locs : List Loc} {ls : Array Slot} (ho : isO S x 5) (hq0 : gQ S x 0 = some ar) (har : isA S ar 22 8) (hn : ∀ j, j < 8 → gP S ar j = none) (hnum : ∀ k, gI S x k = 0) (hP : va_P D vwCl (LW cA S qo fo qd fd am r mZ) H) (hD : va_D (fun q : Nat => s.heap.size ≤ q) (LW cA S qo fo qd fd am r mZ)) (hS : va_S (fun q : Nat => s.heap.size ≤ q) s.heap H locs) (hl : lv_has ls 9 [(5, .int 0), (4, .ref qd), (3, .ref qo), (2, .ref am), (1, .ref x), (0, .ref b)]) (h1 : kOut (xs (1 : Int32).toNatClampNeg) 0 999 = 0) (h2 : kOut (xs (2 : Int32).toNatClampNeg) 0 9999 = 0) : W p l e room_1 s m #[Value.ref b] below meth c H locs 100 2000 (lw_Z below #[Value.ref b] s) (F0 m 1196 ls []) := by
  obtain ⟨hx, hb, hr, hml, hown, hts, hX, hbl, hlocks, hgv⟩ := id C0
  have htT : ∀ w ∈ TT, w.before _ s = true := fun w h => hts w (tt_in h)
  have hA : ∀ q : Nat, s.heap.size ≤ q → (fun q : Nat => s.heap.size ≤ q) q := fun _ h => h
  have hbA : ¬ (fun q : Nat => s.heap.size ≤ q) b := Nat.not_le.mpr hbl
  refine lv_aload_n hx hb dL_law_1196 rfl (lv_at hl 4 rfl) ?_
  refine lv_aload_n hx hb dL_law_1197 rfl (lv_at hl 5 rfl) ?_
  refine lv_iload hx hb dL_law_1198 (lv_at hl 0 rfl) ?_
  refine lv_iconst (v := 1) hx hb dL_law_1200 (by decide) ?_
  refine lv_iadd hx hb dL_law_1201 ?_
  rw [show (0 + 1 : Int32) = 1 from by decide]
  refine va_sld hx hb hX hbl hbA hS (vp_in_iff.mpr (by decide)) dL_law_1202 ?_
  refine lv_aload_n hx hb dL_law_1203 rfl (lv_at hl 5 rfl) ?_
  refine lv_iload hx hb dL_law_1204 (lv_at hl 0 rfl) ?_
  refine lv_iconst (v := 2) hx hb dL_law_1206 (by decide) ?_
  refine lv_iadd hx hb dL_law_1207 ?_
  rw [show (0 + 2 : Int32) = 2 from by decide]
  refine va_sld hx hb hX hbl hbA hS (vp_in_iff.mpr (by decide)) dL_law_1208 ?_
  refine lv_aload_n hx hb dL_law_1209 rfl (lv_at hl 2 rfl) ?_
  refine kj_i (pmJ _ _ _ _) (vx_runSW (As := [.ref x, .int (xs (1 : Int32).toNatClampNeg), .int (xs (2 : Int32).toNatClampNeg), .ref qo]) (rest := []) ⟨hx, hb, hml, hown, htT⟩ (w_bucket l hst D cA _ S x qo fo ho (xs (1 : Int32).toNatClampNeg) (xs (2 : Int32).toNatClampNeg) h1 h2) (vx_cwSW 4 htT (kg_SW m_ml_L_180 m_st_L_bucket m_in_L m_cd_L_bucket) rfl rfl rfl (by decide +kernel) ⟨Nat.le_of_ble_eq_true rfl, Nat.le_of_ble_eq_true rfl⟩) (kj_SX (pmJ _ _ _ _) hK hP hD hTB hTX hS hA) rfl rfl hl.1 rfl (lv_room (Nat.le_of_ble_eq_true rfl)) dL_law_1210 ⟨Nat.le_of_ble_eq_true rfl, Nat.le_of_ble_eq_true rfl⟩) hP hD hS hA (fun r_1 x_1 H locs hq_1 hP hD hS => ?_)
  rw [hq_1.1]
  have e_1 := hq_1.2.2
  rw [hq_1.2.1, e_1] at hP hD
  rw [List.append_assoc] at hP hD
  refine lv_istore (lv' := [(6, .int 0), (5, .int 0), (4, .ref qd), (3, .ref qo), (2, .ref am), (1, .ref x), (0, .ref b)]) hx hb dL_law_1213 hl (by decide) rfl (fun ls hl => ?_)
  refine lv_aload_n hx hb dL_law_1215 rfl (lv_at hl 4 rfl) ?_
  refine lv_aload_n hx hb dL_law_1216 rfl (lv_at hl 6 rfl) ?_
  refine lv_iload hx hb dL_law_1217 (lv_at hl 1 rfl) ?_
  refine lv_iconst (v := 1) hx hb dL_law_1219 (by decide) ?_
  refine lv_iadd hx hb dL_law_1220 ?_
  rw [show (0 + 1 : Int32) = 1 from by decide]
  refine va_sld hx hb hX hbl hbA hS (vp_in_iff.mpr (by decide)) dL_law_1221 ?_
  refine lv_aload_n hx hb dL_law_1222 rfl (lv_at hl 6 rfl) ?_
  refine lv_iload hx hb dL_law_1223 (lv_at hl 1 rfl) ?_
  refine lv_iconst (v := 2) hx hb dL_law_1225 (by decide) ?_
  refine lv_iadd hx hb dL_law_1226 ?_
  rw [show (0 + 2 : Int32) = 2 from by decide]
  refine va_sld hx hb hX hbl hbA hS (vp_in_iff.mpr (by decide)) dL_law_1227 ?_
  refine kj_i (pmM _ _ _ _) (va_runV (As := [.int (xs (1 : Int32).toNatClampNeg), .int (xs (2 : Int32).toNatClampNeg)]) (rest := []) ⟨hx, hb, hml, hown, htT⟩ (m_bucket l D cA _ am r mZ (xs (1 : Int32).toNatClampNeg) (xs (2 : Int32).toNatClampNeg) (kIn_out.mpr h1) (kIn_out.mpr h2)) (cwV 2 htT (kg_V m_ml_L_182 m_im_X6_bucket m_sl_X6_bucket m_in_X6 m_cd_X6_bucket) rfl rfl rfl (by decide +kernel) ⟨Nat.le_of_ble_eq_true rfl, Nat.le_of_ble_eq_true rfl⟩) (kj_V (pmM _ _ _ _) hK hP hD hTB (kj_rm (pmM _ _ _ _) hK hP)) rfl rfl hl.1 rfl (lv_room (Nat.le_of_ble_eq_true rfl)) dL_law_1228 ⟨Nat.le_of_ble_eq_true rfl, Nat.le_of_ble_eq_true rfl⟩) hP hD hS hA (fun r_2 x_2 H locs hq_2 hP hD hS => ?_)
  rw [hq_2.1]
  rw [hq_2.2] at hP hD
  have hP := kj_P (pmM _ _ _ _).symm hP
  have hD := kj_D (pmM _ _ _ _).symm hD
  refine lv_istore (lv' := [(7, .int (kBkt (xs (1 : Int32).toNatClampNeg) (xs (2 : Int32).toNatClampNeg))), (6, .int 0), (5, .int 0), (4, .ref qd), (3, .ref qo), (2, .ref am), (1, .ref x), (0, .ref b)]) hx hb dL_law_1231 hl (by decide) rfl (fun ls hl => ?_)
  refine lv_aload_n hx hb dL_law_1233 rfl (lv_at hl 5 rfl) ?_
  refine kj_i (pmM _ _ _ _) (va_runV (As := []) (rest := []) ⟨hx, hb, hml, hown, htT⟩ (m_thrown l D cA _ am r (mS mZ 0 0)) (cwV 0 htT (kg_V m_ml_L_130 m_im_X6_thrown m_sl_X6_thrown m_in_X6 m_cd_X6_thrown) rfl rfl rfl (by decide +kernel) ⟨Nat.le_of_ble_eq_true rfl, Nat.le_of_ble_eq_true rfl⟩) (kj_V (pmM _ _ _ _) hK hP hD hTB (kj_rm (pmM _ _ _ _) hK hP)) rfl rfl hl.1 rfl (lv_room (Nat.le_of_ble_eq_true rfl)) dL_law_1234 ⟨Nat.le_of_ble_eq_true rfl, Nat.le_of_ble_eq_true rfl⟩) hP hD hS hA (fun r_3 x_3 H locs hq_3 hP hD hS => ?_)
  rw [hq_3.1.trans (show (mS mZ 0 0).1 0 = 0 from rfl)]
  rw [hq_3.2] at hP hD
  have hP := kj_P (pmM _ _ _ _).symm hP
  have hD := kj_D (pmM _ _ _ _).symm hD
  refine lv_iload hx hb dL_law_1237 (lv_at hl 1 rfl) ?_
  refine lv_icmp_eq (tgt := 1244) hx hb dL_law_1239 (by decide) (fun _ => ?_) (fun c_4 => absurd c_4 (by decide))
  refine lv_iload hx hb dL_law_1244 (lv_at hl 1 rfl) ?_
  refine lv_if_ne (tgt := 1261) hx hb dL_law_1246 (by decide) (fun c_5 => absurd c_5 (by decide)) (fun _ => ?_)
  refine lv_aload_n hx hb dL_law_1249 rfl (lv_at hl 4 rfl) ?_
  refine lv_iconst (v := 0) hx hb dL_law_1250 (by decide) ?_
  refine kw_lald (v := (kBkt (xs (1 : Int32).toNatClampNeg) (xs (2 : Int32).toNatClampNeg)).toInt64) hx hb hK hP rfl dL_law_1251 ?_
  refine lv_iload hx hb dL_law_1252 (lv_at hl 0 rfl) ?_
  refine lv_i2l (v := (kBkt (xs (1 : Int32).toNatClampNeg) (xs (2 : Int32).toNatClampNeg)).toInt64) hx hb dL_law_1254 rfl ?_
  refine W.lcmp hx hb dL_law_1255 ?_
  refine lv_if_eq (tgt := 1261) hx hb dL_law_1256 (by decide) (fun c_6 => ?_) (fun c_6 => ?_)
  · refine lv_goto (tgt := 2693) hx hb dL_law_1261 (by decide) ?_
    exact law_end C0 hS (Nat.le_of_ble_eq_true rfl) (Nat.le_of_ble_eq_true rfl) (lv_sub hl [2, 7] rfl)
  · exact absurd (lg_self _) c_6

set_option maxRecDepth 100000 in
set_option maxHeartbeats 4000000 in
theorem law_act_1 (l : Launch) (hst : l.stackTraces = false) {p : Program} {e : Env} {s : State} {m : MethodId} {below : List Frame} {meth : Method} {c : Code} {b : Nat} {xs : Nat → Int32} (C0 : lw_At p s m meth c b 6 xs) {D : va_G} {cA : Nat → ClassId} (hK : va_K D vwCl (ty6 cA) s) (hTB : TBok s) (hTX : TXok (fun q : Nat => s.heap.size ≤ q) s) {S : Pool} {x ar qo qd am : Nat} {r : Nat → Nat} {fo : Nat → Int64} {fd : Nat → UInt64} {H : Heap} {locs : List Loc} {ls : Array Slot} (ho : isO S x 5) (hq0 : gQ S x 0 = some ar) (har : isA S ar 22 8) (hn : ∀ j, j < 8 → gP S ar j = none) (hnum : ∀ k, gI S x k = 0) (hP : va_P D vwCl (LW cA S qo fo qd fd am r mZ) H) (hD : va_D (fun q : Nat => s.heap.size ≤ q) (LW cA S qo fo qd fd am r mZ)) (hS : va_S (fun q : Nat => s.heap.size ≤ q) s.heap H locs) (hl : lv_has ls 9 [(5, .int 0), (4, .ref qd), (3, .ref qo), (2, .ref am), (1, .ref x), (0, .ref b)]) (h1 : kOut (xs (1 : Int32).toNatClampNeg) 0 9999 = 1) : W p l e room_1 s m #[Value.ref b] below meth c H locs 100 2000 (lw_Z below #[Value.ref b] s) (F0 m 1632 ls []) := by
  obtain ⟨hx, hb, hr, hml, hown, hts, hX, hbl, hlocks, hgv⟩ := id C0
  have htT : ∀ w ∈ TT, w.before _ s = true := fun w h => hts w (tt_in h)
  have hA : ∀ q : Nat, s.heap.size ≤ q → (fun q : Nat => s.heap.size ≤ q) q := fun _ h => h
  have hbA : ¬ (fun q : Nat => s.heap.size ≤ q) b := Nat.not_le.mpr hbl
  refine lv_aload_n hx hb dL_law_1632 rfl (lv_at hl 4 rfl) ?_
  refine lv_aload_n hx hb dL_law_1633 rfl (lv_at hl 5 rfl) ?_
  refine lv_iload hx hb dL_law_1634 (lv_at hl 0 rfl) ?_
  refine lv_iconst (v := 1) hx hb dL_law_1636 (by decide) ?_
  refine lv_iadd hx hb dL_law_1637 ?_
  rw [show (0 + 1 : Int32) = 1 from by decide]
  refine va_sld hx hb hX hbl hbA hS (vp_in_iff.mpr (by decide)) dL_law_1638 ?_
  refine lv_aload_n hx hb dL_law_1639 rfl (lv_at hl 5 rfl) ?_
  refine lv_iload hx hb dL_law_1640 (lv_at hl 0 rfl) ?_
  refine lv_iconst (v := 2) hx hb dL_law_1642 (by decide) ?_
  refine lv_iadd hx hb dL_law_1643 ?_
  rw [show (0 + 2 : Int32) = 2 from by decide]
  refine va_sld hx hb hX hbl hbA hS (vp_in_iff.mpr (by decide)) dL_law_1644 ?_
  refine lv_aload_n hx hb dL_law_1645 rfl (lv_at hl 2 rfl) ?_
  refine kj_i (pmJ _ _ _ _) (vx_runSW (As := [.ref x, .int (xs (1 : Int32).toNatClampNeg), .int (xs (2 : Int32).toNatClampNeg), .ref qo]) (rest := []) ⟨hx, hb, hml, hown, htT⟩ (w_act_t1 l hst D cA _ S x qo fo ho (xs (1 : Int32).toNatClampNeg) (xs (2 : Int32).toNatClampNeg) h1) (vx_cwSW 4 htT (kg_SW m_ml_L_195 m_st_L_act m_in_L m_cd_L_act) rfl rfl rfl (by decide +kernel) ⟨Nat.le_of_ble_eq_true rfl, Nat.le_of_ble_eq_true rfl⟩) (kj_SX (pmJ _ _ _ _) hK hP hD hTB hTX hS hA) rfl rfl hl.1 rfl (lv_room (Nat.le_of_ble_eq_true rfl)) dL_law_1646 ⟨Nat.le_of_ble_eq_true rfl, Nat.le_of_ble_eq_true rfl⟩) hP hD hS hA (fun r_1 x_1 H locs hq_1 hP hD hS => ?_)
  rw [hq_1.1]
  rw [hq_1.2.1, hq_1.2.2] at hP hD
  rw [List.append_assoc] at hP hD
  refine lv_istore (lv' := [(6, .int 1), (5, .int 0), (4, .ref qd), (3, .ref qo), (2, .ref am), (1, .ref x), (0, .ref b)]) hx hb dL_law_1649 hl (by decide) rfl (fun ls hl => ?_)
  refine lv_aload_n hx hb dL_law_1651 rfl (lv_at hl 4 rfl) ?_
  refine lv_aload_n hx hb dL_law_1652 rfl (lv_at hl 6 rfl) ?_
  refine lv_iload hx hb dL_law_1653 (lv_at hl 1 rfl) ?_
  refine lv_iconst (v := 1) hx hb dL_law_1655 (by decide) ?_
  refine lv_iadd hx hb dL_law_1656 ?_
  rw [show (0 + 1 : Int32) = 1 from by decide]
  refine va_sld hx hb hX hbl hbA hS (vp_in_iff.mpr (by decide)) dL_law_1657 ?_
  refine lv_aload_n hx hb dL_law_1658 rfl (lv_at hl 6 rfl) ?_
  refine lv_iload hx hb dL_law_1659 (lv_at hl 1 rfl) ?_
  refine lv_iconst (v := 2) hx hb dL_law_1661 (by decide) ?_
  refine lv_iadd hx hb dL_law_1662 ?_
  rw [show (0 + 2 : Int32) = 2 from by decide]
  refine va_sld hx hb hX hbl hbA hS (vp_in_iff.mpr (by decide)) dL_law_1663 ?_
  refine kj_i (pmM _ _ _ _) (va_runV (As := [.int (xs (1 : Int32).toNatClampNeg), .int (xs (2 : Int32).toNatClampNeg)]) (rest := []) ⟨hx, hb, hml, hown, htT⟩ (m_act_1 l D cA _ am r mZ (xs (1 : Int32).toNatClampNeg) (xs (2 : Int32).toNatClampNeg) (kIn_out0.mpr h1)) (cwV 2 htT (kg_V m_ml_L_197 m_im_X6_act m_sl_X6_act m_in_X6 m_cd_X6_act) rfl rfl rfl (by decide +kernel) ⟨Nat.le_of_ble_eq_true rfl, Nat.le_of_ble_eq_true rfl⟩) (kj_V (pmM _ _ _ _) hK hP hD hTB (kj_rm (pmM _ _ _ _) hK hP)) rfl rfl hl.1 rfl (lv_room (Nat.le_of_ble_eq_true rfl)) dL_law_1664 ⟨Nat.le_of_ble_eq_true rfl, Nat.le_of_ble_eq_true rfl⟩) hP hD hS hA (fun r_2 x_2 H locs hq_2 hP hD hS => ?_)
  rw [hq_2.1]
  rw [hq_2.2] at hP hD
  have hP := kj_P (pmM _ _ _ _).symm hP
  have hD := kj_D (pmM _ _ _ _).symm hD
  refine lv_istore (lv' := [(7, .int 0), (6, .int 1), (5, .int 0), (4, .ref qd), (3, .ref qo), (2, .ref am), (1, .ref x), (0, .ref b)]) hx hb dL_law_1667 hl (by decide) rfl (fun ls hl => ?_)
  refine lv_aload_n hx hb dL_law_1669 rfl (lv_at hl 5 rfl) ?_
  refine kj_i (pmM _ _ _ _) (va_runV (As := []) (rest := []) ⟨hx, hb, hml, hown, htT⟩ (m_thrown l D cA _ am r (mS (mS mZ 0 0) 0 1)) (cwV 0 htT (kg_V m_ml_L_130 m_im_X6_thrown m_sl_X6_thrown m_in_X6 m_cd_X6_thrown) rfl rfl rfl (by decide +kernel) ⟨Nat.le_of_ble_eq_true rfl, Nat.le_of_ble_eq_true rfl⟩) (kj_V (pmM _ _ _ _) hK hP hD hTB (kj_rm (pmM _ _ _ _) hK hP)) rfl rfl hl.1 rfl (lv_room (Nat.le_of_ble_eq_true rfl)) dL_law_1670 ⟨Nat.le_of_ble_eq_true rfl, Nat.le_of_ble_eq_true rfl⟩) hP hD hS hA (fun r_3 x_3 H locs hq_3 hP hD hS => ?_)
  rw [hq_3.1.trans (show (mS (mS mZ 0 0) 0 1).1 0 = 1 from rfl)]
  rw [hq_3.2] at hP hD
  have hP := kj_P (pmM _ _ _ _).symm hP
  have hD := kj_D (pmM _ _ _ _).symm hD
  refine lv_iload hx hb dL_law_1673 (lv_at hl 1 rfl) ?_
  refine lv_icmp_eq (tgt := 1680) hx hb dL_law_1675 (by decide) (fun _ => ?_) (fun c_4 => absurd c_4 (by decide))
  refine lv_iload hx hb dL_law_1680 (lv_at hl 1 rfl) ?_
  refine lv_if_ne (tgt := 1697) hx hb dL_law_1682 (by decide) (fun _ => ?_) (fun c_5 => absurd c_5 (by decide))
  refine lv_goto (tgt := 2693) hx hb dL_law_1697 (by decide) ?_
  exact law_end C0 hS (Nat.le_of_ble_eq_true rfl) (Nat.le_of_ble_eq_true rfl) (lv_sub hl [2, 7] rfl)

set_option maxRecDepth 100000 in
set_option maxHeartbeats 4000000 in
theorem law_act_2 (l : Launch) (hst : l.stackTraces = false) {p : Program} {e : Env} {s : State} {m : MethodId} {below : List Frame} {meth : Method} {c : Code} {b : Nat} {xs : Nat → Int32} (C0 : lw_At p s m meth c b 6 xs) {D : va_G} {cA : Nat → ClassId} (hK : va_K D vwCl (ty6 cA) s) (hTB : TBok s) (hTX : TXok (fun q : Nat => s.heap.size ≤ q) s) {S : Pool} {x ar qo qd am : Nat} {r : Nat → Nat} {fo : Nat → Int64} {fd : Nat → UInt64} {H : Heap} {locs : List Loc} {ls : Array Slot} (ho : isO S x 5) (hq0 : gQ S x 0 = some ar) (har : isA S ar 22 8) (hn : ∀ j, j < 8 → gP S ar j = none) (hnum : ∀ k, gI S x k = 0) (hP : va_P D vwCl (LW cA S qo fo qd fd am r mZ) H) (hD : va_D (fun q : Nat => s.heap.size ≤ q) (LW cA S qo fo qd fd am r mZ)) (hS : va_S (fun q : Nat => s.heap.size ≤ q) s.heap H locs) (hl : lv_has ls 9 [(5, .int 0), (4, .ref qd), (3, .ref qo), (2, .ref am), (1, .ref x), (0, .ref b)]) (h1 : kOut (xs (1 : Int32).toNatClampNeg) 0 9999 = 0) (h2 : kOut (xs (2 : Int32).toNatClampNeg) 0 100 = 1) : W p l e room_1 s m #[Value.ref b] below meth c H locs 100 2000 (lw_Z below #[Value.ref b] s) (F0 m 1632 ls []) := by
  obtain ⟨hx, hb, hr, hml, hown, hts, hX, hbl, hlocks, hgv⟩ := id C0
  have htT : ∀ w ∈ TT, w.before _ s = true := fun w h => hts w (tt_in h)
  have hA : ∀ q : Nat, s.heap.size ≤ q → (fun q : Nat => s.heap.size ≤ q) q := fun _ h => h
  have hbA : ¬ (fun q : Nat => s.heap.size ≤ q) b := Nat.not_le.mpr hbl
  refine lv_aload_n hx hb dL_law_1632 rfl (lv_at hl 4 rfl) ?_
  refine lv_aload_n hx hb dL_law_1633 rfl (lv_at hl 5 rfl) ?_
  refine lv_iload hx hb dL_law_1634 (lv_at hl 0 rfl) ?_
  refine lv_iconst (v := 1) hx hb dL_law_1636 (by decide) ?_
  refine lv_iadd hx hb dL_law_1637 ?_
  rw [show (0 + 1 : Int32) = 1 from by decide]
  refine va_sld hx hb hX hbl hbA hS (vp_in_iff.mpr (by decide)) dL_law_1638 ?_
  refine lv_aload_n hx hb dL_law_1639 rfl (lv_at hl 5 rfl) ?_
  refine lv_iload hx hb dL_law_1640 (lv_at hl 0 rfl) ?_
  refine lv_iconst (v := 2) hx hb dL_law_1642 (by decide) ?_
  refine lv_iadd hx hb dL_law_1643 ?_
  rw [show (0 + 2 : Int32) = 2 from by decide]
  refine va_sld hx hb hX hbl hbA hS (vp_in_iff.mpr (by decide)) dL_law_1644 ?_
  refine lv_aload_n hx hb dL_law_1645 rfl (lv_at hl 2 rfl) ?_
  refine kj_i (pmJ _ _ _ _) (vx_runSW (As := [.ref x, .int (xs (1 : Int32).toNatClampNeg), .int (xs (2 : Int32).toNatClampNeg), .ref qo]) (rest := []) ⟨hx, hb, hml, hown, htT⟩ (w_act_t2 l hst D cA _ S x qo fo ho (xs (1 : Int32).toNatClampNeg) (xs (2 : Int32).toNatClampNeg) h1 h2) (vx_cwSW 4 htT (kg_SW m_ml_L_195 m_st_L_act m_in_L m_cd_L_act) rfl rfl rfl (by decide +kernel) ⟨Nat.le_of_ble_eq_true rfl, Nat.le_of_ble_eq_true rfl⟩) (kj_SX (pmJ _ _ _ _) hK hP hD hTB hTX hS hA) rfl rfl hl.1 rfl (lv_room (Nat.le_of_ble_eq_true rfl)) dL_law_1646 ⟨Nat.le_of_ble_eq_true rfl, Nat.le_of_ble_eq_true rfl⟩) hP hD hS hA (fun r_1 x_1 H locs hq_1 hP hD hS => ?_)
  rw [hq_1.1]
  rw [hq_1.2.1, hq_1.2.2] at hP hD
  rw [List.append_assoc] at hP hD
  refine lv_istore (lv' := [(6, .int 1), (5, .int 0), (4, .ref qd), (3, .ref qo), (2, .ref am), (1, .ref x), (0, .ref b)]) hx hb dL_law_1649 hl (by decide) rfl (fun ls hl => ?_)
  refine lv_aload_n hx hb dL_law_1651 rfl (lv_at hl 4 rfl) ?_
  refine lv_aload_n hx hb dL_law_1652 rfl (lv_at hl 6 rfl) ?_
  refine lv_iload hx hb dL_law_1653 (lv_at hl 1 rfl) ?_
  refine lv_iconst (v := 1) hx hb dL_law_1655 (by decide) ?_
  refine lv_iadd hx hb dL_law_1656 ?_
  rw [show (0 + 1 : Int32) = 1 from by decide]
  refine va_sld hx hb hX hbl hbA hS (vp_in_iff.mpr (by decide)) dL_law_1657 ?_
  refine lv_aload_n hx hb dL_law_1658 rfl (lv_at hl 6 rfl) ?_
  refine lv_iload hx hb dL_law_1659 (lv_at hl 1 rfl) ?_
  refine lv_iconst (v := 2) hx hb dL_law_1661 (by decide) ?_
  refine lv_iadd hx hb dL_law_1662 ?_
  rw [show (0 + 2 : Int32) = 2 from by decide]
  refine va_sld hx hb hX hbl hbA hS (vp_in_iff.mpr (by decide)) dL_law_1663 ?_
  refine kj_i (pmM _ _ _ _) (va_runV (As := [.int (xs (1 : Int32).toNatClampNeg), .int (xs (2 : Int32).toNatClampNeg)]) (rest := []) ⟨hx, hb, hml, hown, htT⟩ (m_act_2 l D cA _ am r mZ (xs (1 : Int32).toNatClampNeg) (xs (2 : Int32).toNatClampNeg) (kIn_out.mpr h1) (kIn_out0.mpr h2)) (cwV 2 htT (kg_V m_ml_L_197 m_im_X6_act m_sl_X6_act m_in_X6 m_cd_X6_act) rfl rfl rfl (by decide +kernel) ⟨Nat.le_of_ble_eq_true rfl, Nat.le_of_ble_eq_true rfl⟩) (kj_V (pmM _ _ _ _) hK hP hD hTB (kj_rm (pmM _ _ _ _) hK hP)) rfl rfl hl.1 rfl (lv_room (Nat.le_of_ble_eq_true rfl)) dL_law_1664 ⟨Nat.le_of_ble_eq_true rfl, Nat.le_of_ble_eq_true rfl⟩) hP hD hS hA (fun r_2 x_2 H locs hq_2 hP hD hS => ?_)
  rw [hq_2.1]
  rw [hq_2.2] at hP hD
  have hP := kj_P (pmM _ _ _ _).symm hP
  have hD := kj_D (pmM _ _ _ _).symm hD
  refine lv_istore (lv' := [(7, .int 0), (6, .int 1), (5, .int 0), (4, .ref qd), (3, .ref qo), (2, .ref am), (1, .ref x), (0, .ref b)]) hx hb dL_law_1667 hl (by decide) rfl (fun ls hl => ?_)
  refine lv_aload_n hx hb dL_law_1669 rfl (lv_at hl 5 rfl) ?_
  refine kj_i (pmM _ _ _ _) (va_runV (As := []) (rest := []) ⟨hx, hb, hml, hown, htT⟩ (m_thrown l D cA _ am r (mS (mS mZ 0 0) 0 1)) (cwV 0 htT (kg_V m_ml_L_130 m_im_X6_thrown m_sl_X6_thrown m_in_X6 m_cd_X6_thrown) rfl rfl rfl (by decide +kernel) ⟨Nat.le_of_ble_eq_true rfl, Nat.le_of_ble_eq_true rfl⟩) (kj_V (pmM _ _ _ _) hK hP hD hTB (kj_rm (pmM _ _ _ _) hK hP)) rfl rfl hl.1 rfl (lv_room (Nat.le_of_ble_eq_true rfl)) dL_law_1670 ⟨Nat.le_of_ble_eq_true rfl, Nat.le_of_ble_eq_true rfl⟩) hP hD hS hA (fun r_3 x_3 H locs hq_3 hP hD hS => ?_)
  rw [hq_3.1.trans (show (mS (mS mZ 0 0) 0 1).1 0 = 1 from rfl)]
  rw [hq_3.2] at hP hD
  have hP := kj_P (pmM _ _ _ _).symm hP
  have hD := kj_D (pmM _ _ _ _).symm hD
  refine lv_iload hx hb dL_law_1673 (lv_at hl 1 rfl) ?_
  refine lv_icmp_eq (tgt := 1680) hx hb dL_law_1675 (by decide) (fun _ => ?_) (fun c_4 => absurd c_4 (by decide))
  refine lv_iload hx hb dL_law_1680 (lv_at hl 1 rfl) ?_
  refine lv_if_ne (tgt := 1697) hx hb dL_law_1682 (by decide) (fun _ => ?_) (fun c_5 => absurd c_5 (by decide))
  refine lv_goto (tgt := 2693) hx hb dL_law_1697 (by decide) ?_
  exact law_end C0 hS (Nat.le_of_ble_eq_true rfl) (Nat.le_of_ble_eq_true rfl) (lv_sub hl [2, 7] rfl)

set_option maxRecDepth 100000 in
set_option maxHeartbeats 4000000 in
theorem law_act (l : Launch) (hst : l.stackTraces = false) {p : Program} {e : Env} {s : State} {m : MethodId} {below : List Frame} {meth : Method} {c : Code} {b : Nat} {xs : Nat → Int32} (C0 : lw_At p s m meth c b 6 xs) {D : va_G} {cA : Nat → ClassId} (hK : va_K D vwCl (ty6 cA) s) (hTB : TBok s) (hTX : TXok (fun q : Nat => s.heap.size ≤ q) s) {S : Pool} {x ar qo qd am : Nat} {r : Nat → Nat} {fo : Nat → Int64} {fd : Nat → UInt64} {H : Heap} {locs : List Loc} {ls : Array Slot} (ho : isO S x 5) (hq0 : gQ S x 0 = some ar) (har : isA S ar 22 8) (hn : ∀ j, j < 8 → gP S ar j = none) (hnum : ∀ k, gI S x k = 0) (hP : va_P D vwCl (LW cA S qo fo qd fd am r mZ) H) (hD : va_D (fun q : Nat => s.heap.size ≤ q) (LW cA S qo fo qd fd am r mZ)) (hS : va_S (fun q : Nat => s.heap.size ≤ q) s.heap H locs) (hl : lv_has ls 9 [(5, .int 0), (4, .ref qd), (3, .ref qo), (2, .ref am), (1, .ref x), (0, .ref b)]) (h1 : kOut (xs (1 : Int32).toNatClampNeg) 0 9999 = 0) (h2 : kOut (xs (2 : Int32).toNatClampNeg) 0 100 = 0) : W p l e room_1 s m #[Value.ref b] below meth c H locs 100 2000 (lw_Z below #[Value.ref b] s) (F0 m 1632 ls []) := by
  obtain ⟨hx, hb, hr, hml, hown, hts, hX, hbl, hlocks, hgv⟩ := id C0
  have htT : ∀ w ∈ TT, w.before _ s = true := fun w h => hts w (tt_in h)
  have hA : ∀ q : Nat, s.heap.size ≤ q → (fun q : Nat => s.heap.size ≤ q) q := fun _ h => h
  have hbA : ¬ (fun q : Nat => s.heap.size ≤ q) b := Nat.not_le.mpr hbl
  refine lv_aload_n hx hb dL_law_1632 rfl (lv_at hl 4 rfl) ?_
  refine lv_aload_n hx hb dL_law_1633 rfl (lv_at hl 5 rfl) ?_
  refine lv_iload hx hb dL_law_1634 (lv_at hl 0 rfl) ?_
  refine lv_iconst (v := 1) hx hb dL_law_1636 (by decide) ?_
  refine lv_iadd hx hb dL_law_1637 ?_
  rw [show (0 + 1 : Int32) = 1 from by decide]
  refine va_sld hx hb hX hbl hbA hS (vp_in_iff.mpr (by decide)) dL_law_1638 ?_
  refine lv_aload_n hx hb dL_law_1639 rfl (lv_at hl 5 rfl) ?_
  refine lv_iload hx hb dL_law_1640 (lv_at hl 0 rfl) ?_
  refine lv_iconst (v := 2) hx hb dL_law_1642 (by decide) ?_
  refine lv_iadd hx hb dL_law_1643 ?_
  rw [show (0 + 2 : Int32) = 2 from by decide]
  refine va_sld hx hb hX hbl hbA hS (vp_in_iff.mpr (by decide)) dL_law_1644 ?_
  refine lv_aload_n hx hb dL_law_1645 rfl (lv_at hl 2 rfl) ?_
  refine kj_i (pmJ _ _ _ _) (vx_runSW (As := [.ref x, .int (xs (1 : Int32).toNatClampNeg), .int (xs (2 : Int32).toNatClampNeg), .ref qo]) (rest := []) ⟨hx, hb, hml, hown, htT⟩ (w_act_0 l hst D cA _ S x qo fo ho ar hq0 har (xs (1 : Int32).toNatClampNeg) (xs (2 : Int32).toNatClampNeg) hn h1 h2) (vx_cwSW 4 htT (kg_SW m_ml_L_195 m_st_L_act m_in_L m_cd_L_act) rfl rfl rfl (by decide +kernel) ⟨Nat.le_of_ble_eq_true rfl, Nat.le_of_ble_eq_true rfl⟩) (kj_SX (pmJ _ _ _ _) hK hP hD hTB hTX hS hA) rfl rfl hl.1 rfl (lv_room (Nat.le_of_ble_eq_true rfl)) dL_law_1646 ⟨Nat.le_of_ble_eq_true rfl, Nat.le_of_ble_eq_true rfl⟩) hP hD hS hA (fun r_1 x_1 H locs hq_1 hP hD hS => ?_)
  rw [hq_1.1]
  have e_1 := hq_1.2.2
  rw [hq_1.2.1, e_1] at hP hD
  rw [List.append_assoc] at hP hD
  refine lv_istore (lv' := [(6, .int 0), (5, .int 0), (4, .ref qd), (3, .ref qo), (2, .ref am), (1, .ref x), (0, .ref b)]) hx hb dL_law_1649 hl (by decide) rfl (fun ls hl => ?_)
  refine lv_aload_n hx hb dL_law_1651 rfl (lv_at hl 4 rfl) ?_
  refine lv_aload_n hx hb dL_law_1652 rfl (lv_at hl 6 rfl) ?_
  refine lv_iload hx hb dL_law_1653 (lv_at hl 1 rfl) ?_
  refine lv_iconst (v := 1) hx hb dL_law_1655 (by decide) ?_
  refine lv_iadd hx hb dL_law_1656 ?_
  rw [show (0 + 1 : Int32) = 1 from by decide]
  refine va_sld hx hb hX hbl hbA hS (vp_in_iff.mpr (by decide)) dL_law_1657 ?_
  refine lv_aload_n hx hb dL_law_1658 rfl (lv_at hl 6 rfl) ?_
  refine lv_iload hx hb dL_law_1659 (lv_at hl 1 rfl) ?_
  refine lv_iconst (v := 2) hx hb dL_law_1661 (by decide) ?_
  refine lv_iadd hx hb dL_law_1662 ?_
  rw [show (0 + 2 : Int32) = 2 from by decide]
  refine va_sld hx hb hX hbl hbA hS (vp_in_iff.mpr (by decide)) dL_law_1663 ?_
  refine kj_i (pmM _ _ _ _) (va_runV (As := [.int (xs (1 : Int32).toNatClampNeg), .int (xs (2 : Int32).toNatClampNeg)]) (rest := []) ⟨hx, hb, hml, hown, htT⟩ (m_act_e l D cA _ am r mZ (xs (1 : Int32).toNatClampNeg) (xs (2 : Int32).toNatClampNeg) rfl (kIn_out.mpr h1) (kIn_out.mpr h2)) (cwV 2 htT (kg_V m_ml_L_197 m_im_X6_act m_sl_X6_act m_in_X6 m_cd_X6_act) rfl rfl rfl (by decide +kernel) ⟨Nat.le_of_ble_eq_true rfl, Nat.le_of_ble_eq_true rfl⟩) (kj_V (pmM _ _ _ _) hK hP hD hTB (kj_rm (pmM _ _ _ _) hK hP)) rfl rfl hl.1 rfl (lv_room (Nat.le_of_ble_eq_true rfl)) dL_law_1664 ⟨Nat.le_of_ble_eq_true rfl, Nat.le_of_ble_eq_true rfl⟩) hP hD hS hA (fun r_2 x_2 H locs hq_2 hP hD hS => ?_)
  rw [hq_2.1]
  rw [hq_2.2] at hP hD
  have hP := kj_P (pmM _ _ _ _).symm hP
  have hD := kj_D (pmM _ _ _ _).symm hD
  refine lv_istore (lv' := [(7, .int 0), (6, .int 0), (5, .int 0), (4, .ref qd), (3, .ref qo), (2, .ref am), (1, .ref x), (0, .ref b)]) hx hb dL_law_1667 hl (by decide) rfl (fun ls hl => ?_)
  refine lv_aload_n hx hb dL_law_1669 rfl (lv_at hl 5 rfl) ?_
  refine kj_i (pmM _ _ _ _) (va_runV (As := []) (rest := []) ⟨hx, hb, hml, hown, htT⟩ (m_thrown l D cA _ am r (mS mZ 0 0)) (cwV 0 htT (kg_V m_ml_L_130 m_im_X6_thrown m_sl_X6_thrown m_in_X6 m_cd_X6_thrown) rfl rfl rfl (by decide +kernel) ⟨Nat.le_of_ble_eq_true rfl, Nat.le_of_ble_eq_true rfl⟩) (kj_V (pmM _ _ _ _) hK hP hD hTB (kj_rm (pmM _ _ _ _) hK hP)) rfl rfl hl.1 rfl (lv_room (Nat.le_of_ble_eq_true rfl)) dL_law_1670 ⟨Nat.le_of_ble_eq_true rfl, Nat.le_of_ble_eq_true rfl⟩) hP hD hS hA (fun r_3 x_3 H locs hq_3 hP hD hS => ?_)
  rw [hq_3.1.trans (show (mS mZ 0 0).1 0 = 0 from rfl)]
  rw [hq_3.2] at hP hD
  have hP := kj_P (pmM _ _ _ _).symm hP
  have hD := kj_D (pmM _ _ _ _).symm hD
  refine lv_iload hx hb dL_law_1673 (lv_at hl 1 rfl) ?_
  refine lv_icmp_eq (tgt := 1680) hx hb dL_law_1675 (by decide) (fun _ => ?_) (fun c_4 => absurd c_4 (by decide))
  refine lv_iload hx hb dL_law_1680 (lv_at hl 1 rfl) ?_
  refine lv_if_ne (tgt := 1697) hx hb dL_law_1682 (by decide) (fun c_5 => absurd c_5 (by decide)) (fun _ => ?_)
  refine lv_aload_n hx hb dL_law_1685 rfl (lv_at hl 4 rfl) ?_
  refine lv_iconst (v := 0) hx hb dL_law_1686 (by decide) ?_
  refine kw_lald (v := (0 : Int32).toInt64) hx hb hK hP rfl dL_law_1687 ?_
  refine lv_iload hx hb dL_law_1688 (lv_at hl 0 rfl) ?_
  refine lv_i2l (v := 0) hx hb dL_law_1690 (by decide) ?_
  refine W.lcmp hx hb dL_law_1691 ?_
  refine lv_if_eq (tgt := 1697) hx hb dL_law_1692 (by decide) (fun c_6 => ?_) (fun c_6 => ?_)
  · refine lv_goto (tgt := 2693) hx hb dL_law_1697 (by decide) ?_
    exact law_end C0 hS (Nat.le_of_ble_eq_true rfl) (Nat.le_of_ble_eq_true rfl) (lv_sub hl [2, 7] rfl)
  · exact absurd (lg_self _) c_6

set_option maxRecDepth 100000 in
set_option maxHeartbeats 4000000 in
theorem law_add_1 (l : Launch) (hst : l.stackTraces = false) {p : Program} {e : Env} {s : State} {m : MethodId} {below : List Frame} {meth : Method} {c : Code} {b : Nat} {xs : Nat → Int32} (C0 : lw_At p s m meth c b 6 xs) {D : va_G} {cA : Nat → ClassId} (hK : va_K D vwCl (ty6 cA) s) (hTB : TBok s) (hTX : TXok (fun q : Nat => s.heap.size ≤ q) s) {S : Pool} {x ar qo qd am : Nat} {r : Nat → Nat} {fo : Nat → Int64} {fd : Nat → UInt64} {H : Heap} {locs : List Loc} {ls : Array Slot} (ho : isO S x 5) (hq0 : gQ S x 0 = some ar) (har : isA S ar 22 8) (hn : ∀ j, j < 8 → gP S ar j = none) (hnum : ∀ k, gI S x k = 0) (hP : va_P D vwCl (LW cA S qo fo qd fd am r mZ) H) (hD : va_D (fun q : Nat => s.heap.size ≤ q) (LW cA S qo fo qd fd am r mZ)) (hS : va_S (fun q : Nat => s.heap.size ≤ q) s.heap H locs) (hl : lv_has ls 9 [(5, .int 0), (4, .ref qd), (3, .ref qo), (2, .ref am), (1, .ref x), (0, .ref b)]) (h1 : kOut (xs (1 : Int32).toNatClampNeg) 0 498 = 1) : W p l e room_1 s m #[Value.ref b] below meth c H locs 100 2000 (lw_Z below #[Value.ref b] s) (F0 m 200 ls []) := by
  obtain ⟨hx, hb, hr, hml, hown, hts, hX, hbl, hlocks, hgv⟩ := id C0
  have htT : ∀ w ∈ TT, w.before _ s = true := fun w h => hts w (tt_in h)
  have hA : ∀ q : Nat, s.heap.size ≤ q → (fun q : Nat => s.heap.size ≤ q) q := fun _ h => h
  have hbA : ¬ (fun q : Nat => s.heap.size ≤ q) b := Nat.not_le.mpr hbl
  refine lv_aload_n hx hb dL_law_200 rfl (lv_at hl 4 rfl) ?_
  refine lv_aload_n hx hb dL_law_201 rfl (lv_at hl 5 rfl) ?_
  refine lv_iload hx hb dL_law_202 (lv_at hl 0 rfl) ?_
  refine lv_iconst (v := 1) hx hb dL_law_204 (by decide) ?_
  refine lv_iadd hx hb dL_law_205 ?_
  rw [show (0 + 1 : Int32) = 1 from by decide]
  refine va_sld hx hb hX hbl hbA hS (vp_in_iff.mpr (by decide)) dL_law_206 ?_
  refine lv_aload_n hx hb dL_law_207 rfl (lv_at hl 5 rfl) ?_
  refine lv_iload hx hb dL_law_208 (lv_at hl 0 rfl) ?_
  refine lv_iconst (v := 2) hx hb dL_law_210 (by decide) ?_
  refine lv_iadd hx hb dL_law_211 ?_
  rw [show (0 + 2 : Int32) = 2 from by decide]
  refine va_sld hx hb hX hbl hbA hS (vp_in_iff.mpr (by decide)) dL_law_212 ?_
  refine lv_aload_n hx hb dL_law_213 rfl (lv_at hl 5 rfl) ?_
  refine lv_iload hx hb dL_law_214 (lv_at hl 0 rfl) ?_
  refine lv_iconst (v := 3) hx hb dL_law_216 (by decide) ?_
  refine lv_iadd hx hb dL_law_217 ?_
  rw [show (0 + 3 : Int32) = 3 from by decide]
  refine va_sld hx hb hX hbl hbA hS (vp_in_iff.mpr (by decide)) dL_law_218 ?_
  refine lv_if_eq (tgt := 226) hx hb dL_law_219 (by decide) (fun c_1 => ?_) (fun c_1 => ?_)
  · refine lv_iconst (v := 0) hx hb dL_law_226 (by decide) ?_
    refine lv_aload_n hx hb dL_law_227 rfl (lv_at hl 2 rfl) ?_
    refine kj_i (pmJ _ _ _ _) (vx_runSW (As := [.ref x, .int (xs (1 : Int32).toNatClampNeg), .int (xs (2 : Int32).toNatClampNeg), .int 0, .ref qo]) (rest := []) ⟨hx, hb, hml, hown, htT⟩ (w_add_t1 l hst D cA _ S x qo fo ho (xs (1 : Int32).toNatClampNeg) (xs (2 : Int32).toNatClampNeg) 0 h1) (vx_cwSW 5 htT (kg_SW m_ml_L_124 m_st_L_add m_in_L m_cd_L_add) rfl rfl rfl (by decide +kernel) ⟨Nat.le_of_ble_eq_true rfl, Nat.le_of_ble_eq_true rfl⟩) (kj_SX (pmJ _ _ _ _) hK hP hD hTB hTX hS hA) rfl rfl hl.1 rfl (lv_room (Nat.le_of_ble_eq_true rfl)) dL_law_228 ⟨Nat.le_of_ble_eq_true rfl, Nat.le_of_ble_eq_true rfl⟩) hP hD hS hA (fun r_2 x_2 H locs hq_2 hP hD hS => ?_)
    rw [hq_2.1]
    rw [hq_2.2.1, hq_2.2.2] at hP hD
    rw [List.append_assoc] at hP hD
    refine lv_istore (lv' := [(6, .int 1), (5, .int 0), (4, .ref qd), (3, .ref qo), (2, .ref am), (1, .ref x), (0, .ref b)]) hx hb dL_law_231 hl (by decide) rfl (fun ls hl => ?_)
    refine lv_aload_n hx hb dL_law_233 rfl (lv_at hl 4 rfl) ?_
    refine lv_aload_n hx hb dL_law_234 rfl (lv_at hl 6 rfl) ?_
    refine lv_iload hx hb dL_law_235 (lv_at hl 1 rfl) ?_
    refine lv_iconst (v := 1) hx hb dL_law_237 (by decide) ?_
    refine lv_iadd hx hb dL_law_238 ?_
    rw [show (0 + 1 : Int32) = 1 from by decide]
    refine va_sld hx hb hX hbl hbA hS (vp_in_iff.mpr (by decide)) dL_law_239 ?_
    refine lv_aload_n hx hb dL_law_240 rfl (lv_at hl 6 rfl) ?_
    refine lv_iload hx hb dL_law_241 (lv_at hl 1 rfl) ?_
    refine lv_iconst (v := 2) hx hb dL_law_243 (by decide) ?_
    refine lv_iadd hx hb dL_law_244 ?_
    rw [show (0 + 2 : Int32) = 2 from by decide]
    refine va_sld hx hb hX hbl hbA hS (vp_in_iff.mpr (by decide)) dL_law_245 ?_
    refine lv_aload_n hx hb dL_law_246 rfl (lv_at hl 6 rfl) ?_
    refine lv_iload hx hb dL_law_247 (lv_at hl 1 rfl) ?_
    refine lv_iconst (v := 3) hx hb dL_law_249 (by decide) ?_
    refine lv_iadd hx hb dL_law_250 ?_
    rw [show (0 + 3 : Int32) = 3 from by decide]
    refine va_sld hx hb hX hbl hbA hS (vp_in_iff.mpr (by decide)) dL_law_251 ?_
    refine lv_if_eq (tgt := 259) hx hb dL_law_252 (by decide) (fun c_3 => ?_) (fun c_3 => ?_)
    · refine lv_iconst (v := 0) hx hb dL_law_259 (by decide) ?_
      refine kj_i (pmM _ _ _ _) (va_runV (As := [.int (xs (1 : Int32).toNatClampNeg), .int (xs (2 : Int32).toNatClampNeg), .int 0]) (rest := []) ⟨hx, hb, hml, hown, htT⟩ (m_add_1 l D cA _ am r mZ (xs (1 : Int32).toNatClampNeg) (xs (2 : Int32).toNatClampNeg) 0 (kIn_out0.mpr h1)) (cwV 3 htT (kg_V m_ml_L_129 m_im_X6_add m_sl_X6_add m_in_X6 m_cd_X6_add) rfl rfl rfl (by decide +kernel) ⟨Nat.le_of_ble_eq_true rfl, Nat.le_of_ble_eq_true rfl⟩) (kj_V (pmM _ _ _ _) hK hP hD hTB (kj_rm (pmM _ _ _ _) hK hP)) rfl rfl hl.1 rfl (lv_room (Nat.le_of_ble_eq_true rfl)) dL_law_260 ⟨Nat.le_of_ble_eq_true rfl, Nat.le_of_ble_eq_true rfl⟩) hP hD hS hA (fun r_4 x_4 H locs hq_4 hP hD hS => ?_)
      rw [hq_4.1]
      rw [hq_4.2] at hP hD
      have hP := kj_P (pmM _ _ _ _).symm hP
      have hD := kj_D (pmM _ _ _ _).symm hD
      refine lv_istore (lv' := [(7, .int 0), (6, .int 1), (5, .int 0), (4, .ref qd), (3, .ref qo), (2, .ref am), (1, .ref x), (0, .ref b)]) hx hb dL_law_263 hl (by decide) rfl (fun ls hl => ?_)
      refine lv_aload_n hx hb dL_law_265 rfl (lv_at hl 5 rfl) ?_
      refine kj_i (pmM _ _ _ _) (va_runV (As := []) (rest := []) ⟨hx, hb, hml, hown, htT⟩ (m_thrown l D cA _ am r (mS (mS mZ 0 0) 0 1)) (cwV 0 htT (kg_V m_ml_L_130 m_im_X6_thrown m_sl_X6_thrown m_in_X6 m_cd_X6_thrown) rfl rfl rfl (by decide +kernel) ⟨Nat.le_of_ble_eq_true rfl, Nat.le_of_ble_eq_true rfl⟩) (kj_V (pmM _ _ _ _) hK hP hD hTB (kj_rm (pmM _ _ _ _) hK hP)) rfl rfl hl.1 rfl (lv_room (Nat.le_of_ble_eq_true rfl)) dL_law_266 ⟨Nat.le_of_ble_eq_true rfl, Nat.le_of_ble_eq_true rfl⟩) hP hD hS hA (fun r_5 x_5 H locs hq_5 hP hD hS => ?_)
      rw [hq_5.1.trans (show (mS (mS mZ 0 0) 0 1).1 0 = 1 from rfl)]
      rw [hq_5.2] at hP hD
      have hP := kj_P (pmM _ _ _ _).symm hP
      have hD := kj_D (pmM _ _ _ _).symm hD
      refine lv_iload hx hb dL_law_269 (lv_at hl 1 rfl) ?_
      refine lv_icmp_eq (tgt := 276) hx hb dL_law_271 (by decide) (fun _ => ?_) (fun c_6 => absurd c_6 (by decide))
      refine lv_iload hx hb dL_law_276 (lv_at hl 1 rfl) ?_
      refine lv_if_ne (tgt := 293) hx hb dL_law_278 (by decide) (fun _ => ?_) (fun c_7 => absurd c_7 (by decide))
      refine lv_goto (tgt := 2693) hx hb dL_law_293 (by decide) ?_
      exact law_end C0 hS (Nat.le_of_ble_eq_true rfl) (Nat.le_of_ble_eq_true rfl) (lv_sub hl [2, 7] rfl)
    · exact absurd c_1 c_3
  · refine lv_iconst (v := 1) hx hb dL_law_222 (by decide) ?_
    refine lv_goto (tgt := 227) hx hb dL_law_223 (by decide) ?_
    refine lv_aload_n hx hb dL_law_227 rfl (lv_at hl 2 rfl) ?_
    refine kj_i (pmJ _ _ _ _) (vx_runSW (As := [.ref x, .int (xs (1 : Int32).toNatClampNeg), .int (xs (2 : Int32).toNatClampNeg), .int 1, .ref qo]) (rest := []) ⟨hx, hb, hml, hown, htT⟩ (w_add_t1 l hst D cA _ S x qo fo ho (xs (1 : Int32).toNatClampNeg) (xs (2 : Int32).toNatClampNeg) 1 h1) (vx_cwSW 5 htT (kg_SW m_ml_L_124 m_st_L_add m_in_L m_cd_L_add) rfl rfl rfl (by decide +kernel) ⟨Nat.le_of_ble_eq_true rfl, Nat.le_of_ble_eq_true rfl⟩) (kj_SX (pmJ _ _ _ _) hK hP hD hTB hTX hS hA) rfl rfl hl.1 rfl (lv_room (Nat.le_of_ble_eq_true rfl)) dL_law_228 ⟨Nat.le_of_ble_eq_true rfl, Nat.le_of_ble_eq_true rfl⟩) hP hD hS hA (fun r_8 x_8 H locs hq_8 hP hD hS => ?_)
    rw [hq_8.1]
    rw [hq_8.2.1, hq_8.2.2] at hP hD
    rw [List.append_assoc] at hP hD
    refine lv_istore (lv' := [(6, .int 1), (5, .int 0), (4, .ref qd), (3, .ref qo), (2, .ref am), (1, .ref x), (0, .ref b)]) hx hb dL_law_231 hl (by decide) rfl (fun ls hl => ?_)
    refine lv_aload_n hx hb dL_law_233 rfl (lv_at hl 4 rfl) ?_
    refine lv_aload_n hx hb dL_law_234 rfl (lv_at hl 6 rfl) ?_
    refine lv_iload hx hb dL_law_235 (lv_at hl 1 rfl) ?_
    refine lv_iconst (v := 1) hx hb dL_law_237 (by decide) ?_
    refine lv_iadd hx hb dL_law_238 ?_
    rw [show (0 + 1 : Int32) = 1 from by decide]
    refine va_sld hx hb hX hbl hbA hS (vp_in_iff.mpr (by decide)) dL_law_239 ?_
    refine lv_aload_n hx hb dL_law_240 rfl (lv_at hl 6 rfl) ?_
    refine lv_iload hx hb dL_law_241 (lv_at hl 1 rfl) ?_
    refine lv_iconst (v := 2) hx hb dL_law_243 (by decide) ?_
    refine lv_iadd hx hb dL_law_244 ?_
    rw [show (0 + 2 : Int32) = 2 from by decide]
    refine va_sld hx hb hX hbl hbA hS (vp_in_iff.mpr (by decide)) dL_law_245 ?_
    refine lv_aload_n hx hb dL_law_246 rfl (lv_at hl 6 rfl) ?_
    refine lv_iload hx hb dL_law_247 (lv_at hl 1 rfl) ?_
    refine lv_iconst (v := 3) hx hb dL_law_249 (by decide) ?_
    refine lv_iadd hx hb dL_law_250 ?_
    rw [show (0 + 3 : Int32) = 3 from by decide]
    refine va_sld hx hb hX hbl hbA hS (vp_in_iff.mpr (by decide)) dL_law_251 ?_
    refine lv_if_eq (tgt := 259) hx hb dL_law_252 (by decide) (fun c_9 => ?_) (fun c_9 => ?_)
    · exact absurd c_9 c_1
    · refine lv_iconst (v := 1) hx hb dL_law_255 (by decide) ?_
      refine lv_goto (tgt := 260) hx hb dL_law_256 (by decide) ?_
      refine kj_i (pmM _ _ _ _) (va_runV (As := [.int (xs (1 : Int32).toNatClampNeg), .int (xs (2 : Int32).toNatClampNeg), .int 1]) (rest := []) ⟨hx, hb, hml, hown, htT⟩ (m_add_1 l D cA _ am r mZ (xs (1 : Int32).toNatClampNeg) (xs (2 : Int32).toNatClampNeg) 1 (kIn_out0.mpr h1)) (cwV 3 htT (kg_V m_ml_L_129 m_im_X6_add m_sl_X6_add m_in_X6 m_cd_X6_add) rfl rfl rfl (by decide +kernel) ⟨Nat.le_of_ble_eq_true rfl, Nat.le_of_ble_eq_true rfl⟩) (kj_V (pmM _ _ _ _) hK hP hD hTB (kj_rm (pmM _ _ _ _) hK hP)) rfl rfl hl.1 rfl (lv_room (Nat.le_of_ble_eq_true rfl)) dL_law_260 ⟨Nat.le_of_ble_eq_true rfl, Nat.le_of_ble_eq_true rfl⟩) hP hD hS hA (fun r_10 x_10 H locs hq_10 hP hD hS => ?_)
      rw [hq_10.1]
      rw [hq_10.2] at hP hD
      have hP := kj_P (pmM _ _ _ _).symm hP
      have hD := kj_D (pmM _ _ _ _).symm hD
      refine lv_istore (lv' := [(7, .int 0), (6, .int 1), (5, .int 0), (4, .ref qd), (3, .ref qo), (2, .ref am), (1, .ref x), (0, .ref b)]) hx hb dL_law_263 hl (by decide) rfl (fun ls hl => ?_)
      refine lv_aload_n hx hb dL_law_265 rfl (lv_at hl 5 rfl) ?_
      refine kj_i (pmM _ _ _ _) (va_runV (As := []) (rest := []) ⟨hx, hb, hml, hown, htT⟩ (m_thrown l D cA _ am r (mS (mS mZ 0 0) 0 1)) (cwV 0 htT (kg_V m_ml_L_130 m_im_X6_thrown m_sl_X6_thrown m_in_X6 m_cd_X6_thrown) rfl rfl rfl (by decide +kernel) ⟨Nat.le_of_ble_eq_true rfl, Nat.le_of_ble_eq_true rfl⟩) (kj_V (pmM _ _ _ _) hK hP hD hTB (kj_rm (pmM _ _ _ _) hK hP)) rfl rfl hl.1 rfl (lv_room (Nat.le_of_ble_eq_true rfl)) dL_law_266 ⟨Nat.le_of_ble_eq_true rfl, Nat.le_of_ble_eq_true rfl⟩) hP hD hS hA (fun r_11 x_11 H locs hq_11 hP hD hS => ?_)
      rw [hq_11.1.trans (show (mS (mS mZ 0 0) 0 1).1 0 = 1 from rfl)]
      rw [hq_11.2] at hP hD
      have hP := kj_P (pmM _ _ _ _).symm hP
      have hD := kj_D (pmM _ _ _ _).symm hD
      refine lv_iload hx hb dL_law_269 (lv_at hl 1 rfl) ?_
      refine lv_icmp_eq (tgt := 276) hx hb dL_law_271 (by decide) (fun _ => ?_) (fun c_12 => absurd c_12 (by decide))
      refine lv_iload hx hb dL_law_276 (lv_at hl 1 rfl) ?_
      refine lv_if_ne (tgt := 293) hx hb dL_law_278 (by decide) (fun _ => ?_) (fun c_13 => absurd c_13 (by decide))
      refine lv_goto (tgt := 2693) hx hb dL_law_293 (by decide) ?_
      exact law_end C0 hS (Nat.le_of_ble_eq_true rfl) (Nat.le_of_ble_eq_true rfl) (lv_sub hl [2, 7] rfl)

set_option maxRecDepth 100000 in
set_option maxHeartbeats 4000000 in
theorem law_add_2 (l : Launch) (hst : l.stackTraces = false) {p : Program} {e : Env} {s : State} {m : MethodId} {below : List Frame} {meth : Method} {c : Code} {b : Nat} {xs : Nat → Int32} (C0 : lw_At p s m meth c b 6 xs) {D : va_G} {cA : Nat → ClassId} (hK : va_K D vwCl (ty6 cA) s) (hTB : TBok s) (hTX : TXok (fun q : Nat => s.heap.size ≤ q) s) {S : Pool} {x ar qo qd am : Nat} {r : Nat → Nat} {fo : Nat → Int64} {fd : Nat → UInt64} {H : Heap} {locs : List Loc} {ls : Array Slot} (ho : isO S x 5) (hq0 : gQ S x 0 = some ar) (har : isA S ar 22 8) (hn : ∀ j, j < 8 → gP S ar j = none) (hnum : ∀ k, gI S x k = 0) (hP : va_P D vwCl (LW cA S qo fo qd fd am r mZ) H) (hD : va_D (fun q : Nat => s.heap.size ≤ q) (LW cA S qo fo qd fd am r mZ)) (hS : va_S (fun q : Nat => s.heap.size ≤ q) s.heap H locs) (hl : lv_has ls 9 [(5, .int 0), (4, .ref qd), (3, .ref qo), (2, .ref am), (1, .ref x), (0, .ref b)]) (h1 : kOut (xs (1 : Int32).toNatClampNeg) 0 498 = 0) (h2 : kOut (xs (2 : Int32).toNatClampNeg) 2 4 = 1) : W p l e room_1 s m #[Value.ref b] below meth c H locs 100 2000 (lw_Z below #[Value.ref b] s) (F0 m 200 ls []) := by
  obtain ⟨hx, hb, hr, hml, hown, hts, hX, hbl, hlocks, hgv⟩ := id C0
  have htT : ∀ w ∈ TT, w.before _ s = true := fun w h => hts w (tt_in h)
  have hA : ∀ q : Nat, s.heap.size ≤ q → (fun q : Nat => s.heap.size ≤ q) q := fun _ h => h
  have hbA : ¬ (fun q : Nat => s.heap.size ≤ q) b := Nat.not_le.mpr hbl
  refine lv_aload_n hx hb dL_law_200 rfl (lv_at hl 4 rfl) ?_
  refine lv_aload_n hx hb dL_law_201 rfl (lv_at hl 5 rfl) ?_
  refine lv_iload hx hb dL_law_202 (lv_at hl 0 rfl) ?_
  refine lv_iconst (v := 1) hx hb dL_law_204 (by decide) ?_
  refine lv_iadd hx hb dL_law_205 ?_
  rw [show (0 + 1 : Int32) = 1 from by decide]
  refine va_sld hx hb hX hbl hbA hS (vp_in_iff.mpr (by decide)) dL_law_206 ?_
  refine lv_aload_n hx hb dL_law_207 rfl (lv_at hl 5 rfl) ?_
  refine lv_iload hx hb dL_law_208 (lv_at hl 0 rfl) ?_
  refine lv_iconst (v := 2) hx hb dL_law_210 (by decide) ?_
  refine lv_iadd hx hb dL_law_211 ?_
  rw [show (0 + 2 : Int32) = 2 from by decide]
  refine va_sld hx hb hX hbl hbA hS (vp_in_iff.mpr (by decide)) dL_law_212 ?_
  refine lv_aload_n hx hb dL_law_213 rfl (lv_at hl 5 rfl) ?_
  refine lv_iload hx hb dL_law_214 (lv_at hl 0 rfl) ?_
  refine lv_iconst (v := 3) hx hb dL_law_216 (by decide) ?_
  refine lv_iadd hx hb dL_law_217 ?_
  rw [show (0 + 3 : Int32) = 3 from by decide]
  refine va_sld hx hb hX hbl hbA hS (vp_in_iff.mpr (by decide)) dL_law_218 ?_
  refine lv_if_eq (tgt := 226) hx hb dL_law_219 (by decide) (fun c_1 => ?_) (fun c_1 => ?_)
  · refine lv_iconst (v := 0) hx hb dL_law_226 (by decide) ?_
    refine lv_aload_n hx hb dL_law_227 rfl (lv_at hl 2 rfl) ?_
    refine kj_i (pmJ _ _ _ _) (vx_runSW (As := [.ref x, .int (xs (1 : Int32).toNatClampNeg), .int (xs (2 : Int32).toNatClampNeg), .int 0, .ref qo]) (rest := []) ⟨hx, hb, hml, hown, htT⟩ (w_add_t2 l hst D cA _ S x qo fo ho (xs (1 : Int32).toNatClampNeg) (xs (2 : Int32).toNatClampNeg) 0 h1 h2) (vx_cwSW 5 htT (kg_SW m_ml_L_124 m_st_L_add m_in_L m_cd_L_add) rfl rfl rfl (by decide +kernel) ⟨Nat.le_of_ble_eq_true rfl, Nat.le_of_ble_eq_true rfl⟩) (kj_SX (pmJ _ _ _ _) hK hP hD hTB hTX hS hA) rfl rfl hl.1 rfl (lv_room (Nat.le_of_ble_eq_true rfl)) dL_law_228 ⟨Nat.le_of_ble_eq_true rfl, Nat.le_of_ble_eq_true rfl⟩) hP hD hS hA (fun r_2 x_2 H locs hq_2 hP hD hS => ?_)
    rw [hq_2.1]
    rw [hq_2.2.1, hq_2.2.2] at hP hD
    rw [List.append_assoc] at hP hD
    refine lv_istore (lv' := [(6, .int 1), (5, .int 0), (4, .ref qd), (3, .ref qo), (2, .ref am), (1, .ref x), (0, .ref b)]) hx hb dL_law_231 hl (by decide) rfl (fun ls hl => ?_)
    refine lv_aload_n hx hb dL_law_233 rfl (lv_at hl 4 rfl) ?_
    refine lv_aload_n hx hb dL_law_234 rfl (lv_at hl 6 rfl) ?_
    refine lv_iload hx hb dL_law_235 (lv_at hl 1 rfl) ?_
    refine lv_iconst (v := 1) hx hb dL_law_237 (by decide) ?_
    refine lv_iadd hx hb dL_law_238 ?_
    rw [show (0 + 1 : Int32) = 1 from by decide]
    refine va_sld hx hb hX hbl hbA hS (vp_in_iff.mpr (by decide)) dL_law_239 ?_
    refine lv_aload_n hx hb dL_law_240 rfl (lv_at hl 6 rfl) ?_
    refine lv_iload hx hb dL_law_241 (lv_at hl 1 rfl) ?_
    refine lv_iconst (v := 2) hx hb dL_law_243 (by decide) ?_
    refine lv_iadd hx hb dL_law_244 ?_
    rw [show (0 + 2 : Int32) = 2 from by decide]
    refine va_sld hx hb hX hbl hbA hS (vp_in_iff.mpr (by decide)) dL_law_245 ?_
    refine lv_aload_n hx hb dL_law_246 rfl (lv_at hl 6 rfl) ?_
    refine lv_iload hx hb dL_law_247 (lv_at hl 1 rfl) ?_
    refine lv_iconst (v := 3) hx hb dL_law_249 (by decide) ?_
    refine lv_iadd hx hb dL_law_250 ?_
    rw [show (0 + 3 : Int32) = 3 from by decide]
    refine va_sld hx hb hX hbl hbA hS (vp_in_iff.mpr (by decide)) dL_law_251 ?_
    refine lv_if_eq (tgt := 259) hx hb dL_law_252 (by decide) (fun c_3 => ?_) (fun c_3 => ?_)
    · refine lv_iconst (v := 0) hx hb dL_law_259 (by decide) ?_
      refine kj_i (pmM _ _ _ _) (va_runV (As := [.int (xs (1 : Int32).toNatClampNeg), .int (xs (2 : Int32).toNatClampNeg), .int 0]) (rest := []) ⟨hx, hb, hml, hown, htT⟩ (m_add_2 l D cA _ am r mZ (xs (1 : Int32).toNatClampNeg) (xs (2 : Int32).toNatClampNeg) 0 (kIn_out.mpr h1) (kIn_out0.mpr h2)) (cwV 3 htT (kg_V m_ml_L_129 m_im_X6_add m_sl_X6_add m_in_X6 m_cd_X6_add) rfl rfl rfl (by decide +kernel) ⟨Nat.le_of_ble_eq_true rfl, Nat.le_of_ble_eq_true rfl⟩) (kj_V (pmM _ _ _ _) hK hP hD hTB (kj_rm (pmM _ _ _ _) hK hP)) rfl rfl hl.1 rfl (lv_room (Nat.le_of_ble_eq_true rfl)) dL_law_260 ⟨Nat.le_of_ble_eq_true rfl, Nat.le_of_ble_eq_true rfl⟩) hP hD hS hA (fun r_4 x_4 H locs hq_4 hP hD hS => ?_)
      rw [hq_4.1]
      rw [hq_4.2] at hP hD
      have hP := kj_P (pmM _ _ _ _).symm hP
      have hD := kj_D (pmM _ _ _ _).symm hD
      refine lv_istore (lv' := [(7, .int 0), (6, .int 1), (5, .int 0), (4, .ref qd), (3, .ref qo), (2, .ref am), (1, .ref x), (0, .ref b)]) hx hb dL_law_263 hl (by decide) rfl (fun ls hl => ?_)
      refine lv_aload_n hx hb dL_law_265 rfl (lv_at hl 5 rfl) ?_
      refine kj_i (pmM _ _ _ _) (va_runV (As := []) (rest := []) ⟨hx, hb, hml, hown, htT⟩ (m_thrown l D cA _ am r (mS (mS mZ 0 0) 0 1)) (cwV 0 htT (kg_V m_ml_L_130 m_im_X6_thrown m_sl_X6_thrown m_in_X6 m_cd_X6_thrown) rfl rfl rfl (by decide +kernel) ⟨Nat.le_of_ble_eq_true rfl, Nat.le_of_ble_eq_true rfl⟩) (kj_V (pmM _ _ _ _) hK hP hD hTB (kj_rm (pmM _ _ _ _) hK hP)) rfl rfl hl.1 rfl (lv_room (Nat.le_of_ble_eq_true rfl)) dL_law_266 ⟨Nat.le_of_ble_eq_true rfl, Nat.le_of_ble_eq_true rfl⟩) hP hD hS hA (fun r_5 x_5 H locs hq_5 hP hD hS => ?_)
      rw [hq_5.1.trans (show (mS (mS mZ 0 0) 0 1).1 0 = 1 from rfl)]
      rw [hq_5.2] at hP hD
      have hP := kj_P (pmM _ _ _ _).symm hP
      have hD := kj_D (pmM _ _ _ _).symm hD
      refine lv_iload hx hb dL_law_269 (lv_at hl 1 rfl) ?_
      refine lv_icmp_eq (tgt := 276) hx hb dL_law_271 (by decide) (fun _ => ?_) (fun c_6 => absurd c_6 (by decide))
      refine lv_iload hx hb dL_law_276 (lv_at hl 1 rfl) ?_
      refine lv_if_ne (tgt := 293) hx hb dL_law_278 (by decide) (fun _ => ?_) (fun c_7 => absurd c_7 (by decide))
      refine lv_goto (tgt := 2693) hx hb dL_law_293 (by decide) ?_
      exact law_end C0 hS (Nat.le_of_ble_eq_true rfl) (Nat.le_of_ble_eq_true rfl) (lv_sub hl [2, 7] rfl)
    · exact absurd c_1 c_3
  · refine lv_iconst (v := 1) hx hb dL_law_222 (by decide) ?_
    refine lv_goto (tgt := 227) hx hb dL_law_223 (by decide) ?_
    refine lv_aload_n hx hb dL_law_227 rfl (lv_at hl 2 rfl) ?_
    refine kj_i (pmJ _ _ _ _) (vx_runSW (As := [.ref x, .int (xs (1 : Int32).toNatClampNeg), .int (xs (2 : Int32).toNatClampNeg), .int 1, .ref qo]) (rest := []) ⟨hx, hb, hml, hown, htT⟩ (w_add_t2 l hst D cA _ S x qo fo ho (xs (1 : Int32).toNatClampNeg) (xs (2 : Int32).toNatClampNeg) 1 h1 h2) (vx_cwSW 5 htT (kg_SW m_ml_L_124 m_st_L_add m_in_L m_cd_L_add) rfl rfl rfl (by decide +kernel) ⟨Nat.le_of_ble_eq_true rfl, Nat.le_of_ble_eq_true rfl⟩) (kj_SX (pmJ _ _ _ _) hK hP hD hTB hTX hS hA) rfl rfl hl.1 rfl (lv_room (Nat.le_of_ble_eq_true rfl)) dL_law_228 ⟨Nat.le_of_ble_eq_true rfl, Nat.le_of_ble_eq_true rfl⟩) hP hD hS hA (fun r_8 x_8 H locs hq_8 hP hD hS => ?_)
    rw [hq_8.1]
    rw [hq_8.2.1, hq_8.2.2] at hP hD
    rw [List.append_assoc] at hP hD
    refine lv_istore (lv' := [(6, .int 1), (5, .int 0), (4, .ref qd), (3, .ref qo), (2, .ref am), (1, .ref x), (0, .ref b)]) hx hb dL_law_231 hl (by decide) rfl (fun ls hl => ?_)
    refine lv_aload_n hx hb dL_law_233 rfl (lv_at hl 4 rfl) ?_
    refine lv_aload_n hx hb dL_law_234 rfl (lv_at hl 6 rfl) ?_
    refine lv_iload hx hb dL_law_235 (lv_at hl 1 rfl) ?_
    refine lv_iconst (v := 1) hx hb dL_law_237 (by decide) ?_
    refine lv_iadd hx hb dL_law_238 ?_
    rw [show (0 + 1 : Int32) = 1 from by decide]
    refine va_sld hx hb hX hbl hbA hS (vp_in_iff.mpr (by decide)) dL_law_239 ?_
    refine lv_aload_n hx hb dL_law_240 rfl (lv_at hl 6 rfl) ?_
    refine lv_iload hx hb dL_law_241 (lv_at hl 1 rfl) ?_
    refine lv_iconst (v := 2) hx hb dL_law_243 (by decide) ?_
    refine lv_iadd hx hb dL_law_244 ?_
    rw [show (0 + 2 : Int32) = 2 from by decide]
    refine va_sld hx hb hX hbl hbA hS (vp_in_iff.mpr (by decide)) dL_law_245 ?_
    refine lv_aload_n hx hb dL_law_246 rfl (lv_at hl 6 rfl) ?_
    refine lv_iload hx hb dL_law_247 (lv_at hl 1 rfl) ?_
    refine lv_iconst (v := 3) hx hb dL_law_249 (by decide) ?_
    refine lv_iadd hx hb dL_law_250 ?_
    rw [show (0 + 3 : Int32) = 3 from by decide]
    refine va_sld hx hb hX hbl hbA hS (vp_in_iff.mpr (by decide)) dL_law_251 ?_
    refine lv_if_eq (tgt := 259) hx hb dL_law_252 (by decide) (fun c_9 => ?_) (fun c_9 => ?_)
    · exact absurd c_9 c_1
    · refine lv_iconst (v := 1) hx hb dL_law_255 (by decide) ?_
      refine lv_goto (tgt := 260) hx hb dL_law_256 (by decide) ?_
      refine kj_i (pmM _ _ _ _) (va_runV (As := [.int (xs (1 : Int32).toNatClampNeg), .int (xs (2 : Int32).toNatClampNeg), .int 1]) (rest := []) ⟨hx, hb, hml, hown, htT⟩ (m_add_2 l D cA _ am r mZ (xs (1 : Int32).toNatClampNeg) (xs (2 : Int32).toNatClampNeg) 1 (kIn_out.mpr h1) (kIn_out0.mpr h2)) (cwV 3 htT (kg_V m_ml_L_129 m_im_X6_add m_sl_X6_add m_in_X6 m_cd_X6_add) rfl rfl rfl (by decide +kernel) ⟨Nat.le_of_ble_eq_true rfl, Nat.le_of_ble_eq_true rfl⟩) (kj_V (pmM _ _ _ _) hK hP hD hTB (kj_rm (pmM _ _ _ _) hK hP)) rfl rfl hl.1 rfl (lv_room (Nat.le_of_ble_eq_true rfl)) dL_law_260 ⟨Nat.le_of_ble_eq_true rfl, Nat.le_of_ble_eq_true rfl⟩) hP hD hS hA (fun r_10 x_10 H locs hq_10 hP hD hS => ?_)
      rw [hq_10.1]
      rw [hq_10.2] at hP hD
      have hP := kj_P (pmM _ _ _ _).symm hP
      have hD := kj_D (pmM _ _ _ _).symm hD
      refine lv_istore (lv' := [(7, .int 0), (6, .int 1), (5, .int 0), (4, .ref qd), (3, .ref qo), (2, .ref am), (1, .ref x), (0, .ref b)]) hx hb dL_law_263 hl (by decide) rfl (fun ls hl => ?_)
      refine lv_aload_n hx hb dL_law_265 rfl (lv_at hl 5 rfl) ?_
      refine kj_i (pmM _ _ _ _) (va_runV (As := []) (rest := []) ⟨hx, hb, hml, hown, htT⟩ (m_thrown l D cA _ am r (mS (mS mZ 0 0) 0 1)) (cwV 0 htT (kg_V m_ml_L_130 m_im_X6_thrown m_sl_X6_thrown m_in_X6 m_cd_X6_thrown) rfl rfl rfl (by decide +kernel) ⟨Nat.le_of_ble_eq_true rfl, Nat.le_of_ble_eq_true rfl⟩) (kj_V (pmM _ _ _ _) hK hP hD hTB (kj_rm (pmM _ _ _ _) hK hP)) rfl rfl hl.1 rfl (lv_room (Nat.le_of_ble_eq_true rfl)) dL_law_266 ⟨Nat.le_of_ble_eq_true rfl, Nat.le_of_ble_eq_true rfl⟩) hP hD hS hA (fun r_11 x_11 H locs hq_11 hP hD hS => ?_)
      rw [hq_11.1.trans (show (mS (mS mZ 0 0) 0 1).1 0 = 1 from rfl)]
      rw [hq_11.2] at hP hD
      have hP := kj_P (pmM _ _ _ _).symm hP
      have hD := kj_D (pmM _ _ _ _).symm hD
      refine lv_iload hx hb dL_law_269 (lv_at hl 1 rfl) ?_
      refine lv_icmp_eq (tgt := 276) hx hb dL_law_271 (by decide) (fun _ => ?_) (fun c_12 => absurd c_12 (by decide))
      refine lv_iload hx hb dL_law_276 (lv_at hl 1 rfl) ?_
      refine lv_if_ne (tgt := 293) hx hb dL_law_278 (by decide) (fun _ => ?_) (fun c_13 => absurd c_13 (by decide))
      refine lv_goto (tgt := 2693) hx hb dL_law_293 (by decide) ?_
      exact law_end C0 hS (Nat.le_of_ble_eq_true rfl) (Nat.le_of_ble_eq_true rfl) (lv_sub hl [2, 7] rfl)

set_option maxRecDepth 100000 in
set_option maxHeartbeats 4000000 in
theorem law_add (l : Launch) (hst : l.stackTraces = false) {p : Program} {e : Env} {s : State} {m : MethodId} {below : List Frame} {meth : Method} {c : Code} {b : Nat} {xs : Nat → Int32} (C0 : lw_At p s m meth c b 6 xs) {D : va_G} {cA : Nat → ClassId} (hK : va_K D vwCl (ty6 cA) s) (hTB : TBok s) (hTX : TXok (fun q : Nat => s.heap.size ≤ q) s) {S : Pool} {x ar qo qd am : Nat} {r : Nat → Nat} {fo : Nat → Int64} {fd : Nat → UInt64} {H : Heap} {locs : List Loc} {ls : Array Slot} (ho : isO S x 5) (hq0 : gQ S x 0 = some ar) (har : isA S ar 22 8) (hn : ∀ j, j < 8 → gP S ar j = none) (hnum : ∀ k, gI S x k = 0) (hP : va_P D vwCl (LW cA S qo fo qd fd am r mZ) H) (hD : va_D (fun q : Nat => s.heap.size ≤ q) (LW cA S qo fo qd fd am r mZ)) (hS : va_S (fun q : Nat => s.heap.size ≤ q) s.heap H locs) (hl : lv_has ls 9 [(5, .int 0), (4, .ref qd), (3, .ref qo), (2, .ref am), (1, .ref x), (0, .ref b)]) (h1 : kOut (xs (1 : Int32).toNatClampNeg) 0 498 = 0) (h2 : kOut (xs (2 : Int32).toNatClampNeg) 2 4 = 0) : W p l e room_1 s m #[Value.ref b] below meth c H locs 100 2000 (lw_Z below #[Value.ref b] s) (F0 m 200 ls []) := by
  obtain ⟨hx, hb, hr, hml, hown, hts, hX, hbl, hlocks, hgv⟩ := id C0
  have htT : ∀ w ∈ TT, w.before _ s = true := fun w h => hts w (tt_in h)
  have hA : ∀ q : Nat, s.heap.size ≤ q → (fun q : Nat => s.heap.size ≤ q) q := fun _ h => h
  have hbA : ¬ (fun q : Nat => s.heap.size ≤ q) b := Nat.not_le.mpr hbl
  refine lv_aload_n hx hb dL_law_200 rfl (lv_at hl 4 rfl) ?_
  refine lv_aload_n hx hb dL_law_201 rfl (lv_at hl 5 rfl) ?_
  refine lv_iload hx hb dL_law_202 (lv_at hl 0 rfl) ?_
  refine lv_iconst (v := 1) hx hb dL_law_204 (by decide) ?_
  refine lv_iadd hx hb dL_law_205 ?_
  rw [show (0 + 1 : Int32) = 1 from by decide]
  refine va_sld hx hb hX hbl hbA hS (vp_in_iff.mpr (by decide)) dL_law_206 ?_
  refine lv_aload_n hx hb dL_law_207 rfl (lv_at hl 5 rfl) ?_
  refine lv_iload hx hb dL_law_208 (lv_at hl 0 rfl) ?_
  refine lv_iconst (v := 2) hx hb dL_law_210 (by decide) ?_
  refine lv_iadd hx hb dL_law_211 ?_
  rw [show (0 + 2 : Int32) = 2 from by decide]
  refine va_sld hx hb hX hbl hbA hS (vp_in_iff.mpr (by decide)) dL_law_212 ?_
  refine lv_aload_n hx hb dL_law_213 rfl (lv_at hl 5 rfl) ?_
  refine lv_iload hx hb dL_law_214 (lv_at hl 0 rfl) ?_
  refine lv_iconst (v := 3) hx hb dL_law_216 (by decide) ?_
  refine lv_iadd hx hb dL_law_217 ?_
  rw [show (0 + 3 : Int32) = 3 from by decide]
  refine va_sld hx hb hX hbl hbA hS (vp_in_iff.mpr (by decide)) dL_law_218 ?_
  refine lv_if_eq (tgt := 226) hx hb dL_law_219 (by decide) (fun c_1 => ?_) (fun c_1 => ?_)
  · refine lv_iconst (v := 0) hx hb dL_law_226 (by decide) ?_
    refine lv_aload_n hx hb dL_law_227 rfl (lv_at hl 2 rfl) ?_
    refine kj_i (pmJ _ _ _ _) (vx_runSW (As := [.ref x, .int (xs (1 : Int32).toNatClampNeg), .int (xs (2 : Int32).toNatClampNeg), .int 0, .ref qo]) (rest := []) ⟨hx, hb, hml, hown, htT⟩ (w_add l hst D cA _ S x qo fo ho ar hq0 har (xs (1 : Int32).toNatClampNeg) (xs (2 : Int32).toNatClampNeg) 0 (Or.inl rfl) h1 h2 (by rw [hnum]; decide) (by rw [hnum]; decide)) (vx_cwSW 5 htT (kg_SW m_ml_L_124 m_st_L_add m_in_L m_cd_L_add) rfl rfl rfl (by decide +kernel) ⟨Nat.le_of_ble_eq_true rfl, Nat.le_of_ble_eq_true rfl⟩) (kj_SX (pmJ _ _ _ _) hK hP hD hTB hTX hS hA) rfl rfl hl.1 rfl (lv_room (Nat.le_of_ble_eq_true rfl)) dL_law_228 ⟨Nat.le_of_ble_eq_true rfl, Nat.le_of_ble_eq_true rfl⟩) hP hD hS hA (fun r_2 x_2 H locs hq_2 hP hD hS => ?_)
    rw [hq_2.1]
    have e_2 := hq_2.2
    rw [hnum 2] at e_2
    rw [e_2] at hP hD
    rw [List.append_assoc] at hP hD
    refine lv_istore (lv' := [(6, .int 0), (5, .int 0), (4, .ref qd), (3, .ref qo), (2, .ref am), (1, .ref x), (0, .ref b)]) hx hb dL_law_231 hl (by decide) rfl (fun ls hl => ?_)
    refine lv_aload_n hx hb dL_law_233 rfl (lv_at hl 4 rfl) ?_
    refine lv_aload_n hx hb dL_law_234 rfl (lv_at hl 6 rfl) ?_
    refine lv_iload hx hb dL_law_235 (lv_at hl 1 rfl) ?_
    refine lv_iconst (v := 1) hx hb dL_law_237 (by decide) ?_
    refine lv_iadd hx hb dL_law_238 ?_
    rw [show (0 + 1 : Int32) = 1 from by decide]
    refine va_sld hx hb hX hbl hbA hS (vp_in_iff.mpr (by decide)) dL_law_239 ?_
    refine lv_aload_n hx hb dL_law_240 rfl (lv_at hl 6 rfl) ?_
    refine lv_iload hx hb dL_law_241 (lv_at hl 1 rfl) ?_
    refine lv_iconst (v := 2) hx hb dL_law_243 (by decide) ?_
    refine lv_iadd hx hb dL_law_244 ?_
    rw [show (0 + 2 : Int32) = 2 from by decide]
    refine va_sld hx hb hX hbl hbA hS (vp_in_iff.mpr (by decide)) dL_law_245 ?_
    refine lv_aload_n hx hb dL_law_246 rfl (lv_at hl 6 rfl) ?_
    refine lv_iload hx hb dL_law_247 (lv_at hl 1 rfl) ?_
    refine lv_iconst (v := 3) hx hb dL_law_249 (by decide) ?_
    refine lv_iadd hx hb dL_law_250 ?_
    rw [show (0 + 3 : Int32) = 3 from by decide]
    refine va_sld hx hb hX hbl hbA hS (vp_in_iff.mpr (by decide)) dL_law_251 ?_
    refine lv_if_eq (tgt := 259) hx hb dL_law_252 (by decide) (fun c_3 => ?_) (fun c_3 => ?_)
    · refine lv_iconst (v := 0) hx hb dL_law_259 (by decide) ?_
      refine kj_i (pmM _ _ _ _) (va_runV (As := [.int (xs (1 : Int32).toNatClampNeg), .int (xs (2 : Int32).toNatClampNeg), .int 0]) (rest := []) ⟨hx, hb, hml, hown, htT⟩ (m_add l D cA _ am r mZ (xs (1 : Int32).toNatClampNeg) (xs (2 : Int32).toNatClampNeg) 0 (Or.inl rfl) (kIn_out.mpr h1) (kIn_out.mpr h2) rfl) (cwV 3 htT (kg_V m_ml_L_129 m_im_X6_add m_sl_X6_add m_in_X6 m_cd_X6_add) rfl rfl rfl (by decide +kernel) ⟨Nat.le_of_ble_eq_true rfl, Nat.le_of_ble_eq_true rfl⟩) (kj_V (pmM _ _ _ _) hK hP hD hTB (kj_rm (pmM _ _ _ _) hK hP)) rfl rfl hl.1 rfl (lv_room (Nat.le_of_ble_eq_true rfl)) dL_law_260 ⟨Nat.le_of_ble_eq_true rfl, Nat.le_of_ble_eq_true rfl⟩) hP hD hS hA (fun r_4 x_4 H locs hq_4 hP hD hS => ?_)
      rw [hq_4.1]
      rw [hq_4.2] at hP hD
      have hP := kj_P (pmM _ _ _ _).symm hP
      have hD := kj_D (pmM _ _ _ _).symm hD
      refine lv_istore (lv' := [(7, .int 0), (6, .int 0), (5, .int 0), (4, .ref qd), (3, .ref qo), (2, .ref am), (1, .ref x), (0, .ref b)]) hx hb dL_law_263 hl (by decide) rfl (fun ls hl => ?_)
      refine lv_aload_n hx hb dL_law_265 rfl (lv_at hl 5 rfl) ?_
      refine kj_i (pmM _ _ _ _) (va_runV (As := []) (rest := []) ⟨hx, hb, hml, hown, htT⟩ (m_thrown l D cA _ am r (mS (mR (mR (mR (mR (mR (mR (mR (mR (mS mZ 0 0) 4 (0 : Int32).toNatClampNeg (xs (1 : Int32).toNatClampNeg)) 5 (0 : Int32).toNatClampNeg (xs (2 : Int32).toNatClampNeg)) 6 (0 : Int32).toNatClampNeg 1000) 7 (0 : Int32).toNatClampNeg 1000) 9 (0 : Int32).toNatClampNeg (mZ.1 1)) 10 (0 : Int32).toNatClampNeg 0) 12 (0 : Int32).toNatClampNeg (-1)) 15 (0 : Int32).toNatClampNeg (-1)) 3 1)) (cwV 0 htT (kg_V m_ml_L_130 m_im_X6_thrown m_sl_X6_thrown m_in_X6 m_cd_X6_thrown) rfl rfl rfl (by decide +kernel) ⟨Nat.le_of_ble_eq_true rfl, Nat.le_of_ble_eq_true rfl⟩) (kj_V (pmM _ _ _ _) hK hP hD hTB (kj_rm (pmM _ _ _ _) hK hP)) rfl rfl hl.1 rfl (lv_room (Nat.le_of_ble_eq_true rfl)) dL_law_266 ⟨Nat.le_of_ble_eq_true rfl, Nat.le_of_ble_eq_true rfl⟩) hP hD hS hA (fun r_5 x_5 H locs hq_5 hP hD hS => ?_)
      rw [hq_5.1.trans (show (mS (mR (mR (mR (mR (mR (mR (mR (mR (mS mZ 0 0) 4 (0 : Int32).toNatClampNeg (xs (1 : Int32).toNatClampNeg)) 5 (0 : Int32).toNatClampNeg (xs (2 : Int32).toNatClampNeg)) 6 (0 : Int32).toNatClampNeg 1000) 7 (0 : Int32).toNatClampNeg 1000) 9 (0 : Int32).toNatClampNeg (mZ.1 1)) 10 (0 : Int32).toNatClampNeg 0) 12 (0 : Int32).toNatClampNeg (-1)) 15 (0 : Int32).toNatClampNeg (-1)) 3 1).1 0 = 0 from rfl)]
      rw [hq_5.2] at hP hD
      have hP := kj_P (pmM _ _ _ _).symm hP
      have hD := kj_D (pmM _ _ _ _).symm hD
      refine lv_iload hx hb dL_law_269 (lv_at hl 1 rfl) ?_
      refine lv_icmp_eq (tgt := 276) hx hb dL_law_271 (by decide) (fun _ => ?_) (fun c_6 => absurd c_6 (by decide))
      refine lv_iload hx hb dL_law_276 (lv_at hl 1 rfl) ?_
      refine lv_if_ne (tgt := 293) hx hb dL_law_278 (by decide) (fun c_7 => absurd c_7 (by decide)) (fun _ => ?_)
      refine lv_aload_n hx hb dL_law_281 rfl (lv_at hl 4 rfl) ?_
      refine lv_iconst (v := 0) hx hb dL_law_282 (by decide) ?_
      refine kw_lald (v := (0 : Int32).toInt64) hx hb hK hP rfl dL_law_283 ?_
      refine lv_iload hx hb dL_law_284 (lv_at hl 0 rfl) ?_
      refine lv_i2l (v := 0) hx hb dL_law_286 (by decide) ?_
      refine W.lcmp hx hb dL_law_287 ?_
      refine lv_if_eq (tgt := 293) hx hb dL_law_288 (by decide) (fun c_8 => ?_) (fun c_8 => ?_)
      · refine lv_goto (tgt := 2693) hx hb dL_law_293 (by decide) ?_
        exact law_end C0 hS (Nat.le_of_ble_eq_true rfl) (Nat.le_of_ble_eq_true rfl) (lv_sub hl [2, 7] rfl)
      · exact absurd (lg_self _) c_8
    · exact absurd c_1 c_3
  · refine lv_iconst (v := 1) hx hb dL_law_222 (by decide) ?_
    refine lv_goto (tgt := 227) hx hb dL_law_223 (by decide) ?_
    refine lv_aload_n hx hb dL_law_227 rfl (lv_at hl 2 rfl) ?_
    refine kj_i (pmJ _ _ _ _) (vx_runSW (As := [.ref x, .int (xs (1 : Int32).toNatClampNeg), .int (xs (2 : Int32).toNatClampNeg), .int 1, .ref qo]) (rest := []) ⟨hx, hb, hml, hown, htT⟩ (w_add l hst D cA _ S x qo fo ho ar hq0 har (xs (1 : Int32).toNatClampNeg) (xs (2 : Int32).toNatClampNeg) 1 (Or.inr rfl) h1 h2 (by rw [hnum]; decide) (by rw [hnum]; decide)) (vx_cwSW 5 htT (kg_SW m_ml_L_124 m_st_L_add m_in_L m_cd_L_add) rfl rfl rfl (by decide +kernel) ⟨Nat.le_of_ble_eq_true rfl, Nat.le_of_ble_eq_true rfl⟩) (kj_SX (pmJ _ _ _ _) hK hP hD hTB hTX hS hA) rfl rfl hl.1 rfl (lv_room (Nat.le_of_ble_eq_true rfl)) dL_law_228 ⟨Nat.le_of_ble_eq_true rfl, Nat.le_of_ble_eq_true rfl⟩) hP hD hS hA (fun r_9 x_9 H locs hq_9 hP hD hS => ?_)
    rw [hq_9.1]
    have e_9 := hq_9.2
    rw [hnum 2] at e_9
    rw [e_9] at hP hD
    rw [List.append_assoc] at hP hD
    refine lv_istore (lv' := [(6, .int 0), (5, .int 0), (4, .ref qd), (3, .ref qo), (2, .ref am), (1, .ref x), (0, .ref b)]) hx hb dL_law_231 hl (by decide) rfl (fun ls hl => ?_)
    refine lv_aload_n hx hb dL_law_233 rfl (lv_at hl 4 rfl) ?_
    refine lv_aload_n hx hb dL_law_234 rfl (lv_at hl 6 rfl) ?_
    refine lv_iload hx hb dL_law_235 (lv_at hl 1 rfl) ?_
    refine lv_iconst (v := 1) hx hb dL_law_237 (by decide) ?_
    refine lv_iadd hx hb dL_law_238 ?_
    rw [show (0 + 1 : Int32) = 1 from by decide]
    refine va_sld hx hb hX hbl hbA hS (vp_in_iff.mpr (by decide)) dL_law_239 ?_
    refine lv_aload_n hx hb dL_law_240 rfl (lv_at hl 6 rfl) ?_
    refine lv_iload hx hb dL_law_241 (lv_at hl 1 rfl) ?_
    refine lv_iconst (v := 2) hx hb dL_law_243 (by decide) ?_
    refine lv_iadd hx hb dL_law_244 ?_
    rw [show (0 + 2 : Int32) = 2 from by decide]
    refine va_sld hx hb hX hbl hbA hS (vp_in_iff.mpr (by decide)) dL_law_245 ?_
    refine lv_aload_n hx hb dL_law_246 rfl (lv_at hl 6 rfl) ?_
    refine lv_iload hx hb dL_law_247 (lv_at hl 1 rfl) ?_
    refine lv_iconst (v := 3) hx hb dL_law_249 (by decide) ?_
    refine lv_iadd hx hb dL_law_250 ?_
    rw [show (0 + 3 : Int32) = 3 from by decide]
    refine va_sld hx hb hX hbl hbA hS (vp_in_iff.mpr (by decide)) dL_law_251 ?_
    refine lv_if_eq (tgt := 259) hx hb dL_law_252 (by decide) (fun c_10 => ?_) (fun c_10 => ?_)
    · exact absurd c_10 c_1
    · refine lv_iconst (v := 1) hx hb dL_law_255 (by decide) ?_
      refine lv_goto (tgt := 260) hx hb dL_law_256 (by decide) ?_
      refine kj_i (pmM _ _ _ _) (va_runV (As := [.int (xs (1 : Int32).toNatClampNeg), .int (xs (2 : Int32).toNatClampNeg), .int 1]) (rest := []) ⟨hx, hb, hml, hown, htT⟩ (m_add l D cA _ am r mZ (xs (1 : Int32).toNatClampNeg) (xs (2 : Int32).toNatClampNeg) 1 (Or.inr rfl) (kIn_out.mpr h1) (kIn_out.mpr h2) rfl) (cwV 3 htT (kg_V m_ml_L_129 m_im_X6_add m_sl_X6_add m_in_X6 m_cd_X6_add) rfl rfl rfl (by decide +kernel) ⟨Nat.le_of_ble_eq_true rfl, Nat.le_of_ble_eq_true rfl⟩) (kj_V (pmM _ _ _ _) hK hP hD hTB (kj_rm (pmM _ _ _ _) hK hP)) rfl rfl hl.1 rfl (lv_room (Nat.le_of_ble_eq_true rfl)) dL_law_260 ⟨Nat.le_of_ble_eq_true rfl, Nat.le_of_ble_eq_true rfl⟩) hP hD hS hA (fun r_11 x_11 H locs hq_11 hP hD hS => ?_)
      rw [hq_11.1]
      rw [hq_11.2] at hP hD
      have hP := kj_P (pmM _ _ _ _).symm hP
      have hD := kj_D (pmM _ _ _ _).symm hD
      refine lv_istore (lv' := [(7, .int 0), (6, .int 0), (5, .int 0), (4, .ref qd), (3, .ref qo), (2, .ref am), (1, .ref x), (0, .ref b)]) hx hb dL_law_263 hl (by decide) rfl (fun ls hl => ?_)
      refine lv_aload_n hx hb dL_law_265 rfl (lv_at hl 5 rfl) ?_
      refine kj_i (pmM _ _ _ _) (va_runV (As := []) (rest := []) ⟨hx, hb, hml, hown, htT⟩ (m_thrown l D cA _ am r (mS (mR (mR (mR (mR (mR (mR (mR (mR (mS mZ 0 0) 4 (0 : Int32).toNatClampNeg (xs (1 : Int32).toNatClampNeg)) 5 (0 : Int32).toNatClampNeg (xs (2 : Int32).toNatClampNeg)) 6 (0 : Int32).toNatClampNeg 1000) 7 (0 : Int32).toNatClampNeg 1000) 9 (0 : Int32).toNatClampNeg (mZ.1 1)) 10 (0 : Int32).toNatClampNeg 1) 12 (0 : Int32).toNatClampNeg (-1)) 15 (0 : Int32).toNatClampNeg (-1)) 3 1)) (cwV 0 htT (kg_V m_ml_L_130 m_im_X6_thrown m_sl_X6_thrown m_in_X6 m_cd_X6_thrown) rfl rfl rfl (by decide +kernel) ⟨Nat.le_of_ble_eq_true rfl, Nat.le_of_ble_eq_true rfl⟩) (kj_V (pmM _ _ _ _) hK hP hD hTB (kj_rm (pmM _ _ _ _) hK hP)) rfl rfl hl.1 rfl (lv_room (Nat.le_of_ble_eq_true rfl)) dL_law_266 ⟨Nat.le_of_ble_eq_true rfl, Nat.le_of_ble_eq_true rfl⟩) hP hD hS hA (fun r_12 x_12 H locs hq_12 hP hD hS => ?_)
      rw [hq_12.1.trans (show (mS (mR (mR (mR (mR (mR (mR (mR (mR (mS mZ 0 0) 4 (0 : Int32).toNatClampNeg (xs (1 : Int32).toNatClampNeg)) 5 (0 : Int32).toNatClampNeg (xs (2 : Int32).toNatClampNeg)) 6 (0 : Int32).toNatClampNeg 1000) 7 (0 : Int32).toNatClampNeg 1000) 9 (0 : Int32).toNatClampNeg (mZ.1 1)) 10 (0 : Int32).toNatClampNeg 1) 12 (0 : Int32).toNatClampNeg (-1)) 15 (0 : Int32).toNatClampNeg (-1)) 3 1).1 0 = 0 from rfl)]
      rw [hq_12.2] at hP hD
      have hP := kj_P (pmM _ _ _ _).symm hP
      have hD := kj_D (pmM _ _ _ _).symm hD
      refine lv_iload hx hb dL_law_269 (lv_at hl 1 rfl) ?_
      refine lv_icmp_eq (tgt := 276) hx hb dL_law_271 (by decide) (fun _ => ?_) (fun c_13 => absurd c_13 (by decide))
      refine lv_iload hx hb dL_law_276 (lv_at hl 1 rfl) ?_
      refine lv_if_ne (tgt := 293) hx hb dL_law_278 (by decide) (fun c_14 => absurd c_14 (by decide)) (fun _ => ?_)
      refine lv_aload_n hx hb dL_law_281 rfl (lv_at hl 4 rfl) ?_
      refine lv_iconst (v := 0) hx hb dL_law_282 (by decide) ?_
      refine kw_lald (v := (0 : Int32).toInt64) hx hb hK hP rfl dL_law_283 ?_
      refine lv_iload hx hb dL_law_284 (lv_at hl 0 rfl) ?_
      refine lv_i2l (v := 0) hx hb dL_law_286 (by decide) ?_
      refine W.lcmp hx hb dL_law_287 ?_
      refine lv_if_eq (tgt := 293) hx hb dL_law_288 (by decide) (fun c_15 => ?_) (fun c_15 => ?_)
      · refine lv_goto (tgt := 2693) hx hb dL_law_293 (by decide) ?_
        exact law_end C0 hS (Nat.le_of_ble_eq_true rfl) (Nat.le_of_ble_eq_true rfl) (lv_sub hl [2, 7] rfl)
      · exact absurd (lg_self _) c_15

set_option maxRecDepth 100000 in
set_option maxHeartbeats 4000000 in
theorem law_switches (l : Launch) (hst : l.stackTraces = false) {p : Program} {e : Env} {s : State} {m : MethodId} {below : List Frame} {meth : Method} {c : Code} {b : Nat} {xs : Nat → Int32} (C0 : lw_At p s m meth c b 6 xs) {D : va_G} {cA : Nat → ClassId} (hK : va_K D vwCl (ty6 cA) s) (hTB : TBok s) (hTX : TXok (fun q : Nat => s.heap.size ≤ q) s) {S : Pool} {x ar qo qd am : Nat} {r : Nat → Nat} {fo : Nat → Int64} {fd : Nat → UInt64} {H : Heap} {locs : List Loc} {ls : Array Slot} (ho : isO S x 5) (hq0 : gQ S x 0 = some ar) (har : isA S ar 22 8) (hn : ∀ j, j < 8 → gP S ar j = none) (hnum : ∀ k, gI S x k = 0) (hP : va_P D vwCl (LW cA S qo fo qd fd am r mZ) H) (hD : va_D (fun q : Nat => s.heap.size ≤ q) (LW cA S qo fo qd fd am r mZ)) (hS : va_S (fun q : Nat => s.heap.size ≤ q) s.heap H locs) (hl : lv_has ls 9 [(5, .int 0), (4, .ref qd), (3, .ref qo), (2, .ref am), (1, .ref x), (0, .ref b)])  : W p l e room_1 s m #[Value.ref b] below meth c H locs 100 2000 (lw_Z below #[Value.ref b] s) (F0 m 1003 ls []) := by
  obtain ⟨hx, hb, hr, hml, hown, hts, hX, hbl, hlocks, hgv⟩ := id C0
  have htT : ∀ w ∈ TT, w.before _ s = true := fun w h => hts w (tt_in h)
  have hA : ∀ q : Nat, s.heap.size ≤ q → (fun q : Nat => s.heap.size ≤ q) q := fun _ h => h
  have hbA : ¬ (fun q : Nat => s.heap.size ≤ q) b := Nat.not_le.mpr hbl
  refine lv_aload_n hx hb dL_law_1003 rfl (lv_at hl 4 rfl) ?_
  refine kj_i (List.Perm.refl _) (va_runV (As := []) (rest := []) ⟨hx, hb, hml, hown, htT⟩ (c_switches l D cA _ S x ho) (cwV 0 htT (kg_V m_ml_L_167 m_im_X5_switches m_sl_X5_switches m_in_X5 m_cd_X5_switches) rfl rfl rfl (by decide +kernel) ⟨Nat.le_of_ble_eq_true rfl, Nat.le_of_ble_eq_true rfl⟩) (kj_V (List.Perm.refl _) hK hP hD hTB (kj_rc (List.Perm.refl _) hK hP ho (Nat.le_of_ble_eq_true rfl) rfl)) rfl rfl hl.1 rfl (lv_room (Nat.le_of_ble_eq_true rfl)) dL_law_1004 ⟨Nat.le_of_ble_eq_true rfl, Nat.le_of_ble_eq_true rfl⟩) hP hD hS hA (fun r_1 x_1 H locs hq_1 hP hD hS => ?_)
  rw [hq_1.1, hnum 2]
  rw [hq_1.2] at hP hD
  refine lv_aload_n hx hb dL_law_1007 rfl (lv_at hl 3 rfl) ?_
  refine kj_i (pmM _ _ _ _) (va_runV (As := []) (rest := [.int 0]) ⟨hx, hb, hml, hown, htT⟩ (m_switches l D cA _ am r mZ ) (cwV 0 htT (kg_V m_ml_L_170 m_im_X6_switches m_sl_X6_switches m_in_X6 m_cd_X6_switches) rfl rfl rfl (by decide +kernel) ⟨Nat.le_of_ble_eq_true rfl, Nat.le_of_ble_eq_true rfl⟩) (kj_V (pmM _ _ _ _) hK hP hD hTB (kj_rm (pmM _ _ _ _) hK hP)) rfl rfl hl.1 rfl (lv_room (Nat.le_of_ble_eq_true rfl)) dL_law_1008 ⟨Nat.le_of_ble_eq_true rfl, Nat.le_of_ble_eq_true rfl⟩) hP hD hS hA (fun r_2 x_2 H locs hq_2 hP hD hS => ?_)
  rw [hq_2.1.trans (show mZ.1 3 = 0 from rfl)]
  rw [hq_2.2] at hP hD
  have hP := kj_P (pmM _ _ _ _).symm hP
  have hD := kj_D (pmM _ _ _ _).symm hD
  refine lv_icmp_eq (tgt := 2693) hx hb dL_law_1011 (by decide) (fun _ => ?_) (fun c_3 => absurd c_3 (by decide))
  exact law_end C0 hS (Nat.le_of_ble_eq_true rfl) (Nat.le_of_ble_eq_true rfl) (lv_sub hl [0, 5] rfl)

set_option maxRecDepth 100000 in
set_option maxHeartbeats 4000000 in
theorem law_arms (l : Launch) (hst : l.stackTraces = false) {p : Program} {e : Env} {s : State} {m : MethodId} {below : List Frame} {meth : Method} {c : Code} {b : Nat} {xs : Nat → Int32} (C0 : lw_At p s m meth c b 6 xs) {D : va_G} {cA : Nat → ClassId} (hK : va_K D vwCl (ty6 cA) s) (hTB : TBok s) (hTX : TXok (fun q : Nat => s.heap.size ≤ q) s) {S : Pool} {x ar qo qd am : Nat} {r : Nat → Nat} {fo : Nat → Int64} {fd : Nat → UInt64} {H : Heap} {locs : List Loc} {ls : Array Slot} (ho : isO S x 5) (hq0 : gQ S x 0 = some ar) (har : isA S ar 22 8) (hn : ∀ j, j < 8 → gP S ar j = none) (hnum : ∀ k, gI S x k = 0) (hP : va_P D vwCl (LW cA S qo fo qd fd am r mZ) H) (hD : va_D (fun q : Nat => s.heap.size ≤ q) (LW cA S qo fo qd fd am r mZ)) (hS : va_S (fun q : Nat => s.heap.size ≤ q) s.heap H locs) (hl : lv_has ls 9 [(5, .int 0), (4, .ref qd), (3, .ref qo), (2, .ref am), (1, .ref x), (0, .ref b)])  : W p l e room_1 s m #[Value.ref b] below meth c H locs 100 2000 (lw_Z below #[Value.ref b] s) (F0 m 1768 ls []) := by
  obtain ⟨hx, hb, hr, hml, hown, hts, hX, hbl, hlocks, hgv⟩ := id C0
  have htT : ∀ w ∈ TT, w.before _ s = true := fun w h => hts w (tt_in h)
  have hA : ∀ q : Nat, s.heap.size ≤ q → (fun q : Nat => s.heap.size ≤ q) q := fun _ h => h
  have hbA : ¬ (fun q : Nat => s.heap.size ≤ q) b := Nat.not_le.mpr hbl
  refine lv_aload_n hx hb dL_law_1768 rfl (lv_at hl 4 rfl) ?_
  refine kj_i (List.Perm.refl _) (va_runV (As := []) (rest := []) ⟨hx, hb, hml, hown, htT⟩ (c_arms l D cA _ S x ho) (cwV 0 htT (kg_V m_ml_L_201 m_im_X5_arms m_sl_X5_arms m_in_X5 m_cd_X5_arms) rfl rfl rfl (by decide +kernel) ⟨Nat.le_of_ble_eq_true rfl, Nat.le_of_ble_eq_true rfl⟩) (kj_V (List.Perm.refl _) hK hP hD hTB (kj_rc (List.Perm.refl _) hK hP ho (Nat.le_of_ble_eq_true rfl) rfl)) rfl rfl hl.1 rfl (lv_room (Nat.le_of_ble_eq_true rfl)) dL_law_1769 ⟨Nat.le_of_ble_eq_true rfl, Nat.le_of_ble_eq_true rfl⟩) hP hD hS hA (fun r_1 x_1 H locs hq_1 hP hD hS => ?_)
  rw [hq_1.1, hnum 3]
  rw [hq_1.2] at hP hD
  refine lv_aload_n hx hb dL_law_1772 rfl (lv_at hl 3 rfl) ?_
  refine kj_i (pmM _ _ _ _) (va_runV (As := []) (rest := [.int 0]) ⟨hx, hb, hml, hown, htT⟩ (m_arms l D cA _ am r mZ ) (cwV 0 htT (kg_V m_ml_L_204 m_im_X6_arms m_sl_X6_arms m_in_X6 m_cd_X6_arms) rfl rfl rfl (by decide +kernel) ⟨Nat.le_of_ble_eq_true rfl, Nat.le_of_ble_eq_true rfl⟩) (kj_V (pmM _ _ _ _) hK hP hD hTB (kj_rm (pmM _ _ _ _) hK hP)) rfl rfl hl.1 rfl (lv_room (Nat.le_of_ble_eq_true rfl)) dL_law_1773 ⟨Nat.le_of_ble_eq_true rfl, Nat.le_of_ble_eq_true rfl⟩) hP hD hS hA (fun r_2 x_2 H locs hq_2 hP hD hS => ?_)
  rw [hq_2.1.trans (show mZ.1 22 = 0 from rfl)]
  rw [hq_2.2] at hP hD
  have hP := kj_P (pmM _ _ _ _).symm hP
  have hD := kj_D (pmM _ _ _ _).symm hD
  refine lv_icmp_eq (tgt := 2693) hx hb dL_law_1776 (by decide) (fun _ => ?_) (fun c_3 => absurd c_3 (by decide))
  exact law_end C0 hS (Nat.le_of_ble_eq_true rfl) (Nat.le_of_ble_eq_true rfl) (lv_sub hl [0, 5] rfl)

set_option maxRecDepth 100000 in
set_option maxHeartbeats 4000000 in
theorem law_digest (l : Launch) (hst : l.stackTraces = false) {p : Program} {e : Env} {s : State} {m : MethodId} {below : List Frame} {meth : Method} {c : Code} {b : Nat} {xs : Nat → Int32} (C0 : lw_At p s m meth c b 6 xs) {D : va_G} {cA : Nat → ClassId} (hK : va_K D vwCl (ty6 cA) s) (hTB : TBok s) (hTX : TXok (fun q : Nat => s.heap.size ≤ q) s) {S : Pool} {x ar qo qd am : Nat} {r : Nat → Nat} {fo : Nat → Int64} {fd : Nat → UInt64} {H : Heap} {locs : List Loc} {ls : Array Slot} (ho : isO S x 5) (hq0 : gQ S x 0 = some ar) (har : isA S ar 22 8) (hn : ∀ j, j < 8 → gP S ar j = none) (hnum : ∀ k, gI S x k = 0) (hP : va_P D vwCl (LW cA S qo fo qd fd am r mZ) H) (hD : va_D (fun q : Nat => s.heap.size ≤ q) (LW cA S qo fo qd fd am r mZ)) (hS : va_S (fun q : Nat => s.heap.size ≤ q) s.heap H locs) (hl : lv_has ls 9 [(5, .int 0), (4, .ref qd), (3, .ref qo), (2, .ref am), (1, .ref x), (0, .ref b)])  : W p l e room_1 s m #[Value.ref b] below meth c H locs 100 2000 (lw_Z below #[Value.ref b] s) (F0 m 2679 ls []) := by
  obtain ⟨hx, hb, hr, hml, hown, hts, hX, hbl, hlocks, hgv⟩ := id C0
  have htT : ∀ w ∈ TT, w.before _ s = true := fun w h => hts w (tt_in h)
  have hA : ∀ q : Nat, s.heap.size ≤ q → (fun q : Nat => s.heap.size ≤ q) q := fun _ h => h
  have hbA : ¬ (fun q : Nat => s.heap.size ≤ q) b := Nat.not_le.mpr hbl
  refine lv_aload_n hx hb dL_law_2679 rfl (lv_at hl 4 rfl) ?_
  refine kj_l (List.Perm.refl _) (va_runV (As := []) (rest := []) ⟨hx, hb, hml, hown, htT⟩ (c_digest_0 l D cA _ S x ho ar hq0 har hn (hnum 2) (hnum 3)) (cwV 0 htT (kg_V m_ml_L_242 m_im_X5_digest m_sl_X5_digest m_in_X5 m_cd_X5_digest) rfl rfl rfl (by decide +kernel) ⟨Nat.le_of_ble_eq_true rfl, Nat.le_of_ble_eq_true rfl⟩) (kj_V (List.Perm.refl _) hK hP hD hTB (kj_rc (List.Perm.refl _) hK hP ho (Nat.le_of_ble_eq_true rfl) rfl)) rfl rfl hl.1 rfl (lv_room (Nat.le_of_ble_eq_true rfl)) dL_law_2680 ⟨Nat.le_of_ble_eq_true rfl, Nat.le_of_ble_eq_true rfl⟩) hP hD hS hA (fun r_1 x_1 H locs hq_1 hP hD hS => ?_)
  rw [hq_1.1]
  rw [hq_1.2] at hP hD
  refine lv_aload_n hx hb dL_law_2683 rfl (lv_at hl 3 rfl) ?_
  refine kj_l (pmM _ _ _ _) (va_runV (As := []) (rest := [.long 76927521737]) ⟨hx, hb, hml, hown, htT⟩ (m_digest_e l D cA _ am r mZ rfl rfl) (cwV 0 htT (kg_V m_ml_L_246 m_im_X6_digest m_sl_X6_digest m_in_X6 m_cd_X6_digest) rfl rfl rfl (by decide +kernel) ⟨Nat.le_of_ble_eq_true rfl, Nat.le_of_ble_eq_true rfl⟩) (kj_V (pmM _ _ _ _) hK hP hD hTB (kj_rm (pmM _ _ _ _) hK hP)) rfl rfl hl.1 rfl (lv_room (Nat.le_of_ble_eq_true rfl)) dL_law_2684 ⟨Nat.le_of_ble_eq_true rfl, Nat.le_of_ble_eq_true rfl⟩) hP hD hS hA (fun r_2 x_2 H locs hq_2 hP hD hS => ?_)
  rw [hq_2.1]
  rw [hq_2.2] at hP hD
  have hP := kj_P (pmM _ _ _ _).symm hP
  have hD := kj_D (pmM _ _ _ _).symm hD
  refine W.lcmp hx hb dL_law_2687 ?_
  refine lv_if_eq (tgt := 2693) hx hb dL_law_2688 (by decide) (fun c_3 => ?_) (fun c_3 => ?_)
  · exact law_end C0 hS (Nat.le_of_ble_eq_true rfl) (Nat.le_of_ble_eq_true rfl) (lv_sub hl [0, 5] rfl)
  · exact absurd (lg_self _) c_3

