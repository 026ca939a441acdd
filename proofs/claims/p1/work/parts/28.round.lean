/-- the array classes of the tables -/
theorem kl_arr {s : State} {args : Array Value} {ty : FieldType} (hn : ∀ C, ty ≠ .object C) (h : (Cond.arrayClass ty).before args s = true) : ∃ cA : ClassId, ArrOfT s cA ty ∧ va_RA s cA ty := by
  obtain ⟨c, k, comp, h1, h2, h3⟩ := Cond.arrayClass_spec h
  refine ⟨c, fun n z => ⟨(fun q hq => by cases hq), k, h2, comp, h3⟩, ?_⟩
  cases ty with
  | object C => exact absurd rfl (hn C)
  | _ => exact h1
theorem kl_arrO {s : State} {args : Array Value} {C : String} (h : (Cond.arrayOver (.object C)).before args s = true) : ∃ cA : ClassId, ArrOfT s cA (.object C) ∧ va_RA s cA (.object C) := by
  obtain ⟨comp, c, k, h1, h2, h3, h4, h5⟩ := Cond.arrayOver_spec h
  exact ⟨c, fun n z => ⟨(fun q hq => by cases hq), k, h3, comp, h4⟩, k, comp, h3, h4, h1, h5⟩
theorem kl_K {s : State} {args : Array Value} (hts : ∀ w ∈ lw_tbl, w.before args s = true) : ∃ (D : va_G) (cA : Nat → ClassId), va_K D vwCl (ty6 cA) s := by
  have htT : ∀ w ∈ TT, w.before args s = true := fun w h => hts w (tt_in h)
  obtain ⟨c0, i0, k0⟩ := u_known (n := 5) htT m_u_X0 (htT _ m_nw_X0)
  obtain ⟨c1, i1, k1⟩ := u_known (n := 6) htT m_u_X1 (htT _ m_nw_X1)
  obtain ⟨c2, i2, k2⟩ := u_known (n := 4) htT m_u_X2 (htT _ m_nw_X2)
  obtain ⟨c3, i3, k3⟩ := u_known (n := 18) htT m_u_X3 (htT _ m_nw_X3)
  obtain ⟨c4, i4, k4⟩ := u_known (n := 5) htT m_u_X4 (htT _ m_nw_X4)
  obtain ⟨c5, i5, k5⟩ := u_known (n := 6) htT m_u_X5 (htT _ m_nw_X5)
  obtain ⟨c6, i6, k6⟩ := u_known (n := 29) htT m_u_X6 (htT _ m_nw_X6)
  obtain ⟨a0, b0, d0⟩ := kl_arr (fun C h => by cases h) (htT _ m_ar_int)
  obtain ⟨a1, b1, d1⟩ := kl_arr (fun C h => by cases h) (htT _ m_ar_long)
  obtain ⟨a2, b2, d2⟩ := kl_arr (fun C h => by cases h) (htT _ m_ar_boolean)
  obtain ⟨a3, b3, d3⟩ := kl_arr (fun C h => by cases h) (htT _ m_ar_double)
  obtain ⟨a4, b4, d4⟩ := kl_arrO (C := RX2) (hts (.arrayOver (.object RX2)) (List.mem_of_getElem? (i := 430) (by decide +kernel)))
  obtain ⟨a5, b5, d5⟩ := kl_arrO (C := RX3) (hts (.arrayOver (.object RX3)) (List.mem_of_getElem? (i := 61) (by decide +kernel)))
  refine ⟨(fun k => match k with | 0 => c0 | 1 => c1 | 2 => c2 | 3 => c3 | 4 => c4 | 5 => c5 | _ => c6, fun k => match k with | 0 => i0 | 1 => i1 | 2 => i2 | 3 => i3 | 4 => i4 | 5 => i5 | _ => i6), (fun k => match k with | 0 => a0 | 1 => a1 | 2 => a2 | 3 => a3 | 4 => a4 | _ => a5), ?_, ?_⟩
  · intro k q hq
    match k, hq with
    | 0, hq => cases hq; exact k0
    | 1, hq => cases hq; exact k1
    | 2, hq => cases hq; exact k2
    | 3, hq => cases hq; exact k3
    | 4, hq => cases hq; exact k4
    | 5, hq => cases hq; exact k5
    | 6, hq => cases hq; exact k6
    | k + 7, hq => simp [vwCl] at hq
  · intro k q hq
    match k, hq with
    | 0, hq => cases hq; exact ⟨b0, d0⟩
    | 1, hq => cases hq; exact ⟨b1, d1⟩
    | 2, hq => cases hq; exact ⟨b2, d2⟩
    | 3, hq => cases hq; exact ⟨b3, d3⟩
    | 4, hq => cases hq; exact ⟨b4, d4⟩
    | 5, hq => cases hq; exact ⟨b5, d5⟩
    | k + 6, hq => simp at hq
theorem kl_TB {s : State} {args : Array Value} (hts : ∀ w ∈ lw_tbl, w.before args s = true) : TBok s :=
  ⟨fun w h => va_Nw.of (tb_ot w h) (hts w (tb_in w h)), va_AO.of (hts (.arrayOver (.object RX2)) (List.mem_of_getElem? (i := 430) (by decide +kernel))), va_AO.of (hts (.arrayOver (.object RX3)) (List.mem_of_getElem? (i := 61) (by decide +kernel)))⟩
theorem kl_str : kStr.all (fun q => decide (Cond.stringRef RX5 q.1 q.2 ∈ lw_tbl) && decide (Cond.exactly (.string RX5 q.1) "java/lang/String" ∈ flatC (Jvm.Cond.and given_1 narrow_1))) = true := by decide +kernel
theorem kl_nc : kNc.all (fun q => decide (Cond.not (.castable q.1 q.2) ∈ flatC (Jvm.Cond.and given_1 narrow_1))) = true := by decide +kernel
theorem kl_TX {s : State} {args : Array Value} (hts : ∀ w ∈ lw_tbl, w.before args s = true) (hgv : (Jvm.Cond.and given_1 narrow_1).before args s = true) : TXok (fun q : Nat => s.heap.size ≤ q) s := by
  have hf := flat_of_before _ hgv
  have hA : ∀ a : Nat, a < s.heap.size → ¬ (fun q : Nat => s.heap.size ≤ q) a := fun a h1 h2 => absurd h1 (Nat.not_lt.mpr h2)
  have hi : (Cond.initialized Bundle.tN).before args s = true := hts _ (List.mem_of_getElem? (i := 40) (by decide +kernel))
  refine ⟨vx_Zqof (hts _ (List.mem_of_getElem? (i := 162) (by decide +kernel))) hi (hf (.isRef (.static Bundle.tN "UNASSIGNED_STACK" Bundle.steD)) (by decide +kernel)) hA, vx_Zqof (hts _ (List.mem_of_getElem? (i := 164) (by decide +kernel))) hi (hf (.isRef (.static Bundle.tN "SUPPRESSED_SENTINEL" Bundle.listD)) (by decide +kernel)) hA, fun q hq => ?_, fun q hq => ?_⟩
  · have h := List.all_eq_true.mp kl_str q hq
    rw [Bool.and_eq_true, decide_eq_true_eq, decide_eq_true_eq] at h
    obtain ⟨a, c, cell, k, h1, -⟩ := Cond.exactly_spec (hf _ h.2)
    exact ⟨a, vk_R.of (hts _ h.1) h1⟩
  · have h := List.all_eq_true.mp kl_nc q hq
    exact va_Nc.of (hf _ (of_decide_eq_true h))
theorem kl_st {l : Launch} (h : l.flags = flags0) : l.stackTraces = false := by
  unfold Launch.stackTraces
  rw [h]
  decide +kernel
set_option maxRecDepth 100000 in
set_option maxHeartbeats 4000000 in
/-- the one round of the loop -/
theorem law_round (l : Launch) (hst : l.stackTraces = false) {p : Program} {e : Env} {s : State} {m : MethodId} {below : List Frame} {meth : Method} {c : Code} {b : Nat} {xs : Nat → Int32} (C0 : lw_At p s m meth c b 6 xs) {D : va_G} {cA : Nat → ClassId} (hK : va_K D vwCl (ty6 cA) s) (hTB : TBok s) (hTX : TXok (fun q : Nat => s.heap.size ≤ q) s) {S : Pool} {x ar qo qd am : Nat} {r : Nat → Nat} {fo : Nat → Int64} {fd : Nat → UInt64} {H : Heap} {locs : List Loc} {ls : Array Slot} (ho : isO S x 5) (hq0 : gQ S x 0 = some ar) (har : isA S ar 22 8) (hn : ∀ j, j < 8 → gP S ar j = none) (hnum : ∀ k, gI S x k = 0) (hP : va_P D vwCl (LW cA S qo fo qd fd am r mZ) H) (hD : va_D (fun q : Nat => s.heap.size ≤ q) (LW cA S qo fo qd fd am r mZ)) (hS : va_S (fun q : Nat => s.heap.size ≤ q) s.heap H locs) (hl : lv_has ls 9 [(5, .int 0), (4, .ref qd), (3, .ref qo), (2, .ref am), (1, .ref x), (0, .ref b)]) : W p l e room_1 s m #[Value.ref b] below meth c H locs 100 2000 (lw_Z below #[Value.ref b] s) (F0 m 38 ls []) := by
  obtain ⟨hx, hb, hr, hml, hown, hts, hX, hbl, hlocks, hgv⟩ := id C0
  have hbA : ¬ (fun q : Nat => s.heap.size ≤ q) b := Nat.not_le.mpr hbl
  refine lv_aload_n hx hb dL_law_38 rfl (lv_at hl 5 rfl) ?_
  refine lv_iload hx hb dL_law_39 (lv_at hl 0 rfl) ?_
  refine va_sld hx hb hX hbl hbA hS (vp_in_iff.mpr (by decide)) dL_law_41 ?_
  refine lv_bipush (v := 63) hx hb dL_law_42 (by decide) ?_
  refine lv_iand hx hb dL_law_44 ?_
  obtain ⟨j, hj, ej⟩ := pk_andE (xs (0 : Int32).toNatClampNeg) (m := 63) 6 (by decide)
  rw [ej]
  rcases (show j = 0 ∨ j = 1 ∨ j = 2 ∨ j = 3 ∨ j = 4 ∨ j = 5 ∨ j = 6 ∨ j = 7 ∨ j = 8 ∨ j = 9 ∨ j = 10 ∨ j = 11 ∨ j = 12 ∨ j = 13 ∨ j = 14 ∨ j = 15 ∨ j = 16 ∨ j = 17 ∨ j = 18 ∨ j = 19 ∨ j = 20 ∨ j = 21 ∨ j = 22 ∨ j = 23 ∨ j = 24 ∨ j = 25 ∨ j = 26 ∨ j = 27 ∨ j = 28 ∨ j = 29 ∨ j = 30 ∨ j = 31 ∨ j = 32 ∨ j = 33 ∨ j = 34 ∨ 35 ≤ j by omega) with rfl | rfl | rfl | rfl | rfl | rfl | rfl | rfl | rfl | rfl | rfl | rfl | rfl | rfl | rfl | rfl | rfl | rfl | rfl | rfl | rfl | rfl | rfl | rfl | rfl | rfl | rfl | rfl | rfl | rfl | rfl | rfl | rfl | rfl | rfl | h35
  · refine lv_tableIn (off := 155) (tgt := 200) hx hb dL_law_45 (by decide) (by decide) (by decide) (by decide) ?_
    rcases kOut_01 (xs (1 : Int32).toNatClampNeg) 0 498 with h1 | h1
    · rcases kOut_01 (xs (2 : Int32).toNatClampNeg) 2 4 with h2 | h2
      · exact law_add l hst C0 hK hTB hTX ho hq0 har hn hnum hP hD hS hl h1 h2
      · exact law_add_2 l hst C0 hK hTB hTX ho hq0 har hn hnum hP hD hS hl h1 h2
    · exact law_add_1 l hst C0 hK hTB hTX ho hq0 har hn hnum hP hD hS hl h1
  · refine lv_tableIn (off := 251) (tgt := 296) hx hb dL_law_45 (by decide) (by decide) (by decide) (by decide) ?_
    exact law_weigh l hst C0 hK hTB hTX ho hq0 har hn hnum hP hD hS hl
  · refine lv_tableIn (off := 331) (tgt := 376) hx hb dL_law_45 (by decide) (by decide) (by decide) (by decide) ?_
    exact law_turn l hst C0 hK hTB hTX ho hq0 har hn hnum hP hD hS hl
  · refine lv_tableIn (off := 422) (tgt := 467) hx hb dL_law_45 (by decide) (by decide) (by decide) (by decide) ?_
    exact law_ramp l hst C0 hK hTB hTX ho hq0 har hn hnum hP hD hS hl
  · refine lv_tableIn (off := 502) (tgt := 547) hx hb dL_law_45 (by decide) (by decide) (by decide) (by decide) ?_
    exact law_place l hst C0 hK hTB hTX ho hq0 har hn hnum hP hD hS hl
  · refine lv_tableIn (off := 594) (tgt := 639) hx hb dL_law_45 (by decide) (by decide) (by decide) (by decide) ?_
    exact law_need l hst C0 hK hTB hTX ho hq0 har hn hnum hP hD hS hl
  · refine lv_tableIn (off := 674) (tgt := 719) hx hb dL_law_45 (by decide) (by decide) (by decide) (by decide) ?_
    exact law_rule l hst C0 hK hTB hTX ho hq0 har hn hnum hP hD hS hl
  · refine lv_tableIn (off := 778) (tgt := 823) hx hb dL_law_45 (by decide) (by decide) (by decide) (by decide) ?_
    exact law_unrule l hst C0 hK hTB hTX ho hq0 har hn hnum hP hD hS hl
  · refine lv_tableIn (off := 846) (tgt := 891) hx hb dL_law_45 (by decide) (by decide) (by decide) (by decide) ?_
    rcases kOut_01 (xs (1 : Int32).toNatClampNeg) 0 1000 with h1 | h1
    · exact law_hold l hst C0 hK hTB hTX ho hq0 har hn hnum hP hD hS hl h1
    · exact law_hold_t l hst C0 hK hTB hTX ho hq0 har hn hnum hP hD hS hl h1
  · refine lv_tableIn (off := 902) (tgt := 947) hx hb dL_law_45 (by decide) (by decide) (by decide) (by decide) ?_
    rcases kOut_01 (xs (1 : Int32).toNatClampNeg) 1 100 with h1 | h1
    · exact law_goOn l hst C0 hK hTB hTX ho hq0 har hn hnum hP hD hS hl h1
    · exact law_goOn_t l hst C0 hK hTB hTX ho hq0 har hn hnum hP hD hS hl h1
  · refine lv_tableIn (off := 958) (tgt := 1003) hx hb dL_law_45 (by decide) (by decide) (by decide) (by decide) ?_
    exact law_switches l hst C0 hK hTB hTX ho hq0 har hn hnum hP hD hS hl
  · refine lv_tableIn (off := 971) (tgt := 1016) hx hb dL_law_45 (by decide) (by decide) (by decide) (by decide) ?_
    exact law_weight l hst C0 hK hTB hTX ho hq0 har hn hnum hP hD hS hl
  · refine lv_tableIn (off := 1039) (tgt := 1084) hx hb dL_law_45 (by decide) (by decide) (by decide) (by decide) ?_
    exact law_share l hst C0 hK hTB hTX ho hq0 har hn hnum hP hD hS hl
  · refine lv_tableIn (off := 1095) (tgt := 1140) hx hb dL_law_45 (by decide) (by decide) (by decide) (by decide) ?_
    rcases kOut_01 (xs (1 : Int32).toNatClampNeg) 0 2 with h1 | h1
    · exact law_left l hst C0 hK hTB hTX ho hq0 har hn hnum hP hD hS hl h1
    · exact law_left_t l hst C0 hK hTB hTX ho hq0 har hn hnum hP hD hS hl h1
  · refine lv_tableIn (off := 1151) (tgt := 1196) hx hb dL_law_45 (by decide) (by decide) (by decide) (by decide) ?_
    rcases kOut_01 (xs (1 : Int32).toNatClampNeg) 0 999 with h1 | h1
    · rcases kOut_01 (xs (2 : Int32).toNatClampNeg) 0 9999 with h2 | h2
      · exact law_bucket l hst C0 hK hTB hTX ho hq0 har hn hnum hP hD hS hl h1 h2
      · exact law_bucket_2 l hst C0 hK hTB hTX ho hq0 har hn hnum hP hD hS hl h1 h2
    · exact law_bucket_1 l hst C0 hK hTB hTX ho hq0 har hn hnum hP hD hS hl h1
  · refine lv_tableIn (off := 1219) (tgt := 1264) hx hb dL_law_45 (by decide) (by decide) (by decide) (by decide) ?_
    exact law_gets l hst C0 hK hTB hTX ho hq0 har hn hnum hP hD hS hl
  · refine lv_tableIn (off := 1311) (tgt := 1356) hx hb dL_law_45 (by decide) (by decide) (by decide) (by decide) ?_
    exact law_why l hst C0 hK hTB hTX ho hq0 har hn hnum hP hD hS hl
  · refine lv_tableIn (off := 1403) (tgt := 1448) hx hb dL_law_45 (by decide) (by decide) (by decide) (by decide) ?_
    exact law_holds l hst C0 hK hTB hTX ho hq0 har hn hnum hP hD hS hl
  · refine lv_tableIn (off := 1495) (tgt := 1540) hx hb dL_law_45 (by decide) (by decide) (by decide) (by decide) ?_
    exact law_ask l hst C0 hK hTB hTX ho hq0 har hn hnum hP hD hS hl
  · refine lv_tableIn (off := 1587) (tgt := 1632) hx hb dL_law_45 (by decide) (by decide) (by decide) (by decide) ?_
    rcases kOut_01 (xs (1 : Int32).toNatClampNeg) 0 9999 with h1 | h1
    · rcases kOut_01 (xs (2 : Int32).toNatClampNeg) 0 100 with h2 | h2
      · exact law_act l hst C0 hK hTB hTX ho hq0 har hn hnum hP hD hS hl h1 h2
      · exact law_act_2 l hst C0 hK hTB hTX ho hq0 har hn hnum hP hD hS hl h1 h2
    · exact law_act_1 l hst C0 hK hTB hTX ho hq0 har hn hnum hP hD hS hl h1
  · refine lv_tableIn (off := 1655) (tgt := 1700) hx hb dL_law_45 (by decide) (by decide) (by decide) (by decide) ?_
    exact law_arm l hst C0 hK hTB hTX ho hq0 har hn hnum hP hD hS hl
  · refine lv_tableIn (off := 1723) (tgt := 1768) hx hb dL_law_45 (by decide) (by decide) (by decide) (by decide) ?_
    exact law_arms l hst C0 hK hTB hTX ho hq0 har hn hnum hP hD hS hl
  · refine lv_tableIn (off := 1736) (tgt := 1781) hx hb dL_law_45 (by decide) (by decide) (by decide) (by decide) ?_
    exact law_told l hst C0 hK hTB hTX ho hq0 har hn hnum hP hD hS hl
  · refine lv_tableIn (off := 1816) (tgt := 1861) hx hb dL_law_45 (by decide) (by decide) (by decide) (by decide) ?_
    exact law_mean l hst C0 hK hTB hTX ho hq0 har hn hnum hP hD hS hl
  · refine lv_tableIn (off := 1905) (tgt := 1950) hx hb dL_law_45 (by decide) (by decide) (by decide) (by decide) ?_
    exact law_lift l hst C0 hK hTB hTX ho hq0 har hn hnum hP hD hS hl
  · refine lv_tableIn (off := 1994) (tgt := 2039) hx hb dL_law_45 (by decide) (by decide) (by decide) (by decide) ?_
    exact law_sure l hst C0 hK hTB hTX ho hq0 har hn hnum hP hD hS hl
  · refine lv_tableIn (off := 2083) (tgt := 2128) hx hb dL_law_45 (by decide) (by decide) (by decide) (by decide) ?_
    exact law_bad l hst C0 hK hTB hTX ho hq0 har hn hnum hP hD hS hl
  · refine lv_tableIn (off := 2139) (tgt := 2184) hx hb dL_law_45 (by decide) (by decide) (by decide) (by decide) ?_
    exact law_isTrusted l hst C0 hK hTB hTX ho hq0 har hn hnum hP hD hS hl
  · refine lv_tableIn (off := 2202) (tgt := 2247) hx hb dL_law_45 (by decide) (by decide) (by decide) (by decide) ?_
    exact law_best l hst C0 hK hTB hTX ho hq0 har hn hnum hP hD hS hl
  · refine lv_tableIn (off := 2258) (tgt := 2303) hx hb dL_law_45 (by decide) (by decide) (by decide) (by decide) ?_
    exact law_reach l hst C0 hK hTB hTX ho hq0 har hn hnum hP hD hS hl
  · refine lv_tableIn (off := 2338) (tgt := 2383) hx hb dL_law_45 (by decide) (by decide) (by decide) (by decide) ?_
    exact law_both l hst C0 hK hTB hTX ho hq0 har hn hnum hP hD hS hl
  · refine lv_tableIn (off := 2418) (tgt := 2463) hx hb dL_law_45 (by decide) (by decide) (by decide) (by decide) ?_
    exact law_wouldChange l hst C0 hK hTB hTX ho hq0 har hn hnum hP hD hS hl
  · refine lv_tableIn (off := 2498) (tgt := 2543) hx hb dL_law_45 (by decide) (by decide) (by decide) (by decide) ?_
    exact law_wouldTurn l hst C0 hK hTB hTX ho hq0 har hn hnum hP hD hS hl
  · refine lv_tableIn (off := 2566) (tgt := 2611) hx hb dL_law_45 (by decide) (by decide) (by decide) (by decide) ?_
    exact law_shareIn l hst C0 hK hTB hTX ho hq0 har hn hnum hP hD hS hl
  · refine lv_tableIn (off := 2634) (tgt := 2679) hx hb dL_law_45 (by decide) (by decide) (by decide) (by decide) ?_
    exact law_digest l hst C0 hK hTB hTX ho hq0 har hn hnum hP hD hS hl
  · refine lv_tableOut (tgt := 2693) hx hb dL_law_45 (Or.inr (by rw [nI_toInt (by omega)]; omega)) (by decide) ?_
    exact law_end C0 hS (Nat.le_of_ble_eq_true rfl) (Nat.le_of_ble_eq_true rfl) (lv_sub hl [0, 5] rfl)
