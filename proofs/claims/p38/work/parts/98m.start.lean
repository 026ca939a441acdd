/-! where the law begins -/
theorem kl_arr {s : State} {args : Array Value} {ty : FieldType} (hn : ∀ C, ty ≠ .object C) (h : (Cond.arrayClass ty).before args s = true) : ∃ cA : ClassId, ArrOfT s cA ty ∧ va_RA s cA ty := by
  obtain ⟨c, k, comp, h1, h2, h3⟩ := Cond.arrayClass_spec h
  refine ⟨c, fun n z => ⟨(fun q hq => by cases hq), k, h2, comp, h3⟩, ?_⟩
  cases ty with
  | object C => exact absurd rfl (hn C)
  | _ => exact h1
theorem kl_arrO {s : State} {args : Array Value} {C : String} (h : (Cond.arrayOver (.object C)).before args s = true) : ∃ cA : ClassId, ArrOfT s cA (.object C) ∧ va_RA s cA (.object C) := by
  obtain ⟨comp, c, k, h1, h2, h3, h4, h5⟩ := Cond.arrayOver_spec h
  exact ⟨c, fun n z => ⟨(fun q hq => by cases hq), k, h3, comp, h4⟩, k, comp, h3, h4, h1, h5⟩
theorem kl_AO {s : State} {args : Array Value} (hts : ∀ w ∈ lw_tbl, w.before args s = true) : va_AOA .int s ∧ va_AOA (.array .int) s := ⟨va_AOA.of (hts (.arrayOver (.array .int)) (List.mem_of_getElem? (i := 440) (by decide +kernel))), va_AOA.of (hts (.arrayOver (.array (.array .int))) (List.mem_of_getElem? (i := 443) (by decide +kernel)))⟩
theorem kl_K {s : State} {args : Array Value} (hts : ∀ w ∈ lw_tbl, w.before args s = true) : ∃ (D : va_G) (cA : Nat → ClassId), va_K D vwCl (ty6 cA) s := by
  have htT : ∀ w ∈ TT, w.before args s = true := fun w h => hts w (tt_in h)
  have hAO := kl_AO hts
  obtain ⟨c0, i0, k0⟩ := u_known (n := 5) htT m_u_X0 (htT _ m_nw_X0)
  obtain ⟨c1, i1, k1⟩ := u_known (n := 6) htT m_u_X1 (htT _ m_nw_X1)
  obtain ⟨c2, i2, k2⟩ := u_known (n := 4) htT m_u_X2 (htT _ m_nw_X2)
  obtain ⟨c3, i3, k3⟩ := u_known (n := 18) htT m_u_X3 (htT _ m_nw_X3)
  obtain ⟨c4, i4, k4⟩ := u_known (n := 5) htT m_u_X4 (htT _ m_nw_X4)
  obtain ⟨c5, i5, k5⟩ := u_known (n := 6) htT m_u_X5 (htT _ m_nw_X5)
  obtain ⟨c6, i6, k6⟩ := u_known (n := 11) htT m_u_X6 (htT _ m_nw_X6)
  obtain ⟨a0, b0, d0⟩ := kl_arr (fun C h => by cases h) (htT _ m_ar_int)
  obtain ⟨a1, b1, d1⟩ := kl_arr (fun C h => by cases h) (htT _ m_ar_long)
  obtain ⟨a4, b4, d4⟩ := kl_arrO (C := RX2) (hts (.arrayOver (.object RX2)) (List.mem_of_getElem? (i := 530) (by decide +kernel)))
  obtain ⟨a5, b5, d5⟩ := kl_arrO (C := RX3) (hts (.arrayOver (.object RX3)) (List.mem_of_getElem? (i := 391) (by decide +kernel)))
  obtain ⟨a6, b6, d6⟩ := kl_arr (args := args) (fun C h => by cases h) (hAO.1.cls)
  obtain ⟨a7, b7, d7⟩ := kl_arr (args := args) (fun C h => by cases h) (hAO.2.cls)
  refine ⟨(fun k => match k with | 0 => c0 | 1 => c1 | 2 => c2 | 3 => c3 | 4 => c4 | 5 => c5 | _ => c6, fun k => match k with | 0 => i0 | 1 => i1 | 2 => i2 | 3 => i3 | 4 => i4 | 5 => i5 | _ => i6), (fun k => match k with | 0 => a0 | 1 => a1 | 2 => a0 | 3 => a0 | 4 => a4 | 5 => a5 | 6 => a6 | _ => a7), ?_, ?_⟩
  · intro k q hq
    match k, hq with
    | 0, hq => cases hq; exact k0
    | 1, hq => cases hq; exact k1
    | 2, hq => cases hq; exact k2
    | 3, hq => cases hq; exact k3
    | 4, hq => cases hq; exact k4
    | 5, hq => cases hq; exact k5
    | 6, hq => cases hq; exact k6
    | k + 7, hq => simp [vwCl] at hq
  · intro k q hq
    match k, hq with
    | 0, hq => cases hq; exact ⟨b0, d0⟩
    | 1, hq => cases hq; exact ⟨b1, d1⟩
    | 2, hq => cases hq; exact ⟨b0, d0⟩
    | 3, hq => cases hq; exact ⟨b0, d0⟩
    | 4, hq => cases hq; exact ⟨b4, d4⟩
    | 5, hq => cases hq; exact ⟨b5, d5⟩
    | 6, hq => cases hq; exact ⟨b6, d6⟩
    | 7, hq => cases hq; exact ⟨b7, d7⟩
    | k + 8, hq => simp at hq
theorem kl_TB {s : State} {args : Array Value} (hts : ∀ w ∈ lw_tbl, w.before args s = true) : TBok s :=
  ⟨fun w h => va_Nw.of (tb_ot w h) (hts w (tb_in w h)), va_AO.of (hts (.arrayOver (.object RX2)) (List.mem_of_getElem? (i := 530) (by decide +kernel))), va_AO.of (hts (.arrayOver (.object RX3)) (List.mem_of_getElem? (i := 391) (by decide +kernel)))⟩
theorem kl_str : kStr.all (fun q => decide (Cond.stringRef RX5 q.1 q.2 ∈ lw_tbl) && decide (Cond.exactly (.string RX5 q.1) "java/lang/String" ∈ flatC (Jvm.Cond.and given_1 narrow_1))) = true := by decide +kernel
theorem kl_nc : kNc.all (fun q => decide (Cond.not (.castable q.1 q.2) ∈ flatC (Jvm.Cond.and given_1 narrow_1))) = true := by decide +kernel
theorem kl_TX {s : State} {args : Array Value} (hts : ∀ w ∈ lw_tbl, w.before args s = true) (hgv : (Jvm.Cond.and given_1 narrow_1).before args s = true) : TXok (fun q : Nat => s.heap.size ≤ q) s := by
  have hf := flat_of_before _ hgv
  have hA : ∀ a : Nat, a < s.heap.size → ¬ (fun q : Nat => s.heap.size ≤ q) a := fun a h1 h2 => absurd h1 (Nat.not_lt.mpr h2)
  have hi : (Cond.initialized Bundle.tN).before args s = true := hts _ (List.mem_of_getElem? (i := 17) (by decide +kernel))
  refine ⟨vx_Zqof (hts _ (List.mem_of_getElem? (i := 71) (by decide +kernel))) hi (hf (.isRef (.static Bundle.tN "UNASSIGNED_STACK" Bundle.steD)) (by decide +kernel)) hA, vx_Zqof (hts _ (List.mem_of_getElem? (i := 73) (by decide +kernel))) hi (hf (.isRef (.static Bundle.tN "SUPPRESSED_SENTINEL" Bundle.listD)) (by decide +kernel)) hA, fun q hq => ?_, fun q hq => ?_⟩
  · have h := List.all_eq_true.mp kl_str q hq
    rw [Bool.and_eq_true, decide_eq_true_eq, decide_eq_true_eq] at h
    obtain ⟨a, c, cell, k, h1, -⟩ := Cond.exactly_spec (hf _ h.2)
    exact ⟨a, vk_R.of (hts _ h.1) h1⟩
  · have h := List.all_eq_true.mp kl_nc q hq
    exact va_Nc.of (hf _ (of_decide_eq_true h))
theorem kl_st {l : Launch} (h : l.flags = flags0) : l.stackTraces = false := by
  unfold Launch.stackTraces
  rw [h]
  decide +kernel
set_option maxRecDepth 100000 in
set_option maxHeartbeats 4000000 in
theorem law_a (l : Launch) (hst : l.stackTraces = false) {p : Program} {e : Env} {s : State} {m : MethodId} {below : List Frame} {meth : Method} {c : Code} {b L : Nat} {xs : Nat → Int32} (C0 : lw_At p s m meth c b L xs) {D : va_G} {cA : Nat → ClassId} (hK : va_K D vwCl (ty6 cA) s) (hTB : TBok s) (hTX : TXok (fun q : Nat => s.heap.size ≤ q) s) (hAO : va_AOA .int s ∧ va_AOA (.array .int) s) (hL : L < 2 ^ 31) {H : Heap} {locs : List Loc} {ls : Array Slot} {dd : Drawn} (hd0 : s.drawn.sameBut dd lw_cs) (hS : va_S (fun q : Nat => s.heap.size ≤ q) s.heap H locs) (hl : lv_has ls 16 [(1, .int 0), (0, .ref b)]) : W p l e room_1 (s.setDrawn dd) m #[Value.ref b] below meth c H locs 0 0 (lw_Z below #[Value.ref b] s) (F0 m 2 ls []) := by
  obtain ⟨hx, hb, hr, hml, hown, hts, hX, hbl, hlocks, hgv⟩ := id C0
  have htT0 : ∀ w ∈ TT, w.before _ s = true := fun w h => hts w (tt_in h)
  have hTB0 := hTB
  have hK0 := hK
  have hown0 : s.vm.findClass RL = some m.cls := hown
  have hTX0 := hTX
  have hX0 := hX
  have hAO0 := hAO
  have hA : ∀ q : Nat, s.heap.size ≤ q → (fun q : Nat => s.heap.size ≤ q) q := fun _ h => h
  have hbA : ¬ (fun q : Nat => s.heap.size ≤ q) b := Nat.not_le.mpr hbl
  refine kz_loopDC 2 (fun N9 cl9 sl9 H locs ls => ∃ (ti : Nat), N9 = 3 - ti ∧ ti ≤ 3 ∧ cl9 = 395 * ti ∧ sl9 = 3766 * ti ∧ va_S (fun q : Nat => s.heap.size ≤ q) s.heap H locs ∧ lv_has ls 16 [(1, .int (nI ti)), (0, .ref b)]) (fun N9 ih cl9 sl9 H locs ls dd hd0 hI => ?_) hd0 ⟨0, rfl, Nat.zero_le _, rfl, rfl, hS, hl⟩
  obtain ⟨ti, hn9, hi9, hcl9, hsl9, hS, hl⟩ := hI
  subst hcl9 hsl9
  refine lv_iload_n hx hb dL_law_2 rfl (lv_at hl 0 rfl) ?_
  refine lv_iconst (v := 3) hx hb dL_law_3 (by decide) ?_
  refine lv_icmp_ge (tgt := 891) hx hb dL_law_4 (by decide) (fun c_3 => ?_) (fun c_3 => ?_)
  · refine lv_iconst (v := 1) hx hb dL_law_891 (by decide) ?_
    refine va_forget (fun q hq => hS.2.2 q hq) ?_
    refine W.widen (k := 600086) (n := 7301442) (by omega) (by omega) ?_
    exact lw_ret hd0 hx hb hr hlocks dL_law_892
  · replace c_3 : ¬ 3 ≤ ti := fun h9 => c_3 ((nI_leI (a := 3) (b := ti) (by omega) (by omega)).mpr h9)
    refine law_t l hst C0 hA hbA hK0 hTB0 hTX0 hAO0 hL (by omega) (by omega) (by omega) (fun H locs ls dd hd0 hS hl => ?_) hd0 hS hl
    refine lv_iinc (v := nI (ti + 1)) (lv' := [(1, .int (nI (ti + 1))), (0, .ref b)]) hx hb dL_law_885 hl (k := 0) rfl (nI_1 _) (by decide) rfl (fun ls hl => ?_)
    refine lv_goto (tgt := 2) hx hb dL_law_888 (by decide) ?_
    exact ih _ (by omega) _ _ H locs ls dd hd0 ⟨ti + 1, rfl, by omega, by omega, by omega, hS, hl⟩
set_option maxRecDepth 100000 in
set_option maxHeartbeats 4000000 in
theorem whole_start {p : Program} {e : Env} {s : State} {m : MethodId} {below : List Frame} {meth : Method} {c : Code} (l : Launch) (hflags : l.flags = flags0) {b L : Nat} {xs : Nat → Int32} (hL : L ≤ 260) (C0 : lw_At p s m meth c b L xs) : W p l e room_1 s m #[Value.ref b] below meth c s.heap [] 0 0 (lw_Z below #[Value.ref b] s) (entryFrame m ([Value.ref b] : List Value).toArray 16) := by
  obtain ⟨hx, hb, hr, hml, hown, hts, hX, hbl, hlocks, hgv⟩ := id C0
  have hst := kl_st hflags
  obtain ⟨D, cA, hK⟩ := kl_K hts
  have hTB := kl_TB hts
  have hTX := kl_TX hts hgv
  have hAO := kl_AO hts
  have hS : va_S (fun q : Nat => s.heap.size ≤ q) s.heap s.heap [] := va_S.rf
  have hl := lv_entry ([.ref b]) (n := 16) (Nat.le_of_ble_eq_true rfl)
  rw [lg_entry_eq]
  generalize (lg_sl ([.ref b]) ++ List.replicate (16 - (lg_sl ([.ref b])).length) Slot.unset).toArray = ls at hl ⊢
  have hl : lv_has ls 16 [(0, .ref b)] := hl
  refine lv_iconst (v := 0) hx hb dL_law_0 (by decide) ?_
  refine lv_istore_n (lv' := [(1, .int 0), (0, .ref b)]) hx hb dL_law_1 rfl hl (by decide) rfl (fun ls hl => ?_)
  refine W.base ?_
  exact law_a l hst C0 hK hTB hTX hAO (by omega) (Drawn.sameBut.refl s.drawn lw_cs) hS hl
