theorem law_cmp {i L : Nat} (hL : L ≤ 3072) (h6 : 6 * i ≤ 3078) (h : ¬ (nI L - 6 < nI (6 * i))) : 6 * i + 6 ≤ L := by
  rcases Nat.lt_or_ge L 6 with h5 | h5
  · exfalso
    apply h
    have h0 : nI L - 6 < 0 := by rcases (show L = 0 ∨ L = 1 ∨ L = 2 ∨ L = 3 ∨ L = 4 ∨ L = 5 by omega) with rfl | rfl | rfl | rfl | rfl | rfl <;> decide
    exact Int32.lt_of_lt_of_le h0 ((nI_leI (a := 0) (b := 6 * i) (by omega) (by omega)).mpr (Nat.zero_le _))
  · rw [show nI L - 6 = nI (L - 6) from pk_sub (a := L) (b := 6) (by omega)] at h
    rcases Nat.lt_or_ge (L - 6) (6 * i) with h7 | h7
    · exact absurd ((nI_ltI (a := L - 6) (b := 6 * i) (by omega) (by omega)).mpr h7) h
    · omega
set_option maxRecDepth 100000 in
set_option maxHeartbeats 4000000 in
theorem law_step (l : Launch) (hst : l.stackTraces = false) {p : Program} {e : Env} {s : State} {m : MethodId} {below : List Frame} {meth : Method} {c : Code} {b L : Nat} {xs : Nat → Int32} (C0 : lw_At p s m meth c b L xs) {D : va_G} {cA : Nat → ClassId} (hK : va_K D vwCl (ty6 cA) s) (hTB : TBok s) (hTX : TXok (fun q : Nat => s.heap.size ≤ q) s) {x ar ak qo qd am : Nat} {r : Nat → Nat} (hL : L ≤ 3072) {c0 s0 i : Nat} (hi6 : 6 * i ≤ 3078) (hc0 : c0 + 20 ≤ 601024) (hs0 : s0 + 400 ≤ 7293034) (ih : 6 * i + 6 ≤ L → ∀ (S : Pool) (M : MSt) (fo : Nat → Int64) (fd : Nat → UInt64) (n na : Nat) (hh cc : Int32) (H : Heap) (locs : List Loc) (ls : Array Slot) (d : Drawn), s.drawn.sameBut d lw_cs → INVC n na hh cc S x ar ak → INVR n na M → REL True n na S M ar → LAY n M → M.1 1 = cc → M.1 2 = hh → va_P D vwCl (LW cA S qo fo qd fd am r M) H → va_D (fun q : Nat => s.heap.size ≤ q) (LW cA S qo fo qd fd am r M) → va_S (fun q : Nat => s.heap.size ≤ q) s.heap H locs → lv_has ls 9 [(5, .int (nI (6 * (i + 1)))), (4, .ref qd), (3, .ref qo), (2, .ref am), (1, .ref x), (0, .ref b)] → W p l e room_1 (s.setDrawn d) m #[Value.ref b] below meth c H locs (c0 + 20) (s0 + 400) (lw_Z below #[Value.ref b] s) (F0 m 28 ls [])) : ∀ (S : Pool) (M : MSt) (fo : Nat → Int64) (fd : Nat → UInt64) (n na : Nat) (hh cc : Int32) (H : Heap) (locs : List Loc) (ls : Array Slot) (d : Drawn), s.drawn.sameBut d lw_cs → INVC n na hh cc S x ar ak → INVR n na M → REL True n na S M ar → LAY n M → M.1 1 = cc → M.1 2 = hh → va_P D vwCl (LW cA S qo fo qd fd am r M) H → va_D (fun q : Nat => s.heap.size ≤ q) (LW cA S qo fo qd fd am r M) → va_S (fun q : Nat => s.heap.size ≤ q) s.heap H locs → lv_has ls 9 [(5, .int (nI (6 * i))), (4, .ref qd), (3, .ref qo), (2, .ref am), (1, .ref x), (0, .ref b)] → W p l e room_1 (s.setDrawn d) m #[Value.ref b] below meth c H locs c0 s0 (lw_Z below #[Value.ref b] s) (F0 m 28 ls []) := by
  intro S M fo fd n na hh cc H locs ls d hd0 h hI hL9 hY e1 e2 hP hD hS hl
  obtain ⟨hx, hb, hr, hml, hown, hts, hX, hbl, hlocks, hgv⟩ := id C0
  have hbA : ¬ (fun q : Nat => s.heap.size ≤ q) b := Nat.not_le.mpr hbl
  have hX : va_X b L xs (s.setDrawn d) (s.setDrawn d).heap := hX
  refine lv_iload hx hb dL_law_28 (lv_at hl 0 rfl) ?_
  refine lv_aload_n hx hb dL_law_30 rfl (lv_at hl 5 rfl) ?_
  refine va_slen hx hb hX hbl hbA hS dL_law_31 ?_
  refine lv_bipush (v := 6) hx hb dL_law_32 (by decide) ?_
  refine lv_isub hx hb dL_law_34 ?_
  refine lv_icmp_gt (tgt := 1756) hx hb dL_law_35 (by decide) (fun _ => ?_) (fun c_1 => ?_)
  · refine lv_iconst (v := 1) hx hb dL_law_1756 (by decide) ?_
    refine va_forget (fun q hq => hS.2.2 q hq) ?_
    refine W.widen (k := 601024) (n := 7293034) (by omega) (by omega) ?_
    exact lw_ret hd0 hx hb hr hlocks dL_law_1757
  have hi : 6 * i + 6 ≤ L := law_cmp hL hi6 c_1
  have hnext : ∀ (S : Pool) (M : MSt) (fo : Nat → Int64) (fd : Nat → UInt64) (n na : Nat) (hh cc : Int32) (H : Heap) (locs : List Loc) (ls : Array Slot) (d : Drawn), s.drawn.sameBut d lw_cs → INVC n na hh cc S x ar ak → INVR n na M → REL True n na S M ar → LAY n M → M.1 1 = cc → M.1 2 = hh → va_P D vwCl (LW cA S qo fo qd fd am r M) H → va_D (fun q : Nat => s.heap.size ≤ q) (LW cA S qo fo qd fd am r M) → va_S (fun q : Nat => s.heap.size ≤ q) s.heap H locs → lv_has ls 9 [(5, .int (nI (6 * i))), (4, .ref qd), (3, .ref qo), (2, .ref am), (1, .ref x), (0, .ref b)] → W p l e room_1 (s.setDrawn d) m #[Value.ref b] below meth c H locs (c0 + 20) (s0 + 400) (lw_Z below #[Value.ref b] s) (F0 m 1750 ls []) := by
    intro S M fo fd n na hh cc H locs ls d hd0 h hI hL9 hY e1 e2 hP hD hS hl
    obtain ⟨z, ez⟩ : ∃ y : Int32, y = nI (6 * i) + 6 := ⟨_, rfl⟩
    refine lv_iinc (v := z) (lv' := [(5, .int z), (4, .ref qd), (3, .ref qo), (2, .ref am), (1, .ref x), (0, .ref b)]) hx hb dL_law_1750 hl (k := 0) rfl (by rw [ez]; rfl) (by decide) rfl (fun ls hl => ?_)
    refine lv_goto (tgt := 28) hx hb dL_law_1753 (by decide) ?_
    have ez2 : z = nI (6 * (i + 1)) := ez.trans ((nI_add (6 * i) 6).trans (congrArg nI (by omega)))
    rw [ez2] at hl
    exact ih hi _ _ _ _ _ _ _ _ _ _ _ _ hd0 h hI hL9 hY e1 e2 hP hD hS hl
  refine lv_aload_n hx hb dL_law_38 rfl (lv_at hl 5 rfl) ?_
  refine lv_iload hx hb dL_law_39 (lv_at hl 0 rfl) ?_
  refine va_sld hx hb hX hbl hbA hS (ki_in (by omega) (by omega)) dL_law_41 ?_
  refine lv_bipush (v := 63) hx hb dL_law_42 (by decide) ?_
  refine lv_iand hx hb dL_law_44 ?_
  obtain ⟨j, hj, ej⟩ := pk_andE (xs (nI (6 * i)).toNatClampNeg) (m := 63) 6 (by decide)
  rw [ej]
  rcases (show j = 0 ∨ j = 1 ∨ j = 2 ∨ j = 3 ∨ j = 4 ∨ j = 5 ∨ j = 6 ∨ j = 7 ∨ j = 8 ∨ j = 9 ∨ j = 10 ∨ j = 11 ∨ j = 12 ∨ j = 13 ∨ j = 14 ∨ j = 15 ∨ j = 16 ∨ j = 17 ∨ j = 18 ∨ j = 19 ∨ j = 20 ∨ j = 21 ∨ j = 22 ∨ j = 23 ∨ j = 24 ∨ j = 25 ∨ j = 26 ∨ j = 27 ∨ j = 28 ∨ j = 29 ∨ j = 30 ∨ j = 31 ∨ j = 32 ∨ j = 33 ∨ j = 34 ∨ 35 ≤ j by omega) with rfl | rfl | rfl | rfl | rfl | rfl | rfl | rfl | rfl | rfl | rfl | rfl | rfl | rfl | rfl | rfl | rfl | rfl | rfl | rfl | rfl | rfl | rfl | rfl | rfl | rfl | rfl | rfl | rfl | rfl | rfl | rfl | rfl | rfl | rfl | h35
  · refine lv_tableIn (off := 155) (tgt := 200) hx hb dL_law_45 (by decide) (by decide) (by decide) (by decide) ?_
    exact law_add l hst C0 hK hTB hTX hc0 hs0 hi hL hnext hd0 h hI hL9 hY e1 e2 hP hD hS hl
  · refine lv_tableIn (off := 223) (tgt := 268) hx hb dL_law_45 (by decide) (by decide) (by decide) (by decide) ?_
    exact law_weigh l hst C0 hK hTB hTX hc0 hs0 hi hL hnext hd0 h hI hL9 hY e1 e2 hP hD hS hl
  · refine lv_tableIn (off := 275) (tgt := 320) hx hb dL_law_45 (by decide) (by decide) (by decide) (by decide) ?_
    exact law_turn l hst C0 hK hTB hTX hc0 hs0 hi hL hnext hd0 h hI hL9 hY e1 e2 hP hD hS hl
  · refine lv_tableIn (off := 331) (tgt := 376) hx hb dL_law_45 (by decide) (by decide) (by decide) (by decide) ?_
    exact law_ramp l hst C0 hK hTB hTX hc0 hs0 hi hL hnext hd0 h hI hL9 hY e1 e2 hP hD hS hl
  · refine lv_tableIn (off := 383) (tgt := 428) hx hb dL_law_45 (by decide) (by decide) (by decide) (by decide) ?_
    exact law_place l hst C0 hK hTB hTX hc0 hs0 hi hL hnext hd0 h hI hL9 hY e1 e2 hP hD hS hl
  · refine lv_tableIn (off := 447) (tgt := 492) hx hb dL_law_45 (by decide) (by decide) (by decide) (by decide) ?_
    exact law_need l hst C0 hK hTB hTX hc0 hs0 hi hL hnext hd0 h hI hL9 hY e1 e2 hP hD hS hl
  · refine lv_tableIn (off := 499) (tgt := 544) hx hb dL_law_45 (by decide) (by decide) (by decide) (by decide) ?_
    exact law_rule l hst C0 hK hTB hTX hc0 hs0 hi hL hnext hd0 h hI hL9 hY e1 e2 hP hD hS hl
  · refine lv_tableIn (off := 575) (tgt := 620) hx hb dL_law_45 (by decide) (by decide) (by decide) (by decide) ?_
    exact law_unrule l hst C0 hK hTB hTX hc0 hs0 hi hL hnext hd0 h hI hL9 hY e1 e2 hP hD hS hl
  · refine lv_tableIn (off := 615) (tgt := 660) hx hb dL_law_45 (by decide) (by decide) (by decide) (by decide) ?_
    exact law_hold l hst C0 hK hTB hTX hc0 hs0 hi hL hnext hd0 h hI hL9 hY e1 e2 hP hD hS hl
  · refine lv_tableIn (off := 643) (tgt := 688) hx hb dL_law_45 (by decide) (by decide) (by decide) (by decide) ?_
    exact law_goOn l hst C0 hK hTB hTX hc0 hs0 hi hL hnext hd0 h hI hL9 hY e1 e2 hP hD hS hl
  · refine lv_tableIn (off := 671) (tgt := 716) hx hb dL_law_45 (by decide) (by decide) (by decide) (by decide) ?_
    exact law_switches l hst C0 hK hTB hTX hc0 hs0 hi hL hnext hd0 h hI hL9 hY e1 e2 hP hD hS hl
  · refine lv_tableIn (off := 684) (tgt := 729) hx hb dL_law_45 (by decide) (by decide) (by decide) (by decide) ?_
    exact law_weight l hst C0 hK hTB hTX hc0 hs0 hi hL hnext hd0 h hI hL9 hY e1 e2 hP hD hS hl
  · refine lv_tableIn (off := 724) (tgt := 769) hx hb dL_law_45 (by decide) (by decide) (by decide) (by decide) ?_
    exact law_share l hst C0 hK hTB hTX hc0 hs0 hi hL hnext hd0 h hI hL9 hY e1 e2 hP hD hS hl
  · refine lv_tableIn (off := 752) (tgt := 797) hx hb dL_law_45 (by decide) (by decide) (by decide) (by decide) ?_
    exact law_left l hst C0 hK hTB hTX hc0 hs0 hi hL hnext hd0 h hI hL9 hY e1 e2 hP hD hS hl
  · refine lv_tableIn (off := 780) (tgt := 825) hx hb dL_law_45 (by decide) (by decide) (by decide) (by decide) ?_
    exact law_bucket l hst C0 hK hTB hTX hc0 hs0 hi hL hnext hd0 h hI hL9 hY e1 e2 hP hD hS hl
  · refine lv_tableIn (off := 820) (tgt := 865) hx hb dL_law_45 (by decide) (by decide) (by decide) (by decide) ?_
    exact law_gets l hst C0 hK hTB hTX hc0 hs0 hi hL hnext hd0 h hI hL9 hY e1 e2 hP hD hS hl
  · refine lv_tableIn (off := 884) (tgt := 929) hx hb dL_law_45 (by decide) (by decide) (by decide) (by decide) ?_
    exact law_why l hst C0 hK hTB hTX hc0 hs0 hi hL hnext hd0 h hI hL9 hY e1 e2 hP hD hS hl
  · refine lv_tableIn (off := 976) (tgt := 1021) hx hb dL_law_45 (by decide) (by decide) (by decide) (by decide) ?_
    exact law_holds l hst C0 hK hTB hTX hc0 hs0 hi hL hnext hd0 h hI hL9 hY e1 e2 hP hD hS hl
  · refine lv_tableIn (off := 1040) (tgt := 1085) hx hb dL_law_45 (by decide) (by decide) (by decide) (by decide) ?_
    exact law_ask l hst C0 hK hTB hTX hc0 hs0 hi hL hnext hd0 h hI hL9 hY e1 e2 hP hD hS hl
  · refine lv_tableIn (off := 1104) (tgt := 1149) hx hb dL_law_45 (by decide) (by decide) (by decide) (by decide) ?_
    exact law_act l hst C0 hK hTB hTX hc0 hs0 hi hL hnext hd0 h hI hL9 hY e1 e2 hP hD hS hl
  · refine lv_tableIn (off := 1144) (tgt := 1189) hx hb dL_law_45 (by decide) (by decide) (by decide) (by decide) ?_
    exact law_arm l hst C0 hK hTB hTX hc0 hs0 hi hL hnext hd0 h hI hL9 hY e1 e2 hP hD hS hl
  · refine lv_tableIn (off := 1184) (tgt := 1229) hx hb dL_law_45 (by decide) (by decide) (by decide) (by decide) ?_
    exact law_arms l hst C0 hK hTB hTX hc0 hs0 hi hL hnext hd0 h hI hL9 hY e1 e2 hP hD hS hl
  · refine lv_tableIn (off := 1197) (tgt := 1242) hx hb dL_law_45 (by decide) (by decide) (by decide) (by decide) ?_
    exact law_told l hst C0 hK hTB hTX hc0 hs0 hi hL hnext hd0 h hI hL9 hY e1 e2 hP hD hS hl
  · refine lv_tableIn (off := 1249) (tgt := 1294) hx hb dL_law_45 (by decide) (by decide) (by decide) (by decide) ?_
    exact law_mean l hst C0 hK hTB hTX hc0 hs0 hi hL hnext hd0 h hI hL9 hY e1 e2 hP hD hS hl
  · refine lv_tableIn (off := 1290) (tgt := 1335) hx hb dL_law_45 (by decide) (by decide) (by decide) (by decide) ?_
    exact law_lift l hst C0 hK hTB hTX hc0 hs0 hi hL hnext hd0 h hI hL9 hY e1 e2 hP hD hS hl
  · refine lv_tableIn (off := 1331) (tgt := 1376) hx hb dL_law_45 (by decide) (by decide) (by decide) (by decide) ?_
    exact law_sure l hst C0 hK hTB hTX hc0 hs0 hi hL hnext hd0 h hI hL9 hY e1 e2 hP hD hS hl
  · refine lv_tableIn (off := 1372) (tgt := 1417) hx hb dL_law_45 (by decide) (by decide) (by decide) (by decide) ?_
    exact law_bad l hst C0 hK hTB hTX hc0 hs0 hi hL hnext hd0 h hI hL9 hY e1 e2 hP hD hS hl
  · refine lv_tableIn (off := 1400) (tgt := 1445) hx hb dL_law_45 (by decide) (by decide) (by decide) (by decide) ?_
    exact law_isTrusted l hst C0 hK hTB hTX hc0 hs0 hi hL hnext hd0 h hI hL9 hY e1 e2 hP hD hS hl
  · refine lv_tableIn (off := 1428) (tgt := 1473) hx hb dL_law_45 (by decide) (by decide) (by decide) (by decide) ?_
    exact law_best l hst C0 hK hTB hTX hc0 hs0 hi hL hnext hd0 h hI hL9 hY e1 e2 hP hD hS hl
  · refine lv_tableIn (off := 1456) (tgt := 1501) hx hb dL_law_45 (by decide) (by decide) (by decide) (by decide) ?_
    exact law_reach l hst C0 hK hTB hTX hc0 hs0 hi hL hnext hd0 h hI hL9 hY e1 e2 hP hD hS hl
  · refine lv_tableIn (off := 1508) (tgt := 1553) hx hb dL_law_45 (by decide) (by decide) (by decide) (by decide) ?_
    exact law_both l hst C0 hK hTB hTX hc0 hs0 hi hL hnext hd0 h hI hL9 hY e1 e2 hP hD hS hl
  · refine lv_tableIn (off := 1560) (tgt := 1605) hx hb dL_law_45 (by decide) (by decide) (by decide) (by decide) ?_
    exact law_wouldChange l hst C0 hK hTB hTX hc0 hs0 hi hL hnext hd0 h hI hL9 hY e1 e2 hP hD hS hl
  · refine lv_tableIn (off := 1612) (tgt := 1657) hx hb dL_law_45 (by decide) (by decide) (by decide) (by decide) ?_
    exact law_wouldTurn l hst C0 hK hTB hTX hc0 hs0 hi hL hnext hd0 h hI hL9 hY e1 e2 hP hD hS hl
  · refine lv_tableIn (off := 1652) (tgt := 1697) hx hb dL_law_45 (by decide) (by decide) (by decide) (by decide) ?_
    exact law_shareIn l hst C0 hK hTB hTX hc0 hs0 hi hL hnext hd0 h hI hL9 hY e1 e2 hP hD hS hl
  · refine lv_tableIn (off := 1692) (tgt := 1737) hx hb dL_law_45 (by decide) (by decide) (by decide) (by decide) ?_
    exact law_digest l hst C0 hK hTB hTX hc0 hs0 hi hL hnext hd0 h hI hL9 hY e1 e2 hP hD hS hl
  · refine lv_tableOut (tgt := 1750) hx hb dL_law_45 (Or.inr (by rw [nI_toInt (by omega)]; omega)) (by decide) ?_
    refine W.widen (k := c0 + 20) (n := s0 + 400) (by omega) (by omega) ?_
    exact hnext _ _ _ _ _ _ _ _ _ _ _ _ hd0 h hI hL9 hY e1 e2 hP hD hS hl
set_option maxRecDepth 100000 in
set_option maxHeartbeats 4000000 in
theorem law_loop (l : Launch) (hst : l.stackTraces = false) {p : Program} {e : Env} {s : State} {m : MethodId} {below : List Frame} {meth : Method} {c : Code} {b L : Nat} {xs : Nat → Int32} (C0 : lw_At p s m meth c b L xs) {D : va_G} {cA : Nat → ClassId} (hK : va_K D vwCl (ty6 cA) s) (hTB : TBok s) (hTX : TXok (fun q : Nat => s.heap.size ≤ q) s) {x ar ak qo qd am : Nat} {r : Nat → Nat} (hL : L ≤ 3072) : ∀ (f i c0 s0 : Nat), i + f = 513 → c0 + 20 * (f + 1) ≤ 20000 → s0 + 400 * (f + 1) ≤ 400000 → ∀ (S : Pool) (M : MSt) (fo : Nat → Int64) (fd : Nat → UInt64) (n na : Nat) (hh cc : Int32) (H : Heap) (locs : List Loc) (ls : Array Slot) (d : Drawn), s.drawn.sameBut d lw_cs → INVC n na hh cc S x ar ak → INVR n na M → REL True n na S M ar → LAY n M → M.1 1 = cc → M.1 2 = hh → va_P D vwCl (LW cA S qo fo qd fd am r M) H → va_D (fun q : Nat => s.heap.size ≤ q) (LW cA S qo fo qd fd am r M) → va_S (fun q : Nat => s.heap.size ≤ q) s.heap H locs → lv_has ls 9 [(5, .int (nI (6 * i))), (4, .ref qd), (3, .ref qo), (2, .ref am), (1, .ref x), (0, .ref b)] → W p l e room_1 (s.setDrawn d) m #[Value.ref b] below meth c H locs c0 s0 (lw_Z below #[Value.ref b] s) (F0 m 28 ls []) := by
  intro f
  induction f with
  | zero => intro i c0 s0 hif hc hs; exact law_step l hst C0 hK hTB hTX hL (by omega) (by omega) (by omega) (fun h => absurd h (by omega))
  | succ f ih => intro i c0 s0 hif hc hs; exact law_step l hst C0 hK hTB hTX hL (by omega) (by omega) (by omega) (fun _ => ih (i + 1) (c0 + 20) (s0 + 400) (by omega) (by omega) (by omega))
set_option maxRecDepth 100000 in
set_option maxHeartbeats 4000000 in
theorem whole_start {p : Program} {e : Env} {s : State} {m : MethodId} {below : List Frame} {meth : Method} {c : Code} (l : Launch) (hflags : l.flags = flags0) {b L : Nat} {xs : Nat → Int32} (hL : L ≤ 3072) (C0 : lw_At p s m meth c b L xs) : W p l e room_1 s m #[Value.ref b] below meth c s.heap [] 0 0 (lw_Z below #[Value.ref b] s) (entryFrame m ([Value.ref b] : List Value).toArray 9) := by
  obtain ⟨hx, hb, hr, hml, hown, hts, hX, hbl, hlocks, hgv⟩ := id C0
  have hst := kl_st hflags
  have hA : ∀ q : Nat, s.heap.size ≤ q → (fun q : Nat => s.heap.size ≤ q) q := fun _ h => h
  have hbA : ¬ (fun q : Nat => s.heap.size ≤ q) b := Nat.not_le.mpr hbl
  have htT : ∀ w ∈ TT, w.before _ s = true := fun w h => hts w (tt_in h)
  obtain ⟨D, cA, hK⟩ := kl_K hts
  have hTB := kl_TB hts
  have hTX := kl_TX hts hgv
  have hS : va_S (fun q : Nat => s.heap.size ≤ q) s.heap s.heap [] := va_S.rf
  have hP : va_P D vwCl (PW cA P0) s.heap := fun k q h => by have h9 : ([] : va_W)[k]? = some q := h; simp at h9
  have hD : va_D (fun q : Nat => s.heap.size ≤ q) (PW cA P0) := ⟨fun i j p q h => by have h9 : ([] : va_W)[i]? = some p := h; simp at h9, fun k q h => by have h9 : ([] : va_W)[k]? = some q := h; simp at h9⟩
  have hl := lv_entry ([.ref b]) (n := 9) (Nat.le_of_ble_eq_true rfl)
  rw [lg_entry_eq]
  generalize (lg_sl ([.ref b]) ++ List.replicate (9 - (lg_sl ([.ref b])).length) Slot.unset).toArray = ls at hl ⊢
  have hl : lv_has ls 9 [(0, .ref b)] := hl
  refine kx_new (ci := 5) (S := P0) hx hb htT m_u_X5 tyX5 tyX5_ok hown (htT _ m_cl_L_8) (htT _ m_nw_X5) (htT _ m_in_X5) hK hP hD hS hA (Nat.le_of_ble_eq_true rfl) rfl rfl (by decide) (Nat.le_of_ble_eq_true rfl) (Nat.le_of_ble_eq_true rfl) dL_law_0 (fun x H hqx hP hD hS => ?_)
  refine lv_dup hx hb dL_law_3 rfl ?_
  refine kc_v (va_runI (As := []) (rest := [.ref x]) ⟨hx, hb, hml, hown, htT⟩ (c_init l D cA _ (pW P0 x 5 0) x isO_q) (cwI 0 htT (kg_I m_cd_X5_init) rfl rfl rfl (htT _ m_in_X5) (htT _ m_ml_L_120) (htT _ m_im_X5_init) rfl (by decide +kernel) ⟨Nat.le_of_ble_eq_true rfl, Nat.le_of_ble_eq_true rfl⟩) (kp_S hK hP hD hTB) rfl rfl hl.1 rfl (lv_room (Nat.le_of_ble_eq_true rfl)) dL_law_4 ⟨Nat.le_of_ble_eq_true rfl, Nat.le_of_ble_eq_true rfl⟩) hD hS hA (fun z H locs hz hP hD hS => ?_)
  obtain ⟨ar, ak, h1, h2, ez⟩ := hz
  rw [ez] at hP hD
  have hne : x ≠ ar := ne_new (S := pW P0 x 5 0) (isO_q (S := P0) (ki := 5) (n := 0)).1 h1
  have hnk : x ≠ ak := ne_new (S := pQ (pW (pW P0 x 5 0) ar 22 8) x 0 (some ar)) (List.mem_append_left _ (isO_q (S := P0) (ki := 5) (n := 0)).1) h2
  have hra : ar ≠ ak := ne_new (S := pQ (pW (pW P0 x 5 0) ar 22 8) x 0 (some ar)) (isA_q (S := pW P0 x 5 0) (ki := 22) (n := 8)).1 h2
  obtain ⟨S, eS⟩ : ∃ z, z = pQ (pI (pI (pW (pQ (pW (pW P0 x 5 0) ar 22 8) x 0 (some ar)) ak 1 0) ak 3 (-1)) ak 4 (-1)) x 1 (some ak) := ⟨_, rfl⟩
  rw [← eS] at hP hD
  have hx1 : isO (pW P0 x 5 0) x 5 := isO_q (S := P0) (ki := 5) (n := 0)
  have hxT : isO (pQ (pW (pW P0 x 5 0) ar 22 8) x 0 (some ar)) x 5 := isO_new (S := pW P0 x 5 0) (ki := 22) (n := 8) hx1 h1
  have haT : isA (pQ (pW (pW P0 x 5 0) ar 22 8) x 0 (some ar)) ar 22 8 := isA_q (S := pW P0 x 5 0) (ki := 22) (n := 8)
  have ho : isO S x 5 := by rw [eS]; exact isO_new (S := (pQ (pW (pW P0 x 5 0) ar 22 8) x 0 (some ar))) (ki := 1) (n := 0) hxT h2
  have har : isA S ar 22 8 := by rw [eS]; exact isA_new (S := (pQ (pW (pW P0 x 5 0) ar 22 8) x 0 (some ar))) (ki := 1) (n := 0) haT h2
  have hq0 : gQ S x 0 = some ar := by
    rw [eS]
    have e1 : gQ (pW (pQ (pW (pW P0 x 5 0) ar 22 8) x 0 (some ar)) ak 1 0) x 0 = gQ (pQ (pW (pW P0 x 5 0) ar 22 8) x 0 (some ar)) x 0 := gQ_new hxT.1 h2
    have e2 : gQ (pQ (pW (pW P0 x 5 0) ar 22 8) x 0 (some ar)) x 0 = some ar := show u2 (gQ (pW (pW P0 x 5 0) ar 22 8)) x 0 (some ar) x 0 = some ar from u2_s
    exact (show u2 (gQ (pW (pQ (pW (pW P0 x 5 0) ar 22 8) x 0 (some ar)) ak 1 0)) x 1 (some ak) x 0 = some ar from (u2_k (by decide)).trans (e1.trans e2))
  have hn : ∀ j, j < 8 → gP S ar j = none := by
    intro j _
    rw [eS]
    have e1 : gP (pW (pQ (pW (pW P0 x 5 0) ar 22 8) x 0 (some ar)) ak 1 0) ar j = gP (pQ (pW (pW P0 x 5 0) ar 22 8) x 0 (some ar)) ar j := gP_new haT.1 h2
    exact (show gP (pW (pQ (pW (pW P0 x 5 0) ar 22 8) x 0 (some ar)) ak 1 0) ar j = none from e1.trans (gP_q (S := pW P0 x 5 0) (ki := 22) (n := 8)))
  have hnum : ∀ k, gI S x k = 0 := by
    intro k
    rw [eS]
    have e1 : gI (pW (pQ (pW (pW P0 x 5 0) ar 22 8) x 0 (some ar)) ak 1 0) x k = gI (pQ (pW (pW P0 x 5 0) ar 22 8) x 0 (some ar)) x k := gI_new hxT.1 h2
    have e2 : gI (pQ (pW (pW P0 x 5 0) ar 22 8) x 0 (some ar)) x k = gI (pW P0 x 5 0) x k := gI_new (S := pW P0 x 5 0) (ki := 22) (n := 8) hx1.1 h1
    have e3 : gI (pW P0 x 5 0) x k = 0 := gI_q (S := P0) (ki := 5) (n := 0)
    exact (show u2 (u2 (gI (pW (pQ (pW (pW P0 x 5 0) ar 22 8) x 0 (some ar)) ak 1 0)) ak 3 (-1)) ak 4 (-1) x k = 0 from (u2_a hnk).trans ((u2_a hnk).trans (e1.trans (e2.trans e3))))
  refine lv_astore_n (lv' := [(1, .ref x), (0, .ref b)]) hx hb dL_law_7 rfl hl (by decide) rfl (fun ls hl => ?_)
  refine va_new (D := D) (ci := 6) (fs := [.int 0, .int 0, .int 0, .int 0, .null, .null, .null, .null, .null, .null, .null, .null, .null, .null, .null, .null, .null, .null, .null, .null, .null, .null, .int 0, .null, .null, .null, .null, .null, .int 0]) (C := RX6) (T := TX6) (N := 29) hx hb htT m_u_X6 tyX6 tyX6_ok hown (htT _ m_cl_L_121) (htT _ m_nw_X6) (htT _ m_in_X6) hK hP hD hS hA rfl (by decide +kernel) (Nat.le_of_ble_eq_true rfl) (Nat.le_of_ble_eq_true rfl) dL_law_8 (fun am H hP hD hS => ?_)
  refine lv_dup hx hb dL_law_11 rfl ?_
  refine kj_v (List.perm_append_comm) (va_runI (As := []) (rest := [.ref am]) ⟨hx, hb, hml, hown, htT⟩ (m_init l D cA _ am) (cwI 0 htT (kg_I m_cd_X6_init) rfl rfl rfl (htT _ m_in_X6) (htT _ m_ml_L_123) (htT _ m_im_X6_init) rfl (by decide +kernel) ⟨Nat.le_of_ble_eq_true rfl, Nat.le_of_ble_eq_true rfl⟩) (kj_S (List.perm_append_comm) hK hP hD hTB) rfl rfl hl.1 rfl (lv_room (Nat.le_of_ble_eq_true rfl)) dL_law_12 ⟨Nat.le_of_ble_eq_true rfl, Nat.le_of_ble_eq_true rfl⟩) hP hD hS hA (fun z H locs hz hP hD hS => ?_)
  obtain ⟨r, M⟩ := z
  have hM : M = mZ := hz
  subst hM
  refine lv_astore_n (lv' := [(2, .ref am), (1, .ref x), (0, .ref b)]) hx hb dL_law_15 rfl hl (by decide) rfl (fun ls hl => ?_)
  refine lv_iconst (v := 1) hx hb dL_law_16 (by decide) ?_
  refine va_newa (D := D) (atype := .long) (ty := .long) (n := 1) (N' := 1) hx hb (htT _ m_ar_long) rfl hK hP hD hS hA (a0 := (1, .inr (.inl (fun _ => 0)))) (fun _ => rfl) (by decide) (by decide) (Nat.le_of_ble_eq_true rfl) (Nat.le_of_ble_eq_true rfl) (Nat.le_of_ble_eq_true rfl) dL_law_17 (fun qo c_1 H hK_1 hP hD hS => ?_)
  obtain rfl : c_1 = cA 1 := kx_arrI (hK_1.2 6 _ rfl).2 (hK.2 1 _ rfl).2
  refine lv_astore_n (lv' := [(3, .ref qo), (2, .ref am), (1, .ref x), (0, .ref b)]) hx hb dL_law_19 rfl hl (by decide) rfl (fun ls hl => ?_)
  refine lv_iconst (v := 1) hx hb dL_law_20 (by decide) ?_
  refine va_newa (D := D) (atype := .double) (ty := .double) (n := 1) (N' := 1) hx hb (htT _ m_ar_double) rfl hK hP hD hS hA (a0 := (1, .inr (.inr (.inr (.inl (fun _ => 0)))))) (fun _ => rfl) (by decide) (by decide) (Nat.le_of_ble_eq_true rfl) (Nat.le_of_ble_eq_true rfl) (Nat.le_of_ble_eq_true rfl) dL_law_21 (fun qd c_2 H hK_2 hP hD hS => ?_)
  obtain rfl : c_2 = cA 3 := kx_arrI (hK_2.2 6 _ rfl).2 (hK.2 3 _ rfl).2
  have hP : va_P D vwCl (LW cA S qo (fun _ => 0) qd (fun _ => 0) am r mZ) H := kj_P (pm0 _ _ _ _) hP
  have hD : va_D (fun q : Nat => s.heap.size ≤ q) (LW cA S qo (fun _ => 0) qd (fun _ => 0) am r mZ) := kj_D (pm0 _ _ _ _) hD
  refine lv_astore (lv' := [(4, .ref qd), (3, .ref qo), (2, .ref am), (1, .ref x), (0, .ref b)]) hx hb dL_law_23 hl (by decide) rfl (fun ls hl => ?_)
  refine lv_iconst (v := 0) hx hb dL_law_25 (by decide) ?_
  refine lv_istore (lv' := [(5, .int 0), (4, .ref qd), (3, .ref qo), (2, .ref am), (1, .ref x), (0, .ref b)]) hx hb dL_law_26 hl (by decide) rfl (fun ls hl => ?_)
  have hq1 : gQ S x 1 = some ak := by rw [eS]; exact (show u2 _ x 1 (some ak) x 1 = some ak from u2_s)
  have hak : isO S ak 1 := by rw [eS]; exact isO_q (S := pQ (pW (pW P0 x 5 0) ar 22 8) x 0 (some ar)) (ki := 1) (n := 0)
  have hC : INVC 0 0 0 0 S x ar ak := ⟨⟨ho, hq0, hq1, hak⟩, ⟨har, fun k hk a ha => by rw [hn k hk] at ha; cases ha⟩, ⟨by omega, hnum 2⟩, ⟨by omega, hnum 3⟩, fun k hk => absurd hk (by omega), fun k _ hk => hn k hk, fun k hk a ha => (by rw [hn k hk] at ha; cases ha), hnum 4, hnum 5⟩
  have hM : INVR 0 0 mZ := ⟨⟨fun _ => 0, by omega, rfl, by omega, rfl, fun i hi => absurd hi (by omega)⟩, fun i hi => absurd hi (by omega), fun i _ => ⟨rfl, rfl, rfl, rfl, rfl, rfl⟩⟩
  have hREL : REL True 0 0 S mZ ar := ⟨fun i hi => absurd hi (by omega), fun i j a b hi hj ha => (by rw [hn i hi] at ha; cases ha), fun i _ => ⟨rfl, rfl, rfl, rfl⟩, fun _ k hk => absurd hk (by omega)⟩
  refine W.widen (k := 100) (n := 2000) (Nat.le_of_ble_eq_true rfl) (Nat.le_of_ble_eq_true rfl) ?_
  refine W.base ?_
  exact law_loop l hst C0 hK hTB hTX hL 513 0 100 2000 rfl (by omega) (by omega) S mZ _ _ 0 0 0 0 _ _ _ _ (Drawn.sameBut.refl s.drawn lw_cs) hC hM hREL (fun i hi => absurd hi (by omega)) rfl rfl hP hD hS hl
