/-! add, rule, unrule, ask: what stays -/
theorem INVC.add1 {n na : Nat} {hh cc p1 : Int32} {S T : Pool} {x ar ak q : Nat} (h : INVC n na hh cc S x ar ak) (hn : n < 8) (hE : ExtI S T) (hq : q ∉ gL S) (hs : okSw T q) (g0 : gI T q 0 = gI S x 2) (g2 : gI T q 2 = p1) (g8 : gI T q 8 = 0) (g7 : gQ T q 7 = none) (hv : ∃ vc, vc ≤ 4 ∧ p1 = nI vc) : INVC (n + 1) na hh cc (pI (pP T ar (gI S x 2).toNatClampNeg (some q)) x 2 (gI S x 2 + 1)) x ar ak := by
  have e2 : (gI S x 2).toNatClampNeg = n := by rw [h.x2]; exact ki_cl (by omega)
  have e3 : gI S x 2 + 1 = nI (n + 1) := by rw [h.x2]; exact nI_add n 1
  rw [e2, e3]
  have hx : isO T x 5 := hE.1.o h.hx
  have har : isA T ar 22 8 := hE.1.a h.R.1
  have exI : ∀ k, k ≠ 2 → gI (pI (pP T ar n (some q)) x 2 (nI (n + 1))) x k = gI S x k := fun k hk => (show u2 (gI T) x 2 (nI (n + 1)) x k = _ from (u2_k hk).trans (hE.2 x h.hx.1 k))
  have eP : ∀ k, k ≠ n → gP (pI (pP T ar n (some q)) x 2 (nI (n + 1))) ar k = gP S ar k := fun k hk => (show u2 (gP T) ar n (some q) ar k = _ from (u2_k hk).trans ((hE.1 ar h.R.1.1).2.2 k))
  have ePn : gP (pI (pP T ar n (some q)) x 2 (nI (n + 1))) ar n = some q := (show u2 (gP T) ar n (some q) ar n = _ from u2_s)
  have eq7 : ∀ k, gI (pI (pP T ar n (some q)) x 2 (nI (n + 1))) q k = gI T q k := fun k => (show u2 (gI T) x 2 (nI (n + 1)) q k = _ from u2_a (ne_of_kind hs.1.2 hx.2 (by decide)))
  have eo : ∀ a, okSw S a → ∀ k, gI (pI (pP T ar n (some q)) x 2 (nI (n + 1))) a k = gI S a k := fun a ha k => (show u2 (gI T) x 2 (nI (n + 1)) a k = _ from (u2_a (ne_of_kind ha.1.2 h.hx.2 (by decide))).trans (hE.2 a ha.1.1 k))
  have hfin : ∀ a, okSw T a → okSw (pI (pP T ar n (some q)) x 2 (nI (n + 1))) a := fun a ha => okSw.pIn (T := pP T ar n (some q)) (b := x) (kb := 5) (ha.pPs har) hx (by decide)
  have hST : ∀ a, okSw S a → okSw T a := fun a ha => hE.1.sw ha (by rw [hE.2 a ha.1.1]; exact ha.2.2.2.2.2)
  refine ⟨⟨hx, ((hE.1 x h.hx.1).2.1 0).trans h.q0, ((hE.1 x h.hx.1).2.1 1).trans h.q1, hE.1.o h.kk⟩, ⟨har, fun k hk a ha => ?_⟩, ⟨by omega, show u2 (gI T) x 2 (nI (n + 1)) x 2 = _ from u2_s⟩, ⟨h.na1, (exI 3 (by decide)).trans h.x3⟩, fun k hk => ?_, fun k h1 h2 => ?_, fun k hk a ha => ?_, (exI 4 (by decide)).trans h.x4, (exI 5 (by decide)).trans h.x5⟩
  · by_cases hkn : k = n
    · subst hkn
      rw [ePn] at ha
      cases ha
      exact ⟨hfin _ hs, (eq7 0).trans (g0.trans h.x2)⟩
    · rw [eP k hkn] at ha
      have h1 := h.R.2 k hk a ha
      exact ⟨hfin _ (hST _ h1.1), (eo a h1.1 0).trans h1.2⟩
  · by_cases hkn : k = n
    · subst hkn; exact ⟨q, ePn⟩
    · obtain ⟨a, ha⟩ := h.row k (by omega)
      exact ⟨a, (eP k hkn).trans ha⟩
  · rw [eP k (by omega)]; exact h.non k (by omega) h2
  · by_cases hkn : k = n
    · subst hkn
      rw [ePn] at ha
      cases ha
      obtain ⟨vc, v1, v2⟩ := hv
      exact ⟨⟨0, Nat.zero_le _, g7⟩, ⟨vc, v1, (eq7 2).trans (g2.trans v2)⟩, ⟨0, by omega, (eq7 8).trans g8⟩⟩
    · rw [eP k hkn] at ha
      have h1 := h.R.2 k hk a ha
      obtain ⟨⟨c, c1, c2⟩, ⟨vc, v1, v2⟩, ⟨rc, r1, r2⟩⟩ := h.s k hk a ha
      refine ⟨⟨c, c1, ?_⟩, ⟨vc, v1, (eo a h1.1 2).trans v2⟩, ⟨rc, r1, (eo a h1.1 8).trans r2⟩⟩
      show chn (pI (pP T ar n (some q)) x 2 (nI (n + 1))) c (gQ T a 7)
      rw [(hE.1 a h1.1.1.1).2.1 7]
      exact chn_ext (S := S) (S' := pI (pP T ar n (some q)) x 2 (nI (n + 1))) (fun b hb => hE.1.o hb) (fun b hb => (hE.1 b hb.1).2.1 2) c _ c2
set_option maxRecDepth 100000 in
set_option maxHeartbeats 4000000 in
theorem INVC.add {n na : Nat} {hh cc p0 p1 p2 : Int32} {S X : Pool} {x ar ak : Nat} (h : INVC n na hh cc S x ar ak) (hn : n < 8) (hv : ∃ vc, vc ≤ 4 ∧ p1 = nI vc) (hp : ∃ q_7 q_1_11 q_3_11 q_8_11 q_1_14_11 q_3_14_11 q_8_14_11 q_16_14_11, q_7 ∉ gL S ∧ q_1_11 ∉ gL (pW S q_7 3 0) ∧ q_3_11 ∉ gL (pQ (pW (pW S q_7 3 0) q_1_11 6 4) q_7 4 (some q_1_11)) ∧ q_8_11 ∉ gL (pQ (pW (pQ (pW (pW S q_7 3 0) q_1_11 6 4) q_7 4 (some q_1_11)) q_3_11 21 5) q_7 5 (some q_3_11)) ∧ q_1_14_11 ∉ gL (pW (pQ (pW (pQ (pW (pW S q_7 3 0) q_1_11 6 4) q_7 4 (some q_1_11)) q_3_11 21 5) q_7 5 (some q_3_11)) q_8_11 4 0) ∧ q_3_14_11 ∉ gL (pQ (pW (pW (pQ (pW (pQ (pW (pW S q_7 3 0) q_1_11 6 4) q_7 4 (some q_1_11)) q_3_11 21 5) q_7 5 (some q_3_11)) q_8_11 4 0) q_1_14_11 10 4) q_8_11 0 (some q_1_14_11)) ∧ q_8_14_11 ∉ gL (pQ (pW (pQ (pW (pW (pQ (pW (pQ (pW (pW S q_7 3 0) q_1_11 6 4) q_7 4 (some q_1_11)) q_3_11 21 5) q_7 5 (some q_3_11)) q_8_11 4 0) q_1_14_11 10 4) q_8_11 0 (some q_1_14_11)) q_3_14_11 11 4) q_8_11 1 (some q_3_14_11)) ∧ q_16_14_11 ∉ gL (pQ (pW (pQ (pW (pQ (pW (pW (pQ (pW (pQ (pW (pW S q_7 3 0) q_1_11 6 4) q_7 4 (some q_1_11)) q_3_11 21 5) q_7 5 (some q_3_11)) q_8_11 4 0) q_1_14_11 10 4) q_8_11 0 (some q_1_14_11)) q_3_14_11 11 4) q_8_11 1 (some q_3_14_11)) q_8_14_11 12 4) q_8_11 2 (some q_8_14_11)) ∧ X = pI (pP (pR (pI (pI (pI (pI (pI (pI (pI (pQ (pQ (pW (pQ (pW (pQ (pW (pQ (pW (pW (pQ (pW (pQ (pW (pW S q_7 3 0) q_1_11 6 4) q_7 4 (some q_1_11)) q_3_11 21 5) q_7 5 (some q_3_11)) q_8_11 4 0) q_1_14_11 10 4) q_8_11 0 (some q_1_14_11)) q_3_14_11 11 4) q_8_11 1 (some q_3_14_11)) q_8_14_11 12 4) q_8_11 2 (some q_8_14_11)) q_16_14_11 20 4) q_8_11 3 (some q_16_14_11)) q_7 6 (some q_8_11)) q_7 10 1000) q_7 13 (-1)) q_7 16 (-1)) q_7 0 (gI S x 2)) q_7 1 p0) q_7 2 p1) q_7 3 p2) q_1_11 ((0 : Int32).toNatClampNeg) 1000) ar ((gI S x 2).toNatClampNeg) (some q_7)) x 2 ((gI S x 2) + 1)) : INVC (n + 1) na hh cc X x ar ak := by
  obtain ⟨q_7, q_1_11, q_3_11, q_8_11, q_1_14_11, q_3_14_11, q_8_14_11, q_16_14_11, fq_7, fq_1_11, fq_3_11, fq_8_11, fq_1_14_11, fq_3_14_11, fq_8_14_11, fq_16_14_11, rfl⟩ := hp
  have hE0 : ExtI S S := ExtI.rf
  generalize eT1 : pW S q_7 3 0 = T1 at fq_1_11 fq_3_11 fq_8_11 fq_1_14_11 fq_3_14_11 fq_8_14_11 fq_16_14_11 ⊢
  have nq_7 : q_7 ∉ gL S := hE0.nm fq_7
  have hE1 : ExtI S T1 := by rw [← eT1]; exact hE0.new fq_7
  have o2 : isO T1 q_7 3 := by rw [← eT1]; exact isO_q
  have g3 : gQ T1 q_7 7 = none := by rw [← eT1]; exact gQ_q
  have g4 : gI T1 q_7 8 = 0 := by rw [← eT1]; exact gI_q
  have g5 : gI T1 q_7 9 = 0 := by rw [← eT1]; exact gI_q
  generalize eT2 : pW T1 q_1_11 6 4 = T2 at fq_3_11 fq_8_11 fq_1_14_11 fq_3_14_11 fq_8_14_11 fq_16_14_11 ⊢
  have nq_1_11 : q_1_11 ∉ gL S := hE1.nm fq_1_11
  have hE6 : ExtI S T2 := by rw [← eT2]; exact hE1.new fq_1_11
  have o7 : isO T2 q_7 3 := by rw [← eT2]; exact isO_new o2 fq_1_11
  have g8 : gQ T2 q_7 7 = none := by rw [← eT2]; exact (gQ_new o2.1 fq_1_11).trans g3
  have g9 : gI T2 q_7 8 = 0 := by rw [← eT2]; exact (gI_new o2.1 fq_1_11).trans g4
  have g10 : gI T2 q_7 9 = 0 := by rw [← eT2]; exact (gI_new o2.1 fq_1_11).trans g5
  have a11 : isA T2 q_1_11 6 4 := by rw [← eT2]; exact isA_q
  generalize eT3 : pQ T2 q_7 4 (some q_1_11) = T3 at fq_3_11 fq_8_11 fq_1_14_11 fq_3_14_11 fq_8_14_11 fq_16_14_11 ⊢
  have hE12 : ExtI S T3 := by rw [← eT3]; exact hE6.pQ nq_7
  have o13 : isO T3 q_7 3 := by rw [← eT3]; exact o7
  have a14 : isA T3 q_1_11 6 4 := by rw [← eT3]; exact a11
  have g15 : gQ T3 q_7 7 = none := by rw [← eT3]; exact (u2_k (by decide)).trans g8
  have g16 : gI T3 q_7 8 = 0 := by rw [← eT3]; exact g9
  have g17 : gI T3 q_7 9 = 0 := by rw [← eT3]; exact g10
  have g18 : gQ T3 q_7 4 = (some q_1_11) := by rw [← eT3]; exact u2_s
  generalize eT4 : pW T3 q_3_11 21 5 = T4 at fq_8_11 fq_1_14_11 fq_3_14_11 fq_8_14_11 fq_16_14_11 ⊢
  have nq_3_11 : q_3_11 ∉ gL S := hE12.nm fq_3_11
  have hE19 : ExtI S T4 := by rw [← eT4]; exact hE12.new fq_3_11
  have o20 : isO T4 q_7 3 := by rw [← eT4]; exact isO_new o13 fq_3_11
  have g21 : gQ T4 q_7 7 = none := by rw [← eT4]; exact (gQ_new o13.1 fq_3_11).trans g15
  have g22 : gQ T4 q_7 4 = (some q_1_11) := by rw [← eT4]; exact (gQ_new o13.1 fq_3_11).trans g18
  have g23 : gI T4 q_7 8 = 0 := by rw [← eT4]; exact (gI_new o13.1 fq_3_11).trans g16
  have g24 : gI T4 q_7 9 = 0 := by rw [← eT4]; exact (gI_new o13.1 fq_3_11).trans g17
  have a25 : isA T4 q_1_11 6 4 := by rw [← eT4]; exact isA_new a14 fq_3_11
  have a26 : isA T4 q_3_11 21 5 := by rw [← eT4]; exact isA_q
  have p27 : ∀ k, gP T4 q_3_11 k = none := fun k => by rw [← eT4]; exact gP_q
  generalize eT5 : pQ T4 q_7 5 (some q_3_11) = T5 at fq_8_11 fq_1_14_11 fq_3_14_11 fq_8_14_11 fq_16_14_11 ⊢
  have hE28 : ExtI S T5 := by rw [← eT5]; exact hE19.pQ nq_7
  have o29 : isO T5 q_7 3 := by rw [← eT5]; exact o20
  have a30 : isA T5 q_1_11 6 4 := by rw [← eT5]; exact a25
  have a31 : isA T5 q_3_11 21 5 := by rw [← eT5]; exact a26
  have p32 : ∀ k, gP T5 q_3_11 k = none := fun k => by rw [← eT5]; exact p27 k
  have g33 : gQ T5 q_7 7 = none := by rw [← eT5]; exact (u2_k (by decide)).trans g21
  have g34 : gQ T5 q_7 4 = (some q_1_11) := by rw [← eT5]; exact (u2_k (by decide)).trans g22
  have g35 : gI T5 q_7 8 = 0 := by rw [← eT5]; exact g23
  have g36 : gI T5 q_7 9 = 0 := by rw [← eT5]; exact g24
  have g37 : gQ T5 q_7 5 = (some q_3_11) := by rw [← eT5]; exact u2_s
  generalize eT6 : pW T5 q_8_11 4 0 = T6 at fq_1_14_11 fq_3_14_11 fq_8_14_11 fq_16_14_11 ⊢
  have nq_8_11 : q_8_11 ∉ gL S := hE28.nm fq_8_11
  have hE38 : ExtI S T6 := by rw [← eT6]; exact hE28.new fq_8_11
  have o39 : isO T6 q_7 3 := by rw [← eT6]; exact isO_new o29 fq_8_11
  have g40 : gQ T6 q_7 7 = none := by rw [← eT6]; exact (gQ_new o29.1 fq_8_11).trans g33
  have g41 : gQ T6 q_7 4 = (some q_1_11) := by rw [← eT6]; exact (gQ_new o29.1 fq_8_11).trans g34
  have g42 : gQ T6 q_7 5 = (some q_3_11) := by rw [← eT6]; exact (gQ_new o29.1 fq_8_11).trans g37
  have g43 : gI T6 q_7 8 = 0 := by rw [← eT6]; exact (gI_new o29.1 fq_8_11).trans g35
  have g44 : gI T6 q_7 9 = 0 := by rw [← eT6]; exact (gI_new o29.1 fq_8_11).trans g36
  have a45 : isA T6 q_1_11 6 4 := by rw [← eT6]; exact isA_new a30 fq_8_11
  have a46 : isA T6 q_3_11 21 5 := by rw [← eT6]; exact isA_new a31 fq_8_11
  have p47 : ∀ k, gP T6 q_3_11 k = none := fun k => by rw [← eT6]; exact (gP_new a31.1 fq_8_11).trans (p32 k)
  have o48 : isO T6 q_8_11 4 := by rw [← eT6]; exact isO_q
  generalize eT7 : pW T6 q_1_14_11 10 4 = T7 at fq_3_14_11 fq_8_14_11 fq_16_14_11 ⊢
  have nq_1_14_11 : q_1_14_11 ∉ gL S := hE38.nm fq_1_14_11
  have hE49 : ExtI S T7 := by rw [← eT7]; exact hE38.new fq_1_14_11
  have o50 : isO T7 q_7 3 := by rw [← eT7]; exact isO_new o39 fq_1_14_11
  have g51 : gQ T7 q_7 7 = none := by rw [← eT7]; exact (gQ_new o39.1 fq_1_14_11).trans g40
  have g52 : gQ T7 q_7 4 = (some q_1_11) := by rw [← eT7]; exact (gQ_new o39.1 fq_1_14_11).trans g41
  have g53 : gQ T7 q_7 5 = (some q_3_11) := by rw [← eT7]; exact (gQ_new o39.1 fq_1_14_11).trans g42
  have g54 : gI T7 q_7 8 = 0 := by rw [← eT7]; exact (gI_new o39.1 fq_1_14_11).trans g43
  have g55 : gI T7 q_7 9 = 0 := by rw [← eT7]; exact (gI_new o39.1 fq_1_14_11).trans g44
  have o56 : isO T7 q_8_11 4 := by rw [← eT7]; exact isO_new o48 fq_1_14_11
  have a57 : isA T7 q_1_11 6 4 := by rw [← eT7]; exact isA_new a45 fq_1_14_11
  have a58 : isA T7 q_3_11 21 5 := by rw [← eT7]; exact isA_new a46 fq_1_14_11
  have p59 : ∀ k, gP T7 q_3_11 k = none := fun k => by rw [← eT7]; exact (gP_new a46.1 fq_1_14_11).trans (p47 k)
  have a60 : isA T7 q_1_14_11 10 4 := by rw [← eT7]; exact isA_q
  generalize eT8 : pQ T7 q_8_11 0 (some q_1_14_11) = T8 at fq_3_14_11 fq_8_14_11 fq_16_14_11 ⊢
  have hE61 : ExtI S T8 := by rw [← eT8]; exact hE49.pQ nq_8_11
  have o62 : isO T8 q_7 3 := by rw [← eT8]; exact o50
  have o63 : isO T8 q_8_11 4 := by rw [← eT8]; exact o56
  have a64 : isA T8 q_1_11 6 4 := by rw [← eT8]; exact a57
  have a65 : isA T8 q_3_11 21 5 := by rw [← eT8]; exact a58
  have a66 : isA T8 q_1_14_11 10 4 := by rw [← eT8]; exact a60
  have p67 : ∀ k, gP T8 q_3_11 k = none := fun k => by rw [← eT8]; exact p59 k
  have g68 : gQ T8 q_7 7 = none := by rw [← eT8]; exact (u2_a (ne_of_kind o62.2 o63.2 (by decide))).trans g51
  have g69 : gQ T8 q_7 4 = (some q_1_11) := by rw [← eT8]; exact (u2_a (ne_of_kind o62.2 o63.2 (by decide))).trans g52
  have g70 : gQ T8 q_7 5 = (some q_3_11) := by rw [← eT8]; exact (u2_a (ne_of_kind o62.2 o63.2 (by decide))).trans g53
  have g71 : gI T8 q_7 8 = 0 := by rw [← eT8]; exact g54
  have g72 : gI T8 q_7 9 = 0 := by rw [← eT8]; exact g55
  have g73 : gQ T8 q_8_11 0 = (some q_1_14_11) := by rw [← eT8]; exact u2_s
  generalize eT9 : pW T8 q_3_14_11 11 4 = T9 at fq_8_14_11 fq_16_14_11 ⊢
  have nq_3_14_11 : q_3_14_11 ∉ gL S := hE61.nm fq_3_14_11
  have hE74 : ExtI S T9 := by rw [← eT9]; exact hE61.new fq_3_14_11
  have o75 : isO T9 q_7 3 := by rw [← eT9]; exact isO_new o62 fq_3_14_11
  have g76 : gQ T9 q_7 7 = none := by rw [← eT9]; exact (gQ_new o62.1 fq_3_14_11).trans g68
  have g77 : gQ T9 q_7 4 = (some q_1_11) := by rw [← eT9]; exact (gQ_new o62.1 fq_3_14_11).trans g69
  have g78 : gQ T9 q_7 5 = (some q_3_11) := by rw [← eT9]; exact (gQ_new o62.1 fq_3_14_11).trans g70
  have g79 : gI T9 q_7 8 = 0 := by rw [← eT9]; exact (gI_new o62.1 fq_3_14_11).trans g71
  have g80 : gI T9 q_7 9 = 0 := by rw [← eT9]; exact (gI_new o62.1 fq_3_14_11).trans g72
  have o81 : isO T9 q_8_11 4 := by rw [← eT9]; exact isO_new o63 fq_3_14_11
  have g82 : gQ T9 q_8_11 0 = (some q_1_14_11) := by rw [← eT9]; exact (gQ_new o63.1 fq_3_14_11).trans g73
  have a83 : isA T9 q_1_11 6 4 := by rw [← eT9]; exact isA_new a64 fq_3_14_11
  have a84 : isA T9 q_3_11 21 5 := by rw [← eT9]; exact isA_new a65 fq_3_14_11
  have p85 : ∀ k, gP T9 q_3_11 k = none := fun k => by rw [← eT9]; exact (gP_new a65.1 fq_3_14_11).trans (p67 k)
  have a86 : isA T9 q_1_14_11 10 4 := by rw [← eT9]; exact isA_new a66 fq_3_14_11
  have a87 : isA T9 q_3_14_11 11 4 := by rw [← eT9]; exact isA_q
  generalize eT10 : pQ T9 q_8_11 1 (some q_3_14_11) = T10 at fq_8_14_11 fq_16_14_11 ⊢
  have hE88 : ExtI S T10 := by rw [← eT10]; exact hE74.pQ nq_8_11
  have o89 : isO T10 q_7 3 := by rw [← eT10]; exact o75
  have o90 : isO T10 q_8_11 4 := by rw [← eT10]; exact o81
  have a91 : isA T10 q_1_11 6 4 := by rw [← eT10]; exact a83
  have a92 : isA T10 q_3_11 21 5 := by rw [← eT10]; exact a84
  have a93 : isA T10 q_1_14_11 10 4 := by rw [← eT10]; exact a86
  have a94 : isA T10 q_3_14_11 11 4 := by rw [← eT10]; exact a87
  have p95 : ∀ k, gP T10 q_3_11 k = none := fun k => by rw [← eT10]; exact p85 k
  have g96 : gQ T10 q_7 7 = none := by rw [← eT10]; exact (u2_a (ne_of_kind o89.2 o90.2 (by decide))).trans g76
  have g97 : gQ T10 q_7 4 = (some q_1_11) := by rw [← eT10]; exact (u2_a (ne_of_kind o89.2 o90.2 (by decide))).trans g77
  have g98 : gQ T10 q_7 5 = (some q_3_11) := by rw [← eT10]; exact (u2_a (ne_of_kind o89.2 o90.2 (by decide))).trans g78
  have g99 : gQ T10 q_8_11 0 = (some q_1_14_11) := by rw [← eT10]; exact (u2_k (by decide)).trans g82
  have g100 : gI T10 q_7 8 = 0 := by rw [← eT10]; exact g79
  have g101 : gI T10 q_7 9 = 0 := by rw [← eT10]; exact g80
  have g102 : gQ T10 q_8_11 1 = (some q_3_14_11) := by rw [← eT10]; exact u2_s
  generalize eT11 : pW T10 q_8_14_11 12 4 = T11 at fq_16_14_11 ⊢
  have nq_8_14_11 : q_8_14_11 ∉ gL S := hE88.nm fq_8_14_11
  have hE103 : ExtI S T11 := by rw [← eT11]; exact hE88.new fq_8_14_11
  have o104 : isO T11 q_7 3 := by rw [← eT11]; exact isO_new o89 fq_8_14_11
  have g105 : gQ T11 q_7 7 = none := by rw [← eT11]; exact (gQ_new o89.1 fq_8_14_11).trans g96
  have g106 : gQ T11 q_7 4 = (some q_1_11) := by rw [← eT11]; exact (gQ_new o89.1 fq_8_14_11).trans g97
  have g107 : gQ T11 q_7 5 = (some q_3_11) := by rw [← eT11]; exact (gQ_new o89.1 fq_8_14_11).trans g98
  have g108 : gI T11 q_7 8 = 0 := by rw [← eT11]; exact (gI_new o89.1 fq_8_14_11).trans g100
  have g109 : gI T11 q_7 9 = 0 := by rw [← eT11]; exact (gI_new o89.1 fq_8_14_11).trans g101
  have o110 : isO T11 q_8_11 4 := by rw [← eT11]; exact isO_new o90 fq_8_14_11
  have g111 : gQ T11 q_8_11 0 = (some q_1_14_11) := by rw [← eT11]; exact (gQ_new o90.1 fq_8_14_11).trans g99
  have g112 : gQ T11 q_8_11 1 = (some q_3_14_11) := by rw [← eT11]; exact (gQ_new o90.1 fq_8_14_11).trans g102
  have a113 : isA T11 q_1_11 6 4 := by rw [← eT11]; exact isA_new a91 fq_8_14_11
  have a114 : isA T11 q_3_11 21 5 := by rw [← eT11]; exact isA_new a92 fq_8_14_11
  have p115 : ∀ k, gP T11 q_3_11 k = none := fun k => by rw [← eT11]; exact (gP_new a92.1 fq_8_14_11).trans (p95 k)
  have a116 : isA T11 q_1_14_11 10 4 := by rw [← eT11]; exact isA_new a93 fq_8_14_11
  have a117 : isA T11 q_3_14_11 11 4 := by rw [← eT11]; exact isA_new a94 fq_8_14_11
  have a118 : isA T11 q_8_14_11 12 4 := by rw [← eT11]; exact isA_q
  generalize eT12 : pQ T11 q_8_11 2 (some q_8_14_11) = T12 at fq_16_14_11 ⊢
  have hE119 : ExtI S T12 := by rw [← eT12]; exact hE103.pQ nq_8_11
  have o120 : isO T12 q_7 3 := by rw [← eT12]; exact o104
  have o121 : isO T12 q_8_11 4 := by rw [← eT12]; exact o110
  have a122 : isA T12 q_1_11 6 4 := by rw [← eT12]; exact a113
  have a123 : isA T12 q_3_11 21 5 := by rw [← eT12]; exact a114
  have a124 : isA T12 q_1_14_11 10 4 := by rw [← eT12]; exact a116
  have a125 : isA T12 q_3_14_11 11 4 := by rw [← eT12]; exact a117
  have a126 : isA T12 q_8_14_11 12 4 := by rw [← eT12]; exact a118
  have p127 : ∀ k, gP T12 q_3_11 k = none := fun k => by rw [← eT12]; exact p115 k
  have g128 : gQ T12 q_7 7 = none := by rw [← eT12]; exact (u2_a (ne_of_kind o120.2 o121.2 (by decide))).trans g105
  have g129 : gQ T12 q_7 4 = (some q_1_11) := by rw [← eT12]; exact (u2_a (ne_of_kind o120.2 o121.2 (by decide))).trans g106
  have g130 : gQ T12 q_7 5 = (some q_3_11) := by rw [← eT12]; exact (u2_a (ne_of_kind o120.2 o121.2 (by decide))).trans g107
  have g131 : gQ T12 q_8_11 0 = (some q_1_14_11) := by rw [← eT12]; exact (u2_k (by decide)).trans g111
  have g132 : gQ T12 q_8_11 1 = (some q_3_14_11) := by rw [← eT12]; exact (u2_k (by decide)).trans g112
  have g133 : gI T12 q_7 8 = 0 := by rw [← eT12]; exact g108
  have g134 : gI T12 q_7 9 = 0 := by rw [← eT12]; exact g109
  have g135 : gQ T12 q_8_11 2 = (some q_8_14_11) := by rw [← eT12]; exact u2_s
  generalize eT13 : pW T12 q_16_14_11 20 4 = T13 at  ⊢
  have nq_16_14_11 : q_16_14_11 ∉ gL S := hE119.nm fq_16_14_11
  have hE136 : ExtI S T13 := by rw [← eT13]; exact hE119.new fq_16_14_11
  have o137 : isO T13 q_7 3 := by rw [← eT13]; exact isO_new o120 fq_16_14_11
  have g138 : gQ T13 q_7 7 = none := by rw [← eT13]; exact (gQ_new o120.1 fq_16_14_11).trans g128
  have g139 : gQ T13 q_7 4 = (some q_1_11) := by rw [← eT13]; exact (gQ_new o120.1 fq_16_14_11).trans g129
  have g140 : gQ T13 q_7 5 = (some q_3_11) := by rw [← eT13]; exact (gQ_new o120.1 fq_16_14_11).trans g130
  have g141 : gI T13 q_7 8 = 0 := by rw [← eT13]; exact (gI_new o120.1 fq_16_14_11).trans g133
  have g142 : gI T13 q_7 9 = 0 := by rw [← eT13]; exact (gI_new o120.1 fq_16_14_11).trans g134
  have o143 : isO T13 q_8_11 4 := by rw [← eT13]; exact isO_new o121 fq_16_14_11
  have g144 : gQ T13 q_8_11 0 = (some q_1_14_11) := by rw [← eT13]; exact (gQ_new o121.1 fq_16_14_11).trans g131
  have g145 : gQ T13 q_8_11 1 = (some q_3_14_11) := by rw [← eT13]; exact (gQ_new o121.1 fq_16_14_11).trans g132
  have g146 : gQ T13 q_8_11 2 = (some q_8_14_11) := by rw [← eT13]; exact (gQ_new o121.1 fq_16_14_11).trans g135
  have a147 : isA T13 q_1_11 6 4 := by rw [← eT13]; exact isA_new a122 fq_16_14_11
  have a148 : isA T13 q_3_11 21 5 := by rw [← eT13]; exact isA_new a123 fq_16_14_11
  have p149 : ∀ k, gP T13 q_3_11 k = none := fun k => by rw [← eT13]; exact (gP_new a123.1 fq_16_14_11).trans (p127 k)
  have a150 : isA T13 q_1_14_11 10 4 := by rw [← eT13]; exact isA_new a124 fq_16_14_11
  have a151 : isA T13 q_3_14_11 11 4 := by rw [← eT13]; exact isA_new a125 fq_16_14_11
  have a152 : isA T13 q_8_14_11 12 4 := by rw [← eT13]; exact isA_new a126 fq_16_14_11
  have a153 : isA T13 q_16_14_11 20 4 := by rw [← eT13]; exact isA_q
  generalize eT14 : pQ T13 q_8_11 3 (some q_16_14_11) = T14 at  ⊢
  have hE154 : ExtI S T14 := by rw [← eT14]; exact hE136.pQ nq_8_11
  have o155 : isO T14 q_7 3 := by rw [← eT14]; exact o137
  have o156 : isO T14 q_8_11 4 := by rw [← eT14]; exact o143
  have a157 : isA T14 q_1_11 6 4 := by rw [← eT14]; exact a147
  have a158 : isA T14 q_3_11 21 5 := by rw [← eT14]; exact a148
  have a159 : isA T14 q_1_14_11 10 4 := by rw [← eT14]; exact a150
  have a160 : isA T14 q_3_14_11 11 4 := by rw [← eT14]; exact a151
  have a161 : isA T14 q_8_14_11 12 4 := by rw [← eT14]; exact a152
  have a162 : isA T14 q_16_14_11 20 4 := by rw [← eT14]; exact a153
  have p163 : ∀ k, gP T14 q_3_11 k = none := fun k => by rw [← eT14]; exact p149 k
  have g164 : gQ T14 q_7 7 = none := by rw [← eT14]; exact (u2_a (ne_of_kind o155.2 o156.2 (by decide))).trans g138
  have g165 : gQ T14 q_7 4 = (some q_1_11) := by rw [← eT14]; exact (u2_a (ne_of_kind o155.2 o156.2 (by decide))).trans g139
  have g166 : gQ T14 q_7 5 = (some q_3_11) := by rw [← eT14]; exact (u2_a (ne_of_kind o155.2 o156.2 (by decide))).trans g140
  have g167 : gQ T14 q_8_11 0 = (some q_1_14_11) := by rw [← eT14]; exact (u2_k (by decide)).trans g144
  have g168 : gQ T14 q_8_11 1 = (some q_3_14_11) := by rw [← eT14]; exact (u2_k (by decide)).trans g145
  have g169 : gQ T14 q_8_11 2 = (some q_8_14_11) := by rw [← eT14]; exact (u2_k (by decide)).trans g146
  have g170 : gI T14 q_7 8 = 0 := by rw [← eT14]; exact g141
  have g171 : gI T14 q_7 9 = 0 := by rw [← eT14]; exact g142
  have g172 : gQ T14 q_8_11 3 = (some q_16_14_11) := by rw [← eT14]; exact u2_s
  generalize eT15 : pQ T14 q_7 6 (some q_8_11) = T15 at  ⊢
  have hE173 : ExtI S T15 := by rw [← eT15]; exact hE154.pQ nq_7
  have o174 : isO T15 q_7 3 := by rw [← eT15]; exact o155
  have o175 : isO T15 q_8_11 4 := by rw [← eT15]; exact o156
  have a176 : isA T15 q_1_11 6 4 := by rw [← eT15]; exact a157
  have a177 : isA T15 q_3_11 21 5 := by rw [← eT15]; exact a158
  have a178 : isA T15 q_1_14_11 10 4 := by rw [← eT15]; exact a159
  have a179 : isA T15 q_3_14_11 11 4 := by rw [← eT15]; exact a160
  have a180 : isA T15 q_8_14_11 12 4 := by rw [← eT15]; exact a161
  have a181 : isA T15 q_16_14_11 20 4 := by rw [← eT15]; exact a162
  have p182 : ∀ k, gP T15 q_3_11 k = none := fun k => by rw [← eT15]; exact p163 k
  have g183 : gQ T15 q_7 7 = none := by rw [← eT15]; exact (u2_k (by decide)).trans g164
  have g184 : gQ T15 q_7 4 = (some q_1_11) := by rw [← eT15]; exact (u2_k (by decide)).trans g165
  have g185 : gQ T15 q_7 5 = (some q_3_11) := by rw [← eT15]; exact (u2_k (by decide)).trans g166
  have g186 : gQ T15 q_8_11 0 = (some q_1_14_11) := by rw [← eT15]; exact (u2_a (ne_of_kind o175.2 o174.2 (by decide))).trans g167
  have g187 : gQ T15 q_8_11 1 = (some q_3_14_11) := by rw [← eT15]; exact (u2_a (ne_of_kind o175.2 o174.2 (by decide))).trans g168
  have g188 : gQ T15 q_8_11 2 = (some q_8_14_11) := by rw [← eT15]; exact (u2_a (ne_of_kind o175.2 o174.2 (by decide))).trans g169
  have g189 : gQ T15 q_8_11 3 = (some q_16_14_11) := by rw [← eT15]; exact (u2_a (ne_of_kind o175.2 o174.2 (by decide))).trans g172
  have g190 : gI T15 q_7 8 = 0 := by rw [← eT15]; exact g170
  have g191 : gI T15 q_7 9 = 0 := by rw [← eT15]; exact g171
  have g192 : gQ T15 q_7 6 = (some q_8_11) := by rw [← eT15]; exact u2_s
  generalize eT16 : pI T15 q_7 10 1000 = T16 at  ⊢
  have hE193 : ExtI S T16 := by rw [← eT16]; exact hE173.pI nq_7
  have o194 : isO T16 q_7 3 := by rw [← eT16]; exact o174
  have o195 : isO T16 q_8_11 4 := by rw [← eT16]; exact o175
  have a196 : isA T16 q_1_11 6 4 := by rw [← eT16]; exact a176
  have a197 : isA T16 q_3_11 21 5 := by rw [← eT16]; exact a177
  have a198 : isA T16 q_1_14_11 10 4 := by rw [← eT16]; exact a178
  have a199 : isA T16 q_3_14_11 11 4 := by rw [← eT16]; exact a179
  have a200 : isA T16 q_8_14_11 12 4 := by rw [← eT16]; exact a180
  have a201 : isA T16 q_16_14_11 20 4 := by rw [← eT16]; exact a181
  have p202 : ∀ k, gP T16 q_3_11 k = none := fun k => by rw [← eT16]; exact p182 k
  have g203 : gQ T16 q_7 7 = none := by rw [← eT16]; exact g183
  have g204 : gQ T16 q_7 4 = (some q_1_11) := by rw [← eT16]; exact g184
  have g205 : gQ T16 q_7 5 = (some q_3_11) := by rw [← eT16]; exact g185
  have g206 : gQ T16 q_8_11 0 = (some q_1_14_11) := by rw [← eT16]; exact g186
  have g207 : gQ T16 q_8_11 1 = (some q_3_14_11) := by rw [← eT16]; exact g187
  have g208 : gQ T16 q_8_11 2 = (some q_8_14_11) := by rw [← eT16]; exact g188
  have g209 : gQ T16 q_8_11 3 = (some q_16_14_11) := by rw [← eT16]; exact g189
  have g210 : gQ T16 q_7 6 = (some q_8_11) := by rw [← eT16]; exact g192
  have g211 : gI T16 q_7 8 = 0 := by rw [← eT16]; exact (u2_k (by decide)).trans g190
  have g212 : gI T16 q_7 9 = 0 := by rw [← eT16]; exact (u2_k (by decide)).trans g191
  have g213 : gI T16 q_7 10 = 1000 := by rw [← eT16]; exact u2_s
  generalize eT17 : pI T16 q_7 13 (-1) = T17 at  ⊢
  have hE214 : ExtI S T17 := by rw [← eT17]; exact hE193.pI nq_7
  have o215 : isO T17 q_7 3 := by rw [← eT17]; exact o194
  have o216 : isO T17 q_8_11 4 := by rw [← eT17]; exact o195
  have a217 : isA T17 q_1_11 6 4 := by rw [← eT17]; exact a196
  have a218 : isA T17 q_3_11 21 5 := by rw [← eT17]; exact a197
  have a219 : isA T17 q_1_14_11 10 4 := by rw [← eT17]; exact a198
  have a220 : isA T17 q_3_14_11 11 4 := by rw [← eT17]; exact a199
  have a221 : isA T17 q_8_14_11 12 4 := by rw [← eT17]; exact a200
  have a222 : isA T17 q_16_14_11 20 4 := by rw [← eT17]; exact a201
  have p223 : ∀ k, gP T17 q_3_11 k = none := fun k => by rw [← eT17]; exact p202 k
  have g224 : gQ T17 q_7 7 = none := by rw [← eT17]; exact g203
  have g225 : gQ T17 q_7 4 = (some q_1_11) := by rw [← eT17]; exact g204
  have g226 : gQ T17 q_7 5 = (some q_3_11) := by rw [← eT17]; exact g205
  have g227 : gQ T17 q_8_11 0 = (some q_1_14_11) := by rw [← eT17]; exact g206
  have g228 : gQ T17 q_8_11 1 = (some q_3_14_11) := by rw [← eT17]; exact g207
  have g229 : gQ T17 q_8_11 2 = (some q_8_14_11) := by rw [← eT17]; exact g208
  have g230 : gQ T17 q_8_11 3 = (some q_16_14_11) := by rw [← eT17]; exact g209
  have g231 : gQ T17 q_7 6 = (some q_8_11) := by rw [← eT17]; exact g210
  have g232 : gI T17 q_7 8 = 0 := by rw [← eT17]; exact (u2_k (by decide)).trans g211
  have g233 : gI T17 q_7 9 = 0 := by rw [← eT17]; exact (u2_k (by decide)).trans g212
  have g234 : gI T17 q_7 10 = 1000 := by rw [← eT17]; exact (u2_k (by decide)).trans g213
  have g235 : gI T17 q_7 13 = -1 := by rw [← eT17]; exact u2_s
  generalize eT18 : pI T17 q_7 16 (-1) = T18 at  ⊢
  have hE236 : ExtI S T18 := by rw [← eT18]; exact hE214.pI nq_7
  have o237 : isO T18 q_7 3 := by rw [← eT18]; exact o215
  have o238 : isO T18 q_8_11 4 := by rw [← eT18]; exact o216
  have a239 : isA T18 q_1_11 6 4 := by rw [← eT18]; exact a217
  have a240 : isA T18 q_3_11 21 5 := by rw [← eT18]; exact a218
  have a241 : isA T18 q_1_14_11 10 4 := by rw [← eT18]; exact a219
  have a242 : isA T18 q_3_14_11 11 4 := by rw [← eT18]; exact a220
  have a243 : isA T18 q_8_14_11 12 4 := by rw [← eT18]; exact a221
  have a244 : isA T18 q_16_14_11 20 4 := by rw [← eT18]; exact a222
  have p245 : ∀ k, gP T18 q_3_11 k = none := fun k => by rw [← eT18]; exact p223 k
  have g246 : gQ T18 q_7 7 = none := by rw [← eT18]; exact g224
  have g247 : gQ T18 q_7 4 = (some q_1_11) := by rw [← eT18]; exact g225
  have g248 : gQ T18 q_7 5 = (some q_3_11) := by rw [← eT18]; exact g226
  have g249 : gQ T18 q_8_11 0 = (some q_1_14_11) := by rw [← eT18]; exact g227
  have g250 : gQ T18 q_8_11 1 = (some q_3_14_11) := by rw [← eT18]; exact g228
  have g251 : gQ T18 q_8_11 2 = (some q_8_14_11) := by rw [← eT18]; exact g229
  have g252 : gQ T18 q_8_11 3 = (some q_16_14_11) := by rw [← eT18]; exact g230
  have g253 : gQ T18 q_7 6 = (some q_8_11) := by rw [← eT18]; exact g231
  have g254 : gI T18 q_7 8 = 0 := by rw [← eT18]; exact (u2_k (by decide)).trans g232
  have g255 : gI T18 q_7 9 = 0 := by rw [← eT18]; exact (u2_k (by decide)).trans g233
  have g256 : gI T18 q_7 10 = 1000 := by rw [← eT18]; exact (u2_k (by decide)).trans g234
  have g257 : gI T18 q_7 13 = -1 := by rw [← eT18]; exact (u2_k (by decide)).trans g235
  have g258 : gI T18 q_7 16 = -1 := by rw [← eT18]; exact u2_s
  generalize eT19 : pI T18 q_7 0 (gI S x 2) = T19 at  ⊢
  have hE259 : ExtI S T19 := by rw [← eT19]; exact hE236.pI nq_7
  have o260 : isO T19 q_7 3 := by rw [← eT19]; exact o237
  have o261 : isO T19 q_8_11 4 := by rw [← eT19]; exact o238
  have a262 : isA T19 q_1_11 6 4 := by rw [← eT19]; exact a239
  have a263 : isA T19 q_3_11 21 5 := by rw [← eT19]; exact a240
  have a264 : isA T19 q_1_14_11 10 4 := by rw [← eT19]; exact a241
  have a265 : isA T19 q_3_14_11 11 4 := by rw [← eT19]; exact a242
  have a266 : isA T19 q_8_14_11 12 4 := by rw [← eT19]; exact a243
  have a267 : isA T19 q_16_14_11 20 4 := by rw [← eT19]; exact a244
  have p268 : ∀ k, gP T19 q_3_11 k = none := fun k => by rw [← eT19]; exact p245 k
  have g269 : gQ T19 q_7 7 = none := by rw [← eT19]; exact g246
  have g270 : gQ T19 q_7 4 = (some q_1_11) := by rw [← eT19]; exact g247
  have g271 : gQ T19 q_7 5 = (some q_3_11) := by rw [← eT19]; exact g248
  have g272 : gQ T19 q_8_11 0 = (some q_1_14_11) := by rw [← eT19]; exact g249
  have g273 : gQ T19 q_8_11 1 = (some q_3_14_11) := by rw [← eT19]; exact g250
  have g274 : gQ T19 q_8_11 2 = (some q_8_14_11) := by rw [← eT19]; exact g251
  have g275 : gQ T19 q_8_11 3 = (some q_16_14_11) := by rw [← eT19]; exact g252
  have g276 : gQ T19 q_7 6 = (some q_8_11) := by rw [← eT19]; exact g253
  have g277 : gI T19 q_7 8 = 0 := by rw [← eT19]; exact (u2_k (by decide)).trans g254
  have g278 : gI T19 q_7 9 = 0 := by rw [← eT19]; exact (u2_k (by decide)).trans g255
  have g279 : gI T19 q_7 10 = 1000 := by rw [← eT19]; exact (u2_k (by decide)).trans g256
  have g280 : gI T19 q_7 13 = -1 := by rw [← eT19]; exact (u2_k (by decide)).trans g257
  have g281 : gI T19 q_7 16 = -1 := by rw [← eT19]; exact (u2_k (by decide)).trans g258
  have g282 : gI T19 q_7 0 = (gI S x 2) := by rw [← eT19]; exact u2_s
  generalize eT20 : pI T19 q_7 1 p0 = T20 at  ⊢
  have hE283 : ExtI S T20 := by rw [← eT20]; exact hE259.pI nq_7
  have o284 : isO T20 q_7 3 := by rw [← eT20]; exact o260
  have o285 : isO T20 q_8_11 4 := by rw [← eT20]; exact o261
  have a286 : isA T20 q_1_11 6 4 := by rw [← eT20]; exact a262
  have a287 : isA T20 q_3_11 21 5 := by rw [← eT20]; exact a263
  have a288 : isA T20 q_1_14_11 10 4 := by rw [← eT20]; exact a264
  have a289 : isA T20 q_3_14_11 11 4 := by rw [← eT20]; exact a265
  have a290 : isA T20 q_8_14_11 12 4 := by rw [← eT20]; exact a266
  have a291 : isA T20 q_16_14_11 20 4 := by rw [← eT20]; exact a267
  have p292 : ∀ k, gP T20 q_3_11 k = none := fun k => by rw [← eT20]; exact p268 k
  have g293 : gQ T20 q_7 7 = none := by rw [← eT20]; exact g269
  have g294 : gQ T20 q_7 4 = (some q_1_11) := by rw [← eT20]; exact g270
  have g295 : gQ T20 q_7 5 = (some q_3_11) := by rw [← eT20]; exact g271
  have g296 : gQ T20 q_8_11 0 = (some q_1_14_11) := by rw [← eT20]; exact g272
  have g297 : gQ T20 q_8_11 1 = (some q_3_14_11) := by rw [← eT20]; exact g273
  have g298 : gQ T20 q_8_11 2 = (some q_8_14_11) := by rw [← eT20]; exact g274
  have g299 : gQ T20 q_8_11 3 = (some q_16_14_11) := by rw [← eT20]; exact g275
  have g300 : gQ T20 q_7 6 = (some q_8_11) := by rw [← eT20]; exact g276
  have g301 : gI T20 q_7 8 = 0 := by rw [← eT20]; exact (u2_k (by decide)).trans g277
  have g302 : gI T20 q_7 9 = 0 := by rw [← eT20]; exact (u2_k (by decide)).trans g278
  have g303 : gI T20 q_7 10 = 1000 := by rw [← eT20]; exact (u2_k (by decide)).trans g279
  have g304 : gI T20 q_7 13 = -1 := by rw [← eT20]; exact (u2_k (by decide)).trans g280
  have g305 : gI T20 q_7 16 = -1 := by rw [← eT20]; exact (u2_k (by decide)).trans g281
  have g306 : gI T20 q_7 0 = (gI S x 2) := by rw [← eT20]; exact (u2_k (by decide)).trans g282
  have g307 : gI T20 q_7 1 = p0 := by rw [← eT20]; exact u2_s
  generalize eT21 : pI T20 q_7 2 p1 = T21 at  ⊢
  have hE308 : ExtI S T21 := by rw [← eT21]; exact hE283.pI nq_7
  have o309 : isO T21 q_7 3 := by rw [← eT21]; exact o284
  have o310 : isO T21 q_8_11 4 := by rw [← eT21]; exact o285
  have a311 : isA T21 q_1_11 6 4 := by rw [← eT21]; exact a286
  have a312 : isA T21 q_3_11 21 5 := by rw [← eT21]; exact a287
  have a313 : isA T21 q_1_14_11 10 4 := by rw [← eT21]; exact a288
  have a314 : isA T21 q_3_14_11 11 4 := by rw [← eT21]; exact a289
  have a315 : isA T21 q_8_14_11 12 4 := by rw [← eT21]; exact a290
  have a316 : isA T21 q_16_14_11 20 4 := by rw [← eT21]; exact a291
  have p317 : ∀ k, gP T21 q_3_11 k = none := fun k => by rw [← eT21]; exact p292 k
  have g318 : gQ T21 q_7 7 = none := by rw [← eT21]; exact g293
  have g319 : gQ T21 q_7 4 = (some q_1_11) := by rw [← eT21]; exact g294
  have g320 : gQ T21 q_7 5 = (some q_3_11) := by rw [← eT21]; exact g295
  have g321 : gQ T21 q_8_11 0 = (some q_1_14_11) := by rw [← eT21]; exact g296
  have g322 : gQ T21 q_8_11 1 = (some q_3_14_11) := by rw [← eT21]; exact g297
  have g323 : gQ T21 q_8_11 2 = (some q_8_14_11) := by rw [← eT21]; exact g298
  have g324 : gQ T21 q_8_11 3 = (some q_16_14_11) := by rw [← eT21]; exact g299
  have g325 : gQ T21 q_7 6 = (some q_8_11) := by rw [← eT21]; exact g300
  have g326 : gI T21 q_7 8 = 0 := by rw [← eT21]; exact (u2_k (by decide)).trans g301
  have g327 : gI T21 q_7 9 = 0 := by rw [← eT21]; exact (u2_k (by decide)).trans g302
  have g328 : gI T21 q_7 10 = 1000 := by rw [← eT21]; exact (u2_k (by decide)).trans g303
  have g329 : gI T21 q_7 13 = -1 := by rw [← eT21]; exact (u2_k (by decide)).trans g304
  have g330 : gI T21 q_7 16 = -1 := by rw [← eT21]; exact (u2_k (by decide)).trans g305
  have g331 : gI T21 q_7 0 = (gI S x 2) := by rw [← eT21]; exact (u2_k (by decide)).trans g306
  have g332 : gI T21 q_7 1 = p0 := by rw [← eT21]; exact (u2_k (by decide)).trans g307
  have g333 : gI T21 q_7 2 = p1 := by rw [← eT21]; exact u2_s
  generalize eT22 : pI T21 q_7 3 p2 = T22 at  ⊢
  have hE334 : ExtI S T22 := by rw [← eT22]; exact hE308.pI nq_7
  have o335 : isO T22 q_7 3 := by rw [← eT22]; exact o309
  have o336 : isO T22 q_8_11 4 := by rw [← eT22]; exact o310
  have a337 : isA T22 q_1_11 6 4 := by rw [← eT22]; exact a311
  have a338 : isA T22 q_3_11 21 5 := by rw [← eT22]; exact a312
  have a339 : isA T22 q_1_14_11 10 4 := by rw [← eT22]; exact a313
  have a340 : isA T22 q_3_14_11 11 4 := by rw [← eT22]; exact a314
  have a341 : isA T22 q_8_14_11 12 4 := by rw [← eT22]; exact a315
  have a342 : isA T22 q_16_14_11 20 4 := by rw [← eT22]; exact a316
  have p343 : ∀ k, gP T22 q_3_11 k = none := fun k => by rw [← eT22]; exact p317 k
  have g344 : gQ T22 q_7 7 = none := by rw [← eT22]; exact g318
  have g345 : gQ T22 q_7 4 = (some q_1_11) := by rw [← eT22]; exact g319
  have g346 : gQ T22 q_7 5 = (some q_3_11) := by rw [← eT22]; exact g320
  have g347 : gQ T22 q_8_11 0 = (some q_1_14_11) := by rw [← eT22]; exact g321
  have g348 : gQ T22 q_8_11 1 = (some q_3_14_11) := by rw [← eT22]; exact g322
  have g349 : gQ T22 q_8_11 2 = (some q_8_14_11) := by rw [← eT22]; exact g323
  have g350 : gQ T22 q_8_11 3 = (some q_16_14_11) := by rw [← eT22]; exact g324
  have g351 : gQ T22 q_7 6 = (some q_8_11) := by rw [← eT22]; exact g325
  have g352 : gI T22 q_7 8 = 0 := by rw [← eT22]; exact (u2_k (by decide)).trans g326
  have g353 : gI T22 q_7 9 = 0 := by rw [← eT22]; exact (u2_k (by decide)).trans g327
  have g354 : gI T22 q_7 10 = 1000 := by rw [← eT22]; exact (u2_k (by decide)).trans g328
  have g355 : gI T22 q_7 13 = -1 := by rw [← eT22]; exact (u2_k (by decide)).trans g329
  have g356 : gI T22 q_7 16 = -1 := by rw [← eT22]; exact (u2_k (by decide)).trans g330
  have g357 : gI T22 q_7 0 = (gI S x 2) := by rw [← eT22]; exact (u2_k (by decide)).trans g331
  have g358 : gI T22 q_7 1 = p0 := by rw [← eT22]; exact (u2_k (by decide)).trans g332
  have g359 : gI T22 q_7 2 = p1 := by rw [← eT22]; exact (u2_k (by decide)).trans g333
  have g360 : gI T22 q_7 3 = p2 := by rw [← eT22]; exact u2_s
  generalize eT23 : pR T22 q_1_11 ((0 : Int32).toNatClampNeg) 1000 = T23 at  ⊢
  have hE361 : ExtI S T23 := by rw [← eT23]; exact hE334.pR
  have o362 : isO T23 q_7 3 := by rw [← eT23]; exact o335
  have o363 : isO T23 q_8_11 4 := by rw [← eT23]; exact o336
  have a364 : isA T23 q_1_11 6 4 := by rw [← eT23]; exact a337
  have a365 : isA T23 q_3_11 21 5 := by rw [← eT23]; exact a338
  have a366 : isA T23 q_1_14_11 10 4 := by rw [← eT23]; exact a339
  have a367 : isA T23 q_3_14_11 11 4 := by rw [← eT23]; exact a340
  have a368 : isA T23 q_8_14_11 12 4 := by rw [← eT23]; exact a341
  have a369 : isA T23 q_16_14_11 20 4 := by rw [← eT23]; exact a342
  have p370 : ∀ k, gP T23 q_3_11 k = none := fun k => by rw [← eT23]; exact p343 k
  have g371 : gQ T23 q_7 7 = none := by rw [← eT23]; exact g344
  have g372 : gQ T23 q_7 4 = (some q_1_11) := by rw [← eT23]; exact g345
  have g373 : gQ T23 q_7 5 = (some q_3_11) := by rw [← eT23]; exact g346
  have g374 : gQ T23 q_8_11 0 = (some q_1_14_11) := by rw [← eT23]; exact g347
  have g375 : gQ T23 q_8_11 1 = (some q_3_14_11) := by rw [← eT23]; exact g348
  have g376 : gQ T23 q_8_11 2 = (some q_8_14_11) := by rw [← eT23]; exact g349
  have g377 : gQ T23 q_8_11 3 = (some q_16_14_11) := by rw [← eT23]; exact g350
  have g378 : gQ T23 q_7 6 = (some q_8_11) := by rw [← eT23]; exact g351
  have g379 : gI T23 q_7 8 = 0 := by rw [← eT23]; exact g352
  have g380 : gI T23 q_7 9 = 0 := by rw [← eT23]; exact g353
  have g381 : gI T23 q_7 10 = 1000 := by rw [← eT23]; exact g354
  have g382 : gI T23 q_7 13 = -1 := by rw [← eT23]; exact g355
  have g383 : gI T23 q_7 16 = -1 := by rw [← eT23]; exact g356
  have g384 : gI T23 q_7 0 = (gI S x 2) := by rw [← eT23]; exact g357
  have g385 : gI T23 q_7 1 = p0 := by rw [← eT23]; exact g358
  have g386 : gI T23 q_7 2 = p1 := by rw [← eT23]; exact g359
  have g387 : gI T23 q_7 3 = p2 := by rw [← eT23]; exact g360
  have hs7 : okSw T23 q_7 := ⟨o362, ⟨q_1_11, g372, a364⟩, ⟨q_3_11, g373, a365, fun k hk u hu => by rw [p370 k] at hu; cases hu⟩, ⟨0, Nat.zero_le _, g371⟩, ⟨q_8_11, g378, o363, ⟨q_1_14_11, g374, a366⟩, ⟨q_3_14_11, g375, a367⟩, ⟨q_8_14_11, g376, a368⟩, ⟨q_16_14_11, g377, a369⟩⟩, Or.inl g380⟩
  exact h.add1 hn hE361 nq_7 hs7 g384 g386 g379 g371 hv
