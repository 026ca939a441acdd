/-! what add makes -/
set_option maxRecDepth 100000 in
set_option maxHeartbeats 4000000 in
theorem add_facts {p0 p1 p2 : Int32} {S X : Pool} {x ar : Nat} (hp : ∃ q_7 q_1_11 q_3_11 q_8_11 q_1_14_11 q_3_14_11 q_8_14_11 q_16_14_11, q_7 ∉ gL S ∧ q_1_11 ∉ gL (pW S q_7 3 0) ∧ q_3_11 ∉ gL (pQ (pW (pW S q_7 3 0) q_1_11 6 4) q_7 4 (some q_1_11)) ∧ q_8_11 ∉ gL (pQ (pW (pQ (pW (pW S q_7 3 0) q_1_11 6 4) q_7 4 (some q_1_11)) q_3_11 21 5) q_7 5 (some q_3_11)) ∧ q_1_14_11 ∉ gL (pW (pQ (pW (pQ (pW (pW S q_7 3 0) q_1_11 6 4) q_7 4 (some q_1_11)) q_3_11 21 5) q_7 5 (some q_3_11)) q_8_11 4 0) ∧ q_3_14_11 ∉ gL (pQ (pW (pW (pQ (pW (pQ (pW (pW S q_7 3 0) q_1_11 6 4) q_7 4 (some q_1_11)) q_3_11 21 5) q_7 5 (some q_3_11)) q_8_11 4 0) q_1_14_11 10 4) q_8_11 0 (some q_1_14_11)) ∧ q_8_14_11 ∉ gL (pQ (pW (pQ (pW (pW (pQ (pW (pQ (pW (pW S q_7 3 0) q_1_11 6 4) q_7 4 (some q_1_11)) q_3_11 21 5) q_7 5 (some q_3_11)) q_8_11 4 0) q_1_14_11 10 4) q_8_11 0 (some q_1_14_11)) q_3_14_11 11 4) q_8_11 1 (some q_3_14_11)) ∧ q_16_14_11 ∉ gL (pQ (pW (pQ (pW (pQ (pW (pW (pQ (pW (pQ (pW (pW S q_7 3 0) q_1_11 6 4) q_7 4 (some q_1_11)) q_3_11 21 5) q_7 5 (some q_3_11)) q_8_11 4 0) q_1_14_11 10 4) q_8_11 0 (some q_1_14_11)) q_3_14_11 11 4) q_8_11 1 (some q_3_14_11)) q_8_14_11 12 4) q_8_11 2 (some q_8_14_11)) ∧ X = pI (pP (pR (pI (pI (pI (pI (pI (pI (pI (pQ (pQ (pW (pQ (pW (pQ (pW (pQ (pW (pW (pQ (pW (pQ (pW (pW S q_7 3 0) q_1_11 6 4) q_7 4 (some q_1_11)) q_3_11 21 5) q_7 5 (some q_3_11)) q_8_11 4 0) q_1_14_11 10 4) q_8_11 0 (some q_1_14_11)) q_3_14_11 11 4) q_8_11 1 (some q_3_14_11)) q_8_14_11 12 4) q_8_11 2 (some q_8_14_11)) q_16_14_11 20 4) q_8_11 3 (some q_16_14_11)) q_7 6 (some q_8_11)) q_7 10 1000) q_7 13 (-1)) q_7 16 (-1)) q_7 0 (gI S x 2)) q_7 1 p0) q_7 2 p1) q_7 3 p2) q_1_11 ((0 : Int32).toNatClampNeg) 1000) ar ((gI S x 2).toNatClampNeg) (some q_7)) x 2 ((gI S x 2) + 1)) : ∃ T q, X = pI (pP T ar (gI S x 2).toNatClampNeg (some q)) x 2 (gI S x 2 + 1) ∧ ExtI S T ∧ q ∉ gL S ∧ okSw T q ∧ (∀ b, b ∈ gL S → ∀ k, gR T b k = gR S b k) ∧ gI T q 0 = gI S x 2 ∧ (gI T q 1 = p0 ∧ gI T q 2 = p1 ∧ gI T q 3 = p2 ∧ gI T q 8 = 0 ∧ gI T q 9 = 0 ∧ gI T q 10 = 1000 ∧ gI T q 11 = 0 ∧ gI T q 13 = -1 ∧ gI T q 14 = 0 ∧ gI T q 15 = 0 ∧ gI T q 16 = -1 ∧ gI T q 17 = 0) ∧ (∀ v, gR T (wtA T q) v = if v = 0 then 1000 else 0) ∧ wtA T q ∉ gL S ∧ (∀ k, gP T (rlA T q) k = none) ∧ rlA T q ∉ gL S ∧ gQ T q 7 = none := by
  obtain ⟨q_7, q_1_11, q_3_11, q_8_11, q_1_14_11, q_3_14_11, q_8_14_11, q_16_14_11, fq_7, fq_1_11, fq_3_11, fq_8_11, fq_1_14_11, fq_3_14_11, fq_8_14_11, fq_16_14_11, rfl⟩ := hp
  have hE0 : ExtI S S := ExtI.rf
  have hR0 : ∀ b, b ∈ gL S → ∀ k, gR S b k = gR S b k := fun b hb k => rfl
  generalize eT1 : pW S q_7 3 0 = T1 at fq_1_11 fq_3_11 fq_8_11 fq_1_14_11 fq_3_14_11 fq_8_14_11 fq_16_14_11 ⊢
  have nq_7 : q_7 ∉ gL S := hE0.nm fq_7
  have hE1 : ExtI S T1 := by rw [← eT1]; exact hE0.new fq_7
  have rr2 : ∀ b, b ∈ gL S → ∀ k, gR T1 b k = gR S b k := fun b hb k => by rw [← eT1]; exact (gR_new (hE0.1 b hb).1.1 fq_7).trans (hR0 b hb k)
  have o3 : isO T1 q_7 3 := by rw [← eT1]; exact isO_q
  have g4 : gQ T1 q_7 7 = none := by rw [← eT1]; exact gQ_q
  have g5 : gI T1 q_7 8 = 0 := by rw [← eT1]; exact gI_q
  have g6 : gI T1 q_7 9 = 0 := by rw [← eT1]; exact gI_q
  have g7 : gI T1 q_7 11 = 0 := by rw [← eT1]; exact gI_q
  have g8 : gI T1 q_7 14 = 0 := by rw [← eT1]; exact gI_q
  have g9 : gI T1 q_7 15 = 0 := by rw [← eT1]; exact gI_q
  have g10 : gI T1 q_7 17 = 0 := by rw [← eT1]; exact gI_q
  generalize eT2 : pW T1 q_1_11 6 4 = T2 at fq_3_11 fq_8_11 fq_1_14_11 fq_3_14_11 fq_8_14_11 fq_16_14_11 ⊢
  have nq_1_11 : q_1_11 ∉ gL S := hE1.nm fq_1_11
  have hE11 : ExtI S T2 := by rw [← eT2]; exact hE1.new fq_1_11
  have rr12 : ∀ b, b ∈ gL S → ∀ k, gR T2 b k = gR S b k := fun b hb k => by rw [← eT2]; exact (gR_new (hE1.1 b hb).1.1 fq_1_11).trans (rr2 b hb k)
  have o13 : isO T2 q_7 3 := by rw [← eT2]; exact isO_new o3 fq_1_11
  have g14 : gQ T2 q_7 7 = none := by rw [← eT2]; exact (gQ_new o3.1 fq_1_11).trans g4
  have g15 : gI T2 q_7 8 = 0 := by rw [← eT2]; exact (gI_new o3.1 fq_1_11).trans g5
  have g16 : gI T2 q_7 9 = 0 := by rw [← eT2]; exact (gI_new o3.1 fq_1_11).trans g6
  have g17 : gI T2 q_7 11 = 0 := by rw [← eT2]; exact (gI_new o3.1 fq_1_11).trans g7
  have g18 : gI T2 q_7 14 = 0 := by rw [← eT2]; exact (gI_new o3.1 fq_1_11).trans g8
  have g19 : gI T2 q_7 15 = 0 := by rw [← eT2]; exact (gI_new o3.1 fq_1_11).trans g9
  have g20 : gI T2 q_7 17 = 0 := by rw [← eT2]; exact (gI_new o3.1 fq_1_11).trans g10
  have a21 : isA T2 q_1_11 6 4 := by rw [← eT2]; exact isA_q
  have w22 : ∀ k, gR T2 q_1_11 k = 0 := fun k => by rw [← eT2]; exact gR_q
  generalize eT3 : pQ T2 q_7 4 (some q_1_11) = T3 at fq_3_11 fq_8_11 fq_1_14_11 fq_3_14_11 fq_8_14_11 fq_16_14_11 ⊢
  have hE23 : ExtI S T3 := by rw [← eT3]; exact hE11.pQ nq_7
  have rr24 : ∀ b, b ∈ gL S → ∀ k, gR T3 b k = gR S b k := fun b hb k => by rw [← eT3]; exact rr12 b hb k
  have w25 : ∀ k, gR T3 q_1_11 k = 0 := fun k => by rw [← eT3]; exact w22 k
  have o26 : isO T3 q_7 3 := by rw [← eT3]; exact o13
  have a27 : isA T3 q_1_11 6 4 := by rw [← eT3]; exact a21
  have g28 : gQ T3 q_7 7 = none := by rw [← eT3]; exact (u2_k (by decide)).trans g14
  have g29 : gI T3 q_7 8 = 0 := by rw [← eT3]; exact g15
  have g30 : gI T3 q_7 9 = 0 := by rw [← eT3]; exact g16
  have g31 : gI T3 q_7 11 = 0 := by rw [← eT3]; exact g17
  have g32 : gI T3 q_7 14 = 0 := by rw [← eT3]; exact g18
  have g33 : gI T3 q_7 15 = 0 := by rw [← eT3]; exact g19
  have g34 : gI T3 q_7 17 = 0 := by rw [← eT3]; exact g20
  have g35 : gQ T3 q_7 4 = (some q_1_11) := by rw [← eT3]; exact u2_s
  generalize eT4 : pW T3 q_3_11 21 5 = T4 at fq_8_11 fq_1_14_11 fq_3_14_11 fq_8_14_11 fq_16_14_11 ⊢
  have nq_3_11 : q_3_11 ∉ gL S := hE23.nm fq_3_11
  have hE36 : ExtI S T4 := by rw [← eT4]; exact hE23.new fq_3_11
  have rr37 : ∀ b, b ∈ gL S → ∀ k, gR T4 b k = gR S b k := fun b hb k => by rw [← eT4]; exact (gR_new (hE23.1 b hb).1.1 fq_3_11).trans (rr24 b hb k)
  have w38 : ∀ k, gR T4 q_1_11 k = 0 := fun k => by rw [← eT4]; exact (gR_new a27.1 fq_3_11).trans (w25 k)
  have o39 : isO T4 q_7 3 := by rw [← eT4]; exact isO_new o26 fq_3_11
  have g40 : gQ T4 q_7 7 = none := by rw [← eT4]; exact (gQ_new o26.1 fq_3_11).trans g28
  have g41 : gQ T4 q_7 4 = (some q_1_11) := by rw [← eT4]; exact (gQ_new o26.1 fq_3_11).trans g35
  have g42 : gI T4 q_7 8 = 0 := by rw [← eT4]; exact (gI_new o26.1 fq_3_11).trans g29
  have g43 : gI T4 q_7 9 = 0 := by rw [← eT4]; exact (gI_new o26.1 fq_3_11).trans g30
  have g44 : gI T4 q_7 11 = 0 := by rw [← eT4]; exact (gI_new o26.1 fq_3_11).trans g31
  have g45 : gI T4 q_7 14 = 0 := by rw [← eT4]; exact (gI_new o26.1 fq_3_11).trans g32
  have g46 : gI T4 q_7 15 = 0 := by rw [← eT4]; exact (gI_new o26.1 fq_3_11).trans g33
  have g47 : gI T4 q_7 17 = 0 := by rw [← eT4]; exact (gI_new o26.1 fq_3_11).trans g34
  have a48 : isA T4 q_1_11 6 4 := by rw [← eT4]; exact isA_new a27 fq_3_11
  have a49 : isA T4 q_3_11 21 5 := by rw [← eT4]; exact isA_q
  have p50 : ∀ k, gP T4 q_3_11 k = none := fun k => by rw [← eT4]; exact gP_q
  generalize eT5 : pQ T4 q_7 5 (some q_3_11) = T5 at fq_8_11 fq_1_14_11 fq_3_14_11 fq_8_14_11 fq_16_14_11 ⊢
  have hE51 : ExtI S T5 := by rw [← eT5]; exact hE36.pQ nq_7
  have rr52 : ∀ b, b ∈ gL S → ∀ k, gR T5 b k = gR S b k := fun b hb k => by rw [← eT5]; exact rr37 b hb k
  have w53 : ∀ k, gR T5 q_1_11 k = 0 := fun k => by rw [← eT5]; exact w38 k
  have o54 : isO T5 q_7 3 := by rw [← eT5]; exact o39
  have a55 : isA T5 q_1_11 6 4 := by rw [← eT5]; exact a48
  have a56 : isA T5 q_3_11 21 5 := by rw [← eT5]; exact a49
  have p57 : ∀ k, gP T5 q_3_11 k = none := fun k => by rw [← eT5]; exact p50 k
  have g58 : gQ T5 q_7 7 = none := by rw [← eT5]; exact (u2_k (by decide)).trans g40
  have g59 : gQ T5 q_7 4 = (some q_1_11) := by rw [← eT5]; exact (u2_k (by decide)).trans g41
  have g60 : gI T5 q_7 8 = 0 := by rw [← eT5]; exact g42
  have g61 : gI T5 q_7 9 = 0 := by rw [← eT5]; exact g43
  have g62 : gI T5 q_7 11 = 0 := by rw [← eT5]; exact g44
  have g63 : gI T5 q_7 14 = 0 := by rw [← eT5]; exact g45
  have g64 : gI T5 q_7 15 = 0 := by rw [← eT5]; exact g46
  have g65 : gI T5 q_7 17 = 0 := by rw [← eT5]; exact g47
  have g66 : gQ T5 q_7 5 = (some q_3_11) := by rw [← eT5]; exact u2_s
  generalize eT6 : pW T5 q_8_11 4 0 = T6 at fq_1_14_11 fq_3_14_11 fq_8_14_11 fq_16_14_11 ⊢
  have nq_8_11 : q_8_11 ∉ gL S := hE51.nm fq_8_11
  have hE67 : ExtI S T6 := by rw [← eT6]; exact hE51.new fq_8_11
  have rr68 : ∀ b, b ∈ gL S → ∀ k, gR T6 b k = gR S b k := fun b hb k => by rw [← eT6]; exact (gR_new (hE51.1 b hb).1.1 fq_8_11).trans (rr52 b hb k)
  have w69 : ∀ k, gR T6 q_1_11 k = 0 := fun k => by rw [← eT6]; exact (gR_new a55.1 fq_8_11).trans (w53 k)
  have o70 : isO T6 q_7 3 := by rw [← eT6]; exact isO_new o54 fq_8_11
  have g71 : gQ T6 q_7 7 = none := by rw [← eT6]; exact (gQ_new o54.1 fq_8_11).trans g58
  have g72 : gQ T6 q_7 4 = (some q_1_11) := by rw [← eT6]; exact (gQ_new o54.1 fq_8_11).trans g59
  have g73 : gQ T6 q_7 5 = (some q_3_11) := by rw [← eT6]; exact (gQ_new o54.1 fq_8_11).trans g66
  have g74 : gI T6 q_7 8 = 0 := by rw [← eT6]; exact (gI_new o54.1 fq_8_11).trans g60
  have g75 : gI T6 q_7 9 = 0 := by rw [← eT6]; exact (gI_new o54.1 fq_8_11).trans g61
  have g76 : gI T6 q_7 11 = 0 := by rw [← eT6]; exact (gI_new o54.1 fq_8_11).trans g62
  have g77 : gI T6 q_7 14 = 0 := by rw [← eT6]; exact (gI_new o54.1 fq_8_11).trans g63
  have g78 : gI T6 q_7 15 = 0 := by rw [← eT6]; exact (gI_new o54.1 fq_8_11).trans g64
  have g79 : gI T6 q_7 17 = 0 := by rw [← eT6]; exact (gI_new o54.1 fq_8_11).trans g65
  have a80 : isA T6 q_1_11 6 4 := by rw [← eT6]; exact isA_new a55 fq_8_11
  have a81 : isA T6 q_3_11 21 5 := by rw [← eT6]; exact isA_new a56 fq_8_11
  have p82 : ∀ k, gP T6 q_3_11 k = none := fun k => by rw [← eT6]; exact (gP_new a56.1 fq_8_11).trans (p57 k)
  have o83 : isO T6 q_8_11 4 := by rw [← eT6]; exact isO_q
  generalize eT7 : pW T6 q_1_14_11 10 4 = T7 at fq_3_14_11 fq_8_14_11 fq_16_14_11 ⊢
  have nq_1_14_11 : q_1_14_11 ∉ gL S := hE67.nm fq_1_14_11
  have hE84 : ExtI S T7 := by rw [← eT7]; exact hE67.new fq_1_14_11
  have rr85 : ∀ b, b ∈ gL S → ∀ k, gR T7 b k = gR S b k := fun b hb k => by rw [← eT7]; exact (gR_new (hE67.1 b hb).1.1 fq_1_14_11).trans (rr68 b hb k)
  have w86 : ∀ k, gR T7 q_1_11 k = 0 := fun k => by rw [← eT7]; exact (gR_new a80.1 fq_1_14_11).trans (w69 k)
  have o87 : isO T7 q_7 3 := by rw [← eT7]; exact isO_new o70 fq_1_14_11
  have g88 : gQ T7 q_7 7 = none := by rw [← eT7]; exact (gQ_new o70.1 fq_1_14_11).trans g71
  have g89 : gQ T7 q_7 4 = (some q_1_11) := by rw [← eT7]; exact (gQ_new o70.1 fq_1_14_11).trans g72
  have g90 : gQ T7 q_7 5 = (some q_3_11) := by rw [← eT7]; exact (gQ_new o70.1 fq_1_14_11).trans g73
  have g91 : gI T7 q_7 8 = 0 := by rw [← eT7]; exact (gI_new o70.1 fq_1_14_11).trans g74
  have g92 : gI T7 q_7 9 = 0 := by rw [← eT7]; exact (gI_new o70.1 fq_1_14_11).trans g75
  have g93 : gI T7 q_7 11 = 0 := by rw [← eT7]; exact (gI_new o70.1 fq_1_14_11).trans g76
  have g94 : gI T7 q_7 14 = 0 := by rw [← eT7]; exact (gI_new o70.1 fq_1_14_11).trans g77
  have g95 : gI T7 q_7 15 = 0 := by rw [← eT7]; exact (gI_new o70.1 fq_1_14_11).trans g78
  have g96 : gI T7 q_7 17 = 0 := by rw [← eT7]; exact (gI_new o70.1 fq_1_14_11).trans g79
  have o97 : isO T7 q_8_11 4 := by rw [← eT7]; exact isO_new o83 fq_1_14_11
  have a98 : isA T7 q_1_11 6 4 := by rw [← eT7]; exact isA_new a80 fq_1_14_11
  have a99 : isA T7 q_3_11 21 5 := by rw [← eT7]; exact isA_new a81 fq_1_14_11
  have p100 : ∀ k, gP T7 q_3_11 k = none := fun k => by rw [← eT7]; exact (gP_new a81.1 fq_1_14_11).trans (p82 k)
  have a101 : isA T7 q_1_14_11 10 4 := by rw [← eT7]; exact isA_q
  generalize eT8 : pQ T7 q_8_11 0 (some q_1_14_11) = T8 at fq_3_14_11 fq_8_14_11 fq_16_14_11 ⊢
  have hE102 : ExtI S T8 := by rw [← eT8]; exact hE84.pQ nq_8_11
  have rr103 : ∀ b, b ∈ gL S → ∀ k, gR T8 b k = gR S b k := fun b hb k => by rw [← eT8]; exact rr85 b hb k
  have w104 : ∀ k, gR T8 q_1_11 k = 0 := fun k => by rw [← eT8]; exact w86 k
  have o105 : isO T8 q_7 3 := by rw [← eT8]; exact o87
  have o106 : isO T8 q_8_11 4 := by rw [← eT8]; exact o97
  have a107 : isA T8 q_1_11 6 4 := by rw [← eT8]; exact a98
  have a108 : isA T8 q_3_11 21 5 := by rw [← eT8]; exact a99
  have a109 : isA T8 q_1_14_11 10 4 := by rw [← eT8]; exact a101
  have p110 : ∀ k, gP T8 q_3_11 k = none := fun k => by rw [← eT8]; exact p100 k
  have g111 : gQ T8 q_7 7 = none := by rw [← eT8]; exact (u2_a (ne_of_kind o105.2 o106.2 (by decide))).trans g88
  have g112 : gQ T8 q_7 4 = (some q_1_11) := by rw [← eT8]; exact (u2_a (ne_of_kind o105.2 o106.2 (by decide))).trans g89
  have g113 : gQ T8 q_7 5 = (some q_3_11) := by rw [← eT8]; exact (u2_a (ne_of_kind o105.2 o106.2 (by decide))).trans g90
  have g114 : gI T8 q_7 8 = 0 := by rw [← eT8]; exact g91
  have g115 : gI T8 q_7 9 = 0 := by rw [← eT8]; exact g92
  have g116 : gI T8 q_7 11 = 0 := by rw [← eT8]; exact g93
  have g117 : gI T8 q_7 14 = 0 := by rw [← eT8]; exact g94
  have g118 : gI T8 q_7 15 = 0 := by rw [← eT8]; exact g95
  have g119 : gI T8 q_7 17 = 0 := by rw [← eT8]; exact g96
  have g120 : gQ T8 q_8_11 0 = (some q_1_14_11) := by rw [← eT8]; exact u2_s
  generalize eT9 : pW T8 q_3_14_11 11 4 = T9 at fq_8_14_11 fq_16_14_11 ⊢
  have nq_3_14_11 : q_3_14_11 ∉ gL S := hE102.nm fq_3_14_11
  have hE121 : ExtI S T9 := by rw [← eT9]; exact hE102.new fq_3_14_11
  have rr122 : ∀ b, b ∈ gL S → ∀ k, gR T9 b k = gR S b k := fun b hb k => by rw [← eT9]; exact (gR_new (hE102.1 b hb).1.1 fq_3_14_11).trans (rr103 b hb k)
  have w123 : ∀ k, gR T9 q_1_11 k = 0 := fun k => by rw [← eT9]; exact (gR_new a107.1 fq_3_14_11).trans (w104 k)
  have o124 : isO T9 q_7 3 := by rw [← eT9]; exact isO_new o105 fq_3_14_11
  have g125 : gQ T9 q_7 7 = none := by rw [← eT9]; exact (gQ_new o105.1 fq_3_14_11).trans g111
  have g126 : gQ T9 q_7 4 = (some q_1_11) := by rw [← eT9]; exact (gQ_new o105.1 fq_3_14_11).trans g112
  have g127 : gQ T9 q_7 5 = (some q_3_11) := by rw [← eT9]; exact (gQ_new o105.1 fq_3_14_11).trans g113
  have g128 : gI T9 q_7 8 = 0 := by rw [← eT9]; exact (gI_new o105.1 fq_3_14_11).trans g114
  have g129 : gI T9 q_7 9 = 0 := by rw [← eT9]; exact (gI_new o105.1 fq_3_14_11).trans g115
  have g130 : gI T9 q_7 11 = 0 := by rw [← eT9]; exact (gI_new o105.1 fq_3_14_11).trans g116
  have g131 : gI T9 q_7 14 = 0 := by rw [← eT9]; exact (gI_new o105.1 fq_3_14_11).trans g117
  have g132 : gI T9 q_7 15 = 0 := by rw [← eT9]; exact (gI_new o105.1 fq_3_14_11).trans g118
  have g133 : gI T9 q_7 17 = 0 := by rw [← eT9]; exact (gI_new o105.1 fq_3_14_11).trans g119
  have o134 : isO T9 q_8_11 4 := by rw [← eT9]; exact isO_new o106 fq_3_14_11
  have g135 : gQ T9 q_8_11 0 = (some q_1_14_11) := by rw [← eT9]; exact (gQ_new o106.1 fq_3_14_11).trans g120
  have a136 : isA T9 q_1_11 6 4 := by rw [← eT9]; exact isA_new a107 fq_3_14_11
  have a137 : isA T9 q_3_11 21 5 := by rw [← eT9]; exact isA_new a108 fq_3_14_11
  have p138 : ∀ k, gP T9 q_3_11 k = none := fun k => by rw [← eT9]; exact (gP_new a108.1 fq_3_14_11).trans (p110 k)
  have a139 : isA T9 q_1_14_11 10 4 := by rw [← eT9]; exact isA_new a109 fq_3_14_11
  have a140 : isA T9 q_3_14_11 11 4 := by rw [← eT9]; exact isA_q
  generalize eT10 : pQ T9 q_8_11 1 (some q_3_14_11) = T10 at fq_8_14_11 fq_16_14_11 ⊢
  have hE141 : ExtI S T10 := by rw [← eT10]; exact hE121.pQ nq_8_11
  have rr142 : ∀ b, b ∈ gL S → ∀ k, gR T10 b k = gR S b k := fun b hb k => by rw [← eT10]; exact rr122 b hb k
  have w143 : ∀ k, gR T10 q_1_11 k = 0 := fun k => by rw [← eT10]; exact w123 k
  have o144 : isO T10 q_7 3 := by rw [← eT10]; exact o124
  have o145 : isO T10 q_8_11 4 := by rw [← eT10]; exact o134
  have a146 : isA T10 q_1_11 6 4 := by rw [← eT10]; exact a136
  have a147 : isA T10 q_3_11 21 5 := by rw [← eT10]; exact a137
  have a148 : isA T10 q_1_14_11 10 4 := by rw [← eT10]; exact a139
  have a149 : isA T10 q_3_14_11 11 4 := by rw [← eT10]; exact a140
  have p150 : ∀ k, gP T10 q_3_11 k = none := fun k => by rw [← eT10]; exact p138 k
  have g151 : gQ T10 q_7 7 = none := by rw [← eT10]; exact (u2_a (ne_of_kind o144.2 o145.2 (by decide))).trans g125
  have g152 : gQ T10 q_7 4 = (some q_1_11) := by rw [← eT10]; exact (u2_a (ne_of_kind o144.2 o145.2 (by decide))).trans g126
  have g153 : gQ T10 q_7 5 = (some q_3_11) := by rw [← eT10]; exact (u2_a (ne_of_kind o144.2 o145.2 (by decide))).trans g127
  have g154 : gQ T10 q_8_11 0 = (some q_1_14_11) := by rw [← eT10]; exact (u2_k (by decide)).trans g135
  have g155 : gI T10 q_7 8 = 0 := by rw [← eT10]; exact g128
  have g156 : gI T10 q_7 9 = 0 := by rw [← eT10]; exact g129
  have g157 : gI T10 q_7 11 = 0 := by rw [← eT10]; exact g130
  have g158 : gI T10 q_7 14 = 0 := by rw [← eT10]; exact g131
  have g159 : gI T10 q_7 15 = 0 := by rw [← eT10]; exact g132
  have g160 : gI T10 q_7 17 = 0 := by rw [← eT10]; exact g133
  have g161 : gQ T10 q_8_11 1 = (some q_3_14_11) := by rw [← eT10]; exact u2_s
  generalize eT11 : pW T10 q_8_14_11 12 4 = T11 at fq_16_14_11 ⊢
  have nq_8_14_11 : q_8_14_11 ∉ gL S := hE141.nm fq_8_14_11
  have hE162 : ExtI S T11 := by rw [← eT11]; exact hE141.new fq_8_14_11
  have rr163 : ∀ b, b ∈ gL S → ∀ k, gR T11 b k = gR S b k := fun b hb k => by rw [← eT11]; exact (gR_new (hE141.1 b hb).1.1 fq_8_14_11).trans (rr142 b hb k)
  have w164 : ∀ k, gR T11 q_1_11 k = 0 := fun k => by rw [← eT11]; exact (gR_new a146.1 fq_8_14_11).trans (w143 k)
  have o165 : isO T11 q_7 3 := by rw [← eT11]; exact isO_new o144 fq_8_14_11
  have g166 : gQ T11 q_7 7 = none := by rw [← eT11]; exact (gQ_new o144.1 fq_8_14_11).trans g151
  have g167 : gQ T11 q_7 4 = (some q_1_11) := by rw [← eT11]; exact (gQ_new o144.1 fq_8_14_11).trans g152
  have g168 : gQ T11 q_7 5 = (some q_3_11) := by rw [← eT11]; exact (gQ_new o144.1 fq_8_14_11).trans g153
  have g169 : gI T11 q_7 8 = 0 := by rw [← eT11]; exact (gI_new o144.1 fq_8_14_11).trans g155
  have g170 : gI T11 q_7 9 = 0 := by rw [← eT11]; exact (gI_new o144.1 fq_8_14_11).trans g156
  have g171 : gI T11 q_7 11 = 0 := by rw [← eT11]; exact (gI_new o144.1 fq_8_14_11).trans g157
  have g172 : gI T11 q_7 14 = 0 := by rw [← eT11]; exact (gI_new o144.1 fq_8_14_11).trans g158
  have g173 : gI T11 q_7 15 = 0 := by rw [← eT11]; exact (gI_new o144.1 fq_8_14_11).trans g159
  have g174 : gI T11 q_7 17 = 0 := by rw [← eT11]; exact (gI_new o144.1 fq_8_14_11).trans g160
  have o175 : isO T11 q_8_11 4 := by rw [← eT11]; exact isO_new o145 fq_8_14_11
  have g176 : gQ T11 q_8_11 0 = (some q_1_14_11) := by rw [← eT11]; exact (gQ_new o145.1 fq_8_14_11).trans g154
  have g177 : gQ T11 q_8_11 1 = (some q_3_14_11) := by rw [← eT11]; exact (gQ_new o145.1 fq_8_14_11).trans g161
  have a178 : isA T11 q_1_11 6 4 := by rw [← eT11]; exact isA_new a146 fq_8_14_11
  have a179 : isA T11 q_3_11 21 5 := by rw [← eT11]; exact isA_new a147 fq_8_14_11
  have p180 : ∀ k, gP T11 q_3_11 k = none := fun k => by rw [← eT11]; exact (gP_new a147.1 fq_8_14_11).trans (p150 k)
  have a181 : isA T11 q_1_14_11 10 4 := by rw [← eT11]; exact isA_new a148 fq_8_14_11
  have a182 : isA T11 q_3_14_11 11 4 := by rw [← eT11]; exact isA_new a149 fq_8_14_11
  have a183 : isA T11 q_8_14_11 12 4 := by rw [← eT11]; exact isA_q
  generalize eT12 : pQ T11 q_8_11 2 (some q_8_14_11) = T12 at fq_16_14_11 ⊢
  have hE184 : ExtI S T12 := by rw [← eT12]; exact hE162.pQ nq_8_11
  have rr185 : ∀ b, b ∈ gL S → ∀ k, gR T12 b k = gR S b k := fun b hb k => by rw [← eT12]; exact rr163 b hb k
  have w186 : ∀ k, gR T12 q_1_11 k = 0 := fun k => by rw [← eT12]; exact w164 k
  have o187 : isO T12 q_7 3 := by rw [← eT12]; exact o165
  have o188 : isO T12 q_8_11 4 := by rw [← eT12]; exact o175
  have a189 : isA T12 q_1_11 6 4 := by rw [← eT12]; exact a178
  have a190 : isA T12 q_3_11 21 5 := by rw [← eT12]; exact a179
  have a191 : isA T12 q_1_14_11 10 4 := by rw [← eT12]; exact a181
  have a192 : isA T12 q_3_14_11 11 4 := by rw [← eT12]; exact a182
  have a193 : isA T12 q_8_14_11 12 4 := by rw [← eT12]; exact a183
  have p194 : ∀ k, gP T12 q_3_11 k = none := fun k => by rw [← eT12]; exact p180 k
  have g195 : gQ T12 q_7 7 = none := by rw [← eT12]; exact (u2_a (ne_of_kind o187.2 o188.2 (by decide))).trans g166
  have g196 : gQ T12 q_7 4 = (some q_1_11) := by rw [← eT12]; exact (u2_a (ne_of_kind o187.2 o188.2 (by decide))).trans g167
  have g197 : gQ T12 q_7 5 = (some q_3_11) := by rw [← eT12]; exact (u2_a (ne_of_kind o187.2 o188.2 (by decide))).trans g168
  have g198 : gQ T12 q_8_11 0 = (some q_1_14_11) := by rw [← eT12]; exact (u2_k (by decide)).trans g176
  have g199 : gQ T12 q_8_11 1 = (some q_3_14_11) := by rw [← eT12]; exact (u2_k (by decide)).trans g177
  have g200 : gI T12 q_7 8 = 0 := by rw [← eT12]; exact g169
  have g201 : gI T12 q_7 9 = 0 := by rw [← eT12]; exact g170
  have g202 : gI T12 q_7 11 = 0 := by rw [← eT12]; exact g171
  have g203 : gI T12 q_7 14 = 0 := by rw [← eT12]; exact g172
  have g204 : gI T12 q_7 15 = 0 := by rw [← eT12]; exact g173
  have g205 : gI T12 q_7 17 = 0 := by rw [← eT12]; exact g174
  have g206 : gQ T12 q_8_11 2 = (some q_8_14_11) := by rw [← eT12]; exact u2_s
  generalize eT13 : pW T12 q_16_14_11 20 4 = T13 at  ⊢
  have nq_16_14_11 : q_16_14_11 ∉ gL S := hE184.nm fq_16_14_11
  have hE207 : ExtI S T13 := by rw [← eT13]; exact hE184.new fq_16_14_11
  have rr208 : ∀ b, b ∈ gL S → ∀ k, gR T13 b k = gR S b k := fun b hb k => by rw [← eT13]; exact (gR_new (hE184.1 b hb).1.1 fq_16_14_11).trans (rr185 b hb k)
  have w209 : ∀ k, gR T13 q_1_11 k = 0 := fun k => by rw [← eT13]; exact (gR_new a189.1 fq_16_14_11).trans (w186 k)
  have o210 : isO T13 q_7 3 := by rw [← eT13]; exact isO_new o187 fq_16_14_11
  have g211 : gQ T13 q_7 7 = none := by rw [← eT13]; exact (gQ_new o187.1 fq_16_14_11).trans g195
  have g212 : gQ T13 q_7 4 = (some q_1_11) := by rw [← eT13]; exact (gQ_new o187.1 fq_16_14_11).trans g196
  have g213 : gQ T13 q_7 5 = (some q_3_11) := by rw [← eT13]; exact (gQ_new o187.1 fq_16_14_11).trans g197
  have g214 : gI T13 q_7 8 = 0 := by rw [← eT13]; exact (gI_new o187.1 fq_16_14_11).trans g200
  have g215 : gI T13 q_7 9 = 0 := by rw [← eT13]; exact (gI_new o187.1 fq_16_14_11).trans g201
  have g216 : gI T13 q_7 11 = 0 := by rw [← eT13]; exact (gI_new o187.1 fq_16_14_11).trans g202
  have g217 : gI T13 q_7 14 = 0 := by rw [← eT13]; exact (gI_new o187.1 fq_16_14_11).trans g203
  have g218 : gI T13 q_7 15 = 0 := by rw [← eT13]; exact (gI_new o187.1 fq_16_14_11).trans g204
  have g219 : gI T13 q_7 17 = 0 := by rw [← eT13]; exact (gI_new o187.1 fq_16_14_11).trans g205
  have o220 : isO T13 q_8_11 4 := by rw [← eT13]; exact isO_new o188 fq_16_14_11
  have g221 : gQ T13 q_8_11 0 = (some q_1_14_11) := by rw [← eT13]; exact (gQ_new o188.1 fq_16_14_11).trans g198
  have g222 : gQ T13 q_8_11 1 = (some q_3_14_11) := by rw [← eT13]; exact (gQ_new o188.1 fq_16_14_11).trans g199
  have g223 : gQ T13 q_8_11 2 = (some q_8_14_11) := by rw [← eT13]; exact (gQ_new o188.1 fq_16_14_11).trans g206
  have a224 : isA T13 q_1_11 6 4 := by rw [← eT13]; exact isA_new a189 fq_16_14_11
  have a225 : isA T13 q_3_11 21 5 := by rw [← eT13]; exact isA_new a190 fq_16_14_11
  have p226 : ∀ k, gP T13 q_3_11 k = none := fun k => by rw [← eT13]; exact (gP_new a190.1 fq_16_14_11).trans (p194 k)
  have a227 : isA T13 q_1_14_11 10 4 := by rw [← eT13]; exact isA_new a191 fq_16_14_11
  have a228 : isA T13 q_3_14_11 11 4 := by rw [← eT13]; exact isA_new a192 fq_16_14_11
  have a229 : isA T13 q_8_14_11 12 4 := by rw [← eT13]; exact isA_new a193 fq_16_14_11
  have a230 : isA T13 q_16_14_11 20 4 := by rw [← eT13]; exact isA_q
  generalize eT14 : pQ T13 q_8_11 3 (some q_16_14_11) = T14 at  ⊢
  have hE231 : ExtI S T14 := by rw [← eT14]; exact hE207.pQ nq_8_11
  have rr232 : ∀ b, b ∈ gL S → ∀ k, gR T14 b k = gR S b k := fun b hb k => by rw [← eT14]; exact rr208 b hb k
  have w233 : ∀ k, gR T14 q_1_11 k = 0 := fun k => by rw [← eT14]; exact w209 k
  have o234 : isO T14 q_7 3 := by rw [← eT14]; exact o210
  have o235 : isO T14 q_8_11 4 := by rw [← eT14]; exact o220
  have a236 : isA T14 q_1_11 6 4 := by rw [← eT14]; exact a224
  have a237 : isA T14 q_3_11 21 5 := by rw [← eT14]; exact a225
  have a238 : isA T14 q_1_14_11 10 4 := by rw [← eT14]; exact a227
  have a239 : isA T14 q_3_14_11 11 4 := by rw [← eT14]; exact a228
  have a240 : isA T14 q_8_14_11 12 4 := by rw [← eT14]; exact a229
  have a241 : isA T14 q_16_14_11 20 4 := by rw [← eT14]; exact a230
  have p242 : ∀ k, gP T14 q_3_11 k = none := fun k => by rw [← eT14]; exact p226 k
  have g243 : gQ T14 q_7 7 = none := by rw [← eT14]; exact (u2_a (ne_of_kind o234.2 o235.2 (by decide))).trans g211
  have g244 : gQ T14 q_7 4 = (some q_1_11) := by rw [← eT14]; exact (u2_a (ne_of_kind o234.2 o235.2 (by decide))).trans g212
  have g245 : gQ T14 q_7 5 = (some q_3_11) := by rw [← eT14]; exact (u2_a (ne_of_kind o234.2 o235.2 (by decide))).trans g213
  have g246 : gQ T14 q_8_11 0 = (some q_1_14_11) := by rw [← eT14]; exact (u2_k (by decide)).trans g221
  have g247 : gQ T14 q_8_11 1 = (some q_3_14_11) := by rw [← eT14]; exact (u2_k (by decide)).trans g222
  have g248 : gQ T14 q_8_11 2 = (some q_8_14_11) := by rw [← eT14]; exact (u2_k (by decide)).trans g223
  have g249 : gI T14 q_7 8 = 0 := by rw [← eT14]; exact g214
  have g250 : gI T14 q_7 9 = 0 := by rw [← eT14]; exact g215
  have g251 : gI T14 q_7 11 = 0 := by rw [← eT14]; exact g216
  have g252 : gI T14 q_7 14 = 0 := by rw [← eT14]; exact g217
  have g253 : gI T14 q_7 15 = 0 := by rw [← eT14]; exact g218
  have g254 : gI T14 q_7 17 = 0 := by rw [← eT14]; exact g219
  have g255 : gQ T14 q_8_11 3 = (some q_16_14_11) := by rw [← eT14]; exact u2_s
  generalize eT15 : pQ T14 q_7 6 (some q_8_11) = T15 at  ⊢
  have hE256 : ExtI S T15 := by rw [← eT15]; exact hE231.pQ nq_7
  have rr257 : ∀ b, b ∈ gL S → ∀ k, gR T15 b k = gR S b k := fun b hb k => by rw [← eT15]; exact rr232 b hb k
  have w258 : ∀ k, gR T15 q_1_11 k = 0 := fun k => by rw [← eT15]; exact w233 k
  have o259 : isO T15 q_7 3 := by rw [← eT15]; exact o234
  have o260 : isO T15 q_8_11 4 := by rw [← eT15]; exact o235
  have a261 : isA T15 q_1_11 6 4 := by rw [← eT15]; exact a236
  have a262 : isA T15 q_3_11 21 5 := by rw [← eT15]; exact a237
  have a263 : isA T15 q_1_14_11 10 4 := by rw [← eT15]; exact a238
  have a264 : isA T15 q_3_14_11 11 4 := by rw [← eT15]; exact a239
  have a265 : isA T15 q_8_14_11 12 4 := by rw [← eT15]; exact a240
  have a266 : isA T15 q_16_14_11 20 4 := by rw [← eT15]; exact a241
  have p267 : ∀ k, gP T15 q_3_11 k = none := fun k => by rw [← eT15]; exact p242 k
  have g268 : gQ T15 q_7 7 = none := by rw [← eT15]; exact (u2_k (by decide)).trans g243
  have g269 : gQ T15 q_7 4 = (some q_1_11) := by rw [← eT15]; exact (u2_k (by decide)).trans g244
  have g270 : gQ T15 q_7 5 = (some q_3_11) := by rw [← eT15]; exact (u2_k (by decide)).trans g245
  have g271 : gQ T15 q_8_11 0 = (some q_1_14_11) := by rw [← eT15]; exact (u2_a (ne_of_kind o260.2 o259.2 (by decide))).trans g246
  have g272 : gQ T15 q_8_11 1 = (some q_3_14_11) := by rw [← eT15]; exact (u2_a (ne_of_kind o260.2 o259.2 (by decide))).trans g247
  have g273 : gQ T15 q_8_11 2 = (some q_8_14_11) := by rw [← eT15]; exact (u2_a (ne_of_kind o260.2 o259.2 (by decide))).trans g248
  have g274 : gQ T15 q_8_11 3 = (some q_16_14_11) := by rw [← eT15]; exact (u2_a (ne_of_kind o260.2 o259.2 (by decide))).trans g255
  have g275 : gI T15 q_7 8 = 0 := by rw [← eT15]; exact g249
  have g276 : gI T15 q_7 9 = 0 := by rw [← eT15]; exact g250
  have g277 : gI T15 q_7 11 = 0 := by rw [← eT15]; exact g251
  have g278 : gI T15 q_7 14 = 0 := by rw [← eT15]; exact g252
  have g279 : gI T15 q_7 15 = 0 := by rw [← eT15]; exact g253
  have g280 : gI T15 q_7 17 = 0 := by rw [← eT15]; exact g254
  have g281 : gQ T15 q_7 6 = (some q_8_11) := by rw [← eT15]; exact u2_s
  generalize eT16 : pI T15 q_7 10 1000 = T16 at  ⊢
  have hE282 : ExtI S T16 := by rw [← eT16]; exact hE256.pI nq_7
  have rr283 : ∀ b, b ∈ gL S → ∀ k, gR T16 b k = gR S b k := fun b hb k => by rw [← eT16]; exact rr257 b hb k
  have w284 : ∀ k, gR T16 q_1_11 k = 0 := fun k => by rw [← eT16]; exact w258 k
  have o285 : isO T16 q_7 3 := by rw [← eT16]; exact o259
  have o286 : isO T16 q_8_11 4 := by rw [← eT16]; exact o260
  have a287 : isA T16 q_1_11 6 4 := by rw [← eT16]; exact a261
  have a288 : isA T16 q_3_11 21 5 := by rw [← eT16]; exact a262
  have a289 : isA T16 q_1_14_11 10 4 := by rw [← eT16]; exact a263
  have a290 : isA T16 q_3_14_11 11 4 := by rw [← eT16]; exact a264
  have a291 : isA T16 q_8_14_11 12 4 := by rw [← eT16]; exact a265
  have a292 : isA T16 q_16_14_11 20 4 := by rw [← eT16]; exact a266
  have p293 : ∀ k, gP T16 q_3_11 k = none := fun k => by rw [← eT16]; exact p267 k
  have g294 : gQ T16 q_7 7 = none := by rw [← eT16]; exact g268
  have g295 : gQ T16 q_7 4 = (some q_1_11) := by rw [← eT16]; exact g269
  have g296 : gQ T16 q_7 5 = (some q_3_11) := by rw [← eT16]; exact g270
  have g297 : gQ T16 q_8_11 0 = (some q_1_14_11) := by rw [← eT16]; exact g271
  have g298 : gQ T16 q_8_11 1 = (some q_3_14_11) := by rw [← eT16]; exact g272
  have g299 : gQ T16 q_8_11 2 = (some q_8_14_11) := by rw [← eT16]; exact g273
  have g300 : gQ T16 q_8_11 3 = (some q_16_14_11) := by rw [← eT16]; exact g274
  have g301 : gQ T16 q_7 6 = (some q_8_11) := by rw [← eT16]; exact g281
  have g302 : gI T16 q_7 8 = 0 := by rw [← eT16]; exact (u2_k (by decide)).trans g275
  have g303 : gI T16 q_7 9 = 0 := by rw [← eT16]; exact (u2_k (by decide)).trans g276
  have g304 : gI T16 q_7 11 = 0 := by rw [← eT16]; exact (u2_k (by decide)).trans g277
  have g305 : gI T16 q_7 14 = 0 := by rw [← eT16]; exact (u2_k (by decide)).trans g278
  have g306 : gI T16 q_7 15 = 0 := by rw [← eT16]; exact (u2_k (by decide)).trans g279
  have g307 : gI T16 q_7 17 = 0 := by rw [← eT16]; exact (u2_k (by decide)).trans g280
  have g308 : gI T16 q_7 10 = 1000 := by rw [← eT16]; exact u2_s
  generalize eT17 : pI T16 q_7 13 (-1) = T17 at  ⊢
  have hE309 : ExtI S T17 := by rw [← eT17]; exact hE282.pI nq_7
  have rr310 : ∀ b, b ∈ gL S → ∀ k, gR T17 b k = gR S b k := fun b hb k => by rw [← eT17]; exact rr283 b hb k
  have w311 : ∀ k, gR T17 q_1_11 k = 0 := fun k => by rw [← eT17]; exact w284 k
  have o312 : isO T17 q_7 3 := by rw [← eT17]; exact o285
  have o313 : isO T17 q_8_11 4 := by rw [← eT17]; exact o286
  have a314 : isA T17 q_1_11 6 4 := by rw [← eT17]; exact a287
  have a315 : isA T17 q_3_11 21 5 := by rw [← eT17]; exact a288
  have a316 : isA T17 q_1_14_11 10 4 := by rw [← eT17]; exact a289
  have a317 : isA T17 q_3_14_11 11 4 := by rw [← eT17]; exact a290
  have a318 : isA T17 q_8_14_11 12 4 := by rw [← eT17]; exact a291
  have a319 : isA T17 q_16_14_11 20 4 := by rw [← eT17]; exact a292
  have p320 : ∀ k, gP T17 q_3_11 k = none := fun k => by rw [← eT17]; exact p293 k
  have g321 : gQ T17 q_7 7 = none := by rw [← eT17]; exact g294
  have g322 : gQ T17 q_7 4 = (some q_1_11) := by rw [← eT17]; exact g295
  have g323 : gQ T17 q_7 5 = (some q_3_11) := by rw [← eT17]; exact g296
  have g324 : gQ T17 q_8_11 0 = (some q_1_14_11) := by rw [← eT17]; exact g297
  have g325 : gQ T17 q_8_11 1 = (some q_3_14_11) := by rw [← eT17]; exact g298
  have g326 : gQ T17 q_8_11 2 = (some q_8_14_11) := by rw [← eT17]; exact g299
  have g327 : gQ T17 q_8_11 3 = (some q_16_14_11) := by rw [← eT17]; exact g300
  have g328 : gQ T17 q_7 6 = (some q_8_11) := by rw [← eT17]; exact g301
  have g329 : gI T17 q_7 8 = 0 := by rw [← eT17]; exact (u2_k (by decide)).trans g302
  have g330 : gI T17 q_7 9 = 0 := by rw [← eT17]; exact (u2_k (by decide)).trans g303
  have g331 : gI T17 q_7 11 = 0 := by rw [← eT17]; exact (u2_k (by decide)).trans g304
  have g332 : gI T17 q_7 14 = 0 := by rw [← eT17]; exact (u2_k (by decide)).trans g305
  have g333 : gI T17 q_7 15 = 0 := by rw [← eT17]; exact (u2_k (by decide)).trans g306
  have g334 : gI T17 q_7 17 = 0 := by rw [← eT17]; exact (u2_k (by decide)).trans g307
  have g335 : gI T17 q_7 10 = 1000 := by rw [← eT17]; exact (u2_k (by decide)).trans g308
  have g336 : gI T17 q_7 13 = -1 := by rw [← eT17]; exact u2_s
  generalize eT18 : pI T17 q_7 16 (-1) = T18 at  ⊢
  have hE337 : ExtI S T18 := by rw [← eT18]; exact hE309.pI nq_7
  have rr338 : ∀ b, b ∈ gL S → ∀ k, gR T18 b k = gR S b k := fun b hb k => by rw [← eT18]; exact rr310 b hb k
  have w339 : ∀ k, gR T18 q_1_11 k = 0 := fun k => by rw [← eT18]; exact w311 k
  have o340 : isO T18 q_7 3 := by rw [← eT18]; exact o312
  have o341 : isO T18 q_8_11 4 := by rw [← eT18]; exact o313
  have a342 : isA T18 q_1_11 6 4 := by rw [← eT18]; exact a314
  have a343 : isA T18 q_3_11 21 5 := by rw [← eT18]; exact a315
  have a344 : isA T18 q_1_14_11 10 4 := by rw [← eT18]; exact a316
  have a345 : isA T18 q_3_14_11 11 4 := by rw [← eT18]; exact a317
  have a346 : isA T18 q_8_14_11 12 4 := by rw [← eT18]; exact a318
  have a347 : isA T18 q_16_14_11 20 4 := by rw [← eT18]; exact a319
  have p348 : ∀ k, gP T18 q_3_11 k = none := fun k => by rw [← eT18]; exact p320 k
  have g349 : gQ T18 q_7 7 = none := by rw [← eT18]; exact g321
  have g350 : gQ T18 q_7 4 = (some q_1_11) := by rw [← eT18]; exact g322
  have g351 : gQ T18 q_7 5 = (some q_3_11) := by rw [← eT18]; exact g323
  have g352 : gQ T18 q_8_11 0 = (some q_1_14_11) := by rw [← eT18]; exact g324
  have g353 : gQ T18 q_8_11 1 = (some q_3_14_11) := by rw [← eT18]; exact g325
  have g354 : gQ T18 q_8_11 2 = (some q_8_14_11) := by rw [← eT18]; exact g326
  have g355 : gQ T18 q_8_11 3 = (some q_16_14_11) := by rw [← eT18]; exact g327
  have g356 : gQ T18 q_7 6 = (some q_8_11) := by rw [← eT18]; exact g328
  have g357 : gI T18 q_7 8 = 0 := by rw [← eT18]; exact (u2_k (by decide)).trans g329
  have g358 : gI T18 q_7 9 = 0 := by rw [← eT18]; exact (u2_k (by decide)).trans g330
  have g359 : gI T18 q_7 11 = 0 := by rw [← eT18]; exact (u2_k (by decide)).trans g331
  have g360 : gI T18 q_7 14 = 0 := by rw [← eT18]; exact (u2_k (by decide)).trans g332
  have g361 : gI T18 q_7 15 = 0 := by rw [← eT18]; exact (u2_k (by decide)).trans g333
  have g362 : gI T18 q_7 17 = 0 := by rw [← eT18]; exact (u2_k (by decide)).trans g334
  have g363 : gI T18 q_7 10 = 1000 := by rw [← eT18]; exact (u2_k (by decide)).trans g335
  have g364 : gI T18 q_7 13 = -1 := by rw [← eT18]; exact (u2_k (by decide)).trans g336
  have g365 : gI T18 q_7 16 = -1 := by rw [← eT18]; exact u2_s
  generalize eT19 : pI T18 q_7 0 (gI S x 2) = T19 at  ⊢
  have hE366 : ExtI S T19 := by rw [← eT19]; exact hE337.pI nq_7
  have rr367 : ∀ b, b ∈ gL S → ∀ k, gR T19 b k = gR S b k := fun b hb k => by rw [← eT19]; exact rr338 b hb k
  have w368 : ∀ k, gR T19 q_1_11 k = 0 := fun k => by rw [← eT19]; exact w339 k
  have o369 : isO T19 q_7 3 := by rw [← eT19]; exact o340
  have o370 : isO T19 q_8_11 4 := by rw [← eT19]; exact o341
  have a371 : isA T19 q_1_11 6 4 := by rw [← eT19]; exact a342
  have a372 : isA T19 q_3_11 21 5 := by rw [← eT19]; exact a343
  have a373 : isA T19 q_1_14_11 10 4 := by rw [← eT19]; exact a344
  have a374 : isA T19 q_3_14_11 11 4 := by rw [← eT19]; exact a345
  have a375 : isA T19 q_8_14_11 12 4 := by rw [← eT19]; exact a346
  have a376 : isA T19 q_16_14_11 20 4 := by rw [← eT19]; exact a347
  have p377 : ∀ k, gP T19 q_3_11 k = none := fun k => by rw [← eT19]; exact p348 k
  have g378 : gQ T19 q_7 7 = none := by rw [← eT19]; exact g349
  have g379 : gQ T19 q_7 4 = (some q_1_11) := by rw [← eT19]; exact g350
  have g380 : gQ T19 q_7 5 = (some q_3_11) := by rw [← eT19]; exact g351
  have g381 : gQ T19 q_8_11 0 = (some q_1_14_11) := by rw [← eT19]; exact g352
  have g382 : gQ T19 q_8_11 1 = (some q_3_14_11) := by rw [← eT19]; exact g353
  have g383 : gQ T19 q_8_11 2 = (some q_8_14_11) := by rw [← eT19]; exact g354
  have g384 : gQ T19 q_8_11 3 = (some q_16_14_11) := by rw [← eT19]; exact g355
  have g385 : gQ T19 q_7 6 = (some q_8_11) := by rw [← eT19]; exact g356
  have g386 : gI T19 q_7 8 = 0 := by rw [← eT19]; exact (u2_k (by decide)).trans g357
  have g387 : gI T19 q_7 9 = 0 := by rw [← eT19]; exact (u2_k (by decide)).trans g358
  have g388 : gI T19 q_7 11 = 0 := by rw [← eT19]; exact (u2_k (by decide)).trans g359
  have g389 : gI T19 q_7 14 = 0 := by rw [← eT19]; exact (u2_k (by decide)).trans g360
  have g390 : gI T19 q_7 15 = 0 := by rw [← eT19]; exact (u2_k (by decide)).trans g361
  have g391 : gI T19 q_7 17 = 0 := by rw [← eT19]; exact (u2_k (by decide)).trans g362
  have g392 : gI T19 q_7 10 = 1000 := by rw [← eT19]; exact (u2_k (by decide)).trans g363
  have g393 : gI T19 q_7 13 = -1 := by rw [← eT19]; exact (u2_k (by decide)).trans g364
  have g394 : gI T19 q_7 16 = -1 := by rw [← eT19]; exact (u2_k (by decide)).trans g365
  have g395 : gI T19 q_7 0 = (gI S x 2) := by rw [← eT19]; exact u2_s
  generalize eT20 : pI T19 q_7 1 p0 = T20 at  ⊢
  have hE396 : ExtI S T20 := by rw [← eT20]; exact hE366.pI nq_7
  have rr397 : ∀ b, b ∈ gL S → ∀ k, gR T20 b k = gR S b k := fun b hb k => by rw [← eT20]; exact rr367 b hb k
  have w398 : ∀ k, gR T20 q_1_11 k = 0 := fun k => by rw [← eT20]; exact w368 k
  have o399 : isO T20 q_7 3 := by rw [← eT20]; exact o369
  have o400 : isO T20 q_8_11 4 := by rw [← eT20]; exact o370
  have a401 : isA T20 q_1_11 6 4 := by rw [← eT20]; exact a371
  have a402 : isA T20 q_3_11 21 5 := by rw [← eT20]; exact a372
  have a403 : isA T20 q_1_14_11 10 4 := by rw [← eT20]; exact a373
  have a404 : isA T20 q_3_14_11 11 4 := by rw [← eT20]; exact a374
  have a405 : isA T20 q_8_14_11 12 4 := by rw [← eT20]; exact a375
  have a406 : isA T20 q_16_14_11 20 4 := by rw [← eT20]; exact a376
  have p407 : ∀ k, gP T20 q_3_11 k = none := fun k => by rw [← eT20]; exact p377 k
  have g408 : gQ T20 q_7 7 = none := by rw [← eT20]; exact g378
  have g409 : gQ T20 q_7 4 = (some q_1_11) := by rw [← eT20]; exact g379
  have g410 : gQ T20 q_7 5 = (some q_3_11) := by rw [← eT20]; exact g380
  have g411 : gQ T20 q_8_11 0 = (some q_1_14_11) := by rw [← eT20]; exact g381
  have g412 : gQ T20 q_8_11 1 = (some q_3_14_11) := by rw [← eT20]; exact g382
  have g413 : gQ T20 q_8_11 2 = (some q_8_14_11) := by rw [← eT20]; exact g383
  have g414 : gQ T20 q_8_11 3 = (some q_16_14_11) := by rw [← eT20]; exact g384
  have g415 : gQ T20 q_7 6 = (some q_8_11) := by rw [← eT20]; exact g385
  have g416 : gI T20 q_7 8 = 0 := by rw [← eT20]; exact (u2_k (by decide)).trans g386
  have g417 : gI T20 q_7 9 = 0 := by rw [← eT20]; exact (u2_k (by decide)).trans g387
  have g418 : gI T20 q_7 11 = 0 := by rw [← eT20]; exact (u2_k (by decide)).trans g388
  have g419 : gI T20 q_7 14 = 0 := by rw [← eT20]; exact (u2_k (by decide)).trans g389
  have g420 : gI T20 q_7 15 = 0 := by rw [← eT20]; exact (u2_k (by decide)).trans g390
  have g421 : gI T20 q_7 17 = 0 := by rw [← eT20]; exact (u2_k (by decide)).trans g391
  have g422 : gI T20 q_7 10 = 1000 := by rw [← eT20]; exact (u2_k (by decide)).trans g392
  have g423 : gI T20 q_7 13 = -1 := by rw [← eT20]; exact (u2_k (by decide)).trans g393
  have g424 : gI T20 q_7 16 = -1 := by rw [← eT20]; exact (u2_k (by decide)).trans g394
  have g425 : gI T20 q_7 0 = (gI S x 2) := by rw [← eT20]; exact (u2_k (by decide)).trans g395
  have g426 : gI T20 q_7 1 = p0 := by rw [← eT20]; exact u2_s
  generalize eT21 : pI T20 q_7 2 p1 = T21 at  ⊢
  have hE427 : ExtI S T21 := by rw [← eT21]; exact hE396.pI nq_7
  have rr428 : ∀ b, b ∈ gL S → ∀ k, gR T21 b k = gR S b k := fun b hb k => by rw [← eT21]; exact rr397 b hb k
  have w429 : ∀ k, gR T21 q_1_11 k = 0 := fun k => by rw [← eT21]; exact w398 k
  have o430 : isO T21 q_7 3 := by rw [← eT21]; exact o399
  have o431 : isO T21 q_8_11 4 := by rw [← eT21]; exact o400
  have a432 : isA T21 q_1_11 6 4 := by rw [← eT21]; exact a401
  have a433 : isA T21 q_3_11 21 5 := by rw [← eT21]; exact a402
  have a434 : isA T21 q_1_14_11 10 4 := by rw [← eT21]; exact a403
  have a435 : isA T21 q_3_14_11 11 4 := by rw [← eT21]; exact a404
  have a436 : isA T21 q_8_14_11 12 4 := by rw [← eT21]; exact a405
  have a437 : isA T21 q_16_14_11 20 4 := by rw [← eT21]; exact a406
  have p438 : ∀ k, gP T21 q_3_11 k = none := fun k => by rw [← eT21]; exact p407 k
  have g439 : gQ T21 q_7 7 = none := by rw [← eT21]; exact g408
  have g440 : gQ T21 q_7 4 = (some q_1_11) := by rw [← eT21]; exact g409
  have g441 : gQ T21 q_7 5 = (some q_3_11) := by rw [← eT21]; exact g410
  have g442 : gQ T21 q_8_11 0 = (some q_1_14_11) := by rw [← eT21]; exact g411
  have g443 : gQ T21 q_8_11 1 = (some q_3_14_11) := by rw [← eT21]; exact g412
  have g444 : gQ T21 q_8_11 2 = (some q_8_14_11) := by rw [← eT21]; exact g413
  have g445 : gQ T21 q_8_11 3 = (some q_16_14_11) := by rw [← eT21]; exact g414
  have g446 : gQ T21 q_7 6 = (some q_8_11) := by rw [← eT21]; exact g415
  have g447 : gI T21 q_7 8 = 0 := by rw [← eT21]; exact (u2_k (by decide)).trans g416
  have g448 : gI T21 q_7 9 = 0 := by rw [← eT21]; exact (u2_k (by decide)).trans g417
  have g449 : gI T21 q_7 11 = 0 := by rw [← eT21]; exact (u2_k (by decide)).trans g418
  have g450 : gI T21 q_7 14 = 0 := by rw [← eT21]; exact (u2_k (by decide)).trans g419
  have g451 : gI T21 q_7 15 = 0 := by rw [← eT21]; exact (u2_k (by decide)).trans g420
  have g452 : gI T21 q_7 17 = 0 := by rw [← eT21]; exact (u2_k (by decide)).trans g421
  have g453 : gI T21 q_7 10 = 1000 := by rw [← eT21]; exact (u2_k (by decide)).trans g422
  have g454 : gI T21 q_7 13 = -1 := by rw [← eT21]; exact (u2_k (by decide)).trans g423
  have g455 : gI T21 q_7 16 = -1 := by rw [← eT21]; exact (u2_k (by decide)).trans g424
  have g456 : gI T21 q_7 0 = (gI S x 2) := by rw [← eT21]; exact (u2_k (by decide)).trans g425
  have g457 : gI T21 q_7 1 = p0 := by rw [← eT21]; exact (u2_k (by decide)).trans g426
  have g458 : gI T21 q_7 2 = p1 := by rw [← eT21]; exact u2_s
  generalize eT22 : pI T21 q_7 3 p2 = T22 at  ⊢
  have hE459 : ExtI S T22 := by rw [← eT22]; exact hE427.pI nq_7
  have rr460 : ∀ b, b ∈ gL S → ∀ k, gR T22 b k = gR S b k := fun b hb k => by rw [← eT22]; exact rr428 b hb k
  have w461 : ∀ k, gR T22 q_1_11 k = 0 := fun k => by rw [← eT22]; exact w429 k
  have o462 : isO T22 q_7 3 := by rw [← eT22]; exact o430
  have o463 : isO T22 q_8_11 4 := by rw [← eT22]; exact o431
  have a464 : isA T22 q_1_11 6 4 := by rw [← eT22]; exact a432
  have a465 : isA T22 q_3_11 21 5 := by rw [← eT22]; exact a433
  have a466 : isA T22 q_1_14_11 10 4 := by rw [← eT22]; exact a434
  have a467 : isA T22 q_3_14_11 11 4 := by rw [← eT22]; exact a435
  have a468 : isA T22 q_8_14_11 12 4 := by rw [← eT22]; exact a436
  have a469 : isA T22 q_16_14_11 20 4 := by rw [← eT22]; exact a437
  have p470 : ∀ k, gP T22 q_3_11 k = none := fun k => by rw [← eT22]; exact p438 k
  have g471 : gQ T22 q_7 7 = none := by rw [← eT22]; exact g439
  have g472 : gQ T22 q_7 4 = (some q_1_11) := by rw [← eT22]; exact g440
  have g473 : gQ T22 q_7 5 = (some q_3_11) := by rw [← eT22]; exact g441
  have g474 : gQ T22 q_8_11 0 = (some q_1_14_11) := by rw [← eT22]; exact g442
  have g475 : gQ T22 q_8_11 1 = (some q_3_14_11) := by rw [← eT22]; exact g443
  have g476 : gQ T22 q_8_11 2 = (some q_8_14_11) := by rw [← eT22]; exact g444
  have g477 : gQ T22 q_8_11 3 = (some q_16_14_11) := by rw [← eT22]; exact g445
  have g478 : gQ T22 q_7 6 = (some q_8_11) := by rw [← eT22]; exact g446
  have g479 : gI T22 q_7 8 = 0 := by rw [← eT22]; exact (u2_k (by decide)).trans g447
  have g480 : gI T22 q_7 9 = 0 := by rw [← eT22]; exact (u2_k (by decide)).trans g448
  have g481 : gI T22 q_7 11 = 0 := by rw [← eT22]; exact (u2_k (by decide)).trans g449
  have g482 : gI T22 q_7 14 = 0 := by rw [← eT22]; exact (u2_k (by decide)).trans g450
  have g483 : gI T22 q_7 15 = 0 := by rw [← eT22]; exact (u2_k (by decide)).trans g451
  have g484 : gI T22 q_7 17 = 0 := by rw [← eT22]; exact (u2_k (by decide)).trans g452
  have g485 : gI T22 q_7 10 = 1000 := by rw [← eT22]; exact (u2_k (by decide)).trans g453
  have g486 : gI T22 q_7 13 = -1 := by rw [← eT22]; exact (u2_k (by decide)).trans g454
  have g487 : gI T22 q_7 16 = -1 := by rw [← eT22]; exact (u2_k (by decide)).trans g455
  have g488 : gI T22 q_7 0 = (gI S x 2) := by rw [← eT22]; exact (u2_k (by decide)).trans g456
  have g489 : gI T22 q_7 1 = p0 := by rw [← eT22]; exact (u2_k (by decide)).trans g457
  have g490 : gI T22 q_7 2 = p1 := by rw [← eT22]; exact (u2_k (by decide)).trans g458
  have g491 : gI T22 q_7 3 = p2 := by rw [← eT22]; exact u2_s
  generalize eT23 : pR T22 q_1_11 ((0 : Int32).toNatClampNeg) 1000 = T23 at  ⊢
  have hE492 : ExtI S T23 := by rw [← eT23]; exact hE459.pR
  have rr493 : ∀ b, b ∈ gL S → ∀ k, gR T23 b k = gR S b k := fun b hb k => by rw [← eT23]; exact (u2_a (ne_new hb nq_1_11)).trans (rr460 b hb k)
  have w494 : ∀ k, gR T23 q_1_11 k = (if k = 0 then 1000 else 0) := fun k => by
    rw [← eT23]
    by_cases hk : k = 0
    · subst hk; rw [if_pos rfl]; exact u2_s
    · rw [if_neg hk]; exact (u2_k hk).trans (w461 k)
  have o495 : isO T23 q_7 3 := by rw [← eT23]; exact o462
  have o496 : isO T23 q_8_11 4 := by rw [← eT23]; exact o463
  have a497 : isA T23 q_1_11 6 4 := by rw [← eT23]; exact a464
  have a498 : isA T23 q_3_11 21 5 := by rw [← eT23]; exact a465
  have a499 : isA T23 q_1_14_11 10 4 := by rw [← eT23]; exact a466
  have a500 : isA T23 q_3_14_11 11 4 := by rw [← eT23]; exact a467
  have a501 : isA T23 q_8_14_11 12 4 := by rw [← eT23]; exact a468
  have a502 : isA T23 q_16_14_11 20 4 := by rw [← eT23]; exact a469
  have p503 : ∀ k, gP T23 q_3_11 k = none := fun k => by rw [← eT23]; exact p470 k
  have g504 : gQ T23 q_7 7 = none := by rw [← eT23]; exact g471
  have g505 : gQ T23 q_7 4 = (some q_1_11) := by rw [← eT23]; exact g472
  have g506 : gQ T23 q_7 5 = (some q_3_11) := by rw [← eT23]; exact g473
  have g507 : gQ T23 q_8_11 0 = (some q_1_14_11) := by rw [← eT23]; exact g474
  have g508 : gQ T23 q_8_11 1 = (some q_3_14_11) := by rw [← eT23]; exact g475
  have g509 : gQ T23 q_8_11 2 = (some q_8_14_11) := by rw [← eT23]; exact g476
  have g510 : gQ T23 q_8_11 3 = (some q_16_14_11) := by rw [← eT23]; exact g477
  have g511 : gQ T23 q_7 6 = (some q_8_11) := by rw [← eT23]; exact g478
  have g512 : gI T23 q_7 8 = 0 := by rw [← eT23]; exact g479
  have g513 : gI T23 q_7 9 = 0 := by rw [← eT23]; exact g480
  have g514 : gI T23 q_7 11 = 0 := by rw [← eT23]; exact g481
  have g515 : gI T23 q_7 14 = 0 := by rw [← eT23]; exact g482
  have g516 : gI T23 q_7 15 = 0 := by rw [← eT23]; exact g483
  have g517 : gI T23 q_7 17 = 0 := by rw [← eT23]; exact g484
  have g518 : gI T23 q_7 10 = 1000 := by rw [← eT23]; exact g485
  have g519 : gI T23 q_7 13 = -1 := by rw [← eT23]; exact g486
  have g520 : gI T23 q_7 16 = -1 := by rw [← eT23]; exact g487
  have g521 : gI T23 q_7 0 = (gI S x 2) := by rw [← eT23]; exact g488
  have g522 : gI T23 q_7 1 = p0 := by rw [← eT23]; exact g489
  have g523 : gI T23 q_7 2 = p1 := by rw [← eT23]; exact g490
  have g524 : gI T23 q_7 3 = p2 := by rw [← eT23]; exact g491
  have hs7 : okSw T23 q_7 := ⟨o495, ⟨q_1_11, g505, a497⟩, ⟨q_3_11, g506, a498, fun k hk u hu => by rw [p503 k] at hu; cases hu⟩, ⟨0, Nat.zero_le _, g504⟩, ⟨q_8_11, g511, o496, ⟨q_1_14_11, g507, a499⟩, ⟨q_3_14_11, g508, a500⟩, ⟨q_8_14_11, g509, a501⟩, ⟨q_16_14_11, g510, a502⟩⟩, Or.inl g513⟩
  refine ⟨T23, q_7, rfl, hE492, nq_7, hs7, rr493, g521, ⟨g522, g523, g524, g512, g513, g518, g514, g519, g515, g516, g520, g517⟩, ?_, ?_, ?_, ?_, g504⟩
  · intro v; rw [show wtA T23 q_7 = q_1_11 by simp [wtA, g505]]; exact w494 v
  · rw [show wtA T23 q_7 = q_1_11 by simp [wtA, g505]]; exact nq_1_11
  · intro k; rw [show rlA T23 q_7 = q_3_11 by simp [rlA, g506]]; exact p503 k
  · rw [show rlA T23 q_7 = q_3_11 by simp [rlA, g506]]; exact nq_3_11
