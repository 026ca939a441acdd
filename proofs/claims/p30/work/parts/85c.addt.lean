/-! what add makes, with the tally -/
abbrev tyA (S : Pool) (a : Nat) : Nat := (gQ S a 6).getD 0
abbrev tkA (S : Pool) (a k : Nat) : Nat := (gQ S (tyA S a) k).getD 0
set_option maxRecDepth 100000 in
set_option maxHeartbeats 4000000 in
theorem add_facts2 {p0 p1 p2 : Int32} {S X : Pool} {x ar : Nat} (hp : ∃ q_7 q_1_11 q_3_11 q_8_11 q_1_14_11 q_3_14_11 q_8_14_11 q_16_14_11, q_7 ∉ gL S ∧ q_1_11 ∉ gL (pW S q_7 3 0) ∧ q_3_11 ∉ gL (pQ (pW (pW S q_7 3 0) q_1_11 6 4) q_7 4 (some q_1_11)) ∧ q_8_11 ∉ gL (pQ (pW (pQ (pW (pW S q_7 3 0) q_1_11 6 4) q_7 4 (some q_1_11)) q_3_11 21 5) q_7 5 (some q_3_11)) ∧ q_1_14_11 ∉ gL (pW (pQ (pW (pQ (pW (pW S q_7 3 0) q_1_11 6 4) q_7 4 (some q_1_11)) q_3_11 21 5) q_7 5 (some q_3_11)) q_8_11 4 0) ∧ q_3_14_11 ∉ gL (pQ (pW (pW (pQ (pW (pQ (pW (pW S q_7 3 0) q_1_11 6 4) q_7 4 (some q_1_11)) q_3_11 21 5) q_7 5 (some q_3_11)) q_8_11 4 0) q_1_14_11 10 4) q_8_11 0 (some q_1_14_11)) ∧ q_8_14_11 ∉ gL (pQ (pW (pQ (pW (pW (pQ (pW (pQ (pW (pW S q_7 3 0) q_1_11 6 4) q_7 4 (some q_1_11)) q_3_11 21 5) q_7 5 (some q_3_11)) q_8_11 4 0) q_1_14_11 10 4) q_8_11 0 (some q_1_14_11)) q_3_14_11 11 4) q_8_11 1 (some q_3_14_11)) ∧ q_16_14_11 ∉ gL (pQ (pW (pQ (pW (pQ (pW (pW (pQ (pW (pQ (pW (pW S q_7 3 0) q_1_11 6 4) q_7 4 (some q_1_11)) q_3_11 21 5) q_7 5 (some q_3_11)) q_8_11 4 0) q_1_14_11 10 4) q_8_11 0 (some q_1_14_11)) q_3_14_11 11 4) q_8_11 1 (some q_3_14_11)) q_8_14_11 12 4) q_8_11 2 (some q_8_14_11)) ∧ X = pI (pP (pR (pI (pI (pI (pI (pI (pI (pI (pQ (pQ (pW (pQ (pW (pQ (pW (pQ (pW (pW (pQ (pW (pQ (pW (pW S q_7 3 0) q_1_11 6 4) q_7 4 (some q_1_11)) q_3_11 21 5) q_7 5 (some q_3_11)) q_8_11 4 0) q_1_14_11 10 4) q_8_11 0 (some q_1_14_11)) q_3_14_11 11 4) q_8_11 1 (some q_3_14_11)) q_8_14_11 12 4) q_8_11 2 (some q_8_14_11)) q_16_14_11 20 4) q_8_11 3 (some q_16_14_11)) q_7 6 (some q_8_11)) q_7 10 1000) q_7 13 (-1)) q_7 16 (-1)) q_7 0 (gI S x 2)) q_7 1 p0) q_7 2 p1) q_7 3 p2) q_1_11 ((0 : Int32).toNatClampNeg) 1000) ar ((gI S x 2).toNatClampNeg) (some q_7)) x 2 ((gI S x 2) + 1)) : ∃ T q, X = pI (pP T ar (gI S x 2).toNatClampNeg (some q)) x 2 (gI S x 2 + 1) ∧ ExtI S T ∧ q ∉ gL S ∧ okSw T q ∧ (∀ b, b ∈ gL S → ∀ k, gR T b k = gR S b k) ∧ gI T q 0 = gI S x 2 ∧ (gI T q 1 = p0 ∧ gI T q 2 = p1 ∧ gI T q 3 = p2 ∧ gI T q 8 = 0 ∧ gI T q 9 = 0 ∧ gI T q 10 = 1000 ∧ gI T q 11 = 0 ∧ gI T q 13 = -1 ∧ gI T q 14 = 0 ∧ gI T q 15 = 0 ∧ gI T q 16 = -1 ∧ gI T q 17 = 0) ∧ (∀ v, gR T (wtA T q) v = if v = 0 then 1000 else 0) ∧ wtA T q ∉ gL S ∧ (∀ k, gP T (rlA T q) k = none) ∧ rlA T q ∉ gL S ∧ gQ T q 7 = none ∧ tyA T q ∉ gL S ∧ (∀ k, k < 4 → tkA T q k ∉ gL S) ∧ (∀ v, gR T (tkA T q 0) v = 0 ∧ gR T (tkA T q 1) v = 0 ∧ gR T (tkA T q 2) v = 0 ∧ gJ T (tkA T q 3) v = 0) ∧ gI T (tyA T q) 4 = 0 ∧ ∀ b, b ∈ gL S → ∀ k, gJ T b k = gJ S b k := by
  obtain ⟨q_7, q_1_11, q_3_11, q_8_11, q_1_14_11, q_3_14_11, q_8_14_11, q_16_14_11, fq_7, fq_1_11, fq_3_11, fq_8_11, fq_1_14_11, fq_3_14_11, fq_8_14_11, fq_16_14_11, rfl⟩ := hp
  have hE0 : ExtI S S := ExtI.rf
  have hJ0 : ∀ b, b ∈ gL S → ∀ k, gJ S b k = gJ S b k := fun b hb k => rfl
  have hR0 : ∀ b, b ∈ gL S → ∀ k, gR S b k = gR S b k := fun b hb k => rfl
  generalize eT1 : pW S q_7 3 0 = T1 at fq_1_11 fq_3_11 fq_8_11 fq_1_14_11 fq_3_14_11 fq_8_14_11 fq_16_14_11 ⊢
  have nq_7 : q_7 ∉ gL S := hE0.nm fq_7
  have hE1 : ExtI S T1 := by rw [← eT1]; exact hE0.new fq_7
  have rr2 : ∀ b, b ∈ gL S → ∀ k, gR T1 b k = gR S b k := fun b hb k => by rw [← eT1]; exact (gR_new (hE0.1 b hb).1.1 fq_7).trans (hR0 b hb k)
  have rj3 : ∀ b, b ∈ gL S → ∀ k, gJ T1 b k = gJ S b k := fun b hb k => by rw [← eT1]; exact (gJ_new (hE0.1 b hb).1.1 fq_7).trans (hJ0 b hb k)
  have o4 : isO T1 q_7 3 := by rw [← eT1]; exact isO_q
  have g5 : gQ T1 q_7 7 = none := by rw [← eT1]; exact gQ_q
  have g6 : gI T1 q_7 8 = 0 := by rw [← eT1]; exact gI_q
  have g7 : gI T1 q_7 9 = 0 := by rw [← eT1]; exact gI_q
  have g8 : gI T1 q_7 11 = 0 := by rw [← eT1]; exact gI_q
  have g9 : gI T1 q_7 14 = 0 := by rw [← eT1]; exact gI_q
  have g10 : gI T1 q_7 15 = 0 := by rw [← eT1]; exact gI_q
  have g11 : gI T1 q_7 17 = 0 := by rw [← eT1]; exact gI_q
  generalize eT2 : pW T1 q_1_11 6 4 = T2 at fq_3_11 fq_8_11 fq_1_14_11 fq_3_14_11 fq_8_14_11 fq_16_14_11 ⊢
  have nq_1_11 : q_1_11 ∉ gL S := hE1.nm fq_1_11
  have hE12 : ExtI S T2 := by rw [← eT2]; exact hE1.new fq_1_11
  have rr13 : ∀ b, b ∈ gL S → ∀ k, gR T2 b k = gR S b k := fun b hb k => by rw [← eT2]; exact (gR_new (hE1.1 b hb).1.1 fq_1_11).trans (rr2 b hb k)
  have rj14 : ∀ b, b ∈ gL S → ∀ k, gJ T2 b k = gJ S b k := fun b hb k => by rw [← eT2]; exact (gJ_new (hE1.1 b hb).1.1 fq_1_11).trans (rj3 b hb k)
  have o15 : isO T2 q_7 3 := by rw [← eT2]; exact isO_new o4 fq_1_11
  have g16 : gQ T2 q_7 7 = none := by rw [← eT2]; exact (gQ_new o4.1 fq_1_11).trans g5
  have g17 : gI T2 q_7 8 = 0 := by rw [← eT2]; exact (gI_new o4.1 fq_1_11).trans g6
  have g18 : gI T2 q_7 9 = 0 := by rw [← eT2]; exact (gI_new o4.1 fq_1_11).trans g7
  have g19 : gI T2 q_7 11 = 0 := by rw [← eT2]; exact (gI_new o4.1 fq_1_11).trans g8
  have g20 : gI T2 q_7 14 = 0 := by rw [← eT2]; exact (gI_new o4.1 fq_1_11).trans g9
  have g21 : gI T2 q_7 15 = 0 := by rw [← eT2]; exact (gI_new o4.1 fq_1_11).trans g10
  have g22 : gI T2 q_7 17 = 0 := by rw [← eT2]; exact (gI_new o4.1 fq_1_11).trans g11
  have a23 : isA T2 q_1_11 6 4 := by rw [← eT2]; exact isA_q
  have w24 : ∀ k, gR T2 q_1_11 k = 0 := fun k => by rw [← eT2]; exact gR_q
  generalize eT3 : pQ T2 q_7 4 (some q_1_11) = T3 at fq_3_11 fq_8_11 fq_1_14_11 fq_3_14_11 fq_8_14_11 fq_16_14_11 ⊢
  have hE25 : ExtI S T3 := by rw [← eT3]; exact hE12.pQ nq_7
  have rr26 : ∀ b, b ∈ gL S → ∀ k, gR T3 b k = gR S b k := fun b hb k => by rw [← eT3]; exact rr13 b hb k
  have rj27 : ∀ b, b ∈ gL S → ∀ k, gJ T3 b k = gJ S b k := fun b hb k => by rw [← eT3]; exact rj14 b hb k
  have w28 : ∀ k, gR T3 q_1_11 k = 0 := fun k => by rw [← eT3]; exact w24 k
  have o29 : isO T3 q_7 3 := by rw [← eT3]; exact o15
  have a30 : isA T3 q_1_11 6 4 := by rw [← eT3]; exact a23
  have g31 : gQ T3 q_7 7 = none := by rw [← eT3]; exact (u2_k (by decide)).trans g16
  have g32 : gI T3 q_7 8 = 0 := by rw [← eT3]; exact g17
  have g33 : gI T3 q_7 9 = 0 := by rw [← eT3]; exact g18
  have g34 : gI T3 q_7 11 = 0 := by rw [← eT3]; exact g19
  have g35 : gI T3 q_7 14 = 0 := by rw [← eT3]; exact g20
  have g36 : gI T3 q_7 15 = 0 := by rw [← eT3]; exact g21
  have g37 : gI T3 q_7 17 = 0 := by rw [← eT3]; exact g22
  have g38 : gQ T3 q_7 4 = (some q_1_11) := by rw [← eT3]; exact u2_s
  generalize eT4 : pW T3 q_3_11 21 5 = T4 at fq_8_11 fq_1_14_11 fq_3_14_11 fq_8_14_11 fq_16_14_11 ⊢
  have nq_3_11 : q_3_11 ∉ gL S := hE25.nm fq_3_11
  have hE39 : ExtI S T4 := by rw [← eT4]; exact hE25.new fq_3_11
  have rr40 : ∀ b, b ∈ gL S → ∀ k, gR T4 b k = gR S b k := fun b hb k => by rw [← eT4]; exact (gR_new (hE25.1 b hb).1.1 fq_3_11).trans (rr26 b hb k)
  have rj41 : ∀ b, b ∈ gL S → ∀ k, gJ T4 b k = gJ S b k := fun b hb k => by rw [← eT4]; exact (gJ_new (hE25.1 b hb).1.1 fq_3_11).trans (rj27 b hb k)
  have w42 : ∀ k, gR T4 q_1_11 k = 0 := fun k => by rw [← eT4]; exact (gR_new a30.1 fq_3_11).trans (w28 k)
  have o43 : isO T4 q_7 3 := by rw [← eT4]; exact isO_new o29 fq_3_11
  have g44 : gQ T4 q_7 7 = none := by rw [← eT4]; exact (gQ_new o29.1 fq_3_11).trans g31
  have g45 : gQ T4 q_7 4 = (some q_1_11) := by rw [← eT4]; exact (gQ_new o29.1 fq_3_11).trans g38
  have g46 : gI T4 q_7 8 = 0 := by rw [← eT4]; exact (gI_new o29.1 fq_3_11).trans g32
  have g47 : gI T4 q_7 9 = 0 := by rw [← eT4]; exact (gI_new o29.1 fq_3_11).trans g33
  have g48 : gI T4 q_7 11 = 0 := by rw [← eT4]; exact (gI_new o29.1 fq_3_11).trans g34
  have g49 : gI T4 q_7 14 = 0 := by rw [← eT4]; exact (gI_new o29.1 fq_3_11).trans g35
  have g50 : gI T4 q_7 15 = 0 := by rw [← eT4]; exact (gI_new o29.1 fq_3_11).trans g36
  have g51 : gI T4 q_7 17 = 0 := by rw [← eT4]; exact (gI_new o29.1 fq_3_11).trans g37
  have a52 : isA T4 q_1_11 6 4 := by rw [← eT4]; exact isA_new a30 fq_3_11
  have a53 : isA T4 q_3_11 21 5 := by rw [← eT4]; exact isA_q
  have p54 : ∀ k, gP T4 q_3_11 k = none := fun k => by rw [← eT4]; exact gP_q
  generalize eT5 : pQ T4 q_7 5 (some q_3_11) = T5 at fq_8_11 fq_1_14_11 fq_3_14_11 fq_8_14_11 fq_16_14_11 ⊢
  have hE55 : ExtI S T5 := by rw [← eT5]; exact hE39.pQ nq_7
  have rr56 : ∀ b, b ∈ gL S → ∀ k, gR T5 b k = gR S b k := fun b hb k => by rw [← eT5]; exact rr40 b hb k
  have rj57 : ∀ b, b ∈ gL S → ∀ k, gJ T5 b k = gJ S b k := fun b hb k => by rw [← eT5]; exact rj41 b hb k
  have w58 : ∀ k, gR T5 q_1_11 k = 0 := fun k => by rw [← eT5]; exact w42 k
  have o59 : isO T5 q_7 3 := by rw [← eT5]; exact o43
  have a60 : isA T5 q_1_11 6 4 := by rw [← eT5]; exact a52
  have a61 : isA T5 q_3_11 21 5 := by rw [← eT5]; exact a53
  have p62 : ∀ k, gP T5 q_3_11 k = none := fun k => by rw [← eT5]; exact p54 k
  have g63 : gQ T5 q_7 7 = none := by rw [← eT5]; exact (u2_k (by decide)).trans g44
  have g64 : gQ T5 q_7 4 = (some q_1_11) := by rw [← eT5]; exact (u2_k (by decide)).trans g45
  have g65 : gI T5 q_7 8 = 0 := by rw [← eT5]; exact g46
  have g66 : gI T5 q_7 9 = 0 := by rw [← eT5]; exact g47
  have g67 : gI T5 q_7 11 = 0 := by rw [← eT5]; exact g48
  have g68 : gI T5 q_7 14 = 0 := by rw [← eT5]; exact g49
  have g69 : gI T5 q_7 15 = 0 := by rw [← eT5]; exact g50
  have g70 : gI T5 q_7 17 = 0 := by rw [← eT5]; exact g51
  have g71 : gQ T5 q_7 5 = (some q_3_11) := by rw [← eT5]; exact u2_s
  generalize eT6 : pW T5 q_8_11 4 0 = T6 at fq_1_14_11 fq_3_14_11 fq_8_14_11 fq_16_14_11 ⊢
  have nq_8_11 : q_8_11 ∉ gL S := hE55.nm fq_8_11
  have hE72 : ExtI S T6 := by rw [← eT6]; exact hE55.new fq_8_11
  have rr73 : ∀ b, b ∈ gL S → ∀ k, gR T6 b k = gR S b k := fun b hb k => by rw [← eT6]; exact (gR_new (hE55.1 b hb).1.1 fq_8_11).trans (rr56 b hb k)
  have rj74 : ∀ b, b ∈ gL S → ∀ k, gJ T6 b k = gJ S b k := fun b hb k => by rw [← eT6]; exact (gJ_new (hE55.1 b hb).1.1 fq_8_11).trans (rj57 b hb k)
  have w75 : ∀ k, gR T6 q_1_11 k = 0 := fun k => by rw [← eT6]; exact (gR_new a60.1 fq_8_11).trans (w58 k)
  have o76 : isO T6 q_7 3 := by rw [← eT6]; exact isO_new o59 fq_8_11
  have g77 : gQ T6 q_7 7 = none := by rw [← eT6]; exact (gQ_new o59.1 fq_8_11).trans g63
  have g78 : gQ T6 q_7 4 = (some q_1_11) := by rw [← eT6]; exact (gQ_new o59.1 fq_8_11).trans g64
  have g79 : gQ T6 q_7 5 = (some q_3_11) := by rw [← eT6]; exact (gQ_new o59.1 fq_8_11).trans g71
  have g80 : gI T6 q_7 8 = 0 := by rw [← eT6]; exact (gI_new o59.1 fq_8_11).trans g65
  have g81 : gI T6 q_7 9 = 0 := by rw [← eT6]; exact (gI_new o59.1 fq_8_11).trans g66
  have g82 : gI T6 q_7 11 = 0 := by rw [← eT6]; exact (gI_new o59.1 fq_8_11).trans g67
  have g83 : gI T6 q_7 14 = 0 := by rw [← eT6]; exact (gI_new o59.1 fq_8_11).trans g68
  have g84 : gI T6 q_7 15 = 0 := by rw [← eT6]; exact (gI_new o59.1 fq_8_11).trans g69
  have g85 : gI T6 q_7 17 = 0 := by rw [← eT6]; exact (gI_new o59.1 fq_8_11).trans g70
  have a86 : isA T6 q_1_11 6 4 := by rw [← eT6]; exact isA_new a60 fq_8_11
  have a87 : isA T6 q_3_11 21 5 := by rw [← eT6]; exact isA_new a61 fq_8_11
  have p88 : ∀ k, gP T6 q_3_11 k = none := fun k => by rw [← eT6]; exact (gP_new a61.1 fq_8_11).trans (p62 k)
  have o89 : isO T6 q_8_11 4 := by rw [← eT6]; exact isO_q
  have g90 : gI T6 q_8_11 4 = 0 := by rw [← eT6]; exact gI_q
  generalize eT7 : pW T6 q_1_14_11 10 4 = T7 at fq_3_14_11 fq_8_14_11 fq_16_14_11 ⊢
  have nq_1_14_11 : q_1_14_11 ∉ gL S := hE72.nm fq_1_14_11
  have hE91 : ExtI S T7 := by rw [← eT7]; exact hE72.new fq_1_14_11
  have rr92 : ∀ b, b ∈ gL S → ∀ k, gR T7 b k = gR S b k := fun b hb k => by rw [← eT7]; exact (gR_new (hE72.1 b hb).1.1 fq_1_14_11).trans (rr73 b hb k)
  have rj93 : ∀ b, b ∈ gL S → ∀ k, gJ T7 b k = gJ S b k := fun b hb k => by rw [← eT7]; exact (gJ_new (hE72.1 b hb).1.1 fq_1_14_11).trans (rj74 b hb k)
  have w94 : ∀ k, gR T7 q_1_11 k = 0 := fun k => by rw [← eT7]; exact (gR_new a86.1 fq_1_14_11).trans (w75 k)
  have o95 : isO T7 q_7 3 := by rw [← eT7]; exact isO_new o76 fq_1_14_11
  have g96 : gQ T7 q_7 7 = none := by rw [← eT7]; exact (gQ_new o76.1 fq_1_14_11).trans g77
  have g97 : gQ T7 q_7 4 = (some q_1_11) := by rw [← eT7]; exact (gQ_new o76.1 fq_1_14_11).trans g78
  have g98 : gQ T7 q_7 5 = (some q_3_11) := by rw [← eT7]; exact (gQ_new o76.1 fq_1_14_11).trans g79
  have g99 : gI T7 q_7 8 = 0 := by rw [← eT7]; exact (gI_new o76.1 fq_1_14_11).trans g80
  have g100 : gI T7 q_7 9 = 0 := by rw [← eT7]; exact (gI_new o76.1 fq_1_14_11).trans g81
  have g101 : gI T7 q_7 11 = 0 := by rw [← eT7]; exact (gI_new o76.1 fq_1_14_11).trans g82
  have g102 : gI T7 q_7 14 = 0 := by rw [← eT7]; exact (gI_new o76.1 fq_1_14_11).trans g83
  have g103 : gI T7 q_7 15 = 0 := by rw [← eT7]; exact (gI_new o76.1 fq_1_14_11).trans g84
  have g104 : gI T7 q_7 17 = 0 := by rw [← eT7]; exact (gI_new o76.1 fq_1_14_11).trans g85
  have o105 : isO T7 q_8_11 4 := by rw [← eT7]; exact isO_new o89 fq_1_14_11
  have g106 : gI T7 q_8_11 4 = 0 := by rw [← eT7]; exact (gI_new o89.1 fq_1_14_11).trans g90
  have a107 : isA T7 q_1_11 6 4 := by rw [← eT7]; exact isA_new a86 fq_1_14_11
  have a108 : isA T7 q_3_11 21 5 := by rw [← eT7]; exact isA_new a87 fq_1_14_11
  have p109 : ∀ k, gP T7 q_3_11 k = none := fun k => by rw [← eT7]; exact (gP_new a87.1 fq_1_14_11).trans (p88 k)
  have a110 : isA T7 q_1_14_11 10 4 := by rw [← eT7]; exact isA_q
  have w111 : ∀ k, gR T7 q_1_14_11 k = 0 := fun k => by rw [← eT7]; exact gR_q
  generalize eT8 : pQ T7 q_8_11 0 (some q_1_14_11) = T8 at fq_3_14_11 fq_8_14_11 fq_16_14_11 ⊢
  have hE112 : ExtI S T8 := by rw [← eT8]; exact hE91.pQ nq_8_11
  have rr113 : ∀ b, b ∈ gL S → ∀ k, gR T8 b k = gR S b k := fun b hb k => by rw [← eT8]; exact rr92 b hb k
  have rj114 : ∀ b, b ∈ gL S → ∀ k, gJ T8 b k = gJ S b k := fun b hb k => by rw [← eT8]; exact rj93 b hb k
  have w115 : ∀ k, gR T8 q_1_11 k = 0 := fun k => by rw [← eT8]; exact w94 k
  have w116 : ∀ k, gR T8 q_1_14_11 k = 0 := fun k => by rw [← eT8]; exact w111 k
  have o117 : isO T8 q_7 3 := by rw [← eT8]; exact o95
  have o118 : isO T8 q_8_11 4 := by rw [← eT8]; exact o105
  have a119 : isA T8 q_1_11 6 4 := by rw [← eT8]; exact a107
  have a120 : isA T8 q_3_11 21 5 := by rw [← eT8]; exact a108
  have a121 : isA T8 q_1_14_11 10 4 := by rw [← eT8]; exact a110
  have p122 : ∀ k, gP T8 q_3_11 k = none := fun k => by rw [← eT8]; exact p109 k
  have g123 : gQ T8 q_7 7 = none := by rw [← eT8]; exact (u2_a (ne_of_kind o117.2 o118.2 (by decide))).trans g96
  have g124 : gQ T8 q_7 4 = (some q_1_11) := by rw [← eT8]; exact (u2_a (ne_of_kind o117.2 o118.2 (by decide))).trans g97
  have g125 : gQ T8 q_7 5 = (some q_3_11) := by rw [← eT8]; exact (u2_a (ne_of_kind o117.2 o118.2 (by decide))).trans g98
  have g126 : gI T8 q_7 8 = 0 := by rw [← eT8]; exact g99
  have g127 : gI T8 q_7 9 = 0 := by rw [← eT8]; exact g100
  have g128 : gI T8 q_7 11 = 0 := by rw [← eT8]; exact g101
  have g129 : gI T8 q_7 14 = 0 := by rw [← eT8]; exact g102
  have g130 : gI T8 q_7 15 = 0 := by rw [← eT8]; exact g103
  have g131 : gI T8 q_7 17 = 0 := by rw [← eT8]; exact g104
  have g132 : gI T8 q_8_11 4 = 0 := by rw [← eT8]; exact g106
  have g133 : gQ T8 q_8_11 0 = (some q_1_14_11) := by rw [← eT8]; exact u2_s
  generalize eT9 : pW T8 q_3_14_11 11 4 = T9 at fq_8_14_11 fq_16_14_11 ⊢
  have nq_3_14_11 : q_3_14_11 ∉ gL S := hE112.nm fq_3_14_11
  have hE134 : ExtI S T9 := by rw [← eT9]; exact hE112.new fq_3_14_11
  have rr135 : ∀ b, b ∈ gL S → ∀ k, gR T9 b k = gR S b k := fun b hb k => by rw [← eT9]; exact (gR_new (hE112.1 b hb).1.1 fq_3_14_11).trans (rr113 b hb k)
  have rj136 : ∀ b, b ∈ gL S → ∀ k, gJ T9 b k = gJ S b k := fun b hb k => by rw [← eT9]; exact (gJ_new (hE112.1 b hb).1.1 fq_3_14_11).trans (rj114 b hb k)
  have w137 : ∀ k, gR T9 q_1_11 k = 0 := fun k => by rw [← eT9]; exact (gR_new a119.1 fq_3_14_11).trans (w115 k)
  have w138 : ∀ k, gR T9 q_1_14_11 k = 0 := fun k => by rw [← eT9]; exact (gR_new a121.1 fq_3_14_11).trans (w116 k)
  have o139 : isO T9 q_7 3 := by rw [← eT9]; exact isO_new o117 fq_3_14_11
  have g140 : gQ T9 q_7 7 = none := by rw [← eT9]; exact (gQ_new o117.1 fq_3_14_11).trans g123
  have g141 : gQ T9 q_7 4 = (some q_1_11) := by rw [← eT9]; exact (gQ_new o117.1 fq_3_14_11).trans g124
  have g142 : gQ T9 q_7 5 = (some q_3_11) := by rw [← eT9]; exact (gQ_new o117.1 fq_3_14_11).trans g125
  have g143 : gI T9 q_7 8 = 0 := by rw [← eT9]; exact (gI_new o117.1 fq_3_14_11).trans g126
  have g144 : gI T9 q_7 9 = 0 := by rw [← eT9]; exact (gI_new o117.1 fq_3_14_11).trans g127
  have g145 : gI T9 q_7 11 = 0 := by rw [← eT9]; exact (gI_new o117.1 fq_3_14_11).trans g128
  have g146 : gI T9 q_7 14 = 0 := by rw [← eT9]; exact (gI_new o117.1 fq_3_14_11).trans g129
  have g147 : gI T9 q_7 15 = 0 := by rw [← eT9]; exact (gI_new o117.1 fq_3_14_11).trans g130
  have g148 : gI T9 q_7 17 = 0 := by rw [← eT9]; exact (gI_new o117.1 fq_3_14_11).trans g131
  have o149 : isO T9 q_8_11 4 := by rw [← eT9]; exact isO_new o118 fq_3_14_11
  have g150 : gQ T9 q_8_11 0 = (some q_1_14_11) := by rw [← eT9]; exact (gQ_new o118.1 fq_3_14_11).trans g133
  have g151 : gI T9 q_8_11 4 = 0 := by rw [← eT9]; exact (gI_new o118.1 fq_3_14_11).trans g132
  have a152 : isA T9 q_1_11 6 4 := by rw [← eT9]; exact isA_new a119 fq_3_14_11
  have a153 : isA T9 q_3_11 21 5 := by rw [← eT9]; exact isA_new a120 fq_3_14_11
  have p154 : ∀ k, gP T9 q_3_11 k = none := fun k => by rw [← eT9]; exact (gP_new a120.1 fq_3_14_11).trans (p122 k)
  have a155 : isA T9 q_1_14_11 10 4 := by rw [← eT9]; exact isA_new a121 fq_3_14_11
  have a156 : isA T9 q_3_14_11 11 4 := by rw [← eT9]; exact isA_q
  have w157 : ∀ k, gR T9 q_3_14_11 k = 0 := fun k => by rw [← eT9]; exact gR_q
  generalize eT10 : pQ T9 q_8_11 1 (some q_3_14_11) = T10 at fq_8_14_11 fq_16_14_11 ⊢
  have hE158 : ExtI S T10 := by rw [← eT10]; exact hE134.pQ nq_8_11
  have rr159 : ∀ b, b ∈ gL S → ∀ k, gR T10 b k = gR S b k := fun b hb k => by rw [← eT10]; exact rr135 b hb k
  have rj160 : ∀ b, b ∈ gL S → ∀ k, gJ T10 b k = gJ S b k := fun b hb k => by rw [← eT10]; exact rj136 b hb k
  have w161 : ∀ k, gR T10 q_1_11 k = 0 := fun k => by rw [← eT10]; exact w137 k
  have w162 : ∀ k, gR T10 q_1_14_11 k = 0 := fun k => by rw [← eT10]; exact w138 k
  have w163 : ∀ k, gR T10 q_3_14_11 k = 0 := fun k => by rw [← eT10]; exact w157 k
  have o164 : isO T10 q_7 3 := by rw [← eT10]; exact o139
  have o165 : isO T10 q_8_11 4 := by rw [← eT10]; exact o149
  have a166 : isA T10 q_1_11 6 4 := by rw [← eT10]; exact a152
  have a167 : isA T10 q_3_11 21 5 := by rw [← eT10]; exact a153
  have a168 : isA T10 q_1_14_11 10 4 := by rw [← eT10]; exact a155
  have a169 : isA T10 q_3_14_11 11 4 := by rw [← eT10]; exact a156
  have p170 : ∀ k, gP T10 q_3_11 k = none := fun k => by rw [← eT10]; exact p154 k
  have g171 : gQ T10 q_7 7 = none := by rw [← eT10]; exact (u2_a (ne_of_kind o164.2 o165.2 (by decide))).trans g140
  have g172 : gQ T10 q_7 4 = (some q_1_11) := by rw [← eT10]; exact (u2_a (ne_of_kind o164.2 o165.2 (by decide))).trans g141
  have g173 : gQ T10 q_7 5 = (some q_3_11) := by rw [← eT10]; exact (u2_a (ne_of_kind o164.2 o165.2 (by decide))).trans g142
  have g174 : gQ T10 q_8_11 0 = (some q_1_14_11) := by rw [← eT10]; exact (u2_k (by decide)).trans g150
  have g175 : gI T10 q_7 8 = 0 := by rw [← eT10]; exact g143
  have g176 : gI T10 q_7 9 = 0 := by rw [← eT10]; exact g144
  have g177 : gI T10 q_7 11 = 0 := by rw [← eT10]; exact g145
  have g178 : gI T10 q_7 14 = 0 := by rw [← eT10]; exact g146
  have g179 : gI T10 q_7 15 = 0 := by rw [← eT10]; exact g147
  have g180 : gI T10 q_7 17 = 0 := by rw [← eT10]; exact g148
  have g181 : gI T10 q_8_11 4 = 0 := by rw [← eT10]; exact g151
  have g182 : gQ T10 q_8_11 1 = (some q_3_14_11) := by rw [← eT10]; exact u2_s
  generalize eT11 : pW T10 q_8_14_11 12 4 = T11 at fq_16_14_11 ⊢
  have nq_8_14_11 : q_8_14_11 ∉ gL S := hE158.nm fq_8_14_11
  have hE183 : ExtI S T11 := by rw [← eT11]; exact hE158.new fq_8_14_11
  have rr184 : ∀ b, b ∈ gL S → ∀ k, gR T11 b k = gR S b k := fun b hb k => by rw [← eT11]; exact (gR_new (hE158.1 b hb).1.1 fq_8_14_11).trans (rr159 b hb k)
  have rj185 : ∀ b, b ∈ gL S → ∀ k, gJ T11 b k = gJ S b k := fun b hb k => by rw [← eT11]; exact (gJ_new (hE158.1 b hb).1.1 fq_8_14_11).trans (rj160 b hb k)
  have w186 : ∀ k, gR T11 q_1_11 k = 0 := fun k => by rw [← eT11]; exact (gR_new a166.1 fq_8_14_11).trans (w161 k)
  have w187 : ∀ k, gR T11 q_1_14_11 k = 0 := fun k => by rw [← eT11]; exact (gR_new a168.1 fq_8_14_11).trans (w162 k)
  have w188 : ∀ k, gR T11 q_3_14_11 k = 0 := fun k => by rw [← eT11]; exact (gR_new a169.1 fq_8_14_11).trans (w163 k)
  have o189 : isO T11 q_7 3 := by rw [← eT11]; exact isO_new o164 fq_8_14_11
  have g190 : gQ T11 q_7 7 = none := by rw [← eT11]; exact (gQ_new o164.1 fq_8_14_11).trans g171
  have g191 : gQ T11 q_7 4 = (some q_1_11) := by rw [← eT11]; exact (gQ_new o164.1 fq_8_14_11).trans g172
  have g192 : gQ T11 q_7 5 = (some q_3_11) := by rw [← eT11]; exact (gQ_new o164.1 fq_8_14_11).trans g173
  have g193 : gI T11 q_7 8 = 0 := by rw [← eT11]; exact (gI_new o164.1 fq_8_14_11).trans g175
  have g194 : gI T11 q_7 9 = 0 := by rw [← eT11]; exact (gI_new o164.1 fq_8_14_11).trans g176
  have g195 : gI T11 q_7 11 = 0 := by rw [← eT11]; exact (gI_new o164.1 fq_8_14_11).trans g177
  have g196 : gI T11 q_7 14 = 0 := by rw [← eT11]; exact (gI_new o164.1 fq_8_14_11).trans g178
  have g197 : gI T11 q_7 15 = 0 := by rw [← eT11]; exact (gI_new o164.1 fq_8_14_11).trans g179
  have g198 : gI T11 q_7 17 = 0 := by rw [← eT11]; exact (gI_new o164.1 fq_8_14_11).trans g180
  have o199 : isO T11 q_8_11 4 := by rw [← eT11]; exact isO_new o165 fq_8_14_11
  have g200 : gQ T11 q_8_11 0 = (some q_1_14_11) := by rw [← eT11]; exact (gQ_new o165.1 fq_8_14_11).trans g174
  have g201 : gQ T11 q_8_11 1 = (some q_3_14_11) := by rw [← eT11]; exact (gQ_new o165.1 fq_8_14_11).trans g182
  have g202 : gI T11 q_8_11 4 = 0 := by rw [← eT11]; exact (gI_new o165.1 fq_8_14_11).trans g181
  have a203 : isA T11 q_1_11 6 4 := by rw [← eT11]; exact isA_new a166 fq_8_14_11
  have a204 : isA T11 q_3_11 21 5 := by rw [← eT11]; exact isA_new a167 fq_8_14_11
  have p205 : ∀ k, gP T11 q_3_11 k = none := fun k => by rw [← eT11]; exact (gP_new a167.1 fq_8_14_11).trans (p170 k)
  have a206 : isA T11 q_1_14_11 10 4 := by rw [← eT11]; exact isA_new a168 fq_8_14_11
  have a207 : isA T11 q_3_14_11 11 4 := by rw [← eT11]; exact isA_new a169 fq_8_14_11
  have a208 : isA T11 q_8_14_11 12 4 := by rw [← eT11]; exact isA_q
  have w209 : ∀ k, gR T11 q_8_14_11 k = 0 := fun k => by rw [← eT11]; exact gR_q
  generalize eT12 : pQ T11 q_8_11 2 (some q_8_14_11) = T12 at fq_16_14_11 ⊢
  have hE210 : ExtI S T12 := by rw [← eT12]; exact hE183.pQ nq_8_11
  have rr211 : ∀ b, b ∈ gL S → ∀ k, gR T12 b k = gR S b k := fun b hb k => by rw [← eT12]; exact rr184 b hb k
  have rj212 : ∀ b, b ∈ gL S → ∀ k, gJ T12 b k = gJ S b k := fun b hb k => by rw [← eT12]; exact rj185 b hb k
  have w213 : ∀ k, gR T12 q_1_11 k = 0 := fun k => by rw [← eT12]; exact w186 k
  have w214 : ∀ k, gR T12 q_1_14_11 k = 0 := fun k => by rw [← eT12]; exact w187 k
  have w215 : ∀ k, gR T12 q_3_14_11 k = 0 := fun k => by rw [← eT12]; exact w188 k
  have w216 : ∀ k, gR T12 q_8_14_11 k = 0 := fun k => by rw [← eT12]; exact w209 k
  have o217 : isO T12 q_7 3 := by rw [← eT12]; exact o189
  have o218 : isO T12 q_8_11 4 := by rw [← eT12]; exact o199
  have a219 : isA T12 q_1_11 6 4 := by rw [← eT12]; exact a203
  have a220 : isA T12 q_3_11 21 5 := by rw [← eT12]; exact a204
  have a221 : isA T12 q_1_14_11 10 4 := by rw [← eT12]; exact a206
  have a222 : isA T12 q_3_14_11 11 4 := by rw [← eT12]; exact a207
  have a223 : isA T12 q_8_14_11 12 4 := by rw [← eT12]; exact a208
  have p224 : ∀ k, gP T12 q_3_11 k = none := fun k => by rw [← eT12]; exact p205 k
  have g225 : gQ T12 q_7 7 = none := by rw [← eT12]; exact (u2_a (ne_of_kind o217.2 o218.2 (by decide))).trans g190
  have g226 : gQ T12 q_7 4 = (some q_1_11) := by rw [← eT12]; exact (u2_a (ne_of_kind o217.2 o218.2 (by decide))).trans g191
  have g227 : gQ T12 q_7 5 = (some q_3_11) := by rw [← eT12]; exact (u2_a (ne_of_kind o217.2 o218.2 (by decide))).trans g192
  have g228 : gQ T12 q_8_11 0 = (some q_1_14_11) := by rw [← eT12]; exact (u2_k (by decide)).trans g200
  have g229 : gQ T12 q_8_11 1 = (some q_3_14_11) := by rw [← eT12]; exact (u2_k (by decide)).trans g201
  have g230 : gI T12 q_7 8 = 0 := by rw [← eT12]; exact g193
  have g231 : gI T12 q_7 9 = 0 := by rw [← eT12]; exact g194
  have g232 : gI T12 q_7 11 = 0 := by rw [← eT12]; exact g195
  have g233 : gI T12 q_7 14 = 0 := by rw [← eT12]; exact g196
  have g234 : gI T12 q_7 15 = 0 := by rw [← eT12]; exact g197
  have g235 : gI T12 q_7 17 = 0 := by rw [← eT12]; exact g198
  have g236 : gI T12 q_8_11 4 = 0 := by rw [← eT12]; exact g202
  have g237 : gQ T12 q_8_11 2 = (some q_8_14_11) := by rw [← eT12]; exact u2_s
  generalize eT13 : pW T12 q_16_14_11 20 4 = T13 at  ⊢
  have nq_16_14_11 : q_16_14_11 ∉ gL S := hE210.nm fq_16_14_11
  have hE238 : ExtI S T13 := by rw [← eT13]; exact hE210.new fq_16_14_11
  have rr239 : ∀ b, b ∈ gL S → ∀ k, gR T13 b k = gR S b k := fun b hb k => by rw [← eT13]; exact (gR_new (hE210.1 b hb).1.1 fq_16_14_11).trans (rr211 b hb k)
  have rj240 : ∀ b, b ∈ gL S → ∀ k, gJ T13 b k = gJ S b k := fun b hb k => by rw [← eT13]; exact (gJ_new (hE210.1 b hb).1.1 fq_16_14_11).trans (rj212 b hb k)
  have w241 : ∀ k, gR T13 q_1_11 k = 0 := fun k => by rw [← eT13]; exact (gR_new a219.1 fq_16_14_11).trans (w213 k)
  have w242 : ∀ k, gR T13 q_1_14_11 k = 0 := fun k => by rw [← eT13]; exact (gR_new a221.1 fq_16_14_11).trans (w214 k)
  have w243 : ∀ k, gR T13 q_3_14_11 k = 0 := fun k => by rw [← eT13]; exact (gR_new a222.1 fq_16_14_11).trans (w215 k)
  have w244 : ∀ k, gR T13 q_8_14_11 k = 0 := fun k => by rw [← eT13]; exact (gR_new a223.1 fq_16_14_11).trans (w216 k)
  have o245 : isO T13 q_7 3 := by rw [← eT13]; exact isO_new o217 fq_16_14_11
  have g246 : gQ T13 q_7 7 = none := by rw [← eT13]; exact (gQ_new o217.1 fq_16_14_11).trans g225
  have g247 : gQ T13 q_7 4 = (some q_1_11) := by rw [← eT13]; exact (gQ_new o217.1 fq_16_14_11).trans g226
  have g248 : gQ T13 q_7 5 = (some q_3_11) := by rw [← eT13]; exact (gQ_new o217.1 fq_16_14_11).trans g227
  have g249 : gI T13 q_7 8 = 0 := by rw [← eT13]; exact (gI_new o217.1 fq_16_14_11).trans g230
  have g250 : gI T13 q_7 9 = 0 := by rw [← eT13]; exact (gI_new o217.1 fq_16_14_11).trans g231
  have g251 : gI T13 q_7 11 = 0 := by rw [← eT13]; exact (gI_new o217.1 fq_16_14_11).trans g232
  have g252 : gI T13 q_7 14 = 0 := by rw [← eT13]; exact (gI_new o217.1 fq_16_14_11).trans g233
  have g253 : gI T13 q_7 15 = 0 := by rw [← eT13]; exact (gI_new o217.1 fq_16_14_11).trans g234
  have g254 : gI T13 q_7 17 = 0 := by rw [← eT13]; exact (gI_new o217.1 fq_16_14_11).trans g235
  have o255 : isO T13 q_8_11 4 := by rw [← eT13]; exact isO_new o218 fq_16_14_11
  have g256 : gQ T13 q_8_11 0 = (some q_1_14_11) := by rw [← eT13]; exact (gQ_new o218.1 fq_16_14_11).trans g228
  have g257 : gQ T13 q_8_11 1 = (some q_3_14_11) := by rw [← eT13]; exact (gQ_new o218.1 fq_16_14_11).trans g229
  have g258 : gQ T13 q_8_11 2 = (some q_8_14_11) := by rw [← eT13]; exact (gQ_new o218.1 fq_16_14_11).trans g237
  have g259 : gI T13 q_8_11 4 = 0 := by rw [← eT13]; exact (gI_new o218.1 fq_16_14_11).trans g236
  have a260 : isA T13 q_1_11 6 4 := by rw [← eT13]; exact isA_new a219 fq_16_14_11
  have a261 : isA T13 q_3_11 21 5 := by rw [← eT13]; exact isA_new a220 fq_16_14_11
  have p262 : ∀ k, gP T13 q_3_11 k = none := fun k => by rw [← eT13]; exact (gP_new a220.1 fq_16_14_11).trans (p224 k)
  have a263 : isA T13 q_1_14_11 10 4 := by rw [← eT13]; exact isA_new a221 fq_16_14_11
  have a264 : isA T13 q_3_14_11 11 4 := by rw [← eT13]; exact isA_new a222 fq_16_14_11
  have a265 : isA T13 q_8_14_11 12 4 := by rw [← eT13]; exact isA_new a223 fq_16_14_11
  have a266 : isA T13 q_16_14_11 20 4 := by rw [← eT13]; exact isA_q
  have j267 : ∀ k, gJ T13 q_16_14_11 k = 0 := fun k => by rw [← eT13]; exact gJ_q
  generalize eT14 : pQ T13 q_8_11 3 (some q_16_14_11) = T14 at  ⊢
  have hE268 : ExtI S T14 := by rw [← eT14]; exact hE238.pQ nq_8_11
  have rr269 : ∀ b, b ∈ gL S → ∀ k, gR T14 b k = gR S b k := fun b hb k => by rw [← eT14]; exact rr239 b hb k
  have rj270 : ∀ b, b ∈ gL S → ∀ k, gJ T14 b k = gJ S b k := fun b hb k => by rw [← eT14]; exact rj240 b hb k
  have j271 : ∀ k, gJ T14 q_16_14_11 k = 0 := fun k => by rw [← eT14]; exact j267 k
  have w272 : ∀ k, gR T14 q_1_11 k = 0 := fun k => by rw [← eT14]; exact w241 k
  have w273 : ∀ k, gR T14 q_1_14_11 k = 0 := fun k => by rw [← eT14]; exact w242 k
  have w274 : ∀ k, gR T14 q_3_14_11 k = 0 := fun k => by rw [← eT14]; exact w243 k
  have w275 : ∀ k, gR T14 q_8_14_11 k = 0 := fun k => by rw [← eT14]; exact w244 k
  have o276 : isO T14 q_7 3 := by rw [← eT14]; exact o245
  have o277 : isO T14 q_8_11 4 := by rw [← eT14]; exact o255
  have a278 : isA T14 q_1_11 6 4 := by rw [← eT14]; exact a260
  have a279 : isA T14 q_3_11 21 5 := by rw [← eT14]; exact a261
  have a280 : isA T14 q_1_14_11 10 4 := by rw [← eT14]; exact a263
  have a281 : isA T14 q_3_14_11 11 4 := by rw [← eT14]; exact a264
  have a282 : isA T14 q_8_14_11 12 4 := by rw [← eT14]; exact a265
  have a283 : isA T14 q_16_14_11 20 4 := by rw [← eT14]; exact a266
  have p284 : ∀ k, gP T14 q_3_11 k = none := fun k => by rw [← eT14]; exact p262 k
  have g285 : gQ T14 q_7 7 = none := by rw [← eT14]; exact (u2_a (ne_of_kind o276.2 o277.2 (by decide))).trans g246
  have g286 : gQ T14 q_7 4 = (some q_1_11) := by rw [← eT14]; exact (u2_a (ne_of_kind o276.2 o277.2 (by decide))).trans g247
  have g287 : gQ T14 q_7 5 = (some q_3_11) := by rw [← eT14]; exact (u2_a (ne_of_kind o276.2 o277.2 (by decide))).trans g248
  have g288 : gQ T14 q_8_11 0 = (some q_1_14_11) := by rw [← eT14]; exact (u2_k (by decide)).trans g256
  have g289 : gQ T14 q_8_11 1 = (some q_3_14_11) := by rw [← eT14]; exact (u2_k (by decide)).trans g257
  have g290 : gQ T14 q_8_11 2 = (some q_8_14_11) := by rw [← eT14]; exact (u2_k (by decide)).trans g258
  have g291 : gI T14 q_7 8 = 0 := by rw [← eT14]; exact g249
  have g292 : gI T14 q_7 9 = 0 := by rw [← eT14]; exact g250
  have g293 : gI T14 q_7 11 = 0 := by rw [← eT14]; exact g251
  have g294 : gI T14 q_7 14 = 0 := by rw [← eT14]; exact g252
  have g295 : gI T14 q_7 15 = 0 := by rw [← eT14]; exact g253
  have g296 : gI T14 q_7 17 = 0 := by rw [← eT14]; exact g254
  have g297 : gI T14 q_8_11 4 = 0 := by rw [← eT14]; exact g259
  have g298 : gQ T14 q_8_11 3 = (some q_16_14_11) := by rw [← eT14]; exact u2_s
  generalize eT15 : pQ T14 q_7 6 (some q_8_11) = T15 at  ⊢
  have hE299 : ExtI S T15 := by rw [← eT15]; exact hE268.pQ nq_7
  have rr300 : ∀ b, b ∈ gL S → ∀ k, gR T15 b k = gR S b k := fun b hb k => by rw [← eT15]; exact rr269 b hb k
  have rj301 : ∀ b, b ∈ gL S → ∀ k, gJ T15 b k = gJ S b k := fun b hb k => by rw [← eT15]; exact rj270 b hb k
  have j302 : ∀ k, gJ T15 q_16_14_11 k = 0 := fun k => by rw [← eT15]; exact j271 k
  have w303 : ∀ k, gR T15 q_1_11 k = 0 := fun k => by rw [← eT15]; exact w272 k
  have w304 : ∀ k, gR T15 q_1_14_11 k = 0 := fun k => by rw [← eT15]; exact w273 k
  have w305 : ∀ k, gR T15 q_3_14_11 k = 0 := fun k => by rw [← eT15]; exact w274 k
  have w306 : ∀ k, gR T15 q_8_14_11 k = 0 := fun k => by rw [← eT15]; exact w275 k
  have o307 : isO T15 q_7 3 := by rw [← eT15]; exact o276
  have o308 : isO T15 q_8_11 4 := by rw [← eT15]; exact o277
  have a309 : isA T15 q_1_11 6 4 := by rw [← eT15]; exact a278
  have a310 : isA T15 q_3_11 21 5 := by rw [← eT15]; exact a279
  have a311 : isA T15 q_1_14_11 10 4 := by rw [← eT15]; exact a280
  have a312 : isA T15 q_3_14_11 11 4 := by rw [← eT15]; exact a281
  have a313 : isA T15 q_8_14_11 12 4 := by rw [← eT15]; exact a282
  have a314 : isA T15 q_16_14_11 20 4 := by rw [← eT15]; exact a283
  have p315 : ∀ k, gP T15 q_3_11 k = none := fun k => by rw [← eT15]; exact p284 k
  have g316 : gQ T15 q_7 7 = none := by rw [← eT15]; exact (u2_k (by decide)).trans g285
  have g317 : gQ T15 q_7 4 = (some q_1_11) := by rw [← eT15]; exact (u2_k (by decide)).trans g286
  have g318 : gQ T15 q_7 5 = (some q_3_11) := by rw [← eT15]; exact (u2_k (by decide)).trans g287
  have g319 : gQ T15 q_8_11 0 = (some q_1_14_11) := by rw [← eT15]; exact (u2_a (ne_of_kind o308.2 o307.2 (by decide))).trans g288
  have g320 : gQ T15 q_8_11 1 = (some q_3_14_11) := by rw [← eT15]; exact (u2_a (ne_of_kind o308.2 o307.2 (by decide))).trans g289
  have g321 : gQ T15 q_8_11 2 = (some q_8_14_11) := by rw [← eT15]; exact (u2_a (ne_of_kind o308.2 o307.2 (by decide))).trans g290
  have g322 : gQ T15 q_8_11 3 = (some q_16_14_11) := by rw [← eT15]; exact (u2_a (ne_of_kind o308.2 o307.2 (by decide))).trans g298
  have g323 : gI T15 q_7 8 = 0 := by rw [← eT15]; exact g291
  have g324 : gI T15 q_7 9 = 0 := by rw [← eT15]; exact g292
  have g325 : gI T15 q_7 11 = 0 := by rw [← eT15]; exact g293
  have g326 : gI T15 q_7 14 = 0 := by rw [← eT15]; exact g294
  have g327 : gI T15 q_7 15 = 0 := by rw [← eT15]; exact g295
  have g328 : gI T15 q_7 17 = 0 := by rw [← eT15]; exact g296
  have g329 : gI T15 q_8_11 4 = 0 := by rw [← eT15]; exact g297
  have g330 : gQ T15 q_7 6 = (some q_8_11) := by rw [← eT15]; exact u2_s
  generalize eT16 : pI T15 q_7 10 1000 = T16 at  ⊢
  have hE331 : ExtI S T16 := by rw [← eT16]; exact hE299.pI nq_7
  have rr332 : ∀ b, b ∈ gL S → ∀ k, gR T16 b k = gR S b k := fun b hb k => by rw [← eT16]; exact rr300 b hb k
  have rj333 : ∀ b, b ∈ gL S → ∀ k, gJ T16 b k = gJ S b k := fun b hb k => by rw [← eT16]; exact rj301 b hb k
  have j334 : ∀ k, gJ T16 q_16_14_11 k = 0 := fun k => by rw [← eT16]; exact j302 k
  have w335 : ∀ k, gR T16 q_1_11 k = 0 := fun k => by rw [← eT16]; exact w303 k
  have w336 : ∀ k, gR T16 q_1_14_11 k = 0 := fun k => by rw [← eT16]; exact w304 k
  have w337 : ∀ k, gR T16 q_3_14_11 k = 0 := fun k => by rw [← eT16]; exact w305 k
  have w338 : ∀ k, gR T16 q_8_14_11 k = 0 := fun k => by rw [← eT16]; exact w306 k
  have o339 : isO T16 q_7 3 := by rw [← eT16]; exact o307
  have o340 : isO T16 q_8_11 4 := by rw [← eT16]; exact o308
  have a341 : isA T16 q_1_11 6 4 := by rw [← eT16]; exact a309
  have a342 : isA T16 q_3_11 21 5 := by rw [← eT16]; exact a310
  have a343 : isA T16 q_1_14_11 10 4 := by rw [← eT16]; exact a311
  have a344 : isA T16 q_3_14_11 11 4 := by rw [← eT16]; exact a312
  have a345 : isA T16 q_8_14_11 12 4 := by rw [← eT16]; exact a313
  have a346 : isA T16 q_16_14_11 20 4 := by rw [← eT16]; exact a314
  have p347 : ∀ k, gP T16 q_3_11 k = none := fun k => by rw [← eT16]; exact p315 k
  have g348 : gQ T16 q_7 7 = none := by rw [← eT16]; exact g316
  have g349 : gQ T16 q_7 4 = (some q_1_11) := by rw [← eT16]; exact g317
  have g350 : gQ T16 q_7 5 = (some q_3_11) := by rw [← eT16]; exact g318
  have g351 : gQ T16 q_8_11 0 = (some q_1_14_11) := by rw [← eT16]; exact g319
  have g352 : gQ T16 q_8_11 1 = (some q_3_14_11) := by rw [← eT16]; exact g320
  have g353 : gQ T16 q_8_11 2 = (some q_8_14_11) := by rw [← eT16]; exact g321
  have g354 : gQ T16 q_8_11 3 = (some q_16_14_11) := by rw [← eT16]; exact g322
  have g355 : gQ T16 q_7 6 = (some q_8_11) := by rw [← eT16]; exact g330
  have g356 : gI T16 q_7 8 = 0 := by rw [← eT16]; exact (u2_k (by decide)).trans g323
  have g357 : gI T16 q_7 9 = 0 := by rw [← eT16]; exact (u2_k (by decide)).trans g324
  have g358 : gI T16 q_7 11 = 0 := by rw [← eT16]; exact (u2_k (by decide)).trans g325
  have g359 : gI T16 q_7 14 = 0 := by rw [← eT16]; exact (u2_k (by decide)).trans g326
  have g360 : gI T16 q_7 15 = 0 := by rw [← eT16]; exact (u2_k (by decide)).trans g327
  have g361 : gI T16 q_7 17 = 0 := by rw [← eT16]; exact (u2_k (by decide)).trans g328
  have g362 : gI T16 q_8_11 4 = 0 := by rw [← eT16]; exact (u2_a (ne_of_kind o340.2 o339.2 (by decide))).trans g329
  have g363 : gI T16 q_7 10 = 1000 := by rw [← eT16]; exact u2_s
  generalize eT17 : pI T16 q_7 13 (-1) = T17 at  ⊢
  have hE364 : ExtI S T17 := by rw [← eT17]; exact hE331.pI nq_7
  have rr365 : ∀ b, b ∈ gL S → ∀ k, gR T17 b k = gR S b k := fun b hb k => by rw [← eT17]; exact rr332 b hb k
  have rj366 : ∀ b, b ∈ gL S → ∀ k, gJ T17 b k = gJ S b k := fun b hb k => by rw [← eT17]; exact rj333 b hb k
  have j367 : ∀ k, gJ T17 q_16_14_11 k = 0 := fun k => by rw [← eT17]; exact j334 k
  have w368 : ∀ k, gR T17 q_1_11 k = 0 := fun k => by rw [← eT17]; exact w335 k
  have w369 : ∀ k, gR T17 q_1_14_11 k = 0 := fun k => by rw [← eT17]; exact w336 k
  have w370 : ∀ k, gR T17 q_3_14_11 k = 0 := fun k => by rw [← eT17]; exact w337 k
  have w371 : ∀ k, gR T17 q_8_14_11 k = 0 := fun k => by rw [← eT17]; exact w338 k
  have o372 : isO T17 q_7 3 := by rw [← eT17]; exact o339
  have o373 : isO T17 q_8_11 4 := by rw [← eT17]; exact o340
  have a374 : isA T17 q_1_11 6 4 := by rw [← eT17]; exact a341
  have a375 : isA T17 q_3_11 21 5 := by rw [← eT17]; exact a342
  have a376 : isA T17 q_1_14_11 10 4 := by rw [← eT17]; exact a343
  have a377 : isA T17 q_3_14_11 11 4 := by rw [← eT17]; exact a344
  have a378 : isA T17 q_8_14_11 12 4 := by rw [← eT17]; exact a345
  have a379 : isA T17 q_16_14_11 20 4 := by rw [← eT17]; exact a346
  have p380 : ∀ k, gP T17 q_3_11 k = none := fun k => by rw [← eT17]; exact p347 k
  have g381 : gQ T17 q_7 7 = none := by rw [← eT17]; exact g348
  have g382 : gQ T17 q_7 4 = (some q_1_11) := by rw [← eT17]; exact g349
  have g383 : gQ T17 q_7 5 = (some q_3_11) := by rw [← eT17]; exact g350
  have g384 : gQ T17 q_8_11 0 = (some q_1_14_11) := by rw [← eT17]; exact g351
  have g385 : gQ T17 q_8_11 1 = (some q_3_14_11) := by rw [← eT17]; exact g352
  have g386 : gQ T17 q_8_11 2 = (some q_8_14_11) := by rw [← eT17]; exact g353
  have g387 : gQ T17 q_8_11 3 = (some q_16_14_11) := by rw [← eT17]; exact g354
  have g388 : gQ T17 q_7 6 = (some q_8_11) := by rw [← eT17]; exact g355
  have g389 : gI T17 q_7 8 = 0 := by rw [← eT17]; exact (u2_k (by decide)).trans g356
  have g390 : gI T17 q_7 9 = 0 := by rw [← eT17]; exact (u2_k (by decide)).trans g357
  have g391 : gI T17 q_7 11 = 0 := by rw [← eT17]; exact (u2_k (by decide)).trans g358
  have g392 : gI T17 q_7 14 = 0 := by rw [← eT17]; exact (u2_k (by decide)).trans g359
  have g393 : gI T17 q_7 15 = 0 := by rw [← eT17]; exact (u2_k (by decide)).trans g360
  have g394 : gI T17 q_7 17 = 0 := by rw [← eT17]; exact (u2_k (by decide)).trans g361
  have g395 : gI T17 q_8_11 4 = 0 := by rw [← eT17]; exact (u2_a (ne_of_kind o373.2 o372.2 (by decide))).trans g362
  have g396 : gI T17 q_7 10 = 1000 := by rw [← eT17]; exact (u2_k (by decide)).trans g363
  have g397 : gI T17 q_7 13 = -1 := by rw [← eT17]; exact u2_s
  generalize eT18 : pI T17 q_7 16 (-1) = T18 at  ⊢
  have hE398 : ExtI S T18 := by rw [← eT18]; exact hE364.pI nq_7
  have rr399 : ∀ b, b ∈ gL S → ∀ k, gR T18 b k = gR S b k := fun b hb k => by rw [← eT18]; exact rr365 b hb k
  have rj400 : ∀ b, b ∈ gL S → ∀ k, gJ T18 b k = gJ S b k := fun b hb k => by rw [← eT18]; exact rj366 b hb k
  have j401 : ∀ k, gJ T18 q_16_14_11 k = 0 := fun k => by rw [← eT18]; exact j367 k
  have w402 : ∀ k, gR T18 q_1_11 k = 0 := fun k => by rw [← eT18]; exact w368 k
  have w403 : ∀ k, gR T18 q_1_14_11 k = 0 := fun k => by rw [← eT18]; exact w369 k
  have w404 : ∀ k, gR T18 q_3_14_11 k = 0 := fun k => by rw [← eT18]; exact w370 k
  have w405 : ∀ k, gR T18 q_8_14_11 k = 0 := fun k => by rw [← eT18]; exact w371 k
  have o406 : isO T18 q_7 3 := by rw [← eT18]; exact o372
  have o407 : isO T18 q_8_11 4 := by rw [← eT18]; exact o373
  have a408 : isA T18 q_1_11 6 4 := by rw [← eT18]; exact a374
  have a409 : isA T18 q_3_11 21 5 := by rw [← eT18]; exact a375
  have a410 : isA T18 q_1_14_11 10 4 := by rw [← eT18]; exact a376
  have a411 : isA T18 q_3_14_11 11 4 := by rw [← eT18]; exact a377
  have a412 : isA T18 q_8_14_11 12 4 := by rw [← eT18]; exact a378
  have a413 : isA T18 q_16_14_11 20 4 := by rw [← eT18]; exact a379
  have p414 : ∀ k, gP T18 q_3_11 k = none := fun k => by rw [← eT18]; exact p380 k
  have g415 : gQ T18 q_7 7 = none := by rw [← eT18]; exact g381
  have g416 : gQ T18 q_7 4 = (some q_1_11) := by rw [← eT18]; exact g382
  have g417 : gQ T18 q_7 5 = (some q_3_11) := by rw [← eT18]; exact g383
  have g418 : gQ T18 q_8_11 0 = (some q_1_14_11) := by rw [← eT18]; exact g384
  have g419 : gQ T18 q_8_11 1 = (some q_3_14_11) := by rw [← eT18]; exact g385
  have g420 : gQ T18 q_8_11 2 = (some q_8_14_11) := by rw [← eT18]; exact g386
  have g421 : gQ T18 q_8_11 3 = (some q_16_14_11) := by rw [← eT18]; exact g387
  have g422 : gQ T18 q_7 6 = (some q_8_11) := by rw [← eT18]; exact g388
  have g423 : gI T18 q_7 8 = 0 := by rw [← eT18]; exact (u2_k (by decide)).trans g389
  have g424 : gI T18 q_7 9 = 0 := by rw [← eT18]; exact (u2_k (by decide)).trans g390
  have g425 : gI T18 q_7 11 = 0 := by rw [← eT18]; exact (u2_k (by decide)).trans g391
  have g426 : gI T18 q_7 14 = 0 := by rw [← eT18]; exact (u2_k (by decide)).trans g392
  have g427 : gI T18 q_7 15 = 0 := by rw [← eT18]; exact (u2_k (by decide)).trans g393
  have g428 : gI T18 q_7 17 = 0 := by rw [← eT18]; exact (u2_k (by decide)).trans g394
  have g429 : gI T18 q_8_11 4 = 0 := by rw [← eT18]; exact (u2_a (ne_of_kind o407.2 o406.2 (by decide))).trans g395
  have g430 : gI T18 q_7 10 = 1000 := by rw [← eT18]; exact (u2_k (by decide)).trans g396
  have g431 : gI T18 q_7 13 = -1 := by rw [← eT18]; exact (u2_k (by decide)).trans g397
  have g432 : gI T18 q_7 16 = -1 := by rw [← eT18]; exact u2_s
  generalize eT19 : pI T18 q_7 0 (gI S x 2) = T19 at  ⊢
  have hE433 : ExtI S T19 := by rw [← eT19]; exact hE398.pI nq_7
  have rr434 : ∀ b, b ∈ gL S → ∀ k, gR T19 b k = gR S b k := fun b hb k => by rw [← eT19]; exact rr399 b hb k
  have rj435 : ∀ b, b ∈ gL S → ∀ k, gJ T19 b k = gJ S b k := fun b hb k => by rw [← eT19]; exact rj400 b hb k
  have j436 : ∀ k, gJ T19 q_16_14_11 k = 0 := fun k => by rw [← eT19]; exact j401 k
  have w437 : ∀ k, gR T19 q_1_11 k = 0 := fun k => by rw [← eT19]; exact w402 k
  have w438 : ∀ k, gR T19 q_1_14_11 k = 0 := fun k => by rw [← eT19]; exact w403 k
  have w439 : ∀ k, gR T19 q_3_14_11 k = 0 := fun k => by rw [← eT19]; exact w404 k
  have w440 : ∀ k, gR T19 q_8_14_11 k = 0 := fun k => by rw [← eT19]; exact w405 k
  have o441 : isO T19 q_7 3 := by rw [← eT19]; exact o406
  have o442 : isO T19 q_8_11 4 := by rw [← eT19]; exact o407
  have a443 : isA T19 q_1_11 6 4 := by rw [← eT19]; exact a408
  have a444 : isA T19 q_3_11 21 5 := by rw [← eT19]; exact a409
  have a445 : isA T19 q_1_14_11 10 4 := by rw [← eT19]; exact a410
  have a446 : isA T19 q_3_14_11 11 4 := by rw [← eT19]; exact a411
  have a447 : isA T19 q_8_14_11 12 4 := by rw [← eT19]; exact a412
  have a448 : isA T19 q_16_14_11 20 4 := by rw [← eT19]; exact a413
  have p449 : ∀ k, gP T19 q_3_11 k = none := fun k => by rw [← eT19]; exact p414 k
  have g450 : gQ T19 q_7 7 = none := by rw [← eT19]; exact g415
  have g451 : gQ T19 q_7 4 = (some q_1_11) := by rw [← eT19]; exact g416
  have g452 : gQ T19 q_7 5 = (some q_3_11) := by rw [← eT19]; exact g417
  have g453 : gQ T19 q_8_11 0 = (some q_1_14_11) := by rw [← eT19]; exact g418
  have g454 : gQ T19 q_8_11 1 = (some q_3_14_11) := by rw [← eT19]; exact g419
  have g455 : gQ T19 q_8_11 2 = (some q_8_14_11) := by rw [← eT19]; exact g420
  have g456 : gQ T19 q_8_11 3 = (some q_16_14_11) := by rw [← eT19]; exact g421
  have g457 : gQ T19 q_7 6 = (some q_8_11) := by rw [← eT19]; exact g422
  have g458 : gI T19 q_7 8 = 0 := by rw [← eT19]; exact (u2_k (by decide)).trans g423
  have g459 : gI T19 q_7 9 = 0 := by rw [← eT19]; exact (u2_k (by decide)).trans g424
  have g460 : gI T19 q_7 11 = 0 := by rw [← eT19]; exact (u2_k (by decide)).trans g425
  have g461 : gI T19 q_7 14 = 0 := by rw [← eT19]; exact (u2_k (by decide)).trans g426
  have g462 : gI T19 q_7 15 = 0 := by rw [← eT19]; exact (u2_k (by decide)).trans g427
  have g463 : gI T19 q_7 17 = 0 := by rw [← eT19]; exact (u2_k (by decide)).trans g428
  have g464 : gI T19 q_8_11 4 = 0 := by rw [← eT19]; exact (u2_a (ne_of_kind o442.2 o441.2 (by decide))).trans g429
  have g465 : gI T19 q_7 10 = 1000 := by rw [← eT19]; exact (u2_k (by decide)).trans g430
  have g466 : gI T19 q_7 13 = -1 := by rw [← eT19]; exact (u2_k (by decide)).trans g431
  have g467 : gI T19 q_7 16 = -1 := by rw [← eT19]; exact (u2_k (by decide)).trans g432
  have g468 : gI T19 q_7 0 = (gI S x 2) := by rw [← eT19]; exact u2_s
  generalize eT20 : pI T19 q_7 1 p0 = T20 at  ⊢
  have hE469 : ExtI S T20 := by rw [← eT20]; exact hE433.pI nq_7
  have rr470 : ∀ b, b ∈ gL S → ∀ k, gR T20 b k = gR S b k := fun b hb k => by rw [← eT20]; exact rr434 b hb k
  have rj471 : ∀ b, b ∈ gL S → ∀ k, gJ T20 b k = gJ S b k := fun b hb k => by rw [← eT20]; exact rj435 b hb k
  have j472 : ∀ k, gJ T20 q_16_14_11 k = 0 := fun k => by rw [← eT20]; exact j436 k
  have w473 : ∀ k, gR T20 q_1_11 k = 0 := fun k => by rw [← eT20]; exact w437 k
  have w474 : ∀ k, gR T20 q_1_14_11 k = 0 := fun k => by rw [← eT20]; exact w438 k
  have w475 : ∀ k, gR T20 q_3_14_11 k = 0 := fun k => by rw [← eT20]; exact w439 k
  have w476 : ∀ k, gR T20 q_8_14_11 k = 0 := fun k => by rw [← eT20]; exact w440 k
  have o477 : isO T20 q_7 3 := by rw [← eT20]; exact o441
  have o478 : isO T20 q_8_11 4 := by rw [← eT20]; exact o442
  have a479 : isA T20 q_1_11 6 4 := by rw [← eT20]; exact a443
  have a480 : isA T20 q_3_11 21 5 := by rw [← eT20]; exact a444
  have a481 : isA T20 q_1_14_11 10 4 := by rw [← eT20]; exact a445
  have a482 : isA T20 q_3_14_11 11 4 := by rw [← eT20]; exact a446
  have a483 : isA T20 q_8_14_11 12 4 := by rw [← eT20]; exact a447
  have a484 : isA T20 q_16_14_11 20 4 := by rw [← eT20]; exact a448
  have p485 : ∀ k, gP T20 q_3_11 k = none := fun k => by rw [← eT20]; exact p449 k
  have g486 : gQ T20 q_7 7 = none := by rw [← eT20]; exact g450
  have g487 : gQ T20 q_7 4 = (some q_1_11) := by rw [← eT20]; exact g451
  have g488 : gQ T20 q_7 5 = (some q_3_11) := by rw [← eT20]; exact g452
  have g489 : gQ T20 q_8_11 0 = (some q_1_14_11) := by rw [← eT20]; exact g453
  have g490 : gQ T20 q_8_11 1 = (some q_3_14_11) := by rw [← eT20]; exact g454
  have g491 : gQ T20 q_8_11 2 = (some q_8_14_11) := by rw [← eT20]; exact g455
  have g492 : gQ T20 q_8_11 3 = (some q_16_14_11) := by rw [← eT20]; exact g456
  have g493 : gQ T20 q_7 6 = (some q_8_11) := by rw [← eT20]; exact g457
  have g494 : gI T20 q_7 8 = 0 := by rw [← eT20]; exact (u2_k (by decide)).trans g458
  have g495 : gI T20 q_7 9 = 0 := by rw [← eT20]; exact (u2_k (by decide)).trans g459
  have g496 : gI T20 q_7 11 = 0 := by rw [← eT20]; exact (u2_k (by decide)).trans g460
  have g497 : gI T20 q_7 14 = 0 := by rw [← eT20]; exact (u2_k (by decide)).trans g461
  have g498 : gI T20 q_7 15 = 0 := by rw [← eT20]; exact (u2_k (by decide)).trans g462
  have g499 : gI T20 q_7 17 = 0 := by rw [← eT20]; exact (u2_k (by decide)).trans g463
  have g500 : gI T20 q_8_11 4 = 0 := by rw [← eT20]; exact (u2_a (ne_of_kind o478.2 o477.2 (by decide))).trans g464
  have g501 : gI T20 q_7 10 = 1000 := by rw [← eT20]; exact (u2_k (by decide)).trans g465
  have g502 : gI T20 q_7 13 = -1 := by rw [← eT20]; exact (u2_k (by decide)).trans g466
  have g503 : gI T20 q_7 16 = -1 := by rw [← eT20]; exact (u2_k (by decide)).trans g467
  have g504 : gI T20 q_7 0 = (gI S x 2) := by rw [← eT20]; exact (u2_k (by decide)).trans g468
  have g505 : gI T20 q_7 1 = p0 := by rw [← eT20]; exact u2_s
  generalize eT21 : pI T20 q_7 2 p1 = T21 at  ⊢
  have hE506 : ExtI S T21 := by rw [← eT21]; exact hE469.pI nq_7
  have rr507 : ∀ b, b ∈ gL S → ∀ k, gR T21 b k = gR S b k := fun b hb k => by rw [← eT21]; exact rr470 b hb k
  have rj508 : ∀ b, b ∈ gL S → ∀ k, gJ T21 b k = gJ S b k := fun b hb k => by rw [← eT21]; exact rj471 b hb k
  have j509 : ∀ k, gJ T21 q_16_14_11 k = 0 := fun k => by rw [← eT21]; exact j472 k
  have w510 : ∀ k, gR T21 q_1_11 k = 0 := fun k => by rw [← eT21]; exact w473 k
  have w511 : ∀ k, gR T21 q_1_14_11 k = 0 := fun k => by rw [← eT21]; exact w474 k
  have w512 : ∀ k, gR T21 q_3_14_11 k = 0 := fun k => by rw [← eT21]; exact w475 k
  have w513 : ∀ k, gR T21 q_8_14_11 k = 0 := fun k => by rw [← eT21]; exact w476 k
  have o514 : isO T21 q_7 3 := by rw [← eT21]; exact o477
  have o515 : isO T21 q_8_11 4 := by rw [← eT21]; exact o478
  have a516 : isA T21 q_1_11 6 4 := by rw [← eT21]; exact a479
  have a517 : isA T21 q_3_11 21 5 := by rw [← eT21]; exact a480
  have a518 : isA T21 q_1_14_11 10 4 := by rw [← eT21]; exact a481
  have a519 : isA T21 q_3_14_11 11 4 := by rw [← eT21]; exact a482
  have a520 : isA T21 q_8_14_11 12 4 := by rw [← eT21]; exact a483
  have a521 : isA T21 q_16_14_11 20 4 := by rw [← eT21]; exact a484
  have p522 : ∀ k, gP T21 q_3_11 k = none := fun k => by rw [← eT21]; exact p485 k
  have g523 : gQ T21 q_7 7 = none := by rw [← eT21]; exact g486
  have g524 : gQ T21 q_7 4 = (some q_1_11) := by rw [← eT21]; exact g487
  have g525 : gQ T21 q_7 5 = (some q_3_11) := by rw [← eT21]; exact g488
  have g526 : gQ T21 q_8_11 0 = (some q_1_14_11) := by rw [← eT21]; exact g489
  have g527 : gQ T21 q_8_11 1 = (some q_3_14_11) := by rw [← eT21]; exact g490
  have g528 : gQ T21 q_8_11 2 = (some q_8_14_11) := by rw [← eT21]; exact g491
  have g529 : gQ T21 q_8_11 3 = (some q_16_14_11) := by rw [← eT21]; exact g492
  have g530 : gQ T21 q_7 6 = (some q_8_11) := by rw [← eT21]; exact g493
  have g531 : gI T21 q_7 8 = 0 := by rw [← eT21]; exact (u2_k (by decide)).trans g494
  have g532 : gI T21 q_7 9 = 0 := by rw [← eT21]; exact (u2_k (by decide)).trans g495
  have g533 : gI T21 q_7 11 = 0 := by rw [← eT21]; exact (u2_k (by decide)).trans g496
  have g534 : gI T21 q_7 14 = 0 := by rw [← eT21]; exact (u2_k (by decide)).trans g497
  have g535 : gI T21 q_7 15 = 0 := by rw [← eT21]; exact (u2_k (by decide)).trans g498
  have g536 : gI T21 q_7 17 = 0 := by rw [← eT21]; exact (u2_k (by decide)).trans g499
  have g537 : gI T21 q_8_11 4 = 0 := by rw [← eT21]; exact (u2_a (ne_of_kind o515.2 o514.2 (by decide))).trans g500
  have g538 : gI T21 q_7 10 = 1000 := by rw [← eT21]; exact (u2_k (by decide)).trans g501
  have g539 : gI T21 q_7 13 = -1 := by rw [← eT21]; exact (u2_k (by decide)).trans g502
  have g540 : gI T21 q_7 16 = -1 := by rw [← eT21]; exact (u2_k (by decide)).trans g503
  have g541 : gI T21 q_7 0 = (gI S x 2) := by rw [← eT21]; exact (u2_k (by decide)).trans g504
  have g542 : gI T21 q_7 1 = p0 := by rw [← eT21]; exact (u2_k (by decide)).trans g505
  have g543 : gI T21 q_7 2 = p1 := by rw [← eT21]; exact u2_s
  generalize eT22 : pI T21 q_7 3 p2 = T22 at  ⊢
  have hE544 : ExtI S T22 := by rw [← eT22]; exact hE506.pI nq_7
  have rr545 : ∀ b, b ∈ gL S → ∀ k, gR T22 b k = gR S b k := fun b hb k => by rw [← eT22]; exact rr507 b hb k
  have rj546 : ∀ b, b ∈ gL S → ∀ k, gJ T22 b k = gJ S b k := fun b hb k => by rw [← eT22]; exact rj508 b hb k
  have j547 : ∀ k, gJ T22 q_16_14_11 k = 0 := fun k => by rw [← eT22]; exact j509 k
  have w548 : ∀ k, gR T22 q_1_11 k = 0 := fun k => by rw [← eT22]; exact w510 k
  have w549 : ∀ k, gR T22 q_1_14_11 k = 0 := fun k => by rw [← eT22]; exact w511 k
  have w550 : ∀ k, gR T22 q_3_14_11 k = 0 := fun k => by rw [← eT22]; exact w512 k
  have w551 : ∀ k, gR T22 q_8_14_11 k = 0 := fun k => by rw [← eT22]; exact w513 k
  have o552 : isO T22 q_7 3 := by rw [← eT22]; exact o514
  have o553 : isO T22 q_8_11 4 := by rw [← eT22]; exact o515
  have a554 : isA T22 q_1_11 6 4 := by rw [← eT22]; exact a516
  have a555 : isA T22 q_3_11 21 5 := by rw [← eT22]; exact a517
  have a556 : isA T22 q_1_14_11 10 4 := by rw [← eT22]; exact a518
  have a557 : isA T22 q_3_14_11 11 4 := by rw [← eT22]; exact a519
  have a558 : isA T22 q_8_14_11 12 4 := by rw [← eT22]; exact a520
  have a559 : isA T22 q_16_14_11 20 4 := by rw [← eT22]; exact a521
  have p560 : ∀ k, gP T22 q_3_11 k = none := fun k => by rw [← eT22]; exact p522 k
  have g561 : gQ T22 q_7 7 = none := by rw [← eT22]; exact g523
  have g562 : gQ T22 q_7 4 = (some q_1_11) := by rw [← eT22]; exact g524
  have g563 : gQ T22 q_7 5 = (some q_3_11) := by rw [← eT22]; exact g525
  have g564 : gQ T22 q_8_11 0 = (some q_1_14_11) := by rw [← eT22]; exact g526
  have g565 : gQ T22 q_8_11 1 = (some q_3_14_11) := by rw [← eT22]; exact g527
  have g566 : gQ T22 q_8_11 2 = (some q_8_14_11) := by rw [← eT22]; exact g528
  have g567 : gQ T22 q_8_11 3 = (some q_16_14_11) := by rw [← eT22]; exact g529
  have g568 : gQ T22 q_7 6 = (some q_8_11) := by rw [← eT22]; exact g530
  have g569 : gI T22 q_7 8 = 0 := by rw [← eT22]; exact (u2_k (by decide)).trans g531
  have g570 : gI T22 q_7 9 = 0 := by rw [← eT22]; exact (u2_k (by decide)).trans g532
  have g571 : gI T22 q_7 11 = 0 := by rw [← eT22]; exact (u2_k (by decide)).trans g533
  have g572 : gI T22 q_7 14 = 0 := by rw [← eT22]; exact (u2_k (by decide)).trans g534
  have g573 : gI T22 q_7 15 = 0 := by rw [← eT22]; exact (u2_k (by decide)).trans g535
  have g574 : gI T22 q_7 17 = 0 := by rw [← eT22]; exact (u2_k (by decide)).trans g536
  have g575 : gI T22 q_8_11 4 = 0 := by rw [← eT22]; exact (u2_a (ne_of_kind o553.2 o552.2 (by decide))).trans g537
  have g576 : gI T22 q_7 10 = 1000 := by rw [← eT22]; exact (u2_k (by decide)).trans g538
  have g577 : gI T22 q_7 13 = -1 := by rw [← eT22]; exact (u2_k (by decide)).trans g539
  have g578 : gI T22 q_7 16 = -1 := by rw [← eT22]; exact (u2_k (by decide)).trans g540
  have g579 : gI T22 q_7 0 = (gI S x 2) := by rw [← eT22]; exact (u2_k (by decide)).trans g541
  have g580 : gI T22 q_7 1 = p0 := by rw [← eT22]; exact (u2_k (by decide)).trans g542
  have g581 : gI T22 q_7 2 = p1 := by rw [← eT22]; exact (u2_k (by decide)).trans g543
  have g582 : gI T22 q_7 3 = p2 := by rw [← eT22]; exact u2_s
  generalize eT23 : pR T22 q_1_11 ((0 : Int32).toNatClampNeg) 1000 = T23 at  ⊢
  have hE583 : ExtI S T23 := by rw [← eT23]; exact hE544.pR
  have rr584 : ∀ b, b ∈ gL S → ∀ k, gR T23 b k = gR S b k := fun b hb k => by rw [← eT23]; exact (u2_a (ne_new hb nq_1_11)).trans (rr545 b hb k)
  have rj585 : ∀ b, b ∈ gL S → ∀ k, gJ T23 b k = gJ S b k := fun b hb k => by rw [← eT23]; exact rj546 b hb k
  have j586 : ∀ k, gJ T23 q_16_14_11 k = 0 := fun k => by rw [← eT23]; exact j547 k
  have w587 : ∀ k, gR T23 q_1_11 k = (if k = 0 then 1000 else 0) := fun k => by
    rw [← eT23]
    by_cases hk : k = 0
    · subst hk; rw [if_pos rfl]; exact u2_s
    · rw [if_neg hk]; exact (u2_k hk).trans (w548 k)
  have w588 : ∀ k, gR T23 q_1_14_11 k = 0 := fun k => by rw [← eT23]; exact (u2_a (ne_of_kind a556.2.1 a554.2.1 (by decide))).trans (w549 k)
  have w589 : ∀ k, gR T23 q_3_14_11 k = 0 := fun k => by rw [← eT23]; exact (u2_a (ne_of_kind a557.2.1 a554.2.1 (by decide))).trans (w550 k)
  have w590 : ∀ k, gR T23 q_8_14_11 k = 0 := fun k => by rw [← eT23]; exact (u2_a (ne_of_kind a558.2.1 a554.2.1 (by decide))).trans (w551 k)
  have o591 : isO T23 q_7 3 := by rw [← eT23]; exact o552
  have o592 : isO T23 q_8_11 4 := by rw [← eT23]; exact o553
  have a593 : isA T23 q_1_11 6 4 := by rw [← eT23]; exact a554
  have a594 : isA T23 q_3_11 21 5 := by rw [← eT23]; exact a555
  have a595 : isA T23 q_1_14_11 10 4 := by rw [← eT23]; exact a556
  have a596 : isA T23 q_3_14_11 11 4 := by rw [← eT23]; exact a557
  have a597 : isA T23 q_8_14_11 12 4 := by rw [← eT23]; exact a558
  have a598 : isA T23 q_16_14_11 20 4 := by rw [← eT23]; exact a559
  have p599 : ∀ k, gP T23 q_3_11 k = none := fun k => by rw [← eT23]; exact p560 k
  have g600 : gQ T23 q_7 7 = none := by rw [← eT23]; exact g561
  have g601 : gQ T23 q_7 4 = (some q_1_11) := by rw [← eT23]; exact g562
  have g602 : gQ T23 q_7 5 = (some q_3_11) := by rw [← eT23]; exact g563
  have g603 : gQ T23 q_8_11 0 = (some q_1_14_11) := by rw [← eT23]; exact g564
  have g604 : gQ T23 q_8_11 1 = (some q_3_14_11) := by rw [← eT23]; exact g565
  have g605 : gQ T23 q_8_11 2 = (some q_8_14_11) := by rw [← eT23]; exact g566
  have g606 : gQ T23 q_8_11 3 = (some q_16_14_11) := by rw [← eT23]; exact g567
  have g607 : gQ T23 q_7 6 = (some q_8_11) := by rw [← eT23]; exact g568
  have g608 : gI T23 q_7 8 = 0 := by rw [← eT23]; exact g569
  have g609 : gI T23 q_7 9 = 0 := by rw [← eT23]; exact g570
  have g610 : gI T23 q_7 11 = 0 := by rw [← eT23]; exact g571
  have g611 : gI T23 q_7 14 = 0 := by rw [← eT23]; exact g572
  have g612 : gI T23 q_7 15 = 0 := by rw [← eT23]; exact g573
  have g613 : gI T23 q_7 17 = 0 := by rw [← eT23]; exact g574
  have g614 : gI T23 q_8_11 4 = 0 := by rw [← eT23]; exact g575
  have g615 : gI T23 q_7 10 = 1000 := by rw [← eT23]; exact g576
  have g616 : gI T23 q_7 13 = -1 := by rw [← eT23]; exact g577
  have g617 : gI T23 q_7 16 = -1 := by rw [← eT23]; exact g578
  have g618 : gI T23 q_7 0 = (gI S x 2) := by rw [← eT23]; exact g579
  have g619 : gI T23 q_7 1 = p0 := by rw [← eT23]; exact g580
  have g620 : gI T23 q_7 2 = p1 := by rw [← eT23]; exact g581
  have g621 : gI T23 q_7 3 = p2 := by rw [← eT23]; exact g582
  have hs7 : okSw T23 q_7 := ⟨o591, ⟨q_1_11, g601, a593⟩, ⟨q_3_11, g602, a594, fun k hk u hu => by rw [p599 k] at hu; cases hu⟩, ⟨0, Nat.zero_le _, g600⟩, ⟨q_8_11, g607, o592, ⟨q_1_14_11, g603, a595⟩, ⟨q_3_14_11, g604, a596⟩, ⟨q_8_14_11, g605, a597⟩, ⟨q_16_14_11, g606, a598⟩⟩, Or.inl g609⟩
  refine ⟨T23, q_7, rfl, hE583, nq_7, hs7, rr584, g618, ⟨g619, g620, g621, g608, g609, g615, g610, g616, g611, g612, g617, g613⟩, ?_, ?_, ?_, ?_, g600, ?_, ?_, ?_, ?_, rj585⟩
  · intro v; rw [show wtA T23 q_7 = q_1_11 by simp [wtA, g601]]; exact w587 v
  · rw [show wtA T23 q_7 = q_1_11 by simp [wtA, g601]]; exact nq_1_11
  · intro k; rw [show rlA T23 q_7 = q_3_11 by simp [rlA, g602]]; exact p599 k
  · rw [show rlA T23 q_7 = q_3_11 by simp [rlA, g602]]; exact nq_3_11
  · rw [show tyA T23 q_7 = q_8_11 by simp [tyA, g607]]; exact nq_8_11
  · intro k hk
    rcases (show k = 0 ∨ k = 1 ∨ k = 2 ∨ k = 3 by omega) with rfl | rfl | rfl | rfl
    · rw [show tkA T23 q_7 0 = q_1_14_11 by simp [tkA, tyA, g607, g603]]; exact nq_1_14_11
    · rw [show tkA T23 q_7 1 = q_3_14_11 by simp [tkA, tyA, g607, g604]]; exact nq_3_14_11
    · rw [show tkA T23 q_7 2 = q_8_14_11 by simp [tkA, tyA, g607, g605]]; exact nq_8_14_11
    · rw [show tkA T23 q_7 3 = q_16_14_11 by simp [tkA, tyA, g607, g606]]; exact nq_16_14_11
  · intro v; rw [show tkA T23 q_7 0 = q_1_14_11 by simp [tkA, tyA, g607, g603], show tkA T23 q_7 1 = q_3_14_11 by simp [tkA, tyA, g607, g604], show tkA T23 q_7 2 = q_8_14_11 by simp [tkA, tyA, g607, g605], show tkA T23 q_7 3 = q_16_14_11 by simp [tkA, tyA, g607, g606]]; exact ⟨w588 v, w589 v, w590 v, j586 v⟩
  · rw [show tyA T23 q_7 = q_8_11 by simp [tyA, g607]]; exact g614
