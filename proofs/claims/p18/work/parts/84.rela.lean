/-! the relation stays: a switch more -/
theorem rArm_none {T : Rows} {one u : Int32} : ∀ c k, (∀ j, k ≤ j → j < k + c → T 23 j ≠ one) → rArm T one u c k = -1 := by
  intro c
  induction c with
  | zero => intro k _; rfl
  | succ c ih =>
    intro k h
    unfold rArm
    rw [if_neg (h k (Nat.le_refl _) (by omega))]
    exact ih (k + 1) (fun j h1 h2 => h j (by omega) (by omega))
theorem REL.add1 {fl : Prop} {n na na2 nm : Nat} {hh cc p0 p1 p2 c : Int32} {S T : Pool} {M N : MSt} {x ar ak q : Nat} (h : REL fl n na S M ar) (hC : INVC n na2 hh cc S x ar ak) (hI : INVR n nm M) (hn : n < 8) (hE : ExtI S T) (hq : q ∉ gL S) (hs : okSw T q) (hgR : ∀ b, b ∈ gL S → ∀ k, gR T b k = gR S b k)
    (g : gI T q 1 = p0 ∧ gI T q 2 = p1 ∧ gI T q 3 = p2 ∧ gI T q 8 = 0 ∧ gI T q 9 = 0 ∧ gI T q 10 = 1000 ∧ gI T q 11 = 0 ∧ gI T q 13 = -1 ∧ gI T q 14 = 0 ∧ gI T q 15 = 0 ∧ gI T q 16 = -1 ∧ gI T q 17 = 0) (gw : ∀ v, gR T (wtA T q) v = if v = 0 then 1000 else 0) (hw : wtA T q ∉ gL S) (gp : ∀ k, gP T (rlA T q) k = none) (hr : rlA T q ∉ gL S) (g7 : gQ T q 7 = none)
    (rr : ∀ j, j ≠ 4 → j ≠ 5 → j ≠ 6 → j ≠ 7 → j ≠ 9 → j ≠ 10 → j ≠ 12 → j ≠ 15 → N.2 j = M.2 j) (f4 : ∀ j, N.2 4 j = if j = n then p0 else M.2 4 j) (f5 : ∀ j, N.2 5 j = if j = n then p1 else M.2 5 j) (f6 : ∀ j, N.2 6 j = if j = 4 * n then 1000 else M.2 6 j) (f7 : ∀ j, N.2 7 j = if j = n then 1000 else M.2 7 j) (f9 : ∀ j, N.2 9 j = if j = n then c else M.2 9 j) (f10 : ∀ j, N.2 10 j = if j = n then p2 else M.2 10 j) (f12 : ∀ j, N.2 12 j = if j = n then -1 else M.2 12 j) (f15 : ∀ j, N.2 15 j = if j = n then -1 else M.2 15 j) : REL fl (n + 1) na (pI (pP T ar (gI S x 2).toNatClampNeg (some q)) x 2 (gI S x 2 + 1)) N ar := by
  obtain ⟨h1, h2, h3, h4⟩ := h
  have e2 : (gI S x 2).toNatClampNeg = n := by rw [hC.x2]; exact ki_cl (by omega)
  rw [e2]
  have hx : isO T x 5 := hE.1.o hC.hx
  have har : isA T ar 22 8 := hE.1.a hC.R.1
  have eI : ∀ b k, b ≠ x → gI (pI (pP T ar n (some q)) x 2 (gI S x 2 + 1)) b k = gI T b k := fun b k hb => (show u2 (gI T) x 2 _ b k = _ from u2_a hb)
  have eP : ∀ b k, gP (pI (pP T ar n (some q)) x 2 (gI S x 2 + 1)) b k = if b = ar ∧ k = n then some q else gP T b k := fun b k => rfl
  have eQ : gQ (pI (pP T ar n (some q)) x 2 (gI S x 2 + 1)) = gQ T := rfl
  have eR : gR (pI (pP T ar n (some q)) x 2 (gI S x 2 + 1)) = gR T := rfl
  generalize (pI (pP T ar n (some q)) x 2 (gI S x 2 + 1)) = X at eI eP eQ eR ⊢
  have ePr : ∀ k, k ≠ n → gP X ar k = gP S ar k := fun k hk => by
    have o1 : ¬ (ar = ar ∧ k = n) := fun e => hk e.2
    rw [eP, if_neg o1]; exact (hE.1 ar hC.R.1.1).2.2 k
  have ePn : gP X ar n = some q := by rw [eP, if_pos ⟨rfl, rfl⟩]
  have ePo : ∀ b, gK T b ≠ 22 → ∀ k, gP X b k = gP T b k := fun b hb k => by
    have o1 : ¬ (b = ar ∧ k = n) := fun e => hb (by rw [e.1]; exact har.2.1)
    rw [eP, if_neg o1]
  have ew : ∀ b, wtA X b = wtA T b ∧ rlA X b = rlA T b := fun b => by unfold wtA rlA; rw [eQ]; exact ⟨rfl, rfl⟩
  have ewS : ∀ b, okSw S b → wtA T b = wtA S b ∧ rlA T b = rlA S b := fun b hb => by unfold wtA rlA; rw [(hE.1 b hb.1.1).2.1, (hE.1 b hb.1.1).2.1]; exact ⟨rfl, rfl⟩
  have hwS : ∀ b, okSw S b → wtA S b ∈ gL S := fun b hb => by
    obtain ⟨-, ⟨wt, w1, w2⟩, -⟩ := hb
    rw [show wtA S b = wt by simp [wtA, w1]]; exact w2.1
  have hqx : q ≠ x := fun e => hq (e ▸ hC.hx.1)
  obtain ⟨g1, g2, g3, g8, g9, g10, g11, g13, g14, g15, g16, g17⟩ := g
  obtain ⟨z17, z11, z60, z61, z62, z63⟩ := hI.2.2 n (Nat.le_refl _)
  obtain ⟨y8, y13, y14, y16⟩ := h3 n (Nat.le_refl _)
  have r8 := rr 8 (by decide) (by decide) (by decide) (by decide) (by decide) (by decide) (by decide) (by decide)
  have r11 := rr 11 (by decide) (by decide) (by decide) (by decide) (by decide) (by decide) (by decide) (by decide)
  have r13 := rr 13 (by decide) (by decide) (by decide) (by decide) (by decide) (by decide) (by decide) (by decide)
  have r14 := rr 14 (by decide) (by decide) (by decide) (by decide) (by decide) (by decide) (by decide) (by decide)
  have r16 := rr 16 (by decide) (by decide) (by decide) (by decide) (by decide) (by decide) (by decide) (by decide)
  have r17 := rr 17 (by decide) (by decide) (by decide) (by decide) (by decide) (by decide) (by decide) (by decide)
  have r18 := rr 18 (by decide) (by decide) (by decide) (by decide) (by decide) (by decide) (by decide) (by decide)
  have r19 := rr 19 (by decide) (by decide) (by decide) (by decide) (by decide) (by decide) (by decide) (by decide)
  have r20 := rr 20 (by decide) (by decide) (by decide) (by decide) (by decide) (by decide) (by decide) (by decide)
  have r21 := rr 21 (by decide) (by decide) (by decide) (by decide) (by decide) (by decide) (by decide) (by decide)
  have r23 := rr 23 (by decide) (by decide) (by decide) (by decide) (by decide) (by decide) (by decide) (by decide)
  have r24 := rr 24 (by decide) (by decide) (by decide) (by decide) (by decide) (by decide) (by decide) (by decide)
  have r25 := rr 25 (by decide) (by decide) (by decide) (by decide) (by decide) (by decide) (by decide) (by decide)
  have sp : ∀ i a, i < 8 → gP X ar i = some a → (i = n ∧ a = q) ∨ (i ≠ n ∧ gP S ar i = some a) := fun i a hi ha => by
    by_cases hin : i = n
    · subst hin; rw [ePn] at ha; cases ha; exact Or.inl ⟨rfl, rfl⟩
    · rw [ePr i hin] at ha; exact Or.inr ⟨hin, ha⟩
  refine ⟨fun j hj b hb => ?_, fun i1 j1 a1 b1 hi1 hj1 ha1 hb1 hij => ?_, fun j hj => ?_, fun hf z hz => ?_⟩
  · rcases sp j b (by omega) hb with ⟨rfl, rfl⟩ | ⟨hjn, hb⟩
    · have nq : ∀ k, gI X b k = gI T b k := fun k => eI b k hqx
      refine ⟨fun p hp => ?_, fun u hu => ?_, ⟨0, by omega, by rw [r17, z17]; rfl, fun k hk => absurd hk (by omega), fun k _ _ => ?_⟩, fun hf u => Or.inl ⟨?_, ?_⟩, Or.inr (by rw [nq]; exact g11)⟩
      · rw [nq]
        have hk9 : ∀ q ∈ relK, q = (1, 4) ∨ q = (2, 5) ∨ q = (3, 10) ∨ q = (8, 17) ∨ q = (9, 11) ∨ q = (10, 7) ∨ q = (11, 8) ∨ q = (13, 12) ∨ q = (14, 13) ∨ q = (15, 14) ∨ q = (16, 15) ∨ q = (17, 16) := by decide
        rcases hk9 p hp with rfl | rfl | rfl | rfl | rfl | rfl | rfl | rfl | rfl | rfl | rfl | rfl
        · show gI T b 1 = N.2 4 j; rw [f4, if_pos rfl]; exact g1
        · show gI T b 2 = N.2 5 j; rw [f5, if_pos rfl]; exact g2
        · show gI T b 3 = N.2 10 j; rw [f10, if_pos rfl]; exact g3
        · show gI T b 8 = N.2 17 j; rw [r17, z17]; exact g8
        · show gI T b 9 = N.2 11 j; rw [r11, z11]; exact g9
        · show gI T b 10 = N.2 7 j; rw [f7, if_pos rfl]; exact g10
        · show gI T b 11 = N.2 8 j; rw [r8, y8]; exact g11
        · show gI T b 13 = N.2 12 j; rw [f12, if_pos rfl]; exact g13
        · show gI T b 14 = N.2 13 j; rw [r13, y13]; exact g14
        · show gI T b 15 = N.2 14 j; rw [r14, y14]; exact g15
        · show gI T b 16 = N.2 15 j; rw [f15, if_pos rfl]; exact g16
        · show gI T b 17 = N.2 16 j; rw [r16, y16]; exact g17
      · rw [(ew b).1, eR, gw, f6]
        rcases (show u = 0 ∨ u = 1 ∨ u = 2 ∨ u = 3 by omega) with rfl | rfl | rfl | rfl
        · rw [if_pos rfl, if_pos (by omega)]; exact ⟨rfl, 1000, by omega, rfl⟩
        · rw [if_neg (by omega), if_neg (by omega), z61]; exact ⟨rfl, 0, by omega, rfl⟩
        · rw [if_neg (by omega), if_neg (by omega), z62]; exact ⟨rfl, 0, by omega, rfl⟩
        · rw [if_neg (by omega), if_neg (by omega), z63]; exact ⟨rfl, 0, by omega, rfl⟩
      · rw [(ew b).2, ePo _ (by rw [hs.rl.2.1]; decide)]; exact gp k
      · unfold cArmA; rw [eQ, g7, cArm_none]
      · rw [rArm_ext r23 r24]
        refine rArm_none na 0 (fun z _ hz => ?_)
        obtain ⟨j9, hj9, e9⟩ := h4 hf z (by omega)
        rw [e9]
        intro e
        have := (nI_eq (a := j9) (b := j) (by omega) (by omega)).mp e
        omega
    · have hj2 : j < n := by omega
      obtain ⟨r1, r2, r3, r4, r5⟩ := h1 j hj2 b hb
      have hsb := hC.sw (by omega) hb
      obtain ⟨w1, w2⟩ := ewS b hsb
      have bx : ∀ z kz, isO S z kz → kz ≠ 5 → ∀ k, gI X z k = gI S z k := fun z kz hz h5 k => by
        rw [eI z k (ne_of_kind hz.2 hC.hx.2 h5)]; exact hE.2 z hz.1 k
      have num := bx b 3 hsb.1 (by decide)
      refine ⟨fun p hp => ?_, fun u hu => ?_, ?_, ?_, ?_⟩
      · rw [num]
        have hk9 : ∀ q ∈ relK, q = (1, 4) ∨ q = (2, 5) ∨ q = (3, 10) ∨ q = (8, 17) ∨ q = (9, 11) ∨ q = (10, 7) ∨ q = (11, 8) ∨ q = (13, 12) ∨ q = (14, 13) ∨ q = (15, 14) ∨ q = (16, 15) ∨ q = (17, 16) := by decide
        rcases hk9 p hp with rfl | rfl | rfl | rfl | rfl | rfl | rfl | rfl | rfl | rfl | rfl | rfl
        · show gI S b 1 = N.2 4 j; rw [f4, if_neg hjn]; exact r1 (1, 4) (by decide)
        · show gI S b 2 = N.2 5 j; rw [f5, if_neg hjn]; exact r1 (2, 5) (by decide)
        · show gI S b 3 = N.2 10 j; rw [f10, if_neg hjn]; exact r1 (3, 10) (by decide)
        · show gI S b 8 = N.2 17 j; rw [r17]; exact r1 (8, 17) (by decide)
        · show gI S b 9 = N.2 11 j; rw [r11]; exact r1 (9, 11) (by decide)
        · show gI S b 10 = N.2 7 j; rw [f7, if_neg hjn]; exact r1 (10, 7) (by decide)
        · show gI S b 11 = N.2 8 j; rw [r8]; exact r1 (11, 8) (by decide)
        · show gI S b 13 = N.2 12 j; rw [f12, if_neg hjn]; exact r1 (13, 12) (by decide)
        · show gI S b 14 = N.2 13 j; rw [r13]; exact r1 (14, 13) (by decide)
        · show gI S b 15 = N.2 14 j; rw [r14]; exact r1 (15, 14) (by decide)
        · show gI S b 16 = N.2 15 j; rw [f15, if_neg hjn]; exact r1 (16, 15) (by decide)
        · show gI S b 17 = N.2 16 j; rw [r16]; exact r1 (17, 16) (by decide)
      · rw [(ew b).1, w1, eR, hgR _ (hwS b hsb), f6, if_neg (by omega)]; exact r2 u hu
      · exact r3.ext (fun k _ => by rw [(ew b).2, w2, ePo _ (by rw [(hE.1.a hsb.rl).2.1]; decide)]; exact (hE.1 _ hsb.rl.1).2.2 k) (fun k u hk hu z _ => bx u 2 (hsb.rulO hk hu) (by decide) z) r17 r18 r19 r20 r21
      · obtain ⟨cn, hc1, hc2⟩ := hsb.chA
        exact fun hf => (r4 hf).ext (fun u => cArmA_ext hc2 (by rw [eQ]; exact (hE.1 b hsb.1.1).2.1 7) (fun m hm => bx m 0 hm (by decide) 0) (fun m hm => by rw [eQ]; exact (hE.1 m hm.1).2.1 2)) (fun u m hm => bx m 0 (hsb.armO hm) (by decide) 1) r23 r24 r25
      · rw [num, num, f9, if_neg (by omega)]; exact r5
  · rw [(ew a1).1, (ew a1).2, (ew b1).1, (ew b1).2]
    rcases sp i1 a1 hi1 ha1 with ⟨rfl, rfl⟩ | ⟨ni, ha1⟩
    · rcases sp j1 b1 hj1 hb1 with ⟨rfl, -⟩ | ⟨nj, hb1⟩
      · exact absurd rfl hij
      · have hsb := hC.sw hj1 hb1
        rw [(ewS b1 hsb).1, (ewS b1 hsb).2]
        exact ⟨fun e => hw (by rw [e]; exact hwS b1 hsb), fun e => hr (by rw [e]; exact hsb.rl.1)⟩
    · have hsa := hC.sw hi1 ha1
      rw [(ewS a1 hsa).1, (ewS a1 hsa).2]
      rcases sp j1 b1 hj1 hb1 with ⟨rfl, rfl⟩ | ⟨nj, hb1⟩
      · exact ⟨fun e => hw (by rw [← e]; exact hwS a1 hsa), fun e => hr (by rw [← e]; exact hsa.rl.1)⟩
      · have hsb := hC.sw hj1 hb1
        rw [(ewS b1 hsb).1, (ewS b1 hsb).2]
        exact h2 i1 j1 a1 b1 hi1 hj1 ha1 hb1 hij
  · rw [r8, r13, r14, r16]; exact h3 j (by omega)
  · rw [r23]; obtain ⟨j9, hj9, e9⟩ := h4 hf z hz; exact ⟨j9, by omega, e9⟩
