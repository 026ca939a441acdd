/-! the tallies stay: an act -/
def aUn (S T : Pool) (a : Nat) (u : Int32) : Prop := (∀ k, gR T (tkA S a 1) k = gR S (tkA S a 1) k ∧ gR T (tkA S a 2) k = gR S (tkA S a 2) k ∧ gJ T (tkA S a 3) k = gJ S (tkA S a 3) k) ∧ ∀ m, cArmA S a u = some m → gI T m 3 = gI S m 3 ∧ gI T m 4 = gI S m 4
def aDn (S T : Pool) (a : Nat) (u w : Int32) : Prop := (cArmA S a u = none ∧ ∀ k, gR T (tkA S a 1) k = gR S (tkA S a 1) k ∧ gR T (tkA S a 2) k = gR S (tkA S a 2) k ∧ gJ T (tkA S a 3) k = gJ S (tkA S a 3) k) ∨ ∃ m, cArmA S a u = some m ∧ gI T m 3 = gI S m 3 + w ∧ gI T m 4 = 1 ∧ ∀ k, gR T (tkA S a 1) k = (if k = (gI S m 1).toNatClampNeg then gR S (tkA S a 1) k + (if gI S m 4 = 0 then 1 else 0) else gR S (tkA S a 1) k) ∧ gR T (tkA S a 2) k = (if k = (gI S m 1).toNatClampNeg then gR S (tkA S a 2) k + w else gR S (tkA S a 2) k) ∧ gJ T (tkA S a 3) k = (if k = (gI S m 1).toNatClampNeg then gJ S (tkA S a 3) k + (((gI S m 3).toInt64 + w.toInt64) * ((gI S m 3).toInt64 + w.toInt64) - (gI S m 3).toInt64 * (gI S m 3).toInt64) else gJ S (tkA S a 3) k)
theorem eqT.tk {S T : Pool} (h : eqT S T) (a k : Nat) : tyA T a = tyA S a ∧ tkA T a k = tkA S a k := by
  have e : tyA T a = tyA S a := congrArg (fun z : Option Nat => z.getD 0) (h.q a 6)
  refine ⟨e, ?_⟩
  show (gQ T (tyA T a) k).getD 0 = (gQ S (tyA S a) k).getD 0
  rw [e, h.q]
theorem zz_if (P : Prop) [Decidable P] : (if (if P then (1 : Int32) else 0) = 0 then (0 : Int32) else 1) = if P then 1 else 0 := by
  by_cases h : P
  · rw [if_pos h]; decide
  · rw [if_neg h]; decide
/-- what one act at one switch changes, cell by cell -/
theorem aWP_cells {S T : Pool} {a m : Nat} {u w : Int32} (hE : eqT S T) (hU : aUn S T a u) (hm : cArmA S a u = some m) (hk : ¬ cKept (gI S m 1) = 0) :
    (∀ b k, gR (aWP T a u w) b k = if b = tkA S a 1 ∧ k = (gI S m 1).toNatClampNeg then gR T (tkA S a 1) (gI S m 1).toNatClampNeg + (if gI S m 4 = 0 then 1 else 0) else if b = tkA S a 2 ∧ k = (gI S m 1).toNatClampNeg then gR T (tkA S a 2) (gI S m 1).toNatClampNeg + w else gR T b k)
    ∧ (∀ b k, gJ (aWP T a u w) b k = if b = tkA S a 3 ∧ k = (gI S m 1).toNatClampNeg then gJ T (tkA S a 3) (gI S m 1).toNatClampNeg + (((gI S m 3).toInt64 + w.toInt64) * ((gI S m 3).toInt64 + w.toInt64) - (gI S m 3).toInt64 * (gI S m 3).toInt64) else gJ T b k)
    ∧ ∀ b k, gI (aWP T a u w) b k = if b = m ∧ k = 4 then 1 else if b = m ∧ k = 3 then gI S m 3 + w else gI T b k := by
  obtain ⟨e3, e4⟩ := hU.2 m hm
  have e1 : gI T m 1 = gI S m 1 := hE.2.2.2.2.2.2.1 m 1 (by omega)
  rw [aWP_s ((hE.armA a u).trans hm), (hE.tk a 1).2, (hE.tk a 2).2, (hE.tk a 3).2, e1, e3, e4]
  unfold cCA
  rw [if_neg hk, zz_if]
  exact ⟨fun b k => rfl, fun b k => rfl, fun b k => rfl⟩
theorem aWP_done {S T : Pool} {a : Nat} {u w : Int32} (hE : eqT S T) (hs : okSw S a) (hU : aUn S T a u) (hk : ∀ m, cArmA S a u = some m → ¬ cKept (gI S m 1) = 0) : aDn S (aWP T a u w) a u w := by
  rcases hm : cArmA S a u with _ | m
  · rw [aWP_n ((hE.armA a u).trans hm)]
    exact Or.inl ⟨hm, hU.1⟩
  · obtain ⟨cR, cJ, cI⟩ := aWP_cells (w := w) hE hU hm (hk m hm)
    refine Or.inr ⟨m, hm, ?_, ?_, fun k => ⟨?_, ?_, ?_⟩⟩
    · have o : ¬ (m = m ∧ 3 = 4) := fun e => absurd e.2 (by decide)
      rw [cI, if_neg o, if_pos ⟨rfl, rfl⟩]
    · rw [cI, if_pos ⟨rfl, rfl⟩]
    · rw [cR]
      by_cases hq : k = (gI S m 1).toNatClampNeg
      · rw [if_pos ⟨rfl, hq⟩, if_pos hq, (hU.1 _).1, hq]
      · have o1 : ¬ (tkA S a 1 = tkA S a 1 ∧ k = (gI S m 1).toNatClampNeg) := fun e => hq e.2
        have o2 : ¬ (tkA S a 1 = tkA S a 2 ∧ k = (gI S m 1).toNatClampNeg) := fun e => hq e.2
        rw [if_neg o1, if_neg o2, if_neg hq]; exact (hU.1 k).1
    · rw [cR]
      have n12 : tkA S a 2 ≠ tkA S a 1 := ne_of_kind hs.k2.2.1 hs.k1.2.1 (by decide)
      have o1 : ¬ (tkA S a 2 = tkA S a 1 ∧ k = (gI S m 1).toNatClampNeg) := fun e => n12 e.1
      rw [if_neg o1]
      by_cases hq : k = (gI S m 1).toNatClampNeg
      · rw [if_pos ⟨rfl, hq⟩, if_pos hq, (hU.1 _).2.1, hq]
      · have o2 : ¬ (tkA S a 2 = tkA S a 2 ∧ k = (gI S m 1).toNatClampNeg) := fun e => hq e.2
        rw [if_neg o2, if_neg hq]; exact (hU.1 k).2.1
    · rw [cJ]
      by_cases hq : k = (gI S m 1).toNatClampNeg
      · rw [if_pos ⟨rfl, hq⟩, if_pos hq, (hU.1 _).2.2, hq]
      · have o2 : ¬ (tkA S a 3 = tkA S a 3 ∧ k = (gI S m 1).toNatClampNeg) := fun e => hq e.2
        rw [if_neg o2, if_neg hq]; exact (hU.1 k).2.2
/-- the cells of another switch stay -/
theorem aWP_other {S T : Pool} {a b : Nat} {u w : Int32} (hE : eqT S T) (hs : okSw S a) (hsb : okSw S b) (hU : aUn S T a u) (hk : ∀ m, cArmA S a u = some m → ¬ cKept (gI S m 1) = 0) (hd : ∀ k, k < 4 → tkA S a k ≠ tkA S b k) (ha : ∀ m, cArmA S a u = some m → cArmA S b u ≠ some m) :
    (∀ k, gR (aWP T a u w) (tkA S b 1) k = gR T (tkA S b 1) k ∧ gR (aWP T a u w) (tkA S b 2) k = gR T (tkA S b 2) k ∧ gJ (aWP T a u w) (tkA S b 3) k = gJ T (tkA S b 3) k) ∧ ∀ m k, cArmA S b u = some m → gI (aWP T a u w) m k = gI T m k := by
  rcases hm : cArmA S a u with _ | m
  · rw [aWP_n ((hE.armA a u).trans hm)]
    exact ⟨fun k => ⟨rfl, rfl, rfl⟩, fun _ _ _ => rfl⟩
  · obtain ⟨cR, cJ, cI⟩ := aWP_cells (w := w) hE hU hm (hk m hm)
    have n11 := hd 1 (by decide)
    have n22 := hd 2 (by decide)
    have n33 := hd 3 (by decide)
    have n12 : tkA S b 1 ≠ tkA S a 2 := ne_of_kind hsb.k1.2.1 hs.k2.2.1 (by decide)
    have n21 : tkA S b 2 ≠ tkA S a 1 := ne_of_kind hsb.k2.2.1 hs.k1.2.1 (by decide)
    refine ⟨fun k => ⟨?_, ?_, ?_⟩, fun z k hz => ?_⟩
    · have o1 : ¬ (tkA S b 1 = tkA S a 1 ∧ k = (gI S m 1).toNatClampNeg) := fun e => n11 e.1.symm
      have o2 : ¬ (tkA S b 1 = tkA S a 2 ∧ k = (gI S m 1).toNatClampNeg) := fun e => n12 e.1
      rw [cR, if_neg o1, if_neg o2]
    · have o1 : ¬ (tkA S b 2 = tkA S a 1 ∧ k = (gI S m 1).toNatClampNeg) := fun e => n21 e.1
      have o2 : ¬ (tkA S b 2 = tkA S a 2 ∧ k = (gI S m 1).toNatClampNeg) := fun e => n22 e.1.symm
      rw [cR, if_neg o1, if_neg o2]
    · have o1 : ¬ (tkA S b 3 = tkA S a 3 ∧ k = (gI S m 1).toNatClampNeg) := fun e => n33 e.1.symm
      rw [cJ, if_neg o1]
    · have hne : z ≠ m := fun e => ha m hm (by rw [← e]; exact hz)
      have o1 : ¬ (z = m ∧ k = 4) := fun e => hne e.1
      have o2 : ¬ (z = m ∧ k = 3) := fun e => hne e.1
      rw [cI, if_neg o1, if_neg o2]
theorem aWP_rest {S T : Pool} {a z : Nat} {u w : Int32} (hE : eqT S T) (hs : okSw S a) (hU : aUn S T a u) (hk : ∀ m, cArmA S a u = some m → ¬ cKept (gI S m 1) = 0) (hz : gI S z 0 ≠ u) (k : Nat) : gI (aWP T a u w) z k = gI T z k := by
  rcases hm : cArmA S a u with _ | m
  · rw [aWP_n ((hE.armA a u).trans hm)]
  · obtain ⟨cR, cJ, cI⟩ := aWP_cells (w := w) hE hU hm (hk m hm)
    have e0 : gI S m 0 = u := by
      obtain ⟨n, hn, hc⟩ := hs.chA
      exact (cArm_isO n _ _ hc ((cArm_fuel n 100 _ hc hn).trans hm)).2
    have hne : z ≠ m := fun e => hz (by rw [e]; exact e0)
    have o1 : ¬ (z = m ∧ k = 4) := fun e => hne e.1
    have o2 : ¬ (z = m ∧ k = 3) := fun e => hne e.1
    rw [cI, if_neg o1, if_neg o2]
theorem cActP_all {S : Pool} {ar : Nat} {u w : Int32} (hR : okR S ar) (hD : DIT S ar) (hk : ∀ i a m, i < 8 → gP S ar i = some a → cArmA S a u = some m → ¬ cKept (gI S m 1) = 0) : ∀ j, j ≤ 8 → eqT S (cActP S ar u w j) ∧ (∀ i a, i < 8 → gP S ar i = some a → (i < j → aDn S (cActP S ar u w j) a u w) ∧ (j ≤ i → aUn S (cActP S ar u w j) a u)) ∧ ∀ m, gI S m 0 ≠ u → ∀ k, gI (cActP S ar u w j) m k = gI S m k := by
  intro j
  induction j with
  | zero =>
    intro _
    exact ⟨eqT.rf, fun i a hi ha => ⟨fun h => absurd h (Nat.not_lt_zero _), fun _ => ⟨fun k => ⟨rfl, rfl, rfl⟩, fun m _ => ⟨rfl, rfl⟩⟩⟩, fun m _ k => rfl⟩
  | succ j ih =>
    intro hj
    obtain ⟨hE, h1, h2⟩ := ih (by omega)
    have ep : gP (cActP S ar u w j) ar j = gP S ar j := hE.p ar j
    rcases ha : gP S ar j with _ | a
    · rw [cActP_n (ep.trans ha)]
      refine ⟨hE, fun i b hi hb => ⟨fun h => ?_, fun h => (h1 i b hi hb).2 (by omega)⟩, h2⟩
      refine (h1 i b hi hb).1 ?_
      rcases Nat.lt_or_ge i j with q | q
      · exact q
      · have e : i = j := by omega
        rw [e, ha] at hb
        cases hb
    · rw [cActP_s (ep.trans ha)]
      have hs := (hR.2 j (by omega) a ha).1
      have hsT : okSw (cActP S ar u w j) a := ((hE.okR hR).2 j (by omega) a (ep.trans ha)).1
      have hU := (h1 j a (by omega) ha).2 (Nat.le_refl _)
      have hk9 := fun m => hk j a m (by omega) ha
      refine ⟨hE.tr (aWP_T hsT), fun i b hi hb => ⟨fun h => ?_, fun h => ?_⟩, fun m hm k => (aWP_rest hE hs hU hk9 hm k).trans (h2 m hm k)⟩
      · by_cases e : i = j
        · subst e
          cases ha.symm.trans hb
          exact aWP_done hE hs hU hk9
        · obtain ⟨-, d2, d3⟩ := hD j i a b (by omega) hi ha hb (fun q => e q.symm)
          obtain ⟨o1, o2⟩ := aWP_other (w := w) hE hs (hR.2 i hi b hb).1 hU hk9 d2 (d3 u)
          rcases (h1 i b hi hb).1 (by omega) with ⟨g1, g2⟩ | ⟨m, g1, g2, g3, g4⟩
          · exact Or.inl ⟨g1, fun k => ⟨(o1 k).1.trans (g2 k).1, (o1 k).2.1.trans (g2 k).2.1, (o1 k).2.2.trans (g2 k).2.2⟩⟩
          · exact Or.inr ⟨m, g1, (o2 m 3 g1).trans g2, (o2 m 4 g1).trans g3, fun k => ⟨(o1 k).1.trans (g4 k).1, (o1 k).2.1.trans (g4 k).2.1, (o1 k).2.2.trans (g4 k).2.2⟩⟩
      · obtain ⟨-, d2, d3⟩ := hD j i a b (by omega) hi ha hb (by omega)
        obtain ⟨o1, o2⟩ := aWP_other (w := w) hE hs (hR.2 i hi b hb).1 hU hk9 d2 (d3 u)
        obtain ⟨g1, g2⟩ := (h1 i b hi hb).2 (by omega)
        exact ⟨fun k => ⟨(o1 k).1.trans (g1 k).1, (o1 k).2.1.trans (g1 k).2.1, (o1 k).2.2.trans (g1 k).2.2⟩, fun m hm => ⟨(o2 m 3 hm).trans (g2 m hm).1, (o2 m 4 hm).trans (g2 m hm).2⟩⟩
theorem cKept_nz {v : Nat} (h : v < 4) : ¬ cKept (nI v) = 0 := by
  rcases (show v = 0 ∨ v = 1 ∨ v = 2 ∨ v = 3 by omega) with rfl | rfl | rfl | rfl <;> decide +kernel
/-- the row of an arm of the class, among the reference's -/
theorem arm_row {n na na2 i a : Nat} {hh cc u : Int32} {S : Pool} {M : MSt} {x ar ak : Nat} (h : TAL n na S M ar) (hL : REL True n na S M ar) (hC : INVC n na2 hh cc S x ar ak) (hna : na ≤ 100) (hi : i < n) (ha : gP S ar i = some a) : (cArmA S a u = none ∧ ∀ k, k < na → ¬ (M.2 23 k = nI i ∧ M.2 24 k = u)) ∨ ∃ m k v, cArmA S a u = some m ∧ k < na ∧ M.2 23 k = nI i ∧ M.2 24 k = u ∧ v < 4 ∧ M.2 25 k = nI v ∧ gI S m 1 = nI v ∧ gI S m 3 = M.2 26 k ∧ gI S m 4 = M.2 27 k ∧ ∀ q, q < na → M.2 23 q = nI i → M.2 24 q = u → q = k := by
  have hRA := (hL.1 i hi a ha).2.2.2.1 trivial
  rcases hRA u with ⟨r1, r2⟩ | ⟨m, k, r0, r1, r2, -⟩
  · exact Or.inl ⟨r1, fun k hk => rArm_no na 0 (by omega) r2 k (Nat.zero_le _) (by omega)⟩
  · right
    rcases rArm_of M.2 (nI i) u na 0 with e | ⟨z, z1, z2, z3, z4, z5⟩
    · rw [r2] at e; exact absurd e (nI_m1 (by omega))
    · have e : k = z := (nI_eq (a := k) (b := z) (by omega) (by omega)).mp (r2.symm.trans z3)
      subst e
      obtain ⟨b1, b2, b3⟩ := (h.1 i hi a ha).2.2 u m k r1 r0 z4 z5
      obtain ⟨vc, -, v2, -, -, v5⟩ := h.2.2.2.1 i hi
      obtain ⟨v, hv, ev⟩ := v5 k r0 z4
      exact ⟨m, k, v, r1, r0, z4, z5, by omega, ev, b1.trans ev, b2, b3, fun q hq q1 q2 => h.2.2.1 q k hq r0 (q1.trans z4.symm) (q2.trans z5.symm)⟩
theorem TAL.kept {n na na2 : Nat} {hh cc u : Int32} {S : Pool} {M : MSt} {x ar ak : Nat} (h : TAL n na S M ar) (hL : REL True n na S M ar) (hC : INVC n na2 hh cc S x ar ak) (hna : na ≤ 100) : ∀ i a m, i < 8 → gP S ar i = some a → cArmA S a u = some m → ¬ cKept (gI S m 1) = 0 := by
  intro i a m hi ha hm
  rcases Nat.lt_or_ge i n with q | q
  · rcases arm_row (u := u) h hL hC hna q ha with ⟨r1, -⟩ | ⟨m2, k, v, r1, -, -, -, r5, -, r7, -⟩
    · rw [r1] at hm; cases hm
    · cases r1.symm.trans hm
      rw [r7]
      exact cKept_nz r5
  · rw [hC.non i q hi] at ha; cases ha
theorem TAL.act {n na na2 : Nat} {hh cc p0 p1 : Int32} {S : Pool} {M N : MSt} {x ar ak : Nat} (h : TAL n na S M ar) (hC : INVC n na2 hh cc S x ar ak) (hL : REL True n na S M ar) (hna : na ≤ 100) (rr : ∀ j, j ≠ 26 → j ≠ 27 → N.2 j = M.2 j) (e26 : N.2 26 = rA26 M.2 p0 p1 na) (e27 : N.2 27 = rA27 M.2 p0 na) : TAL n na (cActP S ar p0 p1 8) N ar := by
  have n8 := hC.n8
  obtain ⟨hE, hA, hR⟩ := cActP_all (w := p1) hC.R h.2.1 (h.kept (u := p0) hL hC hna) 8 (Nat.le_refl _)
  generalize cActP S ar p0 p1 8 = X at hE hA hR ⊢
  have n23 : N.2 23 = M.2 23 := rr 23 (by decide) (by decide)
  have n24 : N.2 24 = M.2 24 := rr 24 (by decide) (by decide)
  have n25 : N.2 25 = M.2 25 := rr 25 (by decide) (by decide)
  have f26 : ∀ k, N.2 26 k = if k < na ∧ M.2 24 k = p0 then M.2 26 k + p1 else M.2 26 k := fun k => by rw [e26]; rfl
  have f27 : ∀ k, N.2 27 k = if k < na ∧ M.2 24 k = p0 then 1 else M.2 27 k := fun k => by rw [e27]; rfl
  have tkX := fun a k => (hE.tk a k).2
  have tyX := fun a => (hE.tk a 0).1
  have armX := fun a u => hE.armA a u
  have same : ∀ k, M.2 24 k ≠ p0 → N.2 26 k = M.2 26 k ∧ N.2 27 k = M.2 27 k := fun k hk => by
    have o : ¬ (k < na ∧ M.2 24 k = p0) := fun e => hk e.2
    rw [f26, f27, if_neg o, if_neg o]; exact ⟨rfl, rfl⟩
  refine ⟨fun i hi a ha => ?_, fun i j a b hi hj ha hb hij => ?_, fun k q hk hq c1 c2 => ?_, ?_⟩
  · rw [hE.p] at ha
    have hs := hC.sw (by omega) ha
    obtain ⟨b1, b2, b3⟩ := h.1 i hi a ha
    have r0 : ∀ k, gR X (tkA S a 0) k = gR S (tkA S a 0) k := fun k => by rw [hE.2.2.2.2.2.2.2 _ (by rw [hs.k0.2.1]; decide)]
    have t0 : ∀ v, rTold N.2 (nI i) (nI v) 0 na 0 0 = rTold M.2 (nI i) (nI v) 0 na 0 0 := fun v => rT_ext na (fun k _ => ⟨by rw [n23], by rw [n25], fun _ => (wT_0 _ _).trans (wT_0 _ _).symm⟩)
    refine ⟨fun v hv => ?_, ?_, fun u m k hm hk k1 k2 => ?_⟩
    · obtain ⟨y0, y1, y2, y3⟩ := b1 v hv
      rw [tkX, tkX, tkX, tkX, r0, t0]
      refine ⟨y0, ?_⟩
      rcases arm_row (u := p0) h hL hC hna hi ha with ⟨r1, r2⟩ | ⟨m, k0, v0, m1, m2, m3, m4, m5, m6, m7, m8, m9, m10⟩
      · rcases (hA i a (by omega) ha).1 (by omega) with ⟨-, g⟩ | ⟨m, g1, -⟩
        · obtain ⟨g1, g2, g3⟩ := g v
          have er : ∀ what, rTold N.2 (nI i) (nI v) what na 0 0 = rTold M.2 (nI i) (nI v) what na 0 0 := fun what => rT_ext na (fun k hk => ⟨by rw [n23], by rw [n25], fun e => by
            obtain ⟨s1, s2⟩ := same k (fun q => r2 k hk ⟨e, q⟩)
            unfold wT; rw [s1, s2]⟩)
          rw [g1, g2, g3, er, er, er]
          exact ⟨y1, y2, y3⟩
        · rw [r1] at g1; cases g1
      · rcases (hA i a (by omega) ha).1 (by omega) with ⟨g1, -⟩ | ⟨m', g1, -, -, g⟩
        · rw [m1] at g1; cases g1
        · cases m1.symm.trans g1
          obtain ⟨g1, g2, g3⟩ := g v
          have ek : (gI S m 1).toNatClampNeg = v0 := by rw [m7]; exact ki_cl (by omega)
          have ev : (M.2 25 k0 = nI v) ↔ v = v0 := by
            rw [m6]
            exact ⟨fun e => ((nI_eq (a := v0) (b := v) (by omega) (by omega)).mp e).symm, fun e => by rw [e]⟩
          have er : ∀ what, rTold N.2 (nI i) (nI v) what na 0 0 = rTold M.2 (nI i) (nI v) what na 0 0 + (if k0 < na ∧ M.2 23 k0 = nI i ∧ M.2 25 k0 = nI v then wT N.2 what k0 - wT M.2 what k0 else 0) := fun what => rT_chg na (fun k hk => ⟨by rw [n23], by rw [n25], fun e hne => by
            obtain ⟨s1, s2⟩ := same k (fun q => hne (m10 k hk e q))
            unfold wT; rw [s1, s2]⟩)
          rw [ek] at g1 g2 g3
          rw [g1, g2, g3, er, er, er]
          by_cases hvv : v = v0
          · have o : k0 < na ∧ M.2 23 k0 = nI i ∧ M.2 25 k0 = nI v := ⟨m2, m3, ev.mpr hvv⟩
            rw [if_pos hvv, if_pos hvv, if_pos hvv, if_pos o, if_pos o, if_pos o, y1, y2]
            have q26 : N.2 26 k0 = M.2 26 k0 + p1 := by rw [f26, if_pos ⟨m2, m4⟩]
            have q27 : N.2 27 k0 = 1 := by rw [f27, if_pos ⟨m2, m4⟩]
            refine ⟨congrArg (fun z => rTold M.2 (nI i) (nI v) 1 na 0 0 + z) ?_, congrArg (fun z => rTold M.2 (nI i) (nI v) 2 na 0 0 + z) ?_, ?_⟩
            · rw [wT_1, wT_1, q27, m9, show (if (1 : Int32) = 0 then (0 : Int32) else 1) = 1 from by decide]
              by_cases hz : M.2 27 k0 = 0
              · rw [if_pos hz, if_pos hz, Int32.sub_zero]
              · rw [if_neg hz, if_neg hz, Int32.sub_self]
            · rw [wT_2, wT_2, q26, Int32.add_comm, Int32.add_sub_cancel]
            · rw [Int64.toInt32_add, y3, Int64.toInt32_sub, Int64.toInt32_mul, Int64.toInt32_mul, Int64.toInt32_add, Int32.toInt32_toInt64, Int32.toInt32_toInt64, m8, wT_3, wT_3, q26]
          · have o : ¬ (k0 < na ∧ M.2 23 k0 = nI i ∧ M.2 25 k0 = nI v) := fun e => hvv (ev.mp e.2.2)
            rw [if_neg hvv, if_neg hvv, if_neg hvv, if_neg o, if_neg o, if_neg o, Int32.add_zero, Int32.add_zero, Int32.add_zero]
            exact ⟨y1, y2, y3⟩
    · rw [tyX, tkX, r0, r0, r0, r0, hE.i hs.ty4 (by decide)]
      exact b2
    · rw [armX] at hm
      rw [n23] at k1
      rw [n24] at k2
      obtain ⟨c1, c2, c3⟩ := b3 u m k hm hk k1 k2
      have i1 : gI X m 1 = gI S m 1 := hE.2.2.2.2.2.2.1 m 1 (by omega)
      refine ⟨by rw [i1, n25]; exact c1, ?_⟩
      by_cases hu : u = p0
      · rw [hu] at hm k2
        rcases (hA i a (by omega) ha).1 (by omega) with ⟨g1, -⟩ | ⟨m', g1, g2, g3, -⟩
        · rw [hm] at g1; cases g1
        · cases hm.symm.trans g1
          rw [g2, g3, f26, f27, if_pos ⟨hk, k2⟩, if_pos ⟨hk, k2⟩, c2]
          exact ⟨rfl, rfl⟩
      · have e0 : gI S m 0 = u := by
          obtain ⟨z, hz, hc⟩ := hs.chA
          exact (cArm_isO z _ _ hc ((cArm_fuel z 100 _ hc hz).trans hm)).2
        have hx := hR m (by rw [e0]; exact hu)
        obtain ⟨s1, s2⟩ := same k (by rw [k2]; exact hu)
        rw [hx, hx, s1, s2]
        exact ⟨c2, c3⟩
  · rw [hE.p] at ha hb
    obtain ⟨c1, c2, c3⟩ := h.2.1 i j a b hi hj ha hb hij
    refine ⟨by rw [tyX, tyX]; exact c1, fun k hk => by rw [tkX, tkX]; exact c2 k hk, fun u m hm => ?_⟩
    rw [armX] at hm
    rw [armX]
    exact c3 u m hm
  · rw [n23] at c1
    rw [n24] at c2
    exact h.2.2.1 k q hk hq c1 c2
  · obtain ⟨v1, v2, v3⟩ := h.2.2.2
    refine ⟨fun i hi => ?_, fun k hk => ?_, fun k hk => ?_⟩
    · obtain ⟨vc, a1, a2, a3, a4, a5⟩ := v1 i hi
      exact ⟨vc, a1, a2, by rw [rr 5 (by decide) (by decide)]; exact a3, fun v b1 b2 => by rw [rr 6 (by decide) (by decide)]; exact a4 v b1 b2, fun k b1 b2 => by rw [n23] at b2; rw [n25]; exact a5 k b1 b2⟩
    · rw [f27]
      by_cases q : k < na ∧ M.2 24 k = p0
      · rw [if_pos q]; exact Or.inr rfl
      · rw [if_neg q]; exact v2 k hk
    · have o : ¬ (k < na ∧ M.2 24 k = p0) := fun e => absurd e.1 (by omega)
      rw [f26, f27, if_neg o, if_neg o]
      exact v3 k hk
/-! for how many switches a user has an arm: both sides -/
def sumN (f : Nat → Nat) : Nat → Nat
  | 0 => 0
  | n + 1 => sumN f n + f n
theorem sumN_s (f : Nat → Nat) (n : Nat) : sumN f (n + 1) = sumN f n + f n := rfl
theorem sumN_add (f g : Nat → Nat) : ∀ n, sumN (fun i => f i + g i) n = sumN f n + sumN g n := by
  intro n
  induction n with
  | zero => rfl
  | succ n ih => rw [sumN_s, sumN_s, sumN_s, ih]; omega
theorem sumN_ext {f g : Nat → Nat} : ∀ n, (∀ i, i < n → f i = g i) → sumN f n = sumN g n := by
  intro n
  induction n with
  | zero => intro _; rfl
  | succ n ih => intro h; rw [sumN_s, sumN_s, ih (fun i hi => h i (by omega)), h n (by omega)]
theorem sumN_0 : ∀ n, sumN (fun _ => 0) n = 0 := by
  intro n
  induction n with
  | zero => rfl
  | succ n ih => rw [sumN_s, ih]
theorem sumN_one {j z : Nat} : ∀ n, sumN (fun i => if j = i then z else 0) n = if j < n then z else 0 := by
  intro n
  induction n with
  | zero => rfl
  | succ n ih =>
    rw [sumN_s, ih]
    by_cases h : j = n
    · rw [if_neg (by omega), if_pos h, if_pos (by omega), Nat.zero_add]
    · by_cases h2 : j < n
      · rw [if_pos h2, if_neg h, if_pos (by omega), Nat.add_zero]
      · rw [if_neg h2, if_neg h, if_neg (by omega)]
def rAiN (T : Rows) (i : Nat) (u : Int32) : Nat → Nat
  | 0 => 0
  | c + 1 => rAiN T i u c + (if T 24 c = u then (if T 23 c = nI i then 1 else 0) else 0)
theorem rAiN_s (T : Rows) (i : Nat) (u : Int32) (c : Nat) : rAiN T i u (c + 1) = rAiN T i u c + (if T 24 c = u then (if T 23 c = nI i then 1 else 0) else 0) := rfl
theorem rAcN_sum {T : Rows} {u : Int32} {n : Nat} (hn : n ≤ 8) : ∀ c, (∀ k, k < c → ∃ j, j < n ∧ T 23 k = nI j) → rAcN T u c = sumN (fun i => rAiN T i u c) n := by
  intro c
  induction c with
  | zero => intro _; exact (sumN_0 n).symm
  | succ c ih =>
    intro h
    have e : sumN (fun i => rAiN T i u (c + 1)) n = sumN (fun i => rAiN T i u c) n + sumN (fun i => if T 24 c = u then (if T 23 c = nI i then 1 else 0) else 0) n := sumN_add _ _ n
    rw [e, ← ih (fun k hk => h k (by omega))]
    obtain ⟨j, hj, ej⟩ := h c (by omega)
    by_cases hu : T 24 c = u
    · rw [rAcN_y hu]
      have e2 : sumN (fun i => if T 24 c = u then (if T 23 c = nI i then 1 else 0) else 0) n = sumN (fun i => if j = i then 1 else 0) n := sumN_ext n (fun i hi => by
        rw [if_pos hu, ej]
        by_cases hji : j = i
        · rw [if_pos hji, if_pos (by rw [hji])]
        · rw [if_neg hji, if_neg (fun q => hji ((nI_eq (a := j) (b := i) (by omega) (by omega)).mp q))])
      rw [e2, sumN_one, if_pos hj]
    · rw [rAcN_n hu]
      have e2 : sumN (fun i => if T 24 c = u then (if T 23 c = nI i then 1 else 0) else 0) n = sumN (fun _ => 0) n := sumN_ext n (fun i hi => by rw [if_neg hu])
      rw [e2, sumN_0, Nat.add_zero]
theorem rAiN_0 {T : Rows} {i : Nat} {u : Int32} : ∀ c, (∀ k, k < c → ¬ (T 23 k = nI i ∧ T 24 k = u)) → rAiN T i u c = 0 := by
  intro c
  induction c with
  | zero => intro _; rfl
  | succ c ih =>
    intro h
    rw [rAiN_s, ih (fun k hk => h k (by omega))]
    by_cases h1 : T 24 c = u
    · rw [if_pos h1, if_neg (fun e => h c (by omega) ⟨e, h1⟩)]
    · rw [if_neg h1]
theorem rAiN_1 {T : Rows} {i k0 : Nat} {u : Int32} (e1 : T 23 k0 = nI i) (e2 : T 24 k0 = u) : ∀ c, k0 < c → (∀ k, k < c → T 23 k = nI i → T 24 k = u → k = k0) → rAiN T i u c = 1 := by
  intro c
  induction c with
  | zero => intro h; omega
  | succ c ih =>
    intro h1 h2
    rw [rAiN_s]
    by_cases hk : k0 = c
    · rw [rAiN_0 c (fun k hk9 e => by have := h2 k (by omega) e.1 e.2; omega), ← hk, if_pos e2, if_pos e1]
    · rw [ih (by omega) (fun k hk9 => h2 k (by omega))]
      by_cases g1 : T 24 c = u
      · rw [if_pos g1, if_neg (fun e => hk (h2 c (by omega) e g1).symm)]
      · rw [if_neg g1]
theorem act_eq {n na na2 : Nat} {hh cc u : Int32} {S : Pool} {M : MSt} {x ar ak : Nat} (h : TAL n na S M ar) (hC : INVC n na2 hh cc S x ar ak) (hL : REL True n na S M ar) (hna : na ≤ 100) : cAct S ar u 8 0 0 = nI (rAcN M.2 u na) := by
  have n8 := hC.n8
  rw [rAcN_sum n8 na (hL.2.2.2 trivial)]
  have one : ∀ i a, i < n → gP S ar i = some a → cAn S a u = nI (rAiN M.2 i u na) := by
    intro i a hi ha
    unfold cAn
    rcases arm_row (u := u) h hL hC hna hi ha with ⟨r1, r2⟩ | ⟨m, k0, v0, m1, m2, m3, m4, -, -, -, -, -, m10⟩
    · rw [if_pos r1, rAiN_0 na r2]; rfl
    · rw [if_neg (by rw [m1]; exact fun e => by cases e), rAiN_1 m3 m4 na m2 m10]; rfl
  have z : ∀ d k acc, n ≤ k → k + d ≤ 8 → cAct S ar u d k acc = acc := by
    intro d
    induction d with
    | zero => intro k acc _ _; rfl
    | succ d ih =>
      intro k acc h1 h2
      unfold cAct
      rw [hC.non k h1 (by omega)]
      exact ih (k + 1) acc (by omega) (by omega)
  have key : ∀ c k, k + c = n → cAct S ar u (c + (8 - n)) k (nI (sumN (fun i => rAiN M.2 i u na) k)) = nI (sumN (fun i => rAiN M.2 i u na) n) := by
    intro c
    induction c with
    | zero =>
      intro k hk
      rw [Nat.zero_add, z (8 - n) k _ (by omega) (by omega), show k = n by omega]
    | succ c ih =>
      intro k hk
      obtain ⟨a, ha⟩ := hC.row k (by omega)
      rw [show c + 1 + (8 - n) = (c + (8 - n)) + 1 by omega]
      unfold cAct
      rw [ha]
      simp only
      have e1 := one k a (by omega) ha
      have ih9 := ih (k + 1) (by omega)
      rw [sumN_s, ← nI_add, ← e1] at ih9
      rcases cAn_01 S a u with q | q
      · rw [if_pos q]
        rw [q, Int32.add_zero] at ih9
        exact ih9
      · rw [if_neg (by rw [q]; decide)]
        rw [q] at ih9
        exact ih9
  have := key n 0 (by omega)
  rw [show n + (8 - n) = 8 by omega] at this
  exact this
theorem eqM.act {M : MSt} {F G : Nat → Int32} : eqM M (mU (mU (mS M 0 0) 26 F) 27 G) := ⟨fun k h1 h2 => (up_o h2).trans (up_o h1), (eqM.rf (M := M)).s0.2⟩
theorem VAL.weigh {n na j v : Nat} {w0 w1 : Int32} {M : MSt} (h : VAL n na M) (hj : j < n) (hv4 : v < 4) (hv : kOut (nI v) 0 (M.2 5 j - 1) = 0) : VAL n na (mR (mR (mS M 0 0) 6 (4 * j) w0) 6 (4 * j + v) w1) := by
  refine ⟨fun i hi => ?_, h.2.1, h.2.2⟩
  obtain ⟨vc, a1, a2, a3, a4, a5⟩ := h.1 i hi
  refine ⟨vc, a1, a2, a3, fun u b1 b2 => ?_, a5⟩
  have e6 : ∀ q, (mR (mR (mS M 0 0) 6 (4 * j) w0) 6 (4 * j + v) w1).2 6 q = if q = 4 * j + v then w1 else if q = 4 * j then w0 else M.2 6 q := fun q => rfl
  have hne : ¬ 4 * i + u = 4 * j + v := fun e => by
    have hij : i = j := by omega
    rw [← hij] at hv
    obtain ⟨k, hk, ek⟩ := kOut_sub1 (k := vc) (v := nI v) (by rw [← a3]; exact hv) (by omega)
    have := (nI_eq (a := v) (b := k) (by omega) (by omega)).mp ek
    omega
  have hne2 : ¬ 4 * i + u = 4 * j := by omega
  rw [e6, if_neg hne, if_neg hne2]
  exact a4 u b1 b2
theorem rGx_8 {T : Rows} {hold : Int32} {on : Nat → Int32} {u f g : Int32} {na ru : Nat} {sub : Nat → Int32} {i : Nat} {far : Int32} : (rGx T hold on u f g na ru sub i far).2 = 8 → (rGx T hold on u f g na ru sub i far).1 = rSplit T i (kBkt (T 4 i) u) 4 0 (T 6 (4 * i)) := by
  unfold rGx
  repeat' split
  all_goals first
    | exact fun h => absurd (show (0 : Int32) = 8 from h) (by decide)
    | exact fun h => absurd (show (1 : Int32) = 8 from h) (by decide)
    | exact fun h => absurd (show (2 : Int32) = 8 from h) (by decide)
    | exact fun h => absurd (show (3 : Int32) = 8 from h) (by decide)
    | exact fun h => absurd (show (4 : Int32) = 8 from h) (by decide)
    | exact fun h => absurd (show (5 : Int32) = 8 from h) (by decide)
    | exact fun h => absurd (show (6 : Int32) = 8 from h) (by decide)
    | exact fun h => absurd (show (7 : Int32) = 8 from h) (by decide)
    | exact fun _ => rfl
theorem rSplit_w {T : Rows} {i : Nat} {bk : Int32} : ∀ c v acc, v + c = 4 → ∀ w, w < 4 → rSplit T i bk c v acc = nI w → (w = v ∧ bk < acc) ∨ T 6 (4 * i + w) ≠ 0 := by
  intro c
  induction c with
  | zero =>
    intro v acc hv w hw h
    have h : nI v = nI w := h
    have := (nI_eq (a := v) (b := w) (by omega) (by omega)).mp h
    omega
  | succ c ih =>
    intro v acc hv w hw h
    have h : (if bk < acc then nI v else rSplit T i bk c (v + 1) (acc + T 6 (4 * i + (v + 1)))) = nI w := h
    by_cases hb : bk < acc
    · rw [if_pos hb] at h
      exact Or.inl ⟨((nI_eq (a := v) (b := w) (by omega) (by omega)).mp h).symm, hb⟩
    · rw [if_neg hb] at h
      rcases ih (v + 1) _ (by omega) w hw h with ⟨e, h2⟩ | h2
      · right
        rw [e]
        intro z
        rw [z, Int32.add_zero] at h2
        exact hb h2
      · exact Or.inr h2
/-- the variant of a split is one of the switch's -/
theorem split_vc {n na na2 j v : Nat} {hold u f g : Int32} {on far : Nat → Int32} {ru : Nat → Nat} {M : MSt} (h : VAL n na M) (hj : j < n) (g8 : (rG M.2 hold on far u f g na2 ru 8 j).2 = 8) (gv : (rG M.2 hold on far u f g na2 ru 8 j).1 = nI v) (hv4 : v < 4) : ∃ vc, M.2 5 j = nI vc ∧ v < vc ∧ vc ≤ 4 := by
  obtain ⟨vc, a1, a2, a3, a4, -⟩ := h.1 j hj
  refine ⟨vc, a3, ?_, a2⟩
  have g8 : (rGx M.2 hold on u f g na2 (ru j) (fun k => (rG M.2 hold on far u f g na2 ru 7 k).1) j (far j)).2 = 8 := g8
  have gv : (rGx M.2 hold on u f g na2 (ru j) (fun k => (rG M.2 hold on far u f g na2 ru 7 k).1) j (far j)).1 = nI v := gv
  rw [rGx_8 g8] at gv
  rcases rSplit_w 4 0 _ rfl v hv4 gv with ⟨e, -⟩ | e
  · omega
  · rcases Nat.lt_or_ge v vc with q | q
    · exact q
    · exact absurd (a4 v q hv4) e
theorem cTal_n {S : Pool} {t v : Nat} (hv : v < 4) : cTal S t (nI v) = gR S t v := by
  unfold cTal
  rw [if_neg (cKept_nz hv), ki_cl (by omega)]
theorem cTalJ_n {S : Pool} {t v : Nat} (hv : v < 4) : cTalJ S t (nI v) = gJ S t v := by
  unfold cTalJ
  rw [if_neg (cKept_nz hv), ki_cl (by omega)]
theorem q3_in {q : Nat} (h : q < 4) : kIn (nI q) 0 3 = 1 := by
  rcases (show q = 0 ∨ q = 1 ∨ q = 2 ∨ q = 3 by omega) with rfl | rfl | rfl | rfl <;> decide +kernel
