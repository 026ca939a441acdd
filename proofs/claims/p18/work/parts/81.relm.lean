/-! the relation stays: numbers, weights -/
theorem mR_at {M : MSt} {k i q j : Nat} {v : Int32} : (mR M k i v).2 q j = if q = k ∧ j = i then v else M.2 q j := by
  show va_up M.2 k (upd (M.2 k) i v) q j = _
  by_cases h : q = k
  · subst h
    rw [up_i]
    by_cases h2 : j = i
    · subst h2; simp [upd]
    · simp [upd, h2]
  · rw [up_o h, if_neg (fun z => h z.1)]
theorem relK_inj : ∀ q ∈ relK, ∀ p ∈ relK, (q.1 = p.1 ↔ q.2 = p.2) := by decide
/-- the switch i is a, and no other -/
theorem INVC.only {n na : Nat} {hh cc : Int32} {S : Pool} {x ar ak i j a b : Nat} (h : INVC n na hh cc S x ar ak) (hi : i < n) (hj : j < n) (ha : gP S ar i = some a) (hb : gP S ar j = some b) : (b = a ↔ j = i) := by
  have h8 := h.n8
  constructor
  · intro e
    subst e
    have e1 := (h.R.2 i (by omega) b ha).2
    have e2 := (h.R.2 j (by omega) b hb).2
    have e3 : nI j = nI i := e2.symm.trans e1
    exact (nI_eq (a := j) (b := i) (by omega) (by omega)).mp e3
  · intro e
    subst e
    exact Option.some.inj (hb.symm.trans ha)
theorem REL.m {fl : Prop} {n na : Nat} {S : Pool} {M N : MSt} {ar : Nat} (h : REL fl n na S M ar) (hM : eqM M N) : REL fl n na S N ar := by
  obtain ⟨h1, h2, h3, h4⟩ := h
  have rr : ∀ k, k ≠ 26 → k ≠ 27 → N.2 k = M.2 k := hM.1
  refine ⟨fun i hi a ha => ?_, h2, fun i hi => ?_, fun hf z hz => by rw [rr 23 (by decide) (by decide)]; exact h4 hf z hz⟩
  · obtain ⟨r1, r2, r3, r4, r5⟩ := h1 i hi a ha
    refine ⟨fun q hq => ?_, fun v hv => ?_, ?_, ?_, ?_⟩
    · have h26 : ∀ q ∈ relK, q.2 ≠ 26 ∧ q.2 ≠ 27 := by decide
      rw [rr _ (h26 q hq).1 (h26 q hq).2]
      exact r1 q hq
    · rw [rr 6 (by decide) (by decide)]; exact r2 v hv
    · exact r3.ext (fun k _ => rfl) (fun k u hk hu j _ => rfl) (rr 17 (by decide) (by decide)) (rr 18 (by decide) (by decide)) (rr 19 (by decide) (by decide)) (rr 20 (by decide) (by decide)) (rr 21 (by decide) (by decide))
    · exact fun hf => (r4 hf).ext (fun u => rfl) (fun u m hm => rfl) (rr 23 (by decide) (by decide)) (rr 24 (by decide) (by decide)) (rr 25 (by decide) (by decide))
    · rw [rr 9 (by decide) (by decide)]; exact r5
  · rw [rr 8 (by decide) (by decide), rr 13 (by decide) (by decide), rr 14 (by decide) (by decide), rr 16 (by decide) (by decide)]; exact h3 i hi
theorem REL.num {fl : Prop} {n na na2 : Nat} {hh cc : Int32} {S : Pool} {M : MSt} {x ar ak i a k k' : Nat} {v : Int32} (h : REL fl n na S M ar) (hC : INVC n na2 hh cc S x ar ak) (hi : i < n) (ha : gP S ar i = some a) (hk : (k, k') ∈ relK) (h17 : k' ≠ 17) (h11 : k ≠ 11) : REL fl n na (pI S a k v) (mR M k' i v) ar := by
  obtain ⟨h1, h2, h3, h4⟩ := h
  have h8 := hC.n8
  have hsa := hC.sw (by omega) ha
  have nk : ∀ q ∈ relK, q.2 ≠ 6 ∧ q.2 ≠ 18 ∧ q.2 ≠ 19 ∧ q.2 ≠ 20 ∧ q.2 ≠ 21 ∧ q.2 ≠ 23 ∧ q.2 ≠ 24 ∧ q.2 ≠ 25 ∧ q.2 ≠ 9 ∧ q.1 ≠ 12 := by decide
  obtain ⟨n6, n18, n19, n20, n21, n23, n24, n25, n9, n12⟩ := nk _ hk
  have rr : ∀ j, j ≠ k' → (mR M k' i v).2 j = M.2 j := fun j hj => up_o hj
  refine ⟨fun j hj b hb => ?_, h2, fun j hj => ?_, fun hf z hz => by rw [rr 23 (fun e => n23 e.symm)]; exact h4 hf z hz⟩
  · have hb : gP S ar j = some b := hb
    obtain ⟨r1, r2, r3, r4, r5⟩ := h1 j hj b hb
    have hon := hC.only hi hj ha hb
    have hsb := hC.sw (by omega) hb
    refine ⟨fun q hq => ?_, fun w hw => ?_, ?_, ?_, ?_⟩
    · rw [mR_at]
      by_cases hq2 : q.2 = k' ∧ j = i
      · have hq1 : q.1 = k := (relK_inj q hq _ hk).mpr hq2.1
        rw [if_pos hq2, hq1, hon.mpr hq2.2]
        exact u2_s
      · rw [if_neg hq2]
        have e : gI (pI S a k v) b q.1 = gI S b q.1 := by
          by_cases hji : j = i
          · exact u2_k (fun e => hq2 ⟨(relK_inj q hq _ hk).mp e, hji⟩)
          · exact u2_a (fun e => hji (hon.mp e))
        rw [e]
        exact r1 q hq
    · rw [rr 6 (fun e => n6 e.symm)]; exact r2 w hw
    · exact r3.ext (fun k _ => rfl) (fun k u hk hu j _ => u2_a (ne_of_kind (hsb.rulO hk hu).2 hsa.1.2 (by decide))) (rr 17 (fun e => h17 e.symm)) (rr 18 (fun e => n18 e.symm)) (rr 19 (fun e => n19 e.symm)) (rr 20 (fun e => n20 e.symm)) (rr 21 (fun e => n21 e.symm))
    · obtain ⟨c, hc1, hc2⟩ := hsb.chA
      exact fun hf => (r4 hf).ext (fun u => cArmA_ext hc2 rfl (fun b hb => u2_a (ne_of_kind hb.2 hsa.1.2 (by decide))) (fun b hb => rfl)) (fun u m hm => u2_a (ne_of_kind (hsb.armO hm).2 hsa.1.2 (by decide))) (rr 23 (fun e => n23 e.symm)) (rr 24 (fun e => n24 e.symm)) (rr 25 (fun e => n25 e.symm))
    · rw [rr 9 (fun e => n9 e.symm), show gI (pI S a k v) b 12 = gI S b 12 from u2_k (fun e => n12 e.symm), show gI (pI S a k v) b 11 = gI S b 11 from u2_k (fun e => h11 e.symm)]
      exact r5
  · rw [mR_at, mR_at, mR_at, mR_at, if_neg (by omega), if_neg (by omega), if_neg (by omega), if_neg (by omega)]; exact h3 j hj
/-- the number of the clock, where a ramp began; the step: where it is told with it -/
theorem REL.ramp {fl : Prop} {n na na2 : Nat} {hh cc : Int32} {S : Pool} {M : MSt} {x ar ak i a : Nat} {p1 p2 c : Int32} (h : REL fl n na S M ar) (hC : INVC n na2 hh cc S x ar ak) (hi : i < n) (ha : gP S ar i = some a) : REL fl n na (pI (pI (pI S a 10 p1) a 11 p2) a 12 c) (mR (mR (mR M 7 i p1) 8 i p2) 9 i c) ar := by
  obtain ⟨h1, h2, h3, h4⟩ := h
  have h8 := hC.n8
  have hsa := hC.sw (by omega) ha
  have eS : ∀ b k, gI (pI (pI (pI S a 10 p1) a 11 p2) a 12 c) b k = if b = a ∧ k = 12 then c else if b = a ∧ k = 11 then p2 else if b = a ∧ k = 10 then p1 else gI S b k := fun b k => rfl
  have eM : ∀ q j, (mR (mR (mR M 7 i p1) 8 i p2) 9 i c).2 q j = if q = 9 ∧ j = i then c else if q = 8 ∧ j = i then p2 else if q = 7 ∧ j = i then p1 else M.2 q j := fun q j => by rw [mR_at, mR_at, mR_at]
  have rr : ∀ j, j ≠ 7 → j ≠ 8 → j ≠ 9 → (mR (mR (mR M 7 i p1) 8 i p2) 9 i c).2 j = M.2 j := fun j a1 a2 a3 => (up_o a3).trans ((up_o a2).trans (up_o a1))
  generalize (mR (mR (mR M 7 i p1) 8 i p2) 9 i c) = N at eM rr ⊢
  have nb : ∀ b k, isO S b k → k ≠ 3 → ∀ q, gI (pI (pI (pI S a 10 p1) a 11 p2) a 12 c) b q = gI S b q := fun b k hb hk q => by
    have hne : b ≠ a := ne_of_kind hb.2 hsa.1.2 hk
    rw [eS, if_neg (fun e => hne e.1), if_neg (fun e => hne e.1), if_neg (fun e => hne e.1)]
  refine ⟨fun j hj b hb => ?_, h2, fun j hj => ?_, fun hf z hz => by rw [rr 23 (by decide) (by decide) (by decide)]; exact h4 hf z hz⟩
  · have hb : gP S ar j = some b := hb
    obtain ⟨r1, r2, r3, r4, r5⟩ := h1 j hj b hb
    have hon := hC.only hi hj ha hb
    have hsb := hC.sw (by omega) hb
    refine ⟨fun q hq => ?_, fun w hw => ?_, ?_, ?_, ?_⟩
    · rw [eM, eS]
      have hk : ∀ q ∈ relK, (q.1 = 11 ↔ q.2 = 8) ∧ (q.1 = 10 ↔ q.2 = 7) ∧ q.1 ≠ 12 ∧ q.2 ≠ 9 := by decide
      obtain ⟨k1, k2, k3, k4⟩ := hk q hq
      have z1 : ¬ (b = a ∧ q.1 = 12) := fun e => k3 e.2
      have z2 : ¬ (q.2 = 9 ∧ j = i) := fun e => k4 e.1
      rw [if_neg z1, if_neg z2]
      by_cases hji : j = i
      · have hba : b = a := hon.mpr hji
        by_cases e1 : q.1 = 11
        · have y1 : b = a ∧ q.1 = 11 := ⟨hba, e1⟩
          have y2 : q.2 = 8 ∧ j = i := ⟨k1.mp e1, hji⟩
          rw [if_pos y1, if_pos y2]
        · have y1 : ¬ (b = a ∧ q.1 = 11) := fun e => e1 e.2
          have y2 : ¬ (q.2 = 8 ∧ j = i) := fun e => e1 (k1.mpr e.1)
          rw [if_neg y1, if_neg y2]
          by_cases e2 : q.1 = 10
          · have y3 : b = a ∧ q.1 = 10 := ⟨hba, e2⟩
            have y4 : q.2 = 7 ∧ j = i := ⟨k2.mp e2, hji⟩
            rw [if_pos y3, if_pos y4]
          · have y3 : ¬ (b = a ∧ q.1 = 10) := fun e => e2 e.2
            have y4 : ¬ (q.2 = 7 ∧ j = i) := fun e => e2 (k2.mpr e.1)
            rw [if_neg y3, if_neg y4]
            exact r1 q hq
      · have hba : ¬ b = a := fun e => hji (hon.mp e)
        have o1 : ∀ p : Prop, ¬ (b = a ∧ p) := fun p e => hba e.1
        have o2 : ∀ p : Prop, ¬ (p ∧ j = i) := fun p e => hji e.2
        rw [if_neg (o1 _), if_neg (o1 _), if_neg (o2 _), if_neg (o2 _)]
        exact r1 q hq
    · rw [rr 6 (by decide) (by decide) (by decide)]; exact r2 w hw
    · exact r3.ext (fun k _ => rfl) (fun k u hk hu j _ => nb u 2 (hsb.rulO hk hu) (by decide) j) (rr 17 (by decide) (by decide) (by decide)) (rr 18 (by decide) (by decide) (by decide)) (rr 19 (by decide) (by decide) (by decide)) (rr 20 (by decide) (by decide) (by decide)) (rr 21 (by decide) (by decide) (by decide))
    · obtain ⟨cn, hc1, hc2⟩ := hsb.chA
      exact fun hf => (r4 hf).ext (fun u => cArmA_ext hc2 rfl (fun b hb => nb b 0 hb (by decide) 0) (fun b hb => rfl)) (fun u m hm => nb m 0 (hsb.armO hm) (by decide) 1) (rr 23 (by decide) (by decide) (by decide)) (rr 24 (by decide) (by decide) (by decide)) (rr 25 (by decide) (by decide) (by decide))
    · by_cases hji : j = i
      · left
        have y1 : b = a ∧ 12 = 12 := ⟨hon.mpr hji, rfl⟩
        have y2 : 9 = 9 ∧ j = i := ⟨rfl, hji⟩
        rw [eM, eS, if_pos y1, if_pos y2]
      · have hba : ¬ b = a := fun e => hji (hon.mp e)
        have o1 : ∀ p : Prop, ¬ (b = a ∧ p) := fun p e => hba e.1
        have o2 : ∀ p : Prop, ¬ (p ∧ j = i) := fun p e => hji e.2
        have g1 : ∀ k, gI (pI (pI (pI S a 10 p1) a 11 p2) a 12 c) b k = gI S b k := fun k => by rw [eS, if_neg (o1 _), if_neg (o1 _), if_neg (o1 _)]
        have g2 : ∀ q, N.2 q j = M.2 q j := fun q => by rw [eM, if_neg (o2 _), if_neg (o2 _), if_neg (o2 _)]
        rw [g1, g1, g2]
        exact r5
  · have o2 : ∀ p : Prop, ¬ (p ∧ j = i) := fun p e => absurd e.2 (by omega)
    have g2 : ∀ q, N.2 q j = M.2 q j := fun q => by rw [eM, if_neg (o2 _), if_neg (o2 _), if_neg (o2 _)]
    rw [g2, g2, g2, g2]
    exact h3 j hj
