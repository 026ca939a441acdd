/-! who gets what: both sides -/
/-- the layers' upper ends are small -/
def LAY (n : Nat) (M : MSt) : Prop := ∀ i, i < n → ∃ w, w ≤ 1000 ∧ M.2 14 i = nI w
theorem LAY.of {n : Nat} {M N : MSt} (h : LAY n M) (e : N.2 14 = M.2 14) : LAY n N := fun i hi => by rw [e]; exact h i hi
theorem split_eq {S : Pool} {T : Rows} {wt i : Nat} {b : Int32} (hw : ∀ v, v < 4 → gR S wt v = T 6 (4 * i + v)) (ha : rAcc T i 3 = 1000) (hb : b < 1000) : cSplit S wt b 4 0 0 = rSplit T i b 4 0 (T 6 (4 * i)) := by
  have w0 := hw 0 (by omega)
  have w1 := hw 1 (by omega)
  have w2 := hw 2 (by omega)
  have w3 := hw 3 (by omega)
  have ha : T 6 (4 * i) + T 6 (4 * i + 1) + T 6 (4 * i + 2) + T 6 (4 * i + 3) = 1000 := ha
  unfold cSplit rSplit
  rw [w0, Nat.add_zero, Int32.zero_add]
  by_cases h0 : b < T 6 (4 * i)
  · rw [if_pos h0, if_pos h0]
  rw [if_neg h0, if_neg h0]
  unfold cSplit rSplit
  rw [show (0 : Nat) + 1 = 1 from rfl, w1]
  by_cases h1 : b < T 6 (4 * i) + T 6 (4 * i + 1)
  · rw [if_pos h1, if_pos h1]
  rw [if_neg h1, if_neg h1]
  unfold cSplit rSplit
  rw [show (1 : Nat) + 1 = 2 from rfl, w2]
  by_cases h2 : b < T 6 (4 * i) + T 6 (4 * i + 1) + T 6 (4 * i + 2)
  · rw [if_pos h2, if_pos h2]
  rw [if_neg h2, if_neg h2]
  unfold cSplit rSplit
  rw [show (2 : Nat) + 1 = 3 from rfl, w3, ha, if_pos hb, if_pos hb]
theorem lay_eq {S : Pool} {T : Rows} {ak a i : Nat} (e13 : gI S a 13 = T 12 i) (e14 : gI S a 14 = T 13 i) (e15 : gI S a 15 = T 14 i) (w : Nat) (hw : w ≤ 1000) (ew : T 14 i = nI w) : cLay S ak a = 0 ↔ (T 12 i ≠ -1 ∧ kIn (kBkt (500 + T 12 i) (gI S ak 0)) (T 13 i) (T 14 i - 1) = 0) := by
  unfold cLay kIn
  rw [e13, e14, e15]
  generalize kBkt (500 + T 12 i) (gI S ak 0) = b
  by_cases h0 : T 12 i = -1
  · rw [if_pos h0]
    exact ⟨fun h => absurd h (by decide), fun h => absurd h0 h.1⟩
  rw [if_neg h0]
  by_cases h1 : b < T 13 i
  · rw [if_pos h1, if_pos h1]
    exact ⟨fun _ => ⟨h0, rfl⟩, fun _ => rfl⟩
  rw [if_neg h1, if_neg h1]
  have hlt : b < T 14 i ↔ ¬ T 14 i - 1 < b := by
    rw [ew]
    rw [Int32.lt_iff_toInt_lt, Int32.lt_iff_toInt_lt, Int32.toInt_sub, nI_toInt (by omega), show (1 : Int32).toInt = 1 from rfl, Int.bmod_eq_of_le (by omega) (by omega)]
    omega
  by_cases h2 : b < T 14 i
  · rw [if_pos h2, if_neg (hlt.mp h2)]
    exact ⟨fun h => absurd h (by decide), fun h => absurd h.2 (by decide)⟩
  · rw [if_neg h2, if_pos (Classical.byContradiction fun q => h2 (hlt.mpr q))]
    exact ⟨fun _ => ⟨h0, rfl⟩, fun _ => rfl⟩
theorem cVar_z {S : Pool} {ak a : Nat} {k : Int32} (h2 : k ≠ 2) (h3 : k ≠ 3) (h8 : k ≠ 8) : cVar S ak a k = 0 := by
  unfold cVar
  rw [if_neg h2, if_neg h3, if_neg h8]
section GX
variable {n na na2 i a uu : Nat} {hh cc f g : Int32} {S : Pool} {M : MSt} {x ar ak : Nat} {ru : Nat → Nat}
theorem has_eq (h : REL True n na S M ar) (hC : INVC n na2 hh cc S x ar ak) (hok : okG M n na ru) (hi : i < n) (ha : gP S ar i = some a) (s1 s2 : Nat → Int32) (hs : ∀ j b, j < n → gP S ar j = some b → s1 b = s2 j) : cHas S ar s1 a = 0 ↔ (M.2 15 i ≠ -1 ∧ s2 (M.2 15 i).toNatClampNeg ≠ M.2 16 i) := by
  have n8 := hC.n8
  have e16 : gI S a 16 = M.2 15 i := h.rn hi ha (q := (16, 15)) (by decide)
  have e17 : gI S a 17 = M.2 16 i := h.rn hi ha (q := (17, 16)) (by decide)
  have e0 : gI S a 0 = nI i := (hC.R.2 i (by omega) a ha).2
  unfold cHas cOth
  rw [e16, e17, e0]
  obtain ⟨-, -, h15, -⟩ := hok.2.2.2.2 i hi
  rcases h15 with h15 | ⟨j, hj, h15⟩
  · rw [h15]
    have hz : (if (-1 : Int32) < nI i then kSw S ar (-1) else none) = none := by
      have : kSw S ar (-1) = none := by unfold kSw; rw [if_pos (by decide)]
      rw [this]
      by_cases hq : (-1 : Int32) < nI i
      · rw [if_pos hq]
      · rw [if_neg hq]
    rw [hz]
    exact ⟨fun q => absurd (show (1 : Int32) = 0 from q) (by decide), fun q => absurd rfl q.1⟩
  · obtain ⟨b, hb⟩ := hC.row j (by omega)
    rw [h15, if_pos ((nI_ltI (a := j) (b := i) (by omega) (by omega)).mpr hj), kSw_at (by omega), hb, ki_cl (by omega)]
    show (if s1 b = M.2 16 i then (1 : Int32) else 0) = 0 ↔ _
    rw [hs j b (by omega) hb]
    by_cases hq : s2 j = M.2 16 i
    · rw [if_pos hq]; exact ⟨fun q => absurd q (by decide), fun q => absurd hq q.2⟩
    · rw [if_neg hq]; exact ⟨fun _ => ⟨nI_m1 (by omega), hq⟩, fun _ => rfl⟩
theorem rule_at (h : REL True n na S M ar) (hok : okG M n na ru) (hi : i < n) (ha : gP S ar i = some a) : (rHold M.2 i f g (ru i) 0 = -1 ∧ cRule S (rlA S a) (cHold S (rlA S a) f g 5 0) = none) ∨ ∃ k u, k < ru i ∧ rHold M.2 i f g (ru i) 0 = nI k ∧ cRule S (rlA S a) (cHold S (rlA S a) f g 5 0) = some u ∧ gI S u 3 = M.2 21 (5 * i + k) := by
  obtain ⟨hr5, h17, -⟩ := hok.2.2.2.2 i hi
  have hU := (h.1 i hi a ha).2.2.1
  rw [hold_eq hU hr5 h17]
  rcases rHold_of M.2 i f g (ru i) 0 with h1 | ⟨k, -, hk, h1, -⟩
  · rw [h1]
    refine Or.inl ⟨rfl, ?_⟩
    unfold cRule
    rw [if_pos (by decide)]
  · obtain ⟨rc, r1, r2, r3, r4⟩ := hU
    have hrc : rc = ru i := (nI_eq (a := rc) (b := ru i) (by omega) (by omega)).mp (r2.symm.trans h17)
    subst hrc
    obtain ⟨u, u0, -, -, -, u3⟩ := r3 k (by omega)
    refine Or.inr ⟨k, u, by omega, h1, ?_, u3⟩
    rw [h1]
    unfold cRule
    rw [if_neg (fun q => by have := (nI_ltI (a := k) (b := 0) (by omega) (by omega)).mp q; omega), if_pos (show nI k < 5 from (nI_ltI (a := k) (b := 5) (by omega) (by omega)).mpr (by omega)), ki_cl (by omega)]
    exact u0
theorem arm_at (h : REL True n na S M ar) (hC : INVC n na2 hh cc S x ar ak) (hna : na ≤ 100) (hi : i < n) (ha : gP S ar i = some a) (u : Int32) : (cArmA S a u = none ∧ rArm M.2 (nI i) u na 0 = -1) ∨ ∃ m, cArmA S a u = some m ∧ rArm M.2 (nI i) u na 0 ≠ -1 ∧ gI S m 1 = M.2 25 (rArm M.2 (nI i) u na 0).toNatClampNeg := by
  rcases (h.1 i hi a ha).2.2.2.1 trivial u with h1 | ⟨m, k, hk, h1, h2, h3⟩
  · exact Or.inl h1
  · refine Or.inr ⟨m, h1, ?_, ?_⟩
    · rw [h2]; exact nI_m1 (by omega)
    · rw [h2, ki_cl (by omega)]; exact h3
theorem late_eq (h : REL True n na S M ar) (hC : INVC n na2 hh cc S x ar ak) (hok : okG M n na ru) (hY : LAY n M) (hi : i < n) (ha : gP S ar i = some a) (huu : uu ≤ 9999) (hu : gI S ak 0 = nI uu) (far : Int32) (hfar : cFarA S ak a (gI S x 5) = far) (P : Prop) [Decidable P] : let z := (if P then (7 : Int32) else 8); let R := (if kBkt 999 (nI uu) < gI S x 4 then ((0 : Int32), (4 : Int32)) else if M.2 12 i ≠ -1 ∧ kIn (kBkt (500 + M.2 12 i) (nI uu)) (M.2 13 i) (M.2 14 i - 1) = 0 then (0, 5) else if kBkt (M.2 4 i + 1) (nI uu) < far then (if P then (0, 7) else (rSplit M.2 i (kBkt (M.2 4 i) (nI uu)) 4 0 (M.2 6 (4 * i)), 8)) else (0, 6)); cLate S x ak a z = R.2 ∧ cVar S ak a (cLate S x ak a z) = R.1 := by
  intro z R
  have e1 : gI S a 1 = M.2 4 i := h.rn hi ha (q := (1, 4)) (by decide)
  obtain ⟨w, hw, ew⟩ := hY i hi
  have hL := lay_eq (S := S) (T := M.2) (ak := ak) (a := a) (i := i) (h.rn hi ha (q := (13, 12)) (by decide)) (h.rn hi ha (q := (14, 13)) (by decide)) (h.rn hi ha (q := (15, 14)) (by decide)) w hw ew
  rw [hu] at hL
  obtain ⟨-, -, -, ⟨sa, hsa, es⟩, hac⟩ := hok.2.2.2.2 i hi
  have hb : kBkt (M.2 4 i) (nI uu) < 1000 := by
    rw [es, kBkt_n (by omega) huu]
    exact (nI_ltI (a := nBkt sa uu) (b := 1000) (by have := nBkt_lt sa uu; omega) (by omega)).mpr (nBkt_lt sa uu)
  have hsp : cSplit S (wtA S a) (kBkt (gI S a 1) (gI S ak 0)) 4 0 0 = rSplit M.2 i (kBkt (M.2 4 i) (nI uu)) 4 0 (M.2 6 (4 * i)) := by
    rw [e1, hu]
    exact split_eq (fun v hv => ((h.1 i hi a ha).2.1 v hv).1) hac hb
  show cLate S x ak a z = R.2 ∧ cVar S ak a (cLate S x ak a z) = R.1
  unfold cLate
  rw [hu, e1, hfar]
  by_cases h4 : kBkt 999 (nI uu) < gI S x 4
  · rw [if_pos h4, show R = (0, 4) from if_pos h4]
    exact ⟨rfl, cVar_z (by decide) (by decide) (by decide)⟩
  by_cases h5 : M.2 12 i ≠ -1 ∧ kIn (kBkt (500 + M.2 12 i) (nI uu)) (M.2 13 i) (M.2 14 i - 1) = 0
  · rw [if_neg h4, if_pos (hL.mpr h5), show R = (0, 5) from (if_neg h4).trans (if_pos h5)]
    exact ⟨rfl, cVar_z (by decide) (by decide) (by decide)⟩
  rw [if_neg h4, if_neg (fun q => h5 (hL.mp q))]
  by_cases h6 : kBkt (M.2 4 i + 1) (nI uu) < far
  · rw [if_pos h6]
    by_cases hP : P
    · rw [show R = (0, 7) from (if_neg h4).trans ((if_neg h5).trans ((if_pos h6).trans (if_pos hP))), show z = 7 from if_pos hP]
      exact ⟨rfl, cVar_z (by decide) (by decide) (by decide)⟩
    · rw [show R = (rSplit M.2 i (kBkt (M.2 4 i) (nI uu)) 4 0 (M.2 6 (4 * i)), 8) from (if_neg h4).trans ((if_neg h5).trans ((if_pos h6).trans (if_neg hP))), show z = 8 from if_neg hP]
      refine ⟨rfl, ?_⟩
      unfold cVar
      rw [if_neg (by decide), if_neg (by decide), if_pos rfl]
      exact hsp
  · rw [if_neg h6, show R = (0, 6) from (if_neg h4).trans ((if_neg h5).trans (if_neg h6))]
    exact ⟨rfl, cVar_z (by decide) (by decide) (by decide)⟩
theorem getx_eq (h : REL True n na S M ar) (hC : INVC n na2 hh cc S x ar ak) (hok : okG M n na ru) (hY : LAY n M) (hi : i < n) (ha : gP S ar i = some a) (huu : uu ≤ 9999) (hu : gI S ak 0 = nI uu) (hf : gI S ak 1 = f) (hg : gI S ak 2 = g) (on : Nat → Int32) (far : Int32) (hon : cOn S ak a = 0 ↔ on i = 0) (hfar : cFarA S ak a (gI S x 5) = far) (s1 s2 : Nat → Int32) (hs : ∀ j b, j < n → gP S ar j = some b → s1 b = s2 j) : cRsn S x ak (cHas S ar s1 a) a = (rGx M.2 (gI S x 4) on (nI uu) f g na (ru i) s2 i far).2 ∧ cVar S ak a (cRsn S x ak (cHas S ar s1 a) a) = (rGx M.2 (gI S x 4) on (nI uu) f g na (ru i) s2 i far).1 := by
  have hH := has_eq h hC hok hi ha s1 s2 hs
  have hA := arm_at h hC hok.1 hi ha (nI uu)
  have hR := rule_at (f := f) (g := g) h hok hi ha
  have e3 : gI S a 3 = M.2 10 i := h.rn hi ha (q := (3, 10)) (by decide)
  have e8 : gI S a 8 = nI (ru i) := (h.rn hi ha (q := (8, 17)) (by decide)).trans (hok.2.2.2.2 i hi).2.1
  have r5 := (hok.2.2.2.2 i hi).1
  have p0 : (0 : Int32) < gI S a 8 ↔ 0 < ru i := by rw [e8]; exact nI_ltI (a := 0) (b := ru i) (by omega) (by omega)
  have eRu : cRu S ak a = cRule S (rlA S a) (cHold S (rlA S a) f g 5 0) := by unfold cRu; rw [hf, hg]
  unfold cRsn rGx
  by_cases h0 : on i = 0
  · rw [if_pos (hon.mpr h0), if_pos h0]
    exact ⟨rfl, cVar_z (by decide) (by decide) (by decide)⟩
  rw [if_neg (fun q => h0 (hon.mp q)), if_neg h0]
  by_cases h1 : M.2 15 i ≠ -1 ∧ s2 (M.2 15 i).toNatClampNeg ≠ M.2 16 i
  · rw [if_pos (hH.mpr h1), if_pos h1]
    exact ⟨rfl, cVar_z (by decide) (by decide) (by decide)⟩
  rw [if_neg (fun q => h1 (hH.mp q)), if_neg h1, hu]
  by_cases h2 : M.2 10 i ≠ 0 ∧ rArm M.2 (nI i) (nI uu) na 0 ≠ -1
  · rcases hA with ⟨-, hA⟩ | ⟨m, hm, -, hv⟩
    · exact absurd hA h2.2
    rw [if_pos h2, if_pos ⟨by rw [e3]; exact h2.1, by rw [hm]; exact fun q => by cases q⟩]
    refine ⟨rfl, ?_⟩
    unfold cVar
    rw [if_pos rfl, hu, hm]
    exact hv
  have h2c : ¬ (gI S a 3 ≠ 0 ∧ cArmA S a (nI uu) ≠ none) := by
    rintro ⟨q1, q2⟩
    rcases hA with ⟨hA, -⟩ | ⟨m, -, hm, -⟩
    · exact q2 hA
    · exact h2 ⟨by rw [← e3]; exact q1, hm⟩
  rw [if_neg h2, if_neg h2c, eRu]
  rcases hR with ⟨hr, hc⟩ | ⟨k, u, hk, hr, hc, h3⟩
  · rw [hr, hc, if_neg (show ¬ ((-1 : Int32) ≠ -1 ∧ M.2 21 (5 * i + (-1 : Int32).toNatClampNeg) ≠ -1) from fun q => q.1 rfl)]
    have hl := late_eq h hC hok hY hi ha huu hu far hfar (0 < ru i ∧ (-1 : Int32) = -1)
    have ez : (if (0 : Int32) < gI S a 8 then (7 : Int32) else 8) = if (0 < ru i ∧ (-1 : Int32) = -1) then 7 else 8 := by
      by_cases q : 0 < ru i
      · rw [if_pos (p0.mpr q), if_pos ⟨q, rfl⟩]
      · rw [if_neg (fun q2 => q (p0.mp q2)), if_neg (fun q2 => q q2.1)]
    show cLate S x ak a (if 0 < gI S a 8 then 7 else 8) = _ ∧ cVar S ak a (cLate S x ak a (if 0 < gI S a 8 then 7 else 8)) = _
    rw [ez]
    exact hl
  · rw [hr, hc, ki_cl (by omega)]
    show (if gI S u 3 = -1 then cLate S x ak a 8 else 3) = _ ∧ cVar S ak a (if gI S u 3 = -1 then cLate S x ak a 8 else 3) = _
    by_cases h21 : M.2 21 (5 * i + k) = -1
    · rw [if_pos (h3.trans h21), if_neg (fun q => q.2 h21)]
      have hl := late_eq h hC hok hY hi ha huu hu far hfar (0 < ru i ∧ nI k = -1)
      have en : ¬ (0 < ru i ∧ nI k = -1) := fun q => nI_m1 (by omega) q.2
      simp only [if_neg en] at hl ⊢
      exact hl
    · rw [if_neg (by rw [h3]; exact h21), if_pos ⟨nI_m1 (by omega), h21⟩]
      refine ⟨rfl, ?_⟩
      unfold cVar
      rw [if_neg (by decide), if_pos rfl, eRu, hc]
      exact h3
theorem gets_eq (h : REL True n na S M ar) (hC : INVC n na2 hh cc S x ar ak) (hok : okG M n na ru) (hY : LAY n M) (huu : uu ≤ 9999) (hu : gI S ak 0 = nI uu) (hf : gI S ak 1 = f) (hg : gI S ak 2 = g) (on far : Nat → Int32) (hon : ∀ j b, j < n → gP S ar j = some b → (cOn S ak b = 0 ↔ on j = 0)) (hfar : ∀ j b, j < n → gP S ar j = some b → cFarA S ak b (gI S x 5) = far j) : ∀ d i a, i < n → gP S ar i = some a → cRsn S x ak (cHas S ar (cV S x ar ak d) a) a = (rG M.2 (gI S x 4) on far (nI uu) f g na ru (d + 1) i).2 ∧ cVar S ak a (cRsn S x ak (cHas S ar (cV S x ar ak d) a) a) = (rG M.2 (gI S x 4) on far (nI uu) f g na ru (d + 1) i).1 := by
  intro d
  induction d with
  | zero => exact fun i a hi ha => getx_eq h hC hok hY hi ha huu hu hf hg on (far i) (hon i a hi ha) (hfar i a hi ha) _ _ (fun j b hj hb => rfl)
  | succ d ih => exact fun i a hi ha => getx_eq h hC hok hY hi ha huu hu hf hg on (far i) (hon i a hi ha) (hfar i a hi ha) _ _ (fun j b hj hb => (ih j b hj hb).2)
end GX
