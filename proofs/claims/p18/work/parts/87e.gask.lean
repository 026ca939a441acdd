/-! who asks, and gets: both sides -/
section GB
variable {n na nm i a uu : Nat} {hh cc p f g : Int32} {S : Pool} {M : MSt} {x ar ak : Nat} {ru : Nat → Nat}
theorem bec_k (S : Pool) (ak : Nat) (p f g : Int32) : gI (cBec S ak p f g) ak 0 = p ∧ gI (cBec S ak p f g) ak 1 = f ∧ gI (cBec S ak p f g) ak 2 = g ∧ gI (cBec S ak p f g) ak 3 = -1 ∧ gI (cBec S ak p f g) ak 4 = -1 := by
  refine ⟨?_, ?_, ?_, ?_, ?_⟩
  · show u2 (u2 (u2 (u2 (u2 (gI S) ak 0 p) ak 1 f) ak 2 g) ak 3 (-1)) ak 4 (-1) ak 0 = p; simp [u2]
  · show u2 (u2 (u2 (u2 (u2 (gI S) ak 0 p) ak 1 f) ak 2 g) ak 3 (-1)) ak 4 (-1) ak 1 = f; simp [u2]
  · show u2 (u2 (u2 (u2 (u2 (gI S) ak 0 p) ak 1 f) ak 2 g) ak 3 (-1)) ak 4 (-1) ak 2 = g; simp [u2]
  · show u2 (u2 (u2 (u2 (u2 (gI S) ak 0 p) ak 1 f) ak 2 g) ak 3 (-1)) ak 4 (-1) ak 3 = -1; simp [u2]
  · show u2 (u2 (u2 (u2 (u2 (gI S) ak 0 p) ak 1 f) ak 2 g) ak 3 (-1)) ak 4 (-1) ak 4 = -1; simp [u2]
theorem gets_bec (h : REL True n na S M ar) (hC : INVC n na hh cc S x ar ak) (hok : okG M n na ru) (hY : LAY n M) (e1 : M.1 1 = cc) (e2 : M.1 2 = hh) (huu : uu ≤ 9999) (eu : p = nI uu) (hi : i < n) (ha : gP S ar i = some a) : cRsn (cBec S ak p f g) x ak (cHas (cBec S ak p f g) ar (cV (cBec S ak p f g) x ar ak 7) a) a = (rG M.2 (M.1 2) (M.2 11) (fun k => rFar M.2 k (M.1 1)) (nI uu) f g na ru 8 i).2 ∧ cVar (cBec S ak p f g) ak a (cRsn (cBec S ak p f g) x ak (cHas (cBec S ak p f g) ar (cV (cBec S ak p f g) x ar ak 7) a) a) = (rG M.2 (M.1 2) (M.2 11) (fun k => rFar M.2 k (M.1 1)) (nI uu) f g na ru 8 i).1 := by
  have n8 := hC.n8
  have hB := hC.eA (eqA.bec (u := p) (f := f) (g := g))
  have hR := h.qc hC ((eqA.bec (S := S) (ak := ak) (u := p) (f := f) (g := g)).qc hC.kk) eqM.rf
  obtain ⟨k0, k1, k2, k3, k4⟩ := bec_k S ak p f g
  have hg := gets_eq hR hB hok hY huu (k0.trans eu) k1 k2 (M.2 11) (fun k => rFar M.2 k (M.1 1)) (fun j b hj hb => ?_) (fun j b hj hb => ?_) 7 i a hi ha
  · rw [hB.x4, ← e2] at hg
    exact hg
  · have e0 : gI (cBec S ak p f g) b 0 = nI j := (hB.R.2 j (by omega) b hb).2
    have e9 : gI (cBec S ak p f g) b 9 = M.2 11 j := hR.rn hj hb (q := (9, 11)) (by decide)
    unfold cOn
    rw [k3, e0, if_neg (nI_m1 (by omega)), e9]
    by_cases hz : M.2 11 j = 0
    · rw [if_pos hz]; exact ⟨fun _ => hz, fun _ => rfl⟩
    · rw [if_neg hz]; exact ⟨fun q => absurd q (by decide), fun q => absurd q hz⟩
  · have e0 : gI (cBec S ak p f g) b 0 = nI j := (hB.R.2 j (by omega) b hb).2
    unfold cFarA
    rw [k4, e0, if_neg (nI_m1 (by omega)), hB.x5, ← e1]
    exact far_eq (hR.rn hj hb (q := (10, 7)) (by decide)) (hR.rn hj hb (q := (11, 8)) (by decide)) (hR.1 j hj b hb).2.2.2.2
theorem gets_bec8 (h : REL True n na S M ar) (hC : INVC n na hh cc S x ar ak) (hok : okG M n na ru) (hY : LAY n M) (e1 : M.1 1 = cc) (e2 : M.1 2 = hh) (huu : uu ≤ 9999) (eu : p = nI uu) (hi : i < n) (ha : gP S ar i = some a) : cV (cBec S ak p f g) x ar ak 8 a = (rG M.2 (M.1 2) (M.2 11) (fun k => rFar M.2 k (M.1 1)) (nI uu) f g na ru 8 i).1 := (gets_bec h hC hok hY e1 e2 huu eu hi ha).2
theorem arm_bec (h : REL True n na S M ar) (hC : INVC n na hh cc S x ar ak) (hok : okG M n na ru) (eu : p = nI uu) (hi : i < n) (ha : gP S ar i = some a) : cArmA (cBec S ak p f g) a p = none ↔ rArm M.2 (nI i) (nI uu) na 0 = -1 := by
  have hB := hC.eA (eqA.bec (u := p) (f := f) (g := g))
  have hR := h.qc hC ((eqA.bec (S := S) (ak := ak) (u := p) (f := f) (g := g)).qc hC.kk) eqM.rf
  rw [← eu]
  rcases arm_at hR hB hok.1 hi ha p with ⟨q1, q2⟩ | ⟨m, q1, q2, -⟩
  · exact ⟨fun _ => q2, fun _ => q1⟩
  · exact ⟨fun q => absurd (q1.symm.trans q) (by intro e; cases e), fun q => absurd q q2⟩
theorem ask_no (h : REL True n na S M ar) (hC : INVC n na hh cc S x ar ak) (hok : okG M n na ru) (hY : LAY n M) (e1 : M.1 1 = cc) (e2 : M.1 2 = hh) (huu : uu ≤ 9999) (eu : p = nI uu) (hi : i < n) (ha : gP S ar i = some a) (hno : ¬ (cRsn (cBec S ak p f g) x ak (cHas (cBec S ak p f g) ar (cV (cBec S ak p f g) x ar ak 7) a) a = 8 ∧ gI S x 3 < 100 ∧ cArmA (cBec S ak p f g) a p = none)) : ¬ ((rG M.2 (M.1 2) (M.2 11) (fun k => rFar M.2 k (M.1 1)) (nI uu) f g na ru 8 i).2 = 8 ∧ na < 100 ∧ rArm M.2 (nI i) (nI uu) na 0 = -1) := by
  rintro ⟨q1, q2, q3⟩
  refine hno ⟨(gets_bec h hC hok hY e1 e2 huu eu hi ha).1.trans q1, ?_, (arm_bec h hC hok eu hi ha).mpr q3⟩
  rw [hC.x3]
  exact (nI_ltI (a := na) (b := 100) (by omega) (by omega)).mpr q2
theorem armv_eq (h : REL True n na S M ar) (hC : INVC n na hh cc S x ar ak) (hna : na ≤ 100) (hi : i < n) (ha : gP S ar i = some a) {u : Int32} : cArmV S (cArmA S a u) = rArmV M.2 (rArm M.2 (nI i) u na 0) := by
  rcases arm_at h hC hna hi ha u with ⟨q1, q2⟩ | ⟨m, q1, q2, q3⟩
  · rw [q1, q2]; unfold cArmV rArmV; rw [if_pos rfl]
  · rw [q1]; unfold cArmV rArmV; rw [if_neg q2]; exact q3
theorem LAY.up {n j : Nat} {M N : MSt} (h : LAY n M) (e : ∀ k, k ≠ j → N.2 14 k = M.2 14 k) (ev : ∃ w, w ≤ 1000 ∧ N.2 14 j = nI w) : LAY n N := fun k hk => by
  by_cases q : k = j
  · rw [q]; exact ev
  · rw [e k q]; exact h k hk
theorem LAY.add {n : Nat} {M N : MSt} (h : LAY n M) (e : N.2 14 = M.2 14) (z : M.2 14 n = 0) : LAY (n + 1) N := fun k hk => by
  rw [e]
  by_cases q : k = n
  · rw [q, z]; exact ⟨0, by omega, rfl⟩
  · exact h k (by omega)
theorem rng_hi {p f t : Int32} (h : kRng p f t = 1) : ∃ w, w ≤ 1000 ∧ t = nI w := by
  obtain ⟨-, -, h0, h1, h2⟩ := rng_ok h
  have h3 : kIn t (nI 0) (nI 1000) = 1 := by
    unfold kIn
    rw [if_neg (fun q => ?_), if_neg (show ¬ nI 1000 < t from h2)]
    exact h0 (Int32.lt_of_le_of_lt (Int32.not_lt.mp h1) q)
  obtain ⟨w, -, hw, e⟩ := kIn_nat 0 1000 (by omega) (by omega) h3
  exact ⟨w, hw, e⟩
end GB
