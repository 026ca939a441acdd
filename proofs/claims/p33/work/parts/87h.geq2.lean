/-! counted users: both sides -/
section BY
variable {n na i a : Nat} {hh cc : Int32} {S : Pool} {M : MSt} {x ar ak : Nat} {ru : Nat → Nat}
theorem by_eq (h : REL True n na S M ar) (hC : INVC n na hh cc S x ar ak) (hok : okG M n na ru) (hY : LAY n M) (e1 : M.1 1 = cc) (e2 : M.1 2 = hh) (hi : i < n) (ha : gP S ar i = some a) : ∀ U, eqA S U ak → ∀ u, u < 200 → cV (cBec U ak (nI u) (nI u - nI u / 10 * 10) (nI u / 10 - nI u / 10 / 10 * 10)) x ar ak 8 a = (rBy M na ru i u).1 := fun U hE u hu =>
  gets_bec8 (h.qc hC (hE.qc hC.kk) eqM.rf) (hC.eA hE) hok hY e1 e2 (by omega) rfl hi ((hE.p ar i).trans ha)
theorem by_why (h : REL True n na S M ar) (hC : INVC n na hh cc S x ar ak) (hok : okG M n na ru) (hY : LAY n M) (e1 : M.1 1 = cc) (e2 : M.1 2 = hh) (hi : i < n) (ha : gP S ar i = some a) : ∀ U, eqA S U ak → ∀ u, u < 200 → cRsn (cBec U ak (nI u) (nI u - nI u / 10 * 10) (nI u / 10 - nI u / 10 / 10 * 10)) x ak (cHas (cBec U ak (nI u) (nI u - nI u / 10 * 10) (nI u / 10 - nI u / 10 / 10 * 10)) ar (cV (cBec U ak (nI u) (nI u - nI u / 10 * 10) (nI u / 10 - nI u / 10 / 10 * 10)) x ar ak 7) a) a = (rBy M na ru i u).2 := fun U hE u hu =>
  (gets_bec (h.qc hC (hE.qc hC.kk) eqM.rf) (hC.eA hE) hok hY e1 e2 (by omega) rfl hi ((hE.p ar i).trans ha)).1
theorem rGx_sub {T : Rows} {hold : Int32} {on : Nat → Int32} {u f g : Int32} {na ru : Nat} {s1 s2 : Nat → Int32} {i : Nat} {far : Int32} (h15 : T 15 i = -1 ∨ ∃ j, j < i ∧ T 15 i = nI j) (hi : i < 2 ^ 31) (hs : ∀ j, j < i → s1 j = s2 j) : rGx T hold on u f g na ru s1 i far = rGx T hold on u f g na ru s2 i far := by
  have e : (T 15 i ≠ -1 ∧ s1 (T 15 i).toNatClampNeg ≠ T 16 i) ↔ (T 15 i ≠ -1 ∧ s2 (T 15 i).toNatClampNeg ≠ T 16 i) := by
    rcases h15 with h | ⟨j, hj, h⟩
    · exact ⟨fun q => absurd h q.1, fun q => absurd h q.1⟩
    · rw [h, ki_cl (by omega), hs j hj]
  unfold rGx
  by_cases q : T 15 i ≠ -1 ∧ s2 (T 15 i).toNatClampNeg ≠ T 16 i
  · rw [if_pos (e.mpr q), if_pos q]
  · rw [if_neg (fun z => q (e.mp z)), if_neg q]
theorem rG_ext {T : Rows} {hold : Int32} {on f1 f2 : Nat → Int32} {u f g : Int32} {na i : Nat} {ru : Nat → Nat} (hi : i < 2 ^ 31) (h15 : ∀ k, k < i → T 15 k = -1 ∨ ∃ j, j < k ∧ T 15 k = nI j) (hf : ∀ k, k < i → f1 k = f2 k) : ∀ d j, j < i → rG T hold on f1 u f g na ru d j = rG T hold on f2 u f g na ru d j := by
  intro d
  induction d with
  | zero => intro j _; rfl
  | succ d ih =>
    intro j hj
    show rGx T hold on u f g na (ru j) (fun k => (rG T hold on f1 u f g na ru d k).1) j (f1 j) = rGx T hold on u f g na (ru j) (fun k => (rG T hold on f2 u f g na ru d k).1) j (f2 j)
    rw [hf j hj]
    exact rGx_sub (h15 j hj) (by omega) (fun k hk => by rw [ih k (by omega)])
theorem sup_k (U : Pool) (ak : Nat) (p0 p1 : Int32) : (∀ k, k < 4 → gI (pI (pI U ak 4 p0) ak 5 p1) ak k = gI U ak k) ∧ gI (pI (pI U ak 4 p0) ak 5 p1) ak 4 = p0 ∧ gI (pI (pI U ak 4 p0) ak 5 p1) ak 5 = p1 := by
  refine ⟨fun k hk => ?_, ?_, ?_⟩
  · show u2 (u2 (gI U) ak 4 p0) ak 5 p1 ak k = _
    rw [u2_k (by omega), u2_k (by omega)]
  · show u2 (u2 (gI U) ak 4 p0) ak 5 p1 ak 4 = p0
    rw [u2_k (by omega), u2_s]
  · exact u2_s
theorem wc_eq {p1 : Int32} (h : REL True n na S M ar) (hC : INVC n na hh cc S x ar ak) (hok : okG M n na ru) (hY : LAY n M) (e1 : M.1 1 = cc) (e2 : M.1 2 = hh) (hi : i < n) (ha : gP S ar i = some a) : ∀ U, eqA S U ak → ∀ u, u < 200 → cV (pI (pI (cBec U ak (nI u) (nI u - nI u / 10 * 10) (nI u / 10 - nI u / 10 / 10 * 10)) ak 4 (nI i)) ak 5 p1) x ar ak 8 a = (rGx M.2 (M.1 2) (M.2 11) (nI u) (nI u - nI u / 10 * 10) (nI u / 10 - nI u / 10 / 10 * 10) na (ru i) (fun k => (rG M.2 (M.1 2) (M.2 11) (fun k => rFar M.2 k (M.1 1)) (nI u) (nI u - nI u / 10 * 10) (nI u / 10 - nI u / 10 / 10 * 10) na ru 7 k).1) i p1).1 := fun U hE0 u hu => by
  have n8 := hC.n8
  obtain ⟨b0, b1, b2, b3, b4⟩ := bec_k U ak (nI u) (nI u - nI u / 10 * 10) (nI u / 10 - nI u / 10 / 10 * 10)
  have hE := (hE0.tr (eqA.bec (u := nI u) (f := (nI u - nI u / 10 * 10)) (g := (nI u / 10 - nI u / 10 / 10 * 10)))).tr ((eqA.pI (k := 4) (v := nI i)).tr (eqA.pI (k := 5) (v := p1)))
  obtain ⟨k03, k4, k5⟩ := sup_k (cBec U ak (nI u) (nI u - nI u / 10 * 10) (nI u / 10 - nI u / 10 / 10 * 10)) ak (nI i) p1
  generalize (pI (pI (cBec U ak (nI u) (nI u - nI u / 10 * 10) (nI u / 10 - nI u / 10 / 10 * 10)) ak 4 (nI i)) ak 5 p1) = T at hE k03 k4 k5 ⊢
  have hB := hC.eA hE
  have hR := h.qc hC (hE.qc hC.kk) eqM.rf
  have hP : ∀ j, gP T ar j = gP S ar j := fun j => hE.p ar j
  have hg := gets_eq hR hB hok hY (show u ≤ 9999 by omega) ((k03 0 (by omega)).trans b0) ((k03 1 (by omega)).trans b1) ((k03 2 (by omega)).trans b2) (M.2 11) (fun k => if k = i then p1 else rFar M.2 k (M.1 1)) (fun j b hj hb => ?_) (fun j b hj hb => ?_) 7 i a hi ((hP i).trans ha)
  · rw [hB.x4, ← e2] at hg
    refine hg.2.trans ?_
    show (rGx M.2 (M.1 2) (M.2 11) (nI u) _ _ na (ru i) _ i (if i = i then p1 else rFar M.2 i (M.1 1))).1 = _
    rw [if_pos rfl]
    have h15 : ∀ k, k < n → M.2 15 k = -1 ∨ ∃ j, j < k ∧ M.2 15 k = nI j := fun k hk => (hok.2.2.2.2 k hk).2.2.1
    exact congrArg Prod.fst (rGx_sub (h15 i hi) (by omega) (fun j hj => by rw [rG_ext (i := i) (by omega) (fun k hk => h15 k (by omega)) (fun k hk => if_neg (by omega)) 7 j hj]))
  · have e0 : gI T b 0 = nI j := (hB.R.2 j (by omega) b hb).2
    have e9 : gI T b 9 = M.2 11 j := hR.rn hj hb (q := (9, 11)) (by decide)
    unfold cOn
    rw [k03 3 (by omega), b3, e0, if_neg (nI_m1 (by omega)), e9]
    by_cases hz : M.2 11 j = 0
    · rw [if_pos hz]; exact ⟨fun _ => hz, fun _ => rfl⟩
    · rw [if_neg hz]; exact ⟨fun q => absurd q (by decide), fun q => absurd q hz⟩
  · have e0 : gI T b 0 = nI j := (hB.R.2 j (by omega) b hb).2
    unfold cFarA
    rw [k4, k5, e0]
    show _ = if j = i then p1 else rFar M.2 j (M.1 1)
    by_cases hji : j = i
    · rw [if_pos (by rw [hji]), if_pos hji]
    · rw [if_neg (fun q => hji ((nI_eq (a := j) (b := i) (by omega) (by omega)).mp q)), if_neg hji, hB.x5, ← e1]
      exact far_eq (hR.rn hj hb (q := (10, 7)) (by decide)) (hR.rn hj hb (q := (11, 8)) (by decide)) (hR.1 j hj b hb).2.2.2.2
end BY
