/-! digest: both sides -/
def vcT (M : MSt) (k : Nat) : Nat := (M.2 5 k).toNatClampNeg
theorem vcs_ok {n na : Nat} {M : MSt} (hV : VAL n na M) : ∀ k, k < n → vcT M k ≤ 4 ∧ M.2 5 k = nI (vcT M k) := fun k hk => by
  obtain ⟨vc, -, h4, e, -⟩ := hV.1 k hk
  have e2 : vcT M k = vc := by unfold vcT; rw [e]; exact ki_cl (by omega)
  rw [e2]
  exact ⟨h4, e⟩
section DG
variable {n na : Nat} {hh cc : Int32} {S : Pool} {M : MSt} {x ar ak : Nat} {ru : Nat → Nat}
theorem lf_eq (h : REL True n na S M ar) (hC : INVC n na hh cc S x ar ak) : ∀ U, eqA S U ak → ∀ z, z < 3 → cLeft U ar (nI z) 8 0 1000 = rLfT M n z := fun U hE z _ =>
  left_loop (h.qc hC (hE.qc hC.kk) eqM.rf) (hC.eA hE)
theorem dg_eq (h : REL True n na S M ar) (hC : INVC n na hh cc S x ar ak) (hT : TAL n na S M ar) (hI : INVR n na M) (hok : okG M n na ru) (hY : LAY n M) (e1 : M.1 1 = cc) (e2 : M.1 2 = hh) : ∀ k a, k < n → gP S ar k = some a → DG1 S x ar ak a (vcT M k) (rShT M k) (rBdT M na (vcT M) k) (rTrT M na (vcT M) k) (rBeT M na (vcT M) k) (rWeT M k) (rToT M na k) (rFuT M na ru k) ∧ DG2 S x ar ak a (rGeT M na ru k) (rWhT M na ru k) (rArT M na k) := fun k a hk ha => by
  obtain ⟨hv4, ev⟩ := vcs_ok hT.2.2.2 k hk
  have n8 := hC.n8
  refine ⟨⟨⟨hv4, (h.rn hk ha (q := (2, 5)) (by decide)).trans ev, rTru_01 _ _ _ _ _ _ _⟩, fun U hE => ?_⟩, fun U hE u hu => ?_⟩
  · have hR := h.qc hC (hE.qc hC.kk) eqM.rf
    have hB := hC.eA hE
    have hZ := hT.keep hC (KT.eA hE hC.kk) eqR.rf
    have ha' : gP U ar k = some a := (hE.p ar k).trans ha
    refine ⟨?_, bad_eq hZ hR hI.na hk ha' ev hv4, trust_eq hZ hR hI hI.na hk ha' ev hv4, best_eq hZ hk ha' ev hv4, fun v hv => ?_, fun v q hv hq => told_eq hZ hk ha' hv hq, fun u hu => by_eq h hC hok hY e1 e2 hk ha U hE u hu⟩
    · rw [hB.x5, ← e1]
      refine (far_eq (hR.rn hk ha' (q := (10, 7)) (by decide)) (hR.rn hk ha' (q := (11, 8)) (by decide)) (hR.1 k hk a ha').2.2.2.2).trans ?_
      unfold rShT
      rw [Int32.add_zero]
    · obtain ⟨w, -, w1, w2⟩ := hR.wt hk ha' hv
      exact w1.trans w2.symm
  · have hR := h.qc hC (hE.qc hC.kk) eqM.rf
    have hB := hC.eA hE
    have ha' : gP U ar k = some a := (hE.p ar k).trans ha
    exact ⟨gets_bec8 hR hB hok hY e1 e2 (by omega) rfl hk ha', (gets_bec hR hB hok hY e1 e2 (by omega) rfl hk ha').1, armv_eq hR hB hI.na hk ha'⟩
end DG
