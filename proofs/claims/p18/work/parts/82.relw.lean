/-! the relation stays: a weight moved -/
theorem REL.weigh {fl : Prop} {n na na2 : Nat} {hh cc : Int32} {S : Pool} {M : MSt} {x ar ak i a v w0 p : Nat} (h : REL fl n na S M ar) (hC : INVC n na2 hh cc S x ar ak) (hi : i < n) (ha : gP S ar i = some a) (hv0 : v ≠ 0) (hv4 : v < 4) (hw0 : w0 ≤ 1000) (hp : p ≤ 1000) : REL fl n na (pR (pR S (wtA S a) v (nI p)) (wtA S a) 0 (nI w0)) (mR (mR M 6 (4 * i) (nI w0)) 6 (4 * i + v) (nI p)) ar := by
  obtain ⟨h1, h2, h3, h4⟩ := h
  have h8 := hC.n8
  have hsa := hC.sw (by omega) ha
  have eS : ∀ b k, gR (pR (pR S (wtA S a) v (nI p)) (wtA S a) 0 (nI w0)) b k = if b = wtA S a ∧ k = 0 then nI w0 else if b = wtA S a ∧ k = v then nI p else gR S b k := fun b k => rfl
  have eM : ∀ j, (mR (mR M 6 (4 * i) (nI w0)) 6 (4 * i + v) (nI p)).2 6 j = if j = 4 * i + v then nI p else if j = 4 * i then nI w0 else M.2 6 j := fun j => rfl
  have rr : ∀ j, j ≠ 6 → (mR (mR M 6 (4 * i) (nI w0)) 6 (4 * i + v) (nI p)).2 j = M.2 j := fun j a1 => (up_o a1).trans (up_o a1)
  generalize (mR (mR M 6 (4 * i) (nI w0)) 6 (4 * i + v) (nI p)) = N at eM rr ⊢
  refine ⟨fun j hj b hb => ?_, h2, fun j hj => ?_, fun hf z hz => by rw [rr 23 (by decide)]; exact h4 hf z hz⟩
  · have hb : gP S ar j = some b := hb
    obtain ⟨r1, r2, r3, r4, r5⟩ := h1 j hj b hb
    have hon := hC.only hi hj ha hb
    have hsb := hC.sw (by omega) hb
    refine ⟨fun q hq => ?_, fun u hu => ?_, ?_, ?_, ?_⟩
    · have hk : ∀ q ∈ relK, q.2 ≠ 6 := by decide
      rw [rr _ (hk q hq)]; exact r1 q hq
    · show gR (pR (pR S (wtA S a) v (nI p)) (wtA S a) 0 (nI w0)) (wtA S b) u = _ ∧ _
      rw [eS, eM]
      by_cases hji : j = i
      · have hba : b = a := hon.mpr hji
        subst hji; subst hba
        by_cases hu0 : u = 0
        · subst hu0
          rw [if_pos ⟨rfl, rfl⟩, if_neg (by omega), if_pos (by omega)]
          exact ⟨rfl, w0, hw0, rfl⟩
        · have z1 : ¬ (wtA S b = wtA S b ∧ u = 0) := fun e => hu0 e.2
          rw [if_neg z1]
          by_cases huv : u = v
          · subst huv
            rw [if_pos ⟨rfl, rfl⟩, if_pos rfl]
            exact ⟨rfl, p, hp, rfl⟩
          · have z2 : ¬ (wtA S b = wtA S b ∧ u = v) := fun e => huv e.2
            rw [if_neg z2, if_neg (by omega), if_neg (by omega)]
            exact r2 u hu
      · have hne : ¬ wtA S b = wtA S a := fun e => (h2 i j a b (by omega) (by omega) ha hb (fun e => hji e.symm)).1 e.symm
        have o1 : ∀ q : Prop, ¬ (wtA S b = wtA S a ∧ q) := fun q e => hne e.1
        rw [if_neg (o1 _), if_neg (o1 _), if_neg (by omega), if_neg (by omega)]
        exact r2 u hu
    · exact r3.ext (fun k _ => rfl) (fun k u hk hu j _ => rfl) (rr 17 (by decide)) (rr 18 (by decide)) (rr 19 (by decide)) (rr 20 (by decide)) (rr 21 (by decide))
    · exact fun hf => (r4 hf).ext (fun u => by obtain ⟨cn, hc1, hc2⟩ := hsb.chA; exact cArmA_ext hc2 rfl (fun b hb => rfl) (fun b hb => rfl)) (fun u m hm => rfl) (rr 23 (by decide)) (rr 24 (by decide)) (rr 25 (by decide))
    · rw [rr 9 (by decide)]; exact r5
  · rw [rr 8 (by decide), rr 13 (by decide), rr 14 (by decide), rr 16 (by decide)]; exact h3 j hj
theorem gR_old {S : Pool} {q ki n b k : Nat} {p1 p2 p3 p4 : Int32} (hb : b ∈ gL S) (hq : q ∉ gL S) : gR (pI (pI (pI (pI (pW S q ki n) q 0 p1) q 1 p2) q 2 p3) q 3 p4) b k = gR S b k := gR_new (ki := ki) (n := n) hb hq
/-- a rule more -/
theorem REL.rule {fl : Prop} {n na na2 rc i a q : Nat} {hh cc p1 p2 p3 p4 : Int32} {S : Pool} {M : MSt} {x ar ak : Nat} (h : REL fl n na S M ar) (hC : INVC n na2 hh cc S x ar ak) (hi : i < n) (ha : gP S ar i = some a) (hrc : rc < 5) (h17 : M.2 17 i = nI rc) (hq : q ∉ gL S) : REL fl n na (pI (pP (pI (pI (pI (pI (pW S q 2 0) q 0 p1) q 1 p2) q 2 p3) q 3 p4) (rlA S a) rc (some q)) a 8 (nI (rc + 1))) (mR (mR (mR (mR (mR M 18 (5 * i + rc) p1) 19 (5 * i + rc) p2) 20 (5 * i + rc) p3) 21 (5 * i + rc) p4) 17 i (nI (rc + 1))) ar := by
  obtain ⟨h1, h2, h3, h4⟩ := h
  have h8 := hC.n8
  have hsa := hC.sw (by omega) ha
  have hE : ExtI S (pI (pI (pI (pI (pW S q 2 0) q 0 p1) q 1 p2) q 2 p3) q 3 p4) := ((((ExtI.rf.new hq).pI hq).pI hq).pI hq).pI hq
  have g0 : gI (pI (pI (pI (pI (pW S q 2 0) q 0 p1) q 1 p2) q 2 p3) q 3 p4) q 0 = p1 := (u2_k (by decide)).trans ((u2_k (by decide)).trans ((u2_k (by decide)).trans u2_s))
  have g1 : gI (pI (pI (pI (pI (pW S q 2 0) q 0 p1) q 1 p2) q 2 p3) q 3 p4) q 1 = p2 := (u2_k (by decide)).trans ((u2_k (by decide)).trans u2_s)
  have g2 : gI (pI (pI (pI (pI (pW S q 2 0) q 0 p1) q 1 p2) q 2 p3) q 3 p4) q 2 = p3 := (u2_k (by decide)).trans u2_s
  have g3 : gI (pI (pI (pI (pI (pW S q 2 0) q 0 p1) q 1 p2) q 2 p3) q 3 p4) q 3 = p4 := u2_s
  have gr : ∀ b, b ∈ gL S → ∀ k, gR (pI (pI (pI (pI (pW S q 2 0) q 0 p1) q 1 p2) q 2 p3) q 3 p4) b k = gR S b k := fun b hb k => gR_old hb hq
  generalize (pI (pI (pI (pI (pW S q 2 0) q 0 p1) q 1 p2) q 2 p3) q 3 p4) = T at hE g0 g1 g2 g3 gr
  have hqa : q ≠ a := fun e => hq (e ▸ hsa.1.1)
  have rr : ∀ j, j ≠ 17 → j ≠ 18 → j ≠ 19 → j ≠ 20 → j ≠ 21 → (mR (mR (mR (mR (mR M 18 (5 * i + rc) p1) 19 (5 * i + rc) p2) 20 (5 * i + rc) p3) 21 (5 * i + rc) p4) 17 i (nI (rc + 1))).2 j = M.2 j := fun j a1 a2 a3 a4 a5 => (up_o a1).trans ((up_o a5).trans ((up_o a4).trans ((up_o a3).trans (up_o a2))))
  have e17 : ∀ j, (mR (mR (mR (mR (mR M 18 (5 * i + rc) p1) 19 (5 * i + rc) p2) 20 (5 * i + rc) p3) 21 (5 * i + rc) p4) 17 i (nI (rc + 1))).2 17 j = if j = i then nI (rc + 1) else M.2 17 j := fun j => rfl
  have e18 : ∀ j, (mR (mR (mR (mR (mR M 18 (5 * i + rc) p1) 19 (5 * i + rc) p2) 20 (5 * i + rc) p3) 21 (5 * i + rc) p4) 17 i (nI (rc + 1))).2 18 j = if j = 5 * i + rc then p1 else M.2 18 j := fun j => rfl
  have e19 : ∀ j, (mR (mR (mR (mR (mR M 18 (5 * i + rc) p1) 19 (5 * i + rc) p2) 20 (5 * i + rc) p3) 21 (5 * i + rc) p4) 17 i (nI (rc + 1))).2 19 j = if j = 5 * i + rc then p2 else M.2 19 j := fun j => rfl
  have e20 : ∀ j, (mR (mR (mR (mR (mR M 18 (5 * i + rc) p1) 19 (5 * i + rc) p2) 20 (5 * i + rc) p3) 21 (5 * i + rc) p4) 17 i (nI (rc + 1))).2 20 j = if j = 5 * i + rc then p3 else M.2 20 j := fun j => rfl
  have e21 : ∀ j, (mR (mR (mR (mR (mR M 18 (5 * i + rc) p1) 19 (5 * i + rc) p2) 20 (5 * i + rc) p3) 21 (5 * i + rc) p4) 17 i (nI (rc + 1))).2 21 j = if j = 5 * i + rc then p4 else M.2 21 j := fun j => rfl
  generalize (mR (mR (mR (mR (mR M 18 (5 * i + rc) p1) 19 (5 * i + rc) p2) 20 (5 * i + rc) p3) 21 (5 * i + rc) p4) 17 i (nI (rc + 1))) = N at rr e17 e18 e19 e20 e21 ⊢
  have eI : ∀ b k, gI (pI (pP T (rlA S a) rc (some q)) a 8 (nI (rc + 1))) b k = if b = a ∧ k = 8 then nI (rc + 1) else gI T b k := fun b k => rfl
  have eP : ∀ b k, gP (pI (pP T (rlA S a) rc (some q)) a 8 (nI (rc + 1))) b k = if b = rlA S a ∧ k = rc then some q else gP T b k := fun b k => rfl
  have eQ : ∀ b k, gQ (pI (pP T (rlA S a) rc (some q)) a 8 (nI (rc + 1))) b k = gQ T b k := fun b k => rfl
  have eR : ∀ b k, gR (pI (pP T (rlA S a) rc (some q)) a 8 (nI (rc + 1))) b k = gR T b k := fun b k => rfl
  have har : ¬ ar = rlA S a := ne_of_kind hC.R.1.2.1 hsa.rl.2.1 (by decide)
  generalize (pI (pP T (rlA S a) rc (some q)) a 8 (nI (rc + 1))) = X at eI eP eQ eR ⊢
  have ePr : ∀ k, gP X ar k = gP S ar k := fun k => by
    have o1 : ¬ (ar = rlA S a ∧ k = rc) := fun e => har e.1
    rw [eP, if_neg o1]
    exact (hE.1 ar hC.R.1.1).2.2 k
  have old : ∀ b, b ∈ gL S → b ≠ a → ∀ k, gI X b k = gI S b k := fun b hb hba k => by
    have o1 : ¬ (b = a ∧ k = 8) := fun e => hba e.1
    rw [eI, if_neg o1]; exact hE.2 b hb k
  have ew : ∀ b, okSw S b → wtA X b = wtA S b ∧ rlA X b = rlA S b := fun b hb => by unfold wtA rlA; rw [eQ, eQ, (hE.1 b hb.1.1).2.1, (hE.1 b hb.1.1).2.1]; exact ⟨rfl, rfl⟩
  refine ⟨fun j hj b hb => ?_, fun i1 j1 a1 b1 hi1 hj1 ha1 hb1 hij => ?_, fun j hj => ?_, fun hf z hz => by rw [rr 23 (by decide) (by decide) (by decide) (by decide) (by decide)]; exact h4 hf z hz⟩
  · rw [ePr] at hb
    obtain ⟨r1, r2, r3, r4, r5⟩ := h1 j hj b hb
    have hon := hC.only hi hj ha hb
    have hsb := hC.sw (by omega) hb
    obtain ⟨ew1, ew2⟩ := ew b hsb
    have num : ∀ k, k ≠ 8 → gI X b k = gI S b k := fun k hk => by
      have o1 : ¬ (b = a ∧ k = 8) := fun e => hk e.2
      rw [eI, if_neg o1]; exact hE.2 b hsb.1.1 k
    refine ⟨fun p hp => ?_, fun u hu => ?_, ?_, ?_, ?_⟩
    · have hk : ∀ q ∈ relK, q.2 ≠ 18 ∧ q.2 ≠ 19 ∧ q.2 ≠ 20 ∧ q.2 ≠ 21 ∧ (q.2 = 17 ↔ q.1 = 8) := by decide
      obtain ⟨k1, k2, k3, k4, k5⟩ := hk p hp
      by_cases hp8 : p.1 = 8
      · rw [hp8, k5.mpr hp8, e17, eI]
        by_cases hji : j = i
        · have y1 : b = a ∧ 8 = 8 := ⟨hon.mpr hji, rfl⟩
          rw [if_pos y1, if_pos hji]
        · have y1 : ¬ (b = a ∧ 8 = 8) := fun e => hji (hon.mp e.1)
          rw [if_neg y1, if_neg hji, hE.2 b hsb.1.1 8]
          have := r1 p hp
          rw [hp8, k5.mpr hp8] at this
          exact this
      · rw [num _ hp8, rr _ (fun e => hp8 (k5.mp e)) k1 k2 k3 k4]
        exact r1 p hp
    · rw [ew1, eR, rr 6 (by decide) (by decide) (by decide) (by decide) (by decide)]
      obtain ⟨-, ⟨wt, w1, w2⟩, -⟩ := hsb
      have ewt : wtA S b = wt := by simp [wtA, w1]
      have hgr : gR T (wtA S b) u = gR S (wtA S b) u := gr _ (by rw [ewt]; exact w2.1) u
      rw [hgr]; exact r2 u hu
    · obtain ⟨r, rc1, rc2, rc3, rc4⟩ := r3
      by_cases hji : j = i
      · have hba : b = a := hon.mpr hji
        subst hji; subst hba
        have hr : r = rc := (nI_eq (a := r) (b := rc) (by omega) (by omega)).mp (rc2.symm.trans h17)
        subst hr
        refine ⟨r + 1, by omega, by rw [e17, if_pos rfl], fun k hk => ?_, fun k hk1 hk2 => ?_⟩
        · rw [ew2, eP]
          by_cases hkr : k = r
          · subst hkr
            rw [if_pos ⟨rfl, rfl⟩, e18, e19, e20, e21, if_pos rfl, if_pos rfl, if_pos rfl, if_pos rfl]
            have nq : ∀ z, gI X q z = gI T q z := fun z => by
              have o1 : ¬ (q = b ∧ z = 8) := fun e => hqa e.1
              rw [eI, if_neg o1]
            exact ⟨q, rfl, by rw [nq]; exact g0, by rw [nq]; exact g1, by rw [nq]; exact g2, by rw [nq]; exact g3⟩
          · have o1 : ¬ (rlA S b = rlA S b ∧ k = r) := fun e => hkr e.2
            obtain ⟨u, u0, u1, u2', u3, u4⟩ := rc3 k (by omega)
            have hu := hsb.rulO (by omega) u0
            have nu := old u hu.1 (ne_of_kind hu.2 hsa.1.2 (by decide))
            rw [if_neg o1, e18, e19, e20, e21, if_neg (by omega), if_neg (by omega), if_neg (by omega), if_neg (by omega), (hE.1 _ hsb.rl.1).2.2 k]
            exact ⟨u, u0, by rw [nu]; exact u1, by rw [nu]; exact u2', by rw [nu]; exact u3, by rw [nu]; exact u4⟩
        · have o1 : ¬ (rlA S b = rlA S b ∧ k = r) := fun e => by omega
          rw [ew2, eP, if_neg o1, (hE.1 _ hsb.rl.1).2.2 k]
          exact rc4 k (by omega) hk2
      · have hne : ¬ rlA S b = rlA S a := fun e => (h2 i j a b (by omega) (by omega) ha hb (fun e => hji e.symm)).2 e.symm
        refine ⟨r, rc1, by rw [e17, if_neg hji]; exact rc2, fun k hk => ?_, fun k hk1 hk2 => ?_⟩
        · have o1 : ¬ (rlA S b = rlA S a ∧ k = rc) := fun e => hne e.1
          obtain ⟨u, u0, u1, u2', u3, u4⟩ := rc3 k hk
          have hu := hsb.rulO (by omega) u0
          have nu := old u hu.1 (ne_of_kind hu.2 hsa.1.2 (by decide))
          rw [ew2, eP, if_neg o1, e18, e19, e20, e21, if_neg (by omega), if_neg (by omega), if_neg (by omega), if_neg (by omega), (hE.1 _ hsb.rl.1).2.2 k]
          exact ⟨u, u0, by rw [nu]; exact u1, by rw [nu]; exact u2', by rw [nu]; exact u3, by rw [nu]; exact u4⟩
        · have o1 : ¬ (rlA S b = rlA S a ∧ k = rc) := fun e => hne e.1
          rw [ew2, eP, if_neg o1, (hE.1 _ hsb.rl.1).2.2 k]
          exact rc4 k hk1 hk2
    · obtain ⟨cn, hc1, hc2⟩ := hsb.chA
      refine fun hf => (r4 hf).ext (fun u => cArmA_ext hc2 (by rw [eQ]; exact (hE.1 b hsb.1.1).2.1 7) (fun m hm => old m hm.1 (ne_of_kind hm.2 hsa.1.2 (by decide)) 0) (fun m hm => by rw [eQ]; exact (hE.1 m hm.1).2.1 2)) (fun u m hm => old m (hsb.armO hm).1 (ne_of_kind (hsb.armO hm).2 hsa.1.2 (by decide)) 1) (rr 23 (by decide) (by decide) (by decide) (by decide) (by decide)) (rr 24 (by decide) (by decide) (by decide) (by decide) (by decide)) (rr 25 (by decide) (by decide) (by decide) (by decide) (by decide))
    · rw [num 12 (by decide), num 11 (by decide), rr 9 (by decide) (by decide) (by decide) (by decide) (by decide)]; exact r5
  · rw [ePr] at ha1 hb1
    rw [(ew a1 (hC.sw hi1 ha1)).1, (ew a1 (hC.sw hi1 ha1)).2, (ew b1 (hC.sw hj1 hb1)).1, (ew b1 (hC.sw hj1 hb1)).2]
    exact h2 i1 j1 a1 b1 hi1 hj1 ha1 hb1 hij
  · rw [rr 8 (by decide) (by decide) (by decide) (by decide) (by decide), rr 13 (by decide) (by decide) (by decide) (by decide) (by decide), rr 14 (by decide) (by decide) (by decide) (by decide) (by decide), rr 16 (by decide) (by decide) (by decide) (by decide) (by decide)]; exact h3 j hj
