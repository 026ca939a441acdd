/-! the relation stays: a rule taken out, an arm more -/
theorem REL.unrule {fl : Prop} {n na na2 rc k i a : Nat} {hh cc : Int32} {S : Pool} {M N : MSt} {x ar ak : Nat} (h : REL fl n na S M ar) (hC : INVC n na2 hh cc S x ar ak) (hi : i < n) (ha : gP S ar i = some a) (hrc : rc ≤ 5) (h17 : M.2 17 i = nI rc) (hk : k < rc)
    (rr : ∀ j, j ≠ 17 → j ≠ 18 → j ≠ 19 → j ≠ 20 → j ≠ 21 → N.2 j = M.2 j) (e17 : ∀ j, N.2 17 j = if j = i then nI (rc - 1) else M.2 17 j) (eR : ∀ q, q = 18 ∨ q = 19 ∨ q = 20 ∨ q = 21 → ∀ j, N.2 q j = if 5 * i + k ≤ j ∧ j < 5 * i + rc - 1 then M.2 q (j + 1) else M.2 q j) : REL fl n na (pI (cRem S (rlA S a) k 5) a 8 (nI (rc - 1))) N ar := by
  obtain ⟨h1, h2, h3, h4⟩ := h
  have h8 := hC.n8
  have hsa := hC.sw (by omega) ha
  have eI : ∀ b j, gI (pI (cRem S (rlA S a) k 5) a 8 (nI (rc - 1))) b j = if b = a ∧ j = 8 then nI (rc - 1) else gI S b j := fun b j => rfl
  have eP : ∀ b j, gP (pI (cRem S (rlA S a) k 5) a 8 (nI (rc - 1))) b j = if b = rlA S a ∧ k ≤ j ∧ j < 5 then (if j + 1 < 5 then gP S (rlA S a) (j + 1) else none) else gP S b j := fun b j => rfl
  have eQ : gQ (pI (cRem S (rlA S a) k 5) a 8 (nI (rc - 1))) = gQ S := rfl
  have eG : gR (pI (cRem S (rlA S a) k 5) a 8 (nI (rc - 1))) = gR S := rfl
  have har : ¬ ar = rlA S a := ne_of_kind hC.R.1.2.1 hsa.rl.2.1 (by decide)
  generalize (pI (cRem S (rlA S a) k 5) a 8 (nI (rc - 1))) = X at eI eP eQ eG ⊢
  have ePr : ∀ j, gP X ar j = gP S ar j := fun j => by
    have o1 : ¬ (ar = rlA S a ∧ k ≤ j ∧ j < 5) := fun e => har e.1
    rw [eP, if_neg o1]
  have old : ∀ b, b ≠ a → ∀ j, gI X b j = gI S b j := fun b hba j => by
    have o1 : ¬ (b = a ∧ j = 8) := fun e => hba e.1
    rw [eI, if_neg o1]
  have ew : ∀ b, wtA X b = wtA S b ∧ rlA X b = rlA S b := fun b => by unfold wtA rlA; rw [eQ]; exact ⟨rfl, rfl⟩
  refine ⟨fun j hj b hb => ?_, fun i1 j1 a1 b1 hi1 hj1 ha1 hb1 hij => ?_, fun j hj => ?_, fun hf z hz => by rw [rr 23 (by decide) (by decide) (by decide) (by decide) (by decide)]; exact h4 hf z hz⟩
  · rw [ePr] at hb
    obtain ⟨r1, r2, r3, r4, r5⟩ := h1 j hj b hb
    have hon := hC.only hi hj ha hb
    have hsb := hC.sw (by omega) hb
    obtain ⟨ew1, ew2⟩ := ew b
    have num : ∀ z, z ≠ 8 → gI X b z = gI S b z := fun z hz => by
      have o1 : ¬ (b = a ∧ z = 8) := fun e => hz e.2
      rw [eI, if_neg o1]
    refine ⟨fun p hp => ?_, fun u hu => ?_, ?_, ?_, ?_⟩
    · have hk9 : ∀ q ∈ relK, q.2 ≠ 18 ∧ q.2 ≠ 19 ∧ q.2 ≠ 20 ∧ q.2 ≠ 21 ∧ (q.2 = 17 ↔ q.1 = 8) := by decide
      obtain ⟨k1, k2, k3, k4, k5⟩ := hk9 p hp
      by_cases hp8 : p.1 = 8
      · rw [hp8, k5.mpr hp8, e17, eI]
        by_cases hji : j = i
        · have y1 : b = a ∧ 8 = 8 := ⟨hon.mpr hji, rfl⟩
          rw [if_pos y1, if_pos hji]
        · have y1 : ¬ (b = a ∧ 8 = 8) := fun e => hji (hon.mp e.1)
          rw [if_neg y1, if_neg hji]
          have := r1 p hp
          rw [hp8, k5.mpr hp8] at this
          exact this
      · rw [num _ hp8, rr _ (fun e => hp8 (k5.mp e)) k1 k2 k3 k4]
        exact r1 p hp
    · rw [ew1, eG, rr 6 (by decide) (by decide) (by decide) (by decide) (by decide)]; exact r2 u hu
    · obtain ⟨r, rc1, rc2, rc3, rc4⟩ := r3
      by_cases hji : j = i
      · have hba : b = a := hon.mpr hji
        subst hji; subst hba
        have hr : r = rc := (nI_eq (a := r) (b := rc) (by omega) (by omega)).mp (rc2.symm.trans h17)
        subst hr
        refine ⟨r - 1, by omega, by rw [e17, if_pos rfl], fun z hz => ?_, fun z hz1 hz2 => ?_⟩
        · rw [ew2, eP, eR 18 (by omega), eR 19 (by omega), eR 20 (by omega), eR 21 (by omega)]
          by_cases hkz : k ≤ z
          · have y1 : rlA S b = rlA S b ∧ k ≤ z ∧ z < 5 := ⟨rfl, hkz, by omega⟩
            have y2 : 5 * j + k ≤ 5 * j + z ∧ 5 * j + z < 5 * j + r - 1 := ⟨by omega, by omega⟩
            rw [if_pos y1, if_pos (show z + 1 < 5 by omega), if_pos y2, if_pos y2, if_pos y2, if_pos y2]
            obtain ⟨u, u0, u1, u2', u3, u4⟩ := rc3 (z + 1) (by omega)
            have hu := hsb.rulO (by omega) u0
            have nu := old u (ne_of_kind hu.2 hsa.1.2 (by decide))
            exact ⟨u, u0, by rw [nu]; exact u1, by rw [nu]; exact u2', by rw [nu]; exact u3, by rw [nu]; exact u4⟩
          · have y1 : ¬ (rlA S b = rlA S b ∧ k ≤ z ∧ z < 5) := fun e => hkz e.2.1
            have y2 : ¬ (5 * j + k ≤ 5 * j + z ∧ 5 * j + z < 5 * j + r - 1) := fun e => by omega
            rw [if_neg y1, if_neg y2, if_neg y2, if_neg y2, if_neg y2]
            obtain ⟨u, u0, u1, u2', u3, u4⟩ := rc3 z (by omega)
            have hu := hsb.rulO (by omega) u0
            have nu := old u (ne_of_kind hu.2 hsa.1.2 (by decide))
            exact ⟨u, u0, by rw [nu]; exact u1, by rw [nu]; exact u2', by rw [nu]; exact u3, by rw [nu]; exact u4⟩
        · have y1 : rlA S b = rlA S b ∧ k ≤ z ∧ z < 5 := ⟨rfl, by omega, hz2⟩
          rw [ew2, eP, if_pos y1]
          by_cases h5 : z + 1 < 5
          · rw [if_pos h5]; exact rc4 (z + 1) (by omega) h5
          · rw [if_neg h5]
      · have hne : ¬ rlA S b = rlA S a := fun e => (h2 i j a b (by omega) (by omega) ha hb (fun e => hji e.symm)).2 e.symm
        have o1 : ∀ q : Prop, ¬ (rlA S b = rlA S a ∧ q) := fun q e => hne e.1
        refine ⟨r, rc1, by rw [e17, if_neg hji]; exact rc2, fun z hz => ?_, fun z hz1 hz2 => ?_⟩
        · obtain ⟨u, u0, u1, u2', u3, u4⟩ := rc3 z hz
          have hu := hsb.rulO (by omega) u0
          have nu := old u (ne_of_kind hu.2 hsa.1.2 (by decide))
          have y2 : ¬ (5 * i + k ≤ 5 * j + z ∧ 5 * j + z < 5 * i + rc - 1) := fun e => by omega
          rw [ew2, eP, if_neg (o1 _), eR 18 (by omega), eR 19 (by omega), eR 20 (by omega), eR 21 (by omega), if_neg y2, if_neg y2, if_neg y2, if_neg y2]
          exact ⟨u, u0, by rw [nu]; exact u1, by rw [nu]; exact u2', by rw [nu]; exact u3, by rw [nu]; exact u4⟩
        · rw [ew2, eP, if_neg (o1 _)]
          exact rc4 z hz1 hz2
    · obtain ⟨cn, hc1, hc2⟩ := hsb.chA
      refine fun hf => (r4 hf).ext (fun u => cArmA_ext hc2 (by rw [eQ]) (fun m hm => old m (ne_of_kind hm.2 hsa.1.2 (by decide)) 0) (fun m hm => by rw [eQ])) (fun u m hm => old m (ne_of_kind (hsb.armO hm).2 hsa.1.2 (by decide)) 1) (rr 23 (by decide) (by decide) (by decide) (by decide) (by decide)) (rr 24 (by decide) (by decide) (by decide) (by decide) (by decide)) (rr 25 (by decide) (by decide) (by decide) (by decide) (by decide))
    · rw [num 12 (by decide), num 11 (by decide), rr 9 (by decide) (by decide) (by decide) (by decide) (by decide)]; exact r5
  · rw [ePr] at ha1 hb1
    rw [(ew a1).1, (ew a1).2, (ew b1).1, (ew b1).2]
    exact h2 i1 j1 a1 b1 hi1 hj1 ha1 hb1 hij
  · rw [rr 8 (by decide) (by decide) (by decide) (by decide) (by decide), rr 13 (by decide) (by decide) (by decide) (by decide) (by decide), rr 14 (by decide) (by decide) (by decide) (by decide) (by decide), rr 16 (by decide) (by decide) (by decide) (by decide) (by decide)]; exact h3 j hj
theorem rArm_same {T U : Rows} {one u : Int32} : ∀ c k, (∀ j, k ≤ j → j < k + c → U 23 j = T 23 j ∧ U 24 j = T 24 j) → rArm U one u c k = rArm T one u c k := by
  intro c
  induction c with
  | zero => intro k _; rfl
  | succ c ih =>
    intro k h
    unfold rArm
    rw [(h k (Nat.le_refl _) (by omega)).1, (h k (Nat.le_refl _) (by omega)).2, ih (k + 1) (fun j h1 h2 => h j (by omega) (by omega))]
theorem rArm_snoc (T : Rows) (one u : Int32) : ∀ c k, k + c < 2 ^ 31 → rArm T one u (c + 1) k = if rArm T one u c k = -1 then (if T 23 (k + c) = one ∧ T 24 (k + c) = u then nI (k + c) else -1) else rArm T one u c k := by
  intro c
  induction c with
  | zero =>
    intro k hk
    show (if T 23 k = one then (if T 24 k = u then nI k else -1) else -1) = if (-1 : Int32) = -1 then (if T 23 k = one ∧ T 24 k = u then nI k else -1) else -1
    rw [if_pos rfl]
    by_cases h1 : T 23 k = one
    · by_cases h2 : T 24 k = u
      · rw [if_pos h1, if_pos h2, if_pos ⟨h1, h2⟩]
      · have y : ¬ (T 23 k = one ∧ T 24 k = u) := fun e => h2 e.2
        rw [if_pos h1, if_neg h2, if_neg y]
    · have y : ¬ (T 23 k = one ∧ T 24 k = u) := fun e => h1 e.1
      rw [if_neg h1, if_neg y]
  | succ c ih =>
    intro k hk
    have e1 : rArm T one u (c + 1 + 1) k = if T 23 k = one then (if T 24 k = u then nI k else rArm T one u (c + 1) (k + 1)) else rArm T one u (c + 1) (k + 1) := rfl
    have e2 : rArm T one u (c + 1) k = if T 23 k = one then (if T 24 k = u then nI k else rArm T one u c (k + 1)) else rArm T one u c (k + 1) := rfl
    have hh := ih (k + 1) (by omega)
    rw [show k + 1 + c = k + (c + 1) by omega] at hh
    rw [e1, e2]
    by_cases h1 : T 23 k = one
    · by_cases h2 : T 24 k = u
      · simp only [h1, h2, if_true]
        rw [if_neg (nI_m1 (by omega))]
      · simp only [h1, h2, if_true, if_false]; exact hh
    · simp only [h1, if_false]; exact hh
/-- an arm more -/
theorem REL.arm {fl : Prop} {n na na2 i a q t9 v ty : Nat} {hh cc p1 g t : Int32} {S : Pool} {M N : MSt} {x ar ak : Nat} (h : REL fl n na S M ar) (hC : INVC n na2 hh cc S x ar ak) (hi : i < n) (ha : gP S ar i = some a) (hq : q ∉ gL S) (hty : isO S ty 4) (ht9 : gK S t9 = 10) (hna : na < 100) (hn2 : na2 < 100) (harm : cArmA S a p1 = none)
    (rr : ∀ j, j ≠ 23 → j ≠ 24 → j ≠ 25 → N.2 j = M.2 j) (e23 : ∀ j, N.2 23 j = if j = na then nI i else M.2 23 j) (e24 : ∀ j, N.2 24 j = if j = na then p1 else M.2 24 j) (e25 : ∀ j, N.2 25 j = if j = na then nI v else M.2 25 j) : REL fl n (na + 1) (pI (pI (pR (pQ (pQ (pI (pI (pW S q 0 0) q 0 p1) q 1 (nI v)) q 2 (gQ S a 7)) a 7 (some q)) t9 v g) ty 4 t) x 3 (nI (na + 1))) N ar := by
  obtain ⟨h1, h2, h3, h4⟩ := h
  have h8 := hC.n8
  have hsa := hC.sw (by omega) ha
  have hE : ExtI S (pQ (pI (pI (pW S q 0 0) q 0 p1) q 1 (nI v)) q 2 (gQ S a 7)) := (((ExtI.rf.new hq).pI hq).pI hq).pQ hq
  have g2 : gQ (pQ (pI (pI (pW S q 0 0) q 0 p1) q 1 (nI v)) q 2 (gQ S a 7)) q 2 = gQ S a 7 := u2_s
  have g0 : gI (pQ (pI (pI (pW S q 0 0) q 0 p1) q 1 (nI v)) q 2 (gQ S a 7)) q 0 = p1 := (show u2 (u2 _ q 0 p1) q 1 (nI v) q 0 = p1 from (u2_k (by decide)).trans u2_s)
  have g1 : gI (pQ (pI (pI (pW S q 0 0) q 0 p1) q 1 (nI v)) q 2 (gQ S a 7)) q 1 = nI v := (show u2 (u2 _ q 0 p1) q 1 (nI v) q 1 = nI v from u2_s)
  have gr : ∀ b, b ∈ gL S → ∀ k, gR (pQ (pI (pI (pW S q 0 0) q 0 p1) q 1 (nI v)) q 2 (gQ S a 7)) b k = gR S b k := fun b hb k => gR_new (ki := 0) (n := 0) hb hq
  generalize (pQ (pI (pI (pW S q 0 0) q 0 p1) q 1 (nI v)) q 2 (gQ S a 7)) = T at hE g0 g1 g2 gr ⊢
  have hqa : q ≠ a := fun e => hq (e ▸ hsa.1.1)
  have hqx : q ≠ x := fun e => hq (e ▸ hC.hx.1)
  have hqt : q ≠ ty := fun e => hq (e ▸ hty.1)
  have eI : ∀ b k, b ≠ ty → b ≠ x → gI (pI (pI (pR (pQ T a 7 (some q)) t9 v g) ty 4 t) x 3 (nI (na + 1))) b k = gI T b k := fun b k n1 n2 => (show u2 (u2 (gI T) ty 4 t) x 3 (nI (na + 1)) b k = _ from (u2_a n2).trans (u2_a n1))
  have eQ : ∀ b k, gQ (pI (pI (pR (pQ T a 7 (some q)) t9 v g) ty 4 t) x 3 (nI (na + 1))) b k = if b = a ∧ k = 7 then some q else gQ T b k := fun b k => rfl
  have eP : ∀ b k, gP (pI (pI (pR (pQ T a 7 (some q)) t9 v g) ty 4 t) x 3 (nI (na + 1))) b k = gP T b k := fun b k => rfl
  have eR : ∀ b k, b ≠ t9 → gR (pI (pI (pR (pQ T a 7 (some q)) t9 v g) ty 4 t) x 3 (nI (na + 1))) b k = gR T b k := fun b k hb => (show u2 (gR T) t9 v g b k = _ from u2_a hb)
  generalize (pI (pI (pR (pQ T a 7 (some q)) t9 v g) ty 4 t) x 3 (nI (na + 1))) = X at eI eQ eP eR ⊢
  have old : ∀ b kb, isO S b kb → kb ≠ 4 → kb ≠ 5 → ∀ k, gI X b k = gI S b k := fun b kb hb h4 h5 k => by
    rw [eI b k (ne_of_kind hb.2 hty.2 h4) (ne_of_kind hb.2 hC.hx.2 h5)]; exact hE.2 b hb.1 k
  have ePr : ∀ b, b ∈ gL S → ∀ k, gP X b k = gP S b k := fun b hb k => by rw [eP]; exact (hE.1 b hb).2.2 k
  have eQ7 : ∀ b, b ∈ gL S → ∀ k, k ≠ 7 → gQ X b k = gQ S b k := fun b hb k hk => by
    have o1 : ¬ (b = a ∧ k = 7) := fun e => hk e.2
    rw [eQ, if_neg o1]; exact (hE.1 b hb).2.1 k
  have ew : ∀ b, okSw S b → wtA X b = wtA S b ∧ rlA X b = rlA S b := fun b hb => by unfold wtA rlA; rw [eQ7 b hb.1.1 4 (by decide), eQ7 b hb.1.1 5 (by decide)]; exact ⟨rfl, rfl⟩
  have rs : ∀ one u, rArm N.2 one u na 0 = rArm M.2 one u na 0 := fun one u => rArm_same na 0 (fun j _ hj => ⟨by rw [e23, if_neg (by omega)], by rw [e24, if_neg (by omega)]⟩)
  have rn : ∀ one u, rArm N.2 one u (na + 1) 0 = if rArm M.2 one u na 0 = -1 then (if nI i = one ∧ p1 = u then nI na else -1) else rArm M.2 one u na 0 := fun one u => by
    rw [rArm_snoc N.2 one u na 0 (by omega), rs, show 0 + na = na by omega, e23, e24, if_pos rfl, if_pos rfl]
  refine ⟨fun j hj b hb => ?_, fun i1 j1 a1 b1 hi1 hj1 ha1 hb1 hij => ?_, fun j hj => ?_, fun hf z hz => ?_⟩
  · rw [ePr ar hC.R.1.1] at hb
    obtain ⟨r1, r2, r3, r4, r5⟩ := h1 j hj b hb
    have hon := hC.only hi hj ha hb
    have hsb := hC.sw (by omega) hb
    obtain ⟨ew1, ew2⟩ := ew b hsb
    have num := old b 3 hsb.1 (by decide) (by decide)
    obtain ⟨cn, hc1, hc2⟩ := hsb.chA
    have chx : ∀ u m r c, chn S c r → cArm X u m r = cArm S u m r := fun u m r c hc => cArm_ext (S := S) (fun z hz => old z 0 hz (by decide) (by decide) 0) (fun z hz => eQ7 z hz.1 2 (by decide)) c r hc m
    refine ⟨fun p hp => ?_, fun u hu => ?_, ?_, ?_, ?_⟩
    · have hk9 : ∀ q ∈ relK, q.2 ≠ 23 ∧ q.2 ≠ 24 ∧ q.2 ≠ 25 := by decide
      rw [num, rr _ (hk9 p hp).1 (hk9 p hp).2.1 (hk9 p hp).2.2]; exact r1 p hp
    · obtain ⟨-, ⟨wt, w1, w2⟩, -⟩ := hsb
      have ewt : wtA S b = wt := by simp [wtA, w1]
      rw [ew1, eR _ _ (by rw [ewt]; exact ne_of_kind w2.2.1 ht9 (by decide)), gr _ (by rw [ewt]; exact w2.1), rr 6 (by decide) (by decide) (by decide)]
      exact r2 u hu
    · exact r3.ext (fun k _ => by rw [ew2]; exact ePr _ hsb.rl.1 k) (fun k u hk hu z _ => old u 2 (hsb.rulO hk hu) (by decide) (by decide) z) (rr 17 (by decide) (by decide) (by decide)) (rr 18 (by decide) (by decide) (by decide)) (rr 19 (by decide) (by decide) (by decide)) (rr 20 (by decide) (by decide) (by decide)) (rr 21 (by decide) (by decide) (by decide))
    · intro hf u
      have r4 := r4 hf
      rw [rn]
      by_cases hji : j = i
      · have hba : b = a := hon.mpr hji
        subst hji; subst hba
        have e7 : gQ X b 7 = some q := by rw [eQ, if_pos ⟨rfl, rfl⟩]
        have q2 : gQ X q 2 = gQ S b 7 := by
          have o1 : ¬ (q = b ∧ 2 = 7) := fun e => hqa e.1
          rw [eQ, if_neg o1]; exact g2
        have eA : cArmA X b u = if p1 = u then some q else cArmA S b u := by
          unfold cArmA
          rw [e7]
          show (if gI X q 0 = u then some q else cArm X u 99 (gQ X q 2)) = _
          rw [eI q 0 hqt hqx, g0, q2]
          obtain ⟨c5, hc5, hc6⟩ := (hC.s j (by omega) b hb).1
          rw [chx u 99 _ c5 hc6, ← cArm_fuel c5 99 _ hc6 (by omega), cArm_fuel c5 100 _ hc6 (by omega)]
        rw [eA]
        by_cases hpu : p1 = u
        · subst hpu
          rcases r4 p1 with ⟨s1, s2⟩ | ⟨m, k, s1, s2, s3, s4⟩
          · refine Or.inr ⟨q, na, by omega, by rw [if_pos rfl], ?_, by rw [eI q 1 hqt hqx, g1, e25, if_pos rfl]⟩
            rw [if_pos s2, if_pos ⟨rfl, rfl⟩]
          · rw [harm] at s2; cases s2
        · have o1 : ¬ (nI j = nI j ∧ p1 = u) := fun e => hpu e.2
          rw [if_neg hpu, if_neg o1]
          rcases r4 u with ⟨s1, s2⟩ | ⟨m, k, s1, s2, s3, s4⟩
          · exact Or.inl ⟨s1, by rw [if_pos s2]⟩
          · refine Or.inr ⟨m, k, by omega, s2, by rw [if_neg (by rw [s3]; exact nI_m1 (by omega))]; exact s3, ?_⟩
            rw [old m 0 (hsb.armO s2) (by decide) (by decide) 1, e25, if_neg (by omega)]; exact s4
      · have hba : ¬ b = a := fun e => hji (hon.mp e)
        have o1 : ¬ (nI i = nI j ∧ p1 = u) := fun e => hji ((nI_eq (a := i) (b := j) (by omega) (by omega)).mp e.1).symm
        have o2 : ¬ (b = a ∧ 7 = 7) := fun e => hba e.1
        have eA : cArmA X b u = cArmA S b u := by
          unfold cArmA
          rw [eQ, if_neg o2, (hE.1 b hsb.1.1).2.1 7]
          exact chx u 100 _ cn hc2
        rw [eA, if_neg o1]
        rcases r4 u with ⟨s1, s2⟩ | ⟨m, k, s1, s2, s3, s4⟩
        · exact Or.inl ⟨s1, by rw [if_pos s2]⟩
        · refine Or.inr ⟨m, k, by omega, s2, by rw [if_neg (by rw [s3]; exact nI_m1 (by omega))]; exact s3, ?_⟩
          rw [old m 0 (hsb.armO s2) (by decide) (by decide) 1, e25, if_neg (by omega)]; exact s4
    · rw [num, num, rr 9 (by decide) (by decide) (by decide)]; exact r5
  · rw [ePr ar hC.R.1.1] at ha1 hb1
    rw [(ew a1 (hC.sw hi1 ha1)).1, (ew a1 (hC.sw hi1 ha1)).2, (ew b1 (hC.sw hj1 hb1)).1, (ew b1 (hC.sw hj1 hb1)).2]
    exact h2 i1 j1 a1 b1 hi1 hj1 ha1 hb1 hij
  · rw [rr 8 (by decide) (by decide) (by decide), rr 13 (by decide) (by decide) (by decide), rr 14 (by decide) (by decide) (by decide), rr 16 (by decide) (by decide) (by decide)]; exact h3 j hj
  · rw [e23]
    by_cases hz2 : z = na
    · rw [if_pos hz2]; exact ⟨i, hi, rfl⟩
    · rw [if_neg hz2]; exact h4 hf z (by omega)
/-- without the arms: an arm more on the class's side alone -/
theorem REL.armC {n na na2 i a q t9 v ty : Nat} {hh cc p1 g t w : Int32} {S : Pool} {M : MSt} {x ar ak : Nat} (h : REL False n na S M ar) (hC : INVC n na2 hh cc S x ar ak) (hi : i < n) (ha : gP S ar i = some a) (hq : q ∉ gL S) (hty : isO S ty 4) (ht9 : gK S t9 = 10) : REL False n na (pI (pI (pR (pQ (pQ (pI (pI (pW S q 0 0) q 0 p1) q 1 (nI v)) q 2 (gQ S a 7)) a 7 (some q)) t9 v g) ty 4 t) x 3 w) M ar := by
  obtain ⟨h1, h2, h3, h4⟩ := h
  have h8 := hC.n8
  have hE : ExtI S (pQ (pI (pI (pW S q 0 0) q 0 p1) q 1 (nI v)) q 2 (gQ S a 7)) := (((ExtI.rf.new hq).pI hq).pI hq).pQ hq
  have gr : ∀ b, b ∈ gL S → ∀ k, gR (pQ (pI (pI (pW S q 0 0) q 0 p1) q 1 (nI v)) q 2 (gQ S a 7)) b k = gR S b k := fun b hb k => gR_new (ki := 0) (n := 0) hb hq
  generalize (pQ (pI (pI (pW S q 0 0) q 0 p1) q 1 (nI v)) q 2 (gQ S a 7)) = T at hE gr ⊢
  have eI : ∀ b k, b ≠ ty → b ≠ x → gI (pI (pI (pR (pQ T a 7 (some q)) t9 v g) ty 4 t) x 3 w) b k = gI T b k := fun b k n1 n2 => (show u2 (u2 (gI T) ty 4 t) x 3 w b k = _ from (u2_a n2).trans (u2_a n1))
  have eQ : ∀ b k, k ≠ 7 → gQ (pI (pI (pR (pQ T a 7 (some q)) t9 v g) ty 4 t) x 3 w) b k = gQ T b k := fun b k hk => (show u2 (gQ T) a 7 (some q) b k = _ from u2_k hk)
  have eP : ∀ b k, gP (pI (pI (pR (pQ T a 7 (some q)) t9 v g) ty 4 t) x 3 w) b k = gP T b k := fun b k => rfl
  have eR : ∀ b k, b ≠ t9 → gR (pI (pI (pR (pQ T a 7 (some q)) t9 v g) ty 4 t) x 3 w) b k = gR T b k := fun b k hb => (show u2 (gR T) t9 v g b k = _ from u2_a hb)
  generalize (pI (pI (pR (pQ T a 7 (some q)) t9 v g) ty 4 t) x 3 w) = X at eI eQ eP eR ⊢
  have old : ∀ b kb, isO S b kb → kb ≠ 4 → kb ≠ 5 → ∀ k, gI X b k = gI S b k := fun b kb hb h4 h5 k => by
    rw [eI b k (ne_of_kind hb.2 hty.2 h4) (ne_of_kind hb.2 hC.hx.2 h5)]; exact hE.2 b hb.1 k
  have ePr : ∀ b, b ∈ gL S → ∀ k, gP X b k = gP S b k := fun b hb k => by rw [eP]; exact (hE.1 b hb).2.2 k
  have ew : ∀ b, okSw S b → wtA X b = wtA S b ∧ rlA X b = rlA S b := fun b hb => by unfold wtA rlA; rw [eQ b 4 (by decide), eQ b 5 (by decide), (hE.1 b hb.1.1).2.1, (hE.1 b hb.1.1).2.1]; exact ⟨rfl, rfl⟩
  refine ⟨fun j hj b hb => ?_, fun i1 j1 a1 b1 hi1 hj1 ha1 hb1 hij => ?_, h3, fun hf => hf.elim⟩
  · rw [ePr ar hC.R.1.1] at hb
    obtain ⟨r1, r2, r3, r4, r5⟩ := h1 j hj b hb
    have hsb := hC.sw (by omega) hb
    obtain ⟨ew1, ew2⟩ := ew b hsb
    have num := old b 3 hsb.1 (by decide) (by decide)
    refine ⟨fun p hp => by rw [num]; exact r1 p hp, fun u hu => ?_, ?_, fun hf => hf.elim, by rw [num, num]; exact r5⟩
    · obtain ⟨-, ⟨wt, w1, w2⟩, -⟩ := hsb
      have ewt : wtA S b = wt := by simp [wtA, w1]
      rw [ew1, eR _ _ (by rw [ewt]; exact ne_of_kind w2.2.1 ht9 (by decide)), gr _ (by rw [ewt]; exact w2.1)]
      exact r2 u hu
    · exact r3.ext (fun k _ => by rw [ew2]; exact ePr _ hsb.rl.1 k) (fun k u hk hu z _ => old u 2 (hsb.rulO hk hu) (by decide) (by decide) z) rfl rfl rfl rfl rfl
  · rw [ePr ar hC.R.1.1] at ha1 hb1
    rw [(ew a1 (hC.sw hi1 ha1)).1, (ew a1 (hC.sw hi1 ha1)).2, (ew b1 (hC.sw hj1 hb1)).1, (ew b1 (hC.sw hj1 hb1)).2]
    exact h2 i1 j1 a1 b1 hi1 hj1 ha1 hb1 hij
/-- without the arms: rows of arms may be others -/
theorem REL.rowsF {n na na2 : Nat} {S : Pool} {M N : MSt} {ar : Nat} (h : REL False n na S M ar) (rr : ∀ k, k ≠ 23 → k ≠ 24 → k ≠ 25 → N.2 k = M.2 k) : REL False n na2 S N ar := by
  obtain ⟨h1, h2, h3, h4⟩ := h
  refine ⟨fun i hi a ha => ?_, h2, fun i hi => by rw [rr 8 (by decide) (by decide) (by decide), rr 13 (by decide) (by decide) (by decide), rr 14 (by decide) (by decide) (by decide), rr 16 (by decide) (by decide) (by decide)]; exact h3 i hi, fun hf => hf.elim⟩
  obtain ⟨r1, r2, r3, r4, r5⟩ := h1 i hi a ha
  refine ⟨fun q hq => ?_, fun v hv => by rw [rr 6 (by decide) (by decide) (by decide)]; exact r2 v hv, r3.ext (fun k _ => rfl) (fun k u hk hu j _ => rfl) (rr 17 (by decide) (by decide) (by decide)) (rr 18 (by decide) (by decide) (by decide)) (rr 19 (by decide) (by decide) (by decide)) (rr 20 (by decide) (by decide) (by decide)) (rr 21 (by decide) (by decide) (by decide)), fun hf => hf.elim, by rw [rr 9 (by decide) (by decide) (by decide)]; exact r5⟩
  have hk9 : ∀ q ∈ relK, q.2 ≠ 23 ∧ q.2 ≠ 24 ∧ q.2 ≠ 25 := by decide
  rw [rr _ (hk9 q hq).1 (hk9 q hq).2.1 (hk9 q hq).2.2]
  exact r1 q hq
