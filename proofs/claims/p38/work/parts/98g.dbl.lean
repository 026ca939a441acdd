/-! doubles: means, lifts, the sureness of variant 0 -/
theorem al_eq {x y : UInt64} {K : Nat} (h : alike64 x y = true) (hy : y.toNat % 2 ^ 63 < K * 2 ^ 52) (hK : K ≤ 2047) : x = y := by
  rcases alike_or h with e | ⟨-, a2⟩
  · exact e
  · exact absurd (nan_dec a2) ((FP.Core.ne_nan y).mpr (by omega))
theorem kMean_mag (s c : Int32) : (kMean s c).toNat % 2 ^ 63 < 1057 * 2 ^ 52 := by
  unfold kMean
  by_cases h : c = 0
  · rw [if_pos h]; decide +kernel
  · rw [if_neg h]
    have hc := FP.Core.i2d_big (v := c) (FP.Core.int32_ne h)
    exact Nat.lt_of_lt_of_le (FP.Core.ddiv_mag (K := 1056) (L := 1023) (FP.Core.i2d_mag s) hc.1 hc.2 (by decide) (by decide)) (by decide)
theorem kMean_fin (s c : Int32) : FP.Core.DFin (kMean s c) := FP.Core.fin_of_lt (kMean_mag s c) (by decide)
theorem fin_nn {a : UInt64} (h : FP.Core.DFin a) : FP.Core.val64 a ≠ .nan := by
  obtain ⟨s, c, q, h⟩ := h
  rw [h]; exact FP.Core.Datum.noConfusion
theorem dMean_eq {s c : Int32} {r : UInt64} (h : dMean s c r) : r = kMean s c := al_eq (mean_alike h) (kMean_mag s c) (by decide)
theorem spread_b {s c : Int32} {q : Int64} {m r5 r6 r7 r8 : UInt64} (hc : ¬ c = 0) (hm : dMean s c m) (h5 : alike64 r5 (FP.ddiv (FP.l2d q) (FP.i2d c)) = true) (h6 : alike64 r6 (FP.dmul m m) = true) (h7 : alike64 r7 (FP.dsub r5 r6) = true) (h8 : alike64 r8 (FP.ddiv r7 (FP.i2d c)) = true) : r8.toNat % 2 ^ 63 < 1095 * 2 ^ 52 := by
  have hc2 := FP.Core.i2d_big (v := c) (FP.Core.int32_ne hc)
  have bm : m.toNat % 2 ^ 63 < 1057 * 2 ^ 52 := by rw [dMean_eq hm]; exact kMean_mag s c
  have b5 : (FP.ddiv (FP.l2d q) (FP.i2d c)).toNat % 2 ^ 63 < 1092 * 2 ^ 52 := Nat.lt_of_lt_of_le (FP.Core.ddiv_mag (K := 1088) (L := 1023) (FP.Core.l2d_mag q) hc2.1 hc2.2 (by decide) (by decide)) (by decide)
  have b6 : (FP.dmul m m).toNat % 2 ^ 63 < 1092 * 2 ^ 52 := Nat.lt_of_lt_of_le (FP.Core.dmul_mag bm bm (by decide) (by decide)) (by decide)
  have e5 := al_eq h5 b5 (by decide)
  have e6 := al_eq h6 b6 (by decide)
  rw [← e5] at b5
  rw [← e6] at b6
  have b7 : (FP.dsub r5 r6).toNat % 2 ^ 63 < 1094 * 2 ^ 52 := FP.Core.dsub_mag b5 b6 (by decide)
  have e7 := al_eq h7 b7 (by decide)
  rw [← e7] at b7
  have b8 : (FP.ddiv r7 (FP.i2d c)).toNat % 2 ^ 63 < 1095 * 2 ^ 52 := Nat.lt_of_lt_of_le (FP.Core.ddiv_mag (K := 1094) (L := 1023) b7 hc2.1 hc2.2 (by decide) (by decide)) (by decide)
  rw [al_eq h8 b8 (by decide)]
  exact b8
theorem vz0 : FP.Core.val64 FP.dconst0 = .fin false 0 FP.Core.b64.qmin := FP.Core.val64_dconst0
theorem vdiv (a b : UInt64) : FP.Core.val64 (FP.ddiv a b) = FP.Core.quotient FP.Core.b64 (FP.Core.val64 a) (FP.Core.val64 b) := FP.Core.val64_ddiv a b
theorem vi2d (a : Int32) : FP.Core.val64 (FP.i2d a) = FP.Core.round FP.Core.b64 (FP.Core.ofInt a.toInt) := FP.Core.val64_i2d a
theorem lift_eq0 (s c : Int32) : FP.dsub (kMean s c) (kMean s c) = FP.dconst0 := by
  obtain ⟨sg, cc, qq, hk⟩ := kMean_fin s c
  exact FP.Core.dsub_self hk
theorem d00 : FP.dcmp FP.dconst0 FP.dconst0 = some .eq := by decide +kernel
theorem sure_z {s c : Int32} {r5 r6 r7 r8 r11 r12 : UInt64} (h5 : r5.toNat % 2 ^ 63 < 1095 * 2 ^ 52) (h6 : r6.toNat % 2 ^ 63 < 1095 * 2 ^ 52) (h7 : alike64 r7 (FP.dadd r5 r6) = true) (h8 : ∃ m1 m0, dMean s c m1 ∧ dMean s c m0 ∧ alike64 r8 (FP.dsub m1 m0) = true) (h10 : ¬ Op.cmpValue (FP.dcmp r7 FP.dconst0) CmpOp.l = 0) (h11 : alike64 r11 (FP.dmul r8 r8) = true) (h12 : alike64 r12 (FP.ddiv r11 r7) = true) : FP.dcmp r12 FP.dconst0 = some .eq := by
  have z0 : FP.dconst0 = 0 := by decide +kernel
  obtain ⟨m1, m0, d1, d0, hs⟩ := h8
  have e8 : r8 = FP.dconst0 := by
    rw [dMean_eq d1, dMean_eq d0, lift_eq0] at hs
    exact al_eq (K := 1) hs (by decide +kernel) (by decide)
  have e11 : r11 = FP.dconst0 := by
    rw [e8, show FP.dmul FP.dconst0 FP.dconst0 = FP.dconst0 by decide +kernel] at h11
    exact al_eq (K := 1) h11 (by decide +kernel) (by decide)
  have b7 : (FP.dadd r5 r6).toNat % 2 ^ 63 < 1097 * 2 ^ 52 := FP.Core.dadd_mag h5 h6 (by decide)
  have e7 := al_eq h7 b7 (by decide)
  rw [← e7] at b7
  obtain ⟨s7, c7, q7, h77⟩ := FP.Core.fin_of_lt b7 (by decide)
  have hc7 : c7 ≠ 0 := by
    intro e
    apply h10
    have hz : FP.dcmp r7 0 = some .eq := FP.Core.zero_iff.mpr ⟨s7, q7, by rw [h77, e]⟩
    rw [z0, hz]; rfl
  have hv : FP.Core.val64 (FP.ddiv r11 r7) = .fin (false != s7) 0 FP.Core.b64.qmin := by
    rw [vdiv, e11, vz0, h77]
    show (if c7 = 0 then _ else FP.Core.roundRatio FP.Core.b64 (false != s7) 0 c7 _) = _
    rw [if_neg hc7]
    unfold FP.Core.roundRatio
    exact if_pos rfl
  have hd : FP.Core.DZero (FP.ddiv r11 r7) := ⟨_, _, hv⟩
  have e12 : r12 = FP.ddiv r11 r7 := by
    rcases alike_or h12 with e | ⟨-, a2⟩
    · exact e
    · exact absurd ((nan_dec a2).symm.trans hv) FP.Core.Datum.noConfusion
  rw [e12, z0]
  exact FP.Core.zero_iff.mpr hd
/-! the value of a mean, as a whole number of least numbers -/
def dV (s c : Int32) : Int := FP.Core.zval FP.Core.b64 (FP.Core.val64 (kMean s c))
theorem i2d_f (a : Nat) (ha : a < 2 ^ 31) : ∃ c q, FP.Core.val64 (FP.i2d (nI a)) = .fin false c q ∧ c * 2 ^ q.toNat = a * 2 ^ (-q).toNat := by
  have hti : (nI a).toInt = (a : Int) := nI_toInt ha
  obtain ⟨s, c, q, h⟩ := FP.Core.i2d_fin (nI a)
  have hw : FP.Core.Whole (nI a).toInt (FP.Core.val64 (FP.i2d (nI a))) := FP.Core.i2d_int (nI a)
  have hs : FP.Core.sgn (FP.Core.val64 (FP.i2d (nI a))) = false := by
    rw [vi2d, hti]
    show FP.Core.sgn (FP.Core.round FP.Core.b64 (.fin (decide ((a : Int) < 0)) _ 0)) = false
    rw [show decide ((a : Int) < 0) = false from decide_eq_false (by omega)]
    exact FP.Core.sgn_roundRatio _ _ _ _ _
  rw [h] at hs hw
  have hs : s = false := hs
  subst hs
  refine ⟨c, q, h, ?_⟩
  have hw : ((c * 2 ^ q.toNat : Nat) : Int) = (nI a).toInt * ((2 ^ (-q).toNat : Nat) : Int) := hw
  rw [hti] at hw
  exact_mod_cast hw
theorem mean_val {a b : Nat} (ha : a < 2 ^ 31) (hb : b < 2 ^ 31) (hb0 : 0 < b) : ∃ c q d r, FP.Core.val64 (FP.i2d (nI a)) = .fin false c q ∧ FP.Core.b64.qmin ≤ q ∧ 0 < d ∧ 2 ^ (-r).toNat ≤ d ∧ FP.Core.val64 (kMean (nI a) (nI b)) = FP.Core.roundRatio FP.Core.b64 false c d (q - r) := by
  obtain ⟨c, q, h1, -⟩ := i2d_f a ha
  obtain ⟨d, r, h2, w2⟩ := i2d_f b hb
  have hne : ¬ nI b = 0 := fun e => by have := (nI_eq (a := b) (b := 0) hb (by decide)).mp e; omega
  have p1 : 0 < 2 ^ (-r).toNat := Nat.two_pow_pos _
  have hd : 0 < d := by
    rcases Nat.eq_zero_or_pos d with e | h
    · rw [e, Nat.zero_mul] at w2
      have := Nat.mul_pos hb0 p1
      omega
    · exact h
  have hf := FP.Core.val64_fits (FP.i2d (nI a))
  rw [h1] at hf
  refine ⟨c, q, d, r, h1, hf.2.1, hd, ?_, ?_⟩
  · by_cases hr : 0 ≤ r
    · rw [show (-r).toNat = 0 by omega]; exact hd
    · rw [show r.toNat = 0 by omega, Nat.pow_zero, Nat.mul_one] at w2
      rw [w2]
      exact Nat.le_mul_of_pos_left _ hb0
  · unfold kMean
    rw [if_neg hne, vdiv, h1, h2]
    show (if d = 0 then _ else FP.Core.roundRatio FP.Core.b64 (false != false) c d (q - r)) = _
    rw [if_neg (by omega)]
    rfl
theorem mean_ge {a b : Nat} (ha : a < 2 ^ 31) (hb : b < 2 ^ 31) : FP.dcmp (kMean (nI a) (nI b)) FP.dconst0 = some .gt ∨ FP.dcmp (kMean (nI a) (nI b)) FP.dconst0 = some .eq := by
  by_cases hb0 : b = 0
  · subst hb0; exact Or.inr d00
  · obtain ⟨c, q, d, r, -, -, hd, -, hv⟩ := mean_val ha hb (by omega)
    refine FP.Core.dcmp_ge.mpr ⟨fin_nn (kMean_fin _ _), by rw [vz0]; exact FP.Core.Datum.noConfusion, ?_⟩
    rw [vz0, hv]
    show (0 : Int) ≤ FP.Core.signed (FP.Core.sgn _) _
    rw [FP.Core.sgn_roundRatio]
    exact Int.natCast_nonneg _
theorem mean_le {a b : Nat} (ha : a < 2 ^ 31) (hb : b < 2 ^ 31) : FP.dcmp (kMean (nI a) (nI b)) (FP.i2d (nI a)) = some .lt ∨ FP.dcmp (kMean (nI a) (nI b)) (FP.i2d (nI a)) = some .eq := by
  have hn2 : FP.Core.val64 (FP.i2d (nI a)) ≠ .nan := fin_nn (FP.Core.i2d_fin _)
  refine FP.Core.dcmp_le.mpr ⟨fin_nn (kMean_fin _ _), hn2, ?_⟩
  by_cases hb0 : b = 0
  · subst hb0
    obtain ⟨c, q, h1, -⟩ := i2d_f a ha
    rw [h1, show kMean (nI a) (nI 0) = FP.dconst0 from rfl, vz0]
    exact Int.natCast_nonneg _
  · obtain ⟨c, q, d, r, h1, hq, hd, hp, hv⟩ := mean_val ha hb (by omega)
    have hV := FP.Core.val64_fits (FP.i2d (nI a))
    have hle : FP.Core.zmag FP.Core.b64 (FP.Core.roundRatio FP.Core.b64 false c d (q - r)) ≤ FP.Core.zmag FP.Core.b64 (FP.Core.val64 (FP.i2d (nI a))) := by
      refine FP.Core.zmag_roundRatio_le (e0 := FP.Core.b64.qmin - (r.toNat : Int)) FP.Core.good_b64 hd hV hn2 (by omega) (by omega) ?_
      rw [h1]
      show c * 2 ^ (q - r - (FP.Core.b64.qmin - (r.toNat : Int))).toNat ≤ c * 2 ^ (q - FP.Core.b64.qmin).toNat * 2 ^ (FP.Core.b64.qmin - (FP.Core.b64.qmin - (r.toNat : Int))).toNat * d
      generalize FP.Core.b64.qmin = t at hq
      have e1 : (q - r - (t - (r.toNat : Int))).toNat ≤ (q - t).toNat + (t - (t - (r.toNat : Int))).toNat + (-r).toNat := by omega
      have e2 : 2 ^ (q - r - (t - (r.toNat : Int))).toNat ≤ 2 ^ (q - t).toNat * 2 ^ (t - (t - (r.toNat : Int))).toNat * 2 ^ (-r).toNat := by
        rw [← Nat.pow_add, ← Nat.pow_add]; exact Nat.pow_le_pow_right (by decide) e1
      calc c * 2 ^ (q - r - (t - (r.toNat : Int))).toNat ≤ c * (2 ^ (q - t).toNat * 2 ^ (t - (t - (r.toNat : Int))).toNat * 2 ^ (-r).toNat) := Nat.mul_le_mul_left _ e2
        _ ≤ c * (2 ^ (q - t).toNat * 2 ^ (t - (t - (r.toNat : Int))).toNat * d) := Nat.mul_le_mul_left _ (Nat.mul_le_mul_left _ hp)
        _ = c * 2 ^ (q - t).toNat * 2 ^ (t - (t - (r.toNat : Int))).toNat * d := by rw [← Nat.mul_assoc, ← Nat.mul_assoc]
    rw [hv]
    unfold FP.Core.zval
    rw [FP.Core.sgn_roundRatio, h1]
    rw [h1] at hle
    exact Int.ofNat_le.mpr hle
theorem lift_mag (s c s0 c0 : Int32) : (FP.dsub (kMean s c) (kMean s0 c0)).toNat % 2 ^ 63 < 1059 * 2 ^ 52 := FP.Core.dsub_mag (kMean_mag s c) (kMean_mag s0 c0) (by decide)
theorem lift_same (s c s0 c0 : Int32) : FP.dcmp (FP.dsub (kMean s c) (kMean s0 c0)) (FP.dsub (kMean s c) (kMean s0 c0)) = some .eq := FP.Core.dcmp_self (fin_nn (FP.Core.fin_of_lt (lift_mag s c s0 c0) (by decide)))
/-! the best -/
theorem abv_v {sm ct : Int32 → Int32} {v f : Int32} : kAbv sm ct v f = true ↔ dV (sm f) (ct f) < dV (sm v) (ct v) := by
  unfold kAbv dV
  have h1 := fin_nn (kMean_fin (sm v) (ct v))
  have h2 := fin_nn (kMean_fin (sm f) (ct f))
  rw [show FP.dcmp (kMean (sm v) (ct v)) (kMean (sm f) (ct f)) = _ from FP.Core.dcmp_zval h1 h2, decide_eq_true_iff]
  generalize FP.Core.zval FP.Core.b64 (FP.Core.val64 (kMean (sm v) (ct v))) = x
  generalize FP.Core.zval FP.Core.b64 (FP.Core.val64 (kMean (sm f) (ct f))) = y
  rw [← FP.Core.compare_gt_iff]
  cases compare x y <;> decide
theorem kBest_top {sm ct : Int32 → Int32} : ∀ c k f, (f = -1 ∨ ∃ w, w < 4 ∧ f = nI w) → k + c ≤ 4 → (kBest sm ct c k f = -1 ∧ f = -1 ∧ ∀ w, k ≤ w → w < k + c → ¬ 0 < ct (nI w)) ∨ ∃ r, r < 4 ∧ kBest sm ct c k f = nI r ∧ (f = nI r ∨ (k ≤ r ∧ r < k + c ∧ 0 < ct (nI r))) ∧ (f = -1 ∨ dV (sm f) (ct f) ≤ dV (sm (nI r)) (ct (nI r))) ∧ ∀ w, k ≤ w → w < k + c → 0 < ct (nI w) → dV (sm (nI w)) (ct (nI w)) ≤ dV (sm (nI r)) (ct (nI r)) := by
  intro c
  induction c with
  | zero =>
    intro k f hf _
    rcases hf with e | ⟨w, h1, h2⟩
    · exact Or.inl ⟨e, e, fun w a b => absurd b (by omega)⟩
    · exact Or.inr ⟨w, h1, h2, Or.inl h2, Or.inr (by rw [← h2]; exact Int.le_refl _), fun w a b => absurd b (by omega)⟩
  | succ c ih =>
    intro k f hf hk
    rw [kBest_s]
    by_cases h0 : 0 < ct (nI k)
    · rw [if_pos h0]
      have key : ∀ g, g = nI k → (f = -1 ∨ dV (sm f) (ct f) ≤ dV (sm g) (ct g)) → (kBest sm ct c (k + 1) g = -1 ∧ f = -1 ∧ ∀ w, k ≤ w → w < k + (c + 1) → ¬ 0 < ct (nI w)) ∨ ∃ r, r < 4 ∧ kBest sm ct c (k + 1) g = nI r ∧ (f = nI r ∨ (k ≤ r ∧ r < k + (c + 1) ∧ 0 < ct (nI r))) ∧ (f = -1 ∨ dV (sm f) (ct f) ≤ dV (sm (nI r)) (ct (nI r))) ∧ ∀ w, k ≤ w → w < k + (c + 1) → 0 < ct (nI w) → dV (sm (nI w)) (ct (nI w)) ≤ dV (sm (nI r)) (ct (nI r)) := by
        intro g hg hfg
        subst hg
        rcases ih (k + 1) (nI k) (Or.inr ⟨k, by omega, rfl⟩) (by omega) with ⟨-, a2, -⟩ | ⟨r, b1, b2, b3, b4, b5⟩
        · exact absurd a2 (fun e => nI_m1 (a := k) (by omega) e)
        · have b4 : dV (sm (nI k)) (ct (nI k)) ≤ dV (sm (nI r)) (ct (nI r)) := b4.resolve_left (fun e => nI_m1 (a := k) (by omega) e)
          refine Or.inr ⟨r, b1, b2, Or.inr ?_, hfg.imp id (fun h => Int.le_trans h b4), fun w c1 c2 c3 => ?_⟩
          · rcases b3 with e | ⟨e1, e2, e3⟩
            · have e := (nI_eq (a := k) (b := r) (by omega) (by omega)).mp e
              subst e; exact ⟨Nat.le_refl _, by omega, h0⟩
            · exact ⟨by omega, by omega, e3⟩
          · by_cases e : w = k
            · subst e; exact b4
            · exact b5 w (by omega) (by omega) c3
      by_cases hf1 : f = -1
      · rw [if_pos hf1]; exact key _ rfl (Or.inl hf1)
      · rw [if_neg hf1]
        by_cases ha : kAbv sm ct (nI k) f = true
        · rw [if_pos ha]; exact key _ rfl (Or.inr (Int.le_of_lt (abv_v.mp ha)))
        · rw [if_neg ha]
          have hle : dV (sm (nI k)) (ct (nI k)) ≤ dV (sm f) (ct f) := Int.not_lt.mp (fun h => ha (abv_v.mpr h))
          rcases ih (k + 1) f hf (by omega) with ⟨-, a2, -⟩ | ⟨r, b1, b2, b3, b4, b5⟩
          · exact absurd a2 hf1
          · have b4 := b4.resolve_left hf1
            refine Or.inr ⟨r, b1, b2, b3.imp id (fun ⟨e1, e2, e3⟩ => ⟨by omega, by omega, e3⟩), Or.inr b4, fun w c1 c2 c3 => ?_⟩
            by_cases e : w = k
            · subst e; exact Int.le_trans hle b4
            · exact b5 w (by omega) (by omega) c3
    · rw [if_neg h0]
      rcases ih (k + 1) f hf (by omega) with ⟨a1, a2, a3⟩ | ⟨r, b1, b2, b3, b4, b5⟩
      · refine Or.inl ⟨a1, a2, fun w c1 c2 => ?_⟩
        by_cases e : w = k
        · subst e; exact h0
        · exact a3 w (by omega) (by omega)
      · refine Or.inr ⟨r, b1, b2, b3.imp id (fun ⟨e1, e2, e3⟩ => ⟨by omega, by omega, e3⟩), b4, fun w c1 c2 c3 => ?_⟩
        by_cases e : w = k
        · subst e; exact absurd c3 h0
        · exact b5 w (by omega) (by omega) c3
theorem best_cmp {s c s0 c0 : Int32} (h : dV s c ≤ dV s0 c0) : FP.dcmp (kMean s c) (kMean s0 c0) = some .lt ∨ FP.dcmp (kMean s c) (kMean s0 c0) = some .eq := FP.Core.dcmp_le.mpr ⟨fin_nn (kMean_fin s c), fin_nn (kMean_fin s0 c0), h⟩
