/-! the relation: questions; numbers -/
def QC (S T : Pool) : Prop := (∀ b k, (gK S b = 3 ∨ gK S b = 2 ∨ gK S b = 0 ∧ k < 3) → gI T b k = gI S b k) ∧ gQ T = gQ S ∧ (∀ b, gK S b = 6 → gR T b = gR S b) ∧ gP T = gP S
theorem QC.rf {S : Pool} : QC S S := ⟨fun _ _ _ => rfl, rfl, fun _ _ => rfl, rfl⟩
theorem eqA.qc {S T : Pool} {ak : Nat} (h : eqA S T ak) (hak : isO S ak 1) : QC S T := by
  refine ⟨fun b k hb => ?_, h.2.2.2.2.1, fun b _ => by rw [h.2.2.2.2.2.1], h.2.2.2.2.2.2.2⟩
  rw [h.2.2.2.1 b (fun e => by rw [e, hak.2] at hb; omega)]
theorem eqT.qc {S T : Pool} (h : eqT S T) : QC S T := by
  refine ⟨fun b k hb => ?_, h.2.2.2.1, fun b hb => h.2.2.2.2.2.2.2 b (by omega), h.2.2.2.2.1⟩
  by_cases h0 : gK S b = 0
  · exact h.2.2.2.2.2.2.1 b k (by omega)
  · rw [h.2.2.2.2.2.1 b h0]
theorem QC.num {S : Pool} {x k : Nat} {v : Int32} (hx : isO S x 5) : QC S (pI S x k v) := by
  refine ⟨fun b j hb => u2_a (fun e => by rw [e, hx.2] at hb; omega), rfl, fun _ _ => rfl, rfl⟩
theorem REL.qc {fl : Prop} {n na na2 : Nat} {hh cc : Int32} {S T : Pool} {M N : MSt} {x ar ak : Nat} (h : REL fl n na S M ar) (hC : INVC n na2 hh cc S x ar ak) (hQ : QC S T) (hM : eqM M N) : REL fl n na T N ar := h.q hC hQ.1 hQ.2.1 hQ.2.2.1 hQ.2.2.2 hM
theorem REL.rows {fl : Prop} {n na : Nat} {S : Pool} {M N : MSt} {ar : Nat} (h : REL fl n na S M ar) (e : N.2 = M.2) : REL fl n na S N ar := by
  unfold REL RN RW RU RA at *
  rw [e]
  exact h
/-- a number of a switch on both sides -/
theorem REL.rn {fl : Prop} {n na i a : Nat} {S : Pool} {M : MSt} {ar : Nat} (h : REL fl n na S M ar) (hi : i < n) (ha : gP S ar i = some a) {q : Nat × Nat} (hq : q ∈ relK) : gI S a q.1 = M.2 q.2 i := (h.1 i hi a ha).1 q hq
theorem REL.wt {fl : Prop} {n na i a v : Nat} {S : Pool} {M : MSt} {ar : Nat} (h : REL fl n na S M ar) (hi : i < n) (ha : gP S ar i = some a) (hv : v < 4) : ∃ w, w ≤ 1000 ∧ cWt S (wtA S a) (nI v) = nI w ∧ M.2 6 (4 * i + v) = nI w := by
  obtain ⟨h1, w, h2, h3⟩ := (h.1 i hi a ha).2.1 v hv
  refine ⟨w, h2, ?_, h3⟩
  unfold cWt
  rw [if_neg (fun q => by have := (nI_ltI (a := v) (b := 0) (by omega) (by omega)).mp q; omega), if_pos (show nI v < 4 from (nI_ltI (a := v) (b := 4) (by omega) (by omega)).mpr hv), ki_cl (by omega)]
  exact h1.trans h3
/-- the ramps of both sides -/
theorem far_eq {S : Pool} {M : MSt} {a i : Nat} {clk : Int32} (h10 : gI S a 10 = M.2 7 i) (h11 : gI S a 11 = M.2 8 i) (h12 : gI S a 12 = M.2 9 i ∨ gI S a 11 = 0) : cFar S a clk = rFar M.2 i clk := by
  have e : cFarL S a clk = (M.2 7 i).toInt64 + (M.2 8 i).toInt64 * (clk - M.2 9 i).toInt64 := by
    unfold cFarL
    rcases h12 with h | h
    · rw [h10, h11, h]
    · rw [h10, h]
      rw [h] at h11
      rw [← h11]
      show _ + (0 : Int32).toInt64 * _ = _ + (0 : Int32).toInt64 * _
      rw [show (0 : Int32).toInt64 = 0 from rfl, Int64.zero_mul, Int64.zero_mul]
  unfold cFar rFar
  rw [e]
  generalize (M.2 7 i).toInt64 + (M.2 8 i).toInt64 * (clk - M.2 9 i).toInt64 = f
  unfold kMin
  by_cases h : (1000 : Int64) < f
  · rw [if_pos ((lg_cmp_gt f 1000).mpr h), if_neg (fun q => Int64.lt_irrefl (Int64.lt_trans h q))]
    rfl
  · rw [if_neg (fun q => h ((lg_cmp_gt f 1000).mp q))]
    by_cases h2 : f < 1000
    · rw [if_pos h2]
    · have e2 : f = 1000 := Int64.le_antisymm (Int64.not_lt.mp h) (Int64.not_lt.mp h2)
      rw [if_neg h2, e2]
/-- a weight moved: what is left, on both sides -/
theorem left_eq {a b : Nat} {p : Int32} (ha : a ≤ 1000) (hb : b ≤ 1000) (h : kIn p 0 1000 = 1) : ∃ w, w ≤ 1000 ∧ p = nI w ∧ ((nI a + nI b - p < 0) ↔ (nI a + nI b < p)) ∧ (¬ (nI a + nI b < p) → a + b - w ≤ 2000 ∧ w ≤ a + b ∧ nI a + nI b - p = nI (a + b - w) ∧ nI a + (nI b - p) = nI (a + b - w)) := by
  obtain ⟨w, -, hw, rfl⟩ := kIn_nat 0 1000 (by omega) (by omega) h
  refine ⟨w, hw, rfl, ?_, fun hn => ?_⟩
  · rw [nI_add]
    constructor
    · intro h1
      apply Classical.byContradiction
      intro h2
      have h3 : w ≤ a + b := by
        apply Classical.byContradiction
        intro h4
        exact h2 ((nI_ltI (a := a + b) (b := w) (by omega) (by omega)).mpr (by omega))
      rw [show nI (a + b) - nI w = nI (a + b - w) from pk_sub h3] at h1
      have := (nI_ltI (a := a + b - w) (b := 0) (by omega) (by omega)).mp h1
      omega
    · intro h1
      have h2 := (nI_ltI (a := a + b) (b := w) (by omega) (by omega)).mp h1
      rw [Int32.lt_iff_toInt_lt, Int32.toInt_sub, nI_toInt (by omega), nI_toInt (by omega)]
      rw [Int.bmod_eq_of_le (by omega) (by omega)]
      show ((a + b : Nat) : Int) - (w : Int) < (0 : Int32).toInt
      rw [show (0 : Int32).toInt = 0 from rfl]
      omega
  · rw [nI_add] at hn
    have h3 : w ≤ a + b := by
      apply Classical.byContradiction
      intro h4
      exact hn ((nI_ltI (a := a + b) (b := w) (by omega) (by omega)).mpr (by omega))
    refine ⟨by omega, h3, ?_, ?_⟩
    · rw [nI_add]; exact pk_sub h3
    · rw [Int32.sub_eq_add_neg, ← Int32.add_assoc, ← Int32.sub_eq_add_neg, nI_add]
      exact pk_sub h3
/-! places: both sides -/
theorem kIn_m1 {p : Int32} (h : kOut p 0 2 = 0) : kIn p (-1) 2 = 1 ∧ ¬ p = -1 := by
  obtain ⟨k, -, hk, rfl⟩ := kIn_nat 0 2 (by omega) (by omega) (kIn_out.mpr h)
  refine ⟨?_, nI_m1 (by omega)⟩
  rcases (show k = 0 ∨ k = 1 ∨ k = 2 by omega) with rfl | rfl | rfl <;> decide
theorem kIn_m0 {p : Int32} (hn : ¬ p = -1) (h : kIn p (-1) 2 = 1) : kOut p 0 2 = 0 := by
  rcases kOut_01 p 0 2 with h1 | h1
  · exact h1
  · exfalso
    unfold kIn at h
    unfold kOut at h1
    by_cases h0 : p < 0
    · have e1 : p.toInt < 0 := Int32.lt_iff_toInt_lt.mp h0
      by_cases h2 : p < -1
      · rw [if_pos h2] at h; exact absurd h (by decide)
      · have e2 : (-1 : Int32).toInt ≤ p.toInt := Int32.le_iff_toInt_le.mp (Int32.not_lt.mp h2)
        have e3 : (-1 : Int32).toInt = -1 := rfl
        exact hn (Int32.toInt_inj.mp (by rw [e3]; omega))
    · rw [if_neg h0] at h1
      by_cases h3 : p ≤ 2
      · rw [if_pos h3] at h1; exact absurd h1 (by decide)
      · have h4 : (2 : Int32) < p := Int32.not_le.mp h3
        by_cases h2 : p < -1
        · rw [if_pos h2] at h; exact absurd h (by decide)
        · rw [if_neg h2, if_pos h4] at h; exact absurd h (by decide)
theorem rng_ok {p f t : Int32} (h : kRng p f t = 1) : ¬ p = -1 ∧ kIn p (-1) 2 = 1 ∧ ¬ f < 0 ∧ ¬ t < f ∧ ¬ 1000 < t := by
  unfold kRng at h
  by_cases h0 : kOut p 0 2 = 0
  · rw [if_pos h0] at h
    by_cases h1 : f < 0
    · rw [if_pos h1] at h; exact absurd h (by decide)
    · rw [if_neg h1] at h
      by_cases h2 : t < f
      · rw [if_pos h2] at h; exact absurd h (by decide)
      · rw [if_neg h2] at h
        by_cases h3 : 1000 < t
        · rw [if_pos h3] at h; exact absurd h (by decide)
        · exact ⟨(kIn_m1 h0).2, (kIn_m1 h0).1, h1, h2, h3⟩
  · rw [if_neg h0] at h; exact absurd h (by decide)
theorem rng_bad {p f t : Int32} (hn : ¬ p = -1) (h : kRng p f t = 0) : ¬ (kIn p (-1) 2 = 1 ∧ (p = -1 ∨ (¬ f < 0 ∧ ¬ t < f ∧ ¬ 1000 < t))) := by
  rintro ⟨h1, h2 | ⟨h2, h3, h4⟩⟩
  · exact hn h2
  · unfold kRng at h
    rw [if_pos (kIn_m0 hn h1), if_neg h2, if_neg h3, if_neg h4] at h
    exact absurd h (by decide)
theorem kMaxI_comm (x y : Int32) : kMaxI x y = kMaxI y x := by
  unfold kMaxI
  by_cases h : x < y
  · rw [if_pos h, if_neg (fun q => Int32.lt_irrefl (Int32.lt_trans h q))]
  · by_cases h2 : y < x
    · rw [if_neg h, if_pos h2]
    · rw [if_neg h, if_neg h2]; exact Int32.le_antisymm (Int32.not_lt.mp h2) (Int32.not_lt.mp h)
theorem kMinI_comm (x y : Int32) : kMinI x y = kMinI y x := by
  unfold kMinI
  by_cases h : y < x
  · rw [if_pos h, if_neg (fun q => Int32.lt_irrefl (Int32.lt_trans h q))]
  · by_cases h2 : x < y
    · rw [if_neg h, if_pos h2]
    · rw [if_neg h, if_neg h2]; exact Int32.le_antisymm (Int32.not_lt.mp h) (Int32.not_lt.mp h2)
theorem tak_eq {fl : Prop} {n na na2 i : Nat} {hh cc la f t : Int32} {S : Pool} {M : MSt} {x ar ak : Nat} (h : REL fl n na S M ar) (hC : INVC n na2 hh cc S x ar ak) (hi : i < n) : cTak S ar (nI i) la f t 8 0 = rTak M.2 i la f t n 0 := by
  have h8 := hC.n8
  have key : ∀ c k, k + c = n → cTak S ar (nI i) la f t (c + (8 - n)) k = rTak M.2 i la f t c k := by
    intro c
    induction c with
    | zero =>
      intro k hk
      rw [Nat.zero_add]
      have z : ∀ d k, n ≤ k → k + d ≤ 8 → cTak S ar (nI i) la f t d k = 0 := by
        intro d
        induction d with
        | zero => intro k _ _; rfl
        | succ d ih =>
          intro k h1 h2
          unfold cTak
          rw [hC.non k h1 (by omega)]
          exact ih (k + 1) (by omega) (by omega)
      exact z (8 - n) k (by omega) (by omega)
    | succ c ih =>
      intro k hk
      obtain ⟨a, ha⟩ := hC.row k (by omega)
      have e0 : gI S a 0 = nI k := (hC.R.2 k (by omega) a ha).2
      have e13 := h.rn (by omega) ha (q := (13, 12)) (by decide)
      have e14 := h.rn (by omega) ha (q := (14, 13)) (by decide)
      have e15 := h.rn (by omega) ha (q := (15, 14)) (by decide)
      simp only at e13 e14 e15
      rw [show c + 1 + (8 - n) = (c + (8 - n)) + 1 by omega]
      unfold cTak rTak
      rw [ha]
      simp only
      rw [e0, e13, ih (k + 1) (by omega)]
      have ec : cShr S a f t = if kMaxI f (M.2 13 k) < kMinI t (M.2 14 k) then 1 else 0 := by
        unfold cShr
        rw [e14, e15, kMaxI_comm, kMinI_comm]
      by_cases hki : k = i
      · subst hki; rw [if_pos rfl, if_pos rfl]
      · rw [if_neg (fun e => hki ((nI_eq (a := k) (b := i) (by omega) (by omega)).mp e)), if_neg hki]
        by_cases hl : M.2 12 k = la
        · rw [if_pos hl, if_pos hl, ec]
          by_cases hm : kMaxI f (M.2 13 k) < kMinI t (M.2 14 k)
          · rw [if_pos hm, if_neg (by decide), if_pos hm]
          · rw [if_neg hm, if_pos rfl, if_neg hm]
        · rw [if_neg hl, if_neg hl]
  have := key n 0 (by omega)
  rw [show n + (8 - n) = 8 by omega] at this
  exact this
theorem sum_le {fl : Prop} {n na nm j a v w0 w1 : Nat} {S : Pool} {M : MSt} {ar : Nat} (h : REL fl n na S M ar) (hI : INVR n nm M) (hj : j < n) (ha : gP S ar j = some a) (hv0 : v ≠ 0) (hv4 : v < 4) (m0 : M.2 6 (4 * j) = nI w0) (m1 : M.2 6 (4 * j + v) = nI w1) (h0 : w0 ≤ 1000) (h1 : w1 ≤ 1000) : w0 + w1 ≤ 1000 := by
  obtain ⟨-, x1, y1, z1⟩ := (h.1 j hj a ha).2.1 1 (by omega)
  obtain ⟨-, x2, y2, z2⟩ := (h.1 j hj a ha).2.1 2 (by omega)
  obtain ⟨-, x3, y3, z3⟩ := (h.1 j hj a ha).2.1 3 (by omega)
  have hac := hI.acc hj
  rw [rAcc_4, m0, z1, z2, z3, nI_add, nI_add, nI_add] at hac
  have hs : w0 + x1 + x2 + x3 = 1000 := (nI_eq (a := w0 + x1 + x2 + x3) (b := 1000) (by omega) (by omega)).mp hac
  rcases (show v = 1 ∨ v = 2 ∨ v = 3 by omega) with rfl | rfl | rfl
  · have := (nI_eq (a := w1) (b := x1) (by omega) (by omega)).mp (m1.symm.trans z1); omega
  · have := (nI_eq (a := w1) (b := x2) (by omega) (by omega)).mp (m1.symm.trans z2); omega
  · have := (nI_eq (a := w1) (b := x3) (by omega) (by omega)).mp (m1.symm.trans z3); omega
theorem rul_ok {p1 p2 p3 : Int32} (h : kRul p1 p2 p3 = 1) : kIn p1 0 1 = 1 ∧ kIn p2 1 3 = 1 ∧ kIn p3 0 9 = 1 := by
  unfold kRul at h
  by_cases h1 : kOut p1 0 1 = 0
  · by_cases h2 : kOut p2 1 3 = 0
    · by_cases h3 : kOut p3 0 9 = 0
      · exact ⟨kIn_out.mpr h1, kIn_out.mpr h2, kIn_out.mpr h3⟩
      · rw [if_pos h1, if_pos h2, if_neg h3] at h; exact absurd h (by decide)
    · rw [if_pos h1, if_neg h2] at h; exact absurd h (by decide)
  · rw [if_neg h1] at h; exact absurd h (by decide)
theorem rul_bad {p1 p2 p3 : Int32} (h : kRul p1 p2 p3 = 0) : qRul p1 p2 p3 = 0 := by
  unfold qRul
  rcases kIn_01 p1 0 1 with h1 | h1
  · rw [if_pos h1]
  · rw [if_neg (by rw [h1]; decide)]
    rcases kIn_01 p2 1 3 with h2 | h2
    · rw [if_pos h2]
    · rw [if_neg (by rw [h2]; decide)]
      rcases kIn_01 p3 0 9 with h3 | h3
      · rw [if_pos h3]
      · exfalso
        unfold kRul at h
        rw [if_pos (kIn_out.mp h1), if_pos (kIn_out.mp h2), if_pos (kIn_out.mp h3)] at h
        exact absurd h (by decide)
theorem okSw.t9 {S : Pool} {a ty t9 : Nat} (h : okSw S a) (e : gQ S a 6 = some ty) (e0 : gQ S ty 0 = some t9) : gK S t9 = 10 := by
  obtain ⟨-, -, -, -, ⟨t, t1, t2, ⟨z, z1, z2⟩, -⟩, -⟩ := h
  cases t1.symm.trans e
  cases z1.symm.trans e0
  exact z2.2.1
