/-! the relation: a switch of the class and the reference's rows -/
def relK : List (Nat × Nat) := [(1, 4), (2, 5), (3, 10), (8, 17), (9, 11), (10, 7), (11, 8), (13, 12), (14, 13), (15, 14), (16, 15), (17, 16)]
def RN (S : Pool) (M : MSt) (a i : Nat) : Prop := ∀ q ∈ relK, gI S a q.1 = M.2 q.2 i
def RW (S : Pool) (M : MSt) (a i : Nat) : Prop := ∀ v, v < 4 → gR S (wtA S a) v = M.2 6 (4 * i + v) ∧ ∃ w, w ≤ 1000 ∧ M.2 6 (4 * i + v) = nI w
def RU (S : Pool) (M : MSt) (a i : Nat) : Prop := ∃ rc, rc ≤ 5 ∧ M.2 17 i = nI rc ∧ (∀ k, k < rc → ∃ u, gP S (rlA S a) k = some u ∧ gI S u 0 = M.2 18 (5 * i + k) ∧ gI S u 1 = M.2 19 (5 * i + k) ∧ gI S u 2 = M.2 20 (5 * i + k) ∧ gI S u 3 = M.2 21 (5 * i + k)) ∧ ∀ k, rc ≤ k → k < 5 → gP S (rlA S a) k = none
def RA (S : Pool) (M : MSt) (na a i : Nat) : Prop := ∀ u, (cArmA S a u = none ∧ rArm M.2 (nI i) u na 0 = -1) ∨ ∃ m k, k < na ∧ cArmA S a u = some m ∧ rArm M.2 (nI i) u na 0 = nI k ∧ gI S m 1 = M.2 25 k
/-- the rows of weights and of rules of two switches are two -/
def DIS (S : Pool) (ar : Nat) : Prop := ∀ i j a b, i < 8 → j < 8 → gP S ar i = some a → gP S ar j = some b → i ≠ j → wtA S a ≠ wtA S b ∧ rlA S a ≠ rlA S b
/-- fl: with the arms -/
def REL (fl : Prop) (n na : Nat) (S : Pool) (M : MSt) (ar : Nat) : Prop := (∀ i, i < n → ∀ a, gP S ar i = some a → RN S M a i ∧ RW S M a i ∧ RU S M a i ∧ (fl → RA S M na a i) ∧ (gI S a 12 = M.2 9 i ∨ gI S a 11 = 0)) ∧ DIS S ar ∧ (∀ i, n ≤ i → M.2 8 i = 0 ∧ M.2 13 i = 0 ∧ M.2 14 i = 0 ∧ M.2 16 i = 0) ∧ (fl → ∀ k, k < na → ∃ j, j < n ∧ M.2 23 k = nI j)
/-- the same rows but for what was acted, the same numbers but for what was thrown and the reason -/
def eqM (M N : MSt) : Prop := (∀ k, k ≠ 26 → k ≠ 27 → N.2 k = M.2 k) ∧ ∀ k, k ≠ 0 → k ≠ 28 → N.1 k = M.1 k
theorem eqM.rf {M : MSt} : eqM M M := ⟨fun _ _ _ => rfl, fun _ _ _ => rfl⟩
theorem eqM.tr {M N K : MSt} (h : eqM M N) (g : eqM N K) : eqM M K := ⟨fun k h1 h2 => (g.1 k h1 h2).trans (h.1 k h1 h2), fun k h1 h2 => (g.2 k h1 h2).trans (h.2 k h1 h2)⟩
theorem eqM.s0 {M N : MSt} {v : Int32} (h : eqM M N) : eqM M (mS N 0 v) := ⟨h.1, fun k h1 h2 => (show va_up N.1 0 v k = _ by simp [va_up, h1]; exact h.2 k h1 h2)⟩
theorem eqM.s28 {M N : MSt} {v : Int32} (h : eqM M N) : eqM M (mS N 28 v) := ⟨h.1, fun k h1 h2 => (show va_up N.1 28 v k = _ by simp [va_up, h2]; exact h.2 k h1 h2)⟩
theorem eqM.r26 {M N : MSt} {i : Nat} {v : Int32} (h : eqM M N) : eqM M (mR N 26 i v) := ⟨fun k h1 h2 => (show va_up N.2 26 _ k = _ by simp [va_up, h1]; exact h.1 k h1 h2), h.2⟩
theorem eqM.r27 {M N : MSt} {i : Nat} {v : Int32} (h : eqM M N) : eqM M (mR N 27 i v) := ⟨fun k h1 h2 => (show va_up N.2 27 _ k = _ by simp [va_up, h2]; exact h.1 k h1 h2), h.2⟩
theorem cArm_ext {S S' : Pool} {u : Int32} (hI : ∀ a, isO S a 0 → gI S' a 0 = gI S a 0) (hQ : ∀ a, isO S a 0 → gQ S' a 2 = gQ S a 2) : ∀ n r, chn S n r → ∀ m, cArm S' u m r = cArm S u m r := by
  intro n
  induction n with
  | zero =>
    intro r h m
    have h : r = none := h
    rw [h, cArm_none, cArm_none]
  | succ n ih =>
    intro r h m
    obtain ⟨a, rfl, h1, h2⟩ := h
    cases m with
    | zero => rfl
    | succ m =>
      unfold cArm
      rw [hI a h1, hQ a h1, ih _ h2 m]
theorem cArmA_ext {S S' : Pool} {a n : Nat} {u : Int32} (hc : chn S n (gQ S a 7)) (h7 : gQ S' a 7 = gQ S a 7) (hI : ∀ a, isO S a 0 → gI S' a 0 = gI S a 0) (hQ : ∀ a, isO S a 0 → gQ S' a 2 = gQ S a 2) : cArmA S' a u = cArmA S a u := by
  unfold cArmA
  rw [h7]
  exact cArm_ext hI hQ n _ hc 100
theorem rArm_ext {T U : Rows} {one u : Int32} (h23 : U 23 = T 23) (h24 : U 24 = T 24) : ∀ c k, rArm U one u c k = rArm T one u c k := by
  intro c
  induction c with
  | zero => intro k; rfl
  | succ c ih =>
    intro k
    unfold rArm
    rw [h23, h24, ih]
theorem RU.ext {S S' : Pool} {M M' : MSt} {a i : Nat} (h : RU S M a i) (hP : ∀ k, k < 5 → gP S' (rlA S' a) k = gP S (rlA S a) k) (hI : ∀ k u, k < 5 → gP S (rlA S a) k = some u → ∀ j, j < 4 → gI S' u j = gI S u j) (e17 : M'.2 17 = M.2 17) (e18 : M'.2 18 = M.2 18) (e19 : M'.2 19 = M.2 19) (e20 : M'.2 20 = M.2 20) (e21 : M'.2 21 = M.2 21) : RU S' M' a i := by
  obtain ⟨rc, h1, h2, h3, h4⟩ := h
  refine ⟨rc, h1, by rw [e17]; exact h2, fun k hk => ?_, fun k h5 h6 => (hP k h6).trans (h4 k h5 h6)⟩
  obtain ⟨u, u0, u1, u2, u3, u4⟩ := h3 k hk
  have hj := hI k u (by omega) u0
  exact ⟨u, (hP k (by omega)).trans u0, by rw [hj 0 (by decide), e18]; exact u1, by rw [hj 1 (by decide), e19]; exact u2, by rw [hj 2 (by decide), e20]; exact u3, by rw [hj 3 (by decide), e21]; exact u4⟩
theorem RA.ext {S S' : Pool} {M M' : MSt} {na a i : Nat} (h : RA S M na a i) (hc : ∀ u, cArmA S' a u = cArmA S a u) (hI : ∀ u m, cArmA S a u = some m → gI S' m 1 = gI S m 1) (e23 : M'.2 23 = M.2 23) (e24 : M'.2 24 = M.2 24) (e25 : M'.2 25 = M.2 25) : RA S' M' na a i := by
  intro u
  rw [hc u, rArm_ext e23 e24]
  rcases h u with h1 | ⟨m, k, h1, h2, h3, h4⟩
  · exact Or.inl h1
  · exact Or.inr ⟨m, k, h1, h2, h3, by rw [hI u m h2, e25]; exact h4⟩
theorem okSw.chA {S : Pool} {a : Nat} (h : okSw S a) : ∃ n, n ≤ 100 ∧ chn S n (gQ S a 7) := h.2.2.2.1
theorem okSw.armO {S : Pool} {a m : Nat} {u : Int32} (h : okSw S a) (e : cArmA S a u = some m) : isO S m 0 := by
  obtain ⟨n, hn, hc⟩ := h.chA
  exact (cArm_isO n _ _ hc ((cArm_fuel n 100 _ hc hn).trans e)).1
theorem okSw.rulO {S : Pool} {a k u : Nat} (h : okSw S a) (hk : k < 5) (e : gP S (rlA S a) k = some u) : isO S u 2 := by
  obtain ⟨-, -, ⟨rl, r1, r2, r3⟩, -⟩ := h
  rw [show rlA S a = rl by simp [rlA, r1]] at e
  exact r3 k hk u e
/-- a question stays without a trace -/
theorem REL.q {fl : Prop} {n na na2 : Nat} {hh cc : Int32} {S T : Pool} {M N : MSt} {x ar ak : Nat} (h : REL fl n na S M ar) (hC : INVC n na2 hh cc S x ar ak) (hI : ∀ b k, (gK S b = 3 ∨ gK S b = 2 ∨ gK S b = 0 ∧ k < 3) → gI T b k = gI S b k) (hQ : gQ T = gQ S) (hR : ∀ b, gK S b = 6 → gR T b = gR S b) (hP : gP T = gP S) (hM : eqM M N) : REL fl n na T N ar := by
  obtain ⟨h1, h2, h3, h4⟩ := h
  have n8 := hC.n8
  have rr : ∀ k, k ≠ 26 → k ≠ 27 → N.2 k = M.2 k := hM.1
  refine ⟨fun i hi a ha => ?_, fun i j a b hi hj ha hb hij => ?_, fun i hi => by rw [rr 8 (by decide) (by decide), rr 13 (by decide) (by decide), rr 14 (by decide) (by decide), rr 16 (by decide) (by decide)]; exact h3 i hi, fun hf z hz => by rw [rr 23 (by decide) (by decide)]; exact h4 hf z hz⟩
  · rw [hP] at ha
    obtain ⟨r1, r2, r3, r4, r5⟩ := h1 i hi a ha
    have hs := hC.sw (by omega) ha
    have ew : wtA T a = wtA S a := by unfold wtA; rw [hQ]
    have er : rlA T a = rlA S a := by unfold rlA; rw [hQ]
    refine ⟨fun q hq => ?_, fun v hv => ?_, ?_, ?_, by rw [hI a 12 (Or.inl hs.1.2), hI a 11 (Or.inl hs.1.2), rr 9 (by decide) (by decide)]; exact r5⟩
    · rw [hI a q.1 (Or.inl hs.1.2)]
      have h26 : ∀ q ∈ relK, q.2 ≠ 26 ∧ q.2 ≠ 27 := by decide
      rw [rr _ (h26 q hq).1 (h26 q hq).2]
      exact r1 q hq
    · have hk6 : gK S (wtA S a) = 6 := by
        obtain ⟨-, ⟨wt, w1, w2⟩, -⟩ := hs
        rw [show wtA S a = wt by simp [wtA, w1]]; exact w2.2.1
      rw [ew, hR _ hk6, rr 6 (by decide) (by decide)]
      exact r2 v hv
    · exact r3.ext (fun k _ => by rw [er, hP]) (fun k u hk hu j _ => hI u j (Or.inr (Or.inl (hs.rulO hk hu).2))) (rr 17 (by decide) (by decide)) (rr 18 (by decide) (by decide)) (rr 19 (by decide) (by decide)) (rr 20 (by decide) (by decide)) (rr 21 (by decide) (by decide))
    · obtain ⟨c, hc1, hc2⟩ := hs.chA
      exact fun hf => (r4 hf).ext (fun u => cArmA_ext hc2 (by rw [hQ]) (fun b hb => hI b 0 (Or.inr (Or.inr ⟨hb.2, by decide⟩))) (fun b hb => by rw [hQ])) (fun u m hm => hI m 1 (Or.inr (Or.inr ⟨(hs.armO hm).2, by decide⟩))) (rr 23 (by decide) (by decide)) (rr 24 (by decide) (by decide)) (rr 25 (by decide) (by decide))
  · rw [hP] at ha hb
    have e := h2 i j a b hi hj ha hb hij
    unfold wtA rlA at e ⊢
    rw [hQ]
    exact e
