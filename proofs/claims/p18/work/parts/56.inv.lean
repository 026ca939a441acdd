/-! what stays of the reference's state, whatever is called -/
/-- n switches, na arms -/
def INVR (n na : Nat) (M : MSt) : Prop := (∃ ru, okG M n na ru) ∧ (∀ i, i < n → (∃ vc, vc ≤ 4 ∧ M.2 5 i = nI vc) ∧ (M.2 11 i = 0 ∨ M.2 11 i = 1)) ∧ ∀ i, n ≤ i → M.2 17 i = 0 ∧ M.2 11 i = 0 ∧ M.2 6 (4 * i) = 0 ∧ M.2 6 (4 * i + 1) = 0 ∧ M.2 6 (4 * i + 2) = 0 ∧ M.2 6 (4 * i + 3) = 0
theorem INVR.n8 {n na : Nat} {M : MSt} (h : INVR n na M) : n ≤ 8 := by obtain ⟨⟨ru, hk⟩, -⟩ := h; exact hk.2.2.1
theorem INVR.h3 {n na : Nat} {M : MSt} (h : INVR n na M) : M.1 3 = nI n := by obtain ⟨⟨ru, hk⟩, -⟩ := h; exact hk.2.2.2.1
theorem INVR.na {n na : Nat} {M : MSt} (h : INVR n na M) : na ≤ 100 := by obtain ⟨⟨ru, hk⟩, -⟩ := h; exact hk.1
theorem INVR.h22 {n na : Nat} {M : MSt} (h : INVR n na M) : M.1 22 = nI na := by obtain ⟨⟨ru, hk⟩, -⟩ := h; exact hk.2.1
theorem rAcc_same {T U : Rows} {i : Nat} (h : U 6 = T 6) : ∀ v, rAcc U i v = rAcc T i v := by
  intro v
  induction v with
  | zero => unfold rAcc; rw [h]
  | succ v ih => unfold rAcc; rw [h, ih]
theorem INVR.same {n na : Nat} {M M' : MSt} (h : INVR n na M) (h3 : M'.1 3 = M.1 3) (h22 : M'.1 22 = M.1 22) (e4 : M'.2 4 = M.2 4) (e5 : M'.2 5 = M.2 5) (e6 : M'.2 6 = M.2 6) (e11 : M'.2 11 = M.2 11) (e15 : M'.2 15 = M.2 15) (e17 : M'.2 17 = M.2 17) : INVR n na M' := by
  obtain ⟨⟨ru, k1, k2, k3, k4, k5⟩, h2, hz⟩ := h
  refine ⟨⟨ru, k1, h22.trans k2, k3, h3.trans k4, fun i hi => ?_⟩, fun i hi => ?_, fun i hi => ?_⟩
  · rw [e17, e15, e4, rAcc_same e6]; exact k5 i hi
  · rw [e5, e11]; exact h2 i hi
  · rw [e17, e11, e6]; exact hz i hi
theorem INVR.iS {n na k : Nat} {v : Int32} {M : MSt} (h : INVR n na M) (h3 : 3 ≠ k) (h22 : 22 ≠ k) : INVR n na (mS M k v) := h.same (show va_up M.1 k v 3 = _ by simp [va_up, h3]) (show va_up M.1 k v 22 = _ by simp [va_up, h22]) rfl rfl rfl rfl rfl rfl
theorem INVR.iR {n na k i : Nat} {v : Int32} {M : MSt} (h : INVR n na M) (hk : 4 ≠ k ∧ 5 ≠ k ∧ 6 ≠ k ∧ 11 ≠ k ∧ 15 ≠ k ∧ 17 ≠ k) : INVR n na (mR M k i v) := by
  obtain ⟨a1, a2, a3, a4, a5, a6⟩ := hk
  exact h.same rfl rfl (show va_up M.2 k _ 4 = _ by simp [va_up, a1]) (show va_up M.2 k _ 5 = _ by simp [va_up, a2]) (show va_up M.2 k _ 6 = _ by simp [va_up, a3]) (show va_up M.2 k _ 11 = _ by simp [va_up, a4]) (show va_up M.2 k _ 15 = _ by simp [va_up, a5]) (show va_up M.2 k _ 17 = _ by simp [va_up, a6])
theorem INVR.iU {n na k : Nat} {f : Nat → Int32} {M : MSt} (h : INVR n na M) (hk : 4 ≠ k ∧ 5 ≠ k ∧ 6 ≠ k ∧ 11 ≠ k ∧ 15 ≠ k ∧ 17 ≠ k) : INVR n na (M.1, va_up M.2 k f) := by
  obtain ⟨a1, a2, a3, a4, a5, a6⟩ := hk
  exact h.same rfl rfl (show va_up M.2 k _ 4 = _ by simp [va_up, a1]) (show va_up M.2 k _ 5 = _ by simp [va_up, a2]) (show va_up M.2 k _ 6 = _ by simp [va_up, a3]) (show va_up M.2 k _ 11 = _ by simp [va_up, a4]) (show va_up M.2 k _ 15 = _ by simp [va_up, a5]) (show va_up M.2 k _ 17 = _ by simp [va_up, a6])
theorem up_o {T : Rows} {k j : Nat} {f : Nat → Int32} (h : j ≠ k) : va_up T k f j = T j := by simp [va_up, h]
theorem up_i {T : Rows} {k : Nat} {f : Nat → Int32} : va_up T k f k = f := by simp [va_up]
theorem INVR.on {n na i : Nat} {v : Int32} {M : MSt} (h : INVR n na M) (hi : i < n) (hv : v = 0 ∨ v = 1) : INVR n na (mR M 11 i v) := by
  obtain ⟨⟨ru, k1, k2, k3, k4, k5⟩, h2, hz⟩ := h
  have e : ∀ j, j ≠ 11 → (mR M 11 i v).2 j = M.2 j := fun j hj => up_o hj
  have ei : (mR M 11 i v).2 11 = upd (M.2 11) i v := rfl
  refine ⟨⟨ru, k1, k2, k3, k4, fun j hj => ?_⟩, fun j hj => ?_, fun j hj => ?_⟩
  · rw [e 17 (by decide), e 15 (by decide), e 4 (by decide), rAcc_same (e 6 (by decide))]; exact k5 j hj
  · refine ⟨by rw [e 5 (by decide)]; exact (h2 j hj).1, ?_⟩
    rw [ei]
    by_cases hji : j = i
    · subst hji; simp only [upd, if_true]; exact hv
    · simp only [upd, hji, if_false]; exact (h2 j hj).2
  · rw [e 17 (by decide), e 6 (by decide), ei]
    obtain ⟨z1, z2, z3⟩ := hz j hj
    exact ⟨z1, by simp only [upd, show ¬ j = i by omega, if_false]; exact z2, z3⟩
theorem INVR.need {n na i : Nat} {v : Int32} {M : MSt} (h : INVR n na M) (hi : i < n) (hv : v = -1 ∨ ∃ j, j < i ∧ v = nI j) : INVR n na (mR M 15 i v) := by
  obtain ⟨⟨ru, k1, k2, k3, k4, k5⟩, h2, hz⟩ := h
  have e : ∀ j, j ≠ 15 → (mR M 15 i v).2 j = M.2 j := fun j hj => up_o hj
  have ei : (mR M 15 i v).2 15 = upd (M.2 15) i v := rfl
  refine ⟨⟨ru, k1, k2, k3, k4, fun j hj => ?_⟩, fun j hj => ?_, fun j hj => ?_⟩
  · rw [e 17 (by decide), e 4 (by decide), rAcc_same (e 6 (by decide)), ei]
    obtain ⟨z1, z2, z3, z4⟩ := k5 j hj
    refine ⟨z1, z2, ?_, z4⟩
    by_cases hji : j = i
    · subst hji; simp only [upd, if_true]; exact hv
    · simp only [upd, hji, if_false]; exact z3
  · rw [e 5 (by decide), e 11 (by decide)]; exact h2 j hj
  · rw [e 17 (by decide), e 6 (by decide), e 11 (by decide)]; exact hz j hj
theorem INVR.rules {n na i q : Nat} {M : MSt} (h : INVR n na M) (hi : i < n) (hq : q ≤ 5) : INVR n na (mR M 17 i (nI q)) := by
  obtain ⟨⟨ru, k1, k2, k3, k4, k5⟩, h2, hz⟩ := h
  have e : ∀ j, j ≠ 17 → (mR M 17 i (nI q)).2 j = M.2 j := fun j hj => up_o hj
  have ei : (mR M 17 i (nI q)).2 17 = upd (M.2 17) i (nI q) := rfl
  refine ⟨⟨fun j => if j = i then q else ru j, k1, k2, k3, k4, fun j hj => ?_⟩, fun j hj => ?_, fun j hj => ?_⟩
  · show (if j = i then q else ru j) ≤ 5 ∧ (mR M 17 i (nI q)).2 17 j = nI (if j = i then q else ru j) ∧ _
    rw [e 15 (by decide), e 4 (by decide), rAcc_same (e 6 (by decide)), ei]
    obtain ⟨z1, z2, z3⟩ := k5 j hj
    by_cases hji : j = i
    · subst hji; simp only [upd, if_true]; exact ⟨hq, trivial, z3⟩
    · simp only [upd, hji, if_false]; exact ⟨z1, z2, z3⟩
  · rw [e 5 (by decide), e 11 (by decide)]; exact h2 j hj
  · rw [e 6 (by decide), e 11 (by decide), ei]
    obtain ⟨z1, z2⟩ := hz j hj
    exact ⟨by simp only [upd, show ¬ j = i by omega, if_false]; exact z1, z2⟩
theorem w_sum (a b c d p : Int32) : (a + (b - p)) + p + c + d = a + b + c + d ∧ (a + (b - p)) + c + p + d = a + c + b + d ∧ (a + (b - p)) + c + d + p = a + c + d + b := by
  have h : a + (b - p) + p = a + b := by rw [Int32.add_assoc, Int32.sub_add_cancel]
  refine ⟨by rw [h], ?_, ?_⟩
  · rw [show a + (b - p) + c + p + d = (a + (b - p) + p) + c + d by ac_rfl, h]; ac_rfl
  · rw [show a + (b - p) + c + d + p = (a + (b - p) + p) + c + d by ac_rfl, h]; ac_rfl
theorem INVR.row6 {n na : Nat} {M M' : MSt} (h : INVR n na M) (h1 : M'.1 = M.1) (e1 : ∀ j, j ≠ 6 → M'.2 j = M.2 j) (ha : ∀ i, i < n → rAcc M'.2 i 3 = 1000) (hz6 : ∀ k, 4 * n ≤ k → M'.2 6 k = M.2 6 k) : INVR n na M' := by
  obtain ⟨⟨ru, k1, k2, k3, k4, k5⟩, h2, hz⟩ := h
  refine ⟨⟨ru, k1, by rw [h1]; exact k2, k3, by rw [h1]; exact k4, fun j hj => ?_⟩, fun j hj => ?_, fun j hj => ?_⟩
  · rw [e1 17 (by decide), e1 15 (by decide), e1 4 (by decide)]
    obtain ⟨z1, z2, z3, z4, z5⟩ := k5 j hj
    exact ⟨z1, z2, z3, z4, ha j hj⟩
  · rw [e1 5 (by decide), e1 11 (by decide)]; exact h2 j hj
  · rw [e1 17 (by decide), e1 11 (by decide), hz6 _ (by omega), hz6 _ (by omega), hz6 _ (by omega), hz6 _ (by omega)]; exact hz j hj
theorem rAcc_4 (T : Rows) (i : Nat) : rAcc T i 3 = T 6 (4 * i) + T 6 (4 * i + 1) + T 6 (4 * i + 2) + T 6 (4 * i + 3) := rfl
theorem INVR.acc {n na i : Nat} {M : MSt} (h : INVR n na M) (hi : i < n) : rAcc M.2 i 3 = 1000 := by obtain ⟨⟨ru, k1, k2, k3, k4, k5⟩, -⟩ := h; exact (k5 i hi).2.2.2.2
theorem INVR.weigh {n na i v : Nat} {p : Int32} {M : MSt} (h : INVR n na M) (hi : i < n) (hv0 : v ≠ 0) (hv4 : v < 4) : INVR n na (mR (mR M 6 (4 * i) (M.2 6 (4 * i) + (M.2 6 (4 * i + v) - p))) 6 (4 * i + v) p) := by
  have e6 : ∀ q, (mR (mR M 6 (4 * i) (M.2 6 (4 * i) + (M.2 6 (4 * i + v) - p))) 6 (4 * i + v) p).2 6 q = if q = 4 * i + v then p else if q = 4 * i then M.2 6 (4 * i) + (M.2 6 (4 * i + v) - p) else M.2 6 q := by
    intro q
    rfl
  refine h.row6 rfl (fun j hj => (up_o hj).trans (up_o hj)) (fun j hj => ?_) (fun k hk => ?_)
  · have ha := h.acc hj
    rw [rAcc_4] at ha ⊢
    rw [e6, e6, e6, e6]
    by_cases hji : j = i
    · subst hji
      obtain ⟨s1, s2, s3⟩ := w_sum (M.2 6 (4 * j)) (M.2 6 (4 * j + v)) (M.2 6 (4 * j + 2)) (M.2 6 (4 * j + 3)) p
      obtain ⟨t1, t2, t3⟩ := w_sum (M.2 6 (4 * j)) (M.2 6 (4 * j + v)) (M.2 6 (4 * j + 1)) (M.2 6 (4 * j + 3)) p
      obtain ⟨u1, u2, u3⟩ := w_sum (M.2 6 (4 * j)) (M.2 6 (4 * j + v)) (M.2 6 (4 * j + 1)) (M.2 6 (4 * j + 2)) p
      rcases (show v = 1 ∨ v = 2 ∨ v = 3 by omega) with rfl | rfl | rfl
      · rw [if_neg (by omega), if_pos rfl, if_pos rfl, if_neg (by omega), if_neg (by omega), if_neg (by omega), if_neg (by omega)]; exact s1.trans ha
      · rw [if_neg (by omega), if_pos rfl, if_neg (by omega), if_neg (by omega), if_pos rfl, if_neg (by omega), if_neg (by omega)]; exact t2.trans ha
      · rw [if_neg (by omega), if_pos rfl, if_neg (by omega), if_neg (by omega), if_neg (by omega), if_neg (by omega), if_pos rfl]; exact u3.trans ha
    · rw [if_neg (by omega), if_neg (by omega), if_neg (by omega), if_neg (by omega), if_neg (by omega), if_neg (by omega), if_neg (by omega), if_neg (by omega)]; exact ha
  · rw [e6, if_neg (by omega), if_neg (by omega)]
theorem INVR.arm {n na : Nat} {M : MSt} (h : INVR n na M) (hlt : na < 100) : INVR n (na + 1) (mS M 22 (nI (na + 1))) := by
  obtain ⟨⟨ru, k1, k2, k3, k4, k5⟩, h2, hz⟩ := h
  exact ⟨⟨ru, by omega, rfl, k3, k4, k5⟩, h2, hz⟩
theorem kIn_nat {v : Int32} (a b : Nat) (hab : a ≤ b) (hb : b < 2 ^ 31) (h : kIn v (nI a) (nI b) = 1) : ∃ k, a ≤ k ∧ k ≤ b ∧ v = nI k := by
  unfold kIn at h
  by_cases h0 : v < nI a
  · rw [if_pos h0] at h; exact absurd h (by decide)
  · rw [if_neg h0] at h
    by_cases h1 : nI b < v
    · rw [if_pos h1] at h; exact absurd h (by decide)
    · have h2 : (nI a).toInt ≤ v.toInt := by have := Int32.not_lt.mp h0; exact Int32.le_iff_toInt_le.mp this
      have h3 : v.toInt ≤ (nI b).toInt := by have := Int32.not_lt.mp h1; exact Int32.le_iff_toInt_le.mp this
      rw [nI_toInt (by omega)] at h2
      rw [nI_toInt hb] at h3
      refine ⟨v.toInt.toNat, by omega, by omega, ?_⟩
      apply Int32.toInt_inj.mp
      rw [nI_toInt (by omega)]
      omega
theorem kIn_swx {n : Nat} {v p : Int32} (hn8 : n ≤ 8) (h3 : v = nI n) : kIn p 0 (v - 1) = 0 ∨ ∃ i, i < n ∧ p = nI i := by
  rcases kIn_01 p 0 (v - 1) with h | h
  · exact Or.inl h
  · right
    subst h3
    exact kOut_sub1 (kIn_out.mp h) (by omega)
theorem INVR.add {n na : Nat} {M : MSt} {p0 p1 p2 : Int32} (h : INVR n na M) (hn : n < 8) (h1 : kIn p0 0 498 = 1) (h2 : kIn p1 2 4 = 1) : INVR (n + 1) na (mS (mR (mR (mR (mR (mR (mR (mR (mR (mS M 0 0) 4 n p0) 5 n p1) 6 (4 * n) 1000) 7 n 1000) 9 n (M.1 1)) 10 n p2) 12 n (-1)) 15 n (-1)) 3 (nI (n + 1))) := by
  obtain ⟨s0, -, hs0, es0⟩ := kIn_nat 0 498 (by omega) (by omega) h1
  obtain ⟨v0, -, hv0, ev0⟩ := kIn_nat 2 4 (by omega) (by omega) h2
  obtain ⟨⟨ru, k1, k2, k3, k4, k5⟩, hh2, hz⟩ := h
  have f3 : (mS (mR (mR (mR (mR (mR (mR (mR (mR (mS M 0 0) 4 n p0) 5 n p1) 6 (4 * n) 1000) 7 n 1000) 9 n (M.1 1)) 10 n p2) 12 n (-1)) 15 n (-1)) 3 (nI (n + 1))).1 3 = nI (n + 1) := rfl
  have f22 : (mS (mR (mR (mR (mR (mR (mR (mR (mR (mS M 0 0) 4 n p0) 5 n p1) 6 (4 * n) 1000) 7 n 1000) 9 n (M.1 1)) 10 n p2) 12 n (-1)) 15 n (-1)) 3 (nI (n + 1))).1 22 = M.1 22 := rfl
  have f4 : (mS (mR (mR (mR (mR (mR (mR (mR (mR (mS M 0 0) 4 n p0) 5 n p1) 6 (4 * n) 1000) 7 n 1000) 9 n (M.1 1)) 10 n p2) 12 n (-1)) 15 n (-1)) 3 (nI (n + 1))).2 4 = upd (M.2 4) n p0 := rfl
  have f5 : (mS (mR (mR (mR (mR (mR (mR (mR (mR (mS M 0 0) 4 n p0) 5 n p1) 6 (4 * n) 1000) 7 n 1000) 9 n (M.1 1)) 10 n p2) 12 n (-1)) 15 n (-1)) 3 (nI (n + 1))).2 5 = upd (M.2 5) n p1 := rfl
  have f6 : (mS (mR (mR (mR (mR (mR (mR (mR (mR (mS M 0 0) 4 n p0) 5 n p1) 6 (4 * n) 1000) 7 n 1000) 9 n (M.1 1)) 10 n p2) 12 n (-1)) 15 n (-1)) 3 (nI (n + 1))).2 6 = upd (M.2 6) (4 * n) 1000 := rfl
  have f11 : (mS (mR (mR (mR (mR (mR (mR (mR (mR (mS M 0 0) 4 n p0) 5 n p1) 6 (4 * n) 1000) 7 n 1000) 9 n (M.1 1)) 10 n p2) 12 n (-1)) 15 n (-1)) 3 (nI (n + 1))).2 11 = M.2 11 := rfl
  have f15 : (mS (mR (mR (mR (mR (mR (mR (mR (mR (mS M 0 0) 4 n p0) 5 n p1) 6 (4 * n) 1000) 7 n 1000) 9 n (M.1 1)) 10 n p2) 12 n (-1)) 15 n (-1)) 3 (nI (n + 1))).2 15 = upd (M.2 15) n (-1) := rfl
  have f17 : (mS (mR (mR (mR (mR (mR (mR (mR (mR (mS M 0 0) 4 n p0) 5 n p1) 6 (4 * n) 1000) 7 n 1000) 9 n (M.1 1)) 10 n p2) 12 n (-1)) 15 n (-1)) 3 (nI (n + 1))).2 17 = M.2 17 := rfl
  generalize (mS (mR (mR (mR (mR (mR (mR (mR (mR (mS M 0 0) 4 n p0) 5 n p1) 6 (4 * n) 1000) 7 n 1000) 9 n (M.1 1)) 10 n p2) 12 n (-1)) 15 n (-1)) 3 (nI (n + 1))) = M' at *
  obtain ⟨zn1, zn2, zn3, zn4, zn5, zn6⟩ := hz n (Nat.le_refl _)
  refine ⟨⟨fun j => if j = n then 0 else ru j, k1, f22.trans k2, by omega, f3, fun j hj => ?_⟩, fun j hj => ?_, fun j hj => ?_⟩
  · rw [f17, f15, f4, rAcc_4, f6]
    by_cases hjn : j = n
    · subst hjn
      refine ⟨by simp, by simp [zn1]; rfl, Or.inl (by simp [upd]), ⟨s0, hs0, by simp [upd]; exact es0⟩, ?_⟩
      simp only [upd]
      rw [if_pos trivial, if_neg (by omega), if_neg (by omega), if_neg (by omega), zn4, zn5, zn6]
      decide
    · obtain ⟨z1, z2, z3, z4, z5⟩ := k5 j (by omega)
      rw [rAcc_4] at z5
      simp only [upd, hjn, if_false]
      refine ⟨z1, z2, z3, z4, ?_⟩
      rw [if_neg (by omega), if_neg (by omega), if_neg (by omega), if_neg (by omega)]
      exact z5
  · rw [f5, f11]
    by_cases hjn : j = n
    · subst hjn
      exact ⟨⟨v0, hv0, by simp [upd]; exact ev0⟩, Or.inl zn2⟩
    · simp only [upd, hjn, if_false]
      exact hh2 j (by omega)
  · obtain ⟨z1, z2, z3, z4, z5, z6⟩ := hz j (by omega)
    rw [f17, f11, f6]
    simp only [upd]
    rw [if_neg (by omega), if_neg (by omega), if_neg (by omega), if_neg (by omega)]
    exact ⟨z1, z2, z3, z4, z5, z6⟩
