/-! what the reference's methods answer, of its rows T (by the place of the field) and its numbers -/
abbrev Rows : Type := Nat → Nat → Int32
def kMin (x y : Int64) : Int64 := if y < x then y else x
def kMinI (x y : Int32) : Int32 := if y < x then y else x
def kMaxI (x y : Int32) : Int32 := if x < y then y else x
/-- how far a ramp is at a clock -/
def rFar (T : Rows) (i : Nat) (clk : Int32) : Int32 := (kMin 1000 ((T 7 i).toInt64 + (T 8 i).toInt64 * (clk - T 9 i).toInt64)).toInt32
/-- the place of the arm, from the place k on, c places; -1 without one -/
def rArm (T : Rows) (one u : Int32) : Nat → Nat → Int32
  | 0, _ => -1
  | c + 1, k => if T 23 k = one then (if T 24 k = u then nI k else rArm T one u c (k + 1)) else rArm T one u c (k + 1)
/-- does the rule at place k hold -/
def rMeets (T : Rows) (k : Nat) (f s : Int32) : Bool :=
  if T 19 k = 1 then decide ((if T 18 k = 0 then f else s) < T 20 k) else if T 19 k = 2 then decide ((if T 18 k = 0 then f else s) = T 20 k) else decide (T 20 k < (if T 18 k = 0 then f else s))
/-- the first rule that holds, from the rule k of the switch i on, c rules; -1 without one -/
def rHold (T : Rows) (i : Nat) (f s : Int32) : Nat → Nat → Int32
  | 0, _ => -1
  | c + 1, k => if rMeets T (5 * i + k) f s = true then nI k else rHold T i f s c (k + 1)
/-- the variant of a bucket, from v on, whose sum is acc -/
def rSplit (T : Rows) (i : Nat) (bk : Int32) : Nat → Nat → Int32 → Int32
  | 0, v, _ => nI v
  | c + 1, v, acc => if bk < acc then nI v else rSplit T i bk c (v + 1) (acc + T 6 (4 * i + (v + 1)))
/-- the variant and the reason, where it is known what is got of the switches with smaller numbers -/
def rGx (T : Rows) (hold : Int32) (on : Nat → Int32) (u f g : Int32) (na ru : Nat) (sub : Nat → Int32) (i : Nat) (far : Int32) : Int32 × Int32 :=
  if on i = 0 then (0, 0)
  else if T 15 i ≠ -1 ∧ sub (T 15 i).toNatClampNeg ≠ T 16 i then (0, 1)
  else if T 10 i ≠ 0 ∧ rArm T (nI i) u na 0 ≠ -1 then (T 25 (rArm T (nI i) u na 0).toNatClampNeg, 2)
  else if rHold T i f g ru 0 ≠ -1 ∧ T 21 (5 * i + (rHold T i f g ru 0).toNatClampNeg) ≠ -1 then (T 21 (5 * i + (rHold T i f g ru 0).toNatClampNeg), 3)
  else if kBkt 999 u < hold then (0, 4)
  else if T 12 i ≠ -1 ∧ kIn (kBkt (500 + T 12 i) u) (T 13 i) (T 14 i - 1) = 0 then (0, 5)
  else if kBkt (T 4 i + 1) u < far then (if 0 < ru ∧ rHold T i f g ru 0 = -1 then (0, 7) else (rSplit T i (kBkt (T 4 i) u) 4 0 (T 6 (4 * i)), 8))
  else (0, 6)
def rG (T : Rows) (hold : Int32) (on far : Nat → Int32) (u f g : Int32) (na : Nat) (ru : Nat → Nat) : Nat → Nat → Int32 × Int32
  | 0, _ => (0, 0)
  | d + 1, i => rGx T hold on u f g na (ru i) (fun j => (rG T hold on far u f g na ru d j).1) i (far i)
theorem mS_s {M : MSt} {k : Nat} {a b : Int32} : mS (mS M k a) k b = mS M k b := by
  have h : va_up (va_up M.1 k a) k b = va_up M.1 k b := by
    funext j
    by_cases hj : j = k <;> simp [va_up, hj]
  show (va_up (va_up M.1 k a) k b, M.2) = (va_up M.1 k b, M.2)
  rw [h]
theorem mS_id {M : MSt} {k : Nat} : mS M k (M.1 k) = M := by
  have h : va_up M.1 k (M.1 k) = M.1 := by
    funext j
    by_cases hj : j = k
    · subst hj; simp [va_up]
    · simp [va_up, hj]
  show (va_up M.1 k (M.1 k), M.2) = M
  rw [h]
/-- the bucket as a natural number -/
def nBkt (s u : Nat) : Nat := ((s * 7919 + u * 31 + 17) % 10007 * ((s * 7919 + u * 31 + 17) % 10007) + s + 3 * u) % 10007 % 1000
theorem kBkt_n {s u : Nat} (hs : s ≤ 1000) (hu : u ≤ 9999) : kBkt (nI s) (nI u) = nI (nBkt s u) := by
  have h0 : (s * 7919 + u * 31 + 17) % 10007 < 10007 := Nat.mod_lt _ (by decide)
  have e1 : nI s * 7919 + nI u * 31 + 17 = nI (s * 7919 + u * 31 + 17) := by
    rw [show nI s * (7919 : Int32) = nI (s * 7919) from pk_mul s 7919, show nI u * (31 : Int32) = nI (u * 31) from pk_mul u 31, nI_add]
    exact nI_add _ 17
  have hh : (s * 7919 + u * 31 + 17) % 10007 * ((s * 7919 + u * 31 + 17) % 10007) ≤ 10006 * 10006 := Nat.mul_le_mul (by omega) (by omega)
  unfold kBkt nBkt
  simp only []
  rw [e1]
  rw [show nI (s * 7919 + u * 31 + 17) - nI (s * 7919 + u * 31 + 17) / (10007 : Int32) * 10007 = nI ((s * 7919 + u * 31 + 17) % 10007) from pk_rem (d := 10007) (by omega) (by omega) (by omega)]
  generalize (s * 7919 + u * 31 + 17) % 10007 = h at h0 hh ⊢
  rw [show nI h * nI h + nI s + 3 * nI u = nI (h * h + s + 3 * u) from by rw [pk_mul, nI_add, show (3 : Int32) * nI u = nI (3 * u) from pk_mul 3 u, nI_add]]
  rw [show nI (h * h + s + 3 * u) - nI (h * h + s + 3 * u) / (10007 : Int32) * 10007 = nI ((h * h + s + 3 * u) % 10007) from pk_rem (d := 10007) (by omega) (by omega) (by omega)]
  exact pk_rem (d := 1000) (by omega) (by omega) (by omega)
theorem nBkt_lt (s u : Nat) : nBkt s u < 1000 := Nat.mod_lt _ (by decide)
/-- the sum of the weights up to v -/
def rAcc (T : Rows) (i : Nat) : Nat → Int32
  | 0 => T 6 (4 * i)
  | v + 1 => rAcc T i v + T 6 (4 * i + (v + 1))
/-- what a question needs of the reference's rows: na arms, ru i rules of the switch i, n switches -/
def okG (M : MSt) (n na : Nat) (ru : Nat → Nat) : Prop := na ≤ 100 ∧ M.1 22 = nI na ∧ n ≤ 8 ∧ M.1 3 = nI n ∧ ∀ i, i < n → ru i ≤ 5 ∧ M.2 17 i = nI (ru i) ∧ (M.2 15 i = -1 ∨ ∃ j, j < i ∧ M.2 15 i = nI j) ∧ (∃ s, s ≤ 498 ∧ M.2 4 i = nI s) ∧ rAcc M.2 i 3 = 1000
theorem nI_m1 {a : Nat} (h : a < 2 ^ 31) : ¬ nI a = -1 := by
  intro e
  have h1 : (nI a).toInt = (-1 : Int32).toInt := by rw [e]
  rw [nI_toInt h] at h1
  have h2 : (-1 : Int32).toInt = -1 := rfl
  omega
theorem rArm_of (T : Rows) (one u : Int32) : ∀ c k, rArm T one u c k = -1 ∨ ∃ j, k ≤ j ∧ j < k + c ∧ rArm T one u c k = nI j ∧ T 23 j = one ∧ T 24 j = u := by
  intro c
  induction c with
  | zero => intro k; exact Or.inl rfl
  | succ c ih =>
    intro k
    unfold rArm
    by_cases h1 : T 23 k = one
    · by_cases h2 : T 24 k = u
      · exact Or.inr ⟨k, Nat.le_refl _, by omega, by simp [h1, h2], h1, h2⟩
      · simp only [h1, h2, if_true, if_false]
        rcases ih (k + 1) with h | ⟨j, a1, a2, a3, a4, a5⟩
        · exact Or.inl h
        · exact Or.inr ⟨j, by omega, by omega, a3, a4, a5⟩
    · simp only [h1, if_false]
      rcases ih (k + 1) with h | ⟨j, a1, a2, a3, a4, a5⟩
      · exact Or.inl h
      · exact Or.inr ⟨j, by omega, by omega, a3, a4, a5⟩
theorem rHold_of (T : Rows) (i : Nat) (f s : Int32) : ∀ c k, rHold T i f s c k = -1 ∨ ∃ j, k ≤ j ∧ j < k + c ∧ rHold T i f s c k = nI j ∧ rMeets T (5 * i + j) f s = true := by
  intro c
  induction c with
  | zero => intro k; exact Or.inl rfl
  | succ c ih =>
    intro k
    unfold rHold
    by_cases h1 : rMeets T (5 * i + k) f s = true
    · exact Or.inr ⟨k, Nat.le_refl _, by omega, by simp [h1], h1⟩
    · simp only [h1, if_false]
      rcases ih (k + 1) with h | ⟨j, a1, a2, a3, a4⟩
      · exact Or.inl h
      · exact Or.inr ⟨j, by omega, by omega, a3, a4⟩
