/-! what the methods answer, in the code's own words -/
def kOut (v lo hi : Int32) : Int32 := if v < lo then 1 else if v ≤ hi then 0 else 1
theorem kOut_01 (v lo hi : Int32) : kOut v lo hi = 0 ∨ kOut v lo hi = 1 := by
  unfold kOut; split
  · exact Or.inr rfl
  · split
    · exact Or.inl rfl
    · exact Or.inr rfl
def kSw (S : Pool) (ar : Nat) (one : Int32) : Option Nat := if one < 0 then none else if one < 8 then gP S ar one.toNatClampNeg else none
theorem kz_rf (r : Option Nat) : va_rf r = .null ∨ ∃ a, va_rf r = .ref a := by
  cases r with
  | none => exact Or.inl rfl
  | some a => exact Or.inr ⟨a, rfl⟩
theorem kz_in {x : Int32} {n : Nat} (hn : n < 2 ^ 31) (h0 : ¬ x < 0) (h1 : x < nI n) : vp_in x n := by
  rcases pk_ix x hn with h | h | ⟨j, hj, rfl⟩
  · exact absurd h h0
  · exact absurd h1 (Int32.not_lt.mpr h)
  · exact vp_in_nI hj hn
def kBkt (salt user : Int32) : Int32 :=
  let h := (salt * 7919 + user * 31 + 17) - (salt * 7919 + user * 31 + 17) / 10007 * 10007
  let k := (h * h + salt + 3 * user) - (h * h + salt + 3 * user) / 10007 * 10007
  k - k / 1000 * 1000
/-! the reference's answers, in its own words -/
def kIn (x lo hi : Int32) : Int32 := if x < lo then 0 else if hi < x then 0 else 1
theorem kIn_01 (v lo hi : Int32) : kIn v lo hi = 0 ∨ kIn v lo hi = 1 := by
  unfold kIn; split
  · exact Or.inl rfl
  · split
    · exact Or.inl rfl
    · exact Or.inr rfl
theorem kIn_out {x lo hi : Int32} : kIn x lo hi = 1 ↔ kOut x lo hi = 0 := by
  unfold kIn kOut
  by_cases h1 : x < lo
  · simp [h1]
  · by_cases h2 : hi < x
    · have h3 : ¬ x ≤ hi := Int32.not_le.mpr h2
      simp [h1, h2, h3]
    · have h3 : x ≤ hi := Int32.not_lt.mp h2
      simp [h1, h2, h3]
theorem kIn_out0 {x lo hi : Int32} : kIn x lo hi = 0 ↔ kOut x lo hi = 1 := by
  rcases kIn_01 x lo hi with h | h
  · rcases kOut_01 x lo hi with g | g
    · exact absurd (kIn_out.mpr g) (by rw [h]; decide)
    · exact ⟨fun _ => g, fun _ => h⟩
  · constructor
    · intro g; rw [h] at g; exact absurd g (by decide)
    · intro g; rw [kIn_out.mp h] at g; exact absurd g (by decide)
