/-! doubles and counts of the reference: that they come -/
theorem due_nw {a b : Int32} (ha : 0 < a) (hb : 0 < lg_cmp b.toInt64 0) : ¬ a.toInt64 * b.toInt64 * 10 = 0 := by
  intro e
  have h1 := due_mod e
  rw [Int64.toInt_mul, Int32.toInt_toInt64, Int32.toInt_toInt64] at h1
  have h2 : (a.toInt * b.toInt * 10) % ((2 ^ 64 : Nat) : Int) = 0 := by
    rw [Int.mul_emod, Int.bmod_emod, ← Int.mul_emod] at h1
    exact h1
  have a0 : 0 < a.toInt := Int32.lt_iff_toInt_lt.mp ha
  have b0 : 0 < b.toInt := by
    have h3 : (0 : Int64) < b.toInt64 := (lg_cmp_gt _ 0).mp hb
    have h4 := Int64.lt_iff_toInt_lt.mp h3
    rw [Int32.toInt_toInt64] at h4
    exact h4
  refine due_int (P := 2 ^ 63) (by decide) (Int.mul_pos a0 b0) ?_ h2
  refine Int.lt_of_le_of_lt (Int.mul_le_mul (Int.le_of_lt a.toInt_lt) (Int.le_of_lt b.toInt_lt) (Int.le_of_lt b0) (by decide)) (by decide)
