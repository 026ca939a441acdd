theorem m1_lt {i : Nat} (h : i < 2 ^ 31) : (-1 : Int32) < nI i := by
  rw [Int32.lt_iff_toInt_lt, nI_toInt h]
  have h2 : (-1 : Int32).toInt = -1 := rfl
  omega
