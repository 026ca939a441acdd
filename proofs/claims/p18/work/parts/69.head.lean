/-! the law's wrappers: what stays -/
theorem kRng_01 (a f t : Int32) : kRng a f t = 0 ∨ kRng a f t = 1 := by
  unfold kRng
  repeat' split
  all_goals first | exact Or.inl rfl | exact Or.inr rfl
theorem kRul_01 (a f t : Int32) : kRul a f t = 0 ∨ kRul a f t = 1 := by
  unfold kRul
  repeat' split
  all_goals first | exact Or.inl rfl | exact Or.inr rfl
theorem okSw.rl {S : Pool} {a : Nat} (h : okSw S a) : isA S (rlA S a) 21 5 := by
  obtain ⟨-, -, ⟨rl, r1, r2, -⟩, -⟩ := h
  rw [show rlA S a = rl by simp [rlA, r1]]
  exact r2
theorem okSw.ty {S : Pool} {a ty : Nat} (h : okSw S a) (e : gQ S a 6 = some ty) : isO S ty 4 := by
  obtain ⟨-, -, -, -, ⟨t, t1, t2, -⟩, -⟩ := h
  cases t1.symm.trans e
  exact t2
