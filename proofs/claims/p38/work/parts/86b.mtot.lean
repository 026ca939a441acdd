/-! more of what stays -/
abbrev mU (M : MSt) (k : Nat) (f : Nat → Int32) : MSt := (M.1, va_up M.2 k f)
theorem qAsk_u {u f g : Int32} (h : qAsk u f g = 1) : ∃ uu, uu ≤ 9999 ∧ u = nI uu := by
  unfold qAsk at h
  rcases kIn_01 u 0 9999 with h1 | h1
  · rw [if_pos h1] at h; exact absurd h (by decide)
  · obtain ⟨k, -, hk, e⟩ := kIn_nat 0 9999 (by omega) (by omega) h1
    exact ⟨k, hk, e⟩
theorem qAsk_01 (u f g : Int32) : qAsk u f g = 0 ∨ qAsk u f g = 1 := by
  unfold qAsk
  split
  · exact Or.inl rfl
  · split
    · exact Or.inl rfl
    · split
      · exact Or.inl rfl
      · exact Or.inr rfl
