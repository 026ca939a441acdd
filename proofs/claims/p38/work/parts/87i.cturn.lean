/-! the class: would turn, exact -/
def rChg (F G : Nat → Int32) : Nat → Nat → Int32
  | 0, _ => 0
  | c + 1, k => if G k = F k then rChg F G c (k + 1) else 1
theorem rChg_01 (F G : Nat → Int32) : ∀ c k, rChg F G c k = 0 ∨ rChg F G c k = 1 := by
  intro c
  induction c with
  | zero => intro k; exact Or.inl rfl
  | succ c ih =>
    intro k
    unfold rChg
    by_cases h : G k = F k
    · rw [if_pos h]; exact ih _
    · rw [if_neg h]; exact Or.inr rfl
