/-! the same rows, the same numbers but for what was thrown and the reason -/
def eqN (M N : MSt) : Prop := (∀ k : Nat, True → True → N.2 k = M.2 k) ∧ ∀ k, k ≠ 0 → k ≠ 28 → N.1 k = M.1 k
theorem eqN.rf {M : MSt} : eqN M M := ⟨fun _ _ _ => rfl, fun _ _ _ => rfl⟩
theorem eqN.tr {M N K : MSt} (h : eqN M N) (g : eqN N K) : eqN M K := ⟨fun k h1 h2 => (g.1 k h1 h2).trans (h.1 k h1 h2), fun k h1 h2 => (g.2 k h1 h2).trans (h.2 k h1 h2)⟩
theorem eqN.s0 {M N : MSt} {v : Int32} (h : eqN M N) : eqN M (mS N 0 v) := ⟨h.1, fun k h1 h2 => (show va_up N.1 0 v k = _ by simp [va_up, h1]; exact h.2 k h1 h2)⟩
theorem eqN.s28 {M N : MSt} {v : Int32} (h : eqN M N) : eqN M (mS N 28 v) := ⟨h.1, fun k h1 h2 => (show va_up N.1 28 v k = _ by simp [va_up, h2]; exact h.2 k h1 h2)⟩
theorem eqN.m {M N : MSt} (h : eqN M N) : eqM M N := ⟨fun k _ _ => h.1 k trivial trivial, h.2⟩
