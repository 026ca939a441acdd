/-! the reference, exact: rules, places -/
def qRul (p1 p2 p3 : Int32) : Int32 := if kIn p1 0 1 = 0 then 0 else if kIn p2 1 3 = 0 then 0 else if kIn p3 0 9 = 0 then 0 else 1
/-- a row moved up by one, n places from ta on -/
def rMv (f : Nat → Int32) (ta n : Nat) : Nat → Int32 := fun j => if ta ≤ j ∧ j < ta + n then f (j + 1) else f j
theorem rMv_cpy {f : Nat → Int32} {ta n : Nat} : va_cpy f f (ta + 1) ta n = rMv f ta n := by
  funext j
  unfold va_cpy rMv
  by_cases h : ta ≤ j ∧ j < ta + n
  · rw [if_pos h, if_pos h, show ta + 1 + (j - ta) = j + 1 by omega]
  · rw [if_neg h, if_neg h]
/-- is a range taken -/
def rTak (T : Rows) (i : Nat) (la p2 p3 : Int32) : Nat → Nat → Int32
  | 0, _ => 0
  | c + 1, k => if k = i then rTak T i la p2 p3 c (k + 1) else if T 12 k = la then (if kMaxI p2 (T 13 k) < kMinI p3 (T 14 k) then 1 else rTak T i la p2 p3 c (k + 1)) else rTak T i la p2 p3 c (k + 1)
theorem rTak_01 (T : Rows) (i : Nat) (la p2 p3 : Int32) : ∀ c k, rTak T i la p2 p3 c k = 0 ∨ rTak T i la p2 p3 c k = 1 := by
  intro c
  induction c with
  | zero => intro k; exact Or.inl rfl
  | succ c ih =>
    intro k
    unfold rTak
    split
    · exact ih _
    · split
      · split
        · exact Or.inr rfl
        · exact ih _
      · exact ih _
