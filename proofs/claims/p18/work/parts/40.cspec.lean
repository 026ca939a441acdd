/-! what the class's readers answer, of its pool -/
def cMeet (S : Pool) (u : Nat) (f g : Int32) : Int32 :=
  if gI S u 1 = 1 then (if (if gI S u 0 = 0 then f else g) < gI S u 2 then 1 else 0) else if gI S u 1 = 2 then (if (if gI S u 0 = 0 then f else g) = gI S u 2 then 1 else 0) else (if gI S u 2 < (if gI S u 0 = 0 then f else g) then 1 else 0)
def cHold (S : Pool) (rl : Nat) (f g : Int32) : Nat → Nat → Int32
  | 0, _ => -1
  | c + 1, k => match gP S rl k with
    | none => cHold S rl f g c (k + 1)
    | some u => if cMeet S u f g = 0 then cHold S rl f g c (k + 1) else nI k
def cRule (S : Pool) (rl : Nat) (k : Int32) : Option Nat := if k < 0 then none else if k < 5 then gP S rl k.toNatClampNeg else none
def cWt (S : Pool) (wt : Nat) (k : Int32) : Int32 := if k < 0 then 0 else if k < 4 then gR S wt k.toNatClampNeg else 0
def cSplit (S : Pool) (wt : Nat) (bk : Int32) : Nat → Nat → Int32 → Int32
  | 0, _, _ => 0
  | c + 1, v, acc => if bk < acc + gR S wt v then nI v else cSplit S wt bk c (v + 1) (acc + gR S wt v)
def cFarL (S : Pool) (a : Nat) (clk : Int32) : Int64 := (gI S a 10).toInt64 + (gI S a 11).toInt64 * (clk - gI S a 12).toInt64
def cFar (S : Pool) (a : Nat) (clk : Int32) : Int32 := if 0 < lg_cmp (cFarL S a clk) 1000 then 1000 else (cFarL S a clk).toInt32
def cOn (S : Pool) (ak a : Nat) : Int32 := if gI S a 9 = (if gI S a 0 = gI S ak 3 then 1 else 0) then 0 else 1
def cFarA (S : Pool) (ak a : Nat) (clk : Int32) : Int32 := if gI S a 0 = gI S ak 4 then gI S ak 5 else cFar S a clk
def cLay (S : Pool) (ak a : Nat) : Int32 := if gI S a 13 = -1 then 1 else if kBkt (500 + gI S a 13) (gI S ak 0) < gI S a 14 then 0 else if kBkt (500 + gI S a 13) (gI S ak 0) < gI S a 15 then 1 else 0
/-- a chain of c arms from r on -/
def chn (S : Pool) : Nat → Option Nat → Prop
  | 0, r => r = none
  | c + 1, r => ∃ a, r = some a ∧ isO S a 0 ∧ chn S c (gQ S a 2)
/-- the arm of a user in a chain -/
def cArm (S : Pool) (u : Int32) : Nat → Option Nat → Option Nat
  | 0, _ => none
  | _ + 1, none => none
  | c + 1, some a => if gI S a 0 = u then some a else cArm S u c (gQ S a 2)
theorem chn_some {S : Pool} {c a : Nat} (h : chn S c (some a)) : ∃ d, c = d + 1 ∧ isO S a 0 ∧ chn S d (gQ S a 2) := by
  cases c with
  | zero => exact absurd h (by intro e; cases e)
  | succ d =>
    obtain ⟨b, e, h1, h2⟩ := h
    cases e
    exact ⟨d, rfl, h1, h2⟩
theorem cArm_none {S : Pool} {u : Int32} {c : Nat} : cArm S u c none = none := by cases c <;> rfl
theorem cArm_isO {S : Pool} {u : Int32} : ∀ (c : Nat) (r : Option Nat) (a : Nat), chn S c r → cArm S u c r = some a → isO S a 0 ∧ gI S a 0 = u := by
  intro c
  induction c with
  | zero => intro r a _ h; exact absurd h (by simp [cArm])
  | succ c ih =>
    intro r a h e
    obtain ⟨b, rfl, h1, h2⟩ := h
    unfold cArm at e
    by_cases hb : gI S b 0 = u
    · rw [if_pos hb] at e
      cases e
      exact ⟨h1, hb⟩
    · rw [if_neg hb] at e
      exact ih _ _ h2 e
theorem cMeet_01 (S : Pool) (u : Nat) (f g : Int32) : cMeet S u f g = 0 ∨ cMeet S u f g = 1 := by
  unfold cMeet
  generalize (if gI S u 0 = 0 then f else g) = v
  have h : ∀ q : Prop, [Decidable q] → ((if q then (1 : Int32) else 0) = 0 ∨ (if q then (1 : Int32) else 0) = 1) := by
    intro q hq
    by_cases h : q
    · rw [if_pos h]; exact Or.inr rfl
    · rw [if_neg h]; exact Or.inl rfl
  split
  · exact h _
  · split
    · exact h _
    · exact h _
theorem cOn_01 (S : Pool) (ak a : Nat) : cOn S ak a = 0 ∨ cOn S ak a = 1 := by
  unfold cOn
  generalize (if gI S a 0 = gI S ak 3 then (1 : Int32) else 0) = v
  by_cases h : gI S a 9 = v
  · rw [if_pos h]; exact Or.inl rfl
  · rw [if_neg h]; exact Or.inr rfl
theorem cLay_01 (S : Pool) (ak a : Nat) : cLay S ak a = 0 ∨ cLay S ak a = 1 := by
  unfold cLay
  by_cases h1 : gI S a 13 = -1
  · rw [if_pos h1]; exact Or.inr rfl
  · rw [if_neg h1]
    by_cases h2 : kBkt (500 + gI S a 13) (gI S ak 0) < gI S a 14
    · rw [if_pos h2]; exact Or.inl rfl
    · rw [if_neg h2]
      by_cases h3 : kBkt (500 + gI S a 13) (gI S ak 0) < gI S a 15
      · rw [if_pos h3]; exact Or.inr rfl
      · rw [if_neg h3]; exact Or.inl rfl
theorem cHold_of (S : Pool) (rl : Nat) (f g : Int32) : ∀ c k, cHold S rl f g c k = -1 ∨ ∃ j u, k ≤ j ∧ j < k + c ∧ cHold S rl f g c k = nI j ∧ gP S rl j = some u := by
  intro c
  induction c with
  | zero => intro k; exact Or.inl rfl
  | succ c ih =>
    intro k
    unfold cHold
    cases h : gP S rl k with
    | none =>
      simp only
      rcases ih (k + 1) with h1 | ⟨j, u, a1, a2, a3, a4⟩
      · exact Or.inl h1
      · exact Or.inr ⟨j, u, by omega, by omega, a3, a4⟩
    | some u =>
      simp only
      by_cases h2 : cMeet S u f g = 0
      · rw [if_pos h2]
        rcases ih (k + 1) with h1 | ⟨j, u, a1, a2, a3, a4⟩
        · exact Or.inl h1
        · exact Or.inr ⟨j, u, by omega, by omega, a3, a4⟩
      · rw [if_neg h2]
        exact Or.inr ⟨k, u, Nat.le_refl _, by omega, rfl, h⟩
