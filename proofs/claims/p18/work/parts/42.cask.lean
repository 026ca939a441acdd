/-! who gets what, of the class's pool -/
abbrev rlA (S : Pool) (a : Nat) : Nat := (gQ S a 5).getD 0
abbrev wtA (S : Pool) (a : Nat) : Nat := (gQ S a 4).getD 0
def cRu (S : Pool) (ak a : Nat) : Option Nat := cRule S (rlA S a) (cHold S (rlA S a) (gI S ak 1) (gI S ak 2) 5 0)
def cArmA (S : Pool) (a : Nat) (u : Int32) : Option Nat := cArm S u 100 (gQ S a 7)
def cOth (S : Pool) (ar a : Nat) : Option Nat := if gI S a 16 < gI S a 0 then kSw S ar (gI S a 16) else none
def cHas (S : Pool) (ar : Nat) (sub : Nat → Int32) (a : Nat) : Int32 := match cOth S ar a with
  | none => 1
  | some o => if sub o = gI S a 17 then 1 else 0
def cLate (S : Pool) (x ak a : Nat) (z : Int32) : Int32 :=
  if kBkt 999 (gI S ak 0) < gI S x 4 then 4 else if cLay S ak a = 0 then 5 else if kBkt (gI S a 1 + 1) (gI S ak 0) < cFarA S ak a (gI S x 5) then z else 6
def cRsn (S : Pool) (x ak : Nat) (has : Int32) (a : Nat) : Int32 :=
  if cOn S ak a = 0 then 0 else if has = 0 then 1
  else if gI S a 3 ≠ 0 ∧ cArmA S a (gI S ak 0) ≠ none then 2
  else match cRu S ak a with
    | some u => if gI S u 3 = -1 then cLate S x ak a 8 else 3
    | none => cLate S x ak a (if 0 < gI S a 8 then 7 else 8)
def cVar (S : Pool) (ak a : Nat) (k : Int32) : Int32 :=
  if k = 2 then (match cArmA S a (gI S ak 0) with | none => 0 | some m => gI S m 1)
  else if k = 3 then (match cRu S ak a with | none => 0 | some u => gI S u 3)
  else if k = 8 then cSplit S (wtA S a) (kBkt (gI S a 1) (gI S ak 0)) 4 0 0
  else 0
/-- the variant that a switch has for who asks, where numbers are below d -/
def cV (S : Pool) (x ar ak : Nat) : Nat → Nat → Int32
  | 0, _ => 0
  | d + 1, a => cVar S ak a (cRsn S x ak (cHas S ar (cV S x ar ak d) a) a)
/-- a switch with all its parts -/
def okSw (S : Pool) (a : Nat) : Prop := isO S a 3 ∧ (∃ wt, gQ S a 4 = some wt ∧ isA S wt 6 4) ∧ (∃ rl, gQ S a 5 = some rl ∧ isA S rl 21 5 ∧ ∀ k, k < 5 → ∀ u, gP S rl k = some u → isO S u 2) ∧ (∃ n, n ≤ 100 ∧ chn S n (gQ S a 7)) ∧ (∃ ty, gQ S a 6 = some ty ∧ isO S ty 4 ∧ (∃ t, gQ S ty 0 = some t ∧ isA S t 10 4) ∧ (∃ t, gQ S ty 1 = some t ∧ isA S t 11 4) ∧ (∃ t, gQ S ty 2 = some t ∧ isA S t 12 4) ∧ ∃ t, gQ S ty 3 = some t ∧ isA S t 20 4) ∧ (gI S a 9 = 0 ∨ gI S a 9 = 1)
/-- the row of switches: each with its number -/
def okR (S : Pool) (ar : Nat) : Prop := isA S ar 22 8 ∧ ∀ k, k < 8 → ∀ a, gP S ar k = some a → okSw S a ∧ gI S a 0 = nI k
theorem kSw_some {S : Pool} {ar o : Nat} {v : Int32} (h : kSw S ar v = some o) : ∃ k, k < 8 ∧ v = nI k ∧ gP S ar k = some o := by
  unfold kSw at h
  by_cases h0 : v < 0
  · rw [if_pos h0] at h; cases h
  · rw [if_neg h0] at h
    by_cases h1 : v < 8
    · rw [if_pos h1] at h
      rcases pk_ix v (n := 8) (by decide) with h2 | h2 | ⟨j, hj, rfl⟩
      · exact absurd h2 h0
      · exact absurd h1 (Int32.not_lt.mpr h2)
      · rw [ki_cl (by omega)] at h
        exact ⟨j, hj, rfl, h⟩
    · rw [if_neg h1] at h; cases h
theorem cArm_fuel {S : Pool} {u : Int32} : ∀ (n m : Nat) (r : Option Nat), chn S n r → n ≤ m → cArm S u n r = cArm S u m r := by
  intro n
  induction n with
  | zero =>
    intro m r h _
    have h : r = none := h
    rw [h, cArm_none, cArm_none]
  | succ n ih =>
    intro m r h hm
    obtain ⟨b, rfl, h1, h2⟩ := h
    obtain ⟨q, rfl⟩ : ∃ q, m = q + 1 := ⟨m - 1, by omega⟩
    unfold cArm
    by_cases hb : gI S b 0 = u
    · rw [if_pos hb, if_pos hb]
    · rw [if_neg hb, if_neg hb]
      exact ih _ _ h2 (by omega)
theorem cRule_isO {S : Pool} {rl : Nat} {k : Int32} {u : Nat} (h : ∀ k, k < 5 → ∀ u, gP S rl k = some u → isO S u 2) (e : cRule S rl k = some u) : isO S u 2 := by
  unfold cRule at e
  by_cases h0 : k < 0
  · rw [if_pos h0] at e; cases e
  · rw [if_neg h0] at e
    by_cases h1 : k < 5
    · rw [if_pos h1] at e
      rcases pk_ix k (n := 5) (by decide) with h2 | h2 | ⟨j, hj, rfl⟩
      · exact absurd h2 h0
      · exact absurd h1 (Int32.not_lt.mpr h2)
      · rw [ki_cl (by omega)] at e
        exact h j hj u e
    · rw [if_neg h1] at e; cases e
