/-! the reference's methods, where the switch is there -/
theorem kIn_sw {n i : Nat} {v : Int32} (hi : i < n) (hn8 : n ≤ 8) (h3 : v = nI n) : kIn (nI i) 0 (v - 1) = 1 := by
  subst h3
  rw [show nI n - 1 = nI (n - 1) from pk_sub (a := n) (b := 1) (by omega)]
  unfold kIn
  rw [if_neg (fun h => by have := (nI_ltI (a := i) (b := 0) (by omega) (by omega)).mp h; omega), if_neg (fun h => by have := (nI_ltI (a := n - 1) (b := i) (by omega) (by omega)).mp h; omega)]
theorem kIn_1 {v lo hi : Int32} (h : ¬ kIn v lo hi = 0) : kIn v lo hi = 1 := (kIn_01 v lo hi).resolve_left h
/-- is the rest of a question right -/
def qAsk (u f g : Int32) : Int32 := if kIn u 0 9999 = 0 then 0 else if kIn f 0 9 = 0 then 0 else if kIn g 0 9 = 0 then 0 else 1
/-- what is left of a layer -/
def rLeft (T : Rows) (la : Int32) : Nat → Nat → Int32 → Int32
  | 0, _, acc => acc
  | c + 1, k, acc => rLeft T la c (k + 1) (acc - (if T 12 k = la then T 14 k - T 13 k else 0))
