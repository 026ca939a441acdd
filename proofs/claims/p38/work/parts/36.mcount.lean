/-! users counted: the reference -/
/-- what the user number u gets of the switch i, and why -/
def rBy (M : MSt) (na : Nat) (ru : Nat → Nat) (i u : Nat) : Int32 × Int32 := rG M.2 (M.1 2) (M.2 11) (fun k => rFar M.2 k (M.1 1)) (nI u) (nI u - nI u / 10 * 10) (nI u / 10 - nI u / 10 / 10 * 10) na ru 8 i
def rCnt (f : Nat → Int32) : Nat → Nat → Int32 → Int32
  | 0, _, acc => acc
  | c + 1, k, acc => rCnt f c (k + 1) (acc + f k)
def rAll (f : Nat → Int32) : Nat → Nat → Int32 → Int32
  | 0, _, acc => acc
  | c + 1, k, acc => rAll f c (k + 1) (acc * 4 + f k)
theorem rBy_s {M : MSt} {na : Nat} {ru : Nat → Nat} {i u : Nat} {ρ : Int32} : rBy (mS M 28 ρ) na ru i u = rBy M na ru i u := rfl
