/-! layers, arms, what came of them: the reference -/
/-- what is told of the arms of a variant -/
def rTold (T : Rows) (one va what : Int32) : Nat → Nat → Int32 → Int32
  | 0, _, acc => acc
  | c + 1, k, acc => if T 23 k = one then (if T 25 k = va then rTold T one va what c (k + 1) (acc + (if what = 0 then 1 else if what = 1 then (if T 27 k = 0 then 0 else 1) else if what = 2 then T 26 k else T 26 k * T 26 k)) else rTold T one va what c (k + 1) acc) else rTold T one va what c (k + 1) acc
def rArmV (T : Rows) (k : Int32) : Int32 := if k = -1 then -1 else T 25 k.toNatClampNeg
