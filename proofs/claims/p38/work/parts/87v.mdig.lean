/-! the reference: its digest, exact -/
def rSmT (M : MSt) (na j : Nat) (q v : Int32) : Int32 := rTold M.2 (nI j) v q na 0 0
def rLfT (M : MSt) (n z : Nat) : Int32 := rLeft M.2 (nI z) n 0 1000
def rShT (M : MSt) (j : Nat) : Int32 := rFar M.2 j (M.1 1 + 0)
def rBdT (M : MSt) (na : Nat) (vcs : Nat → Nat) (j : Nat) : Int32 := rBad M.2 j na (vcs j)
def rTrT (M : MSt) (na : Nat) (vcs : Nat → Nat) (j : Nat) : Int32 := rTru M.2 j na (rBad M.2 j na (vcs j)) (vcs j) 0 0
def rBeT (M : MSt) (na : Nat) (vcs : Nat → Nat) (j : Nat) : Int32 := kBest (fun v => rTold M.2 (nI j) v 2 na 0 0) (fun v => rTold M.2 (nI j) v 0 na 0 0) (vcs j) 0 (-1)
def rWeT (M : MSt) (j v : Nat) : Int32 := M.2 6 (4 * j + v)
def rToT (M : MSt) (na j v q : Nat) : Int32 := rTold M.2 (nI j) (nI v) (nI q) na 0 0
def rFuT (M : MSt) (na : Nat) (ru : Nat → Nat) (j u : Nat) : Int32 := (rBy M na ru j u).1
def rGeT (M : MSt) (na : Nat) (ru : Nat → Nat) (j u : Nat) : Int32 := (rG M.2 (M.1 2) (M.2 11) (fun k => rFar M.2 k (M.1 1)) (nI u) (nI u) (9 - nI u) na ru 8 j).1
def rWhT (M : MSt) (na : Nat) (ru : Nat → Nat) (j u : Nat) : Int32 := (rG M.2 (M.1 2) (M.2 11) (fun k => rFar M.2 k (M.1 1)) (nI u) (nI u) (9 - nI u) na ru 8 j).2
def rArT (M : MSt) (na j u : Nat) : Int32 := rArmV M.2 (rArm M.2 (nI j) (nI u) na 0)
def rDig (M : MSt) (n na : Nat) (ru vcs : Nat → Nat) : Int64 := dAll n na (rLfT M n) (fun k d => dSwi (vcs k) (rShT M k) (rBdT M na vcs k) (rTrT M na vcs k) (rBeT M na vcs k) (rWeT M k) (rToT M na k) (rFuT M na ru k) d) (rGeT M na ru) (rWhT M na ru) (rArT M na)
