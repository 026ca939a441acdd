/-! loops and joints of a walk -/
section KZ
variable {p : Program} {l : Launch} {e : Env} {R : Room} {s : State} {m : MethodId} {args : Array Value} {below : List Frame} {meth : Method} {c : Code} {H0 : Heap} {locs0 : List Loc} {cells slots : Nat} {Q : State → Prop}
/-- a loop with its head at pc: what holds there (I), with a number that falls -/
theorem kz_loop (pc : Nat) (I : Nat → Heap → List Loc → Array Slot → Prop) {st : List Value} (h : ∀ n, (∀ k, k < n → ∀ (H : Heap) (locs : List Loc) (ls : Array Slot), I k H locs ls → W p l e R s m args below meth c H locs cells slots Q (F0 m pc ls st)) → ∀ (H : Heap) (locs : List Loc) (ls : Array Slot), I n H locs ls → W p l e R s m args below meth c H locs cells slots Q (F0 m pc ls st)) {ls0 : Array Slot} {n : Nat} (h0 : I n H0 locs0 ls0) : W p l e R s m args below meth c H0 locs0 cells slots Q (F0 m pc ls0 st) := by
  have key : ∀ n, ∀ (H : Heap) (locs : List Loc) (ls : Array Slot), I n H locs ls → W p l e R s m args below meth c H locs cells slots Q (F0 m pc ls st) := by
    intro n
    induction n using Nat.strongRecOn with
    | _ n ih => exact h n ih
  exact key n _ _ _ h0
/-- several ways come together at pc -/
theorem kz_cut (pc : Nat) (I : Heap → List Loc → Array Slot → List Value → Prop) {g : JFrame} (g0 : (∀ (H : Heap) (locs : List Loc) (ls : Array Slot) (st : List Value), I H locs ls st → W p l e R s m args below meth c H locs cells slots Q (F0 m pc ls st)) → W p l e R s m args below meth c H0 locs0 cells slots Q g) (g1 : ∀ (H : Heap) (locs : List Loc) (ls : Array Slot) (st : List Value), I H locs ls st → W p l e R s m args below meth c H locs cells slots Q (F0 m pc ls st)) : W p l e R s m args below meth c H0 locs0 cells slots Q g := g0 g1
end KZ
/-- places -/
theorem ki_in {n N : Nat} (h : n < N) (hN : N < 2 ^ 31) : vp_in (nI n) N := vp_in_nI h hN
theorem ki_cl {n : Nat} (h : n < 2 ^ 31) : (nI n).toNatClampNeg = n := nI_clamp h
