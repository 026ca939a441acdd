/-! draws: calls of methods that may draw, loops over any record; pools that differ in one object's numbers -/
section KD
variable {p : Program} {l : Launch} {e : Env} {R : Room} {s : State} {m : MethodId} {args : Array Value} {below : List Frame} {meth : Method} {c : Code} {H : Heap} {locs : List Loc} {cells slots mc ms : Nat} {Q : State → Prop}
variable {pc : Nat} {ls : Array Slot} {st0 rest : List Value} {D : va_G} {A : Nat → Prop} {H0 : Heap} {cA : Nat → ClassId} {ws : va_W} {as : Array Value} {d0 : Drawn}
theorem kcD_i (hd0 : s.drawn.sameBut d0 lw_cs) {X : Type} {w : X → va_W} {φ : Int32 → X → Prop} (hr : va_RunD lw_cs p l e R (s.setDrawn d0) m args below meth c H locs cells slots mc ms (F0 m pc ls st0) rest (va_Qi φ (fun x => kB D cA (va_A ws H.size) (w x)) (va_A ws H.size) as) (va_A ws H.size)) (hD : va_D A ws) (hS : va_S A H0 H locs) (hA : ∀ q, H0.size ≤ q → A q)
    (kk : ∀ (r : Int32) (x : X) (H1 : Heap) (locs1 : List Loc), φ r x → va_P D vwCl (w x) H1 → va_D A (w x) → va_S A H0 H1 locs1 → ∀ d1 : Drawn, s.drawn.sameBut d1 lw_cs → W p l e R (s.setDrawn d1) m args below meth c H1 locs1 (cells + mc) (slots + ms) Q (F0 m (pc + 3) ls (.int r :: rest))) : W p l e R (s.setDrawn d0) m args below meth c H locs cells slots Q (F0 m pc ls st0) := by
  have hF := kp_A hD hS hA
  refine va_calliD hd0 hr hS (fun q _ h => hF q h) hF (fun r u t H1 locs1 ht hvm hw hB hz1 hk1 hS1 d1 hd1 => ?_)
  obtain ⟨b1, b2, b3⟩ := hB
  rw [ht] at b1
  exact kk r u H1 locs1 hw b1 (b3.weaken (fun _ _ _ h => hF _ h)) hS1 d1 hd1
theorem kcD_l (hd0 : s.drawn.sameBut d0 lw_cs) {X : Type} {w : X → va_W} {φ : Int64 → X → Prop} (hr : va_RunD lw_cs p l e R (s.setDrawn d0) m args below meth c H locs cells slots mc ms (F0 m pc ls st0) rest (va_Ql φ (fun x => kB D cA (va_A ws H.size) (w x)) (va_A ws H.size) as) (va_A ws H.size)) (hD : va_D A ws) (hS : va_S A H0 H locs) (hA : ∀ q, H0.size ≤ q → A q)
    (kk : ∀ (r : Int64) (x : X) (H1 : Heap) (locs1 : List Loc), φ r x → va_P D vwCl (w x) H1 → va_D A (w x) → va_S A H0 H1 locs1 → ∀ d1 : Drawn, s.drawn.sameBut d1 lw_cs → W p l e R (s.setDrawn d1) m args below meth c H1 locs1 (cells + mc) (slots + ms) Q (F0 m (pc + 3) ls (.long r :: rest))) : W p l e R (s.setDrawn d0) m args below meth c H locs cells slots Q (F0 m pc ls st0) := by
  have hF := kp_A hD hS hA
  refine va_calllD hd0 hr hS (fun q _ h => hF q h) hF (fun r u t H1 locs1 ht hvm hw hB hz1 hk1 hS1 d1 hd1 => ?_)
  obtain ⟨b1, b2, b3⟩ := hB
  rw [ht] at b1
  exact kk r u H1 locs1 hw b1 (b3.weaken (fun _ _ _ h => hF _ h)) hS1 d1 hd1
theorem kcD_d (hd0 : s.drawn.sameBut d0 lw_cs) {X : Type} {w : X → va_W} {φ : UInt64 → X → Prop} (hr : va_RunD lw_cs p l e R (s.setDrawn d0) m args below meth c H locs cells slots mc ms (F0 m pc ls st0) rest (va_Qd φ (fun x => kB D cA (va_A ws H.size) (w x)) (va_A ws H.size) as) (va_A ws H.size)) (hD : va_D A ws) (hS : va_S A H0 H locs) (hA : ∀ q, H0.size ≤ q → A q)
    (kk : ∀ (r : UInt64) (x : X) (H1 : Heap) (locs1 : List Loc), φ r x → va_P D vwCl (w x) H1 → va_D A (w x) → va_S A H0 H1 locs1 → ∀ d1 : Drawn, s.drawn.sameBut d1 lw_cs → W p l e R (s.setDrawn d1) m args below meth c H1 locs1 (cells + mc) (slots + ms) Q (F0 m (pc + 3) ls (.double r :: rest))) : W p l e R (s.setDrawn d0) m args below meth c H locs cells slots Q (F0 m pc ls st0) := by
  have hF := kp_A hD hS hA
  refine va_calldD hd0 hr hS (fun q _ h => hF q h) hF (fun r u t H1 locs1 ht hvm hw hB hz1 hk1 hS1 d1 hd1 => ?_)
  obtain ⟨b1, b2, b3⟩ := hB
  rw [ht] at b1
  exact kk r u H1 locs1 hw b1 (b3.weaken (fun _ _ _ h => hF _ h)) hS1 d1 hd1
/-- a loop with its head at pc, over any record of draws -/
theorem kz_loopD (pc : Nat) (I : Nat → Heap → List Loc → Array Slot → Prop) {st : List Value} (h : ∀ n, (∀ k, k < n → ∀ (H : Heap) (locs : List Loc) (ls : Array Slot) (d : Drawn), s.drawn.sameBut d lw_cs → I k H locs ls → W p l e R (s.setDrawn d) m args below meth c H locs cells slots Q (F0 m pc ls st)) → ∀ (H : Heap) (locs : List Loc) (ls : Array Slot) (d : Drawn), s.drawn.sameBut d lw_cs → I n H locs ls → W p l e R (s.setDrawn d) m args below meth c H locs cells slots Q (F0 m pc ls st)) (hd0 : s.drawn.sameBut d0 lw_cs) {ls0 : Array Slot} {n : Nat} (h0 : I n H locs ls0) : W p l e R (s.setDrawn d0) m args below meth c H locs cells slots Q (F0 m pc ls0 st) := by
  have key : ∀ n, ∀ (H : Heap) (locs : List Loc) (ls : Array Slot) (d : Drawn), s.drawn.sameBut d lw_cs → I n H locs ls → W p l e R (s.setDrawn d) m args below meth c H locs cells slots Q (F0 m pc ls st) := by
    intro n
    induction n using Nat.strongRecOn with
    | _ n ih => exact h n ih
  exact key n _ _ _ _ hd0 h0
end KD
/-- the same pool but for the numbers of one object -/
def eqA (S T : Pool) (ak : Nat) : Prop := gL T = gL S ∧ gK T = gK S ∧ gN T = gN S ∧ (∀ b, b ≠ ak → gI T b = gI S b) ∧ gQ T = gQ S ∧ gR T = gR S ∧ gJ T = gJ S ∧ gP T = gP S
theorem eqA.rf {S : Pool} {ak : Nat} : eqA S S ak := ⟨rfl, rfl, rfl, fun _ _ => rfl, rfl, rfl, rfl, rfl⟩
theorem eqA.tr {S T U : Pool} {ak : Nat} (h : eqA S T ak) (g : eqA T U ak) : eqA S U ak := ⟨g.1.trans h.1, g.2.1.trans h.2.1, g.2.2.1.trans h.2.2.1, fun b hb => (g.2.2.2.1 b hb).trans (h.2.2.2.1 b hb), g.2.2.2.2.1.trans h.2.2.2.2.1, g.2.2.2.2.2.1.trans h.2.2.2.2.2.1, g.2.2.2.2.2.2.1.trans h.2.2.2.2.2.2.1, g.2.2.2.2.2.2.2.trans h.2.2.2.2.2.2.2⟩
theorem eqA.pI {S : Pool} {ak k : Nat} {v : Int32} : eqA S (pI S ak k v) ak := ⟨rfl, rfl, rfl, fun _ hb => u2_row hb, rfl, rfl, rfl, rfl⟩
theorem eqA.bec {S : Pool} {ak : Nat} {u f g : Int32} : eqA S (cBec S ak u f g) ak := ((((eqA.pI (k := 0) (v := u)).tr (eqA.pI (k := 1) (v := f))).tr (eqA.pI (k := 2) (v := g))).tr (eqA.pI (k := 3) (v := -1))).tr (eqA.pI (k := 4) (v := -1))
theorem eqA.o {S T : Pool} {ak a k : Nat} (h : eqA S T ak) (ho : isO S a k) : isO T a k := ⟨by rw [h.1]; exact ho.1, by rw [h.2.1]; exact ho.2⟩
theorem eqA.a {S T : Pool} {ak a k n : Nat} (h : eqA S T ak) (ho : isA S a k n) : isA T a k n := ⟨by rw [h.1]; exact ho.1, by rw [h.2.1]; exact ho.2.1, by rw [h.2.2.1]; exact ho.2.2⟩
theorem eqA.q {S T : Pool} {ak : Nat} (h : eqA S T ak) (a k : Nat) : gQ T a k = gQ S a k := by rw [h.2.2.2.2.1]
theorem eqA.p {S T : Pool} {ak : Nat} (h : eqA S T ak) (a k : Nat) : gP T a k = gP S a k := by rw [h.2.2.2.2.2.2.2]
theorem eqA.ext {S T : Pool} {ak : Nat} (h : eqA S T ak) : Ext S T := fun b hb => ⟨⟨by rw [h.1]; exact hb, by rw [h.2.1], by rw [h.2.2.1]⟩, fun k => h.q b k, fun k => h.p b k⟩
theorem eqA.i {S T : Pool} {ak a ka : Nat} (h : eqA S T ak) (hak : isO S ak 1) (ha : isO S a ka) (hk : ka ≠ 1) (k : Nat) : gI T a k = gI S a k := by rw [h.2.2.2.1 a (ne_of_kind ha.2 hak.2 hk)]
theorem eqA.okR {S T : Pool} {ak ar : Nat} (h : eqA S T ak) (hak : isO S ak 1) (hR : okR S ar) : okR T ar := by
  refine ⟨h.a hR.1, fun j hj a ha => ?_⟩
  rw [h.p] at ha
  obtain ⟨h1, h2⟩ := hR.2 j hj a ha
  exact ⟨h.ext.sw h1 (by rw [h.i hak h1.1 (by decide)]; exact h1.2.2.2.2.2), (h.i hak h1.1 (by decide) 0).trans h2⟩
theorem eqA.sw {S T : Pool} {ak ar : Nat} (h : eqA S T ak) (v : Int32) : kSw T ar v = kSw S ar v := by unfold kSw; rw [h.p]
