/-! what stays where other cells change -/
theorem chn_ext {S S' : Pool} (hO : ∀ a, isO S a 0 → isO S' a 0) (hQ : ∀ a, isO S a 0 → gQ S' a 2 = gQ S a 2) : ∀ n r, chn S n r → chn S' n r := by
  intro n
  induction n with
  | zero => intro r h; exact h
  | succ n ih =>
    intro r h
    obtain ⟨a, e, h1, h2⟩ := h
    exact ⟨a, e, hO a h1, by rw [hQ a h1]; exact ih _ h2⟩
/-- the old cells of S lie in S', with the same references -/
def Ext (S S' : Pool) : Prop := ∀ b, b ∈ gL S → (b ∈ gL S' ∧ gK S' b = gK S b ∧ gN S' b = gN S b) ∧ (∀ k, gQ S' b k = gQ S b k) ∧ ∀ k, gP S' b k = gP S b k
theorem Ext.o {S S' : Pool} (h : Ext S S') {a k : Nat} (ho : isO S a k) : isO S' a k := ⟨(h a ho.1).1.1, (h a ho.1).1.2.1.trans ho.2⟩
theorem Ext.a {S S' : Pool} (h : Ext S S') {a k n : Nat} (ho : isA S a k n) : isA S' a k n := ⟨(h a ho.1).1.1, (h a ho.1).1.2.1.trans ho.2.1, (h a ho.1).1.2.2.trans ho.2.2⟩
theorem Ext.rf {S : Pool} : Ext S S := fun b hb => ⟨⟨hb, rfl, rfl⟩, fun _ => rfl, fun _ => rfl⟩
theorem Ext.tr {S S' S2 : Pool} (h : Ext S S') (g : Ext S' S2) : Ext S S2 := fun b hb => ⟨⟨(g b (h b hb).1.1).1.1, (g b (h b hb).1.1).1.2.1.trans (h b hb).1.2.1, (g b (h b hb).1.1).1.2.2.trans (h b hb).1.2.2⟩, fun k => ((g b (h b hb).1.1).2.1 k).trans ((h b hb).2.1 k), fun k => ((g b (h b hb).1.1).2.2 k).trans ((h b hb).2.2 k)⟩
theorem Ext.pI {S : Pool} {a k : Nat} {v : Int32} : Ext S (pI S a k v) := fun b hb => ⟨⟨hb, rfl, rfl⟩, fun _ => rfl, fun _ => rfl⟩
theorem Ext.pR {S : Pool} {a k : Nat} {v : Int32} : Ext S (pR S a k v) := fun b hb => ⟨⟨hb, rfl, rfl⟩, fun _ => rfl, fun _ => rfl⟩
theorem Ext.pJ {S : Pool} {a k : Nat} {v : Int64} : Ext S (pJ S a k v) := fun b hb => ⟨⟨hb, rfl, rfl⟩, fun _ => rfl, fun _ => rfl⟩
theorem Ext.new {S : Pool} {q ki n : Nat} (hq : q ∉ gL S) : Ext S (pW S q ki n) := fun b hb => ⟨⟨List.mem_append_left _ hb, up_ne (ne_new hb hq), up_ne (ne_new hb hq)⟩, fun _ => gQ_new hb hq, fun _ => gP_new hb hq⟩
theorem Ext.sw {S S' : Pool} (h : Ext S S') {a : Nat} (hs : okSw S a) (h9 : gI S' a 9 = 0 ∨ gI S' a 9 = 1) : okSw S' a := by
  obtain ⟨ho, ⟨wt, w1, w2⟩, ⟨rl, r1, r2, r3⟩, ⟨n, n1, n2⟩, ⟨ty, t1, t2, ⟨a0, u0, v0⟩, ⟨a1, u1, v1⟩, ⟨a2, u2, v2⟩, ⟨a3, u3, v3⟩⟩, -⟩ := hs
  have q := fun k => (h a ho.1).2.1 k
  have qt := fun k => (h ty t2.1).2.1 k
  refine ⟨h.o ho, ⟨wt, (q 4).trans w1, h.a w2⟩, ⟨rl, (q 5).trans r1, h.a r2, fun k hk u hu => h.o (r3 k hk u ?_)⟩, ⟨n, n1, ?_⟩, ⟨ty, (q 6).trans t1, h.o t2, ⟨a0, (qt 0).trans u0, h.a v0⟩, ⟨a1, (qt 1).trans u1, h.a v1⟩, ⟨a2, (qt 2).trans u2, h.a v2⟩, ⟨a3, (qt 3).trans u3, h.a v3⟩⟩, h9⟩
  · rw [← (h rl r2.1).2.2 k]; exact hu
  · rw [q 7]
    exact chn_ext (fun b hb => h.o hb) (fun b hb => (h b hb.1).2.1 2) n _ n2
/-- a number of an object that is no switch changes -/
theorem okR_pI {S : Pool} {ar b k kb : Nat} {v : Int32} (h : okR S ar) (hb : isO S b kb) (hk : kb ≠ 3) : okR (pI S b k v) ar := by
  refine ⟨h.1, fun j hj a ha => ?_⟩
  obtain ⟨h1, h2⟩ := h.2 j hj a ha
  have hne : a ≠ b := ne_of_kind h1.1.2 hb.2 (fun e => hk e.symm)
  have e9 : ∀ q, gI (pI S b k v) a q = gI S a q := fun q => u2_a hne
  exact ⟨Ext.pI.sw h1 (by rw [e9]; exact h1.2.2.2.2.2), (e9 0).trans h2⟩
/-- who asks, and what -/
def cBec (S : Pool) (ak : Nat) (u f g : Int32) : Pool := pI (pI (pI (pI (pI S ak 0 u) ak 1 f) ak 2 g) ak 3 (-1)) ak 4 (-1)
theorem okR_bec {S : Pool} {ar ak : Nat} {u f g : Int32} (h : okR S ar) (hak : isO S ak 1) : okR (cBec S ak u f g) ar := by
  have d : (1 : Nat) ≠ 3 := by decide
  have h1 := okR_pI (k := 0) (v := u) h hak d
  have h2 := okR_pI (k := 1) (v := f) h1 (b := ak) (kb := 1) hak d
  have h3 := okR_pI (k := 2) (v := g) h2 (b := ak) (kb := 1) hak d
  have h4 := okR_pI (k := 3) (v := -1) h3 (b := ak) (kb := 1) hak d
  exact okR_pI (k := 4) (v := -1) h4 (b := ak) (kb := 1) hak d
