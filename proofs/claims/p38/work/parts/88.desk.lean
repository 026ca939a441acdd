/-! Desk's cells: where they lie (one, weight, rules, arms, and the rows in them), and what they hold -/
abbrev DA : Type := Nat × Nat × Nat × Nat × (Nat → Nat) × (Nat → Nat) × (Nat → Nat) × (Nat → Nat → Nat) × (Nat → Nat)
abbrev aO (A : DA) : Nat := A.1
abbrev aW (A : DA) : Nat := A.2.1
abbrev aR (A : DA) : Nat := A.2.2.1
abbrev aA (A : DA) : Nat := A.2.2.2.1
abbrev aOk (A : DA) : Nat → Nat := A.2.2.2.2.1
abbrev aWk (A : DA) : Nat → Nat := A.2.2.2.2.2.1
abbrev aRk (A : DA) : Nat → Nat := A.2.2.2.2.2.2.1
abbrev aRR (A : DA) : Nat → Nat → Nat := A.2.2.2.2.2.2.2.1
abbrev aAk (A : DA) : Nat → Nat := A.2.2.2.2.2.2.2.2
/-- switches, arms, numbers by the place of the field, rows -/
abbrev DV : Type := Nat × Nat × (Nat → Int32) × (Nat → Nat → Int32) × (Nat → Nat → Int32) × (Nat → Nat) × (Nat → Nat → Nat → Int32) × (Nat → Nat → Int32)
abbrev vN (V : DV) : Nat := V.1
abbrev vA (V : DV) : Nat := V.2.1
abbrev vF (V : DV) : Nat → Int32 := V.2.2.1
abbrev vO (V : DV) : Nat → Nat → Int32 := V.2.2.2.1
abbrev vW (V : DV) : Nat → Nat → Int32 := V.2.2.2.2.1
abbrev vC (V : DV) : Nat → Nat := V.2.2.2.2.2.1
abbrev vR (V : DV) : Nat → Nat → Nat → Int32 := V.2.2.2.2.2.2.1
abbrev vB (V : DV) : Nat → Nat → Int32 := V.2.2.2.2.2.2.2
abbrev vsF (V : DV) (k : Nat) (v : Int32) : DV := (vN V, vA V, upd (vF V) k v, vO V, vW V, vC V, vR V, vB V)
abbrev vsO (V : DV) (k j : Nat) (v : Int32) : DV := (vN V, vA V, vF V, u2 (vO V) k j v, vW V, vC V, vR V, vB V)
abbrev vsW (V : DV) (k j : Nat) (v : Int32) : DV := (vN V, vA V, vF V, vO V, u2 (vW V) k j v, vC V, vR V, vB V)
abbrev vsB (V : DV) (k j : Nat) (v : Int32) : DV := (vN V, vA V, vF V, vO V, vW V, vC V, vR V, u2 (vB V) k j v)
def DKa (T : Pool) (d x b : Nat) (A : DA) (V : DV) : Prop := isO T d 23 ∧ gQ T d 0 = some x ∧ gQ T d 1 = some b ∧ gQ T d 6 = some (aO A) ∧ gQ T d 7 = some (aW A) ∧ gQ T d 8 = some (aR A) ∧ gQ T d 9 = some (aA A) ∧ ∀ k, gI T d k = vF V k
def DKb (T : Pool) (A : DA) (V : DV) : Prop := isA T (aO A) 24 8 ∧ isA T (aW A) 24 8 ∧ isA T (aR A) 25 8 ∧ isA T (aA A) 24 (vA V) ∧ aO A ≠ aW A ∧ aO A ≠ aA A ∧ (∀ k, k < 8 → aO A ≠ aRk A k) ∧ vN V ≤ 8
def DKo (T : Pool) (A : DA) (V : DV) : Prop := (∀ k, k < vN V → gP T (aO A) k = some (aOk A k) ∧ isA T (aOk A k) 7 12 ∧ ∀ j, j < 12 → gR T (aOk A k) j = vO V k j) ∧ ∀ i k, i < vN V → k < vN V → aOk A i = aOk A k → i = k
def DKw (T : Pool) (A : DA) (V : DV) : Prop := (∀ k, k < 8 → gP T (aW A) k = some (aWk A k) ∧ isA T (aWk A k) 8 4 ∧ ∀ j, j < 4 → gR T (aWk A k) j = vW V k j) ∧ ∀ i k, i < 8 → k < 8 → aWk A i = aWk A k → i = k
def DKr (T : Pool) (A : DA) (V : DV) : Prop := ∀ k, k < 8 → gP T (aR A) k = some (aRk A k) ∧ isA T (aRk A k) 24 (vC V k) ∧ ∀ i, i < vC V k → gP T (aRk A k) i = some (aRR A k i) ∧ isA T (aRR A k i) 9 4 ∧ ∀ j, j < 4 → gR T (aRR A k i) j = vR V k i j
def DKm (T : Pool) (A : DA) (V : DV) : Prop := (∀ i, i < vA V → gP T (aA A) i = some (aAk A i) ∧ isA T (aAk A i) 13 5 ∧ ∀ j, j < 5 → gR T (aAk A i) j = vB V i j) ∧ ∀ i k, i < vA V → k < vA V → aAk A i = aAk A k → i = k
def DK (T : Pool) (d x b : Nat) (A : DA) (V : DV) : Prop := DKa T d x b A V ∧ DKb T A V ∧ DKo T A V ∧ DKw T A V ∧ DKr T A V ∧ DKm T A V
/-- all old cells stay as they were -/
def ExtA (T U : Pool) : Prop := ∀ b, b ∈ gL T → (b ∈ gL U ∧ gK U b = gK T b ∧ gN U b = gN T b) ∧ (∀ k, gI U b k = gI T b k) ∧ (∀ k, gQ U b k = gQ T b k) ∧ (∀ k, gR U b k = gR T b k) ∧ ∀ k, gP U b k = gP T b k
theorem ExtA.rf {T : Pool} : ExtA T T := fun _ hb => ⟨⟨hb, rfl, rfl⟩, fun _ => rfl, fun _ => rfl, fun _ => rfl, fun _ => rfl⟩
theorem ExtA.tr {T U Z : Pool} (h : ExtA T U) (g : ExtA U Z) : ExtA T Z := fun b hb => by
  obtain ⟨⟨h1, h2, h3⟩, h4, h5, h6, h7⟩ := h b hb
  obtain ⟨⟨g1, g2, g3⟩, g4, g5, g6, g7⟩ := g b h1
  exact ⟨⟨g1, g2.trans h2, g3.trans h3⟩, fun k => (g4 k).trans (h4 k), fun k => (g5 k).trans (h5 k), fun k => (g6 k).trans (h6 k), fun k => (g7 k).trans (h7 k)⟩
theorem ExtA.new {T : Pool} {q ki n : Nat} (hq : q ∉ gL T) : ExtA T (pW T q ki n) := fun b hb => ⟨⟨List.mem_append_left _ hb, up_ne (ne_new hb hq), up_ne (ne_new hb hq)⟩, fun _ => gI_new hb hq, fun _ => gQ_new hb hq, fun _ => gR_new hb hq, fun _ => gP_new hb hq⟩
theorem ExtA.pR {T U : Pool} (h : ExtA T U) {q k : Nat} {v : Int32} (hq : q ∉ gL T) : ExtA T (pR U q k v) := fun b hb => ⟨(h b hb).1, (h b hb).2.1, (h b hb).2.2.1, fun j => (u2_a (ne_new hb hq)).trans ((h b hb).2.2.2.1 j), (h b hb).2.2.2.2⟩
theorem ExtA.pP {T U : Pool} (h : ExtA T U) {q k : Nat} {v : Option Nat} (hq : q ∉ gL T) : ExtA T (pP U q k v) := fun b hb => ⟨(h b hb).1, (h b hb).2.1, (h b hb).2.2.1, (h b hb).2.2.2.1, fun j => (u2_a (ne_new hb hq)).trans ((h b hb).2.2.2.2 j)⟩
theorem ExtA.o {T U : Pool} (h : ExtA T U) {a k : Nat} (ho : isO T a k) : isO U a k := ⟨(h a ho.1).1.1, (h a ho.1).1.2.1.trans ho.2⟩
theorem ExtA.a {T U : Pool} (h : ExtA T U) {a k n : Nat} (ho : isA T a k n) : isA U a k n := ⟨(h a ho.1).1.1, (h a ho.1).1.2.1.trans ho.2.1, (h a ho.1).1.2.2.trans ho.2.2⟩
theorem ExtA.nm {T U : Pool} (h : ExtA T U) {q : Nat} (hq : q ∉ gL U) : q ∉ gL T := fun hm => hq (h q hm).1.1
theorem DK.ext {T U : Pool} {d x b : Nat} {A : DA} {V : DV} (h : DK T d x b A V) (e : ExtA T U) : DK U d x b A V := by
  obtain ⟨⟨a1, a2, a3, a4, a5, a6, a7, a8⟩, ⟨b1, b2, b3, b4, b5, b6, b7, b8⟩, ⟨c1, c2⟩, ⟨d1, d2⟩, e1, f1, f2⟩ := h
  have ed := e d a1.1
  refine ⟨⟨e.o a1, (ed.2.2.1 0).trans a2, (ed.2.2.1 1).trans a3, (ed.2.2.1 6).trans a4, (ed.2.2.1 7).trans a5, (ed.2.2.1 8).trans a6, (ed.2.2.1 9).trans a7, fun k => (ed.2.1 k).trans (a8 k)⟩, ⟨e.a b1, e.a b2, e.a b3, e.a b4, b5, b6, b7, b8⟩, ⟨fun k hk => ?_, c2⟩, ⟨fun k hk => ?_, d2⟩, fun k hk => ?_, fun i hi => ?_, f2⟩
  · obtain ⟨g1, g2, g3⟩ := c1 k hk
    exact ⟨((e _ b1.1).2.2.2.2 k).trans g1, e.a g2, fun j hj => ((e _ g2.1).2.2.2.1 j).trans (g3 j hj)⟩
  · obtain ⟨g1, g2, g3⟩ := d1 k hk
    exact ⟨((e _ b2.1).2.2.2.2 k).trans g1, e.a g2, fun j hj => ((e _ g2.1).2.2.2.1 j).trans (g3 j hj)⟩
  · obtain ⟨g1, g2, g3⟩ := e1 k hk
    refine ⟨((e _ b3.1).2.2.2.2 k).trans g1, e.a g2, fun i hi => ?_⟩
    obtain ⟨k1, k2, k3⟩ := g3 i hi
    exact ⟨((e _ g2.1).2.2.2.2 i).trans k1, e.a k2, fun j hj => ((e _ k2.1).2.2.2.1 j).trans (k3 j hj)⟩
  · obtain ⟨g1, g2, g3⟩ := f1 i hi
    exact ⟨((e _ b4.1).2.2.2.2 i).trans g1, e.a g2, fun j hj => ((e _ g2.1).2.2.2.1 j).trans (g3 j hj)⟩
section DKS
variable {T : Pool} {d x b : Nat} {A : DA} {V : DV}
theorem DK.o (h : DK T d x b A V) : isO T d 23 := h.1.1
theorem DK.q0 (h : DK T d x b A V) : gQ T d 0 = some x := h.1.2.1
theorem DK.q1 (h : DK T d x b A V) : gQ T d 1 = some b := h.1.2.2.1
theorem DK.q6 (h : DK T d x b A V) : gQ T d 6 = some (aO A) := h.1.2.2.2.1
theorem DK.q7 (h : DK T d x b A V) : gQ T d 7 = some (aW A) := h.1.2.2.2.2.1
theorem DK.q8 (h : DK T d x b A V) : gQ T d 8 = some (aR A) := h.1.2.2.2.2.2.1
theorem DK.q9 (h : DK T d x b A V) : gQ T d 9 = some (aA A) := h.1.2.2.2.2.2.2.1
theorem DK.f (h : DK T d x b A V) (k : Nat) : gI T d k = vF V k := h.1.2.2.2.2.2.2.2 k
theorem DK.n8 (h : DK T d x b A V) : vN V ≤ 8 := h.2.1.2.2.2.2.2.2.2
theorem DK.ao (h : DK T d x b A V) : isA T (aO A) 24 8 := h.2.1.1
theorem DK.aw (h : DK T d x b A V) : isA T (aW A) 24 8 := h.2.1.2.1
theorem DK.ar (h : DK T d x b A V) : isA T (aR A) 25 8 := h.2.1.2.2.1
theorem DK.aa (h : DK T d x b A V) : isA T (aA A) 24 (vA V) := h.2.1.2.2.2.1
theorem DK.op (h : DK T d x b A V) {k : Nat} (hk : k < vN V) : gP T (aO A) k = some (aOk A k) := (h.2.2.1.1 k hk).1
theorem DK.oa (h : DK T d x b A V) {k : Nat} (hk : k < vN V) : isA T (aOk A k) 7 12 := (h.2.2.1.1 k hk).2.1
theorem DK.ov (h : DK T d x b A V) {k j : Nat} (hk : k < vN V) (hj : j < 12) : gR T (aOk A k) j = vO V k j := (h.2.2.1.1 k hk).2.2 j hj
theorem DK.wp (h : DK T d x b A V) {k : Nat} (hk : k < 8) : gP T (aW A) k = some (aWk A k) := (h.2.2.2.1.1 k hk).1
theorem DK.wa (h : DK T d x b A V) {k : Nat} (hk : k < 8) : isA T (aWk A k) 8 4 := (h.2.2.2.1.1 k hk).2.1
theorem DK.wv (h : DK T d x b A V) {k j : Nat} (hk : k < 8) (hj : j < 4) : gR T (aWk A k) j = vW V k j := (h.2.2.2.1.1 k hk).2.2 j hj
theorem DK.rp (h : DK T d x b A V) {k : Nat} (hk : k < 8) : gP T (aR A) k = some (aRk A k) := (h.2.2.2.2.1 k hk).1
theorem DK.ra (h : DK T d x b A V) {k : Nat} (hk : k < 8) : isA T (aRk A k) 24 (vC V k) := (h.2.2.2.2.1 k hk).2.1
theorem DK.rrp (h : DK T d x b A V) {k i : Nat} (hk : k < 8) (hi : i < vC V k) : gP T (aRk A k) i = some (aRR A k i) := ((h.2.2.2.2.1 k hk).2.2 i hi).1
theorem DK.rra (h : DK T d x b A V) {k i : Nat} (hk : k < 8) (hi : i < vC V k) : isA T (aRR A k i) 9 4 := ((h.2.2.2.2.1 k hk).2.2 i hi).2.1
theorem DK.rv (h : DK T d x b A V) {k i j : Nat} (hk : k < 8) (hi : i < vC V k) (hj : j < 4) : gR T (aRR A k i) j = vR V k i j := ((h.2.2.2.2.1 k hk).2.2 i hi).2.2 j hj
theorem DK.mp (h : DK T d x b A V) {i : Nat} (hi : i < vA V) : gP T (aA A) i = some (aAk A i) := (h.2.2.2.2.2.1 i hi).1
theorem DK.ma (h : DK T d x b A V) {i : Nat} (hi : i < vA V) : isA T (aAk A i) 13 5 := (h.2.2.2.2.2.1 i hi).2.1
theorem DK.mv (h : DK T d x b A V) {i j : Nat} (hi : i < vA V) (hj : j < 5) : gR T (aAk A i) j = vB V i j := (h.2.2.2.2.2.1 i hi).2.2 j hj
theorem u2_ne {f : Nat → Nat → Int32} {a k b j : Nat} {v : Int32} (h : ¬ (b = a ∧ j = k)) : u2 f a k v b j = f b j := by simp [u2, h]
/-- a number of Desk's own -/
theorem DK.num (h : DK T d x b A V) {k : Nat} {v : Int32} : DK (pI T d k v) d x b A (vsF V k v) := by
  obtain ⟨⟨a1, a2, a3, a4, a5, a6, a7, a8⟩, h2, h3, h4, h5, h6⟩ := h
  refine ⟨⟨a1, a2, a3, a4, a5, a6, a7, fun j => ?_⟩, h2, h3, h4, h5, h6⟩
  show u2 (gI T) d k v d j = upd (vF V) k v j
  rw [u2_upd]
  by_cases hj : j = k
  · subst hj; simp [upd]
  · simp only [upd, hj, if_false]; exact a8 j
theorem DK.one (h : DK T d x b A V) {k j : Nat} {v : Int32} (hk : k < vN V) : DK (pR T (aOk A k) j v) d x b A (vsO V k j v) := by
  obtain ⟨h1, h2, ⟨c1, c2⟩, ⟨d1, d2⟩, e1, f1, f2⟩ := h
  have ko := (c1 k hk).2.1.2.1
  refine ⟨h1, h2, ⟨fun i hi => ⟨(c1 i hi).1, (c1 i hi).2.1, fun z hz => ?_⟩, c2⟩, ⟨fun i hi => ⟨(d1 i hi).1, (d1 i hi).2.1, fun z hz => (u2_a (ne_of_kind (d1 i hi).2.1.2.1 ko (by decide))).trans ((d1 i hi).2.2 z hz)⟩, d2⟩, fun i hi => ⟨(e1 i hi).1, (e1 i hi).2.1, fun q hq => ⟨((e1 i hi).2.2 q hq).1, ((e1 i hi).2.2 q hq).2.1, fun z hz => (u2_a (ne_of_kind ((e1 i hi).2.2 q hq).2.1.2.1 ko (by decide))).trans (((e1 i hi).2.2 q hq).2.2 z hz)⟩⟩, fun i hi => ⟨(f1 i hi).1, (f1 i hi).2.1, fun z hz => (u2_a (ne_of_kind (f1 i hi).2.1.2.1 ko (by decide))).trans ((f1 i hi).2.2 z hz)⟩, f2⟩
  show u2 (gR T) (aOk A k) j v (aOk A i) z = u2 (vO V) k j v i z
  by_cases e : i = k ∧ z = j
  · obtain ⟨rfl, rfl⟩ := e
    rw [u2_s, u2_s]
  · rw [u2_ne e, u2_ne (fun e9 => e ⟨c2 i k hi hk e9.1, e9.2⟩)]
    exact (c1 i hi).2.2 z hz
theorem DK.wt (h : DK T d x b A V) {k j : Nat} {v : Int32} (hk : k < 8) : DK (pR T (aWk A k) j v) d x b A (vsW V k j v) := by
  obtain ⟨h1, h2, ⟨c1, c2⟩, ⟨d1, d2⟩, e1, f1, f2⟩ := h
  have ko := (d1 k hk).2.1.2.1
  refine ⟨h1, h2, ⟨fun i hi => ⟨(c1 i hi).1, (c1 i hi).2.1, fun z hz => (u2_a (ne_of_kind (c1 i hi).2.1.2.1 ko (by decide))).trans ((c1 i hi).2.2 z hz)⟩, c2⟩, ⟨fun i hi => ⟨(d1 i hi).1, (d1 i hi).2.1, fun z hz => ?_⟩, d2⟩, fun i hi => ⟨(e1 i hi).1, (e1 i hi).2.1, fun q hq => ⟨((e1 i hi).2.2 q hq).1, ((e1 i hi).2.2 q hq).2.1, fun z hz => (u2_a (ne_of_kind ((e1 i hi).2.2 q hq).2.1.2.1 ko (by decide))).trans (((e1 i hi).2.2 q hq).2.2 z hz)⟩⟩, fun i hi => ⟨(f1 i hi).1, (f1 i hi).2.1, fun z hz => (u2_a (ne_of_kind (f1 i hi).2.1.2.1 ko (by decide))).trans ((f1 i hi).2.2 z hz)⟩, f2⟩
  show u2 (gR T) (aWk A k) j v (aWk A i) z = u2 (vW V) k j v i z
  by_cases e : i = k ∧ z = j
  · obtain ⟨rfl, rfl⟩ := e
    rw [u2_s, u2_s]
  · rw [u2_ne e, u2_ne (fun e9 => e ⟨d2 i k hi hk e9.1, e9.2⟩)]
    exact (d1 i hi).2.2 z hz
theorem DK.arm (h : DK T d x b A V) {k j : Nat} {v : Int32} (hk : k < vA V) : DK (pR T (aAk A k) j v) d x b A (vsB V k j v) := by
  obtain ⟨h1, h2, ⟨c1, c2⟩, ⟨d1, d2⟩, e1, f1, f2⟩ := h
  have ko := (f1 k hk).2.1.2.1
  refine ⟨h1, h2, ⟨fun i hi => ⟨(c1 i hi).1, (c1 i hi).2.1, fun z hz => (u2_a (ne_of_kind (c1 i hi).2.1.2.1 ko (by decide))).trans ((c1 i hi).2.2 z hz)⟩, c2⟩, ⟨fun i hi => ⟨(d1 i hi).1, (d1 i hi).2.1, fun z hz => (u2_a (ne_of_kind (d1 i hi).2.1.2.1 ko (by decide))).trans ((d1 i hi).2.2 z hz)⟩, d2⟩, fun i hi => ⟨(e1 i hi).1, (e1 i hi).2.1, fun q hq => ⟨((e1 i hi).2.2 q hq).1, ((e1 i hi).2.2 q hq).2.1, fun z hz => (u2_a (ne_of_kind ((e1 i hi).2.2 q hq).2.1.2.1 ko (by decide))).trans (((e1 i hi).2.2 q hq).2.2 z hz)⟩⟩, fun i hi => ⟨(f1 i hi).1, (f1 i hi).2.1, fun z hz => ?_⟩, f2⟩
  show u2 (gR T) (aAk A k) j v (aAk A i) z = u2 (vB V) k j v i z
  by_cases e : i = k ∧ z = j
  · obtain ⟨rfl, rfl⟩ := e
    rw [u2_s, u2_s]
  · rw [u2_ne e, u2_ne (fun e9 => e ⟨f2 i k hi hk e9.1, e9.2⟩)]
    exact (f1 i hi).2.2 z hz
/-- one more switch: its row q -/
theorem DK.add (h : DK T d x b A V) {q : Nat} {g : Nat → Int32} (hn : vN V < 8) (hq : isA T q 7 12) (hg : ∀ j, j < 12 → gR T q j = g j) (hne : ∀ k, k < vN V → aOk A k ≠ q) : DK (pP T (aO A) (vN V) (some q)) d x b (aO A, aW A, aR A, aA A, va_up (aOk A) (vN V) q, aWk A, aRk A, aRR A, aAk A) (vN V + 1, vA V, vF V, u1 (vO V) (vN V) g, vW V, vC V, vR V, vB V) := by
  obtain ⟨h1, ⟨b1, b2, b3, b4, b5, b6, b7, b8⟩, ⟨c1, c2⟩, ⟨d1, d2⟩, e1, f1, f2⟩ := h
  refine ⟨h1, ⟨b1, b2, b3, b4, b5, b6, b7, hn⟩, ⟨fun k hk => ?_, fun i k hi hk => ?_⟩, ⟨fun k hk => ⟨(u2_a b5.symm).trans (d1 k hk).1, (d1 k hk).2⟩, d2⟩, fun k hk => ⟨(u2_a (ne_of_kind b3.2.1 b1.2.1 (by decide))).trans (e1 k hk).1, (e1 k hk).2.1, fun i hi => ⟨(u2_a (b7 k hk).symm).trans ((e1 k hk).2.2 i hi).1, ((e1 k hk).2.2 i hi).2⟩⟩, fun i hi => ⟨(u2_a b6.symm).trans (f1 i hi).1, (f1 i hi).2⟩, f2⟩
  · show u2 (gP T) (aO A) (vN V) (some q) (aO A) k = some (va_up (aOk A) (vN V) q k) ∧ isA T (va_up (aOk A) (vN V) q k) 7 12 ∧ ∀ j, j < 12 → gR T (va_up (aOk A) (vN V) q k) j = u1 (vO V) (vN V) g k j
    have hk : k < vN V + 1 := hk
    by_cases e : k = vN V
    · subst e
      rw [u2_s, up_s]
      exact ⟨rfl, hq, fun j hj => (hg j hj).trans u1_s.symm⟩
    · have hk9 : k < vN V := by omega
      rw [u2_k e, up_ne e]
      exact ⟨(c1 k hk9).1, (c1 k hk9).2.1, fun j hj => ((c1 k hk9).2.2 j hj).trans (u1_a e).symm⟩
  · have hi : i < vN V + 1 := hi
    have hk : k < vN V + 1 := hk
    intro e
    have e : va_up (aOk A) (vN V) q i = va_up (aOk A) (vN V) q k := e
    by_cases e1 : i = vN V
    · by_cases e2 : k = vN V
      · omega
      · rw [e1, up_s, up_ne e2] at e
        exact absurd e.symm (hne k (by omega))
    · by_cases e2 : k = vN V
      · rw [e2, up_s, up_ne e1] at e
        exact absurd e (hne i (by omega))
      · rw [up_ne e1, up_ne e2] at e
        exact c2 i k (by omega) (by omega) e
/-- other rules of a switch -/
theorem DK.rul (h : DK T d x b A V) {k q m : Nat} {Z : Nat → Nat} {g : Nat → Nat → Int32} (hk : k < 8) (hq : isA T q 24 m) (hne : aO A ≠ q) (hz : ∀ i, i < m → gP T q i = some (Z i) ∧ isA T (Z i) 9 4 ∧ ∀ j, j < 4 → gR T (Z i) j = g i j) : DK (pP T (aR A) k (some q)) d x b (aO A, aW A, aR A, aA A, aOk A, aWk A, va_up (aRk A) k q, fun i => if i = k then Z else aRR A i, aAk A) (vN V, vA V, vF V, vO V, vW V, va_up (vC V) k m, fun i => if i = k then g else vR V i, vB V) := by
  obtain ⟨h1, ⟨b1, b2, b3, b4, b5, b6, b7, b8⟩, ⟨c1, c2⟩, ⟨d1, d2⟩, e1, f1, f2⟩ := h
  have n1 : aO A ≠ aR A := ne_of_kind b1.2.1 b3.2.1 (by decide)
  have n2 : aW A ≠ aR A := ne_of_kind b2.2.1 b3.2.1 (by decide)
  have n3 : aA A ≠ aR A := ne_of_kind b4.2.1 b3.2.1 (by decide)
  refine ⟨h1, ⟨b1, b2, b3, b4, b5, b6, fun i hi => ?_, b8⟩, ⟨fun i hi => ⟨(u2_a n1).trans (c1 i hi).1, (c1 i hi).2⟩, c2⟩, ⟨fun i hi => ⟨(u2_a n2).trans (d1 i hi).1, (d1 i hi).2⟩, d2⟩, fun i hi => ?_, fun i hi => ⟨(u2_a n3).trans (f1 i hi).1, (f1 i hi).2⟩, f2⟩
  · show aO A ≠ va_up (aRk A) k q i
    by_cases e : i = k
    · rw [e, up_s]; exact hne
    · rw [up_ne e]; exact b7 i hi
  · show u2 (gP T) (aR A) k (some q) (aR A) i = some (va_up (aRk A) k q i) ∧ isA T (va_up (aRk A) k q i) 24 (va_up (vC V) k m i) ∧ ∀ z, z < va_up (vC V) k m i → u2 (gP T) (aR A) k (some q) (va_up (aRk A) k q i) z = some ((if i = k then Z else aRR A i) z) ∧ isA T ((if i = k then Z else aRR A i) z) 9 4 ∧ ∀ j, j < 4 → gR T ((if i = k then Z else aRR A i) z) j = (if i = k then g else vR V i) z j
    by_cases e : i = k
    · subst e
      rw [u2_s, up_s, up_s, if_pos rfl, if_pos rfl]
      exact ⟨rfl, hq, fun z hz9 => ⟨(u2_a (ne_of_kind hq.2.1 b3.2.1 (by decide))).trans (hz z hz9).1, (hz z hz9).2⟩⟩
    · rw [u2_k e, up_ne e, up_ne e, if_neg e, if_neg e]
      obtain ⟨g1, g2, g3⟩ := e1 i hi
      exact ⟨g1, g2, fun z hz9 => ⟨(u2_a (ne_of_kind g2.2.1 b3.2.1 (by decide))).trans (g3 z hz9).1, (g3 z hz9).2⟩⟩
/-- one more arm -/
theorem DK.push (h : DK T d x b A V) {q z : Nat} {g : Nat → Int32} (hq : isA T q 24 (vA V + 1)) (hne : aO A ≠ q) (h0 : ∀ i, i < vA V → gP T q i = some (aAk A i)) (h1 : gP T q (vA V) = some z) (hz : isA T z 13 5) (hg : ∀ j, j < 5 → gR T z j = g j) (hnz : ∀ i, i < vA V → aAk A i ≠ z) : DK (pQ T d 9 (some q)) d x b (aO A, aW A, aR A, q, aOk A, aWk A, aRk A, aRR A, va_up (aAk A) (vA V) z) (vN V, vA V + 1, vF V, vO V, vW V, vC V, vR V, u1 (vB V) (vA V) g) := by
  obtain ⟨⟨a1, a2, a3, a4, a5, a6, a7, a8⟩, ⟨b1, b2, b3, b4, b5, b6, b7, b8⟩, h3, h4, h5, f1, f2⟩ := h
  refine ⟨⟨a1, (u2_k (by decide)).trans a2, (u2_k (by decide)).trans a3, (u2_k (by decide)).trans a4, (u2_k (by decide)).trans a5, (u2_k (by decide)).trans a6, u2_s, a8⟩, ⟨b1, b2, b3, hq, b5, hne, b7, b8⟩, h3, h4, h5, fun i hi => ?_, fun i k hi hk => ?_⟩
  · show gP T q i = some (va_up (aAk A) (vA V) z i) ∧ isA T (va_up (aAk A) (vA V) z i) 13 5 ∧ ∀ j, j < 5 → gR T (va_up (aAk A) (vA V) z i) j = u1 (vB V) (vA V) g i j
    have hi : i < vA V + 1 := hi
    by_cases e : i = vA V
    · subst e
      rw [up_s]
      exact ⟨h1, hz, fun j hj => (hg j hj).trans u1_s.symm⟩
    · have hi9 : i < vA V := by omega
      rw [up_ne e]
      exact ⟨h0 i hi9, (f1 i hi9).2.1, fun j hj => ((f1 i hi9).2.2 j hj).trans (u1_a e).symm⟩
  · have hi : i < vA V + 1 := hi
    have hk : k < vA V + 1 := hk
    intro e
    have e : va_up (aAk A) (vA V) z i = va_up (aAk A) (vA V) z k := e
    by_cases e1 : i = vA V
    · by_cases e2 : k = vA V
      · omega
      · rw [e1, up_s, up_ne e2] at e
        exact absurd e.symm (hnz k (by omega))
    · by_cases e2 : k = vA V
      · rw [e2, up_s, up_ne e1] at e
        exact absurd e (hnz i (by omega))
      · rw [up_ne e1, up_ne e2] at e
        exact f2 i k (by omega) (by omega) e
end DKS
