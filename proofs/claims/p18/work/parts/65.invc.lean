/-! what stays of the class's pool, whatever is called -/
def INVS (S : Pool) (ar na : Nat) : Prop := ∀ k, k < 8 → ∀ a, gP S ar k = some a → (∃ c, c ≤ na ∧ chn S c (gQ S a 7)) ∧ (∃ vc, vc ≤ 4 ∧ gI S a 2 = nI vc) ∧ ∃ rc, rc ≤ 5 ∧ gI S a 8 = nI rc
/-- n switches, na arms, the holdout, the clock -/
def INVC (n na : Nat) (hh cc : Int32) (S : Pool) (x ar ak : Nat) : Prop := (isO S x 5 ∧ gQ S x 0 = some ar ∧ gQ S x 1 = some ak ∧ isO S ak 1) ∧ okR S ar ∧ (n ≤ 8 ∧ gI S x 2 = nI n) ∧ (na ≤ 100 ∧ gI S x 3 = nI na) ∧ (∀ k, k < n → ∃ a, gP S ar k = some a) ∧ (∀ k, n ≤ k → k < 8 → gP S ar k = none) ∧ INVS S ar na ∧ gI S x 4 = hh ∧ gI S x 5 = cc
theorem INVC.ext {n na : Nat} {hh cc h2 c2 : Int32} {S S' : Pool} {x ar ak : Nat} (h : INVC n na hh cc S x ar ak) (e : Ext S S') (e2 : gI S' x 2 = gI S x 2) (e3 : gI S' x 3 = gI S x 3) (e4 : gI S' x 4 = h2) (e5 : gI S' x 5 = c2) (hs : ∀ k, k < 8 → ∀ a, gP S ar k = some a → gI S' a 0 = gI S a 0 ∧ gI S' a 2 = gI S a 2 ∧ gI S' a 8 = gI S a 8 ∧ (gI S' a 9 = 0 ∨ gI S' a 9 = 1)) : INVC n na h2 c2 S' x ar ak := by
  obtain ⟨⟨hx, q0, q1, hk⟩, hR, ⟨n8, x2⟩, ⟨n1, x3⟩, r1, r2, hS, -, -⟩ := h
  have ep : ∀ k, gP S' ar k = gP S ar k := fun k => (e ar hR.1.1).2.2 k
  refine ⟨⟨e.o hx, ((e x hx.1).2.1 0).trans q0, ((e x hx.1).2.1 1).trans q1, e.o hk⟩, ⟨e.a hR.1, fun k hk8 a ha => ?_⟩, ⟨n8, e2.trans x2⟩, ⟨n1, e3.trans x3⟩, fun k hk8 => ?_, fun k h1 h3 => (ep k).trans (r2 k h1 h3), fun k hk8 a ha => ?_, e4, e5⟩
  · rw [ep] at ha
    obtain ⟨s0, s2, s8, s9⟩ := hs k hk8 a ha
    obtain ⟨o1, o2⟩ := hR.2 k hk8 a ha
    exact ⟨e.sw o1 s9, s0.trans o2⟩
  · obtain ⟨a, ha⟩ := r1 k hk8
    exact ⟨a, (ep k).trans ha⟩
  · rw [ep] at ha
    obtain ⟨s0, s2, s8, s9⟩ := hs k hk8 a ha
    obtain ⟨⟨c, hc, hch⟩, ⟨vc, v1, v2⟩, ⟨rc, t1, t2⟩⟩ := hS k hk8 a ha
    refine ⟨⟨c, hc, ?_⟩, ⟨vc, v1, s2.trans v2⟩, ⟨rc, t1, s8.trans t2⟩⟩
    rw [(e a (hR.2 k hk8 a ha).1.1.1).2.1 7]
    exact chn_ext (fun b hb => e.o hb) (fun b hb => (e b hb.1).2.1 2) c _ hch
section IC
variable {n na : Nat} {hh cc : Int32} {S : Pool} {x ar ak : Nat}
theorem INVC.hx (h : INVC n na hh cc S x ar ak) : isO S x 5 := h.1.1
theorem INVC.q0 (h : INVC n na hh cc S x ar ak) : gQ S x 0 = some ar := h.1.2.1
theorem INVC.q1 (h : INVC n na hh cc S x ar ak) : gQ S x 1 = some ak := h.1.2.2.1
theorem INVC.kk (h : INVC n na hh cc S x ar ak) : isO S ak 1 := h.1.2.2.2
theorem INVC.R (h : INVC n na hh cc S x ar ak) : okR S ar := h.2.1
theorem INVC.n8 (h : INVC n na hh cc S x ar ak) : n ≤ 8 := h.2.2.1.1
theorem INVC.x2 (h : INVC n na hh cc S x ar ak) : gI S x 2 = nI n := h.2.2.1.2
theorem INVC.na1 (h : INVC n na hh cc S x ar ak) : na ≤ 100 := h.2.2.2.1.1
theorem INVC.x3 (h : INVC n na hh cc S x ar ak) : gI S x 3 = nI na := h.2.2.2.1.2
theorem INVC.row (h : INVC n na hh cc S x ar ak) : ∀ k, k < n → ∃ a, gP S ar k = some a := h.2.2.2.2.1
theorem INVC.non (h : INVC n na hh cc S x ar ak) : ∀ k, n ≤ k → k < 8 → gP S ar k = none := h.2.2.2.2.2.1
theorem INVC.s (h : INVC n na hh cc S x ar ak) : INVS S ar na := h.2.2.2.2.2.2.1
theorem INVC.x4 (h : INVC n na hh cc S x ar ak) : gI S x 4 = hh := h.2.2.2.2.2.2.2.1
theorem INVC.x5 (h : INVC n na hh cc S x ar ak) : gI S x 5 = cc := h.2.2.2.2.2.2.2.2
theorem INVC.sw (h : INVC n na hh cc S x ar ak) {k a : Nat} (hk : k < 8) (ha : gP S ar k = some a) : okSw S a := (h.R.2 k hk a ha).1
theorem INVC.h9 (h : INVC n na hh cc S x ar ak) {k a : Nat} (hk : k < 8) (ha : gP S ar k = some a) : gI S a 9 = 0 ∨ gI S a 9 = 1 := (h.sw hk ha).2.2.2.2.2
/-- the switch of a number, or none -/
theorem INVC.at (h : INVC n na hh cc S x ar ak) (p : Int32) : (kSw S ar p = none ∧ kIn p 0 (nI n - 1) = 0) ∨ ∃ j a, j < n ∧ p = nI j ∧ gP S ar j = some a ∧ kSw S ar (nI j) = some a := by
  rcases kIn_swx (n := n) (p := p) h.n8 rfl with h1 | ⟨j, hj, rfl⟩
  · left
    refine ⟨?_, h1⟩
    cases hs : kSw S ar p with
    | none => rfl
    | some a =>
      obtain ⟨k, hk, rfl, hk2⟩ := kSw_some hs
      exfalso
      rcases Nat.lt_or_ge k n with hkn | hkn
      · rw [kIn_sw hkn h.n8 rfl] at h1; exact absurd h1 (by decide)
      · rw [h.non k hkn hk] at hk2; cases hk2
  · right
    obtain ⟨a, ha⟩ := h.row j hj
    have h8 := h.n8
    exact ⟨j, a, hj, rfl, ha, (kSw_at (by omega)).trans ha⟩
theorem INVC.pIs (h : INVC n na hh cc S x ar ak) {b k : Nat} {v : Int32} (hb : isO S b 3) (hk : 0 ≠ k ∧ 2 ≠ k ∧ 8 ≠ k ∧ 9 ≠ k) : INVC n na hh cc (pI S b k v) x ar ak := by
  have hne : x ≠ b := ne_of_kind h.hx.2 hb.2 (by decide)
  refine h.ext Ext.pI (u2_a hne) (u2_a hne) ((u2_a hne).trans h.x4) ((u2_a hne).trans h.x5) (fun j hj a ha => ⟨u2_k hk.1, u2_k hk.2.1, u2_k hk.2.2.1, ?_⟩)
  rw [show gI (pI S b k v) a 9 = gI S a 9 from u2_k hk.2.2.2]
  exact h.h9 hj ha
theorem INVC.on (h : INVC n na hh cc S x ar ak) {b : Nat} {v : Int32} (hb : isO S b 3) (hv : v = 0 ∨ v = 1) : INVC n na hh cc (pI S b 9 v) x ar ak := by
  have hne : x ≠ b := ne_of_kind h.hx.2 hb.2 (by decide)
  refine h.ext Ext.pI (u2_a hne) (u2_a hne) ((u2_a hne).trans h.x4) ((u2_a hne).trans h.x5) (fun j hj a ha => ⟨u2_k (by decide), u2_k (by decide), u2_k (by decide), ?_⟩)
  by_cases hab : a = b
  · subst hab; rw [show gI (pI S a 9 v) a 9 = v from u2_s]; exact hv
  · rw [show gI (pI S b 9 v) a 9 = gI S a 9 from u2_a hab]; exact h.h9 hj ha
theorem INVC.rw1 (h : INVC n na hh cc S x ar ak) {b k : Nat} {v : Int32} : INVC n na hh cc (pR S b k v) x ar ak := h.ext Ext.pR rfl rfl h.x4 h.x5 (fun j hj a ha => ⟨rfl, rfl, rfl, h.h9 hj ha⟩)
theorem INVC.hold (h : INVC n na hh cc S x ar ak) {v : Int32} : INVC n na v cc (pI S x 4 v) x ar ak := h.ext Ext.pI (u2_k (by decide)) (u2_k (by decide)) u2_s ((u2_k (by decide)).trans h.x5) (fun j hj a ha => by
  have hne : a ≠ x := ne_of_kind (h.sw hj ha).1.2 h.hx.2 (by decide)
  exact ⟨u2_a hne, u2_a hne, u2_a hne, by rw [show gI (pI S x 4 v) a 9 = gI S a 9 from u2_a hne]; exact h.h9 hj ha⟩)
theorem INVC.clock (h : INVC n na hh cc S x ar ak) {v : Int32} : INVC n na hh v (pI S x 5 v) x ar ak := h.ext Ext.pI (u2_k (by decide)) (u2_k (by decide)) ((u2_k (by decide)).trans h.x4) u2_s (fun j hj a ha => by
  have hne : a ≠ x := ne_of_kind (h.sw hj ha).1.2 h.hx.2 (by decide)
  exact ⟨u2_a hne, u2_a hne, u2_a hne, by rw [show gI (pI S x 5 v) a 9 = gI S a 9 from u2_a hne]; exact h.h9 hj ha⟩)
theorem INVC.eA {T : Pool} (h : INVC n na hh cc S x ar ak) (e : eqA S T ak) : INVC n na hh cc T x ar ak := by
  have ex := fun k => e.i h.kk h.hx (by decide) k
  exact h.ext e.ext (ex 2) (ex 3) ((ex 4).trans h.x4) ((ex 5).trans h.x5) (fun j hj a ha => by
    have ea := fun k => e.i h.kk (h.sw hj ha).1 (by decide) k
    exact ⟨ea 0, ea 2, ea 8, by rw [ea]; exact h.h9 hj ha⟩)
theorem INVC.eT {T : Pool} (h : INVC n na hh cc S x ar ak) (e : eqT S T) : INVC n na hh cc T x ar ak := by
  have ex := fun k => e.i h.hx (by decide) k
  exact h.ext e.ext (ex 2) (ex 3) ((ex 4).trans h.x4) ((ex 5).trans h.x5) (fun j hj a ha => by
    have ea := fun k => e.i (h.sw hj ha).1 (by decide) k
    exact ⟨ea 0, ea 2, ea 8, by rw [ea]; exact h.h9 hj ha⟩)
end IC
/-- what lies at other switches and rows stays, where one switch's parts change -/
theorem okSw.pPs {T : Pool} {ar k a : Nat} {v : Option Nat} (h : okSw T a) (har : isA T ar 22 8) : okSw (pP T ar k v) a := by
  obtain ⟨h1, h2, ⟨rl, r1, r2, r3⟩, h4⟩ := h
  refine ⟨h1, h2, ⟨rl, r1, r2, fun j hj u hu => r3 j hj u ?_⟩, h4.1.imp (fun n hn => ⟨hn.1, chn_ext (S := T) (S' := pP T ar k v) (fun b hb => hb) (fun b hb => rfl) n _ hn.2⟩), h4.2⟩
  rw [← hu]
  exact (u2_a (ne_of_kind r2.2.1 har.2.1 (by decide))).symm
theorem okSw.pIn {T : Pool} {b kb k a : Nat} {v : Int32} (h : okSw T a) (hb : isO T b kb) (hk : kb ≠ 3) : okSw (pI T b k v) a := Ext.pI.sw h (by
  rw [show gI (pI T b k v) a 9 = gI T a 9 from u2_a (ne_of_kind h.1.2 hb.2 (fun e => hk e.symm))]; exact h.2.2.2.2.2)
theorem okSw.pIs {T : Pool} {b k a : Nat} {v : Int32} (h : okSw T a) (hk : 9 ≠ k) : okSw (pI T b k v) a := Ext.pI.sw h (by
  rw [show gI (pI T b k v) a 9 = gI T a 9 from u2_k hk]; exact h.2.2.2.2.2)
/-- old cells stay, with their numbers -/
def ExtI (S T : Pool) : Prop := Ext S T ∧ ∀ b, b ∈ gL S → ∀ k, gI T b k = gI S b k
theorem ExtI.rf {S : Pool} : ExtI S S := ⟨Ext.rf, fun _ _ _ => rfl⟩
theorem ExtI.nm {S T : Pool} (h : ExtI S T) {q : Nat} (hq : q ∉ gL T) : q ∉ gL S := fun hm => hq (h.1 q hm).1.1
theorem ExtI.new {S T : Pool} (h : ExtI S T) {q ki n : Nat} (hq : q ∉ gL T) : ExtI S (pW T q ki n) := ⟨h.1.tr (Ext.new hq), fun b hb k => (gI_new (h.1 b hb).1.1 hq).trans (h.2 b hb k)⟩
theorem ExtI.pI {S T : Pool} (h : ExtI S T) {q k : Nat} {v : Int32} (hq : q ∉ gL S) : ExtI S (pI T q k v) := ⟨h.1.tr Ext.pI, fun b hb j => (u2_a (ne_new hb hq)).trans (h.2 b hb j)⟩
theorem ExtI.pQ {S T : Pool} (h : ExtI S T) {q k : Nat} {v : Option Nat} (hq : q ∉ gL S) : ExtI S (pQ T q k v) := ⟨fun b hb => ⟨(h.1 b hb).1, fun j => (u2_a (ne_new hb hq)).trans ((h.1 b hb).2.1 j), (h.1 b hb).2.2⟩, h.2⟩
theorem ExtI.pR {S T : Pool} (h : ExtI S T) {q k : Nat} {v : Int32} : ExtI S (pR T q k v) := ⟨h.1.tr Ext.pR, h.2⟩
