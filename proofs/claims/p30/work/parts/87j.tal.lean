/-! the tallies: what is counted, on both sides -/
def wT (T : Rows) (what : Int32) (k : Nat) : Int32 := if what = 0 then 1 else if what = 1 then (if T 27 k = 0 then 0 else 1) else if what = 2 then T 26 k else T 26 k * T 26 k
def sT (T : Rows) (one va what : Int32) (k : Nat) (acc : Int32) : Int32 := if T 23 k = one then (if T 25 k = va then acc + wT T what k else acc) else acc
theorem wT_0 (T : Rows) (k : Nat) : wT T 0 k = 1 := by unfold wT; rw [if_pos rfl]
theorem wT_1 (T : Rows) (k : Nat) : wT T 1 k = if T 27 k = 0 then 0 else 1 := by unfold wT; rw [if_neg (by decide), if_pos rfl]
theorem wT_2 (T : Rows) (k : Nat) : wT T 2 k = T 26 k := by unfold wT; rw [if_neg (by decide), if_neg (by decide), if_pos rfl]
theorem wT_3 (T : Rows) (k : Nat) : wT T 3 k = T 26 k * T 26 k := by unfold wT; rw [if_neg (by decide), if_neg (by decide), if_neg (by decide)]
theorem rTold_succ (T : Rows) (one va what : Int32) (c k : Nat) (acc : Int32) : rTold T one va what (c + 1) k acc = rTold T one va what c (k + 1) (sT T one va what k acc) := by
  show (if T 23 k = one then (if T 25 k = va then rTold T one va what c (k + 1) (acc + wT T what k) else rTold T one va what c (k + 1) acc) else rTold T one va what c (k + 1) acc) = _
  unfold sT
  by_cases h1 : T 23 k = one
  · rw [if_pos h1, if_pos h1]
    by_cases h2 : T 25 k = va
    · rw [if_pos h2, if_pos h2]
    · rw [if_neg h2, if_neg h2]
  · rw [if_neg h1, if_neg h1]
theorem rTold_snoc (T : Rows) (one va what : Int32) : ∀ (c k : Nat) (acc : Int32), rTold T one va what (c + 1) k acc = sT T one va what (k + c) (rTold T one va what c k acc) := by
  intro c
  induction c with
  | zero => intro k acc; exact rTold_succ T one va what 0 k acc
  | succ c ih =>
    intro k acc
    refine (rTold_succ T one va what (c + 1) k acc).trans ((ih (k + 1) _).trans ?_)
    rw [rTold_succ T one va what c k acc, show k + 1 + c = k + (c + 1) by omega]
theorem rT_s (T : Rows) (one va what : Int32) (c : Nat) : rTold T one va what (c + 1) 0 0 = sT T one va what c (rTold T one va what c 0 0) := by
  have h := rTold_snoc T one va what c 0 0
  rw [Nat.zero_add] at h
  exact h
theorem rT_ext {T U : Rows} {one va what : Int32} : ∀ c, (∀ k, k < c → U 23 k = T 23 k ∧ U 25 k = T 25 k ∧ (T 23 k = one → wT U what k = wT T what k)) → rTold U one va what c 0 0 = rTold T one va what c 0 0 := by
  intro c
  induction c with
  | zero => intro _; rfl
  | succ c ih =>
    intro h
    rw [rT_s, rT_s, ih (fun k hk => h k (by omega))]
    obtain ⟨a, b, d⟩ := h c (by omega)
    unfold sT
    rw [a, b]
    by_cases h1 : T 23 c = one
    · rw [if_pos h1, if_pos h1, d h1]
    · rw [if_neg h1, if_neg h1]
theorem i32_sub_add (a b : Int32) : a + (b - a) = b := by rw [Int32.add_comm, Int32.sub_add_cancel]
theorem rT_chg {T U : Rows} {one va what : Int32} {k0 : Nat} : ∀ c, (∀ k, k < c → U 23 k = T 23 k ∧ U 25 k = T 25 k ∧ (T 23 k = one → k ≠ k0 → wT U what k = wT T what k)) → rTold U one va what c 0 0 = rTold T one va what c 0 0 + (if k0 < c ∧ T 23 k0 = one ∧ T 25 k0 = va then wT U what k0 - wT T what k0 else 0) := by
  intro c
  induction c with
  | zero =>
    intro _
    have o : ¬ (k0 < 0 ∧ T 23 k0 = one ∧ T 25 k0 = va) := fun e => absurd e.1 (Nat.not_lt_zero _)
    rw [if_neg o, Int32.add_zero]
    rfl
  | succ c ih =>
    intro h
    rw [rT_s, rT_s, ih (fun k hk => h k (by omega))]
    obtain ⟨a, b, d⟩ := h c (by omega)
    unfold sT
    rw [a, b]
    generalize rTold T one va what c 0 0 = X
    by_cases hk : k0 = c
    · have o : ¬ (k0 < c ∧ T 23 k0 = one ∧ T 25 k0 = va) := fun e => by have := e.1; omega
      rw [if_neg o, Int32.add_zero]
      rw [hk]
      by_cases h1 : T 23 c = one
      · rw [if_pos h1, if_pos h1]
        by_cases h2 : T 25 c = va
        · have o2 : c < c + 1 ∧ T 23 c = one ∧ T 25 c = va := ⟨Nat.lt_succ_self _, h1, h2⟩
          rw [if_pos h2, if_pos h2, if_pos o2, Int32.add_assoc, i32_sub_add]
        · have o2 : ¬ (c < c + 1 ∧ T 23 c = one ∧ T 25 c = va) := fun e => h2 e.2.2
          rw [if_neg h2, if_neg h2, if_neg o2, Int32.add_zero]
      · have o2 : ¬ (c < c + 1 ∧ T 23 c = one ∧ T 25 c = va) := fun e => h1 e.2.1
        rw [if_neg h1, if_neg h1, if_neg o2, Int32.add_zero]
    · have e9 : (if k0 < c + 1 ∧ T 23 k0 = one ∧ T 25 k0 = va then wT U what k0 - wT T what k0 else 0) = (if k0 < c ∧ T 23 k0 = one ∧ T 25 k0 = va then wT U what k0 - wT T what k0 else 0) := by
        by_cases hq : k0 < c ∧ T 23 k0 = one ∧ T 25 k0 = va
        · have o2 : k0 < c + 1 ∧ T 23 k0 = one ∧ T 25 k0 = va := ⟨by omega, hq.2⟩
          rw [if_pos hq, if_pos o2]
        · have o2 : ¬ (k0 < c + 1 ∧ T 23 k0 = one ∧ T 25 k0 = va) := fun e => hq ⟨by omega, e.2⟩
          rw [if_neg hq, if_neg o2]
      rw [e9]
      generalize (if k0 < c ∧ T 23 k0 = one ∧ T 25 k0 = va then wT U what k0 - wT T what k0 else 0) = Y
      by_cases h1 : T 23 c = one
      · rw [if_pos h1, if_pos h1, d h1 (fun e => hk e.symm)]
        by_cases h2 : T 25 c = va
        · rw [if_pos h2, if_pos h2, Int32.add_assoc, Int32.add_assoc, Int32.add_comm Y]
        · rw [if_neg h2, if_neg h2]
      · rw [if_neg h1, if_neg h1]
/-- a count as a natural number -/
def nT (T : Rows) (one va : Int32) : Nat → Nat
  | 0 => 0
  | c + 1 => nT T one va c + (if T 23 c = one then (if T 25 c = va then 1 else 0) else 0)
theorem nT_s (T : Rows) (one va : Int32) (c : Nat) : nT T one va (c + 1) = nT T one va c + (if T 23 c = one then (if T 25 c = va then 1 else 0) else 0) := rfl
theorem rT_0 (T : Rows) (one va : Int32) : ∀ c, rTold T one va 0 c 0 0 = nI (nT T one va c) := by
  intro c
  induction c with
  | zero => rfl
  | succ c ih =>
    rw [rT_s, ih, nT_s]
    unfold sT
    by_cases h1 : T 23 c = one
    · rw [if_pos h1, if_pos h1]
      by_cases h2 : T 25 c = va
      · rw [if_pos h2, if_pos h2]
        exact nI_add _ 1
      · rw [if_neg h2, if_neg h2, Nat.add_zero]
    · rw [if_neg h1, if_neg h1, Nat.add_zero]
theorem nT_sum (T : Rows) (one : Int32) : ∀ c, nT T one (nI 0) c + nT T one (nI 1) c + nT T one (nI 2) c + nT T one (nI 3) c ≤ c := by
  intro c
  induction c with
  | zero => exact Nat.le_refl _
  | succ c ih =>
    rw [nT_s, nT_s, nT_s, nT_s]
    have key : (if T 23 c = one then (if T 25 c = nI 0 then 1 else 0) else 0) + (if T 23 c = one then (if T 25 c = nI 1 then 1 else 0) else 0) + (if T 23 c = one then (if T 25 c = nI 2 then 1 else 0) else 0) + (if T 23 c = one then (if T 25 c = nI 3 then 1 else 0) else 0) ≤ 1 := by
      by_cases h1 : T 23 c = one
      · rw [if_pos h1, if_pos h1, if_pos h1, if_pos h1]
        generalize T 25 c = z
        have d01 : ¬ nI 0 = nI 1 := by decide +kernel
        have d02 : ¬ nI 0 = nI 2 := by decide +kernel
        have d03 : ¬ nI 0 = nI 3 := by decide +kernel
        have d12 : ¬ nI 1 = nI 2 := by decide +kernel
        have d13 : ¬ nI 1 = nI 3 := by decide +kernel
        have d23 : ¬ nI 2 = nI 3 := by decide +kernel
        by_cases g0 : z = nI 0
        · subst g0; rw [if_pos rfl, if_neg d01, if_neg d02, if_neg d03]; omega
        · by_cases g1 : z = nI 1
          · subst g1; rw [if_neg g0, if_pos rfl, if_neg d12, if_neg d13]; omega
          · by_cases g2 : z = nI 2
            · subst g2; rw [if_neg g0, if_neg g1, if_pos rfl, if_neg d23]; omega
            · rw [if_neg g0, if_neg g1, if_neg g2]
              by_cases g3 : z = nI 3
              · rw [if_pos g3]; omega
              · rw [if_neg g3]; omega
      · rw [if_neg h1, if_neg h1, if_neg h1, if_neg h1]; omega
    omega
theorem nT_le (T : Rows) (one va : Int32) : ∀ c, nT T one va c ≤ c := by
  intro c
  induction c with
  | zero => exact Nat.le_refl _
  | succ c ih =>
    rw [nT_s]
    by_cases h1 : T 23 c = one
    · rw [if_pos h1]
      by_cases h2 : T 25 c = va
      · rw [if_pos h2]; omega
      · rw [if_neg h2]; omega
    · rw [if_neg h1]; omega
theorem nT_z {T : Rows} {one va : Int32} : ∀ c, (∀ k, k < c → T 23 k = one → T 25 k ≠ va) → nT T one va c = 0 := by
  intro c
  induction c with
  | zero => intro _; rfl
  | succ c ih =>
    intro h
    rw [nT_s, ih (fun k hk => h k (by omega))]
    by_cases h1 : T 23 c = one
    · rw [if_pos h1, if_neg (h c (by omega) h1)]
    · rw [if_neg h1]
/-- no arm of a place: none of the rows -/
theorem rArm_no {T : Rows} {one u : Int32} : ∀ c k, k + c < 2 ^ 31 → rArm T one u c k = -1 → ∀ j, k ≤ j → j < k + c → ¬ (T 23 j = one ∧ T 24 j = u) := by
  intro c
  induction c with
  | zero => intro k _ _ j h1 h2; omega
  | succ c ih =>
    intro k hk h j h1 h2 e
    have h : (if T 23 k = one then (if T 24 k = u then nI k else rArm T one u c (k + 1)) else rArm T one u c (k + 1)) = -1 := h
    by_cases hj : j = k
    · subst hj
      rw [if_pos e.1, if_pos e.2] at h
      exact nI_m1 (by omega) h
    · refine ih (k + 1) (by omega) ?_ j (by omega) (by omega) e
      by_cases g1 : T 23 k = one
      · rw [if_pos g1] at h
        by_cases g2 : T 24 k = u
        · rw [if_pos g2] at h; exact absurd h (nI_m1 (by omega))
        · rw [if_neg g2] at h; exact h
      · rw [if_neg g1] at h; exact h
/-! the relation of the tallies -/
def TA (S : Pool) (M : MSt) (na a i : Nat) : Prop :=
  (∀ v, v < 4 → gR S (tkA S a 0) v = rTold M.2 (nI i) (nI v) 0 na 0 0 ∧ gR S (tkA S a 1) v = rTold M.2 (nI i) (nI v) 1 na 0 0 ∧ gR S (tkA S a 2) v = rTold M.2 (nI i) (nI v) 2 na 0 0 ∧ (gJ S (tkA S a 3) v).toInt32 = rTold M.2 (nI i) (nI v) 3 na 0 0)
  ∧ gI S (tyA S a) 4 = gR S (tkA S a 0) 0 + gR S (tkA S a 0) 1 + gR S (tkA S a 0) 2 + gR S (tkA S a 0) 3
  ∧ (∀ u m k, cArmA S a u = some m → k < na → M.2 23 k = nI i → M.2 24 k = u → gI S m 1 = M.2 25 k ∧ gI S m 3 = M.2 26 k ∧ gI S m 4 = M.2 27 k)
def DIT (S : Pool) (ar : Nat) : Prop := ∀ i j a b, i < 8 → j < 8 → gP S ar i = some a → gP S ar j = some b → i ≠ j → tyA S a ≠ tyA S b ∧ (∀ k, k < 4 → tkA S a k ≠ tkA S b k) ∧ ∀ u m, cArmA S a u = some m → cArmA S b u ≠ some m
def UNQ (na : Nat) (M : MSt) : Prop := ∀ k q, k < na → q < na → M.2 23 k = M.2 23 q → M.2 24 k = M.2 24 q → k = q
def VAL (n na : Nat) (M : MSt) : Prop := (∀ i, i < n → ∃ vc, 2 ≤ vc ∧ vc ≤ 4 ∧ M.2 5 i = nI vc ∧ (∀ v, vc ≤ v → v < 4 → M.2 6 (4 * i + v) = 0) ∧ ∀ k, k < na → M.2 23 k = nI i → ∃ v, v < vc ∧ M.2 25 k = nI v) ∧ (∀ k, k < na → M.2 27 k = 0 ∨ M.2 27 k = 1) ∧ ∀ k, na ≤ k → M.2 26 k = 0 ∧ M.2 27 k = 0
def TAL (n na : Nat) (S : Pool) (M : MSt) (ar : Nat) : Prop := (∀ i, i < n → ∀ a, gP S ar i = some a → TA S M na a i) ∧ DIT S ar ∧ UNQ na M ∧ VAL n na M
/-- what the tallies need of a pool stays -/
def KT (S T : Pool) (ar : Nat) : Prop := (∀ k, k < 8 → gP T ar k = gP S ar k) ∧ ∀ b, b ∈ gL S → (b ∈ gL T ∧ gK T b = gK S b) ∧ (gK S b = 3 → gQ T b 6 = gQ S b 6 ∧ gQ T b 7 = gQ S b 7) ∧ (gK S b = 4 → (∀ k, gQ T b k = gQ S b k) ∧ gI T b 4 = gI S b 4) ∧ (gK S b = 0 → gQ T b 2 = gQ S b 2 ∧ ∀ k, gI T b k = gI S b k) ∧ ((gK S b = 10 ∨ gK S b = 11 ∨ gK S b = 12) → ∀ k, gR T b k = gR S b k) ∧ (gK S b = 20 → ∀ k, gJ T b k = gJ S b k)
def eqR (M N : MSt) : Prop := N.2 5 = M.2 5 ∧ N.2 6 = M.2 6 ∧ N.2 23 = M.2 23 ∧ N.2 24 = M.2 24 ∧ N.2 25 = M.2 25 ∧ N.2 26 = M.2 26 ∧ N.2 27 = M.2 27
theorem eqR.rf {M : MSt} : eqR M M := ⟨rfl, rfl, rfl, rfl, rfl, rfl, rfl⟩
theorem eqN.r {M N : MSt} (h : eqN M N) : eqR M N := ⟨h.1 5 trivial trivial, h.1 6 trivial trivial, h.1 23 trivial trivial, h.1 24 trivial trivial, h.1 25 trivial trivial, h.1 26 trivial trivial, h.1 27 trivial trivial⟩
theorem eqR.of {M N : MSt} (e : N.2 = M.2) : eqR M N := ⟨by rw [e], by rw [e], by rw [e], by rw [e], by rw [e], by rw [e], by rw [e]⟩
theorem KT.rf {S : Pool} {ar : Nat} : KT S S ar := ⟨fun _ _ => rfl, fun _ hb => ⟨⟨hb, rfl⟩, fun _ => ⟨rfl, rfl⟩, fun _ => ⟨fun _ => rfl, rfl⟩, fun _ => ⟨rfl, fun _ => rfl⟩, fun _ _ => rfl, fun _ _ => rfl⟩⟩
theorem KT.tr {S T U : Pool} {ar : Nat} (h : KT S T ar) (g : KT T U ar) : KT S U ar := by
  refine ⟨fun k hk => (g.1 k hk).trans (h.1 k hk), fun b hb => ?_⟩
  obtain ⟨⟨m1, m2⟩, a1, a2, a3, a4, a5⟩ := h.2 b hb
  obtain ⟨⟨n1, n2⟩, b1, b2, b3, b4, b5⟩ := g.2 b m1
  rw [m2] at n2 b1 b2 b3 b4 b5
  exact ⟨⟨n1, n2⟩, fun e => ⟨(b1 e).1.trans (a1 e).1, (b1 e).2.trans (a1 e).2⟩, fun e => ⟨fun k => ((b2 e).1 k).trans ((a2 e).1 k), (b2 e).2.trans (a2 e).2⟩, fun e => ⟨(b3 e).1.trans (a3 e).1, fun k => ((b3 e).2 k).trans ((a3 e).2 k)⟩, fun e k => (b4 e k).trans (a4 e k), fun e k => (b5 e k).trans (a5 e k)⟩
theorem KT.eA {S T : Pool} {ak ar : Nat} (h : eqA S T ak) (hak : isO S ak 1) : KT S T ar := by
  obtain ⟨e1, e2, e3, e4, e5, e6, e7, e8⟩ := h
  refine ⟨fun k _ => by rw [e8], fun b hb => ⟨⟨by rw [e1]; exact hb, by rw [e2]⟩, fun _ => ⟨by rw [e5], by rw [e5]⟩, fun e => ⟨fun k => by rw [e5], by rw [e4 b (ne_of_kind e hak.2 (by decide))]⟩, fun e => ⟨by rw [e5], fun k => by rw [e4 b (ne_of_kind e hak.2 (by decide))]⟩, fun _ k => by rw [e6], fun _ k => by rw [e7]⟩⟩
theorem nk_o {S : Pool} {a ka : Nat} (ho : isO S a ka) (h0 : ka ≠ 0) (h4 : ka ≠ 4) : ∀ b, b ∈ gL S → gK S b = 0 ∨ gK S b = 4 → b ≠ a := by
  intro b hb hk e
  subst e
  rcases hk with hk | hk
  · exact h0 (ho.2.symm.trans hk)
  · exact h4 (ho.2.symm.trans hk)
theorem nk_q {S : Pool} {q : Nat} (hq : q ∉ gL S) : ∀ b, b ∈ gL S → gK S b = 0 ∨ gK S b = 4 → b ≠ q := fun b hb _ e => hq (e ▸ hb)
theorem KT.pI {S T : Pool} {ar a k : Nat} {v : Int32} (h : KT S T ar) (hn : ∀ b, b ∈ gL S → gK S b = 0 ∨ gK S b = 4 → b ≠ a) : KT S (pI T a k v) ar := by
  refine ⟨h.1, fun b hb => ?_⟩
  obtain ⟨m, a1, a2, a3, a4, a5⟩ := h.2 b hb
  exact ⟨m, a1, fun e => ⟨(a2 e).1, (show u2 (gI T) a k v b 4 = _ from u2_a (hn b hb (Or.inr e))).trans (a2 e).2⟩, fun e => ⟨(a3 e).1, fun j => (show u2 (gI T) a k v b j = _ from u2_a (hn b hb (Or.inl e))).trans ((a3 e).2 j)⟩, a4, a5⟩
theorem KT.pR {S T : Pool} {ar a k : Nat} {v : Int32} (h : KT S T ar) (hn : ∀ b, b ∈ gL S → (gK S b = 10 ∨ gK S b = 11 ∨ gK S b = 12) → b ≠ a) : KT S (pR T a k v) ar := by
  refine ⟨h.1, fun b hb => ?_⟩
  obtain ⟨m, a1, a2, a3, a4, a5⟩ := h.2 b hb
  exact ⟨m, a1, a2, a3, fun e j => (show u2 (gR T) a k v b j = _ from u2_a (hn b hb e)).trans (a4 e j), a5⟩
theorem KT.pP {S T : Pool} {ar a k : Nat} {v : Option Nat} (h : KT S T ar) (hn : ar ≠ a) : KT S (pP T a k v) ar :=
  ⟨fun j hj => (show u2 (gP T) a k v ar j = _ from u2_a hn).trans (h.1 j hj), h.2⟩
theorem KT.new {S T : Pool} {ar q ki n : Nat} (h : KT S T ar) (har : ar ∈ gL S) (hq : q ∉ gL T) : KT S (pW T q ki n) ar := by
  refine ⟨fun k hk => (gP_new (h.2 ar har).1.1 hq).trans (h.1 k hk), fun b hb => ?_⟩
  obtain ⟨⟨m1, m2⟩, a1, a2, a3, a4, a5⟩ := h.2 b hb
  exact ⟨⟨List.mem_append_left _ m1, (show va_up (gK T) q ki b = _ from up_ne (ne_new m1 hq)).trans m2⟩, fun e => ⟨(gQ_new m1 hq).trans (a1 e).1, (gQ_new m1 hq).trans (a1 e).2⟩, fun e => ⟨fun k => (gQ_new m1 hq).trans ((a2 e).1 k), (gI_new m1 hq).trans (a2 e).2⟩, fun e => ⟨(gQ_new m1 hq).trans (a3 e).1, fun k => (gI_new m1 hq).trans ((a3 e).2 k)⟩, fun e k => (gR_new m1 hq).trans (a4 e k), fun e k => (gJ_new m1 hq).trans (a5 e k)⟩
theorem KT.rem {S : Pool} {ar rl k j : Nat} (hn : ar ≠ rl) : KT S (cRem S rl k j) ar := by
  refine ⟨fun i _ => ?_, fun b hb => ⟨⟨hb, rfl⟩, fun _ => ⟨rfl, rfl⟩, fun _ => ⟨fun _ => rfl, rfl⟩, fun _ => ⟨rfl, fun _ => rfl⟩, fun _ _ => rfl, fun _ _ => rfl⟩⟩
  have o : ¬ (ar = rl ∧ k ≤ i ∧ i < j) := fun e => hn e.1
  show (if ar = rl ∧ k ≤ i ∧ i < j then (if i + 1 < 5 then gP S rl (i + 1) else none) else gP S ar i) = _
  rw [if_neg o]
/-- a switch's tally, its rows -/
theorem okSw.tal {S : Pool} {a : Nat} (h : okSw S a) : gQ S a 6 = some (tyA S a) ∧ isO S (tyA S a) 4 ∧ (gQ S (tyA S a) 0 = some (tkA S a 0) ∧ isA S (tkA S a 0) 10 4) ∧ (gQ S (tyA S a) 1 = some (tkA S a 1) ∧ isA S (tkA S a 1) 11 4) ∧ (gQ S (tyA S a) 2 = some (tkA S a 2) ∧ isA S (tkA S a 2) 12 4) ∧ gQ S (tyA S a) 3 = some (tkA S a 3) ∧ isA S (tkA S a 3) 20 4 := by
  obtain ⟨-, -, -, -, ⟨ty, q6, hty, ⟨t0, q0, h0⟩, ⟨t1, q1, h1⟩, ⟨t2, q2, h2⟩, ⟨t3, q3, h3⟩⟩, -⟩ := h
  have e : tyA S a = ty := by simp [tyA, q6]
  have e0 : tkA S a 0 = t0 := by simp [tkA, tyA, q6, q0]
  have e1 : tkA S a 1 = t1 := by simp [tkA, tyA, q6, q1]
  have e2 : tkA S a 2 = t2 := by simp [tkA, tyA, q6, q2]
  have e3 : tkA S a 3 = t3 := by simp [tkA, tyA, q6, q3]
  rw [e0, e1, e2, e3, e]
  exact ⟨q6, hty, ⟨q0, h0⟩, ⟨q1, h1⟩, ⟨q2, h2⟩, q3, h3⟩
theorem okSw.ty4 {S : Pool} {a : Nat} (h : okSw S a) : isO S (tyA S a) 4 := h.tal.2.1
theorem okSw.k0 {S : Pool} {a : Nat} (h : okSw S a) : isA S (tkA S a 0) 10 4 := h.tal.2.2.1.2
theorem okSw.k1 {S : Pool} {a : Nat} (h : okSw S a) : isA S (tkA S a 1) 11 4 := h.tal.2.2.2.1.2
theorem okSw.k2 {S : Pool} {a : Nat} (h : okSw S a) : isA S (tkA S a 2) 12 4 := h.tal.2.2.2.2.1.2
theorem okSw.k3 {S : Pool} {a : Nat} (h : okSw S a) : isA S (tkA S a 3) 20 4 := h.tal.2.2.2.2.2.2
theorem KT.sw {S T : Pool} {ar a : Nat} (hK : KT S T ar) (h : okSw S a) : tyA T a = tyA S a ∧ (∀ k, tkA T a k = tkA S a k) ∧ ∀ u, cArmA T a u = cArmA S a u := by
  have hty := h.ty4
  have e6 := (hK.2 a h.1.1).2.1 h.1.2
  have ety : tyA T a = tyA S a := congrArg (fun z : Option Nat => z.getD 0) e6.1
  refine ⟨ety, fun k => ?_, fun u => ?_⟩
  · show (gQ T (tyA T a) k).getD 0 = (gQ S (tyA S a) k).getD 0
    rw [ety, ((hK.2 _ hty.1).2.2.1 hty.2).1 k]
  · obtain ⟨c, hc1, hc2⟩ := h.chA
    exact cArmA_ext hc2 e6.2 (fun b hb => ((hK.2 b hb.1).2.2.2.1 hb.2).2 0) (fun b hb => ((hK.2 b hb.1).2.2.2.1 hb.2).1)
theorem VAL.of {n na : Nat} {M N : MSt} (h : VAL n na M) (e : eqR M N) : VAL n na N := by
  obtain ⟨e5, e6, e23, e24, e25, e26, e27⟩ := e
  refine ⟨fun i hi => ?_, fun k hk => by rw [e27]; exact h.2.1 k hk, fun k hk => by rw [e26, e27]; exact h.2.2 k hk⟩
  obtain ⟨vc, a1, a2, a3, a4, a5⟩ := h.1 i hi
  exact ⟨vc, a1, a2, by rw [e5]; exact a3, fun v b1 b2 => by rw [e6]; exact a4 v b1 b2, fun k b1 b2 => by rw [e23] at b2; rw [e25]; exact a5 k b1 b2⟩
/-- whatever leaves the tallies and the arms -/
theorem TAL.keepV {n na na2 : Nat} {hh cc : Int32} {S T : Pool} {M N : MSt} {x ar ak : Nat} (h : TAL n na S M ar) (hC : INVC n na2 hh cc S x ar ak) (hK : KT S T ar) (e23 : N.2 23 = M.2 23) (e24 : N.2 24 = M.2 24) (e25 : N.2 25 = M.2 25) (e26 : N.2 26 = M.2 26) (e27 : N.2 27 = M.2 27) (hV : VAL n na N) : TAL n na T N ar := by
  obtain ⟨h1, h2, h3, -⟩ := h
  have n8 := hC.n8
  refine ⟨fun i hi a ha => ?_, fun i j a b hi hj ha hb hij => ?_, fun k q hk hq a1 a2 => ?_, hV⟩
  · rw [hK.1 i (by omega)] at ha
    have hs := hC.sw (by omega) ha
    obtain ⟨ety, etk, eA⟩ := hK.sw hs
    obtain ⟨b1, b2, b3⟩ := h1 i hi a ha
    have er : ∀ v what, rTold N.2 (nI i) (nI v) what na 0 0 = rTold M.2 (nI i) (nI v) what na 0 0 := fun v what => rT_ext na (fun k _ => ⟨by rw [e23], by rw [e25], fun _ => by unfold wT; rw [e26, e27]⟩)
    have r0 := (hK.2 _ hs.k0.1).2.2.2.2.1 (Or.inl hs.k0.2.1)
    have r1 := (hK.2 _ hs.k1.1).2.2.2.2.1 (Or.inr (Or.inl hs.k1.2.1))
    have r2 := (hK.2 _ hs.k2.1).2.2.2.2.1 (Or.inr (Or.inr hs.k2.2.1))
    have r3 := (hK.2 _ hs.k3.1).2.2.2.2.2 hs.k3.2.1
    refine ⟨fun v hv => ?_, ?_, fun u m k hm hk k1 k2 => ?_⟩
    · rw [etk, etk, etk, etk, r0, r1, r2, r3, er, er, er, er]; exact b1 v hv
    · rw [ety, etk, ((hK.2 _ hs.ty4.1).2.2.1 hs.ty4.2).2, r0, r0, r0, r0]; exact b2
    · rw [eA] at hm
      rw [e23] at k1
      rw [e24] at k2
      have hmO := hs.armO hm
      have g := ((hK.2 m hmO.1).2.2.2.1 hmO.2).2
      rw [g, g, g, e25, e26, e27]
      exact b3 u m k hm hk k1 k2
  · rw [hK.1 i hi] at ha
    rw [hK.1 j hj] at hb
    obtain ⟨ety, etk, eA⟩ := hK.sw (hC.sw hi ha)
    obtain ⟨fty, ftk, fA⟩ := hK.sw (hC.sw hj hb)
    obtain ⟨c1, c2, c3⟩ := h2 i j a b hi hj ha hb hij
    refine ⟨by rw [ety, fty]; exact c1, fun k hk => by rw [etk, ftk]; exact c2 k hk, fun u m hm => ?_⟩
    rw [eA] at hm
    rw [fA]
    exact c3 u m hm
  · rw [e23] at a1
    rw [e24] at a2
    exact h3 k q hk hq a1 a2
theorem TAL.keep {n na na2 : Nat} {hh cc : Int32} {S T : Pool} {M N : MSt} {x ar ak : Nat} (h : TAL n na S M ar) (hC : INVC n na2 hh cc S x ar ak) (hK : KT S T ar) (hR : eqR M N) : TAL n na T N ar :=
  h.keepV hC hK hR.2.2.1 hR.2.2.2.1 hR.2.2.2.2.1 hR.2.2.2.2.2.1 hR.2.2.2.2.2.2 (h.2.2.2.of hR)
/-- questions: the relation and the tallies -/
def QC2 (S T : Pool) (ar : Nat) : Prop := QC S T ∧ KT S T ar
theorem QC2.rf {S : Pool} {ar : Nat} : QC2 S S ar := ⟨QC.rf, KT.rf⟩
theorem eqA.qc2 {S T : Pool} {ak ar : Nat} (h : eqA S T ak) (hak : isO S ak 1) : QC2 S T ar := ⟨h.qc hak, KT.eA h hak⟩
theorem QC2.num {S : Pool} {x k ar : Nat} {v : Int32} (hx : isO S x 5) : QC2 S (pI S x k v) ar := ⟨QC.num hx, KT.rf.pI (nk_o hx (by decide) (by decide))⟩
theorem okR.ne {S : Pool} {ar a ka : Nat} (hR : okR S ar) (h : gK S a = ka) (hk : ka ≠ 22) : ar ≠ a := ne_of_kind hR.1.2.1 h (fun e => hk e.symm)
theorem nk_6 {S : Pool} {a : Nat} (h : gK S a = 6) : ∀ b, b ∈ gL S → (gK S b = 10 ∨ gK S b = 11 ∨ gK S b = 12) → b ≠ a := by
  intro b hb hk e
  subst e
  omega
theorem okSw.w6 {S : Pool} {a : Nat} (h : okSw S a) : gK S (wtA S a) = 6 := by
  obtain ⟨-, ⟨wt, w1, w2⟩, -⟩ := h
  rw [show wtA S a = wt by simp [wtA, w1]]
  exact w2.2.1
