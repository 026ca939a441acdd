/-! rule, unrule, ask: what stays -/
theorem INVC.gen {n na na2 : Nat} {hh cc h2 c2 : Int32} {S S' : Pool} {x ar ak : Nat} (h : INVC n na hh cc S x ar ak) (eL : ∀ b, b ∈ gL S → b ∈ gL S' ∧ gK S' b = gK S b ∧ gN S' b = gN S b) (eQ : ∀ b, b ∈ gL S → ∀ k, (k ≠ 7 ∨ gK S b ≠ 3) → gQ S' b k = gQ S b k) (eP : ∀ k, gP S' ar k = gP S ar k) (eR : ∀ b, isA S b 21 5 → (∀ k, k < 5 → ∀ u, gP S b k = some u → isO S u 2) → ∀ k, k < 5 → ∀ u, gP S' b k = some u → isO S' u 2) (e2 : gI S' x 2 = gI S x 2) (e3 : na2 ≤ 100 ∧ gI S' x 3 = nI na2) (e4 : gI S' x 4 = h2) (e5 : gI S' x 5 = c2) (hs : ∀ k, k < 8 → ∀ a, gP S ar k = some a → gI S' a 0 = gI S a 0 ∧ gI S' a 2 = gI S a 2 ∧ (∃ rc, rc ≤ 5 ∧ gI S' a 8 = nI rc) ∧ (gI S' a 9 = 0 ∨ gI S' a 9 = 1) ∧ ∃ c, c ≤ na2 ∧ chn S' c (gQ S' a 7)) : INVC n na2 h2 c2 S' x ar ak := by
  have eo : ∀ {b k : Nat}, isO S b k → isO S' b k := fun ho => ⟨(eL _ ho.1).1, (eL _ ho.1).2.1.trans ho.2⟩
  have ea : ∀ {b k m : Nat}, isA S b k m → isA S' b k m := fun ho => ⟨(eL _ ho.1).1, (eL _ ho.1).2.1.trans ho.2.1, (eL _ ho.1).2.2.trans ho.2.2⟩
  refine ⟨⟨eo h.hx, (eQ x h.hx.1 0 (Or.inl (by decide))).trans h.q0, (eQ x h.hx.1 1 (Or.inl (by decide))).trans h.q1, eo h.kk⟩, ⟨ea h.R.1, fun k hk a ha => ?_⟩, ⟨h.n8, e2.trans h.x2⟩, e3, fun k hk => ?_, fun k h1 h3 => (eP k).trans (h.non k h1 h3), fun k hk a ha => ?_, e4, e5⟩
  · rw [eP] at ha
    obtain ⟨s0, s2, s8, s9, c, hc, hch⟩ := hs k hk a ha
    obtain ⟨⟨o1, ⟨wt, w1, w2⟩, ⟨rl, r1, r2, r3⟩, -, ⟨ty, t1, t2, ⟨a0, u0, v0⟩, ⟨a1, u1, v1⟩, ⟨a2, u2, v2⟩, ⟨a3, u3, v3⟩⟩, -⟩, o2⟩ := h.R.2 k hk a ha
    have q := fun j (hj : j ≠ 7) => eQ a o1.1 j (Or.inl hj)
    have qt := fun j => eQ ty t2.1 j (Or.inr (by rw [t2.2]; decide))
    exact ⟨⟨eo o1, ⟨wt, (q 4 (by decide)).trans w1, ea w2⟩, ⟨rl, (q 5 (by decide)).trans r1, ea r2, eR rl r2 r3⟩, ⟨c, Nat.le_trans hc e3.1, hch⟩, ⟨ty, (q 6 (by decide)).trans t1, eo t2, ⟨a0, (qt 0).trans u0, ea v0⟩, ⟨a1, (qt 1).trans u1, ea v1⟩, ⟨a2, (qt 2).trans u2, ea v2⟩, ⟨a3, (qt 3).trans u3, ea v3⟩⟩, s9⟩, s0.trans o2⟩
  · obtain ⟨a, ha⟩ := h.row k hk
    exact ⟨a, (eP k).trans ha⟩
  · rw [eP] at ha
    obtain ⟨s0, s2, s8, s9, hc⟩ := hs k hk a ha
    obtain ⟨-, ⟨vc, v1, v2⟩, -⟩ := h.s k hk a ha
    exact ⟨hc, ⟨vc, v1, s2.trans v2⟩, s8⟩
theorem INVC.rule {n na rc j a rl q : Nat} {hh cc p1 p2 p3 p4 : Int32} {S : Pool} {x ar ak : Nat} (h : INVC n na hh cc S x ar ak) (hrl : isA S rl 21 5) (hj : j < 8) (hja : gP S ar j = some a) (hrc : rc < 5) (hq : q ∉ gL S) : INVC n na hh cc (pI (pP (pI (pI (pI (pI (pW S q 2 0) q 0 p1) q 1 p2) q 2 p3) q 3 p4) rl rc (some q)) a 8 (nI (rc + 1))) x ar ak := by
  have hE : ExtI S (pI (pI (pI (pI (pW S q 2 0) q 0 p1) q 1 p2) q 2 p3) q 3 p4) := ((((ExtI.rf.new hq).pI hq).pI hq).pI hq).pI hq
  have ho : isO (pI (pI (pI (pI (pW S q 2 0) q 0 p1) q 1 p2) q 2 p3) q 3 p4) q 2 := isO_q (S := S) (ki := 2) (n := 0)
  generalize (pI (pI (pI (pI (pW S q 2 0) q 0 p1) q 1 p2) q 2 p3) q 3 p4) = T at hE ho
  have hsa := h.sw hj hja
  have xa : x ≠ a := ne_of_kind h.hx.2 hsa.1.2 (by decide)
  have ex : ∀ k, gI (pI (pP T rl rc (some q)) a 8 (nI (rc + 1))) x k = gI S x k := fun k => (show u2 (gI T) a 8 (nI (rc + 1)) x k = _ from (u2_a xa).trans (hE.2 x h.hx.1 k))
  have eb : ∀ b, b ∈ gL S → ∀ k, k ≠ 8 → gI (pI (pP T rl rc (some q)) a 8 (nI (rc + 1))) b k = gI S b k := fun b hb k hk => (show u2 (gI T) a 8 (nI (rc + 1)) b k = _ from (u2_k hk).trans (hE.2 b hb k))
  refine h.gen (fun b hb => (hE.1 b hb).1) (fun b hb k _ => (hE.1 b hb).2.1 k) (fun k => (show u2 (gP T) rl rc (some q) ar k = _ from (u2_a (ne_of_kind h.R.1.2.1 hrl.2.1 (by decide))).trans ((hE.1 ar h.R.1.1).2.2 k))) (fun b hb hr k hk u hu => ?_) (ex 2) ⟨h.na1, (ex 3).trans h.x3⟩ ((ex 4).trans h.x4) ((ex 5).trans h.x5) (fun k hk b hb => ?_)
  · have hu : u2 (gP T) rl rc (some q) b k = some u := hu
    by_cases hbr : b = rl ∧ k = rc
    · obtain ⟨rfl, rfl⟩ := hbr
      rw [u2_s] at hu
      cases hu
      exact ho
    · have h9 : u2 (gP T) rl rc (some q) b k = gP T b k := by simp only [u2, hbr, if_false]
      rw [h9, (hE.1 b hb.1).2.2 k] at hu
      exact hE.1.o (hr k hk u hu)
  · have hsb := h.sw hk hb
    obtain ⟨⟨c, c1, c2⟩, -, ⟨r9, r1, r2⟩⟩ := h.s k hk b hb
    refine ⟨eb b hsb.1.1 0 (by decide), eb b hsb.1.1 2 (by decide), ?_, ?_, c, c1, ?_⟩
    · by_cases hba : b = a
      · subst hba; exact ⟨rc + 1, by omega, (show u2 (gI T) b 8 (nI (rc + 1)) b 8 = _ from u2_s)⟩
      · exact ⟨r9, r1, (show u2 (gI T) a 8 (nI (rc + 1)) b 8 = _ from (u2_a hba).trans ((hE.2 b hsb.1.1 8).trans r2))⟩
    · rw [eb b hsb.1.1 9 (by decide)]; exact h.h9 hk hb
    · show chn _ c (gQ T b 7)
      rw [(hE.1 b hsb.1.1).2.1 7]
      exact chn_ext (S := S) (S' := pI (pP T rl rc (some q)) a 8 (nI (rc + 1))) (fun b hb => hE.1.o hb) (fun b hb => (hE.1 b hb.1).2.1 2) c _ c2
theorem INVC.unrule {n na k9 rc j a rl : Nat} {hh cc : Int32} {S : Pool} {x ar ak : Nat} (h : INVC n na hh cc S x ar ak) (hrl : isA S rl 21 5) (hj : j < 8) (hja : gP S ar j = some a) (hrc : rc < 5) : INVC n na hh cc (pI (cRem S rl k9 5) a 8 (nI rc)) x ar ak := by
  have hsa := h.sw hj hja
  have xa : x ≠ a := ne_of_kind h.hx.2 hsa.1.2 (by decide)
  have ex : ∀ k, gI (pI (cRem S rl k9 5) a 8 (nI rc)) x k = gI S x k := fun k => (show u2 (gI S) a 8 (nI rc) x k = _ from (u2_a xa))
  have eb : ∀ b k, k ≠ 8 → gI (pI (cRem S rl k9 5) a 8 (nI rc)) b k = gI S b k := fun b k hk => (show u2 (gI S) a 8 (nI rc) b k = _ from (u2_k hk))
  have eP : ∀ b k, gP (pI (cRem S rl k9 5) a 8 (nI rc)) b k = if b = rl ∧ k9 ≤ k ∧ k < 5 then (if k + 1 < 5 then gP S rl (k + 1) else none) else gP S b k := fun b k => rfl
  refine h.gen (fun b hb => ⟨hb, rfl, rfl⟩) (fun b hb k _ => rfl) (fun k => ?_) (fun b hb hr k hk u hu => ?_) (ex 2) ⟨h.na1, (ex 3).trans h.x3⟩ ((ex 4).trans h.x4) ((ex 5).trans h.x5) (fun k hk b hb => ?_)
  · rw [eP, if_neg (fun q => ne_of_kind h.R.1.2.1 hrl.2.1 (by decide) q.1)]
  · rw [eP] at hu
    by_cases hbr : b = rl ∧ k9 ≤ k ∧ k < 5
    · rw [if_pos hbr] at hu
      obtain ⟨rfl, -, -⟩ := hbr
      by_cases h5 : k + 1 < 5
      · rw [if_pos h5] at hu; exact hr (k + 1) h5 u hu
      · rw [if_neg h5] at hu; cases hu
    · rw [if_neg hbr] at hu; exact hr k hk u hu
  · obtain ⟨⟨c, c1, c2⟩, -, ⟨r9, r1, r2⟩⟩ := h.s k hk b hb
    refine ⟨eb b 0 (by decide), eb b 2 (by decide), ?_, ?_, c, c1, ?_⟩
    · by_cases hba : b = a
      · subst hba; exact ⟨rc, by omega, (show u2 (gI S) b 8 (nI rc) b 8 = _ from u2_s)⟩
      · exact ⟨r9, r1, (show u2 (gI S) a 8 (nI rc) b 8 = _ from (u2_a hba).trans r2)⟩
    · rw [eb b 9 (by decide)]; exact h.h9 hk hb
    · exact chn_ext (S := S) (S' := pI (cRem S rl k9 5) a 8 (nI rc)) (fun b hb => hb) (fun b hb => rfl) c _ c2
theorem INVC.arm {n na j a q t9 v ty : Nat} {hh cc p1 g t : Int32} {S : Pool} {x ar ak : Nat} (h : INVC n na hh cc S x ar ak) (hj : j < 8) (hja : gP S ar j = some a) (hq : q ∉ gL S) (hty : isO S ty 4) (hna : na < 100) : INVC n (na + 1) hh cc (pI (pI (pR (pQ (pQ (pI (pI (pW S q 0 0) q 0 p1) q 1 (nI v)) q 2 (gQ S a 7)) a 7 (some q)) t9 v g) ty 4 t) x 3 (nI (na + 1))) x ar ak := by
  have hE : ExtI S (pQ (pI (pI (pW S q 0 0) q 0 p1) q 1 (nI v)) q 2 (gQ S a 7)) := (((ExtI.rf.new hq).pI hq).pI hq).pQ hq
  have ho : isO (pQ (pI (pI (pW S q 0 0) q 0 p1) q 1 (nI v)) q 2 (gQ S a 7)) q 0 := isO_q (S := S) (ki := 0) (n := 0)
  have hg : gQ (pQ (pI (pI (pW S q 0 0) q 0 p1) q 1 (nI v)) q 2 (gQ S a 7)) q 2 = gQ S a 7 := u2_s
  generalize (pQ (pI (pI (pW S q 0 0) q 0 p1) q 1 (nI v)) q 2 (gQ S a 7)) = T at hE ho hg
  have hsa := h.sw hj hja
  have hqa : q ≠ a := fun e => hq (e ▸ hsa.1.1)
  have xt : x ≠ ty := ne_of_kind h.hx.2 hty.2 (by decide)
  have hst : ∀ b, isO S b 3 → b ≠ ty ∧ b ≠ x := fun b hb => ⟨ne_of_kind hb.2 hty.2 (by decide), ne_of_kind hb.2 h.hx.2 (by decide)⟩
  have ex : ∀ k, k ≠ 3 → gI (pI (pI (pR (pQ T a 7 (some q)) t9 v g) ty 4 t) x 3 (nI (na + 1))) x k = gI S x k := fun k hk => (show u2 (u2 (gI T) ty 4 t) x 3 (nI (na + 1)) x k = _ from (u2_k hk).trans ((u2_a xt).trans (hE.2 x h.hx.1 k)))
  have eb : ∀ b, isO S b 3 → ∀ k, gI (pI (pI (pR (pQ T a 7 (some q)) t9 v g) ty 4 t) x 3 (nI (na + 1))) b k = gI S b k := fun b hb k => (show u2 (u2 (gI T) ty 4 t) x 3 (nI (na + 1)) b k = _ from (u2_a (hst b hb).2).trans ((u2_a (hst b hb).1).trans (hE.2 b hb.1 k)))
  have eQ : ∀ b k, gQ (pI (pI (pR (pQ T a 7 (some q)) t9 v g) ty 4 t) x 3 (nI (na + 1))) b k = u2 (gQ T) a 7 (some q) b k := fun b k => rfl
  refine h.gen (fun b hb => (hE.1 b hb).1) (fun b hb k hk => ?_) (fun k => (hE.1 ar h.R.1.1).2.2 k) (fun b hb hr k hk u hu => hE.1.o (hr k hk u (((hE.1 b hb.1).2.2 k).symm.trans hu))) (ex 2 (by decide)) ⟨by omega, (show u2 (u2 (gI T) ty 4 t) x 3 (nI (na + 1)) x 3 = _ from u2_s)⟩ ((ex 4 (by decide)).trans h.x4) ((ex 5 (by decide)).trans h.x5) (fun k hk b hb => ?_)
  · rw [eQ]
    rcases hk with hk | hk
    · exact (u2_k hk).trans ((hE.1 b hb).2.1 k)
    · exact (u2_a (fun e => hk (by rw [e]; exact hsa.1.2))).trans ((hE.1 b hb).2.1 k)
  · have hsb := h.sw hk hb
    obtain ⟨⟨c, c1, c2⟩, -, hr8⟩ := h.s k hk b hb
    have hch : ∀ c r, chn S c r → chn (pI (pI (pR (pQ T a 7 (some q)) t9 v g) ty 4 t) x 3 (nI (na + 1))) c r := fun c r hc => chn_ext (S := S) (S' := pI (pI (pR (pQ T a 7 (some q)) t9 v g) ty 4 t) x 3 (nI (na + 1))) (fun b hb => hE.1.o hb) (fun b hb => (show u2 (gQ T) a 7 (some q) b 2 = _ from (u2_k (by decide)).trans ((hE.1 b hb.1).2.1 2))) c r hc
    refine ⟨eb b hsb.1 0, eb b hsb.1 2, by rw [eb b hsb.1 8]; exact hr8, by rw [eb b hsb.1 9]; exact h.h9 hk hb, ?_⟩
    by_cases hba : b = a
    · subst hba
      refine ⟨c + 1, by omega, ?_⟩
      rw [eQ, u2_s]
      refine ⟨q, rfl, ho, ?_⟩
      rw [eQ, u2_a hqa, hg]
      exact hch c _ c2
    · refine ⟨c, by omega, ?_⟩
      rw [eQ, u2_a hba, (hE.1 b hsb.1.1).2.1 7]
      exact hch c _ c2
/-- the variant of a split is a number below 4 -/
theorem cSplit_n (S : Pool) (wt : Nat) (bk : Int32) : ∀ c v acc, c + v ≤ 4 → ∃ k, k < 4 ∧ cSplit S wt bk c v acc = nI k := by
  intro c
  induction c with
  | zero => intro v acc _; exact ⟨0, by omega, rfl⟩
  | succ c ih =>
    intro v acc h
    unfold cSplit
    split
    · exact ⟨v, by omega, rfl⟩
    · exact ih _ _ (by omega)
theorem cVar_8 (S : Pool) (ak a : Nat) {k : Int32} (hk : k = 8) : ∃ v, v < 4 ∧ cVar S ak a k = nI v := by
  subst hk
  unfold cVar
  rw [if_neg (by decide), if_neg (by decide), if_pos rfl]
  exact cSplit_n S _ _ 4 0 0 (by omega)
