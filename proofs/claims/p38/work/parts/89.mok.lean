/-! what stays of class and abstract state together, and what is known of the numbers -/
def GG (n na : Nat) (S : Pool) (M : MSt) (x ar ak : Nat) : Prop := INVC n na (M.1 2) (M.1 1) S x ar ak ∧ REL True n na S M ar ∧ TAL n na S M ar ∧ INVR n na M ∧ LAY n M
section GGS
variable {n na : Nat} {S : Pool} {M : MSt} {x ar ak j a : Nat}
theorem GG.c (h : GG n na S M x ar ak) : INVC n na (M.1 2) (M.1 1) S x ar ak := h.1
theorem GG.l (h : GG n na S M x ar ak) : REL True n na S M ar := h.2.1
theorem GG.t (h : GG n na S M x ar ak) : TAL n na S M ar := h.2.2.1
theorem GG.r (h : GG n na S M x ar ak) : INVR n na M := h.2.2.2.1
theorem GG.y (h : GG n na S M x ar ak) : LAY n M := h.2.2.2.2
theorem GG.sw (h : GG n na S M x ar ak) (hjn : j < n) (hja : gP S ar j = some a) : okSw S a := h.c.sw (by have := h.c.n8; omega) hja
theorem GG.turn {v : Int32} (g : GG n na S M x ar ak) (hjn : j < n) (hja : gP S ar j = some a) (hz : v = 0 ∨ v = 1) : GG n na (pI S a 9 v) (mR M 11 j v) x ar ak := by
  obtain ⟨h, hL9, hZ, hI, hY⟩ := g
  have hs := h.sw (by have := h.n8; omega) hja
  exact ⟨h.on hs.1 hz, hL9.num h hjn hja (k := 9) (k' := 11) (v := v) (by decide) (by decide) (by decide), hZ.keep h (KT.rf.pI (nk_o hs.1 (by decide) (by decide))) ⟨rfl, rfl, rfl, rfl, rfl, rfl, rfl⟩, INVR.on hI hjn hz, hY.of rfl⟩
theorem GG.ramp {p1 p2 : Int32} (g : GG n na S M x ar ak) (hjn : j < n) (hja : gP S ar j = some a) : GG n na (pI (pI (pI S a 10 p1) a 11 p2) a 12 (M.1 1)) (mR (mR (mR M 7 j p1) 8 j p2) 9 j (M.1 1)) x ar ak := by
  obtain ⟨h, hL9, hZ, hI, hY⟩ := g
  have hs := h.sw (by have := h.n8; omega) hja
  have hk := nk_o hs.1 (by decide) (by decide)
  exact ⟨((h.pIs hs.1 (k := 10) (v := p1) (by decide)).pIs (k := 11) (v := p2) hs.1 (by decide)).pIs (k := 12) (v := M.1 1) hs.1 (by decide), hL9.ramp h hjn hja, hZ.keep h (((KT.rf.pI hk).pI hk).pI hk) ⟨rfl, rfl, rfl, rfl, rfl, rfl, rfl⟩, INVR.iR (INVR.iR (INVR.iR hI (by decide)) (by decide)) (by decide), hY.of rfl⟩
theorem GG.place {p1 p2 p3 : Int32} (g : GG n na S M x ar ak) (hjn : j < n) (hja : gP S ar j = some a) (hw : ∃ w, w ≤ 1000 ∧ p3 = nI w) : GG n na (pI (pI (pI S a 13 p1) a 14 p2) a 15 p3) (mR (mR (mR M 12 j p1) 13 j p2) 14 j p3) x ar ak := by
  obtain ⟨h, hL9, hZ, hI, hY⟩ := g
  have hs := h.sw (by have := h.n8; omega) hja
  have hk := nk_o hs.1 (by decide) (by decide)
  have c1 := h.pIs hs.1 (k := 13) (v := p1) (by decide)
  have c2 := c1.pIs (k := 14) (v := p2) hs.1 (by decide)
  refine ⟨c2.pIs (k := 15) (v := p3) hs.1 (by decide), ((hL9.num h hjn hja (k := 13) (k' := 12) (v := p1) (by decide) (by decide) (by decide)).num c1 hjn hja (k := 14) (k' := 13) (v := p2) (by decide) (by decide) (by decide)).num c2 hjn hja (k := 15) (k' := 14) (v := p3) (by decide) (by decide) (by decide), hZ.keep h (((KT.rf.pI hk).pI hk).pI hk) ⟨rfl, rfl, rfl, rfl, rfl, rfl, rfl⟩, INVR.iR (INVR.iR (INVR.iR hI (by decide)) (by decide)) (by decide), hY.up (j := j) (fun k q => if_neg q) ?_⟩
  obtain ⟨w9, hw9, ew9⟩ := hw
  exact ⟨w9, hw9, (if_pos rfl).trans ew9⟩
theorem GG.need {p1 p2 : Int32} (g : GG n na S M x ar ak) (hjn : j < n) (hja : gP S ar j = some a) (hv : p1 = -1 ∨ ∃ i, i < j ∧ p1 = nI i) : GG n na (pI (pI S a 16 p1) a 17 p2) (mR (mR M 15 j p1) 16 j p2) x ar ak := by
  obtain ⟨h, hL9, hZ, hI, hY⟩ := g
  have hs := h.sw (by have := h.n8; omega) hja
  have hk := nk_o hs.1 (by decide) (by decide)
  have c1 := h.pIs hs.1 (k := 16) (v := p1) (by decide)
  exact ⟨c1.pIs (k := 17) (v := p2) hs.1 (by decide), (hL9.num h hjn hja (k := 16) (k' := 15) (v := p1) (by decide) (by decide) (by decide)).num c1 hjn hja (k := 17) (k' := 16) (v := p2) (by decide) (by decide) (by decide), hZ.keep h ((KT.rf.pI hk).pI hk) ⟨rfl, rfl, rfl, rfl, rfl, rfl, rfl⟩, INVR.iR (INVR.need hI hjn hv) (by decide), hY.of rfl⟩
theorem GG.rule {p1 p2 p3 p4 : Int32} {rc q : Nat} (g : GG n na S M x ar ak) (hjn : j < n) (hja : gP S ar j = some a) (hrc : rc < 5) (h17 : M.2 17 j = nI rc) (hq : q ∉ gL S) : GG n na (pI (pP (pI (pI (pI (pI (pW S q 2 0) q 0 p1) q 1 p2) q 2 p3) q 3 p4) (rlA S a) rc (some q)) a 8 (nI (rc + 1))) (mR (mR (mR (mR (mR M 18 (5 * j + rc) p1) 19 (5 * j + rc) p2) 20 (5 * j + rc) p3) 21 (5 * j + rc) p4) 17 j (nI (rc + 1))) x ar ak := by
  obtain ⟨h, hL9, hZ, hI, hY⟩ := g
  have hs := h.sw (by have := h.n8; omega) hja
  exact ⟨h.rule hs.rl (by have := h.n8; omega) hja hrc hq, hL9.rule h hjn hja hrc h17 hq, hZ.keep h (((((((KT.rf.new h.R.1.1 hq).pI (nk_q hq)).pI (nk_q hq)).pI (nk_q hq)).pI (nk_q hq)).pP (h.R.ne hs.rl.2.1 (by decide))).pI (nk_o hs.1 (by decide) (by decide))) ⟨rfl, rfl, rfl, rfl, rfl, rfl, rfl⟩, INVR.rules (INVR.iR (INVR.iR (INVR.iR (INVR.iR hI (by decide)) (by decide)) (by decide)) (by decide)) hjn (by omega), hY.of rfl⟩
abbrev mUnr (M : MSt) (j k rc : Nat) : MSt := mR (mU (mU (mU (mU M 18 (rMv (M.2 18) (5 * j + k) (5 * j + rc - (5 * j + k) - 1))) 19 (rMv (M.2 19) (5 * j + k) (5 * j + rc - (5 * j + k) - 1))) 20 (rMv (M.2 20) (5 * j + k) (5 * j + rc - (5 * j + k) - 1))) 21 (rMv (M.2 21) (5 * j + k) (5 * j + rc - (5 * j + k) - 1))) 17 j (nI (rc - 1))
theorem GG.unrule {rc k : Nat} (g : GG n na S M x ar ak) (hjn : j < n) (hja : gP S ar j = some a) (hrc : rc ≤ 5) (h17 : M.2 17 j = nI rc) (hk : k < rc) : GG n na (pI (cRem S (rlA S a) k 5) a 8 (nI (rc - 1))) (mUnr M j k rc) x ar ak := by
  obtain ⟨h, hL9, hZ, hI, hY⟩ := g
  have hs := h.sw (by have := h.n8; omega) hja
  exact ⟨h.unrule hs.rl (by have := h.n8; omega) hja (by omega), hL9.unrule h hjn hja hrc h17 hk (fun j9 a1 a2 a3 a4 a5 => (up_o a1).trans ((up_o a5).trans ((up_o a4).trans ((up_o a3).trans (up_o a2))))) (fun j9 => rfl) (fun q9 hq9 j9 => by rw [show 5 * j + rc - 1 = 5 * j + k + (5 * j + rc - (5 * j + k) - 1) by omega]; rcases hq9 with rfl | rfl | rfl | rfl <;> rfl), hZ.keep h ((KT.rem (h.R.ne hs.rl.2.1 (by decide))).pI (nk_o hs.1 (by decide) (by decide))) ⟨rfl, rfl, rfl, rfl, rfl, rfl, rfl⟩, INVR.rules (INVR.iU (INVR.iU (INVR.iU (INVR.iU hI (by decide)) (by decide)) (by decide)) (by decide)) hjn (by omega), hY.of rfl⟩
theorem GG.weigh {v w0 w1 p : Nat} (g : GG n na S M x ar ak) (hjn : j < n) (hja : gP S ar j = some a) (hv0 : v ≠ 0) (hv4 : v < 4) (hv : kOut (nI v) 0 (M.2 5 j - 1) = 0) (m0 : M.2 6 (4 * j) = nI w0) (m1 : M.2 6 (4 * j + v) = nI w1) (hw : w0 + w1 ≤ 1000) (hp : p ≤ w0 + w1) : GG n na (pR (pR S (wtA S a) v (nI p)) (wtA S a) 0 (nI (w0 + w1 - p))) (mR (mR M 6 (4 * j) (nI (w0 + w1 - p))) 6 (4 * j + v) (nI p)) x ar ak := by
  obtain ⟨h, hL9, hZ, hI, hY⟩ := g
  have hs := h.sw (by have := h.n8; omega) hja
  refine ⟨h.rw1.rw1, hL9.weigh h hjn hja hv0 hv4 (by omega) (by omega), hZ.keepV h ((KT.rf.pR (nk_6 hs.w6)).pR (nk_6 hs.w6)) rfl rfl rfl rfl rfl ?_, ?_, hY.of rfl⟩
  · have h9 := hZ.2.2.2.weigh (w0 := nI (w0 + w1 - p)) (w1 := nI p) hjn hv4 hv
    exact h9
  · have h9 := INVR.weigh (p := nI p) hI hjn hv0 hv4
    rw [m0, m1, show nI w1 - nI p = nI w1 - nI p from rfl] at h9
    rw [show nI w0 + (nI w1 - nI p) = nI (w0 + w1 - p) from ?_] at h9
    · exact h9
    · rw [show nI (w0 + w1 - p) = nI w0 + nI w1 - nI p from by rw [nI_add, pk_sub hp]]
      rw [Int32.sub_eq_add_neg, Int32.sub_eq_add_neg, Int32.add_assoc]
theorem GG.hold {v : Int32} (g : GG n na S M x ar ak) : GG n na (pI S x 4 v) (mS M 2 v) x ar ak := by
  obtain ⟨h, hL9, hZ, hI, hY⟩ := g
  exact ⟨h.hold, (hL9.qc h (QC.num h.hx) eqM.rf).rows rfl, hZ.keep h (QC2.num h.hx).2 ⟨rfl, rfl, rfl, rfl, rfl, rfl, rfl⟩, hI.iS (by decide) (by decide), hY.of rfl⟩
theorem GG.clock {v : Int32} (g : GG n na S M x ar ak) : GG n na (pI S x 5 v) (mS M 1 v) x ar ak := by
  obtain ⟨h, hL9, hZ, hI, hY⟩ := g
  exact ⟨h.clock, (hL9.qc h (QC.num h.hx) eqM.rf).rows rfl, hZ.keep h (QC2.num h.hx).2 ⟨rfl, rfl, rfl, rfl, rfl, rfl, rfl⟩, hI.iS (by decide) (by decide), hY.of rfl⟩
theorem GG.eA {T : Pool} (g : GG n na S M x ar ak) (e : eqA S T ak) : GG n na T M x ar ak := by
  obtain ⟨h, hL9, hZ, hI, hY⟩ := g
  exact ⟨h.eA e, hL9.qc h (e.qc h.kk) eqM.rf, hZ.keep h (KT.eA e h.kk) eqR.rf, hI, hY⟩
abbrev mAdd (M : MSt) (n : Nat) (p0 p1 p2 : Int32) : MSt := mS (mR (mR (mR (mR (mR (mR (mR (mR M 4 n p0) 5 n p1) 6 (4 * n) 1000) 7 n 1000) 9 n (M.1 1)) 10 n p2) 12 n (-1)) 15 n (-1)) 3 (nI (n + 1))
abbrev mArm (M : MSt) (na j : Nat) (u : Int32) (v : Nat) : MSt := mR (mS (mR (mR M 23 na (nI j)) 24 na u) 22 (nI (na + 1))) 25 na (nI v)
theorem GG.arm {q ty t9 v vc : Nat} {u : Int32} (g : GG n na S M x ar ak) (hjn : j < n) (hja : gP S ar j = some a) (hq : q ∉ gL S) (hna : na < 100) (harm : cArmA S a u = none) (hv4 : v < 4) (hvc : M.2 5 j = nI vc ∧ v < vc ∧ vc ≤ 4) (e6 : gQ S a 6 = some ty) (e60 : gQ S ty 0 = some t9) : GG n (na + 1) (pI (pI (pR (pQ (pQ (pI (pI (pW S q 0 0) q 0 u) q 1 (nI v)) q 2 (gQ S a 7)) a 7 (some q)) t9 v (gR S t9 v + 1)) ty 4 (gI S ty 4 + 1)) x 3 (nI (na + 1))) (mArm M na j u v) x ar ak := by
  obtain ⟨h, hL9, hZ, hI, hY⟩ := g
  have hs := h.sw (by have := h.n8; omega) hja
  exact ⟨h.arm (by have := h.n8; omega) hja hq (hs.ty e6) hna, hL9.arm h hjn hja hq (hs.ty e6) (hs.t9 e6 e60) hna hna harm (fun j9 b1 b2 b3 => (up_o b3).trans ((up_o b2).trans (up_o b1))) (fun j9 => rfl) (fun j9 => rfl) (fun j9 => rfl), hZ.arm h hL9 hjn hja hq hna hna harm hv4 ⟨vc, hvc⟩ e6 e60 rfl rfl (fun j9 b1 b2 b3 => (up_o b3).trans ((up_o b2).trans (up_o b1))) (fun j9 => rfl) (fun j9 => rfl) (fun j9 => rfl), INVR.iR (INVR.arm (INVR.iR (INVR.iR hI (by decide)) (by decide)) hna) (by decide), hY.of rfl⟩
abbrev mAct (M : MSt) (na : Nat) (u w : Int32) : MSt := mU (mU M 26 (rA26 M.2 u w na)) 27 (rA27 M.2 u na)
theorem GG.act {u w : Int32} (g : GG n na S M x ar ak) (hT9 : eqT S (cActP S ar u w 8)) : GG n na (cActP S ar u w 8) (mAct M na u w) x ar ak := by
  obtain ⟨h, hL9, hZ, hI, hY⟩ := g
  exact ⟨h.eT hT9, hL9.qc h hT9.qc ⟨fun k h1 h2 => (up_o h2).trans (up_o h1), fun _ _ _ => rfl⟩, hZ.act h hL9 hI.na (fun j9 b1 b2 => (up_o b2).trans (up_o b1)) rfl rfl, INVR.iU (INVR.iU hI (by decide)) (by decide), hY.of rfl⟩
end GGS
section GGA
variable {n na : Nat} {S T : Pool} {M : MSt} {x ar ak q : Nat} {p0 p1 p2 : Int32}
theorem GG.add (g : GG n na S M x ar ak) (hn : n < 8) (h1 : kIn p0 0 498 = 1) (h2 : kIn p1 2 4 = 1) (hE : ExtI S T) (hq : q ∉ gL S) (hs : okSw T q) (hgR : ∀ b, b ∈ gL S → ∀ k, gR T b k = gR S b k) (g0 : gI T q 0 = gI S x 2) (gN : gI T q 1 = p0 ∧ gI T q 2 = p1 ∧ gI T q 3 = p2 ∧ gI T q 8 = 0 ∧ gI T q 9 = 0 ∧ gI T q 10 = 1000 ∧ gI T q 11 = 0 ∧ gI T q 13 = -1 ∧ gI T q 14 = 0 ∧ gI T q 15 = 0 ∧ gI T q 16 = -1 ∧ gI T q 17 = 0) (gw : ∀ v, gR T (wtA T q) v = if v = 0 then 1000 else 0) (hw : wtA T q ∉ gL S) (gp : ∀ k, gP T (rlA T q) k = none) (hr : rlA T q ∉ gL S) (g7 : gQ T q 7 = none) (tq1 : tyA T q ∉ gL S) (tq2 : ∀ k, k < 4 → tkA T q k ∉ gL S) (tq3 : ∀ v, gR T (tkA T q 0) v = 0 ∧ gR T (tkA T q 1) v = 0 ∧ gR T (tkA T q 2) v = 0 ∧ gJ T (tkA T q 3) v = 0) (tq4 : gI T (tyA T q) 4 = 0) (hgJ : ∀ b, b ∈ gL S → ∀ k, gJ T b k = gJ S b k) : GG (n + 1) na (pI (pP T ar (gI S x 2).toNatClampNeg (some q)) x 2 (gI S x 2 + 1)) (mAdd M n p0 p1 p2) x ar ak := by
  obtain ⟨h, hL9, hZ, hI, hY⟩ := g
  obtain ⟨vc, -, v1, v2⟩ := kIn_nat 2 4 (by omega) (by omega) h2
  exact ⟨h.add1 hn hE hq hs g0 gN.2.1 gN.2.2.2.1 g7 ⟨vc, v1, v2⟩, hL9.add1 h hI hn hE hq hs hgR gN gw hw gp hr g7 (fun j9 b4 b5 b6 b7 b9 b10 b12 b15 => (up_o b15).trans ((up_o b12).trans ((up_o b10).trans ((up_o b9).trans ((up_o b7).trans ((up_o b6).trans ((up_o b5).trans (up_o b4)))))))) (fun j9 => rfl) (fun j9 => rfl) (fun j9 => rfl) (fun j9 => rfl) (fun j9 => rfl) (fun j9 => rfl) (fun j9 => rfl) (fun j9 => rfl), hZ.add h hL9 hI hn hE hq hs h2 hgR hgJ g7 tq1 tq2 tq3 tq4 (fun j9 => rfl) (fun j9 => rfl) rfl rfl rfl rfl rfl, hI.add hn h1 h2, hY.add rfl (hL9.2.2.1 n (Nat.le_refl _)).2.2.1⟩
end GGA
/-- a number from 0 to B -/
def nB (B : Nat) (v : Int32) : Prop := ∃ k, k ≤ B ∧ v = nI k
abbrev nv (v : Int32) : Nat := v.toNatClampNeg
theorem nv_nI {k : Nat} (h : k < 2 ^ 31) : nv (nI k) = k := ki_cl h
theorem nB.le {B C : Nat} {v : Int32} (h : nB B v) (hc : B ≤ C) : nB C v := by
  obtain ⟨k, h1, h2⟩ := h
  exact ⟨k, Nat.le_trans h1 hc, h2⟩
theorem nB.z {B : Nat} : nB B 0 := ⟨0, Nat.zero_le _, rfl⟩
/-- clock and holdout -/
def MKc (c : Nat) (M : MSt) : Prop := M.1 1 = nI c ∧ nB 1000 (M.1 2)
/-- sticky, the ramp -/
def MKs (n c : Nat) (M : MSt) : Prop := ∀ i, i < n → (M.2 10 i = 0 ∨ M.2 10 i = 1) ∧ nB 1000 (M.2 7 i) ∧ nB 1000 (M.2 8 i) ∧ nB c (M.2 9 i)
/-- layers -/
def MKl (n : Nat) (M : MSt) : Prop := (∀ i, i < n → (M.2 12 i = -1 ∨ nB 2 (M.2 12 i)) ∧ nB 1000 (M.2 13 i) ∧ nB 1000 (M.2 14 i)) ∧ ∀ i j, i < n → j < n → i ≠ j → M.2 12 i ≠ -1 → M.2 12 j = M.2 12 i → ∀ b : Nat, ¬ (nv (M.2 13 i) ≤ b ∧ b < nv (M.2 14 i) ∧ nv (M.2 13 j) ≤ b ∧ b < nv (M.2 14 j))
/-- rules -/
def MKu (n : Nat) (M : MSt) : Prop := ∀ i, i < n → ∀ rc vc, rc ≤ 5 → M.2 17 i = nI rc → vc ≤ 4 → M.2 5 i = nI vc → ∀ q, q < rc → nB 1 (M.2 18 (5 * i + q)) ∧ (∃ h, 1 ≤ h ∧ h ≤ 3 ∧ M.2 19 (5 * i + q) = nI h) ∧ nB 9 (M.2 20 (5 * i + q)) ∧ (M.2 21 (5 * i + q) = -1 ∨ ∃ v, v < vc ∧ M.2 21 (5 * i + q) = nI v)
/-- sums -/
def MKa (na sB : Nat) (M : MSt) : Prop := ∀ k, k < na → nB sB (M.2 26 k)
def MK (n na c sB : Nat) (M : MSt) : Prop := MKc c M ∧ MKs n c M ∧ MKl n M ∧ MKu n M ∧ MKa na sB M
theorem MKs.of {n c : Nat} {M N : MSt} (h : MKs n c M) (e : ∀ q, q = 7 ∨ q = 8 ∨ q = 9 ∨ q = 10 → N.2 q = M.2 q) : MKs n c N := fun i hi => by
  rw [e 7 (by decide), e 8 (by decide), e 9 (by decide), e 10 (by decide)]; exact h i hi
theorem MKl.of {n : Nat} {M N : MSt} (h : MKl n M) (e : ∀ q, q = 12 ∨ q = 13 ∨ q = 14 → N.2 q = M.2 q) : MKl n N := by
  unfold MKl
  rw [e 12 (by decide), e 13 (by decide), e 14 (by decide)]; exact h
theorem MKu.of {n : Nat} {M N : MSt} (h : MKu n M) (e : ∀ q, q = 5 ∨ q = 17 ∨ q = 18 ∨ q = 19 ∨ q = 20 ∨ q = 21 → N.2 q = M.2 q) : MKu n N := by
  unfold MKu
  rw [e 5 (by decide), e 17 (by decide), e 18 (by decide), e 19 (by decide), e 20 (by decide), e 21 (by decide)]; exact h
theorem MKa.of {na sB : Nat} {M N : MSt} (h : MKa na sB M) (e : N.2 26 = M.2 26) : MKa na sB N := fun k hk => by rw [e]; exact h k hk
section MKS
variable {n na c sB j : Nat} {M : MSt}
theorem MK.turn {v : Int32} (h : MK n na c sB M) : MK n na c sB (mR M 11 j v) := by
  obtain ⟨h1, h2, h3, h4, h5⟩ := h
  exact ⟨h1, h2.of (fun q hq => up_o (by omega)), h3.of (fun q hq => up_o (by omega)), h4.of (fun q hq => up_o (by omega)), h5.of rfl⟩
theorem MK.weigh {k : Nat} {v w : Int32} {i : Nat} (h : MK n na c sB M) : MK n na c sB (mR (mR M 6 i v) 6 k w) := by
  obtain ⟨h1, h2, h3, h4, h5⟩ := h
  exact ⟨h1, h2.of (fun q hq => (up_o (by omega)).trans (up_o (by omega))), h3.of (fun q hq => (up_o (by omega)).trans (up_o (by omega))), h4.of (fun q hq => (up_o (by omega)).trans (up_o (by omega))), h5.of rfl⟩
theorem MK.ramp {p1 p2 : Int32} (h : MK n na c sB M) (h1 : nB 1000 p1) (h2 : nB 1000 p2) : MK n na c sB (mR (mR (mR M 7 j p1) 8 j p2) 9 j (M.1 1)) := by
  obtain ⟨g1, g2, g3, g4, g5⟩ := h
  refine ⟨g1, fun i hi => ?_, g3.of (fun q hq => (up_o (by omega)).trans ((up_o (by omega)).trans (up_o (by omega)))), g4.of (fun q hq => (up_o (by omega)).trans ((up_o (by omega)).trans (up_o (by omega)))), g5.of rfl⟩
  show (M.2 10 i = 0 ∨ M.2 10 i = 1) ∧ nB 1000 (upd (M.2 7) j p1 i) ∧ nB 1000 (upd (M.2 8) j p2 i) ∧ nB c (upd (M.2 9) j (M.1 1) i)
  obtain ⟨a1, a2, a3, a4⟩ := g2 i hi
  by_cases e : i = j
  · subst e
    simp only [upd, if_true]
    exact ⟨a1, h1, h2, ⟨c, Nat.le_refl _, g1.1⟩⟩
  · simp only [upd, e, if_false]
    exact ⟨a1, a2, a3, a4⟩
theorem MK.place {p1 p2 p3 : Int32} (h : MK n na c sB M) (h1 : p1 = -1 ∨ nB 2 p1) (h2 : nB 1000 p2) (h3 : nB 1000 p3) (hap : p1 ≠ -1 → ∀ k, k < n → k ≠ j → M.2 12 k = p1 → ∀ b : Nat, ¬ (nv p2 ≤ b ∧ b < nv p3 ∧ nv (M.2 13 k) ≤ b ∧ b < nv (M.2 14 k))) : MK n na c sB (mR (mR (mR M 12 j p1) 13 j p2) 14 j p3) := by
  obtain ⟨g1, g2, g3, g4, g5⟩ := h
  refine ⟨g1, g2.of (fun q hq => (up_o (by omega)).trans ((up_o (by omega)).trans (up_o (by omega)))), ?_, g4.of (fun q hq => (up_o (by omega)).trans ((up_o (by omega)).trans (up_o (by omega)))), g5.of rfl⟩
  obtain ⟨a1, a2⟩ := g3
  have e12 : (mR (mR (mR M 12 j p1) 13 j p2) 14 j p3).2 12 = upd (M.2 12) j p1 := rfl
  have e13 : (mR (mR (mR M 12 j p1) 13 j p2) 14 j p3).2 13 = upd (M.2 13) j p2 := rfl
  have e14 : (mR (mR (mR M 12 j p1) 13 j p2) 14 j p3).2 14 = upd (M.2 14) j p3 := rfl
  unfold MKl
  rw [e12, e13, e14]
  refine ⟨fun i hi => ?_, fun i k hi hk hik hne he b => ?_⟩
  · by_cases e : i = j
    · subst e
      simp only [upd, if_true]
      exact ⟨h1, h2, h3⟩
    · simp only [upd, e, if_false]
      exact a1 i hi
  · by_cases ei : i = j
    · subst ei
      have ek : ¬ k = i := fun e => hik e.symm
      simp only [upd, if_true, ek, if_false] at hne he ⊢
      exact hap hne k hk ek he b
    · by_cases ek : k = j
      · subst ek
        simp only [upd, ei, if_false, if_true] at hne he ⊢
        intro hb
        exact hap (fun e => hne (he.symm.trans e)) i hi ei he.symm b ⟨hb.2.2.1, hb.2.2.2, hb.1, hb.2.1⟩
      · simp only [upd, ei, ek, if_false] at hne he ⊢
        exact a2 i k hi hk hik hne he b
theorem MK.need {p1 p2 : Int32} (h : MK n na c sB M) : MK n na c sB (mR (mR M 15 j p1) 16 j p2) := by
  obtain ⟨h1, h2, h3, h4, h5⟩ := h
  exact ⟨h1, h2.of (fun q hq => (up_o (by omega)).trans (up_o (by omega))), h3.of (fun q hq => (up_o (by omega)).trans (up_o (by omega))), h4.of (fun q hq => (up_o (by omega)).trans (up_o (by omega))), h5.of rfl⟩
theorem MK.rule {rc vc : Nat} {p1 p2 p3 p4 : Int32} (h : MK n na c sB M) (hrc : rc < 5) (h17 : M.2 17 j = nI rc) (hvc : vc ≤ 4) (h5 : M.2 5 j = nI vc) (b1 : nB 1 p1) (b2 : ∃ h, 1 ≤ h ∧ h ≤ 3 ∧ p2 = nI h) (b3 : nB 9 p3) (b4 : p4 = -1 ∨ ∃ v, v < vc ∧ p4 = nI v) : MK n na c sB (mR (mR (mR (mR (mR M 18 (5 * j + rc) p1) 19 (5 * j + rc) p2) 20 (5 * j + rc) p3) 21 (5 * j + rc) p4) 17 j (nI (rc + 1))) := by
  obtain ⟨g1, g2, g3, g4, g5⟩ := h
  have ex : ∀ q, q ≠ 17 → q ≠ 18 → q ≠ 19 → q ≠ 20 → q ≠ 21 → (mR (mR (mR (mR (mR M 18 (5 * j + rc) p1) 19 (5 * j + rc) p2) 20 (5 * j + rc) p3) 21 (5 * j + rc) p4) 17 j (nI (rc + 1))).2 q = M.2 q := fun q a1 a2 a3 a4 a5 => (up_o a1).trans ((up_o a5).trans ((up_o a4).trans ((up_o a3).trans (up_o a2))))
  have e17 : (mR (mR (mR (mR (mR M 18 (5 * j + rc) p1) 19 (5 * j + rc) p2) 20 (5 * j + rc) p3) 21 (5 * j + rc) p4) 17 j (nI (rc + 1))).2 17 = upd (M.2 17) j (nI (rc + 1)) := rfl
  have e18 : (mR (mR (mR (mR (mR M 18 (5 * j + rc) p1) 19 (5 * j + rc) p2) 20 (5 * j + rc) p3) 21 (5 * j + rc) p4) 17 j (nI (rc + 1))).2 18 = upd (M.2 18) (5 * j + rc) p1 := rfl
  have e19 : (mR (mR (mR (mR (mR M 18 (5 * j + rc) p1) 19 (5 * j + rc) p2) 20 (5 * j + rc) p3) 21 (5 * j + rc) p4) 17 j (nI (rc + 1))).2 19 = upd (M.2 19) (5 * j + rc) p2 := rfl
  have e20 : (mR (mR (mR (mR (mR M 18 (5 * j + rc) p1) 19 (5 * j + rc) p2) 20 (5 * j + rc) p3) 21 (5 * j + rc) p4) 17 j (nI (rc + 1))).2 20 = upd (M.2 20) (5 * j + rc) p3 := rfl
  have e21 : (mR (mR (mR (mR (mR M 18 (5 * j + rc) p1) 19 (5 * j + rc) p2) 20 (5 * j + rc) p3) 21 (5 * j + rc) p4) 17 j (nI (rc + 1))).2 21 = upd (M.2 21) (5 * j + rc) p4 := rfl
  refine ⟨g1, g2.of (fun q hq => ex q (by omega) (by omega) (by omega) (by omega) (by omega)), g3.of (fun q hq => ex q (by omega) (by omega) (by omega) (by omega) (by omega)), fun i hi r9 v9 hr9 er9 hv9 ev9 q hq => ?_, g5.of (ex 26 (by decide) (by decide) (by decide) (by decide) (by decide))⟩
  rw [e17] at er9
  rw [ex 5 (by decide) (by decide) (by decide) (by decide) (by decide)] at ev9
  rw [e18, e19, e20, e21]
  by_cases e : i = j
  · subst e
    simp only [upd, if_true] at er9
    have er : rc + 1 = r9 := (nI_eq (by omega) (by omega)).mp er9
    have ev : vc = v9 := (nI_eq (by omega) (by omega)).mp (h5.symm.trans ev9)
    subst ev
    by_cases eq9 : q = rc
    · subst eq9
      simp only [upd, if_true]
      exact ⟨b1, b2, b3, b4⟩
    · simp only [upd, show ¬ 5 * i + q = 5 * i + rc by omega, if_false]
      exact g4 i hi rc vc (by omega) h17 hvc h5 q (by omega)
  · simp only [upd, e, if_false] at er9
    simp only [upd, show ¬ 5 * i + q = 5 * j + rc by omega, if_false]
    exact g4 i hi r9 v9 hr9 er9 hv9 ev9 q hq
theorem MK.unrule {rc k : Nat} (h : MK n na c sB M) (hj : j < n) (hrc : rc ≤ 5) (h17 : M.2 17 j = nI rc) (hk : k < rc) : MK n na c sB (mUnr M j k rc) := by
  obtain ⟨g1, g2, g3, g4, g5⟩ := h
  have ex : ∀ q, q ≠ 17 → q ≠ 18 → q ≠ 19 → q ≠ 20 → q ≠ 21 → (mUnr M j k rc).2 q = M.2 q := fun q a1 a2 a3 a4 a5 => (up_o a1).trans ((up_o a5).trans ((up_o a4).trans ((up_o a3).trans (up_o a2))))
  have e17 : (mUnr M j k rc).2 17 = upd (M.2 17) j (nI (rc - 1)) := rfl
  have e18 : (mUnr M j k rc).2 18 = rMv (M.2 18) (5 * j + k) (5 * j + rc - (5 * j + k) - 1) := rfl
  have e19 : (mUnr M j k rc).2 19 = rMv (M.2 19) (5 * j + k) (5 * j + rc - (5 * j + k) - 1) := rfl
  have e20 : (mUnr M j k rc).2 20 = rMv (M.2 20) (5 * j + k) (5 * j + rc - (5 * j + k) - 1) := rfl
  have e21 : (mUnr M j k rc).2 21 = rMv (M.2 21) (5 * j + k) (5 * j + rc - (5 * j + k) - 1) := rfl
  refine ⟨g1, g2.of (fun q hq => ex q (by omega) (by omega) (by omega) (by omega) (by omega)), g3.of (fun q hq => ex q (by omega) (by omega) (by omega) (by omega) (by omega)), fun i hi r9 v9 hr9 er9 hv9 ev9 q hq => ?_, g5.of (ex 26 (by decide) (by decide) (by decide) (by decide) (by decide))⟩
  rw [e17] at er9
  rw [ex 5 (by decide) (by decide) (by decide) (by decide) (by decide)] at ev9
  rw [e18, e19, e20, e21]
  unfold rMv
  by_cases e : i = j
  · subst e
    simp only [upd, if_true] at er9
    have er : rc - 1 = r9 := (nI_eq (by omega) (by omega)).mp er9
    by_cases hq9 : 5 * i + k ≤ 5 * i + q ∧ 5 * i + q < 5 * i + k + (5 * i + rc - (5 * i + k) - 1)
    · rw [if_pos hq9, if_pos hq9, if_pos hq9, if_pos hq9]
      exact g4 i hi rc v9 hrc h17 hv9 ev9 (q + 1) (by omega)
    · rw [if_neg hq9, if_neg hq9, if_neg hq9, if_neg hq9]
      exact g4 i hi rc v9 hrc h17 hv9 ev9 q (by omega)
  · simp only [upd, e, if_false] at er9
    have hq9 : ¬ (5 * j + k ≤ 5 * i + q ∧ 5 * i + q < 5 * j + k + (5 * j + rc - (5 * j + k) - 1)) := by omega
    rw [if_neg hq9, if_neg hq9, if_neg hq9, if_neg hq9]
    exact g4 i hi r9 v9 hr9 er9 hv9 ev9 q hq
theorem MK.hold {v : Int32} (h : MK n na c sB M) (hv : nB 1000 v) : MK n na c sB (mS M 2 v) := by
  obtain ⟨h1, h2, h3, h4, h5⟩ := h
  exact ⟨⟨h1.1, hv⟩, h2, h3, h4, h5⟩
theorem MK.clock {c2 : Nat} (h : MK n na c sB M) (hc : c ≤ c2) : MK n na c2 sB (mS M 1 (nI c2)) := by
  obtain ⟨h1, h2, h3, h4, h5⟩ := h
  exact ⟨⟨rfl, h1.2⟩, fun i hi => ⟨(h2 i hi).1, (h2 i hi).2.1, (h2 i hi).2.2.1, (h2 i hi).2.2.2.le hc⟩, h3, h4, h5⟩
theorem MK.add {p0 p1 p2 : Int32} (h : MK n na c sB M) (h13 : M.2 13 n = 0) (h14 : M.2 14 n = 0) (h8 : M.2 8 n = 0) (h17 : M.2 17 n = 0) (hz : p2 = 0 ∨ p2 = 1) : MK (n + 1) na c sB (mAdd M n p0 p1 p2) := by
  obtain ⟨g1, g2, ⟨a1, a2⟩, g4, g5⟩ := h
  have e7 : (mAdd M n p0 p1 p2).2 7 = upd (M.2 7) n 1000 := rfl
  have e8 : (mAdd M n p0 p1 p2).2 8 = M.2 8 := rfl
  have e9 : (mAdd M n p0 p1 p2).2 9 = upd (M.2 9) n (M.1 1) := rfl
  have e10 : (mAdd M n p0 p1 p2).2 10 = upd (M.2 10) n p2 := rfl
  have e12 : (mAdd M n p0 p1 p2).2 12 = upd (M.2 12) n (-1) := rfl
  have e13 : (mAdd M n p0 p1 p2).2 13 = M.2 13 := rfl
  have e14 : (mAdd M n p0 p1 p2).2 14 = M.2 14 := rfl
  have e17 : (mAdd M n p0 p1 p2).2 17 = M.2 17 := rfl
  have e5 : (mAdd M n p0 p1 p2).2 5 = upd (M.2 5) n p1 := rfl
  refine ⟨g1, fun i hi => ?_, ?_, fun i hi rc vc hrc erc hvc evc q hq => ?_, g5.of rfl⟩
  · rw [e7, e8, e9, e10]
    by_cases e : i = n
    · subst e
      simp only [upd, if_true]
      exact ⟨hz, ⟨1000, Nat.le_refl _, rfl⟩, by rw [h8]; exact nB.z, ⟨c, Nat.le_refl _, g1.1⟩⟩
    · simp only [upd, e, if_false]
      exact g2 i (by omega)
  · unfold MKl
    rw [e12, e13, e14]
    refine ⟨fun i hi => ?_, fun i k hi hk hik hne he b => ?_⟩
    · by_cases e : i = n
      · subst e
        simp only [upd, if_true]
        exact ⟨Or.inl trivial, by rw [h13]; exact nB.z, by rw [h14]; exact nB.z⟩
      · simp only [upd, e, if_false]
        exact a1 i (by omega)
    · by_cases ei : i = n
      · subst ei
        simp only [upd, if_true] at hne
        exact absurd rfl hne
      · by_cases ek : k = n
        · subst ek
          simp only [upd, ei, if_false, if_true] at hne he
          exact absurd he.symm hne
        · simp only [upd, ei, ek, if_false] at hne he ⊢
          exact a2 i k (by omega) (by omega) hik hne he b
  · rw [e17] at erc
    rw [e5] at evc
    by_cases e : i = n
    · subst e
      have : 0 = rc := (nI_eq (a := 0) (by omega) (by omega)).mp (h17.symm.trans erc)
      omega
    · simp only [upd, e, if_false] at evc
      exact g4 i (by omega) rc vc hrc erc hvc evc q hq
theorem MK.arm {u : Int32} {v : Nat} (h : MK n na c sB M) (h26 : M.2 26 na = 0) : MK n (na + 1) c sB (mArm M na j u v) := by
  obtain ⟨g1, g2, g3, g4, g5⟩ := h
  have ex : ∀ q, q ≠ 23 → q ≠ 24 → q ≠ 25 → (mArm M na j u v).2 q = M.2 q := fun q a1 a2 a3 => (up_o a3).trans ((up_o a2).trans (up_o a1))
  refine ⟨g1, g2.of (fun q hq => ex q (by omega) (by omega) (by omega)), g3.of (fun q hq => ex q (by omega) (by omega) (by omega)), g4.of (fun q hq => ex q (by omega) (by omega) (by omega)), fun k hk => ?_⟩
  rw [ex 26 (by decide) (by decide) (by decide)]
  by_cases e : k = na
  · rw [e, h26]; exact nB.z
  · exact g5 k (by omega)
theorem MK.act {u : Int32} {w sC : Nat} (h : MK n na c sB M) (hw : w ≤ 100) (hs : sB + 100 ≤ sC) (hs2 : sC < 2 ^ 31) : MK n na c sC (mAct M na u (nI w)) := by
  obtain ⟨g1, g2, g3, g4, g5⟩ := h
  have ex : ∀ q, q ≠ 26 → q ≠ 27 → (mAct M na u (nI w)).2 q = M.2 q := fun q a1 a2 => (up_o a2).trans (up_o a1)
  refine ⟨g1, g2.of (fun q hq => ex q (by omega) (by omega)), g3.of (fun q hq => ex q (by omega) (by omega)), g4.of (fun q hq => ex q (by omega) (by omega)), fun k hk => ?_⟩
  rw [show (mAct M na u (nI w)).2 26 = rA26 M.2 u (nI w) na from rfl]
  obtain ⟨s, h1, h2⟩ := g5 k hk
  unfold rA26
  by_cases e : k < na ∧ M.2 24 k = u
  · rw [if_pos e, h2, nI_add]
    exact ⟨s + w, by omega, rfl⟩
  · rw [if_neg e]
    exact ⟨s, by omega, h2⟩
end MKS
