/-! the tallies stay: a new switch, a new arm -/
theorem TAL.add {n na na2 nm : Nat} {hh cc p1 : Int32} {S T : Pool} {M N : MSt} {x ar ak q : Nat} (h : TAL n na S M ar) (hC : INVC n na2 hh cc S x ar ak) (hL : REL True n na S M ar) (hI : INVR n nm M) (hn : n < 8) (hE : ExtI S T) (hq : q ∉ gL S) (hs : okSw T q) (h1 : kIn p1 2 4 = 1)
    (hgR : ∀ b, b ∈ gL S → ∀ k, gR T b k = gR S b k) (hgJ : ∀ b, b ∈ gL S → ∀ k, gJ T b k = gJ S b k) (g7 : gQ T q 7 = none) (hty : tyA T q ∉ gL S) (htk : ∀ k, k < 4 → tkA T q k ∉ gL S) (hz : ∀ v, gR T (tkA T q 0) v = 0 ∧ gR T (tkA T q 1) v = 0 ∧ gR T (tkA T q 2) v = 0 ∧ gJ T (tkA T q 3) v = 0) (hz4 : gI T (tyA T q) 4 = 0)
    (f5 : ∀ j, N.2 5 j = if j = n then p1 else M.2 5 j) (f6 : ∀ j, N.2 6 j = if j = 4 * n then 1000 else M.2 6 j) (e23 : N.2 23 = M.2 23) (e24 : N.2 24 = M.2 24) (e25 : N.2 25 = M.2 25) (e26 : N.2 26 = M.2 26) (e27 : N.2 27 = M.2 27) : TAL (n + 1) na (pI (pP T ar (gI S x 2).toNatClampNeg (some q)) x 2 (gI S x 2 + 1)) N ar := by
  obtain ⟨t1, t2, t3, t4⟩ := h
  have n8 := hC.n8
  have e2 : (gI S x 2).toNatClampNeg = n := by rw [hC.x2]; exact ki_cl (by omega)
  rw [e2]
  have hx : isO T x 5 := hE.1.o hC.hx
  have har : isA T ar 22 8 := hE.1.a hC.R.1
  have eI : ∀ b k, b ≠ x → gI (pI (pP T ar n (some q)) x 2 (gI S x 2 + 1)) b k = gI T b k := fun b k hb => (show u2 (gI T) x 2 _ b k = _ from u2_a hb)
  have eP : ∀ b k, gP (pI (pP T ar n (some q)) x 2 (gI S x 2 + 1)) b k = if b = ar ∧ k = n then some q else gP T b k := fun b k => rfl
  have eQ : gQ (pI (pP T ar n (some q)) x 2 (gI S x 2 + 1)) = gQ T := rfl
  have eR : gR (pI (pP T ar n (some q)) x 2 (gI S x 2 + 1)) = gR T := rfl
  have eJ : gJ (pI (pP T ar n (some q)) x 2 (gI S x 2 + 1)) = gJ T := rfl
  generalize (pI (pP T ar n (some q)) x 2 (gI S x 2 + 1)) = X at eI eP eQ eR eJ ⊢
  have ePr : ∀ k, k ≠ n → gP X ar k = gP S ar k := fun k hk => by
    have o1 : ¬ (ar = ar ∧ k = n) := fun e => hk e.2
    rw [eP, if_neg o1]; exact (hE.1 ar hC.R.1.1).2.2 k
  have ePn : gP X ar n = some q := by rw [eP, if_pos ⟨rfl, rfl⟩]
  have oI : ∀ b, b ∈ gL S → b ≠ x → ∀ k, gI X b k = gI S b k := fun b hb hx9 k => (eI b k hx9).trans (hE.2 b hb k)
  have oQ : ∀ b, b ∈ gL S → ∀ k, gQ X b k = gQ S b k := fun b hb k => by rw [eQ]; exact (hE.1 b hb).2.1 k
  have xk : ∀ b ki, gK S b = ki → ki ≠ 5 → b ≠ x := fun b ki hb hk => ne_of_kind hb hC.hx.2 hk
  -- an old switch
  have old : ∀ b, okSw S b → tyA X b = tyA S b ∧ (∀ k, tkA X b k = tkA S b k) ∧ ∀ u, cArmA X b u = cArmA S b u := by
    intro b hb
    have ety : tyA X b = tyA S b := congrArg (fun z : Option Nat => z.getD 0) (oQ b hb.1.1 6)
    refine ⟨ety, fun k => ?_, fun u => ?_⟩
    · show (gQ X (tyA X b) k).getD 0 = (gQ S (tyA S b) k).getD 0
      rw [ety, oQ _ hb.ty4.1 k]
    · obtain ⟨c, hc1, hc2⟩ := hb.chA
      exact cArmA_ext hc2 (oQ b hb.1.1 7) (fun z hz9 => oI z hz9.1 (xk z 0 hz9.2 (by decide)) 0) (fun z hz9 => oQ z hz9.1 2)
  have nty : tyA X q = tyA T q := by show (gQ X q 6).getD 0 = (gQ T q 6).getD 0; rw [eQ]
  have ntk : ∀ k, tkA X q k = tkA T q k := fun k => by show (gQ X (tyA X q) k).getD 0 = (gQ T (tyA T q) k).getD 0; rw [nty, eQ]
  have narm : ∀ u, cArmA X q u = none := fun u => by unfold cArmA; rw [eQ, g7]; exact cArm_none
  have none23 : ∀ k, k < na → M.2 23 k ≠ nI n := by
    intro k hk e
    obtain ⟨j, hj, ej⟩ := hL.2.2.2 trivial k hk
    have := (nI_eq (a := j) (b := n) (by omega) (by omega)).mp (ej.symm.trans e)
    omega
  have er : ∀ i v what, rTold N.2 (nI i) (nI v) what na 0 0 = rTold M.2 (nI i) (nI v) what na 0 0 := fun i v what => rT_ext na (fun k _ => ⟨by rw [e23], by rw [e25], fun _ => by unfold wT; rw [e26, e27]⟩)
  have z0 : ∀ v what c, c ≤ na → rTold M.2 (nI n) (nI v) what c 0 0 = 0 := by
    intro v what c
    induction c with
    | zero => intro _; rfl
    | succ c ih =>
      intro hc
      rw [rT_s, ih (by omega)]
      unfold sT
      rw [if_neg (none23 c (by omega))]
  refine ⟨fun i hi a ha => ?_, fun i j a b hi hj ha hb hij => ?_, fun k z hk hz9 a1 a2 => ?_, ?_⟩
  · by_cases hin : i = n
    · subst hin
      have ha : q = a := Option.some.inj (ePn.symm.trans ha)
      subst ha
      refine ⟨fun v hv => ?_, ?_, fun u m k hm hk k1 k2 => ?_⟩
      · rw [ntk, ntk, ntk, ntk, eR, eJ, er, er, er, er, z0 v _ na (Nat.le_refl _), z0 v _ na (Nat.le_refl _), z0 v _ na (Nat.le_refl _), z0 v _ na (Nat.le_refl _)]
        obtain ⟨y0, y1, y2, y3⟩ := hz v
        exact ⟨y0, y1, y2, by rw [y3]; rfl⟩
      · rw [nty, ntk, eR, eI _ _ (fun e => hty (by rw [e]; exact hC.hx.1)), hz4, (hz 0).1, (hz 1).1, (hz 2).1, (hz 3).1]
        decide
      · rw [narm] at hm; cases hm
    · rw [ePr i hin] at ha
      have hsa := hC.sw (by omega) ha
      obtain ⟨ety, etk, eA⟩ := old a hsa
      obtain ⟨b1, b2, b3⟩ := t1 i (by omega) a ha
      refine ⟨fun v hv => ?_, ?_, fun u m k hm hk k1 k2 => ?_⟩
      · rw [etk, etk, etk, etk, eR, eJ, hgR _ hsa.k0.1, hgR _ hsa.k1.1, hgR _ hsa.k2.1, hgJ _ hsa.k3.1, er, er, er, er]
        exact b1 v hv
      · rw [ety, etk, eR, hgR _ hsa.k0.1, hgR _ hsa.k0.1, hgR _ hsa.k0.1, hgR _ hsa.k0.1, oI _ hsa.ty4.1 (xk _ 4 hsa.ty4.2 (by decide))]
        exact b2
      · rw [eA] at hm
        rw [e23] at k1
        rw [e24] at k2
        have hmO := hsa.armO hm
        rw [oI m hmO.1 (xk m 0 hmO.2 (by decide)), oI m hmO.1 (xk m 0 hmO.2 (by decide)), oI m hmO.1 (xk m 0 hmO.2 (by decide)), e25, e26, e27]
        exact b3 u m k hm hk k1 k2
  · by_cases hin : i = n
    · by_cases hjn : j = n
      · omega
      · subst hin
        have ha : q = a := Option.some.inj (ePn.symm.trans ha)
        subst ha
        rw [ePr j hjn] at hb
        obtain ⟨fty, ftk, fA⟩ := old b (hC.sw hj hb)
        have hsb := hC.sw hj hb
        refine ⟨fun e => hty ?_, fun k hk e => htk k hk ?_, fun u m hm => ?_⟩
        · rw [← nty, e, fty]; exact hsb.ty4.1
        · rw [← ntk, e, ftk]
          rcases (show k = 0 ∨ k = 1 ∨ k = 2 ∨ k = 3 by omega) with rfl | rfl | rfl | rfl
          · exact hsb.k0.1
          · exact hsb.k1.1
          · exact hsb.k2.1
          · exact hsb.k3.1
        · rw [narm] at hm; cases hm
    · rw [ePr i hin] at ha
      have hsa := hC.sw hi ha
      obtain ⟨ety, etk, eA⟩ := old a hsa
      by_cases hjn : j = n
      · subst hjn
        have hb : q = b := Option.some.inj (ePn.symm.trans hb)
        subst hb
        refine ⟨fun e => hty ?_, fun k hk e => htk k hk ?_, fun u m _ hm2 => ?_⟩
        · rw [← nty, ← e, ety]; exact hsa.ty4.1
        · rw [← ntk, ← e, etk]
          rcases (show k = 0 ∨ k = 1 ∨ k = 2 ∨ k = 3 by omega) with rfl | rfl | rfl | rfl
          · exact hsa.k0.1
          · exact hsa.k1.1
          · exact hsa.k2.1
          · exact hsa.k3.1
        · rw [narm] at hm2; cases hm2
      · rw [ePr j hjn] at hb
        obtain ⟨fty, ftk, fA⟩ := old b (hC.sw hj hb)
        obtain ⟨c1, c2, c3⟩ := t2 i j a b hi hj ha hb hij
        refine ⟨by rw [ety, fty]; exact c1, fun k hk => by rw [etk, ftk]; exact c2 k hk, fun u m hm => ?_⟩
        rw [eA] at hm
        rw [fA]
        exact c3 u m hm
  · rw [e23] at a1
    rw [e24] at a2
    exact t3 k z hk hz9 a1 a2
  · refine ⟨fun i hi => ?_, fun k hk => by rw [e27]; exact t4.2.1 k hk, fun k hk => by rw [e26, e27]; exact t4.2.2 k hk⟩
    by_cases hin : i = n
    · subst hin
      obtain ⟨v0, hv2, hv4, ev0⟩ := kIn_nat 2 4 (by omega) (by omega) h1
      obtain ⟨zn1, zn2, zn3, zn4, zn5, zn6⟩ := hI.2.2 i (Nat.le_refl _)
      refine ⟨v0, hv2, hv4, by rw [f5, if_pos rfl]; exact ev0, fun v b1 b2 => ?_, fun k b1 b2 => ?_⟩
      · rw [f6, if_neg (by omega)]
        rcases (show v = 2 ∨ v = 3 by omega) with rfl | rfl
        · exact zn5
        · exact zn6
      · rw [e23] at b2
        exact absurd b2 (none23 k b1)
    · obtain ⟨vc, a1, a2, a3, a4, a5⟩ := t4.1 i (by omega)
      refine ⟨vc, a1, a2, by rw [f5, if_neg hin]; exact a3, fun v b1 b2 => ?_, fun k b1 b2 => ?_⟩
      · rw [f6, if_neg (by omega)]; exact a4 v b1 b2
      · rw [e23] at b2
        rw [e25]
        exact a5 k b1 b2
theorem TAL.arm {n na na2 i a q t9 v ty : Nat} {hh cc p1 g t : Int32} {S : Pool} {M N : MSt} {x ar ak : Nat} (h : TAL n na S M ar) (hC : INVC n na2 hh cc S x ar ak) (hL : REL True n na S M ar) (hi : i < n) (ha : gP S ar i = some a) (hq : q ∉ gL S) (hna : na < 100) (hn2 : na2 < 100) (harm : cArmA S a p1 = none) (hv4 : v < 4) (hvc : ∃ vc, M.2 5 i = nI vc ∧ v < vc ∧ vc ≤ 4) (e6 : gQ S a 6 = some ty) (e60 : gQ S ty 0 = some t9) (hg : g = gR S t9 v + 1) (ht : t = gI S ty 4 + 1)
    (rr : ∀ j, j ≠ 23 → j ≠ 24 → j ≠ 25 → N.2 j = M.2 j) (e23 : ∀ j, N.2 23 j = if j = na then nI i else M.2 23 j) (e24 : ∀ j, N.2 24 j = if j = na then p1 else M.2 24 j) (e25 : ∀ j, N.2 25 j = if j = na then nI v else M.2 25 j) : TAL n (na + 1) (pI (pI (pR (pQ (pQ (pI (pI (pW S q 0 0) q 0 p1) q 1 (nI v)) q 2 (gQ S a 7)) a 7 (some q)) t9 v g) ty 4 t) x 3 (nI (na + 1))) N ar := by
  obtain ⟨h1, h2, h3, h4⟩ := h
  have h8 := hC.n8
  have hsa := hC.sw (by omega) ha
  have ety : tyA S a = ty := by simp [tyA, e6]
  have et9 : tkA S a 0 = t9 := by simp [tkA, tyA, e6, e60]
  have hty : isO S ty 4 := by rw [← ety]; exact hsa.ty4
  have ht9 : isA S t9 10 4 := by rw [← et9]; exact hsa.k0
  have hE : ExtI S (pQ (pI (pI (pW S q 0 0) q 0 p1) q 1 (nI v)) q 2 (gQ S a 7)) := (((ExtI.rf.new hq).pI hq).pI hq).pQ hq
  have g2 : gQ (pQ (pI (pI (pW S q 0 0) q 0 p1) q 1 (nI v)) q 2 (gQ S a 7)) q 2 = gQ S a 7 := u2_s
  have g0 : gI (pQ (pI (pI (pW S q 0 0) q 0 p1) q 1 (nI v)) q 2 (gQ S a 7)) q 0 = p1 := (show u2 (u2 _ q 0 p1) q 1 (nI v) q 0 = p1 from (u2_k (by decide)).trans u2_s)
  have g1 : gI (pQ (pI (pI (pW S q 0 0) q 0 p1) q 1 (nI v)) q 2 (gQ S a 7)) q 1 = nI v := (show u2 (u2 _ q 0 p1) q 1 (nI v) q 1 = nI v from u2_s)
  have g3 : gI (pQ (pI (pI (pW S q 0 0) q 0 p1) q 1 (nI v)) q 2 (gQ S a 7)) q 3 = 0 := (show u2 (u2 (gI (pW S q 0 0)) q 0 p1) q 1 (nI v) q 3 = 0 from (u2_k (by decide)).trans ((u2_k (by decide)).trans gI_q))
  have g4 : gI (pQ (pI (pI (pW S q 0 0) q 0 p1) q 1 (nI v)) q 2 (gQ S a 7)) q 4 = 0 := (show u2 (u2 (gI (pW S q 0 0)) q 0 p1) q 1 (nI v) q 4 = 0 from (u2_k (by decide)).trans ((u2_k (by decide)).trans gI_q))
  have gr : ∀ b, b ∈ gL S → ∀ k, gR (pQ (pI (pI (pW S q 0 0) q 0 p1) q 1 (nI v)) q 2 (gQ S a 7)) b k = gR S b k := fun b hb k => gR_new (ki := 0) (n := 0) hb hq
  have gj : ∀ b, b ∈ gL S → ∀ k, gJ (pQ (pI (pI (pW S q 0 0) q 0 p1) q 1 (nI v)) q 2 (gQ S a 7)) b k = gJ S b k := fun b hb k => gJ_new (ki := 0) (n := 0) hb hq
  generalize (pQ (pI (pI (pW S q 0 0) q 0 p1) q 1 (nI v)) q 2 (gQ S a 7)) = T at hE g0 g1 g2 g3 g4 gr gj ⊢
  have hqa : q ≠ a := fun e => hq (e ▸ hsa.1.1)
  have hqx : q ≠ x := fun e => hq (e ▸ hC.hx.1)
  have hqt : q ≠ ty := fun e => hq (e ▸ hty.1)
  have hxt : ty ≠ x := ne_of_kind hty.2 hC.hx.2 (by decide)
  have eI : ∀ b k, b ≠ ty → b ≠ x → gI (pI (pI (pR (pQ T a 7 (some q)) t9 v g) ty 4 t) x 3 (nI (na + 1))) b k = gI T b k := fun b k n1 n2 => (show u2 (u2 (gI T) ty 4 t) x 3 (nI (na + 1)) b k = _ from (u2_a n2).trans (u2_a n1))
  have eI4 : ∀ b, b ≠ x → gI (pI (pI (pR (pQ T a 7 (some q)) t9 v g) ty 4 t) x 3 (nI (na + 1))) b 4 = if b = ty then t else gI T b 4 := fun b n2 => by
    refine (show u2 (u2 (gI T) ty 4 t) x 3 (nI (na + 1)) b 4 = u2 (gI T) ty 4 t b 4 from u2_a n2).trans ?_
    by_cases hb : b = ty
    · rw [if_pos hb, hb]; exact u2_s
    · rw [if_neg hb]; exact u2_a hb
  have eQ : ∀ b k, gQ (pI (pI (pR (pQ T a 7 (some q)) t9 v g) ty 4 t) x 3 (nI (na + 1))) b k = if b = a ∧ k = 7 then some q else gQ T b k := fun b k => rfl
  have eP : ∀ b k, gP (pI (pI (pR (pQ T a 7 (some q)) t9 v g) ty 4 t) x 3 (nI (na + 1))) b k = gP T b k := fun b k => rfl
  have eR : ∀ b k, gR (pI (pI (pR (pQ T a 7 (some q)) t9 v g) ty 4 t) x 3 (nI (na + 1))) b k = if b = t9 ∧ k = v then g else gR T b k := fun b k => rfl
  have eJ : gJ (pI (pI (pR (pQ T a 7 (some q)) t9 v g) ty 4 t) x 3 (nI (na + 1))) = gJ T := rfl
  generalize (pI (pI (pR (pQ T a 7 (some q)) t9 v g) ty 4 t) x 3 (nI (na + 1))) = X at eI eI4 eQ eP eR eJ ⊢
  have old : ∀ b kb, isO S b kb → kb ≠ 4 → kb ≠ 5 → ∀ k, gI X b k = gI S b k := fun b kb hb h4 h5 k => by
    rw [eI b k (ne_of_kind hb.2 hty.2 h4) (ne_of_kind hb.2 hC.hx.2 h5)]; exact hE.2 b hb.1 k
  have ePr : ∀ b, b ∈ gL S → ∀ k, gP X b k = gP S b k := fun b hb k => by rw [eP]; exact (hE.1 b hb).2.2 k
  have eQ7 : ∀ b, b ∈ gL S → ∀ k, k ≠ 7 → gQ X b k = gQ S b k := fun b hb k hk => by
    have o1 : ¬ (b = a ∧ k = 7) := fun e => hk e.2
    rw [eQ, if_neg o1]; exact (hE.1 b hb).2.1 k
  have eQ4 : ∀ b, isO S b 4 → ∀ k, gQ X b k = gQ S b k := fun b hb k => by
    have o1 : ¬ (b = a ∧ k = 7) := fun e => (ne_of_kind hb.2 hsa.1.2 (by decide)) e.1
    rw [eQ, if_neg o1]; exact (hE.1 b hb.1).2.1 k
  have kty : ∀ b, okSw S b → tyA X b = tyA S b ∧ ∀ k, tkA X b k = tkA S b k := fun b hb => by
    have ety : tyA X b = tyA S b := congrArg (fun z : Option Nat => z.getD 0) (eQ7 b hb.1.1 6 (by decide))
    refine ⟨ety, fun k => ?_⟩
    show (gQ X (tyA X b) k).getD 0 = (gQ S (tyA S b) k).getD 0
    rw [ety, eQ4 _ hb.ty4 k]
  -- the arms of a switch
  have arms : ∀ j b, j < 8 → gP S ar j = some b → ∀ u, cArmA X b u = if b = a ∧ p1 = u then some q else cArmA S b u := by
    intro j b hj hb u
    have hsb := hC.sw hj hb
    have chx : ∀ u m r c, chn S c r → cArm X u m r = cArm S u m r := fun u m r c hc => cArm_ext (S := S) (fun z hz => old z 0 hz (by decide) (by decide) 0) (fun z hz => eQ7 z hz.1 2 (by decide)) c r hc m
    by_cases hba : b = a
    · subst hba
      have e7 : gQ X b 7 = some q := by rw [eQ, if_pos ⟨rfl, rfl⟩]
      have q2 : gQ X q 2 = gQ S b 7 := by
        have o1 : ¬ (q = b ∧ 2 = 7) := fun e => hqa e.1
        rw [eQ, if_neg o1]; exact g2
      obtain ⟨c5, hc5, hc6⟩ := (hC.s j hj b hb).1
      have eA : cArmA X b u = if p1 = u then some q else cArmA S b u := by
        unfold cArmA
        rw [e7]
        show (if gI X q 0 = u then some q else cArm X u 99 (gQ X q 2)) = _
        rw [eI q 0 hqt hqx, g0, q2, chx u 99 _ c5 hc6, ← cArm_fuel c5 99 _ hc6 (by omega), cArm_fuel c5 100 _ hc6 (by omega)]
      rw [eA]
      by_cases hpu : p1 = u
      · rw [if_pos hpu, if_pos ⟨rfl, hpu⟩]
      · have o1 : ¬ (b = b ∧ p1 = u) := fun e => hpu e.2
        rw [if_neg hpu, if_neg o1]
    · have o1 : ¬ (b = a ∧ p1 = u) := fun e => hba e.1
      have o2 : ¬ (b = a ∧ 7 = 7) := fun e => hba e.1
      obtain ⟨cn, hc1, hc2⟩ := hsb.chA
      rw [if_neg o1]
      unfold cArmA
      rw [eQ, if_neg o2, (hE.1 b hsb.1.1).2.1 7]
      exact chx u 100 _ cn hc2
  -- none of the reference's rows is this user's here
  have none9 : ∀ k, k < na → ¬ (M.2 23 k = nI i ∧ M.2 24 k = p1) := by
    intro k hk
    have hRA := (hL.1 i hi a ha).2.2.2.1 trivial
    rcases hRA p1 with ⟨-, r2⟩ | ⟨m, z, -, r2, -, -⟩
    · exact rArm_no na 0 (by omega) r2 k (Nat.zero_le _) (by omega)
    · rw [harm] at r2; cases r2
  have n26 : N.2 26 = M.2 26 := rr 26 (by decide) (by decide) (by decide)
  have n27 : N.2 27 = M.2 27 := rr 27 (by decide) (by decide) (by decide)
  have er : ∀ one va what, rTold N.2 one va what na 0 0 = rTold M.2 one va what na 0 0 := fun one va what => rT_ext na (fun k hk => ⟨by rw [e23, if_neg (by omega)], by rw [e25, if_neg (by omega)], fun _ => by unfold wT; rw [n26, n27]⟩)
  have es : ∀ one va what, rTold N.2 one va what (na + 1) 0 0 = if nI i = one then (if nI v = va then rTold M.2 one va what na 0 0 + wT N.2 what na else rTold M.2 one va what na 0 0) else rTold M.2 one va what na 0 0 := fun one va what => by
    rw [rT_s, er]
    unfold sT
    rw [e23, if_pos rfl, e25, if_pos rfl]
  have w0 : wT N.2 0 na = 1 := wT_0 _ _
  have w1 : wT N.2 1 na = 0 := by rw [wT_1, n27, (h4.2.2 na (Nat.le_refl _)).2, if_pos rfl]
  have w2 : wT N.2 2 na = 0 := by rw [wT_2, n26, (h4.2.2 na (Nat.le_refl _)).1]
  have w3 : wT N.2 3 na = 0 := by rw [wT_3, n26, (h4.2.2 na (Nat.le_refl _)).1]; rfl
  refine ⟨fun j hj b hb => ?_, fun i1 j1 a1 b1 hi1 hj1 ha1 hb1 hij => ?_, fun k z hk hz c1 c2 => ?_, ?_⟩
  · rw [ePr ar hC.R.1.1] at hb
    have hon := hC.only hi hj ha hb
    have hsb := hC.sw (by omega) hb
    obtain ⟨kt1, kt2⟩ := kty b hsb
    obtain ⟨b1, b2, b3⟩ := h1 j hj b hb
    have rT1 : ∀ k, gR X (tkA S b 1) k = gR S (tkA S b 1) k := fun k => by
      have o1 : ¬ (tkA S b 1 = t9 ∧ k = v) := fun e => (ne_of_kind hsb.k1.2.1 ht9.2.1 (by decide)) e.1
      rw [eR, if_neg o1]; exact gr _ hsb.k1.1 k
    have rT2 : ∀ k, gR X (tkA S b 2) k = gR S (tkA S b 2) k := fun k => by
      have o1 : ¬ (tkA S b 2 = t9 ∧ k = v) := fun e => (ne_of_kind hsb.k2.2.1 ht9.2.1 (by decide)) e.1
      rw [eR, if_neg o1]; exact gr _ hsb.k2.1 k
    have rT3 : ∀ k, gJ X (tkA S b 3) k = gJ S (tkA S b 3) k := fun k => by rw [eJ]; exact gj _ hsb.k3.1 k
    have rT0 : ∀ k, gR X (tkA S b 0) k = if b = a ∧ k = v then gR S (tkA S b 0) k + 1 else gR S (tkA S b 0) k := fun k => by
      rw [eR]
      by_cases hba : b = a
      · subst hba
        rw [et9]
        by_cases hk : k = v
        · subst hk
          rw [if_pos ⟨rfl, rfl⟩, if_pos ⟨rfl, rfl⟩]; exact hg
        · have o1 : ¬ (t9 = t9 ∧ k = v) := fun e => hk e.2
          have o2 : ¬ (b = b ∧ k = v) := fun e => hk e.2
          rw [if_neg o1, if_neg o2]; exact gr _ ht9.1 k
      · have hji : j ≠ i := fun e => hba (hon.mpr e)
        have o1 : ¬ (tkA S b 0 = t9 ∧ k = v) := fun e => (h2 j i b a (by omega) (by omega) hb ha hji).2.1 0 (by decide) (e.1.trans et9.symm)
        have o2 : ¬ (b = a ∧ k = v) := fun e => hba e.1
        rw [if_neg o1, if_neg o2]; exact gr _ hsb.k0.1 k
    have e4 : gI X (tyA S b) 4 = if b = a then gI S (tyA S b) 4 + 1 else gI S (tyA S b) 4 := by
      rw [eI4 _ (ne_of_kind hsb.ty4.2 hC.hx.2 (by decide))]
      by_cases hba : b = a
      · subst hba
        rw [ety, if_pos rfl, if_pos rfl]; exact ht
      · have hji : j ≠ i := fun e => hba (hon.mpr e)
        have o1 : ¬ tyA S b = ty := fun e => (h2 j i b a (by omega) (by omega) hb ha hji).1 (e.trans ety.symm)
        rw [if_neg o1, if_neg hba]; exact hE.2 _ hsb.ty4.1 4
    refine ⟨fun w hw => ?_, ?_, fun u m k hm hk k1 k2 => ?_⟩
    · rw [kt2, kt2, kt2, kt2, rT0, rT1, rT2, rT3, es, es, es, es, w0, w1, w2, w3]
      obtain ⟨y0, y1, y2, y3⟩ := b1 w hw
      by_cases hba : b = a
      · have hji : j = i := hon.mp hba
        rw [hji, if_pos rfl, if_pos rfl, if_pos rfl, if_pos rfl]
        rw [hji] at y0 y1 y2 y3
        by_cases hwv : w = v
        · rw [hwv, if_pos rfl, if_pos rfl, if_pos rfl, if_pos rfl, if_pos ⟨hba, rfl⟩, Int32.add_zero, Int32.add_zero, Int32.add_zero]
          rw [hwv] at y0 y1 y2 y3
          exact ⟨by rw [y0], y1, y2, y3⟩
        · have o1 : ¬ (b = a ∧ w = v) := fun e => hwv e.2
          have o2 : ¬ nI v = nI w := fun e => hwv ((nI_eq (a := v) (b := w) (by omega) (by omega)).mp e).symm
          rw [if_neg o2, if_neg o2, if_neg o2, if_neg o2, if_neg o1]
          exact ⟨y0, y1, y2, y3⟩
      · have hji : ¬ nI i = nI j := fun e => hba (hon.mpr ((nI_eq (a := i) (b := j) (by omega) (by omega)).mp e).symm)
        have o1 : ¬ (b = a ∧ w = v) := fun e => hba e.1
        rw [if_neg hji, if_neg hji, if_neg hji, if_neg hji, if_neg o1]
        exact ⟨y0, y1, y2, y3⟩
    · rw [kt1, kt2, e4, rT0, rT0, rT0, rT0]
      by_cases hba : b = a
      · rw [if_pos hba, b2]
        generalize gR S (tkA S b 0) 0 = y0
        generalize gR S (tkA S b 0) 1 = y1
        generalize gR S (tkA S b 0) 2 = y2
        generalize gR S (tkA S b 0) 3 = y3
        have z9 : ∀ p q : Nat, p ≠ q → ¬ (b = a ∧ p = q) := fun p q h e => h e.2
        have y9 : ∀ p : Nat, (b = a ∧ p = p) := fun p => ⟨hba, rfl⟩
        rcases (show v = 0 ∨ v = 1 ∨ v = 2 ∨ v = 3 by omega) with rfl | rfl | rfl | rfl
        · rw [if_pos (y9 0), if_neg (z9 1 0 (by decide)), if_neg (z9 2 0 (by decide)), if_neg (z9 3 0 (by decide))]; ac_rfl
        · rw [if_neg (z9 0 1 (by decide)), if_pos (y9 1), if_neg (z9 2 1 (by decide)), if_neg (z9 3 1 (by decide))]; ac_rfl
        · rw [if_neg (z9 0 2 (by decide)), if_neg (z9 1 2 (by decide)), if_pos (y9 2), if_neg (z9 3 2 (by decide))]; ac_rfl
        · rw [if_neg (z9 0 3 (by decide)), if_neg (z9 1 3 (by decide)), if_neg (z9 2 3 (by decide)), if_pos (y9 3)]; ac_rfl
      · have z9 : ∀ p : Nat, ¬ (b = a ∧ p = v) := fun p e => hba e.1
        rw [if_neg hba, if_neg (z9 0), if_neg (z9 1), if_neg (z9 2), if_neg (z9 3)]
        exact b2
    · rw [arms j b (by omega) hb] at hm
      by_cases hkn : k = na
      · subst hkn
        rw [e23, if_pos rfl] at k1
        rw [e24, if_pos rfl] at k2
        have hji : i = j := (nI_eq (a := i) (b := j) (by omega) (by omega)).mp k1
        have hba : b = a := hon.mpr hji.symm
        rw [if_pos ⟨hba, k2⟩] at hm
        cases hm
        rw [eI q 1 hqt hqx, eI q 3 hqt hqx, eI q 4 hqt hqx, g1, g3, g4, e25, if_pos rfl, n26, n27, (h4.2.2 k (Nat.le_refl _)).1, (h4.2.2 k (Nat.le_refl _)).2]
        exact ⟨rfl, rfl, rfl⟩
      · rw [e23, if_neg hkn] at k1
        rw [e24, if_neg hkn] at k2
        have o1 : ¬ (b = a ∧ p1 = u) := fun e => by
          have hji : j = i := hon.mp e.1
          exact none9 k (by omega) ⟨by rw [k1, hji], by rw [k2]; exact e.2.symm⟩
        rw [if_neg o1] at hm
        have hmO := hsb.armO hm
        rw [old m 0 hmO (by decide) (by decide), old m 0 hmO (by decide) (by decide), old m 0 hmO (by decide) (by decide), e25, if_neg hkn, n26, n27]
        exact b3 u m k hm (by omega) k1 k2
  · rw [ePr ar hC.R.1.1] at ha1 hb1
    have hsa1 := hC.sw hi1 ha1
    have hsb1 := hC.sw hj1 hb1
    obtain ⟨c1, c2, c3⟩ := h2 i1 j1 a1 b1 hi1 hj1 ha1 hb1 hij
    refine ⟨by rw [(kty a1 hsa1).1, (kty b1 hsb1).1]; exact c1, fun k hk => by rw [(kty a1 hsa1).2, (kty b1 hsb1).2]; exact c2 k hk, fun u m hm hm2 => ?_⟩
    rw [arms i1 a1 hi1 ha1] at hm
    rw [arms j1 b1 hj1 hb1] at hm2
    by_cases q1 : a1 = a ∧ p1 = u
    · rw [if_pos q1] at hm
      cases hm
      by_cases q2 : b1 = a ∧ p1 = u
      · have e1 := (hC.R.2 i1 hi1 a1 ha1).2
        have e2 := (hC.R.2 j1 hj1 b1 hb1).2
        rw [q1.1] at e1
        rw [q2.1] at e2
        exact hij ((nI_eq (a := i1) (b := j1) (by omega) (by omega)).mp (e1.symm.trans e2))
      · rw [if_neg q2] at hm2
        exact hq (hsb1.armO hm2).1
    · rw [if_neg q1] at hm
      by_cases q2 : b1 = a ∧ p1 = u
      · rw [if_pos q2] at hm2
        cases hm2
        exact hq (hsa1.armO hm).1
      · rw [if_neg q2] at hm2
        exact c3 u m hm hm2
  · rw [e23, e23] at c1
    rw [e24, e24] at c2
    by_cases hkn : k = na
    · by_cases hzn : z = na
      · omega
      · rw [if_pos hkn, if_neg hzn] at c1 c2
        exact absurd ⟨c1.symm, c2.symm⟩ (none9 z (by omega))
    · by_cases hzn : z = na
      · rw [if_neg hkn, if_pos hzn] at c1 c2
        exact absurd ⟨c1, c2⟩ (none9 k (by omega))
      · rw [if_neg hkn, if_neg hzn] at c1 c2
        exact h3 k z (by omega) (by omega) c1 c2
  · refine ⟨fun j hj => ?_, fun k hk => ?_, fun k hk => by rw [n26, n27]; exact h4.2.2 k (by omega)⟩
    · obtain ⟨vc, a1, a2, a3, a4, a5⟩ := h4.1 j hj
      refine ⟨vc, a1, a2, by rw [rr 5 (by decide) (by decide) (by decide)]; exact a3, fun w b1 b2 => by rw [rr 6 (by decide) (by decide) (by decide)]; exact a4 w b1 b2, fun k b1 b2 => ?_⟩
      by_cases hkn : k = na
      · rw [e23, if_pos hkn] at b2
        have hji : i = j := (nI_eq (a := i) (b := j) (by omega) (by omega)).mp b2
        obtain ⟨vc2, c1, c2, c3⟩ := hvc
        have hvv : vc2 = vc := (nI_eq (a := vc2) (b := vc) (by omega) (by omega)).mp (by rw [← c1, hji]; exact a3)
        exact ⟨v, by omega, by rw [e25, if_pos hkn]⟩
      · rw [e23, if_neg hkn] at b2
        rw [e25, if_neg hkn]
        exact a5 k (by omega) b2
    · rw [n27]
      by_cases hkn : k = na
      · exact Or.inl (h4.2.2 k (by omega)).2
      · exact h4.2.1 k (by omega)
