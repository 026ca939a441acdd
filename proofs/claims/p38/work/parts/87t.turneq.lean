/-! would turn: both sides -/
/-- the variants of the rules are small -/
def RUV (M : MSt) : Prop := ∀ q, M.2 21 q = -1 ∨ ∃ v, v < 4 ∧ M.2 21 q = nI v
theorem RUV.of {M N : MSt} (h : RUV M) (e : N.2 21 = M.2 21) : RUV N := fun q => by rw [e]; exact h q
theorem RUV.up {M N : MSt} {j : Nat} {p : Int32} (h : RUV M) (hp : p = -1 ∨ ∃ v, v < 4 ∧ p = nI v) (e : ∀ q, N.2 21 q = if q = j then p else M.2 21 q) : RUV N := fun q => by
  rw [e]
  by_cases hq : q = j
  · rw [if_pos hq]; exact hp
  · rw [if_neg hq]; exact h q
theorem RUV.mv {M N : MSt} {d k : Nat} (h : RUV M) (e : N.2 21 = rMv (M.2 21) d k) : RUV N := fun q => by
  rw [e]
  show (if d ≤ q ∧ q < d + k then M.2 21 (q + 1) else M.2 21 q) = -1 ∨ ∃ v, v < 4 ∧ (if d ≤ q ∧ q < d + k then M.2 21 (q + 1) else M.2 21 q) = nI v
  by_cases hc : d ≤ q ∧ q < d + k
  · rw [if_pos hc]; exact h _
  · rw [if_neg hc]; exact h q
theorem rMeets_ext {T U : Rows} (h : ∀ k, k ≠ 11 → U k = T k) (k : Nat) (f s : Int32) : rMeets U k f s = rMeets T k f s := by
  unfold rMeets
  rw [h 18 (by decide), h 19 (by decide), h 20 (by decide)]
theorem rHold_ext {T U : Rows} (h : ∀ k, k ≠ 11 → U k = T k) {i : Nat} {f s : Int32} : ∀ c k, rHold U i f s c k = rHold T i f s c k := by
  intro c
  induction c with
  | zero => intro k; rfl
  | succ c ih =>
    intro k
    show (if rMeets U (5 * i + k) f s = true then nI k else rHold U i f s c (k + 1)) = (if rMeets T (5 * i + k) f s = true then nI k else rHold T i f s c (k + 1))
    rw [rMeets_ext h, ih]
theorem rSplit_ext {T U : Rows} (h : ∀ k, k ≠ 11 → U k = T k) {i : Nat} {bk : Int32} : ∀ c v acc, rSplit U i bk c v acc = rSplit T i bk c v acc := by
  intro c
  induction c with
  | zero => intro v acc; rfl
  | succ c ih =>
    intro v acc
    show (if bk < acc then nI v else rSplit U i bk c (v + 1) (acc + U 6 (4 * i + (v + 1)))) = (if bk < acc then nI v else rSplit T i bk c (v + 1) (acc + T 6 (4 * i + (v + 1))))
    rw [h 6 (by decide), ih]
theorem rGx_ext {T U : Rows} (h : ∀ k, k ≠ 11 → U k = T k) {hold : Int32} {on : Nat → Int32} {u f g : Int32} {na ru : Nat} {sub : Nat → Int32} {i : Nat} {far : Int32} : rGx U hold on u f g na ru sub i far = rGx T hold on u f g na ru sub i far := by
  unfold rGx
  simp only [h 15 (by decide), h 16 (by decide), h 10 (by decide), h 25 (by decide), h 21 (by decide), h 12 (by decide), h 13 (by decide), h 14 (by decide), h 4 (by decide), h 6 (by decide), rArm_ext (h 23 (by decide)) (h 24 (by decide)), rHold_ext h, rSplit_ext h]
theorem rG_ext11 {T U : Rows} (h : ∀ k, k ≠ 11 → U k = T k) {hold : Int32} {on far : Nat → Int32} {u f g : Int32} {na : Nat} {ru : Nat → Nat} : ∀ d i, rG U hold on far u f g na ru d i = rG T hold on far u f g na ru d i := by
  intro d
  induction d with
  | zero => intro i; rfl
  | succ d ih =>
    intro i
    show rGx U hold on u f g na (ru i) (fun j => (rG U hold on far u f g na ru d j).1) i (far i) = rGx T hold on u f g na (ru i) (fun j => (rG T hold on far u f g na ru d j).1) i (far i)
    rw [rGx_ext h, show (fun j => (rG U hold on far u f g na ru d j).1) = fun j => (rG T hold on far u f g na ru d j).1 from funext fun j => by rw [ih]]
/-- what a switch has does not hang on whether greater ones are on -/
theorem rG_on {T : Rows} {hold : Int32} {o1 o2 far : Nat → Int32} {u f g : Int32} {na i : Nat} {ru : Nat → Nat} (hi : i < 2 ^ 31) (h15 : ∀ k, k < i → T 15 k = -1 ∨ ∃ j, j < k ∧ T 15 k = nI j) (ho : ∀ k, k < i → o1 k = o2 k) : ∀ d j, j < i → rG T hold o1 far u f g na ru d j = rG T hold o2 far u f g na ru d j := by
  intro d
  induction d with
  | zero => intro j _; rfl
  | succ d ih =>
    intro j hj
    show rGx T hold o1 u f g na (ru j) (fun k => (rG T hold o1 far u f g na ru d k).1) j (far j) = rGx T hold o2 u f g na (ru j) (fun k => (rG T hold o2 far u f g na ru d k).1) j (far j)
    have e : ∀ sub : Nat → Int32, rGx T hold o1 u f g na (ru j) sub j (far j) = rGx T hold o2 u f g na (ru j) sub j (far j) := fun sub => by
      unfold rGx
      rw [ho j hj]
    rw [e]
    exact rGx_sub (h15 j hj) (by omega) (fun k hk => by rw [ih k (by omega)])
theorem rBy_on {M : MSt} {na i k u : Nat} {v : Int32} {ru : Nat → Nat} : rBy (mR M 11 i v) na ru k u = rG M.2 (M.1 2) ((mR M 11 i v).2 11) (fun k => rFar M.2 k (M.1 1)) (nI u) (nI u - nI u / 10 * 10) (nI u / 10 - nI u / 10 / 10 * 10) na ru 8 k := by
  have e : ∀ j, j ≠ 11 → (mR M 11 i v).2 j = M.2 j := fun j hj => up_o hj
  have e2 : (fun k => rFar (mR M 11 i v).2 k ((mR M 11 i v).1 1)) = fun k => rFar M.2 k (M.1 1) := funext fun k => by
    unfold rFar
    rw [e 7 (by decide), e 8 (by decide), e 9 (by decide)]
  unfold rBy
  rw [rG_ext11 e, e2]
theorem rSplit_d {T : Rows} {i : Nat} {b : Int32} (ha : rAcc T i 3 = 1000) (hb : b < 1000) : ∃ w, w < 4 ∧ rSplit T i b 4 0 (T 6 (4 * i)) = nI w := by
  have ha : T 6 (4 * i) + T 6 (4 * i + 1) + T 6 (4 * i + 2) + T 6 (4 * i + 3) = 1000 := ha
  unfold rSplit
  by_cases h0 : b < T 6 (4 * i)
  · exact ⟨0, by omega, if_pos h0⟩
  rw [if_neg h0]
  unfold rSplit
  rw [show (0 : Nat) + 1 = 1 from rfl]
  by_cases h1 : b < T 6 (4 * i) + T 6 (4 * i + 1)
  · exact ⟨1, by omega, if_pos h1⟩
  rw [if_neg h1]
  unfold rSplit
  rw [show (1 : Nat) + 1 = 2 from rfl]
  by_cases h2 : b < T 6 (4 * i) + T 6 (4 * i + 1) + T 6 (4 * i + 2)
  · exact ⟨2, by omega, if_pos h2⟩
  rw [if_neg h2]
  unfold rSplit
  rw [show (2 : Nat) + 1 = 3 from rfl, ha]
  exact ⟨3, by omega, if_pos hb⟩
/-- what one gets is 0 to 3 -/
theorem rG_d {n na : Nat} {M : MSt} {hold : Int32} {on far : Nat → Int32} {uu : Nat} {f g : Int32} {ru : Nat → Nat} (hV : VAL n na M) (hU : RUV M) (hok : okG M n na ru) (huu : uu ≤ 9999) : ∀ d i, i < n → ∃ w, w < 4 ∧ (rG M.2 hold on far (nI uu) f g na ru d i).1 = nI w := by
  intro d i hi
  have z : ∃ w, w < 4 ∧ (0 : Int32) = nI w := ⟨0, by omega, rfl⟩
  cases d with
  | zero => exact z
  | succ d =>
    obtain ⟨-, -, -, ⟨sa, hsa, es⟩, hac⟩ := hok.2.2.2.2 i hi
    have hb : kBkt (M.2 4 i) (nI uu) < 1000 := by
      rw [es, kBkt_n (by omega) huu]
      exact (nI_ltI (a := nBkt sa uu) (b := 1000) (by have := nBkt_lt sa uu; omega) (by omega)).mpr (nBkt_lt sa uu)
    show ∃ w, w < 4 ∧ (rGx M.2 hold on (nI uu) f g na (ru i) (fun j => (rG M.2 hold on far (nI uu) f g na ru d j).1) i (far i)).1 = nI w
    generalize (fun j => (rG M.2 hold on far (nI uu) f g na ru d j).1) = sub
    unfold rGx
    by_cases c0 : on i = 0
    · rw [if_pos c0]; exact z
    rw [if_neg c0]
    by_cases c1 : M.2 15 i ≠ -1 ∧ sub (M.2 15 i).toNatClampNeg ≠ M.2 16 i
    · rw [if_pos c1]; exact z
    rw [if_neg c1]
    by_cases c2 : M.2 10 i ≠ 0 ∧ rArm M.2 (nI i) (nI uu) na 0 ≠ -1
    · rw [if_pos c2]
      show ∃ w, w < 4 ∧ M.2 25 (rArm M.2 (nI i) (nI uu) na 0).toNatClampNeg = nI w
      rcases rArm_of M.2 (nI i) (nI uu) na 0 with e | ⟨j, -, hj, e, e23, -⟩
      · exact absurd e c2.2
      · have := hok.1
        obtain ⟨vc, -, h4, -, -, h5⟩ := hV.1 i hi
        obtain ⟨v, hv, ev⟩ := h5 j (by omega) e23
        rw [e, ki_cl (by omega)]
        exact ⟨v, by omega, ev⟩
    rw [if_neg c2]
    by_cases c3 : rHold M.2 i f g (ru i) 0 ≠ -1 ∧ M.2 21 (5 * i + (rHold M.2 i f g (ru i) 0).toNatClampNeg) ≠ -1
    · rw [if_pos c3]
      exact (hU _).resolve_left c3.2
    rw [if_neg c3]
    by_cases c4 : kBkt 999 (nI uu) < hold
    · rw [if_pos c4]; exact z
    rw [if_neg c4]
    by_cases c5 : M.2 12 i ≠ -1 ∧ kIn (kBkt (500 + M.2 12 i) (nI uu)) (M.2 13 i) (M.2 14 i - 1) = 0
    · rw [if_pos c5]; exact z
    rw [if_neg c5]
    by_cases c6 : kBkt (M.2 4 i + 1) (nI uu) < far i
    · rw [if_pos c6]
      by_cases c7 : 0 < ru i ∧ rHold M.2 i f g (ru i) 0 = -1
      · rw [if_pos c7]; exact z
      · rw [if_neg c7]; exact rSplit_d hac hb
    · rw [if_neg c6]; exact z
/-! what all get as one number tells them all -/
theorem rAll_s (F : Nat → Int32) (c k : Nat) (acc : Int32) : rAll F (c + 1) k acc = rAll F c (k + 1) (acc * 4 + F k) := rfl
theorem rAll_inj {F G : Nat → Int32} : ∀ c k A B, (A + 1) * 4 ^ c ≤ 65536 → (B + 1) * 4 ^ c ≤ 65536 → (∀ q, k ≤ q → q < k + c → ∃ w, w < 4 ∧ F q = nI w) → (∀ q, k ≤ q → q < k + c → ∃ w, w < 4 ∧ G q = nI w) → rAll F c k (nI A) = rAll G c k (nI B) → A = B ∧ ∀ q, k ≤ q → q < k + c → F q = G q := by
  intro c
  induction c with
  | zero =>
    intro k A B hA hB _ _ h
    rw [Nat.pow_zero, Nat.mul_one] at hA hB
    exact ⟨(nI_eq (a := A) (b := B) (by omega) (by omega)).mp h, fun q h1 h2 => by omega⟩
  | succ c ih =>
    intro k A B hA hB hF hG h
    obtain ⟨a, ha, ea⟩ := hF k (Nat.le_refl _) (by omega)
    obtain ⟨b, hb, eb⟩ := hG k (Nat.le_refl _) (by omega)
    have xA : ∀ X x, x < 4 → (X + 1) * 4 ^ (c + 1) ≤ 65536 → (X * 4 + x + 1) * 4 ^ c ≤ 65536 := fun X x hx h9 => by
      refine Nat.le_trans ?_ h9
      rw [Nat.pow_succ, Nat.mul_comm (4 ^ c) 4, ← Nat.mul_assoc]
      exact Nat.mul_le_mul_right _ (by omega)
    have eA : nI A * 4 + nI a = nI (A * 4 + a) := by rw [show (nI A * 4 : Int32) = nI (A * 4) from pk_mul A 4]; exact nI_add _ _
    have eB : nI B * 4 + nI b = nI (B * 4 + b) := by rw [show (nI B * 4 : Int32) = nI (B * 4) from pk_mul B 4]; exact nI_add _ _
    rw [rAll_s, rAll_s, ea, eb, eA, eB] at h
    obtain ⟨h1, h2⟩ := ih (k + 1) _ _ (xA A a ha hA) (xA B b hb hB) (fun q g1 g2 => hF q (by omega) (by omega)) (fun q g1 g2 => hG q (by omega) (by omega)) h
    refine ⟨by omega, fun q g1 g2 => ?_⟩
    rcases Nat.eq_or_lt_of_le g1 with g | g
    · rw [← g, ea, eb, show a = b by omega]
    · exact h2 q (by omega) (by omega)
theorem rAll_ext {F G : Nat → Int32} : ∀ c k acc, (∀ q, k ≤ q → q < k + c → F q = G q) → rAll F c k acc = rAll G c k acc := by
  intro c
  induction c with
  | zero => intro k acc _; rfl
  | succ c ih =>
    intro k acc h
    rw [rAll_s, rAll_s, h k (Nat.le_refl _) (by omega)]
    exact ih _ _ (fun q g1 g2 => h q (by omega) (by omega))
theorem rChg_0 {F G : Nat → Int32} : ∀ c k, rChg F G c k = 0 → ∀ q, k ≤ q → q < k + c → G q = F q := by
  intro c
  induction c with
  | zero => intro k _ q g1 g2; omega
  | succ c ih =>
    intro k h q g1 g2
    have h : (if G k = F k then rChg F G c (k + 1) else 1) = 0 := h
    by_cases e : G k = F k
    · rw [if_pos e] at h
      rcases Nat.eq_or_lt_of_le g1 with g | g
      · rw [← g]; exact e
      · exact ih (k + 1) h q (by omega) (by omega)
    · rw [if_neg e] at h; exact absurd h (by decide)
theorem rChg_1 {F G : Nat → Int32} : ∀ c k, (∀ q, k ≤ q → q < k + c → G q = F q) → rChg F G c k = 0 := by
  intro c
  induction c with
  | zero => intro k _; rfl
  | succ c ih =>
    intro k h
    show (if G k = F k then rChg F G c (k + 1) else 1) = 0
    rw [if_pos (h k (Nat.le_refl _) (by omega))]
    exact ih _ (fun q g1 g2 => h q (by omega) (by omega))
theorem chg_all {F G : Nat → Int32} {n j : Nat} (hn : n ≤ 8) (hj : j < n) (hF : ∀ q, q < n → ∃ w, w < 4 ∧ F q = nI w) (hG : ∀ q, q < n → ∃ w, w < 4 ∧ G q = nI w) (hlow : ∀ q, q < j → G q = F q) : rChg F G (n - j) j = if rAll G n 0 0 = rAll F n 0 0 then 0 else 1 := by
  have hp : (0 + 1) * 4 ^ n ≤ 65536 := by
    rw [Nat.zero_add, Nat.one_mul]
    exact Nat.pow_le_pow_right (n := 4) (by omega) hn
  rcases rChg_01 F G (n - j) j with h | h
  · have e : rAll G n 0 0 = rAll F n 0 0 := rAll_ext n 0 0 (fun q _ g2 => by
      rcases Nat.lt_or_ge q j with g | g
      · exact hlow q g
      · exact rChg_0 _ _ h q g (by omega))
    rw [h, if_pos e]
  · have e : ¬ rAll G n 0 0 = rAll F n 0 0 := fun e => by
      obtain ⟨-, h2⟩ := rAll_inj n 0 0 0 hp hp (fun q _ g => hG q (by omega)) (fun q _ g => hF q (by omega)) e
      rw [rChg_1 (n - j) j (fun q _ g2 => h2 q (Nat.zero_le _) (by omega))] at h
      exact absurd h (by decide)
    rw [h, if_neg e]
theorem rCnt_ext {F G : Nat → Int32} : ∀ c k acc, (∀ q, k ≤ q → q < k + c → F q = G q) → rCnt F c k acc = rCnt G c k acc := by
  intro c
  induction c with
  | zero => intro k acc _; rfl
  | succ c ih =>
    intro k acc h
    show rCnt F c (k + 1) (acc + F k) = rCnt G c (k + 1) (acc + G k)
    rw [h k (Nat.le_refl _) (by omega)]
    exact ih _ _ (fun q g1 g2 => h q (by omega) (by omega))
theorem turn_eq {n na mm j : Nat} {M : MSt} {ru : Nat → Nat} (hV : VAL n na M) (hU : RUV M) (hok : okG M n na ru) (hj : j < n) (hm : mm ≤ 200) : rCnt (fun u => rChg (fun k => (rBy M na ru k u).1) (fun k => (rBy (mR M 11 j (rTog M j)) na ru k u).1) (n - j) j) mm 0 0 = rCnt (fun u => if rAl (mR M 11 j (rTog M j)) n na ru u = rAl M n na ru u then 0 else 1) mm 0 0 := by
  have n8 := hok.2.2.1
  refine rCnt_ext mm 0 0 (fun u _ hu => chg_all n8 hj (fun q hq => rG_d hV hU hok (by omega) 8 q hq) (fun q hq => ?_) (fun q hq => ?_))
  · show ∃ w, w < 4 ∧ (rBy (mR M 11 j (rTog M j)) na ru q u).1 = nI w
    rw [rBy_on]
    exact rG_d hV hU hok (by omega) 8 q hq
  · show (rBy (mR M 11 j (rTog M j)) na ru q u).1 = (rBy M na ru q u).1
    rw [rBy_on]
    exact congrArg Prod.fst (rG_on (i := j) (by omega) (fun k hk => (hok.2.2.2.2 k (by omega)).2.2.1) (fun k hk => (mR_at).trans (if_neg (fun e => by have := e.2; omega))) 8 q hq)
section WT
variable {n na i a : Nat} {hh cc : Int32} {S : Pool} {M : MSt} {x ar ak : Nat} {ru : Nat → Nat}
theorem sup_t (U : Pool) (ak : Nat) (p0 : Int32) : (∀ k, k ≠ 3 → gI (pI U ak 3 p0) ak k = gI U ak k) ∧ gI (pI U ak 3 p0) ak 3 = p0 := by
  refine ⟨fun k hk => ?_, u2_s⟩
  show u2 (gI U) ak 3 p0 ak k = _
  rw [u2_k hk]
theorem wt_eq (h : REL True n na S M ar) (hC : INVC n na hh cc S x ar ak) (hok : okG M n na ru) (hY : LAY n M) (h01 : ∀ j, j < n → M.2 11 j = 0 ∨ M.2 11 j = 1) (e1 : M.1 1 = cc) (e2 : M.1 2 = hh) (hi : i < n) : ∀ j a, j < n → gP S ar j = some a → ∀ U, eqA S U ak → ∀ u, u < 200 → cV (pI (cBec U ak (nI u) (nI u - nI u / 10 * 10) (nI u / 10 - nI u / 10 / 10 * 10)) ak 3 (nI i)) x ar ak 8 a = (rBy (mR M 11 i (rTog M i)) na ru j u).1 := fun j a hj ha U hE0 u hu => by
  have n8 := hC.n8
  rw [rBy_on]
  obtain ⟨b0, b1, b2, b3, b4⟩ := bec_k U ak (nI u) (nI u - nI u / 10 * 10) (nI u / 10 - nI u / 10 / 10 * 10)
  have hE := (hE0.tr (eqA.bec (u := nI u) (f := (nI u - nI u / 10 * 10)) (g := (nI u / 10 - nI u / 10 / 10 * 10)))).tr (eqA.pI (k := 3) (v := nI i))
  obtain ⟨k03, k3⟩ := sup_t (cBec U ak (nI u) (nI u - nI u / 10 * 10) (nI u / 10 - nI u / 10 / 10 * 10)) ak (nI i)
  generalize (pI (cBec U ak (nI u) (nI u - nI u / 10 * 10) (nI u / 10 - nI u / 10 / 10 * 10)) ak 3 (nI i)) = T at hE k03 k3 ⊢
  have hB := hC.eA hE
  have hR := h.qc hC (hE.qc hC.kk) eqM.rf
  have hP : ∀ j, gP T ar j = gP S ar j := fun j => hE.p ar j
  have hg := gets_eq hR hB hok hY (show u ≤ 9999 by omega) ((k03 0 (by decide)).trans b0) ((k03 1 (by decide)).trans b1) ((k03 2 (by decide)).trans b2) ((mR M 11 i (rTog M i)).2 11) (fun k => rFar M.2 k (M.1 1)) (fun j b hj hb => ?_) (fun j b hj hb => ?_) 7 j a hj ((hP j).trans ha)
  · rw [hB.x4, ← e2] at hg
    exact hg.2
  · have e0 : gI T b 0 = nI j := (hB.R.2 j (by omega) b hb).2
    have e9 : gI T b 9 = M.2 11 j := hR.rn hj hb (q := (9, 11)) (by decide)
    unfold cOn
    rw [k3, e0, e9]
    by_cases hji : j = i
    · have m1 : (mR M 11 i (rTog M i)).2 11 j = rTog M i := mR_at.trans (if_pos ⟨rfl, hji⟩)
      have t1 : (if nI j = nI i then (1 : Int32) else 0) = 1 := if_pos (by rw [hji])
      rw [m1, t1]
      unfold rTog
      rw [← hji]
      rcases h01 j hj with hz | hz
      · rw [hz]; exact ⟨fun q => absurd q (by decide), fun q => absurd q (by decide)⟩
      · rw [hz]; exact ⟨fun _ => by decide, fun _ => by decide⟩
    · have m1 : (mR M 11 i (rTog M i)).2 11 j = M.2 11 j := mR_at.trans (if_neg (fun q => hji q.2))
      have t1 : (if nI j = nI i then (1 : Int32) else 0) = 0 := if_neg (fun q => hji ((nI_eq (a := j) (b := i) (by omega) (by omega)).mp q))
      rw [m1, t1]
      by_cases hz : M.2 11 j = 0
      · rw [if_pos hz]; exact ⟨fun _ => hz, fun _ => rfl⟩
      · rw [if_neg hz]; exact ⟨fun q => absurd q (by decide), fun q => absurd q hz⟩
  · have e0 : gI T b 0 = nI j := (hB.R.2 j (by omega) b hb).2
    unfold cFarA
    rw [k03 4 (by decide), b4, e0, if_neg (nI_m1 (by omega)), hB.x5, ← e1]
    exact far_eq (hR.rn hj hb (q := (10, 7)) (by decide)) (hR.rn hj hb (q := (11, 8)) (by decide)) (hR.1 j hj b hb).2.2.2.2
end WT
