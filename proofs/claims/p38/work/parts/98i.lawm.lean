/-! what the law asks, said of M alone -/
theorem rT_1n {T : Rows} {one va : Int32} : ∀ c, ∃ b, b ≤ nT T one va c ∧ rTold T one va 1 c 0 0 = nI b := by
  intro c
  induction c with
  | zero => exact ⟨0, Nat.zero_le _, rfl⟩
  | succ c ih =>
    obtain ⟨b, hb, e⟩ := ih
    rw [rT_s, nT_s, e]
    unfold sT
    by_cases h1 : T 23 c = one
    · by_cases h2 : T 25 c = va
      · rw [if_pos h1, if_pos h2, if_pos h1, if_pos h2, wT_1]
        by_cases h3 : T 27 c = 0
        · rw [if_pos h3]; exact ⟨b, by omega, Int32.add_zero _⟩
        · rw [if_neg h3]; exact ⟨b + 1, by omega, nI_add b 1⟩
      · rw [if_pos h1, if_neg h2, if_pos h1, if_neg h2]; exact ⟨b, by omega, rfl⟩
    · rw [if_neg h1, if_neg h1]; exact ⟨b, by omega, rfl⟩
theorem rT_2n {T : Rows} {one va : Int32} {B : Nat} : ∀ c, (∀ k, k < c → nB B (T 26 k)) → ∃ s, s ≤ c * B ∧ rTold T one va 2 c 0 0 = nI s := by
  intro c
  induction c with
  | zero => intro _; exact ⟨0, Nat.zero_le _, rfl⟩
  | succ c ih =>
    intro h
    obtain ⟨b, hb, e⟩ := ih (fun k hk => h k (by omega))
    obtain ⟨z, hz, ez⟩ := h c (by omega)
    rw [rT_s, e, Nat.add_mul, Nat.one_mul]
    unfold sT
    by_cases h1 : T 23 c = one
    · by_cases h2 : T 25 c = va
      · rw [if_pos h1, if_pos h2, wT_2, ez]; exact ⟨b + z, by omega, nI_add b z⟩
      · rw [if_pos h1, if_neg h2]; exact ⟨b, by omega, rfl⟩
    · rw [if_neg h1]; exact ⟨b, by omega, rfl⟩
theorem sumN_le {f : Nat → Nat} {j : Nat} : ∀ n, j < n → f j ≤ sumN f n := by
  intro n
  induction n with
  | zero => intro h; omega
  | succ n ih =>
    intro h
    rw [sumN_s]
    by_cases e : j = n
    · subst e; omega
    · have := ih (by omega); omega
theorem nT_all {T : Rows} {n : Nat} {vcs : Nat → Nat} (hn : n ≤ 8) (hvc : ∀ j, j < n → vcs j ≤ 4) : ∀ c, (∀ i, i < c → ∃ j, j < n ∧ ∃ v, v < vcs j ∧ T 23 i = nI j ∧ T 25 i = nI v) → sumN (fun j => sumN (fun v => nT T (nI j) (nI v) c) (vcs j)) n = c := by
  intro c
  induction c with
  | zero =>
    intro _
    have e : sumN (fun j => sumN (fun v => nT T (nI j) (nI v) 0) (vcs j)) n = sumN (fun _ => 0) n := sumN_ext n (fun j _ => sumN_0 _)
    rw [e]
    exact sumN_0 n
  | succ c ih =>
    intro h
    obtain ⟨j0, hj0, v0, hv0, e1, e2⟩ := h c (by omega)
    have hv4 := hvc j0 hj0
    have e : ∀ j, j < n → sumN (fun v => nT T (nI j) (nI v) (c + 1)) (vcs j) = sumN (fun v => nT T (nI j) (nI v) c) (vcs j) + if j0 = j then 1 else 0 := by
      intro j hj
      have hvj := hvc j hj
      have h1 : sumN (fun v => nT T (nI j) (nI v) (c + 1)) (vcs j) = sumN (fun v => nT T (nI j) (nI v) c + if v0 = v then (if j0 = j then 1 else 0) else 0) (vcs j) := by
        refine sumN_ext _ (fun v hv => ?_)
        rw [nT_s, e1, e2]
        have q1 : nI j0 = nI j ↔ j0 = j := nI_eq (by omega) (by omega)
        have q2 : nI v0 = nI v ↔ v0 = v := nI_eq (by omega) (by omega)
        by_cases a1 : j0 = j
        · rw [if_pos (q1.mpr a1), if_pos a1]
          by_cases a2 : v0 = v
          · rw [if_pos (q2.mpr a2), if_pos a2]
          · rw [if_neg (fun z => a2 (q2.mp z)), if_neg a2]
        · rw [if_neg (fun z => a1 (q1.mp z)), if_neg a1]
          by_cases a2 : v0 = v <;> simp [a2]
      rw [h1, sumN_add, sumN_one]
      by_cases a1 : j0 = j
      · subst a1; rw [if_pos hv0]
      · rw [if_neg a1]; by_cases a3 : v0 < vcs j <;> simp [a3]
    rw [sumN_ext n e, sumN_add, sumN_one, if_pos hj0, ih (fun i hi => h i (by omega))]
theorem arms_all {n na : Nat} {S : Pool} {M : MSt} {x ar ak : Nat} (gg : GG n na S M x ar ak) : sumN (fun j => sumN (fun v => nT M.2 (nI j) (nI v) na) (vcT M j)) n = na := by
  have hV := gg.t.2.2.2
  have hvc := vcs_ok hV
  refine nT_all gg.c.n8 (fun j hj => (hvc j hj).1) na (fun i hi => ?_)
  obtain ⟨j, hj, e⟩ := gg.l.2.2.2 trivial i hi
  obtain ⟨vc, h2, h4, evc, -, harm⟩ := hV.1 j hj
  obtain ⟨v, hv, ev⟩ := harm i hi e
  have e5 : vcT M j = vc := (nI_eq (by have := (hvc j hj).1; omega) (by omega)).mp ((hvc j hj).2.symm.trans evc)
  exact ⟨j, hj, v, by omega, e, ev⟩
theorem nT_sw {n na k : Nat} {S : Pool} {M : MSt} {x ar ak : Nat} (gg : GG n na S M x ar ak) (hk : k < n) : sumN (fun v => nT M.2 (nI k) (nI v) na) (vcT M k) ≤ na := by
  have h := sumN_le (f := fun j => sumN (fun v => nT M.2 (nI j) (nI v) na) (vcT M j)) n hk
  rw [arms_all gg] at h
  exact h
/-! counts of users -/
theorem rCnt_add (F G : Nat → Int32) : ∀ c k a b, rCnt F c k a + rCnt G c k b = rCnt (fun u => F u + G u) c k (a + b) := by
  intro c
  induction c with
  | zero => intro k a b; rfl
  | succ c ih =>
    intro k a b
    show rCnt F c (k + 1) (a + F k) + rCnt G c (k + 1) (b + G k) = rCnt _ c (k + 1) (a + b + (F k + G k))
    rw [ih, show a + F k + (b + G k) = a + b + (F k + G k) by ac_rfl]
def rBel (F : Nat → Int32) (v : Nat) : Int32 := rCnt (fun u => if nv (F u) < v then 1 else 0) 20 0 0
theorem rBel_s {F : Nat → Int32} {v : Nat} (hv : v < 4) (hF : ∀ u, u < 20 → ∃ w, w < 4 ∧ F u = nI w) : rBel F v + rCnt (fun u => if F u = nI v then 1 else 0) 20 0 0 = rBel F (v + 1) := by
  unfold rBel
  rw [rCnt_add]
  refine rCnt_ext 20 0 _ (fun q _ hq => ?_)
  obtain ⟨w, hw, e⟩ := hF q (by omega)
  have q1 : nI w = nI v ↔ w = v := nI_eq (by omega) (by omega)
  have q2 : nv (nI w) = w := nv_nI (by omega)
  show (if nv (F q) < v then (1 : Int32) else 0) + (if F q = nI v then 1 else 0) = if nv (F q) < v + 1 then 1 else 0
  rw [e, q2]
  by_cases h1 : w < v
  · rw [if_pos h1, if_neg (fun z => by have := q1.mp z; omega), if_pos (by omega)]; rfl
  · by_cases h2 : w = v
    · rw [if_neg h1, if_pos (q1.mpr h2), if_pos (by omega)]; rfl
    · rw [if_neg h1, if_neg (fun z => h2 (q1.mp z)), if_neg (by omega)]; rfl
theorem rBel_0 {F : Nat → Int32} : rBel F 0 = 0 := by
  unfold rBel
  rw [rCnt_ext (G := fun _ => 0) 20 0 0 (fun q _ _ => if_neg (Nat.not_lt_zero _))]
  rfl
theorem rBel_all {F : Nat → Int32} {vc : Nat} (hv : vc ≤ 4) (hF : ∀ u, u < 20 → ∃ w, w < vc ∧ F u = nI w) : rBel F vc = 20 := by
  unfold rBel
  rw [rCnt_ext (G := fun _ => 1) 20 0 0 (fun q _ hq => by
    obtain ⟨w, hw, e⟩ := hF q (by omega)
    show (if nv (F q) < vc then (1 : Int32) else 0) = 1
    rw [e, nv_nI (by omega), if_pos hw])]
  rfl
theorem rCnt_le {F G : Nat → Int32} : ∀ c k a b, a ≤ b → (∀ u, k ≤ u → u < k + c → (F u = 0 ∧ (G u = 0 ∨ G u = 1)) ∨ (F u = 1 ∧ G u = 1)) → ∃ p q, p ≤ q ∧ q ≤ b + c ∧ rCnt F c k (nI a) = nI p ∧ rCnt G c k (nI b) = nI q := by
  intro c
  induction c with
  | zero => intro k a b h _; exact ⟨a, b, h, Nat.le_refl _, rfl, rfl⟩
  | succ c ih =>
    intro k a b h hF
    have z0 : ∀ a : Nat, nI a + 0 = nI a := fun a => Int32.add_zero _
    have z1 : ∀ a : Nat, nI a + 1 = nI (a + 1) := fun a => nI_add a 1
    show ∃ p q, p ≤ q ∧ q ≤ b + (c + 1) ∧ rCnt F c (k + 1) (nI a + F k) = nI p ∧ rCnt G c (k + 1) (nI b + G k) = nI q
    have hT : ∀ u, k + 1 ≤ u → u < k + 1 + c → (F u = 0 ∧ (G u = 0 ∨ G u = 1)) ∨ (F u = 1 ∧ G u = 1) := fun u h1 h2 => hF u (by omega) (by omega)
    rcases hF k (Nat.le_refl _) (by omega) with ⟨e1, e2 | e2⟩ | ⟨e1, e2⟩
    · rw [e1, e2, z0, z0]
      obtain ⟨p, q, h1, h2, h3⟩ := ih (k + 1) a b h hT
      exact ⟨p, q, h1, by omega, h3⟩
    · rw [e1, e2, z0, z1]
      obtain ⟨p, q, h1, h2, h3⟩ := ih (k + 1) a (b + 1) (by omega) hT
      exact ⟨p, q, h1, by omega, h3⟩
    · rw [e1, e2, z1, z1]
      obtain ⟨p, q, h1, h2, h3⟩ := ih (k + 1) (a + 1) (b + 1) (by omega) hT
      exact ⟨p, q, h1, by omega, h3⟩
abbrev rBo (F G : Nat → Int32) : Int32 := rCnt (fun u => if F u = 8 then (if G u = 8 then 1 else 0) else 0) 20 0 0
theorem rBo_sym (F G : Nat → Int32) : rBo F G = rBo G F := rCnt_ext 20 0 0 (fun q _ _ => by
  show (if F q = 8 then (if G q = 8 then (1 : Int32) else 0) else 0) = if G q = 8 then (if F q = 8 then 1 else 0) else 0
  by_cases h1 : F q = 8 <;> by_cases h2 : G q = 8 <;> simp [h1, h2])
theorem rBo_le (F G : Nat → Int32) : ∃ p q, p ≤ q ∧ q ≤ 20 ∧ rBo F G = nI p ∧ rBo F F = nI q := by
  obtain ⟨p, q, h1, h2, h3, h4⟩ := rCnt_le (F := fun u => if F u = 8 then (if G u = 8 then (1 : Int32) else 0) else 0) (G := fun u => if F u = 8 then (if F u = 8 then (1 : Int32) else 0) else 0) 20 0 0 0 (Nat.le_refl _) (fun u _ _ => by
    by_cases a1 : F u = 8
    · by_cases a2 : G u = 8
      · exact Or.inr ⟨by simp [a1, a2], by simp [a1]⟩
      · exact Or.inl ⟨by simp [a1, a2], Or.inr (by simp [a1])⟩
    · exact Or.inl ⟨by simp [a1], Or.inl (by simp [a1])⟩)
  exact ⟨p, q, h1, by omega, h3, h4⟩
theorem rBo_0 {F G : Nat → Int32} (h : ∀ u, u < 20 → F u = 8 → G u ≠ 8) : rBo F G = 0 := by
  show rCnt _ 20 0 0 = 0
  rw [rCnt_ext (G := fun _ => 0) 20 0 0 (fun q _ hq => by
    show (if F q = 8 then (if G q = 8 then (1 : Int32) else 0) else 0) = 0
    by_cases a1 : F q = 8
    · rw [if_pos a1, if_neg (h q (by omega) a1)]
    · rw [if_neg a1])]
  rfl
theorem rCnt_no {F : Nat → Int32} : rCnt (fun u => if F u = F u then (0 : Int32) else 1) 20 0 0 = 0 := by
  rw [rCnt_ext (G := fun _ => 0) 20 0 0 (fun q _ _ => if_pos rfl)]
  rfl
section LM
variable {n na k : Nat} {M : MSt} {x ar ak : Nat} {S : Pool} {cM sB : Nat} {ru : Nat → Nat}
/-- each user gets one of its variants -/
theorem by_var (gg : GG n na S M x ar ak) (hM : MK n na cM sB M) (hok : okG M n na ru) (hk : k < n) : ∀ u, u < 200 → ∃ w, w < vcT M k ∧ (rBy M na ru k u).1 = nI w := fun u hu => by
  obtain ⟨w, y, vc, evc, hw, h4, -, hG, -⟩ := rGx_all (M := M) (hold := M.1 2) (f := nI u - nI u / 10 * 10) (g := nI u / 10 - nI u / 10 / 10 * 10) (far := rFar M.2 k (M.1 1)) (on' := M.2 11) (sub' := fun j => (rG M.2 (M.1 2) (M.2 11) (fun k => rFar M.2 k (M.1 1)) (nI u) (nI u - nI u / 10 * 10) (nI u / 10 - nI u / 10 / 10 * 10) na ru 7 j).1) gg.t.2.2.2 gg.r hok hM gg.wg (show u ≤ 9999 by omega) hk
  have hvc := vcs_ok gg.t.2.2.2 k hk
  have e5 : vcT M k = vc := (nI_eq (by omega) (by omega)).mp (hvc.2.symm.trans evc)
  exact ⟨w, by omega, congrArg Prod.fst hG⟩
/-- two of one layer: none has the reason 8 of both -/
theorem by_apart (gg : GG n na S M x ar ak) (hM : MK n na cM sB M) (hok : okG M n na ru) (hk : k < n) {o : Nat} (ho : o < n) (hne : o ≠ k) (hl : M.2 12 k ≠ -1) (he : M.2 12 o = M.2 12 k) : ∀ u, u < 20 → (rBy M na ru k u).2 = 8 → (rBy M na ru o u).2 ≠ 8 := fun u hu e1 e2 => by
  have f : ∀ i, i < n → (rBy M na ru i u).2 = 8 → ¬ (M.2 12 i ≠ -1 ∧ kIn (kBkt (500 + M.2 12 i) (nI u)) (M.2 13 i) (M.2 14 i - 1) = 0) := fun i hi e => by
    obtain ⟨w, y, vc, evc, hw, h4, hy, hG, -, -, -, -, -, -, h8⟩ := rGx_all (M := M) (hold := M.1 2) (f := nI u - nI u / 10 * 10) (g := nI u / 10 - nI u / 10 / 10 * 10) (far := rFar M.2 i (M.1 1)) (on' := M.2 11) (sub' := fun j => (rG M.2 (M.1 2) (M.2 11) (fun k => rFar M.2 k (M.1 1)) (nI u) (nI u - nI u / 10 * 10) (nI u / 10 - nI u / 10 / 10 * 10) na ru 7 j).1) gg.t.2.2.2 gg.r hok hM gg.wg (show u ≤ 9999 by omega) hi
    refine h8 ?_
    have e3 : nI y = 8 := (congrArg Prod.snd hG).symm.trans e
    exact (nI_eq (b := 8) (by omega) (by decide)).mp e3
  obtain ⟨hML, hap⟩ := hM.2.2.1
  obtain ⟨l12, ⟨f1, hf1, ef1⟩, ⟨t1, ht1, et1⟩⟩ := hML k hk
  obtain ⟨-, ⟨f2, hf2, ef2⟩, ⟨t2, ht2, et2⟩⟩ := hML o ho
  rcases l12 with e | ⟨z, hz, ez⟩
  · exact hl e
  · have b1 : kBkt (500 + M.2 12 k) (nI u) = nI (nBkt (500 + z) u) := by rw [ez, show (500 : Int32) + nI z = nI (500 + z) from nI_add 500 z]; exact kBkt_n (by omega) (by omega)
    have hb := nBkt_lt (500 + z) u
    have g1 := f k hk e1
    have g2 := f o ho e2
    rw [he] at g2
    rw [b1, ef1, et1] at g1
    rw [b1, ef2, et2] at g2
    have c1 : f1 ≤ nBkt (500 + z) u ∧ nBkt (500 + z) u < t1 := Decidable.byContradiction fun h => g1 ⟨hl, (kIn_cut hb hf1 ht1).mpr h⟩
    have c2 : f2 ≤ nBkt (500 + z) u ∧ nBkt (500 + z) u < t2 := Decidable.byContradiction fun h => g2 ⟨hl, (kIn_cut hb hf2 ht2).mpr h⟩
    refine hap k o hk ho (fun e => hne e.symm) hl he (nBkt (500 + z) u) ?_
    rw [ef1, et1, ef2, et2, nv_nI (by omega), nv_nI (by omega), nv_nI (by omega), nv_nI (by omega)]
    exact ⟨c1.1, c1.2, c2.1, c2.2⟩
/-- the ramp, now and later -/
theorem share_n (hM : MK n na cM sB M) (hk : k < n) (hc : cM < 900000) : ∃ sh, sh ≤ 1000 ∧ ∃ sp z, z ≤ cM ∧ ∀ d, d ≤ 1000 → rFar M.2 k (M.1 1 + nI d) = nI (min 1000 (sh + sp * (cM + d - z))) := by
  obtain ⟨-, ⟨sh, h1, e1⟩, ⟨sp, h2, e2⟩, ⟨z, h3, e3⟩⟩ := hM.2.1 k hk
  exact ⟨sh, h1, sp, z, h3, fun d hd => far_n e1 e2 e3 (by rw [hM.1.1]; exact nI_add cM d) h1 h2 (by omega) (by omega)⟩
theorem share_le (hM : MK n na cM sB M) (hk : k < n) (hc : cM < 900000) : ∃ a b c d, rFar M.2 k (M.1 1) = nI a ∧ rFar M.2 k (M.1 1 + 1) = nI b ∧ rFar M.2 k (M.1 1 + 50) = nI c ∧ rFar M.2 k (M.1 1 + 1000) = nI d ∧ a ≤ b ∧ b ≤ c ∧ d ≤ 1000 ∧ c ≤ 1000 := by
  obtain ⟨sh, h1, sp, z, hz, hall⟩ := share_n hM hk hc
  have e0 := hall 0 (by omega)
  rw [show M.1 1 + nI 0 = M.1 1 from Int32.add_zero _] at e0
  have m1 : sp * (cM + 0 - z) ≤ sp * (cM + 1 - z) := Nat.mul_le_mul_left _ (by omega)
  have m2 : sp * (cM + 1 - z) ≤ sp * (cM + 50 - z) := Nat.mul_le_mul_left _ (by omega)
  exact ⟨_, _, _, _, e0, hall 1 (by omega), hall 50 (by omega), hall 1000 (by omega), by omega, by omega, by omega, by omega⟩
end LM
/-! how bad -/
theorem nL_sq {a b m : Nat} (ha : a ≤ m) (hb : b ≤ m) : ∃ d, d ≤ m ∧ (nL a - nL b) * (nL a - nL b) = nL (d * d) := by
  have hs : ∀ p q, q ≤ p → nL p - nL q = nL (p - q) := fun p q h => by
    have e : nL (p - q) + nL q = nL p := by rw [nL_add, Nat.sub_add_cancel h]
    rw [← e, Int64.add_sub_cancel]
  rcases Nat.le_total b a with h | h
  · exact ⟨a - b, by omega, by rw [hs a b h, nL_mul]⟩
  · refine ⟨b - a, by omega, ?_⟩
    rw [← Int64.neg_sub (a := nL b) (b := nL a), Int64.neg_mul, Int64.mul_neg, Int64.neg_neg, hs b a h, nL_mul]
theorem bad_t {ct n w : Nat} (hc : ct ≤ n) (hn0 : 0 < n) (hn : n ≤ 100) (hw0 : 0 < w) (hw : w ≤ 1000) : ∃ z, z ≤ 10000000 ∧ ((nI ct).toInt64 * 1000 - (nI n).toInt64 * (nI w).toInt64) * ((nI ct).toInt64 * 1000 - (nI n).toInt64 * (nI w).toInt64) / ((nI n).toInt64 * (nI w).toInt64 * 10) = nL z := by
  have hnw : n * w ≤ n * 1000 := Nat.mul_le_mul_left _ hw
  have hnw1 : n * 1 ≤ n * w := Nat.mul_le_mul_left _ hw0
  rw [nL_i (by omega), nL_i (by omega), nL_i (by omega), show (1000 : Int64) = nL 1000 from rfl, show (10 : Int64) = nL 10 from rfl, nL_mul, nL_mul, nL_mul]
  obtain ⟨d, hd, e⟩ := nL_sq (a := ct * 1000) (b := n * w) (m := n * 1000) (by omega) hnw
  rw [e]
  have hdd : d * d ≤ (n * 1000) * (n * 1000) := Nat.mul_le_mul hd hd
  have e1 : (n * 1000) * (n * 1000) = n * n * 1000000 := by rw [show (1000000 : Nat) = 1000 * 1000 from rfl]; ac_rfl
  have e2 : n * n ≤ n * 100 := Nat.mul_le_mul_left _ hn
  have h3 : d * d ≤ n * w * 10 * 10000000 := by omega
  refine ⟨d * d / (n * w * 10), Nat.div_le_of_le_mul h3, ?_⟩
  exact (Int64.ofNat_div (by omega) (by omega)).symm
theorem bnd_1 {a t c z : Nat} (h : t ≤ 10000000) (hz : z ≤ a + t + c * 10000000) : z ≤ a + (c + 1) * 10000000 := by
  rw [Nat.add_mul, Nat.one_mul]
  generalize c * 10000000 = y at hz ⊢
  omega
theorem bnd_0 {a c z : Nat} (hz : z ≤ a + c * 10000000) : z ≤ a + (c + 1) * 10000000 := by
  rw [Nat.add_mul, Nat.one_mul]
  generalize c * 10000000 = y at hz ⊢
  omega
theorem rBadL_n {T : Rows} {i na N : Nat} (hN0 : 0 < N) (hN : N ≤ 100) : ∀ c k a, (∀ v, k ≤ v → v < k + c → nT T (nI i) (nI v) na ≤ N ∧ ∃ w, w ≤ 1000 ∧ T 6 (4 * i + v) = nI w) → ∃ z, z ≤ a + c * 10000000 ∧ rBadL T i na (nI N).toInt64 c k (nL a) = nL z := by
  intro c
  induction c with
  | zero => intro k a _; exact ⟨a, by omega, rfl⟩
  | succ c ih =>
    intro k a h
    obtain ⟨h1, w, hw, ew⟩ := h k (Nat.le_refl _) (by omega)
    have hT : ∀ v, k + 1 ≤ v → v < k + 1 + c → nT T (nI i) (nI v) na ≤ N ∧ ∃ w, w ≤ 1000 ∧ T 6 (4 * i + v) = nI w := fun v q1 q2 => h v (by omega) (by omega)
    show ∃ z, z ≤ a + (c + 1) * 10000000 ∧ (if 0 < lg_cmp (T 6 (4 * i + k)).toInt64 0 then rBadL T i na (nI N).toInt64 c (k + 1) (nL a + _) else rBadL T i na (nI N).toInt64 c (k + 1) (nL a)) = nL z
    rw [ew, rT_0]
    by_cases hp : 0 < lg_cmp (nI w).toInt64 0
    · rw [if_pos hp]
      obtain ⟨t, ht, et⟩ := bad_t h1 hN0 hN ((pos_w hw).mp hp) hw
      rw [et, nL_add]
      obtain ⟨z, hz, ez⟩ := ih (k + 1) (a + t) hT
      exact ⟨z, bnd_1 ht hz, ez⟩
    · rw [if_neg hp]
      obtain ⟨z, hz, ez⟩ := ih (k + 1) a hT
      exact ⟨z, bnd_0 hz, ez⟩
theorem bad_n {n na k : Nat} {S : Pool} {M : MSt} {x ar ak : Nat} (gg : GG n na S M x ar ak) (hk : k < n) {a : Nat} (ha : gP S ar k = some a) : ∃ z, z ≤ 40000000 ∧ rBad M.2 k na (vcT M k) = nI z := by
  have hvc := vcs_ok gg.t.2.2.2 k hk
  have hna : na ≤ 100 := gg.r.na
  have hs := nT_sw gg hk
  have hRW := (gg.l.1 k hk a ha).2.1
  unfold rBad
  have e := rNum_n (T := M.2) (i := k) (na := na) (vcT M k) 0
  rw [Nat.zero_add] at e
  have e : rNum M.2 k na (vcT M k) 0 0 = nI (sumN (fun v => nT M.2 (nI k) (nI v) na) (vcT M k)) := e
  rw [e]
  generalize eN : sumN (fun v => nT M.2 (nI k) (nI v) na) (vcT M k) = N at hs
  by_cases hp : (0 : Int32) < nI N
  · rw [if_pos hp]
    have hN0 : 0 < N := (nI_ltI (a := 0) (b := N) (by omega) (by omega)).mp hp
    obtain ⟨z, hz, ez⟩ := rBadL_n (T := M.2) (i := k) (na := na) hN0 (by omega) (vcT M k) 0 0 (fun v _ h2 => ⟨by rw [← eN]; exact sumN_le (f := fun v => nT M.2 (nI k) (nI v) na) _ (by omega), (hRW v (by omega)).2⟩)
    have ez : rBadL M.2 k na (nI N).toInt64 (vcT M k) 0 0 = nL z := ez
    rw [ez, nL_32]
    have := hvc.1
    exact ⟨z, by omega, rfl⟩
  · rw [if_neg hp]; exact ⟨0, by omega, rfl⟩
/-- the least number of the best: none, or none above -/
theorem best_n {n na k : Nat} {S : Pool} {M : MSt} {x ar ak : Nat} (gg : GG n na S M x ar ak) (hk : k < n) : (rBeT M na (vcT M) k = -1 ∧ ∀ v, v < vcT M k → nT M.2 (nI k) (nI v) na = 0) ∨ ∃ r, r < vcT M k ∧ rBeT M na (vcT M) k = nI r ∧ 0 < nT M.2 (nI k) (nI r) na ∧ ∀ v, v < vcT M k → 0 < nT M.2 (nI k) (nI v) na → dV (rTold M.2 (nI k) (nI v) 2 na 0 0) (rTold M.2 (nI k) (nI v) 0 na 0 0) ≤ dV (rTold M.2 (nI k) (nI r) 2 na 0 0) (rTold M.2 (nI k) (nI r) 0 na 0 0) := by
  have hvc := vcs_ok gg.t.2.2.2 k hk
  have hna : na ≤ 100 := gg.r.na
  have hz : ∀ v, (0 : Int32) < rTold M.2 (nI k) (nI v) 0 na 0 0 ↔ 0 < nT M.2 (nI k) (nI v) na := fun v => by
    rw [rT_0]
    have := nT_le M.2 (nI k) (nI v) na
    exact nI_ltI (a := 0) (by omega) (by omega)
  rcases kBest_top (sm := fun v => rTold M.2 (nI k) v 2 na 0 0) (ct := fun v => rTold M.2 (nI k) v 0 na 0 0) (vcT M k) 0 (-1) (Or.inl rfl) (by omega) with ⟨a1, -, a3⟩ | ⟨r, b1, b2, b3, -, b5⟩
  · exact Or.inl ⟨a1, fun v hv => by have := a3 v (Nat.zero_le _) (by omega); rw [hz] at this; omega⟩
  · rcases b3 with e | ⟨-, e2, e3⟩
    · exact absurd e.symm (nI_m1 (a := r) (by omega))
    · exact Or.inr ⟨r, by omega, b2, (hz r).mp e3, fun v hv h0 => b5 v (Nat.zero_le _) (by omega) ((hz v).mpr h0)⟩
