/-! Desk and the class together -/
abbrev J38 (d x b ar ak D0 c0 s0 n0 : Nat) (T S : Pool) : Prop := ∃ (n na dr cM sB : Nat) (Ad : DA) (fF : Nat → Int32) (fO fW : Nat → Nat → Int32) (fC : Nat → Nat) (fR : Nat → Nat → Nat → Int32) (fB : Nat → Nat → Int32) (M : MSt), n0 ≤ n ∧ dr ≤ D0 ∧ cM ≤ c0 ∧ sB ≤ s0 ∧ DK T d x b Ad (n, na, fF, fO, fW, fC, fR, fB) ∧ VM (n, na, fF, fO, fW, fC, fR, fB) n na dr M ∧ GG n na S M x ar ak ∧ MK n na cM sB M
theorem kOut_n {a lo hi : Nat} (h1 : lo ≤ a) (h2 : a ≤ hi) (h3 : hi < 2 ^ 31) : kOut (nI a) (nI lo) (nI hi) = 0 := by
  unfold kOut
  rw [if_neg (fun q => absurd ((nI_ltI (by omega) (by omega)).mp q) (by omega)), if_pos ((nI_leI (by omega) h3).mpr h2)]
theorem GG.sw2 {n na : Nat} {S : Pool} {M : MSt} {x ar ak j a : Nat} (h : GG n na S M x ar ak) (hjn : j < n) (hja : gP S ar j = some a) : kSw S ar (nI j) = some a := (kSw_at (by have := h.c.n8; omega)).trans hja
theorem GG.far {n na : Nat} {S : Pool} {M : MSt} {x ar ak j a : Nat} (h : GG n na S M x ar ak) (hjn : j < n) (hja : gP S ar j = some a) : cFar S a (gI S x 5) = rFar M.2 j (M.1 1) := (far_eq (clk := gI S x 5) (h.l.rn hjn hja (q := (10, 7)) (by decide)) (h.l.rn hjn hja (q := (11, 8)) (by decide)) (h.l.1 j hjn a hja).2.2.2.2).trans (congrArg (rFar M.2 j) h.c.x5)
theorem GG.vc {n na : Nat} {S : Pool} {M : MSt} {x ar ak j : Nat} (h : GG n na S M x ar ak) (hjn : j < n) : ∃ vc, 2 ≤ vc ∧ vc ≤ 4 ∧ M.2 5 j = nI vc := by
  obtain ⟨vc, h1, h2, h3, -⟩ := h.t.2.2.2.1 j hjn
  exact ⟨vc, h1, h2, h3⟩
theorem GG.vko {n na v vc : Nat} {S : Pool} {M : MSt} {x ar ak j a : Nat} (h : GG n na S M x ar ak) (hjn : j < n) (hja : gP S ar j = some a) (e : M.2 5 j = nI vc) (hv : v < vc) (hvc : vc ≤ 4) : kOut (nI v) 0 (gI S a 2 - 1) = 0 := kOut_sw hv (by omega) ((h.l.rn hjn hja (q := (2, 5)) (by decide)).trans e)
theorem mR_swap {M : MSt} {k i j : Nat} {v w : Int32} (h : i ≠ j) : mR (mR M k i v) k j w = mR (mR M k j w) k i v := by
  have e : va_up (va_up M.2 k (upd (M.2 k) i v)) k (upd (upd (M.2 k) i v) j w) = va_up (va_up M.2 k (upd (M.2 k) j w)) k (upd (upd (M.2 k) j w) i v) := by
    funext q z
    by_cases hq : q = k
    · subst hq
      simp only [va_up, if_true, upd]
      by_cases h1 : z = i <;> by_cases h2 : z = j <;> simp [h1, h2] <;> omega
    · simp [va_up, hq]
  have e2 : ∀ (X : MSt) (a b : Nat) (u : Int32), (mR X a b u).2 a = upd (X.2 a) b u := fun X a b u => up_i
  show (M.1, va_up (va_up M.2 k (upd (M.2 k) i v)) k (upd ((mR M k i v).2 k) j w)) = (M.1, va_up (va_up M.2 k (upd (M.2 k) j w)) k (upd ((mR M k j w).2 k) i v))
  rw [e2, e2, e]
section VMR
variable {V : DV} {n na dr : Nat} {M : MSt} {k : Nat}
theorem VM.unrule (h : VM V n na dr M) (hk : k < 8) {ap : Nat} (hap : ap < vC V k) : VM (vN V, vA V, vF V, vO V, vW V, va_up (vC V) k (vC V k - 1), fun i => if i = k then (fun z => vR V k (if z < ap then z else z + 1)) else vR V i, vB V) n na dr (mUnr M k ap (vC V k)) := by
  have hc := h.c hk
  refine h.rul hk (by omega) rfl (fun q hq => (up_o (by omega)).trans ((up_o (by omega)).trans ((up_o (by omega)).trans ((up_o (by omega)).trans (up_o (by omega)))))) (fun i => rfl) (fun i hi j hj => ?_) (fun q h1 h2 i z hi hz => ?_)
  · have e : ∀ q, q < 4 → (mUnr M k ap (vC V k)).2 (18 + q) = rMv (M.2 (18 + q)) (5 * k + ap) (5 * k + vC V k - (5 * k + ap) - 1) := fun q hq => by
      rcases (show q = 0 ∨ q = 1 ∨ q = 2 ∨ q = 3 by omega) with rfl | rfl | rfl | rfl <;> rfl
    rw [e j hj]
    unfold rMv
    by_cases h9 : i < ap
    · rw [if_pos h9, if_neg (by omega)]; exact h.r hk (by omega) hj
    · rw [if_neg h9]
      by_cases h8 : 5 * k + ap ≤ 5 * k + i ∧ 5 * k + i < 5 * k + ap + (5 * k + vC V k - (5 * k + ap) - 1)
      · rw [if_pos h8]; exact h.r hk (by omega) hj
      · omega
  · have e : (mUnr M k ap (vC V k)).2 q = rMv (M.2 q) (5 * k + ap) (5 * k + vC V k - (5 * k + ap) - 1) := by
      rcases (show q = 18 ∨ q = 19 ∨ q = 20 ∨ q = 21 by omega) with rfl | rfl | rfl | rfl <;> rfl
    rw [e]
    unfold rMv
    rw [if_neg (by omega)]
abbrev mRul (M : MSt) (k rc : Nat) (p1 p2 p3 p4 : Int32) : MSt := mR (mR (mR (mR (mR M 18 (5 * k + rc) p1) 19 (5 * k + rc) p2) 20 (5 * k + rc) p3) 21 (5 * k + rc) p4) 17 k (nI (rc + 1))
theorem VM.rule (h : VM V n na dr M) (hk : k < 8) (hrc : vC V k < 5) {g : Nat → Int32} {p1 p2 p3 p4 : Int32} (hg : g 0 = p1 ∧ g 1 = p2 ∧ g 2 = p3 ∧ g 3 = p4) : VM (vN V, vA V, vF V, vO V, vW V, va_up (vC V) k (vC V k + 1), fun i => if i = k then (fun z => if z = vC V k then g else vR V k z) else vR V i, vB V) n na dr (mRul M k (vC V k) p1 p2 p3 p4) := by
  obtain ⟨g0, g1, g2, g3⟩ := hg
  have ek : ∀ i z, i ≠ k → z < 5 → ¬ 5 * i + z = 5 * k + vC V k := fun i z h1 h2 => by omega
  refine h.rul hk (by omega) rfl (fun q hq => (up_o (by omega)).trans ((up_o (by omega)).trans ((up_o (by omega)).trans ((up_o (by omega)).trans (up_o (by omega)))))) (fun i => rfl) (fun i hi j hj => ?_) (fun q h1 h2 i z hi hz => ?_)
  · show (if i = vC V k then g else vR V k i) j = _
    by_cases h9 : i = vC V k
    · subst h9
      rw [if_pos rfl]
      rcases (show j = 0 ∨ j = 1 ∨ j = 2 ∨ j = 3 by omega) with rfl | rfl | rfl | rfl
      · exact g0.trans (show p1 = upd (M.2 18) (5 * k + vC V k) p1 (5 * k + vC V k) by simp [upd])
      · exact g1.trans (show p2 = upd (M.2 19) (5 * k + vC V k) p2 (5 * k + vC V k) by simp [upd])
      · exact g2.trans (show p3 = upd (M.2 20) (5 * k + vC V k) p3 (5 * k + vC V k) by simp [upd])
      · exact g3.trans (show p4 = upd (M.2 21) (5 * k + vC V k) p4 (5 * k + vC V k) by simp [upd])
    · rw [if_neg h9, h.r hk (show i < vC V k by omega) hj]
      have e : ¬ 5 * k + i = 5 * k + vC V k := by omega
      rcases (show j = 0 ∨ j = 1 ∨ j = 2 ∨ j = 3 by omega) with rfl | rfl | rfl | rfl
      · exact (show M.2 18 (5 * k + i) = upd (M.2 18) (5 * k + vC V k) p1 (5 * k + i) by simp [upd, h9])
      · exact (show M.2 19 (5 * k + i) = upd (M.2 19) (5 * k + vC V k) p2 (5 * k + i) by simp [upd, h9])
      · exact (show M.2 20 (5 * k + i) = upd (M.2 20) (5 * k + vC V k) p3 (5 * k + i) by simp [upd, h9])
      · exact (show M.2 21 (5 * k + i) = upd (M.2 21) (5 * k + vC V k) p4 (5 * k + i) by simp [upd, h9])
  · have e := ek i z hi hz
    rcases (show q = 18 ∨ q = 19 ∨ q = 20 ∨ q = 21 by omega) with rfl | rfl | rfl | rfl
    · exact (show upd (M.2 18) (5 * k + vC V k) p1 (5 * i + z) = M.2 18 (5 * i + z) by simp [upd, e])
    · exact (show upd (M.2 19) (5 * k + vC V k) p2 (5 * i + z) = M.2 19 (5 * i + z) by simp [upd, e])
    · exact (show upd (M.2 20) (5 * k + vC V k) p3 (5 * i + z) = M.2 20 (5 * i + z) by simp [upd, e])
    · exact (show upd (M.2 21) (5 * k + vC V k) p4 (5 * i + z) = M.2 21 (5 * i + z) by simp [upd, e])
end VMR
theorem kRul_ok {p1 p2 p3 : Nat} (h1 : p1 ≤ 1) (h2 : 1 ≤ p2) (h3 : p2 ≤ 3) (h4 : p3 ≤ 9) : kRul (nI p1) (nI p2) (nI p3) = 1 := by
  unfold kRul
  rw [if_pos (show kOut (nI p1) 0 1 = 0 from kOut_n (a := p1) (lo := 0) (hi := 1) (by omega) h1 (by omega)), if_pos (show kOut (nI p2) 1 3 = 0 from kOut_n (a := p2) (lo := 1) (hi := 3) h2 h3 (by omega)), if_pos (show kOut (nI p3) 0 9 = 0 from kOut_n (a := p3) (lo := 0) (hi := 9) (by omega) h4 (by omega))]
theorem kRng_ok {la f t : Nat} (h1 : la ≤ 2) (h2 : f ≤ t) (h3 : t ≤ 1000) : kRng (nI la) (nI f) (nI t) = 1 := by
  unfold kRng
  rw [if_pos (show kOut (nI la) 0 2 = 0 from kOut_n (a := la) (lo := 0) (hi := 2) (by omega) h1 (by omega)), if_neg (show ¬ nI f < 0 from fun q => absurd ((nI_ltI (a := f) (b := 0) (by omega) (by omega)).mp q) (by omega)), if_neg (fun q => absurd ((nI_ltI (a := t) (b := f) (by omega) (by omega)).mp q) (by omega)), if_neg (show ¬ (1000 : Int32) < nI t from fun q => absurd ((nI_ltI (a := 1000) (b := t) (by omega) (by omega)).mp q) (by omega))]
/-- a range is taken, where another switch of the layer has some of it -/
theorem rTak_iff {T : Rows} {i la f t n : Nat} (hf : f ≤ 1000) (ht : t ≤ 1000) (hr : ∀ k, k < n → nB 1000 (T 13 k) ∧ nB 1000 (T 14 k)) : ∀ c k, k + c = n → (rTak T i (nI la) (nI f) (nI t) c k = 0 ↔ ∀ z, k ≤ z → z < n → z ≠ i → T 12 z = nI la → ∀ b : Nat, ¬ (f ≤ b ∧ b < t ∧ nv (T 13 z) ≤ b ∧ b < nv (T 14 z))) := by
  intro c
  induction c with
  | zero =>
    intro k hk
    exact ⟨fun _ z h1 h2 => by omega, fun _ => rfl⟩
  | succ c ih =>
    intro k hk
    have ihk := ih (k + 1) (by omega)
    obtain ⟨⟨a, ha, ea⟩, ⟨b9, hb, eb⟩⟩ := hr k (by omega)
    have na : nv (T 13 k) = a := by rw [ea]; exact nv_nI (by omega)
    have nb : nv (T 14 k) = b9 := by rw [eb]; exact nv_nI (by omega)
    unfold rTak
    by_cases h1 : k = i
    · rw [if_pos h1, ihk]
      exact ⟨fun h z a1 a2 a3 => h z (by omega) a2 a3, fun h z a1 a2 a3 => h z (by omega) a2 a3⟩
    · rw [if_neg h1]
      by_cases h2 : T 12 k = nI la
      · rw [if_pos h2, ea, eb]
        have em : (kMaxI (nI f) (nI a) < kMinI (nI t) (nI b9)) ↔ (max f a < min t b9) := by
          have e1 : kMaxI (nI f) (nI a) = nI (max f a) := by
            unfold kMaxI
            by_cases z : f < a
            · rw [if_pos ((nI_ltI (by omega) (by omega)).mpr z)]; exact congrArg nI (by omega)
            · rw [if_neg (fun q => z ((nI_ltI (by omega) (by omega)).mp q))]; exact congrArg nI (by omega)
          have e2 : kMinI (nI t) (nI b9) = nI (min t b9) := by
            unfold kMinI
            by_cases z : b9 < t
            · rw [if_pos ((nI_ltI (by omega) (by omega)).mpr z)]; exact congrArg nI (by omega)
            · rw [if_neg (fun q => z ((nI_ltI (by omega) (by omega)).mp q))]; exact congrArg nI (by omega)
          rw [e1, e2]
          exact nI_ltI (by omega) (by omega)
        by_cases h3 : max f a < min t b9
        · rw [if_pos (em.mpr h3)]
          refine ⟨fun q => absurd q (by decide), fun h => ?_⟩
          exact absurd ⟨by omega, by omega, by omega, by omega⟩ (h k (Nat.le_refl _) (by omega) h1 h2 (max f a))
        · rw [if_neg (fun q => h3 (em.mp q)), ihk]
          refine ⟨fun h z a1 a2 a3 a4 b hb9 => ?_, fun h z a1 a2 a3 => h z (by omega) a2 a3⟩
          by_cases ez : z = k
          · subst ez
            omega
          · exact h z (by omega) a2 a3 a4 b hb9
      · rw [if_neg h2, ihk]
        refine ⟨fun h z a1 a2 a3 a4 => ?_, fun h z a1 a2 a3 => h z (by omega) a2 a3⟩
        by_cases ez : z = k
        · subst ez; exact absurd a4 h2
        · exact h z (by omega) a2 a3 a4
