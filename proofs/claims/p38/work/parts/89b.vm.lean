/-! what Desk's rows say of the abstract state -/
def relV : List (Nat × Nat) := [(0, 4), (1, 5), (2, 10), (3, 11), (4, 7), (5, 8), (6, 9), (7, 12), (10, 15), (11, 16)]
def VMf (V : DV) (n na dr : Nat) (M : MSt) : Prop := vN V = n ∧ vA V = na ∧ vF V 2 = nI dr ∧ vF V 3 = M.1 1 ∧ vF V 4 = M.1 2 ∧ vF V 5 = nI n
def VMo (V : DV) (n : Nat) (M : MSt) : Prop := (∀ k, k < n → ∀ q ∈ relV, vO V k q.1 = M.2 q.2 k) ∧ ∀ k, k < n → M.2 12 k ≠ -1 → vO V k 8 = M.2 13 k ∧ vO V k 9 = M.2 14 k
def VMw (V : DV) (M : MSt) : Prop := ∀ k, k < 8 → ∀ v, v < 4 → vW V k v = M.2 6 (4 * k + v)
def VMr (V : DV) (M : MSt) : Prop := ∀ k, k < 8 → vC V k ≤ 5 ∧ M.2 17 k = nI (vC V k) ∧ ∀ i, i < vC V k → ∀ j, j < 4 → vR V k i j = M.2 (18 + j) (5 * k + i)
def VMa (V : DV) (na : Nat) (M : MSt) : Prop := ∀ i, i < na → ∀ j, j < 5 → vB V i j = M.2 (23 + j) i
def VM (V : DV) (n na dr : Nat) (M : MSt) : Prop := VMf V n na dr M ∧ VMo V n M ∧ VMw V M ∧ VMr V M ∧ VMa V na M
theorem VMo.of {V U : DV} {n : Nat} {M N : MSt} (h : VMo V n M) (eV : vO U = vO V) (e : ∀ q, 4 ≤ q → q ≤ 16 → q ≠ 6 → N.2 q = M.2 q) : VMo U n N := by
  have h26 : ∀ q ∈ relV, 4 ≤ q.2 ∧ q.2 ≤ 16 ∧ q.2 ≠ 6 := by decide
  refine ⟨fun k hk q hq => ?_, fun k hk hne => ?_⟩
  · rw [eV, e q.2 (h26 q hq).1 (h26 q hq).2.1 (h26 q hq).2.2]; exact h.1 k hk q hq
  · rw [e 12 (by decide) (by decide) (by decide)] at hne
    rw [eV, e 13 (by decide) (by decide) (by decide), e 14 (by decide) (by decide) (by decide)]; exact h.2 k hk hne
theorem VMr.of {V U : DV} {M N : MSt} (h : VMr V M) (eC : vC U = vC V) (eR : vR U = vR V) (e : ∀ q, 17 ≤ q → q ≤ 21 → N.2 q = M.2 q) : VMr U N := fun k hk => by
  obtain ⟨h1, h2, h3⟩ := h k hk
  rw [eC, eR, e 17 (by decide) (by decide)]
  exact ⟨h1, h2, fun i hi j hj => by rw [e (18 + j) (by omega) (by omega)]; exact h3 i hi j hj⟩
theorem VMa.of {V U : DV} {na : Nat} {M N : MSt} (h : VMa V na M) (eB : vB U = vB V) (e : ∀ q, 23 ≤ q → q ≤ 27 → N.2 q = M.2 q) : VMa U na N := fun i hi j hj => by
  rw [eB, e (23 + j) (by omega) (by omega)]; exact h i hi j hj
theorem VMw.of {V U : DV} {M N : MSt} (h : VMw V M) (eW : vW U = vW V) (e : N.2 6 = M.2 6) : VMw U N := fun k hk v hv => by
  rw [eW, e]; exact h k hk v hv
section VMS
variable {V : DV} {n na dr : Nat} {M : MSt} {k : Nat}
theorem VM.nn (h : VM V n na dr M) : vN V = n := h.1.1
theorem VM.a (h : VM V n na dr M) : vA V = na := h.1.2.1
theorem VM.f2 (h : VM V n na dr M) : vF V 2 = nI dr := h.1.2.2.1
theorem VM.f3 (h : VM V n na dr M) : vF V 3 = M.1 1 := h.1.2.2.2.1
theorem VM.f4 (h : VM V n na dr M) : vF V 4 = M.1 2 := h.1.2.2.2.2.1
theorem VM.f5 (h : VM V n na dr M) : vF V 5 = nI n := h.1.2.2.2.2.2
theorem VM.o (h : VM V n na dr M) (hk : k < n) {q : Nat × Nat} (hq : q ∈ relV) : vO V k q.1 = M.2 q.2 k := h.2.1.1 k hk q hq
theorem VM.w (h : VM V n na dr M) (hk : k < 8) {v : Nat} (hv : v < 4) : vW V k v = M.2 6 (4 * k + v) := h.2.2.1 k hk v hv
theorem VM.c (h : VM V n na dr M) (hk : k < 8) : vC V k ≤ 5 ∧ M.2 17 k = nI (vC V k) := ⟨(h.2.2.2.1 k hk).1, (h.2.2.2.1 k hk).2.1⟩
theorem VM.r (h : VM V n na dr M) (hk : k < 8) {i j : Nat} (hi : i < vC V k) (hj : j < 4) : vR V k i j = M.2 (18 + j) (5 * k + i) := (h.2.2.2.1 k hk).2.2 i hi j hj
theorem VM.b (h : VM V n na dr M) {i j : Nat} (hi : i < na) (hj : j < 5) : vB V i j = M.2 (23 + j) i := h.2.2.2.2 i hi j hj
/-- what is drawn; the reason -/
theorem VM.draw (h : VM V n na dr M) {d2 : Nat} : VM (vsF V 2 (nI d2)) n na d2 M := ⟨⟨h.nn, h.a, rfl, h.f3, h.f4, h.f5⟩, h.2⟩
theorem VM.why (h : VM V n na dr M) {r : Int32} : VM (vsF V 10 r) n na dr M := ⟨⟨h.nn, h.a, h.f2, h.f3, h.f4, h.f5⟩, h.2⟩
theorem VM.hold (h : VM V n na dr M) {r : Int32} : VM (vsF V 4 r) n na dr (mS M 2 r) := ⟨⟨h.nn, h.a, h.f2, h.f3, rfl, h.f5⟩, h.2⟩
theorem VM.clock (h : VM V n na dr M) {r : Int32} : VM (vsF V 3 r) n na dr (mS M 1 r) := ⟨⟨h.nn, h.a, h.f2, rfl, h.f4, h.f5⟩, h.2⟩
theorem relV_inj : ∀ q ∈ relV, ∀ p ∈ relV, (q.1 = p.1 ↔ q.2 = p.2) := by decide
/-- a number of a switch, but of its layer -/
theorem VM.one (h : VM V n na dr M) {q : Nat × Nat} (hq : q ∈ relV) (h12 : q.2 ≠ 12) {v : Int32} : VM (vsO V k q.1 v) n na dr (mR M q.2 k v) := by
  have hb : ∀ q ∈ relV, (4 ≤ q.2 ∧ q.2 ≤ 16 ∧ q.2 ≠ 6 ∧ q.2 ≠ 13 ∧ q.2 ≠ 14) ∧ q.1 ≠ 8 ∧ q.1 ≠ 9 := by decide
  obtain ⟨⟨b1, b2, b3, b4, b5⟩, b8, b9⟩ := hb q hq
  obtain ⟨h1, ⟨o1, o2⟩, h3, h4, h5⟩ := h
  refine ⟨h1, ⟨fun i hi p hp => ?_, fun i hi hne => ?_⟩, h3.of rfl (up_o (by omega)), h4.of rfl rfl (fun z _ _ => up_o (by omega)), h5.of rfl (fun z _ _ => up_o (by omega))⟩
  · show u2 (vO V) k q.1 v i p.1 = va_up M.2 q.2 (upd (M.2 q.2) k v) p.2 i
    by_cases e : p.2 = q.2
    · have e1 : p.1 = q.1 := (relV_inj p hp q hq).mpr e
      by_cases ei : i = k
      · rw [e, e1, ei, u2_s, up_i]; simp [upd]
      · rw [u2_ne (fun z => ei z.1), e, up_i]
        simp only [upd, ei, if_false]
        rw [e1]
        exact o1 i hi q hq
    · rw [u2_ne (fun z => e ((relV_inj p hp q hq).mp z.2)), up_o e]
      exact o1 i hi p hp
  · rw [show (mR M q.2 k v).2 12 = M.2 12 from up_o (fun e => h12 e.symm)] at hne
    rw [show (mR M q.2 k v).2 13 = M.2 13 from up_o (fun e => b4 e.symm), show (mR M q.2 k v).2 14 = M.2 14 from up_o (fun e => b5 e.symm)]
    show u2 (vO V) k q.1 v i 8 = _ ∧ u2 (vO V) k q.1 v i 9 = _
    rw [u2_ne (fun z => b8 z.2.symm), u2_ne (fun z => b9 z.2.symm)]
    exact o2 i hi hne
theorem VM.place (h : VM V n na dr M) {la f t f2 t2 : Int32} (he : la ≠ -1 → f2 = f ∧ t2 = t) : VM (vsO (vsO (vsO V k 7 la) k 8 f) k 9 t) n na dr (mR (mR (mR M 12 k la) 13 k f2) 14 k t2) := by
  have hb : ∀ q ∈ relV, q.1 ≠ 8 ∧ q.1 ≠ 9 ∧ q.2 ≠ 13 ∧ q.2 ≠ 14 ∧ (q.1 = 7 ↔ q.2 = 12) := by decide
  obtain ⟨h1, ⟨o1, o2⟩, h3, h4, h5⟩ := h
  have ex : ∀ q, q ≠ 12 → q ≠ 13 → q ≠ 14 → (mR (mR (mR M 12 k la) 13 k f2) 14 k t2).2 q = M.2 q := fun q a1 a2 a3 => (up_o a3).trans ((up_o a2).trans (up_o a1))
  refine ⟨h1, ⟨fun i hi p hp => ?_, fun i hi hne => ?_⟩, h3.of rfl (ex 6 (by decide) (by decide) (by decide)), h4.of rfl rfl (fun z _ _ => ex z (by omega) (by omega) (by omega)), h5.of rfl (fun z _ _ => ex z (by omega) (by omega) (by omega))⟩
  · obtain ⟨b1, b2, b3, b4, b5⟩ := hb p hp
    show u2 (u2 (u2 (vO V) k 7 la) k 8 f) k 9 t i p.1 = _
    rw [u2_ne (fun z => b2 z.2), u2_ne (fun z => b1 z.2)]
    by_cases e : p.2 = 12
    · rw [e, b5.mpr e]
      show u2 (vO V) k 7 la i 7 = upd (M.2 12) k la i
      by_cases ei : i = k
      · rw [ei, u2_s]; simp [upd]
      · rw [u2_ne (fun z => ei z.1)]
        simp only [upd, ei, if_false]
        exact o1 i hi (7, 12) (by decide)
    · rw [ex _ e b3 b4, u2_ne (fun z => e (b5.mp z.2))]
      exact o1 i hi p hp
  · show u2 (u2 (u2 (vO V) k 7 la) k 8 f) k 9 t i 8 = upd (M.2 13) k f2 i ∧ u2 (u2 (u2 (vO V) k 7 la) k 8 f) k 9 t i 9 = upd (M.2 14) k t2 i
    have hne : upd (M.2 12) k la i ≠ -1 := hne
    by_cases ei : i = k
    · subst ei
      simp only [upd, if_true] at hne ⊢
      rw [u2_ne (fun z => absurd z.2 (by decide)), u2_s, u2_s]
      exact ⟨(he hne).1.symm, (he hne).2.symm⟩
    · simp only [upd, ei, if_false] at hne ⊢
      rw [u2_ne (fun z => ei z.1), u2_ne (fun z => ei z.1), u2_ne (fun z => ei z.1), u2_ne (fun z => ei z.1), u2_ne (fun z => ei z.1), u2_ne (fun z => ei z.1)]
      exact o2 i hi hne
theorem VM.weigh (h : VM V n na dr M) (hk : k < 8) {v : Nat} (hv : v < 4) (hv0 : v ≠ 0) {p w : Int32} : VM (vsW (vsW V k v p) k 0 w) n na dr (mR (mR M 6 (4 * k) w) 6 (4 * k + v) p) := by
  obtain ⟨h1, h2, h3, h4, h5⟩ := h
  have ex : ∀ q, q ≠ 6 → (mR (mR M 6 (4 * k) w) 6 (4 * k + v) p).2 q = M.2 q := fun q a1 => (up_o a1).trans (up_o a1)
  refine ⟨h1, h2.of rfl (fun z _ _ hz => ex z hz), fun i hi z hz => ?_, h4.of rfl rfl (fun z _ _ => ex z (by omega)), h5.of rfl (fun z _ _ => ex z (by omega))⟩
  show u2 (u2 (vW V) k v p) k 0 w i z = if 4 * i + z = 4 * k + v then p else if 4 * i + z = 4 * k then w else M.2 6 (4 * i + z)
  by_cases e0 : i = k ∧ z = 0
  · obtain ⟨rfl, rfl⟩ := e0
    rw [u2_s, if_neg (by omega), if_pos (by omega)]
  · rw [u2_ne e0]
    by_cases e1 : i = k ∧ z = v
    · obtain ⟨rfl, rfl⟩ := e1
      rw [u2_s, if_pos rfl]
    · rw [u2_ne e1, if_neg (by omega), if_neg (by omega)]
      exact h3 i hi z hz
theorem VM.rul (h : VM V n na dr M) (hk : k < 8) {m : Nat} {g : Nat → Nat → Int32} {N : MSt} (hm : m ≤ 5) (e1 : N.1 = M.1) (ex : ∀ q, q < 17 ∨ 21 < q → N.2 q = M.2 q) (e17 : ∀ i, N.2 17 i = if i = k then nI m else M.2 17 i) (hg : ∀ i, i < m → ∀ j, j < 4 → g i j = N.2 (18 + j) (5 * k + i)) (ho : ∀ q, 18 ≤ q → q ≤ 21 → ∀ i z, i ≠ k → z < 5 → N.2 q (5 * i + z) = M.2 q (5 * i + z)) : VM (vN V, vA V, vF V, vO V, vW V, va_up (vC V) k m, fun i => if i = k then g else vR V i, vB V) n na dr N := by
  obtain ⟨⟨f1, f2, f3, f4, f5, f6⟩, h2, h3, h4, h5⟩ := h
  refine ⟨⟨f1, f2, f3, by rw [e1]; exact f4, by rw [e1]; exact f5, f6⟩, h2.of rfl (fun z _ _ _ => ex z (Or.inl (by omega))), h3.of rfl (ex 6 (Or.inl (by decide))), fun i hi => ?_, h5.of rfl (fun z _ _ => ex z (Or.inr (by omega)))⟩
  show va_up (vC V) k m i ≤ 5 ∧ N.2 17 i = nI (va_up (vC V) k m i) ∧ ∀ z, z < va_up (vC V) k m i → ∀ j, j < 4 → (if i = k then g else vR V i) z j = N.2 (18 + j) (5 * i + z)
  rw [e17]
  by_cases e : i = k
  · subst e
    rw [up_s, if_pos rfl, if_pos rfl]
    exact ⟨hm, rfl, hg⟩
  · rw [up_ne e, if_neg e, if_neg e]
    obtain ⟨a1, a2, a3⟩ := h4 i hi
    exact ⟨a1, a2, fun z hz j hj => by rw [ho (18 + j) (by omega) (by omega) i z e (by omega)]; exact a3 z hz j hj⟩
theorem VM.add (h : VM V n na dr M) (hn : n < 8) {p0 p1 p2 : Int32} {g : Nat → Int32} {F : Nat → Int32} (hF : F 2 = vF V 2 ∧ F 3 = vF V 3 ∧ F 4 = vF V 4 ∧ F 5 = nI (n + 1)) (hg : g 0 = p0 ∧ g 1 = p1 ∧ g 2 = p2 ∧ g 3 = 0 ∧ g 4 = 1000 ∧ g 5 = 0 ∧ g 6 = M.1 1 ∧ g 7 = -1 ∧ g 10 = -1 ∧ g 11 = 0) (z11 : M.2 11 n = 0) (z8 : M.2 8 n = 0) (z16 : M.2 16 n = 0) : VM (n + 1, vA V, F, u1 (vO V) n g, u2 (vW V) n 0 1000, vC V, vR V, vB V) (n + 1) na dr (mAdd M n p0 p1 p2) := by
  obtain ⟨⟨f1, f2, f3, f4, f5, f6⟩, ⟨o1, o2⟩, h3, h4, h5⟩ := h
  obtain ⟨g0, g1, g2, g3, g4, g5, g6, g7, g10, g11⟩ := hg
  obtain ⟨k2, k3, k4, k5⟩ := hF
  refine ⟨⟨rfl, f2, k2.trans f3, k3.trans f4, k4.trans f5, k5⟩, ⟨fun i hi q hq => ?_, fun i hi hne => ?_⟩, fun i hi v hv => ?_, h4.of rfl rfl (fun z h1 h2 => ?_), h5.of rfl (fun z h1 h2 => ?_)⟩
  · show u1 (vO V) n g i q.1 = (mAdd M n p0 p1 p2).2 q.2 i
    by_cases e : i = n
    · subst e
      rw [u1_s]
      simp only [relV, List.mem_cons, List.not_mem_nil, or_false] at hq
      rcases hq with rfl | rfl | rfl | rfl | rfl | rfl | rfl | rfl | rfl | rfl
      · exact g0.trans (show p0 = upd (M.2 4) i p0 i by simp [upd])
      · exact g1.trans (show p1 = upd (M.2 5) i p1 i by simp [upd])
      · exact g2.trans (show p2 = upd (M.2 10) i p2 i by simp [upd])
      · exact g3.trans z11.symm
      · exact g4.trans (show (1000 : Int32) = upd (M.2 7) i 1000 i by simp [upd])
      · exact g5.trans z8.symm
      · exact g6.trans (show M.1 1 = upd (M.2 9) i (M.1 1) i by simp [upd])
      · exact g7.trans (show (-1 : Int32) = upd (M.2 12) i (-1) i by simp [upd])
      · exact g10.trans (show (-1 : Int32) = upd (M.2 15) i (-1) i by simp [upd])
      · exact g11.trans z16.symm
    · rw [u1_a e]
      have hn9 : i < n := by omega
      have h9 := o1 i hn9 q hq
      simp only [relV, List.mem_cons, List.not_mem_nil, or_false] at hq
      rcases hq with rfl | rfl | rfl | rfl | rfl | rfl | rfl | rfl | rfl | rfl
      · exact h9.trans (show M.2 4 i = upd (M.2 4) n p0 i by simp [upd, e])
      · exact h9.trans (show M.2 5 i = upd (M.2 5) n p1 i by simp [upd, e])
      · exact h9.trans (show M.2 10 i = upd (M.2 10) n p2 i by simp [upd, e])
      · exact h9
      · exact h9.trans (show M.2 7 i = upd (M.2 7) n 1000 i by simp [upd, e])
      · exact h9
      · exact h9.trans (show M.2 9 i = upd (M.2 9) n (M.1 1) i by simp [upd, e])
      · exact h9.trans (show M.2 12 i = upd (M.2 12) n (-1) i by simp [upd, e])
      · exact h9.trans (show M.2 15 i = upd (M.2 15) n (-1) i by simp [upd, e])
      · exact h9
  · have hne : upd (M.2 12) n (-1) i ≠ -1 := hne
    show u1 (vO V) n g i 8 = M.2 13 i ∧ u1 (vO V) n g i 9 = M.2 14 i
    by_cases e : i = n
    · subst e
      simp only [upd, if_true] at hne
      exact absurd rfl hne
    · simp only [upd, e, if_false] at hne
      rw [u1_a e, u1_a e]
      exact o2 i (by omega) hne
  · show u2 (vW V) n 0 1000 i v = upd (M.2 6) (4 * n) 1000 (4 * i + v)
    by_cases e : i = n ∧ v = 0
    · obtain ⟨rfl, rfl⟩ := e
      rw [u2_s]; simp [upd]
    · rw [u2_ne e]
      simp only [upd, show ¬ 4 * i + v = 4 * n by omega, if_false]
      exact h3 i hi v hv
  · exact (up_o (show z ≠ 15 by omega)).trans ((up_o (show z ≠ 12 by omega)).trans ((up_o (show z ≠ 10 by omega)).trans ((up_o (show z ≠ 9 by omega)).trans ((up_o (show z ≠ 7 by omega)).trans ((up_o (show z ≠ 6 by omega)).trans ((up_o (show z ≠ 5 by omega)).trans (up_o (show z ≠ 4 by omega))))))))
  · exact (up_o (show z ≠ 15 by omega)).trans ((up_o (show z ≠ 12 by omega)).trans ((up_o (show z ≠ 10 by omega)).trans ((up_o (show z ≠ 9 by omega)).trans ((up_o (show z ≠ 7 by omega)).trans ((up_o (show z ≠ 6 by omega)).trans ((up_o (show z ≠ 5 by omega)).trans (up_o (show z ≠ 4 by omega))))))))
theorem VM.arm (h : VM V n na dr M) {j v : Nat} {u : Int32} {g : Nat → Int32} (hg : g 0 = nI j ∧ g 1 = u ∧ g 2 = nI v ∧ g 3 = 0 ∧ g 4 = 0) (z26 : M.2 26 na = 0) (z27 : M.2 27 na = 0) : VM (vN V, vA V + 1, vF V, vO V, vW V, vC V, vR V, u1 (vB V) (vA V) g) n (na + 1) dr (mArm M na j u v) := by
  have ha := h.a
  obtain ⟨⟨f1, f2, f3, f4, f5, f6⟩, h2, h3, h4, h5⟩ := h
  obtain ⟨g0, g1, g2, g3, g4⟩ := hg
  have ex : ∀ q, q ≠ 23 → q ≠ 24 → q ≠ 25 → (mArm M na j u v).2 q = M.2 q := fun q a1 a2 a3 => (up_o a3).trans ((up_o a2).trans (up_o a1))
  refine ⟨⟨f1, by show vA V + 1 = na + 1; rw [ha], f3, f4, f5, f6⟩, h2.of rfl (fun z _ _ _ => ex z (by omega) (by omega) (by omega)), h3.of rfl (ex 6 (by decide) (by decide) (by decide)), h4.of rfl rfl (fun z _ _ => ex z (by omega) (by omega) (by omega)), fun i hi q hq => ?_⟩
  show u1 (vB V) (vA V) g i q = (mArm M na j u v).2 (23 + q) i
  rw [ha]
  have hq9 : q = 0 ∨ q = 1 ∨ q = 2 ∨ q = 3 ∨ q = 4 := by omega
  by_cases e : i = na
  · subst e
    rw [u1_s]
    rcases hq9 with rfl | rfl | rfl | rfl | rfl
    · exact g0.trans (show nI j = upd (M.2 23) i (nI j) i by simp [upd])
    · exact g1.trans (show u = upd (M.2 24) i u i by simp [upd])
    · exact g2.trans (show nI v = upd (M.2 25) i (nI v) i by simp [upd])
    · exact g3.trans z26.symm
    · exact g4.trans z27.symm
  · rw [u1_a e]
    have h9 := h5 i (by omega) q hq
    rcases hq9 with rfl | rfl | rfl | rfl | rfl
    · exact h9.trans (show M.2 23 i = upd (M.2 23) na (nI j) i by simp [upd, e])
    · exact h9.trans (show M.2 24 i = upd (M.2 24) na u i by simp [upd, e])
    · exact h9.trans (show M.2 25 i = upd (M.2 25) na (nI v) i by simp [upd, e])
    · exact h9
    · exact h9
theorem VM.act (h : VM V n na dr M) {B : Nat → Nat → Int32} {u w : Int32} (hB : ∀ i, i < na → ∀ j, j < 5 → B i j = (mAct M na u w).2 (23 + j) i) : VM (vN V, vA V, vF V, vO V, vW V, vC V, vR V, B) n na dr (mAct M na u w) := by
  obtain ⟨h1, h2, h3, h4, h5⟩ := h
  have ex : ∀ q, q ≠ 26 → q ≠ 27 → (mAct M na u w).2 q = M.2 q := fun q a1 a2 => (up_o a2).trans (up_o a1)
  exact ⟨h1, h2.of rfl (fun z _ _ _ => ex z (by omega) (by omega)), h3.of rfl (ex 6 (by decide) (by decide)), h4.of rfl rfl (fun z _ _ => ex z (by omega) (by omega)), hB⟩
end VMS
