/-! Desk: what is done; where it begins -/
def ARow (T : Rows) (u w : Int32) (na i : Nat) (B0 B : Nat → Nat → Int32) : Prop := ∀ z, z < na → B z 0 = B0 z 0 ∧ B z 1 = B0 z 1 ∧ B z 2 = B0 z 2 ∧ B z 3 = rA26 T u w i z ∧ B z 4 = rA27 T u i z
theorem ARow.y {T : Rows} {u w v : Int32} {na i : Nat} {B0 B : Nat → Nat → Int32} (h : ARow T u w na i B0 B) (c : T 24 i = u) (hi : i < na) (hv : v = B i 3 + w) : ARow T u w na (i + 1) B0 (u2 (u2 B i 3 v) i 4 1) := fun z hz => by
  obtain ⟨h0, h1, h2, h3, h4⟩ := h z hz
  have e3 := congrFun (rA26_y (w := w) c) z
  have e4 := congrFun (rA27_y (T := T) (u := u) (j := i) c) z
  by_cases e : z = i
  · subst e
    refine ⟨(u2_k (by decide)).trans ((u2_k (by decide)).trans h0), (u2_k (by decide)).trans ((u2_k (by decide)).trans h1), (u2_k (by decide)).trans ((u2_k (by decide)).trans h2), (u2_k (by decide)).trans (u2_s.trans ?_), u2_s.trans ?_⟩
    · rw [← e3, hv, h3]; simp [upd]
    · rw [← e4]; simp [upd]
  · refine ⟨(u2_a e).trans ((u2_a e).trans h0), (u2_a e).trans ((u2_a e).trans h1), (u2_a e).trans ((u2_a e).trans h2), (u2_a e).trans ((u2_a e).trans (h3.trans ?_)), (u2_a e).trans ((u2_a e).trans (h4.trans ?_))⟩
    · rw [← e3]; simp [upd, e]
    · rw [← e4]; simp [upd, e]
theorem ARow.n {T : Rows} {u w : Int32} {na i : Nat} {B0 B : Nat → Nat → Int32} (h : ARow T u w na i B0 B) (c : ¬ T 24 i = u) : ARow T u w na (i + 1) B0 B := fun z hz => by
  rw [rA26_n c, rA27_n c]; exact h z hz
theorem ARow.vm {n na dr : Nat} {M : MSt} {u w : Int32} {V : DV} {B : Nat → Nat → Int32} (h : ARow M.2 u w na na (vB V) B) (hvm : VM V n na dr M) : ∀ i, i < na → ∀ j, j < 5 → B i j = (mAct M na u w).2 (23 + j) i := fun i hi j hj => by
  obtain ⟨h0, h1, h2, h3, h4⟩ := h i hi
  rcases (show j = 0 ∨ j = 1 ∨ j = 2 ∨ j = 3 ∨ j = 4 by omega) with rfl | rfl | rfl | rfl | rfl
  · exact h0.trans (hvm.b hi (j := 0) (by decide))
  · exact h1.trans (hvm.b hi (j := 1) (by decide))
  · exact h2.trans (hvm.b hi (j := 2) (by decide))
  · exact h3
  · exact h4
theorem J38.mono {d x b ar ak D0 c0 s0 n0 D1 c1 s1 n1 : Nat} {T S : Pool} (h : J38 d x b ar ak D0 c0 s0 n0 T S) (h1 : D0 ≤ D1) (h2 : c0 ≤ c1) (h3 : s0 ≤ s1) (h4 : n1 ≤ n0) : J38 d x b ar ak D1 c1 s1 n1 T S := by
  obtain ⟨n, na, dr, cM, sB, Ad, fF, fO, fW, fC, fR, fB, M, a1, a2, a3, a4, r⟩ := h
  exact ⟨n, na, dr, cM, sB, Ad, fF, fO, fW, fC, fR, fB, M, by omega, by omega, by omega, by omega, r⟩
theorem J38.o {d x b ar ak D0 c0 s0 n0 : Nat} {T S : Pool} (h : J38 d x b ar ak D0 c0 s0 n0 T S) : isO T d 23 := by
  obtain ⟨n, na, dr, cM, sB, Ad, fF, fO, fW, fC, fR, fB, M, a1, a2, a3, a4, dk, r⟩ := h
  exact dk.o
abbrev mZ : MSt := (fun _ => 0, fun _ _ => 0)
abbrev P0 : Pool := ([], fun _ => 0, fun _ => 0, fun _ _ => 0, fun _ _ => none, fun _ _ => 0, fun _ _ => 0, fun _ _ => none)
theorem GG.init {x ar ak : Nat} (h1 : ar ∉ gL (pW P0 x 5 0)) (h2 : ak ∉ gL (pQ (pW (pW P0 x 5 0) ar 22 8) x 0 (some ar))) : GG 0 0 (pQ (pI (pI (pW (pQ (pW (pW P0 x 5 0) ar 22 8) x 0 (some ar)) ak 1 0) ak 3 (-1)) ak 4 (-1)) x 1 (some ak)) mZ x ar ak := by
  have hne : x ≠ ar := ne_new (S := pW P0 x 5 0) (isO_q (S := P0) (ki := 5) (n := 0)).1 h1
  have hnk : x ≠ ak := ne_new (S := pQ (pW (pW P0 x 5 0) ar 22 8) x 0 (some ar)) (List.mem_append_left _ (isO_q (S := P0) (ki := 5) (n := 0)).1) h2
  obtain ⟨S, eS⟩ : ∃ z, z = pQ (pI (pI (pW (pQ (pW (pW P0 x 5 0) ar 22 8) x 0 (some ar)) ak 1 0) ak 3 (-1)) ak 4 (-1)) x 1 (some ak) := ⟨_, rfl⟩
  rw [← eS]
  have hx1 : isO (pW P0 x 5 0) x 5 := isO_q (S := P0) (ki := 5) (n := 0)
  have hxT : isO (pQ (pW (pW P0 x 5 0) ar 22 8) x 0 (some ar)) x 5 := isO_new (S := pW P0 x 5 0) (ki := 22) (n := 8) hx1 h1
  have haT : isA (pQ (pW (pW P0 x 5 0) ar 22 8) x 0 (some ar)) ar 22 8 := isA_q (S := pW P0 x 5 0) (ki := 22) (n := 8)
  have ho : isO S x 5 := by rw [eS]; exact isO_new (S := (pQ (pW (pW P0 x 5 0) ar 22 8) x 0 (some ar))) (ki := 1) (n := 0) hxT h2
  have har : isA S ar 22 8 := by rw [eS]; exact isA_new (S := (pQ (pW (pW P0 x 5 0) ar 22 8) x 0 (some ar))) (ki := 1) (n := 0) haT h2
  have hq0 : gQ S x 0 = some ar := by
    rw [eS]
    have e1 : gQ (pW (pQ (pW (pW P0 x 5 0) ar 22 8) x 0 (some ar)) ak 1 0) x 0 = gQ (pQ (pW (pW P0 x 5 0) ar 22 8) x 0 (some ar)) x 0 := gQ_new hxT.1 h2
    have e2 : gQ (pQ (pW (pW P0 x 5 0) ar 22 8) x 0 (some ar)) x 0 = some ar := show u2 (gQ (pW (pW P0 x 5 0) ar 22 8)) x 0 (some ar) x 0 = some ar from u2_s
    exact (show u2 (gQ (pW (pQ (pW (pW P0 x 5 0) ar 22 8) x 0 (some ar)) ak 1 0)) x 1 (some ak) x 0 = some ar from (u2_k (by decide)).trans (e1.trans e2))
  have hn : ∀ j, j < 8 → gP S ar j = none := by
    intro j _
    rw [eS]
    have e1 : gP (pW (pQ (pW (pW P0 x 5 0) ar 22 8) x 0 (some ar)) ak 1 0) ar j = gP (pQ (pW (pW P0 x 5 0) ar 22 8) x 0 (some ar)) ar j := gP_new haT.1 h2
    exact (show gP (pW (pQ (pW (pW P0 x 5 0) ar 22 8) x 0 (some ar)) ak 1 0) ar j = none from e1.trans (gP_q (S := pW P0 x 5 0) (ki := 22) (n := 8)))
  have hnum : ∀ k, gI S x k = 0 := by
    intro k
    rw [eS]
    have e1 : gI (pW (pQ (pW (pW P0 x 5 0) ar 22 8) x 0 (some ar)) ak 1 0) x k = gI (pQ (pW (pW P0 x 5 0) ar 22 8) x 0 (some ar)) x k := gI_new hxT.1 h2
    have e2 : gI (pQ (pW (pW P0 x 5 0) ar 22 8) x 0 (some ar)) x k = gI (pW P0 x 5 0) x k := gI_new (S := pW P0 x 5 0) (ki := 22) (n := 8) hx1.1 h1
    have e3 : gI (pW P0 x 5 0) x k = 0 := gI_q (S := P0) (ki := 5) (n := 0)
    exact (show u2 (u2 (gI (pW (pQ (pW (pW P0 x 5 0) ar 22 8) x 0 (some ar)) ak 1 0)) ak 3 (-1)) ak 4 (-1) x k = 0 from (u2_a hnk).trans ((u2_a hnk).trans (e1.trans (e2.trans e3))))
  have hq1 : gQ S x 1 = some ak := by rw [eS]; exact (show u2 _ x 1 (some ak) x 1 = some ak from u2_s)
  have hak : isO S ak 1 := by rw [eS]; exact isO_q (S := pQ (pW (pW P0 x 5 0) ar 22 8) x 0 (some ar)) (ki := 1) (n := 0)
  exact ⟨⟨⟨ho, hq0, hq1, hak⟩, ⟨har, fun k hk a ha => by rw [hn k hk] at ha; cases ha⟩, ⟨by omega, hnum 2⟩, ⟨by omega, hnum 3⟩, fun k hk => absurd hk (by omega), fun k _ hk => hn k hk, fun k hk a ha => (by rw [hn k hk] at ha; cases ha), hnum 4, hnum 5⟩,
    ⟨fun i hi => absurd hi (by omega), fun i j a b hi hj ha => (by rw [hn i hi] at ha; cases ha), fun i _ => ⟨rfl, rfl, rfl, rfl⟩, fun _ k hk => absurd hk (by omega)⟩,
    ⟨fun i hi => absurd hi (by omega), fun i j a b hi hj ha => (by rw [hn i hi] at ha; cases ha), fun k q hk => absurd hk (by omega), fun i hi => absurd hi (by omega), fun k hk => absurd hk (by omega), fun k _ => ⟨rfl, rfl⟩⟩,
    ⟨⟨fun _ => 0, by omega, rfl, by omega, rfl, fun i hi => absurd hi (by omega)⟩, fun i hi => absurd hi (by omega), fun i _ => ⟨rfl, rfl, rfl, rfl, rfl, rfl⟩⟩, fun i hi => absurd hi (by omega)⟩
theorem MK.init : MK 0 0 0 0 mZ := ⟨⟨rfl, nB.z⟩, fun i hi => absurd hi (by omega), ⟨fun i hi => absurd hi (by omega), fun i j hi => absurd hi (by omega)⟩, fun i hi => absurd hi (by omega), fun k hk => absurd hk (by omega)⟩
