/-! who gets what, of Desk's rows and of the abstract state -/
/-- all old cells stay as they were, but for Desk's reason -/
def ExtD (d : Nat) (T U : Pool) : Prop := ∀ b, b ∈ gL T → (b ∈ gL U ∧ gK U b = gK T b ∧ gN U b = gN T b) ∧ (∀ k, ¬ (b = d ∧ k = 10) → gI U b k = gI T b k) ∧ (∀ k, gQ U b k = gQ T b k) ∧ (∀ k, gR U b k = gR T b k) ∧ ∀ k, gP U b k = gP T b k
theorem ExtD.rf {d : Nat} {T : Pool} : ExtD d T T := fun _ hb => ⟨⟨hb, rfl, rfl⟩, fun _ _ => rfl, fun _ => rfl, fun _ => rfl, fun _ => rfl⟩
theorem ExtD.tr {d : Nat} {T U Z : Pool} (h : ExtD d T U) (g : ExtD d U Z) : ExtD d T Z := fun b hb => by
  obtain ⟨⟨h1, h2, h3⟩, h4, h5, h6, h7⟩ := h b hb
  obtain ⟨⟨g1, g2, g3⟩, g4, g5, g6, g7⟩ := g b h1
  exact ⟨⟨g1, g2.trans h2, g3.trans h3⟩, fun k hk => (g4 k hk).trans (h4 k hk), fun k => (g5 k).trans (h5 k), fun k => (g6 k).trans (h6 k), fun k => (g7 k).trans (h7 k)⟩
theorem ExtD.new {d : Nat} {T : Pool} {q ki n : Nat} (hq : q ∉ gL T) : ExtD d T (pW T q ki n) := fun b hb => ⟨⟨List.mem_append_left _ hb, up_ne (ne_new hb hq), up_ne (ne_new hb hq)⟩, fun _ _ => gI_new hb hq, fun _ => gQ_new hb hq, fun _ => gR_new hb hq, fun _ => gP_new hb hq⟩
theorem ExtD.why {d : Nat} {T : Pool} {v : Int32} : ExtD d T (pI T d 10 v) := fun b hb => ⟨⟨hb, rfl, rfl⟩, fun k hk => u2_ne hk, fun _ => rfl, fun _ => rfl, fun _ => rfl⟩
theorem DK.extD {T U : Pool} {d x b : Nat} {A : DA} {V : DV} (h : DK T d x b A V) (e : ExtD d T U) : DK U d x b A (vsF V 10 (gI U d 10)) := by
  obtain ⟨⟨a1, a2, a3, a4, a5, a6, a7, a8⟩, ⟨b1, b2, b3, b4, b5, b6, b7, b8⟩, ⟨c1, c2⟩, ⟨d1, d2⟩, e1, f1, f2⟩ := h
  have ea : ∀ {a k n : Nat}, isA T a k n → isA U a k n := fun {a k n} ho => ⟨(e a ho.1).1.1, (e a ho.1).1.2.1.trans ho.2.1, (e a ho.1).1.2.2.trans ho.2.2⟩
  have ed := e d a1.1
  refine ⟨⟨⟨ed.1.1, ed.1.2.1.trans a1.2⟩, (ed.2.2.1 0).trans a2, (ed.2.2.1 1).trans a3, (ed.2.2.1 6).trans a4, (ed.2.2.1 7).trans a5, (ed.2.2.1 8).trans a6, (ed.2.2.1 9).trans a7, fun k => ?_⟩, ⟨ea b1, ea b2, ea b3, ea b4, b5, b6, b7, b8⟩, ⟨fun k hk => ?_, c2⟩, ⟨fun k hk => ?_, d2⟩, fun k hk => ?_, fun i hi => ?_, f2⟩
  · show gI U d k = upd (vF V) 10 (gI U d 10) k
    by_cases hk : k = 10
    · subst hk; simp [upd]
    · simp only [upd, hk, if_false]; exact (ed.2.1 k (fun z => hk z.2)).trans (a8 k)
  · obtain ⟨g1, g2, g3⟩ := c1 k hk
    exact ⟨((e _ b1.1).2.2.2.2 k).trans g1, ea g2, fun j hj => ((e _ g2.1).2.2.2.1 j).trans (g3 j hj)⟩
  · obtain ⟨g1, g2, g3⟩ := d1 k hk
    exact ⟨((e _ b2.1).2.2.2.2 k).trans g1, ea g2, fun j hj => ((e _ g2.1).2.2.2.1 j).trans (g3 j hj)⟩
  · obtain ⟨g1, g2, g3⟩ := e1 k hk
    refine ⟨((e _ b3.1).2.2.2.2 k).trans g1, ea g2, fun i hi => ?_⟩
    obtain ⟨k1, k2, k3⟩ := g3 i hi
    exact ⟨((e _ g2.1).2.2.2.2 i).trans k1, ea k2, fun j hj => ((e _ k2.1).2.2.2.1 j).trans (k3 j hj)⟩
  · obtain ⟨g1, g2, g3⟩ := f1 i hi
    exact ⟨((e _ b4.1).2.2.2.2 i).trans g1, ea g2, fun j hj => ((e _ g2.1).2.2.2.1 j).trans (g3 j hj)⟩
/-- the weights of a switch: four numbers, 1000 in all -/
def WG (n : Nat) (M : MSt) : Prop := ∀ k, k < n → ∃ w0 w1 w2 w3 : Nat, w0 + w1 + w2 + w3 = 1000 ∧ M.2 6 (4 * k + 0) = nI w0 ∧ M.2 6 (4 * k + 1) = nI w1 ∧ M.2 6 (4 * k + 2) = nI w2 ∧ M.2 6 (4 * k + 3) = nI w3
theorem GG.wg {n na : Nat} {S : Pool} {M : MSt} {x ar ak : Nat} (h : GG n na S M x ar ak) : WG n M := fun k hk => by
  obtain ⟨a, ha⟩ := h.c.row k hk
  obtain ⟨w0, b0, -, e0⟩ := h.l.wt hk ha (v := 0) (by decide)
  obtain ⟨w1, b1, -, e1⟩ := h.l.wt hk ha (v := 1) (by decide)
  obtain ⟨w2, b2, -, e2⟩ := h.l.wt hk ha (v := 2) (by decide)
  obtain ⟨w3, b3, -, e3⟩ := h.l.wt hk ha (v := 3) (by decide)
  have hs := h.r.acc hk
  rw [rAcc_4, show M.2 6 (4 * k) = nI w0 from e0, e1, e2, e3, nI_add, nI_add, nI_add] at hs
  exact ⟨w0, w1, w2, w3, (nI_eq (a := w0 + w1 + w2 + w3) (b := 1000) (by omega) (by omega)).mp hs, e0, e1, e2, e3⟩
theorem rArm_y {T : Rows} {one u : Int32} {i : Nat} : ∀ c k, k ≤ i → i < k + c → T 23 i = one → T 24 i = u → (∀ j, k ≤ j → j < i → ¬ (T 23 j = one ∧ T 24 j = u)) → rArm T one u c k = nI i := by
  intro c
  induction c with
  | zero => intro k h1 h2; omega
  | succ c ih =>
    intro k h1 h2 e1 e2 hall
    by_cases e : k = i
    · subst e
      unfold rArm
      rw [if_pos e1, if_pos e2]
    · have h9 := hall k (Nat.le_refl _) (by omega)
      have hi := ih (k + 1) (by omega) (by omega) e1 e2 (fun j a1 a2 => hall j (by omega) a2)
      unfold rArm
      by_cases z1 : T 23 k = one
      · rw [if_pos z1, if_neg (fun z2 => h9 ⟨z1, z2⟩)]; exact hi
      · rw [if_neg z1]; exact hi
theorem rArm_n {T : Rows} {one u : Int32} : ∀ c k, (∀ j, k ≤ j → j < k + c → ¬ (T 23 j = one ∧ T 24 j = u)) → rArm T one u c k = -1 := by
  intro c
  induction c with
  | zero => intro k _; rfl
  | succ c ih =>
    intro k hall
    have h9 := hall k (Nat.le_refl _) (by omega)
    have hi := ih (k + 1) (fun j a1 a2 => hall j (by omega) (by omega))
    unfold rArm
    by_cases z1 : T 23 k = one
    · rw [if_pos z1, if_neg (fun z2 => h9 ⟨z1, z2⟩)]; exact hi
    · rw [if_neg z1]; exact hi
theorem rHold_d {T : Rows} {i : Nat} {f g : Int32} {P : Nat → Bool} : ∀ c k, (∀ j, k ≤ j → j < k + c → P j = rMeets T (5 * i + j) f g) → dHo P c k = rHold T i f g c k := by
  intro c
  induction c with
  | zero => intro k _; rfl
  | succ c ih =>
    intro k h
    unfold dHo rHold
    rw [h k (Nat.le_refl _) (by omega), ih (k + 1) (fun j a1 a2 => h j (by omega) (by omega))]
theorem dMt_r {T : Rows} {r : Nat → Int32} {f g : Int32} {k : Nat} (h0 : r 0 = T 18 k) (h1 : r 1 = T 19 k) (h2 : r 2 = T 20 k) : dMt r f g = rMeets T k f g := by
  unfold dMt rMeets; rw [h0, h1, h2]
theorem VM.hold_eq {V : DV} {n na dr k rc : Nat} {M : MSt} {f g : Int32} (h : VM V n na dr M) (hk : k < 8) (hrc : vC V k = rc) : dHo (fun i => dMt (vR V k i) f g) rc 0 = rHold M.2 k f g rc 0 :=
  rHold_d rc 0 (fun j _ hj => dMt_r (h.r hk (by omega) (j := 0) (by decide)) (h.r hk (by omega) (j := 1) (by decide)) (h.r hk (by omega) (j := 2) (by decide)))
theorem spl_n {T : Rows} {i lf w0 w1 w2 w3 : Nat} (e0 : T 6 (4 * i + 0) = nI w0) (e1 : T 6 (4 * i + 1) = nI w1) (e2 : T 6 (4 * i + 2) = nI w2) (e3 : T 6 (4 * i + 3) = nI w3) (hs : w0 + w1 + w2 + w3 = 1000) (hl : lf < 1000) : rSplit T i (nI lf) 4 0 (T 6 (4 * i)) = if lf < w0 then nI 0 else if lf < w0 + w1 then nI 1 else if lf < w0 + w1 + w2 then nI 2 else nI 3 := by
  have e0 : T 6 (4 * i) = nI w0 := e0
  have z : ∀ a, a ≤ 1000 → ((nI lf < nI a) ↔ lf < a) := fun a ha => nI_ltI (by omega) (by omega)
  unfold rSplit
  rw [e0]
  by_cases h0 : lf < w0
  · rw [if_pos ((z _ (by omega)).mpr h0), if_pos h0]
  · rw [if_neg (fun q => h0 ((z _ (by omega)).mp q)), if_neg h0]
    unfold rSplit
    rw [show T 6 (4 * i + (0 + 1)) = nI w1 from e1, nI_add]
    by_cases h1 : lf < w0 + w1
    · rw [if_pos ((z _ (by omega)).mpr h1), if_pos h1]
    · rw [if_neg (fun q => h1 ((z _ (by omega)).mp q)), if_neg h1]
      unfold rSplit
      rw [show T 6 (4 * i + (0 + 1 + 1)) = nI w2 from e2, nI_add]
      by_cases h2 : lf < w0 + w1 + w2
      · rw [if_pos ((z _ (by omega)).mpr h2), if_pos h2]
      · rw [if_neg (fun q => h2 ((z _ (by omega)).mp q)), if_neg h2]
        unfold rSplit
        rw [show T 6 (4 * i + (0 + 1 + 1 + 1)) = nI w3 from e3, nI_add]
        rw [if_pos ((z _ (by omega)).mpr (by omega))]
theorem far_n {T : Rows} {i sh sp z ck : Nat} {clk : Int32} (e7 : T 7 i = nI sh) (e8 : T 8 i = nI sp) (e9 : T 9 i = nI z) (ec : clk = nI ck) (hsh : sh ≤ 1000) (hsp : sp ≤ 1000) (hz : z ≤ ck) (hc : ck < 1000000) : rFar T i clk = nI (min 1000 (sh + sp * (ck - z))) := by
  have hb : sp * (ck - z) ≤ 1000 * 1000000 := Nat.mul_le_mul hsp (by omega)
  unfold rFar
  rw [e7, e8, e9, ec, pk_sub hz, nL_i (by omega), nL_i (by omega), nL_i (by omega), nL_mul, nL_add]
  generalize sp * (ck - z) = y at hb
  unfold kMin
  have h1 : (nL (sh + y) < (1000 : Int64)) ↔ sh + y < 1000 := by
    rw [Int64.lt_iff_toInt_lt, show (nL (sh + y)).toInt = ((sh + y : Nat) : Int) from Int64.toInt_ofNat_of_lt (by omega), show (1000 : Int64).toInt = 1000 from rfl]
    omega
  by_cases h : sh + y < 1000
  · rw [if_pos (h1.mpr h), nL_32]
    exact congrArg nI (by omega)
  · rw [if_neg (fun q => h (h1.mp q)), show (1000 : Int64).toInt32 = nI 1000 from rfl]
    exact congrArg nI (by omega)
theorem kMax_0n {a : Nat} (h : a < 2 ^ 31) : kMaxI 0 (nI a) = nI a := by
  unfold kMaxI
  by_cases h0 : (0 : Int32) < nI a
  · rw [if_pos h0]
  · have : a = 0 := by
      have h1 : ¬ (0 : Nat) < a := fun q => h0 ((nI_ltI (a := 0) (b := a) (by omega) h).mpr q)
      omega
    rw [if_neg h0, this]; rfl
theorem kIn_cut {a f t : Nat} (ha : a < 1000) (hf : f ≤ 1000) (ht : t ≤ 1000) : kIn (nI a) (nI f) (nI t - 1) = 0 ↔ ¬ (f ≤ a ∧ a < t) := by
  unfold kIn
  have z1 : (nI a < nI f) ↔ a < f := nI_ltI (by omega) (by omega)
  have z2 : (nI t - 1 < nI a) ↔ t < a + 1 := by
    rw [Int32.lt_iff_toInt_lt, show (1 : Int32) = nI 1 from rfl, pk_sub_toInt (by omega) (by omega), nI_toInt (by omega)]
    omega
  by_cases h1 : a < f
  · rw [if_pos (z1.mpr h1)]
    exact ⟨fun _ => by omega, fun _ => rfl⟩
  · rw [if_neg (fun q => h1 (z1.mp q))]
    by_cases h2 : t < a + 1
    · rw [if_pos (z2.mpr h2)]
      exact ⟨fun _ => by omega, fun _ => rfl⟩
    · rw [if_neg (fun q => h2 (z2.mp q))]
      exact ⟨fun q => absurd q (by decide), fun q => absurd ⟨by omega, by omega⟩ q⟩
section KCC
variable {p : Program} {l : Launch} {e : Env} {R : Room} {s : State} {m : MethodId} {args : Array Value} {below : List Frame} {meth : Method} {c : Code} {H0 : Heap} {locs0 : List Loc} {cells0 cells slots : Nat} {Q : State → Prop}
/-- several ways come together at pc, with cells of their own -/
theorem kz_cutC (pc : Nat) (I : Nat → Heap → List Loc → Array Slot → Prop) {g : JFrame} {slots0 : Nat} (g0 : (∀ (cl : Nat) (H : Heap) (locs : List Loc) (ls : Array Slot), I cl H locs ls → W p l e R s m args below meth c H locs cl slots Q (F0 m pc ls [])) → W p l e R s m args below meth c H0 locs0 cells0 slots0 Q g) (g1 : ∀ (cl : Nat) (H : Heap) (locs : List Loc) (ls : Array Slot), I cl H locs ls → W p l e R s m args below meth c H locs cl slots Q (F0 m pc ls [])) : W p l e R s m args below meth c H0 locs0 cells0 slots0 Q g := g0 g1
/-- a loop with its head at pc, whose rounds make cells -/
theorem kz_loopC (pc : Nat) (I : Nat → Nat → Nat → Heap → List Loc → Array Slot → Prop) (h : ∀ n, (∀ k, k < n → ∀ (cl sl : Nat) (H : Heap) (locs : List Loc) (ls : Array Slot), I k cl sl H locs ls → W p l e R s m args below meth c H locs cl sl Q (F0 m pc ls [])) → ∀ (cl sl : Nat) (H : Heap) (locs : List Loc) (ls : Array Slot), I n cl sl H locs ls → W p l e R s m args below meth c H locs cl sl Q (F0 m pc ls [])) {ls0 : Array Slot} {n : Nat} (h0 : I n cells slots H0 locs0 ls0) : W p l e R s m args below meth c H0 locs0 cells slots Q (F0 m pc ls0 []) := by
  have key : ∀ n, ∀ (cl sl : Nat) (H : Heap) (locs : List Loc) (ls : Array Slot), I n cl sl H locs ls → W p l e R s m args below meth c H locs cl sl Q (F0 m pc ls []) := by
    intro n
    induction n using Nat.strongRecOn with
    | _ n ih => exact h n ih
  exact key n _ _ _ _ _ h0
end KCC
