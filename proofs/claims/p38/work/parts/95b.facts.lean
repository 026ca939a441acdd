/-! what is got, and why: what the abstract state says of it -/
theorem rGx_all {n na cM sB uu i : Nat} {M : MSt} {hold f g : Int32} {far : Int32} {on' : Nat → Int32} {sub' : Nat → Int32} {ru : Nat → Nat} (hV : VAL n na M) (hI : INVR n na M) (hok : okG M n na ru) (hM : MK n na cM sB M) (hW : WG n M) (huu : uu ≤ 9999) (hi : i < n) : ∃ w y vc, M.2 5 i = nI vc ∧ w < vc ∧ vc ≤ 4 ∧ y ≤ 8 ∧ rGx M.2 hold on' (nI uu) f g na (ru i) sub' i far = (nI w, nI y) ∧ (w ≠ 0 → y = 2 ∨ y = 3 ∨ y = 8) ∧ (y = 8 → M.2 6 (4 * i + w) ≠ 0) ∧ (y = 0 ↔ on' i = 0) ∧ (y = 3 → rHold M.2 i f g (ru i) 0 ≠ -1) ∧ (y = 7 → rHold M.2 i f g (ru i) 0 = -1) ∧ (y = 2 → rArm M.2 (nI i) (nI uu) na 0 ≠ -1 ∧ M.2 25 (rArm M.2 (nI i) (nI uu) na 0).toNatClampNeg = nI w) ∧ (y = 8 → ¬ (M.2 12 i ≠ -1 ∧ kIn (kBkt (500 + M.2 12 i) (nI uu)) (M.2 13 i) (M.2 14 i - 1) = 0)) := by
  obtain ⟨vc, hv2, hv4, evc, hz6, harm⟩ := hV.1 i hi
  obtain ⟨hru5, eru, -, ⟨sa, hsa, esa⟩, -⟩ := hok.2.2.2.2 i hi
  have hna := hok.1
  have hMu := hM.2.2.2.1
  unfold rGx
  by_cases c0 : on' i = 0
  · rw [if_pos c0]
    exact ⟨0, 0, vc, evc, by omega, hv4, by omega, rfl, fun h => absurd rfl h, fun h => by omega, ⟨fun _ => c0, fun _ => rfl⟩, fun h => by omega, fun h => by omega, fun h => by omega, fun h => by omega⟩
  rw [if_neg c0]
  by_cases c1 : M.2 15 i ≠ -1 ∧ sub' (M.2 15 i).toNatClampNeg ≠ M.2 16 i
  · rw [if_pos c1]
    exact ⟨0, 1, vc, evc, by omega, hv4, by omega, rfl, fun h => absurd rfl h, fun h => by omega, ⟨fun h => by omega, fun h => absurd h c0⟩, fun h => by omega, fun h => by omega, fun h => by omega, fun h => by omega⟩
  rw [if_neg c1]
  by_cases c2 : M.2 10 i ≠ 0 ∧ rArm M.2 (nI i) (nI uu) na 0 ≠ -1
  · rw [if_pos c2]
    rcases rArm_of M.2 (nI i) (nI uu) na 0 with h | ⟨j, -, hj, ej, e23, -⟩
    · exact absurd h c2.2
    · obtain ⟨v, hv, ev⟩ := harm j (by omega) e23
      have e25 : M.2 25 (rArm M.2 (nI i) (nI uu) na 0).toNatClampNeg = nI v := by rw [ej, ki_cl (by omega)]; exact ev
      rw [e25]
      exact ⟨v, 2, vc, evc, hv, hv4, by omega, rfl, fun _ => Or.inl rfl, fun h => by omega, ⟨fun h => by omega, fun h => absurd h c0⟩, fun h => by omega, fun h => by omega, fun _ => ⟨c2.2, rfl⟩, fun h => by omega⟩
  rw [if_neg c2]
  by_cases c3 : rHold M.2 i f g (ru i) 0 ≠ -1 ∧ M.2 21 (5 * i + (rHold M.2 i f g (ru i) 0).toNatClampNeg) ≠ -1
  · rw [if_pos c3]
    rcases rHold_of M.2 i f g (ru i) 0 with h | ⟨j, -, hj, ej, -⟩
    · exact absurd h c3.1
    · have e21 := c3.2
      rw [ej, ki_cl (by omega)] at e21
      rcases (hMu i hi (ru i) vc hru5 eru hv4 evc j (by omega)).2.2.2 with h | ⟨v, hv, ev⟩
      · exact absurd h e21
      · rw [ej, ki_cl (by omega), ev]
        exact ⟨v, 3, vc, evc, hv, hv4, by omega, rfl, fun _ => Or.inr (Or.inl rfl), fun h => by omega, ⟨fun h => by omega, fun h => absurd h c0⟩, fun _ => nI_m1 (a := j) (by omega), fun h => by omega, fun h => by omega, fun h => by omega⟩
  rw [if_neg c3]
  by_cases c4 : kBkt 999 (nI uu) < hold
  · rw [if_pos c4]
    exact ⟨0, 4, vc, evc, by omega, hv4, by omega, rfl, fun h => absurd rfl h, fun h => by omega, ⟨fun h => by omega, fun h => absurd h c0⟩, fun h => by omega, fun h => by omega, fun h => by omega, fun h => by omega⟩
  rw [if_neg c4]
  by_cases c5 : M.2 12 i ≠ -1 ∧ kIn (kBkt (500 + M.2 12 i) (nI uu)) (M.2 13 i) (M.2 14 i - 1) = 0
  · rw [if_pos c5]
    exact ⟨0, 5, vc, evc, by omega, hv4, by omega, rfl, fun h => absurd rfl h, fun h => by omega, ⟨fun h => by omega, fun h => absurd h c0⟩, fun h => by omega, fun h => by omega, fun h => by omega, fun h => by omega⟩
  rw [if_neg c5]
  by_cases c6 : kBkt (M.2 4 i + 1) (nI uu) < far
  · rw [if_pos c6]
    by_cases c7 : 0 < ru i ∧ rHold M.2 i f g (ru i) 0 = -1
    · rw [if_pos c7]
      exact ⟨0, 7, vc, evc, by omega, hv4, by omega, rfl, fun h => absurd rfl h, fun h => by omega, ⟨fun h => by omega, fun h => absurd h c0⟩, fun h => by omega, fun _ => c7.2, fun h => by omega, fun h => by omega⟩
    · rw [if_neg c7]
      obtain ⟨w0, w1, w2, w3, hs, e0, e1, e2, e3⟩ := hW i hi
      have hb := nBkt_lt sa uu
      have hsp := spl_n (T := M.2) e0 e1 e2 e3 hs hb
      rw [esa, kBkt_n (by omega) huu]
      rw [hsp]
      have key : ∀ v wv, v < 4 → M.2 6 (4 * i + v) = nI wv → 0 < wv → wv ≤ 1000 → v < vc ∧ M.2 6 (4 * i + v) ≠ 0 := fun v wv h4 ev hp hw => by
        have hne : M.2 6 (4 * i + v) ≠ 0 := by
          rw [ev]; exact fun q => by have := (nI_eq (a := wv) (b := 0) (by omega) (by omega)).mp q; omega
        refine ⟨?_, hne⟩
        rcases Nat.lt_or_ge v vc with h | h
        · exact h
        · exact absurd (hz6 v h h4) hne
      have fin : ∀ v, v < vc → M.2 6 (4 * i + v) ≠ 0 → ∃ w y vc, M.2 5 i = nI vc ∧ w < vc ∧ vc ≤ 4 ∧ y ≤ 8 ∧ (nI v, (8 : Int32)) = (nI w, nI y) ∧ (w ≠ 0 → y = 2 ∨ y = 3 ∨ y = 8) ∧ (y = 8 → M.2 6 (4 * i + w) ≠ 0) ∧ (y = 0 ↔ on' i = 0) ∧ (y = 3 → rHold M.2 i f g (ru i) 0 ≠ -1) ∧ (y = 7 → rHold M.2 i f g (ru i) 0 = -1) ∧ (y = 2 → rArm M.2 (nI i) (nI uu) na 0 ≠ -1 ∧ M.2 25 (rArm M.2 (nI i) (nI uu) na 0).toNatClampNeg = nI w) ∧ (y = 8 → ¬ (M.2 12 i ≠ -1 ∧ kIn (kBkt (500 + M.2 12 i) (nI uu)) (M.2 13 i) (M.2 14 i - 1) = 0)) := fun v h1 h2 =>
        ⟨v, 8, vc, evc, h1, hv4, by omega, rfl, fun _ => Or.inr (Or.inr rfl), fun _ => h2, ⟨fun h => by omega, fun h => absurd h c0⟩, fun h => by omega, fun h => by omega, fun h => by omega, fun _ => c5⟩
      by_cases z0 : nBkt sa uu < w0
      · rw [if_pos z0]
        obtain ⟨a1, a2⟩ := key 0 w0 (by omega) e0 (by omega) (by omega)
        exact fin 0 a1 a2
      · rw [if_neg z0]
        by_cases z1 : nBkt sa uu < w0 + w1
        · rw [if_pos z1]
          obtain ⟨a1, a2⟩ := key 1 w1 (by omega) e1 (by omega) (by omega)
          exact fin 1 a1 a2
        · rw [if_neg z1]
          by_cases z2 : nBkt sa uu < w0 + w1 + w2
          · rw [if_pos z2]
            obtain ⟨a1, a2⟩ := key 2 w2 (by omega) e2 (by omega) (by omega)
            exact fin 2 a1 a2
          · rw [if_neg z2]
            obtain ⟨a1, a2⟩ := key 3 w3 (by omega) e3 (by omega) (by omega)
            exact fin 3 a1 a2
  · rw [if_neg c6]
    exact ⟨0, 6, vc, evc, by omega, hv4, by omega, rfl, fun h => absurd rfl h, fun h => by omega, ⟨fun h => by omega, fun h => absurd h c0⟩, fun h => by omega, fun h => by omega, fun h => by omega, fun h => by omega⟩
