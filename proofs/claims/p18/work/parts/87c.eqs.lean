/-! what is left of a layer, what rules hold: both sides -/
theorem left_loop {fl : Prop} {n na na2 : Nat} {hh cc la : Int32} {S : Pool} {M : MSt} {x ar ak : Nat} (h : REL fl n na S M ar) (hC : INVC n na2 hh cc S x ar ak) : cLeft S ar la 8 0 1000 = rLeft M.2 la n 0 1000 := by
  have h8 := hC.n8
  have z : ∀ d k acc, n ≤ k → k + d ≤ 8 → cLeft S ar la d k acc = acc := by
    intro d
    induction d with
    | zero => intro k acc _ _; rfl
    | succ d ih =>
      intro k acc h1 h2
      unfold cLeft
      rw [hC.non k h1 (by omega)]
      exact ih (k + 1) acc (by omega) (by omega)
  have key : ∀ c k acc, k + c = n → cLeft S ar la (c + (8 - n)) k acc = rLeft M.2 la c k acc := by
    intro c
    induction c with
    | zero =>
      intro k acc hk
      rw [Nat.zero_add]
      exact z (8 - n) k acc (by omega) (by omega)
    | succ c ih =>
      intro k acc hk
      obtain ⟨a, ha⟩ := hC.row k (by omega)
      have e13 : gI S a 13 = M.2 12 k := h.rn (by omega) ha (q := (13, 12)) (by decide)
      have e14 : gI S a 14 = M.2 13 k := h.rn (by omega) ha (q := (14, 13)) (by decide)
      have e15 : gI S a 15 = M.2 14 k := h.rn (by omega) ha (q := (15, 14)) (by decide)
      rw [show c + 1 + (8 - n) = (c + (8 - n)) + 1 by omega]
      unfold cLeft rLeft
      rw [ha]
      simp only
      rw [e13, e14, e15]
      by_cases hl : M.2 12 k = la
      · rw [if_pos hl, if_pos hl]; exact ih (k + 1) _ (by omega)
      · rw [if_neg hl, if_neg hl, Int32.sub_zero]; exact ih (k + 1) _ (by omega)
  have := key n 0 1000 (by omega)
  rw [show n + (8 - n) = 8 by omega] at this
  exact this
theorem meet_eq {S : Pool} {T : Rows} {u k : Nat} {f g : Int32} (u0 : gI S u 0 = T 18 k) (u1 : gI S u 1 = T 19 k) (u2' : gI S u 2 = T 20 k) : (cMeet S u f g = 0) ↔ ¬ rMeets T k f g = true := by
  unfold cMeet rMeets
  rw [u0, u1, u2']
  generalize (if T 18 k = 0 then f else g) = v
  by_cases h1 : T 19 k = 1
  · rw [if_pos h1, if_pos h1]
    by_cases h : v < T 20 k
    · simp [h]
    · simp [h]
  · rw [if_neg h1, if_neg h1]
    by_cases h2 : T 19 k = 2
    · rw [if_pos h2, if_pos h2]
      by_cases h : v = T 20 k
      · simp [h]
      · simp [h]
    · rw [if_neg h2, if_neg h2]
      by_cases h : T 20 k < v
      · simp [h]
      · simp [h]
theorem hold_eq {S : Pool} {M : MSt} {a i rc : Nat} {f g : Int32} (h : RU S M a i) (hrc : rc ≤ 5) (h17 : M.2 17 i = nI rc) : cHold S (rlA S a) f g 5 0 = rHold M.2 i f g rc 0 := by
  obtain ⟨r, r1, r2, r3, r4⟩ := h
  have hr : r = rc := (nI_eq (a := r) (b := rc) (by omega) (by omega)).mp (r2.symm.trans h17)
  subst hr
  have z : ∀ d k, r ≤ k → k + d ≤ 5 → cHold S (rlA S a) f g d k = -1 := by
    intro d
    induction d with
    | zero => intro k _ _; rfl
    | succ d ih =>
      intro k h1 h2
      unfold cHold
      rw [r4 k h1 (by omega)]
      exact ih (k + 1) (by omega) (by omega)
  have key : ∀ c k, k + c = r → cHold S (rlA S a) f g (c + (5 - r)) k = rHold M.2 i f g c k := by
    intro c
    induction c with
    | zero => intro k hk; rw [Nat.zero_add]; exact z (5 - r) k (by omega) (by omega)
    | succ c ih =>
      intro k hk
      obtain ⟨u, u0, u1, u2', u3, u4⟩ := r3 k (by omega)
      rw [show c + 1 + (5 - r) = (c + (5 - r)) + 1 by omega]
      unfold cHold rHold
      rw [u0]
      simp only
      have hm := meet_eq (S := S) (T := M.2) (u := u) (k := 5 * i + k) (f := f) (g := g) u1 u2' u3
      by_cases hb : rMeets M.2 (5 * i + k) f g = true
      · rw [if_neg (fun e => hm.mp e hb), if_pos hb]
      · rw [if_pos (hm.mpr hb), if_neg hb]; exact ih (k + 1) (by omega)
  have := key r 0 (by omega)
  rw [show r + (5 - r) = 5 by omega] at this
  exact this
theorem qAsk_0 {u f g : Int32} (h : kOut u 0 9999 = 1 ∨ kOut f 0 9 = 1 ∨ kOut g 0 9 = 1) : qAsk u f g = 0 := by
  unfold qAsk
  rcases kIn_01 u 0 9999 with h1 | h1
  · rw [if_pos h1]
  · rw [if_neg (by rw [h1]; decide)]
    rcases kIn_01 f 0 9 with h2 | h2
    · rw [if_pos h2]
    · rw [if_neg (by rw [h2]; decide)]
      rcases kIn_01 g 0 9 with h3 | h3
      · rw [if_pos h3]
      · exfalso
        rw [kIn_out.mp h1, kIn_out.mp h2, kIn_out.mp h3] at h
        rcases h with h | h | h <;> exact absurd h (by decide)
theorem qAsk_1 {u f g : Int32} (h1 : kOut u 0 9999 = 0) (h2 : kOut f 0 9 = 0) (h3 : kOut g 0 9 = 0) : qAsk u f g = 1 := by
  unfold qAsk
  rw [kIn_out.mpr h1, kIn_out.mpr h2, kIn_out.mpr h3]
  decide
