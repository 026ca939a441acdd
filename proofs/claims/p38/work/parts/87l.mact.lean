/-! the reference: act, exact -/
def rA26 (T : Rows) (u w : Int32) (c : Nat) : Nat → Int32 := fun k => if k < c ∧ T 24 k = u then T 26 k + w else T 26 k
def rA27 (T : Rows) (u : Int32) (c : Nat) : Nat → Int32 := fun k => if k < c ∧ T 24 k = u then 1 else T 27 k
def rAcN (T : Rows) (u : Int32) : Nat → Nat
  | 0 => 0
  | c + 1 => rAcN T u c + (if T 24 c = u then 1 else 0)
theorem rAcN_y {T : Rows} {u : Int32} {c : Nat} (h : T 24 c = u) : rAcN T u (c + 1) = rAcN T u c + 1 := by
  show rAcN T u c + (if T 24 c = u then 1 else 0) = _
  rw [if_pos h]
theorem rAcN_n {T : Rows} {u : Int32} {c : Nat} (h : ¬ T 24 c = u) : rAcN T u (c + 1) = rAcN T u c := by
  show rAcN T u c + (if T 24 c = u then 1 else 0) = _
  rw [if_neg h, Nat.add_zero]
theorem rAcN_le (T : Rows) (u : Int32) : ∀ c, rAcN T u c ≤ c := by
  intro c
  induction c with
  | zero => exact Nat.le_refl _
  | succ c ih =>
    by_cases h : T 24 c = u
    · rw [rAcN_y h]; omega
    · rw [rAcN_n h]; omega
theorem rA_iff {T : Rows} {u : Int32} {j k : Nat} (hk : ¬ k = j) : (k < j + 1 ∧ T 24 k = u) ↔ (k < j ∧ T 24 k = u) := ⟨fun e => ⟨by omega, e.2⟩, fun e => ⟨by omega, e.2⟩⟩
theorem rA_iffn {T : Rows} {u : Int32} {j k : Nat} (h : ¬ T 24 j = u) : (k < j + 1 ∧ T 24 k = u) ↔ (k < j ∧ T 24 k = u) := by
  by_cases hk : k = j
  · subst hk; exact ⟨fun e => absurd e.2 h, fun e => absurd e.2 h⟩
  · exact rA_iff hk
theorem rA26_0 {T : Rows} {u w : Int32} : rA26 T u w 0 = T 26 := by
  funext k
  have o : ¬ (k < 0 ∧ T 24 k = u) := fun e => absurd e.1 (Nat.not_lt_zero _)
  show (if k < 0 ∧ T 24 k = u then T 26 k + w else T 26 k) = _
  rw [if_neg o]
theorem rA27_0 {T : Rows} {u : Int32} : rA27 T u 0 = T 27 := by
  funext k
  have o : ¬ (k < 0 ∧ T 24 k = u) := fun e => absurd e.1 (Nat.not_lt_zero _)
  show (if k < 0 ∧ T 24 k = u then 1 else T 27 k) = _
  rw [if_neg o]
theorem rA26_n {T : Rows} {u w : Int32} {j : Nat} (h : ¬ T 24 j = u) : rA26 T u w (j + 1) = rA26 T u w j := by
  funext k
  show (if k < j + 1 ∧ T 24 k = u then T 26 k + w else T 26 k) = (if k < j ∧ T 24 k = u then T 26 k + w else T 26 k)
  by_cases q : k < j ∧ T 24 k = u
  · rw [if_pos q, if_pos ((rA_iffn h).mpr q)]
  · rw [if_neg q, if_neg (fun e => q ((rA_iffn h).mp e))]
theorem rA27_n {T : Rows} {u : Int32} {j : Nat} (h : ¬ T 24 j = u) : rA27 T u (j + 1) = rA27 T u j := by
  funext k
  show (if k < j + 1 ∧ T 24 k = u then 1 else T 27 k) = (if k < j ∧ T 24 k = u then 1 else T 27 k)
  by_cases q : k < j ∧ T 24 k = u
  · rw [if_pos q, if_pos ((rA_iffn h).mpr q)]
  · rw [if_neg q, if_neg (fun e => q ((rA_iffn h).mp e))]
theorem rA26_y {T : Rows} {u w : Int32} {j : Nat} (h : T 24 j = u) : upd (rA26 T u w j) j (rA26 T u w j j + w) = rA26 T u w (j + 1) := by
  funext k
  by_cases hk : k = j
  · subst hk
    have o1 : ¬ (k < k ∧ T 24 k = u) := fun e => absurd e.1 (Nat.lt_irrefl _)
    have o2 : k < k + 1 ∧ T 24 k = u := ⟨Nat.lt_succ_self _, h⟩
    show (if k = k then (if k < k ∧ T 24 k = u then T 26 k + w else T 26 k) + w else _) = (if k < k + 1 ∧ T 24 k = u then T 26 k + w else T 26 k)
    rw [if_pos rfl, if_neg o1, if_pos o2]
  · show (if k = j then _ else (if k < j ∧ T 24 k = u then T 26 k + w else T 26 k)) = (if k < j + 1 ∧ T 24 k = u then T 26 k + w else T 26 k)
    rw [if_neg hk]
    by_cases q : k < j ∧ T 24 k = u
    · rw [if_pos q, if_pos ((rA_iff hk).mpr q)]
    · rw [if_neg q, if_neg (fun e => q ((rA_iff hk).mp e))]
theorem rA27_y {T : Rows} {u : Int32} {j : Nat} (h : T 24 j = u) : upd (rA27 T u j) j 1 = rA27 T u (j + 1) := by
  funext k
  by_cases hk : k = j
  · subst hk
    have o2 : k < k + 1 ∧ T 24 k = u := ⟨Nat.lt_succ_self _, h⟩
    show (if k = k then 1 else _) = (if k < k + 1 ∧ T 24 k = u then 1 else T 27 k)
    rw [if_pos rfl, if_pos o2]
  · show (if k = j then 1 else (if k < j ∧ T 24 k = u then 1 else T 27 k)) = (if k < j + 1 ∧ T 24 k = u then 1 else T 27 k)
    rw [if_neg hk]
    by_cases q : k < j ∧ T 24 k = u
    · rw [if_pos q, if_pos ((rA_iff hk).mpr q)]
    · rw [if_neg q, if_neg (fun e => q ((rA_iff hk).mp e))]
theorem act_row {M : MSt} {F G : Nat → Int32} {j : Nat} {a b : Int32} : mR (mR (mU (mU M 26 F) 27 G) 26 j a) 27 j b = mU (mU M 26 (upd F j a)) 27 (upd G j b) := by
  refine Prod.ext rfl (funext fun q => ?_)
  show va_up (va_up (va_up (va_up M.2 26 F) 27 G) 26 (upd (va_up (va_up M.2 26 F) 27 G 26) j a)) 27 (upd (va_up (va_up (va_up M.2 26 F) 27 G) 26 (upd (va_up (va_up M.2 26 F) 27 G 26) j a) 27) j b) q = va_up (va_up M.2 26 (upd F j a)) 27 (upd G j b) q
  by_cases h7 : q = 27
  · subst h7; simp [va_up]
  · by_cases h6 : q = 26
    · subst h6; simp [va_up]
    · simp [va_up, h6, h7]
theorem act_ini {M : MSt} {u w : Int32} : mU (mU M 26 (rA26 M.2 u w 0)) 27 (rA27 M.2 u 0) = M := by
  rw [rA26_0, rA27_0]
  refine Prod.ext rfl (funext fun q => ?_)
  show va_up (va_up M.2 26 (M.2 26)) 27 (M.2 27) q = M.2 q
  by_cases h7 : q = 27
  · subst h7; simp [va_up]
  · by_cases h6 : q = 26
    · subst h6; simp [va_up]
    · simp [va_up, h6, h7]
