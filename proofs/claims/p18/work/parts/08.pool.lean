/-! THE POOL: all cells of the class under proof, by their addresses: their kinds (0 Arm, 1 Asker, 2 Rule, 3 Switch, 4 Tally, 5 DaybreakFlags; 6 to 19 rows of ints, 20 rows of longs, 21 rows of Rules, 22 rows of Switches), lengths, numbers, references, and what the rows hold -/
abbrev Pool : Type := List Nat × (Nat → Nat) × (Nat → Nat) × (Nat → Nat → Int32) × (Nat → Nat → Option Nat) × (Nat → Nat → Int32) × (Nat → Nat → Int64) × (Nat → Nat → Option Nat)
abbrev gL (S : Pool) : List Nat := S.1
abbrev gK (S : Pool) : Nat → Nat := S.2.1
abbrev gN (S : Pool) : Nat → Nat := S.2.2.1
abbrev gI (S : Pool) : Nat → Nat → Int32 := S.2.2.2.1
abbrev gQ (S : Pool) : Nat → Nat → Option Nat := S.2.2.2.2.1
abbrev gR (S : Pool) : Nat → Nat → Int32 := S.2.2.2.2.2.1
abbrev gJ (S : Pool) : Nat → Nat → Int64 := S.2.2.2.2.2.2.1
abbrev gP (S : Pool) : Nat → Nat → Option Nat := S.2.2.2.2.2.2.2
def u2 {α : Type} (f : Nat → Nat → α) (a k : Nat) (v : α) : Nat → Nat → α := fun b j => if b = a ∧ j = k then v else f b j
def u1 {α : Type} (f : Nat → Nat → α) (a : Nat) (g : Nat → α) : Nat → Nat → α := fun b j => if b = a then g j else f b j
theorem u2_s {α : Type} {f : Nat → Nat → α} {a k : Nat} {v : α} : u2 f a k v a k = v := by simp [u2]
theorem u2_a {α : Type} {f : Nat → Nat → α} {a k b j : Nat} {v : α} (h : b ≠ a) : u2 f a k v b j = f b j := by simp [u2, h]
theorem u2_k {α : Type} {f : Nat → Nat → α} {a k b j : Nat} {v : α} (h : j ≠ k) : u2 f a k v b j = f b j := by simp [u2, h]
theorem u1_s {α : Type} {f : Nat → Nat → α} {a j : Nat} {g : Nat → α} : u1 f a g a j = g j := by simp [u1]
theorem u1_a {α : Type} {f : Nat → Nat → α} {a b j : Nat} {g : Nat → α} (h : b ≠ a) : u1 f a g b j = f b j := by simp [u1, h]
abbrev pI (S : Pool) (a k : Nat) (v : Int32) : Pool := (gL S, gK S, gN S, u2 (gI S) a k v, gQ S, gR S, gJ S, gP S)
abbrev pQ (S : Pool) (a k : Nat) (v : Option Nat) : Pool := (gL S, gK S, gN S, gI S, u2 (gQ S) a k v, gR S, gJ S, gP S)
abbrev pR (S : Pool) (a k : Nat) (v : Int32) : Pool := (gL S, gK S, gN S, gI S, gQ S, u2 (gR S) a k v, gJ S, gP S)
abbrev pJ (S : Pool) (a k : Nat) (v : Int64) : Pool := (gL S, gK S, gN S, gI S, gQ S, gR S, u2 (gJ S) a k v, gP S)
abbrev pP (S : Pool) (a k : Nat) (v : Option Nat) : Pool := (gL S, gK S, gN S, gI S, gQ S, gR S, gJ S, u2 (gP S) a k v)
/-- a new object (or row) of a kind at q, all of it 0 or null -/
abbrev pW (S : Pool) (q ki n : Nat) : Pool := (gL S ++ [q], va_up (gK S) q ki, va_up (gN S) q n, u1 (gI S) q (fun _ => 0), u1 (gQ S) q (fun _ => none), u1 (gR S) q (fun _ => 0), u1 (gJ S) q (fun _ => 0), u1 (gP S) q (fun _ => none))
def nf : Nat → Nat
  | 0 => 5
  | 1 => 6
  | 2 => 4
  | 3 => 18
  | 4 => 5
  | _ => 6
def isR : Nat → Nat → Bool
  | 0, 2 => true
  | 3, 4 => true
  | 3, 5 => true
  | 3, 6 => true
  | 3, 7 => true
  | 4, 0 => true
  | 4, 1 => true
  | 4, 2 => true
  | 4, 3 => true
  | 5, 0 => true
  | 5, 1 => true
  | _, _ => false
def pv (S : Pool) (ci a k : Nat) : Value := if isR ci k = true then va_rf (gQ S a k) else .int (gI S a k)
def pcell (cA : Nat → ClassId) (S : Pool) (a : Nat) : va_E :=
  if gK S a < 6 then .inr (gK S a, (List.range (nf (gK S a))).map (pv S (gK S a) a))
  else if gK S a < 20 then .inl (cA 0, gN S a, .inl (gR S a))
  else if gK S a = 20 then .inl (cA 1, gN S a, .inr (.inl (gJ S a)))
  else if gK S a = 21 then .inl (cA 4, gN S a, .inr (.inr (.inr (.inr (gP S a)))))
  else .inl (cA 5, gN S a, .inr (.inr (.inr (.inr (gP S a)))))
abbrev PW (cA : Nat → ClassId) (S : Pool) : va_W := va_pl (gL S) (pcell cA S)
abbrev ty6 (cA : Nat → ClassId) : List (ClassId × FieldType) := [(cA 0, .int), (cA 1, .long), (cA 2, .boolean), (cA 3, .double), (cA 4, .object RX2), (cA 5, .object RX3)]
/-- an object of a kind lies at a -/
abbrev isO (S : Pool) (a ki : Nat) : Prop := a ∈ gL S ∧ gK S a = ki
/-- a row of a kind and of n places lies at a -/
abbrev isA (S : Pool) (a ki n : Nat) : Prop := a ∈ gL S ∧ gK S a = ki ∧ gN S a = n
theorem pcell_o {cA : Nat → ClassId} {S : Pool} {a ci : Nat} (h : gK S a = ci) (hc : ci < 6) : pcell cA S a = .inr (ci, (List.range (nf ci)).map (pv S ci a)) := by
  unfold pcell
  rw [h, if_pos hc]
theorem pcell_i {cA : Nat → ClassId} {S : Pool} {a ci : Nat} (h : gK S a = ci) (h6 : 6 ≤ ci) (h20 : ci < 20) : pcell cA S a = .inl (cA 0, gN S a, .inl (gR S a)) := by
  unfold pcell
  rw [h, if_neg (by omega), if_pos h20]
theorem pcell_j {cA : Nat → ClassId} {S : Pool} {a : Nat} (h : gK S a = 20) : pcell cA S a = .inl (cA 1, gN S a, .inr (.inl (gJ S a))) := by
  unfold pcell
  rw [h, if_neg (by omega), if_neg (by omega), if_pos rfl]
theorem pcell_r {cA : Nat → ClassId} {S : Pool} {a : Nat} (h : gK S a = 21) : pcell cA S a = .inl (cA 4, gN S a, .inr (.inr (.inr (.inr (gP S a))))) := by
  unfold pcell
  rw [h, if_neg (by omega), if_neg (by omega), if_neg (by omega), if_pos rfl]
theorem pcell_s {cA : Nat → ClassId} {S : Pool} {a : Nat} (h : gK S a = 22) : pcell cA S a = .inl (cA 5, gN S a, .inr (.inr (.inr (.inr (gP S a))))) := by
  unfold pcell
  rw [h, if_neg (by omega), if_neg (by omega), if_neg (by omega), if_neg (by omega)]
theorem map_set {α : Type} {n k : Nat} {g g' : Nat → α} {v : α} (h1 : k < n → g' k = v) (h2 : ∀ j, j ≠ k → g' j = g j) : ((List.range n).map g).set k v = (List.range n).map g' := by
  apply List.ext_getElem?
  intro j
  rw [List.getElem?_set]
  by_cases hj : k = j
  · subst hj
    by_cases hn : k < n
    · simp [hn, h1 hn]
    · simp [hn]
  · rw [if_neg hj]
    by_cases hn : j < n
    · simp [hn, h2 j (fun e => hj e.symm)]
    · simp [hn]
theorem pw_get {cA : Nat → ClassId} {S : Pool} {a : Nat} (h : a ∈ gL S) : ∃ k : Nat, (PW cA S)[k]? = some (a, pcell cA S a) := va_pl_get (X := []) h
theorem pw_set {cA : Nat → ClassId} {S : Pool} {A : Nat → Prop} {a k : Nat} {e : va_E} {g : Nat → va_E} (hD : va_D A (PW cA S)) (h : a ∈ gL S) (hk : (PW cA S)[k]? = some (a, pcell cA S a)) (ha : g a = e) (hb : ∀ b, b ≠ a → g b = pcell cA S b) : (PW cA S).set k (a, e) = va_pl (gL S) g := by
  have h1 := va_pl_set (X := []) (e := e) hD h hk
  refine (show (PW cA S).set k (a, e) = va_pl (gL S) (va_up (pcell cA S) a e) from h1).trans (va_pl_congr fun b => ?_)
  by_cases hba : b = a
  · subst hba
    rw [ha]; simp [va_up]
  · rw [hb b hba]; simp [va_up, hba]
theorem pw_new {cA : Nat → ClassId} {S : Pool} {A : Nat → Prop} {q : Nat} {e : va_E} {g : Nat → va_E} (hD : va_D A (PW cA S ++ [(q, e)])) (ha : g q = e) (hb : ∀ b, b ≠ q → g b = pcell cA S b) : q ∉ gL S ∧ PW cA S ++ [(q, e)] = va_pl (gL S ++ [q]) g := by
  have hq : q ∉ gL S := by
    intro hm
    obtain ⟨k, hk⟩ := pw_get (cA := cA) (S := S) hm
    have hlt : k < (PW cA S).length := (List.getElem?_eq_some_iff.mp hk).1
    have h1 : (PW cA S ++ [(q, e)])[k]? = some (q, pcell cA S q) := by rw [List.getElem?_append_left hlt]; exact hk
    have h2 : (PW cA S ++ [(q, e)])[(PW cA S).length]? = some (q, e) := by simp
    have := hD.1 _ _ _ _ h1 h2 rfl
    omega
  refine ⟨hq, ?_⟩
  refine (va_pl_push hq).trans (va_pl_congr fun b => ?_)
  by_cases hba : b = q
  · subst hba
    rw [ha]; simp [va_up]
  · rw [hb b hba]; simp [va_up, hba]
theorem pcell_ne {cA : Nat → ClassId} {S S' : Pool} {b : Nat} (hK : gK S' b = gK S b) (hN : gN S' b = gN S b) (hI : gI S' b = gI S b) (hQ : gQ S' b = gQ S b) (hR : gR S' b = gR S b) (hJ : gJ S' b = gJ S b) (hP : gP S' b = gP S b) : pcell cA S' b = pcell cA S b := by
  unfold pcell
  have h : pv S' (gK S b) b = pv S (gK S b) b := by
    funext k
    unfold pv
    rw [hI, hQ]
  rw [hK, hN, hR, hJ, hP, h]
theorem u2_row {α : Type} {f : Nat → Nat → α} {a k b : Nat} {v : α} (h : b ≠ a) : u2 f a k v b = f b := by funext j; exact u2_a h
theorem u1_row {α : Type} {f : Nat → Nat → α} {a b : Nat} {g : Nat → α} (h : b ≠ a) : u1 f a g b = f b := by funext j; exact u1_a h
theorem u2_upd {f : Nat → Nat → Int32} {a k : Nat} {v : Int32} : u2 f a k v a = upd (f a) k v := by funext j; simp [u2, upd]
theorem u2_updL {f : Nat → Nat → Int64} {a k : Nat} {v : Int64} : u2 f a k v a = vp_updL (f a) k v := by funext j; simp [u2, vp_updL]
theorem u2_updP {f : Nat → Nat → Option Nat} {a k : Nat} {v : Option Nat} : u2 f a k v a = va_up (f a) k v := by funext j; simp [u2, va_up]
theorem up_ne {f : Nat → Nat} {q b v : Nat} (h : b ≠ q) : va_up f q v b = f b := by simp [va_up, h]
theorem up_s {f : Nat → Nat} {q v : Nat} : va_up f q v q = v := by simp [va_up]
theorem ne_new {S : Pool} {q b : Nat} (hb : b ∈ gL S) (hq : q ∉ gL S) : b ≠ q := by
  intro e
  subst e
  exact hq hb
theorem isO_new {S : Pool} {q ki n b kb : Nat} (h : isO S b kb) (hq : q ∉ gL S) : isO (pW S q ki n) b kb := ⟨List.mem_append_left _ h.1, show va_up (gK S) q ki b = kb from (up_ne (ne_new h.1 hq)).trans h.2⟩
theorem isA_new {S : Pool} {q ki n b kb nb : Nat} (h : isA S b kb nb) (hq : q ∉ gL S) : isA (pW S q ki n) b kb nb := ⟨List.mem_append_left _ h.1, show va_up (gK S) q ki b = kb from (up_ne (ne_new h.1 hq)).trans h.2.1, show va_up (gN S) q n b = nb from (up_ne (ne_new h.1 hq)).trans h.2.2⟩
theorem isO_q {S : Pool} {q ki n : Nat} : isO (pW S q ki n) q ki := ⟨List.mem_append_right _ (List.mem_singleton.mpr rfl), show va_up (gK S) q ki q = ki from up_s⟩
theorem isA_q {S : Pool} {q ki n : Nat} : isA (pW S q ki n) q ki n := ⟨List.mem_append_right _ (List.mem_singleton.mpr rfl), show va_up (gK S) q ki q = ki from up_s, show va_up (gN S) q n q = n from up_s⟩
theorem gI_new {S : Pool} {q ki n b k : Nat} (hb : b ∈ gL S) (hq : q ∉ gL S) : gI (pW S q ki n) b k = gI S b k := show u1 (gI S) q (fun _ => 0) b k = gI S b k from u1_a (ne_new hb hq)
theorem gI_q {S : Pool} {q ki n k : Nat} : gI (pW S q ki n) q k = 0 := show u1 (gI S) q (fun _ => 0) q k = 0 from u1_s
theorem gQ_new {S : Pool} {q ki n b k : Nat} (hb : b ∈ gL S) (hq : q ∉ gL S) : gQ (pW S q ki n) b k = gQ S b k := show u1 (gQ S) q (fun _ => none) b k = gQ S b k from u1_a (ne_new hb hq)
theorem gQ_q {S : Pool} {q ki n k : Nat} : gQ (pW S q ki n) q k = none := show u1 (gQ S) q (fun _ => none) q k = none from u1_s
theorem gR_new {S : Pool} {q ki n b k : Nat} (hb : b ∈ gL S) (hq : q ∉ gL S) : gR (pW S q ki n) b k = gR S b k := show u1 (gR S) q (fun _ => 0) b k = gR S b k from u1_a (ne_new hb hq)
theorem gR_q {S : Pool} {q ki n k : Nat} : gR (pW S q ki n) q k = 0 := show u1 (gR S) q (fun _ => 0) q k = 0 from u1_s
theorem gJ_new {S : Pool} {q ki n b k : Nat} (hb : b ∈ gL S) (hq : q ∉ gL S) : gJ (pW S q ki n) b k = gJ S b k := show u1 (gJ S) q (fun _ => 0) b k = gJ S b k from u1_a (ne_new hb hq)
theorem gJ_q {S : Pool} {q ki n k : Nat} : gJ (pW S q ki n) q k = 0 := show u1 (gJ S) q (fun _ => 0) q k = 0 from u1_s
theorem gP_new {S : Pool} {q ki n b k : Nat} (hb : b ∈ gL S) (hq : q ∉ gL S) : gP (pW S q ki n) b k = gP S b k := show u1 (gP S) q (fun _ => none) b k = gP S b k from u1_a (ne_new hb hq)
theorem gP_q {S : Pool} {q ki n k : Nat} : gP (pW S q ki n) q k = none := show u1 (gP S) q (fun _ => none) q k = none from u1_s
theorem kz_b {x : Int32} (h : x = 0 ∨ x = 1) : narrow .boolean (.int x) = .int x ∧ fits .boolean (.int x) = true := by rcases h with rfl | rfl <;> decide
theorem ne_of_kind {S : Pool} {a b i j : Nat} (ha : gK S a = i) (hb : gK S b = j) (h : i ≠ j) : a ≠ b := by
  intro e
  subst e
  exact h (ha.symm.trans hb)
