/-! the law's code by pieces -/
/-- a piece of some code -/
def Pc (ch cd : ByteArray) (f : Nat) : Prop := ∀ j, ∀ h : j < ch.size, ∃ h2 : f + j < cd.size, cd[f + j] = ch[j]
theorem Pc_of {ch cd : ByteArray} {f n : Nat} (h : (cd.data.toList.drop f).take n = ch.data.toList) : Pc ch cd f := by
  intro j hj
  have hj1 : j < ch.data.toList.length := hj
  have e : ch.data.toList[j]? = some ch.data.toList[j] := List.getElem?_eq_getElem hj1
  have e2 : ((cd.data.toList.drop f).take n)[j]? = some ch.data.toList[j] := by rw [h]; exact e
  have e3 : (cd.data.toList.drop f)[j]? = some ch.data.toList[j] := by
    rw [List.getElem?_take] at e2
    by_cases hn : j < n
    · rw [if_pos hn] at e2; exact e2
    · rw [if_neg hn] at e2; cases e2
  rw [List.getElem?_drop] at e3
  obtain ⟨h2, e4⟩ := List.getElem?_eq_some_iff.mp e3
  exact ⟨h2, e4⟩
def Rdl {α : Type} (ch cd : ByteArray) (f : Nat) (r r2 : Decoder α) : Prop := ∀ p a q, r ch p = .ok (a, q) → r2 cd (f + p) = .ok (a, f + q)
theorem rdl_pure {α : Type} {ch cd : ByteArray} {f : Nat} (x : α) : Rdl ch cd f (pure x : Decoder α) (pure x) := by
  intro p a q h
  have h : (Except.ok (x, p) : Except DecodeError (α × Nat)) = .ok (a, q) := h
  cases h
  rfl
theorem rdl_bind {α β : Type} {ch cd : ByteArray} {f : Nat} {r r2 : Decoder α} {g g2 : α → Decoder β} (hr : Rdl ch cd f r r2) (hg : ∀ a, Rdl ch cd f (g a) (g2 a)) : Rdl ch cd f (r >>= g) (r2 >>= g2) := by
  intro p a q h
  have h : Except.bind (r ch p) (fun z => g z.1 ch z.2) = .ok (a, q) := h
  rcases e : r ch p with er | ⟨b, q1⟩
  · rw [e] at h; cases h
  · rw [e] at h
    have h : g b ch q1 = .ok (a, q) := h
    show Except.bind (r2 cd (f + p)) (fun z => g2 z.1 cd z.2) = _
    rw [hr p b q1 e]
    exact hg b q1 a q h
theorem rdl_map {α β : Type} {ch cd : ByteArray} {f : Nat} {r r2 : Decoder α} (g : α → β) (hr : Rdl ch cd f r r2) : Rdl ch cd f (g <$> r) (g <$> r2) := rdl_bind hr (fun a => rdl_pure (g a))
theorem u1_eq (cd : ByteArray) (p : Nat) : (Reader.u1 : Decoder Nat) cd p = if h : p < cd.size then .ok (cd[p].toNat, p + 1) else .error (.truncated p) := by
  have e : (Reader.u1 : Decoder Nat) cd p = (if h : p < cd.size then (do set (p + 1); pure cd[p].toNat : Decoder Nat) else throw (HasTruncated.truncated p)) cd p := rfl
  rw [e]
  by_cases h : p < cd.size
  · rw [dif_pos h, dif_pos h]; rfl
  · rw [dif_neg h, dif_neg h]; rfl
theorem rdl_u1 {ch cd : ByteArray} {f : Nat} (hA : Pc ch cd f) : Rdl ch cd f (Reader.u1 : Decoder Nat) Reader.u1 := by
  intro p a q h
  rw [u1_eq] at h ⊢
  by_cases hp : p < ch.size
  · rw [dif_pos hp] at h
    obtain ⟨h2, e2⟩ := hA p hp
    rw [dif_pos h2, e2]
    cases h
    rfl
  · rw [dif_neg hp] at h; cases h
theorem rdl_u2 {ch cd : ByteArray} {f : Nat} (hA : Pc ch cd f) : Rdl ch cd f (Reader.u2 : Decoder Nat) Reader.u2 := rdl_bind (rdl_u1 hA) (fun _ => rdl_bind (rdl_u1 hA) (fun _ => rdl_pure _))
theorem rdl_s1 {ch cd : ByteArray} {f : Nat} (hA : Pc ch cd f) : Rdl ch cd f (Reader.s1 : Decoder Int) Reader.s1 := rdl_map _ (rdl_u1 hA)
theorem rdl_s2 {ch cd : ByteArray} {f : Nat} (hA : Pc ch cd f) : Rdl ch cd f (Reader.s2 : Decoder Int) Reader.s2 := rdl_map _ (rdl_u2 hA)
def Rdla (ch cd : ByteArray) (f k : Nat) : Prop := ∀ a q, Decoder.instr k ch k = .ok (a, q) → Decoder.instr (f + k) cd (f + k) = .ok (a, f + q)
theorem rdl_at {α : Type} {ch cd : ByteArray} {f k b : Nat} {g g2 : Nat → Decoder α} (hA : Pc ch cd f) (hb : ∃ h : k < ch.size, ch[k].toNat = b) (hg : Rdl ch cd f (g b) (g2 b)) : ∀ a q, (Reader.u1 >>= g) ch k = .ok (a, q) → (Reader.u1 >>= g2) cd (f + k) = .ok (a, f + q) := by
  intro a q h
  obtain ⟨hk, hb⟩ := hb
  obtain ⟨h2, e2⟩ := hA k hk
  have h : Except.bind ((Reader.u1 : Decoder Nat) ch k) (fun z => g z.1 ch z.2) = .ok (a, q) := h
  show Except.bind ((Reader.u1 : Decoder Nat) cd (f + k)) (fun z => g2 z.1 cd z.2) = _
  rw [u1_eq, dif_pos hk, hb] at h
  rw [u1_eq, dif_pos h2, e2, hb]
  have h : g b ch (k + 1) = .ok (a, q) := h
  exact hg (k + 1) a q h
theorem dec_row {ch cd : ByteArray} {f k l : Nat} {i : Instr} (hr : Rdla ch cd f k) (h : decode ch k = .ok (i, l)) : decode cd (f + k) = .ok (i, l) := by
  have h : Except.bind (Decoder.instr k ch k) (fun z => .ok (z.1, z.2 - k)) = .ok (i, l) := h
  rcases e : Decoder.instr k ch k with er | ⟨b, q⟩
  · rw [e] at h; cases h
  · rw [e] at h
    have h : (Except.ok (b, q - k) : Except DecodeError (Instr × Nat)) = .ok (i, l) := h
    show Except.bind (Decoder.instr (f + k) cd (f + k)) (fun z => .ok (z.1, z.2 - (f + k))) = _
    rw [hr b q e]
    show (Except.ok (b, f + q - (f + k)) : Except DecodeError (Instr × Nat)) = _
    rw [show f + q - (f + k) = q - k by omega]
    exact h
theorem byte_at {ch : ByteArray} {k : Nat} {b : UInt8} (h : ch.data.toList[k]? = some b) : ∃ h : k < ch.size, ch[k].toNat = b.toNat := by
  obtain ⟨h1, h2⟩ := List.getElem?_eq_some_iff.mp h
  exact ⟨h1, congrArg UInt8.toNat h2⟩
theorem all_at {α : Type} {p : α → Bool} {l : List α} (h : l.all p = true) (i : Nat) {a : α} (e : l[i]? = some a) : p a = true := List.all_eq_true.mp h a (List.mem_of_getElem? e)
theorem two_at {P Q : Prop} [Decidable P] [Decidable Q] (h : (decide P && decide Q) = true) : P ∧ Q := by
  have h2 := Bool.and_eq_true_iff.mp h
  exact ⟨of_decide_eq_true h2.1, of_decide_eq_true h2.2⟩
theorem ro_3 {ch cd : ByteArray} {f k : Nat} (hA : Pc ch cd f) (hb : ∃ h : k < ch.size, ch[k].toNat = 3) : Rdla ch cd f k := by
  unfold Rdla Decoder.instr
  refine rdl_at (b := 3) hA hb ?_
  first
    | exact rdl_pure _
theorem ro_4 {ch cd : ByteArray} {f k : Nat} (hA : Pc ch cd f) (hb : ∃ h : k < ch.size, ch[k].toNat = 4) : Rdla ch cd f k := by
  unfold Rdla Decoder.instr
  refine rdl_at (b := 4) hA hb ?_
  first
    | exact rdl_pure _
theorem ro_5 {ch cd : ByteArray} {f k : Nat} (hA : Pc ch cd f) (hb : ∃ h : k < ch.size, ch[k].toNat = 5) : Rdla ch cd f k := by
  unfold Rdla Decoder.instr
  refine rdl_at (b := 5) hA hb ?_
  first
    | exact rdl_pure _
theorem ro_6 {ch cd : ByteArray} {f k : Nat} (hA : Pc ch cd f) (hb : ∃ h : k < ch.size, ch[k].toNat = 6) : Rdla ch cd f k := by
  unfold Rdla Decoder.instr
  refine rdl_at (b := 6) hA hb ?_
  first
    | exact rdl_pure _
theorem ro_7 {ch cd : ByteArray} {f k : Nat} (hA : Pc ch cd f) (hb : ∃ h : k < ch.size, ch[k].toNat = 7) : Rdla ch cd f k := by
  unfold Rdla Decoder.instr
  refine rdl_at (b := 7) hA hb ?_
  first
    | exact rdl_pure _
theorem ro_8 {ch cd : ByteArray} {f k : Nat} (hA : Pc ch cd f) (hb : ∃ h : k < ch.size, ch[k].toNat = 8) : Rdla ch cd f k := by
  unfold Rdla Decoder.instr
  refine rdl_at (b := 8) hA hb ?_
  first
    | exact rdl_pure _
theorem ro_16 {ch cd : ByteArray} {f k : Nat} (hA : Pc ch cd f) (hb : ∃ h : k < ch.size, ch[k].toNat = 16) : Rdla ch cd f k := by
  unfold Rdla Decoder.instr
  refine rdl_at (b := 16) hA hb ?_
  first
    | exact rdl_bind (rdl_u1 hA) (fun _ => rdl_pure _)
    | exact rdl_bind (rdl_s1 hA) (fun _ => rdl_pure _)
    | exact rdl_bind (rdl_u1 hA) (fun b9 => by
      repeat' split
      all_goals first | exact rdl_pure _ | (intro p9 a9 q9 h9; cases h9))
theorem ro_21 {ch cd : ByteArray} {f k : Nat} (hA : Pc ch cd f) (hb : ∃ h : k < ch.size, ch[k].toNat = 21) : Rdla ch cd f k := by
  unfold Rdla Decoder.instr
  refine rdl_at (b := 21) hA hb ?_
  first
    | exact rdl_bind (rdl_u1 hA) (fun _ => rdl_pure _)
    | exact rdl_bind (rdl_s1 hA) (fun _ => rdl_pure _)
    | exact rdl_bind (rdl_u1 hA) (fun b9 => by
      repeat' split
      all_goals first | exact rdl_pure _ | (intro p9 a9 q9 h9; cases h9))
theorem ro_25 {ch cd : ByteArray} {f k : Nat} (hA : Pc ch cd f) (hb : ∃ h : k < ch.size, ch[k].toNat = 25) : Rdla ch cd f k := by
  unfold Rdla Decoder.instr
  refine rdl_at (b := 25) hA hb ?_
  first
    | exact rdl_bind (rdl_u1 hA) (fun _ => rdl_pure _)
    | exact rdl_bind (rdl_s1 hA) (fun _ => rdl_pure _)
    | exact rdl_bind (rdl_u1 hA) (fun b9 => by
      repeat' split
      all_goals first | exact rdl_pure _ | (intro p9 a9 q9 h9; cases h9))
theorem ro_42 {ch cd : ByteArray} {f k : Nat} (hA : Pc ch cd f) (hb : ∃ h : k < ch.size, ch[k].toNat = 42) : Rdla ch cd f k := by
  unfold Rdla Decoder.instr
  refine rdl_at (b := 42) hA hb ?_
  first
    | exact rdl_pure _
theorem ro_43 {ch cd : ByteArray} {f k : Nat} (hA : Pc ch cd f) (hb : ∃ h : k < ch.size, ch[k].toNat = 43) : Rdla ch cd f k := by
  unfold Rdla Decoder.instr
  refine rdl_at (b := 43) hA hb ?_
  first
    | exact rdl_pure _
theorem ro_44 {ch cd : ByteArray} {f k : Nat} (hA : Pc ch cd f) (hb : ∃ h : k < ch.size, ch[k].toNat = 44) : Rdla ch cd f k := by
  unfold Rdla Decoder.instr
  refine rdl_at (b := 44) hA hb ?_
  first
    | exact rdl_pure _
theorem ro_45 {ch cd : ByteArray} {f k : Nat} (hA : Pc ch cd f) (hb : ∃ h : k < ch.size, ch[k].toNat = 45) : Rdla ch cd f k := by
  unfold Rdla Decoder.instr
  refine rdl_at (b := 45) hA hb ?_
  first
    | exact rdl_pure _
theorem ro_46 {ch cd : ByteArray} {f k : Nat} (hA : Pc ch cd f) (hb : ∃ h : k < ch.size, ch[k].toNat = 46) : Rdla ch cd f k := by
  unfold Rdla Decoder.instr
  refine rdl_at (b := 46) hA hb ?_
  first
    | exact rdl_pure _
theorem ro_47 {ch cd : ByteArray} {f k : Nat} (hA : Pc ch cd f) (hb : ∃ h : k < ch.size, ch[k].toNat = 47) : Rdla ch cd f k := by
  unfold Rdla Decoder.instr
  refine rdl_at (b := 47) hA hb ?_
  first
    | exact rdl_pure _
theorem ro_54 {ch cd : ByteArray} {f k : Nat} (hA : Pc ch cd f) (hb : ∃ h : k < ch.size, ch[k].toNat = 54) : Rdla ch cd f k := by
  unfold Rdla Decoder.instr
  refine rdl_at (b := 54) hA hb ?_
  first
    | exact rdl_bind (rdl_u1 hA) (fun _ => rdl_pure _)
    | exact rdl_bind (rdl_s1 hA) (fun _ => rdl_pure _)
    | exact rdl_bind (rdl_u1 hA) (fun b9 => by
      repeat' split
      all_goals first | exact rdl_pure _ | (intro p9 a9 q9 h9; cases h9))
theorem ro_57 {ch cd : ByteArray} {f k : Nat} (hA : Pc ch cd f) (hb : ∃ h : k < ch.size, ch[k].toNat = 57) : Rdla ch cd f k := by
  unfold Rdla Decoder.instr
  refine rdl_at (b := 57) hA hb ?_
  first
    | exact rdl_bind (rdl_u1 hA) (fun _ => rdl_pure _)
    | exact rdl_bind (rdl_s1 hA) (fun _ => rdl_pure _)
    | exact rdl_bind (rdl_u1 hA) (fun b9 => by
      repeat' split
      all_goals first | exact rdl_pure _ | (intro p9 a9 q9 h9; cases h9))
theorem ro_58 {ch cd : ByteArray} {f k : Nat} (hA : Pc ch cd f) (hb : ∃ h : k < ch.size, ch[k].toNat = 58) : Rdla ch cd f k := by
  unfold Rdla Decoder.instr
  refine rdl_at (b := 58) hA hb ?_
  first
    | exact rdl_bind (rdl_u1 hA) (fun _ => rdl_pure _)
    | exact rdl_bind (rdl_s1 hA) (fun _ => rdl_pure _)
    | exact rdl_bind (rdl_u1 hA) (fun b9 => by
      repeat' split
      all_goals first | exact rdl_pure _ | (intro p9 a9 q9 h9; cases h9))
theorem ro_76 {ch cd : ByteArray} {f k : Nat} (hA : Pc ch cd f) (hb : ∃ h : k < ch.size, ch[k].toNat = 76) : Rdla ch cd f k := by
  unfold Rdla Decoder.instr
  refine rdl_at (b := 76) hA hb ?_
  first
    | exact rdl_pure _
theorem ro_77 {ch cd : ByteArray} {f k : Nat} (hA : Pc ch cd f) (hb : ∃ h : k < ch.size, ch[k].toNat = 77) : Rdla ch cd f k := by
  unfold Rdla Decoder.instr
  refine rdl_at (b := 77) hA hb ?_
  first
    | exact rdl_pure _
theorem ro_78 {ch cd : ByteArray} {f k : Nat} (hA : Pc ch cd f) (hb : ∃ h : k < ch.size, ch[k].toNat = 78) : Rdla ch cd f k := by
  unfold Rdla Decoder.instr
  refine rdl_at (b := 78) hA hb ?_
  first
    | exact rdl_pure _
theorem ro_87 {ch cd : ByteArray} {f k : Nat} (hA : Pc ch cd f) (hb : ∃ h : k < ch.size, ch[k].toNat = 87) : Rdla ch cd f k := by
  unfold Rdla Decoder.instr
  refine rdl_at (b := 87) hA hb ?_
  first
    | exact rdl_pure _
theorem ro_88 {ch cd : ByteArray} {f k : Nat} (hA : Pc ch cd f) (hb : ∃ h : k < ch.size, ch[k].toNat = 88) : Rdla ch cd f k := by
  unfold Rdla Decoder.instr
  refine rdl_at (b := 88) hA hb ?_
  first
    | exact rdl_pure _
theorem ro_89 {ch cd : ByteArray} {f k : Nat} (hA : Pc ch cd f) (hb : ∃ h : k < ch.size, ch[k].toNat = 89) : Rdla ch cd f k := by
  unfold Rdla Decoder.instr
  refine rdl_at (b := 89) hA hb ?_
  first
    | exact rdl_pure _
theorem ro_96 {ch cd : ByteArray} {f k : Nat} (hA : Pc ch cd f) (hb : ∃ h : k < ch.size, ch[k].toNat = 96) : Rdla ch cd f k := by
  unfold Rdla Decoder.instr
  refine rdl_at (b := 96) hA hb ?_
  first
    | exact rdl_pure _
theorem ro_100 {ch cd : ByteArray} {f k : Nat} (hA : Pc ch cd f) (hb : ∃ h : k < ch.size, ch[k].toNat = 100) : Rdla ch cd f k := by
  unfold Rdla Decoder.instr
  refine rdl_at (b := 100) hA hb ?_
  first
    | exact rdl_pure _
theorem ro_126 {ch cd : ByteArray} {f k : Nat} (hA : Pc ch cd f) (hb : ∃ h : k < ch.size, ch[k].toNat = 126) : Rdla ch cd f k := by
  unfold Rdla Decoder.instr
  refine rdl_at (b := 126) hA hb ?_
  first
    | exact rdl_pure _
theorem ro_132 {ch cd : ByteArray} {f k : Nat} (hA : Pc ch cd f) (hb : ∃ h : k < ch.size, ch[k].toNat = 132) : Rdla ch cd f k := by
  unfold Rdla Decoder.instr
  refine rdl_at (b := 132) hA hb ?_
  first
    | exact rdl_bind (rdl_u2 hA) (fun _ => rdl_pure _)
    | exact rdl_bind (rdl_s2 hA) (fun _ => rdl_pure _)
    | exact rdl_bind (rdl_u1 hA) (fun _ => rdl_bind (rdl_s1 hA) (fun _ => rdl_pure _))
theorem ro_133 {ch cd : ByteArray} {f k : Nat} (hA : Pc ch cd f) (hb : ∃ h : k < ch.size, ch[k].toNat = 133) : Rdla ch cd f k := by
  unfold Rdla Decoder.instr
  refine rdl_at (b := 133) hA hb ?_
  first
    | exact rdl_pure _
theorem ro_148 {ch cd : ByteArray} {f k : Nat} (hA : Pc ch cd f) (hb : ∃ h : k < ch.size, ch[k].toNat = 148) : Rdla ch cd f k := by
  unfold Rdla Decoder.instr
  refine rdl_at (b := 148) hA hb ?_
  first
    | exact rdl_pure _
theorem ro_153 {ch cd : ByteArray} {f k : Nat} (hA : Pc ch cd f) (hb : ∃ h : k < ch.size, ch[k].toNat = 153) : Rdla ch cd f k := by
  unfold Rdla Decoder.instr
  refine rdl_at (b := 153) hA hb ?_
  first
    | exact rdl_bind (rdl_u2 hA) (fun _ => rdl_pure _)
    | exact rdl_bind (rdl_s2 hA) (fun _ => rdl_pure _)
    | exact rdl_bind (rdl_u1 hA) (fun _ => rdl_bind (rdl_s1 hA) (fun _ => rdl_pure _))
theorem ro_154 {ch cd : ByteArray} {f k : Nat} (hA : Pc ch cd f) (hb : ∃ h : k < ch.size, ch[k].toNat = 154) : Rdla ch cd f k := by
  unfold Rdla Decoder.instr
  refine rdl_at (b := 154) hA hb ?_
  first
    | exact rdl_bind (rdl_u2 hA) (fun _ => rdl_pure _)
    | exact rdl_bind (rdl_s2 hA) (fun _ => rdl_pure _)
    | exact rdl_bind (rdl_u1 hA) (fun _ => rdl_bind (rdl_s1 hA) (fun _ => rdl_pure _))
theorem ro_159 {ch cd : ByteArray} {f k : Nat} (hA : Pc ch cd f) (hb : ∃ h : k < ch.size, ch[k].toNat = 159) : Rdla ch cd f k := by
  unfold Rdla Decoder.instr
  refine rdl_at (b := 159) hA hb ?_
  first
    | exact rdl_bind (rdl_u2 hA) (fun _ => rdl_pure _)
    | exact rdl_bind (rdl_s2 hA) (fun _ => rdl_pure _)
    | exact rdl_bind (rdl_u1 hA) (fun _ => rdl_bind (rdl_s1 hA) (fun _ => rdl_pure _))
theorem ro_163 {ch cd : ByteArray} {f k : Nat} (hA : Pc ch cd f) (hb : ∃ h : k < ch.size, ch[k].toNat = 163) : Rdla ch cd f k := by
  unfold Rdla Decoder.instr
  refine rdl_at (b := 163) hA hb ?_
  first
    | exact rdl_bind (rdl_u2 hA) (fun _ => rdl_pure _)
    | exact rdl_bind (rdl_s2 hA) (fun _ => rdl_pure _)
    | exact rdl_bind (rdl_u1 hA) (fun _ => rdl_bind (rdl_s1 hA) (fun _ => rdl_pure _))
theorem ro_167 {ch cd : ByteArray} {f k : Nat} (hA : Pc ch cd f) (hb : ∃ h : k < ch.size, ch[k].toNat = 167) : Rdla ch cd f k := by
  unfold Rdla Decoder.instr
  refine rdl_at (b := 167) hA hb ?_
  first
    | exact rdl_bind (rdl_u2 hA) (fun _ => rdl_pure _)
    | exact rdl_bind (rdl_s2 hA) (fun _ => rdl_pure _)
    | exact rdl_bind (rdl_u1 hA) (fun _ => rdl_bind (rdl_s1 hA) (fun _ => rdl_pure _))
theorem ro_172 {ch cd : ByteArray} {f k : Nat} (hA : Pc ch cd f) (hb : ∃ h : k < ch.size, ch[k].toNat = 172) : Rdla ch cd f k := by
  unfold Rdla Decoder.instr
  refine rdl_at (b := 172) hA hb ?_
  first
    | exact rdl_pure _
theorem ro_182 {ch cd : ByteArray} {f k : Nat} (hA : Pc ch cd f) (hb : ∃ h : k < ch.size, ch[k].toNat = 182) : Rdla ch cd f k := by
  unfold Rdla Decoder.instr
  refine rdl_at (b := 182) hA hb ?_
  first
    | exact rdl_bind (rdl_u2 hA) (fun _ => rdl_pure _)
    | exact rdl_bind (rdl_s2 hA) (fun _ => rdl_pure _)
    | exact rdl_bind (rdl_u1 hA) (fun _ => rdl_bind (rdl_s1 hA) (fun _ => rdl_pure _))
theorem ro_183 {ch cd : ByteArray} {f k : Nat} (hA : Pc ch cd f) (hb : ∃ h : k < ch.size, ch[k].toNat = 183) : Rdla ch cd f k := by
  unfold Rdla Decoder.instr
  refine rdl_at (b := 183) hA hb ?_
  first
    | exact rdl_bind (rdl_u2 hA) (fun _ => rdl_pure _)
    | exact rdl_bind (rdl_s2 hA) (fun _ => rdl_pure _)
    | exact rdl_bind (rdl_u1 hA) (fun _ => rdl_bind (rdl_s1 hA) (fun _ => rdl_pure _))
theorem ro_184 {ch cd : ByteArray} {f k : Nat} (hA : Pc ch cd f) (hb : ∃ h : k < ch.size, ch[k].toNat = 184) : Rdla ch cd f k := by
  unfold Rdla Decoder.instr
  refine rdl_at (b := 184) hA hb ?_
  first
    | exact rdl_bind (rdl_u2 hA) (fun _ => rdl_pure _)
    | exact rdl_bind (rdl_s2 hA) (fun _ => rdl_pure _)
    | exact rdl_bind (rdl_u1 hA) (fun _ => rdl_bind (rdl_s1 hA) (fun _ => rdl_pure _))
theorem ro_187 {ch cd : ByteArray} {f k : Nat} (hA : Pc ch cd f) (hb : ∃ h : k < ch.size, ch[k].toNat = 187) : Rdla ch cd f k := by
  unfold Rdla Decoder.instr
  refine rdl_at (b := 187) hA hb ?_
  first
    | exact rdl_bind (rdl_u2 hA) (fun _ => rdl_pure _)
    | exact rdl_bind (rdl_s2 hA) (fun _ => rdl_pure _)
    | exact rdl_bind (rdl_u1 hA) (fun _ => rdl_bind (rdl_s1 hA) (fun _ => rdl_pure _))
theorem ro_188 {ch cd : ByteArray} {f k : Nat} (hA : Pc ch cd f) (hb : ∃ h : k < ch.size, ch[k].toNat = 188) : Rdla ch cd f k := by
  unfold Rdla Decoder.instr
  refine rdl_at (b := 188) hA hb ?_
  first
    | exact rdl_bind (rdl_u1 hA) (fun _ => rdl_pure _)
    | exact rdl_bind (rdl_s1 hA) (fun _ => rdl_pure _)
    | exact rdl_bind (rdl_u1 hA) (fun b9 => by
      repeat' split
      all_goals first | exact rdl_pure _ | (intro p9 a9 q9 h9; cases h9))
theorem ro_190 {ch cd : ByteArray} {f k : Nat} (hA : Pc ch cd f) (hb : ∃ h : k < ch.size, ch[k].toNat = 190) : Rdla ch cd f k := by
  unfold Rdla Decoder.instr
  refine rdl_at (b := 190) hA hb ?_
  first
    | exact rdl_pure _
def lc_0 : ByteArray := .mk #[0xbb, 0x00, 0x08, 0x59, 0xb7, 0x00, 0x78, 0x4c, 0xbb, 0x00, 0x79, 0x59, 0xb7, 0x00, 0x7b, 0x4d, 0x04, 0xbc, 0x0b, 0x4e, 0x04, 0xbc, 0x07, 0x3a, 0x04, 0x03, 0x36, 0x05, 0x15, 0x05, 0x2a, 0xbe, 0x10, 0x06, 0x64, 0xa3, 0x06, 0xb9, 0x2a, 0x15, 0x05, 0x2e, 0x10, 0x3f, 0x7e, 0xaa, 0x00, 0x00, 0x00, 0x00, 0x06, 0xa9, 0x00, 0x00, 0x00, 0x00, 0x00, 0x00, 0x00, 0x22, 0x00, 0x00, 0x00, 0x9b, 0x00, 0x00, 0x00, 0xdf, 0x00, 0x00, 0x01, 0x13]
theorem lp_0 : Pc lc_0 cL_law 0 := Pc_of (n := 72) (by decide +kernel)
theorem lg_0 : ([(0, 187, .ok (.new 8, 3)), (3, 89, .ok (.dup, 1)), (4, 183, .ok (.invokespecial 120, 3)), (7, 76, .ok (.astore_n 1, 1)), (8, 187, .ok (.new 121, 3)), (11, 89, .ok (.dup, 1)), (12, 183, .ok (.invokespecial 123, 3)), (15, 77, .ok (.astore_n 2, 1)), (16, 4, .ok (.iconst 1, 1)), (17, 188, .ok (.newarray .long, 2)), (19, 78, .ok (.astore_n 3, 1)), (20, 4, .ok (.iconst 1, 1)), (21, 188, .ok (.newarray .double, 2)), (23, 58, .ok (.astore 4, 2)), (25, 3, .ok (.iconst 0, 1)), (26, 54, .ok (.istore 5, 2)), (28, 21, .ok (.iload 5, 2)), (30, 42, .ok (.aload_n 0, 1)), (31, 190, .ok (.arraylength, 1)), (32, 16, .ok (.bipush 6, 2)), (34, 100, .ok (.isub, 1)), (35, 163, .ok (.if_icmp .gt 1721, 3)), (38, 42, .ok (.aload_n 0, 1)), (39, 21, .ok (.iload 5, 2)), (41, 46, .ok (.iaload, 1)), (42, 16, .ok (.bipush 63, 2)), (44, 126, .ok (.iand, 1))] : List (Nat × UInt8 × Except DecodeError (Instr × Nat))).all (fun q => decide (decode lc_0 q.1 = q.2.2) && decide (lc_0.data.toList[q.1]? = some q.2.1)) = true := by decide +kernel
theorem dL_law_0 : decode cL_law 0 = .ok (.new 8, 3) := by
  have h := two_at (all_at lg_0 0 (a := (0, 187, .ok (.new 8, 3))) rfl)
  exact dec_row (f := 0) (k := 0) (ro_187 lp_0 (byte_at h.2)) h.1
theorem dL_law_3 : decode cL_law 3 = .ok (.dup, 1) := by
  have h := two_at (all_at lg_0 1 (a := (3, 89, .ok (.dup, 1))) rfl)
  exact dec_row (f := 0) (k := 3) (ro_89 lp_0 (byte_at h.2)) h.1
theorem dL_law_4 : decode cL_law 4 = .ok (.invokespecial 120, 3) := by
  have h := two_at (all_at lg_0 2 (a := (4, 183, .ok (.invokespecial 120, 3))) rfl)
  exact dec_row (f := 0) (k := 4) (ro_183 lp_0 (byte_at h.2)) h.1
theorem dL_law_7 : decode cL_law 7 = .ok (.astore_n 1, 1) := by
  have h := two_at (all_at lg_0 3 (a := (7, 76, .ok (.astore_n 1, 1))) rfl)
  exact dec_row (f := 0) (k := 7) (ro_76 lp_0 (byte_at h.2)) h.1
theorem dL_law_8 : decode cL_law 8 = .ok (.new 121, 3) := by
  have h := two_at (all_at lg_0 4 (a := (8, 187, .ok (.new 121, 3))) rfl)
  exact dec_row (f := 0) (k := 8) (ro_187 lp_0 (byte_at h.2)) h.1
theorem dL_law_11 : decode cL_law 11 = .ok (.dup, 1) := by
  have h := two_at (all_at lg_0 5 (a := (11, 89, .ok (.dup, 1))) rfl)
  exact dec_row (f := 0) (k := 11) (ro_89 lp_0 (byte_at h.2)) h.1
theorem dL_law_12 : decode cL_law 12 = .ok (.invokespecial 123, 3) := by
  have h := two_at (all_at lg_0 6 (a := (12, 183, .ok (.invokespecial 123, 3))) rfl)
  exact dec_row (f := 0) (k := 12) (ro_183 lp_0 (byte_at h.2)) h.1
theorem dL_law_15 : decode cL_law 15 = .ok (.astore_n 2, 1) := by
  have h := two_at (all_at lg_0 7 (a := (15, 77, .ok (.astore_n 2, 1))) rfl)
  exact dec_row (f := 0) (k := 15) (ro_77 lp_0 (byte_at h.2)) h.1
theorem dL_law_16 : decode cL_law 16 = .ok (.iconst 1, 1) := by
  have h := two_at (all_at lg_0 8 (a := (16, 4, .ok (.iconst 1, 1))) rfl)
  exact dec_row (f := 0) (k := 16) (ro_4 lp_0 (byte_at h.2)) h.1
theorem dL_law_17 : decode cL_law 17 = .ok (.newarray .long, 2) := by
  have h := two_at (all_at lg_0 9 (a := (17, 188, .ok (.newarray .long, 2))) rfl)
  exact dec_row (f := 0) (k := 17) (ro_188 lp_0 (byte_at h.2)) h.1
theorem dL_law_19 : decode cL_law 19 = .ok (.astore_n 3, 1) := by
  have h := two_at (all_at lg_0 10 (a := (19, 78, .ok (.astore_n 3, 1))) rfl)
  exact dec_row (f := 0) (k := 19) (ro_78 lp_0 (byte_at h.2)) h.1
theorem dL_law_20 : decode cL_law 20 = .ok (.iconst 1, 1) := by
  have h := two_at (all_at lg_0 11 (a := (20, 4, .ok (.iconst 1, 1))) rfl)
  exact dec_row (f := 0) (k := 20) (ro_4 lp_0 (byte_at h.2)) h.1
theorem dL_law_21 : decode cL_law 21 = .ok (.newarray .double, 2) := by
  have h := two_at (all_at lg_0 12 (a := (21, 188, .ok (.newarray .double, 2))) rfl)
  exact dec_row (f := 0) (k := 21) (ro_188 lp_0 (byte_at h.2)) h.1
theorem dL_law_23 : decode cL_law 23 = .ok (.astore 4, 2) := by
  have h := two_at (all_at lg_0 13 (a := (23, 58, .ok (.astore 4, 2))) rfl)
  exact dec_row (f := 0) (k := 23) (ro_58 lp_0 (byte_at h.2)) h.1
theorem dL_law_25 : decode cL_law 25 = .ok (.iconst 0, 1) := by
  have h := two_at (all_at lg_0 14 (a := (25, 3, .ok (.iconst 0, 1))) rfl)
  exact dec_row (f := 0) (k := 25) (ro_3 lp_0 (byte_at h.2)) h.1
theorem dL_law_26 : decode cL_law 26 = .ok (.istore 5, 2) := by
  have h := two_at (all_at lg_0 15 (a := (26, 54, .ok (.istore 5, 2))) rfl)
  exact dec_row (f := 0) (k := 26) (ro_54 lp_0 (byte_at h.2)) h.1
theorem dL_law_28 : decode cL_law 28 = .ok (.iload 5, 2) := by
  have h := two_at (all_at lg_0 16 (a := (28, 21, .ok (.iload 5, 2))) rfl)
  exact dec_row (f := 0) (k := 28) (ro_21 lp_0 (byte_at h.2)) h.1
theorem dL_law_30 : decode cL_law 30 = .ok (.aload_n 0, 1) := by
  have h := two_at (all_at lg_0 17 (a := (30, 42, .ok (.aload_n 0, 1))) rfl)
  exact dec_row (f := 0) (k := 30) (ro_42 lp_0 (byte_at h.2)) h.1
theorem dL_law_31 : decode cL_law 31 = .ok (.arraylength, 1) := by
  have h := two_at (all_at lg_0 18 (a := (31, 190, .ok (.arraylength, 1))) rfl)
  exact dec_row (f := 0) (k := 31) (ro_190 lp_0 (byte_at h.2)) h.1
theorem dL_law_32 : decode cL_law 32 = .ok (.bipush 6, 2) := by
  have h := two_at (all_at lg_0 19 (a := (32, 16, .ok (.bipush 6, 2))) rfl)
  exact dec_row (f := 0) (k := 32) (ro_16 lp_0 (byte_at h.2)) h.1
theorem dL_law_34 : decode cL_law 34 = .ok (.isub, 1) := by
  have h := two_at (all_at lg_0 20 (a := (34, 100, .ok (.isub, 1))) rfl)
  exact dec_row (f := 0) (k := 34) (ro_100 lp_0 (byte_at h.2)) h.1
theorem dL_law_35 : decode cL_law 35 = .ok (.if_icmp .gt 1721, 3) := by
  have h := two_at (all_at lg_0 21 (a := (35, 163, .ok (.if_icmp .gt 1721, 3))) rfl)
  exact dec_row (f := 0) (k := 35) (ro_163 lp_0 (byte_at h.2)) h.1
theorem dL_law_38 : decode cL_law 38 = .ok (.aload_n 0, 1) := by
  have h := two_at (all_at lg_0 22 (a := (38, 42, .ok (.aload_n 0, 1))) rfl)
  exact dec_row (f := 0) (k := 38) (ro_42 lp_0 (byte_at h.2)) h.1
theorem dL_law_39 : decode cL_law 39 = .ok (.iload 5, 2) := by
  have h := two_at (all_at lg_0 23 (a := (39, 21, .ok (.iload 5, 2))) rfl)
  exact dec_row (f := 0) (k := 39) (ro_21 lp_0 (byte_at h.2)) h.1
theorem dL_law_41 : decode cL_law 41 = .ok (.iaload, 1) := by
  have h := two_at (all_at lg_0 24 (a := (41, 46, .ok (.iaload, 1))) rfl)
  exact dec_row (f := 0) (k := 41) (ro_46 lp_0 (byte_at h.2)) h.1
theorem dL_law_42 : decode cL_law 42 = .ok (.bipush 63, 2) := by
  have h := two_at (all_at lg_0 25 (a := (42, 16, .ok (.bipush 63, 2))) rfl)
  exact dec_row (f := 0) (k := 42) (ro_16 lp_0 (byte_at h.2)) h.1
theorem dL_law_44 : decode cL_law 44 = .ok (.iand, 1) := by
  have h := two_at (all_at lg_0 26 (a := (44, 126, .ok (.iand, 1))) rfl)
  exact dec_row (f := 0) (k := 44) (ro_126 lp_0 (byte_at h.2)) h.1
def lc_3 : ByteArray := .mk #[0x00, 0x00, 0x06, 0x74, 0x00, 0x00, 0x06, 0x9c, 0x2b, 0x2a, 0x15, 0x05, 0x04, 0x60, 0x2e, 0x2a, 0x15, 0x05, 0x05, 0x60, 0x2e, 0x2a, 0x15, 0x05, 0x06, 0x60, 0x2e, 0x99, 0x00, 0x07, 0x04, 0xa7, 0x00, 0x04, 0x03, 0x2d, 0xb8, 0x00, 0x7c, 0x36, 0x06, 0x2c, 0x2a, 0x15, 0x05, 0x04, 0x60, 0x2e, 0x2a, 0x15, 0x05, 0x05, 0x60, 0x2e, 0x2a, 0x15, 0x05, 0x06, 0x60, 0x2e, 0x99, 0x00, 0x07, 0x04, 0xa7, 0x00, 0x04, 0x03, 0xb6, 0x00, 0x81, 0x36]
theorem lp_3 : Pc lc_3 cL_law 192 := Pc_of (n := 72) (by decide +kernel)
theorem lg_3 : ([(8, 43, .ok (.aload_n 1, 1)), (9, 42, .ok (.aload_n 0, 1)), (10, 21, .ok (.iload 5, 2)), (12, 4, .ok (.iconst 1, 1)), (13, 96, .ok (.iadd, 1)), (14, 46, .ok (.iaload, 1)), (15, 42, .ok (.aload_n 0, 1)), (16, 21, .ok (.iload 5, 2)), (18, 5, .ok (.iconst 2, 1)), (19, 96, .ok (.iadd, 1)), (20, 46, .ok (.iaload, 1)), (21, 42, .ok (.aload_n 0, 1)), (22, 21, .ok (.iload 5, 2)), (24, 6, .ok (.iconst 3, 1)), (25, 96, .ok (.iadd, 1)), (26, 46, .ok (.iaload, 1)), (27, 153, .ok (.ifCond .eq 7, 3)), (30, 4, .ok (.iconst 1, 1)), (31, 167, .ok (.goto 4, 3)), (34, 3, .ok (.iconst 0, 1)), (35, 45, .ok (.aload_n 3, 1)), (36, 184, .ok (.invokestatic 124, 3)), (39, 54, .ok (.istore 6, 2)), (41, 44, .ok (.aload_n 2, 1)), (42, 42, .ok (.aload_n 0, 1)), (43, 21, .ok (.iload 5, 2)), (45, 4, .ok (.iconst 1, 1)), (46, 96, .ok (.iadd, 1)), (47, 46, .ok (.iaload, 1)), (48, 42, .ok (.aload_n 0, 1)), (49, 21, .ok (.iload 5, 2)), (51, 5, .ok (.iconst 2, 1)), (52, 96, .ok (.iadd, 1)), (53, 46, .ok (.iaload, 1)), (54, 42, .ok (.aload_n 0, 1)), (55, 21, .ok (.iload 5, 2)), (57, 6, .ok (.iconst 3, 1)), (58, 96, .ok (.iadd, 1)), (59, 46, .ok (.iaload, 1)), (60, 153, .ok (.ifCond .eq 7, 3)), (63, 4, .ok (.iconst 1, 1))] : List (Nat × UInt8 × Except DecodeError (Instr × Nat))).all (fun q => decide (decode lc_3 q.1 = q.2.2) && decide (lc_3.data.toList[q.1]? = some q.2.1)) = true := by decide +kernel
theorem dL_law_200 : decode cL_law 200 = .ok (.aload_n 1, 1) := by
  have h := two_at (all_at lg_3 0 (a := (8, 43, .ok (.aload_n 1, 1))) rfl)
  exact dec_row (f := 192) (k := 8) (ro_43 lp_3 (byte_at h.2)) h.1
theorem dL_law_201 : decode cL_law 201 = .ok (.aload_n 0, 1) := by
  have h := two_at (all_at lg_3 1 (a := (9, 42, .ok (.aload_n 0, 1))) rfl)
  exact dec_row (f := 192) (k := 9) (ro_42 lp_3 (byte_at h.2)) h.1
theorem dL_law_202 : decode cL_law 202 = .ok (.iload 5, 2) := by
  have h := two_at (all_at lg_3 2 (a := (10, 21, .ok (.iload 5, 2))) rfl)
  exact dec_row (f := 192) (k := 10) (ro_21 lp_3 (byte_at h.2)) h.1
theorem dL_law_204 : decode cL_law 204 = .ok (.iconst 1, 1) := by
  have h := two_at (all_at lg_3 3 (a := (12, 4, .ok (.iconst 1, 1))) rfl)
  exact dec_row (f := 192) (k := 12) (ro_4 lp_3 (byte_at h.2)) h.1
theorem dL_law_205 : decode cL_law 205 = .ok (.iadd, 1) := by
  have h := two_at (all_at lg_3 4 (a := (13, 96, .ok (.iadd, 1))) rfl)
  exact dec_row (f := 192) (k := 13) (ro_96 lp_3 (byte_at h.2)) h.1
theorem dL_law_206 : decode cL_law 206 = .ok (.iaload, 1) := by
  have h := two_at (all_at lg_3 5 (a := (14, 46, .ok (.iaload, 1))) rfl)
  exact dec_row (f := 192) (k := 14) (ro_46 lp_3 (byte_at h.2)) h.1
theorem dL_law_207 : decode cL_law 207 = .ok (.aload_n 0, 1) := by
  have h := two_at (all_at lg_3 6 (a := (15, 42, .ok (.aload_n 0, 1))) rfl)
  exact dec_row (f := 192) (k := 15) (ro_42 lp_3 (byte_at h.2)) h.1
theorem dL_law_208 : decode cL_law 208 = .ok (.iload 5, 2) := by
  have h := two_at (all_at lg_3 7 (a := (16, 21, .ok (.iload 5, 2))) rfl)
  exact dec_row (f := 192) (k := 16) (ro_21 lp_3 (byte_at h.2)) h.1
theorem dL_law_210 : decode cL_law 210 = .ok (.iconst 2, 1) := by
  have h := two_at (all_at lg_3 8 (a := (18, 5, .ok (.iconst 2, 1))) rfl)
  exact dec_row (f := 192) (k := 18) (ro_5 lp_3 (byte_at h.2)) h.1
theorem dL_law_211 : decode cL_law 211 = .ok (.iadd, 1) := by
  have h := two_at (all_at lg_3 9 (a := (19, 96, .ok (.iadd, 1))) rfl)
  exact dec_row (f := 192) (k := 19) (ro_96 lp_3 (byte_at h.2)) h.1
theorem dL_law_212 : decode cL_law 212 = .ok (.iaload, 1) := by
  have h := two_at (all_at lg_3 10 (a := (20, 46, .ok (.iaload, 1))) rfl)
  exact dec_row (f := 192) (k := 20) (ro_46 lp_3 (byte_at h.2)) h.1
theorem dL_law_213 : decode cL_law 213 = .ok (.aload_n 0, 1) := by
  have h := two_at (all_at lg_3 11 (a := (21, 42, .ok (.aload_n 0, 1))) rfl)
  exact dec_row (f := 192) (k := 21) (ro_42 lp_3 (byte_at h.2)) h.1
theorem dL_law_214 : decode cL_law 214 = .ok (.iload 5, 2) := by
  have h := two_at (all_at lg_3 12 (a := (22, 21, .ok (.iload 5, 2))) rfl)
  exact dec_row (f := 192) (k := 22) (ro_21 lp_3 (byte_at h.2)) h.1
theorem dL_law_216 : decode cL_law 216 = .ok (.iconst 3, 1) := by
  have h := two_at (all_at lg_3 13 (a := (24, 6, .ok (.iconst 3, 1))) rfl)
  exact dec_row (f := 192) (k := 24) (ro_6 lp_3 (byte_at h.2)) h.1
theorem dL_law_217 : decode cL_law 217 = .ok (.iadd, 1) := by
  have h := two_at (all_at lg_3 14 (a := (25, 96, .ok (.iadd, 1))) rfl)
  exact dec_row (f := 192) (k := 25) (ro_96 lp_3 (byte_at h.2)) h.1
theorem dL_law_218 : decode cL_law 218 = .ok (.iaload, 1) := by
  have h := two_at (all_at lg_3 15 (a := (26, 46, .ok (.iaload, 1))) rfl)
  exact dec_row (f := 192) (k := 26) (ro_46 lp_3 (byte_at h.2)) h.1
theorem dL_law_219 : decode cL_law 219 = .ok (.ifCond .eq 7, 3) := by
  have h := two_at (all_at lg_3 16 (a := (27, 153, .ok (.ifCond .eq 7, 3))) rfl)
  exact dec_row (f := 192) (k := 27) (ro_153 lp_3 (byte_at h.2)) h.1
theorem dL_law_222 : decode cL_law 222 = .ok (.iconst 1, 1) := by
  have h := two_at (all_at lg_3 17 (a := (30, 4, .ok (.iconst 1, 1))) rfl)
  exact dec_row (f := 192) (k := 30) (ro_4 lp_3 (byte_at h.2)) h.1
theorem dL_law_223 : decode cL_law 223 = .ok (.goto 4, 3) := by
  have h := two_at (all_at lg_3 18 (a := (31, 167, .ok (.goto 4, 3))) rfl)
  exact dec_row (f := 192) (k := 31) (ro_167 lp_3 (byte_at h.2)) h.1
theorem dL_law_226 : decode cL_law 226 = .ok (.iconst 0, 1) := by
  have h := two_at (all_at lg_3 19 (a := (34, 3, .ok (.iconst 0, 1))) rfl)
  exact dec_row (f := 192) (k := 34) (ro_3 lp_3 (byte_at h.2)) h.1
theorem dL_law_227 : decode cL_law 227 = .ok (.aload_n 3, 1) := by
  have h := two_at (all_at lg_3 20 (a := (35, 45, .ok (.aload_n 3, 1))) rfl)
  exact dec_row (f := 192) (k := 35) (ro_45 lp_3 (byte_at h.2)) h.1
theorem dL_law_228 : decode cL_law 228 = .ok (.invokestatic 124, 3) := by
  have h := two_at (all_at lg_3 21 (a := (36, 184, .ok (.invokestatic 124, 3))) rfl)
  exact dec_row (f := 192) (k := 36) (ro_184 lp_3 (byte_at h.2)) h.1
theorem dL_law_231 : decode cL_law 231 = .ok (.istore 6, 2) := by
  have h := two_at (all_at lg_3 22 (a := (39, 54, .ok (.istore 6, 2))) rfl)
  exact dec_row (f := 192) (k := 39) (ro_54 lp_3 (byte_at h.2)) h.1
theorem dL_law_233 : decode cL_law 233 = .ok (.aload_n 2, 1) := by
  have h := two_at (all_at lg_3 23 (a := (41, 44, .ok (.aload_n 2, 1))) rfl)
  exact dec_row (f := 192) (k := 41) (ro_44 lp_3 (byte_at h.2)) h.1
theorem dL_law_234 : decode cL_law 234 = .ok (.aload_n 0, 1) := by
  have h := two_at (all_at lg_3 24 (a := (42, 42, .ok (.aload_n 0, 1))) rfl)
  exact dec_row (f := 192) (k := 42) (ro_42 lp_3 (byte_at h.2)) h.1
theorem dL_law_235 : decode cL_law 235 = .ok (.iload 5, 2) := by
  have h := two_at (all_at lg_3 25 (a := (43, 21, .ok (.iload 5, 2))) rfl)
  exact dec_row (f := 192) (k := 43) (ro_21 lp_3 (byte_at h.2)) h.1
theorem dL_law_237 : decode cL_law 237 = .ok (.iconst 1, 1) := by
  have h := two_at (all_at lg_3 26 (a := (45, 4, .ok (.iconst 1, 1))) rfl)
  exact dec_row (f := 192) (k := 45) (ro_4 lp_3 (byte_at h.2)) h.1
theorem dL_law_238 : decode cL_law 238 = .ok (.iadd, 1) := by
  have h := two_at (all_at lg_3 27 (a := (46, 96, .ok (.iadd, 1))) rfl)
  exact dec_row (f := 192) (k := 46) (ro_96 lp_3 (byte_at h.2)) h.1
theorem dL_law_239 : decode cL_law 239 = .ok (.iaload, 1) := by
  have h := two_at (all_at lg_3 28 (a := (47, 46, .ok (.iaload, 1))) rfl)
  exact dec_row (f := 192) (k := 47) (ro_46 lp_3 (byte_at h.2)) h.1
theorem dL_law_240 : decode cL_law 240 = .ok (.aload_n 0, 1) := by
  have h := two_at (all_at lg_3 29 (a := (48, 42, .ok (.aload_n 0, 1))) rfl)
  exact dec_row (f := 192) (k := 48) (ro_42 lp_3 (byte_at h.2)) h.1
theorem dL_law_241 : decode cL_law 241 = .ok (.iload 5, 2) := by
  have h := two_at (all_at lg_3 30 (a := (49, 21, .ok (.iload 5, 2))) rfl)
  exact dec_row (f := 192) (k := 49) (ro_21 lp_3 (byte_at h.2)) h.1
theorem dL_law_243 : decode cL_law 243 = .ok (.iconst 2, 1) := by
  have h := two_at (all_at lg_3 31 (a := (51, 5, .ok (.iconst 2, 1))) rfl)
  exact dec_row (f := 192) (k := 51) (ro_5 lp_3 (byte_at h.2)) h.1
theorem dL_law_244 : decode cL_law 244 = .ok (.iadd, 1) := by
  have h := two_at (all_at lg_3 32 (a := (52, 96, .ok (.iadd, 1))) rfl)
  exact dec_row (f := 192) (k := 52) (ro_96 lp_3 (byte_at h.2)) h.1
theorem dL_law_245 : decode cL_law 245 = .ok (.iaload, 1) := by
  have h := two_at (all_at lg_3 33 (a := (53, 46, .ok (.iaload, 1))) rfl)
  exact dec_row (f := 192) (k := 53) (ro_46 lp_3 (byte_at h.2)) h.1
theorem dL_law_246 : decode cL_law 246 = .ok (.aload_n 0, 1) := by
  have h := two_at (all_at lg_3 34 (a := (54, 42, .ok (.aload_n 0, 1))) rfl)
  exact dec_row (f := 192) (k := 54) (ro_42 lp_3 (byte_at h.2)) h.1
theorem dL_law_247 : decode cL_law 247 = .ok (.iload 5, 2) := by
  have h := two_at (all_at lg_3 35 (a := (55, 21, .ok (.iload 5, 2))) rfl)
  exact dec_row (f := 192) (k := 55) (ro_21 lp_3 (byte_at h.2)) h.1
theorem dL_law_249 : decode cL_law 249 = .ok (.iconst 3, 1) := by
  have h := two_at (all_at lg_3 36 (a := (57, 6, .ok (.iconst 3, 1))) rfl)
  exact dec_row (f := 192) (k := 57) (ro_6 lp_3 (byte_at h.2)) h.1
theorem dL_law_250 : decode cL_law 250 = .ok (.iadd, 1) := by
  have h := two_at (all_at lg_3 37 (a := (58, 96, .ok (.iadd, 1))) rfl)
  exact dec_row (f := 192) (k := 58) (ro_96 lp_3 (byte_at h.2)) h.1
theorem dL_law_251 : decode cL_law 251 = .ok (.iaload, 1) := by
  have h := two_at (all_at lg_3 38 (a := (59, 46, .ok (.iaload, 1))) rfl)
  exact dec_row (f := 192) (k := 59) (ro_46 lp_3 (byte_at h.2)) h.1
theorem dL_law_252 : decode cL_law 252 = .ok (.ifCond .eq 7, 3) := by
  have h := two_at (all_at lg_3 39 (a := (60, 153, .ok (.ifCond .eq 7, 3))) rfl)
  exact dec_row (f := 192) (k := 60) (ro_153 lp_3 (byte_at h.2)) h.1
theorem dL_law_255 : decode cL_law 255 = .ok (.iconst 1, 1) := by
  have h := two_at (all_at lg_3 40 (a := (63, 4, .ok (.iconst 1, 1))) rfl)
  exact dec_row (f := 192) (k := 63) (ro_4 lp_3 (byte_at h.2)) h.1
def lc_4 : ByteArray := .mk #[0xa7, 0x00, 0x04, 0x03, 0xb6, 0x00, 0x81, 0x36, 0x07, 0xa7, 0x05, 0xcd, 0x2b, 0x2a, 0x15, 0x05, 0x04, 0x60, 0x2e, 0x2a, 0x15, 0x05, 0x05, 0x60, 0x2e, 0x2a, 0x15, 0x05, 0x06, 0x60, 0x2e, 0x2d, 0xb8, 0x00, 0x82, 0x36, 0x06, 0x2c, 0x2a, 0x15, 0x05, 0x04, 0x60, 0x2e, 0x2a, 0x15, 0x05, 0x05, 0x60, 0x2e, 0x2a, 0x15, 0x05, 0x06, 0x60, 0x2e, 0xb6, 0x00, 0x85, 0x36, 0x07, 0xa7, 0x05, 0x99, 0x2b, 0x2a, 0x15, 0x05, 0x04, 0x60, 0x2e, 0x2a]
theorem lp_4 : Pc lc_4 cL_law 256 := Pc_of (n := 72) (by decide +kernel)
theorem lg_4 : ([(0, 167, .ok (.goto 4, 3)), (3, 3, .ok (.iconst 0, 1)), (4, 182, .ok (.invokevirtual 129, 3)), (7, 54, .ok (.istore 7, 2)), (9, 167, .ok (.goto 1485, 3)), (12, 43, .ok (.aload_n 1, 1)), (13, 42, .ok (.aload_n 0, 1)), (14, 21, .ok (.iload 5, 2)), (16, 4, .ok (.iconst 1, 1)), (17, 96, .ok (.iadd, 1)), (18, 46, .ok (.iaload, 1)), (19, 42, .ok (.aload_n 0, 1)), (20, 21, .ok (.iload 5, 2)), (22, 5, .ok (.iconst 2, 1)), (23, 96, .ok (.iadd, 1)), (24, 46, .ok (.iaload, 1)), (25, 42, .ok (.aload_n 0, 1)), (26, 21, .ok (.iload 5, 2)), (28, 6, .ok (.iconst 3, 1)), (29, 96, .ok (.iadd, 1)), (30, 46, .ok (.iaload, 1)), (31, 45, .ok (.aload_n 3, 1)), (32, 184, .ok (.invokestatic 130, 3)), (35, 54, .ok (.istore 6, 2)), (37, 44, .ok (.aload_n 2, 1)), (38, 42, .ok (.aload_n 0, 1)), (39, 21, .ok (.iload 5, 2)), (41, 4, .ok (.iconst 1, 1)), (42, 96, .ok (.iadd, 1)), (43, 46, .ok (.iaload, 1)), (44, 42, .ok (.aload_n 0, 1)), (45, 21, .ok (.iload 5, 2)), (47, 5, .ok (.iconst 2, 1)), (48, 96, .ok (.iadd, 1)), (49, 46, .ok (.iaload, 1)), (50, 42, .ok (.aload_n 0, 1)), (51, 21, .ok (.iload 5, 2)), (53, 6, .ok (.iconst 3, 1)), (54, 96, .ok (.iadd, 1)), (55, 46, .ok (.iaload, 1)), (56, 182, .ok (.invokevirtual 133, 3)), (59, 54, .ok (.istore 7, 2)), (61, 167, .ok (.goto 1433, 3))] : List (Nat × UInt8 × Except DecodeError (Instr × Nat))).all (fun q => decide (decode lc_4 q.1 = q.2.2) && decide (lc_4.data.toList[q.1]? = some q.2.1)) = true := by decide +kernel
theorem dL_law_256 : decode cL_law 256 = .ok (.goto 4, 3) := by
  have h := two_at (all_at lg_4 0 (a := (0, 167, .ok (.goto 4, 3))) rfl)
  exact dec_row (f := 256) (k := 0) (ro_167 lp_4 (byte_at h.2)) h.1
theorem dL_law_259 : decode cL_law 259 = .ok (.iconst 0, 1) := by
  have h := two_at (all_at lg_4 1 (a := (3, 3, .ok (.iconst 0, 1))) rfl)
  exact dec_row (f := 256) (k := 3) (ro_3 lp_4 (byte_at h.2)) h.1
theorem dL_law_260 : decode cL_law 260 = .ok (.invokevirtual 129, 3) := by
  have h := two_at (all_at lg_4 2 (a := (4, 182, .ok (.invokevirtual 129, 3))) rfl)
  exact dec_row (f := 256) (k := 4) (ro_182 lp_4 (byte_at h.2)) h.1
theorem dL_law_263 : decode cL_law 263 = .ok (.istore 7, 2) := by
  have h := two_at (all_at lg_4 3 (a := (7, 54, .ok (.istore 7, 2))) rfl)
  exact dec_row (f := 256) (k := 7) (ro_54 lp_4 (byte_at h.2)) h.1
theorem dL_law_265 : decode cL_law 265 = .ok (.goto 1485, 3) := by
  have h := two_at (all_at lg_4 4 (a := (9, 167, .ok (.goto 1485, 3))) rfl)
  exact dec_row (f := 256) (k := 9) (ro_167 lp_4 (byte_at h.2)) h.1
theorem dL_law_268 : decode cL_law 268 = .ok (.aload_n 1, 1) := by
  have h := two_at (all_at lg_4 5 (a := (12, 43, .ok (.aload_n 1, 1))) rfl)
  exact dec_row (f := 256) (k := 12) (ro_43 lp_4 (byte_at h.2)) h.1
theorem dL_law_269 : decode cL_law 269 = .ok (.aload_n 0, 1) := by
  have h := two_at (all_at lg_4 6 (a := (13, 42, .ok (.aload_n 0, 1))) rfl)
  exact dec_row (f := 256) (k := 13) (ro_42 lp_4 (byte_at h.2)) h.1
theorem dL_law_270 : decode cL_law 270 = .ok (.iload 5, 2) := by
  have h := two_at (all_at lg_4 7 (a := (14, 21, .ok (.iload 5, 2))) rfl)
  exact dec_row (f := 256) (k := 14) (ro_21 lp_4 (byte_at h.2)) h.1
theorem dL_law_272 : decode cL_law 272 = .ok (.iconst 1, 1) := by
  have h := two_at (all_at lg_4 8 (a := (16, 4, .ok (.iconst 1, 1))) rfl)
  exact dec_row (f := 256) (k := 16) (ro_4 lp_4 (byte_at h.2)) h.1
theorem dL_law_273 : decode cL_law 273 = .ok (.iadd, 1) := by
  have h := two_at (all_at lg_4 9 (a := (17, 96, .ok (.iadd, 1))) rfl)
  exact dec_row (f := 256) (k := 17) (ro_96 lp_4 (byte_at h.2)) h.1
theorem dL_law_274 : decode cL_law 274 = .ok (.iaload, 1) := by
  have h := two_at (all_at lg_4 10 (a := (18, 46, .ok (.iaload, 1))) rfl)
  exact dec_row (f := 256) (k := 18) (ro_46 lp_4 (byte_at h.2)) h.1
theorem dL_law_275 : decode cL_law 275 = .ok (.aload_n 0, 1) := by
  have h := two_at (all_at lg_4 11 (a := (19, 42, .ok (.aload_n 0, 1))) rfl)
  exact dec_row (f := 256) (k := 19) (ro_42 lp_4 (byte_at h.2)) h.1
theorem dL_law_276 : decode cL_law 276 = .ok (.iload 5, 2) := by
  have h := two_at (all_at lg_4 12 (a := (20, 21, .ok (.iload 5, 2))) rfl)
  exact dec_row (f := 256) (k := 20) (ro_21 lp_4 (byte_at h.2)) h.1
theorem dL_law_278 : decode cL_law 278 = .ok (.iconst 2, 1) := by
  have h := two_at (all_at lg_4 13 (a := (22, 5, .ok (.iconst 2, 1))) rfl)
  exact dec_row (f := 256) (k := 22) (ro_5 lp_4 (byte_at h.2)) h.1
theorem dL_law_279 : decode cL_law 279 = .ok (.iadd, 1) := by
  have h := two_at (all_at lg_4 14 (a := (23, 96, .ok (.iadd, 1))) rfl)
  exact dec_row (f := 256) (k := 23) (ro_96 lp_4 (byte_at h.2)) h.1
theorem dL_law_280 : decode cL_law 280 = .ok (.iaload, 1) := by
  have h := two_at (all_at lg_4 15 (a := (24, 46, .ok (.iaload, 1))) rfl)
  exact dec_row (f := 256) (k := 24) (ro_46 lp_4 (byte_at h.2)) h.1
theorem dL_law_281 : decode cL_law 281 = .ok (.aload_n 0, 1) := by
  have h := two_at (all_at lg_4 16 (a := (25, 42, .ok (.aload_n 0, 1))) rfl)
  exact dec_row (f := 256) (k := 25) (ro_42 lp_4 (byte_at h.2)) h.1
theorem dL_law_282 : decode cL_law 282 = .ok (.iload 5, 2) := by
  have h := two_at (all_at lg_4 17 (a := (26, 21, .ok (.iload 5, 2))) rfl)
  exact dec_row (f := 256) (k := 26) (ro_21 lp_4 (byte_at h.2)) h.1
theorem dL_law_284 : decode cL_law 284 = .ok (.iconst 3, 1) := by
  have h := two_at (all_at lg_4 18 (a := (28, 6, .ok (.iconst 3, 1))) rfl)
  exact dec_row (f := 256) (k := 28) (ro_6 lp_4 (byte_at h.2)) h.1
theorem dL_law_285 : decode cL_law 285 = .ok (.iadd, 1) := by
  have h := two_at (all_at lg_4 19 (a := (29, 96, .ok (.iadd, 1))) rfl)
  exact dec_row (f := 256) (k := 29) (ro_96 lp_4 (byte_at h.2)) h.1
theorem dL_law_286 : decode cL_law 286 = .ok (.iaload, 1) := by
  have h := two_at (all_at lg_4 20 (a := (30, 46, .ok (.iaload, 1))) rfl)
  exact dec_row (f := 256) (k := 30) (ro_46 lp_4 (byte_at h.2)) h.1
theorem dL_law_287 : decode cL_law 287 = .ok (.aload_n 3, 1) := by
  have h := two_at (all_at lg_4 21 (a := (31, 45, .ok (.aload_n 3, 1))) rfl)
  exact dec_row (f := 256) (k := 31) (ro_45 lp_4 (byte_at h.2)) h.1
theorem dL_law_288 : decode cL_law 288 = .ok (.invokestatic 130, 3) := by
  have h := two_at (all_at lg_4 22 (a := (32, 184, .ok (.invokestatic 130, 3))) rfl)
  exact dec_row (f := 256) (k := 32) (ro_184 lp_4 (byte_at h.2)) h.1
theorem dL_law_291 : decode cL_law 291 = .ok (.istore 6, 2) := by
  have h := two_at (all_at lg_4 23 (a := (35, 54, .ok (.istore 6, 2))) rfl)
  exact dec_row (f := 256) (k := 35) (ro_54 lp_4 (byte_at h.2)) h.1
theorem dL_law_293 : decode cL_law 293 = .ok (.aload_n 2, 1) := by
  have h := two_at (all_at lg_4 24 (a := (37, 44, .ok (.aload_n 2, 1))) rfl)
  exact dec_row (f := 256) (k := 37) (ro_44 lp_4 (byte_at h.2)) h.1
theorem dL_law_294 : decode cL_law 294 = .ok (.aload_n 0, 1) := by
  have h := two_at (all_at lg_4 25 (a := (38, 42, .ok (.aload_n 0, 1))) rfl)
  exact dec_row (f := 256) (k := 38) (ro_42 lp_4 (byte_at h.2)) h.1
theorem dL_law_295 : decode cL_law 295 = .ok (.iload 5, 2) := by
  have h := two_at (all_at lg_4 26 (a := (39, 21, .ok (.iload 5, 2))) rfl)
  exact dec_row (f := 256) (k := 39) (ro_21 lp_4 (byte_at h.2)) h.1
theorem dL_law_297 : decode cL_law 297 = .ok (.iconst 1, 1) := by
  have h := two_at (all_at lg_4 27 (a := (41, 4, .ok (.iconst 1, 1))) rfl)
  exact dec_row (f := 256) (k := 41) (ro_4 lp_4 (byte_at h.2)) h.1
theorem dL_law_298 : decode cL_law 298 = .ok (.iadd, 1) := by
  have h := two_at (all_at lg_4 28 (a := (42, 96, .ok (.iadd, 1))) rfl)
  exact dec_row (f := 256) (k := 42) (ro_96 lp_4 (byte_at h.2)) h.1
theorem dL_law_299 : decode cL_law 299 = .ok (.iaload, 1) := by
  have h := two_at (all_at lg_4 29 (a := (43, 46, .ok (.iaload, 1))) rfl)
  exact dec_row (f := 256) (k := 43) (ro_46 lp_4 (byte_at h.2)) h.1
theorem dL_law_300 : decode cL_law 300 = .ok (.aload_n 0, 1) := by
  have h := two_at (all_at lg_4 30 (a := (44, 42, .ok (.aload_n 0, 1))) rfl)
  exact dec_row (f := 256) (k := 44) (ro_42 lp_4 (byte_at h.2)) h.1
theorem dL_law_301 : decode cL_law 301 = .ok (.iload 5, 2) := by
  have h := two_at (all_at lg_4 31 (a := (45, 21, .ok (.iload 5, 2))) rfl)
  exact dec_row (f := 256) (k := 45) (ro_21 lp_4 (byte_at h.2)) h.1
theorem dL_law_303 : decode cL_law 303 = .ok (.iconst 2, 1) := by
  have h := two_at (all_at lg_4 32 (a := (47, 5, .ok (.iconst 2, 1))) rfl)
  exact dec_row (f := 256) (k := 47) (ro_5 lp_4 (byte_at h.2)) h.1
theorem dL_law_304 : decode cL_law 304 = .ok (.iadd, 1) := by
  have h := two_at (all_at lg_4 33 (a := (48, 96, .ok (.iadd, 1))) rfl)
  exact dec_row (f := 256) (k := 48) (ro_96 lp_4 (byte_at h.2)) h.1
theorem dL_law_305 : decode cL_law 305 = .ok (.iaload, 1) := by
  have h := two_at (all_at lg_4 34 (a := (49, 46, .ok (.iaload, 1))) rfl)
  exact dec_row (f := 256) (k := 49) (ro_46 lp_4 (byte_at h.2)) h.1
theorem dL_law_306 : decode cL_law 306 = .ok (.aload_n 0, 1) := by
  have h := two_at (all_at lg_4 35 (a := (50, 42, .ok (.aload_n 0, 1))) rfl)
  exact dec_row (f := 256) (k := 50) (ro_42 lp_4 (byte_at h.2)) h.1
theorem dL_law_307 : decode cL_law 307 = .ok (.iload 5, 2) := by
  have h := two_at (all_at lg_4 36 (a := (51, 21, .ok (.iload 5, 2))) rfl)
  exact dec_row (f := 256) (k := 51) (ro_21 lp_4 (byte_at h.2)) h.1
theorem dL_law_309 : decode cL_law 309 = .ok (.iconst 3, 1) := by
  have h := two_at (all_at lg_4 37 (a := (53, 6, .ok (.iconst 3, 1))) rfl)
  exact dec_row (f := 256) (k := 53) (ro_6 lp_4 (byte_at h.2)) h.1
theorem dL_law_310 : decode cL_law 310 = .ok (.iadd, 1) := by
  have h := two_at (all_at lg_4 38 (a := (54, 96, .ok (.iadd, 1))) rfl)
  exact dec_row (f := 256) (k := 54) (ro_96 lp_4 (byte_at h.2)) h.1
theorem dL_law_311 : decode cL_law 311 = .ok (.iaload, 1) := by
  have h := two_at (all_at lg_4 39 (a := (55, 46, .ok (.iaload, 1))) rfl)
  exact dec_row (f := 256) (k := 55) (ro_46 lp_4 (byte_at h.2)) h.1
theorem dL_law_312 : decode cL_law 312 = .ok (.invokevirtual 133, 3) := by
  have h := two_at (all_at lg_4 40 (a := (56, 182, .ok (.invokevirtual 133, 3))) rfl)
  exact dec_row (f := 256) (k := 56) (ro_182 lp_4 (byte_at h.2)) h.1
theorem dL_law_315 : decode cL_law 315 = .ok (.istore 7, 2) := by
  have h := two_at (all_at lg_4 41 (a := (59, 54, .ok (.istore 7, 2))) rfl)
  exact dec_row (f := 256) (k := 59) (ro_54 lp_4 (byte_at h.2)) h.1
theorem dL_law_317 : decode cL_law 317 = .ok (.goto 1433, 3) := by
  have h := two_at (all_at lg_4 42 (a := (61, 167, .ok (.goto 1433, 3))) rfl)
  exact dec_row (f := 256) (k := 61) (ro_167 lp_4 (byte_at h.2)) h.1
def lc_5 : ByteArray := .mk #[0x2b, 0x2a, 0x15, 0x05, 0x04, 0x60, 0x2e, 0x2a, 0x15, 0x05, 0x05, 0x60, 0x2e, 0x99, 0x00, 0x07, 0x04, 0xa7, 0x00, 0x04, 0x03, 0x2d, 0xb8, 0x00, 0x86, 0x36, 0x06, 0x2c, 0x2a, 0x15, 0x05, 0x04, 0x60, 0x2e, 0x2a, 0x15, 0x05, 0x05, 0x60, 0x2e, 0x99, 0x00, 0x07, 0x04, 0xa7, 0x00, 0x04, 0x03, 0xb6, 0x00, 0x89, 0x36, 0x07, 0xa7, 0x05, 0x61, 0x2b, 0x2a, 0x15, 0x05, 0x04, 0x60, 0x2e, 0x2a, 0x15, 0x05, 0x05, 0x60, 0x2e, 0x2a, 0x15, 0x05]
theorem lp_5 : Pc lc_5 cL_law 320 := Pc_of (n := 72) (by decide +kernel)
theorem lg_5 : ([(0, 43, .ok (.aload_n 1, 1)), (1, 42, .ok (.aload_n 0, 1)), (2, 21, .ok (.iload 5, 2)), (4, 4, .ok (.iconst 1, 1)), (5, 96, .ok (.iadd, 1)), (6, 46, .ok (.iaload, 1)), (7, 42, .ok (.aload_n 0, 1)), (8, 21, .ok (.iload 5, 2)), (10, 5, .ok (.iconst 2, 1)), (11, 96, .ok (.iadd, 1)), (12, 46, .ok (.iaload, 1)), (13, 153, .ok (.ifCond .eq 7, 3)), (16, 4, .ok (.iconst 1, 1)), (17, 167, .ok (.goto 4, 3)), (20, 3, .ok (.iconst 0, 1)), (21, 45, .ok (.aload_n 3, 1)), (22, 184, .ok (.invokestatic 134, 3)), (25, 54, .ok (.istore 6, 2)), (27, 44, .ok (.aload_n 2, 1)), (28, 42, .ok (.aload_n 0, 1)), (29, 21, .ok (.iload 5, 2)), (31, 4, .ok (.iconst 1, 1)), (32, 96, .ok (.iadd, 1)), (33, 46, .ok (.iaload, 1)), (34, 42, .ok (.aload_n 0, 1)), (35, 21, .ok (.iload 5, 2)), (37, 5, .ok (.iconst 2, 1)), (38, 96, .ok (.iadd, 1)), (39, 46, .ok (.iaload, 1)), (40, 153, .ok (.ifCond .eq 7, 3)), (43, 4, .ok (.iconst 1, 1)), (44, 167, .ok (.goto 4, 3)), (47, 3, .ok (.iconst 0, 1)), (48, 182, .ok (.invokevirtual 137, 3)), (51, 54, .ok (.istore 7, 2)), (53, 167, .ok (.goto 1377, 3)), (56, 43, .ok (.aload_n 1, 1)), (57, 42, .ok (.aload_n 0, 1)), (58, 21, .ok (.iload 5, 2)), (60, 4, .ok (.iconst 1, 1)), (61, 96, .ok (.iadd, 1)), (62, 46, .ok (.iaload, 1)), (63, 42, .ok (.aload_n 0, 1))] : List (Nat × UInt8 × Except DecodeError (Instr × Nat))).all (fun q => decide (decode lc_5 q.1 = q.2.2) && decide (lc_5.data.toList[q.1]? = some q.2.1)) = true := by decide +kernel
theorem dL_law_320 : decode cL_law 320 = .ok (.aload_n 1, 1) := by
  have h := two_at (all_at lg_5 0 (a := (0, 43, .ok (.aload_n 1, 1))) rfl)
  exact dec_row (f := 320) (k := 0) (ro_43 lp_5 (byte_at h.2)) h.1
theorem dL_law_321 : decode cL_law 321 = .ok (.aload_n 0, 1) := by
  have h := two_at (all_at lg_5 1 (a := (1, 42, .ok (.aload_n 0, 1))) rfl)
  exact dec_row (f := 320) (k := 1) (ro_42 lp_5 (byte_at h.2)) h.1
theorem dL_law_322 : decode cL_law 322 = .ok (.iload 5, 2) := by
  have h := two_at (all_at lg_5 2 (a := (2, 21, .ok (.iload 5, 2))) rfl)
  exact dec_row (f := 320) (k := 2) (ro_21 lp_5 (byte_at h.2)) h.1
theorem dL_law_324 : decode cL_law 324 = .ok (.iconst 1, 1) := by
  have h := two_at (all_at lg_5 3 (a := (4, 4, .ok (.iconst 1, 1))) rfl)
  exact dec_row (f := 320) (k := 4) (ro_4 lp_5 (byte_at h.2)) h.1
theorem dL_law_325 : decode cL_law 325 = .ok (.iadd, 1) := by
  have h := two_at (all_at lg_5 4 (a := (5, 96, .ok (.iadd, 1))) rfl)
  exact dec_row (f := 320) (k := 5) (ro_96 lp_5 (byte_at h.2)) h.1
theorem dL_law_326 : decode cL_law 326 = .ok (.iaload, 1) := by
  have h := two_at (all_at lg_5 5 (a := (6, 46, .ok (.iaload, 1))) rfl)
  exact dec_row (f := 320) (k := 6) (ro_46 lp_5 (byte_at h.2)) h.1
theorem dL_law_327 : decode cL_law 327 = .ok (.aload_n 0, 1) := by
  have h := two_at (all_at lg_5 6 (a := (7, 42, .ok (.aload_n 0, 1))) rfl)
  exact dec_row (f := 320) (k := 7) (ro_42 lp_5 (byte_at h.2)) h.1
theorem dL_law_328 : decode cL_law 328 = .ok (.iload 5, 2) := by
  have h := two_at (all_at lg_5 7 (a := (8, 21, .ok (.iload 5, 2))) rfl)
  exact dec_row (f := 320) (k := 8) (ro_21 lp_5 (byte_at h.2)) h.1
theorem dL_law_330 : decode cL_law 330 = .ok (.iconst 2, 1) := by
  have h := two_at (all_at lg_5 8 (a := (10, 5, .ok (.iconst 2, 1))) rfl)
  exact dec_row (f := 320) (k := 10) (ro_5 lp_5 (byte_at h.2)) h.1
theorem dL_law_331 : decode cL_law 331 = .ok (.iadd, 1) := by
  have h := two_at (all_at lg_5 9 (a := (11, 96, .ok (.iadd, 1))) rfl)
  exact dec_row (f := 320) (k := 11) (ro_96 lp_5 (byte_at h.2)) h.1
theorem dL_law_332 : decode cL_law 332 = .ok (.iaload, 1) := by
  have h := two_at (all_at lg_5 10 (a := (12, 46, .ok (.iaload, 1))) rfl)
  exact dec_row (f := 320) (k := 12) (ro_46 lp_5 (byte_at h.2)) h.1
theorem dL_law_333 : decode cL_law 333 = .ok (.ifCond .eq 7, 3) := by
  have h := two_at (all_at lg_5 11 (a := (13, 153, .ok (.ifCond .eq 7, 3))) rfl)
  exact dec_row (f := 320) (k := 13) (ro_153 lp_5 (byte_at h.2)) h.1
theorem dL_law_336 : decode cL_law 336 = .ok (.iconst 1, 1) := by
  have h := two_at (all_at lg_5 12 (a := (16, 4, .ok (.iconst 1, 1))) rfl)
  exact dec_row (f := 320) (k := 16) (ro_4 lp_5 (byte_at h.2)) h.1
theorem dL_law_337 : decode cL_law 337 = .ok (.goto 4, 3) := by
  have h := two_at (all_at lg_5 13 (a := (17, 167, .ok (.goto 4, 3))) rfl)
  exact dec_row (f := 320) (k := 17) (ro_167 lp_5 (byte_at h.2)) h.1
theorem dL_law_340 : decode cL_law 340 = .ok (.iconst 0, 1) := by
  have h := two_at (all_at lg_5 14 (a := (20, 3, .ok (.iconst 0, 1))) rfl)
  exact dec_row (f := 320) (k := 20) (ro_3 lp_5 (byte_at h.2)) h.1
theorem dL_law_341 : decode cL_law 341 = .ok (.aload_n 3, 1) := by
  have h := two_at (all_at lg_5 15 (a := (21, 45, .ok (.aload_n 3, 1))) rfl)
  exact dec_row (f := 320) (k := 21) (ro_45 lp_5 (byte_at h.2)) h.1
theorem dL_law_342 : decode cL_law 342 = .ok (.invokestatic 134, 3) := by
  have h := two_at (all_at lg_5 16 (a := (22, 184, .ok (.invokestatic 134, 3))) rfl)
  exact dec_row (f := 320) (k := 22) (ro_184 lp_5 (byte_at h.2)) h.1
theorem dL_law_345 : decode cL_law 345 = .ok (.istore 6, 2) := by
  have h := two_at (all_at lg_5 17 (a := (25, 54, .ok (.istore 6, 2))) rfl)
  exact dec_row (f := 320) (k := 25) (ro_54 lp_5 (byte_at h.2)) h.1
theorem dL_law_347 : decode cL_law 347 = .ok (.aload_n 2, 1) := by
  have h := two_at (all_at lg_5 18 (a := (27, 44, .ok (.aload_n 2, 1))) rfl)
  exact dec_row (f := 320) (k := 27) (ro_44 lp_5 (byte_at h.2)) h.1
theorem dL_law_348 : decode cL_law 348 = .ok (.aload_n 0, 1) := by
  have h := two_at (all_at lg_5 19 (a := (28, 42, .ok (.aload_n 0, 1))) rfl)
  exact dec_row (f := 320) (k := 28) (ro_42 lp_5 (byte_at h.2)) h.1
theorem dL_law_349 : decode cL_law 349 = .ok (.iload 5, 2) := by
  have h := two_at (all_at lg_5 20 (a := (29, 21, .ok (.iload 5, 2))) rfl)
  exact dec_row (f := 320) (k := 29) (ro_21 lp_5 (byte_at h.2)) h.1
theorem dL_law_351 : decode cL_law 351 = .ok (.iconst 1, 1) := by
  have h := two_at (all_at lg_5 21 (a := (31, 4, .ok (.iconst 1, 1))) rfl)
  exact dec_row (f := 320) (k := 31) (ro_4 lp_5 (byte_at h.2)) h.1
theorem dL_law_352 : decode cL_law 352 = .ok (.iadd, 1) := by
  have h := two_at (all_at lg_5 22 (a := (32, 96, .ok (.iadd, 1))) rfl)
  exact dec_row (f := 320) (k := 32) (ro_96 lp_5 (byte_at h.2)) h.1
theorem dL_law_353 : decode cL_law 353 = .ok (.iaload, 1) := by
  have h := two_at (all_at lg_5 23 (a := (33, 46, .ok (.iaload, 1))) rfl)
  exact dec_row (f := 320) (k := 33) (ro_46 lp_5 (byte_at h.2)) h.1
theorem dL_law_354 : decode cL_law 354 = .ok (.aload_n 0, 1) := by
  have h := two_at (all_at lg_5 24 (a := (34, 42, .ok (.aload_n 0, 1))) rfl)
  exact dec_row (f := 320) (k := 34) (ro_42 lp_5 (byte_at h.2)) h.1
theorem dL_law_355 : decode cL_law 355 = .ok (.iload 5, 2) := by
  have h := two_at (all_at lg_5 25 (a := (35, 21, .ok (.iload 5, 2))) rfl)
  exact dec_row (f := 320) (k := 35) (ro_21 lp_5 (byte_at h.2)) h.1
theorem dL_law_357 : decode cL_law 357 = .ok (.iconst 2, 1) := by
  have h := two_at (all_at lg_5 26 (a := (37, 5, .ok (.iconst 2, 1))) rfl)
  exact dec_row (f := 320) (k := 37) (ro_5 lp_5 (byte_at h.2)) h.1
theorem dL_law_358 : decode cL_law 358 = .ok (.iadd, 1) := by
  have h := two_at (all_at lg_5 27 (a := (38, 96, .ok (.iadd, 1))) rfl)
  exact dec_row (f := 320) (k := 38) (ro_96 lp_5 (byte_at h.2)) h.1
theorem dL_law_359 : decode cL_law 359 = .ok (.iaload, 1) := by
  have h := two_at (all_at lg_5 28 (a := (39, 46, .ok (.iaload, 1))) rfl)
  exact dec_row (f := 320) (k := 39) (ro_46 lp_5 (byte_at h.2)) h.1
theorem dL_law_360 : decode cL_law 360 = .ok (.ifCond .eq 7, 3) := by
  have h := two_at (all_at lg_5 29 (a := (40, 153, .ok (.ifCond .eq 7, 3))) rfl)
  exact dec_row (f := 320) (k := 40) (ro_153 lp_5 (byte_at h.2)) h.1
theorem dL_law_363 : decode cL_law 363 = .ok (.iconst 1, 1) := by
  have h := two_at (all_at lg_5 30 (a := (43, 4, .ok (.iconst 1, 1))) rfl)
  exact dec_row (f := 320) (k := 43) (ro_4 lp_5 (byte_at h.2)) h.1
theorem dL_law_364 : decode cL_law 364 = .ok (.goto 4, 3) := by
  have h := two_at (all_at lg_5 31 (a := (44, 167, .ok (.goto 4, 3))) rfl)
  exact dec_row (f := 320) (k := 44) (ro_167 lp_5 (byte_at h.2)) h.1
theorem dL_law_367 : decode cL_law 367 = .ok (.iconst 0, 1) := by
  have h := two_at (all_at lg_5 32 (a := (47, 3, .ok (.iconst 0, 1))) rfl)
  exact dec_row (f := 320) (k := 47) (ro_3 lp_5 (byte_at h.2)) h.1
theorem dL_law_368 : decode cL_law 368 = .ok (.invokevirtual 137, 3) := by
  have h := two_at (all_at lg_5 33 (a := (48, 182, .ok (.invokevirtual 137, 3))) rfl)
  exact dec_row (f := 320) (k := 48) (ro_182 lp_5 (byte_at h.2)) h.1
theorem dL_law_371 : decode cL_law 371 = .ok (.istore 7, 2) := by
  have h := two_at (all_at lg_5 34 (a := (51, 54, .ok (.istore 7, 2))) rfl)
  exact dec_row (f := 320) (k := 51) (ro_54 lp_5 (byte_at h.2)) h.1
theorem dL_law_373 : decode cL_law 373 = .ok (.goto 1377, 3) := by
  have h := two_at (all_at lg_5 35 (a := (53, 167, .ok (.goto 1377, 3))) rfl)
  exact dec_row (f := 320) (k := 53) (ro_167 lp_5 (byte_at h.2)) h.1
theorem dL_law_376 : decode cL_law 376 = .ok (.aload_n 1, 1) := by
  have h := two_at (all_at lg_5 36 (a := (56, 43, .ok (.aload_n 1, 1))) rfl)
  exact dec_row (f := 320) (k := 56) (ro_43 lp_5 (byte_at h.2)) h.1
theorem dL_law_377 : decode cL_law 377 = .ok (.aload_n 0, 1) := by
  have h := two_at (all_at lg_5 37 (a := (57, 42, .ok (.aload_n 0, 1))) rfl)
  exact dec_row (f := 320) (k := 57) (ro_42 lp_5 (byte_at h.2)) h.1
theorem dL_law_378 : decode cL_law 378 = .ok (.iload 5, 2) := by
  have h := two_at (all_at lg_5 38 (a := (58, 21, .ok (.iload 5, 2))) rfl)
  exact dec_row (f := 320) (k := 58) (ro_21 lp_5 (byte_at h.2)) h.1
theorem dL_law_380 : decode cL_law 380 = .ok (.iconst 1, 1) := by
  have h := two_at (all_at lg_5 39 (a := (60, 4, .ok (.iconst 1, 1))) rfl)
  exact dec_row (f := 320) (k := 60) (ro_4 lp_5 (byte_at h.2)) h.1
theorem dL_law_381 : decode cL_law 381 = .ok (.iadd, 1) := by
  have h := two_at (all_at lg_5 40 (a := (61, 96, .ok (.iadd, 1))) rfl)
  exact dec_row (f := 320) (k := 61) (ro_96 lp_5 (byte_at h.2)) h.1
theorem dL_law_382 : decode cL_law 382 = .ok (.iaload, 1) := by
  have h := two_at (all_at lg_5 41 (a := (62, 46, .ok (.iaload, 1))) rfl)
  exact dec_row (f := 320) (k := 62) (ro_46 lp_5 (byte_at h.2)) h.1
theorem dL_law_383 : decode cL_law 383 = .ok (.aload_n 0, 1) := by
  have h := two_at (all_at lg_5 42 (a := (63, 42, .ok (.aload_n 0, 1))) rfl)
  exact dec_row (f := 320) (k := 63) (ro_42 lp_5 (byte_at h.2)) h.1
def lc_6 : ByteArray := .mk #[0x15, 0x05, 0x05, 0x60, 0x2e, 0x2a, 0x15, 0x05, 0x06, 0x60, 0x2e, 0x2d, 0xb8, 0x00, 0x8a, 0x36, 0x06, 0x2c, 0x2a, 0x15, 0x05, 0x04, 0x60, 0x2e, 0x2a, 0x15, 0x05, 0x05, 0x60, 0x2e, 0x2a, 0x15, 0x05, 0x06, 0x60, 0x2e, 0xb6, 0x00, 0x8c, 0x36, 0x07, 0xa7, 0x05, 0x2d, 0x2b, 0x2a, 0x15, 0x05, 0x04, 0x60, 0x2e, 0x2a, 0x15, 0x05, 0x05, 0x60, 0x2e, 0x2a, 0x15, 0x05, 0x06, 0x60, 0x2e, 0x2a, 0x15, 0x05, 0x07, 0x60, 0x2e, 0x2d, 0xb8, 0x00]
theorem lp_6 : Pc lc_6 cL_law 384 := Pc_of (n := 72) (by decide +kernel)
theorem lg_6 : ([(0, 21, .ok (.iload 5, 2)), (2, 5, .ok (.iconst 2, 1)), (3, 96, .ok (.iadd, 1)), (4, 46, .ok (.iaload, 1)), (5, 42, .ok (.aload_n 0, 1)), (6, 21, .ok (.iload 5, 2)), (8, 6, .ok (.iconst 3, 1)), (9, 96, .ok (.iadd, 1)), (10, 46, .ok (.iaload, 1)), (11, 45, .ok (.aload_n 3, 1)), (12, 184, .ok (.invokestatic 138, 3)), (15, 54, .ok (.istore 6, 2)), (17, 44, .ok (.aload_n 2, 1)), (18, 42, .ok (.aload_n 0, 1)), (19, 21, .ok (.iload 5, 2)), (21, 4, .ok (.iconst 1, 1)), (22, 96, .ok (.iadd, 1)), (23, 46, .ok (.iaload, 1)), (24, 42, .ok (.aload_n 0, 1)), (25, 21, .ok (.iload 5, 2)), (27, 5, .ok (.iconst 2, 1)), (28, 96, .ok (.iadd, 1)), (29, 46, .ok (.iaload, 1)), (30, 42, .ok (.aload_n 0, 1)), (31, 21, .ok (.iload 5, 2)), (33, 6, .ok (.iconst 3, 1)), (34, 96, .ok (.iadd, 1)), (35, 46, .ok (.iaload, 1)), (36, 182, .ok (.invokevirtual 140, 3)), (39, 54, .ok (.istore 7, 2)), (41, 167, .ok (.goto 1325, 3)), (44, 43, .ok (.aload_n 1, 1)), (45, 42, .ok (.aload_n 0, 1)), (46, 21, .ok (.iload 5, 2)), (48, 4, .ok (.iconst 1, 1)), (49, 96, .ok (.iadd, 1)), (50, 46, .ok (.iaload, 1)), (51, 42, .ok (.aload_n 0, 1)), (52, 21, .ok (.iload 5, 2)), (54, 5, .ok (.iconst 2, 1)), (55, 96, .ok (.iadd, 1)), (56, 46, .ok (.iaload, 1)), (57, 42, .ok (.aload_n 0, 1)), (58, 21, .ok (.iload 5, 2)), (60, 6, .ok (.iconst 3, 1)), (61, 96, .ok (.iadd, 1)), (62, 46, .ok (.iaload, 1)), (63, 42, .ok (.aload_n 0, 1))] : List (Nat × UInt8 × Except DecodeError (Instr × Nat))).all (fun q => decide (decode lc_6 q.1 = q.2.2) && decide (lc_6.data.toList[q.1]? = some q.2.1)) = true := by decide +kernel
theorem dL_law_384 : decode cL_law 384 = .ok (.iload 5, 2) := by
  have h := two_at (all_at lg_6 0 (a := (0, 21, .ok (.iload 5, 2))) rfl)
  exact dec_row (f := 384) (k := 0) (ro_21 lp_6 (byte_at h.2)) h.1
theorem dL_law_386 : decode cL_law 386 = .ok (.iconst 2, 1) := by
  have h := two_at (all_at lg_6 1 (a := (2, 5, .ok (.iconst 2, 1))) rfl)
  exact dec_row (f := 384) (k := 2) (ro_5 lp_6 (byte_at h.2)) h.1
theorem dL_law_387 : decode cL_law 387 = .ok (.iadd, 1) := by
  have h := two_at (all_at lg_6 2 (a := (3, 96, .ok (.iadd, 1))) rfl)
  exact dec_row (f := 384) (k := 3) (ro_96 lp_6 (byte_at h.2)) h.1
theorem dL_law_388 : decode cL_law 388 = .ok (.iaload, 1) := by
  have h := two_at (all_at lg_6 3 (a := (4, 46, .ok (.iaload, 1))) rfl)
  exact dec_row (f := 384) (k := 4) (ro_46 lp_6 (byte_at h.2)) h.1
theorem dL_law_389 : decode cL_law 389 = .ok (.aload_n 0, 1) := by
  have h := two_at (all_at lg_6 4 (a := (5, 42, .ok (.aload_n 0, 1))) rfl)
  exact dec_row (f := 384) (k := 5) (ro_42 lp_6 (byte_at h.2)) h.1
theorem dL_law_390 : decode cL_law 390 = .ok (.iload 5, 2) := by
  have h := two_at (all_at lg_6 5 (a := (6, 21, .ok (.iload 5, 2))) rfl)
  exact dec_row (f := 384) (k := 6) (ro_21 lp_6 (byte_at h.2)) h.1
theorem dL_law_392 : decode cL_law 392 = .ok (.iconst 3, 1) := by
  have h := two_at (all_at lg_6 6 (a := (8, 6, .ok (.iconst 3, 1))) rfl)
  exact dec_row (f := 384) (k := 8) (ro_6 lp_6 (byte_at h.2)) h.1
theorem dL_law_393 : decode cL_law 393 = .ok (.iadd, 1) := by
  have h := two_at (all_at lg_6 7 (a := (9, 96, .ok (.iadd, 1))) rfl)
  exact dec_row (f := 384) (k := 9) (ro_96 lp_6 (byte_at h.2)) h.1
theorem dL_law_394 : decode cL_law 394 = .ok (.iaload, 1) := by
  have h := two_at (all_at lg_6 8 (a := (10, 46, .ok (.iaload, 1))) rfl)
  exact dec_row (f := 384) (k := 10) (ro_46 lp_6 (byte_at h.2)) h.1
theorem dL_law_395 : decode cL_law 395 = .ok (.aload_n 3, 1) := by
  have h := two_at (all_at lg_6 9 (a := (11, 45, .ok (.aload_n 3, 1))) rfl)
  exact dec_row (f := 384) (k := 11) (ro_45 lp_6 (byte_at h.2)) h.1
theorem dL_law_396 : decode cL_law 396 = .ok (.invokestatic 138, 3) := by
  have h := two_at (all_at lg_6 10 (a := (12, 184, .ok (.invokestatic 138, 3))) rfl)
  exact dec_row (f := 384) (k := 12) (ro_184 lp_6 (byte_at h.2)) h.1
theorem dL_law_399 : decode cL_law 399 = .ok (.istore 6, 2) := by
  have h := two_at (all_at lg_6 11 (a := (15, 54, .ok (.istore 6, 2))) rfl)
  exact dec_row (f := 384) (k := 15) (ro_54 lp_6 (byte_at h.2)) h.1
theorem dL_law_401 : decode cL_law 401 = .ok (.aload_n 2, 1) := by
  have h := two_at (all_at lg_6 12 (a := (17, 44, .ok (.aload_n 2, 1))) rfl)
  exact dec_row (f := 384) (k := 17) (ro_44 lp_6 (byte_at h.2)) h.1
theorem dL_law_402 : decode cL_law 402 = .ok (.aload_n 0, 1) := by
  have h := two_at (all_at lg_6 13 (a := (18, 42, .ok (.aload_n 0, 1))) rfl)
  exact dec_row (f := 384) (k := 18) (ro_42 lp_6 (byte_at h.2)) h.1
theorem dL_law_403 : decode cL_law 403 = .ok (.iload 5, 2) := by
  have h := two_at (all_at lg_6 14 (a := (19, 21, .ok (.iload 5, 2))) rfl)
  exact dec_row (f := 384) (k := 19) (ro_21 lp_6 (byte_at h.2)) h.1
theorem dL_law_405 : decode cL_law 405 = .ok (.iconst 1, 1) := by
  have h := two_at (all_at lg_6 15 (a := (21, 4, .ok (.iconst 1, 1))) rfl)
  exact dec_row (f := 384) (k := 21) (ro_4 lp_6 (byte_at h.2)) h.1
theorem dL_law_406 : decode cL_law 406 = .ok (.iadd, 1) := by
  have h := two_at (all_at lg_6 16 (a := (22, 96, .ok (.iadd, 1))) rfl)
  exact dec_row (f := 384) (k := 22) (ro_96 lp_6 (byte_at h.2)) h.1
theorem dL_law_407 : decode cL_law 407 = .ok (.iaload, 1) := by
  have h := two_at (all_at lg_6 17 (a := (23, 46, .ok (.iaload, 1))) rfl)
  exact dec_row (f := 384) (k := 23) (ro_46 lp_6 (byte_at h.2)) h.1
theorem dL_law_408 : decode cL_law 408 = .ok (.aload_n 0, 1) := by
  have h := two_at (all_at lg_6 18 (a := (24, 42, .ok (.aload_n 0, 1))) rfl)
  exact dec_row (f := 384) (k := 24) (ro_42 lp_6 (byte_at h.2)) h.1
theorem dL_law_409 : decode cL_law 409 = .ok (.iload 5, 2) := by
  have h := two_at (all_at lg_6 19 (a := (25, 21, .ok (.iload 5, 2))) rfl)
  exact dec_row (f := 384) (k := 25) (ro_21 lp_6 (byte_at h.2)) h.1
theorem dL_law_411 : decode cL_law 411 = .ok (.iconst 2, 1) := by
  have h := two_at (all_at lg_6 20 (a := (27, 5, .ok (.iconst 2, 1))) rfl)
  exact dec_row (f := 384) (k := 27) (ro_5 lp_6 (byte_at h.2)) h.1
theorem dL_law_412 : decode cL_law 412 = .ok (.iadd, 1) := by
  have h := two_at (all_at lg_6 21 (a := (28, 96, .ok (.iadd, 1))) rfl)
  exact dec_row (f := 384) (k := 28) (ro_96 lp_6 (byte_at h.2)) h.1
theorem dL_law_413 : decode cL_law 413 = .ok (.iaload, 1) := by
  have h := two_at (all_at lg_6 22 (a := (29, 46, .ok (.iaload, 1))) rfl)
  exact dec_row (f := 384) (k := 29) (ro_46 lp_6 (byte_at h.2)) h.1
theorem dL_law_414 : decode cL_law 414 = .ok (.aload_n 0, 1) := by
  have h := two_at (all_at lg_6 23 (a := (30, 42, .ok (.aload_n 0, 1))) rfl)
  exact dec_row (f := 384) (k := 30) (ro_42 lp_6 (byte_at h.2)) h.1
theorem dL_law_415 : decode cL_law 415 = .ok (.iload 5, 2) := by
  have h := two_at (all_at lg_6 24 (a := (31, 21, .ok (.iload 5, 2))) rfl)
  exact dec_row (f := 384) (k := 31) (ro_21 lp_6 (byte_at h.2)) h.1
theorem dL_law_417 : decode cL_law 417 = .ok (.iconst 3, 1) := by
  have h := two_at (all_at lg_6 25 (a := (33, 6, .ok (.iconst 3, 1))) rfl)
  exact dec_row (f := 384) (k := 33) (ro_6 lp_6 (byte_at h.2)) h.1
theorem dL_law_418 : decode cL_law 418 = .ok (.iadd, 1) := by
  have h := two_at (all_at lg_6 26 (a := (34, 96, .ok (.iadd, 1))) rfl)
  exact dec_row (f := 384) (k := 34) (ro_96 lp_6 (byte_at h.2)) h.1
theorem dL_law_419 : decode cL_law 419 = .ok (.iaload, 1) := by
  have h := two_at (all_at lg_6 27 (a := (35, 46, .ok (.iaload, 1))) rfl)
  exact dec_row (f := 384) (k := 35) (ro_46 lp_6 (byte_at h.2)) h.1
theorem dL_law_420 : decode cL_law 420 = .ok (.invokevirtual 140, 3) := by
  have h := two_at (all_at lg_6 28 (a := (36, 182, .ok (.invokevirtual 140, 3))) rfl)
  exact dec_row (f := 384) (k := 36) (ro_182 lp_6 (byte_at h.2)) h.1
theorem dL_law_423 : decode cL_law 423 = .ok (.istore 7, 2) := by
  have h := two_at (all_at lg_6 29 (a := (39, 54, .ok (.istore 7, 2))) rfl)
  exact dec_row (f := 384) (k := 39) (ro_54 lp_6 (byte_at h.2)) h.1
theorem dL_law_425 : decode cL_law 425 = .ok (.goto 1325, 3) := by
  have h := two_at (all_at lg_6 30 (a := (41, 167, .ok (.goto 1325, 3))) rfl)
  exact dec_row (f := 384) (k := 41) (ro_167 lp_6 (byte_at h.2)) h.1
theorem dL_law_428 : decode cL_law 428 = .ok (.aload_n 1, 1) := by
  have h := two_at (all_at lg_6 31 (a := (44, 43, .ok (.aload_n 1, 1))) rfl)
  exact dec_row (f := 384) (k := 44) (ro_43 lp_6 (byte_at h.2)) h.1
theorem dL_law_429 : decode cL_law 429 = .ok (.aload_n 0, 1) := by
  have h := two_at (all_at lg_6 32 (a := (45, 42, .ok (.aload_n 0, 1))) rfl)
  exact dec_row (f := 384) (k := 45) (ro_42 lp_6 (byte_at h.2)) h.1
theorem dL_law_430 : decode cL_law 430 = .ok (.iload 5, 2) := by
  have h := two_at (all_at lg_6 33 (a := (46, 21, .ok (.iload 5, 2))) rfl)
  exact dec_row (f := 384) (k := 46) (ro_21 lp_6 (byte_at h.2)) h.1
theorem dL_law_432 : decode cL_law 432 = .ok (.iconst 1, 1) := by
  have h := two_at (all_at lg_6 34 (a := (48, 4, .ok (.iconst 1, 1))) rfl)
  exact dec_row (f := 384) (k := 48) (ro_4 lp_6 (byte_at h.2)) h.1
theorem dL_law_433 : decode cL_law 433 = .ok (.iadd, 1) := by
  have h := two_at (all_at lg_6 35 (a := (49, 96, .ok (.iadd, 1))) rfl)
  exact dec_row (f := 384) (k := 49) (ro_96 lp_6 (byte_at h.2)) h.1
theorem dL_law_434 : decode cL_law 434 = .ok (.iaload, 1) := by
  have h := two_at (all_at lg_6 36 (a := (50, 46, .ok (.iaload, 1))) rfl)
  exact dec_row (f := 384) (k := 50) (ro_46 lp_6 (byte_at h.2)) h.1
theorem dL_law_435 : decode cL_law 435 = .ok (.aload_n 0, 1) := by
  have h := two_at (all_at lg_6 37 (a := (51, 42, .ok (.aload_n 0, 1))) rfl)
  exact dec_row (f := 384) (k := 51) (ro_42 lp_6 (byte_at h.2)) h.1
theorem dL_law_436 : decode cL_law 436 = .ok (.iload 5, 2) := by
  have h := two_at (all_at lg_6 38 (a := (52, 21, .ok (.iload 5, 2))) rfl)
  exact dec_row (f := 384) (k := 52) (ro_21 lp_6 (byte_at h.2)) h.1
theorem dL_law_438 : decode cL_law 438 = .ok (.iconst 2, 1) := by
  have h := two_at (all_at lg_6 39 (a := (54, 5, .ok (.iconst 2, 1))) rfl)
  exact dec_row (f := 384) (k := 54) (ro_5 lp_6 (byte_at h.2)) h.1
theorem dL_law_439 : decode cL_law 439 = .ok (.iadd, 1) := by
  have h := two_at (all_at lg_6 40 (a := (55, 96, .ok (.iadd, 1))) rfl)
  exact dec_row (f := 384) (k := 55) (ro_96 lp_6 (byte_at h.2)) h.1
theorem dL_law_440 : decode cL_law 440 = .ok (.iaload, 1) := by
  have h := two_at (all_at lg_6 41 (a := (56, 46, .ok (.iaload, 1))) rfl)
  exact dec_row (f := 384) (k := 56) (ro_46 lp_6 (byte_at h.2)) h.1
theorem dL_law_441 : decode cL_law 441 = .ok (.aload_n 0, 1) := by
  have h := two_at (all_at lg_6 42 (a := (57, 42, .ok (.aload_n 0, 1))) rfl)
  exact dec_row (f := 384) (k := 57) (ro_42 lp_6 (byte_at h.2)) h.1
theorem dL_law_442 : decode cL_law 442 = .ok (.iload 5, 2) := by
  have h := two_at (all_at lg_6 43 (a := (58, 21, .ok (.iload 5, 2))) rfl)
  exact dec_row (f := 384) (k := 58) (ro_21 lp_6 (byte_at h.2)) h.1
theorem dL_law_444 : decode cL_law 444 = .ok (.iconst 3, 1) := by
  have h := two_at (all_at lg_6 44 (a := (60, 6, .ok (.iconst 3, 1))) rfl)
  exact dec_row (f := 384) (k := 60) (ro_6 lp_6 (byte_at h.2)) h.1
theorem dL_law_445 : decode cL_law 445 = .ok (.iadd, 1) := by
  have h := two_at (all_at lg_6 45 (a := (61, 96, .ok (.iadd, 1))) rfl)
  exact dec_row (f := 384) (k := 61) (ro_96 lp_6 (byte_at h.2)) h.1
theorem dL_law_446 : decode cL_law 446 = .ok (.iaload, 1) := by
  have h := two_at (all_at lg_6 46 (a := (62, 46, .ok (.iaload, 1))) rfl)
  exact dec_row (f := 384) (k := 62) (ro_46 lp_6 (byte_at h.2)) h.1
theorem dL_law_447 : decode cL_law 447 = .ok (.aload_n 0, 1) := by
  have h := two_at (all_at lg_6 47 (a := (63, 42, .ok (.aload_n 0, 1))) rfl)
  exact dec_row (f := 384) (k := 63) (ro_42 lp_6 (byte_at h.2)) h.1
def lc_7 : ByteArray := .mk #[0x15, 0x05, 0x07, 0x60, 0x2e, 0x2d, 0xb8, 0x00, 0x8d, 0x36, 0x06, 0x2c, 0x2a, 0x15, 0x05, 0x04, 0x60, 0x2e, 0x2a, 0x15, 0x05, 0x05, 0x60, 0x2e, 0x2a, 0x15, 0x05, 0x06, 0x60, 0x2e, 0x2a, 0x15, 0x05, 0x07, 0x60, 0x2e, 0xb6, 0x00, 0x90, 0x36, 0x07, 0xa7, 0x04, 0xed, 0x2b, 0x2a, 0x15, 0x05, 0x04, 0x60, 0x2e, 0x2a, 0x15, 0x05, 0x05, 0x60, 0x2e, 0x2a, 0x15, 0x05, 0x06, 0x60, 0x2e, 0x2d, 0xb8, 0x00, 0x91, 0x36, 0x06, 0x2c, 0x2a, 0x15]
theorem lp_7 : Pc lc_7 cL_law 448 := Pc_of (n := 72) (by decide +kernel)
theorem lg_7 : ([(0, 21, .ok (.iload 5, 2)), (2, 7, .ok (.iconst 4, 1)), (3, 96, .ok (.iadd, 1)), (4, 46, .ok (.iaload, 1)), (5, 45, .ok (.aload_n 3, 1)), (6, 184, .ok (.invokestatic 141, 3)), (9, 54, .ok (.istore 6, 2)), (11, 44, .ok (.aload_n 2, 1)), (12, 42, .ok (.aload_n 0, 1)), (13, 21, .ok (.iload 5, 2)), (15, 4, .ok (.iconst 1, 1)), (16, 96, .ok (.iadd, 1)), (17, 46, .ok (.iaload, 1)), (18, 42, .ok (.aload_n 0, 1)), (19, 21, .ok (.iload 5, 2)), (21, 5, .ok (.iconst 2, 1)), (22, 96, .ok (.iadd, 1)), (23, 46, .ok (.iaload, 1)), (24, 42, .ok (.aload_n 0, 1)), (25, 21, .ok (.iload 5, 2)), (27, 6, .ok (.iconst 3, 1)), (28, 96, .ok (.iadd, 1)), (29, 46, .ok (.iaload, 1)), (30, 42, .ok (.aload_n 0, 1)), (31, 21, .ok (.iload 5, 2)), (33, 7, .ok (.iconst 4, 1)), (34, 96, .ok (.iadd, 1)), (35, 46, .ok (.iaload, 1)), (36, 182, .ok (.invokevirtual 144, 3)), (39, 54, .ok (.istore 7, 2)), (41, 167, .ok (.goto 1261, 3)), (44, 43, .ok (.aload_n 1, 1)), (45, 42, .ok (.aload_n 0, 1)), (46, 21, .ok (.iload 5, 2)), (48, 4, .ok (.iconst 1, 1)), (49, 96, .ok (.iadd, 1)), (50, 46, .ok (.iaload, 1)), (51, 42, .ok (.aload_n 0, 1)), (52, 21, .ok (.iload 5, 2)), (54, 5, .ok (.iconst 2, 1)), (55, 96, .ok (.iadd, 1)), (56, 46, .ok (.iaload, 1)), (57, 42, .ok (.aload_n 0, 1)), (58, 21, .ok (.iload 5, 2)), (60, 6, .ok (.iconst 3, 1)), (61, 96, .ok (.iadd, 1)), (62, 46, .ok (.iaload, 1)), (63, 45, .ok (.aload_n 3, 1))] : List (Nat × UInt8 × Except DecodeError (Instr × Nat))).all (fun q => decide (decode lc_7 q.1 = q.2.2) && decide (lc_7.data.toList[q.1]? = some q.2.1)) = true := by decide +kernel
theorem dL_law_448 : decode cL_law 448 = .ok (.iload 5, 2) := by
  have h := two_at (all_at lg_7 0 (a := (0, 21, .ok (.iload 5, 2))) rfl)
  exact dec_row (f := 448) (k := 0) (ro_21 lp_7 (byte_at h.2)) h.1
theorem dL_law_450 : decode cL_law 450 = .ok (.iconst 4, 1) := by
  have h := two_at (all_at lg_7 1 (a := (2, 7, .ok (.iconst 4, 1))) rfl)
  exact dec_row (f := 448) (k := 2) (ro_7 lp_7 (byte_at h.2)) h.1
theorem dL_law_451 : decode cL_law 451 = .ok (.iadd, 1) := by
  have h := two_at (all_at lg_7 2 (a := (3, 96, .ok (.iadd, 1))) rfl)
  exact dec_row (f := 448) (k := 3) (ro_96 lp_7 (byte_at h.2)) h.1
theorem dL_law_452 : decode cL_law 452 = .ok (.iaload, 1) := by
  have h := two_at (all_at lg_7 3 (a := (4, 46, .ok (.iaload, 1))) rfl)
  exact dec_row (f := 448) (k := 4) (ro_46 lp_7 (byte_at h.2)) h.1
theorem dL_law_453 : decode cL_law 453 = .ok (.aload_n 3, 1) := by
  have h := two_at (all_at lg_7 4 (a := (5, 45, .ok (.aload_n 3, 1))) rfl)
  exact dec_row (f := 448) (k := 5) (ro_45 lp_7 (byte_at h.2)) h.1
theorem dL_law_454 : decode cL_law 454 = .ok (.invokestatic 141, 3) := by
  have h := two_at (all_at lg_7 5 (a := (6, 184, .ok (.invokestatic 141, 3))) rfl)
  exact dec_row (f := 448) (k := 6) (ro_184 lp_7 (byte_at h.2)) h.1
theorem dL_law_457 : decode cL_law 457 = .ok (.istore 6, 2) := by
  have h := two_at (all_at lg_7 6 (a := (9, 54, .ok (.istore 6, 2))) rfl)
  exact dec_row (f := 448) (k := 9) (ro_54 lp_7 (byte_at h.2)) h.1
theorem dL_law_459 : decode cL_law 459 = .ok (.aload_n 2, 1) := by
  have h := two_at (all_at lg_7 7 (a := (11, 44, .ok (.aload_n 2, 1))) rfl)
  exact dec_row (f := 448) (k := 11) (ro_44 lp_7 (byte_at h.2)) h.1
theorem dL_law_460 : decode cL_law 460 = .ok (.aload_n 0, 1) := by
  have h := two_at (all_at lg_7 8 (a := (12, 42, .ok (.aload_n 0, 1))) rfl)
  exact dec_row (f := 448) (k := 12) (ro_42 lp_7 (byte_at h.2)) h.1
theorem dL_law_461 : decode cL_law 461 = .ok (.iload 5, 2) := by
  have h := two_at (all_at lg_7 9 (a := (13, 21, .ok (.iload 5, 2))) rfl)
  exact dec_row (f := 448) (k := 13) (ro_21 lp_7 (byte_at h.2)) h.1
theorem dL_law_463 : decode cL_law 463 = .ok (.iconst 1, 1) := by
  have h := two_at (all_at lg_7 10 (a := (15, 4, .ok (.iconst 1, 1))) rfl)
  exact dec_row (f := 448) (k := 15) (ro_4 lp_7 (byte_at h.2)) h.1
theorem dL_law_464 : decode cL_law 464 = .ok (.iadd, 1) := by
  have h := two_at (all_at lg_7 11 (a := (16, 96, .ok (.iadd, 1))) rfl)
  exact dec_row (f := 448) (k := 16) (ro_96 lp_7 (byte_at h.2)) h.1
theorem dL_law_465 : decode cL_law 465 = .ok (.iaload, 1) := by
  have h := two_at (all_at lg_7 12 (a := (17, 46, .ok (.iaload, 1))) rfl)
  exact dec_row (f := 448) (k := 17) (ro_46 lp_7 (byte_at h.2)) h.1
theorem dL_law_466 : decode cL_law 466 = .ok (.aload_n 0, 1) := by
  have h := two_at (all_at lg_7 13 (a := (18, 42, .ok (.aload_n 0, 1))) rfl)
  exact dec_row (f := 448) (k := 18) (ro_42 lp_7 (byte_at h.2)) h.1
theorem dL_law_467 : decode cL_law 467 = .ok (.iload 5, 2) := by
  have h := two_at (all_at lg_7 14 (a := (19, 21, .ok (.iload 5, 2))) rfl)
  exact dec_row (f := 448) (k := 19) (ro_21 lp_7 (byte_at h.2)) h.1
theorem dL_law_469 : decode cL_law 469 = .ok (.iconst 2, 1) := by
  have h := two_at (all_at lg_7 15 (a := (21, 5, .ok (.iconst 2, 1))) rfl)
  exact dec_row (f := 448) (k := 21) (ro_5 lp_7 (byte_at h.2)) h.1
theorem dL_law_470 : decode cL_law 470 = .ok (.iadd, 1) := by
  have h := two_at (all_at lg_7 16 (a := (22, 96, .ok (.iadd, 1))) rfl)
  exact dec_row (f := 448) (k := 22) (ro_96 lp_7 (byte_at h.2)) h.1
theorem dL_law_471 : decode cL_law 471 = .ok (.iaload, 1) := by
  have h := two_at (all_at lg_7 17 (a := (23, 46, .ok (.iaload, 1))) rfl)
  exact dec_row (f := 448) (k := 23) (ro_46 lp_7 (byte_at h.2)) h.1
theorem dL_law_472 : decode cL_law 472 = .ok (.aload_n 0, 1) := by
  have h := two_at (all_at lg_7 18 (a := (24, 42, .ok (.aload_n 0, 1))) rfl)
  exact dec_row (f := 448) (k := 24) (ro_42 lp_7 (byte_at h.2)) h.1
theorem dL_law_473 : decode cL_law 473 = .ok (.iload 5, 2) := by
  have h := two_at (all_at lg_7 19 (a := (25, 21, .ok (.iload 5, 2))) rfl)
  exact dec_row (f := 448) (k := 25) (ro_21 lp_7 (byte_at h.2)) h.1
theorem dL_law_475 : decode cL_law 475 = .ok (.iconst 3, 1) := by
  have h := two_at (all_at lg_7 20 (a := (27, 6, .ok (.iconst 3, 1))) rfl)
  exact dec_row (f := 448) (k := 27) (ro_6 lp_7 (byte_at h.2)) h.1
theorem dL_law_476 : decode cL_law 476 = .ok (.iadd, 1) := by
  have h := two_at (all_at lg_7 21 (a := (28, 96, .ok (.iadd, 1))) rfl)
  exact dec_row (f := 448) (k := 28) (ro_96 lp_7 (byte_at h.2)) h.1
theorem dL_law_477 : decode cL_law 477 = .ok (.iaload, 1) := by
  have h := two_at (all_at lg_7 22 (a := (29, 46, .ok (.iaload, 1))) rfl)
  exact dec_row (f := 448) (k := 29) (ro_46 lp_7 (byte_at h.2)) h.1
theorem dL_law_478 : decode cL_law 478 = .ok (.aload_n 0, 1) := by
  have h := two_at (all_at lg_7 23 (a := (30, 42, .ok (.aload_n 0, 1))) rfl)
  exact dec_row (f := 448) (k := 30) (ro_42 lp_7 (byte_at h.2)) h.1
theorem dL_law_479 : decode cL_law 479 = .ok (.iload 5, 2) := by
  have h := two_at (all_at lg_7 24 (a := (31, 21, .ok (.iload 5, 2))) rfl)
  exact dec_row (f := 448) (k := 31) (ro_21 lp_7 (byte_at h.2)) h.1
theorem dL_law_481 : decode cL_law 481 = .ok (.iconst 4, 1) := by
  have h := two_at (all_at lg_7 25 (a := (33, 7, .ok (.iconst 4, 1))) rfl)
  exact dec_row (f := 448) (k := 33) (ro_7 lp_7 (byte_at h.2)) h.1
theorem dL_law_482 : decode cL_law 482 = .ok (.iadd, 1) := by
  have h := two_at (all_at lg_7 26 (a := (34, 96, .ok (.iadd, 1))) rfl)
  exact dec_row (f := 448) (k := 34) (ro_96 lp_7 (byte_at h.2)) h.1
theorem dL_law_483 : decode cL_law 483 = .ok (.iaload, 1) := by
  have h := two_at (all_at lg_7 27 (a := (35, 46, .ok (.iaload, 1))) rfl)
  exact dec_row (f := 448) (k := 35) (ro_46 lp_7 (byte_at h.2)) h.1
theorem dL_law_484 : decode cL_law 484 = .ok (.invokevirtual 144, 3) := by
  have h := two_at (all_at lg_7 28 (a := (36, 182, .ok (.invokevirtual 144, 3))) rfl)
  exact dec_row (f := 448) (k := 36) (ro_182 lp_7 (byte_at h.2)) h.1
theorem dL_law_487 : decode cL_law 487 = .ok (.istore 7, 2) := by
  have h := two_at (all_at lg_7 29 (a := (39, 54, .ok (.istore 7, 2))) rfl)
  exact dec_row (f := 448) (k := 39) (ro_54 lp_7 (byte_at h.2)) h.1
theorem dL_law_489 : decode cL_law 489 = .ok (.goto 1261, 3) := by
  have h := two_at (all_at lg_7 30 (a := (41, 167, .ok (.goto 1261, 3))) rfl)
  exact dec_row (f := 448) (k := 41) (ro_167 lp_7 (byte_at h.2)) h.1
theorem dL_law_492 : decode cL_law 492 = .ok (.aload_n 1, 1) := by
  have h := two_at (all_at lg_7 31 (a := (44, 43, .ok (.aload_n 1, 1))) rfl)
  exact dec_row (f := 448) (k := 44) (ro_43 lp_7 (byte_at h.2)) h.1
theorem dL_law_493 : decode cL_law 493 = .ok (.aload_n 0, 1) := by
  have h := two_at (all_at lg_7 32 (a := (45, 42, .ok (.aload_n 0, 1))) rfl)
  exact dec_row (f := 448) (k := 45) (ro_42 lp_7 (byte_at h.2)) h.1
theorem dL_law_494 : decode cL_law 494 = .ok (.iload 5, 2) := by
  have h := two_at (all_at lg_7 33 (a := (46, 21, .ok (.iload 5, 2))) rfl)
  exact dec_row (f := 448) (k := 46) (ro_21 lp_7 (byte_at h.2)) h.1
theorem dL_law_496 : decode cL_law 496 = .ok (.iconst 1, 1) := by
  have h := two_at (all_at lg_7 34 (a := (48, 4, .ok (.iconst 1, 1))) rfl)
  exact dec_row (f := 448) (k := 48) (ro_4 lp_7 (byte_at h.2)) h.1
theorem dL_law_497 : decode cL_law 497 = .ok (.iadd, 1) := by
  have h := two_at (all_at lg_7 35 (a := (49, 96, .ok (.iadd, 1))) rfl)
  exact dec_row (f := 448) (k := 49) (ro_96 lp_7 (byte_at h.2)) h.1
theorem dL_law_498 : decode cL_law 498 = .ok (.iaload, 1) := by
  have h := two_at (all_at lg_7 36 (a := (50, 46, .ok (.iaload, 1))) rfl)
  exact dec_row (f := 448) (k := 50) (ro_46 lp_7 (byte_at h.2)) h.1
theorem dL_law_499 : decode cL_law 499 = .ok (.aload_n 0, 1) := by
  have h := two_at (all_at lg_7 37 (a := (51, 42, .ok (.aload_n 0, 1))) rfl)
  exact dec_row (f := 448) (k := 51) (ro_42 lp_7 (byte_at h.2)) h.1
theorem dL_law_500 : decode cL_law 500 = .ok (.iload 5, 2) := by
  have h := two_at (all_at lg_7 38 (a := (52, 21, .ok (.iload 5, 2))) rfl)
  exact dec_row (f := 448) (k := 52) (ro_21 lp_7 (byte_at h.2)) h.1
theorem dL_law_502 : decode cL_law 502 = .ok (.iconst 2, 1) := by
  have h := two_at (all_at lg_7 39 (a := (54, 5, .ok (.iconst 2, 1))) rfl)
  exact dec_row (f := 448) (k := 54) (ro_5 lp_7 (byte_at h.2)) h.1
theorem dL_law_503 : decode cL_law 503 = .ok (.iadd, 1) := by
  have h := two_at (all_at lg_7 40 (a := (55, 96, .ok (.iadd, 1))) rfl)
  exact dec_row (f := 448) (k := 55) (ro_96 lp_7 (byte_at h.2)) h.1
theorem dL_law_504 : decode cL_law 504 = .ok (.iaload, 1) := by
  have h := two_at (all_at lg_7 41 (a := (56, 46, .ok (.iaload, 1))) rfl)
  exact dec_row (f := 448) (k := 56) (ro_46 lp_7 (byte_at h.2)) h.1
theorem dL_law_505 : decode cL_law 505 = .ok (.aload_n 0, 1) := by
  have h := two_at (all_at lg_7 42 (a := (57, 42, .ok (.aload_n 0, 1))) rfl)
  exact dec_row (f := 448) (k := 57) (ro_42 lp_7 (byte_at h.2)) h.1
theorem dL_law_506 : decode cL_law 506 = .ok (.iload 5, 2) := by
  have h := two_at (all_at lg_7 43 (a := (58, 21, .ok (.iload 5, 2))) rfl)
  exact dec_row (f := 448) (k := 58) (ro_21 lp_7 (byte_at h.2)) h.1
theorem dL_law_508 : decode cL_law 508 = .ok (.iconst 3, 1) := by
  have h := two_at (all_at lg_7 44 (a := (60, 6, .ok (.iconst 3, 1))) rfl)
  exact dec_row (f := 448) (k := 60) (ro_6 lp_7 (byte_at h.2)) h.1
theorem dL_law_509 : decode cL_law 509 = .ok (.iadd, 1) := by
  have h := two_at (all_at lg_7 45 (a := (61, 96, .ok (.iadd, 1))) rfl)
  exact dec_row (f := 448) (k := 61) (ro_96 lp_7 (byte_at h.2)) h.1
theorem dL_law_510 : decode cL_law 510 = .ok (.iaload, 1) := by
  have h := two_at (all_at lg_7 46 (a := (62, 46, .ok (.iaload, 1))) rfl)
  exact dec_row (f := 448) (k := 62) (ro_46 lp_7 (byte_at h.2)) h.1
theorem dL_law_511 : decode cL_law 511 = .ok (.aload_n 3, 1) := by
  have h := two_at (all_at lg_7 47 (a := (63, 45, .ok (.aload_n 3, 1))) rfl)
  exact dec_row (f := 448) (k := 63) (ro_45 lp_7 (byte_at h.2)) h.1
def lc_8 : ByteArray := .mk #[0xb8, 0x00, 0x91, 0x36, 0x06, 0x2c, 0x2a, 0x15, 0x05, 0x04, 0x60, 0x2e, 0x2a, 0x15, 0x05, 0x05, 0x60, 0x2e, 0x2a, 0x15, 0x05, 0x06, 0x60, 0x2e, 0xb6, 0x00, 0x93, 0x36, 0x07, 0xa7, 0x04, 0xb9, 0x2b, 0x2a, 0x15, 0x05, 0x04, 0x60, 0x2e, 0x2a, 0x15, 0x05, 0x05, 0x60, 0x2e, 0x2a, 0x15, 0x05, 0x06, 0x60, 0x2e, 0x2a, 0x15, 0x05, 0x07, 0x60, 0x2e, 0x2a, 0x15, 0x05, 0x08, 0x60, 0x2e, 0x2d, 0xb8, 0x00, 0x94, 0x36, 0x06, 0x2c, 0x2a, 0x15]
theorem lp_8 : Pc lc_8 cL_law 512 := Pc_of (n := 72) (by decide +kernel)
theorem lg_8 : ([(0, 184, .ok (.invokestatic 145, 3)), (3, 54, .ok (.istore 6, 2)), (5, 44, .ok (.aload_n 2, 1)), (6, 42, .ok (.aload_n 0, 1)), (7, 21, .ok (.iload 5, 2)), (9, 4, .ok (.iconst 1, 1)), (10, 96, .ok (.iadd, 1)), (11, 46, .ok (.iaload, 1)), (12, 42, .ok (.aload_n 0, 1)), (13, 21, .ok (.iload 5, 2)), (15, 5, .ok (.iconst 2, 1)), (16, 96, .ok (.iadd, 1)), (17, 46, .ok (.iaload, 1)), (18, 42, .ok (.aload_n 0, 1)), (19, 21, .ok (.iload 5, 2)), (21, 6, .ok (.iconst 3, 1)), (22, 96, .ok (.iadd, 1)), (23, 46, .ok (.iaload, 1)), (24, 182, .ok (.invokevirtual 147, 3)), (27, 54, .ok (.istore 7, 2)), (29, 167, .ok (.goto 1209, 3)), (32, 43, .ok (.aload_n 1, 1)), (33, 42, .ok (.aload_n 0, 1)), (34, 21, .ok (.iload 5, 2)), (36, 4, .ok (.iconst 1, 1)), (37, 96, .ok (.iadd, 1)), (38, 46, .ok (.iaload, 1)), (39, 42, .ok (.aload_n 0, 1)), (40, 21, .ok (.iload 5, 2)), (42, 5, .ok (.iconst 2, 1)), (43, 96, .ok (.iadd, 1)), (44, 46, .ok (.iaload, 1)), (45, 42, .ok (.aload_n 0, 1)), (46, 21, .ok (.iload 5, 2)), (48, 6, .ok (.iconst 3, 1)), (49, 96, .ok (.iadd, 1)), (50, 46, .ok (.iaload, 1)), (51, 42, .ok (.aload_n 0, 1)), (52, 21, .ok (.iload 5, 2)), (54, 7, .ok (.iconst 4, 1)), (55, 96, .ok (.iadd, 1)), (56, 46, .ok (.iaload, 1)), (57, 42, .ok (.aload_n 0, 1)), (58, 21, .ok (.iload 5, 2)), (60, 8, .ok (.iconst 5, 1)), (61, 96, .ok (.iadd, 1)), (62, 46, .ok (.iaload, 1)), (63, 45, .ok (.aload_n 3, 1))] : List (Nat × UInt8 × Except DecodeError (Instr × Nat))).all (fun q => decide (decode lc_8 q.1 = q.2.2) && decide (lc_8.data.toList[q.1]? = some q.2.1)) = true := by decide +kernel
theorem dL_law_512 : decode cL_law 512 = .ok (.invokestatic 145, 3) := by
  have h := two_at (all_at lg_8 0 (a := (0, 184, .ok (.invokestatic 145, 3))) rfl)
  exact dec_row (f := 512) (k := 0) (ro_184 lp_8 (byte_at h.2)) h.1
theorem dL_law_515 : decode cL_law 515 = .ok (.istore 6, 2) := by
  have h := two_at (all_at lg_8 1 (a := (3, 54, .ok (.istore 6, 2))) rfl)
  exact dec_row (f := 512) (k := 3) (ro_54 lp_8 (byte_at h.2)) h.1
theorem dL_law_517 : decode cL_law 517 = .ok (.aload_n 2, 1) := by
  have h := two_at (all_at lg_8 2 (a := (5, 44, .ok (.aload_n 2, 1))) rfl)
  exact dec_row (f := 512) (k := 5) (ro_44 lp_8 (byte_at h.2)) h.1
theorem dL_law_518 : decode cL_law 518 = .ok (.aload_n 0, 1) := by
  have h := two_at (all_at lg_8 3 (a := (6, 42, .ok (.aload_n 0, 1))) rfl)
  exact dec_row (f := 512) (k := 6) (ro_42 lp_8 (byte_at h.2)) h.1
theorem dL_law_519 : decode cL_law 519 = .ok (.iload 5, 2) := by
  have h := two_at (all_at lg_8 4 (a := (7, 21, .ok (.iload 5, 2))) rfl)
  exact dec_row (f := 512) (k := 7) (ro_21 lp_8 (byte_at h.2)) h.1
theorem dL_law_521 : decode cL_law 521 = .ok (.iconst 1, 1) := by
  have h := two_at (all_at lg_8 5 (a := (9, 4, .ok (.iconst 1, 1))) rfl)
  exact dec_row (f := 512) (k := 9) (ro_4 lp_8 (byte_at h.2)) h.1
theorem dL_law_522 : decode cL_law 522 = .ok (.iadd, 1) := by
  have h := two_at (all_at lg_8 6 (a := (10, 96, .ok (.iadd, 1))) rfl)
  exact dec_row (f := 512) (k := 10) (ro_96 lp_8 (byte_at h.2)) h.1
theorem dL_law_523 : decode cL_law 523 = .ok (.iaload, 1) := by
  have h := two_at (all_at lg_8 7 (a := (11, 46, .ok (.iaload, 1))) rfl)
  exact dec_row (f := 512) (k := 11) (ro_46 lp_8 (byte_at h.2)) h.1
theorem dL_law_524 : decode cL_law 524 = .ok (.aload_n 0, 1) := by
  have h := two_at (all_at lg_8 8 (a := (12, 42, .ok (.aload_n 0, 1))) rfl)
  exact dec_row (f := 512) (k := 12) (ro_42 lp_8 (byte_at h.2)) h.1
theorem dL_law_525 : decode cL_law 525 = .ok (.iload 5, 2) := by
  have h := two_at (all_at lg_8 9 (a := (13, 21, .ok (.iload 5, 2))) rfl)
  exact dec_row (f := 512) (k := 13) (ro_21 lp_8 (byte_at h.2)) h.1
theorem dL_law_527 : decode cL_law 527 = .ok (.iconst 2, 1) := by
  have h := two_at (all_at lg_8 10 (a := (15, 5, .ok (.iconst 2, 1))) rfl)
  exact dec_row (f := 512) (k := 15) (ro_5 lp_8 (byte_at h.2)) h.1
theorem dL_law_528 : decode cL_law 528 = .ok (.iadd, 1) := by
  have h := two_at (all_at lg_8 11 (a := (16, 96, .ok (.iadd, 1))) rfl)
  exact dec_row (f := 512) (k := 16) (ro_96 lp_8 (byte_at h.2)) h.1
theorem dL_law_529 : decode cL_law 529 = .ok (.iaload, 1) := by
  have h := two_at (all_at lg_8 12 (a := (17, 46, .ok (.iaload, 1))) rfl)
  exact dec_row (f := 512) (k := 17) (ro_46 lp_8 (byte_at h.2)) h.1
theorem dL_law_530 : decode cL_law 530 = .ok (.aload_n 0, 1) := by
  have h := two_at (all_at lg_8 13 (a := (18, 42, .ok (.aload_n 0, 1))) rfl)
  exact dec_row (f := 512) (k := 18) (ro_42 lp_8 (byte_at h.2)) h.1
theorem dL_law_531 : decode cL_law 531 = .ok (.iload 5, 2) := by
  have h := two_at (all_at lg_8 14 (a := (19, 21, .ok (.iload 5, 2))) rfl)
  exact dec_row (f := 512) (k := 19) (ro_21 lp_8 (byte_at h.2)) h.1
theorem dL_law_533 : decode cL_law 533 = .ok (.iconst 3, 1) := by
  have h := two_at (all_at lg_8 15 (a := (21, 6, .ok (.iconst 3, 1))) rfl)
  exact dec_row (f := 512) (k := 21) (ro_6 lp_8 (byte_at h.2)) h.1
theorem dL_law_534 : decode cL_law 534 = .ok (.iadd, 1) := by
  have h := two_at (all_at lg_8 16 (a := (22, 96, .ok (.iadd, 1))) rfl)
  exact dec_row (f := 512) (k := 22) (ro_96 lp_8 (byte_at h.2)) h.1
theorem dL_law_535 : decode cL_law 535 = .ok (.iaload, 1) := by
  have h := two_at (all_at lg_8 17 (a := (23, 46, .ok (.iaload, 1))) rfl)
  exact dec_row (f := 512) (k := 23) (ro_46 lp_8 (byte_at h.2)) h.1
theorem dL_law_536 : decode cL_law 536 = .ok (.invokevirtual 147, 3) := by
  have h := two_at (all_at lg_8 18 (a := (24, 182, .ok (.invokevirtual 147, 3))) rfl)
  exact dec_row (f := 512) (k := 24) (ro_182 lp_8 (byte_at h.2)) h.1
theorem dL_law_539 : decode cL_law 539 = .ok (.istore 7, 2) := by
  have h := two_at (all_at lg_8 19 (a := (27, 54, .ok (.istore 7, 2))) rfl)
  exact dec_row (f := 512) (k := 27) (ro_54 lp_8 (byte_at h.2)) h.1
theorem dL_law_541 : decode cL_law 541 = .ok (.goto 1209, 3) := by
  have h := two_at (all_at lg_8 20 (a := (29, 167, .ok (.goto 1209, 3))) rfl)
  exact dec_row (f := 512) (k := 29) (ro_167 lp_8 (byte_at h.2)) h.1
theorem dL_law_544 : decode cL_law 544 = .ok (.aload_n 1, 1) := by
  have h := two_at (all_at lg_8 21 (a := (32, 43, .ok (.aload_n 1, 1))) rfl)
  exact dec_row (f := 512) (k := 32) (ro_43 lp_8 (byte_at h.2)) h.1
theorem dL_law_545 : decode cL_law 545 = .ok (.aload_n 0, 1) := by
  have h := two_at (all_at lg_8 22 (a := (33, 42, .ok (.aload_n 0, 1))) rfl)
  exact dec_row (f := 512) (k := 33) (ro_42 lp_8 (byte_at h.2)) h.1
theorem dL_law_546 : decode cL_law 546 = .ok (.iload 5, 2) := by
  have h := two_at (all_at lg_8 23 (a := (34, 21, .ok (.iload 5, 2))) rfl)
  exact dec_row (f := 512) (k := 34) (ro_21 lp_8 (byte_at h.2)) h.1
theorem dL_law_548 : decode cL_law 548 = .ok (.iconst 1, 1) := by
  have h := two_at (all_at lg_8 24 (a := (36, 4, .ok (.iconst 1, 1))) rfl)
  exact dec_row (f := 512) (k := 36) (ro_4 lp_8 (byte_at h.2)) h.1
theorem dL_law_549 : decode cL_law 549 = .ok (.iadd, 1) := by
  have h := two_at (all_at lg_8 25 (a := (37, 96, .ok (.iadd, 1))) rfl)
  exact dec_row (f := 512) (k := 37) (ro_96 lp_8 (byte_at h.2)) h.1
theorem dL_law_550 : decode cL_law 550 = .ok (.iaload, 1) := by
  have h := two_at (all_at lg_8 26 (a := (38, 46, .ok (.iaload, 1))) rfl)
  exact dec_row (f := 512) (k := 38) (ro_46 lp_8 (byte_at h.2)) h.1
theorem dL_law_551 : decode cL_law 551 = .ok (.aload_n 0, 1) := by
  have h := two_at (all_at lg_8 27 (a := (39, 42, .ok (.aload_n 0, 1))) rfl)
  exact dec_row (f := 512) (k := 39) (ro_42 lp_8 (byte_at h.2)) h.1
theorem dL_law_552 : decode cL_law 552 = .ok (.iload 5, 2) := by
  have h := two_at (all_at lg_8 28 (a := (40, 21, .ok (.iload 5, 2))) rfl)
  exact dec_row (f := 512) (k := 40) (ro_21 lp_8 (byte_at h.2)) h.1
theorem dL_law_554 : decode cL_law 554 = .ok (.iconst 2, 1) := by
  have h := two_at (all_at lg_8 29 (a := (42, 5, .ok (.iconst 2, 1))) rfl)
  exact dec_row (f := 512) (k := 42) (ro_5 lp_8 (byte_at h.2)) h.1
theorem dL_law_555 : decode cL_law 555 = .ok (.iadd, 1) := by
  have h := two_at (all_at lg_8 30 (a := (43, 96, .ok (.iadd, 1))) rfl)
  exact dec_row (f := 512) (k := 43) (ro_96 lp_8 (byte_at h.2)) h.1
theorem dL_law_556 : decode cL_law 556 = .ok (.iaload, 1) := by
  have h := two_at (all_at lg_8 31 (a := (44, 46, .ok (.iaload, 1))) rfl)
  exact dec_row (f := 512) (k := 44) (ro_46 lp_8 (byte_at h.2)) h.1
theorem dL_law_557 : decode cL_law 557 = .ok (.aload_n 0, 1) := by
  have h := two_at (all_at lg_8 32 (a := (45, 42, .ok (.aload_n 0, 1))) rfl)
  exact dec_row (f := 512) (k := 45) (ro_42 lp_8 (byte_at h.2)) h.1
theorem dL_law_558 : decode cL_law 558 = .ok (.iload 5, 2) := by
  have h := two_at (all_at lg_8 33 (a := (46, 21, .ok (.iload 5, 2))) rfl)
  exact dec_row (f := 512) (k := 46) (ro_21 lp_8 (byte_at h.2)) h.1
theorem dL_law_560 : decode cL_law 560 = .ok (.iconst 3, 1) := by
  have h := two_at (all_at lg_8 34 (a := (48, 6, .ok (.iconst 3, 1))) rfl)
  exact dec_row (f := 512) (k := 48) (ro_6 lp_8 (byte_at h.2)) h.1
theorem dL_law_561 : decode cL_law 561 = .ok (.iadd, 1) := by
  have h := two_at (all_at lg_8 35 (a := (49, 96, .ok (.iadd, 1))) rfl)
  exact dec_row (f := 512) (k := 49) (ro_96 lp_8 (byte_at h.2)) h.1
theorem dL_law_562 : decode cL_law 562 = .ok (.iaload, 1) := by
  have h := two_at (all_at lg_8 36 (a := (50, 46, .ok (.iaload, 1))) rfl)
  exact dec_row (f := 512) (k := 50) (ro_46 lp_8 (byte_at h.2)) h.1
theorem dL_law_563 : decode cL_law 563 = .ok (.aload_n 0, 1) := by
  have h := two_at (all_at lg_8 37 (a := (51, 42, .ok (.aload_n 0, 1))) rfl)
  exact dec_row (f := 512) (k := 51) (ro_42 lp_8 (byte_at h.2)) h.1
theorem dL_law_564 : decode cL_law 564 = .ok (.iload 5, 2) := by
  have h := two_at (all_at lg_8 38 (a := (52, 21, .ok (.iload 5, 2))) rfl)
  exact dec_row (f := 512) (k := 52) (ro_21 lp_8 (byte_at h.2)) h.1
theorem dL_law_566 : decode cL_law 566 = .ok (.iconst 4, 1) := by
  have h := two_at (all_at lg_8 39 (a := (54, 7, .ok (.iconst 4, 1))) rfl)
  exact dec_row (f := 512) (k := 54) (ro_7 lp_8 (byte_at h.2)) h.1
theorem dL_law_567 : decode cL_law 567 = .ok (.iadd, 1) := by
  have h := two_at (all_at lg_8 40 (a := (55, 96, .ok (.iadd, 1))) rfl)
  exact dec_row (f := 512) (k := 55) (ro_96 lp_8 (byte_at h.2)) h.1
theorem dL_law_568 : decode cL_law 568 = .ok (.iaload, 1) := by
  have h := two_at (all_at lg_8 41 (a := (56, 46, .ok (.iaload, 1))) rfl)
  exact dec_row (f := 512) (k := 56) (ro_46 lp_8 (byte_at h.2)) h.1
theorem dL_law_569 : decode cL_law 569 = .ok (.aload_n 0, 1) := by
  have h := two_at (all_at lg_8 42 (a := (57, 42, .ok (.aload_n 0, 1))) rfl)
  exact dec_row (f := 512) (k := 57) (ro_42 lp_8 (byte_at h.2)) h.1
theorem dL_law_570 : decode cL_law 570 = .ok (.iload 5, 2) := by
  have h := two_at (all_at lg_8 43 (a := (58, 21, .ok (.iload 5, 2))) rfl)
  exact dec_row (f := 512) (k := 58) (ro_21 lp_8 (byte_at h.2)) h.1
theorem dL_law_572 : decode cL_law 572 = .ok (.iconst 5, 1) := by
  have h := two_at (all_at lg_8 44 (a := (60, 8, .ok (.iconst 5, 1))) rfl)
  exact dec_row (f := 512) (k := 60) (ro_8 lp_8 (byte_at h.2)) h.1
theorem dL_law_573 : decode cL_law 573 = .ok (.iadd, 1) := by
  have h := two_at (all_at lg_8 45 (a := (61, 96, .ok (.iadd, 1))) rfl)
  exact dec_row (f := 512) (k := 61) (ro_96 lp_8 (byte_at h.2)) h.1
theorem dL_law_574 : decode cL_law 574 = .ok (.iaload, 1) := by
  have h := two_at (all_at lg_8 46 (a := (62, 46, .ok (.iaload, 1))) rfl)
  exact dec_row (f := 512) (k := 62) (ro_46 lp_8 (byte_at h.2)) h.1
theorem dL_law_575 : decode cL_law 575 = .ok (.aload_n 3, 1) := by
  have h := two_at (all_at lg_8 47 (a := (63, 45, .ok (.aload_n 3, 1))) rfl)
  exact dec_row (f := 512) (k := 63) (ro_45 lp_8 (byte_at h.2)) h.1
def lc_9 : ByteArray := .mk #[0xb8, 0x00, 0x94, 0x36, 0x06, 0x2c, 0x2a, 0x15, 0x05, 0x04, 0x60, 0x2e, 0x2a, 0x15, 0x05, 0x05, 0x60, 0x2e, 0x2a, 0x15, 0x05, 0x06, 0x60, 0x2e, 0x2a, 0x15, 0x05, 0x07, 0x60, 0x2e, 0x2a, 0x15, 0x05, 0x08, 0x60, 0x2e, 0xb6, 0x00, 0x97, 0x36, 0x07, 0xa7, 0x04, 0x6d, 0x2b, 0x2a, 0x15, 0x05, 0x04, 0x60, 0x2e, 0x2a, 0x15, 0x05, 0x05, 0x60, 0x2e, 0x2d, 0xb8, 0x00, 0x98, 0x36, 0x06, 0x2c, 0x2a, 0x15, 0x05, 0x04, 0x60, 0x2e, 0x2a, 0x15]
theorem lp_9 : Pc lc_9 cL_law 576 := Pc_of (n := 72) (by decide +kernel)
theorem lg_9 : ([(0, 184, .ok (.invokestatic 148, 3)), (3, 54, .ok (.istore 6, 2)), (5, 44, .ok (.aload_n 2, 1)), (6, 42, .ok (.aload_n 0, 1)), (7, 21, .ok (.iload 5, 2)), (9, 4, .ok (.iconst 1, 1)), (10, 96, .ok (.iadd, 1)), (11, 46, .ok (.iaload, 1)), (12, 42, .ok (.aload_n 0, 1)), (13, 21, .ok (.iload 5, 2)), (15, 5, .ok (.iconst 2, 1)), (16, 96, .ok (.iadd, 1)), (17, 46, .ok (.iaload, 1)), (18, 42, .ok (.aload_n 0, 1)), (19, 21, .ok (.iload 5, 2)), (21, 6, .ok (.iconst 3, 1)), (22, 96, .ok (.iadd, 1)), (23, 46, .ok (.iaload, 1)), (24, 42, .ok (.aload_n 0, 1)), (25, 21, .ok (.iload 5, 2)), (27, 7, .ok (.iconst 4, 1)), (28, 96, .ok (.iadd, 1)), (29, 46, .ok (.iaload, 1)), (30, 42, .ok (.aload_n 0, 1)), (31, 21, .ok (.iload 5, 2)), (33, 8, .ok (.iconst 5, 1)), (34, 96, .ok (.iadd, 1)), (35, 46, .ok (.iaload, 1)), (36, 182, .ok (.invokevirtual 151, 3)), (39, 54, .ok (.istore 7, 2)), (41, 167, .ok (.goto 1133, 3)), (44, 43, .ok (.aload_n 1, 1)), (45, 42, .ok (.aload_n 0, 1)), (46, 21, .ok (.iload 5, 2)), (48, 4, .ok (.iconst 1, 1)), (49, 96, .ok (.iadd, 1)), (50, 46, .ok (.iaload, 1)), (51, 42, .ok (.aload_n 0, 1)), (52, 21, .ok (.iload 5, 2)), (54, 5, .ok (.iconst 2, 1)), (55, 96, .ok (.iadd, 1)), (56, 46, .ok (.iaload, 1)), (57, 45, .ok (.aload_n 3, 1)), (58, 184, .ok (.invokestatic 152, 3)), (61, 54, .ok (.istore 6, 2)), (63, 44, .ok (.aload_n 2, 1))] : List (Nat × UInt8 × Except DecodeError (Instr × Nat))).all (fun q => decide (decode lc_9 q.1 = q.2.2) && decide (lc_9.data.toList[q.1]? = some q.2.1)) = true := by decide +kernel
theorem dL_law_576 : decode cL_law 576 = .ok (.invokestatic 148, 3) := by
  have h := two_at (all_at lg_9 0 (a := (0, 184, .ok (.invokestatic 148, 3))) rfl)
  exact dec_row (f := 576) (k := 0) (ro_184 lp_9 (byte_at h.2)) h.1
theorem dL_law_579 : decode cL_law 579 = .ok (.istore 6, 2) := by
  have h := two_at (all_at lg_9 1 (a := (3, 54, .ok (.istore 6, 2))) rfl)
  exact dec_row (f := 576) (k := 3) (ro_54 lp_9 (byte_at h.2)) h.1
theorem dL_law_581 : decode cL_law 581 = .ok (.aload_n 2, 1) := by
  have h := two_at (all_at lg_9 2 (a := (5, 44, .ok (.aload_n 2, 1))) rfl)
  exact dec_row (f := 576) (k := 5) (ro_44 lp_9 (byte_at h.2)) h.1
theorem dL_law_582 : decode cL_law 582 = .ok (.aload_n 0, 1) := by
  have h := two_at (all_at lg_9 3 (a := (6, 42, .ok (.aload_n 0, 1))) rfl)
  exact dec_row (f := 576) (k := 6) (ro_42 lp_9 (byte_at h.2)) h.1
theorem dL_law_583 : decode cL_law 583 = .ok (.iload 5, 2) := by
  have h := two_at (all_at lg_9 4 (a := (7, 21, .ok (.iload 5, 2))) rfl)
  exact dec_row (f := 576) (k := 7) (ro_21 lp_9 (byte_at h.2)) h.1
theorem dL_law_585 : decode cL_law 585 = .ok (.iconst 1, 1) := by
  have h := two_at (all_at lg_9 5 (a := (9, 4, .ok (.iconst 1, 1))) rfl)
  exact dec_row (f := 576) (k := 9) (ro_4 lp_9 (byte_at h.2)) h.1
theorem dL_law_586 : decode cL_law 586 = .ok (.iadd, 1) := by
  have h := two_at (all_at lg_9 6 (a := (10, 96, .ok (.iadd, 1))) rfl)
  exact dec_row (f := 576) (k := 10) (ro_96 lp_9 (byte_at h.2)) h.1
theorem dL_law_587 : decode cL_law 587 = .ok (.iaload, 1) := by
  have h := two_at (all_at lg_9 7 (a := (11, 46, .ok (.iaload, 1))) rfl)
  exact dec_row (f := 576) (k := 11) (ro_46 lp_9 (byte_at h.2)) h.1
theorem dL_law_588 : decode cL_law 588 = .ok (.aload_n 0, 1) := by
  have h := two_at (all_at lg_9 8 (a := (12, 42, .ok (.aload_n 0, 1))) rfl)
  exact dec_row (f := 576) (k := 12) (ro_42 lp_9 (byte_at h.2)) h.1
theorem dL_law_589 : decode cL_law 589 = .ok (.iload 5, 2) := by
  have h := two_at (all_at lg_9 9 (a := (13, 21, .ok (.iload 5, 2))) rfl)
  exact dec_row (f := 576) (k := 13) (ro_21 lp_9 (byte_at h.2)) h.1
theorem dL_law_591 : decode cL_law 591 = .ok (.iconst 2, 1) := by
  have h := two_at (all_at lg_9 10 (a := (15, 5, .ok (.iconst 2, 1))) rfl)
  exact dec_row (f := 576) (k := 15) (ro_5 lp_9 (byte_at h.2)) h.1
theorem dL_law_592 : decode cL_law 592 = .ok (.iadd, 1) := by
  have h := two_at (all_at lg_9 11 (a := (16, 96, .ok (.iadd, 1))) rfl)
  exact dec_row (f := 576) (k := 16) (ro_96 lp_9 (byte_at h.2)) h.1
theorem dL_law_593 : decode cL_law 593 = .ok (.iaload, 1) := by
  have h := two_at (all_at lg_9 12 (a := (17, 46, .ok (.iaload, 1))) rfl)
  exact dec_row (f := 576) (k := 17) (ro_46 lp_9 (byte_at h.2)) h.1
theorem dL_law_594 : decode cL_law 594 = .ok (.aload_n 0, 1) := by
  have h := two_at (all_at lg_9 13 (a := (18, 42, .ok (.aload_n 0, 1))) rfl)
  exact dec_row (f := 576) (k := 18) (ro_42 lp_9 (byte_at h.2)) h.1
theorem dL_law_595 : decode cL_law 595 = .ok (.iload 5, 2) := by
  have h := two_at (all_at lg_9 14 (a := (19, 21, .ok (.iload 5, 2))) rfl)
  exact dec_row (f := 576) (k := 19) (ro_21 lp_9 (byte_at h.2)) h.1
theorem dL_law_597 : decode cL_law 597 = .ok (.iconst 3, 1) := by
  have h := two_at (all_at lg_9 15 (a := (21, 6, .ok (.iconst 3, 1))) rfl)
  exact dec_row (f := 576) (k := 21) (ro_6 lp_9 (byte_at h.2)) h.1
theorem dL_law_598 : decode cL_law 598 = .ok (.iadd, 1) := by
  have h := two_at (all_at lg_9 16 (a := (22, 96, .ok (.iadd, 1))) rfl)
  exact dec_row (f := 576) (k := 22) (ro_96 lp_9 (byte_at h.2)) h.1
theorem dL_law_599 : decode cL_law 599 = .ok (.iaload, 1) := by
  have h := two_at (all_at lg_9 17 (a := (23, 46, .ok (.iaload, 1))) rfl)
  exact dec_row (f := 576) (k := 23) (ro_46 lp_9 (byte_at h.2)) h.1
theorem dL_law_600 : decode cL_law 600 = .ok (.aload_n 0, 1) := by
  have h := two_at (all_at lg_9 18 (a := (24, 42, .ok (.aload_n 0, 1))) rfl)
  exact dec_row (f := 576) (k := 24) (ro_42 lp_9 (byte_at h.2)) h.1
theorem dL_law_601 : decode cL_law 601 = .ok (.iload 5, 2) := by
  have h := two_at (all_at lg_9 19 (a := (25, 21, .ok (.iload 5, 2))) rfl)
  exact dec_row (f := 576) (k := 25) (ro_21 lp_9 (byte_at h.2)) h.1
theorem dL_law_603 : decode cL_law 603 = .ok (.iconst 4, 1) := by
  have h := two_at (all_at lg_9 20 (a := (27, 7, .ok (.iconst 4, 1))) rfl)
  exact dec_row (f := 576) (k := 27) (ro_7 lp_9 (byte_at h.2)) h.1
theorem dL_law_604 : decode cL_law 604 = .ok (.iadd, 1) := by
  have h := two_at (all_at lg_9 21 (a := (28, 96, .ok (.iadd, 1))) rfl)
  exact dec_row (f := 576) (k := 28) (ro_96 lp_9 (byte_at h.2)) h.1
theorem dL_law_605 : decode cL_law 605 = .ok (.iaload, 1) := by
  have h := two_at (all_at lg_9 22 (a := (29, 46, .ok (.iaload, 1))) rfl)
  exact dec_row (f := 576) (k := 29) (ro_46 lp_9 (byte_at h.2)) h.1
theorem dL_law_606 : decode cL_law 606 = .ok (.aload_n 0, 1) := by
  have h := two_at (all_at lg_9 23 (a := (30, 42, .ok (.aload_n 0, 1))) rfl)
  exact dec_row (f := 576) (k := 30) (ro_42 lp_9 (byte_at h.2)) h.1
theorem dL_law_607 : decode cL_law 607 = .ok (.iload 5, 2) := by
  have h := two_at (all_at lg_9 24 (a := (31, 21, .ok (.iload 5, 2))) rfl)
  exact dec_row (f := 576) (k := 31) (ro_21 lp_9 (byte_at h.2)) h.1
theorem dL_law_609 : decode cL_law 609 = .ok (.iconst 5, 1) := by
  have h := two_at (all_at lg_9 25 (a := (33, 8, .ok (.iconst 5, 1))) rfl)
  exact dec_row (f := 576) (k := 33) (ro_8 lp_9 (byte_at h.2)) h.1
theorem dL_law_610 : decode cL_law 610 = .ok (.iadd, 1) := by
  have h := two_at (all_at lg_9 26 (a := (34, 96, .ok (.iadd, 1))) rfl)
  exact dec_row (f := 576) (k := 34) (ro_96 lp_9 (byte_at h.2)) h.1
theorem dL_law_611 : decode cL_law 611 = .ok (.iaload, 1) := by
  have h := two_at (all_at lg_9 27 (a := (35, 46, .ok (.iaload, 1))) rfl)
  exact dec_row (f := 576) (k := 35) (ro_46 lp_9 (byte_at h.2)) h.1
theorem dL_law_612 : decode cL_law 612 = .ok (.invokevirtual 151, 3) := by
  have h := two_at (all_at lg_9 28 (a := (36, 182, .ok (.invokevirtual 151, 3))) rfl)
  exact dec_row (f := 576) (k := 36) (ro_182 lp_9 (byte_at h.2)) h.1
theorem dL_law_615 : decode cL_law 615 = .ok (.istore 7, 2) := by
  have h := two_at (all_at lg_9 29 (a := (39, 54, .ok (.istore 7, 2))) rfl)
  exact dec_row (f := 576) (k := 39) (ro_54 lp_9 (byte_at h.2)) h.1
theorem dL_law_617 : decode cL_law 617 = .ok (.goto 1133, 3) := by
  have h := two_at (all_at lg_9 30 (a := (41, 167, .ok (.goto 1133, 3))) rfl)
  exact dec_row (f := 576) (k := 41) (ro_167 lp_9 (byte_at h.2)) h.1
theorem dL_law_620 : decode cL_law 620 = .ok (.aload_n 1, 1) := by
  have h := two_at (all_at lg_9 31 (a := (44, 43, .ok (.aload_n 1, 1))) rfl)
  exact dec_row (f := 576) (k := 44) (ro_43 lp_9 (byte_at h.2)) h.1
theorem dL_law_621 : decode cL_law 621 = .ok (.aload_n 0, 1) := by
  have h := two_at (all_at lg_9 32 (a := (45, 42, .ok (.aload_n 0, 1))) rfl)
  exact dec_row (f := 576) (k := 45) (ro_42 lp_9 (byte_at h.2)) h.1
theorem dL_law_622 : decode cL_law 622 = .ok (.iload 5, 2) := by
  have h := two_at (all_at lg_9 33 (a := (46, 21, .ok (.iload 5, 2))) rfl)
  exact dec_row (f := 576) (k := 46) (ro_21 lp_9 (byte_at h.2)) h.1
theorem dL_law_624 : decode cL_law 624 = .ok (.iconst 1, 1) := by
  have h := two_at (all_at lg_9 34 (a := (48, 4, .ok (.iconst 1, 1))) rfl)
  exact dec_row (f := 576) (k := 48) (ro_4 lp_9 (byte_at h.2)) h.1
theorem dL_law_625 : decode cL_law 625 = .ok (.iadd, 1) := by
  have h := two_at (all_at lg_9 35 (a := (49, 96, .ok (.iadd, 1))) rfl)
  exact dec_row (f := 576) (k := 49) (ro_96 lp_9 (byte_at h.2)) h.1
theorem dL_law_626 : decode cL_law 626 = .ok (.iaload, 1) := by
  have h := two_at (all_at lg_9 36 (a := (50, 46, .ok (.iaload, 1))) rfl)
  exact dec_row (f := 576) (k := 50) (ro_46 lp_9 (byte_at h.2)) h.1
theorem dL_law_627 : decode cL_law 627 = .ok (.aload_n 0, 1) := by
  have h := two_at (all_at lg_9 37 (a := (51, 42, .ok (.aload_n 0, 1))) rfl)
  exact dec_row (f := 576) (k := 51) (ro_42 lp_9 (byte_at h.2)) h.1
theorem dL_law_628 : decode cL_law 628 = .ok (.iload 5, 2) := by
  have h := two_at (all_at lg_9 38 (a := (52, 21, .ok (.iload 5, 2))) rfl)
  exact dec_row (f := 576) (k := 52) (ro_21 lp_9 (byte_at h.2)) h.1
theorem dL_law_630 : decode cL_law 630 = .ok (.iconst 2, 1) := by
  have h := two_at (all_at lg_9 39 (a := (54, 5, .ok (.iconst 2, 1))) rfl)
  exact dec_row (f := 576) (k := 54) (ro_5 lp_9 (byte_at h.2)) h.1
theorem dL_law_631 : decode cL_law 631 = .ok (.iadd, 1) := by
  have h := two_at (all_at lg_9 40 (a := (55, 96, .ok (.iadd, 1))) rfl)
  exact dec_row (f := 576) (k := 55) (ro_96 lp_9 (byte_at h.2)) h.1
theorem dL_law_632 : decode cL_law 632 = .ok (.iaload, 1) := by
  have h := two_at (all_at lg_9 41 (a := (56, 46, .ok (.iaload, 1))) rfl)
  exact dec_row (f := 576) (k := 56) (ro_46 lp_9 (byte_at h.2)) h.1
theorem dL_law_633 : decode cL_law 633 = .ok (.aload_n 3, 1) := by
  have h := two_at (all_at lg_9 42 (a := (57, 45, .ok (.aload_n 3, 1))) rfl)
  exact dec_row (f := 576) (k := 57) (ro_45 lp_9 (byte_at h.2)) h.1
theorem dL_law_634 : decode cL_law 634 = .ok (.invokestatic 152, 3) := by
  have h := two_at (all_at lg_9 43 (a := (58, 184, .ok (.invokestatic 152, 3))) rfl)
  exact dec_row (f := 576) (k := 58) (ro_184 lp_9 (byte_at h.2)) h.1
theorem dL_law_637 : decode cL_law 637 = .ok (.istore 6, 2) := by
  have h := two_at (all_at lg_9 44 (a := (61, 54, .ok (.istore 6, 2))) rfl)
  exact dec_row (f := 576) (k := 61) (ro_54 lp_9 (byte_at h.2)) h.1
theorem dL_law_639 : decode cL_law 639 = .ok (.aload_n 2, 1) := by
  have h := two_at (all_at lg_9 45 (a := (63, 44, .ok (.aload_n 2, 1))) rfl)
  exact dec_row (f := 576) (k := 63) (ro_44 lp_9 (byte_at h.2)) h.1
def lc_10 : ByteArray := .mk #[0x2a, 0x15, 0x05, 0x04, 0x60, 0x2e, 0x2a, 0x15, 0x05, 0x05, 0x60, 0x2e, 0xb6, 0x00, 0x9b, 0x36, 0x07, 0xa7, 0x04, 0x45, 0x2b, 0x2a, 0x15, 0x05, 0x04, 0x60, 0x2e, 0x2d, 0xb8, 0x00, 0x9c, 0x36, 0x06, 0x2c, 0x2a, 0x15, 0x05, 0x04, 0x60, 0x2e, 0xb6, 0x00, 0x9f, 0x36, 0x07, 0xa7, 0x04, 0x29, 0x2b, 0x2a, 0x15, 0x05, 0x04, 0x60, 0x2e, 0x2d, 0xb8, 0x00, 0xa0, 0x36, 0x06, 0x2c, 0x2a, 0x15, 0x05, 0x04, 0x60, 0x2e, 0xb6, 0x00, 0xa2, 0x36]
theorem lp_10 : Pc lc_10 cL_law 640 := Pc_of (n := 72) (by decide +kernel)
theorem lg_10 : ([(0, 42, .ok (.aload_n 0, 1)), (1, 21, .ok (.iload 5, 2)), (3, 4, .ok (.iconst 1, 1)), (4, 96, .ok (.iadd, 1)), (5, 46, .ok (.iaload, 1)), (6, 42, .ok (.aload_n 0, 1)), (7, 21, .ok (.iload 5, 2)), (9, 5, .ok (.iconst 2, 1)), (10, 96, .ok (.iadd, 1)), (11, 46, .ok (.iaload, 1)), (12, 182, .ok (.invokevirtual 155, 3)), (15, 54, .ok (.istore 7, 2)), (17, 167, .ok (.goto 1093, 3)), (20, 43, .ok (.aload_n 1, 1)), (21, 42, .ok (.aload_n 0, 1)), (22, 21, .ok (.iload 5, 2)), (24, 4, .ok (.iconst 1, 1)), (25, 96, .ok (.iadd, 1)), (26, 46, .ok (.iaload, 1)), (27, 45, .ok (.aload_n 3, 1)), (28, 184, .ok (.invokestatic 156, 3)), (31, 54, .ok (.istore 6, 2)), (33, 44, .ok (.aload_n 2, 1)), (34, 42, .ok (.aload_n 0, 1)), (35, 21, .ok (.iload 5, 2)), (37, 4, .ok (.iconst 1, 1)), (38, 96, .ok (.iadd, 1)), (39, 46, .ok (.iaload, 1)), (40, 182, .ok (.invokevirtual 159, 3)), (43, 54, .ok (.istore 7, 2)), (45, 167, .ok (.goto 1065, 3)), (48, 43, .ok (.aload_n 1, 1)), (49, 42, .ok (.aload_n 0, 1)), (50, 21, .ok (.iload 5, 2)), (52, 4, .ok (.iconst 1, 1)), (53, 96, .ok (.iadd, 1)), (54, 46, .ok (.iaload, 1)), (55, 45, .ok (.aload_n 3, 1)), (56, 184, .ok (.invokestatic 160, 3)), (59, 54, .ok (.istore 6, 2)), (61, 44, .ok (.aload_n 2, 1)), (62, 42, .ok (.aload_n 0, 1)), (63, 21, .ok (.iload 5, 2))] : List (Nat × UInt8 × Except DecodeError (Instr × Nat))).all (fun q => decide (decode lc_10 q.1 = q.2.2) && decide (lc_10.data.toList[q.1]? = some q.2.1)) = true := by decide +kernel
theorem dL_law_640 : decode cL_law 640 = .ok (.aload_n 0, 1) := by
  have h := two_at (all_at lg_10 0 (a := (0, 42, .ok (.aload_n 0, 1))) rfl)
  exact dec_row (f := 640) (k := 0) (ro_42 lp_10 (byte_at h.2)) h.1
theorem dL_law_641 : decode cL_law 641 = .ok (.iload 5, 2) := by
  have h := two_at (all_at lg_10 1 (a := (1, 21, .ok (.iload 5, 2))) rfl)
  exact dec_row (f := 640) (k := 1) (ro_21 lp_10 (byte_at h.2)) h.1
theorem dL_law_643 : decode cL_law 643 = .ok (.iconst 1, 1) := by
  have h := two_at (all_at lg_10 2 (a := (3, 4, .ok (.iconst 1, 1))) rfl)
  exact dec_row (f := 640) (k := 3) (ro_4 lp_10 (byte_at h.2)) h.1
theorem dL_law_644 : decode cL_law 644 = .ok (.iadd, 1) := by
  have h := two_at (all_at lg_10 3 (a := (4, 96, .ok (.iadd, 1))) rfl)
  exact dec_row (f := 640) (k := 4) (ro_96 lp_10 (byte_at h.2)) h.1
theorem dL_law_645 : decode cL_law 645 = .ok (.iaload, 1) := by
  have h := two_at (all_at lg_10 4 (a := (5, 46, .ok (.iaload, 1))) rfl)
  exact dec_row (f := 640) (k := 5) (ro_46 lp_10 (byte_at h.2)) h.1
theorem dL_law_646 : decode cL_law 646 = .ok (.aload_n 0, 1) := by
  have h := two_at (all_at lg_10 5 (a := (6, 42, .ok (.aload_n 0, 1))) rfl)
  exact dec_row (f := 640) (k := 6) (ro_42 lp_10 (byte_at h.2)) h.1
theorem dL_law_647 : decode cL_law 647 = .ok (.iload 5, 2) := by
  have h := two_at (all_at lg_10 6 (a := (7, 21, .ok (.iload 5, 2))) rfl)
  exact dec_row (f := 640) (k := 7) (ro_21 lp_10 (byte_at h.2)) h.1
theorem dL_law_649 : decode cL_law 649 = .ok (.iconst 2, 1) := by
  have h := two_at (all_at lg_10 7 (a := (9, 5, .ok (.iconst 2, 1))) rfl)
  exact dec_row (f := 640) (k := 9) (ro_5 lp_10 (byte_at h.2)) h.1
theorem dL_law_650 : decode cL_law 650 = .ok (.iadd, 1) := by
  have h := two_at (all_at lg_10 8 (a := (10, 96, .ok (.iadd, 1))) rfl)
  exact dec_row (f := 640) (k := 10) (ro_96 lp_10 (byte_at h.2)) h.1
theorem dL_law_651 : decode cL_law 651 = .ok (.iaload, 1) := by
  have h := two_at (all_at lg_10 9 (a := (11, 46, .ok (.iaload, 1))) rfl)
  exact dec_row (f := 640) (k := 11) (ro_46 lp_10 (byte_at h.2)) h.1
theorem dL_law_652 : decode cL_law 652 = .ok (.invokevirtual 155, 3) := by
  have h := two_at (all_at lg_10 10 (a := (12, 182, .ok (.invokevirtual 155, 3))) rfl)
  exact dec_row (f := 640) (k := 12) (ro_182 lp_10 (byte_at h.2)) h.1
theorem dL_law_655 : decode cL_law 655 = .ok (.istore 7, 2) := by
  have h := two_at (all_at lg_10 11 (a := (15, 54, .ok (.istore 7, 2))) rfl)
  exact dec_row (f := 640) (k := 15) (ro_54 lp_10 (byte_at h.2)) h.1
theorem dL_law_657 : decode cL_law 657 = .ok (.goto 1093, 3) := by
  have h := two_at (all_at lg_10 12 (a := (17, 167, .ok (.goto 1093, 3))) rfl)
  exact dec_row (f := 640) (k := 17) (ro_167 lp_10 (byte_at h.2)) h.1
theorem dL_law_660 : decode cL_law 660 = .ok (.aload_n 1, 1) := by
  have h := two_at (all_at lg_10 13 (a := (20, 43, .ok (.aload_n 1, 1))) rfl)
  exact dec_row (f := 640) (k := 20) (ro_43 lp_10 (byte_at h.2)) h.1
theorem dL_law_661 : decode cL_law 661 = .ok (.aload_n 0, 1) := by
  have h := two_at (all_at lg_10 14 (a := (21, 42, .ok (.aload_n 0, 1))) rfl)
  exact dec_row (f := 640) (k := 21) (ro_42 lp_10 (byte_at h.2)) h.1
theorem dL_law_662 : decode cL_law 662 = .ok (.iload 5, 2) := by
  have h := two_at (all_at lg_10 15 (a := (22, 21, .ok (.iload 5, 2))) rfl)
  exact dec_row (f := 640) (k := 22) (ro_21 lp_10 (byte_at h.2)) h.1
theorem dL_law_664 : decode cL_law 664 = .ok (.iconst 1, 1) := by
  have h := two_at (all_at lg_10 16 (a := (24, 4, .ok (.iconst 1, 1))) rfl)
  exact dec_row (f := 640) (k := 24) (ro_4 lp_10 (byte_at h.2)) h.1
theorem dL_law_665 : decode cL_law 665 = .ok (.iadd, 1) := by
  have h := two_at (all_at lg_10 17 (a := (25, 96, .ok (.iadd, 1))) rfl)
  exact dec_row (f := 640) (k := 25) (ro_96 lp_10 (byte_at h.2)) h.1
theorem dL_law_666 : decode cL_law 666 = .ok (.iaload, 1) := by
  have h := two_at (all_at lg_10 18 (a := (26, 46, .ok (.iaload, 1))) rfl)
  exact dec_row (f := 640) (k := 26) (ro_46 lp_10 (byte_at h.2)) h.1
theorem dL_law_667 : decode cL_law 667 = .ok (.aload_n 3, 1) := by
  have h := two_at (all_at lg_10 19 (a := (27, 45, .ok (.aload_n 3, 1))) rfl)
  exact dec_row (f := 640) (k := 27) (ro_45 lp_10 (byte_at h.2)) h.1
theorem dL_law_668 : decode cL_law 668 = .ok (.invokestatic 156, 3) := by
  have h := two_at (all_at lg_10 20 (a := (28, 184, .ok (.invokestatic 156, 3))) rfl)
  exact dec_row (f := 640) (k := 28) (ro_184 lp_10 (byte_at h.2)) h.1
theorem dL_law_671 : decode cL_law 671 = .ok (.istore 6, 2) := by
  have h := two_at (all_at lg_10 21 (a := (31, 54, .ok (.istore 6, 2))) rfl)
  exact dec_row (f := 640) (k := 31) (ro_54 lp_10 (byte_at h.2)) h.1
theorem dL_law_673 : decode cL_law 673 = .ok (.aload_n 2, 1) := by
  have h := two_at (all_at lg_10 22 (a := (33, 44, .ok (.aload_n 2, 1))) rfl)
  exact dec_row (f := 640) (k := 33) (ro_44 lp_10 (byte_at h.2)) h.1
theorem dL_law_674 : decode cL_law 674 = .ok (.aload_n 0, 1) := by
  have h := two_at (all_at lg_10 23 (a := (34, 42, .ok (.aload_n 0, 1))) rfl)
  exact dec_row (f := 640) (k := 34) (ro_42 lp_10 (byte_at h.2)) h.1
theorem dL_law_675 : decode cL_law 675 = .ok (.iload 5, 2) := by
  have h := two_at (all_at lg_10 24 (a := (35, 21, .ok (.iload 5, 2))) rfl)
  exact dec_row (f := 640) (k := 35) (ro_21 lp_10 (byte_at h.2)) h.1
theorem dL_law_677 : decode cL_law 677 = .ok (.iconst 1, 1) := by
  have h := two_at (all_at lg_10 25 (a := (37, 4, .ok (.iconst 1, 1))) rfl)
  exact dec_row (f := 640) (k := 37) (ro_4 lp_10 (byte_at h.2)) h.1
theorem dL_law_678 : decode cL_law 678 = .ok (.iadd, 1) := by
  have h := two_at (all_at lg_10 26 (a := (38, 96, .ok (.iadd, 1))) rfl)
  exact dec_row (f := 640) (k := 38) (ro_96 lp_10 (byte_at h.2)) h.1
theorem dL_law_679 : decode cL_law 679 = .ok (.iaload, 1) := by
  have h := two_at (all_at lg_10 27 (a := (39, 46, .ok (.iaload, 1))) rfl)
  exact dec_row (f := 640) (k := 39) (ro_46 lp_10 (byte_at h.2)) h.1
theorem dL_law_680 : decode cL_law 680 = .ok (.invokevirtual 159, 3) := by
  have h := two_at (all_at lg_10 28 (a := (40, 182, .ok (.invokevirtual 159, 3))) rfl)
  exact dec_row (f := 640) (k := 40) (ro_182 lp_10 (byte_at h.2)) h.1
theorem dL_law_683 : decode cL_law 683 = .ok (.istore 7, 2) := by
  have h := two_at (all_at lg_10 29 (a := (43, 54, .ok (.istore 7, 2))) rfl)
  exact dec_row (f := 640) (k := 43) (ro_54 lp_10 (byte_at h.2)) h.1
theorem dL_law_685 : decode cL_law 685 = .ok (.goto 1065, 3) := by
  have h := two_at (all_at lg_10 30 (a := (45, 167, .ok (.goto 1065, 3))) rfl)
  exact dec_row (f := 640) (k := 45) (ro_167 lp_10 (byte_at h.2)) h.1
theorem dL_law_688 : decode cL_law 688 = .ok (.aload_n 1, 1) := by
  have h := two_at (all_at lg_10 31 (a := (48, 43, .ok (.aload_n 1, 1))) rfl)
  exact dec_row (f := 640) (k := 48) (ro_43 lp_10 (byte_at h.2)) h.1
theorem dL_law_689 : decode cL_law 689 = .ok (.aload_n 0, 1) := by
  have h := two_at (all_at lg_10 32 (a := (49, 42, .ok (.aload_n 0, 1))) rfl)
  exact dec_row (f := 640) (k := 49) (ro_42 lp_10 (byte_at h.2)) h.1
theorem dL_law_690 : decode cL_law 690 = .ok (.iload 5, 2) := by
  have h := two_at (all_at lg_10 33 (a := (50, 21, .ok (.iload 5, 2))) rfl)
  exact dec_row (f := 640) (k := 50) (ro_21 lp_10 (byte_at h.2)) h.1
theorem dL_law_692 : decode cL_law 692 = .ok (.iconst 1, 1) := by
  have h := two_at (all_at lg_10 34 (a := (52, 4, .ok (.iconst 1, 1))) rfl)
  exact dec_row (f := 640) (k := 52) (ro_4 lp_10 (byte_at h.2)) h.1
theorem dL_law_693 : decode cL_law 693 = .ok (.iadd, 1) := by
  have h := two_at (all_at lg_10 35 (a := (53, 96, .ok (.iadd, 1))) rfl)
  exact dec_row (f := 640) (k := 53) (ro_96 lp_10 (byte_at h.2)) h.1
theorem dL_law_694 : decode cL_law 694 = .ok (.iaload, 1) := by
  have h := two_at (all_at lg_10 36 (a := (54, 46, .ok (.iaload, 1))) rfl)
  exact dec_row (f := 640) (k := 54) (ro_46 lp_10 (byte_at h.2)) h.1
theorem dL_law_695 : decode cL_law 695 = .ok (.aload_n 3, 1) := by
  have h := two_at (all_at lg_10 37 (a := (55, 45, .ok (.aload_n 3, 1))) rfl)
  exact dec_row (f := 640) (k := 55) (ro_45 lp_10 (byte_at h.2)) h.1
theorem dL_law_696 : decode cL_law 696 = .ok (.invokestatic 160, 3) := by
  have h := two_at (all_at lg_10 38 (a := (56, 184, .ok (.invokestatic 160, 3))) rfl)
  exact dec_row (f := 640) (k := 56) (ro_184 lp_10 (byte_at h.2)) h.1
theorem dL_law_699 : decode cL_law 699 = .ok (.istore 6, 2) := by
  have h := two_at (all_at lg_10 39 (a := (59, 54, .ok (.istore 6, 2))) rfl)
  exact dec_row (f := 640) (k := 59) (ro_54 lp_10 (byte_at h.2)) h.1
theorem dL_law_701 : decode cL_law 701 = .ok (.aload_n 2, 1) := by
  have h := two_at (all_at lg_10 40 (a := (61, 44, .ok (.aload_n 2, 1))) rfl)
  exact dec_row (f := 640) (k := 61) (ro_44 lp_10 (byte_at h.2)) h.1
theorem dL_law_702 : decode cL_law 702 = .ok (.aload_n 0, 1) := by
  have h := two_at (all_at lg_10 41 (a := (62, 42, .ok (.aload_n 0, 1))) rfl)
  exact dec_row (f := 640) (k := 62) (ro_42 lp_10 (byte_at h.2)) h.1
theorem dL_law_703 : decode cL_law 703 = .ok (.iload 5, 2) := by
  have h := two_at (all_at lg_10 42 (a := (63, 21, .ok (.iload 5, 2))) rfl)
  exact dec_row (f := 640) (k := 63) (ro_21 lp_10 (byte_at h.2)) h.1
def lc_11 : ByteArray := .mk #[0x05, 0x04, 0x60, 0x2e, 0xb6, 0x00, 0xa2, 0x36, 0x07, 0xa7, 0x04, 0x0d, 0x2b, 0xb6, 0x00, 0xa3, 0x57, 0x2c, 0xb6, 0x00, 0xa7, 0x57, 0xa7, 0x04, 0x00, 0x2b, 0x2a, 0x15, 0x05, 0x04, 0x60, 0x2e, 0x2a, 0x15, 0x05, 0x05, 0x60, 0x2e, 0x2d, 0xb8, 0x00, 0xa8, 0x36, 0x06, 0x2c, 0x2a, 0x15, 0x05, 0x04, 0x60, 0x2e, 0x2a, 0x15, 0x05, 0x05, 0x60, 0x2e, 0xb6, 0x00, 0xaa, 0x36, 0x07, 0xa7, 0x03, 0xd8, 0x2b, 0x2a, 0x15, 0x05, 0x04, 0x60, 0x2e]
theorem lp_11 : Pc lc_11 cL_law 704 := Pc_of (n := 72) (by decide +kernel)
theorem lg_11 : ([(1, 4, .ok (.iconst 1, 1)), (2, 96, .ok (.iadd, 1)), (3, 46, .ok (.iaload, 1)), (4, 182, .ok (.invokevirtual 162, 3)), (7, 54, .ok (.istore 7, 2)), (9, 167, .ok (.goto 1037, 3)), (12, 43, .ok (.aload_n 1, 1)), (13, 182, .ok (.invokevirtual 163, 3)), (16, 87, .ok (.pop, 1)), (17, 44, .ok (.aload_n 2, 1)), (18, 182, .ok (.invokevirtual 167, 3)), (21, 87, .ok (.pop, 1)), (22, 167, .ok (.goto 1024, 3)), (25, 43, .ok (.aload_n 1, 1)), (26, 42, .ok (.aload_n 0, 1)), (27, 21, .ok (.iload 5, 2)), (29, 4, .ok (.iconst 1, 1)), (30, 96, .ok (.iadd, 1)), (31, 46, .ok (.iaload, 1)), (32, 42, .ok (.aload_n 0, 1)), (33, 21, .ok (.iload 5, 2)), (35, 5, .ok (.iconst 2, 1)), (36, 96, .ok (.iadd, 1)), (37, 46, .ok (.iaload, 1)), (38, 45, .ok (.aload_n 3, 1)), (39, 184, .ok (.invokestatic 168, 3)), (42, 54, .ok (.istore 6, 2)), (44, 44, .ok (.aload_n 2, 1)), (45, 42, .ok (.aload_n 0, 1)), (46, 21, .ok (.iload 5, 2)), (48, 4, .ok (.iconst 1, 1)), (49, 96, .ok (.iadd, 1)), (50, 46, .ok (.iaload, 1)), (51, 42, .ok (.aload_n 0, 1)), (52, 21, .ok (.iload 5, 2)), (54, 5, .ok (.iconst 2, 1)), (55, 96, .ok (.iadd, 1)), (56, 46, .ok (.iaload, 1)), (57, 182, .ok (.invokevirtual 170, 3)), (60, 54, .ok (.istore 7, 2)), (62, 167, .ok (.goto 984, 3))] : List (Nat × UInt8 × Except DecodeError (Instr × Nat))).all (fun q => decide (decode lc_11 q.1 = q.2.2) && decide (lc_11.data.toList[q.1]? = some q.2.1)) = true := by decide +kernel
theorem dL_law_705 : decode cL_law 705 = .ok (.iconst 1, 1) := by
  have h := two_at (all_at lg_11 0 (a := (1, 4, .ok (.iconst 1, 1))) rfl)
  exact dec_row (f := 704) (k := 1) (ro_4 lp_11 (byte_at h.2)) h.1
theorem dL_law_706 : decode cL_law 706 = .ok (.iadd, 1) := by
  have h := two_at (all_at lg_11 1 (a := (2, 96, .ok (.iadd, 1))) rfl)
  exact dec_row (f := 704) (k := 2) (ro_96 lp_11 (byte_at h.2)) h.1
theorem dL_law_707 : decode cL_law 707 = .ok (.iaload, 1) := by
  have h := two_at (all_at lg_11 2 (a := (3, 46, .ok (.iaload, 1))) rfl)
  exact dec_row (f := 704) (k := 3) (ro_46 lp_11 (byte_at h.2)) h.1
theorem dL_law_708 : decode cL_law 708 = .ok (.invokevirtual 162, 3) := by
  have h := two_at (all_at lg_11 3 (a := (4, 182, .ok (.invokevirtual 162, 3))) rfl)
  exact dec_row (f := 704) (k := 4) (ro_182 lp_11 (byte_at h.2)) h.1
theorem dL_law_711 : decode cL_law 711 = .ok (.istore 7, 2) := by
  have h := two_at (all_at lg_11 4 (a := (7, 54, .ok (.istore 7, 2))) rfl)
  exact dec_row (f := 704) (k := 7) (ro_54 lp_11 (byte_at h.2)) h.1
theorem dL_law_713 : decode cL_law 713 = .ok (.goto 1037, 3) := by
  have h := two_at (all_at lg_11 5 (a := (9, 167, .ok (.goto 1037, 3))) rfl)
  exact dec_row (f := 704) (k := 9) (ro_167 lp_11 (byte_at h.2)) h.1
theorem dL_law_716 : decode cL_law 716 = .ok (.aload_n 1, 1) := by
  have h := two_at (all_at lg_11 6 (a := (12, 43, .ok (.aload_n 1, 1))) rfl)
  exact dec_row (f := 704) (k := 12) (ro_43 lp_11 (byte_at h.2)) h.1
theorem dL_law_717 : decode cL_law 717 = .ok (.invokevirtual 163, 3) := by
  have h := two_at (all_at lg_11 7 (a := (13, 182, .ok (.invokevirtual 163, 3))) rfl)
  exact dec_row (f := 704) (k := 13) (ro_182 lp_11 (byte_at h.2)) h.1
theorem dL_law_720 : decode cL_law 720 = .ok (.pop, 1) := by
  have h := two_at (all_at lg_11 8 (a := (16, 87, .ok (.pop, 1))) rfl)
  exact dec_row (f := 704) (k := 16) (ro_87 lp_11 (byte_at h.2)) h.1
theorem dL_law_721 : decode cL_law 721 = .ok (.aload_n 2, 1) := by
  have h := two_at (all_at lg_11 9 (a := (17, 44, .ok (.aload_n 2, 1))) rfl)
  exact dec_row (f := 704) (k := 17) (ro_44 lp_11 (byte_at h.2)) h.1
theorem dL_law_722 : decode cL_law 722 = .ok (.invokevirtual 167, 3) := by
  have h := two_at (all_at lg_11 10 (a := (18, 182, .ok (.invokevirtual 167, 3))) rfl)
  exact dec_row (f := 704) (k := 18) (ro_182 lp_11 (byte_at h.2)) h.1
theorem dL_law_725 : decode cL_law 725 = .ok (.pop, 1) := by
  have h := two_at (all_at lg_11 11 (a := (21, 87, .ok (.pop, 1))) rfl)
  exact dec_row (f := 704) (k := 21) (ro_87 lp_11 (byte_at h.2)) h.1
theorem dL_law_726 : decode cL_law 726 = .ok (.goto 1024, 3) := by
  have h := two_at (all_at lg_11 12 (a := (22, 167, .ok (.goto 1024, 3))) rfl)
  exact dec_row (f := 704) (k := 22) (ro_167 lp_11 (byte_at h.2)) h.1
theorem dL_law_729 : decode cL_law 729 = .ok (.aload_n 1, 1) := by
  have h := two_at (all_at lg_11 13 (a := (25, 43, .ok (.aload_n 1, 1))) rfl)
  exact dec_row (f := 704) (k := 25) (ro_43 lp_11 (byte_at h.2)) h.1
theorem dL_law_730 : decode cL_law 730 = .ok (.aload_n 0, 1) := by
  have h := two_at (all_at lg_11 14 (a := (26, 42, .ok (.aload_n 0, 1))) rfl)
  exact dec_row (f := 704) (k := 26) (ro_42 lp_11 (byte_at h.2)) h.1
theorem dL_law_731 : decode cL_law 731 = .ok (.iload 5, 2) := by
  have h := two_at (all_at lg_11 15 (a := (27, 21, .ok (.iload 5, 2))) rfl)
  exact dec_row (f := 704) (k := 27) (ro_21 lp_11 (byte_at h.2)) h.1
theorem dL_law_733 : decode cL_law 733 = .ok (.iconst 1, 1) := by
  have h := two_at (all_at lg_11 16 (a := (29, 4, .ok (.iconst 1, 1))) rfl)
  exact dec_row (f := 704) (k := 29) (ro_4 lp_11 (byte_at h.2)) h.1
theorem dL_law_734 : decode cL_law 734 = .ok (.iadd, 1) := by
  have h := two_at (all_at lg_11 17 (a := (30, 96, .ok (.iadd, 1))) rfl)
  exact dec_row (f := 704) (k := 30) (ro_96 lp_11 (byte_at h.2)) h.1
theorem dL_law_735 : decode cL_law 735 = .ok (.iaload, 1) := by
  have h := two_at (all_at lg_11 18 (a := (31, 46, .ok (.iaload, 1))) rfl)
  exact dec_row (f := 704) (k := 31) (ro_46 lp_11 (byte_at h.2)) h.1
theorem dL_law_736 : decode cL_law 736 = .ok (.aload_n 0, 1) := by
  have h := two_at (all_at lg_11 19 (a := (32, 42, .ok (.aload_n 0, 1))) rfl)
  exact dec_row (f := 704) (k := 32) (ro_42 lp_11 (byte_at h.2)) h.1
theorem dL_law_737 : decode cL_law 737 = .ok (.iload 5, 2) := by
  have h := two_at (all_at lg_11 20 (a := (33, 21, .ok (.iload 5, 2))) rfl)
  exact dec_row (f := 704) (k := 33) (ro_21 lp_11 (byte_at h.2)) h.1
theorem dL_law_739 : decode cL_law 739 = .ok (.iconst 2, 1) := by
  have h := two_at (all_at lg_11 21 (a := (35, 5, .ok (.iconst 2, 1))) rfl)
  exact dec_row (f := 704) (k := 35) (ro_5 lp_11 (byte_at h.2)) h.1
theorem dL_law_740 : decode cL_law 740 = .ok (.iadd, 1) := by
  have h := two_at (all_at lg_11 22 (a := (36, 96, .ok (.iadd, 1))) rfl)
  exact dec_row (f := 704) (k := 36) (ro_96 lp_11 (byte_at h.2)) h.1
theorem dL_law_741 : decode cL_law 741 = .ok (.iaload, 1) := by
  have h := two_at (all_at lg_11 23 (a := (37, 46, .ok (.iaload, 1))) rfl)
  exact dec_row (f := 704) (k := 37) (ro_46 lp_11 (byte_at h.2)) h.1
theorem dL_law_742 : decode cL_law 742 = .ok (.aload_n 3, 1) := by
  have h := two_at (all_at lg_11 24 (a := (38, 45, .ok (.aload_n 3, 1))) rfl)
  exact dec_row (f := 704) (k := 38) (ro_45 lp_11 (byte_at h.2)) h.1
theorem dL_law_743 : decode cL_law 743 = .ok (.invokestatic 168, 3) := by
  have h := two_at (all_at lg_11 25 (a := (39, 184, .ok (.invokestatic 168, 3))) rfl)
  exact dec_row (f := 704) (k := 39) (ro_184 lp_11 (byte_at h.2)) h.1
theorem dL_law_746 : decode cL_law 746 = .ok (.istore 6, 2) := by
  have h := two_at (all_at lg_11 26 (a := (42, 54, .ok (.istore 6, 2))) rfl)
  exact dec_row (f := 704) (k := 42) (ro_54 lp_11 (byte_at h.2)) h.1
theorem dL_law_748 : decode cL_law 748 = .ok (.aload_n 2, 1) := by
  have h := two_at (all_at lg_11 27 (a := (44, 44, .ok (.aload_n 2, 1))) rfl)
  exact dec_row (f := 704) (k := 44) (ro_44 lp_11 (byte_at h.2)) h.1
theorem dL_law_749 : decode cL_law 749 = .ok (.aload_n 0, 1) := by
  have h := two_at (all_at lg_11 28 (a := (45, 42, .ok (.aload_n 0, 1))) rfl)
  exact dec_row (f := 704) (k := 45) (ro_42 lp_11 (byte_at h.2)) h.1
theorem dL_law_750 : decode cL_law 750 = .ok (.iload 5, 2) := by
  have h := two_at (all_at lg_11 29 (a := (46, 21, .ok (.iload 5, 2))) rfl)
  exact dec_row (f := 704) (k := 46) (ro_21 lp_11 (byte_at h.2)) h.1
theorem dL_law_752 : decode cL_law 752 = .ok (.iconst 1, 1) := by
  have h := two_at (all_at lg_11 30 (a := (48, 4, .ok (.iconst 1, 1))) rfl)
  exact dec_row (f := 704) (k := 48) (ro_4 lp_11 (byte_at h.2)) h.1
theorem dL_law_753 : decode cL_law 753 = .ok (.iadd, 1) := by
  have h := two_at (all_at lg_11 31 (a := (49, 96, .ok (.iadd, 1))) rfl)
  exact dec_row (f := 704) (k := 49) (ro_96 lp_11 (byte_at h.2)) h.1
theorem dL_law_754 : decode cL_law 754 = .ok (.iaload, 1) := by
  have h := two_at (all_at lg_11 32 (a := (50, 46, .ok (.iaload, 1))) rfl)
  exact dec_row (f := 704) (k := 50) (ro_46 lp_11 (byte_at h.2)) h.1
theorem dL_law_755 : decode cL_law 755 = .ok (.aload_n 0, 1) := by
  have h := two_at (all_at lg_11 33 (a := (51, 42, .ok (.aload_n 0, 1))) rfl)
  exact dec_row (f := 704) (k := 51) (ro_42 lp_11 (byte_at h.2)) h.1
theorem dL_law_756 : decode cL_law 756 = .ok (.iload 5, 2) := by
  have h := two_at (all_at lg_11 34 (a := (52, 21, .ok (.iload 5, 2))) rfl)
  exact dec_row (f := 704) (k := 52) (ro_21 lp_11 (byte_at h.2)) h.1
theorem dL_law_758 : decode cL_law 758 = .ok (.iconst 2, 1) := by
  have h := two_at (all_at lg_11 35 (a := (54, 5, .ok (.iconst 2, 1))) rfl)
  exact dec_row (f := 704) (k := 54) (ro_5 lp_11 (byte_at h.2)) h.1
theorem dL_law_759 : decode cL_law 759 = .ok (.iadd, 1) := by
  have h := two_at (all_at lg_11 36 (a := (55, 96, .ok (.iadd, 1))) rfl)
  exact dec_row (f := 704) (k := 55) (ro_96 lp_11 (byte_at h.2)) h.1
theorem dL_law_760 : decode cL_law 760 = .ok (.iaload, 1) := by
  have h := two_at (all_at lg_11 37 (a := (56, 46, .ok (.iaload, 1))) rfl)
  exact dec_row (f := 704) (k := 56) (ro_46 lp_11 (byte_at h.2)) h.1
theorem dL_law_761 : decode cL_law 761 = .ok (.invokevirtual 170, 3) := by
  have h := two_at (all_at lg_11 38 (a := (57, 182, .ok (.invokevirtual 170, 3))) rfl)
  exact dec_row (f := 704) (k := 57) (ro_182 lp_11 (byte_at h.2)) h.1
theorem dL_law_764 : decode cL_law 764 = .ok (.istore 7, 2) := by
  have h := two_at (all_at lg_11 39 (a := (60, 54, .ok (.istore 7, 2))) rfl)
  exact dec_row (f := 704) (k := 60) (ro_54 lp_11 (byte_at h.2)) h.1
theorem dL_law_766 : decode cL_law 766 = .ok (.goto 984, 3) := by
  have h := two_at (all_at lg_11 40 (a := (62, 167, .ok (.goto 984, 3))) rfl)
  exact dec_row (f := 704) (k := 62) (ro_167 lp_11 (byte_at h.2)) h.1
def lc_12 : ByteArray := .mk #[0xd8, 0x2b, 0x2a, 0x15, 0x05, 0x04, 0x60, 0x2e, 0x2d, 0xb8, 0x00, 0xab, 0x36, 0x06, 0x2c, 0x2a, 0x15, 0x05, 0x04, 0x60, 0x2e, 0xb6, 0x00, 0xad, 0x36, 0x07, 0xa7, 0x03, 0xbc, 0x2b, 0x2a, 0x15, 0x05, 0x04, 0x60, 0x2e, 0x2d, 0xb8, 0x00, 0xae, 0x36, 0x06, 0x2c, 0x2a, 0x15, 0x05, 0x04, 0x60, 0x2e, 0xb6, 0x00, 0xb0, 0x36, 0x07, 0xa7, 0x03, 0xa0, 0x2b, 0x2a, 0x15, 0x05, 0x04, 0x60, 0x2e, 0x2a, 0x15, 0x05, 0x05, 0x60, 0x2e, 0x2d, 0xb8]
theorem lp_12 : Pc lc_12 cL_law 768 := Pc_of (n := 72) (by decide +kernel)
theorem lg_12 : ([(1, 43, .ok (.aload_n 1, 1)), (2, 42, .ok (.aload_n 0, 1)), (3, 21, .ok (.iload 5, 2)), (5, 4, .ok (.iconst 1, 1)), (6, 96, .ok (.iadd, 1)), (7, 46, .ok (.iaload, 1)), (8, 45, .ok (.aload_n 3, 1)), (9, 184, .ok (.invokestatic 171, 3)), (12, 54, .ok (.istore 6, 2)), (14, 44, .ok (.aload_n 2, 1)), (15, 42, .ok (.aload_n 0, 1)), (16, 21, .ok (.iload 5, 2)), (18, 4, .ok (.iconst 1, 1)), (19, 96, .ok (.iadd, 1)), (20, 46, .ok (.iaload, 1)), (21, 182, .ok (.invokevirtual 173, 3)), (24, 54, .ok (.istore 7, 2)), (26, 167, .ok (.goto 956, 3)), (29, 43, .ok (.aload_n 1, 1)), (30, 42, .ok (.aload_n 0, 1)), (31, 21, .ok (.iload 5, 2)), (33, 4, .ok (.iconst 1, 1)), (34, 96, .ok (.iadd, 1)), (35, 46, .ok (.iaload, 1)), (36, 45, .ok (.aload_n 3, 1)), (37, 184, .ok (.invokestatic 174, 3)), (40, 54, .ok (.istore 6, 2)), (42, 44, .ok (.aload_n 2, 1)), (43, 42, .ok (.aload_n 0, 1)), (44, 21, .ok (.iload 5, 2)), (46, 4, .ok (.iconst 1, 1)), (47, 96, .ok (.iadd, 1)), (48, 46, .ok (.iaload, 1)), (49, 182, .ok (.invokevirtual 176, 3)), (52, 54, .ok (.istore 7, 2)), (54, 167, .ok (.goto 928, 3)), (57, 43, .ok (.aload_n 1, 1)), (58, 42, .ok (.aload_n 0, 1)), (59, 21, .ok (.iload 5, 2)), (61, 4, .ok (.iconst 1, 1)), (62, 96, .ok (.iadd, 1)), (63, 46, .ok (.iaload, 1))] : List (Nat × UInt8 × Except DecodeError (Instr × Nat))).all (fun q => decide (decode lc_12 q.1 = q.2.2) && decide (lc_12.data.toList[q.1]? = some q.2.1)) = true := by decide +kernel
theorem dL_law_769 : decode cL_law 769 = .ok (.aload_n 1, 1) := by
  have h := two_at (all_at lg_12 0 (a := (1, 43, .ok (.aload_n 1, 1))) rfl)
  exact dec_row (f := 768) (k := 1) (ro_43 lp_12 (byte_at h.2)) h.1
theorem dL_law_770 : decode cL_law 770 = .ok (.aload_n 0, 1) := by
  have h := two_at (all_at lg_12 1 (a := (2, 42, .ok (.aload_n 0, 1))) rfl)
  exact dec_row (f := 768) (k := 2) (ro_42 lp_12 (byte_at h.2)) h.1
theorem dL_law_771 : decode cL_law 771 = .ok (.iload 5, 2) := by
  have h := two_at (all_at lg_12 2 (a := (3, 21, .ok (.iload 5, 2))) rfl)
  exact dec_row (f := 768) (k := 3) (ro_21 lp_12 (byte_at h.2)) h.1
theorem dL_law_773 : decode cL_law 773 = .ok (.iconst 1, 1) := by
  have h := two_at (all_at lg_12 3 (a := (5, 4, .ok (.iconst 1, 1))) rfl)
  exact dec_row (f := 768) (k := 5) (ro_4 lp_12 (byte_at h.2)) h.1
theorem dL_law_774 : decode cL_law 774 = .ok (.iadd, 1) := by
  have h := two_at (all_at lg_12 4 (a := (6, 96, .ok (.iadd, 1))) rfl)
  exact dec_row (f := 768) (k := 6) (ro_96 lp_12 (byte_at h.2)) h.1
theorem dL_law_775 : decode cL_law 775 = .ok (.iaload, 1) := by
  have h := two_at (all_at lg_12 5 (a := (7, 46, .ok (.iaload, 1))) rfl)
  exact dec_row (f := 768) (k := 7) (ro_46 lp_12 (byte_at h.2)) h.1
theorem dL_law_776 : decode cL_law 776 = .ok (.aload_n 3, 1) := by
  have h := two_at (all_at lg_12 6 (a := (8, 45, .ok (.aload_n 3, 1))) rfl)
  exact dec_row (f := 768) (k := 8) (ro_45 lp_12 (byte_at h.2)) h.1
theorem dL_law_777 : decode cL_law 777 = .ok (.invokestatic 171, 3) := by
  have h := two_at (all_at lg_12 7 (a := (9, 184, .ok (.invokestatic 171, 3))) rfl)
  exact dec_row (f := 768) (k := 9) (ro_184 lp_12 (byte_at h.2)) h.1
theorem dL_law_780 : decode cL_law 780 = .ok (.istore 6, 2) := by
  have h := two_at (all_at lg_12 8 (a := (12, 54, .ok (.istore 6, 2))) rfl)
  exact dec_row (f := 768) (k := 12) (ro_54 lp_12 (byte_at h.2)) h.1
theorem dL_law_782 : decode cL_law 782 = .ok (.aload_n 2, 1) := by
  have h := two_at (all_at lg_12 9 (a := (14, 44, .ok (.aload_n 2, 1))) rfl)
  exact dec_row (f := 768) (k := 14) (ro_44 lp_12 (byte_at h.2)) h.1
theorem dL_law_783 : decode cL_law 783 = .ok (.aload_n 0, 1) := by
  have h := two_at (all_at lg_12 10 (a := (15, 42, .ok (.aload_n 0, 1))) rfl)
  exact dec_row (f := 768) (k := 15) (ro_42 lp_12 (byte_at h.2)) h.1
theorem dL_law_784 : decode cL_law 784 = .ok (.iload 5, 2) := by
  have h := two_at (all_at lg_12 11 (a := (16, 21, .ok (.iload 5, 2))) rfl)
  exact dec_row (f := 768) (k := 16) (ro_21 lp_12 (byte_at h.2)) h.1
theorem dL_law_786 : decode cL_law 786 = .ok (.iconst 1, 1) := by
  have h := two_at (all_at lg_12 12 (a := (18, 4, .ok (.iconst 1, 1))) rfl)
  exact dec_row (f := 768) (k := 18) (ro_4 lp_12 (byte_at h.2)) h.1
theorem dL_law_787 : decode cL_law 787 = .ok (.iadd, 1) := by
  have h := two_at (all_at lg_12 13 (a := (19, 96, .ok (.iadd, 1))) rfl)
  exact dec_row (f := 768) (k := 19) (ro_96 lp_12 (byte_at h.2)) h.1
theorem dL_law_788 : decode cL_law 788 = .ok (.iaload, 1) := by
  have h := two_at (all_at lg_12 14 (a := (20, 46, .ok (.iaload, 1))) rfl)
  exact dec_row (f := 768) (k := 20) (ro_46 lp_12 (byte_at h.2)) h.1
theorem dL_law_789 : decode cL_law 789 = .ok (.invokevirtual 173, 3) := by
  have h := two_at (all_at lg_12 15 (a := (21, 182, .ok (.invokevirtual 173, 3))) rfl)
  exact dec_row (f := 768) (k := 21) (ro_182 lp_12 (byte_at h.2)) h.1
theorem dL_law_792 : decode cL_law 792 = .ok (.istore 7, 2) := by
  have h := two_at (all_at lg_12 16 (a := (24, 54, .ok (.istore 7, 2))) rfl)
  exact dec_row (f := 768) (k := 24) (ro_54 lp_12 (byte_at h.2)) h.1
theorem dL_law_794 : decode cL_law 794 = .ok (.goto 956, 3) := by
  have h := two_at (all_at lg_12 17 (a := (26, 167, .ok (.goto 956, 3))) rfl)
  exact dec_row (f := 768) (k := 26) (ro_167 lp_12 (byte_at h.2)) h.1
theorem dL_law_797 : decode cL_law 797 = .ok (.aload_n 1, 1) := by
  have h := two_at (all_at lg_12 18 (a := (29, 43, .ok (.aload_n 1, 1))) rfl)
  exact dec_row (f := 768) (k := 29) (ro_43 lp_12 (byte_at h.2)) h.1
theorem dL_law_798 : decode cL_law 798 = .ok (.aload_n 0, 1) := by
  have h := two_at (all_at lg_12 19 (a := (30, 42, .ok (.aload_n 0, 1))) rfl)
  exact dec_row (f := 768) (k := 30) (ro_42 lp_12 (byte_at h.2)) h.1
theorem dL_law_799 : decode cL_law 799 = .ok (.iload 5, 2) := by
  have h := two_at (all_at lg_12 20 (a := (31, 21, .ok (.iload 5, 2))) rfl)
  exact dec_row (f := 768) (k := 31) (ro_21 lp_12 (byte_at h.2)) h.1
theorem dL_law_801 : decode cL_law 801 = .ok (.iconst 1, 1) := by
  have h := two_at (all_at lg_12 21 (a := (33, 4, .ok (.iconst 1, 1))) rfl)
  exact dec_row (f := 768) (k := 33) (ro_4 lp_12 (byte_at h.2)) h.1
theorem dL_law_802 : decode cL_law 802 = .ok (.iadd, 1) := by
  have h := two_at (all_at lg_12 22 (a := (34, 96, .ok (.iadd, 1))) rfl)
  exact dec_row (f := 768) (k := 34) (ro_96 lp_12 (byte_at h.2)) h.1
theorem dL_law_803 : decode cL_law 803 = .ok (.iaload, 1) := by
  have h := two_at (all_at lg_12 23 (a := (35, 46, .ok (.iaload, 1))) rfl)
  exact dec_row (f := 768) (k := 35) (ro_46 lp_12 (byte_at h.2)) h.1
theorem dL_law_804 : decode cL_law 804 = .ok (.aload_n 3, 1) := by
  have h := two_at (all_at lg_12 24 (a := (36, 45, .ok (.aload_n 3, 1))) rfl)
  exact dec_row (f := 768) (k := 36) (ro_45 lp_12 (byte_at h.2)) h.1
theorem dL_law_805 : decode cL_law 805 = .ok (.invokestatic 174, 3) := by
  have h := two_at (all_at lg_12 25 (a := (37, 184, .ok (.invokestatic 174, 3))) rfl)
  exact dec_row (f := 768) (k := 37) (ro_184 lp_12 (byte_at h.2)) h.1
theorem dL_law_808 : decode cL_law 808 = .ok (.istore 6, 2) := by
  have h := two_at (all_at lg_12 26 (a := (40, 54, .ok (.istore 6, 2))) rfl)
  exact dec_row (f := 768) (k := 40) (ro_54 lp_12 (byte_at h.2)) h.1
theorem dL_law_810 : decode cL_law 810 = .ok (.aload_n 2, 1) := by
  have h := two_at (all_at lg_12 27 (a := (42, 44, .ok (.aload_n 2, 1))) rfl)
  exact dec_row (f := 768) (k := 42) (ro_44 lp_12 (byte_at h.2)) h.1
theorem dL_law_811 : decode cL_law 811 = .ok (.aload_n 0, 1) := by
  have h := two_at (all_at lg_12 28 (a := (43, 42, .ok (.aload_n 0, 1))) rfl)
  exact dec_row (f := 768) (k := 43) (ro_42 lp_12 (byte_at h.2)) h.1
theorem dL_law_812 : decode cL_law 812 = .ok (.iload 5, 2) := by
  have h := two_at (all_at lg_12 29 (a := (44, 21, .ok (.iload 5, 2))) rfl)
  exact dec_row (f := 768) (k := 44) (ro_21 lp_12 (byte_at h.2)) h.1
theorem dL_law_814 : decode cL_law 814 = .ok (.iconst 1, 1) := by
  have h := two_at (all_at lg_12 30 (a := (46, 4, .ok (.iconst 1, 1))) rfl)
  exact dec_row (f := 768) (k := 46) (ro_4 lp_12 (byte_at h.2)) h.1
theorem dL_law_815 : decode cL_law 815 = .ok (.iadd, 1) := by
  have h := two_at (all_at lg_12 31 (a := (47, 96, .ok (.iadd, 1))) rfl)
  exact dec_row (f := 768) (k := 47) (ro_96 lp_12 (byte_at h.2)) h.1
theorem dL_law_816 : decode cL_law 816 = .ok (.iaload, 1) := by
  have h := two_at (all_at lg_12 32 (a := (48, 46, .ok (.iaload, 1))) rfl)
  exact dec_row (f := 768) (k := 48) (ro_46 lp_12 (byte_at h.2)) h.1
theorem dL_law_817 : decode cL_law 817 = .ok (.invokevirtual 176, 3) := by
  have h := two_at (all_at lg_12 33 (a := (49, 182, .ok (.invokevirtual 176, 3))) rfl)
  exact dec_row (f := 768) (k := 49) (ro_182 lp_12 (byte_at h.2)) h.1
theorem dL_law_820 : decode cL_law 820 = .ok (.istore 7, 2) := by
  have h := two_at (all_at lg_12 34 (a := (52, 54, .ok (.istore 7, 2))) rfl)
  exact dec_row (f := 768) (k := 52) (ro_54 lp_12 (byte_at h.2)) h.1
theorem dL_law_822 : decode cL_law 822 = .ok (.goto 928, 3) := by
  have h := two_at (all_at lg_12 35 (a := (54, 167, .ok (.goto 928, 3))) rfl)
  exact dec_row (f := 768) (k := 54) (ro_167 lp_12 (byte_at h.2)) h.1
theorem dL_law_825 : decode cL_law 825 = .ok (.aload_n 1, 1) := by
  have h := two_at (all_at lg_12 36 (a := (57, 43, .ok (.aload_n 1, 1))) rfl)
  exact dec_row (f := 768) (k := 57) (ro_43 lp_12 (byte_at h.2)) h.1
theorem dL_law_826 : decode cL_law 826 = .ok (.aload_n 0, 1) := by
  have h := two_at (all_at lg_12 37 (a := (58, 42, .ok (.aload_n 0, 1))) rfl)
  exact dec_row (f := 768) (k := 58) (ro_42 lp_12 (byte_at h.2)) h.1
theorem dL_law_827 : decode cL_law 827 = .ok (.iload 5, 2) := by
  have h := two_at (all_at lg_12 38 (a := (59, 21, .ok (.iload 5, 2))) rfl)
  exact dec_row (f := 768) (k := 59) (ro_21 lp_12 (byte_at h.2)) h.1
theorem dL_law_829 : decode cL_law 829 = .ok (.iconst 1, 1) := by
  have h := two_at (all_at lg_12 39 (a := (61, 4, .ok (.iconst 1, 1))) rfl)
  exact dec_row (f := 768) (k := 61) (ro_4 lp_12 (byte_at h.2)) h.1
theorem dL_law_830 : decode cL_law 830 = .ok (.iadd, 1) := by
  have h := two_at (all_at lg_12 40 (a := (62, 96, .ok (.iadd, 1))) rfl)
  exact dec_row (f := 768) (k := 62) (ro_96 lp_12 (byte_at h.2)) h.1
theorem dL_law_831 : decode cL_law 831 = .ok (.iaload, 1) := by
  have h := two_at (all_at lg_12 41 (a := (63, 46, .ok (.iaload, 1))) rfl)
  exact dec_row (f := 768) (k := 63) (ro_46 lp_12 (byte_at h.2)) h.1
def lc_13 : ByteArray := .mk #[0x2a, 0x15, 0x05, 0x05, 0x60, 0x2e, 0x2d, 0xb8, 0x00, 0xb1, 0x36, 0x06, 0x2c, 0x2a, 0x15, 0x05, 0x04, 0x60, 0x2e, 0x2a, 0x15, 0x05, 0x05, 0x60, 0x2e, 0xb6, 0x00, 0xb3, 0x36, 0x07, 0xa7, 0x03, 0x78, 0x2b, 0x2a, 0x15, 0x05, 0x04, 0x60, 0x2e, 0x2a, 0x15, 0x05, 0x05, 0x60, 0x2e, 0x2a, 0x15, 0x05, 0x06, 0x60, 0x2e, 0x2a, 0x15, 0x05, 0x07, 0x60, 0x2e, 0x2d, 0xb8, 0x00, 0xb4, 0x36, 0x06, 0x2c, 0x2a, 0x15, 0x05, 0x04, 0x60, 0x2e, 0x2a]
theorem lp_13 : Pc lc_13 cL_law 832 := Pc_of (n := 72) (by decide +kernel)
theorem lg_13 : ([(0, 42, .ok (.aload_n 0, 1)), (1, 21, .ok (.iload 5, 2)), (3, 5, .ok (.iconst 2, 1)), (4, 96, .ok (.iadd, 1)), (5, 46, .ok (.iaload, 1)), (6, 45, .ok (.aload_n 3, 1)), (7, 184, .ok (.invokestatic 177, 3)), (10, 54, .ok (.istore 6, 2)), (12, 44, .ok (.aload_n 2, 1)), (13, 42, .ok (.aload_n 0, 1)), (14, 21, .ok (.iload 5, 2)), (16, 4, .ok (.iconst 1, 1)), (17, 96, .ok (.iadd, 1)), (18, 46, .ok (.iaload, 1)), (19, 42, .ok (.aload_n 0, 1)), (20, 21, .ok (.iload 5, 2)), (22, 5, .ok (.iconst 2, 1)), (23, 96, .ok (.iadd, 1)), (24, 46, .ok (.iaload, 1)), (25, 182, .ok (.invokevirtual 179, 3)), (28, 54, .ok (.istore 7, 2)), (30, 167, .ok (.goto 888, 3)), (33, 43, .ok (.aload_n 1, 1)), (34, 42, .ok (.aload_n 0, 1)), (35, 21, .ok (.iload 5, 2)), (37, 4, .ok (.iconst 1, 1)), (38, 96, .ok (.iadd, 1)), (39, 46, .ok (.iaload, 1)), (40, 42, .ok (.aload_n 0, 1)), (41, 21, .ok (.iload 5, 2)), (43, 5, .ok (.iconst 2, 1)), (44, 96, .ok (.iadd, 1)), (45, 46, .ok (.iaload, 1)), (46, 42, .ok (.aload_n 0, 1)), (47, 21, .ok (.iload 5, 2)), (49, 6, .ok (.iconst 3, 1)), (50, 96, .ok (.iadd, 1)), (51, 46, .ok (.iaload, 1)), (52, 42, .ok (.aload_n 0, 1)), (53, 21, .ok (.iload 5, 2)), (55, 7, .ok (.iconst 4, 1)), (56, 96, .ok (.iadd, 1)), (57, 46, .ok (.iaload, 1)), (58, 45, .ok (.aload_n 3, 1)), (59, 184, .ok (.invokestatic 180, 3)), (62, 54, .ok (.istore 6, 2))] : List (Nat × UInt8 × Except DecodeError (Instr × Nat))).all (fun q => decide (decode lc_13 q.1 = q.2.2) && decide (lc_13.data.toList[q.1]? = some q.2.1)) = true := by decide +kernel
theorem dL_law_832 : decode cL_law 832 = .ok (.aload_n 0, 1) := by
  have h := two_at (all_at lg_13 0 (a := (0, 42, .ok (.aload_n 0, 1))) rfl)
  exact dec_row (f := 832) (k := 0) (ro_42 lp_13 (byte_at h.2)) h.1
theorem dL_law_833 : decode cL_law 833 = .ok (.iload 5, 2) := by
  have h := two_at (all_at lg_13 1 (a := (1, 21, .ok (.iload 5, 2))) rfl)
  exact dec_row (f := 832) (k := 1) (ro_21 lp_13 (byte_at h.2)) h.1
theorem dL_law_835 : decode cL_law 835 = .ok (.iconst 2, 1) := by
  have h := two_at (all_at lg_13 2 (a := (3, 5, .ok (.iconst 2, 1))) rfl)
  exact dec_row (f := 832) (k := 3) (ro_5 lp_13 (byte_at h.2)) h.1
theorem dL_law_836 : decode cL_law 836 = .ok (.iadd, 1) := by
  have h := two_at (all_at lg_13 3 (a := (4, 96, .ok (.iadd, 1))) rfl)
  exact dec_row (f := 832) (k := 4) (ro_96 lp_13 (byte_at h.2)) h.1
theorem dL_law_837 : decode cL_law 837 = .ok (.iaload, 1) := by
  have h := two_at (all_at lg_13 4 (a := (5, 46, .ok (.iaload, 1))) rfl)
  exact dec_row (f := 832) (k := 5) (ro_46 lp_13 (byte_at h.2)) h.1
theorem dL_law_838 : decode cL_law 838 = .ok (.aload_n 3, 1) := by
  have h := two_at (all_at lg_13 5 (a := (6, 45, .ok (.aload_n 3, 1))) rfl)
  exact dec_row (f := 832) (k := 6) (ro_45 lp_13 (byte_at h.2)) h.1
theorem dL_law_839 : decode cL_law 839 = .ok (.invokestatic 177, 3) := by
  have h := two_at (all_at lg_13 6 (a := (7, 184, .ok (.invokestatic 177, 3))) rfl)
  exact dec_row (f := 832) (k := 7) (ro_184 lp_13 (byte_at h.2)) h.1
theorem dL_law_842 : decode cL_law 842 = .ok (.istore 6, 2) := by
  have h := two_at (all_at lg_13 7 (a := (10, 54, .ok (.istore 6, 2))) rfl)
  exact dec_row (f := 832) (k := 10) (ro_54 lp_13 (byte_at h.2)) h.1
theorem dL_law_844 : decode cL_law 844 = .ok (.aload_n 2, 1) := by
  have h := two_at (all_at lg_13 8 (a := (12, 44, .ok (.aload_n 2, 1))) rfl)
  exact dec_row (f := 832) (k := 12) (ro_44 lp_13 (byte_at h.2)) h.1
theorem dL_law_845 : decode cL_law 845 = .ok (.aload_n 0, 1) := by
  have h := two_at (all_at lg_13 9 (a := (13, 42, .ok (.aload_n 0, 1))) rfl)
  exact dec_row (f := 832) (k := 13) (ro_42 lp_13 (byte_at h.2)) h.1
theorem dL_law_846 : decode cL_law 846 = .ok (.iload 5, 2) := by
  have h := two_at (all_at lg_13 10 (a := (14, 21, .ok (.iload 5, 2))) rfl)
  exact dec_row (f := 832) (k := 14) (ro_21 lp_13 (byte_at h.2)) h.1
theorem dL_law_848 : decode cL_law 848 = .ok (.iconst 1, 1) := by
  have h := two_at (all_at lg_13 11 (a := (16, 4, .ok (.iconst 1, 1))) rfl)
  exact dec_row (f := 832) (k := 16) (ro_4 lp_13 (byte_at h.2)) h.1
theorem dL_law_849 : decode cL_law 849 = .ok (.iadd, 1) := by
  have h := two_at (all_at lg_13 12 (a := (17, 96, .ok (.iadd, 1))) rfl)
  exact dec_row (f := 832) (k := 17) (ro_96 lp_13 (byte_at h.2)) h.1
theorem dL_law_850 : decode cL_law 850 = .ok (.iaload, 1) := by
  have h := two_at (all_at lg_13 13 (a := (18, 46, .ok (.iaload, 1))) rfl)
  exact dec_row (f := 832) (k := 18) (ro_46 lp_13 (byte_at h.2)) h.1
theorem dL_law_851 : decode cL_law 851 = .ok (.aload_n 0, 1) := by
  have h := two_at (all_at lg_13 14 (a := (19, 42, .ok (.aload_n 0, 1))) rfl)
  exact dec_row (f := 832) (k := 19) (ro_42 lp_13 (byte_at h.2)) h.1
theorem dL_law_852 : decode cL_law 852 = .ok (.iload 5, 2) := by
  have h := two_at (all_at lg_13 15 (a := (20, 21, .ok (.iload 5, 2))) rfl)
  exact dec_row (f := 832) (k := 20) (ro_21 lp_13 (byte_at h.2)) h.1
theorem dL_law_854 : decode cL_law 854 = .ok (.iconst 2, 1) := by
  have h := two_at (all_at lg_13 16 (a := (22, 5, .ok (.iconst 2, 1))) rfl)
  exact dec_row (f := 832) (k := 22) (ro_5 lp_13 (byte_at h.2)) h.1
theorem dL_law_855 : decode cL_law 855 = .ok (.iadd, 1) := by
  have h := two_at (all_at lg_13 17 (a := (23, 96, .ok (.iadd, 1))) rfl)
  exact dec_row (f := 832) (k := 23) (ro_96 lp_13 (byte_at h.2)) h.1
theorem dL_law_856 : decode cL_law 856 = .ok (.iaload, 1) := by
  have h := two_at (all_at lg_13 18 (a := (24, 46, .ok (.iaload, 1))) rfl)
  exact dec_row (f := 832) (k := 24) (ro_46 lp_13 (byte_at h.2)) h.1
theorem dL_law_857 : decode cL_law 857 = .ok (.invokevirtual 179, 3) := by
  have h := two_at (all_at lg_13 19 (a := (25, 182, .ok (.invokevirtual 179, 3))) rfl)
  exact dec_row (f := 832) (k := 25) (ro_182 lp_13 (byte_at h.2)) h.1
theorem dL_law_860 : decode cL_law 860 = .ok (.istore 7, 2) := by
  have h := two_at (all_at lg_13 20 (a := (28, 54, .ok (.istore 7, 2))) rfl)
  exact dec_row (f := 832) (k := 28) (ro_54 lp_13 (byte_at h.2)) h.1
theorem dL_law_862 : decode cL_law 862 = .ok (.goto 888, 3) := by
  have h := two_at (all_at lg_13 21 (a := (30, 167, .ok (.goto 888, 3))) rfl)
  exact dec_row (f := 832) (k := 30) (ro_167 lp_13 (byte_at h.2)) h.1
theorem dL_law_865 : decode cL_law 865 = .ok (.aload_n 1, 1) := by
  have h := two_at (all_at lg_13 22 (a := (33, 43, .ok (.aload_n 1, 1))) rfl)
  exact dec_row (f := 832) (k := 33) (ro_43 lp_13 (byte_at h.2)) h.1
theorem dL_law_866 : decode cL_law 866 = .ok (.aload_n 0, 1) := by
  have h := two_at (all_at lg_13 23 (a := (34, 42, .ok (.aload_n 0, 1))) rfl)
  exact dec_row (f := 832) (k := 34) (ro_42 lp_13 (byte_at h.2)) h.1
theorem dL_law_867 : decode cL_law 867 = .ok (.iload 5, 2) := by
  have h := two_at (all_at lg_13 24 (a := (35, 21, .ok (.iload 5, 2))) rfl)
  exact dec_row (f := 832) (k := 35) (ro_21 lp_13 (byte_at h.2)) h.1
theorem dL_law_869 : decode cL_law 869 = .ok (.iconst 1, 1) := by
  have h := two_at (all_at lg_13 25 (a := (37, 4, .ok (.iconst 1, 1))) rfl)
  exact dec_row (f := 832) (k := 37) (ro_4 lp_13 (byte_at h.2)) h.1
theorem dL_law_870 : decode cL_law 870 = .ok (.iadd, 1) := by
  have h := two_at (all_at lg_13 26 (a := (38, 96, .ok (.iadd, 1))) rfl)
  exact dec_row (f := 832) (k := 38) (ro_96 lp_13 (byte_at h.2)) h.1
theorem dL_law_871 : decode cL_law 871 = .ok (.iaload, 1) := by
  have h := two_at (all_at lg_13 27 (a := (39, 46, .ok (.iaload, 1))) rfl)
  exact dec_row (f := 832) (k := 39) (ro_46 lp_13 (byte_at h.2)) h.1
theorem dL_law_872 : decode cL_law 872 = .ok (.aload_n 0, 1) := by
  have h := two_at (all_at lg_13 28 (a := (40, 42, .ok (.aload_n 0, 1))) rfl)
  exact dec_row (f := 832) (k := 40) (ro_42 lp_13 (byte_at h.2)) h.1
theorem dL_law_873 : decode cL_law 873 = .ok (.iload 5, 2) := by
  have h := two_at (all_at lg_13 29 (a := (41, 21, .ok (.iload 5, 2))) rfl)
  exact dec_row (f := 832) (k := 41) (ro_21 lp_13 (byte_at h.2)) h.1
theorem dL_law_875 : decode cL_law 875 = .ok (.iconst 2, 1) := by
  have h := two_at (all_at lg_13 30 (a := (43, 5, .ok (.iconst 2, 1))) rfl)
  exact dec_row (f := 832) (k := 43) (ro_5 lp_13 (byte_at h.2)) h.1
theorem dL_law_876 : decode cL_law 876 = .ok (.iadd, 1) := by
  have h := two_at (all_at lg_13 31 (a := (44, 96, .ok (.iadd, 1))) rfl)
  exact dec_row (f := 832) (k := 44) (ro_96 lp_13 (byte_at h.2)) h.1
theorem dL_law_877 : decode cL_law 877 = .ok (.iaload, 1) := by
  have h := two_at (all_at lg_13 32 (a := (45, 46, .ok (.iaload, 1))) rfl)
  exact dec_row (f := 832) (k := 45) (ro_46 lp_13 (byte_at h.2)) h.1
theorem dL_law_878 : decode cL_law 878 = .ok (.aload_n 0, 1) := by
  have h := two_at (all_at lg_13 33 (a := (46, 42, .ok (.aload_n 0, 1))) rfl)
  exact dec_row (f := 832) (k := 46) (ro_42 lp_13 (byte_at h.2)) h.1
theorem dL_law_879 : decode cL_law 879 = .ok (.iload 5, 2) := by
  have h := two_at (all_at lg_13 34 (a := (47, 21, .ok (.iload 5, 2))) rfl)
  exact dec_row (f := 832) (k := 47) (ro_21 lp_13 (byte_at h.2)) h.1
theorem dL_law_881 : decode cL_law 881 = .ok (.iconst 3, 1) := by
  have h := two_at (all_at lg_13 35 (a := (49, 6, .ok (.iconst 3, 1))) rfl)
  exact dec_row (f := 832) (k := 49) (ro_6 lp_13 (byte_at h.2)) h.1
theorem dL_law_882 : decode cL_law 882 = .ok (.iadd, 1) := by
  have h := two_at (all_at lg_13 36 (a := (50, 96, .ok (.iadd, 1))) rfl)
  exact dec_row (f := 832) (k := 50) (ro_96 lp_13 (byte_at h.2)) h.1
theorem dL_law_883 : decode cL_law 883 = .ok (.iaload, 1) := by
  have h := two_at (all_at lg_13 37 (a := (51, 46, .ok (.iaload, 1))) rfl)
  exact dec_row (f := 832) (k := 51) (ro_46 lp_13 (byte_at h.2)) h.1
theorem dL_law_884 : decode cL_law 884 = .ok (.aload_n 0, 1) := by
  have h := two_at (all_at lg_13 38 (a := (52, 42, .ok (.aload_n 0, 1))) rfl)
  exact dec_row (f := 832) (k := 52) (ro_42 lp_13 (byte_at h.2)) h.1
theorem dL_law_885 : decode cL_law 885 = .ok (.iload 5, 2) := by
  have h := two_at (all_at lg_13 39 (a := (53, 21, .ok (.iload 5, 2))) rfl)
  exact dec_row (f := 832) (k := 53) (ro_21 lp_13 (byte_at h.2)) h.1
theorem dL_law_887 : decode cL_law 887 = .ok (.iconst 4, 1) := by
  have h := two_at (all_at lg_13 40 (a := (55, 7, .ok (.iconst 4, 1))) rfl)
  exact dec_row (f := 832) (k := 55) (ro_7 lp_13 (byte_at h.2)) h.1
theorem dL_law_888 : decode cL_law 888 = .ok (.iadd, 1) := by
  have h := two_at (all_at lg_13 41 (a := (56, 96, .ok (.iadd, 1))) rfl)
  exact dec_row (f := 832) (k := 56) (ro_96 lp_13 (byte_at h.2)) h.1
theorem dL_law_889 : decode cL_law 889 = .ok (.iaload, 1) := by
  have h := two_at (all_at lg_13 42 (a := (57, 46, .ok (.iaload, 1))) rfl)
  exact dec_row (f := 832) (k := 57) (ro_46 lp_13 (byte_at h.2)) h.1
theorem dL_law_890 : decode cL_law 890 = .ok (.aload_n 3, 1) := by
  have h := two_at (all_at lg_13 43 (a := (58, 45, .ok (.aload_n 3, 1))) rfl)
  exact dec_row (f := 832) (k := 58) (ro_45 lp_13 (byte_at h.2)) h.1
theorem dL_law_891 : decode cL_law 891 = .ok (.invokestatic 180, 3) := by
  have h := two_at (all_at lg_13 44 (a := (59, 184, .ok (.invokestatic 180, 3))) rfl)
  exact dec_row (f := 832) (k := 59) (ro_184 lp_13 (byte_at h.2)) h.1
theorem dL_law_894 : decode cL_law 894 = .ok (.istore 6, 2) := by
  have h := two_at (all_at lg_13 45 (a := (62, 54, .ok (.istore 6, 2))) rfl)
  exact dec_row (f := 832) (k := 62) (ro_54 lp_13 (byte_at h.2)) h.1
def lc_14 : ByteArray := .mk #[0x2c, 0x2a, 0x15, 0x05, 0x04, 0x60, 0x2e, 0x2a, 0x15, 0x05, 0x05, 0x60, 0x2e, 0x2a, 0x15, 0x05, 0x06, 0x60, 0x2e, 0x2a, 0x15, 0x05, 0x07, 0x60, 0x2e, 0xb6, 0x00, 0xb6, 0x36, 0x07, 0xa7, 0x03, 0x38, 0x2b, 0x2a, 0x15, 0x05, 0x04, 0x60, 0x2e, 0x2a, 0x15, 0x05, 0x05, 0x60, 0x2e, 0x2a, 0x15, 0x05, 0x06, 0x60, 0x2e, 0x2a, 0x15, 0x05, 0x07, 0x60, 0x2e, 0x2d, 0xb8, 0x00, 0xb7, 0x36, 0x06, 0x2c, 0x2a, 0x15, 0x05, 0x04, 0x60, 0x2e, 0x2a]
theorem lp_14 : Pc lc_14 cL_law 896 := Pc_of (n := 72) (by decide +kernel)
theorem lg_14 : ([(0, 44, .ok (.aload_n 2, 1)), (1, 42, .ok (.aload_n 0, 1)), (2, 21, .ok (.iload 5, 2)), (4, 4, .ok (.iconst 1, 1)), (5, 96, .ok (.iadd, 1)), (6, 46, .ok (.iaload, 1)), (7, 42, .ok (.aload_n 0, 1)), (8, 21, .ok (.iload 5, 2)), (10, 5, .ok (.iconst 2, 1)), (11, 96, .ok (.iadd, 1)), (12, 46, .ok (.iaload, 1)), (13, 42, .ok (.aload_n 0, 1)), (14, 21, .ok (.iload 5, 2)), (16, 6, .ok (.iconst 3, 1)), (17, 96, .ok (.iadd, 1)), (18, 46, .ok (.iaload, 1)), (19, 42, .ok (.aload_n 0, 1)), (20, 21, .ok (.iload 5, 2)), (22, 7, .ok (.iconst 4, 1)), (23, 96, .ok (.iadd, 1)), (24, 46, .ok (.iaload, 1)), (25, 182, .ok (.invokevirtual 182, 3)), (28, 54, .ok (.istore 7, 2)), (30, 167, .ok (.goto 824, 3)), (33, 43, .ok (.aload_n 1, 1)), (34, 42, .ok (.aload_n 0, 1)), (35, 21, .ok (.iload 5, 2)), (37, 4, .ok (.iconst 1, 1)), (38, 96, .ok (.iadd, 1)), (39, 46, .ok (.iaload, 1)), (40, 42, .ok (.aload_n 0, 1)), (41, 21, .ok (.iload 5, 2)), (43, 5, .ok (.iconst 2, 1)), (44, 96, .ok (.iadd, 1)), (45, 46, .ok (.iaload, 1)), (46, 42, .ok (.aload_n 0, 1)), (47, 21, .ok (.iload 5, 2)), (49, 6, .ok (.iconst 3, 1)), (50, 96, .ok (.iadd, 1)), (51, 46, .ok (.iaload, 1)), (52, 42, .ok (.aload_n 0, 1)), (53, 21, .ok (.iload 5, 2)), (55, 7, .ok (.iconst 4, 1)), (56, 96, .ok (.iadd, 1)), (57, 46, .ok (.iaload, 1)), (58, 45, .ok (.aload_n 3, 1)), (59, 184, .ok (.invokestatic 183, 3)), (62, 54, .ok (.istore 6, 2))] : List (Nat × UInt8 × Except DecodeError (Instr × Nat))).all (fun q => decide (decode lc_14 q.1 = q.2.2) && decide (lc_14.data.toList[q.1]? = some q.2.1)) = true := by decide +kernel
theorem dL_law_896 : decode cL_law 896 = .ok (.aload_n 2, 1) := by
  have h := two_at (all_at lg_14 0 (a := (0, 44, .ok (.aload_n 2, 1))) rfl)
  exact dec_row (f := 896) (k := 0) (ro_44 lp_14 (byte_at h.2)) h.1
theorem dL_law_897 : decode cL_law 897 = .ok (.aload_n 0, 1) := by
  have h := two_at (all_at lg_14 1 (a := (1, 42, .ok (.aload_n 0, 1))) rfl)
  exact dec_row (f := 896) (k := 1) (ro_42 lp_14 (byte_at h.2)) h.1
theorem dL_law_898 : decode cL_law 898 = .ok (.iload 5, 2) := by
  have h := two_at (all_at lg_14 2 (a := (2, 21, .ok (.iload 5, 2))) rfl)
  exact dec_row (f := 896) (k := 2) (ro_21 lp_14 (byte_at h.2)) h.1
theorem dL_law_900 : decode cL_law 900 = .ok (.iconst 1, 1) := by
  have h := two_at (all_at lg_14 3 (a := (4, 4, .ok (.iconst 1, 1))) rfl)
  exact dec_row (f := 896) (k := 4) (ro_4 lp_14 (byte_at h.2)) h.1
theorem dL_law_901 : decode cL_law 901 = .ok (.iadd, 1) := by
  have h := two_at (all_at lg_14 4 (a := (5, 96, .ok (.iadd, 1))) rfl)
  exact dec_row (f := 896) (k := 5) (ro_96 lp_14 (byte_at h.2)) h.1
theorem dL_law_902 : decode cL_law 902 = .ok (.iaload, 1) := by
  have h := two_at (all_at lg_14 5 (a := (6, 46, .ok (.iaload, 1))) rfl)
  exact dec_row (f := 896) (k := 6) (ro_46 lp_14 (byte_at h.2)) h.1
theorem dL_law_903 : decode cL_law 903 = .ok (.aload_n 0, 1) := by
  have h := two_at (all_at lg_14 6 (a := (7, 42, .ok (.aload_n 0, 1))) rfl)
  exact dec_row (f := 896) (k := 7) (ro_42 lp_14 (byte_at h.2)) h.1
theorem dL_law_904 : decode cL_law 904 = .ok (.iload 5, 2) := by
  have h := two_at (all_at lg_14 7 (a := (8, 21, .ok (.iload 5, 2))) rfl)
  exact dec_row (f := 896) (k := 8) (ro_21 lp_14 (byte_at h.2)) h.1
theorem dL_law_906 : decode cL_law 906 = .ok (.iconst 2, 1) := by
  have h := two_at (all_at lg_14 8 (a := (10, 5, .ok (.iconst 2, 1))) rfl)
  exact dec_row (f := 896) (k := 10) (ro_5 lp_14 (byte_at h.2)) h.1
theorem dL_law_907 : decode cL_law 907 = .ok (.iadd, 1) := by
  have h := two_at (all_at lg_14 9 (a := (11, 96, .ok (.iadd, 1))) rfl)
  exact dec_row (f := 896) (k := 11) (ro_96 lp_14 (byte_at h.2)) h.1
theorem dL_law_908 : decode cL_law 908 = .ok (.iaload, 1) := by
  have h := two_at (all_at lg_14 10 (a := (12, 46, .ok (.iaload, 1))) rfl)
  exact dec_row (f := 896) (k := 12) (ro_46 lp_14 (byte_at h.2)) h.1
theorem dL_law_909 : decode cL_law 909 = .ok (.aload_n 0, 1) := by
  have h := two_at (all_at lg_14 11 (a := (13, 42, .ok (.aload_n 0, 1))) rfl)
  exact dec_row (f := 896) (k := 13) (ro_42 lp_14 (byte_at h.2)) h.1
theorem dL_law_910 : decode cL_law 910 = .ok (.iload 5, 2) := by
  have h := two_at (all_at lg_14 12 (a := (14, 21, .ok (.iload 5, 2))) rfl)
  exact dec_row (f := 896) (k := 14) (ro_21 lp_14 (byte_at h.2)) h.1
theorem dL_law_912 : decode cL_law 912 = .ok (.iconst 3, 1) := by
  have h := two_at (all_at lg_14 13 (a := (16, 6, .ok (.iconst 3, 1))) rfl)
  exact dec_row (f := 896) (k := 16) (ro_6 lp_14 (byte_at h.2)) h.1
theorem dL_law_913 : decode cL_law 913 = .ok (.iadd, 1) := by
  have h := two_at (all_at lg_14 14 (a := (17, 96, .ok (.iadd, 1))) rfl)
  exact dec_row (f := 896) (k := 17) (ro_96 lp_14 (byte_at h.2)) h.1
theorem dL_law_914 : decode cL_law 914 = .ok (.iaload, 1) := by
  have h := two_at (all_at lg_14 15 (a := (18, 46, .ok (.iaload, 1))) rfl)
  exact dec_row (f := 896) (k := 18) (ro_46 lp_14 (byte_at h.2)) h.1
theorem dL_law_915 : decode cL_law 915 = .ok (.aload_n 0, 1) := by
  have h := two_at (all_at lg_14 16 (a := (19, 42, .ok (.aload_n 0, 1))) rfl)
  exact dec_row (f := 896) (k := 19) (ro_42 lp_14 (byte_at h.2)) h.1
theorem dL_law_916 : decode cL_law 916 = .ok (.iload 5, 2) := by
  have h := two_at (all_at lg_14 17 (a := (20, 21, .ok (.iload 5, 2))) rfl)
  exact dec_row (f := 896) (k := 20) (ro_21 lp_14 (byte_at h.2)) h.1
theorem dL_law_918 : decode cL_law 918 = .ok (.iconst 4, 1) := by
  have h := two_at (all_at lg_14 18 (a := (22, 7, .ok (.iconst 4, 1))) rfl)
  exact dec_row (f := 896) (k := 22) (ro_7 lp_14 (byte_at h.2)) h.1
theorem dL_law_919 : decode cL_law 919 = .ok (.iadd, 1) := by
  have h := two_at (all_at lg_14 19 (a := (23, 96, .ok (.iadd, 1))) rfl)
  exact dec_row (f := 896) (k := 23) (ro_96 lp_14 (byte_at h.2)) h.1
theorem dL_law_920 : decode cL_law 920 = .ok (.iaload, 1) := by
  have h := two_at (all_at lg_14 20 (a := (24, 46, .ok (.iaload, 1))) rfl)
  exact dec_row (f := 896) (k := 24) (ro_46 lp_14 (byte_at h.2)) h.1
theorem dL_law_921 : decode cL_law 921 = .ok (.invokevirtual 182, 3) := by
  have h := two_at (all_at lg_14 21 (a := (25, 182, .ok (.invokevirtual 182, 3))) rfl)
  exact dec_row (f := 896) (k := 25) (ro_182 lp_14 (byte_at h.2)) h.1
theorem dL_law_924 : decode cL_law 924 = .ok (.istore 7, 2) := by
  have h := two_at (all_at lg_14 22 (a := (28, 54, .ok (.istore 7, 2))) rfl)
  exact dec_row (f := 896) (k := 28) (ro_54 lp_14 (byte_at h.2)) h.1
theorem dL_law_926 : decode cL_law 926 = .ok (.goto 824, 3) := by
  have h := two_at (all_at lg_14 23 (a := (30, 167, .ok (.goto 824, 3))) rfl)
  exact dec_row (f := 896) (k := 30) (ro_167 lp_14 (byte_at h.2)) h.1
theorem dL_law_929 : decode cL_law 929 = .ok (.aload_n 1, 1) := by
  have h := two_at (all_at lg_14 24 (a := (33, 43, .ok (.aload_n 1, 1))) rfl)
  exact dec_row (f := 896) (k := 33) (ro_43 lp_14 (byte_at h.2)) h.1
theorem dL_law_930 : decode cL_law 930 = .ok (.aload_n 0, 1) := by
  have h := two_at (all_at lg_14 25 (a := (34, 42, .ok (.aload_n 0, 1))) rfl)
  exact dec_row (f := 896) (k := 34) (ro_42 lp_14 (byte_at h.2)) h.1
theorem dL_law_931 : decode cL_law 931 = .ok (.iload 5, 2) := by
  have h := two_at (all_at lg_14 26 (a := (35, 21, .ok (.iload 5, 2))) rfl)
  exact dec_row (f := 896) (k := 35) (ro_21 lp_14 (byte_at h.2)) h.1
theorem dL_law_933 : decode cL_law 933 = .ok (.iconst 1, 1) := by
  have h := two_at (all_at lg_14 27 (a := (37, 4, .ok (.iconst 1, 1))) rfl)
  exact dec_row (f := 896) (k := 37) (ro_4 lp_14 (byte_at h.2)) h.1
theorem dL_law_934 : decode cL_law 934 = .ok (.iadd, 1) := by
  have h := two_at (all_at lg_14 28 (a := (38, 96, .ok (.iadd, 1))) rfl)
  exact dec_row (f := 896) (k := 38) (ro_96 lp_14 (byte_at h.2)) h.1
theorem dL_law_935 : decode cL_law 935 = .ok (.iaload, 1) := by
  have h := two_at (all_at lg_14 29 (a := (39, 46, .ok (.iaload, 1))) rfl)
  exact dec_row (f := 896) (k := 39) (ro_46 lp_14 (byte_at h.2)) h.1
theorem dL_law_936 : decode cL_law 936 = .ok (.aload_n 0, 1) := by
  have h := two_at (all_at lg_14 30 (a := (40, 42, .ok (.aload_n 0, 1))) rfl)
  exact dec_row (f := 896) (k := 40) (ro_42 lp_14 (byte_at h.2)) h.1
theorem dL_law_937 : decode cL_law 937 = .ok (.iload 5, 2) := by
  have h := two_at (all_at lg_14 31 (a := (41, 21, .ok (.iload 5, 2))) rfl)
  exact dec_row (f := 896) (k := 41) (ro_21 lp_14 (byte_at h.2)) h.1
theorem dL_law_939 : decode cL_law 939 = .ok (.iconst 2, 1) := by
  have h := two_at (all_at lg_14 32 (a := (43, 5, .ok (.iconst 2, 1))) rfl)
  exact dec_row (f := 896) (k := 43) (ro_5 lp_14 (byte_at h.2)) h.1
theorem dL_law_940 : decode cL_law 940 = .ok (.iadd, 1) := by
  have h := two_at (all_at lg_14 33 (a := (44, 96, .ok (.iadd, 1))) rfl)
  exact dec_row (f := 896) (k := 44) (ro_96 lp_14 (byte_at h.2)) h.1
theorem dL_law_941 : decode cL_law 941 = .ok (.iaload, 1) := by
  have h := two_at (all_at lg_14 34 (a := (45, 46, .ok (.iaload, 1))) rfl)
  exact dec_row (f := 896) (k := 45) (ro_46 lp_14 (byte_at h.2)) h.1
theorem dL_law_942 : decode cL_law 942 = .ok (.aload_n 0, 1) := by
  have h := two_at (all_at lg_14 35 (a := (46, 42, .ok (.aload_n 0, 1))) rfl)
  exact dec_row (f := 896) (k := 46) (ro_42 lp_14 (byte_at h.2)) h.1
theorem dL_law_943 : decode cL_law 943 = .ok (.iload 5, 2) := by
  have h := two_at (all_at lg_14 36 (a := (47, 21, .ok (.iload 5, 2))) rfl)
  exact dec_row (f := 896) (k := 47) (ro_21 lp_14 (byte_at h.2)) h.1
theorem dL_law_945 : decode cL_law 945 = .ok (.iconst 3, 1) := by
  have h := two_at (all_at lg_14 37 (a := (49, 6, .ok (.iconst 3, 1))) rfl)
  exact dec_row (f := 896) (k := 49) (ro_6 lp_14 (byte_at h.2)) h.1
theorem dL_law_946 : decode cL_law 946 = .ok (.iadd, 1) := by
  have h := two_at (all_at lg_14 38 (a := (50, 96, .ok (.iadd, 1))) rfl)
  exact dec_row (f := 896) (k := 50) (ro_96 lp_14 (byte_at h.2)) h.1
theorem dL_law_947 : decode cL_law 947 = .ok (.iaload, 1) := by
  have h := two_at (all_at lg_14 39 (a := (51, 46, .ok (.iaload, 1))) rfl)
  exact dec_row (f := 896) (k := 51) (ro_46 lp_14 (byte_at h.2)) h.1
theorem dL_law_948 : decode cL_law 948 = .ok (.aload_n 0, 1) := by
  have h := two_at (all_at lg_14 40 (a := (52, 42, .ok (.aload_n 0, 1))) rfl)
  exact dec_row (f := 896) (k := 52) (ro_42 lp_14 (byte_at h.2)) h.1
theorem dL_law_949 : decode cL_law 949 = .ok (.iload 5, 2) := by
  have h := two_at (all_at lg_14 41 (a := (53, 21, .ok (.iload 5, 2))) rfl)
  exact dec_row (f := 896) (k := 53) (ro_21 lp_14 (byte_at h.2)) h.1
theorem dL_law_951 : decode cL_law 951 = .ok (.iconst 4, 1) := by
  have h := two_at (all_at lg_14 42 (a := (55, 7, .ok (.iconst 4, 1))) rfl)
  exact dec_row (f := 896) (k := 55) (ro_7 lp_14 (byte_at h.2)) h.1
theorem dL_law_952 : decode cL_law 952 = .ok (.iadd, 1) := by
  have h := two_at (all_at lg_14 43 (a := (56, 96, .ok (.iadd, 1))) rfl)
  exact dec_row (f := 896) (k := 56) (ro_96 lp_14 (byte_at h.2)) h.1
theorem dL_law_953 : decode cL_law 953 = .ok (.iaload, 1) := by
  have h := two_at (all_at lg_14 44 (a := (57, 46, .ok (.iaload, 1))) rfl)
  exact dec_row (f := 896) (k := 57) (ro_46 lp_14 (byte_at h.2)) h.1
theorem dL_law_954 : decode cL_law 954 = .ok (.aload_n 3, 1) := by
  have h := two_at (all_at lg_14 45 (a := (58, 45, .ok (.aload_n 3, 1))) rfl)
  exact dec_row (f := 896) (k := 58) (ro_45 lp_14 (byte_at h.2)) h.1
theorem dL_law_955 : decode cL_law 955 = .ok (.invokestatic 183, 3) := by
  have h := two_at (all_at lg_14 46 (a := (59, 184, .ok (.invokestatic 183, 3))) rfl)
  exact dec_row (f := 896) (k := 59) (ro_184 lp_14 (byte_at h.2)) h.1
theorem dL_law_958 : decode cL_law 958 = .ok (.istore 6, 2) := by
  have h := two_at (all_at lg_14 47 (a := (62, 54, .ok (.istore 6, 2))) rfl)
  exact dec_row (f := 896) (k := 62) (ro_54 lp_14 (byte_at h.2)) h.1
def lc_15 : ByteArray := .mk #[0x2c, 0x2a, 0x15, 0x05, 0x04, 0x60, 0x2e, 0x2a, 0x15, 0x05, 0x05, 0x60, 0x2e, 0x2a, 0x15, 0x05, 0x06, 0x60, 0x2e, 0x2a, 0x15, 0x05, 0x07, 0x60, 0x2e, 0xb6, 0x00, 0xb9, 0x36, 0x07, 0x2c, 0xb6, 0x00, 0xba, 0x15, 0x06, 0x9f, 0x00, 0x05, 0x03, 0xac, 0x15, 0x06, 0x9a, 0x00, 0x0f, 0x2d, 0x03, 0x2f, 0x15, 0x07, 0x85, 0x94, 0x99, 0x00, 0x05, 0x03, 0xac, 0xa7, 0x02, 0xdc, 0x2b, 0x2a, 0x15, 0x05, 0x04, 0x60, 0x2e, 0x2a, 0x15, 0x05, 0x05]
theorem lp_15 : Pc lc_15 cL_law 960 := Pc_of (n := 72) (by decide +kernel)
theorem lg_15 : ([(0, 44, .ok (.aload_n 2, 1)), (1, 42, .ok (.aload_n 0, 1)), (2, 21, .ok (.iload 5, 2)), (4, 4, .ok (.iconst 1, 1)), (5, 96, .ok (.iadd, 1)), (6, 46, .ok (.iaload, 1)), (7, 42, .ok (.aload_n 0, 1)), (8, 21, .ok (.iload 5, 2)), (10, 5, .ok (.iconst 2, 1)), (11, 96, .ok (.iadd, 1)), (12, 46, .ok (.iaload, 1)), (13, 42, .ok (.aload_n 0, 1)), (14, 21, .ok (.iload 5, 2)), (16, 6, .ok (.iconst 3, 1)), (17, 96, .ok (.iadd, 1)), (18, 46, .ok (.iaload, 1)), (19, 42, .ok (.aload_n 0, 1)), (20, 21, .ok (.iload 5, 2)), (22, 7, .ok (.iconst 4, 1)), (23, 96, .ok (.iadd, 1)), (24, 46, .ok (.iaload, 1)), (25, 182, .ok (.invokevirtual 185, 3)), (28, 54, .ok (.istore 7, 2)), (30, 44, .ok (.aload_n 2, 1)), (31, 182, .ok (.invokevirtual 186, 3)), (34, 21, .ok (.iload 6, 2)), (36, 159, .ok (.if_icmp .eq 5, 3)), (39, 3, .ok (.iconst 0, 1)), (40, 172, .ok (.ireturn, 1)), (41, 21, .ok (.iload 6, 2)), (43, 154, .ok (.ifCond .ne 15, 3)), (46, 45, .ok (.aload_n 3, 1)), (47, 3, .ok (.iconst 0, 1)), (48, 47, .ok (.laload, 1)), (49, 21, .ok (.iload 7, 2)), (51, 133, .ok (.i2l, 1)), (52, 148, .ok (.lcmp, 1)), (53, 153, .ok (.ifCond .eq 5, 3)), (56, 3, .ok (.iconst 0, 1)), (57, 172, .ok (.ireturn, 1)), (58, 167, .ok (.goto 732, 3)), (61, 43, .ok (.aload_n 1, 1)), (62, 42, .ok (.aload_n 0, 1)), (63, 21, .ok (.iload 5, 2))] : List (Nat × UInt8 × Except DecodeError (Instr × Nat))).all (fun q => decide (decode lc_15 q.1 = q.2.2) && decide (lc_15.data.toList[q.1]? = some q.2.1)) = true := by decide +kernel
theorem dL_law_960 : decode cL_law 960 = .ok (.aload_n 2, 1) := by
  have h := two_at (all_at lg_15 0 (a := (0, 44, .ok (.aload_n 2, 1))) rfl)
  exact dec_row (f := 960) (k := 0) (ro_44 lp_15 (byte_at h.2)) h.1
theorem dL_law_961 : decode cL_law 961 = .ok (.aload_n 0, 1) := by
  have h := two_at (all_at lg_15 1 (a := (1, 42, .ok (.aload_n 0, 1))) rfl)
  exact dec_row (f := 960) (k := 1) (ro_42 lp_15 (byte_at h.2)) h.1
theorem dL_law_962 : decode cL_law 962 = .ok (.iload 5, 2) := by
  have h := two_at (all_at lg_15 2 (a := (2, 21, .ok (.iload 5, 2))) rfl)
  exact dec_row (f := 960) (k := 2) (ro_21 lp_15 (byte_at h.2)) h.1
theorem dL_law_964 : decode cL_law 964 = .ok (.iconst 1, 1) := by
  have h := two_at (all_at lg_15 3 (a := (4, 4, .ok (.iconst 1, 1))) rfl)
  exact dec_row (f := 960) (k := 4) (ro_4 lp_15 (byte_at h.2)) h.1
theorem dL_law_965 : decode cL_law 965 = .ok (.iadd, 1) := by
  have h := two_at (all_at lg_15 4 (a := (5, 96, .ok (.iadd, 1))) rfl)
  exact dec_row (f := 960) (k := 5) (ro_96 lp_15 (byte_at h.2)) h.1
theorem dL_law_966 : decode cL_law 966 = .ok (.iaload, 1) := by
  have h := two_at (all_at lg_15 5 (a := (6, 46, .ok (.iaload, 1))) rfl)
  exact dec_row (f := 960) (k := 6) (ro_46 lp_15 (byte_at h.2)) h.1
theorem dL_law_967 : decode cL_law 967 = .ok (.aload_n 0, 1) := by
  have h := two_at (all_at lg_15 6 (a := (7, 42, .ok (.aload_n 0, 1))) rfl)
  exact dec_row (f := 960) (k := 7) (ro_42 lp_15 (byte_at h.2)) h.1
theorem dL_law_968 : decode cL_law 968 = .ok (.iload 5, 2) := by
  have h := two_at (all_at lg_15 7 (a := (8, 21, .ok (.iload 5, 2))) rfl)
  exact dec_row (f := 960) (k := 8) (ro_21 lp_15 (byte_at h.2)) h.1
theorem dL_law_970 : decode cL_law 970 = .ok (.iconst 2, 1) := by
  have h := two_at (all_at lg_15 8 (a := (10, 5, .ok (.iconst 2, 1))) rfl)
  exact dec_row (f := 960) (k := 10) (ro_5 lp_15 (byte_at h.2)) h.1
theorem dL_law_971 : decode cL_law 971 = .ok (.iadd, 1) := by
  have h := two_at (all_at lg_15 9 (a := (11, 96, .ok (.iadd, 1))) rfl)
  exact dec_row (f := 960) (k := 11) (ro_96 lp_15 (byte_at h.2)) h.1
theorem dL_law_972 : decode cL_law 972 = .ok (.iaload, 1) := by
  have h := two_at (all_at lg_15 10 (a := (12, 46, .ok (.iaload, 1))) rfl)
  exact dec_row (f := 960) (k := 12) (ro_46 lp_15 (byte_at h.2)) h.1
theorem dL_law_973 : decode cL_law 973 = .ok (.aload_n 0, 1) := by
  have h := two_at (all_at lg_15 11 (a := (13, 42, .ok (.aload_n 0, 1))) rfl)
  exact dec_row (f := 960) (k := 13) (ro_42 lp_15 (byte_at h.2)) h.1
theorem dL_law_974 : decode cL_law 974 = .ok (.iload 5, 2) := by
  have h := two_at (all_at lg_15 12 (a := (14, 21, .ok (.iload 5, 2))) rfl)
  exact dec_row (f := 960) (k := 14) (ro_21 lp_15 (byte_at h.2)) h.1
theorem dL_law_976 : decode cL_law 976 = .ok (.iconst 3, 1) := by
  have h := two_at (all_at lg_15 13 (a := (16, 6, .ok (.iconst 3, 1))) rfl)
  exact dec_row (f := 960) (k := 16) (ro_6 lp_15 (byte_at h.2)) h.1
theorem dL_law_977 : decode cL_law 977 = .ok (.iadd, 1) := by
  have h := two_at (all_at lg_15 14 (a := (17, 96, .ok (.iadd, 1))) rfl)
  exact dec_row (f := 960) (k := 17) (ro_96 lp_15 (byte_at h.2)) h.1
theorem dL_law_978 : decode cL_law 978 = .ok (.iaload, 1) := by
  have h := two_at (all_at lg_15 15 (a := (18, 46, .ok (.iaload, 1))) rfl)
  exact dec_row (f := 960) (k := 18) (ro_46 lp_15 (byte_at h.2)) h.1
theorem dL_law_979 : decode cL_law 979 = .ok (.aload_n 0, 1) := by
  have h := two_at (all_at lg_15 16 (a := (19, 42, .ok (.aload_n 0, 1))) rfl)
  exact dec_row (f := 960) (k := 19) (ro_42 lp_15 (byte_at h.2)) h.1
theorem dL_law_980 : decode cL_law 980 = .ok (.iload 5, 2) := by
  have h := two_at (all_at lg_15 17 (a := (20, 21, .ok (.iload 5, 2))) rfl)
  exact dec_row (f := 960) (k := 20) (ro_21 lp_15 (byte_at h.2)) h.1
theorem dL_law_982 : decode cL_law 982 = .ok (.iconst 4, 1) := by
  have h := two_at (all_at lg_15 18 (a := (22, 7, .ok (.iconst 4, 1))) rfl)
  exact dec_row (f := 960) (k := 22) (ro_7 lp_15 (byte_at h.2)) h.1
theorem dL_law_983 : decode cL_law 983 = .ok (.iadd, 1) := by
  have h := two_at (all_at lg_15 19 (a := (23, 96, .ok (.iadd, 1))) rfl)
  exact dec_row (f := 960) (k := 23) (ro_96 lp_15 (byte_at h.2)) h.1
theorem dL_law_984 : decode cL_law 984 = .ok (.iaload, 1) := by
  have h := two_at (all_at lg_15 20 (a := (24, 46, .ok (.iaload, 1))) rfl)
  exact dec_row (f := 960) (k := 24) (ro_46 lp_15 (byte_at h.2)) h.1
theorem dL_law_985 : decode cL_law 985 = .ok (.invokevirtual 185, 3) := by
  have h := two_at (all_at lg_15 21 (a := (25, 182, .ok (.invokevirtual 185, 3))) rfl)
  exact dec_row (f := 960) (k := 25) (ro_182 lp_15 (byte_at h.2)) h.1
theorem dL_law_988 : decode cL_law 988 = .ok (.istore 7, 2) := by
  have h := two_at (all_at lg_15 22 (a := (28, 54, .ok (.istore 7, 2))) rfl)
  exact dec_row (f := 960) (k := 28) (ro_54 lp_15 (byte_at h.2)) h.1
theorem dL_law_990 : decode cL_law 990 = .ok (.aload_n 2, 1) := by
  have h := two_at (all_at lg_15 23 (a := (30, 44, .ok (.aload_n 2, 1))) rfl)
  exact dec_row (f := 960) (k := 30) (ro_44 lp_15 (byte_at h.2)) h.1
theorem dL_law_991 : decode cL_law 991 = .ok (.invokevirtual 186, 3) := by
  have h := two_at (all_at lg_15 24 (a := (31, 182, .ok (.invokevirtual 186, 3))) rfl)
  exact dec_row (f := 960) (k := 31) (ro_182 lp_15 (byte_at h.2)) h.1
theorem dL_law_994 : decode cL_law 994 = .ok (.iload 6, 2) := by
  have h := two_at (all_at lg_15 25 (a := (34, 21, .ok (.iload 6, 2))) rfl)
  exact dec_row (f := 960) (k := 34) (ro_21 lp_15 (byte_at h.2)) h.1
theorem dL_law_996 : decode cL_law 996 = .ok (.if_icmp .eq 5, 3) := by
  have h := two_at (all_at lg_15 26 (a := (36, 159, .ok (.if_icmp .eq 5, 3))) rfl)
  exact dec_row (f := 960) (k := 36) (ro_159 lp_15 (byte_at h.2)) h.1
theorem dL_law_999 : decode cL_law 999 = .ok (.iconst 0, 1) := by
  have h := two_at (all_at lg_15 27 (a := (39, 3, .ok (.iconst 0, 1))) rfl)
  exact dec_row (f := 960) (k := 39) (ro_3 lp_15 (byte_at h.2)) h.1
theorem dL_law_1000 : decode cL_law 1000 = .ok (.ireturn, 1) := by
  have h := two_at (all_at lg_15 28 (a := (40, 172, .ok (.ireturn, 1))) rfl)
  exact dec_row (f := 960) (k := 40) (ro_172 lp_15 (byte_at h.2)) h.1
theorem dL_law_1001 : decode cL_law 1001 = .ok (.iload 6, 2) := by
  have h := two_at (all_at lg_15 29 (a := (41, 21, .ok (.iload 6, 2))) rfl)
  exact dec_row (f := 960) (k := 41) (ro_21 lp_15 (byte_at h.2)) h.1
theorem dL_law_1003 : decode cL_law 1003 = .ok (.ifCond .ne 15, 3) := by
  have h := two_at (all_at lg_15 30 (a := (43, 154, .ok (.ifCond .ne 15, 3))) rfl)
  exact dec_row (f := 960) (k := 43) (ro_154 lp_15 (byte_at h.2)) h.1
theorem dL_law_1006 : decode cL_law 1006 = .ok (.aload_n 3, 1) := by
  have h := two_at (all_at lg_15 31 (a := (46, 45, .ok (.aload_n 3, 1))) rfl)
  exact dec_row (f := 960) (k := 46) (ro_45 lp_15 (byte_at h.2)) h.1
theorem dL_law_1007 : decode cL_law 1007 = .ok (.iconst 0, 1) := by
  have h := two_at (all_at lg_15 32 (a := (47, 3, .ok (.iconst 0, 1))) rfl)
  exact dec_row (f := 960) (k := 47) (ro_3 lp_15 (byte_at h.2)) h.1
theorem dL_law_1008 : decode cL_law 1008 = .ok (.laload, 1) := by
  have h := two_at (all_at lg_15 33 (a := (48, 47, .ok (.laload, 1))) rfl)
  exact dec_row (f := 960) (k := 48) (ro_47 lp_15 (byte_at h.2)) h.1
theorem dL_law_1009 : decode cL_law 1009 = .ok (.iload 7, 2) := by
  have h := two_at (all_at lg_15 34 (a := (49, 21, .ok (.iload 7, 2))) rfl)
  exact dec_row (f := 960) (k := 49) (ro_21 lp_15 (byte_at h.2)) h.1
theorem dL_law_1011 : decode cL_law 1011 = .ok (.i2l, 1) := by
  have h := two_at (all_at lg_15 35 (a := (51, 133, .ok (.i2l, 1))) rfl)
  exact dec_row (f := 960) (k := 51) (ro_133 lp_15 (byte_at h.2)) h.1
theorem dL_law_1012 : decode cL_law 1012 = .ok (.lcmp, 1) := by
  have h := two_at (all_at lg_15 36 (a := (52, 148, .ok (.lcmp, 1))) rfl)
  exact dec_row (f := 960) (k := 52) (ro_148 lp_15 (byte_at h.2)) h.1
theorem dL_law_1013 : decode cL_law 1013 = .ok (.ifCond .eq 5, 3) := by
  have h := two_at (all_at lg_15 37 (a := (53, 153, .ok (.ifCond .eq 5, 3))) rfl)
  exact dec_row (f := 960) (k := 53) (ro_153 lp_15 (byte_at h.2)) h.1
theorem dL_law_1016 : decode cL_law 1016 = .ok (.iconst 0, 1) := by
  have h := two_at (all_at lg_15 38 (a := (56, 3, .ok (.iconst 0, 1))) rfl)
  exact dec_row (f := 960) (k := 56) (ro_3 lp_15 (byte_at h.2)) h.1
theorem dL_law_1017 : decode cL_law 1017 = .ok (.ireturn, 1) := by
  have h := two_at (all_at lg_15 39 (a := (57, 172, .ok (.ireturn, 1))) rfl)
  exact dec_row (f := 960) (k := 57) (ro_172 lp_15 (byte_at h.2)) h.1
theorem dL_law_1018 : decode cL_law 1018 = .ok (.goto 732, 3) := by
  have h := two_at (all_at lg_15 40 (a := (58, 167, .ok (.goto 732, 3))) rfl)
  exact dec_row (f := 960) (k := 58) (ro_167 lp_15 (byte_at h.2)) h.1
theorem dL_law_1021 : decode cL_law 1021 = .ok (.aload_n 1, 1) := by
  have h := two_at (all_at lg_15 41 (a := (61, 43, .ok (.aload_n 1, 1))) rfl)
  exact dec_row (f := 960) (k := 61) (ro_43 lp_15 (byte_at h.2)) h.1
theorem dL_law_1022 : decode cL_law 1022 = .ok (.aload_n 0, 1) := by
  have h := two_at (all_at lg_15 42 (a := (62, 42, .ok (.aload_n 0, 1))) rfl)
  exact dec_row (f := 960) (k := 62) (ro_42 lp_15 (byte_at h.2)) h.1
theorem dL_law_1023 : decode cL_law 1023 = .ok (.iload 5, 2) := by
  have h := two_at (all_at lg_15 43 (a := (63, 21, .ok (.iload 5, 2))) rfl)
  exact dec_row (f := 960) (k := 63) (ro_21 lp_15 (byte_at h.2)) h.1
def lc_16 : ByteArray := .mk #[0x05, 0x04, 0x60, 0x2e, 0x2a, 0x15, 0x05, 0x05, 0x60, 0x2e, 0x2a, 0x15, 0x05, 0x06, 0x60, 0x2e, 0x2a, 0x15, 0x05, 0x07, 0x60, 0x2e, 0x2d, 0xb8, 0x00, 0xbd, 0x36, 0x06, 0x2c, 0x2a, 0x15, 0x05, 0x04, 0x60, 0x2e, 0x2a, 0x15, 0x05, 0x05, 0x60, 0x2e, 0x2a, 0x15, 0x05, 0x06, 0x60, 0x2e, 0x2a, 0x15, 0x05, 0x07, 0x60, 0x2e, 0xb6, 0x00, 0xbf, 0x36, 0x07, 0xa7, 0x02, 0x9c, 0x2b, 0x2a, 0x15, 0x05, 0x04, 0x60, 0x2e, 0x2a, 0x15, 0x05, 0x05]
theorem lp_16 : Pc lc_16 cL_law 1024 := Pc_of (n := 72) (by decide +kernel)
theorem lg_16 : ([(1, 4, .ok (.iconst 1, 1)), (2, 96, .ok (.iadd, 1)), (3, 46, .ok (.iaload, 1)), (4, 42, .ok (.aload_n 0, 1)), (5, 21, .ok (.iload 5, 2)), (7, 5, .ok (.iconst 2, 1)), (8, 96, .ok (.iadd, 1)), (9, 46, .ok (.iaload, 1)), (10, 42, .ok (.aload_n 0, 1)), (11, 21, .ok (.iload 5, 2)), (13, 6, .ok (.iconst 3, 1)), (14, 96, .ok (.iadd, 1)), (15, 46, .ok (.iaload, 1)), (16, 42, .ok (.aload_n 0, 1)), (17, 21, .ok (.iload 5, 2)), (19, 7, .ok (.iconst 4, 1)), (20, 96, .ok (.iadd, 1)), (21, 46, .ok (.iaload, 1)), (22, 45, .ok (.aload_n 3, 1)), (23, 184, .ok (.invokestatic 189, 3)), (26, 54, .ok (.istore 6, 2)), (28, 44, .ok (.aload_n 2, 1)), (29, 42, .ok (.aload_n 0, 1)), (30, 21, .ok (.iload 5, 2)), (32, 4, .ok (.iconst 1, 1)), (33, 96, .ok (.iadd, 1)), (34, 46, .ok (.iaload, 1)), (35, 42, .ok (.aload_n 0, 1)), (36, 21, .ok (.iload 5, 2)), (38, 5, .ok (.iconst 2, 1)), (39, 96, .ok (.iadd, 1)), (40, 46, .ok (.iaload, 1)), (41, 42, .ok (.aload_n 0, 1)), (42, 21, .ok (.iload 5, 2)), (44, 6, .ok (.iconst 3, 1)), (45, 96, .ok (.iadd, 1)), (46, 46, .ok (.iaload, 1)), (47, 42, .ok (.aload_n 0, 1)), (48, 21, .ok (.iload 5, 2)), (50, 7, .ok (.iconst 4, 1)), (51, 96, .ok (.iadd, 1)), (52, 46, .ok (.iaload, 1)), (53, 182, .ok (.invokevirtual 191, 3)), (56, 54, .ok (.istore 7, 2)), (58, 167, .ok (.goto 668, 3)), (61, 43, .ok (.aload_n 1, 1)), (62, 42, .ok (.aload_n 0, 1)), (63, 21, .ok (.iload 5, 2))] : List (Nat × UInt8 × Except DecodeError (Instr × Nat))).all (fun q => decide (decode lc_16 q.1 = q.2.2) && decide (lc_16.data.toList[q.1]? = some q.2.1)) = true := by decide +kernel
theorem dL_law_1025 : decode cL_law 1025 = .ok (.iconst 1, 1) := by
  have h := two_at (all_at lg_16 0 (a := (1, 4, .ok (.iconst 1, 1))) rfl)
  exact dec_row (f := 1024) (k := 1) (ro_4 lp_16 (byte_at h.2)) h.1
theorem dL_law_1026 : decode cL_law 1026 = .ok (.iadd, 1) := by
  have h := two_at (all_at lg_16 1 (a := (2, 96, .ok (.iadd, 1))) rfl)
  exact dec_row (f := 1024) (k := 2) (ro_96 lp_16 (byte_at h.2)) h.1
theorem dL_law_1027 : decode cL_law 1027 = .ok (.iaload, 1) := by
  have h := two_at (all_at lg_16 2 (a := (3, 46, .ok (.iaload, 1))) rfl)
  exact dec_row (f := 1024) (k := 3) (ro_46 lp_16 (byte_at h.2)) h.1
theorem dL_law_1028 : decode cL_law 1028 = .ok (.aload_n 0, 1) := by
  have h := two_at (all_at lg_16 3 (a := (4, 42, .ok (.aload_n 0, 1))) rfl)
  exact dec_row (f := 1024) (k := 4) (ro_42 lp_16 (byte_at h.2)) h.1
theorem dL_law_1029 : decode cL_law 1029 = .ok (.iload 5, 2) := by
  have h := two_at (all_at lg_16 4 (a := (5, 21, .ok (.iload 5, 2))) rfl)
  exact dec_row (f := 1024) (k := 5) (ro_21 lp_16 (byte_at h.2)) h.1
theorem dL_law_1031 : decode cL_law 1031 = .ok (.iconst 2, 1) := by
  have h := two_at (all_at lg_16 5 (a := (7, 5, .ok (.iconst 2, 1))) rfl)
  exact dec_row (f := 1024) (k := 7) (ro_5 lp_16 (byte_at h.2)) h.1
theorem dL_law_1032 : decode cL_law 1032 = .ok (.iadd, 1) := by
  have h := two_at (all_at lg_16 6 (a := (8, 96, .ok (.iadd, 1))) rfl)
  exact dec_row (f := 1024) (k := 8) (ro_96 lp_16 (byte_at h.2)) h.1
theorem dL_law_1033 : decode cL_law 1033 = .ok (.iaload, 1) := by
  have h := two_at (all_at lg_16 7 (a := (9, 46, .ok (.iaload, 1))) rfl)
  exact dec_row (f := 1024) (k := 9) (ro_46 lp_16 (byte_at h.2)) h.1
theorem dL_law_1034 : decode cL_law 1034 = .ok (.aload_n 0, 1) := by
  have h := two_at (all_at lg_16 8 (a := (10, 42, .ok (.aload_n 0, 1))) rfl)
  exact dec_row (f := 1024) (k := 10) (ro_42 lp_16 (byte_at h.2)) h.1
theorem dL_law_1035 : decode cL_law 1035 = .ok (.iload 5, 2) := by
  have h := two_at (all_at lg_16 9 (a := (11, 21, .ok (.iload 5, 2))) rfl)
  exact dec_row (f := 1024) (k := 11) (ro_21 lp_16 (byte_at h.2)) h.1
theorem dL_law_1037 : decode cL_law 1037 = .ok (.iconst 3, 1) := by
  have h := two_at (all_at lg_16 10 (a := (13, 6, .ok (.iconst 3, 1))) rfl)
  exact dec_row (f := 1024) (k := 13) (ro_6 lp_16 (byte_at h.2)) h.1
theorem dL_law_1038 : decode cL_law 1038 = .ok (.iadd, 1) := by
  have h := two_at (all_at lg_16 11 (a := (14, 96, .ok (.iadd, 1))) rfl)
  exact dec_row (f := 1024) (k := 14) (ro_96 lp_16 (byte_at h.2)) h.1
theorem dL_law_1039 : decode cL_law 1039 = .ok (.iaload, 1) := by
  have h := two_at (all_at lg_16 12 (a := (15, 46, .ok (.iaload, 1))) rfl)
  exact dec_row (f := 1024) (k := 15) (ro_46 lp_16 (byte_at h.2)) h.1
theorem dL_law_1040 : decode cL_law 1040 = .ok (.aload_n 0, 1) := by
  have h := two_at (all_at lg_16 13 (a := (16, 42, .ok (.aload_n 0, 1))) rfl)
  exact dec_row (f := 1024) (k := 16) (ro_42 lp_16 (byte_at h.2)) h.1
theorem dL_law_1041 : decode cL_law 1041 = .ok (.iload 5, 2) := by
  have h := two_at (all_at lg_16 14 (a := (17, 21, .ok (.iload 5, 2))) rfl)
  exact dec_row (f := 1024) (k := 17) (ro_21 lp_16 (byte_at h.2)) h.1
theorem dL_law_1043 : decode cL_law 1043 = .ok (.iconst 4, 1) := by
  have h := two_at (all_at lg_16 15 (a := (19, 7, .ok (.iconst 4, 1))) rfl)
  exact dec_row (f := 1024) (k := 19) (ro_7 lp_16 (byte_at h.2)) h.1
theorem dL_law_1044 : decode cL_law 1044 = .ok (.iadd, 1) := by
  have h := two_at (all_at lg_16 16 (a := (20, 96, .ok (.iadd, 1))) rfl)
  exact dec_row (f := 1024) (k := 20) (ro_96 lp_16 (byte_at h.2)) h.1
theorem dL_law_1045 : decode cL_law 1045 = .ok (.iaload, 1) := by
  have h := two_at (all_at lg_16 17 (a := (21, 46, .ok (.iaload, 1))) rfl)
  exact dec_row (f := 1024) (k := 21) (ro_46 lp_16 (byte_at h.2)) h.1
theorem dL_law_1046 : decode cL_law 1046 = .ok (.aload_n 3, 1) := by
  have h := two_at (all_at lg_16 18 (a := (22, 45, .ok (.aload_n 3, 1))) rfl)
  exact dec_row (f := 1024) (k := 22) (ro_45 lp_16 (byte_at h.2)) h.1
theorem dL_law_1047 : decode cL_law 1047 = .ok (.invokestatic 189, 3) := by
  have h := two_at (all_at lg_16 19 (a := (23, 184, .ok (.invokestatic 189, 3))) rfl)
  exact dec_row (f := 1024) (k := 23) (ro_184 lp_16 (byte_at h.2)) h.1
theorem dL_law_1050 : decode cL_law 1050 = .ok (.istore 6, 2) := by
  have h := two_at (all_at lg_16 20 (a := (26, 54, .ok (.istore 6, 2))) rfl)
  exact dec_row (f := 1024) (k := 26) (ro_54 lp_16 (byte_at h.2)) h.1
theorem dL_law_1052 : decode cL_law 1052 = .ok (.aload_n 2, 1) := by
  have h := two_at (all_at lg_16 21 (a := (28, 44, .ok (.aload_n 2, 1))) rfl)
  exact dec_row (f := 1024) (k := 28) (ro_44 lp_16 (byte_at h.2)) h.1
theorem dL_law_1053 : decode cL_law 1053 = .ok (.aload_n 0, 1) := by
  have h := two_at (all_at lg_16 22 (a := (29, 42, .ok (.aload_n 0, 1))) rfl)
  exact dec_row (f := 1024) (k := 29) (ro_42 lp_16 (byte_at h.2)) h.1
theorem dL_law_1054 : decode cL_law 1054 = .ok (.iload 5, 2) := by
  have h := two_at (all_at lg_16 23 (a := (30, 21, .ok (.iload 5, 2))) rfl)
  exact dec_row (f := 1024) (k := 30) (ro_21 lp_16 (byte_at h.2)) h.1
theorem dL_law_1056 : decode cL_law 1056 = .ok (.iconst 1, 1) := by
  have h := two_at (all_at lg_16 24 (a := (32, 4, .ok (.iconst 1, 1))) rfl)
  exact dec_row (f := 1024) (k := 32) (ro_4 lp_16 (byte_at h.2)) h.1
theorem dL_law_1057 : decode cL_law 1057 = .ok (.iadd, 1) := by
  have h := two_at (all_at lg_16 25 (a := (33, 96, .ok (.iadd, 1))) rfl)
  exact dec_row (f := 1024) (k := 33) (ro_96 lp_16 (byte_at h.2)) h.1
theorem dL_law_1058 : decode cL_law 1058 = .ok (.iaload, 1) := by
  have h := two_at (all_at lg_16 26 (a := (34, 46, .ok (.iaload, 1))) rfl)
  exact dec_row (f := 1024) (k := 34) (ro_46 lp_16 (byte_at h.2)) h.1
theorem dL_law_1059 : decode cL_law 1059 = .ok (.aload_n 0, 1) := by
  have h := two_at (all_at lg_16 27 (a := (35, 42, .ok (.aload_n 0, 1))) rfl)
  exact dec_row (f := 1024) (k := 35) (ro_42 lp_16 (byte_at h.2)) h.1
theorem dL_law_1060 : decode cL_law 1060 = .ok (.iload 5, 2) := by
  have h := two_at (all_at lg_16 28 (a := (36, 21, .ok (.iload 5, 2))) rfl)
  exact dec_row (f := 1024) (k := 36) (ro_21 lp_16 (byte_at h.2)) h.1
theorem dL_law_1062 : decode cL_law 1062 = .ok (.iconst 2, 1) := by
  have h := two_at (all_at lg_16 29 (a := (38, 5, .ok (.iconst 2, 1))) rfl)
  exact dec_row (f := 1024) (k := 38) (ro_5 lp_16 (byte_at h.2)) h.1
theorem dL_law_1063 : decode cL_law 1063 = .ok (.iadd, 1) := by
  have h := two_at (all_at lg_16 30 (a := (39, 96, .ok (.iadd, 1))) rfl)
  exact dec_row (f := 1024) (k := 39) (ro_96 lp_16 (byte_at h.2)) h.1
theorem dL_law_1064 : decode cL_law 1064 = .ok (.iaload, 1) := by
  have h := two_at (all_at lg_16 31 (a := (40, 46, .ok (.iaload, 1))) rfl)
  exact dec_row (f := 1024) (k := 40) (ro_46 lp_16 (byte_at h.2)) h.1
theorem dL_law_1065 : decode cL_law 1065 = .ok (.aload_n 0, 1) := by
  have h := two_at (all_at lg_16 32 (a := (41, 42, .ok (.aload_n 0, 1))) rfl)
  exact dec_row (f := 1024) (k := 41) (ro_42 lp_16 (byte_at h.2)) h.1
theorem dL_law_1066 : decode cL_law 1066 = .ok (.iload 5, 2) := by
  have h := two_at (all_at lg_16 33 (a := (42, 21, .ok (.iload 5, 2))) rfl)
  exact dec_row (f := 1024) (k := 42) (ro_21 lp_16 (byte_at h.2)) h.1
theorem dL_law_1068 : decode cL_law 1068 = .ok (.iconst 3, 1) := by
  have h := two_at (all_at lg_16 34 (a := (44, 6, .ok (.iconst 3, 1))) rfl)
  exact dec_row (f := 1024) (k := 44) (ro_6 lp_16 (byte_at h.2)) h.1
theorem dL_law_1069 : decode cL_law 1069 = .ok (.iadd, 1) := by
  have h := two_at (all_at lg_16 35 (a := (45, 96, .ok (.iadd, 1))) rfl)
  exact dec_row (f := 1024) (k := 45) (ro_96 lp_16 (byte_at h.2)) h.1
theorem dL_law_1070 : decode cL_law 1070 = .ok (.iaload, 1) := by
  have h := two_at (all_at lg_16 36 (a := (46, 46, .ok (.iaload, 1))) rfl)
  exact dec_row (f := 1024) (k := 46) (ro_46 lp_16 (byte_at h.2)) h.1
theorem dL_law_1071 : decode cL_law 1071 = .ok (.aload_n 0, 1) := by
  have h := two_at (all_at lg_16 37 (a := (47, 42, .ok (.aload_n 0, 1))) rfl)
  exact dec_row (f := 1024) (k := 47) (ro_42 lp_16 (byte_at h.2)) h.1
theorem dL_law_1072 : decode cL_law 1072 = .ok (.iload 5, 2) := by
  have h := two_at (all_at lg_16 38 (a := (48, 21, .ok (.iload 5, 2))) rfl)
  exact dec_row (f := 1024) (k := 48) (ro_21 lp_16 (byte_at h.2)) h.1
theorem dL_law_1074 : decode cL_law 1074 = .ok (.iconst 4, 1) := by
  have h := two_at (all_at lg_16 39 (a := (50, 7, .ok (.iconst 4, 1))) rfl)
  exact dec_row (f := 1024) (k := 50) (ro_7 lp_16 (byte_at h.2)) h.1
theorem dL_law_1075 : decode cL_law 1075 = .ok (.iadd, 1) := by
  have h := two_at (all_at lg_16 40 (a := (51, 96, .ok (.iadd, 1))) rfl)
  exact dec_row (f := 1024) (k := 51) (ro_96 lp_16 (byte_at h.2)) h.1
theorem dL_law_1076 : decode cL_law 1076 = .ok (.iaload, 1) := by
  have h := two_at (all_at lg_16 41 (a := (52, 46, .ok (.iaload, 1))) rfl)
  exact dec_row (f := 1024) (k := 52) (ro_46 lp_16 (byte_at h.2)) h.1
theorem dL_law_1077 : decode cL_law 1077 = .ok (.invokevirtual 191, 3) := by
  have h := two_at (all_at lg_16 42 (a := (53, 182, .ok (.invokevirtual 191, 3))) rfl)
  exact dec_row (f := 1024) (k := 53) (ro_182 lp_16 (byte_at h.2)) h.1
theorem dL_law_1080 : decode cL_law 1080 = .ok (.istore 7, 2) := by
  have h := two_at (all_at lg_16 43 (a := (56, 54, .ok (.istore 7, 2))) rfl)
  exact dec_row (f := 1024) (k := 56) (ro_54 lp_16 (byte_at h.2)) h.1
theorem dL_law_1082 : decode cL_law 1082 = .ok (.goto 668, 3) := by
  have h := two_at (all_at lg_16 44 (a := (58, 167, .ok (.goto 668, 3))) rfl)
  exact dec_row (f := 1024) (k := 58) (ro_167 lp_16 (byte_at h.2)) h.1
theorem dL_law_1085 : decode cL_law 1085 = .ok (.aload_n 1, 1) := by
  have h := two_at (all_at lg_16 45 (a := (61, 43, .ok (.aload_n 1, 1))) rfl)
  exact dec_row (f := 1024) (k := 61) (ro_43 lp_16 (byte_at h.2)) h.1
theorem dL_law_1086 : decode cL_law 1086 = .ok (.aload_n 0, 1) := by
  have h := two_at (all_at lg_16 46 (a := (62, 42, .ok (.aload_n 0, 1))) rfl)
  exact dec_row (f := 1024) (k := 62) (ro_42 lp_16 (byte_at h.2)) h.1
theorem dL_law_1087 : decode cL_law 1087 = .ok (.iload 5, 2) := by
  have h := two_at (all_at lg_16 47 (a := (63, 21, .ok (.iload 5, 2))) rfl)
  exact dec_row (f := 1024) (k := 63) (ro_21 lp_16 (byte_at h.2)) h.1
def lc_17 : ByteArray := .mk #[0x05, 0x04, 0x60, 0x2e, 0x2a, 0x15, 0x05, 0x05, 0x60, 0x2e, 0x2a, 0x15, 0x05, 0x06, 0x60, 0x2e, 0x2a, 0x15, 0x05, 0x07, 0x60, 0x2e, 0x2d, 0xb8, 0x00, 0xc0, 0x36, 0x06, 0x2c, 0x2a, 0x15, 0x05, 0x04, 0x60, 0x2e, 0x2a, 0x15, 0x05, 0x05, 0x60, 0x2e, 0x2a, 0x15, 0x05, 0x06, 0x60, 0x2e, 0x2a, 0x15, 0x05, 0x07, 0x60, 0x2e, 0xb6, 0x00, 0xc2, 0x36, 0x07, 0xa7, 0x02, 0x5c, 0x2b, 0x2a, 0x15, 0x05, 0x04, 0x60, 0x2e, 0x2a, 0x15, 0x05, 0x05]
theorem lp_17 : Pc lc_17 cL_law 1088 := Pc_of (n := 72) (by decide +kernel)
theorem lg_17 : ([(1, 4, .ok (.iconst 1, 1)), (2, 96, .ok (.iadd, 1)), (3, 46, .ok (.iaload, 1)), (4, 42, .ok (.aload_n 0, 1)), (5, 21, .ok (.iload 5, 2)), (7, 5, .ok (.iconst 2, 1)), (8, 96, .ok (.iadd, 1)), (9, 46, .ok (.iaload, 1)), (10, 42, .ok (.aload_n 0, 1)), (11, 21, .ok (.iload 5, 2)), (13, 6, .ok (.iconst 3, 1)), (14, 96, .ok (.iadd, 1)), (15, 46, .ok (.iaload, 1)), (16, 42, .ok (.aload_n 0, 1)), (17, 21, .ok (.iload 5, 2)), (19, 7, .ok (.iconst 4, 1)), (20, 96, .ok (.iadd, 1)), (21, 46, .ok (.iaload, 1)), (22, 45, .ok (.aload_n 3, 1)), (23, 184, .ok (.invokestatic 192, 3)), (26, 54, .ok (.istore 6, 2)), (28, 44, .ok (.aload_n 2, 1)), (29, 42, .ok (.aload_n 0, 1)), (30, 21, .ok (.iload 5, 2)), (32, 4, .ok (.iconst 1, 1)), (33, 96, .ok (.iadd, 1)), (34, 46, .ok (.iaload, 1)), (35, 42, .ok (.aload_n 0, 1)), (36, 21, .ok (.iload 5, 2)), (38, 5, .ok (.iconst 2, 1)), (39, 96, .ok (.iadd, 1)), (40, 46, .ok (.iaload, 1)), (41, 42, .ok (.aload_n 0, 1)), (42, 21, .ok (.iload 5, 2)), (44, 6, .ok (.iconst 3, 1)), (45, 96, .ok (.iadd, 1)), (46, 46, .ok (.iaload, 1)), (47, 42, .ok (.aload_n 0, 1)), (48, 21, .ok (.iload 5, 2)), (50, 7, .ok (.iconst 4, 1)), (51, 96, .ok (.iadd, 1)), (52, 46, .ok (.iaload, 1)), (53, 182, .ok (.invokevirtual 194, 3)), (56, 54, .ok (.istore 7, 2)), (58, 167, .ok (.goto 604, 3)), (61, 43, .ok (.aload_n 1, 1)), (62, 42, .ok (.aload_n 0, 1)), (63, 21, .ok (.iload 5, 2))] : List (Nat × UInt8 × Except DecodeError (Instr × Nat))).all (fun q => decide (decode lc_17 q.1 = q.2.2) && decide (lc_17.data.toList[q.1]? = some q.2.1)) = true := by decide +kernel
theorem dL_law_1089 : decode cL_law 1089 = .ok (.iconst 1, 1) := by
  have h := two_at (all_at lg_17 0 (a := (1, 4, .ok (.iconst 1, 1))) rfl)
  exact dec_row (f := 1088) (k := 1) (ro_4 lp_17 (byte_at h.2)) h.1
theorem dL_law_1090 : decode cL_law 1090 = .ok (.iadd, 1) := by
  have h := two_at (all_at lg_17 1 (a := (2, 96, .ok (.iadd, 1))) rfl)
  exact dec_row (f := 1088) (k := 2) (ro_96 lp_17 (byte_at h.2)) h.1
theorem dL_law_1091 : decode cL_law 1091 = .ok (.iaload, 1) := by
  have h := two_at (all_at lg_17 2 (a := (3, 46, .ok (.iaload, 1))) rfl)
  exact dec_row (f := 1088) (k := 3) (ro_46 lp_17 (byte_at h.2)) h.1
theorem dL_law_1092 : decode cL_law 1092 = .ok (.aload_n 0, 1) := by
  have h := two_at (all_at lg_17 3 (a := (4, 42, .ok (.aload_n 0, 1))) rfl)
  exact dec_row (f := 1088) (k := 4) (ro_42 lp_17 (byte_at h.2)) h.1
theorem dL_law_1093 : decode cL_law 1093 = .ok (.iload 5, 2) := by
  have h := two_at (all_at lg_17 4 (a := (5, 21, .ok (.iload 5, 2))) rfl)
  exact dec_row (f := 1088) (k := 5) (ro_21 lp_17 (byte_at h.2)) h.1
theorem dL_law_1095 : decode cL_law 1095 = .ok (.iconst 2, 1) := by
  have h := two_at (all_at lg_17 5 (a := (7, 5, .ok (.iconst 2, 1))) rfl)
  exact dec_row (f := 1088) (k := 7) (ro_5 lp_17 (byte_at h.2)) h.1
theorem dL_law_1096 : decode cL_law 1096 = .ok (.iadd, 1) := by
  have h := two_at (all_at lg_17 6 (a := (8, 96, .ok (.iadd, 1))) rfl)
  exact dec_row (f := 1088) (k := 8) (ro_96 lp_17 (byte_at h.2)) h.1
theorem dL_law_1097 : decode cL_law 1097 = .ok (.iaload, 1) := by
  have h := two_at (all_at lg_17 7 (a := (9, 46, .ok (.iaload, 1))) rfl)
  exact dec_row (f := 1088) (k := 9) (ro_46 lp_17 (byte_at h.2)) h.1
theorem dL_law_1098 : decode cL_law 1098 = .ok (.aload_n 0, 1) := by
  have h := two_at (all_at lg_17 8 (a := (10, 42, .ok (.aload_n 0, 1))) rfl)
  exact dec_row (f := 1088) (k := 10) (ro_42 lp_17 (byte_at h.2)) h.1
theorem dL_law_1099 : decode cL_law 1099 = .ok (.iload 5, 2) := by
  have h := two_at (all_at lg_17 9 (a := (11, 21, .ok (.iload 5, 2))) rfl)
  exact dec_row (f := 1088) (k := 11) (ro_21 lp_17 (byte_at h.2)) h.1
theorem dL_law_1101 : decode cL_law 1101 = .ok (.iconst 3, 1) := by
  have h := two_at (all_at lg_17 10 (a := (13, 6, .ok (.iconst 3, 1))) rfl)
  exact dec_row (f := 1088) (k := 13) (ro_6 lp_17 (byte_at h.2)) h.1
theorem dL_law_1102 : decode cL_law 1102 = .ok (.iadd, 1) := by
  have h := two_at (all_at lg_17 11 (a := (14, 96, .ok (.iadd, 1))) rfl)
  exact dec_row (f := 1088) (k := 14) (ro_96 lp_17 (byte_at h.2)) h.1
theorem dL_law_1103 : decode cL_law 1103 = .ok (.iaload, 1) := by
  have h := two_at (all_at lg_17 12 (a := (15, 46, .ok (.iaload, 1))) rfl)
  exact dec_row (f := 1088) (k := 15) (ro_46 lp_17 (byte_at h.2)) h.1
theorem dL_law_1104 : decode cL_law 1104 = .ok (.aload_n 0, 1) := by
  have h := two_at (all_at lg_17 13 (a := (16, 42, .ok (.aload_n 0, 1))) rfl)
  exact dec_row (f := 1088) (k := 16) (ro_42 lp_17 (byte_at h.2)) h.1
theorem dL_law_1105 : decode cL_law 1105 = .ok (.iload 5, 2) := by
  have h := two_at (all_at lg_17 14 (a := (17, 21, .ok (.iload 5, 2))) rfl)
  exact dec_row (f := 1088) (k := 17) (ro_21 lp_17 (byte_at h.2)) h.1
theorem dL_law_1107 : decode cL_law 1107 = .ok (.iconst 4, 1) := by
  have h := two_at (all_at lg_17 15 (a := (19, 7, .ok (.iconst 4, 1))) rfl)
  exact dec_row (f := 1088) (k := 19) (ro_7 lp_17 (byte_at h.2)) h.1
theorem dL_law_1108 : decode cL_law 1108 = .ok (.iadd, 1) := by
  have h := two_at (all_at lg_17 16 (a := (20, 96, .ok (.iadd, 1))) rfl)
  exact dec_row (f := 1088) (k := 20) (ro_96 lp_17 (byte_at h.2)) h.1
theorem dL_law_1109 : decode cL_law 1109 = .ok (.iaload, 1) := by
  have h := two_at (all_at lg_17 17 (a := (21, 46, .ok (.iaload, 1))) rfl)
  exact dec_row (f := 1088) (k := 21) (ro_46 lp_17 (byte_at h.2)) h.1
theorem dL_law_1110 : decode cL_law 1110 = .ok (.aload_n 3, 1) := by
  have h := two_at (all_at lg_17 18 (a := (22, 45, .ok (.aload_n 3, 1))) rfl)
  exact dec_row (f := 1088) (k := 22) (ro_45 lp_17 (byte_at h.2)) h.1
theorem dL_law_1111 : decode cL_law 1111 = .ok (.invokestatic 192, 3) := by
  have h := two_at (all_at lg_17 19 (a := (23, 184, .ok (.invokestatic 192, 3))) rfl)
  exact dec_row (f := 1088) (k := 23) (ro_184 lp_17 (byte_at h.2)) h.1
theorem dL_law_1114 : decode cL_law 1114 = .ok (.istore 6, 2) := by
  have h := two_at (all_at lg_17 20 (a := (26, 54, .ok (.istore 6, 2))) rfl)
  exact dec_row (f := 1088) (k := 26) (ro_54 lp_17 (byte_at h.2)) h.1
theorem dL_law_1116 : decode cL_law 1116 = .ok (.aload_n 2, 1) := by
  have h := two_at (all_at lg_17 21 (a := (28, 44, .ok (.aload_n 2, 1))) rfl)
  exact dec_row (f := 1088) (k := 28) (ro_44 lp_17 (byte_at h.2)) h.1
theorem dL_law_1117 : decode cL_law 1117 = .ok (.aload_n 0, 1) := by
  have h := two_at (all_at lg_17 22 (a := (29, 42, .ok (.aload_n 0, 1))) rfl)
  exact dec_row (f := 1088) (k := 29) (ro_42 lp_17 (byte_at h.2)) h.1
theorem dL_law_1118 : decode cL_law 1118 = .ok (.iload 5, 2) := by
  have h := two_at (all_at lg_17 23 (a := (30, 21, .ok (.iload 5, 2))) rfl)
  exact dec_row (f := 1088) (k := 30) (ro_21 lp_17 (byte_at h.2)) h.1
theorem dL_law_1120 : decode cL_law 1120 = .ok (.iconst 1, 1) := by
  have h := two_at (all_at lg_17 24 (a := (32, 4, .ok (.iconst 1, 1))) rfl)
  exact dec_row (f := 1088) (k := 32) (ro_4 lp_17 (byte_at h.2)) h.1
theorem dL_law_1121 : decode cL_law 1121 = .ok (.iadd, 1) := by
  have h := two_at (all_at lg_17 25 (a := (33, 96, .ok (.iadd, 1))) rfl)
  exact dec_row (f := 1088) (k := 33) (ro_96 lp_17 (byte_at h.2)) h.1
theorem dL_law_1122 : decode cL_law 1122 = .ok (.iaload, 1) := by
  have h := two_at (all_at lg_17 26 (a := (34, 46, .ok (.iaload, 1))) rfl)
  exact dec_row (f := 1088) (k := 34) (ro_46 lp_17 (byte_at h.2)) h.1
theorem dL_law_1123 : decode cL_law 1123 = .ok (.aload_n 0, 1) := by
  have h := two_at (all_at lg_17 27 (a := (35, 42, .ok (.aload_n 0, 1))) rfl)
  exact dec_row (f := 1088) (k := 35) (ro_42 lp_17 (byte_at h.2)) h.1
theorem dL_law_1124 : decode cL_law 1124 = .ok (.iload 5, 2) := by
  have h := two_at (all_at lg_17 28 (a := (36, 21, .ok (.iload 5, 2))) rfl)
  exact dec_row (f := 1088) (k := 36) (ro_21 lp_17 (byte_at h.2)) h.1
theorem dL_law_1126 : decode cL_law 1126 = .ok (.iconst 2, 1) := by
  have h := two_at (all_at lg_17 29 (a := (38, 5, .ok (.iconst 2, 1))) rfl)
  exact dec_row (f := 1088) (k := 38) (ro_5 lp_17 (byte_at h.2)) h.1
theorem dL_law_1127 : decode cL_law 1127 = .ok (.iadd, 1) := by
  have h := two_at (all_at lg_17 30 (a := (39, 96, .ok (.iadd, 1))) rfl)
  exact dec_row (f := 1088) (k := 39) (ro_96 lp_17 (byte_at h.2)) h.1
theorem dL_law_1128 : decode cL_law 1128 = .ok (.iaload, 1) := by
  have h := two_at (all_at lg_17 31 (a := (40, 46, .ok (.iaload, 1))) rfl)
  exact dec_row (f := 1088) (k := 40) (ro_46 lp_17 (byte_at h.2)) h.1
theorem dL_law_1129 : decode cL_law 1129 = .ok (.aload_n 0, 1) := by
  have h := two_at (all_at lg_17 32 (a := (41, 42, .ok (.aload_n 0, 1))) rfl)
  exact dec_row (f := 1088) (k := 41) (ro_42 lp_17 (byte_at h.2)) h.1
theorem dL_law_1130 : decode cL_law 1130 = .ok (.iload 5, 2) := by
  have h := two_at (all_at lg_17 33 (a := (42, 21, .ok (.iload 5, 2))) rfl)
  exact dec_row (f := 1088) (k := 42) (ro_21 lp_17 (byte_at h.2)) h.1
theorem dL_law_1132 : decode cL_law 1132 = .ok (.iconst 3, 1) := by
  have h := two_at (all_at lg_17 34 (a := (44, 6, .ok (.iconst 3, 1))) rfl)
  exact dec_row (f := 1088) (k := 44) (ro_6 lp_17 (byte_at h.2)) h.1
theorem dL_law_1133 : decode cL_law 1133 = .ok (.iadd, 1) := by
  have h := two_at (all_at lg_17 35 (a := (45, 96, .ok (.iadd, 1))) rfl)
  exact dec_row (f := 1088) (k := 45) (ro_96 lp_17 (byte_at h.2)) h.1
theorem dL_law_1134 : decode cL_law 1134 = .ok (.iaload, 1) := by
  have h := two_at (all_at lg_17 36 (a := (46, 46, .ok (.iaload, 1))) rfl)
  exact dec_row (f := 1088) (k := 46) (ro_46 lp_17 (byte_at h.2)) h.1
theorem dL_law_1135 : decode cL_law 1135 = .ok (.aload_n 0, 1) := by
  have h := two_at (all_at lg_17 37 (a := (47, 42, .ok (.aload_n 0, 1))) rfl)
  exact dec_row (f := 1088) (k := 47) (ro_42 lp_17 (byte_at h.2)) h.1
theorem dL_law_1136 : decode cL_law 1136 = .ok (.iload 5, 2) := by
  have h := two_at (all_at lg_17 38 (a := (48, 21, .ok (.iload 5, 2))) rfl)
  exact dec_row (f := 1088) (k := 48) (ro_21 lp_17 (byte_at h.2)) h.1
theorem dL_law_1138 : decode cL_law 1138 = .ok (.iconst 4, 1) := by
  have h := two_at (all_at lg_17 39 (a := (50, 7, .ok (.iconst 4, 1))) rfl)
  exact dec_row (f := 1088) (k := 50) (ro_7 lp_17 (byte_at h.2)) h.1
theorem dL_law_1139 : decode cL_law 1139 = .ok (.iadd, 1) := by
  have h := two_at (all_at lg_17 40 (a := (51, 96, .ok (.iadd, 1))) rfl)
  exact dec_row (f := 1088) (k := 51) (ro_96 lp_17 (byte_at h.2)) h.1
theorem dL_law_1140 : decode cL_law 1140 = .ok (.iaload, 1) := by
  have h := two_at (all_at lg_17 41 (a := (52, 46, .ok (.iaload, 1))) rfl)
  exact dec_row (f := 1088) (k := 52) (ro_46 lp_17 (byte_at h.2)) h.1
theorem dL_law_1141 : decode cL_law 1141 = .ok (.invokevirtual 194, 3) := by
  have h := two_at (all_at lg_17 42 (a := (53, 182, .ok (.invokevirtual 194, 3))) rfl)
  exact dec_row (f := 1088) (k := 53) (ro_182 lp_17 (byte_at h.2)) h.1
theorem dL_law_1144 : decode cL_law 1144 = .ok (.istore 7, 2) := by
  have h := two_at (all_at lg_17 43 (a := (56, 54, .ok (.istore 7, 2))) rfl)
  exact dec_row (f := 1088) (k := 56) (ro_54 lp_17 (byte_at h.2)) h.1
theorem dL_law_1146 : decode cL_law 1146 = .ok (.goto 604, 3) := by
  have h := two_at (all_at lg_17 44 (a := (58, 167, .ok (.goto 604, 3))) rfl)
  exact dec_row (f := 1088) (k := 58) (ro_167 lp_17 (byte_at h.2)) h.1
theorem dL_law_1149 : decode cL_law 1149 = .ok (.aload_n 1, 1) := by
  have h := two_at (all_at lg_17 45 (a := (61, 43, .ok (.aload_n 1, 1))) rfl)
  exact dec_row (f := 1088) (k := 61) (ro_43 lp_17 (byte_at h.2)) h.1
theorem dL_law_1150 : decode cL_law 1150 = .ok (.aload_n 0, 1) := by
  have h := two_at (all_at lg_17 46 (a := (62, 42, .ok (.aload_n 0, 1))) rfl)
  exact dec_row (f := 1088) (k := 62) (ro_42 lp_17 (byte_at h.2)) h.1
theorem dL_law_1151 : decode cL_law 1151 = .ok (.iload 5, 2) := by
  have h := two_at (all_at lg_17 47 (a := (63, 21, .ok (.iload 5, 2))) rfl)
  exact dec_row (f := 1088) (k := 63) (ro_21 lp_17 (byte_at h.2)) h.1
def lc_18 : ByteArray := .mk #[0x05, 0x04, 0x60, 0x2e, 0x2a, 0x15, 0x05, 0x05, 0x60, 0x2e, 0x2d, 0xb8, 0x00, 0xc3, 0x36, 0x06, 0x2c, 0x2a, 0x15, 0x05, 0x04, 0x60, 0x2e, 0x2a, 0x15, 0x05, 0x05, 0x60, 0x2e, 0xb6, 0x00, 0xc5, 0x36, 0x07, 0xa7, 0x02, 0x34, 0x2b, 0x2a, 0x15, 0x05, 0x04, 0x60, 0x2e, 0x2a, 0x15, 0x05, 0x05, 0x60, 0x2e, 0x2d, 0xb8, 0x00, 0xc6, 0x36, 0x06, 0x2c, 0x2a, 0x15, 0x05, 0x04, 0x60, 0x2e, 0x2a, 0x15, 0x05, 0x05, 0x60, 0x2e, 0xb6, 0x00, 0xc8]
theorem lp_18 : Pc lc_18 cL_law 1152 := Pc_of (n := 72) (by decide +kernel)
theorem lg_18 : ([(1, 4, .ok (.iconst 1, 1)), (2, 96, .ok (.iadd, 1)), (3, 46, .ok (.iaload, 1)), (4, 42, .ok (.aload_n 0, 1)), (5, 21, .ok (.iload 5, 2)), (7, 5, .ok (.iconst 2, 1)), (8, 96, .ok (.iadd, 1)), (9, 46, .ok (.iaload, 1)), (10, 45, .ok (.aload_n 3, 1)), (11, 184, .ok (.invokestatic 195, 3)), (14, 54, .ok (.istore 6, 2)), (16, 44, .ok (.aload_n 2, 1)), (17, 42, .ok (.aload_n 0, 1)), (18, 21, .ok (.iload 5, 2)), (20, 4, .ok (.iconst 1, 1)), (21, 96, .ok (.iadd, 1)), (22, 46, .ok (.iaload, 1)), (23, 42, .ok (.aload_n 0, 1)), (24, 21, .ok (.iload 5, 2)), (26, 5, .ok (.iconst 2, 1)), (27, 96, .ok (.iadd, 1)), (28, 46, .ok (.iaload, 1)), (29, 182, .ok (.invokevirtual 197, 3)), (32, 54, .ok (.istore 7, 2)), (34, 167, .ok (.goto 564, 3)), (37, 43, .ok (.aload_n 1, 1)), (38, 42, .ok (.aload_n 0, 1)), (39, 21, .ok (.iload 5, 2)), (41, 4, .ok (.iconst 1, 1)), (42, 96, .ok (.iadd, 1)), (43, 46, .ok (.iaload, 1)), (44, 42, .ok (.aload_n 0, 1)), (45, 21, .ok (.iload 5, 2)), (47, 5, .ok (.iconst 2, 1)), (48, 96, .ok (.iadd, 1)), (49, 46, .ok (.iaload, 1)), (50, 45, .ok (.aload_n 3, 1)), (51, 184, .ok (.invokestatic 198, 3)), (54, 54, .ok (.istore 6, 2)), (56, 44, .ok (.aload_n 2, 1)), (57, 42, .ok (.aload_n 0, 1)), (58, 21, .ok (.iload 5, 2)), (60, 4, .ok (.iconst 1, 1)), (61, 96, .ok (.iadd, 1)), (62, 46, .ok (.iaload, 1)), (63, 42, .ok (.aload_n 0, 1))] : List (Nat × UInt8 × Except DecodeError (Instr × Nat))).all (fun q => decide (decode lc_18 q.1 = q.2.2) && decide (lc_18.data.toList[q.1]? = some q.2.1)) = true := by decide +kernel
theorem dL_law_1153 : decode cL_law 1153 = .ok (.iconst 1, 1) := by
  have h := two_at (all_at lg_18 0 (a := (1, 4, .ok (.iconst 1, 1))) rfl)
  exact dec_row (f := 1152) (k := 1) (ro_4 lp_18 (byte_at h.2)) h.1
theorem dL_law_1154 : decode cL_law 1154 = .ok (.iadd, 1) := by
  have h := two_at (all_at lg_18 1 (a := (2, 96, .ok (.iadd, 1))) rfl)
  exact dec_row (f := 1152) (k := 2) (ro_96 lp_18 (byte_at h.2)) h.1
theorem dL_law_1155 : decode cL_law 1155 = .ok (.iaload, 1) := by
  have h := two_at (all_at lg_18 2 (a := (3, 46, .ok (.iaload, 1))) rfl)
  exact dec_row (f := 1152) (k := 3) (ro_46 lp_18 (byte_at h.2)) h.1
theorem dL_law_1156 : decode cL_law 1156 = .ok (.aload_n 0, 1) := by
  have h := two_at (all_at lg_18 3 (a := (4, 42, .ok (.aload_n 0, 1))) rfl)
  exact dec_row (f := 1152) (k := 4) (ro_42 lp_18 (byte_at h.2)) h.1
theorem dL_law_1157 : decode cL_law 1157 = .ok (.iload 5, 2) := by
  have h := two_at (all_at lg_18 4 (a := (5, 21, .ok (.iload 5, 2))) rfl)
  exact dec_row (f := 1152) (k := 5) (ro_21 lp_18 (byte_at h.2)) h.1
theorem dL_law_1159 : decode cL_law 1159 = .ok (.iconst 2, 1) := by
  have h := two_at (all_at lg_18 5 (a := (7, 5, .ok (.iconst 2, 1))) rfl)
  exact dec_row (f := 1152) (k := 7) (ro_5 lp_18 (byte_at h.2)) h.1
theorem dL_law_1160 : decode cL_law 1160 = .ok (.iadd, 1) := by
  have h := two_at (all_at lg_18 6 (a := (8, 96, .ok (.iadd, 1))) rfl)
  exact dec_row (f := 1152) (k := 8) (ro_96 lp_18 (byte_at h.2)) h.1
theorem dL_law_1161 : decode cL_law 1161 = .ok (.iaload, 1) := by
  have h := two_at (all_at lg_18 7 (a := (9, 46, .ok (.iaload, 1))) rfl)
  exact dec_row (f := 1152) (k := 9) (ro_46 lp_18 (byte_at h.2)) h.1
theorem dL_law_1162 : decode cL_law 1162 = .ok (.aload_n 3, 1) := by
  have h := two_at (all_at lg_18 8 (a := (10, 45, .ok (.aload_n 3, 1))) rfl)
  exact dec_row (f := 1152) (k := 10) (ro_45 lp_18 (byte_at h.2)) h.1
theorem dL_law_1163 : decode cL_law 1163 = .ok (.invokestatic 195, 3) := by
  have h := two_at (all_at lg_18 9 (a := (11, 184, .ok (.invokestatic 195, 3))) rfl)
  exact dec_row (f := 1152) (k := 11) (ro_184 lp_18 (byte_at h.2)) h.1
theorem dL_law_1166 : decode cL_law 1166 = .ok (.istore 6, 2) := by
  have h := two_at (all_at lg_18 10 (a := (14, 54, .ok (.istore 6, 2))) rfl)
  exact dec_row (f := 1152) (k := 14) (ro_54 lp_18 (byte_at h.2)) h.1
theorem dL_law_1168 : decode cL_law 1168 = .ok (.aload_n 2, 1) := by
  have h := two_at (all_at lg_18 11 (a := (16, 44, .ok (.aload_n 2, 1))) rfl)
  exact dec_row (f := 1152) (k := 16) (ro_44 lp_18 (byte_at h.2)) h.1
theorem dL_law_1169 : decode cL_law 1169 = .ok (.aload_n 0, 1) := by
  have h := two_at (all_at lg_18 12 (a := (17, 42, .ok (.aload_n 0, 1))) rfl)
  exact dec_row (f := 1152) (k := 17) (ro_42 lp_18 (byte_at h.2)) h.1
theorem dL_law_1170 : decode cL_law 1170 = .ok (.iload 5, 2) := by
  have h := two_at (all_at lg_18 13 (a := (18, 21, .ok (.iload 5, 2))) rfl)
  exact dec_row (f := 1152) (k := 18) (ro_21 lp_18 (byte_at h.2)) h.1
theorem dL_law_1172 : decode cL_law 1172 = .ok (.iconst 1, 1) := by
  have h := two_at (all_at lg_18 14 (a := (20, 4, .ok (.iconst 1, 1))) rfl)
  exact dec_row (f := 1152) (k := 20) (ro_4 lp_18 (byte_at h.2)) h.1
theorem dL_law_1173 : decode cL_law 1173 = .ok (.iadd, 1) := by
  have h := two_at (all_at lg_18 15 (a := (21, 96, .ok (.iadd, 1))) rfl)
  exact dec_row (f := 1152) (k := 21) (ro_96 lp_18 (byte_at h.2)) h.1
theorem dL_law_1174 : decode cL_law 1174 = .ok (.iaload, 1) := by
  have h := two_at (all_at lg_18 16 (a := (22, 46, .ok (.iaload, 1))) rfl)
  exact dec_row (f := 1152) (k := 22) (ro_46 lp_18 (byte_at h.2)) h.1
theorem dL_law_1175 : decode cL_law 1175 = .ok (.aload_n 0, 1) := by
  have h := two_at (all_at lg_18 17 (a := (23, 42, .ok (.aload_n 0, 1))) rfl)
  exact dec_row (f := 1152) (k := 23) (ro_42 lp_18 (byte_at h.2)) h.1
theorem dL_law_1176 : decode cL_law 1176 = .ok (.iload 5, 2) := by
  have h := two_at (all_at lg_18 18 (a := (24, 21, .ok (.iload 5, 2))) rfl)
  exact dec_row (f := 1152) (k := 24) (ro_21 lp_18 (byte_at h.2)) h.1
theorem dL_law_1178 : decode cL_law 1178 = .ok (.iconst 2, 1) := by
  have h := two_at (all_at lg_18 19 (a := (26, 5, .ok (.iconst 2, 1))) rfl)
  exact dec_row (f := 1152) (k := 26) (ro_5 lp_18 (byte_at h.2)) h.1
theorem dL_law_1179 : decode cL_law 1179 = .ok (.iadd, 1) := by
  have h := two_at (all_at lg_18 20 (a := (27, 96, .ok (.iadd, 1))) rfl)
  exact dec_row (f := 1152) (k := 27) (ro_96 lp_18 (byte_at h.2)) h.1
theorem dL_law_1180 : decode cL_law 1180 = .ok (.iaload, 1) := by
  have h := two_at (all_at lg_18 21 (a := (28, 46, .ok (.iaload, 1))) rfl)
  exact dec_row (f := 1152) (k := 28) (ro_46 lp_18 (byte_at h.2)) h.1
theorem dL_law_1181 : decode cL_law 1181 = .ok (.invokevirtual 197, 3) := by
  have h := two_at (all_at lg_18 22 (a := (29, 182, .ok (.invokevirtual 197, 3))) rfl)
  exact dec_row (f := 1152) (k := 29) (ro_182 lp_18 (byte_at h.2)) h.1
theorem dL_law_1184 : decode cL_law 1184 = .ok (.istore 7, 2) := by
  have h := two_at (all_at lg_18 23 (a := (32, 54, .ok (.istore 7, 2))) rfl)
  exact dec_row (f := 1152) (k := 32) (ro_54 lp_18 (byte_at h.2)) h.1
theorem dL_law_1186 : decode cL_law 1186 = .ok (.goto 564, 3) := by
  have h := two_at (all_at lg_18 24 (a := (34, 167, .ok (.goto 564, 3))) rfl)
  exact dec_row (f := 1152) (k := 34) (ro_167 lp_18 (byte_at h.2)) h.1
theorem dL_law_1189 : decode cL_law 1189 = .ok (.aload_n 1, 1) := by
  have h := two_at (all_at lg_18 25 (a := (37, 43, .ok (.aload_n 1, 1))) rfl)
  exact dec_row (f := 1152) (k := 37) (ro_43 lp_18 (byte_at h.2)) h.1
theorem dL_law_1190 : decode cL_law 1190 = .ok (.aload_n 0, 1) := by
  have h := two_at (all_at lg_18 26 (a := (38, 42, .ok (.aload_n 0, 1))) rfl)
  exact dec_row (f := 1152) (k := 38) (ro_42 lp_18 (byte_at h.2)) h.1
theorem dL_law_1191 : decode cL_law 1191 = .ok (.iload 5, 2) := by
  have h := two_at (all_at lg_18 27 (a := (39, 21, .ok (.iload 5, 2))) rfl)
  exact dec_row (f := 1152) (k := 39) (ro_21 lp_18 (byte_at h.2)) h.1
theorem dL_law_1193 : decode cL_law 1193 = .ok (.iconst 1, 1) := by
  have h := two_at (all_at lg_18 28 (a := (41, 4, .ok (.iconst 1, 1))) rfl)
  exact dec_row (f := 1152) (k := 41) (ro_4 lp_18 (byte_at h.2)) h.1
theorem dL_law_1194 : decode cL_law 1194 = .ok (.iadd, 1) := by
  have h := two_at (all_at lg_18 29 (a := (42, 96, .ok (.iadd, 1))) rfl)
  exact dec_row (f := 1152) (k := 42) (ro_96 lp_18 (byte_at h.2)) h.1
theorem dL_law_1195 : decode cL_law 1195 = .ok (.iaload, 1) := by
  have h := two_at (all_at lg_18 30 (a := (43, 46, .ok (.iaload, 1))) rfl)
  exact dec_row (f := 1152) (k := 43) (ro_46 lp_18 (byte_at h.2)) h.1
theorem dL_law_1196 : decode cL_law 1196 = .ok (.aload_n 0, 1) := by
  have h := two_at (all_at lg_18 31 (a := (44, 42, .ok (.aload_n 0, 1))) rfl)
  exact dec_row (f := 1152) (k := 44) (ro_42 lp_18 (byte_at h.2)) h.1
theorem dL_law_1197 : decode cL_law 1197 = .ok (.iload 5, 2) := by
  have h := two_at (all_at lg_18 32 (a := (45, 21, .ok (.iload 5, 2))) rfl)
  exact dec_row (f := 1152) (k := 45) (ro_21 lp_18 (byte_at h.2)) h.1
theorem dL_law_1199 : decode cL_law 1199 = .ok (.iconst 2, 1) := by
  have h := two_at (all_at lg_18 33 (a := (47, 5, .ok (.iconst 2, 1))) rfl)
  exact dec_row (f := 1152) (k := 47) (ro_5 lp_18 (byte_at h.2)) h.1
theorem dL_law_1200 : decode cL_law 1200 = .ok (.iadd, 1) := by
  have h := two_at (all_at lg_18 34 (a := (48, 96, .ok (.iadd, 1))) rfl)
  exact dec_row (f := 1152) (k := 48) (ro_96 lp_18 (byte_at h.2)) h.1
theorem dL_law_1201 : decode cL_law 1201 = .ok (.iaload, 1) := by
  have h := two_at (all_at lg_18 35 (a := (49, 46, .ok (.iaload, 1))) rfl)
  exact dec_row (f := 1152) (k := 49) (ro_46 lp_18 (byte_at h.2)) h.1
theorem dL_law_1202 : decode cL_law 1202 = .ok (.aload_n 3, 1) := by
  have h := two_at (all_at lg_18 36 (a := (50, 45, .ok (.aload_n 3, 1))) rfl)
  exact dec_row (f := 1152) (k := 50) (ro_45 lp_18 (byte_at h.2)) h.1
theorem dL_law_1203 : decode cL_law 1203 = .ok (.invokestatic 198, 3) := by
  have h := two_at (all_at lg_18 37 (a := (51, 184, .ok (.invokestatic 198, 3))) rfl)
  exact dec_row (f := 1152) (k := 51) (ro_184 lp_18 (byte_at h.2)) h.1
theorem dL_law_1206 : decode cL_law 1206 = .ok (.istore 6, 2) := by
  have h := two_at (all_at lg_18 38 (a := (54, 54, .ok (.istore 6, 2))) rfl)
  exact dec_row (f := 1152) (k := 54) (ro_54 lp_18 (byte_at h.2)) h.1
theorem dL_law_1208 : decode cL_law 1208 = .ok (.aload_n 2, 1) := by
  have h := two_at (all_at lg_18 39 (a := (56, 44, .ok (.aload_n 2, 1))) rfl)
  exact dec_row (f := 1152) (k := 56) (ro_44 lp_18 (byte_at h.2)) h.1
theorem dL_law_1209 : decode cL_law 1209 = .ok (.aload_n 0, 1) := by
  have h := two_at (all_at lg_18 40 (a := (57, 42, .ok (.aload_n 0, 1))) rfl)
  exact dec_row (f := 1152) (k := 57) (ro_42 lp_18 (byte_at h.2)) h.1
theorem dL_law_1210 : decode cL_law 1210 = .ok (.iload 5, 2) := by
  have h := two_at (all_at lg_18 41 (a := (58, 21, .ok (.iload 5, 2))) rfl)
  exact dec_row (f := 1152) (k := 58) (ro_21 lp_18 (byte_at h.2)) h.1
theorem dL_law_1212 : decode cL_law 1212 = .ok (.iconst 1, 1) := by
  have h := two_at (all_at lg_18 42 (a := (60, 4, .ok (.iconst 1, 1))) rfl)
  exact dec_row (f := 1152) (k := 60) (ro_4 lp_18 (byte_at h.2)) h.1
theorem dL_law_1213 : decode cL_law 1213 = .ok (.iadd, 1) := by
  have h := two_at (all_at lg_18 43 (a := (61, 96, .ok (.iadd, 1))) rfl)
  exact dec_row (f := 1152) (k := 61) (ro_96 lp_18 (byte_at h.2)) h.1
theorem dL_law_1214 : decode cL_law 1214 = .ok (.iaload, 1) := by
  have h := two_at (all_at lg_18 44 (a := (62, 46, .ok (.iaload, 1))) rfl)
  exact dec_row (f := 1152) (k := 62) (ro_46 lp_18 (byte_at h.2)) h.1
theorem dL_law_1215 : decode cL_law 1215 = .ok (.aload_n 0, 1) := by
  have h := two_at (all_at lg_18 45 (a := (63, 42, .ok (.aload_n 0, 1))) rfl)
  exact dec_row (f := 1152) (k := 63) (ro_42 lp_18 (byte_at h.2)) h.1
def lc_19 : ByteArray := .mk #[0x15, 0x05, 0x05, 0x60, 0x2e, 0xb6, 0x00, 0xc8, 0x36, 0x07, 0xa7, 0x02, 0x0c, 0x2b, 0xb6, 0x00, 0xc9, 0x57, 0x2c, 0xb6, 0x00, 0xcc, 0x57, 0xa7, 0x01, 0xff, 0x2b, 0x2a, 0x15, 0x05, 0x04, 0x60, 0x2e, 0x2a, 0x15, 0x05, 0x05, 0x60, 0x2e, 0x2a, 0x15, 0x05, 0x06, 0x60, 0x2e, 0x2d, 0xb8, 0x00, 0xcd, 0x36, 0x06, 0x2c, 0x2a, 0x15, 0x05, 0x04, 0x60, 0x2e, 0x2a, 0x15, 0x05, 0x05, 0x60, 0x2e, 0x2a, 0x15, 0x05, 0x06, 0x60, 0x2e, 0xb6, 0x00]
theorem lp_19 : Pc lc_19 cL_law 1216 := Pc_of (n := 72) (by decide +kernel)
theorem lg_19 : ([(0, 21, .ok (.iload 5, 2)), (2, 5, .ok (.iconst 2, 1)), (3, 96, .ok (.iadd, 1)), (4, 46, .ok (.iaload, 1)), (5, 182, .ok (.invokevirtual 200, 3)), (8, 54, .ok (.istore 7, 2)), (10, 167, .ok (.goto 524, 3)), (13, 43, .ok (.aload_n 1, 1)), (14, 182, .ok (.invokevirtual 201, 3)), (17, 87, .ok (.pop, 1)), (18, 44, .ok (.aload_n 2, 1)), (19, 182, .ok (.invokevirtual 204, 3)), (22, 87, .ok (.pop, 1)), (23, 167, .ok (.goto 511, 3)), (26, 43, .ok (.aload_n 1, 1)), (27, 42, .ok (.aload_n 0, 1)), (28, 21, .ok (.iload 5, 2)), (30, 4, .ok (.iconst 1, 1)), (31, 96, .ok (.iadd, 1)), (32, 46, .ok (.iaload, 1)), (33, 42, .ok (.aload_n 0, 1)), (34, 21, .ok (.iload 5, 2)), (36, 5, .ok (.iconst 2, 1)), (37, 96, .ok (.iadd, 1)), (38, 46, .ok (.iaload, 1)), (39, 42, .ok (.aload_n 0, 1)), (40, 21, .ok (.iload 5, 2)), (42, 6, .ok (.iconst 3, 1)), (43, 96, .ok (.iadd, 1)), (44, 46, .ok (.iaload, 1)), (45, 45, .ok (.aload_n 3, 1)), (46, 184, .ok (.invokestatic 205, 3)), (49, 54, .ok (.istore 6, 2)), (51, 44, .ok (.aload_n 2, 1)), (52, 42, .ok (.aload_n 0, 1)), (53, 21, .ok (.iload 5, 2)), (55, 4, .ok (.iconst 1, 1)), (56, 96, .ok (.iadd, 1)), (57, 46, .ok (.iaload, 1)), (58, 42, .ok (.aload_n 0, 1)), (59, 21, .ok (.iload 5, 2)), (61, 5, .ok (.iconst 2, 1)), (62, 96, .ok (.iadd, 1)), (63, 46, .ok (.iaload, 1))] : List (Nat × UInt8 × Except DecodeError (Instr × Nat))).all (fun q => decide (decode lc_19 q.1 = q.2.2) && decide (lc_19.data.toList[q.1]? = some q.2.1)) = true := by decide +kernel
theorem dL_law_1216 : decode cL_law 1216 = .ok (.iload 5, 2) := by
  have h := two_at (all_at lg_19 0 (a := (0, 21, .ok (.iload 5, 2))) rfl)
  exact dec_row (f := 1216) (k := 0) (ro_21 lp_19 (byte_at h.2)) h.1
theorem dL_law_1218 : decode cL_law 1218 = .ok (.iconst 2, 1) := by
  have h := two_at (all_at lg_19 1 (a := (2, 5, .ok (.iconst 2, 1))) rfl)
  exact dec_row (f := 1216) (k := 2) (ro_5 lp_19 (byte_at h.2)) h.1
theorem dL_law_1219 : decode cL_law 1219 = .ok (.iadd, 1) := by
  have h := two_at (all_at lg_19 2 (a := (3, 96, .ok (.iadd, 1))) rfl)
  exact dec_row (f := 1216) (k := 3) (ro_96 lp_19 (byte_at h.2)) h.1
theorem dL_law_1220 : decode cL_law 1220 = .ok (.iaload, 1) := by
  have h := two_at (all_at lg_19 3 (a := (4, 46, .ok (.iaload, 1))) rfl)
  exact dec_row (f := 1216) (k := 4) (ro_46 lp_19 (byte_at h.2)) h.1
theorem dL_law_1221 : decode cL_law 1221 = .ok (.invokevirtual 200, 3) := by
  have h := two_at (all_at lg_19 4 (a := (5, 182, .ok (.invokevirtual 200, 3))) rfl)
  exact dec_row (f := 1216) (k := 5) (ro_182 lp_19 (byte_at h.2)) h.1
theorem dL_law_1224 : decode cL_law 1224 = .ok (.istore 7, 2) := by
  have h := two_at (all_at lg_19 5 (a := (8, 54, .ok (.istore 7, 2))) rfl)
  exact dec_row (f := 1216) (k := 8) (ro_54 lp_19 (byte_at h.2)) h.1
theorem dL_law_1226 : decode cL_law 1226 = .ok (.goto 524, 3) := by
  have h := two_at (all_at lg_19 6 (a := (10, 167, .ok (.goto 524, 3))) rfl)
  exact dec_row (f := 1216) (k := 10) (ro_167 lp_19 (byte_at h.2)) h.1
theorem dL_law_1229 : decode cL_law 1229 = .ok (.aload_n 1, 1) := by
  have h := two_at (all_at lg_19 7 (a := (13, 43, .ok (.aload_n 1, 1))) rfl)
  exact dec_row (f := 1216) (k := 13) (ro_43 lp_19 (byte_at h.2)) h.1
theorem dL_law_1230 : decode cL_law 1230 = .ok (.invokevirtual 201, 3) := by
  have h := two_at (all_at lg_19 8 (a := (14, 182, .ok (.invokevirtual 201, 3))) rfl)
  exact dec_row (f := 1216) (k := 14) (ro_182 lp_19 (byte_at h.2)) h.1
theorem dL_law_1233 : decode cL_law 1233 = .ok (.pop, 1) := by
  have h := two_at (all_at lg_19 9 (a := (17, 87, .ok (.pop, 1))) rfl)
  exact dec_row (f := 1216) (k := 17) (ro_87 lp_19 (byte_at h.2)) h.1
theorem dL_law_1234 : decode cL_law 1234 = .ok (.aload_n 2, 1) := by
  have h := two_at (all_at lg_19 10 (a := (18, 44, .ok (.aload_n 2, 1))) rfl)
  exact dec_row (f := 1216) (k := 18) (ro_44 lp_19 (byte_at h.2)) h.1
theorem dL_law_1235 : decode cL_law 1235 = .ok (.invokevirtual 204, 3) := by
  have h := two_at (all_at lg_19 11 (a := (19, 182, .ok (.invokevirtual 204, 3))) rfl)
  exact dec_row (f := 1216) (k := 19) (ro_182 lp_19 (byte_at h.2)) h.1
theorem dL_law_1238 : decode cL_law 1238 = .ok (.pop, 1) := by
  have h := two_at (all_at lg_19 12 (a := (22, 87, .ok (.pop, 1))) rfl)
  exact dec_row (f := 1216) (k := 22) (ro_87 lp_19 (byte_at h.2)) h.1
theorem dL_law_1239 : decode cL_law 1239 = .ok (.goto 511, 3) := by
  have h := two_at (all_at lg_19 13 (a := (23, 167, .ok (.goto 511, 3))) rfl)
  exact dec_row (f := 1216) (k := 23) (ro_167 lp_19 (byte_at h.2)) h.1
theorem dL_law_1242 : decode cL_law 1242 = .ok (.aload_n 1, 1) := by
  have h := two_at (all_at lg_19 14 (a := (26, 43, .ok (.aload_n 1, 1))) rfl)
  exact dec_row (f := 1216) (k := 26) (ro_43 lp_19 (byte_at h.2)) h.1
theorem dL_law_1243 : decode cL_law 1243 = .ok (.aload_n 0, 1) := by
  have h := two_at (all_at lg_19 15 (a := (27, 42, .ok (.aload_n 0, 1))) rfl)
  exact dec_row (f := 1216) (k := 27) (ro_42 lp_19 (byte_at h.2)) h.1
theorem dL_law_1244 : decode cL_law 1244 = .ok (.iload 5, 2) := by
  have h := two_at (all_at lg_19 16 (a := (28, 21, .ok (.iload 5, 2))) rfl)
  exact dec_row (f := 1216) (k := 28) (ro_21 lp_19 (byte_at h.2)) h.1
theorem dL_law_1246 : decode cL_law 1246 = .ok (.iconst 1, 1) := by
  have h := two_at (all_at lg_19 17 (a := (30, 4, .ok (.iconst 1, 1))) rfl)
  exact dec_row (f := 1216) (k := 30) (ro_4 lp_19 (byte_at h.2)) h.1
theorem dL_law_1247 : decode cL_law 1247 = .ok (.iadd, 1) := by
  have h := two_at (all_at lg_19 18 (a := (31, 96, .ok (.iadd, 1))) rfl)
  exact dec_row (f := 1216) (k := 31) (ro_96 lp_19 (byte_at h.2)) h.1
theorem dL_law_1248 : decode cL_law 1248 = .ok (.iaload, 1) := by
  have h := two_at (all_at lg_19 19 (a := (32, 46, .ok (.iaload, 1))) rfl)
  exact dec_row (f := 1216) (k := 32) (ro_46 lp_19 (byte_at h.2)) h.1
theorem dL_law_1249 : decode cL_law 1249 = .ok (.aload_n 0, 1) := by
  have h := two_at (all_at lg_19 20 (a := (33, 42, .ok (.aload_n 0, 1))) rfl)
  exact dec_row (f := 1216) (k := 33) (ro_42 lp_19 (byte_at h.2)) h.1
theorem dL_law_1250 : decode cL_law 1250 = .ok (.iload 5, 2) := by
  have h := two_at (all_at lg_19 21 (a := (34, 21, .ok (.iload 5, 2))) rfl)
  exact dec_row (f := 1216) (k := 34) (ro_21 lp_19 (byte_at h.2)) h.1
theorem dL_law_1252 : decode cL_law 1252 = .ok (.iconst 2, 1) := by
  have h := two_at (all_at lg_19 22 (a := (36, 5, .ok (.iconst 2, 1))) rfl)
  exact dec_row (f := 1216) (k := 36) (ro_5 lp_19 (byte_at h.2)) h.1
theorem dL_law_1253 : decode cL_law 1253 = .ok (.iadd, 1) := by
  have h := two_at (all_at lg_19 23 (a := (37, 96, .ok (.iadd, 1))) rfl)
  exact dec_row (f := 1216) (k := 37) (ro_96 lp_19 (byte_at h.2)) h.1
theorem dL_law_1254 : decode cL_law 1254 = .ok (.iaload, 1) := by
  have h := two_at (all_at lg_19 24 (a := (38, 46, .ok (.iaload, 1))) rfl)
  exact dec_row (f := 1216) (k := 38) (ro_46 lp_19 (byte_at h.2)) h.1
theorem dL_law_1255 : decode cL_law 1255 = .ok (.aload_n 0, 1) := by
  have h := two_at (all_at lg_19 25 (a := (39, 42, .ok (.aload_n 0, 1))) rfl)
  exact dec_row (f := 1216) (k := 39) (ro_42 lp_19 (byte_at h.2)) h.1
theorem dL_law_1256 : decode cL_law 1256 = .ok (.iload 5, 2) := by
  have h := two_at (all_at lg_19 26 (a := (40, 21, .ok (.iload 5, 2))) rfl)
  exact dec_row (f := 1216) (k := 40) (ro_21 lp_19 (byte_at h.2)) h.1
theorem dL_law_1258 : decode cL_law 1258 = .ok (.iconst 3, 1) := by
  have h := two_at (all_at lg_19 27 (a := (42, 6, .ok (.iconst 3, 1))) rfl)
  exact dec_row (f := 1216) (k := 42) (ro_6 lp_19 (byte_at h.2)) h.1
theorem dL_law_1259 : decode cL_law 1259 = .ok (.iadd, 1) := by
  have h := two_at (all_at lg_19 28 (a := (43, 96, .ok (.iadd, 1))) rfl)
  exact dec_row (f := 1216) (k := 43) (ro_96 lp_19 (byte_at h.2)) h.1
theorem dL_law_1260 : decode cL_law 1260 = .ok (.iaload, 1) := by
  have h := two_at (all_at lg_19 29 (a := (44, 46, .ok (.iaload, 1))) rfl)
  exact dec_row (f := 1216) (k := 44) (ro_46 lp_19 (byte_at h.2)) h.1
theorem dL_law_1261 : decode cL_law 1261 = .ok (.aload_n 3, 1) := by
  have h := two_at (all_at lg_19 30 (a := (45, 45, .ok (.aload_n 3, 1))) rfl)
  exact dec_row (f := 1216) (k := 45) (ro_45 lp_19 (byte_at h.2)) h.1
theorem dL_law_1262 : decode cL_law 1262 = .ok (.invokestatic 205, 3) := by
  have h := two_at (all_at lg_19 31 (a := (46, 184, .ok (.invokestatic 205, 3))) rfl)
  exact dec_row (f := 1216) (k := 46) (ro_184 lp_19 (byte_at h.2)) h.1
theorem dL_law_1265 : decode cL_law 1265 = .ok (.istore 6, 2) := by
  have h := two_at (all_at lg_19 32 (a := (49, 54, .ok (.istore 6, 2))) rfl)
  exact dec_row (f := 1216) (k := 49) (ro_54 lp_19 (byte_at h.2)) h.1
theorem dL_law_1267 : decode cL_law 1267 = .ok (.aload_n 2, 1) := by
  have h := two_at (all_at lg_19 33 (a := (51, 44, .ok (.aload_n 2, 1))) rfl)
  exact dec_row (f := 1216) (k := 51) (ro_44 lp_19 (byte_at h.2)) h.1
theorem dL_law_1268 : decode cL_law 1268 = .ok (.aload_n 0, 1) := by
  have h := two_at (all_at lg_19 34 (a := (52, 42, .ok (.aload_n 0, 1))) rfl)
  exact dec_row (f := 1216) (k := 52) (ro_42 lp_19 (byte_at h.2)) h.1
theorem dL_law_1269 : decode cL_law 1269 = .ok (.iload 5, 2) := by
  have h := two_at (all_at lg_19 35 (a := (53, 21, .ok (.iload 5, 2))) rfl)
  exact dec_row (f := 1216) (k := 53) (ro_21 lp_19 (byte_at h.2)) h.1
theorem dL_law_1271 : decode cL_law 1271 = .ok (.iconst 1, 1) := by
  have h := two_at (all_at lg_19 36 (a := (55, 4, .ok (.iconst 1, 1))) rfl)
  exact dec_row (f := 1216) (k := 55) (ro_4 lp_19 (byte_at h.2)) h.1
theorem dL_law_1272 : decode cL_law 1272 = .ok (.iadd, 1) := by
  have h := two_at (all_at lg_19 37 (a := (56, 96, .ok (.iadd, 1))) rfl)
  exact dec_row (f := 1216) (k := 56) (ro_96 lp_19 (byte_at h.2)) h.1
theorem dL_law_1273 : decode cL_law 1273 = .ok (.iaload, 1) := by
  have h := two_at (all_at lg_19 38 (a := (57, 46, .ok (.iaload, 1))) rfl)
  exact dec_row (f := 1216) (k := 57) (ro_46 lp_19 (byte_at h.2)) h.1
theorem dL_law_1274 : decode cL_law 1274 = .ok (.aload_n 0, 1) := by
  have h := two_at (all_at lg_19 39 (a := (58, 42, .ok (.aload_n 0, 1))) rfl)
  exact dec_row (f := 1216) (k := 58) (ro_42 lp_19 (byte_at h.2)) h.1
theorem dL_law_1275 : decode cL_law 1275 = .ok (.iload 5, 2) := by
  have h := two_at (all_at lg_19 40 (a := (59, 21, .ok (.iload 5, 2))) rfl)
  exact dec_row (f := 1216) (k := 59) (ro_21 lp_19 (byte_at h.2)) h.1
theorem dL_law_1277 : decode cL_law 1277 = .ok (.iconst 2, 1) := by
  have h := two_at (all_at lg_19 41 (a := (61, 5, .ok (.iconst 2, 1))) rfl)
  exact dec_row (f := 1216) (k := 61) (ro_5 lp_19 (byte_at h.2)) h.1
theorem dL_law_1278 : decode cL_law 1278 = .ok (.iadd, 1) := by
  have h := two_at (all_at lg_19 42 (a := (62, 96, .ok (.iadd, 1))) rfl)
  exact dec_row (f := 1216) (k := 62) (ro_96 lp_19 (byte_at h.2)) h.1
theorem dL_law_1279 : decode cL_law 1279 = .ok (.iaload, 1) := by
  have h := two_at (all_at lg_19 43 (a := (63, 46, .ok (.iaload, 1))) rfl)
  exact dec_row (f := 1216) (k := 63) (ro_46 lp_19 (byte_at h.2)) h.1
def lc_20 : ByteArray := .mk #[0x2a, 0x15, 0x05, 0x06, 0x60, 0x2e, 0xb6, 0x00, 0xcf, 0x36, 0x07, 0xa7, 0x01, 0xcb, 0x2b, 0x2a, 0x15, 0x05, 0x04, 0x60, 0x2e, 0x2a, 0x15, 0x05, 0x05, 0x60, 0x2e, 0x19, 0x04, 0xb8, 0x00, 0xd0, 0x36, 0x06, 0x2c, 0x2a, 0x15, 0x05, 0x04, 0x60, 0x2e, 0x2a, 0x15, 0x05, 0x05, 0x60, 0x2e, 0xb6, 0x00, 0xd3, 0x39, 0x07, 0xa7, 0x01, 0xa2, 0x2b, 0x2a, 0x15, 0x05, 0x04, 0x60, 0x2e, 0x2a, 0x15, 0x05, 0x05, 0x60, 0x2e, 0x19, 0x04, 0xb8, 0x00]
theorem lp_20 : Pc lc_20 cL_law 1280 := Pc_of (n := 72) (by decide +kernel)
theorem lg_20 : ([(0, 42, .ok (.aload_n 0, 1)), (1, 21, .ok (.iload 5, 2)), (3, 6, .ok (.iconst 3, 1)), (4, 96, .ok (.iadd, 1)), (5, 46, .ok (.iaload, 1)), (6, 182, .ok (.invokevirtual 207, 3)), (9, 54, .ok (.istore 7, 2)), (11, 167, .ok (.goto 459, 3)), (14, 43, .ok (.aload_n 1, 1)), (15, 42, .ok (.aload_n 0, 1)), (16, 21, .ok (.iload 5, 2)), (18, 4, .ok (.iconst 1, 1)), (19, 96, .ok (.iadd, 1)), (20, 46, .ok (.iaload, 1)), (21, 42, .ok (.aload_n 0, 1)), (22, 21, .ok (.iload 5, 2)), (24, 5, .ok (.iconst 2, 1)), (25, 96, .ok (.iadd, 1)), (26, 46, .ok (.iaload, 1)), (27, 25, .ok (.aload 4, 2)), (29, 184, .ok (.invokestatic 208, 3)), (32, 54, .ok (.istore 6, 2)), (34, 44, .ok (.aload_n 2, 1)), (35, 42, .ok (.aload_n 0, 1)), (36, 21, .ok (.iload 5, 2)), (38, 4, .ok (.iconst 1, 1)), (39, 96, .ok (.iadd, 1)), (40, 46, .ok (.iaload, 1)), (41, 42, .ok (.aload_n 0, 1)), (42, 21, .ok (.iload 5, 2)), (44, 5, .ok (.iconst 2, 1)), (45, 96, .ok (.iadd, 1)), (46, 46, .ok (.iaload, 1)), (47, 182, .ok (.invokevirtual 211, 3)), (50, 57, .ok (.dstore 7, 2)), (52, 167, .ok (.goto 418, 3)), (55, 43, .ok (.aload_n 1, 1)), (56, 42, .ok (.aload_n 0, 1)), (57, 21, .ok (.iload 5, 2)), (59, 4, .ok (.iconst 1, 1)), (60, 96, .ok (.iadd, 1)), (61, 46, .ok (.iaload, 1)), (62, 42, .ok (.aload_n 0, 1)), (63, 21, .ok (.iload 5, 2))] : List (Nat × UInt8 × Except DecodeError (Instr × Nat))).all (fun q => decide (decode lc_20 q.1 = q.2.2) && decide (lc_20.data.toList[q.1]? = some q.2.1)) = true := by decide +kernel
theorem dL_law_1280 : decode cL_law 1280 = .ok (.aload_n 0, 1) := by
  have h := two_at (all_at lg_20 0 (a := (0, 42, .ok (.aload_n 0, 1))) rfl)
  exact dec_row (f := 1280) (k := 0) (ro_42 lp_20 (byte_at h.2)) h.1
theorem dL_law_1281 : decode cL_law 1281 = .ok (.iload 5, 2) := by
  have h := two_at (all_at lg_20 1 (a := (1, 21, .ok (.iload 5, 2))) rfl)
  exact dec_row (f := 1280) (k := 1) (ro_21 lp_20 (byte_at h.2)) h.1
theorem dL_law_1283 : decode cL_law 1283 = .ok (.iconst 3, 1) := by
  have h := two_at (all_at lg_20 2 (a := (3, 6, .ok (.iconst 3, 1))) rfl)
  exact dec_row (f := 1280) (k := 3) (ro_6 lp_20 (byte_at h.2)) h.1
theorem dL_law_1284 : decode cL_law 1284 = .ok (.iadd, 1) := by
  have h := two_at (all_at lg_20 3 (a := (4, 96, .ok (.iadd, 1))) rfl)
  exact dec_row (f := 1280) (k := 4) (ro_96 lp_20 (byte_at h.2)) h.1
theorem dL_law_1285 : decode cL_law 1285 = .ok (.iaload, 1) := by
  have h := two_at (all_at lg_20 4 (a := (5, 46, .ok (.iaload, 1))) rfl)
  exact dec_row (f := 1280) (k := 5) (ro_46 lp_20 (byte_at h.2)) h.1
theorem dL_law_1286 : decode cL_law 1286 = .ok (.invokevirtual 207, 3) := by
  have h := two_at (all_at lg_20 5 (a := (6, 182, .ok (.invokevirtual 207, 3))) rfl)
  exact dec_row (f := 1280) (k := 6) (ro_182 lp_20 (byte_at h.2)) h.1
theorem dL_law_1289 : decode cL_law 1289 = .ok (.istore 7, 2) := by
  have h := two_at (all_at lg_20 6 (a := (9, 54, .ok (.istore 7, 2))) rfl)
  exact dec_row (f := 1280) (k := 9) (ro_54 lp_20 (byte_at h.2)) h.1
theorem dL_law_1291 : decode cL_law 1291 = .ok (.goto 459, 3) := by
  have h := two_at (all_at lg_20 7 (a := (11, 167, .ok (.goto 459, 3))) rfl)
  exact dec_row (f := 1280) (k := 11) (ro_167 lp_20 (byte_at h.2)) h.1
theorem dL_law_1294 : decode cL_law 1294 = .ok (.aload_n 1, 1) := by
  have h := two_at (all_at lg_20 8 (a := (14, 43, .ok (.aload_n 1, 1))) rfl)
  exact dec_row (f := 1280) (k := 14) (ro_43 lp_20 (byte_at h.2)) h.1
theorem dL_law_1295 : decode cL_law 1295 = .ok (.aload_n 0, 1) := by
  have h := two_at (all_at lg_20 9 (a := (15, 42, .ok (.aload_n 0, 1))) rfl)
  exact dec_row (f := 1280) (k := 15) (ro_42 lp_20 (byte_at h.2)) h.1
theorem dL_law_1296 : decode cL_law 1296 = .ok (.iload 5, 2) := by
  have h := two_at (all_at lg_20 10 (a := (16, 21, .ok (.iload 5, 2))) rfl)
  exact dec_row (f := 1280) (k := 16) (ro_21 lp_20 (byte_at h.2)) h.1
theorem dL_law_1298 : decode cL_law 1298 = .ok (.iconst 1, 1) := by
  have h := two_at (all_at lg_20 11 (a := (18, 4, .ok (.iconst 1, 1))) rfl)
  exact dec_row (f := 1280) (k := 18) (ro_4 lp_20 (byte_at h.2)) h.1
theorem dL_law_1299 : decode cL_law 1299 = .ok (.iadd, 1) := by
  have h := two_at (all_at lg_20 12 (a := (19, 96, .ok (.iadd, 1))) rfl)
  exact dec_row (f := 1280) (k := 19) (ro_96 lp_20 (byte_at h.2)) h.1
theorem dL_law_1300 : decode cL_law 1300 = .ok (.iaload, 1) := by
  have h := two_at (all_at lg_20 13 (a := (20, 46, .ok (.iaload, 1))) rfl)
  exact dec_row (f := 1280) (k := 20) (ro_46 lp_20 (byte_at h.2)) h.1
theorem dL_law_1301 : decode cL_law 1301 = .ok (.aload_n 0, 1) := by
  have h := two_at (all_at lg_20 14 (a := (21, 42, .ok (.aload_n 0, 1))) rfl)
  exact dec_row (f := 1280) (k := 21) (ro_42 lp_20 (byte_at h.2)) h.1
theorem dL_law_1302 : decode cL_law 1302 = .ok (.iload 5, 2) := by
  have h := two_at (all_at lg_20 15 (a := (22, 21, .ok (.iload 5, 2))) rfl)
  exact dec_row (f := 1280) (k := 22) (ro_21 lp_20 (byte_at h.2)) h.1
theorem dL_law_1304 : decode cL_law 1304 = .ok (.iconst 2, 1) := by
  have h := two_at (all_at lg_20 16 (a := (24, 5, .ok (.iconst 2, 1))) rfl)
  exact dec_row (f := 1280) (k := 24) (ro_5 lp_20 (byte_at h.2)) h.1
theorem dL_law_1305 : decode cL_law 1305 = .ok (.iadd, 1) := by
  have h := two_at (all_at lg_20 17 (a := (25, 96, .ok (.iadd, 1))) rfl)
  exact dec_row (f := 1280) (k := 25) (ro_96 lp_20 (byte_at h.2)) h.1
theorem dL_law_1306 : decode cL_law 1306 = .ok (.iaload, 1) := by
  have h := two_at (all_at lg_20 18 (a := (26, 46, .ok (.iaload, 1))) rfl)
  exact dec_row (f := 1280) (k := 26) (ro_46 lp_20 (byte_at h.2)) h.1
theorem dL_law_1307 : decode cL_law 1307 = .ok (.aload 4, 2) := by
  have h := two_at (all_at lg_20 19 (a := (27, 25, .ok (.aload 4, 2))) rfl)
  exact dec_row (f := 1280) (k := 27) (ro_25 lp_20 (byte_at h.2)) h.1
theorem dL_law_1309 : decode cL_law 1309 = .ok (.invokestatic 208, 3) := by
  have h := two_at (all_at lg_20 20 (a := (29, 184, .ok (.invokestatic 208, 3))) rfl)
  exact dec_row (f := 1280) (k := 29) (ro_184 lp_20 (byte_at h.2)) h.1
theorem dL_law_1312 : decode cL_law 1312 = .ok (.istore 6, 2) := by
  have h := two_at (all_at lg_20 21 (a := (32, 54, .ok (.istore 6, 2))) rfl)
  exact dec_row (f := 1280) (k := 32) (ro_54 lp_20 (byte_at h.2)) h.1
theorem dL_law_1314 : decode cL_law 1314 = .ok (.aload_n 2, 1) := by
  have h := two_at (all_at lg_20 22 (a := (34, 44, .ok (.aload_n 2, 1))) rfl)
  exact dec_row (f := 1280) (k := 34) (ro_44 lp_20 (byte_at h.2)) h.1
theorem dL_law_1315 : decode cL_law 1315 = .ok (.aload_n 0, 1) := by
  have h := two_at (all_at lg_20 23 (a := (35, 42, .ok (.aload_n 0, 1))) rfl)
  exact dec_row (f := 1280) (k := 35) (ro_42 lp_20 (byte_at h.2)) h.1
theorem dL_law_1316 : decode cL_law 1316 = .ok (.iload 5, 2) := by
  have h := two_at (all_at lg_20 24 (a := (36, 21, .ok (.iload 5, 2))) rfl)
  exact dec_row (f := 1280) (k := 36) (ro_21 lp_20 (byte_at h.2)) h.1
theorem dL_law_1318 : decode cL_law 1318 = .ok (.iconst 1, 1) := by
  have h := two_at (all_at lg_20 25 (a := (38, 4, .ok (.iconst 1, 1))) rfl)
  exact dec_row (f := 1280) (k := 38) (ro_4 lp_20 (byte_at h.2)) h.1
theorem dL_law_1319 : decode cL_law 1319 = .ok (.iadd, 1) := by
  have h := two_at (all_at lg_20 26 (a := (39, 96, .ok (.iadd, 1))) rfl)
  exact dec_row (f := 1280) (k := 39) (ro_96 lp_20 (byte_at h.2)) h.1
theorem dL_law_1320 : decode cL_law 1320 = .ok (.iaload, 1) := by
  have h := two_at (all_at lg_20 27 (a := (40, 46, .ok (.iaload, 1))) rfl)
  exact dec_row (f := 1280) (k := 40) (ro_46 lp_20 (byte_at h.2)) h.1
theorem dL_law_1321 : decode cL_law 1321 = .ok (.aload_n 0, 1) := by
  have h := two_at (all_at lg_20 28 (a := (41, 42, .ok (.aload_n 0, 1))) rfl)
  exact dec_row (f := 1280) (k := 41) (ro_42 lp_20 (byte_at h.2)) h.1
theorem dL_law_1322 : decode cL_law 1322 = .ok (.iload 5, 2) := by
  have h := two_at (all_at lg_20 29 (a := (42, 21, .ok (.iload 5, 2))) rfl)
  exact dec_row (f := 1280) (k := 42) (ro_21 lp_20 (byte_at h.2)) h.1
theorem dL_law_1324 : decode cL_law 1324 = .ok (.iconst 2, 1) := by
  have h := two_at (all_at lg_20 30 (a := (44, 5, .ok (.iconst 2, 1))) rfl)
  exact dec_row (f := 1280) (k := 44) (ro_5 lp_20 (byte_at h.2)) h.1
theorem dL_law_1325 : decode cL_law 1325 = .ok (.iadd, 1) := by
  have h := two_at (all_at lg_20 31 (a := (45, 96, .ok (.iadd, 1))) rfl)
  exact dec_row (f := 1280) (k := 45) (ro_96 lp_20 (byte_at h.2)) h.1
theorem dL_law_1326 : decode cL_law 1326 = .ok (.iaload, 1) := by
  have h := two_at (all_at lg_20 32 (a := (46, 46, .ok (.iaload, 1))) rfl)
  exact dec_row (f := 1280) (k := 46) (ro_46 lp_20 (byte_at h.2)) h.1
theorem dL_law_1327 : decode cL_law 1327 = .ok (.invokevirtual 211, 3) := by
  have h := two_at (all_at lg_20 33 (a := (47, 182, .ok (.invokevirtual 211, 3))) rfl)
  exact dec_row (f := 1280) (k := 47) (ro_182 lp_20 (byte_at h.2)) h.1
theorem dL_law_1330 : decode cL_law 1330 = .ok (.dstore 7, 2) := by
  have h := two_at (all_at lg_20 34 (a := (50, 57, .ok (.dstore 7, 2))) rfl)
  exact dec_row (f := 1280) (k := 50) (ro_57 lp_20 (byte_at h.2)) h.1
theorem dL_law_1332 : decode cL_law 1332 = .ok (.goto 418, 3) := by
  have h := two_at (all_at lg_20 35 (a := (52, 167, .ok (.goto 418, 3))) rfl)
  exact dec_row (f := 1280) (k := 52) (ro_167 lp_20 (byte_at h.2)) h.1
theorem dL_law_1335 : decode cL_law 1335 = .ok (.aload_n 1, 1) := by
  have h := two_at (all_at lg_20 36 (a := (55, 43, .ok (.aload_n 1, 1))) rfl)
  exact dec_row (f := 1280) (k := 55) (ro_43 lp_20 (byte_at h.2)) h.1
theorem dL_law_1336 : decode cL_law 1336 = .ok (.aload_n 0, 1) := by
  have h := two_at (all_at lg_20 37 (a := (56, 42, .ok (.aload_n 0, 1))) rfl)
  exact dec_row (f := 1280) (k := 56) (ro_42 lp_20 (byte_at h.2)) h.1
theorem dL_law_1337 : decode cL_law 1337 = .ok (.iload 5, 2) := by
  have h := two_at (all_at lg_20 38 (a := (57, 21, .ok (.iload 5, 2))) rfl)
  exact dec_row (f := 1280) (k := 57) (ro_21 lp_20 (byte_at h.2)) h.1
theorem dL_law_1339 : decode cL_law 1339 = .ok (.iconst 1, 1) := by
  have h := two_at (all_at lg_20 39 (a := (59, 4, .ok (.iconst 1, 1))) rfl)
  exact dec_row (f := 1280) (k := 59) (ro_4 lp_20 (byte_at h.2)) h.1
theorem dL_law_1340 : decode cL_law 1340 = .ok (.iadd, 1) := by
  have h := two_at (all_at lg_20 40 (a := (60, 96, .ok (.iadd, 1))) rfl)
  exact dec_row (f := 1280) (k := 60) (ro_96 lp_20 (byte_at h.2)) h.1
theorem dL_law_1341 : decode cL_law 1341 = .ok (.iaload, 1) := by
  have h := two_at (all_at lg_20 41 (a := (61, 46, .ok (.iaload, 1))) rfl)
  exact dec_row (f := 1280) (k := 61) (ro_46 lp_20 (byte_at h.2)) h.1
theorem dL_law_1342 : decode cL_law 1342 = .ok (.aload_n 0, 1) := by
  have h := two_at (all_at lg_20 42 (a := (62, 42, .ok (.aload_n 0, 1))) rfl)
  exact dec_row (f := 1280) (k := 62) (ro_42 lp_20 (byte_at h.2)) h.1
theorem dL_law_1343 : decode cL_law 1343 = .ok (.iload 5, 2) := by
  have h := two_at (all_at lg_20 43 (a := (63, 21, .ok (.iload 5, 2))) rfl)
  exact dec_row (f := 1280) (k := 63) (ro_21 lp_20 (byte_at h.2)) h.1
def lc_21 : ByteArray := .mk #[0x05, 0x05, 0x60, 0x2e, 0x19, 0x04, 0xb8, 0x00, 0xd4, 0x36, 0x06, 0x2c, 0x2a, 0x15, 0x05, 0x04, 0x60, 0x2e, 0x2a, 0x15, 0x05, 0x05, 0x60, 0x2e, 0xb6, 0x00, 0xd6, 0x39, 0x07, 0xa7, 0x01, 0x79, 0x2b, 0x2a, 0x15, 0x05, 0x04, 0x60, 0x2e, 0x2a, 0x15, 0x05, 0x05, 0x60, 0x2e, 0x19, 0x04, 0xb8, 0x00, 0xd7, 0x36, 0x06, 0x2c, 0x2a, 0x15, 0x05, 0x04, 0x60, 0x2e, 0x2a, 0x15, 0x05, 0x05, 0x60, 0x2e, 0xb6, 0x00, 0xd9, 0x39, 0x07, 0xa7, 0x01]
theorem lp_21 : Pc lc_21 cL_law 1344 := Pc_of (n := 72) (by decide +kernel)
theorem lg_21 : ([(1, 5, .ok (.iconst 2, 1)), (2, 96, .ok (.iadd, 1)), (3, 46, .ok (.iaload, 1)), (4, 25, .ok (.aload 4, 2)), (6, 184, .ok (.invokestatic 212, 3)), (9, 54, .ok (.istore 6, 2)), (11, 44, .ok (.aload_n 2, 1)), (12, 42, .ok (.aload_n 0, 1)), (13, 21, .ok (.iload 5, 2)), (15, 4, .ok (.iconst 1, 1)), (16, 96, .ok (.iadd, 1)), (17, 46, .ok (.iaload, 1)), (18, 42, .ok (.aload_n 0, 1)), (19, 21, .ok (.iload 5, 2)), (21, 5, .ok (.iconst 2, 1)), (22, 96, .ok (.iadd, 1)), (23, 46, .ok (.iaload, 1)), (24, 182, .ok (.invokevirtual 214, 3)), (27, 57, .ok (.dstore 7, 2)), (29, 167, .ok (.goto 377, 3)), (32, 43, .ok (.aload_n 1, 1)), (33, 42, .ok (.aload_n 0, 1)), (34, 21, .ok (.iload 5, 2)), (36, 4, .ok (.iconst 1, 1)), (37, 96, .ok (.iadd, 1)), (38, 46, .ok (.iaload, 1)), (39, 42, .ok (.aload_n 0, 1)), (40, 21, .ok (.iload 5, 2)), (42, 5, .ok (.iconst 2, 1)), (43, 96, .ok (.iadd, 1)), (44, 46, .ok (.iaload, 1)), (45, 25, .ok (.aload 4, 2)), (47, 184, .ok (.invokestatic 215, 3)), (50, 54, .ok (.istore 6, 2)), (52, 44, .ok (.aload_n 2, 1)), (53, 42, .ok (.aload_n 0, 1)), (54, 21, .ok (.iload 5, 2)), (56, 4, .ok (.iconst 1, 1)), (57, 96, .ok (.iadd, 1)), (58, 46, .ok (.iaload, 1)), (59, 42, .ok (.aload_n 0, 1)), (60, 21, .ok (.iload 5, 2)), (62, 5, .ok (.iconst 2, 1)), (63, 96, .ok (.iadd, 1))] : List (Nat × UInt8 × Except DecodeError (Instr × Nat))).all (fun q => decide (decode lc_21 q.1 = q.2.2) && decide (lc_21.data.toList[q.1]? = some q.2.1)) = true := by decide +kernel
theorem dL_law_1345 : decode cL_law 1345 = .ok (.iconst 2, 1) := by
  have h := two_at (all_at lg_21 0 (a := (1, 5, .ok (.iconst 2, 1))) rfl)
  exact dec_row (f := 1344) (k := 1) (ro_5 lp_21 (byte_at h.2)) h.1
theorem dL_law_1346 : decode cL_law 1346 = .ok (.iadd, 1) := by
  have h := two_at (all_at lg_21 1 (a := (2, 96, .ok (.iadd, 1))) rfl)
  exact dec_row (f := 1344) (k := 2) (ro_96 lp_21 (byte_at h.2)) h.1
theorem dL_law_1347 : decode cL_law 1347 = .ok (.iaload, 1) := by
  have h := two_at (all_at lg_21 2 (a := (3, 46, .ok (.iaload, 1))) rfl)
  exact dec_row (f := 1344) (k := 3) (ro_46 lp_21 (byte_at h.2)) h.1
theorem dL_law_1348 : decode cL_law 1348 = .ok (.aload 4, 2) := by
  have h := two_at (all_at lg_21 3 (a := (4, 25, .ok (.aload 4, 2))) rfl)
  exact dec_row (f := 1344) (k := 4) (ro_25 lp_21 (byte_at h.2)) h.1
theorem dL_law_1350 : decode cL_law 1350 = .ok (.invokestatic 212, 3) := by
  have h := two_at (all_at lg_21 4 (a := (6, 184, .ok (.invokestatic 212, 3))) rfl)
  exact dec_row (f := 1344) (k := 6) (ro_184 lp_21 (byte_at h.2)) h.1
theorem dL_law_1353 : decode cL_law 1353 = .ok (.istore 6, 2) := by
  have h := two_at (all_at lg_21 5 (a := (9, 54, .ok (.istore 6, 2))) rfl)
  exact dec_row (f := 1344) (k := 9) (ro_54 lp_21 (byte_at h.2)) h.1
theorem dL_law_1355 : decode cL_law 1355 = .ok (.aload_n 2, 1) := by
  have h := two_at (all_at lg_21 6 (a := (11, 44, .ok (.aload_n 2, 1))) rfl)
  exact dec_row (f := 1344) (k := 11) (ro_44 lp_21 (byte_at h.2)) h.1
theorem dL_law_1356 : decode cL_law 1356 = .ok (.aload_n 0, 1) := by
  have h := two_at (all_at lg_21 7 (a := (12, 42, .ok (.aload_n 0, 1))) rfl)
  exact dec_row (f := 1344) (k := 12) (ro_42 lp_21 (byte_at h.2)) h.1
theorem dL_law_1357 : decode cL_law 1357 = .ok (.iload 5, 2) := by
  have h := two_at (all_at lg_21 8 (a := (13, 21, .ok (.iload 5, 2))) rfl)
  exact dec_row (f := 1344) (k := 13) (ro_21 lp_21 (byte_at h.2)) h.1
theorem dL_law_1359 : decode cL_law 1359 = .ok (.iconst 1, 1) := by
  have h := two_at (all_at lg_21 9 (a := (15, 4, .ok (.iconst 1, 1))) rfl)
  exact dec_row (f := 1344) (k := 15) (ro_4 lp_21 (byte_at h.2)) h.1
theorem dL_law_1360 : decode cL_law 1360 = .ok (.iadd, 1) := by
  have h := two_at (all_at lg_21 10 (a := (16, 96, .ok (.iadd, 1))) rfl)
  exact dec_row (f := 1344) (k := 16) (ro_96 lp_21 (byte_at h.2)) h.1
theorem dL_law_1361 : decode cL_law 1361 = .ok (.iaload, 1) := by
  have h := two_at (all_at lg_21 11 (a := (17, 46, .ok (.iaload, 1))) rfl)
  exact dec_row (f := 1344) (k := 17) (ro_46 lp_21 (byte_at h.2)) h.1
theorem dL_law_1362 : decode cL_law 1362 = .ok (.aload_n 0, 1) := by
  have h := two_at (all_at lg_21 12 (a := (18, 42, .ok (.aload_n 0, 1))) rfl)
  exact dec_row (f := 1344) (k := 18) (ro_42 lp_21 (byte_at h.2)) h.1
theorem dL_law_1363 : decode cL_law 1363 = .ok (.iload 5, 2) := by
  have h := two_at (all_at lg_21 13 (a := (19, 21, .ok (.iload 5, 2))) rfl)
  exact dec_row (f := 1344) (k := 19) (ro_21 lp_21 (byte_at h.2)) h.1
theorem dL_law_1365 : decode cL_law 1365 = .ok (.iconst 2, 1) := by
  have h := two_at (all_at lg_21 14 (a := (21, 5, .ok (.iconst 2, 1))) rfl)
  exact dec_row (f := 1344) (k := 21) (ro_5 lp_21 (byte_at h.2)) h.1
theorem dL_law_1366 : decode cL_law 1366 = .ok (.iadd, 1) := by
  have h := two_at (all_at lg_21 15 (a := (22, 96, .ok (.iadd, 1))) rfl)
  exact dec_row (f := 1344) (k := 22) (ro_96 lp_21 (byte_at h.2)) h.1
theorem dL_law_1367 : decode cL_law 1367 = .ok (.iaload, 1) := by
  have h := two_at (all_at lg_21 16 (a := (23, 46, .ok (.iaload, 1))) rfl)
  exact dec_row (f := 1344) (k := 23) (ro_46 lp_21 (byte_at h.2)) h.1
theorem dL_law_1368 : decode cL_law 1368 = .ok (.invokevirtual 214, 3) := by
  have h := two_at (all_at lg_21 17 (a := (24, 182, .ok (.invokevirtual 214, 3))) rfl)
  exact dec_row (f := 1344) (k := 24) (ro_182 lp_21 (byte_at h.2)) h.1
theorem dL_law_1371 : decode cL_law 1371 = .ok (.dstore 7, 2) := by
  have h := two_at (all_at lg_21 18 (a := (27, 57, .ok (.dstore 7, 2))) rfl)
  exact dec_row (f := 1344) (k := 27) (ro_57 lp_21 (byte_at h.2)) h.1
theorem dL_law_1373 : decode cL_law 1373 = .ok (.goto 377, 3) := by
  have h := two_at (all_at lg_21 19 (a := (29, 167, .ok (.goto 377, 3))) rfl)
  exact dec_row (f := 1344) (k := 29) (ro_167 lp_21 (byte_at h.2)) h.1
theorem dL_law_1376 : decode cL_law 1376 = .ok (.aload_n 1, 1) := by
  have h := two_at (all_at lg_21 20 (a := (32, 43, .ok (.aload_n 1, 1))) rfl)
  exact dec_row (f := 1344) (k := 32) (ro_43 lp_21 (byte_at h.2)) h.1
theorem dL_law_1377 : decode cL_law 1377 = .ok (.aload_n 0, 1) := by
  have h := two_at (all_at lg_21 21 (a := (33, 42, .ok (.aload_n 0, 1))) rfl)
  exact dec_row (f := 1344) (k := 33) (ro_42 lp_21 (byte_at h.2)) h.1
theorem dL_law_1378 : decode cL_law 1378 = .ok (.iload 5, 2) := by
  have h := two_at (all_at lg_21 22 (a := (34, 21, .ok (.iload 5, 2))) rfl)
  exact dec_row (f := 1344) (k := 34) (ro_21 lp_21 (byte_at h.2)) h.1
theorem dL_law_1380 : decode cL_law 1380 = .ok (.iconst 1, 1) := by
  have h := two_at (all_at lg_21 23 (a := (36, 4, .ok (.iconst 1, 1))) rfl)
  exact dec_row (f := 1344) (k := 36) (ro_4 lp_21 (byte_at h.2)) h.1
theorem dL_law_1381 : decode cL_law 1381 = .ok (.iadd, 1) := by
  have h := two_at (all_at lg_21 24 (a := (37, 96, .ok (.iadd, 1))) rfl)
  exact dec_row (f := 1344) (k := 37) (ro_96 lp_21 (byte_at h.2)) h.1
theorem dL_law_1382 : decode cL_law 1382 = .ok (.iaload, 1) := by
  have h := two_at (all_at lg_21 25 (a := (38, 46, .ok (.iaload, 1))) rfl)
  exact dec_row (f := 1344) (k := 38) (ro_46 lp_21 (byte_at h.2)) h.1
theorem dL_law_1383 : decode cL_law 1383 = .ok (.aload_n 0, 1) := by
  have h := two_at (all_at lg_21 26 (a := (39, 42, .ok (.aload_n 0, 1))) rfl)
  exact dec_row (f := 1344) (k := 39) (ro_42 lp_21 (byte_at h.2)) h.1
theorem dL_law_1384 : decode cL_law 1384 = .ok (.iload 5, 2) := by
  have h := two_at (all_at lg_21 27 (a := (40, 21, .ok (.iload 5, 2))) rfl)
  exact dec_row (f := 1344) (k := 40) (ro_21 lp_21 (byte_at h.2)) h.1
theorem dL_law_1386 : decode cL_law 1386 = .ok (.iconst 2, 1) := by
  have h := two_at (all_at lg_21 28 (a := (42, 5, .ok (.iconst 2, 1))) rfl)
  exact dec_row (f := 1344) (k := 42) (ro_5 lp_21 (byte_at h.2)) h.1
theorem dL_law_1387 : decode cL_law 1387 = .ok (.iadd, 1) := by
  have h := two_at (all_at lg_21 29 (a := (43, 96, .ok (.iadd, 1))) rfl)
  exact dec_row (f := 1344) (k := 43) (ro_96 lp_21 (byte_at h.2)) h.1
theorem dL_law_1388 : decode cL_law 1388 = .ok (.iaload, 1) := by
  have h := two_at (all_at lg_21 30 (a := (44, 46, .ok (.iaload, 1))) rfl)
  exact dec_row (f := 1344) (k := 44) (ro_46 lp_21 (byte_at h.2)) h.1
theorem dL_law_1389 : decode cL_law 1389 = .ok (.aload 4, 2) := by
  have h := two_at (all_at lg_21 31 (a := (45, 25, .ok (.aload 4, 2))) rfl)
  exact dec_row (f := 1344) (k := 45) (ro_25 lp_21 (byte_at h.2)) h.1
theorem dL_law_1391 : decode cL_law 1391 = .ok (.invokestatic 215, 3) := by
  have h := two_at (all_at lg_21 32 (a := (47, 184, .ok (.invokestatic 215, 3))) rfl)
  exact dec_row (f := 1344) (k := 47) (ro_184 lp_21 (byte_at h.2)) h.1
theorem dL_law_1394 : decode cL_law 1394 = .ok (.istore 6, 2) := by
  have h := two_at (all_at lg_21 33 (a := (50, 54, .ok (.istore 6, 2))) rfl)
  exact dec_row (f := 1344) (k := 50) (ro_54 lp_21 (byte_at h.2)) h.1
theorem dL_law_1396 : decode cL_law 1396 = .ok (.aload_n 2, 1) := by
  have h := two_at (all_at lg_21 34 (a := (52, 44, .ok (.aload_n 2, 1))) rfl)
  exact dec_row (f := 1344) (k := 52) (ro_44 lp_21 (byte_at h.2)) h.1
theorem dL_law_1397 : decode cL_law 1397 = .ok (.aload_n 0, 1) := by
  have h := two_at (all_at lg_21 35 (a := (53, 42, .ok (.aload_n 0, 1))) rfl)
  exact dec_row (f := 1344) (k := 53) (ro_42 lp_21 (byte_at h.2)) h.1
theorem dL_law_1398 : decode cL_law 1398 = .ok (.iload 5, 2) := by
  have h := two_at (all_at lg_21 36 (a := (54, 21, .ok (.iload 5, 2))) rfl)
  exact dec_row (f := 1344) (k := 54) (ro_21 lp_21 (byte_at h.2)) h.1
theorem dL_law_1400 : decode cL_law 1400 = .ok (.iconst 1, 1) := by
  have h := two_at (all_at lg_21 37 (a := (56, 4, .ok (.iconst 1, 1))) rfl)
  exact dec_row (f := 1344) (k := 56) (ro_4 lp_21 (byte_at h.2)) h.1
theorem dL_law_1401 : decode cL_law 1401 = .ok (.iadd, 1) := by
  have h := two_at (all_at lg_21 38 (a := (57, 96, .ok (.iadd, 1))) rfl)
  exact dec_row (f := 1344) (k := 57) (ro_96 lp_21 (byte_at h.2)) h.1
theorem dL_law_1402 : decode cL_law 1402 = .ok (.iaload, 1) := by
  have h := two_at (all_at lg_21 39 (a := (58, 46, .ok (.iaload, 1))) rfl)
  exact dec_row (f := 1344) (k := 58) (ro_46 lp_21 (byte_at h.2)) h.1
theorem dL_law_1403 : decode cL_law 1403 = .ok (.aload_n 0, 1) := by
  have h := two_at (all_at lg_21 40 (a := (59, 42, .ok (.aload_n 0, 1))) rfl)
  exact dec_row (f := 1344) (k := 59) (ro_42 lp_21 (byte_at h.2)) h.1
theorem dL_law_1404 : decode cL_law 1404 = .ok (.iload 5, 2) := by
  have h := two_at (all_at lg_21 41 (a := (60, 21, .ok (.iload 5, 2))) rfl)
  exact dec_row (f := 1344) (k := 60) (ro_21 lp_21 (byte_at h.2)) h.1
theorem dL_law_1406 : decode cL_law 1406 = .ok (.iconst 2, 1) := by
  have h := two_at (all_at lg_21 42 (a := (62, 5, .ok (.iconst 2, 1))) rfl)
  exact dec_row (f := 1344) (k := 62) (ro_5 lp_21 (byte_at h.2)) h.1
theorem dL_law_1407 : decode cL_law 1407 = .ok (.iadd, 1) := by
  have h := two_at (all_at lg_21 43 (a := (63, 96, .ok (.iadd, 1))) rfl)
  exact dec_row (f := 1344) (k := 63) (ro_96 lp_21 (byte_at h.2)) h.1
def lc_22 : ByteArray := .mk #[0x2e, 0xb6, 0x00, 0xd9, 0x39, 0x07, 0xa7, 0x01, 0x50, 0x2b, 0x2a, 0x15, 0x05, 0x04, 0x60, 0x2e, 0x2d, 0xb8, 0x00, 0xda, 0x36, 0x06, 0x2c, 0x2a, 0x15, 0x05, 0x04, 0x60, 0x2e, 0xb6, 0x00, 0xdc, 0x36, 0x07, 0xa7, 0x01, 0x34, 0x2b, 0x2a, 0x15, 0x05, 0x04, 0x60, 0x2e, 0x2d, 0xb8, 0x00, 0xdd, 0x36, 0x06, 0x2c, 0x2a, 0x15, 0x05, 0x04, 0x60, 0x2e, 0xb6, 0x00, 0xdf, 0x36, 0x07, 0xa7, 0x01, 0x18, 0x2b, 0x2a, 0x15, 0x05, 0x04, 0x60, 0x2e]
theorem lp_22 : Pc lc_22 cL_law 1408 := Pc_of (n := 72) (by decide +kernel)
theorem lg_22 : ([(0, 46, .ok (.iaload, 1)), (1, 182, .ok (.invokevirtual 217, 3)), (4, 57, .ok (.dstore 7, 2)), (6, 167, .ok (.goto 336, 3)), (9, 43, .ok (.aload_n 1, 1)), (10, 42, .ok (.aload_n 0, 1)), (11, 21, .ok (.iload 5, 2)), (13, 4, .ok (.iconst 1, 1)), (14, 96, .ok (.iadd, 1)), (15, 46, .ok (.iaload, 1)), (16, 45, .ok (.aload_n 3, 1)), (17, 184, .ok (.invokestatic 218, 3)), (20, 54, .ok (.istore 6, 2)), (22, 44, .ok (.aload_n 2, 1)), (23, 42, .ok (.aload_n 0, 1)), (24, 21, .ok (.iload 5, 2)), (26, 4, .ok (.iconst 1, 1)), (27, 96, .ok (.iadd, 1)), (28, 46, .ok (.iaload, 1)), (29, 182, .ok (.invokevirtual 220, 3)), (32, 54, .ok (.istore 7, 2)), (34, 167, .ok (.goto 308, 3)), (37, 43, .ok (.aload_n 1, 1)), (38, 42, .ok (.aload_n 0, 1)), (39, 21, .ok (.iload 5, 2)), (41, 4, .ok (.iconst 1, 1)), (42, 96, .ok (.iadd, 1)), (43, 46, .ok (.iaload, 1)), (44, 45, .ok (.aload_n 3, 1)), (45, 184, .ok (.invokestatic 221, 3)), (48, 54, .ok (.istore 6, 2)), (50, 44, .ok (.aload_n 2, 1)), (51, 42, .ok (.aload_n 0, 1)), (52, 21, .ok (.iload 5, 2)), (54, 4, .ok (.iconst 1, 1)), (55, 96, .ok (.iadd, 1)), (56, 46, .ok (.iaload, 1)), (57, 182, .ok (.invokevirtual 223, 3)), (60, 54, .ok (.istore 7, 2)), (62, 167, .ok (.goto 280, 3))] : List (Nat × UInt8 × Except DecodeError (Instr × Nat))).all (fun q => decide (decode lc_22 q.1 = q.2.2) && decide (lc_22.data.toList[q.1]? = some q.2.1)) = true := by decide +kernel
theorem dL_law_1408 : decode cL_law 1408 = .ok (.iaload, 1) := by
  have h := two_at (all_at lg_22 0 (a := (0, 46, .ok (.iaload, 1))) rfl)
  exact dec_row (f := 1408) (k := 0) (ro_46 lp_22 (byte_at h.2)) h.1
theorem dL_law_1409 : decode cL_law 1409 = .ok (.invokevirtual 217, 3) := by
  have h := two_at (all_at lg_22 1 (a := (1, 182, .ok (.invokevirtual 217, 3))) rfl)
  exact dec_row (f := 1408) (k := 1) (ro_182 lp_22 (byte_at h.2)) h.1
theorem dL_law_1412 : decode cL_law 1412 = .ok (.dstore 7, 2) := by
  have h := two_at (all_at lg_22 2 (a := (4, 57, .ok (.dstore 7, 2))) rfl)
  exact dec_row (f := 1408) (k := 4) (ro_57 lp_22 (byte_at h.2)) h.1
theorem dL_law_1414 : decode cL_law 1414 = .ok (.goto 336, 3) := by
  have h := two_at (all_at lg_22 3 (a := (6, 167, .ok (.goto 336, 3))) rfl)
  exact dec_row (f := 1408) (k := 6) (ro_167 lp_22 (byte_at h.2)) h.1
theorem dL_law_1417 : decode cL_law 1417 = .ok (.aload_n 1, 1) := by
  have h := two_at (all_at lg_22 4 (a := (9, 43, .ok (.aload_n 1, 1))) rfl)
  exact dec_row (f := 1408) (k := 9) (ro_43 lp_22 (byte_at h.2)) h.1
theorem dL_law_1418 : decode cL_law 1418 = .ok (.aload_n 0, 1) := by
  have h := two_at (all_at lg_22 5 (a := (10, 42, .ok (.aload_n 0, 1))) rfl)
  exact dec_row (f := 1408) (k := 10) (ro_42 lp_22 (byte_at h.2)) h.1
theorem dL_law_1419 : decode cL_law 1419 = .ok (.iload 5, 2) := by
  have h := two_at (all_at lg_22 6 (a := (11, 21, .ok (.iload 5, 2))) rfl)
  exact dec_row (f := 1408) (k := 11) (ro_21 lp_22 (byte_at h.2)) h.1
theorem dL_law_1421 : decode cL_law 1421 = .ok (.iconst 1, 1) := by
  have h := two_at (all_at lg_22 7 (a := (13, 4, .ok (.iconst 1, 1))) rfl)
  exact dec_row (f := 1408) (k := 13) (ro_4 lp_22 (byte_at h.2)) h.1
theorem dL_law_1422 : decode cL_law 1422 = .ok (.iadd, 1) := by
  have h := two_at (all_at lg_22 8 (a := (14, 96, .ok (.iadd, 1))) rfl)
  exact dec_row (f := 1408) (k := 14) (ro_96 lp_22 (byte_at h.2)) h.1
theorem dL_law_1423 : decode cL_law 1423 = .ok (.iaload, 1) := by
  have h := two_at (all_at lg_22 9 (a := (15, 46, .ok (.iaload, 1))) rfl)
  exact dec_row (f := 1408) (k := 15) (ro_46 lp_22 (byte_at h.2)) h.1
theorem dL_law_1424 : decode cL_law 1424 = .ok (.aload_n 3, 1) := by
  have h := two_at (all_at lg_22 10 (a := (16, 45, .ok (.aload_n 3, 1))) rfl)
  exact dec_row (f := 1408) (k := 16) (ro_45 lp_22 (byte_at h.2)) h.1
theorem dL_law_1425 : decode cL_law 1425 = .ok (.invokestatic 218, 3) := by
  have h := two_at (all_at lg_22 11 (a := (17, 184, .ok (.invokestatic 218, 3))) rfl)
  exact dec_row (f := 1408) (k := 17) (ro_184 lp_22 (byte_at h.2)) h.1
theorem dL_law_1428 : decode cL_law 1428 = .ok (.istore 6, 2) := by
  have h := two_at (all_at lg_22 12 (a := (20, 54, .ok (.istore 6, 2))) rfl)
  exact dec_row (f := 1408) (k := 20) (ro_54 lp_22 (byte_at h.2)) h.1
theorem dL_law_1430 : decode cL_law 1430 = .ok (.aload_n 2, 1) := by
  have h := two_at (all_at lg_22 13 (a := (22, 44, .ok (.aload_n 2, 1))) rfl)
  exact dec_row (f := 1408) (k := 22) (ro_44 lp_22 (byte_at h.2)) h.1
theorem dL_law_1431 : decode cL_law 1431 = .ok (.aload_n 0, 1) := by
  have h := two_at (all_at lg_22 14 (a := (23, 42, .ok (.aload_n 0, 1))) rfl)
  exact dec_row (f := 1408) (k := 23) (ro_42 lp_22 (byte_at h.2)) h.1
theorem dL_law_1432 : decode cL_law 1432 = .ok (.iload 5, 2) := by
  have h := two_at (all_at lg_22 15 (a := (24, 21, .ok (.iload 5, 2))) rfl)
  exact dec_row (f := 1408) (k := 24) (ro_21 lp_22 (byte_at h.2)) h.1
theorem dL_law_1434 : decode cL_law 1434 = .ok (.iconst 1, 1) := by
  have h := two_at (all_at lg_22 16 (a := (26, 4, .ok (.iconst 1, 1))) rfl)
  exact dec_row (f := 1408) (k := 26) (ro_4 lp_22 (byte_at h.2)) h.1
theorem dL_law_1435 : decode cL_law 1435 = .ok (.iadd, 1) := by
  have h := two_at (all_at lg_22 17 (a := (27, 96, .ok (.iadd, 1))) rfl)
  exact dec_row (f := 1408) (k := 27) (ro_96 lp_22 (byte_at h.2)) h.1
theorem dL_law_1436 : decode cL_law 1436 = .ok (.iaload, 1) := by
  have h := two_at (all_at lg_22 18 (a := (28, 46, .ok (.iaload, 1))) rfl)
  exact dec_row (f := 1408) (k := 28) (ro_46 lp_22 (byte_at h.2)) h.1
theorem dL_law_1437 : decode cL_law 1437 = .ok (.invokevirtual 220, 3) := by
  have h := two_at (all_at lg_22 19 (a := (29, 182, .ok (.invokevirtual 220, 3))) rfl)
  exact dec_row (f := 1408) (k := 29) (ro_182 lp_22 (byte_at h.2)) h.1
theorem dL_law_1440 : decode cL_law 1440 = .ok (.istore 7, 2) := by
  have h := two_at (all_at lg_22 20 (a := (32, 54, .ok (.istore 7, 2))) rfl)
  exact dec_row (f := 1408) (k := 32) (ro_54 lp_22 (byte_at h.2)) h.1
theorem dL_law_1442 : decode cL_law 1442 = .ok (.goto 308, 3) := by
  have h := two_at (all_at lg_22 21 (a := (34, 167, .ok (.goto 308, 3))) rfl)
  exact dec_row (f := 1408) (k := 34) (ro_167 lp_22 (byte_at h.2)) h.1
theorem dL_law_1445 : decode cL_law 1445 = .ok (.aload_n 1, 1) := by
  have h := two_at (all_at lg_22 22 (a := (37, 43, .ok (.aload_n 1, 1))) rfl)
  exact dec_row (f := 1408) (k := 37) (ro_43 lp_22 (byte_at h.2)) h.1
theorem dL_law_1446 : decode cL_law 1446 = .ok (.aload_n 0, 1) := by
  have h := two_at (all_at lg_22 23 (a := (38, 42, .ok (.aload_n 0, 1))) rfl)
  exact dec_row (f := 1408) (k := 38) (ro_42 lp_22 (byte_at h.2)) h.1
theorem dL_law_1447 : decode cL_law 1447 = .ok (.iload 5, 2) := by
  have h := two_at (all_at lg_22 24 (a := (39, 21, .ok (.iload 5, 2))) rfl)
  exact dec_row (f := 1408) (k := 39) (ro_21 lp_22 (byte_at h.2)) h.1
theorem dL_law_1449 : decode cL_law 1449 = .ok (.iconst 1, 1) := by
  have h := two_at (all_at lg_22 25 (a := (41, 4, .ok (.iconst 1, 1))) rfl)
  exact dec_row (f := 1408) (k := 41) (ro_4 lp_22 (byte_at h.2)) h.1
theorem dL_law_1450 : decode cL_law 1450 = .ok (.iadd, 1) := by
  have h := two_at (all_at lg_22 26 (a := (42, 96, .ok (.iadd, 1))) rfl)
  exact dec_row (f := 1408) (k := 42) (ro_96 lp_22 (byte_at h.2)) h.1
theorem dL_law_1451 : decode cL_law 1451 = .ok (.iaload, 1) := by
  have h := two_at (all_at lg_22 27 (a := (43, 46, .ok (.iaload, 1))) rfl)
  exact dec_row (f := 1408) (k := 43) (ro_46 lp_22 (byte_at h.2)) h.1
theorem dL_law_1452 : decode cL_law 1452 = .ok (.aload_n 3, 1) := by
  have h := two_at (all_at lg_22 28 (a := (44, 45, .ok (.aload_n 3, 1))) rfl)
  exact dec_row (f := 1408) (k := 44) (ro_45 lp_22 (byte_at h.2)) h.1
theorem dL_law_1453 : decode cL_law 1453 = .ok (.invokestatic 221, 3) := by
  have h := two_at (all_at lg_22 29 (a := (45, 184, .ok (.invokestatic 221, 3))) rfl)
  exact dec_row (f := 1408) (k := 45) (ro_184 lp_22 (byte_at h.2)) h.1
theorem dL_law_1456 : decode cL_law 1456 = .ok (.istore 6, 2) := by
  have h := two_at (all_at lg_22 30 (a := (48, 54, .ok (.istore 6, 2))) rfl)
  exact dec_row (f := 1408) (k := 48) (ro_54 lp_22 (byte_at h.2)) h.1
theorem dL_law_1458 : decode cL_law 1458 = .ok (.aload_n 2, 1) := by
  have h := two_at (all_at lg_22 31 (a := (50, 44, .ok (.aload_n 2, 1))) rfl)
  exact dec_row (f := 1408) (k := 50) (ro_44 lp_22 (byte_at h.2)) h.1
theorem dL_law_1459 : decode cL_law 1459 = .ok (.aload_n 0, 1) := by
  have h := two_at (all_at lg_22 32 (a := (51, 42, .ok (.aload_n 0, 1))) rfl)
  exact dec_row (f := 1408) (k := 51) (ro_42 lp_22 (byte_at h.2)) h.1
theorem dL_law_1460 : decode cL_law 1460 = .ok (.iload 5, 2) := by
  have h := two_at (all_at lg_22 33 (a := (52, 21, .ok (.iload 5, 2))) rfl)
  exact dec_row (f := 1408) (k := 52) (ro_21 lp_22 (byte_at h.2)) h.1
theorem dL_law_1462 : decode cL_law 1462 = .ok (.iconst 1, 1) := by
  have h := two_at (all_at lg_22 34 (a := (54, 4, .ok (.iconst 1, 1))) rfl)
  exact dec_row (f := 1408) (k := 54) (ro_4 lp_22 (byte_at h.2)) h.1
theorem dL_law_1463 : decode cL_law 1463 = .ok (.iadd, 1) := by
  have h := two_at (all_at lg_22 35 (a := (55, 96, .ok (.iadd, 1))) rfl)
  exact dec_row (f := 1408) (k := 55) (ro_96 lp_22 (byte_at h.2)) h.1
theorem dL_law_1464 : decode cL_law 1464 = .ok (.iaload, 1) := by
  have h := two_at (all_at lg_22 36 (a := (56, 46, .ok (.iaload, 1))) rfl)
  exact dec_row (f := 1408) (k := 56) (ro_46 lp_22 (byte_at h.2)) h.1
theorem dL_law_1465 : decode cL_law 1465 = .ok (.invokevirtual 223, 3) := by
  have h := two_at (all_at lg_22 37 (a := (57, 182, .ok (.invokevirtual 223, 3))) rfl)
  exact dec_row (f := 1408) (k := 57) (ro_182 lp_22 (byte_at h.2)) h.1
theorem dL_law_1468 : decode cL_law 1468 = .ok (.istore 7, 2) := by
  have h := two_at (all_at lg_22 38 (a := (60, 54, .ok (.istore 7, 2))) rfl)
  exact dec_row (f := 1408) (k := 60) (ro_54 lp_22 (byte_at h.2)) h.1
theorem dL_law_1470 : decode cL_law 1470 = .ok (.goto 280, 3) := by
  have h := two_at (all_at lg_22 39 (a := (62, 167, .ok (.goto 280, 3))) rfl)
  exact dec_row (f := 1408) (k := 62) (ro_167 lp_22 (byte_at h.2)) h.1
def lc_23 : ByteArray := .mk #[0x18, 0x2b, 0x2a, 0x15, 0x05, 0x04, 0x60, 0x2e, 0x2d, 0xb8, 0x00, 0xe0, 0x36, 0x06, 0x2c, 0x2a, 0x15, 0x05, 0x04, 0x60, 0x2e, 0xb6, 0x00, 0xe2, 0x36, 0x07, 0xa7, 0x00, 0xfc, 0x2b, 0x2a, 0x15, 0x05, 0x04, 0x60, 0x2e, 0x2a, 0x15, 0x05, 0x05, 0x60, 0x2e, 0x2a, 0x15, 0x05, 0x06, 0x60, 0x2e, 0x2d, 0xb8, 0x00, 0xe3, 0x36, 0x06, 0x2c, 0x2a, 0x15, 0x05, 0x04, 0x60, 0x2e, 0x2a, 0x15, 0x05, 0x05, 0x60, 0x2e, 0x2a, 0x15, 0x05, 0x06, 0x60]
theorem lp_23 : Pc lc_23 cL_law 1472 := Pc_of (n := 72) (by decide +kernel)
theorem lg_23 : ([(1, 43, .ok (.aload_n 1, 1)), (2, 42, .ok (.aload_n 0, 1)), (3, 21, .ok (.iload 5, 2)), (5, 4, .ok (.iconst 1, 1)), (6, 96, .ok (.iadd, 1)), (7, 46, .ok (.iaload, 1)), (8, 45, .ok (.aload_n 3, 1)), (9, 184, .ok (.invokestatic 224, 3)), (12, 54, .ok (.istore 6, 2)), (14, 44, .ok (.aload_n 2, 1)), (15, 42, .ok (.aload_n 0, 1)), (16, 21, .ok (.iload 5, 2)), (18, 4, .ok (.iconst 1, 1)), (19, 96, .ok (.iadd, 1)), (20, 46, .ok (.iaload, 1)), (21, 182, .ok (.invokevirtual 226, 3)), (24, 54, .ok (.istore 7, 2)), (26, 167, .ok (.goto 252, 3)), (29, 43, .ok (.aload_n 1, 1)), (30, 42, .ok (.aload_n 0, 1)), (31, 21, .ok (.iload 5, 2)), (33, 4, .ok (.iconst 1, 1)), (34, 96, .ok (.iadd, 1)), (35, 46, .ok (.iaload, 1)), (36, 42, .ok (.aload_n 0, 1)), (37, 21, .ok (.iload 5, 2)), (39, 5, .ok (.iconst 2, 1)), (40, 96, .ok (.iadd, 1)), (41, 46, .ok (.iaload, 1)), (42, 42, .ok (.aload_n 0, 1)), (43, 21, .ok (.iload 5, 2)), (45, 6, .ok (.iconst 3, 1)), (46, 96, .ok (.iadd, 1)), (47, 46, .ok (.iaload, 1)), (48, 45, .ok (.aload_n 3, 1)), (49, 184, .ok (.invokestatic 227, 3)), (52, 54, .ok (.istore 6, 2)), (54, 44, .ok (.aload_n 2, 1)), (55, 42, .ok (.aload_n 0, 1)), (56, 21, .ok (.iload 5, 2)), (58, 4, .ok (.iconst 1, 1)), (59, 96, .ok (.iadd, 1)), (60, 46, .ok (.iaload, 1)), (61, 42, .ok (.aload_n 0, 1)), (62, 21, .ok (.iload 5, 2))] : List (Nat × UInt8 × Except DecodeError (Instr × Nat))).all (fun q => decide (decode lc_23 q.1 = q.2.2) && decide (lc_23.data.toList[q.1]? = some q.2.1)) = true := by decide +kernel
theorem dL_law_1473 : decode cL_law 1473 = .ok (.aload_n 1, 1) := by
  have h := two_at (all_at lg_23 0 (a := (1, 43, .ok (.aload_n 1, 1))) rfl)
  exact dec_row (f := 1472) (k := 1) (ro_43 lp_23 (byte_at h.2)) h.1
theorem dL_law_1474 : decode cL_law 1474 = .ok (.aload_n 0, 1) := by
  have h := two_at (all_at lg_23 1 (a := (2, 42, .ok (.aload_n 0, 1))) rfl)
  exact dec_row (f := 1472) (k := 2) (ro_42 lp_23 (byte_at h.2)) h.1
theorem dL_law_1475 : decode cL_law 1475 = .ok (.iload 5, 2) := by
  have h := two_at (all_at lg_23 2 (a := (3, 21, .ok (.iload 5, 2))) rfl)
  exact dec_row (f := 1472) (k := 3) (ro_21 lp_23 (byte_at h.2)) h.1
theorem dL_law_1477 : decode cL_law 1477 = .ok (.iconst 1, 1) := by
  have h := two_at (all_at lg_23 3 (a := (5, 4, .ok (.iconst 1, 1))) rfl)
  exact dec_row (f := 1472) (k := 5) (ro_4 lp_23 (byte_at h.2)) h.1
theorem dL_law_1478 : decode cL_law 1478 = .ok (.iadd, 1) := by
  have h := two_at (all_at lg_23 4 (a := (6, 96, .ok (.iadd, 1))) rfl)
  exact dec_row (f := 1472) (k := 6) (ro_96 lp_23 (byte_at h.2)) h.1
theorem dL_law_1479 : decode cL_law 1479 = .ok (.iaload, 1) := by
  have h := two_at (all_at lg_23 5 (a := (7, 46, .ok (.iaload, 1))) rfl)
  exact dec_row (f := 1472) (k := 7) (ro_46 lp_23 (byte_at h.2)) h.1
theorem dL_law_1480 : decode cL_law 1480 = .ok (.aload_n 3, 1) := by
  have h := two_at (all_at lg_23 6 (a := (8, 45, .ok (.aload_n 3, 1))) rfl)
  exact dec_row (f := 1472) (k := 8) (ro_45 lp_23 (byte_at h.2)) h.1
theorem dL_law_1481 : decode cL_law 1481 = .ok (.invokestatic 224, 3) := by
  have h := two_at (all_at lg_23 7 (a := (9, 184, .ok (.invokestatic 224, 3))) rfl)
  exact dec_row (f := 1472) (k := 9) (ro_184 lp_23 (byte_at h.2)) h.1
theorem dL_law_1484 : decode cL_law 1484 = .ok (.istore 6, 2) := by
  have h := two_at (all_at lg_23 8 (a := (12, 54, .ok (.istore 6, 2))) rfl)
  exact dec_row (f := 1472) (k := 12) (ro_54 lp_23 (byte_at h.2)) h.1
theorem dL_law_1486 : decode cL_law 1486 = .ok (.aload_n 2, 1) := by
  have h := two_at (all_at lg_23 9 (a := (14, 44, .ok (.aload_n 2, 1))) rfl)
  exact dec_row (f := 1472) (k := 14) (ro_44 lp_23 (byte_at h.2)) h.1
theorem dL_law_1487 : decode cL_law 1487 = .ok (.aload_n 0, 1) := by
  have h := two_at (all_at lg_23 10 (a := (15, 42, .ok (.aload_n 0, 1))) rfl)
  exact dec_row (f := 1472) (k := 15) (ro_42 lp_23 (byte_at h.2)) h.1
theorem dL_law_1488 : decode cL_law 1488 = .ok (.iload 5, 2) := by
  have h := two_at (all_at lg_23 11 (a := (16, 21, .ok (.iload 5, 2))) rfl)
  exact dec_row (f := 1472) (k := 16) (ro_21 lp_23 (byte_at h.2)) h.1
theorem dL_law_1490 : decode cL_law 1490 = .ok (.iconst 1, 1) := by
  have h := two_at (all_at lg_23 12 (a := (18, 4, .ok (.iconst 1, 1))) rfl)
  exact dec_row (f := 1472) (k := 18) (ro_4 lp_23 (byte_at h.2)) h.1
theorem dL_law_1491 : decode cL_law 1491 = .ok (.iadd, 1) := by
  have h := two_at (all_at lg_23 13 (a := (19, 96, .ok (.iadd, 1))) rfl)
  exact dec_row (f := 1472) (k := 19) (ro_96 lp_23 (byte_at h.2)) h.1
theorem dL_law_1492 : decode cL_law 1492 = .ok (.iaload, 1) := by
  have h := two_at (all_at lg_23 14 (a := (20, 46, .ok (.iaload, 1))) rfl)
  exact dec_row (f := 1472) (k := 20) (ro_46 lp_23 (byte_at h.2)) h.1
theorem dL_law_1493 : decode cL_law 1493 = .ok (.invokevirtual 226, 3) := by
  have h := two_at (all_at lg_23 15 (a := (21, 182, .ok (.invokevirtual 226, 3))) rfl)
  exact dec_row (f := 1472) (k := 21) (ro_182 lp_23 (byte_at h.2)) h.1
theorem dL_law_1496 : decode cL_law 1496 = .ok (.istore 7, 2) := by
  have h := two_at (all_at lg_23 16 (a := (24, 54, .ok (.istore 7, 2))) rfl)
  exact dec_row (f := 1472) (k := 24) (ro_54 lp_23 (byte_at h.2)) h.1
theorem dL_law_1498 : decode cL_law 1498 = .ok (.goto 252, 3) := by
  have h := two_at (all_at lg_23 17 (a := (26, 167, .ok (.goto 252, 3))) rfl)
  exact dec_row (f := 1472) (k := 26) (ro_167 lp_23 (byte_at h.2)) h.1
theorem dL_law_1501 : decode cL_law 1501 = .ok (.aload_n 1, 1) := by
  have h := two_at (all_at lg_23 18 (a := (29, 43, .ok (.aload_n 1, 1))) rfl)
  exact dec_row (f := 1472) (k := 29) (ro_43 lp_23 (byte_at h.2)) h.1
theorem dL_law_1502 : decode cL_law 1502 = .ok (.aload_n 0, 1) := by
  have h := two_at (all_at lg_23 19 (a := (30, 42, .ok (.aload_n 0, 1))) rfl)
  exact dec_row (f := 1472) (k := 30) (ro_42 lp_23 (byte_at h.2)) h.1
theorem dL_law_1503 : decode cL_law 1503 = .ok (.iload 5, 2) := by
  have h := two_at (all_at lg_23 20 (a := (31, 21, .ok (.iload 5, 2))) rfl)
  exact dec_row (f := 1472) (k := 31) (ro_21 lp_23 (byte_at h.2)) h.1
theorem dL_law_1505 : decode cL_law 1505 = .ok (.iconst 1, 1) := by
  have h := two_at (all_at lg_23 21 (a := (33, 4, .ok (.iconst 1, 1))) rfl)
  exact dec_row (f := 1472) (k := 33) (ro_4 lp_23 (byte_at h.2)) h.1
theorem dL_law_1506 : decode cL_law 1506 = .ok (.iadd, 1) := by
  have h := two_at (all_at lg_23 22 (a := (34, 96, .ok (.iadd, 1))) rfl)
  exact dec_row (f := 1472) (k := 34) (ro_96 lp_23 (byte_at h.2)) h.1
theorem dL_law_1507 : decode cL_law 1507 = .ok (.iaload, 1) := by
  have h := two_at (all_at lg_23 23 (a := (35, 46, .ok (.iaload, 1))) rfl)
  exact dec_row (f := 1472) (k := 35) (ro_46 lp_23 (byte_at h.2)) h.1
theorem dL_law_1508 : decode cL_law 1508 = .ok (.aload_n 0, 1) := by
  have h := two_at (all_at lg_23 24 (a := (36, 42, .ok (.aload_n 0, 1))) rfl)
  exact dec_row (f := 1472) (k := 36) (ro_42 lp_23 (byte_at h.2)) h.1
theorem dL_law_1509 : decode cL_law 1509 = .ok (.iload 5, 2) := by
  have h := two_at (all_at lg_23 25 (a := (37, 21, .ok (.iload 5, 2))) rfl)
  exact dec_row (f := 1472) (k := 37) (ro_21 lp_23 (byte_at h.2)) h.1
theorem dL_law_1511 : decode cL_law 1511 = .ok (.iconst 2, 1) := by
  have h := two_at (all_at lg_23 26 (a := (39, 5, .ok (.iconst 2, 1))) rfl)
  exact dec_row (f := 1472) (k := 39) (ro_5 lp_23 (byte_at h.2)) h.1
theorem dL_law_1512 : decode cL_law 1512 = .ok (.iadd, 1) := by
  have h := two_at (all_at lg_23 27 (a := (40, 96, .ok (.iadd, 1))) rfl)
  exact dec_row (f := 1472) (k := 40) (ro_96 lp_23 (byte_at h.2)) h.1
theorem dL_law_1513 : decode cL_law 1513 = .ok (.iaload, 1) := by
  have h := two_at (all_at lg_23 28 (a := (41, 46, .ok (.iaload, 1))) rfl)
  exact dec_row (f := 1472) (k := 41) (ro_46 lp_23 (byte_at h.2)) h.1
theorem dL_law_1514 : decode cL_law 1514 = .ok (.aload_n 0, 1) := by
  have h := two_at (all_at lg_23 29 (a := (42, 42, .ok (.aload_n 0, 1))) rfl)
  exact dec_row (f := 1472) (k := 42) (ro_42 lp_23 (byte_at h.2)) h.1
theorem dL_law_1515 : decode cL_law 1515 = .ok (.iload 5, 2) := by
  have h := two_at (all_at lg_23 30 (a := (43, 21, .ok (.iload 5, 2))) rfl)
  exact dec_row (f := 1472) (k := 43) (ro_21 lp_23 (byte_at h.2)) h.1
theorem dL_law_1517 : decode cL_law 1517 = .ok (.iconst 3, 1) := by
  have h := two_at (all_at lg_23 31 (a := (45, 6, .ok (.iconst 3, 1))) rfl)
  exact dec_row (f := 1472) (k := 45) (ro_6 lp_23 (byte_at h.2)) h.1
theorem dL_law_1518 : decode cL_law 1518 = .ok (.iadd, 1) := by
  have h := two_at (all_at lg_23 32 (a := (46, 96, .ok (.iadd, 1))) rfl)
  exact dec_row (f := 1472) (k := 46) (ro_96 lp_23 (byte_at h.2)) h.1
theorem dL_law_1519 : decode cL_law 1519 = .ok (.iaload, 1) := by
  have h := two_at (all_at lg_23 33 (a := (47, 46, .ok (.iaload, 1))) rfl)
  exact dec_row (f := 1472) (k := 47) (ro_46 lp_23 (byte_at h.2)) h.1
theorem dL_law_1520 : decode cL_law 1520 = .ok (.aload_n 3, 1) := by
  have h := two_at (all_at lg_23 34 (a := (48, 45, .ok (.aload_n 3, 1))) rfl)
  exact dec_row (f := 1472) (k := 48) (ro_45 lp_23 (byte_at h.2)) h.1
theorem dL_law_1521 : decode cL_law 1521 = .ok (.invokestatic 227, 3) := by
  have h := two_at (all_at lg_23 35 (a := (49, 184, .ok (.invokestatic 227, 3))) rfl)
  exact dec_row (f := 1472) (k := 49) (ro_184 lp_23 (byte_at h.2)) h.1
theorem dL_law_1524 : decode cL_law 1524 = .ok (.istore 6, 2) := by
  have h := two_at (all_at lg_23 36 (a := (52, 54, .ok (.istore 6, 2))) rfl)
  exact dec_row (f := 1472) (k := 52) (ro_54 lp_23 (byte_at h.2)) h.1
theorem dL_law_1526 : decode cL_law 1526 = .ok (.aload_n 2, 1) := by
  have h := two_at (all_at lg_23 37 (a := (54, 44, .ok (.aload_n 2, 1))) rfl)
  exact dec_row (f := 1472) (k := 54) (ro_44 lp_23 (byte_at h.2)) h.1
theorem dL_law_1527 : decode cL_law 1527 = .ok (.aload_n 0, 1) := by
  have h := two_at (all_at lg_23 38 (a := (55, 42, .ok (.aload_n 0, 1))) rfl)
  exact dec_row (f := 1472) (k := 55) (ro_42 lp_23 (byte_at h.2)) h.1
theorem dL_law_1528 : decode cL_law 1528 = .ok (.iload 5, 2) := by
  have h := two_at (all_at lg_23 39 (a := (56, 21, .ok (.iload 5, 2))) rfl)
  exact dec_row (f := 1472) (k := 56) (ro_21 lp_23 (byte_at h.2)) h.1
theorem dL_law_1530 : decode cL_law 1530 = .ok (.iconst 1, 1) := by
  have h := two_at (all_at lg_23 40 (a := (58, 4, .ok (.iconst 1, 1))) rfl)
  exact dec_row (f := 1472) (k := 58) (ro_4 lp_23 (byte_at h.2)) h.1
theorem dL_law_1531 : decode cL_law 1531 = .ok (.iadd, 1) := by
  have h := two_at (all_at lg_23 41 (a := (59, 96, .ok (.iadd, 1))) rfl)
  exact dec_row (f := 1472) (k := 59) (ro_96 lp_23 (byte_at h.2)) h.1
theorem dL_law_1532 : decode cL_law 1532 = .ok (.iaload, 1) := by
  have h := two_at (all_at lg_23 42 (a := (60, 46, .ok (.iaload, 1))) rfl)
  exact dec_row (f := 1472) (k := 60) (ro_46 lp_23 (byte_at h.2)) h.1
theorem dL_law_1533 : decode cL_law 1533 = .ok (.aload_n 0, 1) := by
  have h := two_at (all_at lg_23 43 (a := (61, 42, .ok (.aload_n 0, 1))) rfl)
  exact dec_row (f := 1472) (k := 61) (ro_42 lp_23 (byte_at h.2)) h.1
theorem dL_law_1534 : decode cL_law 1534 = .ok (.iload 5, 2) := by
  have h := two_at (all_at lg_23 44 (a := (62, 21, .ok (.iload 5, 2))) rfl)
  exact dec_row (f := 1472) (k := 62) (ro_21 lp_23 (byte_at h.2)) h.1
def lc_24 : ByteArray := .mk #[0x05, 0x60, 0x2e, 0x2a, 0x15, 0x05, 0x06, 0x60, 0x2e, 0xb6, 0x00, 0xe5, 0x36, 0x07, 0xa7, 0x00, 0xc8, 0x2b, 0x2a, 0x15, 0x05, 0x04, 0x60, 0x2e, 0x2a, 0x15, 0x05, 0x05, 0x60, 0x2e, 0x2a, 0x15, 0x05, 0x06, 0x60, 0x2e, 0x2d, 0xb8, 0x00, 0xe6, 0x36, 0x06, 0x2c, 0x2a, 0x15, 0x05, 0x04, 0x60, 0x2e, 0x2a, 0x15, 0x05, 0x05, 0x60, 0x2e, 0x2a, 0x15, 0x05, 0x06, 0x60, 0x2e, 0xb6, 0x00, 0xe8, 0x36, 0x07, 0xa7, 0x00, 0x94, 0x2b, 0x2a, 0x15]
theorem lp_24 : Pc lc_24 cL_law 1536 := Pc_of (n := 72) (by decide +kernel)
theorem lg_24 : ([(0, 5, .ok (.iconst 2, 1)), (1, 96, .ok (.iadd, 1)), (2, 46, .ok (.iaload, 1)), (3, 42, .ok (.aload_n 0, 1)), (4, 21, .ok (.iload 5, 2)), (6, 6, .ok (.iconst 3, 1)), (7, 96, .ok (.iadd, 1)), (8, 46, .ok (.iaload, 1)), (9, 182, .ok (.invokevirtual 229, 3)), (12, 54, .ok (.istore 7, 2)), (14, 167, .ok (.goto 200, 3)), (17, 43, .ok (.aload_n 1, 1)), (18, 42, .ok (.aload_n 0, 1)), (19, 21, .ok (.iload 5, 2)), (21, 4, .ok (.iconst 1, 1)), (22, 96, .ok (.iadd, 1)), (23, 46, .ok (.iaload, 1)), (24, 42, .ok (.aload_n 0, 1)), (25, 21, .ok (.iload 5, 2)), (27, 5, .ok (.iconst 2, 1)), (28, 96, .ok (.iadd, 1)), (29, 46, .ok (.iaload, 1)), (30, 42, .ok (.aload_n 0, 1)), (31, 21, .ok (.iload 5, 2)), (33, 6, .ok (.iconst 3, 1)), (34, 96, .ok (.iadd, 1)), (35, 46, .ok (.iaload, 1)), (36, 45, .ok (.aload_n 3, 1)), (37, 184, .ok (.invokestatic 230, 3)), (40, 54, .ok (.istore 6, 2)), (42, 44, .ok (.aload_n 2, 1)), (43, 42, .ok (.aload_n 0, 1)), (44, 21, .ok (.iload 5, 2)), (46, 4, .ok (.iconst 1, 1)), (47, 96, .ok (.iadd, 1)), (48, 46, .ok (.iaload, 1)), (49, 42, .ok (.aload_n 0, 1)), (50, 21, .ok (.iload 5, 2)), (52, 5, .ok (.iconst 2, 1)), (53, 96, .ok (.iadd, 1)), (54, 46, .ok (.iaload, 1)), (55, 42, .ok (.aload_n 0, 1)), (56, 21, .ok (.iload 5, 2)), (58, 6, .ok (.iconst 3, 1)), (59, 96, .ok (.iadd, 1)), (60, 46, .ok (.iaload, 1)), (61, 182, .ok (.invokevirtual 232, 3))] : List (Nat × UInt8 × Except DecodeError (Instr × Nat))).all (fun q => decide (decode lc_24 q.1 = q.2.2) && decide (lc_24.data.toList[q.1]? = some q.2.1)) = true := by decide +kernel
theorem dL_law_1536 : decode cL_law 1536 = .ok (.iconst 2, 1) := by
  have h := two_at (all_at lg_24 0 (a := (0, 5, .ok (.iconst 2, 1))) rfl)
  exact dec_row (f := 1536) (k := 0) (ro_5 lp_24 (byte_at h.2)) h.1
theorem dL_law_1537 : decode cL_law 1537 = .ok (.iadd, 1) := by
  have h := two_at (all_at lg_24 1 (a := (1, 96, .ok (.iadd, 1))) rfl)
  exact dec_row (f := 1536) (k := 1) (ro_96 lp_24 (byte_at h.2)) h.1
theorem dL_law_1538 : decode cL_law 1538 = .ok (.iaload, 1) := by
  have h := two_at (all_at lg_24 2 (a := (2, 46, .ok (.iaload, 1))) rfl)
  exact dec_row (f := 1536) (k := 2) (ro_46 lp_24 (byte_at h.2)) h.1
theorem dL_law_1539 : decode cL_law 1539 = .ok (.aload_n 0, 1) := by
  have h := two_at (all_at lg_24 3 (a := (3, 42, .ok (.aload_n 0, 1))) rfl)
  exact dec_row (f := 1536) (k := 3) (ro_42 lp_24 (byte_at h.2)) h.1
theorem dL_law_1540 : decode cL_law 1540 = .ok (.iload 5, 2) := by
  have h := two_at (all_at lg_24 4 (a := (4, 21, .ok (.iload 5, 2))) rfl)
  exact dec_row (f := 1536) (k := 4) (ro_21 lp_24 (byte_at h.2)) h.1
theorem dL_law_1542 : decode cL_law 1542 = .ok (.iconst 3, 1) := by
  have h := two_at (all_at lg_24 5 (a := (6, 6, .ok (.iconst 3, 1))) rfl)
  exact dec_row (f := 1536) (k := 6) (ro_6 lp_24 (byte_at h.2)) h.1
theorem dL_law_1543 : decode cL_law 1543 = .ok (.iadd, 1) := by
  have h := two_at (all_at lg_24 6 (a := (7, 96, .ok (.iadd, 1))) rfl)
  exact dec_row (f := 1536) (k := 7) (ro_96 lp_24 (byte_at h.2)) h.1
theorem dL_law_1544 : decode cL_law 1544 = .ok (.iaload, 1) := by
  have h := two_at (all_at lg_24 7 (a := (8, 46, .ok (.iaload, 1))) rfl)
  exact dec_row (f := 1536) (k := 8) (ro_46 lp_24 (byte_at h.2)) h.1
theorem dL_law_1545 : decode cL_law 1545 = .ok (.invokevirtual 229, 3) := by
  have h := two_at (all_at lg_24 8 (a := (9, 182, .ok (.invokevirtual 229, 3))) rfl)
  exact dec_row (f := 1536) (k := 9) (ro_182 lp_24 (byte_at h.2)) h.1
theorem dL_law_1548 : decode cL_law 1548 = .ok (.istore 7, 2) := by
  have h := two_at (all_at lg_24 9 (a := (12, 54, .ok (.istore 7, 2))) rfl)
  exact dec_row (f := 1536) (k := 12) (ro_54 lp_24 (byte_at h.2)) h.1
theorem dL_law_1550 : decode cL_law 1550 = .ok (.goto 200, 3) := by
  have h := two_at (all_at lg_24 10 (a := (14, 167, .ok (.goto 200, 3))) rfl)
  exact dec_row (f := 1536) (k := 14) (ro_167 lp_24 (byte_at h.2)) h.1
theorem dL_law_1553 : decode cL_law 1553 = .ok (.aload_n 1, 1) := by
  have h := two_at (all_at lg_24 11 (a := (17, 43, .ok (.aload_n 1, 1))) rfl)
  exact dec_row (f := 1536) (k := 17) (ro_43 lp_24 (byte_at h.2)) h.1
theorem dL_law_1554 : decode cL_law 1554 = .ok (.aload_n 0, 1) := by
  have h := two_at (all_at lg_24 12 (a := (18, 42, .ok (.aload_n 0, 1))) rfl)
  exact dec_row (f := 1536) (k := 18) (ro_42 lp_24 (byte_at h.2)) h.1
theorem dL_law_1555 : decode cL_law 1555 = .ok (.iload 5, 2) := by
  have h := two_at (all_at lg_24 13 (a := (19, 21, .ok (.iload 5, 2))) rfl)
  exact dec_row (f := 1536) (k := 19) (ro_21 lp_24 (byte_at h.2)) h.1
theorem dL_law_1557 : decode cL_law 1557 = .ok (.iconst 1, 1) := by
  have h := two_at (all_at lg_24 14 (a := (21, 4, .ok (.iconst 1, 1))) rfl)
  exact dec_row (f := 1536) (k := 21) (ro_4 lp_24 (byte_at h.2)) h.1
theorem dL_law_1558 : decode cL_law 1558 = .ok (.iadd, 1) := by
  have h := two_at (all_at lg_24 15 (a := (22, 96, .ok (.iadd, 1))) rfl)
  exact dec_row (f := 1536) (k := 22) (ro_96 lp_24 (byte_at h.2)) h.1
theorem dL_law_1559 : decode cL_law 1559 = .ok (.iaload, 1) := by
  have h := two_at (all_at lg_24 16 (a := (23, 46, .ok (.iaload, 1))) rfl)
  exact dec_row (f := 1536) (k := 23) (ro_46 lp_24 (byte_at h.2)) h.1
theorem dL_law_1560 : decode cL_law 1560 = .ok (.aload_n 0, 1) := by
  have h := two_at (all_at lg_24 17 (a := (24, 42, .ok (.aload_n 0, 1))) rfl)
  exact dec_row (f := 1536) (k := 24) (ro_42 lp_24 (byte_at h.2)) h.1
theorem dL_law_1561 : decode cL_law 1561 = .ok (.iload 5, 2) := by
  have h := two_at (all_at lg_24 18 (a := (25, 21, .ok (.iload 5, 2))) rfl)
  exact dec_row (f := 1536) (k := 25) (ro_21 lp_24 (byte_at h.2)) h.1
theorem dL_law_1563 : decode cL_law 1563 = .ok (.iconst 2, 1) := by
  have h := two_at (all_at lg_24 19 (a := (27, 5, .ok (.iconst 2, 1))) rfl)
  exact dec_row (f := 1536) (k := 27) (ro_5 lp_24 (byte_at h.2)) h.1
theorem dL_law_1564 : decode cL_law 1564 = .ok (.iadd, 1) := by
  have h := two_at (all_at lg_24 20 (a := (28, 96, .ok (.iadd, 1))) rfl)
  exact dec_row (f := 1536) (k := 28) (ro_96 lp_24 (byte_at h.2)) h.1
theorem dL_law_1565 : decode cL_law 1565 = .ok (.iaload, 1) := by
  have h := two_at (all_at lg_24 21 (a := (29, 46, .ok (.iaload, 1))) rfl)
  exact dec_row (f := 1536) (k := 29) (ro_46 lp_24 (byte_at h.2)) h.1
theorem dL_law_1566 : decode cL_law 1566 = .ok (.aload_n 0, 1) := by
  have h := two_at (all_at lg_24 22 (a := (30, 42, .ok (.aload_n 0, 1))) rfl)
  exact dec_row (f := 1536) (k := 30) (ro_42 lp_24 (byte_at h.2)) h.1
theorem dL_law_1567 : decode cL_law 1567 = .ok (.iload 5, 2) := by
  have h := two_at (all_at lg_24 23 (a := (31, 21, .ok (.iload 5, 2))) rfl)
  exact dec_row (f := 1536) (k := 31) (ro_21 lp_24 (byte_at h.2)) h.1
theorem dL_law_1569 : decode cL_law 1569 = .ok (.iconst 3, 1) := by
  have h := two_at (all_at lg_24 24 (a := (33, 6, .ok (.iconst 3, 1))) rfl)
  exact dec_row (f := 1536) (k := 33) (ro_6 lp_24 (byte_at h.2)) h.1
theorem dL_law_1570 : decode cL_law 1570 = .ok (.iadd, 1) := by
  have h := two_at (all_at lg_24 25 (a := (34, 96, .ok (.iadd, 1))) rfl)
  exact dec_row (f := 1536) (k := 34) (ro_96 lp_24 (byte_at h.2)) h.1
theorem dL_law_1571 : decode cL_law 1571 = .ok (.iaload, 1) := by
  have h := two_at (all_at lg_24 26 (a := (35, 46, .ok (.iaload, 1))) rfl)
  exact dec_row (f := 1536) (k := 35) (ro_46 lp_24 (byte_at h.2)) h.1
theorem dL_law_1572 : decode cL_law 1572 = .ok (.aload_n 3, 1) := by
  have h := two_at (all_at lg_24 27 (a := (36, 45, .ok (.aload_n 3, 1))) rfl)
  exact dec_row (f := 1536) (k := 36) (ro_45 lp_24 (byte_at h.2)) h.1
theorem dL_law_1573 : decode cL_law 1573 = .ok (.invokestatic 230, 3) := by
  have h := two_at (all_at lg_24 28 (a := (37, 184, .ok (.invokestatic 230, 3))) rfl)
  exact dec_row (f := 1536) (k := 37) (ro_184 lp_24 (byte_at h.2)) h.1
theorem dL_law_1576 : decode cL_law 1576 = .ok (.istore 6, 2) := by
  have h := two_at (all_at lg_24 29 (a := (40, 54, .ok (.istore 6, 2))) rfl)
  exact dec_row (f := 1536) (k := 40) (ro_54 lp_24 (byte_at h.2)) h.1
theorem dL_law_1578 : decode cL_law 1578 = .ok (.aload_n 2, 1) := by
  have h := two_at (all_at lg_24 30 (a := (42, 44, .ok (.aload_n 2, 1))) rfl)
  exact dec_row (f := 1536) (k := 42) (ro_44 lp_24 (byte_at h.2)) h.1
theorem dL_law_1579 : decode cL_law 1579 = .ok (.aload_n 0, 1) := by
  have h := two_at (all_at lg_24 31 (a := (43, 42, .ok (.aload_n 0, 1))) rfl)
  exact dec_row (f := 1536) (k := 43) (ro_42 lp_24 (byte_at h.2)) h.1
theorem dL_law_1580 : decode cL_law 1580 = .ok (.iload 5, 2) := by
  have h := two_at (all_at lg_24 32 (a := (44, 21, .ok (.iload 5, 2))) rfl)
  exact dec_row (f := 1536) (k := 44) (ro_21 lp_24 (byte_at h.2)) h.1
theorem dL_law_1582 : decode cL_law 1582 = .ok (.iconst 1, 1) := by
  have h := two_at (all_at lg_24 33 (a := (46, 4, .ok (.iconst 1, 1))) rfl)
  exact dec_row (f := 1536) (k := 46) (ro_4 lp_24 (byte_at h.2)) h.1
theorem dL_law_1583 : decode cL_law 1583 = .ok (.iadd, 1) := by
  have h := two_at (all_at lg_24 34 (a := (47, 96, .ok (.iadd, 1))) rfl)
  exact dec_row (f := 1536) (k := 47) (ro_96 lp_24 (byte_at h.2)) h.1
theorem dL_law_1584 : decode cL_law 1584 = .ok (.iaload, 1) := by
  have h := two_at (all_at lg_24 35 (a := (48, 46, .ok (.iaload, 1))) rfl)
  exact dec_row (f := 1536) (k := 48) (ro_46 lp_24 (byte_at h.2)) h.1
theorem dL_law_1585 : decode cL_law 1585 = .ok (.aload_n 0, 1) := by
  have h := two_at (all_at lg_24 36 (a := (49, 42, .ok (.aload_n 0, 1))) rfl)
  exact dec_row (f := 1536) (k := 49) (ro_42 lp_24 (byte_at h.2)) h.1
theorem dL_law_1586 : decode cL_law 1586 = .ok (.iload 5, 2) := by
  have h := two_at (all_at lg_24 37 (a := (50, 21, .ok (.iload 5, 2))) rfl)
  exact dec_row (f := 1536) (k := 50) (ro_21 lp_24 (byte_at h.2)) h.1
theorem dL_law_1588 : decode cL_law 1588 = .ok (.iconst 2, 1) := by
  have h := two_at (all_at lg_24 38 (a := (52, 5, .ok (.iconst 2, 1))) rfl)
  exact dec_row (f := 1536) (k := 52) (ro_5 lp_24 (byte_at h.2)) h.1
theorem dL_law_1589 : decode cL_law 1589 = .ok (.iadd, 1) := by
  have h := two_at (all_at lg_24 39 (a := (53, 96, .ok (.iadd, 1))) rfl)
  exact dec_row (f := 1536) (k := 53) (ro_96 lp_24 (byte_at h.2)) h.1
theorem dL_law_1590 : decode cL_law 1590 = .ok (.iaload, 1) := by
  have h := two_at (all_at lg_24 40 (a := (54, 46, .ok (.iaload, 1))) rfl)
  exact dec_row (f := 1536) (k := 54) (ro_46 lp_24 (byte_at h.2)) h.1
theorem dL_law_1591 : decode cL_law 1591 = .ok (.aload_n 0, 1) := by
  have h := two_at (all_at lg_24 41 (a := (55, 42, .ok (.aload_n 0, 1))) rfl)
  exact dec_row (f := 1536) (k := 55) (ro_42 lp_24 (byte_at h.2)) h.1
theorem dL_law_1592 : decode cL_law 1592 = .ok (.iload 5, 2) := by
  have h := two_at (all_at lg_24 42 (a := (56, 21, .ok (.iload 5, 2))) rfl)
  exact dec_row (f := 1536) (k := 56) (ro_21 lp_24 (byte_at h.2)) h.1
theorem dL_law_1594 : decode cL_law 1594 = .ok (.iconst 3, 1) := by
  have h := two_at (all_at lg_24 43 (a := (58, 6, .ok (.iconst 3, 1))) rfl)
  exact dec_row (f := 1536) (k := 58) (ro_6 lp_24 (byte_at h.2)) h.1
theorem dL_law_1595 : decode cL_law 1595 = .ok (.iadd, 1) := by
  have h := two_at (all_at lg_24 44 (a := (59, 96, .ok (.iadd, 1))) rfl)
  exact dec_row (f := 1536) (k := 59) (ro_96 lp_24 (byte_at h.2)) h.1
theorem dL_law_1596 : decode cL_law 1596 = .ok (.iaload, 1) := by
  have h := two_at (all_at lg_24 45 (a := (60, 46, .ok (.iaload, 1))) rfl)
  exact dec_row (f := 1536) (k := 60) (ro_46 lp_24 (byte_at h.2)) h.1
theorem dL_law_1597 : decode cL_law 1597 = .ok (.invokevirtual 232, 3) := by
  have h := two_at (all_at lg_24 46 (a := (61, 182, .ok (.invokevirtual 232, 3))) rfl)
  exact dec_row (f := 1536) (k := 61) (ro_182 lp_24 (byte_at h.2)) h.1
def lc_25 : ByteArray := .mk #[0x36, 0x07, 0xa7, 0x00, 0x94, 0x2b, 0x2a, 0x15, 0x05, 0x04, 0x60, 0x2e, 0x2a, 0x15, 0x05, 0x05, 0x60, 0x2e, 0x2a, 0x15, 0x05, 0x06, 0x60, 0x2e, 0x2d, 0xb8, 0x00, 0xe9, 0x36, 0x06, 0x2c, 0x2a, 0x15, 0x05, 0x04, 0x60, 0x2e, 0x2a, 0x15, 0x05, 0x05, 0x60, 0x2e, 0x2a, 0x15, 0x05, 0x06, 0x60, 0x2e, 0xb6, 0x00, 0xeb, 0x36, 0x07, 0xa7, 0x00, 0x60, 0x2b, 0x2a, 0x15, 0x05, 0x04, 0x60, 0x2e, 0x2a, 0x15, 0x05, 0x05, 0x60, 0x2e, 0x2d, 0xb8]
theorem lp_25 : Pc lc_25 cL_law 1600 := Pc_of (n := 72) (by decide +kernel)
theorem lg_25 : ([(0, 54, .ok (.istore 7, 2)), (2, 167, .ok (.goto 148, 3)), (5, 43, .ok (.aload_n 1, 1)), (6, 42, .ok (.aload_n 0, 1)), (7, 21, .ok (.iload 5, 2)), (9, 4, .ok (.iconst 1, 1)), (10, 96, .ok (.iadd, 1)), (11, 46, .ok (.iaload, 1)), (12, 42, .ok (.aload_n 0, 1)), (13, 21, .ok (.iload 5, 2)), (15, 5, .ok (.iconst 2, 1)), (16, 96, .ok (.iadd, 1)), (17, 46, .ok (.iaload, 1)), (18, 42, .ok (.aload_n 0, 1)), (19, 21, .ok (.iload 5, 2)), (21, 6, .ok (.iconst 3, 1)), (22, 96, .ok (.iadd, 1)), (23, 46, .ok (.iaload, 1)), (24, 45, .ok (.aload_n 3, 1)), (25, 184, .ok (.invokestatic 233, 3)), (28, 54, .ok (.istore 6, 2)), (30, 44, .ok (.aload_n 2, 1)), (31, 42, .ok (.aload_n 0, 1)), (32, 21, .ok (.iload 5, 2)), (34, 4, .ok (.iconst 1, 1)), (35, 96, .ok (.iadd, 1)), (36, 46, .ok (.iaload, 1)), (37, 42, .ok (.aload_n 0, 1)), (38, 21, .ok (.iload 5, 2)), (40, 5, .ok (.iconst 2, 1)), (41, 96, .ok (.iadd, 1)), (42, 46, .ok (.iaload, 1)), (43, 42, .ok (.aload_n 0, 1)), (44, 21, .ok (.iload 5, 2)), (46, 6, .ok (.iconst 3, 1)), (47, 96, .ok (.iadd, 1)), (48, 46, .ok (.iaload, 1)), (49, 182, .ok (.invokevirtual 235, 3)), (52, 54, .ok (.istore 7, 2)), (54, 167, .ok (.goto 96, 3)), (57, 43, .ok (.aload_n 1, 1)), (58, 42, .ok (.aload_n 0, 1)), (59, 21, .ok (.iload 5, 2)), (61, 4, .ok (.iconst 1, 1)), (62, 96, .ok (.iadd, 1)), (63, 46, .ok (.iaload, 1))] : List (Nat × UInt8 × Except DecodeError (Instr × Nat))).all (fun q => decide (decode lc_25 q.1 = q.2.2) && decide (lc_25.data.toList[q.1]? = some q.2.1)) = true := by decide +kernel
theorem dL_law_1600 : decode cL_law 1600 = .ok (.istore 7, 2) := by
  have h := two_at (all_at lg_25 0 (a := (0, 54, .ok (.istore 7, 2))) rfl)
  exact dec_row (f := 1600) (k := 0) (ro_54 lp_25 (byte_at h.2)) h.1
theorem dL_law_1602 : decode cL_law 1602 = .ok (.goto 148, 3) := by
  have h := two_at (all_at lg_25 1 (a := (2, 167, .ok (.goto 148, 3))) rfl)
  exact dec_row (f := 1600) (k := 2) (ro_167 lp_25 (byte_at h.2)) h.1
theorem dL_law_1605 : decode cL_law 1605 = .ok (.aload_n 1, 1) := by
  have h := two_at (all_at lg_25 2 (a := (5, 43, .ok (.aload_n 1, 1))) rfl)
  exact dec_row (f := 1600) (k := 5) (ro_43 lp_25 (byte_at h.2)) h.1
theorem dL_law_1606 : decode cL_law 1606 = .ok (.aload_n 0, 1) := by
  have h := two_at (all_at lg_25 3 (a := (6, 42, .ok (.aload_n 0, 1))) rfl)
  exact dec_row (f := 1600) (k := 6) (ro_42 lp_25 (byte_at h.2)) h.1
theorem dL_law_1607 : decode cL_law 1607 = .ok (.iload 5, 2) := by
  have h := two_at (all_at lg_25 4 (a := (7, 21, .ok (.iload 5, 2))) rfl)
  exact dec_row (f := 1600) (k := 7) (ro_21 lp_25 (byte_at h.2)) h.1
theorem dL_law_1609 : decode cL_law 1609 = .ok (.iconst 1, 1) := by
  have h := two_at (all_at lg_25 5 (a := (9, 4, .ok (.iconst 1, 1))) rfl)
  exact dec_row (f := 1600) (k := 9) (ro_4 lp_25 (byte_at h.2)) h.1
theorem dL_law_1610 : decode cL_law 1610 = .ok (.iadd, 1) := by
  have h := two_at (all_at lg_25 6 (a := (10, 96, .ok (.iadd, 1))) rfl)
  exact dec_row (f := 1600) (k := 10) (ro_96 lp_25 (byte_at h.2)) h.1
theorem dL_law_1611 : decode cL_law 1611 = .ok (.iaload, 1) := by
  have h := two_at (all_at lg_25 7 (a := (11, 46, .ok (.iaload, 1))) rfl)
  exact dec_row (f := 1600) (k := 11) (ro_46 lp_25 (byte_at h.2)) h.1
theorem dL_law_1612 : decode cL_law 1612 = .ok (.aload_n 0, 1) := by
  have h := two_at (all_at lg_25 8 (a := (12, 42, .ok (.aload_n 0, 1))) rfl)
  exact dec_row (f := 1600) (k := 12) (ro_42 lp_25 (byte_at h.2)) h.1
theorem dL_law_1613 : decode cL_law 1613 = .ok (.iload 5, 2) := by
  have h := two_at (all_at lg_25 9 (a := (13, 21, .ok (.iload 5, 2))) rfl)
  exact dec_row (f := 1600) (k := 13) (ro_21 lp_25 (byte_at h.2)) h.1
theorem dL_law_1615 : decode cL_law 1615 = .ok (.iconst 2, 1) := by
  have h := two_at (all_at lg_25 10 (a := (15, 5, .ok (.iconst 2, 1))) rfl)
  exact dec_row (f := 1600) (k := 15) (ro_5 lp_25 (byte_at h.2)) h.1
theorem dL_law_1616 : decode cL_law 1616 = .ok (.iadd, 1) := by
  have h := two_at (all_at lg_25 11 (a := (16, 96, .ok (.iadd, 1))) rfl)
  exact dec_row (f := 1600) (k := 16) (ro_96 lp_25 (byte_at h.2)) h.1
theorem dL_law_1617 : decode cL_law 1617 = .ok (.iaload, 1) := by
  have h := two_at (all_at lg_25 12 (a := (17, 46, .ok (.iaload, 1))) rfl)
  exact dec_row (f := 1600) (k := 17) (ro_46 lp_25 (byte_at h.2)) h.1
theorem dL_law_1618 : decode cL_law 1618 = .ok (.aload_n 0, 1) := by
  have h := two_at (all_at lg_25 13 (a := (18, 42, .ok (.aload_n 0, 1))) rfl)
  exact dec_row (f := 1600) (k := 18) (ro_42 lp_25 (byte_at h.2)) h.1
theorem dL_law_1619 : decode cL_law 1619 = .ok (.iload 5, 2) := by
  have h := two_at (all_at lg_25 14 (a := (19, 21, .ok (.iload 5, 2))) rfl)
  exact dec_row (f := 1600) (k := 19) (ro_21 lp_25 (byte_at h.2)) h.1
theorem dL_law_1621 : decode cL_law 1621 = .ok (.iconst 3, 1) := by
  have h := two_at (all_at lg_25 15 (a := (21, 6, .ok (.iconst 3, 1))) rfl)
  exact dec_row (f := 1600) (k := 21) (ro_6 lp_25 (byte_at h.2)) h.1
theorem dL_law_1622 : decode cL_law 1622 = .ok (.iadd, 1) := by
  have h := two_at (all_at lg_25 16 (a := (22, 96, .ok (.iadd, 1))) rfl)
  exact dec_row (f := 1600) (k := 22) (ro_96 lp_25 (byte_at h.2)) h.1
theorem dL_law_1623 : decode cL_law 1623 = .ok (.iaload, 1) := by
  have h := two_at (all_at lg_25 17 (a := (23, 46, .ok (.iaload, 1))) rfl)
  exact dec_row (f := 1600) (k := 23) (ro_46 lp_25 (byte_at h.2)) h.1
theorem dL_law_1624 : decode cL_law 1624 = .ok (.aload_n 3, 1) := by
  have h := two_at (all_at lg_25 18 (a := (24, 45, .ok (.aload_n 3, 1))) rfl)
  exact dec_row (f := 1600) (k := 24) (ro_45 lp_25 (byte_at h.2)) h.1
theorem dL_law_1625 : decode cL_law 1625 = .ok (.invokestatic 233, 3) := by
  have h := two_at (all_at lg_25 19 (a := (25, 184, .ok (.invokestatic 233, 3))) rfl)
  exact dec_row (f := 1600) (k := 25) (ro_184 lp_25 (byte_at h.2)) h.1
theorem dL_law_1628 : decode cL_law 1628 = .ok (.istore 6, 2) := by
  have h := two_at (all_at lg_25 20 (a := (28, 54, .ok (.istore 6, 2))) rfl)
  exact dec_row (f := 1600) (k := 28) (ro_54 lp_25 (byte_at h.2)) h.1
theorem dL_law_1630 : decode cL_law 1630 = .ok (.aload_n 2, 1) := by
  have h := two_at (all_at lg_25 21 (a := (30, 44, .ok (.aload_n 2, 1))) rfl)
  exact dec_row (f := 1600) (k := 30) (ro_44 lp_25 (byte_at h.2)) h.1
theorem dL_law_1631 : decode cL_law 1631 = .ok (.aload_n 0, 1) := by
  have h := two_at (all_at lg_25 22 (a := (31, 42, .ok (.aload_n 0, 1))) rfl)
  exact dec_row (f := 1600) (k := 31) (ro_42 lp_25 (byte_at h.2)) h.1
theorem dL_law_1632 : decode cL_law 1632 = .ok (.iload 5, 2) := by
  have h := two_at (all_at lg_25 23 (a := (32, 21, .ok (.iload 5, 2))) rfl)
  exact dec_row (f := 1600) (k := 32) (ro_21 lp_25 (byte_at h.2)) h.1
theorem dL_law_1634 : decode cL_law 1634 = .ok (.iconst 1, 1) := by
  have h := two_at (all_at lg_25 24 (a := (34, 4, .ok (.iconst 1, 1))) rfl)
  exact dec_row (f := 1600) (k := 34) (ro_4 lp_25 (byte_at h.2)) h.1
theorem dL_law_1635 : decode cL_law 1635 = .ok (.iadd, 1) := by
  have h := two_at (all_at lg_25 25 (a := (35, 96, .ok (.iadd, 1))) rfl)
  exact dec_row (f := 1600) (k := 35) (ro_96 lp_25 (byte_at h.2)) h.1
theorem dL_law_1636 : decode cL_law 1636 = .ok (.iaload, 1) := by
  have h := two_at (all_at lg_25 26 (a := (36, 46, .ok (.iaload, 1))) rfl)
  exact dec_row (f := 1600) (k := 36) (ro_46 lp_25 (byte_at h.2)) h.1
theorem dL_law_1637 : decode cL_law 1637 = .ok (.aload_n 0, 1) := by
  have h := two_at (all_at lg_25 27 (a := (37, 42, .ok (.aload_n 0, 1))) rfl)
  exact dec_row (f := 1600) (k := 37) (ro_42 lp_25 (byte_at h.2)) h.1
theorem dL_law_1638 : decode cL_law 1638 = .ok (.iload 5, 2) := by
  have h := two_at (all_at lg_25 28 (a := (38, 21, .ok (.iload 5, 2))) rfl)
  exact dec_row (f := 1600) (k := 38) (ro_21 lp_25 (byte_at h.2)) h.1
theorem dL_law_1640 : decode cL_law 1640 = .ok (.iconst 2, 1) := by
  have h := two_at (all_at lg_25 29 (a := (40, 5, .ok (.iconst 2, 1))) rfl)
  exact dec_row (f := 1600) (k := 40) (ro_5 lp_25 (byte_at h.2)) h.1
theorem dL_law_1641 : decode cL_law 1641 = .ok (.iadd, 1) := by
  have h := two_at (all_at lg_25 30 (a := (41, 96, .ok (.iadd, 1))) rfl)
  exact dec_row (f := 1600) (k := 41) (ro_96 lp_25 (byte_at h.2)) h.1
theorem dL_law_1642 : decode cL_law 1642 = .ok (.iaload, 1) := by
  have h := two_at (all_at lg_25 31 (a := (42, 46, .ok (.iaload, 1))) rfl)
  exact dec_row (f := 1600) (k := 42) (ro_46 lp_25 (byte_at h.2)) h.1
theorem dL_law_1643 : decode cL_law 1643 = .ok (.aload_n 0, 1) := by
  have h := two_at (all_at lg_25 32 (a := (43, 42, .ok (.aload_n 0, 1))) rfl)
  exact dec_row (f := 1600) (k := 43) (ro_42 lp_25 (byte_at h.2)) h.1
theorem dL_law_1644 : decode cL_law 1644 = .ok (.iload 5, 2) := by
  have h := two_at (all_at lg_25 33 (a := (44, 21, .ok (.iload 5, 2))) rfl)
  exact dec_row (f := 1600) (k := 44) (ro_21 lp_25 (byte_at h.2)) h.1
theorem dL_law_1646 : decode cL_law 1646 = .ok (.iconst 3, 1) := by
  have h := two_at (all_at lg_25 34 (a := (46, 6, .ok (.iconst 3, 1))) rfl)
  exact dec_row (f := 1600) (k := 46) (ro_6 lp_25 (byte_at h.2)) h.1
theorem dL_law_1647 : decode cL_law 1647 = .ok (.iadd, 1) := by
  have h := two_at (all_at lg_25 35 (a := (47, 96, .ok (.iadd, 1))) rfl)
  exact dec_row (f := 1600) (k := 47) (ro_96 lp_25 (byte_at h.2)) h.1
theorem dL_law_1648 : decode cL_law 1648 = .ok (.iaload, 1) := by
  have h := two_at (all_at lg_25 36 (a := (48, 46, .ok (.iaload, 1))) rfl)
  exact dec_row (f := 1600) (k := 48) (ro_46 lp_25 (byte_at h.2)) h.1
theorem dL_law_1649 : decode cL_law 1649 = .ok (.invokevirtual 235, 3) := by
  have h := two_at (all_at lg_25 37 (a := (49, 182, .ok (.invokevirtual 235, 3))) rfl)
  exact dec_row (f := 1600) (k := 49) (ro_182 lp_25 (byte_at h.2)) h.1
theorem dL_law_1652 : decode cL_law 1652 = .ok (.istore 7, 2) := by
  have h := two_at (all_at lg_25 38 (a := (52, 54, .ok (.istore 7, 2))) rfl)
  exact dec_row (f := 1600) (k := 52) (ro_54 lp_25 (byte_at h.2)) h.1
theorem dL_law_1654 : decode cL_law 1654 = .ok (.goto 96, 3) := by
  have h := two_at (all_at lg_25 39 (a := (54, 167, .ok (.goto 96, 3))) rfl)
  exact dec_row (f := 1600) (k := 54) (ro_167 lp_25 (byte_at h.2)) h.1
theorem dL_law_1657 : decode cL_law 1657 = .ok (.aload_n 1, 1) := by
  have h := two_at (all_at lg_25 40 (a := (57, 43, .ok (.aload_n 1, 1))) rfl)
  exact dec_row (f := 1600) (k := 57) (ro_43 lp_25 (byte_at h.2)) h.1
theorem dL_law_1658 : decode cL_law 1658 = .ok (.aload_n 0, 1) := by
  have h := two_at (all_at lg_25 41 (a := (58, 42, .ok (.aload_n 0, 1))) rfl)
  exact dec_row (f := 1600) (k := 58) (ro_42 lp_25 (byte_at h.2)) h.1
theorem dL_law_1659 : decode cL_law 1659 = .ok (.iload 5, 2) := by
  have h := two_at (all_at lg_25 42 (a := (59, 21, .ok (.iload 5, 2))) rfl)
  exact dec_row (f := 1600) (k := 59) (ro_21 lp_25 (byte_at h.2)) h.1
theorem dL_law_1661 : decode cL_law 1661 = .ok (.iconst 1, 1) := by
  have h := two_at (all_at lg_25 43 (a := (61, 4, .ok (.iconst 1, 1))) rfl)
  exact dec_row (f := 1600) (k := 61) (ro_4 lp_25 (byte_at h.2)) h.1
theorem dL_law_1662 : decode cL_law 1662 = .ok (.iadd, 1) := by
  have h := two_at (all_at lg_25 44 (a := (62, 96, .ok (.iadd, 1))) rfl)
  exact dec_row (f := 1600) (k := 62) (ro_96 lp_25 (byte_at h.2)) h.1
theorem dL_law_1663 : decode cL_law 1663 = .ok (.iaload, 1) := by
  have h := two_at (all_at lg_25 45 (a := (63, 46, .ok (.iaload, 1))) rfl)
  exact dec_row (f := 1600) (k := 63) (ro_46 lp_25 (byte_at h.2)) h.1
def lc_26 : ByteArray := .mk #[0x2a, 0x15, 0x05, 0x05, 0x60, 0x2e, 0x2d, 0xb8, 0x00, 0xec, 0x36, 0x06, 0x2c, 0x2a, 0x15, 0x05, 0x04, 0x60, 0x2e, 0x2a, 0x15, 0x05, 0x05, 0x60, 0x2e, 0xb6, 0x00, 0xee, 0x36, 0x07, 0xa7, 0x00, 0x38, 0x2b, 0x2a, 0x15, 0x05, 0x04, 0x60, 0x2e, 0x2a, 0x15, 0x05, 0x05, 0x60, 0x2e, 0x2d, 0xb8, 0x00, 0xef, 0x36, 0x06, 0x2c, 0x2a, 0x15, 0x05, 0x04, 0x60, 0x2e, 0x2a, 0x15, 0x05, 0x05, 0x60, 0x2e, 0xb6, 0x00, 0xf1, 0x36, 0x07, 0xa7, 0x00]
theorem lp_26 : Pc lc_26 cL_law 1664 := Pc_of (n := 72) (by decide +kernel)
theorem lg_26 : ([(0, 42, .ok (.aload_n 0, 1)), (1, 21, .ok (.iload 5, 2)), (3, 5, .ok (.iconst 2, 1)), (4, 96, .ok (.iadd, 1)), (5, 46, .ok (.iaload, 1)), (6, 45, .ok (.aload_n 3, 1)), (7, 184, .ok (.invokestatic 236, 3)), (10, 54, .ok (.istore 6, 2)), (12, 44, .ok (.aload_n 2, 1)), (13, 42, .ok (.aload_n 0, 1)), (14, 21, .ok (.iload 5, 2)), (16, 4, .ok (.iconst 1, 1)), (17, 96, .ok (.iadd, 1)), (18, 46, .ok (.iaload, 1)), (19, 42, .ok (.aload_n 0, 1)), (20, 21, .ok (.iload 5, 2)), (22, 5, .ok (.iconst 2, 1)), (23, 96, .ok (.iadd, 1)), (24, 46, .ok (.iaload, 1)), (25, 182, .ok (.invokevirtual 238, 3)), (28, 54, .ok (.istore 7, 2)), (30, 167, .ok (.goto 56, 3)), (33, 43, .ok (.aload_n 1, 1)), (34, 42, .ok (.aload_n 0, 1)), (35, 21, .ok (.iload 5, 2)), (37, 4, .ok (.iconst 1, 1)), (38, 96, .ok (.iadd, 1)), (39, 46, .ok (.iaload, 1)), (40, 42, .ok (.aload_n 0, 1)), (41, 21, .ok (.iload 5, 2)), (43, 5, .ok (.iconst 2, 1)), (44, 96, .ok (.iadd, 1)), (45, 46, .ok (.iaload, 1)), (46, 45, .ok (.aload_n 3, 1)), (47, 184, .ok (.invokestatic 239, 3)), (50, 54, .ok (.istore 6, 2)), (52, 44, .ok (.aload_n 2, 1)), (53, 42, .ok (.aload_n 0, 1)), (54, 21, .ok (.iload 5, 2)), (56, 4, .ok (.iconst 1, 1)), (57, 96, .ok (.iadd, 1)), (58, 46, .ok (.iaload, 1)), (59, 42, .ok (.aload_n 0, 1)), (60, 21, .ok (.iload 5, 2)), (62, 5, .ok (.iconst 2, 1)), (63, 96, .ok (.iadd, 1))] : List (Nat × UInt8 × Except DecodeError (Instr × Nat))).all (fun q => decide (decode lc_26 q.1 = q.2.2) && decide (lc_26.data.toList[q.1]? = some q.2.1)) = true := by decide +kernel
theorem dL_law_1664 : decode cL_law 1664 = .ok (.aload_n 0, 1) := by
  have h := two_at (all_at lg_26 0 (a := (0, 42, .ok (.aload_n 0, 1))) rfl)
  exact dec_row (f := 1664) (k := 0) (ro_42 lp_26 (byte_at h.2)) h.1
theorem dL_law_1665 : decode cL_law 1665 = .ok (.iload 5, 2) := by
  have h := two_at (all_at lg_26 1 (a := (1, 21, .ok (.iload 5, 2))) rfl)
  exact dec_row (f := 1664) (k := 1) (ro_21 lp_26 (byte_at h.2)) h.1
theorem dL_law_1667 : decode cL_law 1667 = .ok (.iconst 2, 1) := by
  have h := two_at (all_at lg_26 2 (a := (3, 5, .ok (.iconst 2, 1))) rfl)
  exact dec_row (f := 1664) (k := 3) (ro_5 lp_26 (byte_at h.2)) h.1
theorem dL_law_1668 : decode cL_law 1668 = .ok (.iadd, 1) := by
  have h := two_at (all_at lg_26 3 (a := (4, 96, .ok (.iadd, 1))) rfl)
  exact dec_row (f := 1664) (k := 4) (ro_96 lp_26 (byte_at h.2)) h.1
theorem dL_law_1669 : decode cL_law 1669 = .ok (.iaload, 1) := by
  have h := two_at (all_at lg_26 4 (a := (5, 46, .ok (.iaload, 1))) rfl)
  exact dec_row (f := 1664) (k := 5) (ro_46 lp_26 (byte_at h.2)) h.1
theorem dL_law_1670 : decode cL_law 1670 = .ok (.aload_n 3, 1) := by
  have h := two_at (all_at lg_26 5 (a := (6, 45, .ok (.aload_n 3, 1))) rfl)
  exact dec_row (f := 1664) (k := 6) (ro_45 lp_26 (byte_at h.2)) h.1
theorem dL_law_1671 : decode cL_law 1671 = .ok (.invokestatic 236, 3) := by
  have h := two_at (all_at lg_26 6 (a := (7, 184, .ok (.invokestatic 236, 3))) rfl)
  exact dec_row (f := 1664) (k := 7) (ro_184 lp_26 (byte_at h.2)) h.1
theorem dL_law_1674 : decode cL_law 1674 = .ok (.istore 6, 2) := by
  have h := two_at (all_at lg_26 7 (a := (10, 54, .ok (.istore 6, 2))) rfl)
  exact dec_row (f := 1664) (k := 10) (ro_54 lp_26 (byte_at h.2)) h.1
theorem dL_law_1676 : decode cL_law 1676 = .ok (.aload_n 2, 1) := by
  have h := two_at (all_at lg_26 8 (a := (12, 44, .ok (.aload_n 2, 1))) rfl)
  exact dec_row (f := 1664) (k := 12) (ro_44 lp_26 (byte_at h.2)) h.1
theorem dL_law_1677 : decode cL_law 1677 = .ok (.aload_n 0, 1) := by
  have h := two_at (all_at lg_26 9 (a := (13, 42, .ok (.aload_n 0, 1))) rfl)
  exact dec_row (f := 1664) (k := 13) (ro_42 lp_26 (byte_at h.2)) h.1
theorem dL_law_1678 : decode cL_law 1678 = .ok (.iload 5, 2) := by
  have h := two_at (all_at lg_26 10 (a := (14, 21, .ok (.iload 5, 2))) rfl)
  exact dec_row (f := 1664) (k := 14) (ro_21 lp_26 (byte_at h.2)) h.1
theorem dL_law_1680 : decode cL_law 1680 = .ok (.iconst 1, 1) := by
  have h := two_at (all_at lg_26 11 (a := (16, 4, .ok (.iconst 1, 1))) rfl)
  exact dec_row (f := 1664) (k := 16) (ro_4 lp_26 (byte_at h.2)) h.1
theorem dL_law_1681 : decode cL_law 1681 = .ok (.iadd, 1) := by
  have h := two_at (all_at lg_26 12 (a := (17, 96, .ok (.iadd, 1))) rfl)
  exact dec_row (f := 1664) (k := 17) (ro_96 lp_26 (byte_at h.2)) h.1
theorem dL_law_1682 : decode cL_law 1682 = .ok (.iaload, 1) := by
  have h := two_at (all_at lg_26 13 (a := (18, 46, .ok (.iaload, 1))) rfl)
  exact dec_row (f := 1664) (k := 18) (ro_46 lp_26 (byte_at h.2)) h.1
theorem dL_law_1683 : decode cL_law 1683 = .ok (.aload_n 0, 1) := by
  have h := two_at (all_at lg_26 14 (a := (19, 42, .ok (.aload_n 0, 1))) rfl)
  exact dec_row (f := 1664) (k := 19) (ro_42 lp_26 (byte_at h.2)) h.1
theorem dL_law_1684 : decode cL_law 1684 = .ok (.iload 5, 2) := by
  have h := two_at (all_at lg_26 15 (a := (20, 21, .ok (.iload 5, 2))) rfl)
  exact dec_row (f := 1664) (k := 20) (ro_21 lp_26 (byte_at h.2)) h.1
theorem dL_law_1686 : decode cL_law 1686 = .ok (.iconst 2, 1) := by
  have h := two_at (all_at lg_26 16 (a := (22, 5, .ok (.iconst 2, 1))) rfl)
  exact dec_row (f := 1664) (k := 22) (ro_5 lp_26 (byte_at h.2)) h.1
theorem dL_law_1687 : decode cL_law 1687 = .ok (.iadd, 1) := by
  have h := two_at (all_at lg_26 17 (a := (23, 96, .ok (.iadd, 1))) rfl)
  exact dec_row (f := 1664) (k := 23) (ro_96 lp_26 (byte_at h.2)) h.1
theorem dL_law_1688 : decode cL_law 1688 = .ok (.iaload, 1) := by
  have h := two_at (all_at lg_26 18 (a := (24, 46, .ok (.iaload, 1))) rfl)
  exact dec_row (f := 1664) (k := 24) (ro_46 lp_26 (byte_at h.2)) h.1
theorem dL_law_1689 : decode cL_law 1689 = .ok (.invokevirtual 238, 3) := by
  have h := two_at (all_at lg_26 19 (a := (25, 182, .ok (.invokevirtual 238, 3))) rfl)
  exact dec_row (f := 1664) (k := 25) (ro_182 lp_26 (byte_at h.2)) h.1
theorem dL_law_1692 : decode cL_law 1692 = .ok (.istore 7, 2) := by
  have h := two_at (all_at lg_26 20 (a := (28, 54, .ok (.istore 7, 2))) rfl)
  exact dec_row (f := 1664) (k := 28) (ro_54 lp_26 (byte_at h.2)) h.1
theorem dL_law_1694 : decode cL_law 1694 = .ok (.goto 56, 3) := by
  have h := two_at (all_at lg_26 21 (a := (30, 167, .ok (.goto 56, 3))) rfl)
  exact dec_row (f := 1664) (k := 30) (ro_167 lp_26 (byte_at h.2)) h.1
theorem dL_law_1697 : decode cL_law 1697 = .ok (.aload_n 1, 1) := by
  have h := two_at (all_at lg_26 22 (a := (33, 43, .ok (.aload_n 1, 1))) rfl)
  exact dec_row (f := 1664) (k := 33) (ro_43 lp_26 (byte_at h.2)) h.1
theorem dL_law_1698 : decode cL_law 1698 = .ok (.aload_n 0, 1) := by
  have h := two_at (all_at lg_26 23 (a := (34, 42, .ok (.aload_n 0, 1))) rfl)
  exact dec_row (f := 1664) (k := 34) (ro_42 lp_26 (byte_at h.2)) h.1
theorem dL_law_1699 : decode cL_law 1699 = .ok (.iload 5, 2) := by
  have h := two_at (all_at lg_26 24 (a := (35, 21, .ok (.iload 5, 2))) rfl)
  exact dec_row (f := 1664) (k := 35) (ro_21 lp_26 (byte_at h.2)) h.1
theorem dL_law_1701 : decode cL_law 1701 = .ok (.iconst 1, 1) := by
  have h := two_at (all_at lg_26 25 (a := (37, 4, .ok (.iconst 1, 1))) rfl)
  exact dec_row (f := 1664) (k := 37) (ro_4 lp_26 (byte_at h.2)) h.1
theorem dL_law_1702 : decode cL_law 1702 = .ok (.iadd, 1) := by
  have h := two_at (all_at lg_26 26 (a := (38, 96, .ok (.iadd, 1))) rfl)
  exact dec_row (f := 1664) (k := 38) (ro_96 lp_26 (byte_at h.2)) h.1
theorem dL_law_1703 : decode cL_law 1703 = .ok (.iaload, 1) := by
  have h := two_at (all_at lg_26 27 (a := (39, 46, .ok (.iaload, 1))) rfl)
  exact dec_row (f := 1664) (k := 39) (ro_46 lp_26 (byte_at h.2)) h.1
theorem dL_law_1704 : decode cL_law 1704 = .ok (.aload_n 0, 1) := by
  have h := two_at (all_at lg_26 28 (a := (40, 42, .ok (.aload_n 0, 1))) rfl)
  exact dec_row (f := 1664) (k := 40) (ro_42 lp_26 (byte_at h.2)) h.1
theorem dL_law_1705 : decode cL_law 1705 = .ok (.iload 5, 2) := by
  have h := two_at (all_at lg_26 29 (a := (41, 21, .ok (.iload 5, 2))) rfl)
  exact dec_row (f := 1664) (k := 41) (ro_21 lp_26 (byte_at h.2)) h.1
theorem dL_law_1707 : decode cL_law 1707 = .ok (.iconst 2, 1) := by
  have h := two_at (all_at lg_26 30 (a := (43, 5, .ok (.iconst 2, 1))) rfl)
  exact dec_row (f := 1664) (k := 43) (ro_5 lp_26 (byte_at h.2)) h.1
theorem dL_law_1708 : decode cL_law 1708 = .ok (.iadd, 1) := by
  have h := two_at (all_at lg_26 31 (a := (44, 96, .ok (.iadd, 1))) rfl)
  exact dec_row (f := 1664) (k := 44) (ro_96 lp_26 (byte_at h.2)) h.1
theorem dL_law_1709 : decode cL_law 1709 = .ok (.iaload, 1) := by
  have h := two_at (all_at lg_26 32 (a := (45, 46, .ok (.iaload, 1))) rfl)
  exact dec_row (f := 1664) (k := 45) (ro_46 lp_26 (byte_at h.2)) h.1
theorem dL_law_1710 : decode cL_law 1710 = .ok (.aload_n 3, 1) := by
  have h := two_at (all_at lg_26 33 (a := (46, 45, .ok (.aload_n 3, 1))) rfl)
  exact dec_row (f := 1664) (k := 46) (ro_45 lp_26 (byte_at h.2)) h.1
theorem dL_law_1711 : decode cL_law 1711 = .ok (.invokestatic 239, 3) := by
  have h := two_at (all_at lg_26 34 (a := (47, 184, .ok (.invokestatic 239, 3))) rfl)
  exact dec_row (f := 1664) (k := 47) (ro_184 lp_26 (byte_at h.2)) h.1
theorem dL_law_1714 : decode cL_law 1714 = .ok (.istore 6, 2) := by
  have h := two_at (all_at lg_26 35 (a := (50, 54, .ok (.istore 6, 2))) rfl)
  exact dec_row (f := 1664) (k := 50) (ro_54 lp_26 (byte_at h.2)) h.1
theorem dL_law_1716 : decode cL_law 1716 = .ok (.aload_n 2, 1) := by
  have h := two_at (all_at lg_26 36 (a := (52, 44, .ok (.aload_n 2, 1))) rfl)
  exact dec_row (f := 1664) (k := 52) (ro_44 lp_26 (byte_at h.2)) h.1
theorem dL_law_1717 : decode cL_law 1717 = .ok (.aload_n 0, 1) := by
  have h := two_at (all_at lg_26 37 (a := (53, 42, .ok (.aload_n 0, 1))) rfl)
  exact dec_row (f := 1664) (k := 53) (ro_42 lp_26 (byte_at h.2)) h.1
theorem dL_law_1718 : decode cL_law 1718 = .ok (.iload 5, 2) := by
  have h := two_at (all_at lg_26 38 (a := (54, 21, .ok (.iload 5, 2))) rfl)
  exact dec_row (f := 1664) (k := 54) (ro_21 lp_26 (byte_at h.2)) h.1
theorem dL_law_1720 : decode cL_law 1720 = .ok (.iconst 1, 1) := by
  have h := two_at (all_at lg_26 39 (a := (56, 4, .ok (.iconst 1, 1))) rfl)
  exact dec_row (f := 1664) (k := 56) (ro_4 lp_26 (byte_at h.2)) h.1
theorem dL_law_1721 : decode cL_law 1721 = .ok (.iadd, 1) := by
  have h := two_at (all_at lg_26 40 (a := (57, 96, .ok (.iadd, 1))) rfl)
  exact dec_row (f := 1664) (k := 57) (ro_96 lp_26 (byte_at h.2)) h.1
theorem dL_law_1722 : decode cL_law 1722 = .ok (.iaload, 1) := by
  have h := two_at (all_at lg_26 41 (a := (58, 46, .ok (.iaload, 1))) rfl)
  exact dec_row (f := 1664) (k := 58) (ro_46 lp_26 (byte_at h.2)) h.1
theorem dL_law_1723 : decode cL_law 1723 = .ok (.aload_n 0, 1) := by
  have h := two_at (all_at lg_26 42 (a := (59, 42, .ok (.aload_n 0, 1))) rfl)
  exact dec_row (f := 1664) (k := 59) (ro_42 lp_26 (byte_at h.2)) h.1
theorem dL_law_1724 : decode cL_law 1724 = .ok (.iload 5, 2) := by
  have h := two_at (all_at lg_26 43 (a := (60, 21, .ok (.iload 5, 2))) rfl)
  exact dec_row (f := 1664) (k := 60) (ro_21 lp_26 (byte_at h.2)) h.1
theorem dL_law_1726 : decode cL_law 1726 = .ok (.iconst 2, 1) := by
  have h := two_at (all_at lg_26 44 (a := (62, 5, .ok (.iconst 2, 1))) rfl)
  exact dec_row (f := 1664) (k := 62) (ro_5 lp_26 (byte_at h.2)) h.1
theorem dL_law_1727 : decode cL_law 1727 = .ok (.iadd, 1) := by
  have h := two_at (all_at lg_26 45 (a := (63, 96, .ok (.iadd, 1))) rfl)
  exact dec_row (f := 1664) (k := 63) (ro_96 lp_26 (byte_at h.2)) h.1
def lc_27 : ByteArray := .mk #[0x2e, 0xb6, 0x00, 0xf1, 0x36, 0x07, 0xa7, 0x00, 0x10, 0x2b, 0xb6, 0x00, 0xf2, 0x58, 0x2c, 0xb6, 0x00, 0xf6, 0x58, 0xa7, 0x00, 0x03, 0x84, 0x05, 0x06, 0xa7, 0xf9, 0x43, 0x04, 0xac]
theorem lp_27 : Pc lc_27 cL_law 1728 := Pc_of (n := 72) (by decide +kernel)
theorem lg_27 : ([(0, 46, .ok (.iaload, 1)), (1, 182, .ok (.invokevirtual 241, 3)), (4, 54, .ok (.istore 7, 2)), (6, 167, .ok (.goto 16, 3)), (9, 43, .ok (.aload_n 1, 1)), (10, 182, .ok (.invokevirtual 242, 3)), (13, 88, .ok (.pop2, 1)), (14, 44, .ok (.aload_n 2, 1)), (15, 182, .ok (.invokevirtual 246, 3)), (18, 88, .ok (.pop2, 1)), (19, 167, .ok (.goto 3, 3)), (22, 132, .ok (.iinc 5 6, 3)), (25, 167, .ok (.goto (-1725), 3)), (28, 4, .ok (.iconst 1, 1)), (29, 172, .ok (.ireturn, 1))] : List (Nat × UInt8 × Except DecodeError (Instr × Nat))).all (fun q => decide (decode lc_27 q.1 = q.2.2) && decide (lc_27.data.toList[q.1]? = some q.2.1)) = true := by decide +kernel
theorem dL_law_1728 : decode cL_law 1728 = .ok (.iaload, 1) := by
  have h := two_at (all_at lg_27 0 (a := (0, 46, .ok (.iaload, 1))) rfl)
  exact dec_row (f := 1728) (k := 0) (ro_46 lp_27 (byte_at h.2)) h.1
theorem dL_law_1729 : decode cL_law 1729 = .ok (.invokevirtual 241, 3) := by
  have h := two_at (all_at lg_27 1 (a := (1, 182, .ok (.invokevirtual 241, 3))) rfl)
  exact dec_row (f := 1728) (k := 1) (ro_182 lp_27 (byte_at h.2)) h.1
theorem dL_law_1732 : decode cL_law 1732 = .ok (.istore 7, 2) := by
  have h := two_at (all_at lg_27 2 (a := (4, 54, .ok (.istore 7, 2))) rfl)
  exact dec_row (f := 1728) (k := 4) (ro_54 lp_27 (byte_at h.2)) h.1
theorem dL_law_1734 : decode cL_law 1734 = .ok (.goto 16, 3) := by
  have h := two_at (all_at lg_27 3 (a := (6, 167, .ok (.goto 16, 3))) rfl)
  exact dec_row (f := 1728) (k := 6) (ro_167 lp_27 (byte_at h.2)) h.1
theorem dL_law_1737 : decode cL_law 1737 = .ok (.aload_n 1, 1) := by
  have h := two_at (all_at lg_27 4 (a := (9, 43, .ok (.aload_n 1, 1))) rfl)
  exact dec_row (f := 1728) (k := 9) (ro_43 lp_27 (byte_at h.2)) h.1
theorem dL_law_1738 : decode cL_law 1738 = .ok (.invokevirtual 242, 3) := by
  have h := two_at (all_at lg_27 5 (a := (10, 182, .ok (.invokevirtual 242, 3))) rfl)
  exact dec_row (f := 1728) (k := 10) (ro_182 lp_27 (byte_at h.2)) h.1
theorem dL_law_1741 : decode cL_law 1741 = .ok (.pop2, 1) := by
  have h := two_at (all_at lg_27 6 (a := (13, 88, .ok (.pop2, 1))) rfl)
  exact dec_row (f := 1728) (k := 13) (ro_88 lp_27 (byte_at h.2)) h.1
theorem dL_law_1742 : decode cL_law 1742 = .ok (.aload_n 2, 1) := by
  have h := two_at (all_at lg_27 7 (a := (14, 44, .ok (.aload_n 2, 1))) rfl)
  exact dec_row (f := 1728) (k := 14) (ro_44 lp_27 (byte_at h.2)) h.1
theorem dL_law_1743 : decode cL_law 1743 = .ok (.invokevirtual 246, 3) := by
  have h := two_at (all_at lg_27 8 (a := (15, 182, .ok (.invokevirtual 246, 3))) rfl)
  exact dec_row (f := 1728) (k := 15) (ro_182 lp_27 (byte_at h.2)) h.1
theorem dL_law_1746 : decode cL_law 1746 = .ok (.pop2, 1) := by
  have h := two_at (all_at lg_27 9 (a := (18, 88, .ok (.pop2, 1))) rfl)
  exact dec_row (f := 1728) (k := 18) (ro_88 lp_27 (byte_at h.2)) h.1
theorem dL_law_1747 : decode cL_law 1747 = .ok (.goto 3, 3) := by
  have h := two_at (all_at lg_27 10 (a := (19, 167, .ok (.goto 3, 3))) rfl)
  exact dec_row (f := 1728) (k := 19) (ro_167 lp_27 (byte_at h.2)) h.1
theorem dL_law_1750 : decode cL_law 1750 = .ok (.iinc 5 6, 3) := by
  have h := two_at (all_at lg_27 11 (a := (22, 132, .ok (.iinc 5 6, 3))) rfl)
  exact dec_row (f := 1728) (k := 22) (ro_132 lp_27 (byte_at h.2)) h.1
theorem dL_law_1753 : decode cL_law 1753 = .ok (.goto (-1725), 3) := by
  have h := two_at (all_at lg_27 12 (a := (25, 167, .ok (.goto (-1725), 3))) rfl)
  exact dec_row (f := 1728) (k := 25) (ro_167 lp_27 (byte_at h.2)) h.1
theorem dL_law_1756 : decode cL_law 1756 = .ok (.iconst 1, 1) := by
  have h := two_at (all_at lg_27 13 (a := (28, 4, .ok (.iconst 1, 1))) rfl)
  exact dec_row (f := 1728) (k := 28) (ro_4 lp_27 (byte_at h.2)) h.1
theorem dL_law_1757 : decode cL_law 1757 = .ok (.ireturn, 1) := by
  have h := two_at (all_at lg_27 14 (a := (29, 172, .ok (.ireturn, 1))) rfl)
  exact dec_row (f := 1728) (k := 29) (ro_172 lp_27 (byte_at h.2)) h.1
theorem dL_law_45 : decode cL_law 45 = .ok (.tableswitch 1705 0 34 #[155, 223, 275, 331, 383, 447, 499, 575, 615, 643, 671, 684, 724, 752, 780, 820, 884, 976, 1040, 1104, 1144, 1184, 1197, 1249, 1290, 1331, 1372, 1400, 1428, 1456, 1508, 1560, 1612, 1652, 1692], 155) := by decide +kernel
