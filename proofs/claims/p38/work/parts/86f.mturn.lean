/-! the reference's cells and one row more -/
abbrev oI (cA : Nat → ClassId) (a N : Nat) (f : Nat → Int32) : Nat × va_E := (a, .inl (cA 0, N, .inl f))
theorem kmx_P {D : va_G} {wa wb : va_W} {H : Heap} (h : va_P D vwCl (wa ++ wb) H) : va_P D vwCl wa H := fun k q hk => h k q (by rw [List.getElem?_append_left (List.getElem?_eq_some_iff.mp hk).1]; exact hk)
theorem kmx_D {A : Nat → Prop} {wa wb : va_W} (h : va_D A (wa ++ wb)) : va_D A wa := ⟨fun i j p q hi hj => h.1 i j p q (by rw [List.getElem?_append_left (List.getElem?_eq_some_iff.mp hi).1]; exact hi) (by rw [List.getElem?_append_left (List.getElem?_eq_some_iff.mp hj).1]; exact hj), fun k q hk => h.2 k q (by rw [List.getElem?_append_left (List.getElem?_eq_some_iff.mp hk).1]; exact hk)⟩
theorem kmx_at {wa wb : va_W} {k : Nat} {q : Nat × va_E} (h : wa[k]? = some q) : (wa ++ wb)[k]? = some q := by rw [List.getElem?_append_left (List.getElem?_eq_some_iff.mp h).1]; exact h
theorem kmx_set {wa wb : va_W} {k : Nat} {q q2 : Nat × va_E} (h : wa[k]? = some q) : (wa ++ wb).set k q2 = wa.set k q2 ++ wb := List.set_append_left _ _ (List.getElem?_eq_some_iff.mp h).1
section KMX
variable {p : Program} {l : Launch} {e : Env} {R : Room} {s : State} {m : MethodId} {args : Array Value} {below : List Frame} {meth : Method} {c : Code} {H : Heap} {locs : List Loc} {cells slots : Nat} {Q : State → Prop}
variable {cc : ByteArray} {pc : Nat} {ls : Array Slot} {rest : List Value} {D : va_G} {A : Nat → Prop} {am : Nat} {r : Nat → Nat} {H0 : Heap} {cA : Nat → ClassId} {M : MSt} {wb : va_W} {qn N : Nat} {f : Nat → Int32}
theorem kmx_ald (hexec : p.tables.exec = Jvm.exec) (hb : c.code = cc) (hK : va_K D vwCl (ty6 cA) s) (hP : va_P D vwCl (wM cA am r M ++ [oI cA qn N f]) H) {i : Int32} (hin : vp_in i N) (hdg : decode cc pc = .ok (.iaload, 1))
    (kk : ∀ v : Int32, W p l e R s m args below meth c H locs cells slots Q (F0 m (pc + 1) ls (.int v :: rest))) : W p l e R s m args below meth c H locs cells slots Q (F0 m pc ls (.int i :: .ref qn :: rest)) := va_iald hexec hb hK hP (wM cA am r M).length 0 kw_get rfl hin hdg (kk _)
theorem kmx_ast (hexec : p.tables.exec = Jvm.exec) (hb : c.code = cc) (hK : va_K D vwCl (ty6 cA) s) (hP : va_P D vwCl (wM cA am r M ++ [oI cA qn N f]) H) (hD : va_D A (wM cA am r M ++ [oI cA qn N f])) (hS : va_S A H0 H locs) {i x : Int32} (hin : vp_in i N) (hdg : decode cc pc = .ok (.iastore, 1))
    (kk : ∀ (g : Nat → Int32) (H1 : Heap) (locs1 : List Loc), va_P D vwCl (wM cA am r M ++ [oI cA qn N g]) H1 → va_D A (wM cA am r M ++ [oI cA qn N g]) → va_S A H0 H1 locs1 → W p l e R s m args below meth c H1 locs1 cells slots Q (F0 m (pc + 1) ls rest)) : W p l e R s m args below meth c H locs cells slots Q (F0 m pc ls (.int x :: .int i :: .ref qn :: rest)) := by
  refine va_iast hexec hb hK hP hD hS (wM cA am r M).length 0 kw_get rfl hin hdg (fun H1 locs1 a1 a2 a3 => ?_)
  rw [kw_set] at a1 a2
  exact kk _ H1 locs1 a1 a2 a3
theorem kmx_new (hexec : p.tables.exec = Jvm.exec) (hb : c.code = cc) (harr : (Cond.arrayClass .int).before args s = true) (hK : va_K D vwCl (ty6 cA) s) (hP : va_P D vwCl (wM cA am r M) H) (hD : va_D A (wM cA am r M)) (hS : va_S A H0 H locs) (hA : ∀ q, H0.size ≤ q → A q)
    {mm : Nat} (hm : mm ≤ 200) (hcells : cells + 1 ≤ R.cells) (hslots : slots + 200 ≤ R.slots) (hdg : decode cc pc = .ok (.newarray .int, 2))
    (kk : ∀ (q : Nat) (H1 : Heap), va_P D vwCl (wM cA am r M ++ [oI cA q mm (fun _ => 0)]) H1 → va_D A (wM cA am r M ++ [oI cA q mm (fun _ => 0)]) → va_S A H0 H1 locs →
      W p l e R s m args below meth c H1 locs (cells + 1) (slots + 200) Q (F0 m (pc + 2) ls (.ref q :: rest))) : W p l e R s m args below meth c H locs cells slots Q (F0 m pc ls (.int (nI mm) :: rest)) := by
  refine va_newa (atype := .int) (ty := .int) (N' := mm) hexec hb harr rfl hK hP hD hS hA (a0 := (mm, .inl (fun _ => 0))) (fun _ => rfl) (fun h9 => by have := (nI_ltI (a := mm) (b := 0) (by omega) (by omega)).mp h9; omega) (ki_cl (by omega)) (by show mm * 4 ≤ _; omega) hcells (by omega) hdg (fun q c1 H1 b0 a1 a2 a3 => ?_)
  have e : c1 = cA 0 := kx_arrI (b0.2 8 _ rfl).2 (hK.2 0 _ rfl).2
  subst e
  refine W.widen (k := cells + 1) (n := slots + 200) (Nat.le_refl _) (by omega) ?_
  exact kk q H1 a1 a2 a3
end KMX
theorem eqN.tog1 {M T : MSt} {i : Nat} {a : Int32} (h : eqN M T) : eqN (mR M 11 i a) (mR T 11 i a) := by
  refine ⟨fun k h1 h2 => ?_, h.2⟩
  funext j
  rw [mR_at, mR_at, h.1 k h1 h2]
theorem eqN.tog2 {M T : MSt} {i : Nat} {a b : Int32} (h : eqN (mR M 11 i a) T) (hb : M.2 11 i = b) : eqN M (mR T 11 i b) := by
  refine ⟨fun k h1 h2 => ?_, h.2⟩
  funext j
  rw [mR_at, h.1 k h1 h2, mR_at]
  by_cases hk : k = 11 ∧ j = i
  · rw [if_pos hk, hk.1, hk.2, hb]
  · rw [if_neg hk, if_neg hk]
