/-! a row of rows over the pool: copied, made longer -/
abbrev pPr (S : Pool) (a : Nat) (g : Nat → Option Nat) : Pool := (gL S, gK S, gN S, gI S, gQ S, gR S, gJ S, u1 (gP S) a g)
section KCP
variable {p : Program} {l : Launch} {e : Env} {R : Room} {s : State} {m : MethodId} {args : Array Value} {below : List Frame} {meth : Method} {c : Code} {H : Heap} {locs : List Loc} {cells slots : Nat} {Q : State → Prop}
variable {cc : ByteArray} {pc : Nat} {ls : Array Slot} {rest : List Value} {D : va_G} {A : Nat → Prop} {a0 a1 : Nat} {H0 : Heap} {cA : Nat → ClassId} {S : Pool} {wb : va_W}
theorem ky_copya (hexec : p.tables.exec = Jvm.exec) (hb : c.code = cc) (hml : c.maxLocals = ls.size) {own : String} {index : Nat} (hown : s.vm.findClass own = some m.cls) (hlink : (Cond.methodLink own index arraycopyName).before args s = true) (hnat : (Cond.native arraycopyName).before args s = true) (hstat : (Cond.static arraycopyName).before args s = true) (hini : (Cond.initialized "java/lang/System").before args s = true)
    (hK : va_K D vwCl (ty6 cA) s) (hP : va_P D vwCl (PW cA S ++ wb) H) (hD : va_D A (PW cA S ++ wb)) (hS : va_S A H0 H locs) {n0 n1 : Nat} (h0 : isA S a0 24 n0) (h1 : isA S a1 24 n1) (hAO : va_AOA .int s)
    {k : Nat} (hk : k < 2 ^ 31) (h4 : k ≤ n0) (h5 : k ≤ n1) (hel : ∀ i : Nat, i < k → ∀ y : Nat, gP S a0 i = some y → ∃ ki nv, isA S y ki nv ∧ 6 ≤ ki ∧ ki < 20)
    (hframes : 1 ≤ R.frames) (hlocals : (rest.map fun v => v.category).sum + (nativeFrameWords "java/lang/System" "arraycopy" 5 + 11) ≤ R.locals) (hdg : decode cc pc = .ok (.invokestatic index, 3))
    (kk : ∀ (H1 : Heap) (locs1 : List Loc), va_P D vwCl (PW cA (pPr S a1 (va_cpy (gP S a0) (gP S a1) 0 0 k)) ++ wb) H1 → va_D A (PW cA (pPr S a1 (va_cpy (gP S a0) (gP S a1) 0 0 k)) ++ wb) → va_S A H0 H1 locs1 → W p l e R s m args below meth c H1 locs1 cells slots Q (F0 m (pc + 3) ls rest)) : W p l e R s m args below meth c H locs cells slots Q (F0 m pc ls (.int (nI k) :: .int 0 :: .ref a1 :: .int 0 :: .ref a0 :: rest)) := by
  obtain ⟨q0, e0⟩ := pw_get (cA := cA) h0.1
  obtain ⟨q1, e1⟩ := pw_get (cA := cA) h1.1
  have f0 : (PW cA S)[q0]? = some (a0, .inl (cA 6, gN S a0, .inr (.inr (.inr (.inr (gP S a0)))))) := by rw [e0, pcell_a h0.2.1]
  have f1 : (PW cA S)[q1]? = some (a1, .inl (cA 6, gN S a1, .inr (.inr (.inr (.inr (gP S a1)))))) := by rw [e1, pcell_a h1.2.1]
  have hw : (PW cA S).set q1 (a1, .inl (cA 6, gN S a1, .inr (.inr (.inr (.inr (va_cpy (gP S a0) (gP S a1) 0 0 k)))))) = PW cA (pPr S a1 (va_cpy (gP S a0) (gP S a1) 0 0 k)) := by
    refine pw_set (kmy_D hD) h1.1 e1 ?_ ?_
    · rw [pcell_a (S := pPr S a1 (va_cpy (gP S a0) (gP S a1) 0 0 k)) h1.2.1, show gP (pPr S a1 (va_cpy (gP S a0) (gP S a1) 0 0 k)) a1 = va_cpy (gP S a0) (gP S a1) 0 0 k from by funext j; exact u1_s]
    · intro b hb
      exact pcell_ne (S' := pPr S a1 (va_cpy (gP S a0) (gP S a1) 0 0 k)) rfl rfl rfl rfl rfl rfl (u1_row hb)
  refine va_copya hexec hb hml hown hlink hnat hstat hini hK hP hD hS q0 q1 6 (kmy_at f0) (kmy_at f1) rfl (rr_1 hK hAO) hk (by rw [h0.2.2]; exact h4) (by rw [h1.2.2]; exact h5) (fun i hi y hy => ?_) hframes hlocals hdg (fun H1 locs1 b1 b2 b3 => ?_)
  · obtain ⟨ki, nv, g1, g2, g3⟩ := hel i hi y hy
    obtain ⟨z, hz⟩ := pw_get (cA := cA) g1.1
    rw [pcell_i g1.2.1 g2 g3] at hz
    exact ⟨_, List.mem_append_left _ (List.mem_of_getElem? hz)⟩
  · rw [kmy_set e1, hw] at b1 b2
    exact kk H1 locs1 b1 b2 b3
end KCP
