/-! calls of a method whose world is a part of this one's -/
theorem kj_mem {D : va_G} {ws : va_W} {H : Heap} : va_P D vwCl ws H ↔ ∀ q ∈ ws, va_at D vwCl q H := by
  constructor
  · intro h q hq
    obtain ⟨k, hk⟩ := List.getElem?_of_mem hq
    exact h k q hk
  · intro h k q hk
    exact h q (List.mem_of_getElem? hk)
theorem kj_dis {A : Nat → Prop} {ws : va_W} : va_D A ws ↔ (ws.map Prod.fst).Nodup ∧ ∀ q ∈ ws, A q.1 := by
  constructor
  · intro h
    refine ⟨?_, fun q hq => ?_⟩
    · rw [List.nodup_iff_pairwise_ne, List.pairwise_iff_getElem]
      intro i j hi hj hij he
      rw [List.length_map] at hi hj
      have h1 : ws[i]? = some ws[i] := List.getElem?_eq_getElem hi
      have h2 : ws[j]? = some ws[j] := List.getElem?_eq_getElem hj
      rw [List.getElem_map, List.getElem_map] at he
      have := h.1 i j _ _ h1 h2 he
      omega
    · obtain ⟨k, hk⟩ := List.getElem?_of_mem hq
      exact h.2 k q hk
  · intro h
    refine ⟨fun i j p q hi hj he => ?_, fun k q hk => h.2 q (List.mem_of_getElem? hk)⟩
    have hn := h.1
    rw [List.nodup_iff_pairwise_ne, List.pairwise_iff_getElem] at hn
    have hi' : i < ws.length := (List.getElem?_eq_some_iff.mp hi).1
    have hj' : j < ws.length := (List.getElem?_eq_some_iff.mp hj).1
    have ei : ws[i] = p := (List.getElem?_eq_some_iff.mp hi).2
    have ej : ws[j] = q := (List.getElem?_eq_some_iff.mp hj).2
    rcases Nat.lt_trichotomy i j with h1 | h1 | h1
    · exact absurd (by rw [List.getElem_map, List.getElem_map, ei, ej]; exact he) (hn i j (by rw [List.length_map]; exact hi') (by rw [List.length_map]; exact hj') h1)
    · exact h1
    · exact absurd (by rw [List.getElem_map, List.getElem_map, ei, ej]; exact he.symm) (hn j i (by rw [List.length_map]; exact hj') (by rw [List.length_map]; exact hi') h1)
theorem kj_P {D : va_G} {ws ws' : va_W} {H : Heap} (h : ws.Perm ws') (hP : va_P D vwCl ws H) : va_P D vwCl ws' H := kj_mem.mpr fun q hq => kj_mem.mp hP q (h.mem_iff.mpr hq)
theorem kj_D {A : Nat → Prop} {ws ws' : va_W} (h : ws.Perm ws') (hD : va_D A ws) : va_D A ws' := by
  have h1 := kj_dis.mp hD
  exact kj_dis.mpr ⟨((h.map Prod.fst).nodup_iff).mp h1.1, fun q hq => h1.2 q (h.mem_iff.mpr hq)⟩
/-- what came back, beside the rest -/
theorem kj_join {D : va_G} {A : Nat → Prop} {wa wb w1 : va_W} {H H1 : Heap} (hP : va_P D vwCl (wa ++ wb) H) (hD : va_D A (wa ++ wb)) (hk : ∀ q : Nat, q < H.size → ¬ va_A wa H.size q → H1[q]? = H[q]?) (h1 : va_P D vwCl w1 H1) (d1 : va_D (va_A wa H.size) w1) (hA : ∀ q, va_A wa H.size q → A q) : va_P D vwCl (w1 ++ wb) H1 ∧ va_D A (w1 ++ wb) := by
  have hPm := kj_mem.mp hP
  have hDm := kj_dis.mp hD
  have hsz : ∀ q ∈ wb, q.1 < H.size := fun q hq => (hPm q (List.mem_append_right _ hq)).lt
  have hnd := hDm.1
  rw [List.map_append, List.nodup_append] at hnd
  have hno : ∀ q ∈ wb, ¬ va_A wa H.size q.1 := by
    intro q hq h
    rcases h with ⟨k, e, he⟩ | h
    · exact hnd.2.2 q.1 (List.mem_map.mpr ⟨(q.1, e), List.mem_of_getElem? he, rfl⟩) q.1 (List.mem_map.mpr ⟨q, hq, rfl⟩) rfl
    · exact absurd (hsz q hq) (Nat.not_lt.mpr h)
  have hPb : va_P D vwCl wb H1 := kj_mem.mpr fun q hq => (hPm q (List.mem_append_right _ hq)).kept (hk q.1 (hsz q hq) (hno q hq))
  refine ⟨h1.app hPb, ?_⟩
  have d1m := kj_dis.mp d1
  refine kj_dis.mpr ⟨?_, fun q hq => ?_⟩
  · rw [List.map_append, List.nodup_append]
    refine ⟨d1m.1, hnd.2.1, fun a ha b hb e => ?_⟩
    obtain ⟨qa, ha1, rfl⟩ := List.mem_map.mp ha
    obtain ⟨qb, hb1, rfl⟩ := List.mem_map.mp hb
    exact hno qb hb1 (e ▸ d1m.2 qa ha1)
  · rcases List.mem_append.mp hq with h | h
    · exact hA _ (d1m.2 q h)
    · exact hDm.2 q (List.mem_append_right _ h)
section KJ
variable {p : Program} {l : Launch} {e : Env} {R : Room} {s : State} {m : MethodId} {args : Array Value} {below : List Frame} {meth : Method} {c : Code} {H : Heap} {locs : List Loc} {cells slots mc ms : Nat} {Q : State → Prop}
variable {cc : ByteArray} {pc : Nat} {ls : Array Slot} {st0 rest : List Value} {D : va_G} {A : Nat → Prop} {a b : Nat} {H0 : Heap} {cA : Nat → ClassId} {ws wa wb : va_W} {As : List Value} {as : Array Value} {X : Type} {w : X → va_W}
theorem kj_i {φ : Int32 → X → Prop} (hpm : ws.Perm (wa ++ wb)) (hr : va_Run p l e R s m args below meth c H locs cells slots mc ms (F0 m pc ls st0) rest (va_Qi φ (fun x => kB D cA (va_A wa H.size) (w x)) (va_A wa H.size) as) (va_A wa H.size)) (hP : va_P D vwCl ws H) (hD : va_D A ws) (hS : va_S A H0 H locs) (hA : ∀ q, H0.size ≤ q → A q)
    (kk : ∀ (r : Int32) (x : X) (H1 : Heap) (locs1 : List Loc), φ r x → va_P D vwCl (w x ++ wb) H1 → va_D A (w x ++ wb) → va_S A H0 H1 locs1 → W p l e R s m args below meth c H1 locs1 (cells + mc) (slots + ms) Q (F0 m (pc + 3) ls (.int r :: rest))) : W p l e R s m args below meth c H locs cells slots Q (F0 m pc ls st0) := by
  have hP' := kj_P hpm hP
  have hD' := kj_D hpm hD
  have hDa : va_D A wa := ⟨fun i j p q hi hj => hD'.1 i j p q (by rw [List.getElem?_append_left (List.getElem?_eq_some_iff.mp hi).1]; exact hi) (by rw [List.getElem?_append_left (List.getElem?_eq_some_iff.mp hj).1]; exact hj), fun k q hk => hD'.2 k q (by rw [List.getElem?_append_left (List.getElem?_eq_some_iff.mp hk).1]; exact hk)⟩
  have hF := kp_A hDa hS hA
  refine va_calli hr hS (fun q _ h => hF q h) hF (fun r u t H1 locs1 ht hvm hw hB hz1 hk1 hS1 => ?_)
  obtain ⟨b1, b2, b3⟩ := hB
  rw [ht] at b1
  obtain ⟨j1, j2⟩ := kj_join hP' hD' hk1 b1 b3 hF
  exact kk r u H1 locs1 hw j1 j2 hS1
theorem kj_l {φ : Int64 → X → Prop} (hpm : ws.Perm (wa ++ wb)) (hr : va_Run p l e R s m args below meth c H locs cells slots mc ms (F0 m pc ls st0) rest (va_Ql φ (fun x => kB D cA (va_A wa H.size) (w x)) (va_A wa H.size) as) (va_A wa H.size)) (hP : va_P D vwCl ws H) (hD : va_D A ws) (hS : va_S A H0 H locs) (hA : ∀ q, H0.size ≤ q → A q)
    (kk : ∀ (r : Int64) (x : X) (H1 : Heap) (locs1 : List Loc), φ r x → va_P D vwCl (w x ++ wb) H1 → va_D A (w x ++ wb) → va_S A H0 H1 locs1 → W p l e R s m args below meth c H1 locs1 (cells + mc) (slots + ms) Q (F0 m (pc + 3) ls (.long r :: rest))) : W p l e R s m args below meth c H locs cells slots Q (F0 m pc ls st0) := by
  have hP' := kj_P hpm hP
  have hD' := kj_D hpm hD
  have hDa : va_D A wa := ⟨fun i j p q hi hj => hD'.1 i j p q (by rw [List.getElem?_append_left (List.getElem?_eq_some_iff.mp hi).1]; exact hi) (by rw [List.getElem?_append_left (List.getElem?_eq_some_iff.mp hj).1]; exact hj), fun k q hk => hD'.2 k q (by rw [List.getElem?_append_left (List.getElem?_eq_some_iff.mp hk).1]; exact hk)⟩
  have hF := kp_A hDa hS hA
  refine va_calll hr hS (fun q _ h => hF q h) hF (fun r u t H1 locs1 ht hvm hw hB hz1 hk1 hS1 => ?_)
  obtain ⟨b1, b2, b3⟩ := hB
  rw [ht] at b1
  obtain ⟨j1, j2⟩ := kj_join hP' hD' hk1 b1 b3 hF
  exact kk r u H1 locs1 hw j1 j2 hS1
theorem kj_d {φ : UInt64 → X → Prop} (hpm : ws.Perm (wa ++ wb)) (hr : va_Run p l e R s m args below meth c H locs cells slots mc ms (F0 m pc ls st0) rest (va_Qd φ (fun x => kB D cA (va_A wa H.size) (w x)) (va_A wa H.size) as) (va_A wa H.size)) (hP : va_P D vwCl ws H) (hD : va_D A ws) (hS : va_S A H0 H locs) (hA : ∀ q, H0.size ≤ q → A q)
    (kk : ∀ (r : UInt64) (x : X) (H1 : Heap) (locs1 : List Loc), φ r x → va_P D vwCl (w x ++ wb) H1 → va_D A (w x ++ wb) → va_S A H0 H1 locs1 → W p l e R s m args below meth c H1 locs1 (cells + mc) (slots + ms) Q (F0 m (pc + 3) ls (.double r :: rest))) : W p l e R s m args below meth c H locs cells slots Q (F0 m pc ls st0) := by
  have hP' := kj_P hpm hP
  have hD' := kj_D hpm hD
  have hDa : va_D A wa := ⟨fun i j p q hi hj => hD'.1 i j p q (by rw [List.getElem?_append_left (List.getElem?_eq_some_iff.mp hi).1]; exact hi) (by rw [List.getElem?_append_left (List.getElem?_eq_some_iff.mp hj).1]; exact hj), fun k q hk => hD'.2 k q (by rw [List.getElem?_append_left (List.getElem?_eq_some_iff.mp hk).1]; exact hk)⟩
  have hF := kp_A hDa hS hA
  refine va_calld hr hS (fun q _ h => hF q h) hF (fun r u t H1 locs1 ht hvm hw hB hz1 hk1 hS1 => ?_)
  obtain ⟨b1, b2, b3⟩ := hB
  rw [ht] at b1
  obtain ⟨j1, j2⟩ := kj_join hP' hD' hk1 b1 b3 hF
  exact kk r u H1 locs1 hw j1 j2 hS1
theorem kj_v {φ : X → Prop} (hpm : ws.Perm (wa ++ wb)) (hr : va_Run p l e R s m args below meth c H locs cells slots mc ms (F0 m pc ls st0) rest (va_Qv φ (fun x => kB D cA (va_A wa H.size) (w x)) (va_A wa H.size) as) (va_A wa H.size)) (hP : va_P D vwCl ws H) (hD : va_D A ws) (hS : va_S A H0 H locs) (hA : ∀ q, H0.size ≤ q → A q)
    (kk : ∀ (x : X) (H1 : Heap) (locs1 : List Loc), φ x → va_P D vwCl (w x ++ wb) H1 → va_D A (w x ++ wb) → va_S A H0 H1 locs1 → W p l e R s m args below meth c H1 locs1 (cells + mc) (slots + ms) Q (F0 m (pc + 3) ls rest)) : W p l e R s m args below meth c H locs cells slots Q (F0 m pc ls st0) := by
  have hP' := kj_P hpm hP
  have hD' := kj_D hpm hD
  have hDa : va_D A wa := ⟨fun i j p q hi hj => hD'.1 i j p q (by rw [List.getElem?_append_left (List.getElem?_eq_some_iff.mp hi).1]; exact hi) (by rw [List.getElem?_append_left (List.getElem?_eq_some_iff.mp hj).1]; exact hj), fun k q hk => hD'.2 k q (by rw [List.getElem?_append_left (List.getElem?_eq_some_iff.mp hk).1]; exact hk)⟩
  have hF := kp_A hDa hS hA
  refine va_callv hr hS (fun q _ h => hF q h) hF (fun u t H1 locs1 ht hvm hw hB hz1 hk1 hS1 => ?_)
  obtain ⟨b1, b2, b3⟩ := hB
  rw [ht] at b1
  obtain ⟨j1, j2⟩ := kj_join hP' hD' hk1 b1 b3 hF
  exact kk u H1 locs1 hw j1 j2 hS1
/-- a call that throws in any case, of a part of this world -/
theorem kj_t {E0 : String} (hpm : ws.Perm (wa ++ wb)) (hr : vx_Run p l e R s m args below meth c H locs cells slots mc ms (F0 m pc ls st0) rest (kNo as) (kXC D cA wa E0 (va_A wa H.size)) (va_A wa H.size)) (hP : va_P D vwCl ws H) (hD : va_D A ws) (hS : va_S A H0 H locs) (hA : ∀ q, H0.size ≤ q → A q)
    (kk : ∀ (ce : Cell) (q9 : Addr) (H1 : Heap) (locs1 : List Loc), va_P D vwCl (wa ++ wb) H1 → va_D A (wa ++ wb) → va_S A H0 H1 locs1 → H1[q9]? = some ce → ce.vm = .none → s.vm.findClass E0 = some ce.cls → vx_W p l e R s m args below meth c H1 locs1 (cells + mc) (slots + ms) Q (F0 m pc ls rest) q9) : W p l e R s m args below meth c H locs cells slots Q (F0 m pc ls st0) := by
  have hP' := kj_P hpm hP
  have hD' := kj_D hpm hD
  have hDa : va_D A wa := ⟨fun i j p q hi hj => hD'.1 i j p q (by rw [List.getElem?_append_left (List.getElem?_eq_some_iff.mp hi).1]; exact hi) (by rw [List.getElem?_append_left (List.getElem?_eq_some_iff.mp hj).1]; exact hj), fun k q hk => hD'.2 k q (by rw [List.getElem?_append_left (List.getElem?_eq_some_iff.mp hk).1]; exact hk)⟩
  have hF := kp_A hDa hS hA
  intro T hT Y
  rcases hr T hT Y with ⟨v, st₀, t, T', L, h0, X', hL, e1, e2, hno, st⟩ | ⟨q, st₀, t, T', L, E, ce, h0, X', hL, e1, e2, ⟨u, hp, ⟨rfl, b1, b2, b3⟩, hFr⟩, hce, hcv, hcl, st⟩
  · exact hno.elim
  · obtain ⟨k1, k2, k3⟩ := vx_keep h0 e1 hS (fun q _ h => hF q h) hF hL hFr
    have b1' : va_P D vwCl wa T'.heap := by rw [e1]; exact b1
    obtain ⟨j1, j2⟩ := kj_join hP' hD' k2 b1' b3 hF
    obtain ⟨t2, a1, z1⟩ := kk ce q T'.heap (locs ++ L) j1 j2 k3 (by rw [e1]; exact hce) hcv hcl T' rfl X'
    exact ⟨t2, st.trans a1, z1⟩
/-- the part of the world that a callee finds -/
theorem kj_at (hpm : ws.Perm (wa ++ wb)) (hK : va_K D vwCl (ty6 cA) s) (hP : va_P D vwCl ws H) (hD : va_D A ws) (hTB : TBok s) {U : State} (hU : U.heap = H) (hW : s.WarmedH U.vm) : kPre D cA wa H.size U := by
  have hP' := kj_P hpm hP
  have hD' := kj_D hpm hD
  refine kp_at (A := A) hK (fun k q hk => hP' k q (by rw [List.getElem?_append_left (List.getElem?_eq_some_iff.mp hk).1]; exact hk)) ⟨fun i j p q hi hj => hD'.1 i j p q (by rw [List.getElem?_append_left (List.getElem?_eq_some_iff.mp hi).1]; exact hi) (by rw [List.getElem?_append_left (List.getElem?_eq_some_iff.mp hj).1]; exact hj), fun k q hk => hD'.2 k q (by rw [List.getElem?_append_left (List.getElem?_eq_some_iff.mp hk).1]; exact hk)⟩ hTB hU hW
theorem kj_FA (hpm : ws.Perm (wa ++ wb)) (hD : va_D A ws) (hS : va_S A H0 H locs) (hA : ∀ q, H0.size ≤ q → A q) : ∀ q, va_A wa H.size q → A q := by
  have hD' := kj_D hpm hD
  exact kp_A ⟨fun i j p q hi hj => hD'.1 i j p q (by rw [List.getElem?_append_left (List.getElem?_eq_some_iff.mp hi).1]; exact hi) (by rw [List.getElem?_append_left (List.getElem?_eq_some_iff.mp hj).1]; exact hj), fun k q hk => hD'.2 k q (by rw [List.getElem?_append_left (List.getElem?_eq_some_iff.mp hk).1]; exact hk)⟩ hS hA
theorem kj_V (hpm : ws.Perm (wa ++ wb)) (hK : va_K D vwCl (ty6 cA) s) (hP : va_P D vwCl ws H) (hD : va_D A ws) (hTB : TBok s) {C : String} (hrc : ∃ cell : Cell, H[b]? = some cell ∧ cell.vm.isStatics = false ∧ s.vm.findClass C = some cell.cls) : PreV s H C b (va_Pc (.ref b :: As) (kPre D cA wa H.size)) As :=
  ⟨kPre.blind, hrc, fun _ hU hW => ⟨rfl, kj_at hpm hK hP hD hTB hU hW⟩⟩
theorem kj_VX (hpm : ws.Perm (wa ++ wb)) (hK : va_K D vwCl (ty6 cA) s) (hP : va_P D vwCl ws H) (hD : va_D A ws) (hTB : TBok s) (hTX : TXok A s) (hS : va_S A s.heap H locs) (hA : ∀ q, s.heap.size ≤ q → A q) {C : String} (hrc : ∃ cell : Cell, H[b]? = some cell ∧ cell.vm.isStatics = false ∧ s.vm.findClass C = some cell.cls) : PreV s H C b (va_Pc (.ref b :: As) (kPreX D cA wa H.size)) As :=
  ⟨kPreX.blind, hrc, fun _ hU hW => ⟨rfl, kj_at hpm hK hP hD hTB hU hW, hTX.at hS (kj_FA hpm hD hS hA) hU hW⟩⟩
theorem kj_SX (hpm : ws.Perm (wa ++ wb)) (hK : va_K D vwCl (ty6 cA) s) (hP : va_P D vwCl ws H) (hD : va_D A ws) (hTB : TBok s) (hTX : TXok A s) (hS : va_S A s.heap H locs) (hA : ∀ q, s.heap.size ≤ q → A q) : PreS s H (va_Pc As (kPreX D cA wa H.size)) As :=
  ⟨kPreX.blind, fun _ hU hW => ⟨rfl, kj_at hpm hK hP hD hTB hU hW, hTX.at hS (kj_FA hpm hD hS hA) hU hW⟩⟩
theorem kj_S (hpm : ws.Perm (wa ++ wb)) (hK : va_K D vwCl (ty6 cA) s) (hP : va_P D vwCl ws H) (hD : va_D A ws) (hTB : TBok s) : PreS s H (va_Pc As (kPre D cA wa H.size)) As :=
  ⟨kPre.blind, fun _ hU hW => ⟨rfl, kj_at hpm hK hP hD hTB hU hW⟩⟩
end KJ
/-- a method with a table of its own, that returns -/
theorem kt_ofWH {l : Launch} {y : MethodName} {ws ws' : List Cond} {rm : Room} {Pc : Array Value → State → Prop} {Qc : Array Value → State → Outcome → State → Prop} {mc ms : Nat} {free : Addr → Prop} {cc : ByteArray} {maxL : Nat} {ret : Option FieldType} {hh : List (Nat × Nat × Nat × Nat)}
    (hy : plainName y.cls = true) (hw : ws = Cond.codeWith y cc maxL ret hh :: ws')
    (body : ∀ p e s m args below meth c s₁, BodyLoose p l y (headSpec ws rm) cc maxL ret e s m args below meth c s₁ → c.maxLocals = maxL → c.exceptionTable.toList = tableOf hh → Pc args s →
      W p l e (headSpec ws rm).room s m args below meth c s.heap [] 0 0 (MQ below Qc args s mc ms free) (entryFrame m args maxL)) : Met l y ws rm Pc Qc mc ms free := by
  refine MetFree.of_bodyS (code := cc) (maxLocals := maxL) (ret := ret) hy ?_ ?_
  · intro args s m h hn
    obtain ⟨m9, meth, c, hn9, h1, h2, h3, h4, -, h5, h6, -⟩ := Cond.codeWith_spec (atoms_spec (ws := ws) h _ (by rw [hw]; exact List.mem_cons_self))
    cases hn.symm.trans hn9
    exact ⟨meth, c, h1, h2, h3, h4, h5, h6⟩
  · intro p e s m args below meth c s₁ B hml hP _
    have hh0 : s₁.heap = s.heap := by rw [B.state]; rfl
    have hcw : (Cond.codeWith y cc maxL ret hh).before args s = true := atoms_spec (ws := ws) B.pre _ (by rw [hw]; exact List.mem_cons_self)
    obtain ⟨t, a1, o, b1, b2, b3⟩ := body p e s m args below meth c s₁ B hml (vx_table (x := y) B hcw) hP s₁ hh0 (Stand.of_body B)
    exact ⟨t, o, a1, b1, b2, b3⟩
theorem kw_get {wa : va_W} {q : Nat × va_E} : (wa ++ [q])[wa.length]? = some q := by simp
theorem kw_set {wa : va_W} {q q' : Nat × va_E} : (wa ++ [q]).set wa.length q' = wa ++ [q'] := by
  rw [List.set_append_right _ _ (Nat.le_refl _)]
  simp
section KW
variable {p : Program} {l : Launch} {e : Env} {R : Room} {s : State} {m : MethodId} {args : Array Value} {below : List Frame} {meth : Method} {c : Code} {H : Heap} {locs : List Loc} {cells slots mc ms : Nat} {Q : State → Prop}
variable {cc : ByteArray} {pc : Nat} {ls : Array Slot} {st0 rest : List Value} {D : va_G} {A : Nat → Prop} {a b : Nat} {H0 : Heap} {cA : Nat → ClassId} {wa : va_W}
abbrev oJ (cA : Nat → ClassId) (a : Nat) (f : Nat → Int64) : Nat × va_E := (a, .inl (cA 1, 1, .inr (.inl f)))
abbrev oD (cA : Nat → ClassId) (a : Nat) (f : Nat → UInt64) : Nat × va_E := (a, .inl (cA 3, 1, .inr (.inr (.inr (.inl f)))))
theorem kw_last {f : Nat → Int64} {x : Int64} (hexec : p.tables.exec = Jvm.exec) (hb : c.code = cc) (hK : va_K D vwCl (ty6 cA) s) (hP : va_P D vwCl (wa ++ [oJ cA a f]) H) (hD : va_D A (wa ++ [oJ cA a f])) (hS : va_S A H0 H locs) (hdg : decode cc pc = .ok (.lastore, 1))
    (kk : ∀ (H1 : Heap) (locs1 : List Loc), va_P D vwCl (wa ++ [oJ cA a (vp_updL f 0 x)]) H1 → va_D A (wa ++ [oJ cA a (vp_updL f 0 x)]) → va_S A H0 H1 locs1 → W p l e R s m args below meth c H1 locs1 cells slots Q (F0 m (pc + 1) ls rest)) : W p l e R s m args below meth c H locs cells slots Q (F0 m pc ls (.long x :: .int 0 :: .ref a :: rest)) := by
  refine va_last hexec hb hK hP hD hS wa.length 1 kw_get rfl (vp_in_iff.mpr (by decide)) hdg (fun H1 locs1 a1 a2 a3 => ?_)
  rw [kw_set] at a1 a2
  exact kk H1 locs1 a1 a2 a3
theorem kw_dast {f : Nat → UInt64} {x : UInt64} (hexec : p.tables.exec = Jvm.exec) (hb : c.code = cc) (hK : va_K D vwCl (ty6 cA) s) (hP : va_P D vwCl (wa ++ [oD cA a f]) H) (hD : va_D A (wa ++ [oD cA a f])) (hS : va_S A H0 H locs) (hdg : decode cc pc = .ok (.dastore, 1))
    (kk : ∀ (H1 : Heap) (locs1 : List Loc), va_P D vwCl (wa ++ [oD cA a (vf_upd f 0 x)]) H1 → va_D A (wa ++ [oD cA a (vf_upd f 0 x)]) → va_S A H0 H1 locs1 → W p l e R s m args below meth c H1 locs1 cells slots Q (F0 m (pc + 1) ls rest)) : W p l e R s m args below meth c H locs cells slots Q (F0 m pc ls (.double x :: .int 0 :: .ref a :: rest)) := by
  refine va_dast hexec hb hK hP hD hS wa.length 3 kw_get rfl (vp_in_iff.mpr (by decide)) hdg (fun H1 locs1 a1 a2 a3 => ?_)
  rw [kw_set] at a1 a2
  exact kk H1 locs1 a1 a2 a3
theorem kj_rc {ws : va_W} {S : Pool} (hpm : ws.Perm (PW cA S ++ wa)) (hK : va_K D vwCl (ty6 cA) s) (hP : va_P D vwCl ws H) {ci N : Nat} {C : String} {T : u_T} (ho : isO S b ci) (hci : ci < 6) (hc : vwCl[ci]? = some (C, T, N)) : ∃ cell : Cell, H[b]? = some cell ∧ cell.vm.isStatics = false ∧ s.vm.findClass C = some cell.cls := by
  have hP' := kj_P hpm hP
  exact kp_rc hK (fun k q hk => hP' k q (by rw [List.getElem?_append_left (List.getElem?_eq_some_iff.mp hk).1]; exact hk)) ho hci hc
theorem kj_rm {ws : va_W} {am : Nat} {r : Nat → Nat} {M : MSt} (hpm : ws.Perm (wM cA am r M ++ wa)) (hK : va_K D vwCl (ty6 cA) s) (hP : va_P D vwCl ws H) : ∃ cell : Cell, H[am]? = some cell ∧ cell.vm.isStatics = false ∧ s.vm.findClass RX6 = some cell.cls := by
  have hP' := kj_P hpm hP
  exact km_rc hK (fun k q hk => hP' k q (by rw [List.getElem?_append_left (List.getElem?_eq_some_iff.mp hk).1]; exact hk))
end KW
theorem n_ca : ∀ E, E = "java/lang/IndexOutOfBoundsException" ∨ E = "java/lang/IllegalArgumentException" ∨ E = "java/lang/IllegalStateException" → Cond.castable E E ∈ TB := by
  intro E h
  rcases h with rfl | rfl | rfl
  · exact List.mem_of_getElem? (i := 0) (by decide +kernel)
  · exact List.mem_of_getElem? (i := 1) (by decide +kernel)
  · exact List.mem_of_getElem? (i := 2) (by decide +kernel)
