/-! rows over a pool with more cells behind it -/
theorem kmy_P {D : va_G} {wa wb : va_W} {H : Heap} (h : va_P D vwCl (wa ++ wb) H) : va_P D vwCl wa H := fun k q hk => h k q (by rw [List.getElem?_append_left (List.getElem?_eq_some_iff.mp hk).1]; exact hk)
theorem kmy_D {A : Nat → Prop} {wa wb : va_W} (h : va_D A (wa ++ wb)) : va_D A wa := ⟨fun i j p q hi hj => h.1 i j p q (by rw [List.getElem?_append_left (List.getElem?_eq_some_iff.mp hi).1]; exact hi) (by rw [List.getElem?_append_left (List.getElem?_eq_some_iff.mp hj).1]; exact hj), fun k q hk => h.2 k q (by rw [List.getElem?_append_left (List.getElem?_eq_some_iff.mp hk).1]; exact hk)⟩
theorem kmy_at {wa wb : va_W} {k : Nat} {q : Nat × va_E} (h : wa[k]? = some q) : (wa ++ wb)[k]? = some q := by rw [List.getElem?_append_left (List.getElem?_eq_some_iff.mp h).1]; exact h
theorem kmy_set {wa wb : va_W} {k : Nat} {q q2 : Nat × va_E} (h : wa[k]? = some q) : (wa ++ wb).set k q2 = wa.set k q2 ++ wb := List.set_append_left _ _ (List.getElem?_eq_some_iff.mp h).1
theorem kmy_perm {wa wb : va_W} {q : Nat × va_E} : ((wa ++ wb) ++ [q]).Perm ((wa ++ [q]) ++ wb) := by
  rw [List.append_assoc, List.append_assoc]
  exact List.Perm.append_left wa List.perm_append_comm
section KY
variable {p : Program} {l : Launch} {e : Env} {R : Room} {s : State} {m : MethodId} {args : Array Value} {below : List Frame} {meth : Method} {c : Code} {H : Heap} {locs : List Loc} {cells slots : Nat} {Q : State → Prop}
variable {cc : ByteArray} {pc : Nat} {ls : Array Slot} {rest : List Value} {D : va_G} {A : Nat → Prop} {a : Nat} {H0 : Heap} {cA : Nat → ClassId} {S : Pool} {wb : va_W}
theorem ky_iast (hexec : p.tables.exec = Jvm.exec) (hb : c.code = cc) (hK : va_K D vwCl (ty6 cA) s) (hP : va_P D vwCl (PW cA S ++ wb) H) (hD : va_D A (PW cA S ++ wb)) (hS : va_S A H0 H locs) {ki n : Nat} (ho : isA S a ki n) (h6 : 6 ≤ ki) (h20 : ki < 20) {i x : Int32} (hin : vp_in i n) (hdg : decode cc pc = .ok (.iastore, 1))
    (kk : ∀ (H1 : Heap) (locs1 : List Loc), va_P D vwCl (PW cA (pR S a i.toNatClampNeg x) ++ wb) H1 → va_D A (PW cA (pR S a i.toNatClampNeg x) ++ wb) → va_S A H0 H1 locs1 → W p l e R s m args below meth c H1 locs1 cells slots Q (F0 m (pc + 1) ls rest)) : W p l e R s m args below meth c H locs cells slots Q (F0 m pc ls (.int x :: .int i :: .ref a :: rest)) := by
  obtain ⟨q0, h0⟩ := pw_get (cA := cA) ho.1
  have h1 : (PW cA S)[q0]? = some (a, .inl (cA 0, gN S a, .inl (gR S a))) := by rw [h0, pcell_i ho.2.1 h6 h20]
  have hw : (PW cA S).set q0 (a, .inl (cA 0, gN S a, .inl (upd (gR S a) i.toNatClampNeg x))) = PW cA (pR S a i.toNatClampNeg x) := by
    refine pw_set (kmy_D hD) ho.1 h0 ?_ ?_
    · rw [pcell_i (S := pR S a i.toNatClampNeg x) ho.2.1 h6 h20, show gR (pR S a i.toNatClampNeg x) a = upd (gR S a) i.toNatClampNeg x from u2_upd]
    · intro b hb
      exact pcell_ne (S' := pR S a i.toNatClampNeg x) rfl rfl rfl rfl (u2_row hb) rfl rfl
  refine va_iast hexec hb hK hP hD hS q0 0 (kmy_at h1) rfl (by rw [ho.2.2]; exact hin) hdg (fun H1 locs1 a1 a2 a3 => ?_)
  rw [kmy_set h0, hw] at a1 a2
  exact kk H1 locs1 a1 a2 a3
theorem kd_puti (hexec : p.tables.exec = Jvm.exec) (hb : c.code = cc) {own C : String} {T : u_T} {N index : Nat} {Ts : List Cond} (hts : ∀ w ∈ Ts, w.before args s = true) (hin : ∀ w ∈ u_ws C T N, w ∈ Ts) (ty0 : Nat → FieldType) (hty : ∀ k, k < N → parseFieldDescriptor (T k).2.2.1 = some (ty0 k)) (hnm : ∀ a, a < N → ∀ b, b < N → a ≠ b → (T a).2.1 ≠ (T b).2.1) (hown : s.vm.findClass own = some m.cls) (hK : va_K D vwCl (ty6 cA) s) (hP : va_P D vwCl (PW cA S ++ wb) H) (hD : va_D A (PW cA S ++ wb)) (hS : va_S A H0 H locs) (ho : isO S a 23) (hc : vwCl[6]? = some (C, T, N)) (k : Nat) (hk : k < N) (hk2 : k < 11) (hi : isR 23 k = false) (hlink : (Cond.fieldLink own index (T k).1 (T k).2.1 (T k).2.2.1).before args s = true) (hfin : (T k).2.2.2 = false) {ty : FieldType} {x : Int32} (hd : parseFieldDescriptor (T k).2.2.1 = some ty) (hn : narrow ty (.int x) = .int x) (hfit : fits ty (.int x) = true) (hdg : decode cc pc = .ok (.putfield index, 3))
    (kk : ∀ (H1 : Heap) (locs1 : List Loc), va_P D vwCl (PW cA (pI S a k x) ++ wb) H1 → va_D A (PW cA (pI S a k x) ++ wb) → va_S A H0 H1 locs1 → W p l e R s m args below meth c H1 locs1 cells slots Q (F0 m (pc + 3) ls rest)) : W p l e R s m args below meth c H locs cells slots Q (F0 m pc ls (.int x :: .ref a :: rest)) := by
  obtain ⟨q0, h0⟩ := pw_get (cA := cA) ho.1
  have h1 : (PW cA S)[q0]? = some (a, .inr (6, (List.range (11)).map (pv S 23 a))) := by rw [h0, pcell_d ho.2]
  have hw : (PW cA S).set q0 (a, .inr (6, ((List.range (11)).map (pv S 23 a)).set k (.int x))) = PW cA (pI S a k x) := by
    refine pw_set (kmy_D hD) ho.1 h0 ?_ ?_
    · rw [pcell_d (S := pI S a k x) ho.2]
      rw [map_set (g' := pv (pI S a k x) 23 a)]
      · intro _; show (if isR 23 k = true then va_rf (gQ S a k) else Value.int (u2 (gI S) a k x a k)) = _; rw [hi, u2_s]; rfl
      · intro j hj
        unfold pv
        rw [show gI (pI S a k x) a j = gI S a j from u2_k hj]
    · intro b hb
      exact pcell_ne (S' := pI S a k x) rfl rfl (u2_row hb) rfl rfl rfl rfl
  refine va_put hexec hb hts hin ty0 hty hnm hown hK hP hD hS q0 (kmy_at h1) hc k hk hlink (fun _ h9 => h9) hfin hd hn hfit (by simp [hk2]) hdg (fun H1 locs1 a1 a2 a3 => ?_)
  rw [kmy_set h0, hw] at a1 a2
  exact kk H1 locs1 a1 a2 a3
theorem kd_putr (hexec : p.tables.exec = Jvm.exec) (hb : c.code = cc) {own C : String} {T : u_T} {N index : Nat} {Ts : List Cond} (hts : ∀ w ∈ Ts, w.before args s = true) (hin : ∀ w ∈ u_ws C T N, w ∈ Ts) (ty0 : Nat → FieldType) (hty : ∀ k, k < N → parseFieldDescriptor (T k).2.2.1 = some (ty0 k)) (hnm : ∀ a, a < N → ∀ b, b < N → a ≠ b → (T a).2.1 ≠ (T b).2.1) (hown : s.vm.findClass own = some m.cls) (hK : va_K D vwCl (ty6 cA) s) (hP : va_P D vwCl (PW cA S ++ wb) H) (hD : va_D A (PW cA S ++ wb)) (hS : va_S A H0 H locs) (ho : isO S a 23) (hc : vwCl[6]? = some (C, T, N)) (k : Nat) (hk : k < N) (hk2 : k < 11) (hi : isR 23 k = true) (hlink : (Cond.fieldLink own index (T k).1 (T k).2.1 (T k).2.2.1).before args s = true) (hfin : (T k).2.2.2 = false) {ty : FieldType} {r : Option Nat} (hd : parseFieldDescriptor (T k).2.2.1 = some ty) (hn : narrow ty (va_rf r) = va_rf r) (hfit : fits ty (va_rf r) = true) (hdg : decode cc pc = .ok (.putfield index, 3))
    (kk : ∀ (H1 : Heap) (locs1 : List Loc), va_P D vwCl (PW cA (pQ S a k r) ++ wb) H1 → va_D A (PW cA (pQ S a k r) ++ wb) → va_S A H0 H1 locs1 → W p l e R s m args below meth c H1 locs1 cells slots Q (F0 m (pc + 3) ls rest)) : W p l e R s m args below meth c H locs cells slots Q (F0 m pc ls (va_rf r :: .ref a :: rest)) := by
  obtain ⟨q0, h0⟩ := pw_get (cA := cA) ho.1
  have h1 : (PW cA S)[q0]? = some (a, .inr (6, (List.range (11)).map (pv S 23 a))) := by rw [h0, pcell_d ho.2]
  have hw : (PW cA S).set q0 (a, .inr (6, ((List.range (11)).map (pv S 23 a)).set k (va_rf r))) = PW cA (pQ S a k r) := by
    refine pw_set (kmy_D hD) ho.1 h0 ?_ ?_
    · rw [pcell_d (S := pQ S a k r) ho.2]
      rw [map_set (g' := pv (pQ S a k r) 23 a)]
      · intro _; show (if isR 23 k = true then va_rf (u2 (gQ S) a k r a k) else Value.int (gI S a k)) = _; rw [hi, u2_s]; rfl
      · intro j hj
        unfold pv
        rw [show gQ (pQ S a k r) a j = gQ S a j from u2_k hj]
    · intro b hb
      exact pcell_ne (S' := pQ S a k r) rfl rfl rfl (u2_row hb) rfl rfl rfl
  refine va_put hexec hb hts hin ty0 hty hnm hown hK hP hD hS q0 (kmy_at h1) hc k hk hlink (fun _ h9 => h9) hfin hd hn hfit (by simp [hk2]) hdg (fun H1 locs1 a1 a2 a3 => ?_)
  rw [kmy_set h0, hw] at a1 a2
  exact kk H1 locs1 a1 a2 a3
theorem kd_putiF (hexec : p.tables.exec = Jvm.exec) (hb : c.code = cc) {own C : String} {T : u_T} {N index : Nat} {Ts : List Cond} (hts : ∀ w ∈ Ts, w.before args s = true) (hin : ∀ w ∈ u_ws C T N, w ∈ Ts) (ty0 : Nat → FieldType) (hty : ∀ k, k < N → parseFieldDescriptor (T k).2.2.1 = some (ty0 k)) (hnm : ∀ a, a < N → ∀ b, b < N → a ≠ b → (T a).2.1 ≠ (T b).2.1) (hown : s.vm.findClass own = some m.cls) (hK : va_K D vwCl (ty6 cA) s) (hP : va_P D vwCl (PW cA S ++ wb) H) (hD : va_D A (PW cA S ++ wb)) (hS : va_S A H0 H locs) (ho : isO S a 23) (hc : vwCl[6]? = some (C, T, N)) (k : Nat) (hk : k < N) (hk2 : k < 11) (hi : isR 23 k = false) (hlink : (Cond.fieldLink own index (T k).1 (T k).2.1 (T k).2.2.1).before args s = true) (hfin : (T k).2.2.2 = true) (hin2 : meth.name = "<init>") (hdecl : (T k).1 = own) {ty : FieldType} {x : Int32} (hd : parseFieldDescriptor (T k).2.2.1 = some ty) (hn : narrow ty (.int x) = .int x) (hfit : fits ty (.int x) = true) (hdg : decode cc pc = .ok (.putfield index, 3))
    (kk : ∀ (H1 : Heap) (locs1 : List Loc), va_P D vwCl (PW cA (pI S a k x) ++ wb) H1 → va_D A (PW cA (pI S a k x) ++ wb) → va_S A H0 H1 locs1 → W p l e R s m args below meth c H1 locs1 cells slots Q (F0 m (pc + 3) ls rest)) : W p l e R s m args below meth c H locs cells slots Q (F0 m pc ls (.int x :: .ref a :: rest)) := by
  obtain ⟨q0, h0⟩ := pw_get (cA := cA) ho.1
  have h1 : (PW cA S)[q0]? = some (a, .inr (6, (List.range (11)).map (pv S 23 a))) := by rw [h0, pcell_d ho.2]
  have hw : (PW cA S).set q0 (a, .inr (6, ((List.range (11)).map (pv S 23 a)).set k (.int x))) = PW cA (pI S a k x) := by
    refine pw_set (kmy_D hD) ho.1 h0 ?_ ?_
    · rw [pcell_d (S := pI S a k x) ho.2]
      rw [map_set (g' := pv (pI S a k x) 23 a)]
      · intro _; show (if isR 23 k = true then va_rf (gQ S a k) else Value.int (u2 (gI S) a k x a k)) = _; rw [hi, u2_s]; rfl
      · intro j hj
        unfold pv
        rw [show gI (pI S a k x) a j = gI S a j from u2_k hj]
    · intro b hb
      exact pcell_ne (S' := pI S a k x) rfl rfl (u2_row hb) rfl rfl rfl rfl
  refine va_putF hexec hb hts hin ty0 hty hnm hown hK hP hD hS q0 (kmy_at h1) hc k hk hlink (fun _ h9 => h9) hfin hin2 hdecl hd hn hfit (by simp [hk2]) hdg (fun H1 locs1 a1 a2 a3 => ?_)
  rw [kmy_set h0, hw] at a1 a2
  exact kk H1 locs1 a1 a2 a3
theorem kd_putrF (hexec : p.tables.exec = Jvm.exec) (hb : c.code = cc) {own C : String} {T : u_T} {N index : Nat} {Ts : List Cond} (hts : ∀ w ∈ Ts, w.before args s = true) (hin : ∀ w ∈ u_ws C T N, w ∈ Ts) (ty0 : Nat → FieldType) (hty : ∀ k, k < N → parseFieldDescriptor (T k).2.2.1 = some (ty0 k)) (hnm : ∀ a, a < N → ∀ b, b < N → a ≠ b → (T a).2.1 ≠ (T b).2.1) (hown : s.vm.findClass own = some m.cls) (hK : va_K D vwCl (ty6 cA) s) (hP : va_P D vwCl (PW cA S ++ wb) H) (hD : va_D A (PW cA S ++ wb)) (hS : va_S A H0 H locs) (ho : isO S a 23) (hc : vwCl[6]? = some (C, T, N)) (k : Nat) (hk : k < N) (hk2 : k < 11) (hi : isR 23 k = true) (hlink : (Cond.fieldLink own index (T k).1 (T k).2.1 (T k).2.2.1).before args s = true) (hfin : (T k).2.2.2 = true) (hin2 : meth.name = "<init>") (hdecl : (T k).1 = own) {ty : FieldType} {r : Option Nat} (hd : parseFieldDescriptor (T k).2.2.1 = some ty) (hn : narrow ty (va_rf r) = va_rf r) (hfit : fits ty (va_rf r) = true) (hdg : decode cc pc = .ok (.putfield index, 3))
    (kk : ∀ (H1 : Heap) (locs1 : List Loc), va_P D vwCl (PW cA (pQ S a k r) ++ wb) H1 → va_D A (PW cA (pQ S a k r) ++ wb) → va_S A H0 H1 locs1 → W p l e R s m args below meth c H1 locs1 cells slots Q (F0 m (pc + 3) ls rest)) : W p l e R s m args below meth c H locs cells slots Q (F0 m pc ls (va_rf r :: .ref a :: rest)) := by
  obtain ⟨q0, h0⟩ := pw_get (cA := cA) ho.1
  have h1 : (PW cA S)[q0]? = some (a, .inr (6, (List.range (11)).map (pv S 23 a))) := by rw [h0, pcell_d ho.2]
  have hw : (PW cA S).set q0 (a, .inr (6, ((List.range (11)).map (pv S 23 a)).set k (va_rf r))) = PW cA (pQ S a k r) := by
    refine pw_set (kmy_D hD) ho.1 h0 ?_ ?_
    · rw [pcell_d (S := pQ S a k r) ho.2]
      rw [map_set (g' := pv (pQ S a k r) 23 a)]
      · intro _; show (if isR 23 k = true then va_rf (u2 (gQ S) a k r a k) else Value.int (gI S a k)) = _; rw [hi, u2_s]; rfl
      · intro j hj
        unfold pv
        rw [show gQ (pQ S a k r) a j = gQ S a j from u2_k hj]
    · intro b hb
      exact pcell_ne (S' := pQ S a k r) rfl rfl rfl (u2_row hb) rfl rfl rfl
  refine va_putF hexec hb hts hin ty0 hty hnm hown hK hP hD hS q0 (kmy_at h1) hc k hk hlink (fun _ h9 => h9) hfin hin2 hdecl hd hn hfit (by simp [hk2]) hdg (fun H1 locs1 a1 a2 a3 => ?_)
  rw [kmy_set h0, hw] at a1 a2
  exact kk H1 locs1 a1 a2 a3
theorem kd_geti (hexec : p.tables.exec = Jvm.exec) (hb : c.code = cc) {own C : String} {T : u_T} {N index : Nat} {Ts : List Cond} (hts : ∀ w ∈ Ts, w.before args s = true) (hin : ∀ w ∈ u_ws C T N, w ∈ Ts) (hown : s.vm.findClass own = some m.cls) (hK : va_K D vwCl (ty6 cA) s) (hP : va_P D vwCl (PW cA S ++ wb) H) (ho : isO S a 23) (hc : vwCl[6]? = some (C, T, N)) (k : Nat) (hk : k < N) (hk2 : k < 11) (hi : isR 23 k = false) (hlink : (Cond.fieldLink own index (T k).1 (T k).2.1 (T k).2.2.1).before args s = true) (hdg : decode cc pc = .ok (.getfield index, 3))
    (kk : W p l e R s m args below meth c H locs cells slots Q (F0 m (pc + 3) ls (.int (gI S a k) :: rest))) : W p l e R s m args below meth c H locs cells slots Q (F0 m pc ls (.ref a :: rest)) := by
  obtain ⟨q0, h0⟩ := pw_get (cA := cA) ho.1
  rw [pcell_d ho.2] at h0
  refine va_get hexec hb hts hin hown hK (kmy_P hP) q0 h0 hc k hk hlink (fun _ h9 => h9) (v := .int (gI S a k)) ?_ hdg kk
  simp [hk2, pv, hi]
theorem kd_getr (hexec : p.tables.exec = Jvm.exec) (hb : c.code = cc) {own C : String} {T : u_T} {N index : Nat} {Ts : List Cond} (hts : ∀ w ∈ Ts, w.before args s = true) (hin : ∀ w ∈ u_ws C T N, w ∈ Ts) (hown : s.vm.findClass own = some m.cls) (hK : va_K D vwCl (ty6 cA) s) (hP : va_P D vwCl (PW cA S ++ wb) H) (ho : isO S a 23) (hc : vwCl[6]? = some (C, T, N)) (k : Nat) (hk : k < N) (hk2 : k < 11) (hi : isR 23 k = true) {r : Option Nat} (hr : gQ S a k = r) (hlink : (Cond.fieldLink own index (T k).1 (T k).2.1 (T k).2.2.1).before args s = true) (hdg : decode cc pc = .ok (.getfield index, 3))
    (kk : W p l e R s m args below meth c H locs cells slots Q (F0 m (pc + 3) ls (va_rf r :: rest))) : W p l e R s m args below meth c H locs cells slots Q (F0 m pc ls (.ref a :: rest)) := by
  obtain ⟨q0, h0⟩ := pw_get (cA := cA) ho.1
  rw [pcell_d ho.2] at h0
  refine va_get hexec hb hts hin hown hK (kmy_P hP) q0 h0 hc k hk hlink (fun _ h9 => h9) (v := va_rf r) ?_ hdg kk
  simp [hk2, pv, hi, ← hr]
theorem kd_getiv (hexec : p.tables.exec = Jvm.exec) (hb : c.code = cc) {own C : String} {T : u_T} {N index : Nat} {Ts : List Cond} (hts : ∀ w ∈ Ts, w.before args s = true) (hin : ∀ w ∈ u_ws C T N, w ∈ Ts) (hown : s.vm.findClass own = some m.cls) (hK : va_K D vwCl (ty6 cA) s) (hP : va_P D vwCl (PW cA S ++ wb) H) (ho : isO S a 23) (hc : vwCl[6]? = some (C, T, N)) (k : Nat) (hk : k < N) (hk2 : k < 11) (hi : isR 23 k = false) (hlink : (Cond.fieldLink own index (T k).1 (T k).2.1 (T k).2.2.1).before args s = true) {x : Int32} (hx9 : gI S a k = x) (hdg : decode cc pc = .ok (.getfield index, 3))
    (kk : W p l e R s m args below meth c H locs cells slots Q (F0 m (pc + 3) ls (.int x :: rest))) : W p l e R s m args below meth c H locs cells slots Q (F0 m pc ls (.ref a :: rest)) := by
  subst hx9
  exact kd_geti hexec hb hts hin hown hK hP ho hc k hk hk2 hi hlink hdg kk
theorem kd_gets (hexec : p.tables.exec = Jvm.exec) (hb : c.code = cc) {own C : String} {T : u_T} {N index : Nat} {Ts : List Cond} (hts : ∀ w ∈ Ts, w.before args s = true) (hin : ∀ w ∈ u_ws C T N, w ∈ Ts) (hown : s.vm.findClass own = some m.cls) (hK : va_K D vwCl (ty6 cA) s) (hP : va_P D vwCl (PW cA S ++ wb) H) (ho : isO S a 23) (hc : vwCl[6]? = some (C, T, N)) (k : Nat) (hk : k < N) (hk2 : k < 11) (hi : isR 23 k = true) {r : Nat} (hr : gQ S a k = some r) (hlink : (Cond.fieldLink own index (T k).1 (T k).2.1 (T k).2.2.1).before args s = true) (hdg : decode cc pc = .ok (.getfield index, 3))
    (kk : W p l e R s m args below meth c H locs cells slots Q (F0 m (pc + 3) ls (.ref r :: rest))) : W p l e R s m args below meth c H locs cells slots Q (F0 m pc ls (.ref a :: rest)) := kd_getr hexec hb hts hin hown hK hP ho hc k hk hk2 hi hr hlink hdg kk
theorem kd_getz (hexec : p.tables.exec = Jvm.exec) (hb : c.code = cc) {own C : String} {T : u_T} {N index : Nat} {Ts : List Cond} (hts : ∀ w ∈ Ts, w.before args s = true) (hin : ∀ w ∈ u_ws C T N, w ∈ Ts) (hown : s.vm.findClass own = some m.cls) (hK : va_K D vwCl (ty6 cA) s) (hP : va_P D vwCl (PW cA S ++ wb) H) (ho : isO S a 23) (hc : vwCl[6]? = some (C, T, N)) (k : Nat) (hk : k < N) (hk2 : k < 11) (hi : isR 23 k = true) (hr : gQ S a k = none) (hlink : (Cond.fieldLink own index (T k).1 (T k).2.1 (T k).2.2.1).before args s = true) (hdg : decode cc pc = .ok (.getfield index, 3))
    (kk : W p l e R s m args below meth c H locs cells slots Q (F0 m (pc + 3) ls (.null :: rest))) : W p l e R s m args below meth c H locs cells slots Q (F0 m pc ls (.ref a :: rest)) := kd_getr hexec hb hts hin hown hK hP ho hc k hk hk2 hi hr hlink hdg kk
theorem ky_newi (hexec : p.tables.exec = Jvm.exec) (hb : c.code = cc) (harr : (Cond.arrayClass .int).before args s = true) (hK : va_K D vwCl (ty6 cA) s) (hP : va_P D vwCl (PW cA S ++ wb) H) (hD : va_D A (PW cA S ++ wb)) (hS : va_S A H0 H locs) (hA : ∀ q, H0.size ≤ q → A q)
    (ki : Nat) (h6 : 6 ≤ ki) (h20 : ki < 20) {n : Int32} {N' : Nat} (hn : ¬ n < 0) (hN : n.toNatClampNeg = N') (hbytes : N' * 4 ≤ 536870912) (hcells : cells + 1 ≤ R.cells) (hslots : slots + N' ≤ R.slots) (hdg : decode cc pc = .ok (.newarray .int, 2))
    (kk : ∀ (q : Nat) (H1 : Heap), q ∉ gL S → va_P D vwCl (PW cA (pW S q ki N') ++ wb) H1 → va_D A (PW cA (pW S q ki N') ++ wb) → va_S A H0 H1 locs →
      W p l e R s m args below meth c H1 locs (cells + 1) (slots + N') Q (F0 m (pc + 2) ls (.ref q :: rest))) : W p l e R s m args below meth c H locs cells slots Q (F0 m pc ls (.int n :: rest)) := by
  refine va_newa (atype := .int) (ty := .int) hexec hb harr rfl hK hP hD hS hA (a0 := (N', .inl (fun _ => 0))) (fun _ => rfl) hn hN hbytes hcells hslots hdg (fun q c1 H1 b0 a1 a2 a3 => ?_)
  have e : c1 = cA 0 := kx_arrI (b0.2 8 _ rfl).2 (hK.2 0 _ rfl).2
  subst e
  have hg : pcell cA (pW S q ki N') q = .inl (cA 0, N', .inl (fun _ => 0)) := by
    rw [pcell_i (S := pW S q ki N') (ci := ki) up_s h6 h20]
    rw [show gN (pW S q ki N') q = N' from up_s]
    rw [show gR (pW S q ki N') q = fun _ => 0 from by funext j; exact (show u1 (gR S) q (fun _ => 0) q j = 0 from u1_s)]
  have a1 := kj_P kmy_perm a1
  have a2 := kj_D kmy_perm a2
  obtain ⟨h1, h2⟩ := pw_new (g := pcell cA (pW S q ki N')) (kmy_D a2) hg (fun b hb => pcell_ne (S' := pW S q ki N') (up_ne hb) (up_ne hb) (u1_row hb) (u1_row hb) (u1_row hb) (u1_row hb) (u1_row hb))
  rw [h2] at a1 a2
  exact kk q H1 h1 a1 a2 a3
theorem ky_alda (hexec : p.tables.exec = Jvm.exec) (hb : c.code = cc) (hK : va_K D vwCl (ty6 cA) s) (hP : va_P D vwCl (PW cA S ++ wb) H) {n : Nat} (ho : isA S a 24 n) {i : Int32} (hin : vp_in i n) {r : Option Nat} (hr : gP S a i.toNatClampNeg = r) (hdg : decode cc pc = .ok (.aaload, 1))
    (kk : W p l e R s m args below meth c H locs cells slots Q (F0 m (pc + 1) ls (va_rf r :: rest))) : W p l e R s m args below meth c H locs cells slots Q (F0 m pc ls (.int i :: .ref a :: rest)) := by
  obtain ⟨q0, h0⟩ := pw_get (cA := cA) ho.1
  rw [pcell_a ho.2.1] at h0
  subst hr
  exact va_alda hexec hb hK hP q0 6 (kmy_at h0) rfl (by rw [ho.2.2]; exact hin) hdg kk
theorem ky_aldb (hexec : p.tables.exec = Jvm.exec) (hb : c.code = cc) (hK : va_K D vwCl (ty6 cA) s) (hP : va_P D vwCl (PW cA S ++ wb) H) {n : Nat} (ho : isA S a 25 n) {i : Int32} (hin : vp_in i n) {r : Option Nat} (hr : gP S a i.toNatClampNeg = r) (hdg : decode cc pc = .ok (.aaload, 1))
    (kk : W p l e R s m args below meth c H locs cells slots Q (F0 m (pc + 1) ls (va_rf r :: rest))) : W p l e R s m args below meth c H locs cells slots Q (F0 m pc ls (.int i :: .ref a :: rest)) := by
  obtain ⟨q0, h0⟩ := pw_get (cA := cA) ho.1
  rw [pcell_b ho.2.1] at h0
  subst hr
  exact va_alda hexec hb hK hP q0 7 (kmy_at h0) rfl (by rw [ho.2.2]; exact hin) hdg kk
theorem ky_asta (hexec : p.tables.exec = Jvm.exec) (hb : c.code = cc) (hP : va_P D vwCl (PW cA S ++ wb) H) (hD : va_D A (PW cA S ++ wb)) (hS : va_S A H0 H locs) {n v : Nat} (ho : isA S a 24 n) {ki nv : Nat} (hv : isA S v ki nv) (h6 : 6 ≤ ki) (h20 : ki < 20) (hR : va_RR s (cA 6) (cA 0) .int) {i : Int32} (hin : vp_in i n) (hdg : decode cc pc = .ok (.aastore, 1))
    (kk : ∀ (H1 : Heap) (locs1 : List Loc), va_P D vwCl (PW cA (pP S a i.toNatClampNeg (some v)) ++ wb) H1 → va_D A (PW cA (pP S a i.toNatClampNeg (some v)) ++ wb) → va_S A H0 H1 locs1 → W p l e R s m args below meth c H1 locs1 cells slots Q (F0 m (pc + 1) ls rest)) : W p l e R s m args below meth c H locs cells slots Q (F0 m pc ls (.ref v :: .int i :: .ref a :: rest)) := by
  obtain ⟨q0, h0⟩ := pw_get (cA := cA) ho.1
  obtain ⟨qk, hk⟩ := pw_get (cA := cA) hv.1
  have h1 : (PW cA S)[q0]? = some (a, .inl (cA 6, gN S a, .inr (.inr (.inr (.inr (gP S a)))))) := by rw [h0, pcell_a ho.2.1]
  have hk1 : (PW cA S)[qk]? = some (v, .inl (cA 0, gN S v, .inl (gR S v))) := by rw [hk, pcell_i hv.2.1 h6 h20]
  have hw : (PW cA S).set q0 (a, .inl (cA 6, gN S a, .inr (.inr (.inr (.inr (va_up (gP S a) i.toNatClampNeg (some v))))))) = PW cA (pP S a i.toNatClampNeg (some v)) := by
    refine pw_set (kmy_D hD) ho.1 h0 ?_ ?_
    · rw [pcell_a (S := pP S a i.toNatClampNeg (some v)) ho.2.1, show gP (pP S a i.toNatClampNeg (some v)) a = va_up (gP S a) i.toNatClampNeg (some v) from u2_updP]
    · intro b hb
      exact pcell_ne (S' := pP S a i.toNatClampNeg (some v)) rfl rfl rfl rfl rfl rfl (u2_row hb)
  refine va_asta hexec hb hP hD hS q0 qk (kmy_at h1) hR (kmy_at hk1) (by rw [ho.2.2]; exact hin) hdg (fun H1 locs1 a1 a2 a3 => ?_)
  rw [kmy_set h0, hw] at a1 a2
  exact kk H1 locs1 a1 a2 a3
theorem ky_astb (hexec : p.tables.exec = Jvm.exec) (hb : c.code = cc) (hP : va_P D vwCl (PW cA S ++ wb) H) (hD : va_D A (PW cA S ++ wb)) (hS : va_S A H0 H locs) {n v : Nat} (ho : isA S a 25 n) {nv : Nat} (hv : isA S v 24 nv) (hR : va_RR s (cA 7) (cA 6) (.array .int)) {i : Int32} (hin : vp_in i n) (hdg : decode cc pc = .ok (.aastore, 1))
    (kk : ∀ (H1 : Heap) (locs1 : List Loc), va_P D vwCl (PW cA (pP S a i.toNatClampNeg (some v)) ++ wb) H1 → va_D A (PW cA (pP S a i.toNatClampNeg (some v)) ++ wb) → va_S A H0 H1 locs1 → W p l e R s m args below meth c H1 locs1 cells slots Q (F0 m (pc + 1) ls rest)) : W p l e R s m args below meth c H locs cells slots Q (F0 m pc ls (.ref v :: .int i :: .ref a :: rest)) := by
  obtain ⟨q0, h0⟩ := pw_get (cA := cA) ho.1
  obtain ⟨qk, hk⟩ := pw_get (cA := cA) hv.1
  have h1 : (PW cA S)[q0]? = some (a, .inl (cA 7, gN S a, .inr (.inr (.inr (.inr (gP S a)))))) := by rw [h0, pcell_b ho.2.1]
  have hk1 : (PW cA S)[qk]? = some (v, .inl (cA 6, gN S v, .inr (.inr (.inr (.inr (gP S v)))))) := by rw [hk, pcell_a hv.2.1]
  have hw : (PW cA S).set q0 (a, .inl (cA 7, gN S a, .inr (.inr (.inr (.inr (va_up (gP S a) i.toNatClampNeg (some v))))))) = PW cA (pP S a i.toNatClampNeg (some v)) := by
    refine pw_set (kmy_D hD) ho.1 h0 ?_ ?_
    · rw [pcell_b (S := pP S a i.toNatClampNeg (some v)) ho.2.1, show gP (pP S a i.toNatClampNeg (some v)) a = va_up (gP S a) i.toNatClampNeg (some v) from u2_updP]
    · intro b hb
      exact pcell_ne (S' := pP S a i.toNatClampNeg (some v)) rfl rfl rfl rfl rfl rfl (u2_row hb)
  refine va_asta hexec hb hP hD hS q0 qk (kmy_at h1) hR (kmy_at hk1) (by rw [ho.2.2]; exact hin) hdg (fun H1 locs1 a1 a2 a3 => ?_)
  rw [kmy_set h0, hw] at a1 a2
  exact kk H1 locs1 a1 a2 a3
theorem ky_newa (hexec : p.tables.exec = Jvm.exec) (hb : c.code = cc) {own : String} {index : Nat} (hown : s.vm.findClass own = some m.cls) (hclink : (Cond.classLink own index (FieldType.array .int).toString).before args s = true) (hover : (Cond.arrayOver (.array .int)).before args s = true) (hK : va_K D vwCl (ty6 cA) s) (hP : va_P D vwCl (PW cA S ++ wb) H) (hD : va_D A (PW cA S ++ wb)) (hS : va_S A H0 H locs) (hA : ∀ q, H0.size ≤ q → A q)
    {n : Int32} {N' : Nat} (hn : ¬ n < 0) (hN : n.toNatClampNeg = N') (hbytes : N' * 4 ≤ 536870912) (hcells : cells + 1 ≤ R.cells) (hslots : slots + N' ≤ R.slots) (hdg : decode cc pc = .ok (.anewarray index, 3))
    (kk : ∀ (q : Nat) (H1 : Heap), q ∉ gL S → va_P D vwCl (PW cA (pW S q 24 N') ++ wb) H1 → va_D A (PW cA (pW S q 24 N') ++ wb) → va_S A H0 H1 locs →
      W p l e R s m args below meth c H1 locs (cells + 1) (slots + N') Q (F0 m (pc + 3) ls (.ref q :: rest))) : W p l e R s m args below meth c H locs cells slots Q (F0 m pc ls (.int n :: rest)) := by
  refine va_newqa hexec hb hown hclink hover hK hP hD hS hA hn hN hbytes hcells hslots hdg (fun q c1 H1 f1 a1 a2 a3 => ?_)
  have e : c1 = cA 6 := Option.some.inj (f1.symm.trans (show _ = some (cA 6) from (hK.2 6 _ rfl).2))
  subst e
  have hg : pcell cA (pW S q 24 N') q = .inl (cA 6, N', .inr (.inr (.inr (.inr (fun _ => none))))) := by
    rw [pcell_a (S := pW S q 24 N') up_s]
    rw [show gN (pW S q 24 N') q = N' from up_s]
    rw [show gP (pW S q 24 N') q = fun _ => none from by funext j; exact (show u1 (gP S) q (fun _ => none) q j = none from u1_s)]
  have a1 := kj_P kmy_perm a1
  have a2 := kj_D kmy_perm a2
  obtain ⟨h1, h2⟩ := pw_new (g := pcell cA (pW S q 24 N')) (kmy_D a2) hg (fun b hb => pcell_ne (S' := pW S q 24 N') (up_ne hb) (up_ne hb) (u1_row hb) (u1_row hb) (u1_row hb) (u1_row hb) (u1_row hb))
  rw [h2] at a1 a2
  exact kk q H1 h1 a1 a2 a3
end KY
