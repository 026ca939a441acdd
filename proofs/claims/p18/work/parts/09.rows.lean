/-! rows over the pool -/
section KX
variable {p : Program} {l : Launch} {e : Env} {R : Room} {s : State} {m : MethodId} {args : Array Value} {below : List Frame} {meth : Method} {c : Code} {H : Heap} {locs : List Loc} {cells slots : Nat} {Q : State → Prop}
variable {cc : ByteArray} {pc : Nat} {ls : Array Slot} {rest : List Value} {D : va_G} {A : Nat → Prop} {a : Nat} {H0 : Heap} {cA : Nat → ClassId} {S : Pool}
theorem kx_geti (hexec : p.tables.exec = Jvm.exec) (hb : c.code = cc) {own C : String} {T : u_T} {N ci index : Nat} {Ts : List Cond} (hts : ∀ w ∈ Ts, w.before args s = true) (hin : ∀ w ∈ u_ws C T N, w ∈ Ts) (hown : s.vm.findClass own = some m.cls) (hK : va_K D vwCl (ty6 cA) s) (hP : va_P D vwCl (PW cA S) H) (ho : isO S a ci) (hci : ci < 6) (hc : vwCl[ci]? = some (C, T, N)) (k : Nat) (hk : k < N) (hk2 : k < nf ci) (hi : isR ci k = false) (hlink : (Cond.fieldLink own index (T k).1 (T k).2.1 (T k).2.2.1).before args s = true) (hdg : decode cc pc = .ok (.getfield index, 3))
    (kk : W p l e R s m args below meth c H locs cells slots Q (F0 m (pc + 3) ls (.int (gI S a k) :: rest))) : W p l e R s m args below meth c H locs cells slots Q (F0 m pc ls (.ref a :: rest)) := by
  obtain ⟨q0, h0⟩ := pw_get (cA := cA) ho.1
  rw [pcell_o ho.2 hci] at h0
  refine va_get hexec hb hts hin hown hK hP q0 h0 hc k hk hlink (fun _ h9 => h9) (v := .int (gI S a k)) ?_ hdg kk
  simp [hk2, pv, hi]
theorem kx_getr (hexec : p.tables.exec = Jvm.exec) (hb : c.code = cc) {own C : String} {T : u_T} {N ci index : Nat} {Ts : List Cond} (hts : ∀ w ∈ Ts, w.before args s = true) (hin : ∀ w ∈ u_ws C T N, w ∈ Ts) (hown : s.vm.findClass own = some m.cls) (hK : va_K D vwCl (ty6 cA) s) (hP : va_P D vwCl (PW cA S) H) (ho : isO S a ci) (hci : ci < 6) (hc : vwCl[ci]? = some (C, T, N)) (k : Nat) (hk : k < N) (hk2 : k < nf ci) (hi : isR ci k = true) {r : Option Nat} (hr : gQ S a k = r) (hlink : (Cond.fieldLink own index (T k).1 (T k).2.1 (T k).2.2.1).before args s = true) (hdg : decode cc pc = .ok (.getfield index, 3))
    (kk : W p l e R s m args below meth c H locs cells slots Q (F0 m (pc + 3) ls (va_rf r :: rest))) : W p l e R s m args below meth c H locs cells slots Q (F0 m pc ls (.ref a :: rest)) := by
  obtain ⟨q0, h0⟩ := pw_get (cA := cA) ho.1
  rw [pcell_o ho.2 hci] at h0
  refine va_get hexec hb hts hin hown hK hP q0 h0 hc k hk hlink (fun _ h9 => h9) (v := va_rf r) ?_ hdg kk
  simp [hk2, pv, hi, ← hr]
theorem kx_puti (hexec : p.tables.exec = Jvm.exec) (hb : c.code = cc) {own C : String} {T : u_T} {N ci index : Nat} {Ts : List Cond} (hts : ∀ w ∈ Ts, w.before args s = true) (hin : ∀ w ∈ u_ws C T N, w ∈ Ts) (ty0 : Nat → FieldType) (hty : ∀ k, k < N → parseFieldDescriptor (T k).2.2.1 = some (ty0 k)) (hnm : ∀ a, a < N → ∀ b, b < N → a ≠ b → (T a).2.1 ≠ (T b).2.1) (hown : s.vm.findClass own = some m.cls) (hK : va_K D vwCl (ty6 cA) s) (hP : va_P D vwCl (PW cA S) H) (hD : va_D A (PW cA S)) (hS : va_S A H0 H locs) (ho : isO S a ci) (hci : ci < 6) (hc : vwCl[ci]? = some (C, T, N)) (k : Nat) (hk : k < N) (hk2 : k < nf ci) (hi : isR ci k = false) (hlink : (Cond.fieldLink own index (T k).1 (T k).2.1 (T k).2.2.1).before args s = true) (hfin : (T k).2.2.2 = false) {ty : FieldType} {x : Int32} (hd : parseFieldDescriptor (T k).2.2.1 = some ty) (hn : narrow ty (.int x) = .int x) (hfit : fits ty (.int x) = true) (hdg : decode cc pc = .ok (.putfield index, 3))
    (kk : ∀ (H1 : Heap) (locs1 : List Loc), va_P D vwCl (PW cA (pI S a k x)) H1 → va_D A (PW cA (pI S a k x)) → va_S A H0 H1 locs1 → W p l e R s m args below meth c H1 locs1 cells slots Q (F0 m (pc + 3) ls rest)) : W p l e R s m args below meth c H locs cells slots Q (F0 m pc ls (.int x :: .ref a :: rest)) := by
  obtain ⟨q0, h0⟩ := pw_get (cA := cA) ho.1
  have h1 : (PW cA S)[q0]? = some (a, .inr (ci, (List.range (nf ci)).map (pv S ci a))) := by rw [h0, pcell_o ho.2 hci]
  have hw : (PW cA S).set q0 (a, .inr (ci, ((List.range (nf ci)).map (pv S ci a)).set k (.int x))) = PW cA (pI S a k x) := by
    refine pw_set hD ho.1 h0 ?_ ?_
    · rw [pcell_o (S := pI S a k x) ho.2 hci]
      rw [map_set (g' := pv (pI S a k x) ci a)]
      · intro _; show (if isR ci k = true then va_rf (gQ S a k) else Value.int (u2 (gI S) a k x a k)) = _; rw [hi, u2_s]; rfl
      · intro j hj
        unfold pv
        rw [show gI (pI S a k x) a j = gI S a j from u2_k hj]
    · intro b hb
      exact pcell_ne (S' := pI S a k x) rfl rfl (u2_row hb) rfl rfl rfl rfl
  refine va_put hexec hb hts hin ty0 hty hnm hown hK hP hD hS q0 h1 hc k hk hlink (fun _ h9 => h9) hfin hd hn hfit (by simp [hk2]) hdg (fun H1 locs1 a1 a2 a3 => ?_)
  rw [hw] at a1 a2
  exact kk H1 locs1 a1 a2 a3
theorem kx_putr (hexec : p.tables.exec = Jvm.exec) (hb : c.code = cc) {own C : String} {T : u_T} {N ci index : Nat} {Ts : List Cond} (hts : ∀ w ∈ Ts, w.before args s = true) (hin : ∀ w ∈ u_ws C T N, w ∈ Ts) (ty0 : Nat → FieldType) (hty : ∀ k, k < N → parseFieldDescriptor (T k).2.2.1 = some (ty0 k)) (hnm : ∀ a, a < N → ∀ b, b < N → a ≠ b → (T a).2.1 ≠ (T b).2.1) (hown : s.vm.findClass own = some m.cls) (hK : va_K D vwCl (ty6 cA) s) (hP : va_P D vwCl (PW cA S) H) (hD : va_D A (PW cA S)) (hS : va_S A H0 H locs) (ho : isO S a ci) (hci : ci < 6) (hc : vwCl[ci]? = some (C, T, N)) (k : Nat) (hk : k < N) (hk2 : k < nf ci) (hi : isR ci k = true) (hlink : (Cond.fieldLink own index (T k).1 (T k).2.1 (T k).2.2.1).before args s = true) (hfin : (T k).2.2.2 = false) {ty : FieldType} {r : Option Nat} (hd : parseFieldDescriptor (T k).2.2.1 = some ty) (hn : narrow ty (va_rf r) = va_rf r) (hfit : fits ty (va_rf r) = true) (hdg : decode cc pc = .ok (.putfield index, 3))
    (kk : ∀ (H1 : Heap) (locs1 : List Loc), va_P D vwCl (PW cA (pQ S a k r)) H1 → va_D A (PW cA (pQ S a k r)) → va_S A H0 H1 locs1 → W p l e R s m args below meth c H1 locs1 cells slots Q (F0 m (pc + 3) ls rest)) : W p l e R s m args below meth c H locs cells slots Q (F0 m pc ls (va_rf r :: .ref a :: rest)) := by
  obtain ⟨q0, h0⟩ := pw_get (cA := cA) ho.1
  have h1 : (PW cA S)[q0]? = some (a, .inr (ci, (List.range (nf ci)).map (pv S ci a))) := by rw [h0, pcell_o ho.2 hci]
  have hw : (PW cA S).set q0 (a, .inr (ci, ((List.range (nf ci)).map (pv S ci a)).set k (va_rf r))) = PW cA (pQ S a k r) := by
    refine pw_set hD ho.1 h0 ?_ ?_
    · rw [pcell_o (S := pQ S a k r) ho.2 hci]
      rw [map_set (g' := pv (pQ S a k r) ci a)]
      · intro _; show (if isR ci k = true then va_rf (u2 (gQ S) a k r a k) else Value.int (gI S a k)) = _; rw [hi, u2_s]; rfl
      · intro j hj
        unfold pv
        rw [show gQ (pQ S a k r) a j = gQ S a j from u2_k hj]
    · intro b hb
      exact pcell_ne (S' := pQ S a k r) rfl rfl rfl (u2_row hb) rfl rfl rfl
  refine va_put hexec hb hts hin ty0 hty hnm hown hK hP hD hS q0 h1 hc k hk hlink (fun _ h9 => h9) hfin hd hn hfit (by simp [hk2]) hdg (fun H1 locs1 a1 a2 a3 => ?_)
  rw [hw] at a1 a2
  exact kk H1 locs1 a1 a2 a3
theorem kx_putiF (hexec : p.tables.exec = Jvm.exec) (hb : c.code = cc) {own C : String} {T : u_T} {N ci index : Nat} {Ts : List Cond} (hts : ∀ w ∈ Ts, w.before args s = true) (hin : ∀ w ∈ u_ws C T N, w ∈ Ts) (ty0 : Nat → FieldType) (hty : ∀ k, k < N → parseFieldDescriptor (T k).2.2.1 = some (ty0 k)) (hnm : ∀ a, a < N → ∀ b, b < N → a ≠ b → (T a).2.1 ≠ (T b).2.1) (hown : s.vm.findClass own = some m.cls) (hK : va_K D vwCl (ty6 cA) s) (hP : va_P D vwCl (PW cA S) H) (hD : va_D A (PW cA S)) (hS : va_S A H0 H locs) (ho : isO S a ci) (hci : ci < 6) (hc : vwCl[ci]? = some (C, T, N)) (k : Nat) (hk : k < N) (hk2 : k < nf ci) (hi : isR ci k = false) (hlink : (Cond.fieldLink own index (T k).1 (T k).2.1 (T k).2.2.1).before args s = true) (hfin : (T k).2.2.2 = true) (hin2 : meth.name = "<init>") (hdecl : (T k).1 = own) {ty : FieldType} {x : Int32} (hd : parseFieldDescriptor (T k).2.2.1 = some ty) (hn : narrow ty (.int x) = .int x) (hfit : fits ty (.int x) = true) (hdg : decode cc pc = .ok (.putfield index, 3))
    (kk : ∀ (H1 : Heap) (locs1 : List Loc), va_P D vwCl (PW cA (pI S a k x)) H1 → va_D A (PW cA (pI S a k x)) → va_S A H0 H1 locs1 → W p l e R s m args below meth c H1 locs1 cells slots Q (F0 m (pc + 3) ls rest)) : W p l e R s m args below meth c H locs cells slots Q (F0 m pc ls (.int x :: .ref a :: rest)) := by
  obtain ⟨q0, h0⟩ := pw_get (cA := cA) ho.1
  have h1 : (PW cA S)[q0]? = some (a, .inr (ci, (List.range (nf ci)).map (pv S ci a))) := by rw [h0, pcell_o ho.2 hci]
  have hw : (PW cA S).set q0 (a, .inr (ci, ((List.range (nf ci)).map (pv S ci a)).set k (.int x))) = PW cA (pI S a k x) := by
    refine pw_set hD ho.1 h0 ?_ ?_
    · rw [pcell_o (S := pI S a k x) ho.2 hci]
      rw [map_set (g' := pv (pI S a k x) ci a)]
      · intro _; show (if isR ci k = true then va_rf (gQ S a k) else Value.int (u2 (gI S) a k x a k)) = _; rw [hi, u2_s]; rfl
      · intro j hj
        unfold pv
        rw [show gI (pI S a k x) a j = gI S a j from u2_k hj]
    · intro b hb
      exact pcell_ne (S' := pI S a k x) rfl rfl (u2_row hb) rfl rfl rfl rfl
  refine va_putF hexec hb hts hin ty0 hty hnm hown hK hP hD hS q0 h1 hc k hk hlink (fun _ h9 => h9) hfin hin2 hdecl hd hn hfit (by simp [hk2]) hdg (fun H1 locs1 a1 a2 a3 => ?_)
  rw [hw] at a1 a2
  exact kk H1 locs1 a1 a2 a3
theorem kx_putrF (hexec : p.tables.exec = Jvm.exec) (hb : c.code = cc) {own C : String} {T : u_T} {N ci index : Nat} {Ts : List Cond} (hts : ∀ w ∈ Ts, w.before args s = true) (hin : ∀ w ∈ u_ws C T N, w ∈ Ts) (ty0 : Nat → FieldType) (hty : ∀ k, k < N → parseFieldDescriptor (T k).2.2.1 = some (ty0 k)) (hnm : ∀ a, a < N → ∀ b, b < N → a ≠ b → (T a).2.1 ≠ (T b).2.1) (hown : s.vm.findClass own = some m.cls) (hK : va_K D vwCl (ty6 cA) s) (hP : va_P D vwCl (PW cA S) H) (hD : va_D A (PW cA S)) (hS : va_S A H0 H locs) (ho : isO S a ci) (hci : ci < 6) (hc : vwCl[ci]? = some (C, T, N)) (k : Nat) (hk : k < N) (hk2 : k < nf ci) (hi : isR ci k = true) (hlink : (Cond.fieldLink own index (T k).1 (T k).2.1 (T k).2.2.1).before args s = true) (hfin : (T k).2.2.2 = true) (hin2 : meth.name = "<init>") (hdecl : (T k).1 = own) {ty : FieldType} {r : Option Nat} (hd : parseFieldDescriptor (T k).2.2.1 = some ty) (hn : narrow ty (va_rf r) = va_rf r) (hfit : fits ty (va_rf r) = true) (hdg : decode cc pc = .ok (.putfield index, 3))
    (kk : ∀ (H1 : Heap) (locs1 : List Loc), va_P D vwCl (PW cA (pQ S a k r)) H1 → va_D A (PW cA (pQ S a k r)) → va_S A H0 H1 locs1 → W p l e R s m args below meth c H1 locs1 cells slots Q (F0 m (pc + 3) ls rest)) : W p l e R s m args below meth c H locs cells slots Q (F0 m pc ls (va_rf r :: .ref a :: rest)) := by
  obtain ⟨q0, h0⟩ := pw_get (cA := cA) ho.1
  have h1 : (PW cA S)[q0]? = some (a, .inr (ci, (List.range (nf ci)).map (pv S ci a))) := by rw [h0, pcell_o ho.2 hci]
  have hw : (PW cA S).set q0 (a, .inr (ci, ((List.range (nf ci)).map (pv S ci a)).set k (va_rf r))) = PW cA (pQ S a k r) := by
    refine pw_set hD ho.1 h0 ?_ ?_
    · rw [pcell_o (S := pQ S a k r) ho.2 hci]
      rw [map_set (g' := pv (pQ S a k r) ci a)]
      · intro _; show (if isR ci k = true then va_rf (u2 (gQ S) a k r a k) else Value.int (gI S a k)) = _; rw [hi, u2_s]; rfl
      · intro j hj
        unfold pv
        rw [show gQ (pQ S a k r) a j = gQ S a j from u2_k hj]
    · intro b hb
      exact pcell_ne (S' := pQ S a k r) rfl rfl rfl (u2_row hb) rfl rfl rfl
  refine va_putF hexec hb hts hin ty0 hty hnm hown hK hP hD hS q0 h1 hc k hk hlink (fun _ h9 => h9) hfin hin2 hdecl hd hn hfit (by simp [hk2]) hdg (fun H1 locs1 a1 a2 a3 => ?_)
  rw [hw] at a1 a2
  exact kk H1 locs1 a1 a2 a3
/-- rows of ints -/
theorem kx_iald (hexec : p.tables.exec = Jvm.exec) (hb : c.code = cc) (hK : va_K D vwCl (ty6 cA) s) (hP : va_P D vwCl (PW cA S) H) {ki n : Nat} (ho : isA S a ki n) (h6 : 6 ≤ ki) (h20 : ki < 20) {i : Int32} (hin : vp_in i n) (hdg : decode cc pc = .ok (.iaload, 1))
    (kk : W p l e R s m args below meth c H locs cells slots Q (F0 m (pc + 1) ls (.int (gR S a i.toNatClampNeg) :: rest))) : W p l e R s m args below meth c H locs cells slots Q (F0 m pc ls (.int i :: .ref a :: rest)) := by
  obtain ⟨q0, h0⟩ := pw_get (cA := cA) ho.1
  rw [pcell_i ho.2.1 h6 h20] at h0
  exact va_iald hexec hb hK hP q0 0 h0 rfl (by rw [ho.2.2]; exact hin) hdg kk
theorem kx_iast (hexec : p.tables.exec = Jvm.exec) (hb : c.code = cc) (hK : va_K D vwCl (ty6 cA) s) (hP : va_P D vwCl (PW cA S) H) (hD : va_D A (PW cA S)) (hS : va_S A H0 H locs) {ki n : Nat} (ho : isA S a ki n) (h6 : 6 ≤ ki) (h20 : ki < 20) {i x : Int32} (hin : vp_in i n) (hdg : decode cc pc = .ok (.iastore, 1))
    (kk : ∀ (H1 : Heap) (locs1 : List Loc), va_P D vwCl (PW cA (pR S a i.toNatClampNeg x)) H1 → va_D A (PW cA (pR S a i.toNatClampNeg x)) → va_S A H0 H1 locs1 → W p l e R s m args below meth c H1 locs1 cells slots Q (F0 m (pc + 1) ls rest)) : W p l e R s m args below meth c H locs cells slots Q (F0 m pc ls (.int x :: .int i :: .ref a :: rest)) := by
  obtain ⟨q0, h0⟩ := pw_get (cA := cA) ho.1
  have h1 : (PW cA S)[q0]? = some (a, .inl (cA 0, gN S a, .inl (gR S a))) := by rw [h0, pcell_i ho.2.1 h6 h20]
  have hw : (PW cA S).set q0 (a, .inl (cA 0, gN S a, .inl (upd (gR S a) i.toNatClampNeg x))) = PW cA (pR S a i.toNatClampNeg x) := by
    refine pw_set hD ho.1 h0 ?_ ?_
    · rw [pcell_i (S := pR S a i.toNatClampNeg x) ho.2.1 h6 h20, show gR (pR S a i.toNatClampNeg x) a = upd (gR S a) i.toNatClampNeg x from u2_upd]
    · intro b hb
      exact pcell_ne (S' := pR S a i.toNatClampNeg x) rfl rfl rfl rfl (u2_row hb) rfl rfl
  refine va_iast hexec hb hK hP hD hS q0 0 h1 rfl (by rw [ho.2.2]; exact hin) hdg (fun H1 locs1 a1 a2 a3 => ?_)
  rw [hw] at a1 a2
  exact kk H1 locs1 a1 a2 a3
theorem kx_lald (hexec : p.tables.exec = Jvm.exec) (hb : c.code = cc) (hK : va_K D vwCl (ty6 cA) s) (hP : va_P D vwCl (PW cA S) H) {n : Nat} (ho : isA S a 20 n) {i : Int32} (hin : vp_in i n) (hdg : decode cc pc = .ok (.laload, 1))
    (kk : W p l e R s m args below meth c H locs cells slots Q (F0 m (pc + 1) ls (.long (gJ S a i.toNatClampNeg) :: rest))) : W p l e R s m args below meth c H locs cells slots Q (F0 m pc ls (.int i :: .ref a :: rest)) := by
  obtain ⟨q0, h0⟩ := pw_get (cA := cA) ho.1
  rw [pcell_j ho.2.1] at h0
  exact va_lald hexec hb hK hP q0 1 h0 rfl (by rw [ho.2.2]; exact hin) hdg kk
theorem kx_last (hexec : p.tables.exec = Jvm.exec) (hb : c.code = cc) (hK : va_K D vwCl (ty6 cA) s) (hP : va_P D vwCl (PW cA S) H) (hD : va_D A (PW cA S)) (hS : va_S A H0 H locs) {n : Nat} (ho : isA S a 20 n) {i : Int32} {x : Int64} (hin : vp_in i n) (hdg : decode cc pc = .ok (.lastore, 1))
    (kk : ∀ (H1 : Heap) (locs1 : List Loc), va_P D vwCl (PW cA (pJ S a i.toNatClampNeg x)) H1 → va_D A (PW cA (pJ S a i.toNatClampNeg x)) → va_S A H0 H1 locs1 → W p l e R s m args below meth c H1 locs1 cells slots Q (F0 m (pc + 1) ls rest)) : W p l e R s m args below meth c H locs cells slots Q (F0 m pc ls (.long x :: .int i :: .ref a :: rest)) := by
  obtain ⟨q0, h0⟩ := pw_get (cA := cA) ho.1
  have h1 : (PW cA S)[q0]? = some (a, .inl (cA 1, gN S a, .inr (.inl (gJ S a)))) := by rw [h0, pcell_j ho.2.1]
  have hw : (PW cA S).set q0 (a, .inl (cA 1, gN S a, .inr (.inl (vp_updL (gJ S a) i.toNatClampNeg x)))) = PW cA (pJ S a i.toNatClampNeg x) := by
    refine pw_set hD ho.1 h0 ?_ ?_
    · rw [pcell_j (S := pJ S a i.toNatClampNeg x) ho.2.1, show gJ (pJ S a i.toNatClampNeg x) a = vp_updL (gJ S a) i.toNatClampNeg x from u2_updL]
    · intro b hb
      exact pcell_ne (S' := pJ S a i.toNatClampNeg x) rfl rfl rfl rfl rfl (u2_row hb) rfl
  refine va_last hexec hb hK hP hD hS q0 1 h1 rfl (by rw [ho.2.2]; exact hin) hdg (fun H1 locs1 a1 a2 a3 => ?_)
  rw [hw] at a1 a2
  exact kk H1 locs1 a1 a2 a3
/-- rows of Rules (kind 21), of Switches (kind 22) -/
theorem kx_aldr (hexec : p.tables.exec = Jvm.exec) (hb : c.code = cc) (hK : va_K D vwCl (ty6 cA) s) (hP : va_P D vwCl (PW cA S) H) {n : Nat} (ho : isA S a 21 n) {i : Int32} (hin : vp_in i n) {r : Option Nat} (hr : gP S a i.toNatClampNeg = r) (hdg : decode cc pc = .ok (.aaload, 1))
    (kk : W p l e R s m args below meth c H locs cells slots Q (F0 m (pc + 1) ls (va_rf r :: rest))) : W p l e R s m args below meth c H locs cells slots Q (F0 m pc ls (.int i :: .ref a :: rest)) := by
  obtain ⟨q0, h0⟩ := pw_get (cA := cA) ho.1
  rw [pcell_r ho.2.1] at h0
  subst hr
  exact va_aldq hexec hb hK hP q0 4 h0 rfl (by rw [ho.2.2]; exact hin) hdg kk
theorem kx_alds (hexec : p.tables.exec = Jvm.exec) (hb : c.code = cc) (hK : va_K D vwCl (ty6 cA) s) (hP : va_P D vwCl (PW cA S) H) {n : Nat} (ho : isA S a 22 n) {i : Int32} (hin : vp_in i n) {r : Option Nat} (hr : gP S a i.toNatClampNeg = r) (hdg : decode cc pc = .ok (.aaload, 1))
    (kk : W p l e R s m args below meth c H locs cells slots Q (F0 m (pc + 1) ls (va_rf r :: rest))) : W p l e R s m args below meth c H locs cells slots Q (F0 m pc ls (.int i :: .ref a :: rest)) := by
  obtain ⟨q0, h0⟩ := pw_get (cA := cA) ho.1
  rw [pcell_s ho.2.1] at h0
  subst hr
  exact va_aldq hexec hb hK hP q0 5 h0 rfl (by rw [ho.2.2]; exact hin) hdg kk
theorem kx_alen (hexec : p.tables.exec = Jvm.exec) (hb : c.code = cc) (hK : va_K D vwCl (ty6 cA) s) (hP : va_P D vwCl (PW cA S) H) {ki n : Nat} (ho : isA S a ki n) (h6 : 6 ≤ ki) (h20 : ki < 23) {v : Int32} (hv : nI n = v) (hdg : decode cc pc = .ok (.arraylength, 1))
    (kk : W p l e R s m args below meth c H locs cells slots Q (F0 m (pc + 1) ls (.int v :: rest))) : W p l e R s m args below meth c H locs cells slots Q (F0 m pc ls (.ref a :: rest)) := by
  obtain ⟨q0, h0⟩ := pw_get (cA := cA) ho.1
  by_cases h1 : ki < 20
  · rw [pcell_i ho.2.1 h6 h1] at h0
    exact va_alen hexec hb hK hP q0 0 h0 rfl (by rw [← hv]; show Int32.ofNat (gN S a) = _; rw [ho.2.2]; rfl) hdg kk
  · by_cases h2 : ki = 20
    · subst h2
      rw [pcell_j ho.2.1] at h0
      exact va_alen hexec hb hK hP q0 1 h0 rfl (by rw [← hv]; show Int32.ofNat (gN S a) = _; rw [ho.2.2]; rfl) hdg kk
    · by_cases h3 : ki = 21
      · subst h3
        rw [pcell_r ho.2.1] at h0
        exact va_alen hexec hb hK hP q0 4 h0 rfl (by rw [← hv]; show Int32.ofNat (gN S a) = _; rw [ho.2.2]; rfl) hdg kk
      · have h4 : ki = 22 := by omega
        subst h4
        rw [pcell_s ho.2.1] at h0
        exact va_alen hexec hb hK hP q0 5 h0 rfl (by rw [← hv]; show Int32.ofNat (gN S a) = _; rw [ho.2.2]; rfl) hdg kk
theorem kx_astr (hexec : p.tables.exec = Jvm.exec) (hb : c.code = cc) (hK : va_K D vwCl (ty6 cA) s) (hP : va_P D vwCl (PW cA S) H) (hD : va_D A (PW cA S)) (hS : va_S A H0 H locs) {n v : Nat} (ho : isA S a 21 n) (hv : isO S v 2) {i : Int32} (hin : vp_in i n) (hdg : decode cc pc = .ok (.aastore, 1))
    (kk : ∀ (H1 : Heap) (locs1 : List Loc), va_P D vwCl (PW cA (pP S a i.toNatClampNeg (some v))) H1 → va_D A (PW cA (pP S a i.toNatClampNeg (some v))) → va_S A H0 H1 locs1 → W p l e R s m args below meth c H1 locs1 cells slots Q (F0 m (pc + 1) ls rest)) : W p l e R s m args below meth c H locs cells slots Q (F0 m pc ls (.ref v :: .int i :: .ref a :: rest)) := by
  obtain ⟨q0, h0⟩ := pw_get (cA := cA) ho.1
  obtain ⟨qk, h2⟩ := pw_get (cA := cA) hv.1
  rw [pcell_o hv.2 (by omega)] at h2
  have h1 : (PW cA S)[q0]? = some (a, .inl (cA 4, gN S a, .inr (.inr (.inr (.inr (gP S a)))))) := by rw [h0, pcell_r ho.2.1]
  have hw : (PW cA S).set q0 (a, .inl (cA 4, gN S a, .inr (.inr (.inr (.inr (va_up (gP S a) i.toNatClampNeg (some v))))))) = PW cA (pP S a i.toNatClampNeg (some v)) := by
    refine pw_set hD ho.1 h0 ?_ ?_
    · rw [pcell_r (S := pP S a i.toNatClampNeg (some v)) ho.2.1, show gP (pP S a i.toNatClampNeg (some v)) a = va_up (gP S a) i.toNatClampNeg (some v) from u2_updP]
    · intro b hb
      exact pcell_ne (S' := pP S a i.toNatClampNeg (some v)) rfl rfl rfl rfl rfl rfl (u2_row hb)
  refine va_astq hexec hb hK hP hD hS q0 4 qk 2 h1 rfl h2 (r := (RX2, TX2, 4)) rfl (by rw [ho.2.2]; exact hin) hdg (fun H1 locs1 a1 a2 a3 => ?_)
  rw [hw] at a1 a2
  exact kk H1 locs1 a1 a2 a3
theorem kx_astrN (hexec : p.tables.exec = Jvm.exec) (hb : c.code = cc) (hK : va_K D vwCl (ty6 cA) s) (hP : va_P D vwCl (PW cA S) H) (hD : va_D A (PW cA S)) (hS : va_S A H0 H locs) {n : Nat} (ho : isA S a 21 n) {i : Int32} (hin : vp_in i n) (hdg : decode cc pc = .ok (.aastore, 1))
    (kk : ∀ (H1 : Heap) (locs1 : List Loc), va_P D vwCl (PW cA (pP S a i.toNatClampNeg none)) H1 → va_D A (PW cA (pP S a i.toNatClampNeg none)) → va_S A H0 H1 locs1 → W p l e R s m args below meth c H1 locs1 cells slots Q (F0 m (pc + 1) ls rest)) : W p l e R s m args below meth c H locs cells slots Q (F0 m pc ls (.null :: .int i :: .ref a :: rest)) := by
  obtain ⟨q0, h0⟩ := pw_get (cA := cA) ho.1
  have h1 : (PW cA S)[q0]? = some (a, .inl (cA 4, gN S a, .inr (.inr (.inr (.inr (gP S a)))))) := by rw [h0, pcell_r ho.2.1]
  have hw : (PW cA S).set q0 (a, .inl (cA 4, gN S a, .inr (.inr (.inr (.inr (va_up (gP S a) i.toNatClampNeg none)))))) = PW cA (pP S a i.toNatClampNeg none) := by
    refine pw_set hD ho.1 h0 ?_ ?_
    · rw [pcell_r (S := pP S a i.toNatClampNeg none) ho.2.1, show gP (pP S a i.toNatClampNeg none) a = va_up (gP S a) i.toNatClampNeg none from u2_updP]
    · intro b hb
      exact pcell_ne (S' := pP S a i.toNatClampNeg none) rfl rfl rfl rfl rfl rfl (u2_row hb)
  refine va_astqN hexec hb hK hP hD hS q0 4 h1 (C := RX2) rfl (by rw [ho.2.2]; exact hin) hdg (fun H1 locs1 a1 a2 a3 => ?_)
  rw [hw] at a1 a2
  exact kk H1 locs1 a1 a2 a3
theorem kx_asts (hexec : p.tables.exec = Jvm.exec) (hb : c.code = cc) (hK : va_K D vwCl (ty6 cA) s) (hP : va_P D vwCl (PW cA S) H) (hD : va_D A (PW cA S)) (hS : va_S A H0 H locs) {n v : Nat} (ho : isA S a 22 n) (hv : isO S v 3) {i : Int32} (hin : vp_in i n) (hdg : decode cc pc = .ok (.aastore, 1))
    (kk : ∀ (H1 : Heap) (locs1 : List Loc), va_P D vwCl (PW cA (pP S a i.toNatClampNeg (some v))) H1 → va_D A (PW cA (pP S a i.toNatClampNeg (some v))) → va_S A H0 H1 locs1 → W p l e R s m args below meth c H1 locs1 cells slots Q (F0 m (pc + 1) ls rest)) : W p l e R s m args below meth c H locs cells slots Q (F0 m pc ls (.ref v :: .int i :: .ref a :: rest)) := by
  obtain ⟨q0, h0⟩ := pw_get (cA := cA) ho.1
  obtain ⟨qk, h2⟩ := pw_get (cA := cA) hv.1
  rw [pcell_o hv.2 (by omega)] at h2
  have h1 : (PW cA S)[q0]? = some (a, .inl (cA 5, gN S a, .inr (.inr (.inr (.inr (gP S a)))))) := by rw [h0, pcell_s ho.2.1]
  have hw : (PW cA S).set q0 (a, .inl (cA 5, gN S a, .inr (.inr (.inr (.inr (va_up (gP S a) i.toNatClampNeg (some v))))))) = PW cA (pP S a i.toNatClampNeg (some v)) := by
    refine pw_set hD ho.1 h0 ?_ ?_
    · rw [pcell_s (S := pP S a i.toNatClampNeg (some v)) ho.2.1, show gP (pP S a i.toNatClampNeg (some v)) a = va_up (gP S a) i.toNatClampNeg (some v) from u2_updP]
    · intro b hb
      exact pcell_ne (S' := pP S a i.toNatClampNeg (some v)) rfl rfl rfl rfl rfl rfl (u2_row hb)
  refine va_astq hexec hb hK hP hD hS q0 5 qk 3 h1 rfl h2 (r := (RX3, TX3, 18)) rfl (by rw [ho.2.2]; exact hin) hdg (fun H1 locs1 a1 a2 a3 => ?_)
  rw [hw] at a1 a2
  exact kk H1 locs1 a1 a2 a3
/-- a new object: all its numbers 0, its references null -/
theorem kx_new (hexec : p.tables.exec = Jvm.exec) (hb : c.code = cc) {own C : String} {T : u_T} {N ci index : Nat} {Ts : List Cond} (hts : ∀ w ∈ Ts, w.before args s = true) (hin : ∀ w ∈ u_ws C T N, w ∈ Ts) (ty : Nat → FieldType) (hty : ∀ k, k < N → parseFieldDescriptor (T k).2.2.1 = some (ty k)) (hown : s.vm.findClass own = some m.cls) (hcl : (Cond.classLink own index C).before args s = true) (hinst : (Cond.instantiable C N).before args s = true) (hini : (Cond.initialized C).before args s = true)
    (hK : va_K D vwCl (ty6 cA) s) (hP : va_P D vwCl (PW cA S) H) (hD : va_D A (PW cA S)) (hS : va_S A H0 H locs) (hA : ∀ q, H0.size ≤ q → A q) (hci : ci < 6) (hc : vwCl[ci]? = some (C, T, N)) (hnf : nf ci = N) (hfs : ∀ j, j < N → defaultValue (ty j) = if isR ci j = true then .null else .int 0) (hcells : cells + 1 ≤ R.cells) (hslots : slots + N ≤ R.slots) (hdg : decode cc pc = .ok (.new index, 3))
    (kk : ∀ (q : Nat) (H1 : Heap), q ∉ gL S → va_P D vwCl (PW cA (pW S q ci 0)) H1 → va_D A (PW cA (pW S q ci 0)) → va_S A H0 H1 locs →
      W p l e R s m args below meth c H1 locs (cells + 1) (slots + N) Q (F0 m (pc + 3) ls (.ref q :: rest))) : W p l e R s m args below meth c H locs cells slots Q (F0 m pc ls rest) := by
  subst hnf
  refine va_new hexec hb hts hin ty hty hown hcl hinst hini hK hP hD hS hA hc (fs := (List.range (nf ci)).map (fun j => if isR ci j = true then Value.null else .int 0)) ?_ hcells hslots hdg (fun q H1 a1 a2 a3 => ?_)
  · intro j hj
    rw [hfs j hj]
    simp [vp_V, hj]
  · have hg : pcell cA (pW S q ci 0) q = .inr (ci, (List.range (nf ci)).map (fun j => if isR ci j = true then Value.null else .int 0)) := by
      rw [pcell_o (S := pW S q ci 0) (ci := ci) up_s hci]
      refine congrArg (fun z => Sum.inr (ci, z)) ?_
      refine List.map_congr_left fun j _ => ?_
      show (if isR ci j = true then va_rf (u1 (gQ S) q (fun _ => none) q j) else Value.int (u1 (gI S) q (fun _ => 0) q j)) = _
      rw [u1_s, u1_s]; rfl
    obtain ⟨h1, h2⟩ := pw_new (g := pcell cA (pW S q ci 0)) a2 hg (fun b hb => pcell_ne (S' := pW S q ci 0) (up_ne hb) (up_ne hb) (u1_row hb) (u1_row hb) (u1_row hb) (u1_row hb) (u1_row hb))
    rw [h2] at a1 a2
    exact kk q H1 h1 a1 a2 a3
theorem kx_arrI {cI cJ : ClassId} {ty : FieldType} (h1 : va_RA s cI ty) (h2 : va_RA s cJ ty) : cI = cJ := by
  cases ty with
  | object C =>
    obtain ⟨_, _, _, _, _, e1⟩ := h1
    obtain ⟨_, _, _, _, _, e2⟩ := h2
    exact Option.some.inj (e1.symm.trans e2)
  | _ => exact Option.some.inj ((show _ = some cI from h1).symm.trans (show _ = some cJ from h2))
theorem kx_newi (hexec : p.tables.exec = Jvm.exec) (hb : c.code = cc) (harr : (Cond.arrayClass .int).before args s = true) (hK : va_K D vwCl (ty6 cA) s) (hP : va_P D vwCl (PW cA S) H) (hD : va_D A (PW cA S)) (hS : va_S A H0 H locs) (hA : ∀ q, H0.size ≤ q → A q)
    (ki : Nat) (h6 : 6 ≤ ki) (h20 : ki < 20) {n : Int32} {N' : Nat} (hn : ¬ n < 0) (hN : n.toNatClampNeg = N') (hbytes : N' * 4 ≤ 536870912) (hcells : cells + 1 ≤ R.cells) (hslots : slots + N' ≤ R.slots) (hdg : decode cc pc = .ok (.newarray .int, 2))
    (kk : ∀ (q : Nat) (H1 : Heap), q ∉ gL S → va_P D vwCl (PW cA (pW S q ki N')) H1 → va_D A (PW cA (pW S q ki N')) → va_S A H0 H1 locs →
      W p l e R s m args below meth c H1 locs (cells + 1) (slots + N') Q (F0 m (pc + 2) ls (.ref q :: rest))) : W p l e R s m args below meth c H locs cells slots Q (F0 m pc ls (.int n :: rest)) := by
  refine va_newa (atype := .int) (ty := .int) hexec hb harr rfl hK hP hD hS hA (a0 := (N', .inl (fun _ => 0))) (fun _ => rfl) hn hN hbytes hcells hslots hdg (fun q c1 H1 b0 a1 a2 a3 => ?_)
  have e : c1 = cA 0 := kx_arrI (b0.2 6 _ rfl).2 (hK.2 0 _ rfl).2
  subst e
  have hg : pcell cA (pW S q ki N') q = .inl (cA 0, N', .inl (fun _ => 0)) := by
    rw [pcell_i (S := pW S q ki N') (ci := ki) up_s h6 h20]
    rw [show gN (pW S q ki N') q = N' from up_s]
    rw [show gR (pW S q ki N') q = fun _ => 0 from by funext j; exact (show u1 (gR S) q (fun _ => 0) q j = 0 from u1_s)]
  obtain ⟨h1, h2⟩ := pw_new (g := pcell cA (pW S q ki N')) a2 hg (fun b hb => pcell_ne (S' := pW S q ki N') (up_ne hb) (up_ne hb) (u1_row hb) (u1_row hb) (u1_row hb) (u1_row hb) (u1_row hb))
  rw [h2] at a1 a2
  exact kk q H1 h1 a1 a2 a3
theorem kx_newj (hexec : p.tables.exec = Jvm.exec) (hb : c.code = cc) (harr : (Cond.arrayClass .long).before args s = true) (hK : va_K D vwCl (ty6 cA) s) (hP : va_P D vwCl (PW cA S) H) (hD : va_D A (PW cA S)) (hS : va_S A H0 H locs) (hA : ∀ q, H0.size ≤ q → A q)
    {n : Int32} {N' : Nat} (hn : ¬ n < 0) (hN : n.toNatClampNeg = N') (hbytes : N' * 8 ≤ 536870912) (hcells : cells + 1 ≤ R.cells) (hslots : slots + N' ≤ R.slots) (hdg : decode cc pc = .ok (.newarray .long, 2))
    (kk : ∀ (q : Nat) (H1 : Heap), q ∉ gL S → va_P D vwCl (PW cA (pW S q 20 N')) H1 → va_D A (PW cA (pW S q 20 N')) → va_S A H0 H1 locs →
      W p l e R s m args below meth c H1 locs (cells + 1) (slots + N') Q (F0 m (pc + 2) ls (.ref q :: rest))) : W p l e R s m args below meth c H locs cells slots Q (F0 m pc ls (.int n :: rest)) := by
  refine va_newa (atype := .long) (ty := .long) hexec hb harr rfl hK hP hD hS hA (a0 := (N', .inr (.inl (fun _ => 0)))) (fun _ => rfl) hn hN hbytes hcells hslots hdg (fun q c1 H1 b0 a1 a2 a3 => ?_)
  have e : c1 = cA 1 := kx_arrI (b0.2 6 _ rfl).2 (hK.2 1 _ rfl).2
  subst e
  have hg : pcell cA (pW S q 20 N') q = .inl (cA 1, N', .inr (.inl (fun _ => 0))) := by
    rw [pcell_j (S := pW S q 20 N') up_s]
    rw [show gN (pW S q 20 N') q = N' from up_s]
    rw [show gJ (pW S q 20 N') q = fun _ => 0 from by funext j; exact (show u1 (gJ S) q (fun _ => 0) q j = 0 from u1_s)]
  obtain ⟨h1, h2⟩ := pw_new (g := pcell cA (pW S q 20 N')) a2 hg (fun b hb => pcell_ne (S' := pW S q 20 N') (up_ne hb) (up_ne hb) (u1_row hb) (u1_row hb) (u1_row hb) (u1_row hb) (u1_row hb))
  rw [h2] at a1 a2
  exact kk q H1 h1 a1 a2 a3
theorem kx_newr (hexec : p.tables.exec = Jvm.exec) (hb : c.code = cc) {own : String} {index : Nat} (hown : s.vm.findClass own = some m.cls) (hclink : (Cond.classLink own index RX2).before args s = true) (hover : va_AO RX2 s) (hK : va_K D vwCl (ty6 cA) s) (hP : va_P D vwCl (PW cA S) H) (hD : va_D A (PW cA S)) (hS : va_S A H0 H locs) (hA : ∀ q, H0.size ≤ q → A q)
    {n : Int32} {N' : Nat} (hn : ¬ n < 0) (hN : n.toNatClampNeg = N') (hbytes : N' * 4 ≤ 536870912) (hcells : cells + 1 ≤ R.cells) (hslots : slots + N' ≤ R.slots) (hdg : decode cc pc = .ok (.anewarray index, 3))
    (kk : ∀ (q : Nat) (H1 : Heap), q ∉ gL S → va_P D vwCl (PW cA (pW S q 21 N')) H1 → va_D A (PW cA (pW S q 21 N')) → va_S A H0 H1 locs →
      W p l e R s m args below meth c H1 locs (cells + 1) (slots + N') Q (F0 m (pc + 3) ls (.ref q :: rest))) : W p l e R s m args below meth c H locs cells slots Q (F0 m pc ls (.int n :: rest)) := by
  refine va_newq (C := RX2) hexec hb hown hclink hover hK hP hD hS hA hn hN hbytes hcells hslots hdg (fun q c1 H1 b0 a1 a2 a3 => ?_)
  have e : c1 = cA 4 := kx_arrI (b0.2 6 _ rfl).2 (hK.2 4 _ rfl).2
  subst e
  have hg : pcell cA (pW S q 21 N') q = .inl (cA 4, N', .inr (.inr (.inr (.inr (fun _ => none))))) := by
    rw [pcell_r (S := pW S q 21 N') up_s]
    rw [show gN (pW S q 21 N') q = N' from up_s]
    rw [show gP (pW S q 21 N') q = fun _ => none from by funext j; exact (show u1 (gP S) q (fun _ => none) q j = none from u1_s)]
  obtain ⟨h1, h2⟩ := pw_new (g := pcell cA (pW S q 21 N')) a2 hg (fun b hb => pcell_ne (S' := pW S q 21 N') (up_ne hb) (up_ne hb) (u1_row hb) (u1_row hb) (u1_row hb) (u1_row hb) (u1_row hb))
  rw [h2] at a1 a2
  exact kk q H1 h1 a1 a2 a3
theorem kx_news (hexec : p.tables.exec = Jvm.exec) (hb : c.code = cc) {own : String} {index : Nat} (hown : s.vm.findClass own = some m.cls) (hclink : (Cond.classLink own index RX3).before args s = true) (hover : va_AO RX3 s) (hK : va_K D vwCl (ty6 cA) s) (hP : va_P D vwCl (PW cA S) H) (hD : va_D A (PW cA S)) (hS : va_S A H0 H locs) (hA : ∀ q, H0.size ≤ q → A q)
    {n : Int32} {N' : Nat} (hn : ¬ n < 0) (hN : n.toNatClampNeg = N') (hbytes : N' * 4 ≤ 536870912) (hcells : cells + 1 ≤ R.cells) (hslots : slots + N' ≤ R.slots) (hdg : decode cc pc = .ok (.anewarray index, 3))
    (kk : ∀ (q : Nat) (H1 : Heap), q ∉ gL S → va_P D vwCl (PW cA (pW S q 22 N')) H1 → va_D A (PW cA (pW S q 22 N')) → va_S A H0 H1 locs →
      W p l e R s m args below meth c H1 locs (cells + 1) (slots + N') Q (F0 m (pc + 3) ls (.ref q :: rest))) : W p l e R s m args below meth c H locs cells slots Q (F0 m pc ls (.int n :: rest)) := by
  refine va_newq (C := RX3) hexec hb hown hclink hover hK hP hD hS hA hn hN hbytes hcells hslots hdg (fun q c1 H1 b0 a1 a2 a3 => ?_)
  have e : c1 = cA 5 := kx_arrI (b0.2 6 _ rfl).2 (hK.2 5 _ rfl).2
  subst e
  have hg : pcell cA (pW S q 22 N') q = .inl (cA 5, N', .inr (.inr (.inr (.inr (fun _ => none))))) := by
    rw [pcell_s (S := pW S q 22 N') up_s]
    rw [show gN (pW S q 22 N') q = N' from up_s]
    rw [show gP (pW S q 22 N') q = fun _ => none from by funext j; exact (show u1 (gP S) q (fun _ => none) q j = none from u1_s)]
  obtain ⟨h1, h2⟩ := pw_new (g := pcell cA (pW S q 22 N')) a2 hg (fun b hb => pcell_ne (S' := pW S q 22 N') (up_ne hb) (up_ne hb) (u1_row hb) (u1_row hb) (u1_row hb) (u1_row hb) (u1_row hb))
  rw [h2] at a1 a2
  exact kk q H1 h1 a1 a2 a3
theorem kx_getiN (hexec : p.tables.exec = Jvm.exec) (hb : c.code = cc) {own C : String} {T : u_T} {N ci index : Nat} {Ts : List Cond} (hts : ∀ w ∈ Ts, w.before args s = true) (hin : ∀ w ∈ u_ws C T N, w ∈ Ts) (hown : s.vm.findClass own = some m.cls) (hK : va_K D vwCl (ty6 cA) s) (hP : va_P D vwCl (PW cA S) H) (ho : isO S a ci) (hci : ci < 6) (hc : vwCl[ci]? = some (C, T, N)) (k : Nat) (hk : k < N) (hk2 : k < nf ci) (hi : isR ci k = false) (hlink : (Cond.fieldLinkNest own index (T k).1 (T k).2.1 (T k).2.2.1 RX5).before args s = true) (hdg : decode cc pc = .ok (.getfield index, 3))
    (kk : W p l e R s m args below meth c H locs cells slots Q (F0 m (pc + 3) ls (.int (gI S a k) :: rest))) : W p l e R s m args below meth c H locs cells slots Q (F0 m pc ls (.ref a :: rest)) := by
  obtain ⟨q0, h0⟩ := pw_get (cA := cA) ho.1
  rw [pcell_o ho.2 hci] at h0
  refine va_getN hexec hb hts hin hown hK hP q0 h0 hc k hk hlink (fun _ h9 => h9) (v := .int (gI S a k)) ?_ hdg kk
  simp [hk2, pv, hi]
theorem kx_getrN (hexec : p.tables.exec = Jvm.exec) (hb : c.code = cc) {own C : String} {T : u_T} {N ci index : Nat} {Ts : List Cond} (hts : ∀ w ∈ Ts, w.before args s = true) (hin : ∀ w ∈ u_ws C T N, w ∈ Ts) (hown : s.vm.findClass own = some m.cls) (hK : va_K D vwCl (ty6 cA) s) (hP : va_P D vwCl (PW cA S) H) (ho : isO S a ci) (hci : ci < 6) (hc : vwCl[ci]? = some (C, T, N)) (k : Nat) (hk : k < N) (hk2 : k < nf ci) (hi : isR ci k = true) {r : Option Nat} (hr : gQ S a k = r) (hlink : (Cond.fieldLinkNest own index (T k).1 (T k).2.1 (T k).2.2.1 RX5).before args s = true) (hdg : decode cc pc = .ok (.getfield index, 3))
    (kk : W p l e R s m args below meth c H locs cells slots Q (F0 m (pc + 3) ls (va_rf r :: rest))) : W p l e R s m args below meth c H locs cells slots Q (F0 m pc ls (.ref a :: rest)) := by
  obtain ⟨q0, h0⟩ := pw_get (cA := cA) ho.1
  rw [pcell_o ho.2 hci] at h0
  refine va_getN hexec hb hts hin hown hK hP q0 h0 hc k hk hlink (fun _ h9 => h9) (v := va_rf r) ?_ hdg kk
  simp [hk2, pv, hi, ← hr]
theorem kx_putiN (hexec : p.tables.exec = Jvm.exec) (hb : c.code = cc) {own C : String} {T : u_T} {N ci index : Nat} {Ts : List Cond} (hts : ∀ w ∈ Ts, w.before args s = true) (hin : ∀ w ∈ u_ws C T N, w ∈ Ts) (ty0 : Nat → FieldType) (hty : ∀ k, k < N → parseFieldDescriptor (T k).2.2.1 = some (ty0 k)) (hnm : ∀ a, a < N → ∀ b, b < N → a ≠ b → (T a).2.1 ≠ (T b).2.1) (hown : s.vm.findClass own = some m.cls) (hK : va_K D vwCl (ty6 cA) s) (hP : va_P D vwCl (PW cA S) H) (hD : va_D A (PW cA S)) (hS : va_S A H0 H locs) (ho : isO S a ci) (hci : ci < 6) (hc : vwCl[ci]? = some (C, T, N)) (k : Nat) (hk : k < N) (hk2 : k < nf ci) (hi : isR ci k = false) (hlink : (Cond.fieldLinkNest own index (T k).1 (T k).2.1 (T k).2.2.1 RX5).before args s = true) (hfin : (T k).2.2.2 = false) {ty : FieldType} {x : Int32} (hd : parseFieldDescriptor (T k).2.2.1 = some ty) (hn : narrow ty (.int x) = .int x) (hfit : fits ty (.int x) = true) (hdg : decode cc pc = .ok (.putfield index, 3))
    (kk : ∀ (H1 : Heap) (locs1 : List Loc), va_P D vwCl (PW cA (pI S a k x)) H1 → va_D A (PW cA (pI S a k x)) → va_S A H0 H1 locs1 → W p l e R s m args below meth c H1 locs1 cells slots Q (F0 m (pc + 3) ls rest)) : W p l e R s m args below meth c H locs cells slots Q (F0 m pc ls (.int x :: .ref a :: rest)) := by
  obtain ⟨q0, h0⟩ := pw_get (cA := cA) ho.1
  have h1 : (PW cA S)[q0]? = some (a, .inr (ci, (List.range (nf ci)).map (pv S ci a))) := by rw [h0, pcell_o ho.2 hci]
  have hw : (PW cA S).set q0 (a, .inr (ci, ((List.range (nf ci)).map (pv S ci a)).set k (.int x))) = PW cA (pI S a k x) := by
    refine pw_set hD ho.1 h0 ?_ ?_
    · rw [pcell_o (S := pI S a k x) ho.2 hci]
      rw [map_set (g' := pv (pI S a k x) ci a)]
      · intro _; show (if isR ci k = true then va_rf (gQ S a k) else Value.int (u2 (gI S) a k x a k)) = _; rw [hi, u2_s]; rfl
      · intro j hj
        unfold pv
        rw [show gI (pI S a k x) a j = gI S a j from u2_k hj]
    · intro b hb
      exact pcell_ne (S' := pI S a k x) rfl rfl (u2_row hb) rfl rfl rfl rfl
  refine va_putN hexec hb hts hin ty0 hty hnm hown hK hP hD hS q0 h1 hc k hk hlink (fun _ h9 => h9) hfin hd hn hfit (by simp [hk2]) hdg (fun H1 locs1 a1 a2 a3 => ?_)
  rw [hw] at a1 a2
  exact kk H1 locs1 a1 a2 a3
theorem kx_putrN (hexec : p.tables.exec = Jvm.exec) (hb : c.code = cc) {own C : String} {T : u_T} {N ci index : Nat} {Ts : List Cond} (hts : ∀ w ∈ Ts, w.before args s = true) (hin : ∀ w ∈ u_ws C T N, w ∈ Ts) (ty0 : Nat → FieldType) (hty : ∀ k, k < N → parseFieldDescriptor (T k).2.2.1 = some (ty0 k)) (hnm : ∀ a, a < N → ∀ b, b < N → a ≠ b → (T a).2.1 ≠ (T b).2.1) (hown : s.vm.findClass own = some m.cls) (hK : va_K D vwCl (ty6 cA) s) (hP : va_P D vwCl (PW cA S) H) (hD : va_D A (PW cA S)) (hS : va_S A H0 H locs) (ho : isO S a ci) (hci : ci < 6) (hc : vwCl[ci]? = some (C, T, N)) (k : Nat) (hk : k < N) (hk2 : k < nf ci) (hi : isR ci k = true) (hlink : (Cond.fieldLinkNest own index (T k).1 (T k).2.1 (T k).2.2.1 RX5).before args s = true) (hfin : (T k).2.2.2 = false) {ty : FieldType} {r : Option Nat} (hd : parseFieldDescriptor (T k).2.2.1 = some ty) (hn : narrow ty (va_rf r) = va_rf r) (hfit : fits ty (va_rf r) = true) (hdg : decode cc pc = .ok (.putfield index, 3))
    (kk : ∀ (H1 : Heap) (locs1 : List Loc), va_P D vwCl (PW cA (pQ S a k r)) H1 → va_D A (PW cA (pQ S a k r)) → va_S A H0 H1 locs1 → W p l e R s m args below meth c H1 locs1 cells slots Q (F0 m (pc + 3) ls rest)) : W p l e R s m args below meth c H locs cells slots Q (F0 m pc ls (va_rf r :: .ref a :: rest)) := by
  obtain ⟨q0, h0⟩ := pw_get (cA := cA) ho.1
  have h1 : (PW cA S)[q0]? = some (a, .inr (ci, (List.range (nf ci)).map (pv S ci a))) := by rw [h0, pcell_o ho.2 hci]
  have hw : (PW cA S).set q0 (a, .inr (ci, ((List.range (nf ci)).map (pv S ci a)).set k (va_rf r))) = PW cA (pQ S a k r) := by
    refine pw_set hD ho.1 h0 ?_ ?_
    · rw [pcell_o (S := pQ S a k r) ho.2 hci]
      rw [map_set (g' := pv (pQ S a k r) ci a)]
      · intro _; show (if isR ci k = true then va_rf (u2 (gQ S) a k r a k) else Value.int (gI S a k)) = _; rw [hi, u2_s]; rfl
      · intro j hj
        unfold pv
        rw [show gQ (pQ S a k r) a j = gQ S a j from u2_k hj]
    · intro b hb
      exact pcell_ne (S' := pQ S a k r) rfl rfl rfl (u2_row hb) rfl rfl rfl
  refine va_putN hexec hb hts hin ty0 hty hnm hown hK hP hD hS q0 h1 hc k hk hlink (fun _ h9 => h9) hfin hd hn hfit (by simp [hk2]) hdg (fun H1 locs1 a1 a2 a3 => ?_)
  rw [hw] at a1 a2
  exact kk H1 locs1 a1 a2 a3
theorem kx_getiv (hexec : p.tables.exec = Jvm.exec) (hb : c.code = cc) {own C : String} {T : u_T} {N ci index : Nat} {Ts : List Cond} (hts : ∀ w ∈ Ts, w.before args s = true) (hin : ∀ w ∈ u_ws C T N, w ∈ Ts) (hown : s.vm.findClass own = some m.cls) (hK : va_K D vwCl (ty6 cA) s) (hP : va_P D vwCl (PW cA S) H) (ho : isO S a ci) (hci : ci < 6) (hc : vwCl[ci]? = some (C, T, N)) (k : Nat) (hk : k < N) (hk2 : k < nf ci) (hi : isR ci k = false) (hlink : (Cond.fieldLink own index (T k).1 (T k).2.1 (T k).2.2.1).before args s = true) {x : Int32} (hx9 : gI S a k = x) (hdg : decode cc pc = .ok (.getfield index, 3))
    (kk : W p l e R s m args below meth c H locs cells slots Q (F0 m (pc + 3) ls (.int x :: rest))) : W p l e R s m args below meth c H locs cells slots Q (F0 m pc ls (.ref a :: rest)) := by
  subst hx9
  exact kx_geti hexec hb hts hin hown hK hP ho hci hc k hk hk2 hi hlink hdg kk
theorem kx_getiNv (hexec : p.tables.exec = Jvm.exec) (hb : c.code = cc) {own C : String} {T : u_T} {N ci index : Nat} {Ts : List Cond} (hts : ∀ w ∈ Ts, w.before args s = true) (hin : ∀ w ∈ u_ws C T N, w ∈ Ts) (hown : s.vm.findClass own = some m.cls) (hK : va_K D vwCl (ty6 cA) s) (hP : va_P D vwCl (PW cA S) H) (ho : isO S a ci) (hci : ci < 6) (hc : vwCl[ci]? = some (C, T, N)) (k : Nat) (hk : k < N) (hk2 : k < nf ci) (hi : isR ci k = false) (hlink : (Cond.fieldLinkNest own index (T k).1 (T k).2.1 (T k).2.2.1 RX5).before args s = true) {x : Int32} (hx9 : gI S a k = x) (hdg : decode cc pc = .ok (.getfield index, 3))
    (kk : W p l e R s m args below meth c H locs cells slots Q (F0 m (pc + 3) ls (.int x :: rest))) : W p l e R s m args below meth c H locs cells slots Q (F0 m pc ls (.ref a :: rest)) := by
  subst hx9
  exact kx_getiN hexec hb hts hin hown hK hP ho hci hc k hk hk2 hi hlink hdg kk
theorem kx_gets (hexec : p.tables.exec = Jvm.exec) (hb : c.code = cc) {own C : String} {T : u_T} {N ci index : Nat} {Ts : List Cond} (hts : ∀ w ∈ Ts, w.before args s = true) (hin : ∀ w ∈ u_ws C T N, w ∈ Ts) (hown : s.vm.findClass own = some m.cls) (hK : va_K D vwCl (ty6 cA) s) (hP : va_P D vwCl (PW cA S) H) (ho : isO S a ci) (hci : ci < 6) (hc : vwCl[ci]? = some (C, T, N)) (k : Nat) (hk : k < N) (hk2 : k < nf ci) (hi : isR ci k = true) {r : Nat} (hr : gQ S a k = some r) (hlink : (Cond.fieldLink own index (T k).1 (T k).2.1 (T k).2.2.1).before args s = true) (hdg : decode cc pc = .ok (.getfield index, 3))
    (kk : W p l e R s m args below meth c H locs cells slots Q (F0 m (pc + 3) ls (.ref r :: rest))) : W p l e R s m args below meth c H locs cells slots Q (F0 m pc ls (.ref a :: rest)) := kx_getr hexec hb hts hin hown hK hP ho hci hc k hk hk2 hi hr hlink hdg kk
theorem kx_getz (hexec : p.tables.exec = Jvm.exec) (hb : c.code = cc) {own C : String} {T : u_T} {N ci index : Nat} {Ts : List Cond} (hts : ∀ w ∈ Ts, w.before args s = true) (hin : ∀ w ∈ u_ws C T N, w ∈ Ts) (hown : s.vm.findClass own = some m.cls) (hK : va_K D vwCl (ty6 cA) s) (hP : va_P D vwCl (PW cA S) H) (ho : isO S a ci) (hci : ci < 6) (hc : vwCl[ci]? = some (C, T, N)) (k : Nat) (hk : k < N) (hk2 : k < nf ci) (hi : isR ci k = true) (hr : gQ S a k = none) (hlink : (Cond.fieldLink own index (T k).1 (T k).2.1 (T k).2.2.1).before args s = true) (hdg : decode cc pc = .ok (.getfield index, 3))
    (kk : W p l e R s m args below meth c H locs cells slots Q (F0 m (pc + 3) ls (.null :: rest))) : W p l e R s m args below meth c H locs cells slots Q (F0 m pc ls (.ref a :: rest)) := kx_getr hexec hb hts hin hown hK hP ho hci hc k hk hk2 hi hr hlink hdg kk
theorem kx_getsN (hexec : p.tables.exec = Jvm.exec) (hb : c.code = cc) {own C : String} {T : u_T} {N ci index : Nat} {Ts : List Cond} (hts : ∀ w ∈ Ts, w.before args s = true) (hin : ∀ w ∈ u_ws C T N, w ∈ Ts) (hown : s.vm.findClass own = some m.cls) (hK : va_K D vwCl (ty6 cA) s) (hP : va_P D vwCl (PW cA S) H) (ho : isO S a ci) (hci : ci < 6) (hc : vwCl[ci]? = some (C, T, N)) (k : Nat) (hk : k < N) (hk2 : k < nf ci) (hi : isR ci k = true) {r : Nat} (hr : gQ S a k = some r) (hlink : (Cond.fieldLinkNest own index (T k).1 (T k).2.1 (T k).2.2.1 RX5).before args s = true) (hdg : decode cc pc = .ok (.getfield index, 3))
    (kk : W p l e R s m args below meth c H locs cells slots Q (F0 m (pc + 3) ls (.ref r :: rest))) : W p l e R s m args below meth c H locs cells slots Q (F0 m pc ls (.ref a :: rest)) := kx_getrN hexec hb hts hin hown hK hP ho hci hc k hk hk2 hi hr hlink hdg kk
theorem kx_getzN (hexec : p.tables.exec = Jvm.exec) (hb : c.code = cc) {own C : String} {T : u_T} {N ci index : Nat} {Ts : List Cond} (hts : ∀ w ∈ Ts, w.before args s = true) (hin : ∀ w ∈ u_ws C T N, w ∈ Ts) (hown : s.vm.findClass own = some m.cls) (hK : va_K D vwCl (ty6 cA) s) (hP : va_P D vwCl (PW cA S) H) (ho : isO S a ci) (hci : ci < 6) (hc : vwCl[ci]? = some (C, T, N)) (k : Nat) (hk : k < N) (hk2 : k < nf ci) (hi : isR ci k = true) (hr : gQ S a k = none) (hlink : (Cond.fieldLinkNest own index (T k).1 (T k).2.1 (T k).2.2.1 RX5).before args s = true) (hdg : decode cc pc = .ok (.getfield index, 3))
    (kk : W p l e R s m args below meth c H locs cells slots Q (F0 m (pc + 3) ls (.null :: rest))) : W p l e R s m args below meth c H locs cells slots Q (F0 m pc ls (.ref a :: rest)) := kx_getrN hexec hb hts hin hown hK hP ho hci hc k hk hk2 hi hr hlink hdg kk
end KX
