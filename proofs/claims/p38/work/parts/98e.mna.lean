/-! rows made with their rows; objects beside other cells -/
abbrev rwL (r : Nat → Nat) (N : Nat) : List Nat := (List.range N).map r
/-- rows r 0 .. of the kind ki (K places each, all 0 or null), and a row q of the kind ko that holds them -/
abbrev pMN (T : Pool) (q : Nat) (r : Nat → Nat) (N ko ki K : Nat) : Pool := ((gL T ++ rwL r N) ++ [q], va_up (vr_up (gK T) (rwL r N) ki) q ko, va_up (vr_up (gN T) (rwL r N) K) q N, fun b => if b = q ∨ b ∈ rwL r N then (fun _ => 0) else gI T b, fun b => if b = q ∨ b ∈ rwL r N then (fun _ => none) else gQ T b, fun b => if b = q ∨ b ∈ rwL r N then (fun _ => 0) else gR T b, fun b => if b = q ∨ b ∈ rwL r N then (fun _ => 0) else gJ T b, fun b => if b = q then (fun i => if i < N then some (r i) else none) else if b ∈ rwL r N then (fun _ => none) else gP T b)
theorem rw_in {r : Nat → Nat} {N i : Nat} (h : i < N) : r i ∈ rwL r N := List.mem_map.mpr ⟨i, List.mem_range.mpr h, rfl⟩
section PMN
variable {T : Pool} {q N ko ki K : Nat} {r : Nat → Nat}
theorem pMN_ext (hq : q ∉ gL T) (hr : ∀ i, i < N → r i ∉ gL T) : ExtA T (pMN T q r N ko ki K) := fun b hb => by
  have h1 : ¬ b = q := fun e => hq (e ▸ hb)
  have h2 : ¬ b ∈ rwL r N := fun e => by
    obtain ⟨i, hi, rfl⟩ := List.mem_map.mp e
    exact hr i (List.mem_range.mp hi) hb
  have h3 : ¬ (b = q ∨ b ∈ rwL r N) := fun e => e.elim h1 h2
  refine ⟨⟨List.mem_append_left _ (List.mem_append_left _ hb), (up_ne h1).trans (vr_up_ne h2), (up_ne h1).trans (vr_up_ne h2)⟩, fun k => ?_, fun k => ?_, fun k => ?_, fun k => ?_⟩
  · exact congrFun (if_neg h3) k
  · exact congrFun (if_neg h3) k
  · exact congrFun (if_neg h3) k
  · exact congrFun ((if_neg h1).trans (if_neg h2)) k
theorem pMN_q : isA (pMN T q r N ko ki K) q ko N := ⟨List.mem_append_right _ (List.mem_singleton.mpr rfl), up_s, up_s⟩
theorem pMN_r {i : Nat} (hi : i < N) (hne : r i ≠ q) : isA (pMN T q r N ko ki K) (r i) ki K := ⟨List.mem_append_left _ (List.mem_append_right _ (rw_in hi)), (up_ne hne).trans (vr_up_in (rw_in hi)), (up_ne hne).trans (vr_up_in (rw_in hi))⟩
theorem pMN_p {i : Nat} (hi : i < N) : gP (pMN T q r N ko ki K) q i = some (r i) := (congrFun (if_pos rfl) i).trans (if_pos hi)
theorem pMN_v {i j : Nat} (hi : i < N) : gR (pMN T q r N ko ki K) (r i) j = 0 := congrFun (if_pos (Or.inr (rw_in hi))) j
end PMN
section KM
variable {p : Program} {l : Launch} {e : Env} {R : Room} {s : State} {m : MethodId} {args : Array Value} {below : List Frame} {meth : Method} {c : Code} {H : Heap} {locs : List Loc} {cells slots : Nat} {Q : State → Prop}
variable {cc : ByteArray} {pc : Nat} {ls : Array Slot} {rest : List Value} {D : va_G} {A : Nat → Prop} {H0 : Heap} {cA : Nat → ClassId} {S : Pool} {wb : va_W}
theorem pw_mna {q N ko ki K : Nat} {r : Nat → Nat} {e1 e2 : va_E} (h1 : pcell cA (pMN S q r N ko ki K) q = e1) (h2 : ∀ b, b ≠ q → b ∈ rwL r N → pcell cA (pMN S q r N ko ki K) b = e2) (hD : va_D A ((wb ++ [(q, e1)]) ++ va_pl (gL S ++ rwL r N) (vr_up (pcell cA S) (rwL r N) e2))) : q ∉ gL S ++ rwL r N ∧ ((wb ++ [(q, e1)]) ++ va_pl (gL S ++ rwL r N) (vr_up (pcell cA S) (rwL r N) e2)).Perm (PW cA (pMN S q r N ko ki K) ++ wb) := by
  have hq : q ∉ gL S ++ rwL r N := by
    intro hm
    have hd := (kj_dis.mp hD).1
    rw [List.map_append, List.nodup_append] at hd
    refine hd.2.2 q ?_ q ?_ rfl
    · exact List.mem_map.mpr ⟨(q, e1), List.mem_append_right _ (List.mem_singleton.mpr rfl), rfl⟩
    · exact List.mem_map.mpr ⟨(q, _), List.mem_map.mpr ⟨q, hm, rfl⟩, rfl⟩
  refine ⟨hq, ?_⟩
  have hw : PW cA (pMN S q r N ko ki K) = va_pl (gL S ++ rwL r N) (vr_up (pcell cA S) (rwL r N) e2) ++ [(q, e1)] := by
    show va_pl ((gL S ++ rwL r N) ++ [q]) (pcell cA (pMN S q r N ko ki K)) = _
    unfold va_pl
    rw [List.map_append]
    congr 1
    · refine List.map_congr_left fun b hb => ?_
      have hne : b ≠ q := fun e => hq (e ▸ hb)
      by_cases hr : b ∈ rwL r N
      · rw [vr_up_in hr, h2 b hne hr]
      · rw [vr_up_ne hr]
        have h3 : ¬ (b = q ∨ b ∈ rwL r N) := fun e => e.elim hne hr
        refine congrArg (fun z => (b, z)) (pcell_ne (S' := pMN S q r N ko ki K) ((up_ne hne).trans (vr_up_ne hr)) ((up_ne hne).trans (vr_up_ne hr)) (if_neg h3) (if_neg h3) (if_neg h3) (if_neg h3) ((if_neg hne).trans (if_neg hr)))
    · show [(q, pcell cA (pMN S q r N ko ki K) q)] = [(q, e1)]
      rw [h1]
  rw [hw]
  have h9 : ∀ (X Y : va_W) (z : Nat × va_E), ((X ++ [z]) ++ Y).Perm ((Y ++ [z]) ++ X) := fun X Y z => by
    rw [List.append_assoc]
    exact List.perm_append_comm.trans (List.Perm.append_right X List.perm_append_comm)
  exact h9 _ _ _
theorem ky_mnaW (hexec : p.tables.exec = Jvm.exec) (hb : c.code = cc) {own : String} {index : Nat} (hown : s.vm.findClass own = some m.cls) (hclink : (Cond.classLink own index ("[" ++ (FieldType.array .int).toString)).before args s = true) (hAO : va_AOA .int s) (harr : (Cond.arrayClass .int).before args s = true)
    (hK : va_K D vwCl (ty6 cA) s) (hP : va_P D vwCl (PW cA S ++ wb) H) (hD : va_D A (PW cA S ++ wb)) (hS : va_S A H0 H locs) (hA : ∀ q, H0.size ≤ q → A q) {n k : Int32} {N K : Nat} (hn : ¬ n < 0) (hk : ¬ k < 0) (hN : n.toNatClampNeg = N) (hM : k.toNatClampNeg = K) (hb1 : N * 4 ≤ 536870912) (hb2 : K * 4 ≤ 536870912) (hb3 : K ≤ 536870912) (ki : Nat) (h6 : 6 ≤ ki) (h20 : ki < 20) (hcells : cells + (1 + N) ≤ R.cells) (hslots : slots + (N + N * K) ≤ R.slots) (hdg : decode cc pc = .ok (.multianewarray index 2, 4))
    (kk : ∀ (q : Nat) (r : Nat → Nat) (H1 : Heap), (∀ i j : Nat, i < N → j < N → r i = r j → i = j) → (∀ i : Nat, i < N → r i ∉ gL S) → q ∉ gL S ++ rwL r N → va_P D vwCl (PW cA (pMN S q r N 24 ki K) ++ wb) H1 → va_D A (PW cA (pMN S q r N 24 ki K) ++ wb) → va_S A H0 H1 locs → W p l e R s m args below meth c H1 locs (cells + 1 + N) (slots + N + N * K) Q (F0 m (pc + 4) ls (.ref q :: rest))) : W p l e R s m args below meth c H locs cells slots Q (F0 m pc ls (.int k :: .int n :: rest)) := by
  refine va_mna (X := wb) (L := gL S) (f := pcell cA S) (ty := .int) (cy := cA 0) (z := (K, .inl (fun _ => 0))) hexec hb hown hclink hAO harr (hK.2 0 _ rfl).2 hK (kj_P List.perm_append_comm hP) (kj_D List.perm_append_comm hD) hS hA hn hk hN hM hb1 hb2 hb3 rfl rfl hcells hslots (fun c => arrV_new c K (.int 0)) hdg (fun q r c1 H1 a1 a2 a3 b1 b2 b3 => ?_)
  obtain rfl : c1 = cA 6 := kx_arrI (a3.2 8 _ rfl).2 (hK.2 6 _ rfl).2
  have g1 : pcell cA (pMN S q r N 24 ki K) q = .inl (cA 6, N, .inr (.inr (.inr (.inr (fun i => if i < N then some (r i) else none))))) := by
    rw [pcell_a (S := pMN S q r N 24 ki K) up_s, show gN (pMN S q r N 24 ki K) q = N from up_s, show gP (pMN S q r N 24 ki K) q = fun i => if i < N then some (r i) else none from if_pos rfl]
  have g2 : ∀ b, b ≠ q → b ∈ rwL r N → pcell cA (pMN S q r N 24 ki K) b = .inl (cA 0, (K, .inl (fun _ => 0))) := fun b hne hr => by
    rw [pcell_i (S := pMN S q r N 24 ki K) (ci := ki) ((up_ne hne).trans (vr_up_in hr)) h6 h20, show gN (pMN S q r N 24 ki K) b = K from (up_ne hne).trans (vr_up_in hr), show gR (pMN S q r N 24 ki K) b = fun _ => 0 from if_pos (Or.inr hr)]
  obtain ⟨p1, p2⟩ := pw_mna g1 g2 b2
  exact kk q r H1 a1 a2 p1 (kj_P p2 b1) (kj_D p2 b2) b3
theorem va_AOA.cls {t : FieldType} {A : Array Value} {U : State} (h : va_AOA t U) : (Cond.arrayClass (.array t)).before A U = true := by
  obtain ⟨comp, c, k, -, -, hk, hkind, hf⟩ := arrayOver_specB (h.use (A := A))
  simp only [Cond.before, Cond.holds, Cond.value]
  rw [hf]
  simp [hk, hkind]
theorem ky_mnaR (hexec : p.tables.exec = Jvm.exec) (hb : c.code = cc) {own : String} {index : Nat} (hown : s.vm.findClass own = some m.cls) (hclink : (Cond.classLink own index ("[" ++ (FieldType.array (.array .int)).toString)).before args s = true) (hAO : va_AOA .int s ∧ va_AOA (.array .int) s)
    (hK : va_K D vwCl (ty6 cA) s) (hP : va_P D vwCl (PW cA S ++ wb) H) (hD : va_D A (PW cA S ++ wb)) (hS : va_S A H0 H locs) (hA : ∀ q, H0.size ≤ q → A q) {n k : Int32} {N K : Nat} (hn : ¬ n < 0) (hk : ¬ k < 0) (hN : n.toNatClampNeg = N) (hM : k.toNatClampNeg = K) (hb1 : N * 4 ≤ 536870912) (hb2 : K * 4 ≤ 536870912) (hb3 : K ≤ 536870912) (hcells : cells + (1 + N) ≤ R.cells) (hslots : slots + (N + N * K) ≤ R.slots) (hdg : decode cc pc = .ok (.multianewarray index 2, 4))
    (kk : ∀ (q : Nat) (r : Nat → Nat) (H1 : Heap), (∀ i j : Nat, i < N → j < N → r i = r j → i = j) → (∀ i : Nat, i < N → r i ∉ gL S) → q ∉ gL S ++ rwL r N → va_P D vwCl (PW cA (pMN S q r N 25 24 K) ++ wb) H1 → va_D A (PW cA (pMN S q r N 25 24 K) ++ wb) → va_S A H0 H1 locs → W p l e R s m args below meth c H1 locs (cells + 1 + N) (slots + N + N * K) Q (F0 m (pc + 4) ls (.ref q :: rest))) : W p l e R s m args below meth c H locs cells slots Q (F0 m pc ls (.int k :: .int n :: rest)) := by
  refine va_mna (X := wb) (L := gL S) (f := pcell cA S) (ty := .array .int) (cy := cA 6) (z := (K, .inr (.inr (.inr (.inr (fun _ => none)))))) hexec hb hown hclink hAO.2 hAO.1.cls (hK.2 6 _ rfl).2 hK (kj_P List.perm_append_comm hP) (kj_D List.perm_append_comm hD) hS hA hn hk hN hM hb1 hb2 hb3 rfl rfl hcells hslots (fun c => arrV_new c K .null) hdg (fun q r c1 H1 a1 a2 a3 b1 b2 b3 => ?_)
  obtain rfl : c1 = cA 7 := kx_arrI (a3.2 8 _ rfl).2 (hK.2 7 _ rfl).2
  have g1 : pcell cA (pMN S q r N 25 24 K) q = .inl (cA 7, N, .inr (.inr (.inr (.inr (fun i => if i < N then some (r i) else none))))) := by
    rw [pcell_b (S := pMN S q r N 25 24 K) up_s, show gN (pMN S q r N 25 24 K) q = N from up_s, show gP (pMN S q r N 25 24 K) q = fun i => if i < N then some (r i) else none from if_pos rfl]
  have g2 : ∀ b, b ≠ q → b ∈ rwL r N → pcell cA (pMN S q r N 25 24 K) b = .inl (cA 6, (K, .inr (.inr (.inr (.inr (fun _ => none)))))) := fun b hne hr => by
    rw [pcell_a (S := pMN S q r N 25 24 K) ((up_ne hne).trans (vr_up_in hr)), show gN (pMN S q r N 25 24 K) b = K from (up_ne hne).trans (vr_up_in hr), show gP (pMN S q r N 25 24 K) b = fun _ => none from (if_neg hne).trans (if_pos hr)]
  obtain ⟨p1, p2⟩ := pw_mna g1 g2 b2
  exact kk q r H1 a1 a2 p1 (kj_P p2 b1) (kj_D p2 b2) b3
theorem ky_new (hexec : p.tables.exec = Jvm.exec) (hb : c.code = cc) {own C : String} {T : u_T} {N ci index : Nat} {Ts : List Cond} (hts : ∀ w ∈ Ts, w.before args s = true) (hin : ∀ w ∈ u_ws C T N, w ∈ Ts) (ty : Nat → FieldType) (hty : ∀ k, k < N → parseFieldDescriptor (T k).2.2.1 = some (ty k)) (hown : s.vm.findClass own = some m.cls) (hcl : (Cond.classLink own index C).before args s = true) (hinst : (Cond.instantiable C N).before args s = true) (hini : (Cond.initialized C).before args s = true)
    (hK : va_K D vwCl (ty6 cA) s) (hP : va_P D vwCl (PW cA S ++ wb) H) (hD : va_D A (PW cA S ++ wb)) (hS : va_S A H0 H locs) (hA : ∀ q, H0.size ≤ q → A q) (hci : ci < 6) (hc : vwCl[ci]? = some (C, T, N)) (hnf : nf ci = N) (hfs : ∀ j, j < N → defaultValue (ty j) = if isR ci j = true then .null else .int 0) (hcells : cells + 1 ≤ R.cells) (hslots : slots + N ≤ R.slots) (hdg : decode cc pc = .ok (.new index, 3))
    (kk : ∀ (q : Nat) (H1 : Heap), q ∉ gL S → va_P D vwCl (PW cA (pW S q ci 0) ++ wb) H1 → va_D A (PW cA (pW S q ci 0) ++ wb) → va_S A H0 H1 locs →
      W p l e R s m args below meth c H1 locs (cells + 1) (slots + N) Q (F0 m (pc + 3) ls (.ref q :: rest))) : W p l e R s m args below meth c H locs cells slots Q (F0 m pc ls rest) := by
  subst hnf
  refine va_new hexec hb hts hin ty hty hown hcl hinst hini hK hP hD hS hA hc (fs := (List.range (nf ci)).map (fun j => if isR ci j = true then Value.null else .int 0)) ?_ hcells hslots hdg (fun q H1 a1 a2 a3 => ?_)
  · intro j hj
    rw [hfs j hj]
    simp [vp_V, hj]
  · have hg : pcell cA (pW S q ci 0) q = .inr (ci, (List.range (nf ci)).map (fun j => if isR ci j = true then Value.null else .int 0)) := by
      rw [pcell_o (S := pW S q ci 0) (ci := ci) up_s hci]
      refine congrArg (fun z => Sum.inr (ci, z)) ?_
      refine List.map_congr_left fun j _ => ?_
      show (if isR ci j = true then va_rf (u1 (gQ S) q (fun _ => none) q j) else Value.int (u1 (gI S) q (fun _ => 0) q j)) = _
      rw [u1_s, u1_s]; rfl
    have a1 := kj_P kmy_perm a1
    have a2 := kj_D kmy_perm a2
    obtain ⟨h1, h2⟩ := pw_new (g := pcell cA (pW S q ci 0)) (kmy_D a2) hg (fun b hb => pcell_ne (S' := pW S q ci 0) (up_ne hb) (up_ne hb) (u1_row hb) (u1_row hb) (u1_row hb) (u1_row hb) (u1_row hb))
    rw [h2] at a1 a2
    exact kk q H1 h1 a1 a2 a3
theorem kd_new (hexec : p.tables.exec = Jvm.exec) (hb : c.code = cc) {own C : String} {T : u_T} {N index : Nat} {Ts : List Cond} (hts : ∀ w ∈ Ts, w.before args s = true) (hin : ∀ w ∈ u_ws C T N, w ∈ Ts) (ty : Nat → FieldType) (hty : ∀ k, k < N → parseFieldDescriptor (T k).2.2.1 = some (ty k)) (hown : s.vm.findClass own = some m.cls) (hcl : (Cond.classLink own index C).before args s = true) (hinst : (Cond.instantiable C N).before args s = true) (hini : (Cond.initialized C).before args s = true)
    (hK : va_K D vwCl (ty6 cA) s) (hP : va_P D vwCl (PW cA S ++ wb) H) (hD : va_D A (PW cA S ++ wb)) (hS : va_S A H0 H locs) (hA : ∀ q, H0.size ≤ q → A q) (hc : vwCl[6]? = some (C, T, N)) (hnf : nf 23 = N) (hfs : ∀ j, j < N → defaultValue (ty j) = if isR 23 j = true then .null else .int 0) (hcells : cells + 1 ≤ R.cells) (hslots : slots + N ≤ R.slots) (hdg : decode cc pc = .ok (.new index, 3))
    (kk : ∀ (q : Nat) (H1 : Heap), q ∉ gL S → va_P D vwCl (PW cA (pW S q 23 0) ++ wb) H1 → va_D A (PW cA (pW S q 23 0) ++ wb) → va_S A H0 H1 locs →
      W p l e R s m args below meth c H1 locs (cells + 1) (slots + N) Q (F0 m (pc + 3) ls (.ref q :: rest))) : W p l e R s m args below meth c H locs cells slots Q (F0 m pc ls rest) := by
  subst hnf
  refine va_new hexec hb hts hin ty hty hown hcl hinst hini hK hP hD hS hA hc (fs := (List.range (nf 23)).map (fun j => if isR 23 j = true then Value.null else .int 0)) ?_ hcells hslots hdg (fun q H1 a1 a2 a3 => ?_)
  · intro j hj
    rw [hfs j hj]
    simp [vp_V, hj]
  · have hg : pcell cA (pW S q 23 0) q = .inr (6, (List.range (nf 23)).map (fun j => if isR 23 j = true then Value.null else .int 0)) := by
      rw [pcell_d (S := pW S q 23 0) up_s]
      refine congrArg (fun z => Sum.inr (6, z)) ?_
      refine List.map_congr_left fun j _ => ?_
      show (if isR 23 j = true then va_rf (u1 (gQ S) q (fun _ => none) q j) else Value.int (u1 (gI S) q (fun _ => 0) q j)) = _
      rw [u1_s, u1_s]; rfl
    have a1 := kj_P kmy_perm a1
    have a2 := kj_D kmy_perm a2
    obtain ⟨h1, h2⟩ := pw_new (g := pcell cA (pW S q 23 0)) (kmy_D a2) hg (fun b hb => pcell_ne (S' := pW S q 23 0) (up_ne hb) (up_ne hb) (u1_row hb) (u1_row hb) (u1_row hb) (u1_row hb) (u1_row hb))
    rw [h2] at a1 a2
    exact kk q H1 h1 a1 a2 a3
end KM
