/-! rows of rows: the classes of their places; copying them; calls of the class from beside Desk's cells -/
theorem va_RR.of {t : FieldType} {cB cC : ClassId} {U : State} (h : va_AOA t U) (h1 : U.vm.findClass (FieldType.array t).toString = some cB) (h2 : U.vm.findClass ("[" ++ (FieldType.array t).toString) = some cC) : va_RR U cC cB t := by
  obtain ⟨comp, k9, kk, e1, -, e2, e3, e4⟩ := arrayOverA_spec h
  cases e1.symm.trans h1
  cases e4.symm.trans h2
  obtain ⟨kB, hkB, -⟩ := Vm.findClass_spec h1
  exact ⟨kk, kB, e2, e3, hkB⟩
theorem rr_1 {D : va_G} {cA : Nat → ClassId} {U : State} (hK : va_K D vwCl (ty6 cA) U) (h : va_AOA .int U) : va_RR U (cA 6) (cA 0) .int := va_RR.of h (hK.2 0 _ rfl).2 (hK.2 6 _ rfl).2
theorem rr_2 {D : va_G} {cA : Nat → ClassId} {U : State} (hK : va_K D vwCl (ty6 cA) U) (h : va_AOA (.array .int) U) : va_RR U (cA 7) (cA 6) (.array .int) := va_RR.of h (hK.2 6 _ rfl).2 (hK.2 7 _ rfl).2
section KN
variable {p : Program} {l : Launch} {e : Env} {R : Room} {s : State} {m : MethodId} {args : Array Value} {below : List Frame} {meth : Method} {c : Code} {H : Heap} {locs : List Loc} {cells slots mc ms : Nat} {Q : State → Prop}
variable {cc : ByteArray} {pc : Nat} {ls : Array Slot} {st0 rest : List Value} {D : va_G} {A : Nat → Prop} {a b : Nat} {H0 : Heap} {cA : Nat → ClassId} {wa wb : va_W} {As : List Value} {as : Array Value} {X : Type} {w : X → va_W} {S T : Pool}
theorem kx_ialdv (hexec : p.tables.exec = Jvm.exec) (hb : c.code = cc) (hK : va_K D vwCl (ty6 cA) s) (hP : va_P D vwCl (PW cA S) H) {ki n : Nat} (ho : isA S a ki n) (h6 : 6 ≤ ki) (h20 : ki < 20) {i : Int32} (hin : vp_in i n) {x : Int32} (hx : gR S a i.toNatClampNeg = x) (hdg : decode cc pc = .ok (.iaload, 1))
    (kk : W p l e R s m args below meth c H locs cells slots Q (F0 m (pc + 1) ls (.int x :: rest))) : W p l e R s m args below meth c H locs cells slots Q (F0 m pc ls (.int i :: .ref a :: rest)) := by
  subst hx
  exact kx_iald hexec hb hK hP ho h6 h20 hin hdg kk
theorem ky_lena (hexec : p.tables.exec = Jvm.exec) (hb : c.code = cc) (hK : va_K D vwCl (ty6 cA) s) (hP : va_P D vwCl (PW cA S ++ wb) H) {n : Nat} (ho : isA S a 24 n) {v : Int32} (hv : nI n = v) (hdg : decode cc pc = .ok (.arraylength, 1))
    (kk : W p l e R s m args below meth c H locs cells slots Q (F0 m (pc + 1) ls (.int v :: rest))) : W p l e R s m args below meth c H locs cells slots Q (F0 m pc ls (.ref a :: rest)) := by
  obtain ⟨q0, h0⟩ := pw_get (cA := cA) ho.1
  rw [pcell_a ho.2.1] at h0
  subst hv
  refine va_alen hexec hb hK (kmy_P hP) q0 6 h0 rfl (v := nI n) ?_ hdg kk
  show nI (gN S a) = nI n
  rw [ho.2.2]
theorem kpe_rc {wb : va_W} (hK : va_K D vwCl (ty6 cA) s) (hP : va_P D vwCl (PW cA T ++ wb) H) (ho : isO T b 23) {N : Nat} {C : String} {T9 : u_T} (hc : vwCl[6]? = some (C, T9, N)) : ∃ cell : Cell, H[b]? = some cell ∧ cell.vm.isStatics = false ∧ s.vm.findClass C = some cell.cls := by
  obtain ⟨q0, h0⟩ := pw_get (cA := cA) ho.1
  rw [pcell_d ho.2] at h0
  exact va_recv hK (kmy_P hP) hc h0
theorem kn_i {φ : Int32 → X → Prop} (hr : va_Run p l e R s m args below meth c H locs cells slots mc ms (F0 m pc ls st0) rest (va_Qi φ (fun x => kB D cA (va_A wa H.size) (w x)) (va_A wa H.size) as) (va_A wa H.size)) (hP : va_P D vwCl (wb ++ wa) H) (hD : va_D A (wb ++ wa)) (hS : va_S A H0 H locs) (hA : ∀ q, H0.size ≤ q → A q)
    (kk : ∀ (r : Int32) (x : X) (H1 : Heap) (locs1 : List Loc), φ r x → va_P D vwCl (wb ++ w x) H1 → va_D A (wb ++ w x) → va_S A H0 H1 locs1 → W p l e R s m args below meth c H1 locs1 (cells + mc) (slots + ms) Q (F0 m (pc + 3) ls (.int r :: rest))) : W p l e R s m args below meth c H locs cells slots Q (F0 m pc ls st0) :=
  kj_i List.perm_append_comm hr hP hD hS hA (fun r x H1 locs1 h1 h2 h3 h4 => kk r x H1 locs1 h1 (kj_P List.perm_append_comm h2) (kj_D List.perm_append_comm h3) h4)
theorem kn_l {φ : Int64 → X → Prop} (hr : va_Run p l e R s m args below meth c H locs cells slots mc ms (F0 m pc ls st0) rest (va_Ql φ (fun x => kB D cA (va_A wa H.size) (w x)) (va_A wa H.size) as) (va_A wa H.size)) (hP : va_P D vwCl (wb ++ wa) H) (hD : va_D A (wb ++ wa)) (hS : va_S A H0 H locs) (hA : ∀ q, H0.size ≤ q → A q)
    (kk : ∀ (r : Int64) (x : X) (H1 : Heap) (locs1 : List Loc), φ r x → va_P D vwCl (wb ++ w x) H1 → va_D A (wb ++ w x) → va_S A H0 H1 locs1 → W p l e R s m args below meth c H1 locs1 (cells + mc) (slots + ms) Q (F0 m (pc + 3) ls (.long r :: rest))) : W p l e R s m args below meth c H locs cells slots Q (F0 m pc ls st0) :=
  kj_l List.perm_append_comm hr hP hD hS hA (fun r x H1 locs1 h1 h2 h3 h4 => kk r x H1 locs1 h1 (kj_P List.perm_append_comm h2) (kj_D List.perm_append_comm h3) h4)
theorem kn_v {φ : X → Prop} (hr : va_Run p l e R s m args below meth c H locs cells slots mc ms (F0 m pc ls st0) rest (va_Qv φ (fun x => kB D cA (va_A wa H.size) (w x)) (va_A wa H.size) as) (va_A wa H.size)) (hP : va_P D vwCl (wb ++ wa) H) (hD : va_D A (wb ++ wa)) (hS : va_S A H0 H locs) (hA : ∀ q, H0.size ≤ q → A q)
    (kk : ∀ (x : X) (H1 : Heap) (locs1 : List Loc), φ x → va_P D vwCl (wb ++ w x) H1 → va_D A (wb ++ w x) → va_S A H0 H1 locs1 → W p l e R s m args below meth c H1 locs1 (cells + mc) (slots + ms) Q (F0 m (pc + 3) ls rest)) : W p l e R s m args below meth c H locs cells slots Q (F0 m pc ls st0) :=
  kj_v List.perm_append_comm hr hP hD hS hA (fun x H1 locs1 h1 h2 h3 h4 => kk x H1 locs1 h1 (kj_P List.perm_append_comm h2) (kj_D List.perm_append_comm h3) h4)
theorem kn_V {ci N : Nat} {C : String} {T9 : u_T} (hK : va_K D vwCl (ty6 cA) s) (hP : va_P D vwCl (wb ++ PW cA S) H) (hD : va_D A (wb ++ PW cA S)) (hTB : TBok s) (ho : isO S b ci) (hci : ci < 6) (hc : vwCl[ci]? = some (C, T9, N)) : PreV s H C b (va_Pc (.ref b :: As) (kPre D cA (PW cA S) H.size)) As :=
  kj_V List.perm_append_comm hK hP hD hTB (kj_rc List.perm_append_comm hK hP ho hci hc)
theorem kn_VX {ci N : Nat} {C : String} {T9 : u_T} (hK : va_K D vwCl (ty6 cA) s) (hP : va_P D vwCl (wb ++ PW cA S) H) (hD : va_D A (wb ++ PW cA S)) (hTB : TBok s) (hTX : TXok A s) (hS : va_S A s.heap H locs) (hA : ∀ q, s.heap.size ≤ q → A q) (ho : isO S b ci) (hci : ci < 6) (hc : vwCl[ci]? = some (C, T9, N)) : PreV s H C b (va_Pc (.ref b :: As) (kPreX D cA (PW cA S) H.size)) As :=
  kj_VX List.perm_append_comm hK hP hD hTB hTX hS hA (kj_rc List.perm_append_comm hK hP ho hci hc)
/-- a whole row of rows, or a stretch of it, into another -/
theorem va_copya (hexec : p.tables.exec = Jvm.exec) (hb : c.code = cc) (hml : c.maxLocals = ls.size) {own : String} {index : Nat} (hown : s.vm.findClass own = some m.cls) (hlink : (Cond.methodLink own index arraycopyName).before args s = true) (hnat : (Cond.native arraycopyName).before args s = true) (hstat : (Cond.static arraycopyName).before args s = true) (hini : (Cond.initialized "java/lang/System").before args s = true)
    {ws : va_W} {tys : List (ClassId × FieldType)} (hK : va_K D vwCl tys s) (hP : va_P D vwCl ws H) (hD : va_D A ws) (hS : va_S A H0 H locs) (q0 q1 t0 : Nat) {a0 : Nat} {cX cB : ClassId} {T0 : FieldType} {n0 n1 : Nat} {f g : Nat → Option Nat} (ha0 : ws[q0]? = some (a0, .inl (cX, n0, .inr (.inr (.inr (.inr f)))))) (ha1 : ws[q1]? = some (a, .inl (cX, n1, .inr (.inr (.inr (.inr g)))))) (ht0 : tys[t0]? = some (cX, .array T0)) (hR : va_RR s cX cB T0)
    {k : Nat} (hk : k < 2 ^ 31) (h4 : k ≤ n0) (h5 : k ≤ n1) (hel : ∀ i : Nat, i < k → ∀ y : Nat, f i = some y → ∃ x, (y, .inl (cB, x)) ∈ ws)
    (hframes : 1 ≤ R.frames) (hlocals : (rest.map fun v => v.category).sum + (nativeFrameWords "java/lang/System" "arraycopy" 5 + 11) ≤ R.locals) (hdg : decode cc pc = .ok (.invokestatic index, 3))
    (kk : ∀ (H1 : Heap) (locs1 : List Loc), va_P D vwCl (ws.set q1 (a, .inl (cX, n1, .inr (.inr (.inr (.inr (va_cpy f g 0 0 k))))))) H1 → va_D A (ws.set q1 (a, .inl (cX, n1, .inr (.inr (.inr (.inr (va_cpy f g 0 0 k))))))) → va_S A H0 H1 locs1 → W p l e R s m args below meth c H1 locs1 cells slots Q (F0 m (pc + 3) ls rest)) : W p l e R s m args below meth c H locs cells slots Q (F0 m pc ls (.int (nI k) :: .int 0 :: .ref a :: .int 0 :: .ref a0 :: rest)) := by
  intro T hT X
  have hck : (nI k).toNatClampNeg = k := ki_cl hk
  have hnk : ¬ nI k < 0 := fun h => by
    have := (nI_ltI (a := k) (b := 0) hk (by decide)).mp h
    omega
  have hik : (nI k).toInt = (k : Int) := nI_toInt hk
  have hc0 : H[a0]? = some (vp_cell cX (n0, .inr (.inr (.inr (.inr f))))) := hP q0 _ ha0
  have hc1 : H[a]? = some (vp_cell cX (n1, .inr (.inr (.inr (.inr g))))) := hP q1 _ ha1
  obtain ⟨-, k0, hk0, cm0, hkk0⟩ := (hK.2 t0 _ ht0).1 n0 (fun j => va_rf (f j))
  obtain ⟨kA, kB, r1, r2, r3⟩ := hR
  cases hk0.symm.trans r1
  cases hkk0.symm.trans r2
  obtain ⟨vm', X', step⟩ := X.arraycopy hexec hown hlink hnat hstat hini (src := a0) (dst := a) (cs := vp_cell cX (n0, .inr (.inr (.inr (.inr f))))) (cd := vp_cell cX (n1, .inr (.inr (.inr (.inr g))))) (srcPos := 0) (destPos := 0) (n := nI k) (by rw [hT]; exact hc0) (by rw [hT]; exact hc1)
    (fun _ h => by cases h) (fun _ h => by cases h) (fun h => by cases h) (fun h => by cases h) hk0 hk0 hkk0 hkk0 rfl (by decide) (by decide) hnk
    (by rw [hik]; show ¬ (0 : Int) + _ > ((arrV cX n0 (fun j => va_rf (f j))).slots.size : Int); rw [arrV_size]; omega)
    (by rw [hik]; show ¬ (0 : Int) + _ > ((arrV cX n1 (fun j => va_rf (g j))).slots.size : Int); rw [arrV_size]; omega)
    (fun vm₁ hal i hi => by
      rw [hck] at hi
      have e : (vp_cell cX (n0, .inr (.inr (.inr (.inr f))))).slots.getD ((0 : Int32).toNatClampNeg + i) .null = va_rf (f i) := by
        show (arrV cX n0 (fun j => va_rf (f j))).slots.getD _ _ = _
        rw [show (0 : Int32).toNatClampNeg + i = i from Nat.zero_add i, Array.getD_eq_getD_getElem?, arrV_read _ _ (by omega)]
        rfl
      rw [e]
      cases hy : f i with
      | none => exact ⟨rfl, trivial⟩
      | some y =>
        obtain ⟨x, hx⟩ := hel i hi y hy
        have g1 := kj_mem.mp hP _ hx
        have g1 : H[y]? = some (vp_cell cB x) := g1
        obtain ⟨v1, v2⟩ := vm_cell cB x
        obtain ⟨kB', hkB', -⟩ := hal.2.2 _ _ r3
        refine ⟨rfl, vp_cell cB x, (show T.heap[y]? = some _ by rw [hT]; exact g1), (fun q h => by rw [v2] at h; cases h), ⟨kB', by rw [v1]; exact hkB'⟩, ⟨kB', hkB'⟩, ?_⟩
        rw [v1]
        show (cB == cB || _) = true
        rw [beq_self_eq_true]; rfl)
    (g := F0 m pc ls (.int (nI k) :: .int 0 :: .ref a :: .int 0 :: .ref a0 :: rest)) rfl (by rw [hml]) (rest := rest) rfl (by rw [hb]; exact hdg) hframes (by show 2 * 0 + _ + _ ≤ _; omega)
  have e1 : copied (vp_cell cX (n0, .inr (.inr (.inr (.inr f))))) (vp_cell cX (n1, .inr (.inr (.inr (.inr g))))) 0 0 (nI k) = vp_cell cX (n1, .inr (.inr (.inr (.inr (va_cpy f g 0 0 k))))) := by
    have h9 := va_copied (sp := (0 : Int32).toNatClampNeg) (dp := (0 : Int32).toNatClampNeg) (n := (nI k).toNatClampNeg) (fun z => va_rf z) cX cX f g (n0 := n0) (n1 := n1) (by rw [hck]; show 0 + k ≤ n0; omega)
    rw [show va_cpy f g 0 0 k = va_cpy f g (0 : Int32).toNatClampNeg (0 : Int32).toNatClampNeg (nI k).toNatClampNeg from by rw [hck]; rfl]
    rw [vp_cell_q, vp_cell_q, vp_cell_q]
    exact h9
  rw [e1] at X' step
  have hl : a < H.size := (Array.getElem?_eq_some_iff.mp hc1).1
  generalize hz : vp_cell cX (n1, .inr (.inr (.inr (.inr (va_cpy f g 0 0 k))))) = Z at X' step
  have hheap : ((T.setVm vm').setCell a Z).heap = H.setIfInBounds a Z := by rw [← hT]; rfl
  have oq : ∀ q : Nat, q ≠ a → (H.setIfInBounds a Z)[q]? = H[q]? := fun q hq => by simp [Array.getElem?_setIfInBounds, Ne.symm hq]
  obtain ⟨t, a1, b1⟩ := kk _ _ (hP.set hD ha1 (show (H.setIfInBounds a Z)[a]? = some _ by subst hz; simp [Array.getElem?_setIfInBounds, hl]) oq) (hD.set ha1) ⟨by simp; exact hS.1, fun q g1 g2 => by
      rw [oq q (fun e => g2 (by rw [e]; exact hD.2 q1 _ ha1))]
      exact hS.2.1 q g1 g2, fun q hq => by
      rcases List.mem_append.mp hq with h | h
      · exact hS.2.2 q h
      · obtain ⟨z, -, hz⟩ := List.mem_map.mp h
        rw [← hz]
        exact hD.2 q1 _ ha1⟩ _ hheap X'
  exact ⟨t, step t a1, b1⟩
end KN
