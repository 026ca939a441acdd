/-! what a method over the pool finds, what it leaves, and calls of such methods -/
def TBok (U : State) : Prop := (∀ w ∈ TB, va_Nw w U) ∧ va_AO RX2 U ∧ va_AO RX3 U
def tbk (w : Cond) : Bool := match w with
  | .castable _ _ => true
  | .declares _ => true
  | .fieldLinkNest _ _ _ _ _ _ => true
  | .methodLinkNest _ _ _ _ => true
  | _ => false
theorem tb_k : ∀ w ∈ TB, tbk w = true := fun w h => List.all_eq_true.mp (show TB.all tbk = true from by decide +kernel) w h
theorem TBok.warm {s U : State} (hW : s.WarmedH U.vm) (h : TBok s) : TBok U := by
  refine ⟨?_, va_AO.moved hW.alike h.2.1, va_AO.moved hW.alike h.2.2⟩
  intro w hw
  have hk := tb_k w hw
  have h1 := h.1 w hw
  cases w <;> first
    | exact va_Nw.warmC hW h1
    | exact va_Nw.warmD hW h1
    | exact va_Nw.warmF hW h1
    | exact va_Nw.warmM hW h1
    | exact absurd hk (by decide)
    | simp [tbk] at hk
theorem TBok.same {u U : State} (h : u.vm = U.vm) (ha : u.vm.Alike U.vm) (hZ : TBok u) : TBok U := ⟨fun w hw => va_Nw.same (tb_ot w hw) h (hZ.1 w hw), va_AO.moved ha hZ.2.1, va_AO.moved ha hZ.2.2⟩
theorem TBok.use {s : State} {args : Array Value} (h : TBok s) {w : Cond} (hw : w ∈ TB) : w.before args s = true := va_Nw.use (tb_ot w hw) (h.1 w hw)
/-- which exceptions a handler of another class lets pass -/
def kNc : List (String × String) := [("java/lang/IllegalArgumentException", "java/lang/IllegalStateException"), ("java/lang/IllegalArgumentException", "java/lang/IndexOutOfBoundsException"), ("java/lang/IllegalStateException", "java/lang/IllegalArgumentException"), ("java/lang/IllegalStateException", "java/lang/IndexOutOfBoundsException"), ("java/lang/IndexOutOfBoundsException", "java/lang/IllegalArgumentException"), ("java/lang/IndexOutOfBoundsException", "java/lang/IllegalStateException")]
/-- what a throw needs of the world around it -/
def TXok (A : Nat → Prop) (U : State) : Prop := vx_Zq Bundle.tN "UNASSIGNED_STACK" Bundle.steD A U U.heap ∧ vx_Zq Bundle.tN "SUPPRESSED_SENTINEL" Bundle.listD A U U.heap ∧ (∀ q ∈ kStr, ∃ a, vk_R RX5 q.1 q.2 a U) ∧ ∀ q ∈ kNc, va_Nc q.1 q.2 U
theorem TXok.at {s U : State} {A A' : Nat → Prop} {H : Heap} {locs : List Loc} (h : TXok A s) (hS : va_S A s.heap H locs) (hA : ∀ q, A' q → A q) (hU : U.heap = H) (hW : s.WarmedH U.vm) : TXok A' U := by
  subst hU
  refine ⟨((h.1.kept hS.2.1).moved hW.alike).narrow hA, ((h.2.1.kept hS.2.1).moved hW.alike).narrow hA, fun q hq => ?_, fun q hq => va_Nc.moved hW.alike (h.2.2.2 q hq)⟩
  obtain ⟨a, ha⟩ := h.2.2.1 q hq
  exact ⟨a, vk_R.warm hW ha⟩
theorem TXok.call {A : Nat → Prop} {U : State} {g : JFrame} {mk : MethodId} {a : Array Value} (h : TXok A U) : TXok A (U.calling g mk a) := by
  refine ⟨vx_Zq.moved (u := U) (U := U.calling g mk a) (Vm.Alike.refl U.vm) h.1, vx_Zq.moved (u := U) (U := U.calling g mk a) (Vm.Alike.refl U.vm) h.2.1, fun q hq => ?_, fun q hq => va_Nc.moved (u := U) (U := U.calling g mk a) (Vm.Alike.refl U.vm) (h.2.2.2 q hq)⟩
  obtain ⟨z, hz⟩ := h.2.2.1 q hq
  exact ⟨z, vk_R.same (u := U) rfl hz⟩
abbrev kPre (D : va_G) (cA : Nat → ClassId) (ws : va_W) (sz : Nat) (U : State) : Prop := U.heap.size = sz ∧ va_P D vwCl ws U.heap ∧ va_K D vwCl (ty6 cA) U ∧ va_D (fun _ => True) ws ∧ TBok U
abbrev kPreX (D : va_G) (cA : Nat → ClassId) (ws : va_W) (sz : Nat) (U : State) : Prop := kPre D cA ws sz U ∧ TXok (va_A ws sz) U
abbrev kB (D : va_G) (cA : Nat → ClassId) (A : Nat → Prop) (ws : va_W) (t : State) : Prop := va_P D vwCl ws t.heap ∧ va_K D vwCl (ty6 cA) t ∧ va_D A ws
theorem kPre.call {D : va_G} {cA : Nat → ClassId} {ws : va_W} {sz : Nat} {U : State} {g : JFrame} {mk : MethodId} {a : Array Value} (h : kPre D cA ws sz U) : kPre D cA ws sz (U.calling g mk a) := ⟨h.1, h.2.1, va_K.moved (u := U) (U := U.calling g mk a) (Vm.Alike.refl U.vm) h.2.2.1, h.2.2.2.1, TBok.same (u := U) (U := U.calling g mk a) rfl (Vm.Alike.refl U.vm) h.2.2.2.2⟩
theorem kPre.blind {D : va_G} {cA : Nat → ClassId} {ws : va_W} {sz : Nat} {av : List Value} : FrameBlind (va_Pc av (kPre D cA ws sz)) := fun _ _ _ _ q => ⟨q.1, q.2.call⟩
theorem kPreX.blind {D : va_G} {cA : Nat → ClassId} {ws : va_W} {sz : Nat} {av : List Value} : FrameBlind (va_Pc av (kPreX D cA ws sz)) := fun _ _ _ _ q => ⟨q.1, q.2.1.call, q.2.2.call⟩
section KC
variable {p : Program} {l : Launch} {e : Env} {R : Room} {s : State} {m : MethodId} {args : Array Value} {below : List Frame} {meth : Method} {c : Code} {H : Heap} {locs : List Loc} {cells slots mc ms : Nat} {Q : State → Prop}
variable {cc : ByteArray} {pc : Nat} {ls : Array Slot} {st0 rest : List Value} {D : va_G} {A : Nat → Prop} {a b : Nat} {H0 : Heap} {cA : Nat → ClassId} {ws : va_W} {As : List Value} {as : Array Value}
theorem kp_at (hK : va_K D vwCl (ty6 cA) s) (hP : va_P D vwCl ws H) (hD : va_D A ws) (hTB : TBok s) {U : State} (hU : U.heap = H) (hW : s.WarmedH U.vm) : kPre D cA ws H.size U := by
  subst hU
  exact ⟨rfl, hP, va_K.moved hW.alike hK, hD.weaken (fun _ _ _ _ => trivial), hTB.warm hW⟩
theorem kp_A (hD : va_D A ws) (hS : va_S A H0 H locs) (hA : ∀ q, H0.size ≤ q → A q) : ∀ q, va_A ws H.size q → A q := fun q h => h.elim (fun ⟨k, e, hk⟩ => hD.2 k _ hk) (fun h => hA q (Nat.le_trans hS.1 h))
theorem kp_rc {S : Pool} (hK : va_K D vwCl (ty6 cA) s) (hP : va_P D vwCl (PW cA S) H) {ci N : Nat} {C : String} {T : u_T} (ho : isO S b ci) (hci : ci < 6) (hc : vwCl[ci]? = some (C, T, N)) : ∃ cell : Cell, H[b]? = some cell ∧ cell.vm.isStatics = false ∧ s.vm.findClass C = some cell.cls := by
  obtain ⟨q0, h0⟩ := pw_get (cA := cA) ho.1
  rw [pcell_o ho.2 hci] at h0
  exact va_recv hK hP hc h0
theorem kp_V (hK : va_K D vwCl (ty6 cA) s) (hP : va_P D vwCl ws H) (hD : va_D A ws) (hTB : TBok s) {C : String} (hrc : ∃ cell : Cell, H[b]? = some cell ∧ cell.vm.isStatics = false ∧ s.vm.findClass C = some cell.cls) : PreV s H C b (va_Pc (.ref b :: As) (kPre D cA ws H.size)) As :=
  ⟨kPre.blind, hrc, fun _ hU hW => ⟨rfl, kp_at hK hP hD hTB hU hW⟩⟩
theorem kp_S (hK : va_K D vwCl (ty6 cA) s) (hP : va_P D vwCl ws H) (hD : va_D A ws) (hTB : TBok s) : PreS s H (va_Pc As (kPre D cA ws H.size)) As :=
  ⟨kPre.blind, fun _ hU hW => ⟨rfl, kp_at hK hP hD hTB hU hW⟩⟩
theorem kp_VX (hK : va_K D vwCl (ty6 cA) s) (hP : va_P D vwCl ws H) (hD : va_D A ws) (hTB : TBok s) (hTX : TXok A s) (hS : va_S A s.heap H locs) (hA : ∀ q, s.heap.size ≤ q → A q) {C : String} (hrc : ∃ cell : Cell, H[b]? = some cell ∧ cell.vm.isStatics = false ∧ s.vm.findClass C = some cell.cls) : PreV s H C b (va_Pc (.ref b :: As) (kPreX D cA ws H.size)) As :=
  ⟨kPreX.blind, hrc, fun _ hU hW => ⟨rfl, kp_at hK hP hD hTB hU hW, hTX.at hS (kp_A hD hS hA) hU hW⟩⟩
theorem kp_SX (hK : va_K D vwCl (ty6 cA) s) (hP : va_P D vwCl ws H) (hD : va_D A ws) (hTB : TBok s) (hTX : TXok A s) (hS : va_S A s.heap H locs) (hA : ∀ q, s.heap.size ≤ q → A q) : PreS s H (va_Pc As (kPreX D cA ws H.size)) As :=
  ⟨kPreX.blind, fun _ hU hW => ⟨rfl, kp_at hK hP hD hTB hU hW, hTX.at hS (kp_A hD hS hA) hU hW⟩⟩
/-- a call that answers an int -/
theorem kc_i {X : Type} {w : X → va_W} {φ : Int32 → X → Prop} (hr : va_Run p l e R s m args below meth c H locs cells slots mc ms (F0 m pc ls st0) rest (va_Qi φ (fun x => kB D cA (va_A ws H.size) (w x)) (va_A ws H.size) as) (va_A ws H.size)) (hD : va_D A ws) (hS : va_S A H0 H locs) (hA : ∀ q, H0.size ≤ q → A q)
    (kk : ∀ (r : Int32) (x : X) (H1 : Heap) (locs1 : List Loc), φ r x → va_P D vwCl (w x) H1 → va_D A (w x) → va_S A H0 H1 locs1 → W p l e R s m args below meth c H1 locs1 (cells + mc) (slots + ms) Q (F0 m (pc + 3) ls (.int r :: rest))) : W p l e R s m args below meth c H locs cells slots Q (F0 m pc ls st0) := by
  have hF := kp_A hD hS hA
  refine va_calli hr hS (fun q _ h => hF q h) hF (fun r u t H1 locs1 ht hvm hw hB hz1 hk1 hS1 => ?_)
  obtain ⟨b1, b2, b3⟩ := hB
  rw [ht] at b1
  exact kk r u H1 locs1 hw b1 (b3.weaken (fun _ _ _ h => hF _ h)) hS1
theorem kc_l {X : Type} {w : X → va_W} {φ : Int64 → X → Prop} (hr : va_Run p l e R s m args below meth c H locs cells slots mc ms (F0 m pc ls st0) rest (va_Ql φ (fun x => kB D cA (va_A ws H.size) (w x)) (va_A ws H.size) as) (va_A ws H.size)) (hD : va_D A ws) (hS : va_S A H0 H locs) (hA : ∀ q, H0.size ≤ q → A q)
    (kk : ∀ (r : Int64) (x : X) (H1 : Heap) (locs1 : List Loc), φ r x → va_P D vwCl (w x) H1 → va_D A (w x) → va_S A H0 H1 locs1 → W p l e R s m args below meth c H1 locs1 (cells + mc) (slots + ms) Q (F0 m (pc + 3) ls (.long r :: rest))) : W p l e R s m args below meth c H locs cells slots Q (F0 m pc ls st0) := by
  have hF := kp_A hD hS hA
  refine va_calll hr hS (fun q _ h => hF q h) hF (fun r u t H1 locs1 ht hvm hw hB hz1 hk1 hS1 => ?_)
  obtain ⟨b1, b2, b3⟩ := hB
  rw [ht] at b1
  exact kk r u H1 locs1 hw b1 (b3.weaken (fun _ _ _ h => hF _ h)) hS1
theorem kc_v {X : Type} {w : X → va_W} {φ : X → Prop} (hr : va_Run p l e R s m args below meth c H locs cells slots mc ms (F0 m pc ls st0) rest (va_Qv φ (fun x => kB D cA (va_A ws H.size) (w x)) (va_A ws H.size) as) (va_A ws H.size)) (hD : va_D A ws) (hS : va_S A H0 H locs) (hA : ∀ q, H0.size ≤ q → A q)
    (kk : ∀ (x : X) (H1 : Heap) (locs1 : List Loc), φ x → va_P D vwCl (w x) H1 → va_D A (w x) → va_S A H0 H1 locs1 → W p l e R s m args below meth c H1 locs1 (cells + mc) (slots + ms) Q (F0 m (pc + 3) ls rest)) : W p l e R s m args below meth c H locs cells slots Q (F0 m pc ls st0) := by
  have hF := kp_A hD hS hA
  refine va_callv hr hS (fun q _ h => hF q h) hF (fun u t H1 locs1 ht hvm hw hB hz1 hk1 hS1 => ?_)
  obtain ⟨b1, b2, b3⟩ := hB
  rw [ht] at b1
  exact kk u H1 locs1 hw b1 (b3.weaken (fun _ _ _ h => hF _ h)) hS1
theorem kc_q {X : Type} {w : X → va_W} {φ : Option Nat → X → Prop} (hr : va_Run p l e R s m args below meth c H locs cells slots mc ms (F0 m pc ls st0) rest (va_Qq φ (fun x => kB D cA (va_A ws H.size) (w x)) (va_A ws H.size) as) (va_A ws H.size)) (hD : va_D A ws) (hS : va_S A H0 H locs) (hA : ∀ q, H0.size ≤ q → A q)
    (kk : ∀ (r : Option Nat) (x : X) (H1 : Heap) (locs1 : List Loc), φ r x → va_P D vwCl (w x) H1 → va_D A (w x) → va_S A H0 H1 locs1 → W p l e R s m args below meth c H1 locs1 (cells + mc) (slots + ms) Q (F0 m (pc + 3) ls (va_rf r :: rest))) : W p l e R s m args below meth c H locs cells slots Q (F0 m pc ls st0) := by
  have hF := kp_A hD hS hA
  refine va_callq hr hS (fun q _ h => hF q h) hF (fun r u t H1 locs1 ht hvm hw hB hz1 hk1 hS1 => ?_)
  obtain ⟨b1, b2, b3⟩ := hB
  rw [ht] at b1
  exact kk r u H1 locs1 hw b1 (b3.weaken (fun _ _ _ h => hF _ h)) hS1
/-- the world where a method has thrown E0, nothing changed -/
def kXC (D : va_G) (cA : Nat → ClassId) (ws : va_W) (E0 : String) (A : Nat → Prop) : String → State → State → Prop := vx_X (fun _ : Unit => True) (fun E _ t => E = E0 ∧ kB D cA A ws t) A
abbrev kNo : Array Value → State → Outcome → State → Prop := fun _ _ _ _ => False
/-- a call of a method that throws, here in any case -/
theorem kt_call {E0 : String} (hr : vx_Run p l e R s m args below meth c H locs cells slots mc ms (F0 m pc ls st0) rest (kNo as) (kXC D cA ws E0 (va_A ws H.size)) (va_A ws H.size)) (hD : va_D A ws) (hS : va_S A H0 H locs) (hA : ∀ q, H0.size ≤ q → A q)
    (kk : ∀ (ce : Cell) (q9 : Addr) (H1 : Heap) (locs1 : List Loc), va_P D vwCl ws H1 → va_D A ws → va_S A H0 H1 locs1 → H1[q9]? = some ce → ce.vm = .none → s.vm.findClass E0 = some ce.cls → vx_W p l e R s m args below meth c H1 locs1 (cells + mc) (slots + ms) Q (F0 m pc ls rest) q9) : W p l e R s m args below meth c H locs cells slots Q (F0 m pc ls st0) := by
  have hF := kp_A hD hS hA
  intro T hT X
  rcases hr T hT X with ⟨v, st₀, t, T', L, h0, X', hL, e1, e2, hno, st⟩ | ⟨q, st₀, t, T', L, E, ce, h0, X', hL, e1, e2, ⟨u, hp, ⟨rfl, b1, b2, b3⟩, hFr⟩, hce, hcv, hcl, st⟩
  · exact hno.elim
  · obtain ⟨k1, k2, k3⟩ := vx_keep h0 e1 hS (fun q _ h => hF q h) hF hL hFr
    obtain ⟨t2, a1, z1⟩ := kk ce q T'.heap (locs ++ L) (by rw [e1]; exact b1) (b3.weaken (fun _ _ _ h => hF _ h)) k3 (by rw [e1]; exact hce) hcv hcl T' rfl X'
    exact ⟨t2, st.trans a1, z1⟩
/-- it leaves this method too -/
theorem kt_out {E0 : String} {ce : Cell} {q : Addr} {Qc : Array Value → State → Outcome → State → Prop} (hTab : ∀ x ∈ c.exceptionTable.toList, False) (hlocks : meth.locks = false) (hK : va_K D vwCl (ty6 cA) s) (hP : va_P D vwCl ws H) (hD : va_D A ws) (hS : va_S A s.heap H locs) (hce : H[q]? = some ce) (hcv : ce.vm = .none) (hcl : s.vm.findClass E0 = some ce.cls) (hc : cells ≤ mc) (hs : slots ≤ ms) :
    vx_W p l e R s m args below meth c H locs cells slots (vx_MQ below Qc (kXC D cA ws E0 A) args s mc ms A) (F0 m pc ls rest) q :=
  vx_out (fun x hx => (hTab x hx).elim) hlocks hce hcv hcl (fun t ht ha => ⟨(), trivial, ⟨rfl, by rw [ht]; exact hP, va_K.moved ha hK, hD⟩, hS.F ht⟩) hS.2.2 hc hs
/-- throw new E(text) -/
theorem kt_new {Qc : Array Value → State → Outcome → State → Prop} {E0 text : String} {ik is ic : Nat} (hexec : p.tables.exec = Jvm.exec) (hb : c.code = cc) (hl : l.stackTraces = false) (hown : s.vm.findClass RX5 = some m.cls)
    (hE : E0 = "java/lang/IllegalArgumentException" ∨ E0 = "java/lang/IllegalStateException" ∨ E0 = "java/lang/IndexOutOfBoundsException") (hk : (Cond.classLink RX5 ik E0).before args s = true) (hini : (Cond.initialized E0).before args s = true) (hst : (is, text) ∈ kStr)
    (hat : ∀ w ∈ (vx_atS RX5 ic E0 ["java/lang/RuntimeException", "java/lang/Exception"]).filter goodWord, w.before args s = true) (han : ∀ w ∈ (vx_atS RX5 ic E0 ["java/lang/RuntimeException", "java/lang/Exception"]).filter (fun w => !goodWord w), w ∈ TB)
    (hgood : ∀ w ∈ Cond.classLink RX5 ik E0 :: Cond.initialized E0 :: vx_atS RX5 ic E0 ["java/lang/RuntimeException", "java/lang/Exception"], vx_ot w = true)
    (hTB : TBok s) (hTX : TXok A s) (hK : va_K D vwCl (ty6 cA) s) (hP : va_P D vwCl ws H) (hD : va_D A ws) (hS : va_S A s.heap H locs) (hsize : ls.size = c.maxLocals)
    (d0 : decode cc pc = .ok (.new ik, 3)) (d3 : decode cc (pc + 3) = .ok (.dup, 1)) (d4 : decode cc (pc + 4) = .ok (.ldc is, 2)) (d6 : decode cc (pc + 6) = .ok (.invokespecial ic, 3)) (d9 : decode cc (pc + 9) = .ok (.athrow, 1))
    (hTab : ∀ x ∈ c.exceptionTable.toList, False) (hRf : 5 < R.frames) (hRl : (rest.map fun v => v.category).sum + 82 ≤ R.locals) (hRc : cells + 1 ≤ R.cells) (hRs : slots + 6 ≤ R.slots) (hlocks : meth.locks = false) (hc : cells + 1 ≤ mc) (hs : slots + 6 ≤ ms) :
    W p l e R s m args below meth c H locs cells slots (vx_MQ below Qc (kXC D cA ws E0 A) args s mc ms A) (F0 m pc ls rest) := by
  obtain ⟨sa, hsa⟩ := hTX.2.2.1 _ hst
  have hfit : Bundle.fit E0 = true := by rcases hE with rfl | rfl | rfl <;> decide +kernel
  refine vx_throwS (own := RX5) (names := ["java/lang/RuntimeException", "java/lang/Exception"]) (A := A) hexec hb hl hown hfit (by decide +kernel) hk hini hsa (vx_hat hat han (fun w hw => hTB.use hw)) hgood hTX.1 hTX.2.1 hS hsize d0 d3 d4 d6 d9 (fun x hx => (hTab x hx).elim) hRf hRl hRc hRs hlocks (fun t ha hz hq => ?_) hS.2.2 hc hs
  refine ⟨(), trivial, ⟨rfl, hP.kept (fun k q hk => hq q.1 ((hP k q hk).lt)), va_K.moved ha hK, hD⟩, Nat.le_trans hS.1 hz, fun q h1 h2 => (hq q (Nat.lt_of_lt_of_le h1 hS.1)).trans (hS.2.1 q h1 h2)⟩
/-- the same, the text by a wide index -/
theorem kt_newW {Qc : Array Value → State → Outcome → State → Prop} {E0 text : String} {ik is ic : Nat} (hexec : p.tables.exec = Jvm.exec) (hb : c.code = cc) (hl : l.stackTraces = false) (hown : s.vm.findClass RX5 = some m.cls)
    (hE : E0 = "java/lang/IllegalArgumentException" ∨ E0 = "java/lang/IllegalStateException" ∨ E0 = "java/lang/IndexOutOfBoundsException") (hk : (Cond.classLink RX5 ik E0).before args s = true) (hini : (Cond.initialized E0).before args s = true) (hst : (is, text) ∈ kStr)
    (hat : ∀ w ∈ (vx_atS RX5 ic E0 ["java/lang/RuntimeException", "java/lang/Exception"]).filter goodWord, w.before args s = true) (han : ∀ w ∈ (vx_atS RX5 ic E0 ["java/lang/RuntimeException", "java/lang/Exception"]).filter (fun w => !goodWord w), w ∈ TB)
    (hgood : ∀ w ∈ Cond.classLink RX5 ik E0 :: Cond.initialized E0 :: vx_atS RX5 ic E0 ["java/lang/RuntimeException", "java/lang/Exception"], vx_ot w = true)
    (hTB : TBok s) (hTX : TXok A s) (hK : va_K D vwCl (ty6 cA) s) (hP : va_P D vwCl ws H) (hD : va_D A ws) (hS : va_S A s.heap H locs) (hsize : ls.size = c.maxLocals)
    (d0 : decode cc pc = .ok (.new ik, 3)) (d3 : decode cc (pc + 3) = .ok (.dup, 1)) (d4 : decode cc (pc + 4) = .ok (.ldc_w is, 3)) (d7 : decode cc (pc + 7) = .ok (.invokespecial ic, 3)) (d10 : decode cc (pc + 10) = .ok (.athrow, 1))
    (hTab : ∀ x ∈ c.exceptionTable.toList, False) (hRf : 5 < R.frames) (hRl : (rest.map fun v => v.category).sum + 82 ≤ R.locals) (hRc : cells + 1 ≤ R.cells) (hRs : slots + 6 ≤ R.slots) (hlocks : meth.locks = false) (hc : cells + 1 ≤ mc) (hs : slots + 6 ≤ ms) :
    W p l e R s m args below meth c H locs cells slots (vx_MQ below Qc (kXC D cA ws E0 A) args s mc ms A) (F0 m pc ls rest) := by
  obtain ⟨sa, hsa⟩ := hTX.2.2.1 _ hst
  have hfit : Bundle.fit E0 = true := by rcases hE with rfl | rfl | rfl <;> decide +kernel
  refine vx_throwSW (own := RX5) (names := ["java/lang/RuntimeException", "java/lang/Exception"]) (A := A) hexec hb hl hown hfit (by decide +kernel) hk hini hsa (vx_hat hat han (fun w hw => hTB.use hw)) hgood hTX.1 hTX.2.1 hS hsize d0 d3 d4 d7 d10 (fun x hx => (hTab x hx).elim) hRf hRl hRc hRs hlocks (fun t ha hz hq => ?_) hS.2.2 hc hs
  refine ⟨(), trivial, ⟨rfl, hP.kept (fun k q hk => hq q.1 ((hP k q hk).lt)), va_K.moved ha hK, hD⟩, Nat.le_trans hS.1 hz, fun q h1 h2 => (hq q (Nat.lt_of_lt_of_le h1 hS.1)).trans (hS.2.1 q h1 h2)⟩
end KC
