/-! a static method with handlers that may draw: its contract, and calls of it -/
section KDX
variable {cs : List Choice} {l : Launch} {R : Room} {p : Program} {e : Env} {below : List Frame} {s : State} {y : MethodName}
/-- the contract out of a walk -/
theorem kd_ofWH {ws ws' : List Cond} {rm : Room} {Pc : Array Value → State → Prop} {Qc : Array Value → State → Outcome → State → Prop} {mc ms : Nat} {free : Addr → Prop} {cc : ByteArray} {maxL : Nat} {ret : Option FieldType} {hh : List (Nat × Nat × Nat × Nat)}
    (hy : plainName y.cls = true) (hw : ws = Cond.codeWith y cc maxL ret hh :: ws')
    (body : ∀ p e s m args below meth c s₁, BodyLoose p l y (headSpec ws rm) cc maxL ret e s m args below meth c s₁ → c.maxLocals = maxL → c.exceptionTable.toList = tableOf hh → Pc args s → s.drawn.sameBut s.drawn cs →
      W p l e (headSpec ws rm).room (s.setDrawn s.drawn) m args below meth c s.heap [] 0 0 (MQD cs below Qc args s mc ms free) (entryFrame m args maxL)) : MetD cs l y ws rm Pc Qc mc ms free := by
  refine MetFree.of_bodyS (code := cc) (maxLocals := maxL) (ret := ret) hy (fun args s m h hn => ?_) (fun p e s m args below meth c s₁ B hml hP _ => ?_)
  · obtain ⟨m9, meth, c, hn9, h1, h2, h3, h4, -, h5, h6, -⟩ := Cond.codeWith_spec (atoms_spec (ws := ws) h _ (by rw [hw]; exact List.mem_cons_self))
    cases hn.symm.trans hn9
    exact ⟨meth, c, h1, h2, h3, h4, h5, h6⟩
  · have hh0 : s₁.heap = s.heap := by rw [B.state]; rfl
    have hcw : (Cond.codeWith y cc maxL ret hh).before args s = true := atoms_spec (ws := ws) B.pre _ (by rw [hw]; exact List.mem_cons_self)
    have X0 : Stand p l e (headSpec ws rm).room (s.setDrawn s.drawn) m args below meth c s₁ [] 0 0 := Stand.of_body B
    obtain ⟨t, a1, d, hd, o, b1, b2, b3, b4⟩ := body p e s m args below meth c s₁ B hml (vx_table (x := y) B hcw) hP (Drawn.sameBut.refl _ _) s₁ hh0 X0
    exact ⟨t, o, a1, b1, b2, d, hd, b3, b4⟩
/-- such a method comes back -/
theorem kd_backW {ws : List Cond} {rm : Room} {Pc : Array Value → State → Prop} {Qc : Array Value → State → Outcome → State → Prop} {mc ms len W9 : Nat} {free : Addr → Prop} {bytes : ByteArray} {maxL : Nat} {ret : Option FieldType} {hh : List (Nat × Nat × Nat × Nat)} {sargs : Array Value}
    (hM : MetD cs l y ws rm Pc Qc mc ms free) (hbl : FrameBlind Pc) (hrc : rm.cells = mc) (hrs : rm.slots = ms) (hfr : rm.frames + 1 ≤ R.frames) (hlo : W9 + (maxL + 11) + rm.locals ≤ R.locals)
    (hws : ∀ w ∈ ws, ∀ a' U, s.WarmedH U.vm → w.before a' U = true) (hcode : Cond.codeWith y bytes maxL ret hh ∈ ws) (hinit : ∀ a' U, s.WarmedH U.vm → (Cond.initialized y.cls).before a' U = true) :
    BackD cs l R p e below s sargs y len W9 (PreOf R mc ms Pc) (PostOf Qc mc ms free) := by
  intro m meth c ⟨U, K, c0, s0⟩ g ig mk a X hg hsize hdg hW hn ⟨r1, r2, r3⟩
  dsimp only [Pt.U, Pt.locs, Pt.cells, Pt.slots] at *
  subst hg
  have hcw := hws _ hcode a U X.warmed
  obtain ⟨m9, my, cy, hn9, k1, k2, -, k3, -⟩ := Cond.codeWith_spec hcw
  cases hn.symm.trans hn9
  obtain ⟨ky, k4, -⟩ := className_of_methodNamed hn
  have k5 : ky.init = .initialized := Cond.initialized_spec (findClass_of_methodNamed hn) k4 (hinit a U X.warmed)
  have hat : At U g.method c below := X.here
  have hap : (headSpec ws rm).appliesLoose y e.platform (U.calling g mk a) = true :=
    Spec.appliesLoose_calling (g := g) hat hdg hn k4 k5 (X.room_calling (g := g) (R' := (headSpec ws rm).room) hsize k1 k2 hfr (by rw [k3]; show _ + _ + rm.locals ≤ _; omega) (by rw [show (headSpec ws rm).room.cells = mc from hrc]; exact r1) (by rw [show (headSpec ws rm).room.slots = ms from hrs]; exact r2)) (atoms_intro fun w hw => hws w hw _ _ X.warmed)
  obtain ⟨mid, hmid⟩ := hat.above
  obtain ⟨o, t, hst, -, hend, d, hd, hqd, L, hF, hL⟩ := Steps.callFree hM p X.admits X.cas X.clock (acts := []) (by rw [State.frames_setTop' g hat.top, hmid]; rfl : (U.setTop g).frames = (.java g :: mid) ++ below) hap (hbl _ _ _ _ r3) trivial
  rw [State.frames_setTop' g hat.top] at hend
  have hd : (U.calling g mk a).drawn.sameBut d cs := hd
  have hqd : Qc a ((U.calling g mk a).setDrawn d) o t := hqd
  have hF : FrameEnd ((U.calling g mk a).setDrawn d) o t L mc ms := hF
  rw [show (U.calling g mk a).drawn = s.drawn by rw [State.calling_eq hat.top]; exact X.drawn_eq] at hd
  have hat2 : At (U.setDrawn d) g.method c below := hat.setDrawn d
  have X2 : Stand p l e R (s.setDrawn d) g.method sargs below meth c (U.setDrawn d) K c0 s0 := X.drew d
  rw [show (U.calling g mk a).setDrawn d = (U.setDrawn d).calling g mk a by rw [State.calling_eq hat.top, State.calling_eq hat2.top]; rfl] at hqd hF
  obtain ⟨⟨v, rfl⟩, w2, e2, q2, q3, q4, q5, q6⟩ := id hF
  have w3 : (U.setDrawn d).WarmedH t.vm := w2
  obtain ⟨c2, i2, n2, hc2, hd2, hf2⟩ := hend
  have h1 : t.code? g.method = (U.setDrawn d).code? g.method := by rw [State.code?_eq, State.code?_eq, w3.alike.method?]
  obtain rfl : c2 = c := Option.some.inj (hc2.symm.trans (h1.trans hat2.code))
  obtain rfl : n2 = len := by rw [hdg] at hd2; cases hd2; rfl
  obtain ⟨g0, hg0⟩ := Option.isSome_iff_exists.mp hat.top
  obtain ⟨rr, hr⟩ := State.topJava?_eq_some.mp hg0
  have hr2 : (U.setDrawn d).frames = .java g0 :: rr := hr
  have et : t = (({ U.setDrawn d with heap := t.heap, slotsUsed := t.slotsUsed } : State).setVm t.vm).setTop { g with pc := g.pc + n2, stack := v.toList ++ g.stack } := by
    have e3 : t = ({ ((U.setDrawn d).calling g mk a).setFrames t.frames with heap := t.heap, slotsUsed := t.slotsUsed } : State).setVm t.vm := by
      have e4 : t = ({ t with vm := ((U.setDrawn d).calling g mk a).vm } : State).setVm t.vm := rfl
      rw [e2] at e4
      exact e4
    have hr3 : (({ U.setDrawn d with heap := t.heap, slotsUsed := t.slotsUsed } : State).setVm t.vm).frames = .java g0 :: rr := hr
    refine e3.trans ?_
    rw [hf2, State.calling_eq hat2.top, State.setFrames_setFrames, State.setTop_of_frames _ hr3, hr]
    rfl
  have hsm : (U.setDrawn d).sameButNew ({ U.setDrawn d with heap := t.heap, slotsUsed := t.slotsUsed } : State) L mc ms := by
    refine ⟨?_, q2, q3, q4, q5, q6⟩
    obtain ⟨z, hz, -⟩ := State.frames_cons hr2
    show ({ U.setDrawn d with heap := t.heap, slotsUsed := t.slotsUsed } : State) = { (U.setDrawn d).setFrames (U.setDrawn d).frames with heap := t.heap, slotsUsed := t.slotsUsed }
    rw [State.setFrames_self hz]
  refine ⟨v, ⟨(({ U.setDrawn d with heap := t.heap, slotsUsed := t.slotsUsed } : State).setVm t.vm), K ++ L, c0 + mc, s0 + ms⟩, d, hd, ⟨X2.admits, X2.cas, X2.clock, X2.frames, X2.room, X2.hears, X2.method, X2.code, (X2.here.setHeapUsed t.heap t.slotsUsed).setVm w3.alike, X2.tail, State.WarmedH.trans X2.warmed w3, X2.limits, X2.bytes, X2.same.trans (hsm.setVm (s.setDrawn d).vm)⟩, ⟨g, mk, t, L, rfl, rfl, hqd, rfl, hL, rfl, rfl⟩, ?_⟩
  show Steps p.tables e below _ ((({ U.setDrawn d with heap := t.heap, slotsUsed := t.slotsUsed } : State).setVm t.vm).setTop { g with pc := g.pc + n2, stack := v.toList ++ g.stack })
  rw [← et]
  exact hst
end KDX
section KDY
variable {cs : List Choice} {p : Program} {l : Launch} {e : Env} {R : Room} {s : State} {m : MethodId} {args : Array Value} {below : List Frame} {meth : Method} {c : Code} {H : Heap} {locs : List Loc} {cells slots : Nat}
/-- its call -/
theorem kd_runSW {y : MethodName} {bytes cc : ByteArray} {maxL nL mc ms n index : Nat} {ret : Option FieldType} {hh : List (Nat × Nat × Nat × Nat)} {ws : List Cond} {rm : Room} {Pc : Array Value → State → Prop} {Qc : Array Value → State → Outcome → State → Prop} {free : Addr → Prop} {Ts : List Cond} {own : String} {As rest : List Value} {g : JFrame}
    (S : CallFix p m c cc nL s args Ts own) (hM : MetD cs l y ws rm Pc Qc mc ms free) (cw : vx_CSW R s args own index y bytes maxL ret hh ws rm mc ms n) (hp : PreS s H Pc As)
    (hg : g.method = m) (hn : As.length = n) (hsize : g.locals.size = nL) (hstack : g.stack = As.reverse ++ rest) (hW : 2 * g.monitorRoom + (rest.map fun v => v.category).sum ≤ 8) (hdg : decode cc g.pc = .ok (.invokestatic index, 3)) (hf : cells + mc ≤ R.cells ∧ slots + ms ≤ R.slots) :
    va_RunD cs p l e R s m args below meth c H locs cells slots mc ms g rest (Qc As.toArray) (free) := by
  obtain ⟨⟨hrc, hrs, hfr, hlo, hws, hcw⟩, hcode, hini, hy, hlen, hl, hstt⟩ := cw
  have hK : BackD cs l R p e below s args y 3 8 (PreOf R mc ms Pc) (PostOf Qc mc ms free) := kd_backW (hh := hh) (bytes := bytes) (maxL := maxL) (ret := ret) hM hp.1 hrc hrs hfr hlo hws hcw (fun a' U hW => word_at hW (Or.inl (by first | rfl | simp [Cond.onTables, Cond.keeps, Cond.steady])) hini)
  obtain ⟨hx, hb, hml, ho, -⟩ := S
  intro T hT X
  obtain ⟨mk, my, cy, hnm, hmy, -, -, -, -, -, -, hsg⟩ := Cond.codeWith_spec hcode
  have hstatic : my.isStatic = true := Cond.static_spec hnm hmy hstt
  obtain ⟨ky, hky, -⟩ := className_of_methodNamed hnm
  have hiY : ky.init = .initialized := Cond.initialized_spec (findClass_of_methodNamed hnm) hky hini
  obtain ⟨vm1, X1, st1⟩ := X.invokestatic hx ho hl hnm hmy hstatic hky hiY hy (g := g) hg (argsL := As) (rest := rest) (hn.trans (hlen _ hsg)) hstack (by rw [hb]; exact hdg)
  obtain ⟨v, ⟨U2, l2, c2, s2⟩, d, hd, X2, ⟨g2, mk2, t, L, e1, e2, hq, h1, hL, h2, h3⟩, st2⟩ := hK m meth c ⟨T.setVm vm1, locs, cells, slots⟩ { g with stack := rest } (.invokestatic index) mk As.toArray X1 hg (hsize.trans hml.symm) (by rw [hb]; exact hdg) hW (X1.named hnm) ⟨hf.1, hf.2, hp.2 (T.setVm vm1) hT X1.warmed⟩
  dsimp only [Pt.U, Pt.locs, Pt.cells, Pt.slots] at X2 e1 e2 h1 h2 h3 st2
  subst h1; subst h2; subst h3
  exact ⟨v, ((T.setVm vm1).setDrawn d).calling g2 mk2 As.toArray, t, U2, L, d, hd, hT, X2, hL, e1, e2, hq, fun target h => st1 _ fun acts => by rw [doInvoke_state]; exact st2.trans h⟩
end KDY
section KJD
variable {X : Type} {p : Program} {l : Launch} {e : Env} {R : Room} {s : State} {m : MethodId} {args : Array Value} {below : List Frame} {meth : Method} {c : Code} {H : Heap} {locs : List Loc} {cells slots mc ms : Nat} {Q : State → Prop}
variable {pc : Nat} {ls : Array Slot} {st0 rest : List Value} {D : va_G} {A : Nat → Prop} {H0 : Heap} {cA : Nat → ClassId} {ws wa wb : va_W} {as : Array Value} {d0 : Drawn} {w : X → va_W}
theorem kj_Da (hpm : ws.Perm (wa ++ wb)) (hD : va_D A ws) : va_D A wa := by
  have hD' := kj_D hpm hD
  exact ⟨fun i j p q hi hj => hD'.1 i j p q (by rw [List.getElem?_append_left (List.getElem?_eq_some_iff.mp hi).1]; exact hi) (by rw [List.getElem?_append_left (List.getElem?_eq_some_iff.mp hj).1]; exact hj), fun k q hk => hD'.2 k q (by rw [List.getElem?_append_left (List.getElem?_eq_some_iff.mp hk).1]; exact hk)⟩
theorem kjD_i (hd0 : s.drawn.sameBut d0 lw_cs) {φ : Int32 → X → Prop} (hpm : ws.Perm (wa ++ wb)) (hr : va_RunD lw_cs p l e R (s.setDrawn d0) m args below meth c H locs cells slots mc ms (F0 m pc ls st0) rest (va_Qi φ (fun x => kB D cA (va_A wa H.size) (w x)) (va_A wa H.size) as) (va_A wa H.size)) (hP : va_P D vwCl ws H) (hD : va_D A ws) (hS : va_S A H0 H locs) (hA : ∀ q, H0.size ≤ q → A q)
    (kk : ∀ (r : Int32) (x : X) (H1 : Heap) (locs1 : List Loc), φ r x → va_P D vwCl (w x ++ wb) H1 → va_D A (w x ++ wb) → va_S A H0 H1 locs1 → ∀ d1 : Drawn, s.drawn.sameBut d1 lw_cs → W p l e R (s.setDrawn d1) m args below meth c H1 locs1 (cells + mc) (slots + ms) Q (F0 m (pc + 3) ls (.int r :: rest))) : W p l e R (s.setDrawn d0) m args below meth c H locs cells slots Q (F0 m pc ls st0) := by
  have hF := kp_A (kj_Da hpm hD) hS hA
  refine va_calliD hd0 hr hS (fun q _ h => hF q h) hF (fun r u t H1 locs1 ht hvm hw hB hz1 hk1 hS1 d1 hd1 => ?_)
  obtain ⟨b1, b2, b3⟩ := hB
  rw [ht] at b1
  obtain ⟨j1, j2⟩ := kj_join (kj_P hpm hP) (kj_D hpm hD) hk1 b1 b3 hF
  exact kk r u H1 locs1 hw j1 j2 hS1 d1 hd1
theorem kjD_l (hd0 : s.drawn.sameBut d0 lw_cs) {φ : Int64 → X → Prop} (hpm : ws.Perm (wa ++ wb)) (hr : va_RunD lw_cs p l e R (s.setDrawn d0) m args below meth c H locs cells slots mc ms (F0 m pc ls st0) rest (va_Ql φ (fun x => kB D cA (va_A wa H.size) (w x)) (va_A wa H.size) as) (va_A wa H.size)) (hP : va_P D vwCl ws H) (hD : va_D A ws) (hS : va_S A H0 H locs) (hA : ∀ q, H0.size ≤ q → A q)
    (kk : ∀ (r : Int64) (x : X) (H1 : Heap) (locs1 : List Loc), φ r x → va_P D vwCl (w x ++ wb) H1 → va_D A (w x ++ wb) → va_S A H0 H1 locs1 → ∀ d1 : Drawn, s.drawn.sameBut d1 lw_cs → W p l e R (s.setDrawn d1) m args below meth c H1 locs1 (cells + mc) (slots + ms) Q (F0 m (pc + 3) ls (.long r :: rest))) : W p l e R (s.setDrawn d0) m args below meth c H locs cells slots Q (F0 m pc ls st0) := by
  have hF := kp_A (kj_Da hpm hD) hS hA
  refine va_calllD hd0 hr hS (fun q _ h => hF q h) hF (fun r u t H1 locs1 ht hvm hw hB hz1 hk1 hS1 d1 hd1 => ?_)
  obtain ⟨b1, b2, b3⟩ := hB
  rw [ht] at b1
  obtain ⟨j1, j2⟩ := kj_join (kj_P hpm hP) (kj_D hpm hD) hk1 b1 b3 hF
  exact kk r u H1 locs1 hw j1 j2 hS1 d1 hd1
theorem kjD_d (hd0 : s.drawn.sameBut d0 lw_cs) {φ : UInt64 → X → Prop} (hpm : ws.Perm (wa ++ wb)) (hr : va_RunD lw_cs p l e R (s.setDrawn d0) m args below meth c H locs cells slots mc ms (F0 m pc ls st0) rest (va_Qd φ (fun x => kB D cA (va_A wa H.size) (w x)) (va_A wa H.size) as) (va_A wa H.size)) (hP : va_P D vwCl ws H) (hD : va_D A ws) (hS : va_S A H0 H locs) (hA : ∀ q, H0.size ≤ q → A q)
    (kk : ∀ (r : UInt64) (x : X) (H1 : Heap) (locs1 : List Loc), φ r x → va_P D vwCl (w x ++ wb) H1 → va_D A (w x ++ wb) → va_S A H0 H1 locs1 → ∀ d1 : Drawn, s.drawn.sameBut d1 lw_cs → W p l e R (s.setDrawn d1) m args below meth c H1 locs1 (cells + mc) (slots + ms) Q (F0 m (pc + 3) ls (.double r :: rest))) : W p l e R (s.setDrawn d0) m args below meth c H locs cells slots Q (F0 m pc ls st0) := by
  have hF := kp_A (kj_Da hpm hD) hS hA
  refine va_calldD hd0 hr hS (fun q _ h => hF q h) hF (fun r u t H1 locs1 ht hvm hw hB hz1 hk1 hS1 d1 hd1 => ?_)
  obtain ⟨b1, b2, b3⟩ := hB
  rw [ht] at b1
  obtain ⟨j1, j2⟩ := kj_join (kj_P hpm hP) (kj_D hpm hD) hk1 b1 b3 hF
  exact kk r u H1 locs1 hw j1 j2 hS1 d1 hd1
end KJD
theorem TXok.dr {A : Nat → Prop} {U : State} (h : TXok A U) (d : Drawn) : TXok A (U.setDrawn d) := by
  refine ⟨vx_Zq.moved (u := U) (U := U.setDrawn d) (Vm.Alike.refl U.vm) h.1, vx_Zq.moved (u := U) (U := U.setDrawn d) (Vm.Alike.refl U.vm) h.2.1, fun q hq => ?_, fun q hq => va_Nc.moved (u := U) (U := U.setDrawn d) (Vm.Alike.refl U.vm) (h.2.2.2 q hq)⟩
  obtain ⟨z, hz⟩ := h.2.2.1 q hq
  exact ⟨z, vk_R.same (u := U) rfl hz⟩
