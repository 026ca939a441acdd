section
-- ===== PART A: goes FIRST, ahead of the names: the tables' words, and 'selects' of the private methods out of them =====
/-- a private method of a class that the tables say can be made, by its rows of tables_1 -/
def lw_okq (q : MethodName × Nat) : Prop := (q.1.cls ≠ "java/lang/invoke/MethodHandle" ∧ q.1.cls ≠ "java/lang/invoke/VarHandle") ∧ Cond.instantiable q.1.cls q.2 ∈ tables_1 ∧ Cond.privateMethod q.1 ∈ tables_1 ∧ Cond.instanceMethod q.1 ∈ tables_1
theorem lw_p0 : lw_okq (⟨"DaybreakFlags", "known", "(I)LDaybreakFlags$Switch;"⟩, 6) := ⟨⟨by decide +kernel, by decide +kernel⟩, List.mem_of_getElem? (i := 23) (by decide +kernel), List.mem_of_getElem? (i := 21) (by decide +kernel), List.mem_of_getElem? (i := 22) (by decide +kernel)⟩
theorem lw_p1 : lw_okq (⟨"DaybreakFlags", "switchAt", "(I)LDaybreakFlags$Switch;"⟩, 6) := ⟨⟨by decide +kernel, by decide +kernel⟩, List.mem_of_getElem? (i := 23) (by decide +kernel), List.mem_of_getElem? (i := 26) (by decide +kernel), List.mem_of_getElem? (i := 27) (by decide +kernel)⟩
theorem lw_p2 : lw_okq (⟨"java/lang/Throwable", "fillInStackTrace", "(I)Ljava/lang/Throwable;"⟩, 6) := ⟨⟨by decide +kernel, by decide +kernel⟩, List.mem_of_getElem? (i := 70) (by decide +kernel), List.mem_of_getElem? (i := 68) (by decide +kernel), List.mem_of_getElem? (i := 69) (by decide +kernel)⟩
theorem lw_p3 : lw_okq (⟨"DaybreakFlags", "variantOf", "(LDaybreakFlags$Switch;)I"⟩, 6) := ⟨⟨by decide +kernel, by decide +kernel⟩, List.mem_of_getElem? (i := 23) (by decide +kernel), List.mem_of_getElem? (i := 147) (by decide +kernel), List.mem_of_getElem? (i := 148) (by decide +kernel)⟩
theorem lw_p4 : lw_okq (⟨"DaybreakFlags", "reasonOf", "(LDaybreakFlags$Switch;)I"⟩, 6) := ⟨⟨by decide +kernel, by decide +kernel⟩, List.mem_of_getElem? (i := 23) (by decide +kernel), List.mem_of_getElem? (i := 151) (by decide +kernel), List.mem_of_getElem? (i := 152) (by decide +kernel)⟩
theorem lw_p5 : lw_okq (⟨"DaybreakFlags", "hasNeed", "(LDaybreakFlags$Switch;)Z"⟩, 6) := ⟨⟨by decide +kernel, by decide +kernel⟩, List.mem_of_getElem? (i := 23) (by decide +kernel), List.mem_of_getElem? (i := 159) (by decide +kernel), List.mem_of_getElem? (i := 160) (by decide +kernel)⟩
theorem lw_p6 : lw_okq (⟨"DaybreakFlags", "isInLayer", "(LDaybreakFlags$Switch;)Z"⟩, 6) := ⟨⟨by decide +kernel, by decide +kernel⟩, List.mem_of_getElem? (i := 23) (by decide +kernel), List.mem_of_getElem? (i := 182) (by decide +kernel), List.mem_of_getElem? (i := 183) (by decide +kernel)⟩
theorem lw_p7 : lw_okq (⟨"DaybreakFlags", "variantBy", "(LDaybreakFlags$Switch;I)I"⟩, 6) := ⟨⟨by decide +kernel, by decide +kernel⟩, List.mem_of_getElem? (i := 23) (by decide +kernel), List.mem_of_getElem? (i := 191) (by decide +kernel), List.mem_of_getElem? (i := 192) (by decide +kernel)⟩
theorem lw_p8 : lw_okq (⟨"DaybreakFlags$Tally", "spreadByCount", "(I)D"⟩, 5) := ⟨⟨by decide +kernel, by decide +kernel⟩, List.mem_of_getElem? (i := 269) (by decide +kernel), List.mem_of_getElem? (i := 267) (by decide +kernel), List.mem_of_getElem? (i := 268) (by decide +kernel)⟩
theorem lw_p9 : lw_okq (⟨"DaybreakFlags", "withSwitch", "(JI)J"⟩, 6) := ⟨⟨by decide +kernel, by decide +kernel⟩, List.mem_of_getElem? (i := 23) (by decide +kernel), List.mem_of_getElem? (i := 342) (by decide +kernel), List.mem_of_getElem? (i := 343) (by decide +kernel)⟩
theorem lw_p10 : lw_okq (⟨"DaybreakFlagsLaw$Desk", "dropRule", "(II)Z"⟩, 11) := ⟨⟨by decide +kernel, by decide +kernel⟩, List.mem_of_getElem? (i := 367) (by decide +kernel), List.mem_of_getElem? (i := 647) (by decide +kernel), List.mem_of_getElem? (i := 648) (by decide +kernel)⟩
theorem lw_p11 : lw_okq (⟨"DaybreakFlags", "isTaken", "(IIII)Z"⟩, 6) := ⟨⟨by decide +kernel, by decide +kernel⟩, List.mem_of_getElem? (i := 23) (by decide +kernel), List.mem_of_getElem? (i := 729) (by decide +kernel), List.mem_of_getElem? (i := 730) (by decide +kernel)⟩
theorem lw_p12 : lw_okq (⟨"DaybreakFlagsLaw$Desk", "because", "(II)I"⟩, 11) := ⟨⟨by decide +kernel, by decide +kernel⟩, List.mem_of_getElem? (i := 367) (by decide +kernel), List.mem_of_getElem? (i := 776) (by decide +kernel), List.mem_of_getElem? (i := 777) (by decide +kernel)⟩
def lw_privs_1 : List (MethodName × Nat) := [(⟨"DaybreakFlags", "known", "(I)LDaybreakFlags$Switch;"⟩, 6), (⟨"DaybreakFlags", "switchAt", "(I)LDaybreakFlags$Switch;"⟩, 6), (⟨"java/lang/Throwable", "fillInStackTrace", "(I)Ljava/lang/Throwable;"⟩, 6), (⟨"DaybreakFlags", "variantOf", "(LDaybreakFlags$Switch;)I"⟩, 6), (⟨"DaybreakFlags", "reasonOf", "(LDaybreakFlags$Switch;)I"⟩, 6), (⟨"DaybreakFlags", "hasNeed", "(LDaybreakFlags$Switch;)Z"⟩, 6), (⟨"DaybreakFlags", "isInLayer", "(LDaybreakFlags$Switch;)Z"⟩, 6), (⟨"DaybreakFlags", "variantBy", "(LDaybreakFlags$Switch;I)I"⟩, 6), (⟨"DaybreakFlags$Tally", "spreadByCount", "(I)D"⟩, 5), (⟨"DaybreakFlags", "withSwitch", "(JI)J"⟩, 6), (⟨"DaybreakFlagsLaw$Desk", "dropRule", "(II)Z"⟩, 11), (⟨"DaybreakFlags", "isTaken", "(IIII)Z"⟩, 6), (⟨"DaybreakFlagsLaw$Desk", "because", "(II)I"⟩, 11)]
theorem lw_r1 : ∀ q ∈ lw_privs_1, lw_okq q := List.forall_mem_cons.mpr ⟨lw_p0, List.forall_mem_cons.mpr ⟨lw_p1, List.forall_mem_cons.mpr ⟨lw_p2, List.forall_mem_cons.mpr ⟨lw_p3, List.forall_mem_cons.mpr ⟨lw_p4, List.forall_mem_cons.mpr ⟨lw_p5, List.forall_mem_cons.mpr ⟨lw_p6, List.forall_mem_cons.mpr ⟨lw_p7, List.forall_mem_cons.mpr ⟨lw_p8, List.forall_mem_cons.mpr ⟨lw_p9, List.forall_mem_cons.mpr ⟨lw_p10, List.forall_mem_cons.mpr ⟨lw_p11, List.forall_mem_cons.mpr ⟨lw_p12, fun _ h => absurd h List.not_mem_nil⟩⟩⟩⟩⟩⟩⟩⟩⟩⟩⟩⟩⟩
def lw_privs : List (MethodName × Nat) := lw_privs_1
def lw_tbl : List Cond := k2_sels lw_privs ++ tables_1
theorem lw_privs_ok : ∀ q ∈ lw_privs, lw_okq q := lw_r1
/-- the streams that the claim lets the run draw from -/
abbrev lw_cs : List Choice := [Jvm.Choice.named "NaN.bits"]
theorem lw_bits : nanBits ∈ lw_cs := by first | decide | exact List.mem_cons_self | simp [lw_cs, nanBits]
-- ===== end of PART A; then your names; then what follows =====
/-! THE CLAIM OUT OF ONE WALK OF THE LAW'S BODY. Your part is whole_start (and what it stands on); all else here is the same for every law, but numbers. -/
def R_law : String := "DaybreakFlagsLaw"
def lw_P (b : Addr) (xs : List Int32) (args : Array Value) (s : State) : Prop := args = #[.ref b] ∧ s.IntsAt b xs ∧ xs.length ≤ 260 ∧ (Jvm.Cond.and given_1 narrow_1).before args s = true
/-- what a walk over the start with the record d0 says of its end, said of the start itself -/
theorem lw_closed {s t : State} {o : Outcome} {d0 : Drawn} {L : List Loc} {k n : Nat} (hd0 : s.drawn.sameBut d0 lw_cs) (hv : ∃ v, o = .returned v) (hW : (s.setDrawn d0).WarmedH t.vm) (hs : (s.setDrawn d0).sameButNew ({ t with vm := s.vm } : State) L k n) : State.butDraws s t lw_cs (fun t1 => Framed s o t1 L k n) := by
  have h2 : t.drawn = d0 := congrArg State.drawn hs.1
  refine ⟨⟨hv, hW, State.sameButNew.setDrawn hs s.drawn⟩, ?_, by decide⟩
  rw [h2]
  exact hd0
def lw_Q (_ : Array Value) (s : State) (o : Outcome) (t : State) : Prop := o = .returned (some (.int 1)) ∧ State.butDraws s t lw_cs (fun t1 => Framed s o t1 [] 955456 6235329)
def lw_Z (below : List Frame) (a : Array Value) (s : State) : State → Prop := fun t => ∃ o, t.status = .running ∧ Ended t below o ∧ lw_Q a s o t
/-- the law's own end, with 1 on the stack, nothing written that was there before, its room as the claim has it; d0: the record of draws at this point (at the entry s.drawn: begin with 'refine W.base ?_' and 'have hd0 := Drawn.sameBut.refl s.drawn lw_cs') -/
theorem lw_ret {p : Program} {l : Launch} {e : Env} {s : State} {m : MethodId} {below : List Frame} {meth : Method} {c : Code} {b : Nat} {d0 : Drawn} (hd0 : s.drawn.sameBut d0 lw_cs) (hx : p.tables.exec = Jvm.exec) (hb : c.code = code) (hr : meth.sig.returnType = ret) (hlocks : meth.locks = false) {pc : Nat} {H : Heap} {ls : Array Slot} (hdg : decode code pc = .ok (.ireturn, 1)) : W p l e room_1 (s.setDrawn d0) m #[Value.ref b] below meth c H [] 955456 6235329 (lw_Z below #[Value.ref b] s) (F0 m pc ls [.int 1]) := by
  intro T hT X
  obtain ⟨fs, hret, hrun, hended, hW, hframe⟩ := X.leave (v := some (.int 1)) (hlocks := hlocks) (fun h => by rw [hr] at h; cases h)
  have hmeth' : T.vm.method? m = some meth := X.method'
  refine ⟨T.setFrames fs, ?_, .returned (some (.int 1)), hrun, hended, rfl, lw_closed hd0 ⟨_, rfl⟩ hW hframe⟩
  jvm_step X.here [X.here.top, hx, hb, hdg, hmeth', hr, ret, narrow_b1]
  (try refine ⟨rfl, ?_⟩); (try refine ⟨rfl, ?_⟩)
  first | (intro acts; rw [hret _ acts rfl rfl rfl]) | rw [hret _ _ rfl rfl rfl]
  exact Steps.refl _
/-- what holds at the law's entry: the machine, the code, the tables' words (any of lw_tbl by 'hts w (by decide +kernel)'), the script of L ints xs at the cell b, what the Statement gives of the start (any of its parts by flat_of_before) -/
def lw_At (p : Program) (s : State) (m : MethodId) (meth : Method) (c : Code) (b L : Nat) (xs : Nat → Int32) : Prop :=
  p.tables.exec = Jvm.exec ∧ c.code = code ∧ meth.sig.returnType = ret ∧ c.maxLocals = 16 ∧ s.vm.findClass R_law = some m.cls ∧ (∀ w ∈ lw_tbl, w.before #[Value.ref b] s = true) ∧ va_X b L xs s s.heap ∧ b < s.heap.size ∧ meth.locks = false ∧ (Jvm.Cond.and given_1 narrow_1).before #[Value.ref b] s = true
end
section
/-! the word 'the class of rows of rows is known' in a form that stays -/
def va_AOA (t : FieldType) (U : State) : Prop := (Cond.arrayOver (.array t)).before #[] U = true
theorem va_AOA.of {t : FieldType} {A : Array Value} {U : State} (h : (Cond.arrayOver (.array t)).before A U = true) : va_AOA t U := h
theorem va_AOA.use {t : FieldType} {A : Array Value} {U : State} (h : va_AOA t U) : (Cond.arrayOver (.array t)).before A U = true := h
theorem va_AOA.moved {t : FieldType} {u U : State} (hvm : u.vm.Alike U.vm) (h : va_AOA t u) : va_AOA t U := arrayOver_alikeB hvm h
end
section
/-! ===== BEGIN words of one list among another's, by their places ===== -/
theorem goodIn_r {big : List Cond} (ws : List Cond) (ps : List Nat) (hp : ws = ps.filterMap (fun i => big[i]?)) (h : ws.all goodWord = true) : GoodIn big ws := by
  intro w hw
  have h1 := List.all_eq_true.mp h w hw
  rw [hp] at hw
  obtain ⟨i, -, hi⟩ := List.mem_filterMap.mp hw
  have hm : w ∈ big := by first | exact List.mem_of_getElem? hi | exact List.getElem?_mem hi
  exact ⟨hm, good_of_word h1⟩
theorem goodIn_app {big a b : List Cond} (ha : GoodIn big a) (hb : GoodIn big b) : GoodIn big (a ++ b) := fun w h => (List.mem_append.mp h).elim (ha w) (hb w)
theorem goodIn_ca {big a b : List Cond} {c : Cond} (ha : GoodIn big (c :: a)) (hb : GoodIn big b) : GoodIn big (c :: (a ++ b)) := fun w h => (List.mem_cons.mp h).elim (fun e => ha w (List.mem_cons.mpr (Or.inl e))) (fun h => (List.mem_append.mp h).elim (fun h => ha w (List.mem_cons.mpr (Or.inr h))) (hb w))
theorem goodIn_sub {big ws : List Cond} (hm : ∀ w ∈ ws, w ∈ big) (h : ws.all goodWord = true) : GoodIn big ws := fun w hw => ⟨hm w hw, good_of_word (List.all_eq_true.mp h w hw)⟩
/-! ===== END ===== -/

/-! ===== BEGIN new T[n][m]: the outer array a place, the inner ones among the pooled ===== -/
/-- f, but v at every address of l -/
def vr_up {α : Type} (f : Nat → α) (l : List Nat) (v : α) : Nat → α := fun a => if a ∈ l then v else f a
theorem vr_up_in {α : Type} {f : Nat → α} {l : List Nat} {v : α} {a : Nat} (h : a ∈ l) : vr_up f l v a = v := if_pos h
theorem vr_up_ne {α : Type} {f : Nat → α} {l : List Nat} {v : α} {a : Nat} (h : a ∉ l) : vr_up f l v a = f a := if_neg h
theorem vr_rows {L l : List Nat} {f : Nat → va_E} {e : va_E} (h : ∀ a, a ∈ l → a ∉ L) : va_pl L f ++ l.map (fun a => (a, e)) = va_pl (L ++ l) (vr_up f l e) := by
  unfold va_pl
  rw [List.map_append]
  congr 1
  · apply List.map_congr_left
    intro a ha
    rw [vr_up_ne (fun q => h a q ha)]
  · apply List.map_congr_left
    intro a ha
    rw [vr_up_in ha]
theorem vr_lay {X rows : va_W} {x : Nat × va_E} {pl : va_W} {D : va_G} {cl : List vw_C} {H : Heap} (hP : va_P D cl (((X ++ pl) ++ [x]) ++ rows) H) : va_P D cl ((X ++ [x]) ++ (pl ++ rows)) H := by
  rw [List.append_assoc (X ++ pl)] at hP
  have h := va_P.swap hP
  rw [← List.append_assoc X] at h
  have h2 := va_P.swap h
  rw [List.append_assoc (X ++ [x])] at h2
  exact h2
theorem vr_layD {X rows : va_W} {x : Nat × va_E} {pl : va_W} {A : Nat → Prop} (hD : va_D A (((X ++ pl) ++ [x]) ++ rows)) : va_D A ((X ++ [x]) ++ (pl ++ rows)) := by
  rw [List.append_assoc (X ++ pl)] at hD
  have h := va_D.swap hD
  rw [← List.append_assoc X] at h
  have h2 := va_D.swap h
  rw [List.append_assoc (X ++ [x])] at h2
  exact h2
theorem vr_outer (c : ClassId) (N h0 : Nat) : ∀ i : Nat, Jvm.Free.Multi.outerC c N h0 i = arrV c N (fun j => va_rf (if j < i then some (h0 + 1 + j) else none))
  | 0 => by
    show ({ cls := c, slots := Array.replicate N .null, vm := .none } : Cell) = _
    rw [arrV_new]
    refine congrArg (arrV c N) (funext fun j => ?_)
    simp [va_rf]
  | i + 1 => by
    show (Jvm.Free.Multi.outerC c N h0 i).setSlot i (.ref (h0 + 1 + i)) = _
    rw [vr_outer c N h0 i, arrV_store]
    refine congrArg (arrV c N) (funext fun j => ?_)
    by_cases e : j = i
    · subst e
      simp [updV, va_rf]
    · by_cases h : j < i
      · simp [updV, e, h, Nat.lt_succ_of_lt h]
      · simp [updV, e, h, show ¬ j < i + 1 by omega]
section VGM
variable {p : Program} {l : Launch} {e : Env} {R : Room} {s : State} {m : MethodId} {args : Array Value} {below : List Frame} {meth : Method} {c : Code} {H : Heap} {locs : List Loc} {cells slots : Nat} {Q : State → Prop}
variable {cc : ByteArray} {pc : Nat} {ls : Array Slot} {rest : List Value} {D : va_G} {cl : List vw_C} {A : Nat → Prop} {a : Nat} {tys : List (ClassId × FieldType)} {ws : va_W} {H0 : Heap}
theorem va_mna {X : va_W} {L : List Nat} {f : Nat → va_E} {cc : ByteArray} (hexec : p.tables.exec = Jvm.exec) (hb : c.code = cc) {own : String} {index : Nat} {ty : FieldType} {cy : ClassId} (hown : s.vm.findClass own = some m.cls) (hclink : (Cond.classLink own index ("[" ++ (FieldType.array ty).toString)).before args s = true) (hover : va_AOA ty s) (harr : (Cond.arrayClass ty).before args s = true) (hcy : s.vm.findClass (FieldType.array ty).toString = some cy)
    (hK : va_K D cl tys s) (hP : va_P D cl (X ++ va_pl L f) H) (hD : va_D A (X ++ va_pl L f)) (hS : va_S A H0 H locs) (hA : ∀ q, H0.size ≤ q → A q) {n k : Int32} {N' K' : Nat} {z : vp_A} (hn : ¬ n < 0) (hk : ¬ k < 0) (hN : n.toNatClampNeg = N') (hM : k.toNatClampNeg = K')
    (hb1 : N' * 4 ≤ 536870912) (hb2 : K' * componentBytes ty ≤ 536870912) (hb3 : K' ≤ 536870912) (hdf : fits ty (defaultValue ty) = true) (hdd : (defaultValue ty).isDefault = true) (hcells : cells + (1 + N') ≤ R.cells) (hslots : slots + (N' + N' * K') ≤ R.slots) (hz : ∀ c : ClassId, Jvm.Free.Multi.innerC c K' (defaultValue ty) = vp_cell c z) (hdg : decode cc pc = .ok (.multianewarray index 2, 4))
    (kk : ∀ (q : Nat) (r : Nat → Nat) (cA : ClassId) (H1 : Heap), (∀ i j : Nat, i < N' → j < N' → r i = r j → i = j) → (∀ i : Nat, i < N' → r i ∉ L) → va_K D cl (tys ++ [(cA, .array ty)]) s →
      va_P D cl ((X ++ [(q, .inl (cA, N', .inr (.inr (.inr (.inr (fun i => if i < N' then some (r i) else none))))))]) ++ va_pl (L ++ (List.range N').map r) (vr_up f ((List.range N').map r) (.inl (cy, z)))) H1 → va_D A ((X ++ [(q, .inl (cA, N', .inr (.inr (.inr (.inr (fun i => if i < N' then some (r i) else none))))))]) ++ va_pl (L ++ (List.range N').map r) (vr_up f ((List.range N').map r) (.inl (cy, z)))) → va_S A H0 H1 locs →
      W p l e R s m args below meth c H1 locs (cells + 1 + N') (slots + N' + N' * K') Q (F0 m (pc + 4) ls (.ref q :: rest))) : W p l e R s m args below meth c H locs cells slots Q (F0 m pc ls (.int k :: .int n :: rest)) := by
  subst hN
  subst hM
  intro T hT Xs
  obtain ⟨vm₁, cA, comp, -, fA, fC, hO, -, X', step⟩ := Xs.multianewarray2F hexec hown hclink (va_AOA.use hover) harr (g := F0 m pc ls (.int k :: .int n :: rest)) rfl (by rw [hb]; exact hdg) rfl hn hk hb1 hb2 hb3 hdf hdd hcells hslots
  have ec : some cy = some comp := hcy.symm.trans fC
  cases ec
  generalize hF : Jvm.Free.Multi.fill (T.setVm vm₁) cA cy n.toNatClampNeg k.toNatClampNeg (defaultValue ty) n.toNatClampNeg = F at X' step
  have hTh : (T.setVm vm₁).heap = H := hT
  obtain ⟨f1, f2, -, -⟩ := Jvm.Free.Multi.fill_facts (T.setVm vm₁) cA cy n.toNatClampNeg k.toNatClampNeg (defaultValue ty) n.toNatClampNeg
  rw [hF, hTh] at f1 f2
  have hold : ∀ x : Nat, x < H.size → F.heap[x]? = H[x]? := fun x hx => by
    have := Jvm.Free.Multi.fill_old (T.setVm vm₁) cA cy n.toNatClampNeg k.toNatClampNeg (defaultValue ty) (a := x) (by rw [hTh]; exact hx) n.toNatClampNeg
    rw [hF, hTh] at this
    exact this
  have hrow : ∀ j : Nat, j < n.toNatClampNeg → F.heap[H.size + 1 + j]? = some (vp_cell cy z) := fun j hj => by
    have := Jvm.Free.Multi.fill_inner (T.setVm vm₁) cA cy n.toNatClampNeg k.toNatClampNeg (defaultValue ty) n.toNatClampNeg j hj
    rw [hF, hTh, hz] at this
    exact this
  have hout : Jvm.Free.Multi.outerC cA n.toNatClampNeg H.size n.toNatClampNeg = vp_cell cA (n.toNatClampNeg, .inr (.inr (.inr (.inr (fun i => if i < n.toNatClampNeg then some (H.size + 1 + i) else none))))) := by
    rw [vp_cell_q]
    exact vr_outer cA n.toNatClampNeg H.size n.toNatClampNeg
  rw [hout] at f2
  have hlt : ∀ a, a ∈ L → a < H.size := fun a ha => by
    obtain ⟨k9, hk9⟩ := va_pl_get (X := X) (f := f) ha
    exact (hP k9 _ hk9).lt
  have hnl : ∀ i : Nat, i < n.toNatClampNeg → H.size + 1 + i ∉ L := fun i _ h => by
    have := hlt _ h
    omega
  have hnm : ∀ a, a ∈ (List.range n.toNatClampNeg).map (fun i => H.size + 1 + i) → a ∉ L := fun a ha h => by
    obtain ⟨i, -, rfl⟩ := List.mem_map.mp ha
    have := hlt _ h
    omega
  have hP0 : va_P D cl (X ++ va_pl L f) F.heap := hP.kept (fun k9 x hx => hold x.1 ((hP k9 x hx).lt))
  have hP1 : va_P D cl ((X ++ va_pl L f) ++ [(H.size, .inl (cA, n.toNatClampNeg, .inr (.inr (.inr (.inr (fun i => if i < n.toNatClampNeg then some (H.size + 1 + i) else none))))))]) F.heap := hP0.app (fun k9 x hx => by
    have h0 : k9 < 1 := (List.getElem?_eq_some_iff.mp hx).1
    rw [show k9 = 0 by omega] at hx
    cases hx
    exact f2)
  have hP2 : va_P D cl (((X ++ va_pl L f) ++ [(H.size, .inl (cA, n.toNatClampNeg, .inr (.inr (.inr (.inr (fun i => if i < n.toNatClampNeg then some (H.size + 1 + i) else none))))))]) ++ ((List.range n.toNatClampNeg).map (fun i => H.size + 1 + i)).map (fun a => (a, .inl (cy, z)))) F.heap := hP1.app (fun k9 x hx => by
    obtain ⟨a, ha, rfl⟩ := List.mem_map.mp (List.mem_of_getElem? hx)
    obtain ⟨i, hi, rfl⟩ := List.mem_map.mp ha
    exact hrow i (List.mem_range.mp hi))
  have hD2 : va_D A (((X ++ va_pl L f) ++ [(H.size, .inl (cA, n.toNatClampNeg, .inr (.inr (.inr (.inr (fun i => if i < n.toNatClampNeg then some (H.size + 1 + i) else none))))))]) ++ ((List.range n.toNatClampNeg).map (fun i => H.size + 1 + i)).map (fun a => (a, .inl (cy, z)))) := by
    have hD1 := hD.push (e := .inl (cA, n.toNatClampNeg, .inr (.inr (.inr (.inr (fun i => if i < n.toNatClampNeg then some (H.size + 1 + i) else none)))))) hP rfl (hA _ hS.1)
    generalize hW1 : (X ++ va_pl L f) ++ [(H.size, .inl (cA, n.toNatClampNeg, .inr (.inr (.inr (.inr (fun i => if i < n.toNatClampNeg then some (H.size + 1 + i) else none))))))] = W1 at hD1 hP1 ⊢
    have hle : ∀ (k9 : Nat) (x : Nat × va_E), W1[k9]? = some x → x.1 ≤ H.size := fun k9 x hx => by
      rw [← hW1] at hx
      by_cases hl : k9 < (X ++ va_pl L f).length
      · rw [List.getElem?_append_left hl] at hx
        exact Nat.le_of_lt ((hP k9 x hx).lt)
      · rw [List.getElem?_append_right (by omega)] at hx
        have h0 : k9 - (X ++ va_pl L f).length < 1 := (List.getElem?_eq_some_iff.mp hx).1
        rw [show k9 - (X ++ va_pl L f).length = 0 by omega] at hx
        cases hx
        exact Nat.le_refl _
    have hr : ∀ (k9 : Nat) (x : Nat × va_E), (((List.range n.toNatClampNeg).map (fun i => H.size + 1 + i)).map (fun a => ((a, .inl (cy, z)) : Nat × va_E)))[k9]? = some x → x.1 = H.size + 1 + k9 := fun k9 x hx => by
      rw [List.getElem?_map, List.getElem?_map] at hx
      by_cases h9 : k9 < n.toNatClampNeg
      · rw [List.getElem?_range h9] at hx
        cases hx
        rfl
      · have hn0 : (List.range n.toNatClampNeg)[k9]? = none := List.getElem?_eq_none (by rw [List.length_range]; omega)
        rw [hn0] at hx
        cases hx
    refine ⟨fun i j x y hi hj hxy => ?_, fun k9 x hx => ?_⟩
    · by_cases h1 : i < W1.length <;> by_cases h2 : j < W1.length
      · rw [List.getElem?_append_left h1] at hi
        rw [List.getElem?_append_left h2] at hj
        exact hD1.1 i j x y hi hj hxy
      · rw [List.getElem?_append_left h1] at hi
        rw [List.getElem?_append_right (by omega)] at hj
        have := hle _ _ hi
        have := hr _ _ hj
        omega
      · rw [List.getElem?_append_right (by omega)] at hi
        rw [List.getElem?_append_left h2] at hj
        have := hle _ _ hj
        have := hr _ _ hi
        omega
      · rw [List.getElem?_append_right (by omega)] at hi hj
        have := hr _ _ hi
        have := hr _ _ hj
        omega
    · by_cases h1 : k9 < W1.length
      · rw [List.getElem?_append_left h1] at hx
        exact hD1.2 k9 x hx
      · rw [List.getElem?_append_right (by omega)] at hx
        have := hr _ _ hx
        exact hA _ (by have := hS.1; omega)
  have hAr : ArrOfT s cA (.array ty) := fun N9 z9 => by
    obtain ⟨-, k9, hk9, cm9, hkk9⟩ := (hO 0 0 0).1
    exact ⟨(fun q hq => by cases hq), k9, hk9, cm9, hkk9⟩
  have hK2 : va_K D cl (tys ++ [(cA, .array ty)]) s := ⟨hK.1, fun k9 x hx => by
    by_cases hl : k9 < tys.length
    · rw [List.getElem?_append_left hl] at hx
      exact hK.2 k9 x hx
    · rw [List.getElem?_append_right (by omega)] at hx
      have h0 : k9 - tys.length < 1 := (List.getElem?_eq_some_iff.mp hx).1
      rw [show k9 - tys.length = 0 by omega] at hx
      cases hx
      exact ⟨hAr, fA⟩⟩
  obtain ⟨t, a1, b1⟩ := kk H.size (fun i => H.size + 1 + i) cA F.heap (fun i j _ _ h => by have h9 : H.size + 1 + i = H.size + 1 + j := h; omega) hnl hK2 (by rw [← vr_rows hnm]; exact vr_lay hP2) (by rw [← vr_rows hnm]; exact vr_layD hD2) ⟨by rw [f1]; have := hS.1; omega, fun x h1 h2 => (hold x (Nat.lt_of_lt_of_le h1 hS.1)).trans (hS.2.1 x h1 h2), hS.2.2⟩ F rfl X'
  refine ⟨t, step t ?_, b1⟩
  have e : T.heap.size = H.size := by rw [hT]
  rw [e]
  exact a1
end VGM
/-! ===== END ===== -/

/-! ===== BEGIN exceptions that leave a method, and their catching by the caller (launches without stack traces) ===== -/
section VXA
/-! The laws vx_back, vx_callV, vx_callS, vx_callSW, vx_throw0, vx_throwS follow proofs of the library, with one case more: JvmDerived/Free/Laws.lean (Back.of_free), Shelf42/LK1.lean (callV, callS), Shelf/KitTraced.lean (throwNew0V, throwNewS). -/
/-- where a method has thrown q: the class by its name, the cell, what was written, the world -/
def vx_T (XC : String → State → State → Prop) (st : State) (q : Addr) (t : State) (mc ms : Nat) (free : Addr → Prop) : Prop :=
  ∃ (E : String) (ce : Cell) (L : List Loc), XC E st t ∧ t.heap[q]? = some ce ∧ ce.vm = .none ∧ st.vm.findClass E = some ce.cls ∧ st.WarmedH t.vm ∧ st.sameButNew ({ t with vm := st.vm } : State) L mc ms ∧ ∀ z ∈ L, free z.base
def vx_Q (Qc : Array Value → State → Outcome → State → Prop) (XC : String → State → State → Prop) (mc ms : Nat) (free : Addr → Prop) : Array Value → State → Outcome → State → Prop := fun a st o t =>
  (Qc a st o t ∧ ∃ L, FrameEnd st o t L mc ms ∧ ∀ q ∈ L, free q.base) ∨ ∃ q, o = .threw q ∧ vx_T XC st q t mc ms free
/-- a callee that returns or throws -/
def vx_Met (l : Launch) (y : MethodName) (ws : List Cond) (rm : Room) (Pc : Array Value → State → Prop) (Qc : Array Value → State → Outcome → State → Prop) (XC : String → State → State → Prop) (mc ms : Nat) (free : Addr → Prop) : Prop :=
  MetFree l y (headSpec ws rm) Pc (fun _ _ _ _ _ => True) (vx_Q Qc XC mc ms free)
def vx_Post (XC : String → State → State → Prop) (mc ms : Nat) (free : Addr → Prop) : Pt → Array Value → Addr → Pt → Prop := fun A a q B =>
  ∃ (g : JFrame) (mk : MethodId) (t : State) (L : List Loc) (E : String) (ce : Cell), B.U.heap = t.heap ∧ B.U.vm = t.vm ∧ XC E (A.U.calling g mk a) t ∧ t.heap[q]? = some ce ∧ ce.vm = .none ∧ A.U.vm.findClass E = some ce.cls ∧ B.locs = A.locs ++ L ∧ (∀ z ∈ L, free z.base) ∧ B.cells = A.cells + mc ∧ B.slots = A.slots + ms
def vx_Back (l : Launch) (R : Room) (p : Program) (e : Env) (below : List Frame) (s : State) (sargs : Array Value) (y : MethodName) (len W9 : Nat)
    (Pre : Pt → Array Value → Prop) (Post : Pt → Array Value → Option Value → Pt → Prop) (PostX : Pt → Array Value → Addr → Pt → Prop) : Prop :=
  ∀ (m : MethodId) (meth : Method) (c : Code) (A : Pt) (g : JFrame) (ig : Instr) (mk : MethodId) (a : Array Value),
    Stand p l e R s m sargs below meth c A.U A.locs A.cells A.slots → g.method = m → g.locals.size = c.maxLocals → decode c.code g.pc = .ok (ig, len) →
    2 * g.monitorRoom + (g.stack.map fun v => v.category).sum ≤ W9 → A.U.methodNamed? y = some mk → Pre A a →
    (∃ (v : Option Value) (B : Pt), Stand p l e R s m sargs below meth c B.U B.locs B.cells B.slots ∧ Post A a v B ∧
      Steps p.tables e below (doInvoke e (A.U.setTop g) [] mk a).1 (B.U.setTop { g with pc := g.pc + len, stack := v.toList ++ g.stack })) ∨
    (∃ (q : Addr) (B : Pt), Stand p l e R s m sargs below meth c B.U B.locs B.cells B.slots ∧ PostX A a q B ∧
      Steps p.tables e below (doInvoke e (A.U.setTop g) [] mk a).1 ((B.U.setTop g).pushFrame (.throwing q)))
section Payer
variable {l : Launch} {R : Room} {p : Program} {e : Env} {below : List Frame} {s : State} {sargs : Array Value} {y : MethodName} {len W9 : Nat}
theorem vx_back {ws : List Cond} {rm : Room} {Pc : Array Value → State → Prop} {Qc : Array Value → State → Outcome → State → Prop} {XC : String → State → State → Prop} {mc ms : Nat} {free : Addr → Prop} {bytes : ByteArray} {maxL : Nat} {ret : Option FieldType}
    (hM : vx_Met l y ws rm Pc Qc XC mc ms free) (hblind : FrameBlind Pc) (hrc : rm.cells = mc) (hrs : rm.slots = ms)
    (hframes : rm.frames + 1 ≤ R.frames) (hlocals : W9 + (maxL + 11) + rm.locals ≤ R.locals)
    (hws : ∀ w ∈ ws, ∀ a' U, s.WarmedH U.vm → w.before a' U = true) (hcode : Cond.code y bytes maxL ret ∈ ws) (hinit : ∀ a' U, s.WarmedH U.vm → (Cond.initialized y.cls).before a' U = true) :
    vx_Back l R p e below s sargs y len W9 (PreOf R mc ms Pc) (PostOf Qc mc ms free) (vx_Post XC mc ms free) := by
  intro m meth c A g ig mk a X hg hsize hdg hW hn hp
  have h1 : (headSpec ws rm).pre.before a A.U = true := atoms_intro fun w hw => hws w hw _ _ X.warmed
  have h2 : (Cond.code y bytes maxL ret).before a A.U = true := hws _ hcode _ _ X.warmed
  have h3 : (Cond.initialized y.cls).before a A.U = true := hinit _ _ X.warmed
  have h4 : A.cells + (headSpec ws rm).room.cells ≤ R.cells := by rw [show (headSpec ws rm).room.cells = mc from hrc]; exact hp.1
  have h5 : A.slots + (headSpec ws rm).room.slots ≤ R.slots := by rw [show (headSpec ws rm).room.slots = ms from hrs]; exact hp.2.1
  have hPc : Pc a (A.U.calling g mk a) := hblind _ _ _ _ hp.2.2
  obtain ⟨U, Ls, c0, s0⟩ := A
  dsimp only [Pt.U, Pt.locs, Pt.cells, Pt.slots] at h1 h2 h3 h4 h5 X hn hPc ⊢
  obtain ⟨methY, cY, hmY, hcY, -, hlY, -, -, -, -⟩ := Cond.code_spec hn h2
  obtain ⟨kY, hkY, -⟩ := className_of_methodNamed hn
  have hinitY : kY.init = .initialized := Cond.initialized_spec (findClass_of_methodNamed hn) hkY h3
  have h : At U g.method c below := by rw [hg]; exact X.here
  have hlocals9 : W9 + (maxL + 11) + (headSpec ws rm).room.locals ≤ R.locals := hlocals
  have happ : (headSpec ws rm).appliesLoose y e.platform (U.calling g mk a) = true :=
    Spec.appliesLoose_calling (g := g) h hdg hn hkY hinitY
      (X.room_calling (g := g) (R' := (headSpec ws rm).room) hsize hmY hcY hframes (by rw [hlY]; omega) h4 h5) h1
  obtain ⟨mid, hmid⟩ := h.above
  have hfr : (U.setTop g).frames = (.java g :: mid) ++ below := by rw [State.frames_setTop' g h.top, hmid]; rfl
  obtain ⟨o, s₂, hsteps, -, hend, hq⟩ := Steps.callFree hM p X.admits X.cas X.clock (acts := []) hfr happ hPc trivial
  have hq' : vx_Q Qc XC mc ms free a (U.calling g mk a) o s₂ := hq
  rw [State.frames_setTop' g h.top] at hend
  obtain ⟨g₀, hg0⟩ := Option.isSome_iff_exists.mp h.top
  obtain ⟨r, hr⟩ := State.topJava?_eq_some.mp hg0
  have hr' : (({ U with heap := s₂.heap, slotsUsed := s₂.slotsUsed } : State).setVm s₂.vm).frames = .java g₀ :: r := hr
  rcases hq' with ⟨hqc, L, hfe, hL⟩ | ⟨q, rfl, E, ce, L, hx, hce, hcv, hcl, hW₂, hsm, hL⟩
  · obtain ⟨⟨v, rfl⟩, hW₂, e2, q2, q3, q4, q5, q6⟩ := id hfe
    have e3 : s₂ = ({ (U.calling g mk a).setFrames s₂.frames with heap := s₂.heap, slotsUsed := s₂.slotsUsed } : State).setVm s₂.vm := by
      have : s₂ = ({ s₂ with vm := (U.calling g mk a).vm } : State).setVm s₂.vm := rfl
      rw [e2] at this
      exact this
    obtain ⟨c₂, i₂, len₂, hc₂, hd₂, hf₂⟩ := hend
    have hW' : U.WarmedH s₂.vm := hW₂
    have hcc : c₂ = c := by
      have h1 : s₂.code? g.method = U.code? g.method := by
        rw [State.code?_eq, State.code?_eq, hW'.alike.method?]
      exact Option.some.inj (hc₂.symm.trans (h1.trans h.code))
    subst hcc
    have hlen : len₂ = len := by rw [hdg] at hd₂; cases hd₂; rfl
    subst hlen
    have hs₂ : s₂ = (({ U with heap := s₂.heap, slotsUsed := s₂.slotsUsed } : State).setVm s₂.vm).setTop { g with pc := g.pc + len₂, stack := v.toList ++ g.stack } := by
      refine e3.trans ?_
      rw [hf₂, State.calling_eq h.top, State.setFrames_setFrames, State.setTop_of_frames _ hr', hr]
      rfl
    have hsame : U.sameButNew ({ U with heap := s₂.heap, slotsUsed := s₂.slotsUsed } : State) L mc ms := by
      refine ⟨?_, q2, q3, q4, q5, q6⟩
      obtain ⟨t, ht, -⟩ := State.frames_cons hr
      show ({ U with heap := s₂.heap, slotsUsed := s₂.slotsUsed } : State) = { U.setFrames U.frames with heap := s₂.heap, slotsUsed := s₂.slotsUsed }
      rw [State.setFrames_self ht]
    subst hg
    refine Or.inl ⟨v, ⟨(({ U with heap := s₂.heap, slotsUsed := s₂.slotsUsed } : State).setVm s₂.vm), Ls ++ L, c0 + mc, s0 + ms⟩,
      ⟨X.admits, X.cas, X.clock, X.frames, X.room, X.hears, X.method, X.code, (X.here.setHeapUsed s₂.heap s₂.slotsUsed).setVm hW'.alike, X.tail, State.WarmedH.trans X.warmed hW', X.limits, X.bytes, X.same.trans (hsame.setVm s.vm)⟩,
      ⟨g, mk, s₂, L, rfl, rfl, hqc, rfl, hL, rfl, rfl⟩, ?_⟩
    show Steps p.tables e below _ ((({ U with heap := s₂.heap, slotsUsed := s₂.slotsUsed } : State).setVm s₂.vm).setTop { g with pc := g.pc + len₂, stack := v.toList ++ g.stack })
    rw [← hs₂]
    exact hsteps
  · obtain ⟨e2, q2, q3, q4, q5, q6⟩ := id hsm
    have e3 : s₂ = ({ (U.calling g mk a).setFrames s₂.frames with heap := s₂.heap, slotsUsed := s₂.slotsUsed } : State).setVm s₂.vm := by
      have : s₂ = ({ s₂ with vm := (U.calling g mk a).vm } : State).setVm s₂.vm := rfl
      rw [e2] at this
      exact this
    have hf₂ : s₂.frames = .throwing q :: .java g :: U.frames.tail := hend
    have hW' : U.WarmedH s₂.vm := hW₂
    have hs₂ : s₂ = ((({ U with heap := s₂.heap, slotsUsed := s₂.slotsUsed } : State).setVm s₂.vm).setTop g).pushFrame (.throwing q) := by
      refine e3.trans ?_
      rw [hf₂, State.calling_eq h.top, State.setFrames_setFrames, State.pushFrame, State.frames_setTop _ hr', State.setTop_of_frames _ hr', State.setFrames_setFrames, hr]
      rfl
    have hsame : U.sameButNew ({ U with heap := s₂.heap, slotsUsed := s₂.slotsUsed } : State) L mc ms := by
      refine ⟨?_, q2, q3, q4, q5, q6⟩
      obtain ⟨t, ht, -⟩ := State.frames_cons hr
      show ({ U with heap := s₂.heap, slotsUsed := s₂.slotsUsed } : State) = { U.setFrames U.frames with heap := s₂.heap, slotsUsed := s₂.slotsUsed }
      rw [State.setFrames_self ht]
    subst hg
    refine Or.inr ⟨q, ⟨(({ U with heap := s₂.heap, slotsUsed := s₂.slotsUsed } : State).setVm s₂.vm), Ls ++ L, c0 + mc, s0 + ms⟩,
      ⟨X.admits, X.cas, X.clock, X.frames, X.room, X.hears, X.method, X.code, (X.here.setHeapUsed s₂.heap s₂.slotsUsed).setVm hW'.alike, X.tail, State.WarmedH.trans X.warmed hW', X.limits, X.bytes, X.same.trans (hsame.setVm s.vm)⟩,
      ⟨g, mk, s₂, L, E, ce, rfl, rfl, hx, hce, hcv, hcl, rfl, hL, rfl, rfl⟩, ?_⟩
    show Steps p.tables e below _ (((({ U with heap := s₂.heap, slotsUsed := s₂.slotsUsed } : State).setVm s₂.vm).setTop g).pushFrame (.throwing q))
    rw [← hs₂]
    exact hsteps
end Payer
section Calls
variable {p : Program} {l : Launch} {e : Env} {R : Room} {s : State} {m : MethodId} {args : Array Value} {below : List Frame} {meth : Method} {c : Code} {T : State} {locs : List Loc} {cells slots : Nat}
theorem vx_callV (X : Stand p l e R s m args below meth c T locs cells slots) (hexec : p.tables.exec = Jvm.exec) {own C : String} {index : Nat} {y : MethodName} {bytes : ByteArray} {maxL : Nat} {ret : Option FieldType}
    (hown : s.vm.findClass own = some m.cls) (hlink : (Cond.methodLink own index y).before args s = true) (hinst : (Cond.instanceMethod y).before args s = true) (hsel : (Cond.selects C y y).before args s = true)
    (hcode : (Cond.code y bytes maxL ret).before args s = true) (hy : y.cls ≠ "java/lang/invoke/MethodHandle" ∧ y.cls ≠ "java/lang/invoke/VarHandle")
    {W9 : Nat} {Pre : Pt → Array Value → Prop} {Post : Pt → Array Value → Option Value → Pt → Prop} {PostX : Pt → Array Value → Addr → Pt → Prop} (hK : vx_Back l R p e below s args y 3 W9 Pre Post PostX)
    {b : Addr} {cellB : Cell} (hcell : T.heap[b]? = some cellB) (hobj : cellB.vm.isStatics = false) (hcls : s.vm.findClass C = some cellB.cls)
    {g : JFrame} (hg : g.method = m) (hsize : g.locals.size = c.maxLocals) {argsL rest : List Value} (hlen : ∀ sig, parseMethodDescriptor y.desc = some sig → argsL.length = sig.parameters.length)
    (hstack : g.stack = argsL.reverse ++ .ref b :: rest) (hW : 2 * g.monitorRoom + (rest.map fun v => v.category).sum ≤ W9) (hdg : decode c.code g.pc = .ok (.invokevirtual index, 3))
    (hpre : ∀ vm₁, s.WarmedH vm₁ → Pre ⟨T.setVm vm₁, locs, cells, slots⟩ (Value.ref b :: argsL).toArray) :
    (∃ (v : Option Value) (vm₁ : Vm) (B : Pt), s.WarmedH vm₁ ∧ Stand p l e R s m args below meth c B.U B.locs B.cells B.slots ∧ Post ⟨T.setVm vm₁, locs, cells, slots⟩ (Value.ref b :: argsL).toArray v B ∧
      ∀ target, Steps p.tables e below (B.U.setTop { g with pc := g.pc + 3, stack := v.toList ++ rest }) target → Steps p.tables e below (T.setTop g) target) ∨
    (∃ (q : Addr) (vm₁ : Vm) (B : Pt), s.WarmedH vm₁ ∧ Stand p l e R s m args below meth c B.U B.locs B.cells B.slots ∧ PostX ⟨T.setVm vm₁, locs, cells, slots⟩ (Value.ref b :: argsL).toArray q B ∧
      Steps p.tables e below (T.setTop g) ((B.U.setTop { g with stack := rest }).pushFrame (.throwing q))) := by
  obtain ⟨mk, methM, hnamed, hmethM, hstM, habM⟩ := Cond.instanceMethod_spec hinst
  obtain ⟨methM', cM, hmethM', -, -, -, -, -, -, hsigM⟩ := Cond.code_spec hnamed hcode
  cases hmethM.symm.trans hmethM'
  obtain ⟨c2, r2, m2, q1, q2, q3, q4, kP, hkP, hkPi⟩ := Cond.selects_spec hsel
  cases hcls.symm.trans q1
  cases (State.methodFound?_of_named hnamed hy).symm.trans q2
  cases hnamed.symm.trans q3
  have hselP : selectMethod e.platform s.vm cellB.cls mk = .method mk := by rw [Launch.admits_selectMethod X.admits]; exact q4
  obtain ⟨vm₁, X₁, hstep₁⟩ := X.invokevirtual hexec hown hlink hnamed hmethM hstM hkP hkPi hy (a := b) (cell := cellB) hcell
    (fun z h => by rw [h] at hobj; cases hobj) hselP hmethM habM hkP hkPi (g := g) hg (argsL := argsL) (rest := rest) (hlen _ hsigM) hstack hdg
  rcases hK m meth c ⟨T.setVm vm₁, locs, cells, slots⟩ { g with stack := rest } (.invokevirtual index) mk (Value.ref b :: argsL).toArray X₁ hg hsize hdg hW (X₁.named hnamed) (hpre vm₁ X₁.warmed) with ⟨v, B, X', hpost, hsteps⟩ | ⟨q, B, X', hpost, hsteps⟩
  · exact Or.inl ⟨v, vm₁, B, X₁.warmed, X', hpost, fun target h => hstep₁ _ fun acts => by rw [doInvoke_state]; exact hsteps.trans h⟩
  · exact Or.inr ⟨q, vm₁, B, X₁.warmed, X', hpost, hstep₁ _ fun acts => by rw [doInvoke_state]; exact hsteps⟩
theorem vx_callS (X : Stand p l e R s m args below meth c T locs cells slots) (hexec : p.tables.exec = Jvm.exec) {own : String} {index : Nat} {y : MethodName} {bytes : ByteArray} {maxL : Nat} {ret : Option FieldType}
    (hown : s.vm.findClass own = some m.cls) (hlink : (Cond.methodLink own index y).before args s = true) (hstat : (Cond.static y).before args s = true) (hinit : (Cond.initialized y.cls).before args s = true)
    (hcode : (Cond.code y bytes maxL ret).before args s = true) (hy : y.cls ≠ "java/lang/invoke/MethodHandle" ∧ y.cls ≠ "java/lang/invoke/VarHandle")
    {W9 : Nat} {Pre : Pt → Array Value → Prop} {Post : Pt → Array Value → Option Value → Pt → Prop} {PostX : Pt → Array Value → Addr → Pt → Prop} (hK : vx_Back l R p e below s args y 3 W9 Pre Post PostX)
    {g : JFrame} (hg : g.method = m) (hsize : g.locals.size = c.maxLocals) {argsL rest : List Value} (hlen : ∀ sig, parseMethodDescriptor y.desc = some sig → argsL.length = sig.parameters.length)
    (hstack : g.stack = argsL.reverse ++ rest) (hW : 2 * g.monitorRoom + (rest.map fun v => v.category).sum ≤ W9) (hdg : decode c.code g.pc = .ok (.invokestatic index, 3))
    (hpre : ∀ vm₁, s.WarmedH vm₁ → Pre ⟨T.setVm vm₁, locs, cells, slots⟩ argsL.toArray) :
    (∃ (v : Option Value) (vm₁ : Vm) (B : Pt), s.WarmedH vm₁ ∧ Stand p l e R s m args below meth c B.U B.locs B.cells B.slots ∧ Post ⟨T.setVm vm₁, locs, cells, slots⟩ argsL.toArray v B ∧
      ∀ target, Steps p.tables e below (B.U.setTop { g with pc := g.pc + 3, stack := v.toList ++ rest }) target → Steps p.tables e below (T.setTop g) target) ∨
    (∃ (q : Addr) (vm₁ : Vm) (B : Pt), s.WarmedH vm₁ ∧ Stand p l e R s m args below meth c B.U B.locs B.cells B.slots ∧ PostX ⟨T.setVm vm₁, locs, cells, slots⟩ argsL.toArray q B ∧
      Steps p.tables e below (T.setTop g) ((B.U.setTop { g with stack := rest }).pushFrame (.throwing q))) := by
  obtain ⟨mk, hnamed⟩ := Cond.code_named hcode
  obtain ⟨methM, cM, hmethM, -, -, -, -, -, -, hsigM⟩ := Cond.code_spec hnamed hcode
  have hstatic : methM.isStatic = true := Cond.static_spec hnamed hmethM hstat
  obtain ⟨kP, hkP, -⟩ := className_of_methodNamed hnamed
  have hinitP : kP.init = .initialized := Cond.initialized_spec (findClass_of_methodNamed hnamed) hkP hinit
  obtain ⟨vm₁, X₁, hstep₁⟩ := X.invokestatic hexec hown hlink hnamed hmethM hstatic hkP hinitP hy (g := g) hg (argsL := argsL) (rest := rest) (hlen _ hsigM) hstack hdg
  rcases hK m meth c ⟨T.setVm vm₁, locs, cells, slots⟩ { g with stack := rest } (.invokestatic index) mk argsL.toArray X₁ hg hsize hdg hW (X₁.named hnamed) (hpre vm₁ X₁.warmed) with ⟨v, B, X', hpost, hsteps⟩ | ⟨q, B, X', hpost, hsteps⟩
  · exact Or.inl ⟨v, vm₁, B, X₁.warmed, X', hpost, fun target h => hstep₁ _ fun acts => by rw [doInvoke_state]; exact hsteps.trans h⟩
  · exact Or.inr ⟨q, vm₁, B, X₁.warmed, X', hpost, hstep₁ _ fun acts => by rw [doInvoke_state]; exact hsteps⟩
end Calls
theorem vx_cls {s : State} {T : State} {vm₁ : Vm} {E : String} {k : ClassId} (hW : s.WarmedH vm₁) (h : (T.setVm vm₁).vm.findClass E = some k) : s.vm.findClass E = some k := by
  have h1 : vm₁.findClass E = some k := h
  rw [hW.alike.findClass] at h1
  exact h1
/-- the method's frame g, with q thrown over it -/
def vx_W (p : Program) (l : Launch) (e : Env) (R : Room) (s : State) (m : MethodId) (args : Array Value) (below : List Frame) (meth : Method) (c : Code) (H : Heap) (locs : List Loc) (cells slots : Nat) (Q : State → Prop) (g : JFrame) (q : Addr) : Prop :=
  ∀ T : State, T.heap = H → Stand p l e R s m args below meth c T locs cells slots → ∃ t, Steps p.tables e below ((T.setTop g).pushFrame (.throwing q)) t ∧ Q t
def vx_Run (p : Program) (l : Launch) (e : Env) (R : Room) (s : State) (m : MethodId) (args : Array Value) (below : List Frame) (meth : Method) (c : Code) (H : Heap) (locs : List Loc) (cells slots mc ms : Nat) (g : JFrame) (rest : List Value) (Qa : State → Outcome → State → Prop) (XC : String → State → State → Prop) (free : Addr → Prop) : Prop :=
  ∀ T : State, T.heap = H → Stand p l e R s m args below meth c T locs cells slots →
    (∃ (v : Option Value) (st₀ t T' : State) (L : List Loc), st₀.heap = H ∧ Stand p l e R s m args below meth c T' (locs ++ L) (cells + mc) (slots + ms) ∧ (∀ q ∈ L, free q.base) ∧ T'.heap = t.heap ∧ T'.vm = t.vm ∧ Qa st₀ (.returned v) t ∧
      Goes p e below T g T' { g with pc := g.pc + 3, stack := v.toList ++ rest }) ∨
    (∃ (q : Addr) (st₀ t T' : State) (L : List Loc) (E : String) (ce : Cell), st₀.heap = H ∧ Stand p l e R s m args below meth c T' (locs ++ L) (cells + mc) (slots + ms) ∧ (∀ z ∈ L, free z.base) ∧ T'.heap = t.heap ∧ T'.vm = t.vm ∧ XC E st₀ t ∧ t.heap[q]? = some ce ∧ ce.vm = .none ∧ s.vm.findClass E = some ce.cls ∧
      Steps p.tables e below (T.setTop g) ((T'.setTop { g with stack := rest }).pushFrame (.throwing q)))
def vx_X {S : Type} (px : S → Prop) (B : String → S → State → Prop) (A : Nat → Prop) : String → State → State → Prop := fun E st t => ∃ u : S, px u ∧ B E u t ∧ va_F A st t
section Runs
variable {p : Program} {l : Launch} {e : Env} {R : Room} {s : State} {m : MethodId} {args : Array Value} {below : List Frame} {meth : Method} {c : Code} {H : Heap} {locs : List Loc} {cells slots : Nat}
variable {y : MethodName} {bytes cc : ByteArray} {maxL nL mc ms n index : Nat} {ret : Option FieldType} {ws : List Cond} {rm : Room} {Pc : Array Value → State → Prop} {Qc : Array Value → State → Outcome → State → Prop} {XC : String → State → State → Prop} {free : Addr → Prop} {Ts : List Cond} {own C : String} {b : Addr} {As rest : List Value} {g : JFrame}
theorem vx_callBack (cb : CallB R s args own index y bytes maxL ret ws rm mc ms n) (hM : vx_Met l y ws rm Pc Qc XC mc ms free) (hbl : FrameBlind Pc) : vx_Back l R p e below s args y 3 8 (PreOf R mc ms Pc) (PostOf Qc mc ms free) (vx_Post XC mc ms free) := by
  obtain ⟨hrc, hrs, hfr, hlo, hws, hcw, -, hini, -⟩ := cb
  exact vx_back (bytes := bytes) (maxL := maxL) (ret := ret) hM hbl hrc hrs hfr hlo hws hcw (fun a' U hW => word_at hW (Or.inl (by first | rfl | simp [Cond.onTables, Cond.keeps, Cond.steady])) hini)
theorem vx_runV (S : CallFix p m c cc nL s args Ts own) (hM : vx_Met l y ws rm Pc Qc XC mc ms free) (cw : CallW R s args own C index y bytes maxL ret ws rm mc ms n) (hp : PreV s H C b Pc As)
    (hg : g.method = m) (hn : As.length = n) (hsize : g.locals.size = nL) (hstack : g.stack = As.reverse ++ .ref b :: rest) (hW : 2 * g.monitorRoom + (rest.map fun v => v.category).sum ≤ 8) (hdg : decode cc g.pc = .ok (.invokevirtual index, 3)) (hf : cells + mc ≤ R.cells ∧ slots + ms ≤ R.slots) :
    vx_Run p l e R s m args below meth c H locs cells slots mc ms g rest (Qc (Value.ref b :: As).toArray) XC free := by
  have hK : vx_Back l R p e below s args y 3 8 (PreOf R mc ms Pc) (PostOf Qc mc ms free) (vx_Post XC mc ms free) := vx_callBack cw.1 hM hp.1
  obtain ⟨⟨-, -, -, -, -, -, hcode, -, hy, hlen, hl⟩, hin, hse⟩ := cw
  obtain ⟨hx, hb, hml, ho, -⟩ := S
  obtain ⟨-, ⟨cellB, hcB, hoB, hclB⟩, hPc⟩ := hp
  intro T hT X
  rcases vx_callV X hx (C := C) (bytes := bytes) (maxL := maxL) (ret := ret) ho hl hin hse hcode hy hK (by rw [hT]; exact hcB) hoB hclB hg (hsize.trans hml.symm) (argsL := As) (rest := rest) (fun sig h => hn.trans (hlen sig h)) hstack hW (by rw [hb]; exact hdg)
    (fun vm₁ hW₁ => ⟨hf.1, hf.2, hPc (T.setVm vm₁) hT hW₁⟩) with ⟨v, vm₁, ⟨U', l2, c2, s2⟩, hW₁, X', ⟨g', mk, t, L, e1, e2, hq, h1, hL, h2, h3⟩, st⟩ | ⟨q, vm₁, ⟨U', l2, c2, s2⟩, hW₁, X', ⟨g', mk, t, L, E, ce, e1, e2, hq, hce, hcv, hcl, h1, hL, h2, h3⟩, st⟩
  · dsimp only [Pt.U, Pt.locs, Pt.cells, Pt.slots] at X' e1 e2 h1 h2 h3 st
    subst h1; subst h2; subst h3
    exact Or.inl ⟨v, (T.setVm vm₁).calling g' mk (Value.ref b :: As).toArray, t, U', L, hT, X', hL, e1, e2, hq, st⟩
  · dsimp only [Pt.U, Pt.locs, Pt.cells, Pt.slots] at X' e1 e2 h1 h2 h3 st hcl
    subst h1; subst h2; subst h3
    exact Or.inr ⟨q, (T.setVm vm₁).calling g' mk (Value.ref b :: As).toArray, t, U', L, E, ce, hT, X', hL, e1, e2, hq, hce, hcv, vx_cls hW₁ hcl, st⟩
theorem vx_runS (S : CallFix p m c cc nL s args Ts own) (hM : vx_Met l y ws rm Pc Qc XC mc ms free) (cw : CallB R s args own index y bytes maxL ret ws rm mc ms n ∧ (Cond.static y).before args s = true) (hp : PreS s H Pc As)
    (hg : g.method = m) (hn : As.length = n) (hsize : g.locals.size = nL) (hstack : g.stack = As.reverse ++ rest) (hW : 2 * g.monitorRoom + (rest.map fun v => v.category).sum ≤ 8) (hdg : decode cc g.pc = .ok (.invokestatic index, 3)) (hf : cells + mc ≤ R.cells ∧ slots + ms ≤ R.slots) :
    vx_Run p l e R s m args below meth c H locs cells slots mc ms g rest (Qc As.toArray) XC free := by
  have hK : vx_Back l R p e below s args y 3 8 (PreOf R mc ms Pc) (PostOf Qc mc ms free) (vx_Post XC mc ms free) := vx_callBack cw.1 hM hp.1
  obtain ⟨⟨-, -, -, -, -, -, hcode, hini, hy, hlen, hl⟩, hstt⟩ := cw
  obtain ⟨hx, hb, hml, ho, -⟩ := S
  intro T hT X
  rcases vx_callS X hx (bytes := bytes) (maxL := maxL) (ret := ret) ho hl hstt hini hcode hy hK hg (hsize.trans hml.symm) (argsL := As) (rest := rest) (fun sig h => hn.trans (hlen sig h)) hstack hW (by rw [hb]; exact hdg)
    (fun vm₁ hW₁ => ⟨hf.1, hf.2, hp.2 (T.setVm vm₁) hT hW₁⟩) with ⟨v, vm₁, ⟨U', l2, c2, s2⟩, hW₁, X', ⟨g', mk, t, L, e1, e2, hq, h1, hL, h2, h3⟩, st⟩ | ⟨q, vm₁, ⟨U', l2, c2, s2⟩, hW₁, X', ⟨g', mk, t, L, E, ce, e1, e2, hq, hce, hcv, hcl, h1, hL, h2, h3⟩, st⟩
  · dsimp only [Pt.U, Pt.locs, Pt.cells, Pt.slots] at X' e1 e2 h1 h2 h3 st
    subst h1; subst h2; subst h3
    exact Or.inl ⟨v, (T.setVm vm₁).calling g' mk As.toArray, t, U', L, hT, X', hL, e1, e2, hq, st⟩
  · dsimp only [Pt.U, Pt.locs, Pt.cells, Pt.slots] at X' e1 e2 h1 h2 h3 st hcl
    subst h1; subst h2; subst h3
    exact Or.inr ⟨q, (T.setVm vm₁).calling g' mk As.toArray, t, U', L, E, ce, hT, X', hL, e1, e2, hq, hce, hcv, vx_cls hW₁ hcl, st⟩
end Runs
section Rows
variable {p : Program} {l : Launch} {e : Env} {R : Room} {s : State} {m : MethodId} {args : Array Value} {below : List Frame} {meth : Method} {c : Code} {H : Heap} {locs : List Loc} {cells slots : Nat} {Q : State → Prop}
variable {mc ms : Nat} {free : Addr → Prop} {A0 A1 : Nat → Prop} {H0 : Heap} {a : Array Value} {pc : Nat} {ls : Array Slot} {st0 rest : List Value}
theorem vx_keep {st₀ t T' : State} {L : List Loc} (h0 : st₀.heap = H) (e1 : T'.heap = t.heap) (hS : va_S A0 H0 H locs) (hA : ∀ q, q < H.size → A1 q → A0 q) (hf : ∀ q, free q → A0 q) (hL : ∀ q ∈ L, free q.base) (hF : va_F A1 st₀ t) :
    H.size ≤ T'.heap.size ∧ (∀ q : Nat, q < H.size → ¬ A1 q → T'.heap[q]? = H[q]?) ∧ va_S A0 H0 T'.heap (locs ++ L) := by
  obtain ⟨hz, hk⟩ := hF
  rw [h0] at hz hk
  exact ⟨by rw [e1]; exact hz, fun q h1 h2 => by rw [e1]; exact hk q h1 h2,
    ⟨Nat.le_trans hS.1 (by rw [e1]; exact hz), fun q h1 h2 => by rw [e1, hk q (Nat.lt_of_lt_of_le h1 hS.1) (fun z => h2 (hA q (Nat.lt_of_lt_of_le h1 hS.1) z))]; exact hS.2.1 q h1 h2, fun q hq => by
      rcases List.mem_append.mp hq with h | h
      · exact hS.2.2 q h
      · exact hf _ (hL q h)⟩⟩
theorem vx_calli {S SX : Type} {post : Int32 → S → Prop} {px : SX → Prop} {B : S → State → Prop} {BX : String → SX → State → Prop} {AX : Nat → Prop} (hr : vx_Run p l e R s m args below meth c H locs cells slots mc ms (F0 m pc ls st0) rest (va_Qi post B A1 a) (vx_X px BX AX) free) (hS : va_S A0 H0 H locs) (hA : ∀ q, q < H.size → A1 q → A0 q) (hf : ∀ q, free q → A0 q) (hAX : ∀ q, q < H.size → AX q → A0 q)
    (kx : ∀ (E : String) (ce : Cell) (q9 : Addr) (u : SX) (t : State) (H1 : Heap) (locs1 : List Loc), t.heap = H1 → s.vm.Alike t.vm → px u → BX E u t → H.size ≤ H1.size → (∀ q : Nat, q < H.size → ¬ AX q → H1[q]? = H[q]?) → va_S A0 H0 H1 locs1 → H1[q9]? = some ce → ce.vm = .none → s.vm.findClass E = some ce.cls → vx_W p l e R s m args below meth c H1 locs1 (cells + mc) (slots + ms) Q (F0 m pc ls rest) q9)
    (kk : ∀ (r : Int32) (u : S) (t : State) (H1 : Heap) (locs1 : List Loc), t.heap = H1 → s.vm.Alike t.vm → post r u → B u t → H.size ≤ H1.size → (∀ q : Nat, q < H.size → ¬ A1 q → H1[q]? = H[q]?) → va_S A0 H0 H1 locs1 → W p l e R s m args below meth c H1 locs1 (cells + mc) (slots + ms) Q (F0 m (pc + 3) ls (.int r :: rest))) : W p l e R s m args below meth c H locs cells slots Q (F0 m pc ls st0) := by
  intro T hT X
  rcases hr T hT X with ⟨v, st₀, t, T', L, h0, X', hL, e1, e2, ⟨⟨r, u, hv, hp, hb⟩, hF⟩, st⟩ | ⟨q, st₀, t, T', L, E, ce, h0, X', hL, e1, e2, ⟨u, hp, hb, hF⟩, hce, hcv, hcl, st⟩
  · cases hv
    obtain ⟨k1, k2, k3⟩ := vx_keep h0 e1 hS hA hf hL hF
    obtain ⟨t2, a1, b1⟩ := kk r u t T'.heap (locs ++ L) e1.symm (by rw [← e2]; exact X'.warmed.alike) hp hb k1 k2 k3 T' rfl X'
    exact ⟨t2, st t2 a1, b1⟩
  · obtain ⟨k1, k2, k3⟩ := vx_keep h0 e1 hS hAX hf hL hF
    obtain ⟨t2, a1, b1⟩ := kx E ce q u t T'.heap (locs ++ L) e1.symm (by rw [← e2]; exact X'.warmed.alike) hp hb k1 k2 k3 (by rw [e1]; exact hce) hcv hcl T' rfl X'
    exact ⟨t2, st.trans a1, b1⟩
theorem vx_calll {S SX : Type} {post : Int64 → S → Prop} {px : SX → Prop} {B : S → State → Prop} {BX : String → SX → State → Prop} {AX : Nat → Prop} (hr : vx_Run p l e R s m args below meth c H locs cells slots mc ms (F0 m pc ls st0) rest (va_Ql post B A1 a) (vx_X px BX AX) free) (hS : va_S A0 H0 H locs) (hA : ∀ q, q < H.size → A1 q → A0 q) (hf : ∀ q, free q → A0 q) (hAX : ∀ q, q < H.size → AX q → A0 q)
    (kx : ∀ (E : String) (ce : Cell) (q9 : Addr) (u : SX) (t : State) (H1 : Heap) (locs1 : List Loc), t.heap = H1 → s.vm.Alike t.vm → px u → BX E u t → H.size ≤ H1.size → (∀ q : Nat, q < H.size → ¬ AX q → H1[q]? = H[q]?) → va_S A0 H0 H1 locs1 → H1[q9]? = some ce → ce.vm = .none → s.vm.findClass E = some ce.cls → vx_W p l e R s m args below meth c H1 locs1 (cells + mc) (slots + ms) Q (F0 m pc ls rest) q9)
    (kk : ∀ (r : Int64) (u : S) (t : State) (H1 : Heap) (locs1 : List Loc), t.heap = H1 → s.vm.Alike t.vm → post r u → B u t → H.size ≤ H1.size → (∀ q : Nat, q < H.size → ¬ A1 q → H1[q]? = H[q]?) → va_S A0 H0 H1 locs1 → W p l e R s m args below meth c H1 locs1 (cells + mc) (slots + ms) Q (F0 m (pc + 3) ls (.long r :: rest))) : W p l e R s m args below meth c H locs cells slots Q (F0 m pc ls st0) := by
  intro T hT X
  rcases hr T hT X with ⟨v, st₀, t, T', L, h0, X', hL, e1, e2, ⟨⟨r, u, hv, hp, hb⟩, hF⟩, st⟩ | ⟨q, st₀, t, T', L, E, ce, h0, X', hL, e1, e2, ⟨u, hp, hb, hF⟩, hce, hcv, hcl, st⟩
  · cases hv
    obtain ⟨k1, k2, k3⟩ := vx_keep h0 e1 hS hA hf hL hF
    obtain ⟨t2, a1, b1⟩ := kk r u t T'.heap (locs ++ L) e1.symm (by rw [← e2]; exact X'.warmed.alike) hp hb k1 k2 k3 T' rfl X'
    exact ⟨t2, st t2 a1, b1⟩
  · obtain ⟨k1, k2, k3⟩ := vx_keep h0 e1 hS hAX hf hL hF
    obtain ⟨t2, a1, b1⟩ := kx E ce q u t T'.heap (locs ++ L) e1.symm (by rw [← e2]; exact X'.warmed.alike) hp hb k1 k2 k3 (by rw [e1]; exact hce) hcv hcl T' rfl X'
    exact ⟨t2, st.trans a1, b1⟩
theorem vx_callf {S SX : Type} {post : UInt32 → S → Prop} {px : SX → Prop} {B : S → State → Prop} {BX : String → SX → State → Prop} {AX : Nat → Prop} (hr : vx_Run p l e R s m args below meth c H locs cells slots mc ms (F0 m pc ls st0) rest (va_Qf post B A1 a) (vx_X px BX AX) free) (hS : va_S A0 H0 H locs) (hA : ∀ q, q < H.size → A1 q → A0 q) (hf : ∀ q, free q → A0 q) (hAX : ∀ q, q < H.size → AX q → A0 q)
    (kx : ∀ (E : String) (ce : Cell) (q9 : Addr) (u : SX) (t : State) (H1 : Heap) (locs1 : List Loc), t.heap = H1 → s.vm.Alike t.vm → px u → BX E u t → H.size ≤ H1.size → (∀ q : Nat, q < H.size → ¬ AX q → H1[q]? = H[q]?) → va_S A0 H0 H1 locs1 → H1[q9]? = some ce → ce.vm = .none → s.vm.findClass E = some ce.cls → vx_W p l e R s m args below meth c H1 locs1 (cells + mc) (slots + ms) Q (F0 m pc ls rest) q9)
    (kk : ∀ (r : UInt32) (u : S) (t : State) (H1 : Heap) (locs1 : List Loc), t.heap = H1 → s.vm.Alike t.vm → post r u → B u t → H.size ≤ H1.size → (∀ q : Nat, q < H.size → ¬ A1 q → H1[q]? = H[q]?) → va_S A0 H0 H1 locs1 → W p l e R s m args below meth c H1 locs1 (cells + mc) (slots + ms) Q (F0 m (pc + 3) ls (.float r :: rest))) : W p l e R s m args below meth c H locs cells slots Q (F0 m pc ls st0) := by
  intro T hT X
  rcases hr T hT X with ⟨v, st₀, t, T', L, h0, X', hL, e1, e2, ⟨⟨r, u, hv, hp, hb⟩, hF⟩, st⟩ | ⟨q, st₀, t, T', L, E, ce, h0, X', hL, e1, e2, ⟨u, hp, hb, hF⟩, hce, hcv, hcl, st⟩
  · cases hv
    obtain ⟨k1, k2, k3⟩ := vx_keep h0 e1 hS hA hf hL hF
    obtain ⟨t2, a1, b1⟩ := kk r u t T'.heap (locs ++ L) e1.symm (by rw [← e2]; exact X'.warmed.alike) hp hb k1 k2 k3 T' rfl X'
    exact ⟨t2, st t2 a1, b1⟩
  · obtain ⟨k1, k2, k3⟩ := vx_keep h0 e1 hS hAX hf hL hF
    obtain ⟨t2, a1, b1⟩ := kx E ce q u t T'.heap (locs ++ L) e1.symm (by rw [← e2]; exact X'.warmed.alike) hp hb k1 k2 k3 (by rw [e1]; exact hce) hcv hcl T' rfl X'
    exact ⟨t2, st.trans a1, b1⟩
theorem vx_calld {S SX : Type} {post : UInt64 → S → Prop} {px : SX → Prop} {B : S → State → Prop} {BX : String → SX → State → Prop} {AX : Nat → Prop} (hr : vx_Run p l e R s m args below meth c H locs cells slots mc ms (F0 m pc ls st0) rest (va_Qd post B A1 a) (vx_X px BX AX) free) (hS : va_S A0 H0 H locs) (hA : ∀ q, q < H.size → A1 q → A0 q) (hf : ∀ q, free q → A0 q) (hAX : ∀ q, q < H.size → AX q → A0 q)
    (kx : ∀ (E : String) (ce : Cell) (q9 : Addr) (u : SX) (t : State) (H1 : Heap) (locs1 : List Loc), t.heap = H1 → s.vm.Alike t.vm → px u → BX E u t → H.size ≤ H1.size → (∀ q : Nat, q < H.size → ¬ AX q → H1[q]? = H[q]?) → va_S A0 H0 H1 locs1 → H1[q9]? = some ce → ce.vm = .none → s.vm.findClass E = some ce.cls → vx_W p l e R s m args below meth c H1 locs1 (cells + mc) (slots + ms) Q (F0 m pc ls rest) q9)
    (kk : ∀ (r : UInt64) (u : S) (t : State) (H1 : Heap) (locs1 : List Loc), t.heap = H1 → s.vm.Alike t.vm → post r u → B u t → H.size ≤ H1.size → (∀ q : Nat, q < H.size → ¬ A1 q → H1[q]? = H[q]?) → va_S A0 H0 H1 locs1 → W p l e R s m args below meth c H1 locs1 (cells + mc) (slots + ms) Q (F0 m (pc + 3) ls (.double r :: rest))) : W p l e R s m args below meth c H locs cells slots Q (F0 m pc ls st0) := by
  intro T hT X
  rcases hr T hT X with ⟨v, st₀, t, T', L, h0, X', hL, e1, e2, ⟨⟨r, u, hv, hp, hb⟩, hF⟩, st⟩ | ⟨q, st₀, t, T', L, E, ce, h0, X', hL, e1, e2, ⟨u, hp, hb, hF⟩, hce, hcv, hcl, st⟩
  · cases hv
    obtain ⟨k1, k2, k3⟩ := vx_keep h0 e1 hS hA hf hL hF
    obtain ⟨t2, a1, b1⟩ := kk r u t T'.heap (locs ++ L) e1.symm (by rw [← e2]; exact X'.warmed.alike) hp hb k1 k2 k3 T' rfl X'
    exact ⟨t2, st t2 a1, b1⟩
  · obtain ⟨k1, k2, k3⟩ := vx_keep h0 e1 hS hAX hf hL hF
    obtain ⟨t2, a1, b1⟩ := kx E ce q u t T'.heap (locs ++ L) e1.symm (by rw [← e2]; exact X'.warmed.alike) hp hb k1 k2 k3 (by rw [e1]; exact hce) hcv hcl T' rfl X'
    exact ⟨t2, st.trans a1, b1⟩
theorem vx_callv {S SX : Type} {post : S → Prop} {px : SX → Prop} {B : S → State → Prop} {BX : String → SX → State → Prop} {AX : Nat → Prop} (hr : vx_Run p l e R s m args below meth c H locs cells slots mc ms (F0 m pc ls st0) rest (va_Qv post B A1 a) (vx_X px BX AX) free) (hS : va_S A0 H0 H locs) (hA : ∀ q, q < H.size → A1 q → A0 q) (hf : ∀ q, free q → A0 q) (hAX : ∀ q, q < H.size → AX q → A0 q)
    (kx : ∀ (E : String) (ce : Cell) (q9 : Addr) (u : SX) (t : State) (H1 : Heap) (locs1 : List Loc), t.heap = H1 → s.vm.Alike t.vm → px u → BX E u t → H.size ≤ H1.size → (∀ q : Nat, q < H.size → ¬ AX q → H1[q]? = H[q]?) → va_S A0 H0 H1 locs1 → H1[q9]? = some ce → ce.vm = .none → s.vm.findClass E = some ce.cls → vx_W p l e R s m args below meth c H1 locs1 (cells + mc) (slots + ms) Q (F0 m pc ls rest) q9)
    (kk : ∀ (u : S) (t : State) (H1 : Heap) (locs1 : List Loc), t.heap = H1 → s.vm.Alike t.vm → post u → B u t → H.size ≤ H1.size → (∀ q : Nat, q < H.size → ¬ A1 q → H1[q]? = H[q]?) → va_S A0 H0 H1 locs1 → W p l e R s m args below meth c H1 locs1 (cells + mc) (slots + ms) Q (F0 m (pc + 3) ls (rest))) : W p l e R s m args below meth c H locs cells slots Q (F0 m pc ls st0) := by
  intro T hT X
  rcases hr T hT X with ⟨v, st₀, t, T', L, h0, X', hL, e1, e2, ⟨⟨u, hv, hp, hb⟩, hF⟩, st⟩ | ⟨q, st₀, t, T', L, E, ce, h0, X', hL, e1, e2, ⟨u, hp, hb, hF⟩, hce, hcv, hcl, st⟩
  · cases hv
    obtain ⟨k1, k2, k3⟩ := vx_keep h0 e1 hS hA hf hL hF
    obtain ⟨t2, a1, b1⟩ := kk u t T'.heap (locs ++ L) e1.symm (by rw [← e2]; exact X'.warmed.alike) hp hb k1 k2 k3 T' rfl X'
    exact ⟨t2, st t2 a1, b1⟩
  · obtain ⟨k1, k2, k3⟩ := vx_keep h0 e1 hS hAX hf hL hF
    obtain ⟨t2, a1, b1⟩ := kx E ce q u t T'.heap (locs ++ L) e1.symm (by rw [← e2]; exact X'.warmed.alike) hp hb k1 k2 k3 (by rw [e1]; exact hce) hcv hcl T' rfl X'
    exact ⟨t2, st.trans a1, b1⟩
/-- caught by the row x of this method's table; the rows ahead don't take it -/
theorem vx_catch {own name : String} {E : String} {ce : Cell} {q : Addr} (hown : s.vm.findClass own = some m.cls) (pre : List ExceptionTableEntry) (x : ExceptionTableEntry) (suf : List ExceptionTableEntry) (hsplit : c.exceptionTable.toList = pre ++ x :: suf)
    (hpass : ∀ z ∈ pre, covers z pc = false ∨ (z.catchType ≠ 0 ∧ ∃ nm : String, (Cond.classLink own z.catchType nm).before args s = true ∧ va_Nc E nm s)) (hx : covers x pc = true) (h0 : x.catchType ≠ 0)
    (hlink : (Cond.classLink own x.catchType name).before args s = true) (hcast : (Cond.castable E name).before args s = true) (hcell : H[q]? = some ce) (hv : ce.vm = .none) (hcl : s.vm.findClass E = some ce.cls)
    (kk : W p l e R s m args below meth c H locs cells slots Q (F0 m x.handlerPc ls [.ref q])) : vx_W p l e R s m args below meth c H locs cells slots Q (F0 m pc ls rest) q := by
  intro T hT X
  have hpl : e.platform.magicAccessors = ({} : Platform).magicAccessors := by rw [X.admits.platform]
  obtain ⟨c3, c4, hc3, hc4, hasg⟩ := Cond.castable_spec hcast
  cases Option.some.inj (hc3.symm.trans hcl)
  obtain ⟨c5, hc5, hcl5⟩ := Cond.classLink_spec hown hlink e.platform hpl
  cases Option.some.inj (hc4.symm.trans hc5)
  obtain ⟨vm', X', st⟩ := X.thenCaughtThrough q (g := F0 m pc ls rest) rfl (Steps.refl _) (by rw [hT]; exact hcell) (by rw [hv]; rfl) (by obtain ⟨k9, h9, -⟩ := Vm.findClass_spec hcl; exact ⟨k9, h9⟩) pre x suf hsplit
    (fun z hz => by
      rcases hpass z hz with h | ⟨hz0, nm, hl1, hn1⟩
      · exact Or.inl h
      · obtain ⟨c6, hc6, hcl6⟩ := Cond.classLink_spec hown hl1 e.platform hpl
        obtain ⟨a8, b8, h1, h2, h3⟩ := hn1
        cases Option.some.inj (h1.symm.trans hcl)
        cases Option.some.inj (h2.symm.trans hc6)
        exact Or.inr ⟨hz0, _, hcl6, h3⟩) hx (Or.inr ⟨h0, c4, hcl5, hasg⟩)
  obtain ⟨t, a1, b1⟩ := kk (T.setVm vm') hT X'
  exact ⟨t, st.trans a1, b1⟩
end Rows
section Ends
variable {p : Program} {l : Launch} {e : Env} {R : Room} {s : State} {m : MethodId} {args : Array Value} {below : List Frame} {meth : Method} {c : Code} {H : Heap} {locs : List Loc} {cells slots : Nat} {Q : State → Prop}
variable {mc ms : Nat} {free : Addr → Prop} {A0 A1 : Nat → Prop} {H0 : Heap} {a : Array Value} {ls : Array Slot} {st0 rest : List Value}
variable {Qc : Array Value → State → Outcome → State → Prop} {XC : String → State → State → Prop}
/-- what a body that may throw owes at its end -/
def vx_MQ (below : List Frame) (Qc : Array Value → State → Outcome → State → Prop) (XC : String → State → State → Prop) (a : Array Value) (s : State) (mc ms : Nat) (free : Addr → Prop) : State → Prop := fun t =>
  ∃ o, t.status = .running ∧ Ended t below o ∧ vx_Q Qc XC mc ms free a s o t
theorem vx_ret {g : JFrame} {mc ms : Nat} (k : W p l e R s m args below meth c H locs cells slots (MQ below Qc args s mc ms free) g) : W p l e R s m args below meth c H locs cells slots (vx_MQ below Qc XC args s mc ms free) g := by
  intro T hT X
  obtain ⟨t, a1, o, b1, b2, b3, b4⟩ := k T hT X
  exact ⟨t, a1, o, b1, b2, Or.inl ⟨b3, b4⟩⟩
/-- not caught here: it goes on to the caller -/
theorem vx_widen {g : JFrame} {q : Addr} {k n : Nat} (h1 : cells ≤ k) (h2 : slots ≤ n) (kk : vx_W p l e R s m args below meth c H locs k n Q g q) : vx_W p l e R s m args below meth c H locs cells slots Q g q := fun T hT X => kk T hT (stand_widen X h1 h2)
theorem vx_out {pc : Nat} {E : String} {ce : Cell} {q : Addr} {mc ms : Nat} (hout : ∀ x ∈ c.exceptionTable.toList, covers x pc = false) (hlocks : meth.locks = false) (hcell : H[q]? = some ce) (hv : ce.vm = .none) (hcl : s.vm.findClass E = some ce.cls)
    (hx : ∀ t : State, t.heap = H → s.vm.Alike t.vm → XC E s t) (hf : ∀ z ∈ locs, free z.base) (hc : cells ≤ mc) (hs : slots ≤ ms) :
    vx_W p l e R s m args below meth c H locs cells slots (vx_MQ below Qc XC args s mc ms free) (F0 m pc ls rest) q := by
  intro T hT X
  obtain ⟨st1, hrun, hend, hW, hsm⟩ := X.leaveThrown q (g := F0 m pc ls rest) rfl rfl rfl hout hlocks
  have hcell9 : (T.setFrames (.throwing q :: below)).heap[q]? = some ce := by
    show T.heap[q]? = some ce
    rw [hT]; exact hcell
  exact ⟨_, st1, .threw q, hrun, hend, Or.inr ⟨q, rfl, E, ce, locs, hx _ hT hW.alike, hcell9, hv, hcl, hW, hsm.mono hc hs, hf⟩⟩
theorem vx_frame {U : State} {k n : Nat} (h : s.sameButNew ({ U with vm := s.vm } : State) locs k n) : s.heap.size ≤ U.heap.size ∧ ∀ q : Nat, q < s.heap.size → (∀ z ∈ locs, z.base ≠ q) → U.heap[q]? = s.heap[q]? := by
  obtain ⟨-, h2, -, -, -, h6⟩ := h
  refine ⟨h2, fun q hq hz => ?_⟩
  obtain ⟨c9, e1, e2, e3, e4⟩ := h6 q _ (Array.getElem?_eq_getElem hq)
  have hs : c9.slots = (s.heap[q]).slots := Array.ext_getElem? fun i => e4 i fun hm => hz _ hm rfl
  have h9 : c9 = s.heap[q] := by
    rw [hs] at e2
    exact e2
  have e5 : U.heap[q]? = some c9 := e1
  rw [e5, h9, Array.getElem?_eq_getElem hq]
/-- the words of a throw but the four that speak of the heap -/
def vx_no (w : Cond) : Bool := decide (w ≠ .isRef (.static Bundle.tN "UNASSIGNED_STACK" Bundle.steD)) && decide (w ≠ .isRef (.static Bundle.tN "SUPPRESSED_SENTINEL" Bundle.listD)) && decide (w ≠ .laysStatic Bundle.tN "UNASSIGNED_STACK" Bundle.steD) && decide (w ≠ .laysStatic Bundle.tN "SUPPRESSED_SENTINEL" Bundle.listD)
def vx_at0 (own : String) (ic : Nat) (X : String) (names : List String) : List Cond := (Bundle.ownAtoms0 own ic X names).filter vx_no
def vx_atS (own : String) (ic : Nat) (X : String) (names : List String) : List Cond := (Bundle.ownAtoms own ic X names).filter vx_no
/-- a word that the tables alone decide, or a good one -/
def vx_ot (w : Cond) : Bool := w.onTables || goodWord w
theorem vx_ot_at {args a' : Array Value} {s U : State} {w : Cond} (hW : s.WarmedH U.vm) (hvm : s.vm = U.vm) (hg : vx_ot w = true) (h : w.before args s = true) : w.before a' U = true := by
  simp only [vx_ot, Bool.or_eq_true] at hg
  rcases hg with hg | hg
  · exact va_tabs hg hvm h
  · exact word_at hW (good_of_word hg) h
/-- a list's words: the good ones out of the method's own list, the others by premises of their own -/
theorem vx_hat {args : Array Value} {s : State} {L B : List Cond} (h1 : ∀ w ∈ L.filter goodWord, w.before args s = true) (h2 : ∀ w ∈ L.filter (fun w => !goodWord w), w ∈ B) (h3 : ∀ w ∈ B, w.before args s = true) : ∀ w ∈ L, w.before args s = true := by
  intro w hw
  by_cases g : goodWord w = true
  · exact h1 w (List.mem_filter.mpr ⟨hw, g⟩)
  · refine h3 w (h2 w (List.mem_filter.mpr ⟨hw, ?_⟩))
    show (!goodWord w) = true
    cases hgw : goodWord w
    · rfl
    · exact absurd hgw g
theorem vx_c {args : Array Value} {s : State} {w : Cond} {B : List Cond} (h : w.before args s = true) (t : ∀ w ∈ B, w.before args s = true) : ∀ w' ∈ w :: B, w'.before args s = true := fun w' h' => (List.mem_cons.mp h').elim (fun e => by rw [e]; exact h) (t w')
theorem vx_n {args : Array Value} {s : State} : ∀ w ∈ ([] : List Cond), w.before args s = true := fun _ h => nomatch h
theorem vx_own {args : Array Value} {s : State} {L : List Cond} (h1 : ∀ w ∈ L.filter vx_no, w.before args s = true)
    (hU : (Cond.isRef (.static Bundle.tN "UNASSIGNED_STACK" Bundle.steD)).before args s = true) (hN : (Cond.isRef (.static Bundle.tN "SUPPRESSED_SENTINEL" Bundle.listD)).before args s = true)
    (lU : (Cond.laysStatic Bundle.tN "UNASSIGNED_STACK" Bundle.steD).before args s = true) (lN : (Cond.laysStatic Bundle.tN "SUPPRESSED_SENTINEL" Bundle.listD).before args s = true) : ∀ w ∈ L, w.before args s = true := by
  intro w hw
  by_cases e1 : w = .isRef (.static Bundle.tN "UNASSIGNED_STACK" Bundle.steD)
  · rw [e1]; exact hU
  · by_cases e2 : w = .isRef (.static Bundle.tN "SUPPRESSED_SENTINEL" Bundle.listD)
    · rw [e2]; exact hN
    · by_cases e3 : w = .laysStatic Bundle.tN "UNASSIGNED_STACK" Bundle.steD
      · rw [e3]; exact lU
      · by_cases e4 : w = .laysStatic Bundle.tN "SUPPRESSED_SENTINEL" Bundle.listD
        · rw [e4]; exact lN
        · exact h1 w (List.mem_filter.mpr ⟨hw, by unfold vx_no; rw [decide_eq_true e1, decide_eq_true e2, decide_eq_true e3, decide_eq_true e4]; rfl⟩)
/-- where a static field lies, its class's statics cell in H -/
def vx_L (C n d : String) (A : Nat → Prop) (U : State) (H : Heap) : Prop := ∃ (c : ClassId) (k : Class) (i : Nat) (f : Field) (a : Nat) (cell : Cell), U.vm.findClass C = some c ∧ U.fieldFound? C n d = some (c, k, i, f) ∧ f.isStatic = true ∧ k.statics = some a ∧ H[a]? = some cell ∧ cell.vm.isStatics = true ∧ cell.cls = c ∧ f.slot < cell.slots.size ∧ k.staticTypes[f.slot]? = some f.type ∧ ¬ A a
theorem vx_L.moved {C n d : String} {A : Nat → Prop} {u U : State} {H : Heap} (hvm : u.vm.Alike U.vm) (h : vx_L C n d A u H) : vx_L C n d A U H := by
  obtain ⟨c, k, i, f, a, cell, h1, h2, h3, h4, h5, h6, h7, h8, h9, h10⟩ := h
  obtain ⟨k', hi', he⟩ := State.fieldFound?_setVm hvm h2
  exact ⟨c, k', i, f, a, cell, by rw [hvm.findClass]; exact h1, hi', h3, by rw [he]; exact h4, h5, h6, h7, h8, by rw [he]; exact h9, h10⟩
theorem vx_L.kept {C n d : String} {A : Nat → Prop} {U : State} {H H1 : Heap} (h : vx_L C n d A U H) (hq : ∀ a : Nat, a < H.size → ¬ A a → H1[a]? = H[a]?) : vx_L C n d A U H1 := by
  obtain ⟨c, k, i, f, a, cell, h1, h2, h3, h4, h5, h6, h7, h8, h9, h10⟩ := h
  exact ⟨c, k, i, f, a, cell, h1, h2, h3, h4, by rw [hq a (Array.getElem?_eq_some_iff.mp h5).1 h10]; exact h5, h6, h7, h8, h9, h10⟩
theorem vx_L.narrow {C n d : String} {A B : Nat → Prop} {U : State} {H : Heap} (h : vx_L C n d A U H) (hAB : ∀ q, B q → A q) : vx_L C n d B U H := by
  obtain ⟨c, k, i, f, a, cell, h1, h2, h3, h4, h5, h6, h7, h8, h9, h10⟩ := h
  exact ⟨c, k, i, f, a, cell, h1, h2, h3, h4, h5, h6, h7, h8, h9, fun z => h10 (hAB _ z)⟩
theorem vx_L.word {C n d : String} {A : Nat → Prop} {s : State} {args : Array Value} (h : vx_L C n d A s s.heap) : (Cond.laysStatic C n d).before args s = true := by
  obtain ⟨c, k, i, f, a, cell, h1, h2, h3, h4, h5, h6, h7, h8, h9, -⟩ := h
  show (Cond.laysStatic C n d).holds args s none s [] = true
  exact Cond.laysStatic_of h1 h2 h3 h4 h5 h6 h7 h8 h9
/-- .. and what it holds: null or some reference -/
def vx_Zq (C n d : String) (A : Nat → Prop) (U : State) (H : Heap) : Prop := va_Zq C n d A U H ∧ vx_L C n d A U H
theorem vx_Zq.moved {C n d : String} {A : Nat → Prop} {u U : State} {H : Heap} (hvm : u.vm.Alike U.vm) (h : vx_Zq C n d A u H) : vx_Zq C n d A U H := ⟨va_Zq.moved hvm h.1, vx_L.moved hvm h.2⟩
theorem vx_Zq.kept {C n d : String} {A : Nat → Prop} {U : State} {H H1 : Heap} (h : vx_Zq C n d A U H) (hq : ∀ a : Nat, a < H.size → ¬ A a → H1[a]? = H[a]?) : vx_Zq C n d A U H1 := ⟨va_Zq.kept h.1 hq, vx_L.kept h.2 hq⟩
theorem vx_Zq.narrow {C n d : String} {A B : Nat → Prop} {U : State} {H : Heap} (h : vx_Zq C n d A U H) (hAB : ∀ q, B q → A q) : vx_Zq C n d B U H := ⟨va_Zq.narrow h.1 hAB, vx_L.narrow h.2 hAB⟩
theorem vx_Zqof {args : Array Value} {s : State} {C n d : String} {A : Nat → Prop} (hl : (Cond.laysStatic C n d).before args s = true) (hini : (Cond.initialized C).before args s = true) (h : (Cond.isRef (.static C n d)).before args s = true) (hA : ∀ a : Nat, a < s.heap.size → ¬ A a) : vx_Zq C n d A s s.heap := by
  refine ⟨va_Zqof hl hini h hA, ?_⟩
  obtain ⟨c, k, i, f, a, cell, h1, h2, h3, h4, h5, h6, h7, h8, h9⟩ := Cond.laysStatic_spec hl
  exact ⟨c, k, i, f, a, cell, h1, h2, h3, h4, h5, h6, h7, h8, h9, hA a (Array.getElem?_eq_some_iff.mp h5).1⟩
theorem vx_isRef {C n d : String} {v : Value} {A : Nat → Prop} {s : State} {args : Array Value} (h : va_Z C n d v A s s.heap) (hv : v.isRef = true) : (Cond.isRef (.static C n d)).before args s = true := by
  obtain ⟨cf, kf, fi, f, a, cell, h1, h2, h3, h4, h5, h6, h7, -⟩ := h
  have he : (Term.static C n d).eval args s none [] s = some v := by
    simp [Term.eval, State.fieldNamed?, h1, h2, h4, h5, h6, h7]
  simp only [Cond.before, Cond.holds, Cond.value, he]
  cases v <;> simp_all [Value.isRef]
theorem vx_isRefq {C n d : String} {A : Nat → Prop} {s : State} {args : Array Value} (h : va_Zq C n d A s s.heap) : (Cond.isRef (.static C n d)).before args s = true := by
  rcases h with h | ⟨t, h⟩
  · exact vx_isRef h rfl
  · exact vx_isRef h rfl
/-- the same frame, seen from here: as if the method were called anew in this heap -/
theorem vx_rebase {T : State} (X : Stand p l e R s m args below meth c T locs cells slots) {R' : Room} (hf : R'.frames ≤ R.frames) (hl : R'.locals ≤ R.locals) (hc : cells + R'.cells ≤ R.cells) (hs : slots + R'.slots ≤ R.slots) :
    Stand p l e R' ((T.setVm s.vm).setFrames (.invoking m args :: below)) m args below meth c T [] 0 0 := by
  have htop : (T.setVm s.vm).topJava?.isSome := X.here.top
  have hF : ((T.setVm s.vm).setFrames (.invoking m args :: below)).frames = .invoking m args :: below := State.frames_setFrames _ (State.cur_lt_of_top htop)
  obtain ⟨g₀, hg0⟩ := Option.isSome_iff_exists.mp htop
  obtain ⟨r, hr⟩ := State.topJava?_eq_some.mp hg0
  have hl9 : e.platform.stackLimits (T.setVm s.vm).me = e.platform.stackLimits s.me := X.limits
  have hb9 : (T.setVm s.vm).me.stackBytes = s.me.stackBytes := X.bytes
  refine ⟨X.admits, X.cas, X.clock, hF, ?_, X.hears, X.method, X.code, X.here, X.tail, X.warmed, ?_, ?_, ?_⟩
  · have h := X.room
    have hU : ((T.setVm s.vm).setFrames (.invoking m args :: below)).localsInUse = s.localsInUse := by
      rw [State.localsInUse_invoking hF (meth := meth) (c := c) X.method X.code, State.localsInUse_invoking X.frames X.method X.code]
    simp only [State.hasRoom, Bool.and_eq_true, decide_eq_true_eq] at h ⊢
    obtain ⟨⟨⟨⟨h1, h2, h3, h4, h5, h6⟩, h7⟩, h8⟩, h9⟩ := h
    rw [X.frames, List.length_cons] at h2 h3
    have q1 := X.heapSize
    have q2 := X.used
    simp only [hF, hU, List.length_cons, State.stackLimits_setFrames, State.stackBytes_setFrames, hl9, hb9]
    refine ⟨⟨⟨⟨by omega, by omega, by omega, by omega, by omega, h6⟩, ?_⟩, ?_⟩, X.book⟩
    · show T.heap.size + R'.cells ≤ e.platform.maxCells
      omega
    · show T.slotsUsed + R'.slots ≤ e.platform.maxSlots
      omega
  · rw [State.stackLimits_setFrames]; rfl
  · rw [State.stackBytes_setFrames]; rfl
  · refine ⟨?_, Nat.le_refl _, Nat.le_refl _, ?_, ?_, fun a c9 h9 => ⟨c9, h9, rfl, rfl, fun _ _ => rfl⟩⟩
    · obtain ⟨t, ht, -⟩ := State.frames_cons hr
      show T.setVm s.vm = { ((T.setVm s.vm).setFrames (.invoking m args :: below)).setFrames (T.setVm s.vm).frames with heap := T.heap, slotsUsed := T.slotsUsed }
      rw [State.setFrames_setFrames, State.setFrames_self ht]
      rfl
    · show T.slotsUsed = T.slotsUsed + ((T.heap.toList.drop T.heap.size).map (·.slots.size)).sum
      rw [List.drop_eq_nil_of_le (Nat.le_of_eq Array.length_toList)]
      rfl
    · show ((T.heap.toList.drop T.heap.size).map (·.slots.size)).sum ≤ 0
      rw [List.drop_eq_nil_of_le (Nat.le_of_eq Array.length_toList)]
      exact Nat.le_refl _
/-- 'throw new E()': new; dup; invokespecial; athrow -/
theorem vx_throw0 {cc : ByteArray} {pc : Nat} (hexec : p.tables.exec = Jvm.exec) (hb : c.code = cc) (hl : l.stackTraces = false) {own cls : String} {names : List String} {ik ic mc ms : Nat} {A : Nat → Prop}
    (hown : s.vm.findClass own = some m.cls) (hcls : Bundle.fit cls = true) (hnames : ∀ n ∈ names, Bundle.fit n = true)
    (hk : (Cond.classLink own ik cls).before args s = true) (hini : (Cond.initialized cls).before args s = true) (hat : ∀ w ∈ vx_at0 own ic cls names, w.before args s = true)
    (hgood : ∀ w ∈ Cond.classLink own ik cls :: Cond.initialized cls :: vx_at0 own ic cls names, vx_ot w = true)
    (hU : vx_Zq Bundle.tN "UNASSIGNED_STACK" Bundle.steD A s s.heap) (hN : vx_Zq Bundle.tN "SUPPRESSED_SENTINEL" Bundle.listD A s s.heap) (hS : va_S A s.heap H locs) (hsize : ls.size = c.maxLocals)
    (d0 : decode cc pc = .ok (.new ik, 3)) (d3 : decode cc (pc + 3) = .ok (.dup, 1)) (d4 : decode cc (pc + 4) = .ok (.invokespecial ic, 3)) (d7 : decode cc (pc + 7) = .ok (.athrow, 1))
    (hout : ∀ x ∈ c.exceptionTable.toList, covers x (pc + 7) = false)
    (hRframes : names.length + 3 < R.frames) (hRlocals : (rest.map fun v => v.category).sum + (13 * (names.length + 1) + 42) ≤ R.locals) (hRcells : cells + 1 ≤ R.cells) (hRslots : slots + 6 ≤ R.slots) (hlocks : meth.locks = false)
    (hx : ∀ t : State, s.vm.Alike t.vm → H.size ≤ t.heap.size → (∀ q : Nat, q < H.size → t.heap[q]? = H[q]?) → XC cls s t)
    (hf : ∀ z ∈ locs, free z.base) (hc : cells + 1 ≤ mc) (hs : slots + 6 ≤ ms) :
    W p l e R s m args below meth c H locs cells slots (vx_MQ below Qc XC args s mc ms free) (F0 m pc ls rest) := by
  intro T hT X
  have htr : e.platform.stackTraces = false := (show e.platform.stackTraces = l.stackTraces by rw [X.admits.platform]).trans hl
  have Y := vx_rebase X (R' := { frames := R.frames, locals := R.locals, cells := 1, slots := 6 }) (Nat.le_refl _) (Nat.le_refl _) hRcells hRslots
  obtain ⟨s', hA⟩ : ∃ z, z = (T.setVm s.vm).setFrames (.invoking m args :: below) := ⟨_, rfl⟩
  rw [← hA] at Y
  have hvm : s'.vm = s.vm := by rw [hA]; rfl
  have hhp : s'.heap = H := by rw [hA]; exact hT
  have hW0 : s.WarmedH s'.vm := by rw [hvm]; exact State.WarmedH.refl s
  have hat' : ∀ w ∈ vx_at0 own ic cls names, w.before args s' = true := fun w hw => vx_ot_at hW0 hvm.symm (hgood w (List.mem_cons_of_mem _ (List.mem_cons_of_mem _ hw))) (hat w hw)
  have hk' : (Cond.classLink own ik cls).before args s' = true := vx_ot_at hW0 hvm.symm (hgood _ List.mem_cons_self) hk
  have hini' : (Cond.initialized cls).before args s' = true := vx_ot_at hW0 hvm.symm (hgood _ (List.mem_cons_of_mem _ List.mem_cons_self)) hini
  have hU' : vx_Zq Bundle.tN "UNASSIGNED_STACK" Bundle.steD A s' s'.heap := by rw [hhp]; exact vx_Zq.moved hW0.alike (hU.kept hS.2.1)
  have hN' : vx_Zq Bundle.tN "SUPPRESSED_SENTINEL" Bundle.listD A s' s'.heap := by rw [hhp]; exact vx_Zq.moved hW0.alike (hN.kept hS.2.1)
  have h : ∀ w ∈ Bundle.ownAtoms0 own ic cls names, w.before args s' = true := vx_own hat' (vx_isRefq hU'.1) (vx_isRefq hN'.1) hU'.2.word hN'.2.word
  have hown' : s'.vm.findClass own = some m.cls := by rw [hvm]; exact hown
  have hins : (Cond.instantiable cls 6).before args s' = true := h _ (by simp [Bundle.ownAtoms0])
  obtain ⟨vm₁, cX, kX, hfX, hkX, -, -, X₁, st1⟩ := Y.newCold hexec (own := own) (C := cls) (index := ik) (n := 6) hown' hk' hins hini'
    (g := F0 m pc ls rest) rfl (by rw [hb]; exact d0) (Nat.le_refl _) (Nat.le_refl _)
  generalize hT1 : (T.setVm vm₁).pushCell { cls := cX, slots := kX.instanceTypes.map defaultValue, vm := .none } = T1 at X₁ st1
  have hcat : (Value.ref T.heap.size).category = 1 := rfl
  have hcellA : T1.heap[T.heap.size]? = some (freshCell cX kX) := by rw [← hT1]; exact State.heap_pushCell_size _ _
  have d3' : decode c.code (pc + 3) = .ok (.dup, 1) := by rw [hb]; exact d3
  obtain ⟨U, hsteps, hrun, hend, hW, hsame, ce, hce, hO⟩ := X₁.ctorThrow0 hexec htr (own := own) (cls := cls) (names := names) (ic := ic) hown' hcls hnames h (fun x hx => nomatch hx) hfX hkX hcellA (by rw [hhp, hT]; exact Nat.le_refl _)
    (g := { method := m, pc := pc + 4, locals := ls, stack := .ref T.heap.size :: .ref T.heap.size :: rest, locked := none }) rfl hsize rfl rfl (rest := rest) rfl
    (by rw [hb]; exact d4) (by rw [hb]; exact d7) hout hRframes (by simp only [List.map_cons, List.sum_cons, hcat]; omega) hlocks
  obtain ⟨f1, f2⟩ := vx_frame hsame
  rw [hhp] at f1 f2
  have hWs : s.WarmedH U.vm := State.WarmedH.trans hW0 hW
  have hcl : s.vm.findClass cls = some ce.cls := by
    have h9 := hO.cls
    rw [hvm] at h9
    exact h9
  have hall : s.sameButNew ({ U with vm := s.vm } : State) locs mc ms := by
    subst hA
    obtain ⟨e1, e2⟩ := hsame
    rw [State.setFrames_setFrames] at e1
    have h2 : (T.setVm s.vm).sameButNew ({ U with vm := s.vm } : State) [] (0 + 1) (0 + 6) := ⟨e1, e2⟩
    have h3 := X.same.trans h2
    rw [List.append_nil] at h3
    exact h3.mono hc hs
  refine ⟨U, ?_, .threw T.heap.size, hrun, hend, Or.inr ⟨T.heap.size, rfl, cls, ce, locs, hx U hWs.alike f1 (fun q hq => f2 q hq (fun z hz => nomatch hz)), hce, hO.vm, hcl, hWs, hall, hf⟩⟩
  refine st1 _ ?_
  show Steps p.tables e below (T1.setTop { method := m, pc := pc + 3, locals := ls, stack := .ref T.heap.size :: rest, locked := none }) _
  jvm_step X₁.here [X₁.here.top, hexec, d3', Value.category]
  exact hsteps
/-- 'throw new E("text")': new; dup; ldc; invokespecial; athrow -/
theorem vx_throwS {cc : ByteArray} {pc : Nat} (hexec : p.tables.exec = Jvm.exec) (hb : c.code = cc) (hl : l.stackTraces = false) {own cls text : String} {names : List String} {ik is ic mc ms sa : Nat} {A : Nat → Prop}
    (hown : s.vm.findClass own = some m.cls) (hcls : Bundle.fit cls = true) (hnames : ∀ n ∈ names, Bundle.fit n = true)
    (hk : (Cond.classLink own ik cls).before args s = true) (hini : (Cond.initialized cls).before args s = true) (hstr : vk_R own is text sa s) (hat : ∀ w ∈ vx_atS own ic cls names, w.before args s = true)
    (hgood : ∀ w ∈ Cond.classLink own ik cls :: Cond.initialized cls :: vx_atS own ic cls names, vx_ot w = true)
    (hU : vx_Zq Bundle.tN "UNASSIGNED_STACK" Bundle.steD A s s.heap) (hN : vx_Zq Bundle.tN "SUPPRESSED_SENTINEL" Bundle.listD A s s.heap) (hS : va_S A s.heap H locs) (hsize : ls.size = c.maxLocals)
    (d0 : decode cc pc = .ok (.new ik, 3)) (d3 : decode cc (pc + 3) = .ok (.dup, 1)) (d4 : decode cc (pc + 4) = .ok (.ldc is, 2)) (d6 : decode cc (pc + 6) = .ok (.invokespecial ic, 3)) (d9 : decode cc (pc + 9) = .ok (.athrow, 1))
    (hout : ∀ x ∈ c.exceptionTable.toList, covers x (pc + 9) = false)
    (hRframes : names.length + 3 < R.frames) (hRlocals : (rest.map fun v => v.category).sum + (13 * (names.length + 1) + 43) ≤ R.locals) (hRcells : cells + 1 ≤ R.cells) (hRslots : slots + 6 ≤ R.slots) (hlocks : meth.locks = false)
    (hx : ∀ t : State, s.vm.Alike t.vm → H.size ≤ t.heap.size → (∀ q : Nat, q < H.size → t.heap[q]? = H[q]?) → XC cls s t)
    (hf : ∀ z ∈ locs, free z.base) (hc : cells + 1 ≤ mc) (hs : slots + 6 ≤ ms) :
    W p l e R s m args below meth c H locs cells slots (vx_MQ below Qc XC args s mc ms free) (F0 m pc ls rest) := by
  intro T hT X
  have htr : e.platform.stackTraces = false := (show e.platform.stackTraces = l.stackTraces by rw [X.admits.platform]).trans hl
  have Y := vx_rebase X (R' := { frames := R.frames, locals := R.locals, cells := 1, slots := 6 }) (Nat.le_refl _) (Nat.le_refl _) hRcells hRslots
  obtain ⟨s', hA⟩ : ∃ z, z = (T.setVm s.vm).setFrames (.invoking m args :: below) := ⟨_, rfl⟩
  rw [← hA] at Y
  have hvm : s'.vm = s.vm := by rw [hA]; rfl
  have hhp : s'.heap = H := by rw [hA]; exact hT
  have hW0 : s.WarmedH s'.vm := by rw [hvm]; exact State.WarmedH.refl s
  have hat' : ∀ w ∈ vx_atS own ic cls names, w.before args s' = true := fun w hw => vx_ot_at hW0 hvm.symm (hgood w (List.mem_cons_of_mem _ (List.mem_cons_of_mem _ hw))) (hat w hw)
  have hk' : (Cond.classLink own ik cls).before args s' = true := vx_ot_at hW0 hvm.symm (hgood _ List.mem_cons_self) hk
  have hini' : (Cond.initialized cls).before args s' = true := vx_ot_at hW0 hvm.symm (hgood _ (List.mem_cons_of_mem _ List.mem_cons_self)) hini
  have hU' : vx_Zq Bundle.tN "UNASSIGNED_STACK" Bundle.steD A s' s'.heap := by rw [hhp]; exact vx_Zq.moved hW0.alike (hU.kept hS.2.1)
  have hN' : vx_Zq Bundle.tN "SUPPRESSED_SENTINEL" Bundle.listD A s' s'.heap := by rw [hhp]; exact vx_Zq.moved hW0.alike (hN.kept hS.2.1)
  have h : ∀ w ∈ Bundle.ownAtoms own ic cls names, w.before args s' = true := vx_own hat' (vx_isRefq hU'.1) (vx_isRefq hN'.1) hU'.2.word hN'.2.word
  have hown' : s'.vm.findClass own = some m.cls := by rw [hvm]; exact hown
  have hins : (Cond.instantiable cls 6).before args s' = true := h _ (by simp [Bundle.ownAtoms])
  obtain ⟨vm₁, cX, kX, hfX, hkX, -, -, X₁, st1⟩ := Y.newCold hexec (own := own) (C := cls) (index := ik) (n := 6) hown' hk' hins hini'
    (g := F0 m pc ls rest) rfl (by rw [hb]; exact d0) (Nat.le_refl _) (Nat.le_refl _)
  generalize hT1 : (T.setVm vm₁).pushCell { cls := cX, slots := kX.instanceTypes.map defaultValue, vm := .none } = T1 at X₁ st1
  have hcat : (Value.ref T.heap.size).category = 1 := rfl
  have hcellA : T1.heap[T.heap.size]? = some (freshCell cX kX) := by rw [← hT1]; exact State.heap_pushCell_size _ _
  have d3' : decode c.code (pc + 3) = .ok (.dup, 1) := by rw [hb]; exact d3
  have d4' : decode c.code (pc + 4) = .ok (.ldc is, 2) := by rw [hb]; exact d4
  have hstr' : vk_R own is text sa s' := vk_R.warm hW0 hstr
  obtain ⟨U, hsteps, hrun, hend, hW, hsame, ce, hce, hO⟩ := X₁.ctorThrowS hexec htr (own := own) (cls := cls) (names := names) (ic := ic) hown' hcls hnames h (fun x hx => nomatch hx) hfX hkX hcellA (by rw [hhp, hT]; exact Nat.le_refl _) (msg := .ref sa) rfl
    (g := { method := m, pc := pc + 6, locals := ls, stack := .ref sa :: .ref T.heap.size :: .ref T.heap.size :: rest, locked := none }) rfl hsize rfl rfl (rest := rest) rfl
    (by rw [hb]; exact d6) (by rw [hb]; exact d9) hout hRframes (by simp only [List.map_cons, List.sum_cons, hcat]; omega) hlocks
  obtain ⟨f1, f2⟩ := vx_frame hsame
  rw [hhp] at f1 f2
  have hWs : s.WarmedH U.vm := State.WarmedH.trans hW0 hW
  have hcl : s.vm.findClass cls = some ce.cls := by
    have h9 := hO.cls
    rw [hvm] at h9
    exact h9
  have hall : s.sameButNew ({ U with vm := s.vm } : State) locs mc ms := by
    subst hA
    obtain ⟨e1, e2⟩ := hsame
    rw [State.setFrames_setFrames] at e1
    have h2 : (T.setVm s.vm).sameButNew ({ U with vm := s.vm } : State) [] (0 + 1) (0 + 6) := ⟨e1, e2⟩
    have h3 := X.same.trans h2
    rw [List.append_nil] at h3
    exact h3.mono hc hs
  refine ⟨U, ?_, .threw T.heap.size, hrun, hend, Or.inr ⟨T.heap.size, rfl, cls, ce, locs, hx U hWs.alike f1 (fun q hq => f2 q hq (fun z hz => nomatch hz)), hce, hO.vm, hcl, hWs, hall, hf⟩⟩
  refine st1 _ ?_
  show Steps p.tables e below (T1.setTop { method := m, pc := pc + 3, locals := ls, stack := .ref T.heap.size :: rest, locked := none }) _
  jvm_step X₁.here [X₁.here.top, hexec, d3', Value.category]
  exact X₁.ldcString hexec (own := own) (text := text) (index := is) (a := sa) hown' hstr'.1 hstr'.2
    (g := { method := m, pc := pc + 4, locals := ls, stack := .ref T.heap.size :: .ref T.heap.size :: rest, locked := none }) rfl d4' _ hsteps
/-- 'throw new E("text")', the text by a wide index -/
theorem vx_throwSW {cc : ByteArray} {pc : Nat} (hexec : p.tables.exec = Jvm.exec) (hb : c.code = cc) (hl : l.stackTraces = false) {own cls text : String} {names : List String} {ik is ic mc ms sa : Nat} {A : Nat → Prop}
    (hown : s.vm.findClass own = some m.cls) (hcls : Bundle.fit cls = true) (hnames : ∀ n ∈ names, Bundle.fit n = true)
    (hk : (Cond.classLink own ik cls).before args s = true) (hini : (Cond.initialized cls).before args s = true) (hstr : vk_R own is text sa s) (hat : ∀ w ∈ vx_atS own ic cls names, w.before args s = true)
    (hgood : ∀ w ∈ Cond.classLink own ik cls :: Cond.initialized cls :: vx_atS own ic cls names, vx_ot w = true)
    (hU : vx_Zq Bundle.tN "UNASSIGNED_STACK" Bundle.steD A s s.heap) (hN : vx_Zq Bundle.tN "SUPPRESSED_SENTINEL" Bundle.listD A s s.heap) (hS : va_S A s.heap H locs) (hsize : ls.size = c.maxLocals)
    (d0 : decode cc pc = .ok (.new ik, 3)) (d3 : decode cc (pc + 3) = .ok (.dup, 1)) (d4 : decode cc (pc + 4) = .ok (.ldc_w is, 3)) (d7 : decode cc (pc + 7) = .ok (.invokespecial ic, 3)) (d10 : decode cc (pc + 10) = .ok (.athrow, 1))
    (hout : ∀ x ∈ c.exceptionTable.toList, covers x (pc + 10) = false)
    (hRframes : names.length + 3 < R.frames) (hRlocals : (rest.map fun v => v.category).sum + (13 * (names.length + 1) + 43) ≤ R.locals) (hRcells : cells + 1 ≤ R.cells) (hRslots : slots + 6 ≤ R.slots) (hlocks : meth.locks = false)
    (hx : ∀ t : State, s.vm.Alike t.vm → H.size ≤ t.heap.size → (∀ q : Nat, q < H.size → t.heap[q]? = H[q]?) → XC cls s t)
    (hf : ∀ z ∈ locs, free z.base) (hc : cells + 1 ≤ mc) (hs : slots + 6 ≤ ms) :
    W p l e R s m args below meth c H locs cells slots (vx_MQ below Qc XC args s mc ms free) (F0 m pc ls rest) := by
  intro T hT X
  have htr : e.platform.stackTraces = false := (show e.platform.stackTraces = l.stackTraces by rw [X.admits.platform]).trans hl
  have Y := vx_rebase X (R' := { frames := R.frames, locals := R.locals, cells := 1, slots := 6 }) (Nat.le_refl _) (Nat.le_refl _) hRcells hRslots
  obtain ⟨s', hA⟩ : ∃ z, z = (T.setVm s.vm).setFrames (.invoking m args :: below) := ⟨_, rfl⟩
  rw [← hA] at Y
  have hvm : s'.vm = s.vm := by rw [hA]; rfl
  have hhp : s'.heap = H := by rw [hA]; exact hT
  have hW0 : s.WarmedH s'.vm := by rw [hvm]; exact State.WarmedH.refl s
  have hat' : ∀ w ∈ vx_atS own ic cls names, w.before args s' = true := fun w hw => vx_ot_at hW0 hvm.symm (hgood w (List.mem_cons_of_mem _ (List.mem_cons_of_mem _ hw))) (hat w hw)
  have hk' : (Cond.classLink own ik cls).before args s' = true := vx_ot_at hW0 hvm.symm (hgood _ List.mem_cons_self) hk
  have hini' : (Cond.initialized cls).before args s' = true := vx_ot_at hW0 hvm.symm (hgood _ (List.mem_cons_of_mem _ List.mem_cons_self)) hini
  have hU' : vx_Zq Bundle.tN "UNASSIGNED_STACK" Bundle.steD A s' s'.heap := by rw [hhp]; exact vx_Zq.moved hW0.alike (hU.kept hS.2.1)
  have hN' : vx_Zq Bundle.tN "SUPPRESSED_SENTINEL" Bundle.listD A s' s'.heap := by rw [hhp]; exact vx_Zq.moved hW0.alike (hN.kept hS.2.1)
  have h : ∀ w ∈ Bundle.ownAtoms own ic cls names, w.before args s' = true := vx_own hat' (vx_isRefq hU'.1) (vx_isRefq hN'.1) hU'.2.word hN'.2.word
  have hown' : s'.vm.findClass own = some m.cls := by rw [hvm]; exact hown
  have hins : (Cond.instantiable cls 6).before args s' = true := h _ (by simp [Bundle.ownAtoms])
  obtain ⟨vm₁, cX, kX, hfX, hkX, -, -, X₁, st1⟩ := Y.newCold hexec (own := own) (C := cls) (index := ik) (n := 6) hown' hk' hins hini'
    (g := F0 m pc ls rest) rfl (by rw [hb]; exact d0) (Nat.le_refl _) (Nat.le_refl _)
  generalize hT1 : (T.setVm vm₁).pushCell { cls := cX, slots := kX.instanceTypes.map defaultValue, vm := .none } = T1 at X₁ st1
  have hcat : (Value.ref T.heap.size).category = 1 := rfl
  have hcellA : T1.heap[T.heap.size]? = some (freshCell cX kX) := by rw [← hT1]; exact State.heap_pushCell_size _ _
  have d3' : decode c.code (pc + 3) = .ok (.dup, 1) := by rw [hb]; exact d3
  have d4' : decode c.code (pc + 4) = .ok (.ldc_w is, 3) := by rw [hb]; exact d4
  have hstr' : vk_R own is text sa s' := vk_R.warm hW0 hstr
  obtain ⟨U, hsteps, hrun, hend, hW, hsame, ce, hce, hO⟩ := X₁.ctorThrowS hexec htr (own := own) (cls := cls) (names := names) (ic := ic) hown' hcls hnames h (fun x hx => nomatch hx) hfX hkX hcellA (by rw [hhp, hT]; exact Nat.le_refl _) (msg := .ref sa) rfl
    (g := { method := m, pc := pc + 7, locals := ls, stack := .ref sa :: .ref T.heap.size :: .ref T.heap.size :: rest, locked := none }) rfl hsize rfl rfl (rest := rest) rfl
    (by rw [hb]; exact d7) (by rw [hb]; exact d10) hout hRframes (by simp only [List.map_cons, List.sum_cons, hcat]; omega) hlocks
  obtain ⟨f1, f2⟩ := vx_frame hsame
  rw [hhp] at f1 f2
  have hWs : s.WarmedH U.vm := State.WarmedH.trans hW0 hW
  have hcl : s.vm.findClass cls = some ce.cls := by
    have h9 := hO.cls
    rw [hvm] at h9
    exact h9
  have hall : s.sameButNew ({ U with vm := s.vm } : State) locs mc ms := by
    subst hA
    obtain ⟨e1, e2⟩ := hsame
    rw [State.setFrames_setFrames] at e1
    have h2 : (T.setVm s.vm).sameButNew ({ U with vm := s.vm } : State) [] (0 + 1) (0 + 6) := ⟨e1, e2⟩
    have h3 := X.same.trans h2
    rw [List.append_nil] at h3
    exact h3.mono hc hs
  refine ⟨U, ?_, .threw T.heap.size, hrun, hend, Or.inr ⟨T.heap.size, rfl, cls, ce, locs, hx U hWs.alike f1 (fun q hq => f2 q hq (fun z hz => nomatch hz)), hce, hO.vm, hcl, hWs, hall, hf⟩⟩
  refine st1 _ ?_
  show Steps p.tables e below (T1.setTop { method := m, pc := pc + 3, locals := ls, stack := .ref T.heap.size :: rest, locked := none }) _
  jvm_step X₁.here [X₁.here.top, hexec, d3', Value.category]
  exact X₁.ldcStringW hexec (own := own) (text := text) (index := is) (a := sa) hown' hstr'.1 hstr'.2
    (g := { method := m, pc := pc + 4, locals := ls, stack := .ref T.heap.size :: .ref T.heap.size :: rest, locked := none }) rfl d4' _ hsteps
end Ends
section Bodies
variable {l : Launch}
theorem vx_ofW {y : MethodName} {ws ws' : List Cond} {rm : Room} {Pc : Array Value → State → Prop} {Qc : Array Value → State → Outcome → State → Prop} {XC : String → State → State → Prop} {mc ms : Nat} {free : Addr → Prop} {cc : ByteArray} {maxL : Nat} {ret : Option FieldType}
    (hy : plainName y.cls = true) (hw : ws = Cond.code y cc maxL ret :: ws')
    (body : ∀ p e s m args below meth c s₁, BodyLoose p l y (headSpec ws rm) cc maxL ret e s m args below meth c s₁ → c.maxLocals = maxL → (∀ x ∈ c.exceptionTable.toList, False) → Pc args s →
      W p l e (headSpec ws rm).room s m args below meth c s.heap [] 0 0 (vx_MQ below Qc XC args s mc ms free) (entryFrame m args maxL)) : vx_Met l y ws rm Pc Qc XC mc ms free := by
  refine MetFree.of_bodyS (code := cc) (maxLocals := maxL) (ret := ret) hy ?_ ?_
  · intro args s m h hn
    obtain ⟨meth, c, h1, h2, h3, h4, h5, h6, -, -⟩ := Cond.code_spec hn (atoms_spec (ws := ws) h _ (by rw [hw]; exact List.mem_cons_self))
    exact ⟨meth, c, h1, h2, h3, h4, h5, h6⟩
  · intro p e s m args below meth c s₁ B hml hP _
    have hh0 : s₁.heap = s.heap := by rw [B.state]; rfl
    have ht : ∀ x ∈ c.exceptionTable.toList, False := by
      obtain ⟨meth9, c9, h1, h2, -, -, -, -, h7, -⟩ := Cond.code_spec B.named (atoms_spec (ws := ws) B.pre _ (by rw [hw]; exact List.mem_cons_self))
      cases Option.some.inj (h1.symm.trans B.method)
      cases Option.some.inj (h2.symm.trans (Stand.of_body B).code)
      intro x hx
      rw [Array.isEmpty_iff.mp h7] at hx
      cases hx
    obtain ⟨t, a1, o, b1, b2, b3⟩ := body p e s m args below meth c s₁ B hml ht hP s₁ hh0 (Stand.of_body B)
    exact ⟨t, o, a1, b1, b2, b3⟩
/-- the table of a body with handlers -/
theorem vx_table {p : Program} {x y : MethodName} {S : Spec} {cc bytes : ByteArray} {maxL maxL' : Nat} {ret ret' : Option FieldType} {e : Env} {s s₁ : State} {m : MethodId} {args : Array Value} {below : List Frame} {meth : Method} {c : Code} {hh : List (Nat × Nat × Nat × Nat)}
    (B : BodyLoose p l y S cc maxL ret e s m args below meth c s₁) (h : (Cond.codeWith y bytes maxL' ret' hh).before args s = true) : c.exceptionTable.toList = tableOf hh := by
  obtain ⟨m9, meth9, c9, hn9, h1, h2, -, -, h6, -⟩ := Cond.codeWith_spec h
  cases Option.some.inj (hn9.symm.trans B.named)
  cases Option.some.inj (h1.symm.trans B.method)
  cases Option.some.inj (h2.symm.trans (Stand.of_body B).code)
  rw [← h6, table_eq]
end Bodies
end VXA
/-! ===== END ===== -/
/-! ===== BEGIN a static call of a method with an exception table ===== -/
section VXS
variable {p : Program} {l : Launch} {e : Env} {R : Room} {s : State} {m : MethodId} {args : Array Value} {below : List Frame} {meth : Method} {c : Code} {T : State} {H : Heap} {locs : List Loc} {cells slots : Nat}
abbrev vx_CSW (R : Room) (s : State) (args : Array Value) (own : String) (index : Nat) (y : MethodName) (bytes : ByteArray) (maxL : Nat) (ret : Option FieldType) (hh : List (Nat × Nat × Nat × Nat)) (ws : List Cond) (rm : Room) (mc ms n : Nat) : Prop :=
  (rm.cells = mc ∧ rm.slots = ms ∧ rm.frames + 1 ≤ R.frames ∧ 8 + (maxL + 11) + rm.locals ≤ R.locals ∧ (∀ w ∈ ws, ∀ (a' : Array Value) (U : State), s.WarmedH U.vm → w.before a' U = true) ∧ Cond.codeWith y bytes maxL ret hh ∈ ws) ∧
  (Cond.codeWith y bytes maxL ret hh).before args s = true ∧ (Cond.initialized y.cls).before args s = true ∧ (y.cls ≠ "java/lang/invoke/MethodHandle" ∧ y.cls ≠ "java/lang/invoke/VarHandle") ∧
  (∀ sig, parseMethodDescriptor y.desc = some sig → n = sig.parameters.length) ∧ (Cond.methodLink own index y).before args s = true ∧ (Cond.static y).before args s = true
theorem vx_cwSW {own : String} {index maxL mc ms : Nat} {y : MethodName} {bytes : ByteArray} {ret : Option FieldType} {hh : List (Nat × Nat × Nat × Nat)} {Ts ws ws' : List Cond} {rm : Room} (n : Nat) (ht : ∀ w ∈ Ts, w.before args s = true) (hT : GoodIn Ts (va_wsS own index y ws)) (hw : ws = Cond.codeWith y bytes maxL ret hh :: ws') (hrc : rm.cells = mc) (hrs : rm.slots = ms)
    (hd : y.cls ≠ "java/lang/invoke/MethodHandle" ∧ y.cls ≠ "java/lang/invoke/VarHandle" ∧ (parseMethodDescriptor y.desc).map (fun d => d.parameters.length) = some n) (hR : rm.frames + 1 ≤ R.frames ∧ 8 + (maxL + 11) + rm.locals ≤ R.locals) :
    vx_CSW R s args own index y bytes maxL ret hh ws rm mc ms n := by
  have ok : ∀ w ∈ va_wsS own index y ws, w.before args s = true := fun w h => ht w (hT w h).1
  have hG : GoodIn Ts ws := fun w h => hT w (by unfold va_wsS; exact List.mem_append_right _ h)
  have hc : Cond.codeWith y bytes maxL ret hh ∈ ws := by rw [hw]; exact List.mem_cons_self
  refine ⟨⟨hrc, hrs, hR.1, hR.2, pay_in ht hG, hc⟩, ht _ (hG _ hc).1, ok _ (by simp [va_wsS]), ⟨hd.1, hd.2.1⟩, fun sig h => ?_, ok _ (by simp [va_wsS]), ok _ (by simp [va_wsS])⟩
  have h2 := hd.2.2
  rw [h] at h2
  exact (Option.some.inj h2).symm
theorem vx_callSW (X : Stand p l e R s m args below meth c T locs cells slots) (hexec : p.tables.exec = Jvm.exec) {own : String} {index : Nat} {y : MethodName} {bytes : ByteArray} {maxL : Nat} {ret : Option FieldType} {hh : List (Nat × Nat × Nat × Nat)}
    (hown : s.vm.findClass own = some m.cls) (hlink : (Cond.methodLink own index y).before args s = true) (hstat : (Cond.static y).before args s = true) (hinit : (Cond.initialized y.cls).before args s = true)
    (hcode : (Cond.codeWith y bytes maxL ret hh).before args s = true) (hy : y.cls ≠ "java/lang/invoke/MethodHandle" ∧ y.cls ≠ "java/lang/invoke/VarHandle")
    {W9 : Nat} {Pre : Pt → Array Value → Prop} {Post : Pt → Array Value → Option Value → Pt → Prop} (hK : Back l R p e below s args y 3 W9 Pre Post)
    {g : JFrame} (hg : g.method = m) (hsize : g.locals.size = c.maxLocals) {argsL rest : List Value} (hlen : ∀ sig, parseMethodDescriptor y.desc = some sig → argsL.length = sig.parameters.length)
    (hstack : g.stack = argsL.reverse ++ rest) (hW : 2 * g.monitorRoom + (rest.map fun v => v.category).sum ≤ W9) (hdg : decode c.code g.pc = .ok (.invokestatic index, 3))
    (hpre : ∀ vm₁, s.WarmedH vm₁ → Pre ⟨T.setVm vm₁, locs, cells, slots⟩ argsL.toArray) :
    ∃ (v : Option Value) (vm₁ : Vm) (B : Pt), s.WarmedH vm₁ ∧ Stand p l e R s m args below meth c B.U B.locs B.cells B.slots ∧ Post ⟨T.setVm vm₁, locs, cells, slots⟩ argsL.toArray v B ∧
      ∀ target, Steps p.tables e below (B.U.setTop { g with pc := g.pc + 3, stack := v.toList ++ rest }) target → Steps p.tables e below (T.setTop g) target := by
  obtain ⟨mk, methM, cM, hnamed, hmethM, -, -, -, -, -, -, hsigM⟩ := Cond.codeWith_spec hcode
  have hstatic : methM.isStatic = true := Cond.static_spec hnamed hmethM hstat
  obtain ⟨kP, hkP, -⟩ := className_of_methodNamed hnamed
  have hinitP : kP.init = .initialized := Cond.initialized_spec (findClass_of_methodNamed hnamed) hkP hinit
  obtain ⟨vm₁, X₁, hstep₁⟩ := X.invokestatic hexec hown hlink hnamed hmethM hstatic hkP hinitP hy (g := g) hg (argsL := argsL) (rest := rest) (hlen _ hsigM) hstack hdg
  obtain ⟨v, B, X', hpost, hsteps⟩ := hK m meth c ⟨T.setVm vm₁, locs, cells, slots⟩ { g with stack := rest } (.invokestatic index) mk argsL.toArray X₁ hg hsize hdg hW (X₁.named hnamed) (hpre vm₁ X₁.warmed)
  exact ⟨v, vm₁, B, X₁.warmed, X', hpost, fun target h => hstep₁ _ fun acts => by rw [doInvoke_state]; exact hsteps.trans h⟩
theorem vx_runSW {y : MethodName} {bytes cc : ByteArray} {maxL nL mc ms n index : Nat} {ret : Option FieldType} {hh : List (Nat × Nat × Nat × Nat)} {ws : List Cond} {rm : Room} {Pc : Array Value → State → Prop} {Qc : Array Value → State → Outcome → State → Prop} {free : Addr → Prop} {Ts : List Cond} {own : String} {As rest : List Value} {g : JFrame}
    (S : CallFix p m c cc nL s args Ts own) (hM : Met l y ws rm Pc Qc mc ms free) (cw : vx_CSW R s args own index y bytes maxL ret hh ws rm mc ms n) (hp : PreS s H Pc As)
    (hg : g.method = m) (hn : As.length = n) (hsize : g.locals.size = nL) (hstack : g.stack = As.reverse ++ rest) (hW : 2 * g.monitorRoom + (rest.map fun v => v.category).sum ≤ 8) (hdg : decode cc g.pc = .ok (.invokestatic index, 3)) (hf : cells + mc ≤ R.cells ∧ slots + ms ≤ R.slots) :
    va_Run p l e R s m args below meth c H locs cells slots mc ms g rest (Qc As.toArray) (free) := by
  obtain ⟨⟨hrc, hrs, hfr, hlo, hws, hcw⟩, hcode, hini, hy, hlen, hl, hstt⟩ := cw
  have hK : Back l R p e below s args y 3 8 (PreOf R mc ms Pc) (PostOf Qc mc ms free) := va_backW (hh := hh) (bytes := bytes) (maxL := maxL) (ret := ret) hM hp.1 hrc hrs hfr hlo hws hcw (fun a' U hW => word_at hW (Or.inl (by first | rfl | simp [Cond.onTables, Cond.keeps, Cond.steady])) hini)
  obtain ⟨hx, hb, hml, ho, -⟩ := S
  intro T hT X
  obtain ⟨v, vm₁, ⟨U', l2, c2, s2⟩, hW₁, X', ⟨g', mk, t, L, e1, e2, hq, h1, hL, h2, h3⟩, st⟩ := vx_callSW X hx (hh := hh) (bytes := bytes) (maxL := maxL) (ret := ret) ho hl hstt hini hcode hy hK hg (hsize.trans hml.symm) (argsL := As) (rest := rest) (fun sig h => hn.trans (hlen sig h)) hstack hW (by rw [hb]; exact hdg)
    (fun vm₁ hW₁ => ⟨hf.1, hf.2, hp.2 (T.setVm vm₁) hT hW₁⟩)
  dsimp only [Pt.U, Pt.locs, Pt.cells, Pt.slots] at X' e1 e2 h1 h2 h3 st
  subst h1; subst h2; subst h3
  exact ⟨v, (T.setVm vm₁).calling g' mk As.toArray, t, U', L, hT, X', hL, e1, e2, hq, st⟩
/-- not caught here, past rows that name other classes: it goes on to the caller -/
theorem vx_outP {p : Program} {l : Launch} {e : Env} {R : Room} {s : State} {m : MethodId} {args : Array Value} {below : List Frame} {meth : Method} {c : Code} {H : Heap} {locs : List Loc} {cells slots : Nat} {free : Addr → Prop} {ls : Array Slot} {rest : List Value} {Qc : Array Value → State → Outcome → State → Prop} {XC : String → State → State → Prop}
    {pc : Nat} {own E : String} {ce : Cell} {q : Addr} {mc ms : Nat} (hown : s.vm.findClass own = some m.cls) (hlocks : meth.locks = false)
    (hpass : ∀ z ∈ c.exceptionTable.toList, covers z pc = false ∨ (z.catchType ≠ 0 ∧ ∃ nm : String, (Cond.classLink own z.catchType nm).before args s = true ∧ va_Nc E nm s)) (hcell : H[q]? = some ce) (hv : ce.vm = .none) (hcl : s.vm.findClass E = some ce.cls)
    (hx : ∀ t : State, t.heap = H → s.vm.Alike t.vm → XC E s t) (hf : ∀ z ∈ locs, free z.base) (hc : cells ≤ mc) (hs : slots ≤ ms) :
    vx_W p l e R s m args below meth c H locs cells slots (vx_MQ below Qc XC args s mc ms free) (F0 m pc ls rest) q := by
  intro T hT X
  have hpl : e.platform.magicAccessors = ({} : Platform).magicAccessors := by rw [X.admits.platform]
  obtain ⟨vm', hW', X', st⟩ := X.outThrough hlocks q (g := F0 m pc ls rest) rfl rfl rfl (cell := ce) (by rw [hT]; exact hcell) (by rw [hv]; rfl)
    (by obtain ⟨k9, h9, -⟩ := Vm.findClass_spec hcl; exact ⟨k9, h9⟩) (fun z hz => by
      rcases hpass z hz with h | ⟨hz0, nm, hl1, hn1⟩
      · exact Or.inl h
      · obtain ⟨c6, hc6, hcl6⟩ := Cond.classLink_spec hown hl1 e.platform hpl
        obtain ⟨a8, b8, h1, h2, h3⟩ := hn1
        cases Option.some.inj (h1.symm.trans hcl)
        cases Option.some.inj (h2.symm.trans hc6)
        exact Or.inr ⟨hz0, _, hcl6, h3⟩)
  obtain ⟨g₀, hfr⟩ := X'.frames_eq
  have hcell9 : ((T.setVm vm').setFrames (.throwing q :: below)).heap[q]? = some ce := by
    show T.heap[q]? = some ce
    rw [hT]; exact hcell
  have hend : Ended ((T.setVm vm').setFrames (.throwing q :: below)) below (.threw q) := State.frames_setFrames _ (State.cur_lt_of_frames hfr)
  refine ⟨(T.setVm vm').setFrames (.throwing q :: below), ?_, .threw q, X'.here.running, hend, Or.inr ⟨q, rfl, E, ce, locs, hx _ hT (X'.ends _).1.alike, hcell9, hv, hcl, (X'.ends _).1, (X'.ends _).2.mono hc hs, hf⟩⟩
  rw [X.pushThrowing_eq]
  exact st
/-- a thing of a world lies in the heap -/
theorem vx_lt {D : va_G} {cl : List vw_C} {ws : va_W} {H1 : Heap} (h : va_P D cl ws H1) {k : Nat} {q : Nat × va_E} (hk : ws[k]? = some q) : q.1 < H1.size := (h k q hk).lt
end VXS
/-! ===== END ===== -/
/-! ===== BEGIN methods with a table of their own: called by a name, returning or throwing ===== -/
section VXH
/-! vx_backW, vx_callVX, vx_callSX, vx_callVW, vx_runVW, vx_runVX, vx_runSX, vx_ofWH follow the same proofs as their sisters above (Free/Laws.lean, Shelf42/LK1.lean); vx_outP calls Shelf42/NT130.lean (outThrough). -/
section
variable {l : Launch} {R : Room} {p : Program} {e : Env} {below : List Frame} {s : State} {sargs : Array Value} {y : MethodName} {len W9 : Nat}
theorem vx_backW {ws : List Cond} {rm : Room} {Pc : Array Value → State → Prop} {Qc : Array Value → State → Outcome → State → Prop} {XC : String → State → State → Prop} {mc ms : Nat} {free : Addr → Prop} {bytes : ByteArray} {maxL : Nat} {ret : Option FieldType} {hh : List (Nat × Nat × Nat × Nat)}
    (hM : vx_Met l y ws rm Pc Qc XC mc ms free) (hblind : FrameBlind Pc) (hrc : rm.cells = mc) (hrs : rm.slots = ms)
    (hframes : rm.frames + 1 ≤ R.frames) (hlocals : W9 + (maxL + 11) + rm.locals ≤ R.locals)
    (hws : ∀ w ∈ ws, ∀ a' U, s.WarmedH U.vm → w.before a' U = true) (hcode : Cond.codeWith y bytes maxL ret hh ∈ ws) (hinit : ∀ a' U, s.WarmedH U.vm → (Cond.initialized y.cls).before a' U = true) :
    vx_Back l R p e below s sargs y len W9 (PreOf R mc ms Pc) (PostOf Qc mc ms free) (vx_Post XC mc ms free) := by
  intro m meth c A g ig mk a X hg hsize hdg hW hn hp
  have h1 : (headSpec ws rm).pre.before a A.U = true := atoms_intro fun w hw => hws w hw _ _ X.warmed
  have h2 : (Cond.codeWith y bytes maxL ret hh).before a A.U = true := hws _ hcode _ _ X.warmed
  have h3 : (Cond.initialized y.cls).before a A.U = true := hinit _ _ X.warmed
  have h4 : A.cells + (headSpec ws rm).room.cells ≤ R.cells := by rw [show (headSpec ws rm).room.cells = mc from hrc]; exact hp.1
  have h5 : A.slots + (headSpec ws rm).room.slots ≤ R.slots := by rw [show (headSpec ws rm).room.slots = ms from hrs]; exact hp.2.1
  have hPc : Pc a (A.U.calling g mk a) := hblind _ _ _ _ hp.2.2
  obtain ⟨U, Ls, c0, s0⟩ := A
  dsimp only [Pt.U, Pt.locs, Pt.cells, Pt.slots] at h1 h2 h3 h4 h5 X hn hPc ⊢
  obtain ⟨m9, methY, cY, hn9, hmY, hcY, -, hlY, -⟩ := Cond.codeWith_spec h2
  cases Option.some.inj (hn9.symm.trans hn)
  obtain ⟨kY, hkY, -⟩ := className_of_methodNamed hn
  have hinitY : kY.init = .initialized := Cond.initialized_spec (findClass_of_methodNamed hn) hkY h3
  have h : At U g.method c below := by rw [hg]; exact X.here
  have hlocals9 : W9 + (maxL + 11) + (headSpec ws rm).room.locals ≤ R.locals := hlocals
  have happ : (headSpec ws rm).appliesLoose y e.platform (U.calling g mk a) = true :=
    Spec.appliesLoose_calling (g := g) h hdg hn hkY hinitY
      (X.room_calling (g := g) (R' := (headSpec ws rm).room) hsize hmY hcY hframes (by rw [hlY]; omega) h4 h5) h1
  obtain ⟨mid, hmid⟩ := h.above
  have hfr : (U.setTop g).frames = (.java g :: mid) ++ below := by rw [State.frames_setTop' g h.top, hmid]; rfl
  obtain ⟨o, s₂, hsteps, -, hend, hq⟩ := Steps.callFree hM p X.admits X.cas X.clock (acts := []) hfr happ hPc trivial
  have hq' : vx_Q Qc XC mc ms free a (U.calling g mk a) o s₂ := hq
  rw [State.frames_setTop' g h.top] at hend
  obtain ⟨g₀, hg0⟩ := Option.isSome_iff_exists.mp h.top
  obtain ⟨r, hr⟩ := State.topJava?_eq_some.mp hg0
  have hr' : (({ U with heap := s₂.heap, slotsUsed := s₂.slotsUsed } : State).setVm s₂.vm).frames = .java g₀ :: r := hr
  rcases hq' with ⟨hqc, L, hfe, hL⟩ | ⟨q, rfl, E, ce, L, hx, hce, hcv, hcl, hW₂, hsm, hL⟩
  · obtain ⟨⟨v, rfl⟩, hW₂, e2, q2, q3, q4, q5, q6⟩ := id hfe
    have e3 : s₂ = ({ (U.calling g mk a).setFrames s₂.frames with heap := s₂.heap, slotsUsed := s₂.slotsUsed } : State).setVm s₂.vm := by
      have : s₂ = ({ s₂ with vm := (U.calling g mk a).vm } : State).setVm s₂.vm := rfl
      rw [e2] at this
      exact this
    obtain ⟨c₂, i₂, len₂, hc₂, hd₂, hf₂⟩ := hend
    have hW' : U.WarmedH s₂.vm := hW₂
    have hcc : c₂ = c := by
      have h1 : s₂.code? g.method = U.code? g.method := by
        rw [State.code?_eq, State.code?_eq, hW'.alike.method?]
      exact Option.some.inj (hc₂.symm.trans (h1.trans h.code))
    subst hcc
    have hlen : len₂ = len := by rw [hdg] at hd₂; cases hd₂; rfl
    subst hlen
    have hs₂ : s₂ = (({ U with heap := s₂.heap, slotsUsed := s₂.slotsUsed } : State).setVm s₂.vm).setTop { g with pc := g.pc + len₂, stack := v.toList ++ g.stack } := by
      refine e3.trans ?_
      rw [hf₂, State.calling_eq h.top, State.setFrames_setFrames, State.setTop_of_frames _ hr', hr]
      rfl
    have hsame : U.sameButNew ({ U with heap := s₂.heap, slotsUsed := s₂.slotsUsed } : State) L mc ms := by
      refine ⟨?_, q2, q3, q4, q5, q6⟩
      obtain ⟨t, ht, -⟩ := State.frames_cons hr
      show ({ U with heap := s₂.heap, slotsUsed := s₂.slotsUsed } : State) = { U.setFrames U.frames with heap := s₂.heap, slotsUsed := s₂.slotsUsed }
      rw [State.setFrames_self ht]
    subst hg
    refine Or.inl ⟨v, ⟨(({ U with heap := s₂.heap, slotsUsed := s₂.slotsUsed } : State).setVm s₂.vm), Ls ++ L, c0 + mc, s0 + ms⟩,
      ⟨X.admits, X.cas, X.clock, X.frames, X.room, X.hears, X.method, X.code, (X.here.setHeapUsed s₂.heap s₂.slotsUsed).setVm hW'.alike, X.tail, State.WarmedH.trans X.warmed hW', X.limits, X.bytes, X.same.trans (hsame.setVm s.vm)⟩,
      ⟨g, mk, s₂, L, rfl, rfl, hqc, rfl, hL, rfl, rfl⟩, ?_⟩
    show Steps p.tables e below _ ((({ U with heap := s₂.heap, slotsUsed := s₂.slotsUsed } : State).setVm s₂.vm).setTop { g with pc := g.pc + len₂, stack := v.toList ++ g.stack })
    rw [← hs₂]
    exact hsteps
  · obtain ⟨e2, q2, q3, q4, q5, q6⟩ := id hsm
    have e3 : s₂ = ({ (U.calling g mk a).setFrames s₂.frames with heap := s₂.heap, slotsUsed := s₂.slotsUsed } : State).setVm s₂.vm := by
      have : s₂ = ({ s₂ with vm := (U.calling g mk a).vm } : State).setVm s₂.vm := rfl
      rw [e2] at this
      exact this
    have hf₂ : s₂.frames = .throwing q :: .java g :: U.frames.tail := hend
    have hW' : U.WarmedH s₂.vm := hW₂
    have hs₂ : s₂ = ((({ U with heap := s₂.heap, slotsUsed := s₂.slotsUsed } : State).setVm s₂.vm).setTop g).pushFrame (.throwing q) := by
      refine e3.trans ?_
      rw [hf₂, State.calling_eq h.top, State.setFrames_setFrames, State.pushFrame, State.frames_setTop _ hr', State.setTop_of_frames _ hr', State.setFrames_setFrames, hr]
      rfl
    have hsame : U.sameButNew ({ U with heap := s₂.heap, slotsUsed := s₂.slotsUsed } : State) L mc ms := by
      refine ⟨?_, q2, q3, q4, q5, q6⟩
      obtain ⟨t, ht, -⟩ := State.frames_cons hr
      show ({ U with heap := s₂.heap, slotsUsed := s₂.slotsUsed } : State) = { U.setFrames U.frames with heap := s₂.heap, slotsUsed := s₂.slotsUsed }
      rw [State.setFrames_self ht]
    subst hg
    refine Or.inr ⟨q, ⟨(({ U with heap := s₂.heap, slotsUsed := s₂.slotsUsed } : State).setVm s₂.vm), Ls ++ L, c0 + mc, s0 + ms⟩,
      ⟨X.admits, X.cas, X.clock, X.frames, X.room, X.hears, X.method, X.code, (X.here.setHeapUsed s₂.heap s₂.slotsUsed).setVm hW'.alike, X.tail, State.WarmedH.trans X.warmed hW', X.limits, X.bytes, X.same.trans (hsame.setVm s.vm)⟩,
      ⟨g, mk, s₂, L, E, ce, rfl, rfl, hx, hce, hcv, hcl, rfl, hL, rfl, rfl⟩, ?_⟩
    show Steps p.tables e below _ (((({ U with heap := s₂.heap, slotsUsed := s₂.slotsUsed } : State).setVm s₂.vm).setTop g).pushFrame (.throwing q))
    rw [← hs₂]
    exact hsteps
end
variable {p : Program} {l : Launch} {e : Env} {R : Room} {s : State} {m : MethodId} {args : Array Value} {below : List Frame} {meth : Method} {c : Code} {T : State} {H : Heap} {locs : List Loc} {cells slots : Nat}
theorem vx_callVX (X : Stand p l e R s m args below meth c T locs cells slots) (hexec : p.tables.exec = Jvm.exec) {own C : String} {index : Nat} {y : MethodName} {bytes : ByteArray} {maxL : Nat} {ret : Option FieldType} {hh : List (Nat × Nat × Nat × Nat)}
    (hown : s.vm.findClass own = some m.cls) (hlink : (Cond.methodLink own index y).before args s = true) (hinst : (Cond.instanceMethod y).before args s = true) (hsel : (Cond.selects C y y).before args s = true)
    (hcode : (Cond.codeWith y bytes maxL ret hh).before args s = true) (hy : y.cls ≠ "java/lang/invoke/MethodHandle" ∧ y.cls ≠ "java/lang/invoke/VarHandle")
    {W9 : Nat} {Pre : Pt → Array Value → Prop} {Post : Pt → Array Value → Option Value → Pt → Prop} {PostX : Pt → Array Value → Addr → Pt → Prop} (hK : vx_Back l R p e below s args y 3 W9 Pre Post PostX)
    {b : Addr} {cellB : Cell} (hcell : T.heap[b]? = some cellB) (hobj : cellB.vm.isStatics = false) (hcls : s.vm.findClass C = some cellB.cls)
    {g : JFrame} (hg : g.method = m) (hsize : g.locals.size = c.maxLocals) {argsL rest : List Value} (hlen : ∀ sig, parseMethodDescriptor y.desc = some sig → argsL.length = sig.parameters.length)
    (hstack : g.stack = argsL.reverse ++ .ref b :: rest) (hW : 2 * g.monitorRoom + (rest.map fun v => v.category).sum ≤ W9) (hdg : decode c.code g.pc = .ok (.invokevirtual index, 3))
    (hpre : ∀ vm₁, s.WarmedH vm₁ → Pre ⟨T.setVm vm₁, locs, cells, slots⟩ (Value.ref b :: argsL).toArray) :
    (∃ (v : Option Value) (vm₁ : Vm) (B : Pt), s.WarmedH vm₁ ∧ Stand p l e R s m args below meth c B.U B.locs B.cells B.slots ∧ Post ⟨T.setVm vm₁, locs, cells, slots⟩ (Value.ref b :: argsL).toArray v B ∧
      ∀ target, Steps p.tables e below (B.U.setTop { g with pc := g.pc + 3, stack := v.toList ++ rest }) target → Steps p.tables e below (T.setTop g) target) ∨
    (∃ (q : Addr) (vm₁ : Vm) (B : Pt), s.WarmedH vm₁ ∧ Stand p l e R s m args below meth c B.U B.locs B.cells B.slots ∧ PostX ⟨T.setVm vm₁, locs, cells, slots⟩ (Value.ref b :: argsL).toArray q B ∧
      Steps p.tables e below (T.setTop g) ((B.U.setTop { g with stack := rest }).pushFrame (.throwing q))) := by
  obtain ⟨mk, methM, hnamed, hmethM, hstM, habM⟩ := Cond.instanceMethod_spec hinst
  obtain ⟨m8, methM', cM, hn8, hmethM', -, -, -, -, -, -, hsigM⟩ := Cond.codeWith_spec hcode
  cases Option.some.inj (hn8.symm.trans hnamed)
  cases hmethM.symm.trans hmethM'
  obtain ⟨c2, r2, m2, q1, q2, q3, q4, kP, hkP, hkPi⟩ := Cond.selects_spec hsel
  cases hcls.symm.trans q1
  cases (State.methodFound?_of_named hnamed hy).symm.trans q2
  cases hnamed.symm.trans q3
  have hselP : selectMethod e.platform s.vm cellB.cls mk = .method mk := by rw [Launch.admits_selectMethod X.admits]; exact q4
  obtain ⟨vm₁, X₁, hstep₁⟩ := X.invokevirtual hexec hown hlink hnamed hmethM hstM hkP hkPi hy (a := b) (cell := cellB) hcell
    (fun z h => by rw [h] at hobj; cases hobj) hselP hmethM habM hkP hkPi (g := g) hg (argsL := argsL) (rest := rest) (hlen _ hsigM) hstack hdg
  rcases hK m meth c ⟨T.setVm vm₁, locs, cells, slots⟩ { g with stack := rest } (.invokevirtual index) mk (Value.ref b :: argsL).toArray X₁ hg hsize hdg hW (X₁.named hnamed) (hpre vm₁ X₁.warmed) with ⟨v, B, X', hpost, hsteps⟩ | ⟨q, B, X', hpost, hsteps⟩
  · exact Or.inl ⟨v, vm₁, B, X₁.warmed, X', hpost, fun target h => hstep₁ _ fun acts => by rw [doInvoke_state]; exact hsteps.trans h⟩
  · exact Or.inr ⟨q, vm₁, B, X₁.warmed, X', hpost, hstep₁ _ fun acts => by rw [doInvoke_state]; exact hsteps⟩
theorem vx_callSX (X : Stand p l e R s m args below meth c T locs cells slots) (hexec : p.tables.exec = Jvm.exec) {own : String} {index : Nat} {y : MethodName} {bytes : ByteArray} {maxL : Nat} {ret : Option FieldType} {hh : List (Nat × Nat × Nat × Nat)}
    (hown : s.vm.findClass own = some m.cls) (hlink : (Cond.methodLink own index y).before args s = true) (hstat : (Cond.static y).before args s = true) (hinit : (Cond.initialized y.cls).before args s = true)
    (hcode : (Cond.codeWith y bytes maxL ret hh).before args s = true) (hy : y.cls ≠ "java/lang/invoke/MethodHandle" ∧ y.cls ≠ "java/lang/invoke/VarHandle")
    {W9 : Nat} {Pre : Pt → Array Value → Prop} {Post : Pt → Array Value → Option Value → Pt → Prop} {PostX : Pt → Array Value → Addr → Pt → Prop} (hK : vx_Back l R p e below s args y 3 W9 Pre Post PostX)
    {g : JFrame} (hg : g.method = m) (hsize : g.locals.size = c.maxLocals) {argsL rest : List Value} (hlen : ∀ sig, parseMethodDescriptor y.desc = some sig → argsL.length = sig.parameters.length)
    (hstack : g.stack = argsL.reverse ++ rest) (hW : 2 * g.monitorRoom + (rest.map fun v => v.category).sum ≤ W9) (hdg : decode c.code g.pc = .ok (.invokestatic index, 3))
    (hpre : ∀ vm₁, s.WarmedH vm₁ → Pre ⟨T.setVm vm₁, locs, cells, slots⟩ argsL.toArray) :
    (∃ (v : Option Value) (vm₁ : Vm) (B : Pt), s.WarmedH vm₁ ∧ Stand p l e R s m args below meth c B.U B.locs B.cells B.slots ∧ Post ⟨T.setVm vm₁, locs, cells, slots⟩ argsL.toArray v B ∧
      ∀ target, Steps p.tables e below (B.U.setTop { g with pc := g.pc + 3, stack := v.toList ++ rest }) target → Steps p.tables e below (T.setTop g) target) ∨
    (∃ (q : Addr) (vm₁ : Vm) (B : Pt), s.WarmedH vm₁ ∧ Stand p l e R s m args below meth c B.U B.locs B.cells B.slots ∧ PostX ⟨T.setVm vm₁, locs, cells, slots⟩ argsL.toArray q B ∧
      Steps p.tables e below (T.setTop g) ((B.U.setTop { g with stack := rest }).pushFrame (.throwing q))) := by
  obtain ⟨mk, methM, cM, hnamed, hmethM, -, -, -, -, -, -, hsigM⟩ := Cond.codeWith_spec hcode
  have hstatic : methM.isStatic = true := Cond.static_spec hnamed hmethM hstat
  obtain ⟨kP, hkP, -⟩ := className_of_methodNamed hnamed
  have hinitP : kP.init = .initialized := Cond.initialized_spec (findClass_of_methodNamed hnamed) hkP hinit
  obtain ⟨vm₁, X₁, hstep₁⟩ := X.invokestatic hexec hown hlink hnamed hmethM hstatic hkP hinitP hy (g := g) hg (argsL := argsL) (rest := rest) (hlen _ hsigM) hstack hdg
  rcases hK m meth c ⟨T.setVm vm₁, locs, cells, slots⟩ { g with stack := rest } (.invokestatic index) mk argsL.toArray X₁ hg hsize hdg hW (X₁.named hnamed) (hpre vm₁ X₁.warmed) with ⟨v, B, X', hpost, hsteps⟩ | ⟨q, B, X', hpost, hsteps⟩
  · exact Or.inl ⟨v, vm₁, B, X₁.warmed, X', hpost, fun target h => hstep₁ _ fun acts => by rw [doInvoke_state]; exact hsteps.trans h⟩
  · exact Or.inr ⟨q, vm₁, B, X₁.warmed, X', hpost, hstep₁ _ fun acts => by rw [doInvoke_state]; exact hsteps⟩
theorem vx_callVW (X : Stand p l e R s m args below meth c T locs cells slots) (hexec : p.tables.exec = Jvm.exec) {own C : String} {index : Nat} {y : MethodName} {bytes : ByteArray} {maxL : Nat} {ret : Option FieldType} {hh : List (Nat × Nat × Nat × Nat)}
    (hown : s.vm.findClass own = some m.cls) (hlink : (Cond.methodLink own index y).before args s = true) (hinst : (Cond.instanceMethod y).before args s = true) (hsel : (Cond.selects C y y).before args s = true)
    (hcode : (Cond.codeWith y bytes maxL ret hh).before args s = true) (hy : y.cls ≠ "java/lang/invoke/MethodHandle" ∧ y.cls ≠ "java/lang/invoke/VarHandle")
    {W9 : Nat} {Pre : Pt → Array Value → Prop} {Post : Pt → Array Value → Option Value → Pt → Prop} (hK : Back l R p e below s args y 3 W9 Pre Post)
    {b : Addr} {cellB : Cell} (hcell : T.heap[b]? = some cellB) (hobj : cellB.vm.isStatics = false) (hcls : s.vm.findClass C = some cellB.cls)
    {g : JFrame} (hg : g.method = m) (hsize : g.locals.size = c.maxLocals) {argsL rest : List Value} (hlen : ∀ sig, parseMethodDescriptor y.desc = some sig → argsL.length = sig.parameters.length)
    (hstack : g.stack = argsL.reverse ++ .ref b :: rest) (hW : 2 * g.monitorRoom + (rest.map fun v => v.category).sum ≤ W9) (hdg : decode c.code g.pc = .ok (.invokevirtual index, 3))
    (hpre : ∀ vm₁, s.WarmedH vm₁ → Pre ⟨T.setVm vm₁, locs, cells, slots⟩ (Value.ref b :: argsL).toArray) :
    ∃ (v : Option Value) (vm₁ : Vm) (B : Pt), s.WarmedH vm₁ ∧ Stand p l e R s m args below meth c B.U B.locs B.cells B.slots ∧ Post ⟨T.setVm vm₁, locs, cells, slots⟩ (Value.ref b :: argsL).toArray v B ∧
      ∀ target, Steps p.tables e below (B.U.setTop { g with pc := g.pc + 3, stack := v.toList ++ rest }) target → Steps p.tables e below (T.setTop g) target := by
  obtain ⟨mk, methM, hnamed, hmethM, hstM, habM⟩ := Cond.instanceMethod_spec hinst
  obtain ⟨m8, methM', cM, hn8, hmethM', -, -, -, -, -, -, hsigM⟩ := Cond.codeWith_spec hcode
  cases Option.some.inj (hn8.symm.trans hnamed)
  cases hmethM.symm.trans hmethM'
  obtain ⟨c2, r2, m2, q1, q2, q3, q4, kP, hkP, hkPi⟩ := Cond.selects_spec hsel
  cases hcls.symm.trans q1
  cases (State.methodFound?_of_named hnamed hy).symm.trans q2
  cases hnamed.symm.trans q3
  have hselP : selectMethod e.platform s.vm cellB.cls mk = .method mk := by rw [Launch.admits_selectMethod X.admits]; exact q4
  obtain ⟨vm₁, X₁, hstep₁⟩ := X.invokevirtual hexec hown hlink hnamed hmethM hstM hkP hkPi hy (a := b) (cell := cellB) hcell
    (fun z h => by rw [h] at hobj; cases hobj) hselP hmethM habM hkP hkPi (g := g) hg (argsL := argsL) (rest := rest) (hlen _ hsigM) hstack hdg
  obtain ⟨v, B, X', hpost, hsteps⟩ := hK m meth c ⟨T.setVm vm₁, locs, cells, slots⟩ { g with stack := rest } (.invokevirtual index) mk (Value.ref b :: argsL).toArray X₁ hg hsize hdg hW (X₁.named hnamed) (hpre vm₁ X₁.warmed)
  exact ⟨v, vm₁, B, X₁.warmed, X', hpost, fun target h => hstep₁ _ fun acts => by rw [doInvoke_state]; exact hsteps.trans h⟩
abbrev vx_CVW (R : Room) (s : State) (args : Array Value) (own C : String) (index : Nat) (y : MethodName) (bytes : ByteArray) (maxL : Nat) (ret : Option FieldType) (hh : List (Nat × Nat × Nat × Nat)) (ws : List Cond) (rm : Room) (mc ms n : Nat) : Prop :=
  (rm.cells = mc ∧ rm.slots = ms ∧ rm.frames + 1 ≤ R.frames ∧ 8 + (maxL + 11) + rm.locals ≤ R.locals ∧ (∀ w ∈ ws, ∀ (a' : Array Value) (U : State), s.WarmedH U.vm → w.before a' U = true) ∧ Cond.codeWith y bytes maxL ret hh ∈ ws) ∧
  (Cond.codeWith y bytes maxL ret hh).before args s = true ∧ (Cond.initialized y.cls).before args s = true ∧ (y.cls ≠ "java/lang/invoke/MethodHandle" ∧ y.cls ≠ "java/lang/invoke/VarHandle") ∧
  (∀ sig, parseMethodDescriptor y.desc = some sig → n = sig.parameters.length) ∧ (Cond.methodLink own index y).before args s = true ∧ (Cond.instanceMethod y).before args s = true ∧ (Cond.selects C y y).before args s = true
theorem vx_cwVW {own C : String} {index maxL mc ms : Nat} {y : MethodName} {bytes : ByteArray} {ret : Option FieldType} {hh : List (Nat × Nat × Nat × Nat)} {Ts ws ws' : List Cond} {rm : Room} (n : Nat) (ht : ∀ w ∈ Ts, w.before args s = true) (hT : GoodIn Ts (wsV own index C y ws)) (hw : ws = Cond.codeWith y bytes maxL ret hh :: ws') (hrc : rm.cells = mc) (hrs : rm.slots = ms)
    (hd : y.cls = C ∧ y.cls ≠ "java/lang/invoke/MethodHandle" ∧ y.cls ≠ "java/lang/invoke/VarHandle" ∧ (parseMethodDescriptor y.desc).map (fun d => d.parameters.length) = some n) (hR : rm.frames + 1 ≤ R.frames ∧ 8 + (maxL + 11) + rm.locals ≤ R.locals) :
    vx_CVW R s args own C index y bytes maxL ret hh ws rm mc ms n := by
  obtain ⟨hC, hd⟩ := hd
  subst hC
  have ok : ∀ w ∈ wsV own index y.cls y ws, w.before args s = true := fun w h => ht w (hT w h).1
  have hG : GoodIn Ts ws := fun w h => hT w (by unfold wsV; exact List.mem_append_right _ h)
  have hc : Cond.codeWith y bytes maxL ret hh ∈ ws := by rw [hw]; exact List.mem_cons_self
  refine ⟨⟨hrc, hrs, hR.1, hR.2, pay_in ht hG, hc⟩, ht _ (hG _ hc).1, ok _ (by simp [wsV]), ⟨hd.1, hd.2.1⟩, fun sig h => ?_, ok _ (by simp [wsV]), ok _ (by simp [wsV]), ok _ (by simp [wsV])⟩
  have h2 := hd.2.2
  rw [h] at h2
  exact (Option.some.inj h2).symm
theorem vx_runVW {y : MethodName} {bytes cc : ByteArray} {maxL nL mc ms n index : Nat} {ret : Option FieldType} {hh : List (Nat × Nat × Nat × Nat)} {ws : List Cond} {rm : Room} {Pc : Array Value → State → Prop} {Qc : Array Value → State → Outcome → State → Prop} {free : Addr → Prop} {Ts : List Cond} {own C : String} {b : Addr} {As rest : List Value} {g : JFrame}
    (S : CallFix p m c cc nL s args Ts own) (hM : Met l y ws rm Pc Qc mc ms free) (cw : vx_CVW R s args own C index y bytes maxL ret hh ws rm mc ms n) (hp : PreV s H C b Pc As)
    (hg : g.method = m) (hn : As.length = n) (hsize : g.locals.size = nL) (hstack : g.stack = As.reverse ++ .ref b :: rest) (hW : 2 * g.monitorRoom + (rest.map fun v => v.category).sum ≤ 8) (hdg : decode cc g.pc = .ok (.invokevirtual index, 3)) (hf : cells + mc ≤ R.cells ∧ slots + ms ≤ R.slots) :
    va_Run p l e R s m args below meth c H locs cells slots mc ms g rest (Qc (Value.ref b :: As).toArray) free := by
  obtain ⟨⟨hrc, hrs, hfr, hlo, hws, hcw⟩, hcode, hini, hy, hlen, hl, hin, hse⟩ := cw
  have hK : Back l R p e below s args y 3 8 (PreOf R mc ms Pc) (PostOf Qc mc ms free) := va_backW (hh := hh) (bytes := bytes) (maxL := maxL) (ret := ret) hM hp.1 hrc hrs hfr hlo hws hcw (fun a' U hW => word_at hW (Or.inl (by first | rfl | simp [Cond.onTables, Cond.keeps, Cond.steady])) hini)
  obtain ⟨hx, hb, hml, ho, -⟩ := S
  obtain ⟨-, ⟨cellB, hcB, hoB, hclB⟩, hPc⟩ := hp
  intro T hT X
  obtain ⟨v, vm₁, ⟨U', l2, c2, s2⟩, hW₁, X', ⟨g', mk, t, L, e1, e2, hq, h1, hL, h2, h3⟩, st⟩ := vx_callVW X hx (C := C) (hh := hh) (bytes := bytes) (maxL := maxL) (ret := ret) ho hl hin hse hcode hy hK (by rw [hT]; exact hcB) hoB hclB hg (hsize.trans hml.symm) (argsL := As) (rest := rest) (fun sig h => hn.trans (hlen sig h)) hstack hW (by rw [hb]; exact hdg)
    (fun vm₁ hW₁ => ⟨hf.1, hf.2, hPc (T.setVm vm₁) hT hW₁⟩)
  dsimp only [Pt.U, Pt.locs, Pt.cells, Pt.slots] at X' e1 e2 h1 h2 h3 st
  subst h1; subst h2; subst h3
  exact ⟨v, (T.setVm vm₁).calling g' mk (Value.ref b :: As).toArray, t, U', L, hT, X', hL, e1, e2, hq, st⟩
section
variable {y : MethodName} {bytes cc : ByteArray} {maxL nL mc ms n index : Nat} {ret : Option FieldType} {ws : List Cond} {rm : Room} {Pc : Array Value → State → Prop} {Qc : Array Value → State → Outcome → State → Prop} {XC : String → State → State → Prop} {free : Addr → Prop} {Ts : List Cond} {own C : String} {b : Addr} {As rest : List Value} {g : JFrame}
theorem vx_runVX {hh : List (Nat × Nat × Nat × Nat)} (S : CallFix p m c cc nL s args Ts own) (hM : vx_Met l y ws rm Pc Qc XC mc ms free) (cw : vx_CVW R s args own C index y bytes maxL ret hh ws rm mc ms n) (hp : PreV s H C b Pc As)
    (hg : g.method = m) (hn : As.length = n) (hsize : g.locals.size = nL) (hstack : g.stack = As.reverse ++ .ref b :: rest) (hW : 2 * g.monitorRoom + (rest.map fun v => v.category).sum ≤ 8) (hdg : decode cc g.pc = .ok (.invokevirtual index, 3)) (hf : cells + mc ≤ R.cells ∧ slots + ms ≤ R.slots) :
    vx_Run p l e R s m args below meth c H locs cells slots mc ms g rest (Qc (Value.ref b :: As).toArray) XC free := by
  obtain ⟨⟨hrc, hrs, hfr, hlo, hws, hcw⟩, hcode, hini, hy, hlen, hl, hin, hse⟩ := cw
  have hK : vx_Back l R p e below s args y 3 8 (PreOf R mc ms Pc) (PostOf Qc mc ms free) (vx_Post XC mc ms free) := vx_backW (hh := hh) (bytes := bytes) (maxL := maxL) (ret := ret) hM hp.1 hrc hrs hfr hlo hws hcw (fun a' U hW => word_at hW (Or.inl (by first | rfl | simp [Cond.onTables, Cond.keeps, Cond.steady])) hini)
  obtain ⟨hx, hb, hml, ho, -⟩ := S
  obtain ⟨-, ⟨cellB, hcB, hoB, hclB⟩, hPc⟩ := hp
  intro T hT X
  rcases vx_callVX X hx (C := C) (hh := hh) (bytes := bytes) (maxL := maxL) (ret := ret) ho hl hin hse hcode hy hK (by rw [hT]; exact hcB) hoB hclB hg (hsize.trans hml.symm) (argsL := As) (rest := rest) (fun sig h => hn.trans (hlen sig h)) hstack hW (by rw [hb]; exact hdg)
    (fun vm₁ hW₁ => ⟨hf.1, hf.2, hPc (T.setVm vm₁) hT hW₁⟩) with ⟨v, vm₁, ⟨U', l2, c2, s2⟩, hW₁, X', ⟨g', mk, t, L, e1, e2, hq, h1, hL, h2, h3⟩, st⟩ | ⟨q, vm₁, ⟨U', l2, c2, s2⟩, hW₁, X', ⟨g', mk, t, L, E, ce, e1, e2, hq, hce, hcv, hcl, h1, hL, h2, h3⟩, st⟩
  · dsimp only [Pt.U, Pt.locs, Pt.cells, Pt.slots] at X' e1 e2 h1 h2 h3 st
    subst h1; subst h2; subst h3
    exact Or.inl ⟨v, (T.setVm vm₁).calling g' mk (Value.ref b :: As).toArray, t, U', L, hT, X', hL, e1, e2, hq, st⟩
  · dsimp only [Pt.U, Pt.locs, Pt.cells, Pt.slots] at X' e1 e2 h1 h2 h3 st hcl
    subst h1; subst h2; subst h3
    exact Or.inr ⟨q, (T.setVm vm₁).calling g' mk (Value.ref b :: As).toArray, t, U', L, E, ce, hT, X', hL, e1, e2, hq, hce, hcv, vx_cls hW₁ hcl, st⟩
theorem vx_runSX {hh : List (Nat × Nat × Nat × Nat)} (S : CallFix p m c cc nL s args Ts own) (hM : vx_Met l y ws rm Pc Qc XC mc ms free) (cw : vx_CSW R s args own index y bytes maxL ret hh ws rm mc ms n) (hp : PreS s H Pc As)
    (hg : g.method = m) (hn : As.length = n) (hsize : g.locals.size = nL) (hstack : g.stack = As.reverse ++ rest) (hW : 2 * g.monitorRoom + (rest.map fun v => v.category).sum ≤ 8) (hdg : decode cc g.pc = .ok (.invokestatic index, 3)) (hf : cells + mc ≤ R.cells ∧ slots + ms ≤ R.slots) :
    vx_Run p l e R s m args below meth c H locs cells slots mc ms g rest (Qc As.toArray) XC free := by
  obtain ⟨⟨hrc, hrs, hfr, hlo, hws, hcw⟩, hcode, hini, hy, hlen, hl, hstt⟩ := cw
  have hK : vx_Back l R p e below s args y 3 8 (PreOf R mc ms Pc) (PostOf Qc mc ms free) (vx_Post XC mc ms free) := vx_backW (hh := hh) (bytes := bytes) (maxL := maxL) (ret := ret) hM hp.1 hrc hrs hfr hlo hws hcw (fun a' U hW => word_at hW (Or.inl (by first | rfl | simp [Cond.onTables, Cond.keeps, Cond.steady])) hini)
  obtain ⟨hx, hb, hml, ho, -⟩ := S
  intro T hT X
  rcases vx_callSX X hx (hh := hh) (bytes := bytes) (maxL := maxL) (ret := ret) ho hl hstt hini hcode hy hK hg (hsize.trans hml.symm) (argsL := As) (rest := rest) (fun sig h => hn.trans (hlen sig h)) hstack hW (by rw [hb]; exact hdg)
    (fun vm₁ hW₁ => ⟨hf.1, hf.2, hp.2 (T.setVm vm₁) hT hW₁⟩) with ⟨v, vm₁, ⟨U', l2, c2, s2⟩, hW₁, X', ⟨g', mk, t, L, e1, e2, hq, h1, hL, h2, h3⟩, st⟩ | ⟨q, vm₁, ⟨U', l2, c2, s2⟩, hW₁, X', ⟨g', mk, t, L, E, ce, e1, e2, hq, hce, hcv, hcl, h1, hL, h2, h3⟩, st⟩
  · dsimp only [Pt.U, Pt.locs, Pt.cells, Pt.slots] at X' e1 e2 h1 h2 h3 st
    subst h1; subst h2; subst h3
    exact Or.inl ⟨v, (T.setVm vm₁).calling g' mk As.toArray, t, U', L, hT, X', hL, e1, e2, hq, st⟩
  · dsimp only [Pt.U, Pt.locs, Pt.cells, Pt.slots] at X' e1 e2 h1 h2 h3 st hcl
    subst h1; subst h2; subst h3
    exact Or.inr ⟨q, (T.setVm vm₁).calling g' mk As.toArray, t, U', L, E, ce, hT, X', hL, e1, e2, hq, hce, hcv, vx_cls hW₁ hcl, st⟩
end
end VXH
theorem vx_ofWH {l : Launch} {y : MethodName} {ws ws' : List Cond} {rm : Room} {Pc : Array Value → State → Prop} {Qc : Array Value → State → Outcome → State → Prop} {XC : String → State → State → Prop} {mc ms : Nat} {free : Addr → Prop} {cc : ByteArray} {maxL : Nat} {ret : Option FieldType} {hh : List (Nat × Nat × Nat × Nat)}
    (hy : plainName y.cls = true) (hw : ws = Cond.codeWith y cc maxL ret hh :: ws')
    (body : ∀ p e s m args below meth c s₁, BodyLoose p l y (headSpec ws rm) cc maxL ret e s m args below meth c s₁ → c.maxLocals = maxL → Pc args s →
      W p l e (headSpec ws rm).room s m args below meth c s.heap [] 0 0 (vx_MQ below Qc XC args s mc ms free) (entryFrame m args maxL)) : vx_Met l y ws rm Pc Qc XC mc ms free := by
  refine MetFree.of_bodyS (code := cc) (maxLocals := maxL) (ret := ret) hy ?_ ?_
  · intro args s m h hn
    obtain ⟨m9, meth, c, hn9, h1, h2, h3, h4, -, h5, h6, -⟩ := Cond.codeWith_spec (atoms_spec (ws := ws) h _ (by rw [hw]; exact List.mem_cons_self))
    cases hn.symm.trans hn9
    exact ⟨meth, c, h1, h2, h3, h4, h5, h6⟩
  · intro p e s m args below meth c s₁ B hml hP _
    have hh0 : s₁.heap = s.heap := by rw [B.state]; rfl
    obtain ⟨t, a1, o, b1, b2, b3⟩ := body p e s m args below meth c s₁ B hml hP s₁ hh0 (Stand.of_body B)
    exact ⟨t, o, a1, b1, b2, b3⟩
/-! ===== END ===== -/
end
section
def RX0 : String := "DaybreakFlags$Arm"
def TX0 : u_T := fun k => match k with
  | 0 => ("DaybreakFlags$Arm", "user", "I", true)
  | 1 => ("DaybreakFlags$Arm", "variant", "I", true)
  | 2 => ("DaybreakFlags$Arm", "older", "LDaybreakFlags$Arm;", true)
  | 3 => ("DaybreakFlags$Arm", "sum", "I", false)
  | _ => ("DaybreakFlags$Arm", "hasActed", "Z", false)
def tyX0 : Nat → FieldType := fun k => match k with
  | 0 => .int
  | 1 => .int
  | 2 => .object "DaybreakFlags$Arm"
  | 3 => .int
  | _ => .boolean
abbrev wsX00 : List Cond := u_ws RX0 TX0 5
theorem nmX0 : ∀ a, a < 5 → ∀ b, b < 5 → a ≠ b → (TX0 a).2.1 ≠ (TX0 b).2.1 := by decide +kernel
theorem tyX0_ok : ∀ k, k < 5 → parseFieldDescriptor (TX0 k).2.2.1 = some (tyX0 k) := by decide +kernel
abbrev cX0_init : ByteArray := prog_2_method_1_code
def yX0_init : MethodName := ⟨RX0, "<init>", "(IILDaybreakFlags$Arm;)V"⟩
def RX1 : String := "DaybreakFlags$Asker"
def TX1 : u_T := fun k => match k with
  | 0 => ("DaybreakFlags$Asker", "user", "I", false)
  | 1 => ("DaybreakFlags$Asker", "first", "I", false)
  | 2 => ("DaybreakFlags$Asker", "second", "I", false)
  | 3 => ("DaybreakFlags$Asker", "turned", "I", false)
  | 4 => ("DaybreakFlags$Asker", "ramped", "I", false)
  | _ => ("DaybreakFlags$Asker", "rampedTo", "I", false)
def tyX1 : Nat → FieldType := fun k => match k with
  | 0 => .int
  | 1 => .int
  | 2 => .int
  | 3 => .int
  | 4 => .int
  | _ => .int
abbrev wsX10 : List Cond := u_ws RX1 TX1 6
theorem nmX1 : ∀ a, a < 6 → ∀ b, b < 6 → a ≠ b → (TX1 a).2.1 ≠ (TX1 b).2.1 := by decide +kernel
theorem tyX1_ok : ∀ k, k < 6 → parseFieldDescriptor (TX1 k).2.2.1 = some (tyX1 k) := by decide +kernel
abbrev cX1_init : ByteArray := prog_3_method_1_code
def yX1_init : MethodName := ⟨RX1, "<init>", "()V"⟩
abbrev cX1_become : ByteArray := prog_3_method_2_code
def yX1_become : MethodName := ⟨RX1, "become", "(III)V"⟩
abbrev cX1_becomeCounted : ByteArray := prog_3_method_3_code
def yX1_becomeCounted : MethodName := ⟨RX1, "becomeCounted", "(I)V"⟩
abbrev cX1_supposeRamp : ByteArray := prog_3_method_5_code
def yX1_supposeRamp : MethodName := ⟨RX1, "supposeRamp", "(II)V"⟩
abbrev cX1_findsOn : ByteArray := prog_3_method_6_code
def yX1_findsOn : MethodName := ⟨RX1, "findsOn", "(LDaybreakFlags$Switch;)Z"⟩
abbrev cX1_findsFar : ByteArray := prog_3_method_7_code
def yX1_findsFar : MethodName := ⟨RX1, "findsFar", "(LDaybreakFlags$Switch;I)I"⟩
def RX2 : String := "DaybreakFlags$Rule"
def TX2 : u_T := fun k => match k with
  | 0 => ("DaybreakFlags$Rule", "mark", "I", true)
  | 1 => ("DaybreakFlags$Rule", "how", "I", true)
  | 2 => ("DaybreakFlags$Rule", "n", "I", true)
  | _ => ("DaybreakFlags$Rule", "variant", "I", true)
def tyX2 : Nat → FieldType := fun k => match k with
  | 0 => .int
  | 1 => .int
  | 2 => .int
  | _ => .int
abbrev wsX20 : List Cond := u_ws RX2 TX2 4
theorem nmX2 : ∀ a, a < 4 → ∀ b, b < 4 → a ≠ b → (TX2 a).2.1 ≠ (TX2 b).2.1 := by decide +kernel
theorem tyX2_ok : ∀ k, k < 4 → parseFieldDescriptor (TX2 k).2.2.1 = some (tyX2 k) := by decide +kernel
abbrev cX2_init : ByteArray := prog_4_method_1_code
def yX2_init : MethodName := ⟨RX2, "<init>", "(IIII)V"⟩
abbrev cX2_isMetBy : ByteArray := prog_4_method_2_code
def yX2_isMetBy : MethodName := ⟨RX2, "isMetBy", "(II)Z"⟩
def RX3 : String := "DaybreakFlags$Switch"
def TX3 : u_T := fun k => match k with
  | 0 => ("DaybreakFlags$Switch", "number", "I", true)
  | 1 => ("DaybreakFlags$Switch", "salt", "I", true)
  | 2 => ("DaybreakFlags$Switch", "variantCount", "I", true)
  | 3 => ("DaybreakFlags$Switch", "isSticky", "Z", true)
  | 4 => ("DaybreakFlags$Switch", "weights", "[I", true)
  | 5 => ("DaybreakFlags$Switch", "rules", "[LDaybreakFlags$Rule;", true)
  | 6 => ("DaybreakFlags$Switch", "tally", "LDaybreakFlags$Tally;", true)
  | 7 => ("DaybreakFlags$Switch", "newest", "LDaybreakFlags$Arm;", false)
  | 8 => ("DaybreakFlags$Switch", "ruleCount", "I", false)
  | 9 => ("DaybreakFlags$Switch", "isOn", "Z", false)
  | 10 => ("DaybreakFlags$Switch", "startShare", "I", false)
  | 11 => ("DaybreakFlags$Switch", "step", "I", false)
  | 12 => ("DaybreakFlags$Switch", "rampedAt", "I", false)
  | 13 => ("DaybreakFlags$Switch", "layer", "I", false)
  | 14 => ("DaybreakFlags$Switch", "from", "I", false)
  | 15 => ("DaybreakFlags$Switch", "to", "I", false)
  | 16 => ("DaybreakFlags$Switch", "needed", "I", false)
  | _ => ("DaybreakFlags$Switch", "neededVariant", "I", false)
def tyX3 : Nat → FieldType := fun k => match k with
  | 0 => .int
  | 1 => .int
  | 2 => .int
  | 3 => .boolean
  | 4 => .array .int
  | 5 => .array (.object "DaybreakFlags$Rule")
  | 6 => .object "DaybreakFlags$Tally"
  | 7 => .object "DaybreakFlags$Arm"
  | 8 => .int
  | 9 => .boolean
  | 10 => .int
  | 11 => .int
  | 12 => .int
  | 13 => .int
  | 14 => .int
  | 15 => .int
  | 16 => .int
  | _ => .int
abbrev wsX30 : List Cond := u_ws RX3 TX3 18
theorem nmX3 : ∀ a, a < 18 → ∀ b, b < 18 → a ≠ b → (TX3 a).2.1 ≠ (TX3 b).2.1 := by decide +kernel
theorem tyX3_ok : ∀ k, k < 18 → parseFieldDescriptor (TX3 k).2.2.1 = some (tyX3 k) := by decide +kernel
abbrev cX3_init : ByteArray := prog_5_method_1_code
def yX3_init : MethodName := ⟨RX3, "<init>", "(IIIZ)V"⟩
abbrev cX3_weightOf : ByteArray := prog_5_method_2_code
def yX3_weightOf : MethodName := ⟨RX3, "weightOf", "(I)I"⟩
abbrev cX3_setWeight : ByteArray := prog_5_method_3_code
def yX3_setWeight : MethodName := ⟨RX3, "setWeight", "(II)V"⟩
abbrev cX3_splitBy : ByteArray := prog_5_method_4_code
def yX3_splitBy : MethodName := ⟨RX3, "splitBy", "(I)I"⟩
abbrev cX3_setRamp : ByteArray := prog_5_method_5_code
def yX3_setRamp : MethodName := ⟨RX3, "setRamp", "(III)V"⟩
abbrev cX3_farAt : ByteArray := prog_5_method_6_code
def yX3_farAt : MethodName := ⟨RX3, "farAt", "(I)I"⟩
abbrev cX3_sharesRange : ByteArray := prog_5_method_7_code
def yX3_sharesRange : MethodName := ⟨RX3, "sharesRange", "(II)Z"⟩
abbrev cX3_ruleAt : ByteArray := prog_5_method_8_code
def yX3_ruleAt : MethodName := ⟨RX3, "ruleAt", "(I)LDaybreakFlags$Rule;"⟩
abbrev cX3_addRule : ByteArray := prog_5_method_9_code
def yX3_addRule : MethodName := ⟨RX3, "addRule", "(LDaybreakFlags$Rule;)V"⟩
abbrev cX3_removeRule : ByteArray := prog_5_method_10_code
def yX3_removeRule : MethodName := ⟨RX3, "removeRule", "(I)V"⟩
abbrev cX3_firstRuleFor : ByteArray := prog_5_method_11_code
def yX3_firstRuleFor : MethodName := ⟨RX3, "firstRuleFor", "(II)I"⟩
abbrev cX3_armOf : ByteArray := prog_5_method_12_code
def yX3_armOf : MethodName := ⟨RX3, "armOf", "(I)LDaybreakFlags$Arm;"⟩
abbrev cX3_addArm : ByteArray := prog_5_method_13_code
def yX3_addArm : MethodName := ⟨RX3, "addArm", "(II)V"⟩
abbrev cX3_addWorth : ByteArray := prog_5_method_14_code
def yX3_addWorth : MethodName := ⟨RX3, "addWorth", "(II)Z"⟩
abbrev cX3_badness : ByteArray := prog_5_method_15_code
def yX3_badness : MethodName := ⟨RX3, "badness", "()I"⟩
abbrev cX3_canBeTrusted : ByteArray := prog_5_method_16_code
def yX3_canBeTrusted : MethodName := ⟨RX3, "canBeTrusted", "()Z"⟩
abbrev cX3_mostBadness : ByteArray := prog_5_method_17_code
def yX3_mostBadness : MethodName := ⟨RX3, "mostBadness", "(I)I"⟩
def RX4 : String := "DaybreakFlags$Tally"
def TX4 : u_T := fun k => match k with
  | 0 => ("DaybreakFlags$Tally", "counts", "[I", true)
  | 1 => ("DaybreakFlags$Tally", "acted", "[I", true)
  | 2 => ("DaybreakFlags$Tally", "sums", "[I", true)
  | 3 => ("DaybreakFlags$Tally", "squares", "[J", true)
  | _ => ("DaybreakFlags$Tally", "total", "I", false)
def tyX4 : Nat → FieldType := fun k => match k with
  | 0 => .array .int
  | 1 => .array .int
  | 2 => .array .int
  | 3 => .array .long
  | _ => .int
abbrev wsX40 : List Cond := u_ws RX4 TX4 5
theorem nmX4 : ∀ a, a < 5 → ∀ b, b < 5 → a ≠ b → (TX4 a).2.1 ≠ (TX4 b).2.1 := by decide +kernel
theorem tyX4_ok : ∀ k, k < 5 → parseFieldDescriptor (TX4 k).2.2.1 = some (tyX4 k) := by decide +kernel
abbrev cX4_init : ByteArray := prog_6_method_1_code
def yX4_init : MethodName := ⟨RX4, "<init>", "()V"⟩
abbrev cX4_isKept : ByteArray := prog_6_method_2_code
def yX4_isKept : MethodName := ⟨RX4, "isKept", "(I)Z"⟩
abbrev cX4_countArm : ByteArray := prog_6_method_3_code
def yX4_countArm : MethodName := ⟨RX4, "countArm", "(I)V"⟩
abbrev cX4_countAct : ByteArray := prog_6_method_4_code
def yX4_countAct : MethodName := ⟨RX4, "countAct", "(IJIZ)V"⟩
abbrev cX4_countOf : ByteArray := prog_6_method_5_code
def yX4_countOf : MethodName := ⟨RX4, "countOf", "(I)I"⟩
abbrev cX4_actedOf : ByteArray := prog_6_method_6_code
def yX4_actedOf : MethodName := ⟨RX4, "actedOf", "(I)I"⟩
abbrev cX4_sumOf : ByteArray := prog_6_method_7_code
def yX4_sumOf : MethodName := ⟨RX4, "sumOf", "(I)I"⟩
abbrev cX4_squaresOf : ByteArray := prog_6_method_8_code
def yX4_squaresOf : MethodName := ⟨RX4, "squaresOf", "(I)J"⟩
abbrev cX4_meanOf : ByteArray := prog_6_method_9_code
def yX4_meanOf : MethodName := ⟨RX4, "meanOf", "(I)D"⟩
abbrev cX4_liftOf : ByteArray := prog_6_method_10_code
def yX4_liftOf : MethodName := ⟨RX4, "liftOf", "(I)D"⟩
abbrev cX4_surenessOf : ByteArray := prog_6_method_11_code
def yX4_surenessOf : MethodName := ⟨RX4, "surenessOf", "(I)D"⟩
abbrev cX4_spreadByCount : ByteArray := prog_6_method_12_code
def yX4_spreadByCount : MethodName := ⟨RX4, "spreadByCount", "(I)D"⟩
abbrev cX4_bestVariant : ByteArray := prog_6_method_13_code
def yX4_bestVariant : MethodName := ⟨RX4, "bestVariant", "()I"⟩
def RX5 : String := "DaybreakFlags"
def TX5 : u_T := fun k => match k with
  | 0 => ("DaybreakFlags", "row", "[LDaybreakFlags$Switch;", true)
  | 1 => ("DaybreakFlags", "asker", "LDaybreakFlags$Asker;", true)
  | 2 => ("DaybreakFlags", "switchCount", "I", false)
  | 3 => ("DaybreakFlags", "armCount", "I", false)
  | 4 => ("DaybreakFlags", "holdout", "I", false)
  | _ => ("DaybreakFlags", "clock", "I", false)
def tyX5 : Nat → FieldType := fun k => match k with
  | 0 => .array (.object "DaybreakFlags$Switch")
  | 1 => .object "DaybreakFlags$Asker"
  | 2 => .int
  | 3 => .int
  | 4 => .int
  | _ => .int
abbrev wsX50 : List Cond := u_ws RX5 TX5 6
theorem nmX5 : ∀ a, a < 6 → ∀ b, b < 6 → a ≠ b → (TX5 a).2.1 ≠ (TX5 b).2.1 := by decide +kernel
theorem tyX5_ok : ∀ k, k < 6 → parseFieldDescriptor (TX5 k).2.2.1 = some (tyX5 k) := by decide +kernel
abbrev cX5_init : ByteArray := prog_1_method_1_code
def yX5_init : MethodName := ⟨RX5, "<init>", "()V"⟩
abbrev cX5_add : ByteArray := prog_1_method_2_code
def yX5_add : MethodName := ⟨RX5, "add", "(IIZ)I"⟩
abbrev cX5_weigh : ByteArray := prog_1_method_3_code
def yX5_weigh : MethodName := ⟨RX5, "weigh", "(III)I"⟩
abbrev cX5_turn : ByteArray := prog_1_method_4_code
def yX5_turn : MethodName := ⟨RX5, "turn", "(IZ)Z"⟩
abbrev cX5_ramp : ByteArray := prog_1_method_5_code
def yX5_ramp : MethodName := ⟨RX5, "ramp", "(III)I"⟩
abbrev cX5_place : ByteArray := prog_1_method_6_code
def yX5_place : MethodName := ⟨RX5, "place", "(IIII)I"⟩
abbrev cX5_need : ByteArray := prog_1_method_7_code
def yX5_need : MethodName := ⟨RX5, "need", "(III)I"⟩
abbrev cX5_rule : ByteArray := prog_1_method_8_code
def yX5_rule : MethodName := ⟨RX5, "rule", "(IIIII)I"⟩
abbrev cX5_unrule : ByteArray := prog_1_method_9_code
def yX5_unrule : MethodName := ⟨RX5, "unrule", "(II)I"⟩
abbrev cX5_hold : ByteArray := prog_1_method_10_code
def yX5_hold : MethodName := ⟨RX5, "hold", "(I)I"⟩
abbrev cX5_goOn : ByteArray := prog_1_method_11_code
def yX5_goOn : MethodName := ⟨RX5, "goOn", "(I)I"⟩
abbrev cX5_switches : ByteArray := prog_1_method_12_code
def yX5_switches : MethodName := ⟨RX5, "switches", "()I"⟩
abbrev cX5_weight : ByteArray := prog_1_method_13_code
def yX5_weight : MethodName := ⟨RX5, "weight", "(II)I"⟩
abbrev cX5_share : ByteArray := prog_1_method_14_code
def yX5_share : MethodName := ⟨RX5, "share", "(I)I"⟩
abbrev cX5_left : ByteArray := prog_1_method_15_code
def yX5_left : MethodName := ⟨RX5, "left", "(I)I"⟩
abbrev cX5_gets : ByteArray := prog_1_method_17_code
def yX5_gets : MethodName := ⟨RX5, "gets", "(IIII)I"⟩
abbrev cX5_why : ByteArray := prog_1_method_18_code
def yX5_why : MethodName := ⟨RX5, "why", "(IIII)I"⟩
abbrev cX5_holds : ByteArray := prog_1_method_19_code
def yX5_holds : MethodName := ⟨RX5, "holds", "(IIII)I"⟩
abbrev cX5_ask : ByteArray := prog_1_method_20_code
def yX5_ask : MethodName := ⟨RX5, "ask", "(IIII)I"⟩
abbrev cX5_act : ByteArray := prog_1_method_21_code
def yX5_act : MethodName := ⟨RX5, "act", "(II)I"⟩
abbrev cX5_arm : ByteArray := prog_1_method_22_code
def yX5_arm : MethodName := ⟨RX5, "arm", "(II)I"⟩
abbrev cX5_arms : ByteArray := prog_1_method_23_code
def yX5_arms : MethodName := ⟨RX5, "arms", "()I"⟩
abbrev cX5_told : ByteArray := prog_1_method_24_code
def yX5_told : MethodName := ⟨RX5, "told", "(III)I"⟩
abbrev cX5_mean : ByteArray := prog_1_method_25_code
def yX5_mean : MethodName := ⟨RX5, "mean", "(II)D"⟩
abbrev cX5_lift : ByteArray := prog_1_method_26_code
def yX5_lift : MethodName := ⟨RX5, "lift", "(II)D"⟩
abbrev cX5_sure : ByteArray := prog_1_method_27_code
def yX5_sure : MethodName := ⟨RX5, "sure", "(II)D"⟩
abbrev cX5_bad : ByteArray := prog_1_method_28_code
def yX5_bad : MethodName := ⟨RX5, "bad", "(I)I"⟩
abbrev cX5_isTrusted : ByteArray := prog_1_method_29_code
def yX5_isTrusted : MethodName := ⟨RX5, "isTrusted", "(I)Z"⟩
abbrev cX5_best : ByteArray := prog_1_method_30_code
def yX5_best : MethodName := ⟨RX5, "best", "(I)I"⟩
abbrev cX5_reach : ByteArray := prog_1_method_31_code
def yX5_reach : MethodName := ⟨RX5, "reach", "(III)I"⟩
abbrev cX5_both : ByteArray := prog_1_method_32_code
def yX5_both : MethodName := ⟨RX5, "both", "(III)I"⟩
abbrev cX5_wouldChange : ByteArray := prog_1_method_33_code
def yX5_wouldChange : MethodName := ⟨RX5, "wouldChange", "(III)I"⟩
abbrev cX5_shareIn : ByteArray := prog_1_method_35_code
def yX5_shareIn : MethodName := ⟨RX5, "shareIn", "(II)I"⟩
abbrev cX5_digest : ByteArray := prog_1_method_36_code
def yX5_digest : MethodName := ⟨RX5, "digest", "()J"⟩
abbrev cX5_withSwitch : ByteArray := prog_1_method_37_code
def yX5_withSwitch : MethodName := ⟨RX5, "withSwitch", "(JI)J"⟩
abbrev cX5_withNext : ByteArray := prog_1_method_38_code
def yX5_withNext : MethodName := ⟨RX5, "withNext", "(JJ)J"⟩
abbrev cX5_isOutside : ByteArray := prog_1_method_39_code
def yX5_isOutside : MethodName := ⟨RX5, "isOutside", "(III)Z"⟩
abbrev cX5_bucketOf : ByteArray := prog_1_method_40_code
def yX5_bucketOf : MethodName := ⟨RX5, "bucketOf", "(II)I"⟩
abbrev cX5_switchAt : ByteArray := prog_1_method_41_code
def yX5_switchAt : MethodName := ⟨RX5, "switchAt", "(I)LDaybreakFlags$Switch;"⟩
abbrev cX5_known : ByteArray := prog_1_method_42_code
def yX5_known : MethodName := ⟨RX5, "known", "(I)LDaybreakFlags$Switch;"⟩
abbrev cX5_checkVariant : ByteArray := prog_1_method_43_code
def yX5_checkVariant : MethodName := ⟨RX5, "checkVariant", "(LDaybreakFlags$Switch;I)V"⟩
abbrev cX5_checkAsker : ByteArray := prog_1_method_44_code
def yX5_checkAsker : MethodName := ⟨RX5, "checkAsker", "(III)V"⟩
abbrev cX5_checkMany : ByteArray := prog_1_method_45_code
def yX5_checkMany : MethodName := ⟨RX5, "checkMany", "(I)V"⟩
abbrev cX5_checkRange : ByteArray := prog_1_method_46_code
def yX5_checkRange : MethodName := ⟨RX5, "checkRange", "(III)V"⟩
abbrev cX5_isTaken : ByteArray := prog_1_method_47_code
def yX5_isTaken : MethodName := ⟨RX5, "isTaken", "(IIII)Z"⟩
abbrev cX5_variantOf : ByteArray := prog_1_method_48_code
def yX5_variantOf : MethodName := ⟨RX5, "variantOf", "(LDaybreakFlags$Switch;)I"⟩
abbrev cX5_variantBy : ByteArray := prog_1_method_49_code
def yX5_variantBy : MethodName := ⟨RX5, "variantBy", "(LDaybreakFlags$Switch;I)I"⟩
abbrev cX5_reasonOf : ByteArray := prog_1_method_50_code
def yX5_reasonOf : MethodName := ⟨RX5, "reasonOf", "(LDaybreakFlags$Switch;)I"⟩
abbrev cX5_hasNeed : ByteArray := prog_1_method_51_code
def yX5_hasNeed : MethodName := ⟨RX5, "hasNeed", "(LDaybreakFlags$Switch;)Z"⟩
abbrev cX5_isInLayer : ByteArray := prog_1_method_52_code
def yX5_isInLayer : MethodName := ⟨RX5, "isInLayer", "(LDaybreakFlags$Switch;)Z"⟩
def RX6 : String := "DaybreakFlagsLaw$Desk"
def TX6 : u_T := fun k => match k with
  | 0 => ("DaybreakFlagsLaw$Desk", "m", "LDaybreakFlags;", true)
  | 1 => ("DaybreakFlagsLaw$Desk", "s", "[I", true)
  | 2 => ("DaybreakFlagsLaw$Desk", "draws", "I", false)
  | 3 => ("DaybreakFlagsLaw$Desk", "clock", "I", false)
  | 4 => ("DaybreakFlagsLaw$Desk", "held", "I", false)
  | 5 => ("DaybreakFlagsLaw$Desk", "switches", "I", false)
  | 6 => ("DaybreakFlagsLaw$Desk", "one", "[[I", true)
  | 7 => ("DaybreakFlagsLaw$Desk", "weight", "[[I", true)
  | 8 => ("DaybreakFlagsLaw$Desk", "rules", "[[[I", true)
  | 9 => ("DaybreakFlagsLaw$Desk", "arms", "[[I", false)
  | _ => ("DaybreakFlagsLaw$Desk", "reason", "I", false)
def tyX6 : Nat → FieldType := fun k => match k with
  | 0 => .object "DaybreakFlags"
  | 1 => .array .int
  | 2 => .int
  | 3 => .int
  | 4 => .int
  | 5 => .int
  | 6 => .array (.array .int)
  | 7 => .array (.array .int)
  | 8 => .array (.array (.array .int))
  | 9 => .array (.array .int)
  | _ => .int
abbrev wsX60 : List Cond := u_ws RX6 TX6 11
theorem nmX6 : ∀ a, a < 11 → ∀ b, b < 11 → a ≠ b → (TX6 a).2.1 ≠ (TX6 b).2.1 := by decide +kernel
theorem tyX6_ok : ∀ k, k < 11 → parseFieldDescriptor (TX6 k).2.2.1 = some (tyX6 k) := by decide +kernel
abbrev cX6_init : ByteArray := prog_8_method_1_code
def yX6_init : MethodName := ⟨RX6, "<init>", "([II)V"⟩
abbrev cX6_draw : ByteArray := prog_8_method_2_code
def yX6_draw : MethodName := ⟨RX6, "draw", "(I)I"⟩
abbrev cX6_with : ByteArray := prog_8_method_3_code
def yX6_with : MethodName := ⟨RX6, "with", "([[I[I)[[I"⟩
abbrev cX6_add : ByteArray := prog_8_method_4_code
def yX6_add : MethodName := ⟨RX6, "add", "()Z"⟩
abbrev cX6_weigh : ByteArray := prog_8_method_5_code
def yX6_weigh : MethodName := ⟨RX6, "weigh", "()Z"⟩
abbrev cX6_turn : ByteArray := prog_8_method_6_code
def yX6_turn : MethodName := ⟨RX6, "turn", "()Z"⟩
abbrev cX6_far : ByteArray := prog_8_method_7_code
def yX6_far : MethodName := ⟨RX6, "far", "(II)I"⟩
abbrev cX6_ramp : ByteArray := prog_8_method_8_code
def yX6_ramp : MethodName := ⟨RX6, "ramp", "()Z"⟩
abbrev cX6_place : ByteArray := prog_8_method_9_code
def yX6_place : MethodName := ⟨RX6, "place", "()Z"⟩
abbrev cX6_need : ByteArray := prog_8_method_10_code
def yX6_need : MethodName := ⟨RX6, "need", "()Z"⟩
abbrev cX6_rule : ByteArray := prog_8_method_11_code
def yX6_rule : MethodName := ⟨RX6, "rule", "()Z"⟩
abbrev cX6_dropRule : ByteArray := prog_8_method_12_code
def yX6_dropRule : MethodName := ⟨RX6, "dropRule", "(II)Z"⟩
abbrev cX6_unrule : ByteArray := prog_8_method_13_code
def yX6_unrule : MethodName := ⟨RX6, "unrule", "()Z"⟩
abbrev cX6_hold : ByteArray := prog_8_method_14_code
def yX6_hold : MethodName := ⟨RX6, "hold", "()Z"⟩
abbrev cX6_goOn : ByteArray := prog_8_method_15_code
def yX6_goOn : MethodName := ⟨RX6, "goOn", "()Z"⟩
abbrev cX6_found : ByteArray := prog_8_method_16_code
def yX6_found : MethodName := ⟨RX6, "found", "()Z"⟩
abbrev cX6_change : ByteArray := prog_8_method_17_code
def yX6_change : MethodName := ⟨RX6, "change", "()Z"⟩
abbrev cX6_bucket : ByteArray := prog_8_method_18_code
def yX6_bucket : MethodName := ⟨RX6, "bucket", "(II)I"⟩
abbrev cX6_arm : ByteArray := prog_8_method_19_code
def yX6_arm : MethodName := ⟨RX6, "arm", "(II)[I"⟩
abbrev cX6_holds : ByteArray := prog_8_method_20_code
def yX6_holds : MethodName := ⟨RX6, "holds", "(III)I"⟩
abbrev cX6_because : ByteArray := prog_8_method_21_code
def yX6_because : MethodName := ⟨RX6, "because", "(II)I"⟩
abbrev cX6_gets : ByteArray := prog_8_method_22_code
def yX6_gets : MethodName := ⟨RX6, "gets", "(IIIII)I"⟩
abbrev cX6_gets_ : ByteArray := prog_8_method_23_code
def yX6_gets_ : MethodName := ⟨RX6, "gets", "(IIII)I"⟩
abbrev cX6_ask : ByteArray := prog_8_method_25_code
def yX6_ask : MethodName := ⟨RX6, "ask", "()Z"⟩
abbrev cX6_act : ByteArray := prog_8_method_26_code
def yX6_act : MethodName := ⟨RX6, "act", "()Z"⟩
def RX7 : String := "DaybreakFlagsModel"
def TX7 : u_T := fun k => match k with
  | _ => ("", "", "", false)
def tyX7 : Nat → FieldType := fun k => match k with
  | _ => .int
abbrev wsX70 : List Cond := u_ws RX7 TX7 0
theorem nmX7 : ∀ a, a < 0 → ∀ b, b < 0 → a ≠ b → (TX7 a).2.1 ≠ (TX7 b).2.1 := by decide +kernel
theorem tyX7_ok : ∀ k, k < 0 → parseFieldDescriptor (TX7 k).2.2.1 = some (tyX7 k) := by decide +kernel
def RJ9 : String := "java/lang/Math"
def TJ9 : u_T := fun k => match k with
  | _ => ("", "", "", false)
def tyJ9 : Nat → FieldType := fun k => match k with
  | _ => .int
theorem nmJ9 : ∀ a, a < 0 → ∀ b, b < 0 → a ≠ b → (TJ9 a).2.1 ≠ (TJ9 b).2.1 := by decide +kernel
theorem tyJ9_ok : ∀ k, k < 0 → parseFieldDescriptor (TJ9 k).2.2.1 = some (tyJ9 k) := by decide +kernel
abbrev cJ9_max_7cf53 : ByteArray := prog_14_method_65_code
def yJ9_max_7cf53 : MethodName := ⟨RJ9, "max", "(II)I"⟩
abbrev cJ9_min_7cf53 : ByteArray := prog_14_method_69_code
def yJ9_min_7cf53 : MethodName := ⟨RJ9, "min", "(II)I"⟩
def RJ0 : String := "java/lang/String"
def TJ0 : u_T := fun k => match k with
  | _ => ("", "", "", false)
def tyJ0 : Nat → FieldType := fun k => match k with
  | _ => .int
theorem nmJ0 : ∀ a, a < 0 → ∀ b, b < 0 → a ≠ b → (TJ0 a).2.1 ≠ (TJ0 b).2.1 := by decide +kernel
theorem tyJ0_ok : ∀ k, k < 0 → parseFieldDescriptor (TJ0 k).2.2.1 = some (tyJ0 k) := by decide +kernel
def RJ10 : String := "java/lang/System"
def TJ10 : u_T := fun k => match k with
  | _ => ("", "", "", false)
def tyJ10 : Nat → FieldType := fun k => match k with
  | _ => .int
theorem nmJ10 : ∀ a, a < 0 → ∀ b, b < 0 → a ≠ b → (TJ10 a).2.1 ≠ (TJ10 b).2.1 := by decide +kernel
theorem tyJ10_ok : ∀ k, k < 0 → parseFieldDescriptor (TJ10 k).2.2.1 = some (tyJ10 k) := by decide +kernel
def RL : String := "DaybreakFlagsLaw"
abbrev cL_below : ByteArray := method_2_code
def yL_below : MethodName := ⟨RL, "below", "(II)I"⟩
abbrev cL_cell : ByteArray := method_3_code
def yL_cell : MethodName := ⟨RL, "cell", "([II)I"⟩
abbrev cL_law : ByteArray := code
def yL_law : MethodName := ⟨RL, "law", "([I)Z"⟩
abbrev vwCl : List vw_C := [(RX0, TX0, 5), (RX1, TX1, 6), (RX2, TX2, 4), (RX3, TX3, 18), (RX4, TX4, 5), (RX5, TX5, 6), (RX6, TX6, 11)]
end
section
/-- the words of the tables that hold wherever a method begins -/
def TT : List Cond := lw_tbl.filter goodWord
theorem tt_m {w : Cond} (i : Nat) (h : lw_tbl[i]? = some w) (hg : goodWord w = true) : w ∈ TT := List.mem_filter.mpr ⟨List.mem_of_getElem? h, hg⟩
theorem tt_good {w : Cond} (h : w ∈ TT) : (w.onTables && w.keeps) = true ∨ ∃ ty, w = .arrayClass ty := good_of_word (List.mem_filter.mp h).2
theorem tt_in {w : Cond} (h : w ∈ TT) : w ∈ lw_tbl := (List.mem_filter.mp h).1
theorem tt_l {ws : List Cond} (ps : List Nat) (h : ws = ps.filterMap (fun i => lw_tbl[i]?)) (hg : ws.all goodWord = true) : ∀ w ∈ ws, w ∈ TT := fun w hw => by
  have h1 := List.all_eq_true.mp hg w hw
  rw [h] at hw
  obtain ⟨i, -, hi⟩ := List.mem_filterMap.mp hw
  exact tt_m i hi h1
theorem tt_m0 {w : Cond} (i : Nat) (h : (k2_sels lw_privs)[i]? = some w) (hg : goodWord w = true) : w ∈ TT := List.mem_filter.mpr ⟨List.mem_append_left _ (List.mem_of_getElem? h), hg⟩
theorem tt_m1 {w : Cond} (i : Nat) (h : tables_1_1[i]? = some w) (hg : goodWord w = true) : w ∈ TT := List.mem_filter.mpr ⟨List.mem_append_right _ (show w ∈ tables_1 from List.mem_append_left _ (List.mem_of_getElem? h)), hg⟩
theorem tt_m2 {w : Cond} (i : Nat) (h : tables_1_2[i]? = some w) (hg : goodWord w = true) : w ∈ TT := List.mem_filter.mpr ⟨List.mem_append_right _ (show w ∈ tables_1 from List.mem_append_right _ (List.mem_append_left _ (List.mem_of_getElem? h))), hg⟩
theorem tt_m3 {w : Cond} (i : Nat) (h : tables_1_3[i]? = some w) (hg : goodWord w = true) : w ∈ TT := List.mem_filter.mpr ⟨List.mem_append_right _ (show w ∈ tables_1 from List.mem_append_right _ (List.mem_append_right _ (List.mem_append_left _ (List.mem_of_getElem? h)))), hg⟩
theorem tt_m4 {w : Cond} (i : Nat) (h : tables_1_4[i]? = some w) (hg : goodWord w = true) : w ∈ TT := List.mem_filter.mpr ⟨List.mem_append_right _ (show w ∈ tables_1 from List.mem_append_right _ (List.mem_append_right _ (List.mem_append_right _ (List.mem_of_getElem? h)))), hg⟩
def gW_1_0 : List Cond := [Cond.initialized RL, Cond.initialized RX6, Cond.initialized RX5, Cond.initialized RX1, Cond.initialized "java/lang/Throwable", Cond.initialized "java/lang/Exception", Cond.initialized "java/lang/RuntimeException", Cond.initialized "java/lang/IllegalArgumentException", Cond.initialized "java/lang/IllegalStateException", Cond.initialized RX3, Cond.initialized RX4, Cond.initialized "java/lang/IndexOutOfBoundsException", Cond.initialized "java/lang/Math", Cond.initialized "java/lang/System", Cond.initialized RX2, Cond.initialized RX0, Cond.methodLink RL 56 yX5_weight, Cond.instanceMethod yX5_weight, Cond.selects RX5 yX5_weight yX5_weight, Cond.code yX5_weight cX5_weight 4 (some .int)]
def gW_1_1 : List Cond := [Cond.methodLink RX5 45 yX5_known, (Jvm.Cond.privateMethod ({ cls := "DaybreakFlags", name := "known", desc := "(I)LDaybreakFlags$Switch;" } : Jvm.MethodName)), Cond.instanceMethod yX5_known, Cond.instantiable RX5 6, Cond.code yX5_known cX5_known 3 (some (.object "DaybreakFlags$Switch")), Cond.methodLink RX5 301 yX5_switchAt, (Jvm.Cond.privateMethod ({ cls := "DaybreakFlags", name := "switchAt", desc := "(I)LDaybreakFlags$Switch;" } : Jvm.MethodName)), Cond.instanceMethod yX5_switchAt, Cond.code yX5_switchAt cX5_switchAt 2 (some (.object "DaybreakFlags$Switch")), Cond.classLink RX5 121 "java/lang/IndexOutOfBoundsException", (Jvm.Cond.instantiable "java/lang/IndexOutOfBoundsException" (6 : Nat)), (Jvm.Cond.castable "java/lang/IndexOutOfBoundsException" "java/lang/IndexOutOfBoundsException"), (Jvm.Cond.declares ({ cls := "java/lang/RuntimeException", name := "<init>", desc := "()V" } : Jvm.MethodName)), (Jvm.Cond.declares ({ cls := "java/lang/RuntimeException", name := "<init>", desc := "(Ljava/lang/String;)V" } : Jvm.MethodName)), (Jvm.Cond.declares ({ cls := "java/lang/Exception", name := "<init>", desc := "()V" } : Jvm.MethodName)), (Jvm.Cond.declares ({ cls := "java/lang/Exception", name := "<init>", desc := "(Ljava/lang/String;)V" } : Jvm.MethodName)), (Jvm.Cond.declares ({ cls := "java/lang/Throwable", name := "<init>", desc := "()V" } : Jvm.MethodName)), (Jvm.Cond.declares ({ cls := "java/lang/Throwable", name := "<init>", desc := "(Ljava/lang/String;)V" } : Jvm.MethodName)), (Jvm.Cond.selects "java/lang/IndexOutOfBoundsException" ({ cls := "java/lang/Throwable", name := "fillInStackTrace", desc := "(I)Ljava/lang/Throwable;" } : Jvm.MethodName) ({ cls := "java/lang/Throwable", name := "fillInStackTrace", desc := "(I)Ljava/lang/Throwable;" } : Jvm.MethodName)), (Jvm.Cond.selects "java/lang/IndexOutOfBoundsException" ({ cls := "java/lang/Throwable", name := "fillInStackTrace", desc := "()Ljava/lang/Throwable;" } : Jvm.MethodName) ({ cls := "java/lang/Throwable", name := "fillInStackTrace", desc := "()Ljava/lang/Throwable;" } : Jvm.MethodName))]
def gW_1_2 : List Cond := [(Jvm.Cond.lays "java/lang/IndexOutOfBoundsException" "java/lang/Throwable" "cause" "Ljava/lang/Throwable;"), (Jvm.Cond.lays "java/lang/Throwable" "java/lang/Throwable" "cause" "Ljava/lang/Throwable;"), (Jvm.Cond.lays "java/lang/IndexOutOfBoundsException" "java/lang/Throwable" "stackTrace" "[Ljava/lang/StackTraceElement;"), (Jvm.Cond.lays "java/lang/Throwable" "java/lang/Throwable" "stackTrace" "[Ljava/lang/StackTraceElement;"), (Jvm.Cond.lays "java/lang/IndexOutOfBoundsException" "java/lang/Throwable" "suppressedExceptions" "Ljava/util/List;"), (Jvm.Cond.lays "java/lang/Throwable" "java/lang/Throwable" "suppressedExceptions" "Ljava/util/List;"), (Jvm.Cond.lays "java/lang/IndexOutOfBoundsException" "java/lang/Throwable" "detailMessage" "Ljava/lang/String;"), (Jvm.Cond.lays "java/lang/Throwable" "java/lang/Throwable" "detailMessage" "Ljava/lang/String;"), (Jvm.Cond.lays "java/lang/IndexOutOfBoundsException" "java/lang/Throwable" "backtrace" "Ljava/lang/Object;"), (Jvm.Cond.lays "java/lang/Throwable" "java/lang/Throwable" "backtrace" "Ljava/lang/Object;"), (Jvm.Cond.fieldLink "java/lang/Throwable" (198 : Nat) "java/lang/Throwable" "backtrace" "Ljava/lang/Object;"), (Jvm.Cond.superclass "java/lang/Throwable" "java/lang/Object"), (Jvm.Cond.instanceMethod ({ cls := "java/lang/Throwable", name := "<init>", desc := "()V" } : Jvm.MethodName)), (Jvm.Cond.code ({ cls := "java/lang/Throwable", name := "<init>", desc := "()V" } : Jvm.MethodName) prog_18_method_1_code (1 : Nat) (Option.none : Option Jvm.ClassFile.FieldType)), (Jvm.Cond.methodLink "java/lang/Throwable" (1 : Nat) ({ cls := "java/lang/Object", name := "<init>", desc := "()V" } : Jvm.MethodName)), Cond.instanceMethod objectInit, Cond.code objectInit ⟨#[0xb1]⟩ 1 none, (Jvm.Cond.fieldLink "java/lang/Throwable" (13 : Nat) "java/lang/Throwable" "UNASSIGNED_STACK" "[Ljava/lang/StackTraceElement;"), (Jvm.Cond.laysStatic "java/lang/Throwable" "UNASSIGNED_STACK" "[Ljava/lang/StackTraceElement;"), (Jvm.Cond.fieldLink "java/lang/Throwable" (20 : Nat) "java/lang/Throwable" "SUPPRESSED_SENTINEL" "Ljava/util/List;")]
def gW_1_3 : List Cond := [(Jvm.Cond.laysStatic "java/lang/Throwable" "SUPPRESSED_SENTINEL" "Ljava/util/List;"), (Jvm.Cond.methodLink "java/lang/Throwable" (27 : Nat) ({ cls := "java/lang/Throwable", name := "fillInStackTrace", desc := "()Ljava/lang/Throwable;" } : Jvm.MethodName)), (Jvm.Cond.instanceMethod ({ cls := "java/lang/Throwable", name := "fillInStackTrace", desc := "()Ljava/lang/Throwable;" } : Jvm.MethodName)), (Jvm.Cond.sameMethod "java/lang/Throwable" "java/lang/Throwable" "fillInStackTrace" "()Ljava/lang/Throwable;"), (Jvm.Cond.selects "java/lang/IllegalArgumentException" ({ cls := "java/lang/Throwable", name := "fillInStackTrace", desc := "()Ljava/lang/Throwable;" } : Jvm.MethodName) ({ cls := "java/lang/Throwable", name := "fillInStackTrace", desc := "()Ljava/lang/Throwable;" } : Jvm.MethodName)), (Jvm.Cond.selects "java/lang/IllegalStateException" ({ cls := "java/lang/Throwable", name := "fillInStackTrace", desc := "()Ljava/lang/Throwable;" } : Jvm.MethodName) ({ cls := "java/lang/Throwable", name := "fillInStackTrace", desc := "()Ljava/lang/Throwable;" } : Jvm.MethodName)), (Jvm.Cond.codeSync ({ cls := "java/lang/Throwable", name := "fillInStackTrace", desc := "()Ljava/lang/Throwable;" } : Jvm.MethodName) prog_18_method_18_code (1 : Nat) (Option.some (Jvm.ClassFile.FieldType.object "java/lang/Throwable"))), (Jvm.Cond.methodLink "java/lang/Throwable" (202 : Nat) ({ cls := "java/lang/Throwable", name := "fillInStackTrace", desc := "(I)Ljava/lang/Throwable;" } : Jvm.MethodName)), (Jvm.Cond.privateMethod ({ cls := "java/lang/Throwable", name := "fillInStackTrace", desc := "(I)Ljava/lang/Throwable;" } : Jvm.MethodName)), (Jvm.Cond.instanceMethod ({ cls := "java/lang/Throwable", name := "fillInStackTrace", desc := "(I)Ljava/lang/Throwable;" } : Jvm.MethodName)), (Jvm.Cond.instantiable "java/lang/Throwable" (6 : Nat)), (Jvm.Cond.native ({ cls := "java/lang/Throwable", name := "fillInStackTrace", desc := "(I)Ljava/lang/Throwable;" } : Jvm.MethodName)), (Jvm.Cond.stringRef "DaybreakFlags" (304 : Nat) "no such switch"), Cond.methodLink RX5 125 ⟨"java/lang/IndexOutOfBoundsException", "<init>", "(Ljava/lang/String;)V"⟩, (Jvm.Cond.instanceMethod ({ cls := "java/lang/IndexOutOfBoundsException", name := "<init>", desc := "(Ljava/lang/String;)V" } : Jvm.MethodName)), (Jvm.Cond.code ({ cls := "java/lang/IndexOutOfBoundsException", name := "<init>", desc := "(Ljava/lang/String;)V" } : Jvm.MethodName) prog_13_method_2_code (2 : Nat) (Option.none : Option Jvm.ClassFile.FieldType)), (Jvm.Cond.methodLink "java/lang/IndexOutOfBoundsException" (7 : Nat) ({ cls := "java/lang/RuntimeException", name := "<init>", desc := "(Ljava/lang/String;)V" } : Jvm.MethodName)), (Jvm.Cond.instanceMethod ({ cls := "java/lang/RuntimeException", name := "<init>", desc := "(Ljava/lang/String;)V" } : Jvm.MethodName)), (Jvm.Cond.code ({ cls := "java/lang/RuntimeException", name := "<init>", desc := "(Ljava/lang/String;)V" } : Jvm.MethodName) prog_15_method_2_code (2 : Nat) (Option.none : Option Jvm.ClassFile.FieldType)), (Jvm.Cond.methodLink "java/lang/RuntimeException" (7 : Nat) ({ cls := "java/lang/Exception", name := "<init>", desc := "(Ljava/lang/String;)V" } : Jvm.MethodName))]
def gW_1_4 : List Cond := [(Jvm.Cond.instanceMethod ({ cls := "java/lang/Exception", name := "<init>", desc := "(Ljava/lang/String;)V" } : Jvm.MethodName)), (Jvm.Cond.code ({ cls := "java/lang/Exception", name := "<init>", desc := "(Ljava/lang/String;)V" } : Jvm.MethodName) prog_10_method_2_code (2 : Nat) (Option.none : Option Jvm.ClassFile.FieldType)), (Jvm.Cond.methodLink "java/lang/Exception" (7 : Nat) ({ cls := "java/lang/Throwable", name := "<init>", desc := "(Ljava/lang/String;)V" } : Jvm.MethodName)), (Jvm.Cond.instanceMethod ({ cls := "java/lang/Throwable", name := "<init>", desc := "(Ljava/lang/String;)V" } : Jvm.MethodName)), (Jvm.Cond.code ({ cls := "java/lang/Throwable", name := "<init>", desc := "(Ljava/lang/String;)V" } : Jvm.MethodName) prog_18_method_2_code (2 : Nat) (Option.none : Option Jvm.ClassFile.FieldType)), (Jvm.Cond.fieldLink "java/lang/Throwable" (198 : Nat) "java/lang/Throwable" "backtrace" "Ljava/lang/Object;"), (Jvm.Cond.fieldLink "java/lang/Throwable" (31 : Nat) "java/lang/Throwable" "detailMessage" "Ljava/lang/String;"), (Jvm.Cond.fieldLink "java/lang/Throwable" (7 : Nat) "java/lang/Throwable" "cause" "Ljava/lang/Throwable;"), (Jvm.Cond.fieldLink "java/lang/Throwable" (17 : Nat) "java/lang/Throwable" "stackTrace" "[Ljava/lang/StackTraceElement;"), (Jvm.Cond.fieldLink "java/lang/Throwable" (24 : Nat) "java/lang/Throwable" "suppressedExceptions" "Ljava/util/List;"), (Jvm.Cond.soleField "java/lang/Throwable" "backtrace"), (Jvm.Cond.soleField "java/lang/Throwable" "detailMessage"), (Jvm.Cond.soleField "java/lang/Throwable" "cause"), (Jvm.Cond.soleField "java/lang/Throwable" "stackTrace"), (Jvm.Cond.lays "java/lang/IndexOutOfBoundsException" "java/lang/Throwable" "depth" "I"), (Jvm.Cond.soleField "java/lang/Throwable" "depth"), (Jvm.Cond.soleField "java/lang/Throwable" "suppressedExceptions"), (Jvm.Cond.superclass "java/lang/IndexOutOfBoundsException" "java/lang/RuntimeException"), Cond.arrayClass .byte, Cond.methodLink RX5 49 yX5_checkVariant]
def gW_1_5 : List Cond := [Cond.static yX5_checkVariant, Cond.code yX5_checkVariant cX5_checkVariant 2 none, Cond.methodLink RX5 22 yX5_isOutside, Cond.static yX5_isOutside, Cond.code yX5_isOutside cX5_isOutside 3 (some .boolean), (Jvm.Cond.stringRef "DaybreakFlags" (306 : Nat) "no such variant"), Cond.methodLink RX5 53 yX3_weightOf, Cond.instanceMethod yX3_weightOf, Cond.selects RX3 yX3_weightOf yX3_weightOf, Cond.code yX3_weightOf cX3_weightOf 2 (some .int), Cond.methodLink RL 86 yX5_share, Cond.instanceMethod yX5_share, Cond.selects RX5 yX5_share yX5_share, Cond.code yX5_share cX5_share 2 (some .int), Cond.methodLink RX5 72 yX3_farAt, Cond.instanceMethod yX3_farAt, Cond.selects RX3 yX3_farAt yX3_farAt, Cond.code yX3_farAt cX3_farAt 4 (some .int), Cond.constantLong RX3 57 (1000), Cond.methodLink RL 49 yX5_gets]
def gW_1_6 : List Cond := [Cond.instanceMethod yX5_gets, Cond.selects RX5 yX5_gets yX5_gets, Cond.code yX5_gets cX5_gets 6 (some .int), Cond.methodLink RX5 145 yX5_checkAsker, Cond.static yX5_checkAsker, Cond.code yX5_checkAsker cX5_checkAsker 3 none, Cond.classLink RX5 26 "java/lang/IllegalArgumentException", (Jvm.Cond.instantiable "java/lang/IllegalArgumentException" (6 : Nat)), (Jvm.Cond.castable "java/lang/IllegalArgumentException" "java/lang/IllegalArgumentException"), (Jvm.Cond.selects "java/lang/IllegalArgumentException" ({ cls := "java/lang/Throwable", name := "fillInStackTrace", desc := "(I)Ljava/lang/Throwable;" } : Jvm.MethodName) ({ cls := "java/lang/Throwable", name := "fillInStackTrace", desc := "(I)Ljava/lang/Throwable;" } : Jvm.MethodName)), (Jvm.Cond.lays "java/lang/IllegalArgumentException" "java/lang/Throwable" "cause" "Ljava/lang/Throwable;"), (Jvm.Cond.lays "java/lang/IllegalArgumentException" "java/lang/Throwable" "stackTrace" "[Ljava/lang/StackTraceElement;"), (Jvm.Cond.lays "java/lang/IllegalArgumentException" "java/lang/Throwable" "suppressedExceptions" "Ljava/util/List;"), (Jvm.Cond.lays "java/lang/IllegalArgumentException" "java/lang/Throwable" "detailMessage" "Ljava/lang/String;"), (Jvm.Cond.lays "java/lang/IllegalArgumentException" "java/lang/Throwable" "backtrace" "Ljava/lang/Object;"), (Jvm.Cond.stringRef "DaybreakFlags" (308 : Nat) "user or mark out of range"), Cond.methodLink RX5 30 ⟨"java/lang/IllegalArgumentException", "<init>", "(Ljava/lang/String;)V"⟩, (Jvm.Cond.instanceMethod ({ cls := "java/lang/IllegalArgumentException", name := "<init>", desc := "(Ljava/lang/String;)V" } : Jvm.MethodName)), (Jvm.Cond.code ({ cls := "java/lang/IllegalArgumentException", name := "<init>", desc := "(Ljava/lang/String;)V" } : Jvm.MethodName) prog_11_method_2_code (2 : Nat) (Option.none : Option Jvm.ClassFile.FieldType)), (Jvm.Cond.methodLink "java/lang/IllegalArgumentException" (7 : Nat) ({ cls := "java/lang/RuntimeException", name := "<init>", desc := "(Ljava/lang/String;)V" } : Jvm.MethodName))]
def gW_1_7 : List Cond := [(Jvm.Cond.lays "java/lang/IllegalArgumentException" "java/lang/Throwable" "depth" "I"), (Jvm.Cond.superclass "java/lang/IllegalArgumentException" "java/lang/RuntimeException"), Cond.methodLink RX5 148 yX1_become, Cond.instanceMethod yX1_become, Cond.selects RX1 yX1_become yX1_become, Cond.code yX1_become cX1_become 4 none, Cond.methodLink RX5 151 yX5_variantOf, (Jvm.Cond.privateMethod ({ cls := "DaybreakFlags", name := "variantOf", desc := "(LDaybreakFlags$Switch;)I" } : Jvm.MethodName)), Cond.instanceMethod yX5_variantOf, Cond.code yX5_variantOf cX5_variantOf 2 (some .int), Cond.methodLink RX5 155 yX5_reasonOf, (Jvm.Cond.privateMethod ({ cls := "DaybreakFlags", name := "reasonOf", desc := "(LDaybreakFlags$Switch;)I" } : Jvm.MethodName)), Cond.instanceMethod yX5_reasonOf, Cond.code yX5_reasonOf cX5_reasonOf 3 (some .int), Cond.methodLink RX5 340 yX1_findsOn, Cond.instanceMethod yX1_findsOn, Cond.selects RX1 yX1_findsOn yX1_findsOn, Cond.code yX1_findsOn cX1_findsOn 2 (some .boolean), Cond.methodLink RX5 344 yX5_hasNeed, (Jvm.Cond.privateMethod ({ cls := "DaybreakFlags", name := "hasNeed", desc := "(LDaybreakFlags$Switch;)Z" } : Jvm.MethodName))]
def gW_1_8 : List Cond := [Cond.instanceMethod yX5_hasNeed, Cond.code yX5_hasNeed cX5_hasNeed 3 (some .boolean), Cond.methodLink RX5 168 yX3_armOf, Cond.instanceMethod yX3_armOf, Cond.selects RX3 yX3_armOf yX3_armOf, Cond.code yX3_armOf cX3_armOf 3 (some (.object "DaybreakFlags$Arm")), Cond.methodLink RX5 158 yX3_firstRuleFor, Cond.instanceMethod yX3_firstRuleFor, Cond.selects RX3 yX3_firstRuleFor yX3_firstRuleFor, Cond.code yX3_firstRuleFor cX3_firstRuleFor 5 (some .int), Cond.methodLink RX3 81 yX2_isMetBy, Cond.instanceMethod yX2_isMetBy, Cond.selects RX2 yX2_isMetBy yX2_isMetBy, Cond.code yX2_isMetBy cX2_isMetBy 4 (some .boolean), Cond.methodLink RX5 329 yX3_ruleAt, Cond.instanceMethod yX3_ruleAt, Cond.selects RX3 yX3_ruleAt yX3_ruleAt, Cond.code yX3_ruleAt cX3_ruleAt 2 (some (.object "DaybreakFlags$Rule")), Cond.methodLink RX5 141 yX5_bucketOf, Cond.static yX5_bucketOf]
def gW_1_9 : List Cond := [Cond.code yX5_bucketOf cX5_bucketOf 4 (some .int), Cond.methodLink RX5 350 yX5_isInLayer, (Jvm.Cond.privateMethod ({ cls := "DaybreakFlags", name := "isInLayer", desc := "(LDaybreakFlags$Switch;)Z" } : Jvm.MethodName)), Cond.instanceMethod yX5_isInLayer, Cond.code yX5_isInLayer cX5_isInLayer 3 (some .boolean), Cond.methodLink RX5 353 yX1_findsFar, Cond.instanceMethod yX1_findsFar, Cond.selects RX1 yX1_findsFar yX1_findsFar, Cond.code yX1_findsFar cX1_findsFar 3 (some .int), Cond.methodLink RX1 43 yX3_farAt, Cond.methodLink RX5 161 yX5_variantBy, (Jvm.Cond.privateMethod ({ cls := "DaybreakFlags", name := "variantBy", desc := "(LDaybreakFlags$Switch;I)I" } : Jvm.MethodName)), Cond.instanceMethod yX5_variantBy, Cond.code yX5_variantBy cX5_variantBy 5 (some .int), Cond.methodLink RX5 337 yX3_splitBy, Cond.instanceMethod yX3_splitBy, Cond.selects RX3 yX3_splitBy yX3_splitBy, Cond.code yX3_splitBy cX3_splitBy 4 (some .int), Cond.methodLink RL 53 yX5_why, Cond.instanceMethod yX5_why]
def gW_1_10 : List Cond := [Cond.selects RX5 yX5_why yX5_why, Cond.code yX5_why cX5_why 6 (some .int), Cond.methodLink RL 60 yX5_holds, Cond.instanceMethod yX5_holds, Cond.selects RX5 yX5_holds yX5_holds, Cond.code yX5_holds cX5_holds 6 (some .int), Cond.methodLink RL 63 yX5_arm, Cond.instanceMethod yX5_arm, Cond.selects RX5 yX5_arm yX5_arm, Cond.code yX5_arm cX5_arm 5 (some .int), (Jvm.Cond.stringRef "DaybreakFlags" (181 : Nat) "user out of range"), Cond.methodLink RL 101 yX5_arms, Cond.instanceMethod yX5_arms, Cond.selects RX5 yX5_arms yX5_arms, Cond.code yX5_arms cX5_arms 1 (some .int), Cond.methodLink RL 70 yX5_told, Cond.instanceMethod yX5_told, Cond.selects RX5 yX5_told yX5_told, Cond.code yX5_told cX5_told 5 (some .int), Cond.methodLink RX5 192 yX4_countOf]
def gW_1_11 : List Cond := [Cond.instanceMethod yX4_countOf, Cond.selects RX4 yX4_countOf yX4_countOf, Cond.code yX4_countOf cX4_countOf 2 (some .int), Cond.methodLink RX4 25 yX4_isKept, Cond.static yX4_isKept, Cond.code yX4_isKept cX4_isKept 1 (some .boolean), Cond.methodLink RX5 197 yX4_actedOf, Cond.instanceMethod yX4_actedOf, Cond.selects RX4 yX4_actedOf yX4_actedOf, Cond.code yX4_actedOf cX4_actedOf 2 (some .int), Cond.methodLink RX5 200 yX4_sumOf, Cond.instanceMethod yX4_sumOf, Cond.selects RX4 yX4_sumOf yX4_sumOf, Cond.code yX4_sumOf cX4_sumOf 2 (some .int), Cond.methodLink RX5 203 yX4_squaresOf, Cond.instanceMethod yX4_squaresOf, Cond.selects RX4 yX4_squaresOf yX4_squaresOf, Cond.code yX4_squaresOf cX4_squaresOf 2 (some .long), (Jvm.Cond.stringRef "DaybreakFlags" (207 : Nat) "what out of range"), Cond.methodLink RL 73 yX5_mean]
set_option maxRecDepth 100000 in
theorem tb_1 : tables_1_1 = gW_1_0 ++ (gW_1_1 ++ (gW_1_2 ++ (gW_1_3 ++ (gW_1_4 ++ (gW_1_5 ++ (gW_1_6 ++ (gW_1_7 ++ (gW_1_8 ++ (gW_1_9 ++ (gW_1_10 ++ (gW_1_11))))))))))) := rfl
theorem tn_1 {w : Cond} (h : w ∈ tables_1_1) (hg : goodWord w = true) : w ∈ TT := List.mem_filter.mpr ⟨List.mem_append_right _ (show w ∈ tables_1 from List.mem_append_left _ h), hg⟩
theorem tg_1_0 {w : Cond} (h : w ∈ gW_1_0) (hg : goodWord w = true) : w ∈ TT := tn_1 (by rw [tb_1]; exact List.mem_append_left _ h) hg
theorem tg_1_1 {w : Cond} (h : w ∈ gW_1_1) (hg : goodWord w = true) : w ∈ TT := tn_1 (by rw [tb_1]; exact List.mem_append_right _ (List.mem_append_left _ h)) hg
theorem tg_1_2 {w : Cond} (h : w ∈ gW_1_2) (hg : goodWord w = true) : w ∈ TT := tn_1 (by rw [tb_1]; exact List.mem_append_right _ (List.mem_append_right _ (List.mem_append_left _ h))) hg
theorem tg_1_3 {w : Cond} (h : w ∈ gW_1_3) (hg : goodWord w = true) : w ∈ TT := tn_1 (by rw [tb_1]; exact List.mem_append_right _ (List.mem_append_right _ (List.mem_append_right _ (List.mem_append_left _ h)))) hg
theorem tg_1_4 {w : Cond} (h : w ∈ gW_1_4) (hg : goodWord w = true) : w ∈ TT := tn_1 (by rw [tb_1]; exact List.mem_append_right _ (List.mem_append_right _ (List.mem_append_right _ (List.mem_append_right _ (List.mem_append_left _ h))))) hg
theorem tg_1_5 {w : Cond} (h : w ∈ gW_1_5) (hg : goodWord w = true) : w ∈ TT := tn_1 (by rw [tb_1]; exact List.mem_append_right _ (List.mem_append_right _ (List.mem_append_right _ (List.mem_append_right _ (List.mem_append_right _ (List.mem_append_left _ h)))))) hg
theorem tg_1_6 {w : Cond} (h : w ∈ gW_1_6) (hg : goodWord w = true) : w ∈ TT := tn_1 (by rw [tb_1]; exact List.mem_append_right _ (List.mem_append_right _ (List.mem_append_right _ (List.mem_append_right _ (List.mem_append_right _ (List.mem_append_right _ (List.mem_append_left _ h))))))) hg
theorem tg_1_7 {w : Cond} (h : w ∈ gW_1_7) (hg : goodWord w = true) : w ∈ TT := tn_1 (by rw [tb_1]; exact List.mem_append_right _ (List.mem_append_right _ (List.mem_append_right _ (List.mem_append_right _ (List.mem_append_right _ (List.mem_append_right _ (List.mem_append_right _ (List.mem_append_left _ h)))))))) hg
theorem tg_1_8 {w : Cond} (h : w ∈ gW_1_8) (hg : goodWord w = true) : w ∈ TT := tn_1 (by rw [tb_1]; exact List.mem_append_right _ (List.mem_append_right _ (List.mem_append_right _ (List.mem_append_right _ (List.mem_append_right _ (List.mem_append_right _ (List.mem_append_right _ (List.mem_append_right _ (List.mem_append_left _ h))))))))) hg
theorem tg_1_9 {w : Cond} (h : w ∈ gW_1_9) (hg : goodWord w = true) : w ∈ TT := tn_1 (by rw [tb_1]; exact List.mem_append_right _ (List.mem_append_right _ (List.mem_append_right _ (List.mem_append_right _ (List.mem_append_right _ (List.mem_append_right _ (List.mem_append_right _ (List.mem_append_right _ (List.mem_append_right _ (List.mem_append_left _ h)))))))))) hg
theorem tg_1_10 {w : Cond} (h : w ∈ gW_1_10) (hg : goodWord w = true) : w ∈ TT := tn_1 (by rw [tb_1]; exact List.mem_append_right _ (List.mem_append_right _ (List.mem_append_right _ (List.mem_append_right _ (List.mem_append_right _ (List.mem_append_right _ (List.mem_append_right _ (List.mem_append_right _ (List.mem_append_right _ (List.mem_append_right _ (List.mem_append_left _ h))))))))))) hg
theorem tg_1_11 {w : Cond} (h : w ∈ gW_1_11) (hg : goodWord w = true) : w ∈ TT := tn_1 (by rw [tb_1]; exact List.mem_append_right _ (List.mem_append_right _ (List.mem_append_right _ (List.mem_append_right _ (List.mem_append_right _ (List.mem_append_right _ (List.mem_append_right _ (List.mem_append_right _ (List.mem_append_right _ (List.mem_append_right _ (List.mem_append_right _ (h)))))))))))) hg
def gW_2_0 : List Cond := [Cond.instanceMethod yX5_mean, Cond.selects RX5 yX5_mean yX5_mean, Cond.code yX5_mean cX5_mean 4 (some .double), Cond.methodLink RX5 209 yX4_meanOf, Cond.instanceMethod yX4_meanOf, Cond.selects RX4 yX4_meanOf yX4_meanOf, Cond.code yX4_meanOf cX4_meanOf 3 (some .double), Cond.methodLink RX4 33 yX4_countOf, Cond.methodLink RX4 37 yX4_sumOf, Cond.methodLink RL 77 yX5_lift, Cond.instanceMethod yX5_lift, Cond.selects RX5 yX5_lift yX5_lift, Cond.code yX5_lift cX5_lift 4 (some .double), Cond.methodLink RX5 213 yX4_liftOf, Cond.instanceMethod yX4_liftOf, Cond.selects RX4 yX4_liftOf yX4_liftOf, Cond.code yX4_liftOf cX4_liftOf 2 (some .double), Cond.methodLink RX4 40 yX4_meanOf, Cond.methodLink RL 80 yX5_sure, Cond.instanceMethod yX5_sure]
def gW_2_1 : List Cond := [Cond.selects RX5 yX5_sure yX5_sure, Cond.code yX5_sure cX5_sure 4 (some .double), Cond.methodLink RX5 216 yX4_surenessOf, Cond.instanceMethod yX4_surenessOf, Cond.selects RX4 yX4_surenessOf yX4_surenessOf, Cond.code yX4_surenessOf cX4_surenessOf 6 (some .double), Cond.methodLink RX4 44 yX4_spreadByCount, (Jvm.Cond.privateMethod ({ cls := "DaybreakFlags$Tally", name := "spreadByCount", desc := "(I)D" } : Jvm.MethodName)), Cond.instanceMethod yX4_spreadByCount, Cond.instantiable RX4 5, Cond.code yX4_spreadByCount cX4_spreadByCount 7 (some .double), Cond.methodLink RX4 50 yX4_squaresOf, Cond.methodLink RX4 47 yX4_liftOf, Cond.methodLink RL 83 yX5_bad, Cond.instanceMethod yX5_bad, Cond.selects RX5 yX5_bad yX5_bad, Cond.code yX5_bad cX5_bad 2 (some .int), Cond.methodLink RX5 219 yX3_badness, Cond.instanceMethod yX3_badness, Cond.selects RX3 yX3_badness yX3_badness]
def gW_2_2 : List Cond := [Cond.code yX3_badness cX3_badness 10 (some .int), Cond.methodLink RX3 124 yX4_countOf, Cond.constantLong RX3 128 (10), Cond.methodLink RL 92 yX5_best, Cond.instanceMethod yX5_best, Cond.selects RX5 yX5_best yX5_best, Cond.code yX5_best cX5_best 2 (some .int), Cond.methodLink RX5 227 yX4_bestVariant, Cond.instanceMethod yX4_bestVariant, Cond.selects RX4 yX4_bestVariant yX4_bestVariant, Cond.code yX4_bestVariant cX4_bestVariant 3 (some .int), Cond.methodLink RL 66 yX5_reach, Cond.instanceMethod yX5_reach, Cond.selects RX5 yX5_reach yX5_reach, Cond.code yX5_reach cX5_reach 7 (some .int), Cond.methodLink RX5 230 yX5_checkMany, Cond.static yX5_checkMany, Cond.code yX5_checkMany cX5_checkMany 1 none, (Jvm.Cond.stringRef "DaybreakFlags" (310 : Nat) "many out of range"), Cond.methodLink RX5 233 yX1_becomeCounted]
def gW_2_3 : List Cond := [Cond.instanceMethod yX1_becomeCounted, Cond.selects RX1 yX1_becomeCounted yX1_becomeCounted, Cond.code yX1_becomeCounted cX1_becomeCounted 2 none, Cond.methodLink RX1 27 yX1_become, Cond.methodLink RL 98 yX5_both, Cond.instanceMethod yX5_both, Cond.selects RX5 yX5_both yX5_both, Cond.code yX5_both cX5_both 8 (some .int), Cond.methodLink RL 95 yX5_wouldChange, Cond.instanceMethod yX5_wouldChange, Cond.selects RX5 yX5_wouldChange yX5_wouldChange, Cond.code yX5_wouldChange cX5_wouldChange 8 (some .int), (Jvm.Cond.stringRef "DaybreakFlags" (236 : Nat) "share out of range"), Cond.methodLink RX5 238 yX1_supposeRamp, Cond.instanceMethod yX1_supposeRamp, Cond.selects RX1 yX1_supposeRamp yX1_supposeRamp, Cond.code yX1_supposeRamp cX1_supposeRamp 3 none, Cond.methodLink RL 89 yX5_shareIn, Cond.instanceMethod yX5_shareIn, Cond.selects RX5 yX5_shareIn yX5_shareIn]
def gW_2_4 : List Cond := [Cond.code yX5_shareIn cX5_shareIn 4 (some .int), (Jvm.Cond.stringRef "DaybreakFlags" (135 : Nat) "ticks out of range"), Cond.methodLink RL 31 yX5_digest, Cond.instanceMethod yX5_digest, Cond.selects RX5 yX5_digest yX5_digest, Cond.code yX5_digest cX5_digest 5 (some .long), Cond.constantLong RX5 244 (2687), Cond.methodLink RX5 246 yX5_switches, Cond.instanceMethod yX5_switches, Cond.selects RX5 yX5_switches yX5_switches, Cond.code yX5_switches cX5_switches 1 (some .int), Cond.methodLink RX5 249 yX5_withNext, Cond.static yX5_withNext, Cond.code yX5_withNext cX5_withNext 4 (some .long), Cond.constantLong RX5 299 (31), Cond.methodLink RX5 253 yX5_arms, Cond.methodLink RX5 256 yX5_left, Cond.instanceMethod yX5_left, Cond.selects RX5 yX5_left yX5_left, Cond.code yX5_left cX5_left 7 (some .int)]
def gW_2_5 : List Cond := [(Jvm.Cond.stringRef "DaybreakFlags" (137 : Nat) "no such layer"), Cond.methodLink RX5 259 yX5_withSwitch, (Jvm.Cond.privateMethod ({ cls := "DaybreakFlags", name := "withSwitch", desc := "(JI)J" } : Jvm.MethodName)), Cond.instanceMethod yX5_withSwitch, Cond.code yX5_withSwitch cX5_withSwitch 9 (some .long), Cond.methodLink RX5 273 yX5_share, Cond.methodLink RX5 276 yX5_bad, Cond.methodLink RX5 279 yX5_isTrusted, Cond.instanceMethod yX5_isTrusted, Cond.selects RX5 yX5_isTrusted yX5_isTrusted, Cond.code yX5_isTrusted cX5_isTrusted 2 (some .boolean), Cond.methodLink RX5 223 yX3_canBeTrusted, Cond.instanceMethod yX3_canBeTrusted, Cond.selects RX3 yX3_canBeTrusted yX3_canBeTrusted, Cond.code yX3_canBeTrusted cX3_canBeTrusted 3 (some .boolean), Cond.methodLink RX3 130 yX3_badness, Cond.methodLink RX3 134 yX3_mostBadness, Cond.static yX3_mostBadness, Cond.code yX3_mostBadness cX3_mostBadness 1 (some .int), Cond.methodLink RX5 283 yX5_best]
def gW_2_6 : List Cond := [Cond.methodLink RX5 289 yX5_weight, Cond.methodLink RX5 292 yX5_told, Cond.methodLink RX5 296 yX5_reach, Cond.methodLink RX5 263 yX5_gets, Cond.methodLink RX5 267 yX5_why, Cond.methodLink RX5 270 yX5_arm, Cond.classLink RL 9 RX6, Cond.instantiable RX6 11, Cond.methodLink RL 11 yX6_init, Cond.instanceMethod yX6_init, Cond.code yX6_init cX6_init 3 none, Cond.methodLink RX6 1 ⟨"java/lang/Object", "<init>", "()V"⟩, Cond.classLink RX6 7 RX5, Cond.methodLink RX6 9 yX5_init, Cond.instanceMethod yX5_init, Cond.code yX5_init cX5_init 1 none, Cond.methodLink RX5 1 ⟨"java/lang/Object", "<init>", "()V"⟩, Cond.classLink RX5 9 RX3, (Jvm.Cond.arrayOver (Jvm.ClassFile.FieldType.object "DaybreakFlags$Switch")), Cond.classLink RX5 15 RX1]
def gW_2_7 : List Cond := [Cond.instantiable RX1 6, (Jvm.Cond.methodLinkNest "DaybreakFlags" (17 : Nat) ({ cls := "DaybreakFlags$Asker", name := "<init>", desc := "()V" } : Jvm.MethodName) "DaybreakFlags"), Cond.instanceMethod yX1_init, Cond.code yX1_init cX1_init 1 none, Cond.methodLink RX1 3 ⟨"java/lang/Object", "<init>", "()V"⟩, Cond.fieldLink RX1 18 "DaybreakFlags$Asker" "user" "I", (Jvm.Cond.fieldLinkNest "DaybreakFlags" (320 : Nat) "DaybreakFlags$Asker" "user" "I" "DaybreakFlags"), Cond.fieldLink RX1 21 "DaybreakFlags$Asker" "first" "I", (Jvm.Cond.fieldLinkNest "DaybreakFlags" (323 : Nat) "DaybreakFlags$Asker" "first" "I" "DaybreakFlags"), Cond.fieldLink RX1 24 "DaybreakFlags$Asker" "second" "I", (Jvm.Cond.fieldLinkNest "DaybreakFlags" (326 : Nat) "DaybreakFlags$Asker" "second" "I" "DaybreakFlags"), Cond.fieldLink RX1 9 "DaybreakFlags$Asker" "turned" "I", Cond.fieldLink RX1 15 "DaybreakFlags$Asker" "ramped" "I", Cond.fieldLink RX1 31 "DaybreakFlags$Asker" "rampedTo" "I", (Jvm.Cond.lays "DaybreakFlags$Asker" "DaybreakFlags$Asker" "user" "I"), (Jvm.Cond.soleField "DaybreakFlags$Asker" "user"), (Jvm.Cond.lays "DaybreakFlags$Asker" "DaybreakFlags$Asker" "first" "I"), (Jvm.Cond.soleField "DaybreakFlags$Asker" "first"), (Jvm.Cond.lays "DaybreakFlags$Asker" "DaybreakFlags$Asker" "second" "I"), (Jvm.Cond.soleField "DaybreakFlags$Asker" "second")]
def gW_2_8 : List Cond := [(Jvm.Cond.lays "DaybreakFlags$Asker" "DaybreakFlags$Asker" "turned" "I"), (Jvm.Cond.soleField "DaybreakFlags$Asker" "turned"), (Jvm.Cond.lays "DaybreakFlags$Asker" "DaybreakFlags$Asker" "ramped" "I"), (Jvm.Cond.soleField "DaybreakFlags$Asker" "ramped"), (Jvm.Cond.lays "DaybreakFlags$Asker" "DaybreakFlags$Asker" "rampedTo" "I"), (Jvm.Cond.soleField "DaybreakFlags$Asker" "rampedTo"), (Jvm.Cond.superclass "DaybreakFlags$Asker" "java/lang/Object"), Cond.fieldLink RX5 11 "DaybreakFlags" "row" "[LDaybreakFlags$Switch;", Cond.fieldLink RX5 18 "DaybreakFlags" "asker" "LDaybreakFlags$Asker;", Cond.fieldLink RX5 33 "DaybreakFlags" "switchCount" "I", Cond.fieldLink RX5 165 "DaybreakFlags" "armCount" "I", Cond.fieldLink RX5 132 "DaybreakFlags" "holdout" "I", Cond.fieldLink RX5 69 "DaybreakFlags" "clock" "I", (Jvm.Cond.laysFinal "DaybreakFlags" "DaybreakFlags" "row" "[LDaybreakFlags$Switch;"), (Jvm.Cond.soleField "DaybreakFlags" "row"), (Jvm.Cond.laysFinal "DaybreakFlags" "DaybreakFlags" "asker" "LDaybreakFlags$Asker;"), (Jvm.Cond.soleField "DaybreakFlags" "asker"), (Jvm.Cond.lays "DaybreakFlags" "DaybreakFlags" "switchCount" "I"), (Jvm.Cond.soleField "DaybreakFlags" "switchCount"), (Jvm.Cond.lays "DaybreakFlags" "DaybreakFlags" "armCount" "I")]
def gW_2_9 : List Cond := [(Jvm.Cond.soleField "DaybreakFlags" "armCount"), (Jvm.Cond.lays "DaybreakFlags" "DaybreakFlags" "holdout" "I"), (Jvm.Cond.soleField "DaybreakFlags" "holdout"), (Jvm.Cond.lays "DaybreakFlags" "DaybreakFlags" "clock" "I"), (Jvm.Cond.soleField "DaybreakFlags" "clock"), (Jvm.Cond.superclass "DaybreakFlags" "java/lang/Object"), Cond.classLink RX6 16 "[I", (Jvm.Cond.arrayOver (Jvm.ClassFile.FieldType.array Jvm.ClassFile.FieldType.int)), Cond.classLink RX6 22 "[[I", Cond.classLink RX6 26 "[[[I", (Jvm.Cond.arrayOver (Jvm.ClassFile.FieldType.array (Jvm.ClassFile.FieldType.array Jvm.ClassFile.FieldType.int))), Cond.fieldLink RX6 10 "DaybreakFlagsLaw$Desk" "m" "LDaybreakFlags;", Cond.fieldLink RL 14 "DaybreakFlagsLaw$Desk" "m" "LDaybreakFlags;", Cond.fieldLink RX6 34 "DaybreakFlagsLaw$Desk" "s" "[I", Cond.fieldLink RX6 37 "DaybreakFlagsLaw$Desk" "draws" "I", Cond.fieldLink RX6 64 "DaybreakFlagsLaw$Desk" "clock" "I", Cond.fieldLink RX6 114 "DaybreakFlagsLaw$Desk" "held" "I", Cond.fieldLink RX6 57 "DaybreakFlagsLaw$Desk" "switches" "I", Cond.fieldLink RL 37 "DaybreakFlagsLaw$Desk" "switches" "I", Cond.fieldLink RX6 18 "DaybreakFlagsLaw$Desk" "one" "[[I"]
def gW_2_10 : List Cond := [Cond.fieldLink RL 41 "DaybreakFlagsLaw$Desk" "one" "[[I", Cond.fieldLink RX6 23 "DaybreakFlagsLaw$Desk" "weight" "[[I", Cond.fieldLink RX6 28 "DaybreakFlagsLaw$Desk" "rules" "[[[I", Cond.fieldLink RX6 31 "DaybreakFlagsLaw$Desk" "arms" "[[I", Cond.fieldLink RX6 156 "DaybreakFlagsLaw$Desk" "reason" "I", (Jvm.Cond.laysFinal "DaybreakFlagsLaw$Desk" "DaybreakFlagsLaw$Desk" "m" "LDaybreakFlags;"), (Jvm.Cond.soleField "DaybreakFlagsLaw$Desk" "m"), (Jvm.Cond.laysFinal "DaybreakFlagsLaw$Desk" "DaybreakFlagsLaw$Desk" "s" "[I"), (Jvm.Cond.soleField "DaybreakFlagsLaw$Desk" "s"), (Jvm.Cond.lays "DaybreakFlagsLaw$Desk" "DaybreakFlagsLaw$Desk" "draws" "I"), (Jvm.Cond.soleField "DaybreakFlagsLaw$Desk" "draws"), (Jvm.Cond.lays "DaybreakFlagsLaw$Desk" "DaybreakFlagsLaw$Desk" "clock" "I"), (Jvm.Cond.soleField "DaybreakFlagsLaw$Desk" "clock"), (Jvm.Cond.lays "DaybreakFlagsLaw$Desk" "DaybreakFlagsLaw$Desk" "held" "I"), (Jvm.Cond.soleField "DaybreakFlagsLaw$Desk" "held"), (Jvm.Cond.lays "DaybreakFlagsLaw$Desk" "DaybreakFlagsLaw$Desk" "switches" "I"), (Jvm.Cond.soleField "DaybreakFlagsLaw$Desk" "switches"), (Jvm.Cond.laysFinal "DaybreakFlagsLaw$Desk" "DaybreakFlagsLaw$Desk" "one" "[[I"), (Jvm.Cond.soleField "DaybreakFlagsLaw$Desk" "one"), (Jvm.Cond.laysFinal "DaybreakFlagsLaw$Desk" "DaybreakFlagsLaw$Desk" "weight" "[[I")]
def gW_2_11 : List Cond := [(Jvm.Cond.soleField "DaybreakFlagsLaw$Desk" "weight"), (Jvm.Cond.laysFinal "DaybreakFlagsLaw$Desk" "DaybreakFlagsLaw$Desk" "rules" "[[[I"), (Jvm.Cond.soleField "DaybreakFlagsLaw$Desk" "rules"), (Jvm.Cond.lays "DaybreakFlagsLaw$Desk" "DaybreakFlagsLaw$Desk" "arms" "[[I"), (Jvm.Cond.soleField "DaybreakFlagsLaw$Desk" "arms"), (Jvm.Cond.lays "DaybreakFlagsLaw$Desk" "DaybreakFlagsLaw$Desk" "reason" "I"), (Jvm.Cond.soleField "DaybreakFlagsLaw$Desk" "reason"), (Jvm.Cond.superclass "DaybreakFlagsLaw$Desk" "java/lang/Object"), Cond.arrayClass .int, Cond.methodLink RL 45 yX6_draw, Cond.instanceMethod yX6_draw, Cond.selects RX6 yX6_draw yX6_draw, Cond.code yX6_draw cX6_draw 3 (some .int), (Jvm.Cond.methodLinkNest "DaybreakFlagsLaw$Desk" (41 : Nat) ({ cls := "DaybreakFlagsLaw", name := "cell", desc := "([II)I" } : Jvm.MethodName) "DaybreakFlagsLaw"), Cond.static yL_cell, Cond.code yL_cell cL_cell 2 (some .int), Cond.constant RL 8 (790386105), (Jvm.Cond.methodLinkNest "DaybreakFlagsLaw$Desk" (47 : Nat) ({ cls := "DaybreakFlagsLaw", name := "below", desc := "(II)I" } : Jvm.MethodName) "DaybreakFlagsLaw"), Cond.static yL_below, Cond.code yL_below cL_below 2 (some .int)]
set_option maxRecDepth 100000 in
theorem tb_2 : tables_1_2 = gW_2_0 ++ (gW_2_1 ++ (gW_2_2 ++ (gW_2_3 ++ (gW_2_4 ++ (gW_2_5 ++ (gW_2_6 ++ (gW_2_7 ++ (gW_2_8 ++ (gW_2_9 ++ (gW_2_10 ++ (gW_2_11))))))))))) := rfl
theorem tn_2 {w : Cond} (h : w ∈ tables_1_2) (hg : goodWord w = true) : w ∈ TT := List.mem_filter.mpr ⟨List.mem_append_right _ (show w ∈ tables_1 from List.mem_append_right _ (List.mem_append_left _ h)), hg⟩
theorem tg_2_0 {w : Cond} (h : w ∈ gW_2_0) (hg : goodWord w = true) : w ∈ TT := tn_2 (by rw [tb_2]; exact List.mem_append_left _ h) hg
theorem tg_2_1 {w : Cond} (h : w ∈ gW_2_1) (hg : goodWord w = true) : w ∈ TT := tn_2 (by rw [tb_2]; exact List.mem_append_right _ (List.mem_append_left _ h)) hg
theorem tg_2_2 {w : Cond} (h : w ∈ gW_2_2) (hg : goodWord w = true) : w ∈ TT := tn_2 (by rw [tb_2]; exact List.mem_append_right _ (List.mem_append_right _ (List.mem_append_left _ h))) hg
theorem tg_2_3 {w : Cond} (h : w ∈ gW_2_3) (hg : goodWord w = true) : w ∈ TT := tn_2 (by rw [tb_2]; exact List.mem_append_right _ (List.mem_append_right _ (List.mem_append_right _ (List.mem_append_left _ h)))) hg
theorem tg_2_4 {w : Cond} (h : w ∈ gW_2_4) (hg : goodWord w = true) : w ∈ TT := tn_2 (by rw [tb_2]; exact List.mem_append_right _ (List.mem_append_right _ (List.mem_append_right _ (List.mem_append_right _ (List.mem_append_left _ h))))) hg
theorem tg_2_5 {w : Cond} (h : w ∈ gW_2_5) (hg : goodWord w = true) : w ∈ TT := tn_2 (by rw [tb_2]; exact List.mem_append_right _ (List.mem_append_right _ (List.mem_append_right _ (List.mem_append_right _ (List.mem_append_right _ (List.mem_append_left _ h)))))) hg
theorem tg_2_6 {w : Cond} (h : w ∈ gW_2_6) (hg : goodWord w = true) : w ∈ TT := tn_2 (by rw [tb_2]; exact List.mem_append_right _ (List.mem_append_right _ (List.mem_append_right _ (List.mem_append_right _ (List.mem_append_right _ (List.mem_append_right _ (List.mem_append_left _ h))))))) hg
theorem tg_2_7 {w : Cond} (h : w ∈ gW_2_7) (hg : goodWord w = true) : w ∈ TT := tn_2 (by rw [tb_2]; exact List.mem_append_right _ (List.mem_append_right _ (List.mem_append_right _ (List.mem_append_right _ (List.mem_append_right _ (List.mem_append_right _ (List.mem_append_right _ (List.mem_append_left _ h)))))))) hg
theorem tg_2_8 {w : Cond} (h : w ∈ gW_2_8) (hg : goodWord w = true) : w ∈ TT := tn_2 (by rw [tb_2]; exact List.mem_append_right _ (List.mem_append_right _ (List.mem_append_right _ (List.mem_append_right _ (List.mem_append_right _ (List.mem_append_right _ (List.mem_append_right _ (List.mem_append_right _ (List.mem_append_left _ h))))))))) hg
theorem tg_2_9 {w : Cond} (h : w ∈ gW_2_9) (hg : goodWord w = true) : w ∈ TT := tn_2 (by rw [tb_2]; exact List.mem_append_right _ (List.mem_append_right _ (List.mem_append_right _ (List.mem_append_right _ (List.mem_append_right _ (List.mem_append_right _ (List.mem_append_right _ (List.mem_append_right _ (List.mem_append_right _ (List.mem_append_left _ h)))))))))) hg
theorem tg_2_10 {w : Cond} (h : w ∈ gW_2_10) (hg : goodWord w = true) : w ∈ TT := tn_2 (by rw [tb_2]; exact List.mem_append_right _ (List.mem_append_right _ (List.mem_append_right _ (List.mem_append_right _ (List.mem_append_right _ (List.mem_append_right _ (List.mem_append_right _ (List.mem_append_right _ (List.mem_append_right _ (List.mem_append_right _ (List.mem_append_left _ h))))))))))) hg
theorem tg_2_11 {w : Cond} (h : w ∈ gW_2_11) (hg : goodWord w = true) : w ∈ TT := tn_2 (by rw [tb_2]; exact List.mem_append_right _ (List.mem_append_right _ (List.mem_append_right _ (List.mem_append_right _ (List.mem_append_right _ (List.mem_append_right _ (List.mem_append_right _ (List.mem_append_right _ (List.mem_append_right _ (List.mem_append_right _ (List.mem_append_right _ (h)))))))))))) hg
def gW_3_0 : List Cond := [Cond.constant RL 7 (2147483647), Cond.methodLink RL 18 yX6_found, Cond.instanceMethod yX6_found, Cond.selects RX6 yX6_found yX6_found, Cond.code yX6_found cX6_found 2 (some .boolean), Cond.methodLink RX6 123 yX6_add, Cond.instanceMethod yX6_add, Cond.selects RX6 yX6_add yX6_add, Cond.code yX6_add cX6_add 2 (some .boolean), Cond.methodLink RX6 60 yX6_draw, Cond.methodLink RX6 67 yX5_add, Cond.instanceMethod yX5_add, Cond.selects RX5 yX5_add yX5_add, Cond.code yX5_add cX5_add 5 (some .int), (Jvm.Cond.stringRef "DaybreakFlags" (28 : Nat) "salt or variants out of range"), Cond.classLink RX5 37 "java/lang/IllegalStateException", (Jvm.Cond.instantiable "java/lang/IllegalStateException" (6 : Nat)), (Jvm.Cond.castable "java/lang/IllegalStateException" "java/lang/IllegalStateException"), (Jvm.Cond.selects "java/lang/IllegalStateException" ({ cls := "java/lang/Throwable", name := "fillInStackTrace", desc := "(I)Ljava/lang/Throwable;" } : Jvm.MethodName) ({ cls := "java/lang/Throwable", name := "fillInStackTrace", desc := "(I)Ljava/lang/Throwable;" } : Jvm.MethodName)), (Jvm.Cond.lays "java/lang/IllegalStateException" "java/lang/Throwable" "cause" "Ljava/lang/Throwable;")]
def gW_3_1 : List Cond := [(Jvm.Cond.lays "java/lang/IllegalStateException" "java/lang/Throwable" "stackTrace" "[Ljava/lang/StackTraceElement;"), (Jvm.Cond.lays "java/lang/IllegalStateException" "java/lang/Throwable" "suppressedExceptions" "Ljava/util/List;"), (Jvm.Cond.lays "java/lang/IllegalStateException" "java/lang/Throwable" "detailMessage" "Ljava/lang/String;"), (Jvm.Cond.lays "java/lang/IllegalStateException" "java/lang/Throwable" "backtrace" "Ljava/lang/Object;"), (Jvm.Cond.stringRef "DaybreakFlags" (39 : Nat) "no more switches"), Cond.methodLink RX5 41 ⟨"java/lang/IllegalStateException", "<init>", "(Ljava/lang/String;)V"⟩, (Jvm.Cond.instanceMethod ({ cls := "java/lang/IllegalStateException", name := "<init>", desc := "(Ljava/lang/String;)V" } : Jvm.MethodName)), (Jvm.Cond.code ({ cls := "java/lang/IllegalStateException", name := "<init>", desc := "(Ljava/lang/String;)V" } : Jvm.MethodName) prog_12_method_2_code (2 : Nat) (Option.none : Option Jvm.ClassFile.FieldType)), (Jvm.Cond.methodLink "java/lang/IllegalStateException" (7 : Nat) ({ cls := "java/lang/RuntimeException", name := "<init>", desc := "(Ljava/lang/String;)V" } : Jvm.MethodName)), (Jvm.Cond.lays "java/lang/IllegalStateException" "java/lang/Throwable" "depth" "I"), (Jvm.Cond.superclass "java/lang/IllegalStateException" "java/lang/RuntimeException"), Cond.instantiable RX3 18, Cond.methodLink RX5 42 yX3_init, Cond.instanceMethod yX3_init, Cond.code yX3_init cX3_init 5 none, Cond.methodLink RX3 3 ⟨"java/lang/Object", "<init>", "()V"⟩, Cond.classLink RX3 15 RX2, (Jvm.Cond.arrayOver (Jvm.ClassFile.FieldType.object "DaybreakFlags$Rule")), Cond.classLink RX3 21 RX4, (Jvm.Cond.methodLinkNest "DaybreakFlags$Switch" (23 : Nat) ({ cls := "DaybreakFlags$Tally", name := "<init>", desc := "()V" } : Jvm.MethodName) "DaybreakFlags")]
def gW_3_2 : List Cond := [Cond.instanceMethod yX4_init, Cond.code yX4_init cX4_init 1 none, Cond.methodLink RX4 3 ⟨"java/lang/Object", "<init>", "()V"⟩, Cond.fieldLink RX4 9 "DaybreakFlags$Tally" "counts" "[I", Cond.fieldLink RX4 15 "DaybreakFlags$Tally" "acted" "[I", Cond.fieldLink RX4 18 "DaybreakFlags$Tally" "sums" "[I", Cond.fieldLink RX4 21 "DaybreakFlags$Tally" "squares" "[J", Cond.fieldLink RX4 29 "DaybreakFlags$Tally" "total" "I", (Jvm.Cond.fieldLinkNest "DaybreakFlags$Switch" (121 : Nat) "DaybreakFlags$Tally" "total" "I" "DaybreakFlags"), (Jvm.Cond.laysFinal "DaybreakFlags$Tally" "DaybreakFlags$Tally" "counts" "[I"), (Jvm.Cond.soleField "DaybreakFlags$Tally" "counts"), (Jvm.Cond.laysFinal "DaybreakFlags$Tally" "DaybreakFlags$Tally" "acted" "[I"), (Jvm.Cond.soleField "DaybreakFlags$Tally" "acted"), (Jvm.Cond.laysFinal "DaybreakFlags$Tally" "DaybreakFlags$Tally" "sums" "[I"), (Jvm.Cond.soleField "DaybreakFlags$Tally" "sums"), (Jvm.Cond.laysFinal "DaybreakFlags$Tally" "DaybreakFlags$Tally" "squares" "[J"), (Jvm.Cond.soleField "DaybreakFlags$Tally" "squares"), (Jvm.Cond.lays "DaybreakFlags$Tally" "DaybreakFlags$Tally" "total" "I"), (Jvm.Cond.soleField "DaybreakFlags$Tally" "total"), (Jvm.Cond.superclass "DaybreakFlags$Tally" "java/lang/Object")]
def gW_3_3 : List Cond := [Cond.arrayClass .long, Cond.fieldLink RX3 38 "DaybreakFlags$Switch" "number" "I", (Jvm.Cond.fieldLinkNest "DaybreakFlags$Asker" (40 : Nat) "DaybreakFlags$Switch" "number" "I" "DaybreakFlags"), (Jvm.Cond.fieldLinkNest "DaybreakFlags" (314 : Nat) "DaybreakFlags$Switch" "number" "I" "DaybreakFlags"), Cond.fieldLink RX3 41 "DaybreakFlags$Switch" "salt" "I", (Jvm.Cond.fieldLinkNest "DaybreakFlags" (334 : Nat) "DaybreakFlags$Switch" "salt" "I" "DaybreakFlags"), Cond.fieldLink RX3 44 "DaybreakFlags$Switch" "variantCount" "I", (Jvm.Cond.fieldLinkNest "DaybreakFlags" (286 : Nat) "DaybreakFlags$Switch" "variantCount" "I" "DaybreakFlags"), Cond.fieldLink RX3 47 "DaybreakFlags$Switch" "isSticky" "Z", (Jvm.Cond.fieldLinkNest "DaybreakFlags" (347 : Nat) "DaybreakFlags$Switch" "isSticky" "Z" "DaybreakFlags"), Cond.fieldLink RX3 9 "DaybreakFlags$Switch" "weights" "[I", Cond.fieldLink RX3 17 "DaybreakFlags$Switch" "rules" "[LDaybreakFlags$Rule;", Cond.fieldLink RX3 24 "DaybreakFlags$Switch" "tally" "LDaybreakFlags$Tally;", (Jvm.Cond.fieldLinkNest "DaybreakFlags" (188 : Nat) "DaybreakFlags$Switch" "tally" "LDaybreakFlags$Tally;" "DaybreakFlags"), Cond.fieldLink RX3 85 "DaybreakFlags$Switch" "newest" "LDaybreakFlags$Arm;", (Jvm.Cond.fieldLinkNest "DaybreakFlags" (107 : Nat) "DaybreakFlags$Switch" "ruleCount" "I" "DaybreakFlags"), Cond.fieldLink RX3 74 "DaybreakFlags$Switch" "ruleCount" "I", (Jvm.Cond.fieldLinkNest "DaybreakFlags" (63 : Nat) "DaybreakFlags$Switch" "isOn" "Z" "DaybreakFlags"), (Jvm.Cond.fieldLinkNest "DaybreakFlags$Asker" (34 : Nat) "DaybreakFlags$Switch" "isOn" "Z" "DaybreakFlags"), Cond.fieldLink RX3 28 "DaybreakFlags$Switch" "startShare" "I"]
def gW_3_4 : List Cond := [Cond.fieldLink RX3 51 "DaybreakFlags$Switch" "step" "I", Cond.fieldLink RX3 54 "DaybreakFlags$Switch" "rampedAt" "I", Cond.fieldLink RX3 32 "DaybreakFlags$Switch" "layer" "I", (Jvm.Cond.fieldLinkNest "DaybreakFlags" (88 : Nat) "DaybreakFlags$Switch" "layer" "I" "DaybreakFlags"), (Jvm.Cond.fieldLinkNest "DaybreakFlags" (91 : Nat) "DaybreakFlags$Switch" "from" "I" "DaybreakFlags"), Cond.fieldLink RX3 59 "DaybreakFlags$Switch" "from" "I", (Jvm.Cond.fieldLinkNest "DaybreakFlags" (94 : Nat) "DaybreakFlags$Switch" "to" "I" "DaybreakFlags"), Cond.fieldLink RX3 68 "DaybreakFlags$Switch" "to" "I", Cond.fieldLink RX3 35 "DaybreakFlags$Switch" "needed" "I", (Jvm.Cond.fieldLinkNest "DaybreakFlags" (99 : Nat) "DaybreakFlags$Switch" "needed" "I" "DaybreakFlags"), (Jvm.Cond.fieldLinkNest "DaybreakFlags" (102 : Nat) "DaybreakFlags$Switch" "neededVariant" "I" "DaybreakFlags"), (Jvm.Cond.laysFinal "DaybreakFlags$Switch" "DaybreakFlags$Switch" "number" "I"), (Jvm.Cond.soleField "DaybreakFlags$Switch" "number"), (Jvm.Cond.laysFinal "DaybreakFlags$Switch" "DaybreakFlags$Switch" "salt" "I"), (Jvm.Cond.soleField "DaybreakFlags$Switch" "salt"), (Jvm.Cond.laysFinal "DaybreakFlags$Switch" "DaybreakFlags$Switch" "variantCount" "I"), (Jvm.Cond.soleField "DaybreakFlags$Switch" "variantCount"), (Jvm.Cond.laysFinal "DaybreakFlags$Switch" "DaybreakFlags$Switch" "isSticky" "Z"), (Jvm.Cond.soleField "DaybreakFlags$Switch" "isSticky"), (Jvm.Cond.laysFinal "DaybreakFlags$Switch" "DaybreakFlags$Switch" "weights" "[I")]
def gW_3_5 : List Cond := [(Jvm.Cond.soleField "DaybreakFlags$Switch" "weights"), (Jvm.Cond.laysFinal "DaybreakFlags$Switch" "DaybreakFlags$Switch" "rules" "[LDaybreakFlags$Rule;"), (Jvm.Cond.soleField "DaybreakFlags$Switch" "rules"), (Jvm.Cond.laysFinal "DaybreakFlags$Switch" "DaybreakFlags$Switch" "tally" "LDaybreakFlags$Tally;"), (Jvm.Cond.soleField "DaybreakFlags$Switch" "tally"), (Jvm.Cond.lays "DaybreakFlags$Switch" "DaybreakFlags$Switch" "newest" "LDaybreakFlags$Arm;"), (Jvm.Cond.soleField "DaybreakFlags$Switch" "newest"), (Jvm.Cond.lays "DaybreakFlags$Switch" "DaybreakFlags$Switch" "ruleCount" "I"), (Jvm.Cond.soleField "DaybreakFlags$Switch" "ruleCount"), (Jvm.Cond.lays "DaybreakFlags$Switch" "DaybreakFlags$Switch" "isOn" "Z"), (Jvm.Cond.soleField "DaybreakFlags$Switch" "isOn"), (Jvm.Cond.lays "DaybreakFlags$Switch" "DaybreakFlags$Switch" "startShare" "I"), (Jvm.Cond.soleField "DaybreakFlags$Switch" "startShare"), (Jvm.Cond.lays "DaybreakFlags$Switch" "DaybreakFlags$Switch" "step" "I"), (Jvm.Cond.soleField "DaybreakFlags$Switch" "step"), (Jvm.Cond.lays "DaybreakFlags$Switch" "DaybreakFlags$Switch" "rampedAt" "I"), (Jvm.Cond.soleField "DaybreakFlags$Switch" "rampedAt"), (Jvm.Cond.lays "DaybreakFlags$Switch" "DaybreakFlags$Switch" "layer" "I"), (Jvm.Cond.soleField "DaybreakFlags$Switch" "layer"), (Jvm.Cond.lays "DaybreakFlags$Switch" "DaybreakFlags$Switch" "from" "I")]
def gW_3_6 : List Cond := [(Jvm.Cond.soleField "DaybreakFlags$Switch" "from"), (Jvm.Cond.lays "DaybreakFlags$Switch" "DaybreakFlags$Switch" "to" "I"), (Jvm.Cond.soleField "DaybreakFlags$Switch" "to"), (Jvm.Cond.lays "DaybreakFlags$Switch" "DaybreakFlags$Switch" "needed" "I"), (Jvm.Cond.soleField "DaybreakFlags$Switch" "needed"), (Jvm.Cond.lays "DaybreakFlags$Switch" "DaybreakFlags$Switch" "neededVariant" "I"), (Jvm.Cond.soleField "DaybreakFlags$Switch" "neededVariant"), (Jvm.Cond.superclass "DaybreakFlags$Switch" "java/lang/Object"), Cond.methodLink RX6 126 yX6_weigh, Cond.instanceMethod yX6_weigh, Cond.selects RX6 yX6_weigh yX6_weigh, Cond.code yX6_weigh cX6_weigh 4 (some .boolean), Cond.methodLink RX6 71 yX5_weigh, Cond.instanceMethod yX5_weigh, Cond.selects RX5 yX5_weigh yX5_weigh, Cond.code yX5_weigh cX5_weigh 6 (some .int), (Jvm.Cond.stringRef "DaybreakFlags" (57 : Nat) "no weight that can be moved"), Cond.methodLink RX5 59 yX3_setWeight, Cond.instanceMethod yX3_setWeight, Cond.selects RX3 yX3_setWeight yX3_setWeight]
def gW_3_7 : List Cond := [Cond.code yX3_setWeight cX3_setWeight 3 none, Cond.methodLink RX6 128 yX6_turn, Cond.instanceMethod yX6_turn, Cond.selects RX6 yX6_turn yX6_turn, Cond.code yX6_turn cX6_turn 3 (some .boolean), Cond.methodLink RX6 75 yX5_turn, Cond.instanceMethod yX5_turn, Cond.selects RX5 yX5_turn yX5_turn, Cond.code yX5_turn cX5_turn 5 (some .boolean), Cond.methodLink RX6 130 yX6_rule, Cond.instanceMethod yX6_rule, Cond.selects RX6 yX6_rule yX6_rule, Cond.code yX6_rule cX6_rule 3 (some .boolean), Cond.methodLink RX6 99 yX5_unrule, Cond.instanceMethod yX5_unrule, Cond.selects RX5 yX5_unrule yX5_unrule, Cond.code yX5_unrule cX5_unrule 4 (some .int), (Jvm.Cond.stringRef "DaybreakFlags" (123 : Nat) "no such rule"), Cond.methodLink RX5 126 yX3_removeRule, Cond.instanceMethod yX3_removeRule]
def gW_3_8 : List Cond := [Cond.selects RX3 yX3_removeRule yX3_removeRule, Cond.code yX3_removeRule cX3_removeRule 3 none, Cond.methodLink RX3 62 yJ9_max_7cf53, Cond.static yJ9_max_7cf53, Cond.code yJ9_max_7cf53 cJ9_max_7cf53 2 (some .int), Cond.methodLink RX3 77 yX3_ruleAt, Cond.methodLink RX6 102 yX6_dropRule, (Jvm.Cond.privateMethod ({ cls := "DaybreakFlagsLaw$Desk", name := "dropRule", desc := "(II)Z" } : Jvm.MethodName)), Cond.instanceMethod yX6_dropRule, Cond.code yX6_dropRule cX6_dropRule 5 (some .boolean), Cond.methodLink RX6 106 yX6_with, Cond.static yX6_with, Cond.code yX6_with cX6_with 3 (some (.array (.array .int))), Cond.methodLink RX6 51 ⟨"java/lang/System", "arraycopy", "(Ljava/lang/Object;ILjava/lang/Object;II)V"⟩, (Jvm.Cond.static ({ cls := "java/lang/System", name := "arraycopy", desc := "(Ljava/lang/Object;ILjava/lang/Object;II)V" } : Jvm.MethodName)), (Jvm.Cond.native ({ cls := "java/lang/System", name := "arraycopy", desc := "(Ljava/lang/Object;ILjava/lang/Object;II)V" } : Jvm.MethodName)), Cond.methodLink RX6 110 yX5_rule, Cond.instanceMethod yX5_rule, Cond.selects RX5 yX5_rule yX5_rule, Cond.code yX5_rule cX5_rule 7 (some .int)]
def gW_3_9 : List Cond := [(Jvm.Cond.stringRef "DaybreakFlags" (105 : Nat) "mark, how or n out of range"), (Jvm.Cond.stringRef "DaybreakFlags" (110 : Nat) "no more rules"), Cond.classLink RX5 112 RX2, Cond.instantiable RX2 4, Cond.methodLink RX5 114 yX2_init, Cond.instanceMethod yX2_init, Cond.code yX2_init cX2_init 5 none, Cond.methodLink RX2 3 ⟨"java/lang/Object", "<init>", "()V"⟩, Cond.fieldLink RX2 9 "DaybreakFlags$Rule" "mark" "I", Cond.fieldLink RX2 15 "DaybreakFlags$Rule" "how" "I", Cond.fieldLink RX2 18 "DaybreakFlags$Rule" "n" "I", Cond.fieldLink RX2 21 "DaybreakFlags$Rule" "variant" "I", (Jvm.Cond.fieldLinkNest "DaybreakFlags" (333 : Nat) "DaybreakFlags$Rule" "variant" "I" "DaybreakFlags"), (Jvm.Cond.laysFinal "DaybreakFlags$Rule" "DaybreakFlags$Rule" "mark" "I"), (Jvm.Cond.soleField "DaybreakFlags$Rule" "mark"), (Jvm.Cond.laysFinal "DaybreakFlags$Rule" "DaybreakFlags$Rule" "how" "I"), (Jvm.Cond.soleField "DaybreakFlags$Rule" "how"), (Jvm.Cond.laysFinal "DaybreakFlags$Rule" "DaybreakFlags$Rule" "n" "I"), (Jvm.Cond.soleField "DaybreakFlags$Rule" "n"), (Jvm.Cond.laysFinal "DaybreakFlags$Rule" "DaybreakFlags$Rule" "variant" "I")]
def gW_3_10 : List Cond := [(Jvm.Cond.soleField "DaybreakFlags$Rule" "variant"), (Jvm.Cond.superclass "DaybreakFlags$Rule" "java/lang/Object"), Cond.methodLink RX5 117 yX3_addRule, Cond.instanceMethod yX3_addRule, Cond.selects RX3 yX3_addRule yX3_addRule, Cond.code yX3_addRule cX3_addRule 2 none, Cond.methodLink RX6 132 yX6_ramp, Cond.instanceMethod yX6_ramp, Cond.selects RX6 yX6_ramp yX6_ramp, Cond.code yX6_ramp cX6_ramp 3 (some .boolean), Cond.methodLink RX6 79 yX6_far, Cond.instanceMethod yX6_far, Cond.selects RX6 yX6_far yX6_far, Cond.code yX6_far cX6_far 5 (some .int), Cond.methodLink RX6 82 yX5_ramp, Cond.instanceMethod yX5_ramp, Cond.selects RX5 yX5_ramp yX5_ramp, Cond.code yX5_ramp cX5_ramp 6 (some .int), (Jvm.Cond.stringRef "DaybreakFlags" (67 : Nat) "share or step out of range"), Cond.methodLink RX5 75 yX3_setRamp]
def gW_3_11 : List Cond := [Cond.instanceMethod yX3_setRamp, Cond.selects RX3 yX3_setRamp yX3_setRamp, Cond.code yX3_setRamp cX3_setRamp 4 none, Cond.methodLink RX6 134 yX6_need, Cond.instanceMethod yX6_need, Cond.selects RX6 yX6_need yX6_need, Cond.code yX6_need cX6_need 4 (some .boolean), Cond.methodLink RX6 96 yX5_need, Cond.instanceMethod yX5_need, Cond.selects RX5 yX5_need yX5_need, Cond.code yX5_need cX5_need 6 (some .int), (Jvm.Cond.stringRef "DaybreakFlags" (97 : Nat) "only a switch with a smaller number can be needed"), Cond.methodLink RX6 136 yX6_place, Cond.instanceMethod yX6_place, Cond.selects RX6 yX6_place yX6_place, Cond.codeWith yX6_place cX6_place 8 (some .boolean) [(179, 202, 236, 94), (203, 235, 236, 94)], Cond.classLink RX6 94 "java/lang/IllegalStateException", Cond.methodLink RX6 85 yJ9_min_7cf53, Cond.static yJ9_min_7cf53, Cond.code yJ9_min_7cf53 cJ9_min_7cf53 2 (some .int)]
set_option maxRecDepth 100000 in
theorem tb_3 : tables_1_3 = gW_3_0 ++ (gW_3_1 ++ (gW_3_2 ++ (gW_3_3 ++ (gW_3_4 ++ (gW_3_5 ++ (gW_3_6 ++ (gW_3_7 ++ (gW_3_8 ++ (gW_3_9 ++ (gW_3_10 ++ (gW_3_11))))))))))) := rfl
theorem tn_3 {w : Cond} (h : w ∈ tables_1_3) (hg : goodWord w = true) : w ∈ TT := List.mem_filter.mpr ⟨List.mem_append_right _ (show w ∈ tables_1 from List.mem_append_right _ (List.mem_append_right _ (List.mem_append_left _ h))), hg⟩
theorem tg_3_0 {w : Cond} (h : w ∈ gW_3_0) (hg : goodWord w = true) : w ∈ TT := tn_3 (by rw [tb_3]; exact List.mem_append_left _ h) hg
theorem tg_3_1 {w : Cond} (h : w ∈ gW_3_1) (hg : goodWord w = true) : w ∈ TT := tn_3 (by rw [tb_3]; exact List.mem_append_right _ (List.mem_append_left _ h)) hg
theorem tg_3_2 {w : Cond} (h : w ∈ gW_3_2) (hg : goodWord w = true) : w ∈ TT := tn_3 (by rw [tb_3]; exact List.mem_append_right _ (List.mem_append_right _ (List.mem_append_left _ h))) hg
theorem tg_3_3 {w : Cond} (h : w ∈ gW_3_3) (hg : goodWord w = true) : w ∈ TT := tn_3 (by rw [tb_3]; exact List.mem_append_right _ (List.mem_append_right _ (List.mem_append_right _ (List.mem_append_left _ h)))) hg
theorem tg_3_4 {w : Cond} (h : w ∈ gW_3_4) (hg : goodWord w = true) : w ∈ TT := tn_3 (by rw [tb_3]; exact List.mem_append_right _ (List.mem_append_right _ (List.mem_append_right _ (List.mem_append_right _ (List.mem_append_left _ h))))) hg
theorem tg_3_5 {w : Cond} (h : w ∈ gW_3_5) (hg : goodWord w = true) : w ∈ TT := tn_3 (by rw [tb_3]; exact List.mem_append_right _ (List.mem_append_right _ (List.mem_append_right _ (List.mem_append_right _ (List.mem_append_right _ (List.mem_append_left _ h)))))) hg
theorem tg_3_6 {w : Cond} (h : w ∈ gW_3_6) (hg : goodWord w = true) : w ∈ TT := tn_3 (by rw [tb_3]; exact List.mem_append_right _ (List.mem_append_right _ (List.mem_append_right _ (List.mem_append_right _ (List.mem_append_right _ (List.mem_append_right _ (List.mem_append_left _ h))))))) hg
theorem tg_3_7 {w : Cond} (h : w ∈ gW_3_7) (hg : goodWord w = true) : w ∈ TT := tn_3 (by rw [tb_3]; exact List.mem_append_right _ (List.mem_append_right _ (List.mem_append_right _ (List.mem_append_right _ (List.mem_append_right _ (List.mem_append_right _ (List.mem_append_right _ (List.mem_append_left _ h)))))))) hg
theorem tg_3_8 {w : Cond} (h : w ∈ gW_3_8) (hg : goodWord w = true) : w ∈ TT := tn_3 (by rw [tb_3]; exact List.mem_append_right _ (List.mem_append_right _ (List.mem_append_right _ (List.mem_append_right _ (List.mem_append_right _ (List.mem_append_right _ (List.mem_append_right _ (List.mem_append_right _ (List.mem_append_left _ h))))))))) hg
theorem tg_3_9 {w : Cond} (h : w ∈ gW_3_9) (hg : goodWord w = true) : w ∈ TT := tn_3 (by rw [tb_3]; exact List.mem_append_right _ (List.mem_append_right _ (List.mem_append_right _ (List.mem_append_right _ (List.mem_append_right _ (List.mem_append_right _ (List.mem_append_right _ (List.mem_append_right _ (List.mem_append_right _ (List.mem_append_left _ h)))))))))) hg
theorem tg_3_10 {w : Cond} (h : w ∈ gW_3_10) (hg : goodWord w = true) : w ∈ TT := tn_3 (by rw [tb_3]; exact List.mem_append_right _ (List.mem_append_right _ (List.mem_append_right _ (List.mem_append_right _ (List.mem_append_right _ (List.mem_append_right _ (List.mem_append_right _ (List.mem_append_right _ (List.mem_append_right _ (List.mem_append_right _ (List.mem_append_left _ h))))))))))) hg
theorem tg_3_11 {w : Cond} (h : w ∈ gW_3_11) (hg : goodWord w = true) : w ∈ TT := tn_3 (by rw [tb_3]; exact List.mem_append_right _ (List.mem_append_right _ (List.mem_append_right _ (List.mem_append_right _ (List.mem_append_right _ (List.mem_append_right _ (List.mem_append_right _ (List.mem_append_right _ (List.mem_append_right _ (List.mem_append_right _ (List.mem_append_right _ (h)))))))))))) hg
def gW_4_0 : List Cond := [Cond.methodLink RX6 90 yX5_place, Cond.instanceMethod yX5_place, Cond.selects RX5 yX5_place yX5_place, Cond.code yX5_place cX5_place 7 (some .int), Cond.methodLink RX5 79 yX5_checkRange, Cond.static yX5_checkRange, Cond.code yX5_checkRange cX5_checkRange 3 none, (Jvm.Cond.stringRef "DaybreakFlags" (312 : Nat) "layer or range out of range"), Cond.methodLink RX5 82 yX5_isTaken, (Jvm.Cond.privateMethod ({ cls := "DaybreakFlags", name := "isTaken", desc := "(IIII)Z" } : Jvm.MethodName)), Cond.instanceMethod yX5_isTaken, Cond.code yX5_isTaken cX5_isTaken 9 (some .boolean), Cond.methodLink RX5 317 yX3_sharesRange, Cond.instanceMethod yX3_sharesRange, Cond.selects RX3 yX3_sharesRange yX3_sharesRange, Cond.code yX3_sharesRange cX3_sharesRange 3 (some .boolean), Cond.methodLink RX3 71 yJ9_min_7cf53, (Jvm.Cond.stringRef "DaybreakFlags" (86 : Nat) "another switch has some of the range"), Cond.methodLink RX6 138 yX6_hold, Cond.instanceMethod yX6_hold]
def gW_4_1 : List Cond := [Cond.selects RX6 yX6_hold yX6_hold, Cond.code yX6_hold cX6_hold 2 (some .boolean), Cond.methodLink RX6 117 yX5_hold, Cond.instanceMethod yX5_hold, Cond.selects RX5 yX5_hold yX5_hold, Cond.code yX5_hold cX5_hold 3 (some .int), (Jvm.Cond.stringRef "DaybreakFlags" (130 : Nat) "held out of range"), Cond.methodLink RL 22 yX6_change, Cond.instanceMethod yX6_change, Cond.selects RX6 yX6_change yX6_change, Cond.code yX6_change cX6_change 1 (some .boolean), Cond.methodLink RX6 140 yX6_unrule, Cond.instanceMethod yX6_unrule, Cond.selects RX6 yX6_unrule yX6_unrule, Cond.code yX6_unrule cX6_unrule 3 (some .boolean), Cond.methodLink RX6 142 yX6_goOn, Cond.instanceMethod yX6_goOn, Cond.selects RX6 yX6_goOn yX6_goOn, Cond.code yX6_goOn cX6_goOn 2 (some .boolean), Cond.methodLink RX6 120 yX5_goOn]
def gW_4_2 : List Cond := [Cond.instanceMethod yX5_goOn, Cond.selects RX5 yX5_goOn yX5_goOn, Cond.code yX5_goOn cX5_goOn 2 (some .int), Cond.methodLink RL 25 yX6_ask, Cond.instanceMethod yX6_ask, Cond.selects RX6 yX6_ask yX6_ask, Cond.code yX6_ask cX6_ask 8 (some .boolean), Cond.methodLink RX6 178 yX6_gets_, Cond.instanceMethod yX6_gets_, Cond.selects RX6 yX6_gets_ yX6_gets_, Cond.code yX6_gets_ cX6_gets_ 5 (some .int), Cond.methodLink RX6 162 yX6_gets, Cond.instanceMethod yX6_gets, Cond.selects RX6 yX6_gets yX6_gets, Cond.code yX6_gets cX6_gets 12 (some .int), Cond.methodLink RX6 159 yX6_because, (Jvm.Cond.privateMethod ({ cls := "DaybreakFlagsLaw$Desk", name := "because", desc := "(II)I" } : Jvm.MethodName)), Cond.instanceMethod yX6_because, Cond.code yX6_because cX6_because 3 (some .int), Cond.methodLink RX6 165 yX6_arm]
def gW_4_3 : List Cond := [Cond.instanceMethod yX6_arm, Cond.selects RX6 yX6_arm yX6_arm, Cond.code yX6_arm cX6_arm 7 (some (.array .int)), Cond.methodLink RX6 169 yX6_holds, Cond.instanceMethod yX6_holds, Cond.selects RX6 yX6_holds yX6_holds, Cond.code yX6_holds cX6_holds 7 (some .int), Cond.methodLink RX6 172 yX6_bucket, Cond.static yX6_bucket, Cond.code yX6_bucket cX6_bucket 4 (some .int), Cond.constantLong RX6 144 (7919), Cond.constantLong RX6 146 (31), Cond.constantLong RX6 148 (17), Cond.constantLong RX6 150 (10007), Cond.constantLong RX6 152 (3), Cond.constantLong RX6 154 (1000), Cond.methodLink RX6 175 yJ9_max_7cf53, Cond.methodLink RX6 180 yX5_why, Cond.methodLink RX6 183 yX5_gets, Cond.methodLink RX6 184 yX5_holds]
def gW_4_4 : List Cond := [Cond.methodLink RX6 186 yX5_ask, Cond.instanceMethod yX5_ask, Cond.selects RX5 yX5_ask yX5_ask, Cond.code yX5_ask cX5_ask 8 (some .int), Cond.methodLink RX5 172 yX3_addArm, Cond.instanceMethod yX3_addArm, Cond.selects RX3 yX3_addArm yX3_addArm, Cond.code yX3_addArm cX3_addArm 3 none, Cond.classLink RX3 90 RX0, Cond.instantiable RX0 5, Cond.methodLink RX3 97 yX0_init, Cond.instanceMethod yX0_init, Cond.code yX0_init cX0_init 4 none, Cond.methodLink RX0 1 ⟨"java/lang/Object", "<init>", "()V"⟩, Cond.fieldLink RX0 7 "DaybreakFlags$Arm" "user" "I", (Jvm.Cond.fieldLinkNest "DaybreakFlags$Switch" (89 : Nat) "DaybreakFlags$Arm" "user" "I" "DaybreakFlags"), Cond.fieldLink RX0 13 "DaybreakFlags$Arm" "variant" "I", (Jvm.Cond.fieldLinkNest "DaybreakFlags$Switch" (108 : Nat) "DaybreakFlags$Arm" "variant" "I" "DaybreakFlags"), (Jvm.Cond.fieldLinkNest "DaybreakFlags" (183 : Nat) "DaybreakFlags$Arm" "variant" "I" "DaybreakFlags"), Cond.fieldLink RX0 16 "DaybreakFlags$Arm" "older" "LDaybreakFlags$Arm;"]
def gW_4_5 : List Cond := [(Jvm.Cond.fieldLinkNest "DaybreakFlags$Switch" (94 : Nat) "DaybreakFlags$Arm" "older" "LDaybreakFlags$Arm;" "DaybreakFlags"), (Jvm.Cond.fieldLinkNest "DaybreakFlags$Switch" (111 : Nat) "DaybreakFlags$Arm" "sum" "I" "DaybreakFlags"), (Jvm.Cond.fieldLinkNest "DaybreakFlags$Switch" (114 : Nat) "DaybreakFlags$Arm" "hasActed" "Z" "DaybreakFlags"), (Jvm.Cond.laysFinal "DaybreakFlags$Arm" "DaybreakFlags$Arm" "user" "I"), (Jvm.Cond.soleField "DaybreakFlags$Arm" "user"), (Jvm.Cond.laysFinal "DaybreakFlags$Arm" "DaybreakFlags$Arm" "variant" "I"), (Jvm.Cond.soleField "DaybreakFlags$Arm" "variant"), (Jvm.Cond.laysFinal "DaybreakFlags$Arm" "DaybreakFlags$Arm" "older" "LDaybreakFlags$Arm;"), (Jvm.Cond.soleField "DaybreakFlags$Arm" "older"), (Jvm.Cond.lays "DaybreakFlags$Arm" "DaybreakFlags$Arm" "sum" "I"), (Jvm.Cond.soleField "DaybreakFlags$Arm" "sum"), (Jvm.Cond.lays "DaybreakFlags$Arm" "DaybreakFlags$Arm" "hasActed" "Z"), (Jvm.Cond.soleField "DaybreakFlags$Arm" "hasActed"), (Jvm.Cond.superclass "DaybreakFlags$Arm" "java/lang/Object"), Cond.methodLink RX3 100 yX4_countArm, Cond.instanceMethod yX4_countArm, Cond.selects RX4 yX4_countArm yX4_countArm, Cond.code yX4_countArm cX4_countArm 2 none, Cond.methodLink RX6 189 yX5_arms, Cond.methodLink RL 28 yX6_act]
def gW_4_6 : List Cond := [Cond.instanceMethod yX6_act, Cond.selects RX6 yX6_act yX6_act, Cond.code yX6_act cX6_act 8 (some .boolean), Cond.methodLink RX6 192 yX5_act, Cond.instanceMethod yX5_act, Cond.selects RX5 yX5_act yX5_act, Cond.code yX5_act cX5_act 8 (some .int), (Jvm.Cond.stringRef "DaybreakFlags" (175 : Nat) "user or worth out of range"), Cond.methodLink RX5 177 yX3_addWorth, Cond.instanceMethod yX3_addWorth, Cond.selects RX3 yX3_addWorth yX3_addWorth, Cond.code yX3_addWorth cX3_addWorth 4 (some .boolean), Cond.methodLink RX3 104 yX3_armOf, Cond.methodLink RX3 117 yX4_countAct, Cond.instanceMethod yX4_countAct, Cond.selects RX4 yX4_countAct yX4_countAct, Cond.code yX4_countAct cX4_countAct 8 none, (Jvm.Cond.sameMethod "java/lang/Throwable" "java/lang/Throwable" "fillInStackTrace" "(I)Ljava/lang/Throwable;")]
set_option maxRecDepth 100000 in
theorem tb_4 : tables_1_4 = gW_4_0 ++ (gW_4_1 ++ (gW_4_2 ++ (gW_4_3 ++ (gW_4_4 ++ (gW_4_5 ++ (gW_4_6)))))) := rfl
theorem tn_4 {w : Cond} (h : w ∈ tables_1_4) (hg : goodWord w = true) : w ∈ TT := List.mem_filter.mpr ⟨List.mem_append_right _ (show w ∈ tables_1 from List.mem_append_right _ (List.mem_append_right _ (List.mem_append_right _ (h)))), hg⟩
theorem tg_4_0 {w : Cond} (h : w ∈ gW_4_0) (hg : goodWord w = true) : w ∈ TT := tn_4 (by rw [tb_4]; exact List.mem_append_left _ h) hg
theorem tg_4_1 {w : Cond} (h : w ∈ gW_4_1) (hg : goodWord w = true) : w ∈ TT := tn_4 (by rw [tb_4]; exact List.mem_append_right _ (List.mem_append_left _ h)) hg
theorem tg_4_2 {w : Cond} (h : w ∈ gW_4_2) (hg : goodWord w = true) : w ∈ TT := tn_4 (by rw [tb_4]; exact List.mem_append_right _ (List.mem_append_right _ (List.mem_append_left _ h))) hg
theorem tg_4_3 {w : Cond} (h : w ∈ gW_4_3) (hg : goodWord w = true) : w ∈ TT := tn_4 (by rw [tb_4]; exact List.mem_append_right _ (List.mem_append_right _ (List.mem_append_right _ (List.mem_append_left _ h)))) hg
theorem tg_4_4 {w : Cond} (h : w ∈ gW_4_4) (hg : goodWord w = true) : w ∈ TT := tn_4 (by rw [tb_4]; exact List.mem_append_right _ (List.mem_append_right _ (List.mem_append_right _ (List.mem_append_right _ (List.mem_append_left _ h))))) hg
theorem tg_4_5 {w : Cond} (h : w ∈ gW_4_5) (hg : goodWord w = true) : w ∈ TT := tn_4 (by rw [tb_4]; exact List.mem_append_right _ (List.mem_append_right _ (List.mem_append_right _ (List.mem_append_right _ (List.mem_append_right _ (List.mem_append_left _ h)))))) hg
theorem tg_4_6 {w : Cond} (h : w ∈ gW_4_6) (hg : goodWord w = true) : w ∈ TT := tn_4 (by rw [tb_4]; exact List.mem_append_right _ (List.mem_append_right _ (List.mem_append_right _ (List.mem_append_right _ (List.mem_append_right _ (List.mem_append_right _ (h))))))) hg
theorem m_in_L : Cond.initialized RL ∈ TT := tg_1_0 (List.mem_of_getElem? (i := 0) rfl) rfl
theorem m_in_X6 : Cond.initialized RX6 ∈ TT := tg_1_0 (List.mem_of_getElem? (i := 1) rfl) rfl
theorem m_in_X5 : Cond.initialized RX5 ∈ TT := tg_1_0 (List.mem_of_getElem? (i := 2) rfl) rfl
theorem m_in_X1 : Cond.initialized RX1 ∈ TT := tg_1_0 (List.mem_of_getElem? (i := 3) rfl) rfl
theorem m_in_Throwable : Cond.initialized "java/lang/Throwable" ∈ TT := tg_1_0 (List.mem_of_getElem? (i := 4) rfl) rfl
theorem m_in_Exception : Cond.initialized "java/lang/Exception" ∈ TT := tg_1_0 (List.mem_of_getElem? (i := 5) rfl) rfl
theorem m_in_RuntimeException : Cond.initialized "java/lang/RuntimeException" ∈ TT := tg_1_0 (List.mem_of_getElem? (i := 6) rfl) rfl
theorem m_in_IllegalArgumentException : Cond.initialized "java/lang/IllegalArgumentException" ∈ TT := tg_1_0 (List.mem_of_getElem? (i := 7) rfl) rfl
theorem m_in_IllegalStateException : Cond.initialized "java/lang/IllegalStateException" ∈ TT := tg_1_0 (List.mem_of_getElem? (i := 8) rfl) rfl
theorem m_in_X3 : Cond.initialized RX3 ∈ TT := tg_1_0 (List.mem_of_getElem? (i := 9) rfl) rfl
theorem m_in_X4 : Cond.initialized RX4 ∈ TT := tg_1_0 (List.mem_of_getElem? (i := 10) rfl) rfl
theorem m_in_IndexOutOfBoundsException : Cond.initialized "java/lang/IndexOutOfBoundsException" ∈ TT := tg_1_0 (List.mem_of_getElem? (i := 11) rfl) rfl
theorem m_in_Math : Cond.initialized "java/lang/Math" ∈ TT := tg_1_0 (List.mem_of_getElem? (i := 12) rfl) rfl
theorem m_in_System : Cond.initialized "java/lang/System" ∈ TT := tg_1_0 (List.mem_of_getElem? (i := 13) rfl) rfl
theorem m_in_X2 : Cond.initialized RX2 ∈ TT := tg_1_0 (List.mem_of_getElem? (i := 14) rfl) rfl
theorem m_in_X0 : Cond.initialized RX0 ∈ TT := tg_1_0 (List.mem_of_getElem? (i := 15) rfl) rfl
theorem m_ml_L_56 : Cond.methodLink RL 56 yX5_weight ∈ TT := tg_1_0 (List.mem_of_getElem? (i := 16) rfl) rfl
theorem m_im_X5_weight : Cond.instanceMethod yX5_weight ∈ TT := tg_1_0 (List.mem_of_getElem? (i := 17) rfl) rfl
theorem m_sl_X5_weight : Cond.selects RX5 yX5_weight yX5_weight ∈ TT := tg_1_0 (List.mem_of_getElem? (i := 18) rfl) rfl
theorem m_cd_X5_weight : Cond.code yX5_weight cX5_weight 4 (some .int) ∈ TT := tg_1_0 (List.mem_of_getElem? (i := 19) rfl) rfl
theorem m_ml_X5_45 : Cond.methodLink RX5 45 yX5_known ∈ TT := tg_1_1 (List.mem_of_getElem? (i := 0) rfl) rfl
theorem m_im_X5_known : Cond.instanceMethod yX5_known ∈ TT := tg_1_1 (List.mem_of_getElem? (i := 2) rfl) rfl
theorem m_nw_X5 : Cond.instantiable RX5 6 ∈ TT := tg_1_1 (List.mem_of_getElem? (i := 3) rfl) rfl
theorem m_cd_X5_known : Cond.code yX5_known cX5_known 3 (some (.object "DaybreakFlags$Switch")) ∈ TT := tg_1_1 (List.mem_of_getElem? (i := 4) rfl) rfl
theorem m_ml_X5_301 : Cond.methodLink RX5 301 yX5_switchAt ∈ TT := tg_1_1 (List.mem_of_getElem? (i := 5) rfl) rfl
theorem m_im_X5_switchAt : Cond.instanceMethod yX5_switchAt ∈ TT := tg_1_1 (List.mem_of_getElem? (i := 7) rfl) rfl
theorem m_cd_X5_switchAt : Cond.code yX5_switchAt cX5_switchAt 2 (some (.object "DaybreakFlags$Switch")) ∈ TT := tg_1_1 (List.mem_of_getElem? (i := 8) rfl) rfl
theorem m_cl_X5_121 : Cond.classLink RX5 121 "java/lang/IndexOutOfBoundsException" ∈ TT := tg_1_1 (List.mem_of_getElem? (i := 9) rfl) rfl
theorem m_im_objectInit : Cond.instanceMethod objectInit ∈ TT := tg_1_2 (List.mem_of_getElem? (i := 15) rfl) rfl
theorem m_ml_X5_125 : Cond.methodLink RX5 125 ⟨"java/lang/IndexOutOfBoundsException", "<init>", "(Ljava/lang/String;)V"⟩ ∈ TT := tg_1_3 (List.mem_of_getElem? (i := 13) rfl) rfl
theorem m_ar_byte : Cond.arrayClass .byte ∈ TT := tg_1_4 (List.mem_of_getElem? (i := 18) rfl) rfl
theorem m_ml_X5_49 : Cond.methodLink RX5 49 yX5_checkVariant ∈ TT := tg_1_4 (List.mem_of_getElem? (i := 19) rfl) rfl
theorem m_st_X5_checkVariant : Cond.static yX5_checkVariant ∈ TT := tg_1_5 (List.mem_of_getElem? (i := 0) rfl) rfl
theorem m_cd_X5_checkVariant : Cond.code yX5_checkVariant cX5_checkVariant 2 none ∈ TT := tg_1_5 (List.mem_of_getElem? (i := 1) rfl) rfl
theorem m_ml_X5_22 : Cond.methodLink RX5 22 yX5_isOutside ∈ TT := tg_1_5 (List.mem_of_getElem? (i := 2) rfl) rfl
theorem m_st_X5_isOutside : Cond.static yX5_isOutside ∈ TT := tg_1_5 (List.mem_of_getElem? (i := 3) rfl) rfl
theorem m_cd_X5_isOutside : Cond.code yX5_isOutside cX5_isOutside 3 (some .boolean) ∈ TT := tg_1_5 (List.mem_of_getElem? (i := 4) rfl) rfl
theorem m_ml_X5_53 : Cond.methodLink RX5 53 yX3_weightOf ∈ TT := tg_1_5 (List.mem_of_getElem? (i := 6) rfl) rfl
theorem m_im_X3_weightOf : Cond.instanceMethod yX3_weightOf ∈ TT := tg_1_5 (List.mem_of_getElem? (i := 7) rfl) rfl
theorem m_sl_X3_weightOf : Cond.selects RX3 yX3_weightOf yX3_weightOf ∈ TT := tg_1_5 (List.mem_of_getElem? (i := 8) rfl) rfl
theorem m_cd_X3_weightOf : Cond.code yX3_weightOf cX3_weightOf 2 (some .int) ∈ TT := tg_1_5 (List.mem_of_getElem? (i := 9) rfl) rfl
theorem m_ml_L_86 : Cond.methodLink RL 86 yX5_share ∈ TT := tg_1_5 (List.mem_of_getElem? (i := 10) rfl) rfl
theorem m_im_X5_share : Cond.instanceMethod yX5_share ∈ TT := tg_1_5 (List.mem_of_getElem? (i := 11) rfl) rfl
theorem m_sl_X5_share : Cond.selects RX5 yX5_share yX5_share ∈ TT := tg_1_5 (List.mem_of_getElem? (i := 12) rfl) rfl
theorem m_cd_X5_share : Cond.code yX5_share cX5_share 2 (some .int) ∈ TT := tg_1_5 (List.mem_of_getElem? (i := 13) rfl) rfl
theorem m_ml_X5_72 : Cond.methodLink RX5 72 yX3_farAt ∈ TT := tg_1_5 (List.mem_of_getElem? (i := 14) rfl) rfl
theorem m_im_X3_farAt : Cond.instanceMethod yX3_farAt ∈ TT := tg_1_5 (List.mem_of_getElem? (i := 15) rfl) rfl
theorem m_sl_X3_farAt : Cond.selects RX3 yX3_farAt yX3_farAt ∈ TT := tg_1_5 (List.mem_of_getElem? (i := 16) rfl) rfl
theorem m_cd_X3_farAt : Cond.code yX3_farAt cX3_farAt 4 (some .int) ∈ TT := tg_1_5 (List.mem_of_getElem? (i := 17) rfl) rfl
theorem m_lc_X3_57 : Cond.constantLong RX3 57 (1000) ∈ TT := tg_1_5 (List.mem_of_getElem? (i := 18) rfl) rfl
theorem m_ml_L_49 : Cond.methodLink RL 49 yX5_gets ∈ TT := tg_1_5 (List.mem_of_getElem? (i := 19) rfl) rfl
theorem m_im_X5_gets : Cond.instanceMethod yX5_gets ∈ TT := tg_1_6 (List.mem_of_getElem? (i := 0) rfl) rfl
theorem m_sl_X5_gets : Cond.selects RX5 yX5_gets yX5_gets ∈ TT := tg_1_6 (List.mem_of_getElem? (i := 1) rfl) rfl
theorem m_cd_X5_gets : Cond.code yX5_gets cX5_gets 6 (some .int) ∈ TT := tg_1_6 (List.mem_of_getElem? (i := 2) rfl) rfl
theorem m_ml_X5_145 : Cond.methodLink RX5 145 yX5_checkAsker ∈ TT := tg_1_6 (List.mem_of_getElem? (i := 3) rfl) rfl
theorem m_st_X5_checkAsker : Cond.static yX5_checkAsker ∈ TT := tg_1_6 (List.mem_of_getElem? (i := 4) rfl) rfl
theorem m_cd_X5_checkAsker : Cond.code yX5_checkAsker cX5_checkAsker 3 none ∈ TT := tg_1_6 (List.mem_of_getElem? (i := 5) rfl) rfl
theorem m_cl_X5_26 : Cond.classLink RX5 26 "java/lang/IllegalArgumentException" ∈ TT := tg_1_6 (List.mem_of_getElem? (i := 6) rfl) rfl
theorem m_ml_X5_30 : Cond.methodLink RX5 30 ⟨"java/lang/IllegalArgumentException", "<init>", "(Ljava/lang/String;)V"⟩ ∈ TT := tg_1_6 (List.mem_of_getElem? (i := 16) rfl) rfl
theorem m_ml_X5_148 : Cond.methodLink RX5 148 yX1_become ∈ TT := tg_1_7 (List.mem_of_getElem? (i := 2) rfl) rfl
theorem m_im_X1_become : Cond.instanceMethod yX1_become ∈ TT := tg_1_7 (List.mem_of_getElem? (i := 3) rfl) rfl
theorem m_sl_X1_become : Cond.selects RX1 yX1_become yX1_become ∈ TT := tg_1_7 (List.mem_of_getElem? (i := 4) rfl) rfl
theorem m_cd_X1_become : Cond.code yX1_become cX1_become 4 none ∈ TT := tg_1_7 (List.mem_of_getElem? (i := 5) rfl) rfl
theorem m_ml_X5_151 : Cond.methodLink RX5 151 yX5_variantOf ∈ TT := tg_1_7 (List.mem_of_getElem? (i := 6) rfl) rfl
theorem m_im_X5_variantOf : Cond.instanceMethod yX5_variantOf ∈ TT := tg_1_7 (List.mem_of_getElem? (i := 8) rfl) rfl
theorem m_cd_X5_variantOf : Cond.code yX5_variantOf cX5_variantOf 2 (some .int) ∈ TT := tg_1_7 (List.mem_of_getElem? (i := 9) rfl) rfl
theorem m_ml_X5_155 : Cond.methodLink RX5 155 yX5_reasonOf ∈ TT := tg_1_7 (List.mem_of_getElem? (i := 10) rfl) rfl
theorem m_im_X5_reasonOf : Cond.instanceMethod yX5_reasonOf ∈ TT := tg_1_7 (List.mem_of_getElem? (i := 12) rfl) rfl
theorem m_cd_X5_reasonOf : Cond.code yX5_reasonOf cX5_reasonOf 3 (some .int) ∈ TT := tg_1_7 (List.mem_of_getElem? (i := 13) rfl) rfl
theorem m_ml_X5_340 : Cond.methodLink RX5 340 yX1_findsOn ∈ TT := tg_1_7 (List.mem_of_getElem? (i := 14) rfl) rfl
theorem m_im_X1_findsOn : Cond.instanceMethod yX1_findsOn ∈ TT := tg_1_7 (List.mem_of_getElem? (i := 15) rfl) rfl
theorem m_sl_X1_findsOn : Cond.selects RX1 yX1_findsOn yX1_findsOn ∈ TT := tg_1_7 (List.mem_of_getElem? (i := 16) rfl) rfl
theorem m_cd_X1_findsOn : Cond.code yX1_findsOn cX1_findsOn 2 (some .boolean) ∈ TT := tg_1_7 (List.mem_of_getElem? (i := 17) rfl) rfl
theorem m_ml_X5_344 : Cond.methodLink RX5 344 yX5_hasNeed ∈ TT := tg_1_7 (List.mem_of_getElem? (i := 18) rfl) rfl
theorem m_im_X5_hasNeed : Cond.instanceMethod yX5_hasNeed ∈ TT := tg_1_8 (List.mem_of_getElem? (i := 0) rfl) rfl
theorem m_cd_X5_hasNeed : Cond.code yX5_hasNeed cX5_hasNeed 3 (some .boolean) ∈ TT := tg_1_8 (List.mem_of_getElem? (i := 1) rfl) rfl
theorem m_ml_X5_168 : Cond.methodLink RX5 168 yX3_armOf ∈ TT := tg_1_8 (List.mem_of_getElem? (i := 2) rfl) rfl
theorem m_im_X3_armOf : Cond.instanceMethod yX3_armOf ∈ TT := tg_1_8 (List.mem_of_getElem? (i := 3) rfl) rfl
theorem m_sl_X3_armOf : Cond.selects RX3 yX3_armOf yX3_armOf ∈ TT := tg_1_8 (List.mem_of_getElem? (i := 4) rfl) rfl
theorem m_cd_X3_armOf : Cond.code yX3_armOf cX3_armOf 3 (some (.object "DaybreakFlags$Arm")) ∈ TT := tg_1_8 (List.mem_of_getElem? (i := 5) rfl) rfl
theorem m_ml_X5_158 : Cond.methodLink RX5 158 yX3_firstRuleFor ∈ TT := tg_1_8 (List.mem_of_getElem? (i := 6) rfl) rfl
theorem m_im_X3_firstRuleFor : Cond.instanceMethod yX3_firstRuleFor ∈ TT := tg_1_8 (List.mem_of_getElem? (i := 7) rfl) rfl
theorem m_sl_X3_firstRuleFor : Cond.selects RX3 yX3_firstRuleFor yX3_firstRuleFor ∈ TT := tg_1_8 (List.mem_of_getElem? (i := 8) rfl) rfl
theorem m_cd_X3_firstRuleFor : Cond.code yX3_firstRuleFor cX3_firstRuleFor 5 (some .int) ∈ TT := tg_1_8 (List.mem_of_getElem? (i := 9) rfl) rfl
theorem m_ml_X3_81 : Cond.methodLink RX3 81 yX2_isMetBy ∈ TT := tg_1_8 (List.mem_of_getElem? (i := 10) rfl) rfl
theorem m_im_X2_isMetBy : Cond.instanceMethod yX2_isMetBy ∈ TT := tg_1_8 (List.mem_of_getElem? (i := 11) rfl) rfl
theorem m_sl_X2_isMetBy : Cond.selects RX2 yX2_isMetBy yX2_isMetBy ∈ TT := tg_1_8 (List.mem_of_getElem? (i := 12) rfl) rfl
theorem m_cd_X2_isMetBy : Cond.code yX2_isMetBy cX2_isMetBy 4 (some .boolean) ∈ TT := tg_1_8 (List.mem_of_getElem? (i := 13) rfl) rfl
theorem m_ml_X5_329 : Cond.methodLink RX5 329 yX3_ruleAt ∈ TT := tg_1_8 (List.mem_of_getElem? (i := 14) rfl) rfl
theorem m_im_X3_ruleAt : Cond.instanceMethod yX3_ruleAt ∈ TT := tg_1_8 (List.mem_of_getElem? (i := 15) rfl) rfl
theorem m_sl_X3_ruleAt : Cond.selects RX3 yX3_ruleAt yX3_ruleAt ∈ TT := tg_1_8 (List.mem_of_getElem? (i := 16) rfl) rfl
theorem m_cd_X3_ruleAt : Cond.code yX3_ruleAt cX3_ruleAt 2 (some (.object "DaybreakFlags$Rule")) ∈ TT := tg_1_8 (List.mem_of_getElem? (i := 17) rfl) rfl
theorem m_ml_X5_141 : Cond.methodLink RX5 141 yX5_bucketOf ∈ TT := tg_1_8 (List.mem_of_getElem? (i := 18) rfl) rfl
theorem m_st_X5_bucketOf : Cond.static yX5_bucketOf ∈ TT := tg_1_8 (List.mem_of_getElem? (i := 19) rfl) rfl
theorem m_cd_X5_bucketOf : Cond.code yX5_bucketOf cX5_bucketOf 4 (some .int) ∈ TT := tg_1_9 (List.mem_of_getElem? (i := 0) rfl) rfl
theorem m_ml_X5_350 : Cond.methodLink RX5 350 yX5_isInLayer ∈ TT := tg_1_9 (List.mem_of_getElem? (i := 1) rfl) rfl
theorem m_im_X5_isInLayer : Cond.instanceMethod yX5_isInLayer ∈ TT := tg_1_9 (List.mem_of_getElem? (i := 3) rfl) rfl
theorem m_cd_X5_isInLayer : Cond.code yX5_isInLayer cX5_isInLayer 3 (some .boolean) ∈ TT := tg_1_9 (List.mem_of_getElem? (i := 4) rfl) rfl
theorem m_ml_X5_353 : Cond.methodLink RX5 353 yX1_findsFar ∈ TT := tg_1_9 (List.mem_of_getElem? (i := 5) rfl) rfl
theorem m_im_X1_findsFar : Cond.instanceMethod yX1_findsFar ∈ TT := tg_1_9 (List.mem_of_getElem? (i := 6) rfl) rfl
theorem m_sl_X1_findsFar : Cond.selects RX1 yX1_findsFar yX1_findsFar ∈ TT := tg_1_9 (List.mem_of_getElem? (i := 7) rfl) rfl
theorem m_cd_X1_findsFar : Cond.code yX1_findsFar cX1_findsFar 3 (some .int) ∈ TT := tg_1_9 (List.mem_of_getElem? (i := 8) rfl) rfl
theorem m_ml_X1_43 : Cond.methodLink RX1 43 yX3_farAt ∈ TT := tg_1_9 (List.mem_of_getElem? (i := 9) rfl) rfl
theorem m_ml_X5_161 : Cond.methodLink RX5 161 yX5_variantBy ∈ TT := tg_1_9 (List.mem_of_getElem? (i := 10) rfl) rfl
theorem m_im_X5_variantBy : Cond.instanceMethod yX5_variantBy ∈ TT := tg_1_9 (List.mem_of_getElem? (i := 12) rfl) rfl
theorem m_cd_X5_variantBy : Cond.code yX5_variantBy cX5_variantBy 5 (some .int) ∈ TT := tg_1_9 (List.mem_of_getElem? (i := 13) rfl) rfl
theorem m_ml_X5_337 : Cond.methodLink RX5 337 yX3_splitBy ∈ TT := tg_1_9 (List.mem_of_getElem? (i := 14) rfl) rfl
theorem m_im_X3_splitBy : Cond.instanceMethod yX3_splitBy ∈ TT := tg_1_9 (List.mem_of_getElem? (i := 15) rfl) rfl
theorem m_sl_X3_splitBy : Cond.selects RX3 yX3_splitBy yX3_splitBy ∈ TT := tg_1_9 (List.mem_of_getElem? (i := 16) rfl) rfl
theorem m_cd_X3_splitBy : Cond.code yX3_splitBy cX3_splitBy 4 (some .int) ∈ TT := tg_1_9 (List.mem_of_getElem? (i := 17) rfl) rfl
theorem m_ml_L_53 : Cond.methodLink RL 53 yX5_why ∈ TT := tg_1_9 (List.mem_of_getElem? (i := 18) rfl) rfl
theorem m_im_X5_why : Cond.instanceMethod yX5_why ∈ TT := tg_1_9 (List.mem_of_getElem? (i := 19) rfl) rfl
theorem m_sl_X5_why : Cond.selects RX5 yX5_why yX5_why ∈ TT := tg_1_10 (List.mem_of_getElem? (i := 0) rfl) rfl
theorem m_cd_X5_why : Cond.code yX5_why cX5_why 6 (some .int) ∈ TT := tg_1_10 (List.mem_of_getElem? (i := 1) rfl) rfl
theorem m_ml_L_60 : Cond.methodLink RL 60 yX5_holds ∈ TT := tg_1_10 (List.mem_of_getElem? (i := 2) rfl) rfl
theorem m_im_X5_holds : Cond.instanceMethod yX5_holds ∈ TT := tg_1_10 (List.mem_of_getElem? (i := 3) rfl) rfl
theorem m_sl_X5_holds : Cond.selects RX5 yX5_holds yX5_holds ∈ TT := tg_1_10 (List.mem_of_getElem? (i := 4) rfl) rfl
theorem m_cd_X5_holds : Cond.code yX5_holds cX5_holds 6 (some .int) ∈ TT := tg_1_10 (List.mem_of_getElem? (i := 5) rfl) rfl
theorem m_ml_L_63 : Cond.methodLink RL 63 yX5_arm ∈ TT := tg_1_10 (List.mem_of_getElem? (i := 6) rfl) rfl
theorem m_im_X5_arm : Cond.instanceMethod yX5_arm ∈ TT := tg_1_10 (List.mem_of_getElem? (i := 7) rfl) rfl
theorem m_sl_X5_arm : Cond.selects RX5 yX5_arm yX5_arm ∈ TT := tg_1_10 (List.mem_of_getElem? (i := 8) rfl) rfl
theorem m_cd_X5_arm : Cond.code yX5_arm cX5_arm 5 (some .int) ∈ TT := tg_1_10 (List.mem_of_getElem? (i := 9) rfl) rfl
theorem m_ml_L_101 : Cond.methodLink RL 101 yX5_arms ∈ TT := tg_1_10 (List.mem_of_getElem? (i := 11) rfl) rfl
theorem m_im_X5_arms : Cond.instanceMethod yX5_arms ∈ TT := tg_1_10 (List.mem_of_getElem? (i := 12) rfl) rfl
theorem m_sl_X5_arms : Cond.selects RX5 yX5_arms yX5_arms ∈ TT := tg_1_10 (List.mem_of_getElem? (i := 13) rfl) rfl
theorem m_cd_X5_arms : Cond.code yX5_arms cX5_arms 1 (some .int) ∈ TT := tg_1_10 (List.mem_of_getElem? (i := 14) rfl) rfl
theorem m_ml_L_70 : Cond.methodLink RL 70 yX5_told ∈ TT := tg_1_10 (List.mem_of_getElem? (i := 15) rfl) rfl
theorem m_im_X5_told : Cond.instanceMethod yX5_told ∈ TT := tg_1_10 (List.mem_of_getElem? (i := 16) rfl) rfl
theorem m_sl_X5_told : Cond.selects RX5 yX5_told yX5_told ∈ TT := tg_1_10 (List.mem_of_getElem? (i := 17) rfl) rfl
theorem m_cd_X5_told : Cond.code yX5_told cX5_told 5 (some .int) ∈ TT := tg_1_10 (List.mem_of_getElem? (i := 18) rfl) rfl
theorem m_ml_X5_192 : Cond.methodLink RX5 192 yX4_countOf ∈ TT := tg_1_10 (List.mem_of_getElem? (i := 19) rfl) rfl
theorem m_im_X4_countOf : Cond.instanceMethod yX4_countOf ∈ TT := tg_1_11 (List.mem_of_getElem? (i := 0) rfl) rfl
theorem m_sl_X4_countOf : Cond.selects RX4 yX4_countOf yX4_countOf ∈ TT := tg_1_11 (List.mem_of_getElem? (i := 1) rfl) rfl
theorem m_cd_X4_countOf : Cond.code yX4_countOf cX4_countOf 2 (some .int) ∈ TT := tg_1_11 (List.mem_of_getElem? (i := 2) rfl) rfl
theorem m_ml_X4_25 : Cond.methodLink RX4 25 yX4_isKept ∈ TT := tg_1_11 (List.mem_of_getElem? (i := 3) rfl) rfl
theorem m_st_X4_isKept : Cond.static yX4_isKept ∈ TT := tg_1_11 (List.mem_of_getElem? (i := 4) rfl) rfl
theorem m_cd_X4_isKept : Cond.code yX4_isKept cX4_isKept 1 (some .boolean) ∈ TT := tg_1_11 (List.mem_of_getElem? (i := 5) rfl) rfl
theorem m_ml_X5_197 : Cond.methodLink RX5 197 yX4_actedOf ∈ TT := tg_1_11 (List.mem_of_getElem? (i := 6) rfl) rfl
theorem m_im_X4_actedOf : Cond.instanceMethod yX4_actedOf ∈ TT := tg_1_11 (List.mem_of_getElem? (i := 7) rfl) rfl
theorem m_sl_X4_actedOf : Cond.selects RX4 yX4_actedOf yX4_actedOf ∈ TT := tg_1_11 (List.mem_of_getElem? (i := 8) rfl) rfl
theorem m_cd_X4_actedOf : Cond.code yX4_actedOf cX4_actedOf 2 (some .int) ∈ TT := tg_1_11 (List.mem_of_getElem? (i := 9) rfl) rfl
theorem m_ml_X5_200 : Cond.methodLink RX5 200 yX4_sumOf ∈ TT := tg_1_11 (List.mem_of_getElem? (i := 10) rfl) rfl
theorem m_im_X4_sumOf : Cond.instanceMethod yX4_sumOf ∈ TT := tg_1_11 (List.mem_of_getElem? (i := 11) rfl) rfl
theorem m_sl_X4_sumOf : Cond.selects RX4 yX4_sumOf yX4_sumOf ∈ TT := tg_1_11 (List.mem_of_getElem? (i := 12) rfl) rfl
theorem m_cd_X4_sumOf : Cond.code yX4_sumOf cX4_sumOf 2 (some .int) ∈ TT := tg_1_11 (List.mem_of_getElem? (i := 13) rfl) rfl
theorem m_ml_X5_203 : Cond.methodLink RX5 203 yX4_squaresOf ∈ TT := tg_1_11 (List.mem_of_getElem? (i := 14) rfl) rfl
theorem m_im_X4_squaresOf : Cond.instanceMethod yX4_squaresOf ∈ TT := tg_1_11 (List.mem_of_getElem? (i := 15) rfl) rfl
theorem m_sl_X4_squaresOf : Cond.selects RX4 yX4_squaresOf yX4_squaresOf ∈ TT := tg_1_11 (List.mem_of_getElem? (i := 16) rfl) rfl
theorem m_cd_X4_squaresOf : Cond.code yX4_squaresOf cX4_squaresOf 2 (some .long) ∈ TT := tg_1_11 (List.mem_of_getElem? (i := 17) rfl) rfl
theorem m_ml_L_73 : Cond.methodLink RL 73 yX5_mean ∈ TT := tg_1_11 (List.mem_of_getElem? (i := 19) rfl) rfl
theorem m_im_X5_mean : Cond.instanceMethod yX5_mean ∈ TT := tg_2_0 (List.mem_of_getElem? (i := 0) rfl) rfl
theorem m_sl_X5_mean : Cond.selects RX5 yX5_mean yX5_mean ∈ TT := tg_2_0 (List.mem_of_getElem? (i := 1) rfl) rfl
theorem m_cd_X5_mean : Cond.code yX5_mean cX5_mean 4 (some .double) ∈ TT := tg_2_0 (List.mem_of_getElem? (i := 2) rfl) rfl
theorem m_ml_X5_209 : Cond.methodLink RX5 209 yX4_meanOf ∈ TT := tg_2_0 (List.mem_of_getElem? (i := 3) rfl) rfl
theorem m_im_X4_meanOf : Cond.instanceMethod yX4_meanOf ∈ TT := tg_2_0 (List.mem_of_getElem? (i := 4) rfl) rfl
theorem m_sl_X4_meanOf : Cond.selects RX4 yX4_meanOf yX4_meanOf ∈ TT := tg_2_0 (List.mem_of_getElem? (i := 5) rfl) rfl
theorem m_cd_X4_meanOf : Cond.code yX4_meanOf cX4_meanOf 3 (some .double) ∈ TT := tg_2_0 (List.mem_of_getElem? (i := 6) rfl) rfl
theorem m_ml_X4_33 : Cond.methodLink RX4 33 yX4_countOf ∈ TT := tg_2_0 (List.mem_of_getElem? (i := 7) rfl) rfl
theorem m_ml_X4_37 : Cond.methodLink RX4 37 yX4_sumOf ∈ TT := tg_2_0 (List.mem_of_getElem? (i := 8) rfl) rfl
theorem m_ml_L_77 : Cond.methodLink RL 77 yX5_lift ∈ TT := tg_2_0 (List.mem_of_getElem? (i := 9) rfl) rfl
theorem m_im_X5_lift : Cond.instanceMethod yX5_lift ∈ TT := tg_2_0 (List.mem_of_getElem? (i := 10) rfl) rfl
theorem m_sl_X5_lift : Cond.selects RX5 yX5_lift yX5_lift ∈ TT := tg_2_0 (List.mem_of_getElem? (i := 11) rfl) rfl
theorem m_cd_X5_lift : Cond.code yX5_lift cX5_lift 4 (some .double) ∈ TT := tg_2_0 (List.mem_of_getElem? (i := 12) rfl) rfl
theorem m_ml_X5_213 : Cond.methodLink RX5 213 yX4_liftOf ∈ TT := tg_2_0 (List.mem_of_getElem? (i := 13) rfl) rfl
theorem m_im_X4_liftOf : Cond.instanceMethod yX4_liftOf ∈ TT := tg_2_0 (List.mem_of_getElem? (i := 14) rfl) rfl
theorem m_sl_X4_liftOf : Cond.selects RX4 yX4_liftOf yX4_liftOf ∈ TT := tg_2_0 (List.mem_of_getElem? (i := 15) rfl) rfl
theorem m_cd_X4_liftOf : Cond.code yX4_liftOf cX4_liftOf 2 (some .double) ∈ TT := tg_2_0 (List.mem_of_getElem? (i := 16) rfl) rfl
theorem m_ml_X4_40 : Cond.methodLink RX4 40 yX4_meanOf ∈ TT := tg_2_0 (List.mem_of_getElem? (i := 17) rfl) rfl
theorem m_ml_L_80 : Cond.methodLink RL 80 yX5_sure ∈ TT := tg_2_0 (List.mem_of_getElem? (i := 18) rfl) rfl
theorem m_im_X5_sure : Cond.instanceMethod yX5_sure ∈ TT := tg_2_0 (List.mem_of_getElem? (i := 19) rfl) rfl
theorem m_sl_X5_sure : Cond.selects RX5 yX5_sure yX5_sure ∈ TT := tg_2_1 (List.mem_of_getElem? (i := 0) rfl) rfl
theorem m_cd_X5_sure : Cond.code yX5_sure cX5_sure 4 (some .double) ∈ TT := tg_2_1 (List.mem_of_getElem? (i := 1) rfl) rfl
theorem m_ml_X5_216 : Cond.methodLink RX5 216 yX4_surenessOf ∈ TT := tg_2_1 (List.mem_of_getElem? (i := 2) rfl) rfl
theorem m_im_X4_surenessOf : Cond.instanceMethod yX4_surenessOf ∈ TT := tg_2_1 (List.mem_of_getElem? (i := 3) rfl) rfl
theorem m_sl_X4_surenessOf : Cond.selects RX4 yX4_surenessOf yX4_surenessOf ∈ TT := tg_2_1 (List.mem_of_getElem? (i := 4) rfl) rfl
theorem m_cd_X4_surenessOf : Cond.code yX4_surenessOf cX4_surenessOf 6 (some .double) ∈ TT := tg_2_1 (List.mem_of_getElem? (i := 5) rfl) rfl
theorem m_ml_X4_44 : Cond.methodLink RX4 44 yX4_spreadByCount ∈ TT := tg_2_1 (List.mem_of_getElem? (i := 6) rfl) rfl
theorem m_im_X4_spreadByCount : Cond.instanceMethod yX4_spreadByCount ∈ TT := tg_2_1 (List.mem_of_getElem? (i := 8) rfl) rfl
theorem m_nw_X4 : Cond.instantiable RX4 5 ∈ TT := tg_2_1 (List.mem_of_getElem? (i := 9) rfl) rfl
theorem m_cd_X4_spreadByCount : Cond.code yX4_spreadByCount cX4_spreadByCount 7 (some .double) ∈ TT := tg_2_1 (List.mem_of_getElem? (i := 10) rfl) rfl
theorem m_ml_X4_50 : Cond.methodLink RX4 50 yX4_squaresOf ∈ TT := tg_2_1 (List.mem_of_getElem? (i := 11) rfl) rfl
theorem m_ml_X4_47 : Cond.methodLink RX4 47 yX4_liftOf ∈ TT := tg_2_1 (List.mem_of_getElem? (i := 12) rfl) rfl
theorem m_ml_L_83 : Cond.methodLink RL 83 yX5_bad ∈ TT := tg_2_1 (List.mem_of_getElem? (i := 13) rfl) rfl
theorem m_im_X5_bad : Cond.instanceMethod yX5_bad ∈ TT := tg_2_1 (List.mem_of_getElem? (i := 14) rfl) rfl
theorem m_sl_X5_bad : Cond.selects RX5 yX5_bad yX5_bad ∈ TT := tg_2_1 (List.mem_of_getElem? (i := 15) rfl) rfl
theorem m_cd_X5_bad : Cond.code yX5_bad cX5_bad 2 (some .int) ∈ TT := tg_2_1 (List.mem_of_getElem? (i := 16) rfl) rfl
theorem m_ml_X5_219 : Cond.methodLink RX5 219 yX3_badness ∈ TT := tg_2_1 (List.mem_of_getElem? (i := 17) rfl) rfl
theorem m_im_X3_badness : Cond.instanceMethod yX3_badness ∈ TT := tg_2_1 (List.mem_of_getElem? (i := 18) rfl) rfl
theorem m_sl_X3_badness : Cond.selects RX3 yX3_badness yX3_badness ∈ TT := tg_2_1 (List.mem_of_getElem? (i := 19) rfl) rfl
theorem m_cd_X3_badness : Cond.code yX3_badness cX3_badness 10 (some .int) ∈ TT := tg_2_2 (List.mem_of_getElem? (i := 0) rfl) rfl
theorem m_ml_X3_124 : Cond.methodLink RX3 124 yX4_countOf ∈ TT := tg_2_2 (List.mem_of_getElem? (i := 1) rfl) rfl
theorem m_lc_X3_128 : Cond.constantLong RX3 128 (10) ∈ TT := tg_2_2 (List.mem_of_getElem? (i := 2) rfl) rfl
theorem m_ml_L_92 : Cond.methodLink RL 92 yX5_best ∈ TT := tg_2_2 (List.mem_of_getElem? (i := 3) rfl) rfl
theorem m_im_X5_best : Cond.instanceMethod yX5_best ∈ TT := tg_2_2 (List.mem_of_getElem? (i := 4) rfl) rfl
theorem m_sl_X5_best : Cond.selects RX5 yX5_best yX5_best ∈ TT := tg_2_2 (List.mem_of_getElem? (i := 5) rfl) rfl
theorem m_cd_X5_best : Cond.code yX5_best cX5_best 2 (some .int) ∈ TT := tg_2_2 (List.mem_of_getElem? (i := 6) rfl) rfl
theorem m_ml_X5_227 : Cond.methodLink RX5 227 yX4_bestVariant ∈ TT := tg_2_2 (List.mem_of_getElem? (i := 7) rfl) rfl
theorem m_im_X4_bestVariant : Cond.instanceMethod yX4_bestVariant ∈ TT := tg_2_2 (List.mem_of_getElem? (i := 8) rfl) rfl
theorem m_sl_X4_bestVariant : Cond.selects RX4 yX4_bestVariant yX4_bestVariant ∈ TT := tg_2_2 (List.mem_of_getElem? (i := 9) rfl) rfl
theorem m_cd_X4_bestVariant : Cond.code yX4_bestVariant cX4_bestVariant 3 (some .int) ∈ TT := tg_2_2 (List.mem_of_getElem? (i := 10) rfl) rfl
theorem m_ml_L_66 : Cond.methodLink RL 66 yX5_reach ∈ TT := tg_2_2 (List.mem_of_getElem? (i := 11) rfl) rfl
theorem m_im_X5_reach : Cond.instanceMethod yX5_reach ∈ TT := tg_2_2 (List.mem_of_getElem? (i := 12) rfl) rfl
theorem m_sl_X5_reach : Cond.selects RX5 yX5_reach yX5_reach ∈ TT := tg_2_2 (List.mem_of_getElem? (i := 13) rfl) rfl
theorem m_cd_X5_reach : Cond.code yX5_reach cX5_reach 7 (some .int) ∈ TT := tg_2_2 (List.mem_of_getElem? (i := 14) rfl) rfl
theorem m_ml_X5_230 : Cond.methodLink RX5 230 yX5_checkMany ∈ TT := tg_2_2 (List.mem_of_getElem? (i := 15) rfl) rfl
theorem m_st_X5_checkMany : Cond.static yX5_checkMany ∈ TT := tg_2_2 (List.mem_of_getElem? (i := 16) rfl) rfl
theorem m_cd_X5_checkMany : Cond.code yX5_checkMany cX5_checkMany 1 none ∈ TT := tg_2_2 (List.mem_of_getElem? (i := 17) rfl) rfl
theorem m_ml_X5_233 : Cond.methodLink RX5 233 yX1_becomeCounted ∈ TT := tg_2_2 (List.mem_of_getElem? (i := 19) rfl) rfl
theorem m_im_X1_becomeCounted : Cond.instanceMethod yX1_becomeCounted ∈ TT := tg_2_3 (List.mem_of_getElem? (i := 0) rfl) rfl
theorem m_sl_X1_becomeCounted : Cond.selects RX1 yX1_becomeCounted yX1_becomeCounted ∈ TT := tg_2_3 (List.mem_of_getElem? (i := 1) rfl) rfl
theorem m_cd_X1_becomeCounted : Cond.code yX1_becomeCounted cX1_becomeCounted 2 none ∈ TT := tg_2_3 (List.mem_of_getElem? (i := 2) rfl) rfl
theorem m_ml_X1_27 : Cond.methodLink RX1 27 yX1_become ∈ TT := tg_2_3 (List.mem_of_getElem? (i := 3) rfl) rfl
theorem m_ml_L_98 : Cond.methodLink RL 98 yX5_both ∈ TT := tg_2_3 (List.mem_of_getElem? (i := 4) rfl) rfl
theorem m_im_X5_both : Cond.instanceMethod yX5_both ∈ TT := tg_2_3 (List.mem_of_getElem? (i := 5) rfl) rfl
theorem m_sl_X5_both : Cond.selects RX5 yX5_both yX5_both ∈ TT := tg_2_3 (List.mem_of_getElem? (i := 6) rfl) rfl
theorem m_cd_X5_both : Cond.code yX5_both cX5_both 8 (some .int) ∈ TT := tg_2_3 (List.mem_of_getElem? (i := 7) rfl) rfl
theorem m_ml_L_95 : Cond.methodLink RL 95 yX5_wouldChange ∈ TT := tg_2_3 (List.mem_of_getElem? (i := 8) rfl) rfl
theorem m_im_X5_wouldChange : Cond.instanceMethod yX5_wouldChange ∈ TT := tg_2_3 (List.mem_of_getElem? (i := 9) rfl) rfl
theorem m_sl_X5_wouldChange : Cond.selects RX5 yX5_wouldChange yX5_wouldChange ∈ TT := tg_2_3 (List.mem_of_getElem? (i := 10) rfl) rfl
theorem m_cd_X5_wouldChange : Cond.code yX5_wouldChange cX5_wouldChange 8 (some .int) ∈ TT := tg_2_3 (List.mem_of_getElem? (i := 11) rfl) rfl
theorem m_ml_X5_238 : Cond.methodLink RX5 238 yX1_supposeRamp ∈ TT := tg_2_3 (List.mem_of_getElem? (i := 13) rfl) rfl
theorem m_im_X1_supposeRamp : Cond.instanceMethod yX1_supposeRamp ∈ TT := tg_2_3 (List.mem_of_getElem? (i := 14) rfl) rfl
theorem m_sl_X1_supposeRamp : Cond.selects RX1 yX1_supposeRamp yX1_supposeRamp ∈ TT := tg_2_3 (List.mem_of_getElem? (i := 15) rfl) rfl
theorem m_cd_X1_supposeRamp : Cond.code yX1_supposeRamp cX1_supposeRamp 3 none ∈ TT := tg_2_3 (List.mem_of_getElem? (i := 16) rfl) rfl
theorem m_ml_L_89 : Cond.methodLink RL 89 yX5_shareIn ∈ TT := tg_2_3 (List.mem_of_getElem? (i := 17) rfl) rfl
theorem m_im_X5_shareIn : Cond.instanceMethod yX5_shareIn ∈ TT := tg_2_3 (List.mem_of_getElem? (i := 18) rfl) rfl
theorem m_sl_X5_shareIn : Cond.selects RX5 yX5_shareIn yX5_shareIn ∈ TT := tg_2_3 (List.mem_of_getElem? (i := 19) rfl) rfl
theorem m_cd_X5_shareIn : Cond.code yX5_shareIn cX5_shareIn 4 (some .int) ∈ TT := tg_2_4 (List.mem_of_getElem? (i := 0) rfl) rfl
theorem m_ml_L_31 : Cond.methodLink RL 31 yX5_digest ∈ TT := tg_2_4 (List.mem_of_getElem? (i := 2) rfl) rfl
theorem m_im_X5_digest : Cond.instanceMethod yX5_digest ∈ TT := tg_2_4 (List.mem_of_getElem? (i := 3) rfl) rfl
theorem m_sl_X5_digest : Cond.selects RX5 yX5_digest yX5_digest ∈ TT := tg_2_4 (List.mem_of_getElem? (i := 4) rfl) rfl
theorem m_cd_X5_digest : Cond.code yX5_digest cX5_digest 5 (some .long) ∈ TT := tg_2_4 (List.mem_of_getElem? (i := 5) rfl) rfl
theorem m_lc_X5_244 : Cond.constantLong RX5 244 (2687) ∈ TT := tg_2_4 (List.mem_of_getElem? (i := 6) rfl) rfl
theorem m_ml_X5_246 : Cond.methodLink RX5 246 yX5_switches ∈ TT := tg_2_4 (List.mem_of_getElem? (i := 7) rfl) rfl
theorem m_im_X5_switches : Cond.instanceMethod yX5_switches ∈ TT := tg_2_4 (List.mem_of_getElem? (i := 8) rfl) rfl
theorem m_sl_X5_switches : Cond.selects RX5 yX5_switches yX5_switches ∈ TT := tg_2_4 (List.mem_of_getElem? (i := 9) rfl) rfl
theorem m_cd_X5_switches : Cond.code yX5_switches cX5_switches 1 (some .int) ∈ TT := tg_2_4 (List.mem_of_getElem? (i := 10) rfl) rfl
theorem m_ml_X5_249 : Cond.methodLink RX5 249 yX5_withNext ∈ TT := tg_2_4 (List.mem_of_getElem? (i := 11) rfl) rfl
theorem m_st_X5_withNext : Cond.static yX5_withNext ∈ TT := tg_2_4 (List.mem_of_getElem? (i := 12) rfl) rfl
theorem m_cd_X5_withNext : Cond.code yX5_withNext cX5_withNext 4 (some .long) ∈ TT := tg_2_4 (List.mem_of_getElem? (i := 13) rfl) rfl
theorem m_lc_X5_299 : Cond.constantLong RX5 299 (31) ∈ TT := tg_2_4 (List.mem_of_getElem? (i := 14) rfl) rfl
theorem m_ml_X5_253 : Cond.methodLink RX5 253 yX5_arms ∈ TT := tg_2_4 (List.mem_of_getElem? (i := 15) rfl) rfl
theorem m_ml_X5_256 : Cond.methodLink RX5 256 yX5_left ∈ TT := tg_2_4 (List.mem_of_getElem? (i := 16) rfl) rfl
theorem m_im_X5_left : Cond.instanceMethod yX5_left ∈ TT := tg_2_4 (List.mem_of_getElem? (i := 17) rfl) rfl
theorem m_sl_X5_left : Cond.selects RX5 yX5_left yX5_left ∈ TT := tg_2_4 (List.mem_of_getElem? (i := 18) rfl) rfl
theorem m_cd_X5_left : Cond.code yX5_left cX5_left 7 (some .int) ∈ TT := tg_2_4 (List.mem_of_getElem? (i := 19) rfl) rfl
theorem m_ml_X5_259 : Cond.methodLink RX5 259 yX5_withSwitch ∈ TT := tg_2_5 (List.mem_of_getElem? (i := 1) rfl) rfl
theorem m_im_X5_withSwitch : Cond.instanceMethod yX5_withSwitch ∈ TT := tg_2_5 (List.mem_of_getElem? (i := 3) rfl) rfl
theorem m_cd_X5_withSwitch : Cond.code yX5_withSwitch cX5_withSwitch 9 (some .long) ∈ TT := tg_2_5 (List.mem_of_getElem? (i := 4) rfl) rfl
theorem m_ml_X5_273 : Cond.methodLink RX5 273 yX5_share ∈ TT := tg_2_5 (List.mem_of_getElem? (i := 5) rfl) rfl
theorem m_ml_X5_276 : Cond.methodLink RX5 276 yX5_bad ∈ TT := tg_2_5 (List.mem_of_getElem? (i := 6) rfl) rfl
theorem m_ml_X5_279 : Cond.methodLink RX5 279 yX5_isTrusted ∈ TT := tg_2_5 (List.mem_of_getElem? (i := 7) rfl) rfl
theorem m_im_X5_isTrusted : Cond.instanceMethod yX5_isTrusted ∈ TT := tg_2_5 (List.mem_of_getElem? (i := 8) rfl) rfl
theorem m_sl_X5_isTrusted : Cond.selects RX5 yX5_isTrusted yX5_isTrusted ∈ TT := tg_2_5 (List.mem_of_getElem? (i := 9) rfl) rfl
theorem m_cd_X5_isTrusted : Cond.code yX5_isTrusted cX5_isTrusted 2 (some .boolean) ∈ TT := tg_2_5 (List.mem_of_getElem? (i := 10) rfl) rfl
theorem m_ml_X5_223 : Cond.methodLink RX5 223 yX3_canBeTrusted ∈ TT := tg_2_5 (List.mem_of_getElem? (i := 11) rfl) rfl
theorem m_im_X3_canBeTrusted : Cond.instanceMethod yX3_canBeTrusted ∈ TT := tg_2_5 (List.mem_of_getElem? (i := 12) rfl) rfl
theorem m_sl_X3_canBeTrusted : Cond.selects RX3 yX3_canBeTrusted yX3_canBeTrusted ∈ TT := tg_2_5 (List.mem_of_getElem? (i := 13) rfl) rfl
theorem m_cd_X3_canBeTrusted : Cond.code yX3_canBeTrusted cX3_canBeTrusted 3 (some .boolean) ∈ TT := tg_2_5 (List.mem_of_getElem? (i := 14) rfl) rfl
theorem m_ml_X3_130 : Cond.methodLink RX3 130 yX3_badness ∈ TT := tg_2_5 (List.mem_of_getElem? (i := 15) rfl) rfl
theorem m_ml_X3_134 : Cond.methodLink RX3 134 yX3_mostBadness ∈ TT := tg_2_5 (List.mem_of_getElem? (i := 16) rfl) rfl
theorem m_st_X3_mostBadness : Cond.static yX3_mostBadness ∈ TT := tg_2_5 (List.mem_of_getElem? (i := 17) rfl) rfl
theorem m_cd_X3_mostBadness : Cond.code yX3_mostBadness cX3_mostBadness 1 (some .int) ∈ TT := tg_2_5 (List.mem_of_getElem? (i := 18) rfl) rfl
theorem m_ml_X5_283 : Cond.methodLink RX5 283 yX5_best ∈ TT := tg_2_5 (List.mem_of_getElem? (i := 19) rfl) rfl
theorem m_ml_X5_289 : Cond.methodLink RX5 289 yX5_weight ∈ TT := tg_2_6 (List.mem_of_getElem? (i := 0) rfl) rfl
theorem m_ml_X5_292 : Cond.methodLink RX5 292 yX5_told ∈ TT := tg_2_6 (List.mem_of_getElem? (i := 1) rfl) rfl
theorem m_ml_X5_296 : Cond.methodLink RX5 296 yX5_reach ∈ TT := tg_2_6 (List.mem_of_getElem? (i := 2) rfl) rfl
theorem m_ml_X5_263 : Cond.methodLink RX5 263 yX5_gets ∈ TT := tg_2_6 (List.mem_of_getElem? (i := 3) rfl) rfl
theorem m_ml_X5_267 : Cond.methodLink RX5 267 yX5_why ∈ TT := tg_2_6 (List.mem_of_getElem? (i := 4) rfl) rfl
theorem m_ml_X5_270 : Cond.methodLink RX5 270 yX5_arm ∈ TT := tg_2_6 (List.mem_of_getElem? (i := 5) rfl) rfl
theorem m_cl_L_9 : Cond.classLink RL 9 RX6 ∈ TT := tg_2_6 (List.mem_of_getElem? (i := 6) rfl) rfl
theorem m_nw_X6 : Cond.instantiable RX6 11 ∈ TT := tg_2_6 (List.mem_of_getElem? (i := 7) rfl) rfl
theorem m_ml_L_11 : Cond.methodLink RL 11 yX6_init ∈ TT := tg_2_6 (List.mem_of_getElem? (i := 8) rfl) rfl
theorem m_im_X6_init : Cond.instanceMethod yX6_init ∈ TT := tg_2_6 (List.mem_of_getElem? (i := 9) rfl) rfl
theorem m_cd_X6_init : Cond.code yX6_init cX6_init 3 none ∈ TT := tg_2_6 (List.mem_of_getElem? (i := 10) rfl) rfl
theorem m_ml_X6_1 : Cond.methodLink RX6 1 ⟨"java/lang/Object", "<init>", "()V"⟩ ∈ TT := tg_2_6 (List.mem_of_getElem? (i := 11) rfl) rfl
theorem m_cl_X6_7 : Cond.classLink RX6 7 RX5 ∈ TT := tg_2_6 (List.mem_of_getElem? (i := 12) rfl) rfl
theorem m_ml_X6_9 : Cond.methodLink RX6 9 yX5_init ∈ TT := tg_2_6 (List.mem_of_getElem? (i := 13) rfl) rfl
theorem m_im_X5_init : Cond.instanceMethod yX5_init ∈ TT := tg_2_6 (List.mem_of_getElem? (i := 14) rfl) rfl
theorem m_cd_X5_init : Cond.code yX5_init cX5_init 1 none ∈ TT := tg_2_6 (List.mem_of_getElem? (i := 15) rfl) rfl
theorem m_ml_X5_1 : Cond.methodLink RX5 1 ⟨"java/lang/Object", "<init>", "()V"⟩ ∈ TT := tg_2_6 (List.mem_of_getElem? (i := 16) rfl) rfl
theorem m_cl_X5_9 : Cond.classLink RX5 9 RX3 ∈ TT := tg_2_6 (List.mem_of_getElem? (i := 17) rfl) rfl
theorem m_cl_X5_15 : Cond.classLink RX5 15 RX1 ∈ TT := tg_2_6 (List.mem_of_getElem? (i := 19) rfl) rfl
theorem m_nw_X1 : Cond.instantiable RX1 6 ∈ TT := tg_2_7 (List.mem_of_getElem? (i := 0) rfl) rfl
theorem m_im_X1_init : Cond.instanceMethod yX1_init ∈ TT := tg_2_7 (List.mem_of_getElem? (i := 2) rfl) rfl
theorem m_cd_X1_init : Cond.code yX1_init cX1_init 1 none ∈ TT := tg_2_7 (List.mem_of_getElem? (i := 3) rfl) rfl
theorem m_ml_X1_3 : Cond.methodLink RX1 3 ⟨"java/lang/Object", "<init>", "()V"⟩ ∈ TT := tg_2_7 (List.mem_of_getElem? (i := 4) rfl) rfl
theorem m_fl_X1_18 : Cond.fieldLink RX1 18 "DaybreakFlags$Asker" "user" "I" ∈ TT := tg_2_7 (List.mem_of_getElem? (i := 5) rfl) rfl
theorem m_fl_X1_21 : Cond.fieldLink RX1 21 "DaybreakFlags$Asker" "first" "I" ∈ TT := tg_2_7 (List.mem_of_getElem? (i := 7) rfl) rfl
theorem m_fl_X1_24 : Cond.fieldLink RX1 24 "DaybreakFlags$Asker" "second" "I" ∈ TT := tg_2_7 (List.mem_of_getElem? (i := 9) rfl) rfl
theorem m_fl_X1_9 : Cond.fieldLink RX1 9 "DaybreakFlags$Asker" "turned" "I" ∈ TT := tg_2_7 (List.mem_of_getElem? (i := 11) rfl) rfl
theorem m_fl_X1_15 : Cond.fieldLink RX1 15 "DaybreakFlags$Asker" "ramped" "I" ∈ TT := tg_2_7 (List.mem_of_getElem? (i := 12) rfl) rfl
theorem m_fl_X1_31 : Cond.fieldLink RX1 31 "DaybreakFlags$Asker" "rampedTo" "I" ∈ TT := tg_2_7 (List.mem_of_getElem? (i := 13) rfl) rfl
theorem m_fl_X5_11 : Cond.fieldLink RX5 11 "DaybreakFlags" "row" "[LDaybreakFlags$Switch;" ∈ TT := tg_2_8 (List.mem_of_getElem? (i := 7) rfl) rfl
theorem m_fl_X5_18 : Cond.fieldLink RX5 18 "DaybreakFlags" "asker" "LDaybreakFlags$Asker;" ∈ TT := tg_2_8 (List.mem_of_getElem? (i := 8) rfl) rfl
theorem m_fl_X5_33 : Cond.fieldLink RX5 33 "DaybreakFlags" "switchCount" "I" ∈ TT := tg_2_8 (List.mem_of_getElem? (i := 9) rfl) rfl
theorem m_fl_X5_165 : Cond.fieldLink RX5 165 "DaybreakFlags" "armCount" "I" ∈ TT := tg_2_8 (List.mem_of_getElem? (i := 10) rfl) rfl
theorem m_fl_X5_132 : Cond.fieldLink RX5 132 "DaybreakFlags" "holdout" "I" ∈ TT := tg_2_8 (List.mem_of_getElem? (i := 11) rfl) rfl
theorem m_fl_X5_69 : Cond.fieldLink RX5 69 "DaybreakFlags" "clock" "I" ∈ TT := tg_2_8 (List.mem_of_getElem? (i := 12) rfl) rfl
theorem m_cl_X6_16 : Cond.classLink RX6 16 "[I" ∈ TT := tg_2_9 (List.mem_of_getElem? (i := 6) rfl) rfl
theorem m_cl_X6_22 : Cond.classLink RX6 22 "[[I" ∈ TT := tg_2_9 (List.mem_of_getElem? (i := 8) rfl) rfl
theorem m_cl_X6_26 : Cond.classLink RX6 26 "[[[I" ∈ TT := tg_2_9 (List.mem_of_getElem? (i := 9) rfl) rfl
theorem m_fl_X6_10 : Cond.fieldLink RX6 10 "DaybreakFlagsLaw$Desk" "m" "LDaybreakFlags;" ∈ TT := tg_2_9 (List.mem_of_getElem? (i := 11) rfl) rfl
theorem m_fl_L_14 : Cond.fieldLink RL 14 "DaybreakFlagsLaw$Desk" "m" "LDaybreakFlags;" ∈ TT := tg_2_9 (List.mem_of_getElem? (i := 12) rfl) rfl
theorem m_fl_X6_34 : Cond.fieldLink RX6 34 "DaybreakFlagsLaw$Desk" "s" "[I" ∈ TT := tg_2_9 (List.mem_of_getElem? (i := 13) rfl) rfl
theorem m_fl_X6_37 : Cond.fieldLink RX6 37 "DaybreakFlagsLaw$Desk" "draws" "I" ∈ TT := tg_2_9 (List.mem_of_getElem? (i := 14) rfl) rfl
theorem m_fl_X6_64 : Cond.fieldLink RX6 64 "DaybreakFlagsLaw$Desk" "clock" "I" ∈ TT := tg_2_9 (List.mem_of_getElem? (i := 15) rfl) rfl
theorem m_fl_X6_114 : Cond.fieldLink RX6 114 "DaybreakFlagsLaw$Desk" "held" "I" ∈ TT := tg_2_9 (List.mem_of_getElem? (i := 16) rfl) rfl
theorem m_fl_X6_57 : Cond.fieldLink RX6 57 "DaybreakFlagsLaw$Desk" "switches" "I" ∈ TT := tg_2_9 (List.mem_of_getElem? (i := 17) rfl) rfl
theorem m_fl_L_37 : Cond.fieldLink RL 37 "DaybreakFlagsLaw$Desk" "switches" "I" ∈ TT := tg_2_9 (List.mem_of_getElem? (i := 18) rfl) rfl
theorem m_fl_X6_18 : Cond.fieldLink RX6 18 "DaybreakFlagsLaw$Desk" "one" "[[I" ∈ TT := tg_2_9 (List.mem_of_getElem? (i := 19) rfl) rfl
theorem m_fl_L_41 : Cond.fieldLink RL 41 "DaybreakFlagsLaw$Desk" "one" "[[I" ∈ TT := tg_2_10 (List.mem_of_getElem? (i := 0) rfl) rfl
theorem m_fl_X6_23 : Cond.fieldLink RX6 23 "DaybreakFlagsLaw$Desk" "weight" "[[I" ∈ TT := tg_2_10 (List.mem_of_getElem? (i := 1) rfl) rfl
theorem m_fl_X6_28 : Cond.fieldLink RX6 28 "DaybreakFlagsLaw$Desk" "rules" "[[[I" ∈ TT := tg_2_10 (List.mem_of_getElem? (i := 2) rfl) rfl
theorem m_fl_X6_31 : Cond.fieldLink RX6 31 "DaybreakFlagsLaw$Desk" "arms" "[[I" ∈ TT := tg_2_10 (List.mem_of_getElem? (i := 3) rfl) rfl
theorem m_fl_X6_156 : Cond.fieldLink RX6 156 "DaybreakFlagsLaw$Desk" "reason" "I" ∈ TT := tg_2_10 (List.mem_of_getElem? (i := 4) rfl) rfl
theorem m_ar_int : Cond.arrayClass .int ∈ TT := tg_2_11 (List.mem_of_getElem? (i := 8) rfl) rfl
theorem m_ml_L_45 : Cond.methodLink RL 45 yX6_draw ∈ TT := tg_2_11 (List.mem_of_getElem? (i := 9) rfl) rfl
theorem m_im_X6_draw : Cond.instanceMethod yX6_draw ∈ TT := tg_2_11 (List.mem_of_getElem? (i := 10) rfl) rfl
theorem m_sl_X6_draw : Cond.selects RX6 yX6_draw yX6_draw ∈ TT := tg_2_11 (List.mem_of_getElem? (i := 11) rfl) rfl
theorem m_cd_X6_draw : Cond.code yX6_draw cX6_draw 3 (some .int) ∈ TT := tg_2_11 (List.mem_of_getElem? (i := 12) rfl) rfl
theorem m_st_L_cell : Cond.static yL_cell ∈ TT := tg_2_11 (List.mem_of_getElem? (i := 14) rfl) rfl
theorem m_cd_L_cell : Cond.code yL_cell cL_cell 2 (some .int) ∈ TT := tg_2_11 (List.mem_of_getElem? (i := 15) rfl) rfl
theorem m_kc_L_8 : Cond.constant RL 8 (790386105) ∈ TT := tg_2_11 (List.mem_of_getElem? (i := 16) rfl) rfl
theorem m_st_L_below : Cond.static yL_below ∈ TT := tg_2_11 (List.mem_of_getElem? (i := 18) rfl) rfl
theorem m_cd_L_below : Cond.code yL_below cL_below 2 (some .int) ∈ TT := tg_2_11 (List.mem_of_getElem? (i := 19) rfl) rfl
theorem m_kc_L_7 : Cond.constant RL 7 (2147483647) ∈ TT := tg_3_0 (List.mem_of_getElem? (i := 0) rfl) rfl
theorem m_ml_L_18 : Cond.methodLink RL 18 yX6_found ∈ TT := tg_3_0 (List.mem_of_getElem? (i := 1) rfl) rfl
theorem m_im_X6_found : Cond.instanceMethod yX6_found ∈ TT := tg_3_0 (List.mem_of_getElem? (i := 2) rfl) rfl
theorem m_sl_X6_found : Cond.selects RX6 yX6_found yX6_found ∈ TT := tg_3_0 (List.mem_of_getElem? (i := 3) rfl) rfl
theorem m_cd_X6_found : Cond.code yX6_found cX6_found 2 (some .boolean) ∈ TT := tg_3_0 (List.mem_of_getElem? (i := 4) rfl) rfl
theorem m_ml_X6_123 : Cond.methodLink RX6 123 yX6_add ∈ TT := tg_3_0 (List.mem_of_getElem? (i := 5) rfl) rfl
theorem m_im_X6_add : Cond.instanceMethod yX6_add ∈ TT := tg_3_0 (List.mem_of_getElem? (i := 6) rfl) rfl
theorem m_sl_X6_add : Cond.selects RX6 yX6_add yX6_add ∈ TT := tg_3_0 (List.mem_of_getElem? (i := 7) rfl) rfl
theorem m_cd_X6_add : Cond.code yX6_add cX6_add 2 (some .boolean) ∈ TT := tg_3_0 (List.mem_of_getElem? (i := 8) rfl) rfl
theorem m_ml_X6_60 : Cond.methodLink RX6 60 yX6_draw ∈ TT := tg_3_0 (List.mem_of_getElem? (i := 9) rfl) rfl
theorem m_ml_X6_67 : Cond.methodLink RX6 67 yX5_add ∈ TT := tg_3_0 (List.mem_of_getElem? (i := 10) rfl) rfl
theorem m_im_X5_add : Cond.instanceMethod yX5_add ∈ TT := tg_3_0 (List.mem_of_getElem? (i := 11) rfl) rfl
theorem m_sl_X5_add : Cond.selects RX5 yX5_add yX5_add ∈ TT := tg_3_0 (List.mem_of_getElem? (i := 12) rfl) rfl
theorem m_cd_X5_add : Cond.code yX5_add cX5_add 5 (some .int) ∈ TT := tg_3_0 (List.mem_of_getElem? (i := 13) rfl) rfl
theorem m_cl_X5_37 : Cond.classLink RX5 37 "java/lang/IllegalStateException" ∈ TT := tg_3_0 (List.mem_of_getElem? (i := 15) rfl) rfl
theorem m_ml_X5_41 : Cond.methodLink RX5 41 ⟨"java/lang/IllegalStateException", "<init>", "(Ljava/lang/String;)V"⟩ ∈ TT := tg_3_1 (List.mem_of_getElem? (i := 5) rfl) rfl
theorem m_nw_X3 : Cond.instantiable RX3 18 ∈ TT := tg_3_1 (List.mem_of_getElem? (i := 11) rfl) rfl
theorem m_ml_X5_42 : Cond.methodLink RX5 42 yX3_init ∈ TT := tg_3_1 (List.mem_of_getElem? (i := 12) rfl) rfl
theorem m_im_X3_init : Cond.instanceMethod yX3_init ∈ TT := tg_3_1 (List.mem_of_getElem? (i := 13) rfl) rfl
theorem m_cd_X3_init : Cond.code yX3_init cX3_init 5 none ∈ TT := tg_3_1 (List.mem_of_getElem? (i := 14) rfl) rfl
theorem m_ml_X3_3 : Cond.methodLink RX3 3 ⟨"java/lang/Object", "<init>", "()V"⟩ ∈ TT := tg_3_1 (List.mem_of_getElem? (i := 15) rfl) rfl
theorem m_cl_X3_15 : Cond.classLink RX3 15 RX2 ∈ TT := tg_3_1 (List.mem_of_getElem? (i := 16) rfl) rfl
theorem m_cl_X3_21 : Cond.classLink RX3 21 RX4 ∈ TT := tg_3_1 (List.mem_of_getElem? (i := 18) rfl) rfl
theorem m_im_X4_init : Cond.instanceMethod yX4_init ∈ TT := tg_3_2 (List.mem_of_getElem? (i := 0) rfl) rfl
theorem m_cd_X4_init : Cond.code yX4_init cX4_init 1 none ∈ TT := tg_3_2 (List.mem_of_getElem? (i := 1) rfl) rfl
theorem m_ml_X4_3 : Cond.methodLink RX4 3 ⟨"java/lang/Object", "<init>", "()V"⟩ ∈ TT := tg_3_2 (List.mem_of_getElem? (i := 2) rfl) rfl
theorem m_fl_X4_9 : Cond.fieldLink RX4 9 "DaybreakFlags$Tally" "counts" "[I" ∈ TT := tg_3_2 (List.mem_of_getElem? (i := 3) rfl) rfl
theorem m_fl_X4_15 : Cond.fieldLink RX4 15 "DaybreakFlags$Tally" "acted" "[I" ∈ TT := tg_3_2 (List.mem_of_getElem? (i := 4) rfl) rfl
theorem m_fl_X4_18 : Cond.fieldLink RX4 18 "DaybreakFlags$Tally" "sums" "[I" ∈ TT := tg_3_2 (List.mem_of_getElem? (i := 5) rfl) rfl
theorem m_fl_X4_21 : Cond.fieldLink RX4 21 "DaybreakFlags$Tally" "squares" "[J" ∈ TT := tg_3_2 (List.mem_of_getElem? (i := 6) rfl) rfl
theorem m_fl_X4_29 : Cond.fieldLink RX4 29 "DaybreakFlags$Tally" "total" "I" ∈ TT := tg_3_2 (List.mem_of_getElem? (i := 7) rfl) rfl
theorem m_ar_long : Cond.arrayClass .long ∈ TT := tg_3_3 (List.mem_of_getElem? (i := 0) rfl) rfl
theorem m_fl_X3_38 : Cond.fieldLink RX3 38 "DaybreakFlags$Switch" "number" "I" ∈ TT := tg_3_3 (List.mem_of_getElem? (i := 1) rfl) rfl
theorem m_fl_X3_41 : Cond.fieldLink RX3 41 "DaybreakFlags$Switch" "salt" "I" ∈ TT := tg_3_3 (List.mem_of_getElem? (i := 4) rfl) rfl
theorem m_fl_X3_44 : Cond.fieldLink RX3 44 "DaybreakFlags$Switch" "variantCount" "I" ∈ TT := tg_3_3 (List.mem_of_getElem? (i := 6) rfl) rfl
theorem m_fl_X3_47 : Cond.fieldLink RX3 47 "DaybreakFlags$Switch" "isSticky" "Z" ∈ TT := tg_3_3 (List.mem_of_getElem? (i := 8) rfl) rfl
theorem m_fl_X3_9 : Cond.fieldLink RX3 9 "DaybreakFlags$Switch" "weights" "[I" ∈ TT := tg_3_3 (List.mem_of_getElem? (i := 10) rfl) rfl
theorem m_fl_X3_17 : Cond.fieldLink RX3 17 "DaybreakFlags$Switch" "rules" "[LDaybreakFlags$Rule;" ∈ TT := tg_3_3 (List.mem_of_getElem? (i := 11) rfl) rfl
theorem m_fl_X3_24 : Cond.fieldLink RX3 24 "DaybreakFlags$Switch" "tally" "LDaybreakFlags$Tally;" ∈ TT := tg_3_3 (List.mem_of_getElem? (i := 12) rfl) rfl
theorem m_fl_X3_85 : Cond.fieldLink RX3 85 "DaybreakFlags$Switch" "newest" "LDaybreakFlags$Arm;" ∈ TT := tg_3_3 (List.mem_of_getElem? (i := 14) rfl) rfl
theorem m_fl_X3_74 : Cond.fieldLink RX3 74 "DaybreakFlags$Switch" "ruleCount" "I" ∈ TT := tg_3_3 (List.mem_of_getElem? (i := 16) rfl) rfl
theorem m_fl_X3_28 : Cond.fieldLink RX3 28 "DaybreakFlags$Switch" "startShare" "I" ∈ TT := tg_3_3 (List.mem_of_getElem? (i := 19) rfl) rfl
theorem m_fl_X3_51 : Cond.fieldLink RX3 51 "DaybreakFlags$Switch" "step" "I" ∈ TT := tg_3_4 (List.mem_of_getElem? (i := 0) rfl) rfl
theorem m_fl_X3_54 : Cond.fieldLink RX3 54 "DaybreakFlags$Switch" "rampedAt" "I" ∈ TT := tg_3_4 (List.mem_of_getElem? (i := 1) rfl) rfl
theorem m_fl_X3_32 : Cond.fieldLink RX3 32 "DaybreakFlags$Switch" "layer" "I" ∈ TT := tg_3_4 (List.mem_of_getElem? (i := 2) rfl) rfl
theorem m_fl_X3_59 : Cond.fieldLink RX3 59 "DaybreakFlags$Switch" "from" "I" ∈ TT := tg_3_4 (List.mem_of_getElem? (i := 5) rfl) rfl
theorem m_fl_X3_68 : Cond.fieldLink RX3 68 "DaybreakFlags$Switch" "to" "I" ∈ TT := tg_3_4 (List.mem_of_getElem? (i := 7) rfl) rfl
theorem m_fl_X3_35 : Cond.fieldLink RX3 35 "DaybreakFlags$Switch" "needed" "I" ∈ TT := tg_3_4 (List.mem_of_getElem? (i := 8) rfl) rfl
theorem m_ml_X6_126 : Cond.methodLink RX6 126 yX6_weigh ∈ TT := tg_3_6 (List.mem_of_getElem? (i := 8) rfl) rfl
theorem m_im_X6_weigh : Cond.instanceMethod yX6_weigh ∈ TT := tg_3_6 (List.mem_of_getElem? (i := 9) rfl) rfl
theorem m_sl_X6_weigh : Cond.selects RX6 yX6_weigh yX6_weigh ∈ TT := tg_3_6 (List.mem_of_getElem? (i := 10) rfl) rfl
theorem m_cd_X6_weigh : Cond.code yX6_weigh cX6_weigh 4 (some .boolean) ∈ TT := tg_3_6 (List.mem_of_getElem? (i := 11) rfl) rfl
theorem m_ml_X6_71 : Cond.methodLink RX6 71 yX5_weigh ∈ TT := tg_3_6 (List.mem_of_getElem? (i := 12) rfl) rfl
theorem m_im_X5_weigh : Cond.instanceMethod yX5_weigh ∈ TT := tg_3_6 (List.mem_of_getElem? (i := 13) rfl) rfl
theorem m_sl_X5_weigh : Cond.selects RX5 yX5_weigh yX5_weigh ∈ TT := tg_3_6 (List.mem_of_getElem? (i := 14) rfl) rfl
theorem m_cd_X5_weigh : Cond.code yX5_weigh cX5_weigh 6 (some .int) ∈ TT := tg_3_6 (List.mem_of_getElem? (i := 15) rfl) rfl
theorem m_ml_X5_59 : Cond.methodLink RX5 59 yX3_setWeight ∈ TT := tg_3_6 (List.mem_of_getElem? (i := 17) rfl) rfl
theorem m_im_X3_setWeight : Cond.instanceMethod yX3_setWeight ∈ TT := tg_3_6 (List.mem_of_getElem? (i := 18) rfl) rfl
theorem m_sl_X3_setWeight : Cond.selects RX3 yX3_setWeight yX3_setWeight ∈ TT := tg_3_6 (List.mem_of_getElem? (i := 19) rfl) rfl
theorem m_cd_X3_setWeight : Cond.code yX3_setWeight cX3_setWeight 3 none ∈ TT := tg_3_7 (List.mem_of_getElem? (i := 0) rfl) rfl
theorem m_ml_X6_128 : Cond.methodLink RX6 128 yX6_turn ∈ TT := tg_3_7 (List.mem_of_getElem? (i := 1) rfl) rfl
theorem m_im_X6_turn : Cond.instanceMethod yX6_turn ∈ TT := tg_3_7 (List.mem_of_getElem? (i := 2) rfl) rfl
theorem m_sl_X6_turn : Cond.selects RX6 yX6_turn yX6_turn ∈ TT := tg_3_7 (List.mem_of_getElem? (i := 3) rfl) rfl
theorem m_cd_X6_turn : Cond.code yX6_turn cX6_turn 3 (some .boolean) ∈ TT := tg_3_7 (List.mem_of_getElem? (i := 4) rfl) rfl
theorem m_ml_X6_75 : Cond.methodLink RX6 75 yX5_turn ∈ TT := tg_3_7 (List.mem_of_getElem? (i := 5) rfl) rfl
theorem m_im_X5_turn : Cond.instanceMethod yX5_turn ∈ TT := tg_3_7 (List.mem_of_getElem? (i := 6) rfl) rfl
theorem m_sl_X5_turn : Cond.selects RX5 yX5_turn yX5_turn ∈ TT := tg_3_7 (List.mem_of_getElem? (i := 7) rfl) rfl
theorem m_cd_X5_turn : Cond.code yX5_turn cX5_turn 5 (some .boolean) ∈ TT := tg_3_7 (List.mem_of_getElem? (i := 8) rfl) rfl
theorem m_ml_X6_130 : Cond.methodLink RX6 130 yX6_rule ∈ TT := tg_3_7 (List.mem_of_getElem? (i := 9) rfl) rfl
theorem m_im_X6_rule : Cond.instanceMethod yX6_rule ∈ TT := tg_3_7 (List.mem_of_getElem? (i := 10) rfl) rfl
theorem m_sl_X6_rule : Cond.selects RX6 yX6_rule yX6_rule ∈ TT := tg_3_7 (List.mem_of_getElem? (i := 11) rfl) rfl
theorem m_cd_X6_rule : Cond.code yX6_rule cX6_rule 3 (some .boolean) ∈ TT := tg_3_7 (List.mem_of_getElem? (i := 12) rfl) rfl
theorem m_ml_X6_99 : Cond.methodLink RX6 99 yX5_unrule ∈ TT := tg_3_7 (List.mem_of_getElem? (i := 13) rfl) rfl
theorem m_im_X5_unrule : Cond.instanceMethod yX5_unrule ∈ TT := tg_3_7 (List.mem_of_getElem? (i := 14) rfl) rfl
theorem m_sl_X5_unrule : Cond.selects RX5 yX5_unrule yX5_unrule ∈ TT := tg_3_7 (List.mem_of_getElem? (i := 15) rfl) rfl
theorem m_cd_X5_unrule : Cond.code yX5_unrule cX5_unrule 4 (some .int) ∈ TT := tg_3_7 (List.mem_of_getElem? (i := 16) rfl) rfl
theorem m_ml_X5_126 : Cond.methodLink RX5 126 yX3_removeRule ∈ TT := tg_3_7 (List.mem_of_getElem? (i := 18) rfl) rfl
theorem m_im_X3_removeRule : Cond.instanceMethod yX3_removeRule ∈ TT := tg_3_7 (List.mem_of_getElem? (i := 19) rfl) rfl
theorem m_sl_X3_removeRule : Cond.selects RX3 yX3_removeRule yX3_removeRule ∈ TT := tg_3_8 (List.mem_of_getElem? (i := 0) rfl) rfl
theorem m_cd_X3_removeRule : Cond.code yX3_removeRule cX3_removeRule 3 none ∈ TT := tg_3_8 (List.mem_of_getElem? (i := 1) rfl) rfl
theorem m_ml_X3_62 : Cond.methodLink RX3 62 yJ9_max_7cf53 ∈ TT := tg_3_8 (List.mem_of_getElem? (i := 2) rfl) rfl
theorem m_st_J9_max_7cf53 : Cond.static yJ9_max_7cf53 ∈ TT := tg_3_8 (List.mem_of_getElem? (i := 3) rfl) rfl
theorem m_cd_J9_max_7cf53 : Cond.code yJ9_max_7cf53 cJ9_max_7cf53 2 (some .int) ∈ TT := tg_3_8 (List.mem_of_getElem? (i := 4) rfl) rfl
theorem m_ml_X3_77 : Cond.methodLink RX3 77 yX3_ruleAt ∈ TT := tg_3_8 (List.mem_of_getElem? (i := 5) rfl) rfl
theorem m_ml_X6_102 : Cond.methodLink RX6 102 yX6_dropRule ∈ TT := tg_3_8 (List.mem_of_getElem? (i := 6) rfl) rfl
theorem m_im_X6_dropRule : Cond.instanceMethod yX6_dropRule ∈ TT := tg_3_8 (List.mem_of_getElem? (i := 8) rfl) rfl
theorem m_cd_X6_dropRule : Cond.code yX6_dropRule cX6_dropRule 5 (some .boolean) ∈ TT := tg_3_8 (List.mem_of_getElem? (i := 9) rfl) rfl
theorem m_ml_X6_106 : Cond.methodLink RX6 106 yX6_with ∈ TT := tg_3_8 (List.mem_of_getElem? (i := 10) rfl) rfl
theorem m_st_X6_with : Cond.static yX6_with ∈ TT := tg_3_8 (List.mem_of_getElem? (i := 11) rfl) rfl
theorem m_cd_X6_with : Cond.code yX6_with cX6_with 3 (some (.array (.array .int))) ∈ TT := tg_3_8 (List.mem_of_getElem? (i := 12) rfl) rfl
theorem m_ml_X6_51 : Cond.methodLink RX6 51 ⟨"java/lang/System", "arraycopy", "(Ljava/lang/Object;ILjava/lang/Object;II)V"⟩ ∈ TT := tg_3_8 (List.mem_of_getElem? (i := 13) rfl) rfl
theorem m_ml_X6_110 : Cond.methodLink RX6 110 yX5_rule ∈ TT := tg_3_8 (List.mem_of_getElem? (i := 16) rfl) rfl
theorem m_im_X5_rule : Cond.instanceMethod yX5_rule ∈ TT := tg_3_8 (List.mem_of_getElem? (i := 17) rfl) rfl
theorem m_sl_X5_rule : Cond.selects RX5 yX5_rule yX5_rule ∈ TT := tg_3_8 (List.mem_of_getElem? (i := 18) rfl) rfl
theorem m_cd_X5_rule : Cond.code yX5_rule cX5_rule 7 (some .int) ∈ TT := tg_3_8 (List.mem_of_getElem? (i := 19) rfl) rfl
theorem m_cl_X5_112 : Cond.classLink RX5 112 RX2 ∈ TT := tg_3_9 (List.mem_of_getElem? (i := 2) rfl) rfl
theorem m_nw_X2 : Cond.instantiable RX2 4 ∈ TT := tg_3_9 (List.mem_of_getElem? (i := 3) rfl) rfl
theorem m_ml_X5_114 : Cond.methodLink RX5 114 yX2_init ∈ TT := tg_3_9 (List.mem_of_getElem? (i := 4) rfl) rfl
theorem m_im_X2_init : Cond.instanceMethod yX2_init ∈ TT := tg_3_9 (List.mem_of_getElem? (i := 5) rfl) rfl
theorem m_cd_X2_init : Cond.code yX2_init cX2_init 5 none ∈ TT := tg_3_9 (List.mem_of_getElem? (i := 6) rfl) rfl
theorem m_ml_X2_3 : Cond.methodLink RX2 3 ⟨"java/lang/Object", "<init>", "()V"⟩ ∈ TT := tg_3_9 (List.mem_of_getElem? (i := 7) rfl) rfl
theorem m_fl_X2_9 : Cond.fieldLink RX2 9 "DaybreakFlags$Rule" "mark" "I" ∈ TT := tg_3_9 (List.mem_of_getElem? (i := 8) rfl) rfl
theorem m_fl_X2_15 : Cond.fieldLink RX2 15 "DaybreakFlags$Rule" "how" "I" ∈ TT := tg_3_9 (List.mem_of_getElem? (i := 9) rfl) rfl
theorem m_fl_X2_18 : Cond.fieldLink RX2 18 "DaybreakFlags$Rule" "n" "I" ∈ TT := tg_3_9 (List.mem_of_getElem? (i := 10) rfl) rfl
theorem m_fl_X2_21 : Cond.fieldLink RX2 21 "DaybreakFlags$Rule" "variant" "I" ∈ TT := tg_3_9 (List.mem_of_getElem? (i := 11) rfl) rfl
theorem m_ml_X5_117 : Cond.methodLink RX5 117 yX3_addRule ∈ TT := tg_3_10 (List.mem_of_getElem? (i := 2) rfl) rfl
theorem m_im_X3_addRule : Cond.instanceMethod yX3_addRule ∈ TT := tg_3_10 (List.mem_of_getElem? (i := 3) rfl) rfl
theorem m_sl_X3_addRule : Cond.selects RX3 yX3_addRule yX3_addRule ∈ TT := tg_3_10 (List.mem_of_getElem? (i := 4) rfl) rfl
theorem m_cd_X3_addRule : Cond.code yX3_addRule cX3_addRule 2 none ∈ TT := tg_3_10 (List.mem_of_getElem? (i := 5) rfl) rfl
theorem m_ml_X6_132 : Cond.methodLink RX6 132 yX6_ramp ∈ TT := tg_3_10 (List.mem_of_getElem? (i := 6) rfl) rfl
theorem m_im_X6_ramp : Cond.instanceMethod yX6_ramp ∈ TT := tg_3_10 (List.mem_of_getElem? (i := 7) rfl) rfl
theorem m_sl_X6_ramp : Cond.selects RX6 yX6_ramp yX6_ramp ∈ TT := tg_3_10 (List.mem_of_getElem? (i := 8) rfl) rfl
theorem m_cd_X6_ramp : Cond.code yX6_ramp cX6_ramp 3 (some .boolean) ∈ TT := tg_3_10 (List.mem_of_getElem? (i := 9) rfl) rfl
theorem m_ml_X6_79 : Cond.methodLink RX6 79 yX6_far ∈ TT := tg_3_10 (List.mem_of_getElem? (i := 10) rfl) rfl
theorem m_im_X6_far : Cond.instanceMethod yX6_far ∈ TT := tg_3_10 (List.mem_of_getElem? (i := 11) rfl) rfl
theorem m_sl_X6_far : Cond.selects RX6 yX6_far yX6_far ∈ TT := tg_3_10 (List.mem_of_getElem? (i := 12) rfl) rfl
theorem m_cd_X6_far : Cond.code yX6_far cX6_far 5 (some .int) ∈ TT := tg_3_10 (List.mem_of_getElem? (i := 13) rfl) rfl
theorem m_ml_X6_82 : Cond.methodLink RX6 82 yX5_ramp ∈ TT := tg_3_10 (List.mem_of_getElem? (i := 14) rfl) rfl
theorem m_im_X5_ramp : Cond.instanceMethod yX5_ramp ∈ TT := tg_3_10 (List.mem_of_getElem? (i := 15) rfl) rfl
theorem m_sl_X5_ramp : Cond.selects RX5 yX5_ramp yX5_ramp ∈ TT := tg_3_10 (List.mem_of_getElem? (i := 16) rfl) rfl
theorem m_cd_X5_ramp : Cond.code yX5_ramp cX5_ramp 6 (some .int) ∈ TT := tg_3_10 (List.mem_of_getElem? (i := 17) rfl) rfl
theorem m_ml_X5_75 : Cond.methodLink RX5 75 yX3_setRamp ∈ TT := tg_3_10 (List.mem_of_getElem? (i := 19) rfl) rfl
theorem m_im_X3_setRamp : Cond.instanceMethod yX3_setRamp ∈ TT := tg_3_11 (List.mem_of_getElem? (i := 0) rfl) rfl
theorem m_sl_X3_setRamp : Cond.selects RX3 yX3_setRamp yX3_setRamp ∈ TT := tg_3_11 (List.mem_of_getElem? (i := 1) rfl) rfl
theorem m_cd_X3_setRamp : Cond.code yX3_setRamp cX3_setRamp 4 none ∈ TT := tg_3_11 (List.mem_of_getElem? (i := 2) rfl) rfl
theorem m_ml_X6_134 : Cond.methodLink RX6 134 yX6_need ∈ TT := tg_3_11 (List.mem_of_getElem? (i := 3) rfl) rfl
theorem m_im_X6_need : Cond.instanceMethod yX6_need ∈ TT := tg_3_11 (List.mem_of_getElem? (i := 4) rfl) rfl
theorem m_sl_X6_need : Cond.selects RX6 yX6_need yX6_need ∈ TT := tg_3_11 (List.mem_of_getElem? (i := 5) rfl) rfl
theorem m_cd_X6_need : Cond.code yX6_need cX6_need 4 (some .boolean) ∈ TT := tg_3_11 (List.mem_of_getElem? (i := 6) rfl) rfl
theorem m_ml_X6_96 : Cond.methodLink RX6 96 yX5_need ∈ TT := tg_3_11 (List.mem_of_getElem? (i := 7) rfl) rfl
theorem m_im_X5_need : Cond.instanceMethod yX5_need ∈ TT := tg_3_11 (List.mem_of_getElem? (i := 8) rfl) rfl
theorem m_sl_X5_need : Cond.selects RX5 yX5_need yX5_need ∈ TT := tg_3_11 (List.mem_of_getElem? (i := 9) rfl) rfl
theorem m_cd_X5_need : Cond.code yX5_need cX5_need 6 (some .int) ∈ TT := tg_3_11 (List.mem_of_getElem? (i := 10) rfl) rfl
theorem m_ml_X6_136 : Cond.methodLink RX6 136 yX6_place ∈ TT := tg_3_11 (List.mem_of_getElem? (i := 12) rfl) rfl
theorem m_im_X6_place : Cond.instanceMethod yX6_place ∈ TT := tg_3_11 (List.mem_of_getElem? (i := 13) rfl) rfl
theorem m_sl_X6_place : Cond.selects RX6 yX6_place yX6_place ∈ TT := tg_3_11 (List.mem_of_getElem? (i := 14) rfl) rfl
theorem m_cd_X6_place : Cond.codeWith yX6_place cX6_place 8 (some .boolean) [(179, 202, 236, 94), (203, 235, 236, 94)] ∈ TT := tg_3_11 (List.mem_of_getElem? (i := 15) rfl) rfl
theorem m_cl_X6_94 : Cond.classLink RX6 94 "java/lang/IllegalStateException" ∈ TT := tg_3_11 (List.mem_of_getElem? (i := 16) rfl) rfl
theorem m_ml_X6_85 : Cond.methodLink RX6 85 yJ9_min_7cf53 ∈ TT := tg_3_11 (List.mem_of_getElem? (i := 17) rfl) rfl
theorem m_st_J9_min_7cf53 : Cond.static yJ9_min_7cf53 ∈ TT := tg_3_11 (List.mem_of_getElem? (i := 18) rfl) rfl
theorem m_cd_J9_min_7cf53 : Cond.code yJ9_min_7cf53 cJ9_min_7cf53 2 (some .int) ∈ TT := tg_3_11 (List.mem_of_getElem? (i := 19) rfl) rfl
theorem m_ml_X6_90 : Cond.methodLink RX6 90 yX5_place ∈ TT := tg_4_0 (List.mem_of_getElem? (i := 0) rfl) rfl
theorem m_im_X5_place : Cond.instanceMethod yX5_place ∈ TT := tg_4_0 (List.mem_of_getElem? (i := 1) rfl) rfl
theorem m_sl_X5_place : Cond.selects RX5 yX5_place yX5_place ∈ TT := tg_4_0 (List.mem_of_getElem? (i := 2) rfl) rfl
theorem m_cd_X5_place : Cond.code yX5_place cX5_place 7 (some .int) ∈ TT := tg_4_0 (List.mem_of_getElem? (i := 3) rfl) rfl
theorem m_ml_X5_79 : Cond.methodLink RX5 79 yX5_checkRange ∈ TT := tg_4_0 (List.mem_of_getElem? (i := 4) rfl) rfl
theorem m_st_X5_checkRange : Cond.static yX5_checkRange ∈ TT := tg_4_0 (List.mem_of_getElem? (i := 5) rfl) rfl
theorem m_cd_X5_checkRange : Cond.code yX5_checkRange cX5_checkRange 3 none ∈ TT := tg_4_0 (List.mem_of_getElem? (i := 6) rfl) rfl
theorem m_ml_X5_82 : Cond.methodLink RX5 82 yX5_isTaken ∈ TT := tg_4_0 (List.mem_of_getElem? (i := 8) rfl) rfl
theorem m_im_X5_isTaken : Cond.instanceMethod yX5_isTaken ∈ TT := tg_4_0 (List.mem_of_getElem? (i := 10) rfl) rfl
theorem m_cd_X5_isTaken : Cond.code yX5_isTaken cX5_isTaken 9 (some .boolean) ∈ TT := tg_4_0 (List.mem_of_getElem? (i := 11) rfl) rfl
theorem m_ml_X5_317 : Cond.methodLink RX5 317 yX3_sharesRange ∈ TT := tg_4_0 (List.mem_of_getElem? (i := 12) rfl) rfl
theorem m_im_X3_sharesRange : Cond.instanceMethod yX3_sharesRange ∈ TT := tg_4_0 (List.mem_of_getElem? (i := 13) rfl) rfl
theorem m_sl_X3_sharesRange : Cond.selects RX3 yX3_sharesRange yX3_sharesRange ∈ TT := tg_4_0 (List.mem_of_getElem? (i := 14) rfl) rfl
theorem m_cd_X3_sharesRange : Cond.code yX3_sharesRange cX3_sharesRange 3 (some .boolean) ∈ TT := tg_4_0 (List.mem_of_getElem? (i := 15) rfl) rfl
theorem m_ml_X3_71 : Cond.methodLink RX3 71 yJ9_min_7cf53 ∈ TT := tg_4_0 (List.mem_of_getElem? (i := 16) rfl) rfl
theorem m_ml_X6_138 : Cond.methodLink RX6 138 yX6_hold ∈ TT := tg_4_0 (List.mem_of_getElem? (i := 18) rfl) rfl
theorem m_im_X6_hold : Cond.instanceMethod yX6_hold ∈ TT := tg_4_0 (List.mem_of_getElem? (i := 19) rfl) rfl
theorem m_sl_X6_hold : Cond.selects RX6 yX6_hold yX6_hold ∈ TT := tg_4_1 (List.mem_of_getElem? (i := 0) rfl) rfl
theorem m_cd_X6_hold : Cond.code yX6_hold cX6_hold 2 (some .boolean) ∈ TT := tg_4_1 (List.mem_of_getElem? (i := 1) rfl) rfl
theorem m_ml_X6_117 : Cond.methodLink RX6 117 yX5_hold ∈ TT := tg_4_1 (List.mem_of_getElem? (i := 2) rfl) rfl
theorem m_im_X5_hold : Cond.instanceMethod yX5_hold ∈ TT := tg_4_1 (List.mem_of_getElem? (i := 3) rfl) rfl
theorem m_sl_X5_hold : Cond.selects RX5 yX5_hold yX5_hold ∈ TT := tg_4_1 (List.mem_of_getElem? (i := 4) rfl) rfl
theorem m_cd_X5_hold : Cond.code yX5_hold cX5_hold 3 (some .int) ∈ TT := tg_4_1 (List.mem_of_getElem? (i := 5) rfl) rfl
theorem m_ml_L_22 : Cond.methodLink RL 22 yX6_change ∈ TT := tg_4_1 (List.mem_of_getElem? (i := 7) rfl) rfl
theorem m_im_X6_change : Cond.instanceMethod yX6_change ∈ TT := tg_4_1 (List.mem_of_getElem? (i := 8) rfl) rfl
theorem m_sl_X6_change : Cond.selects RX6 yX6_change yX6_change ∈ TT := tg_4_1 (List.mem_of_getElem? (i := 9) rfl) rfl
theorem m_cd_X6_change : Cond.code yX6_change cX6_change 1 (some .boolean) ∈ TT := tg_4_1 (List.mem_of_getElem? (i := 10) rfl) rfl
theorem m_ml_X6_140 : Cond.methodLink RX6 140 yX6_unrule ∈ TT := tg_4_1 (List.mem_of_getElem? (i := 11) rfl) rfl
theorem m_im_X6_unrule : Cond.instanceMethod yX6_unrule ∈ TT := tg_4_1 (List.mem_of_getElem? (i := 12) rfl) rfl
theorem m_sl_X6_unrule : Cond.selects RX6 yX6_unrule yX6_unrule ∈ TT := tg_4_1 (List.mem_of_getElem? (i := 13) rfl) rfl
theorem m_cd_X6_unrule : Cond.code yX6_unrule cX6_unrule 3 (some .boolean) ∈ TT := tg_4_1 (List.mem_of_getElem? (i := 14) rfl) rfl
theorem m_ml_X6_142 : Cond.methodLink RX6 142 yX6_goOn ∈ TT := tg_4_1 (List.mem_of_getElem? (i := 15) rfl) rfl
theorem m_im_X6_goOn : Cond.instanceMethod yX6_goOn ∈ TT := tg_4_1 (List.mem_of_getElem? (i := 16) rfl) rfl
theorem m_sl_X6_goOn : Cond.selects RX6 yX6_goOn yX6_goOn ∈ TT := tg_4_1 (List.mem_of_getElem? (i := 17) rfl) rfl
theorem m_cd_X6_goOn : Cond.code yX6_goOn cX6_goOn 2 (some .boolean) ∈ TT := tg_4_1 (List.mem_of_getElem? (i := 18) rfl) rfl
theorem m_ml_X6_120 : Cond.methodLink RX6 120 yX5_goOn ∈ TT := tg_4_1 (List.mem_of_getElem? (i := 19) rfl) rfl
theorem m_im_X5_goOn : Cond.instanceMethod yX5_goOn ∈ TT := tg_4_2 (List.mem_of_getElem? (i := 0) rfl) rfl
theorem m_sl_X5_goOn : Cond.selects RX5 yX5_goOn yX5_goOn ∈ TT := tg_4_2 (List.mem_of_getElem? (i := 1) rfl) rfl
theorem m_cd_X5_goOn : Cond.code yX5_goOn cX5_goOn 2 (some .int) ∈ TT := tg_4_2 (List.mem_of_getElem? (i := 2) rfl) rfl
theorem m_ml_L_25 : Cond.methodLink RL 25 yX6_ask ∈ TT := tg_4_2 (List.mem_of_getElem? (i := 3) rfl) rfl
theorem m_im_X6_ask : Cond.instanceMethod yX6_ask ∈ TT := tg_4_2 (List.mem_of_getElem? (i := 4) rfl) rfl
theorem m_sl_X6_ask : Cond.selects RX6 yX6_ask yX6_ask ∈ TT := tg_4_2 (List.mem_of_getElem? (i := 5) rfl) rfl
theorem m_cd_X6_ask : Cond.code yX6_ask cX6_ask 8 (some .boolean) ∈ TT := tg_4_2 (List.mem_of_getElem? (i := 6) rfl) rfl
theorem m_ml_X6_178 : Cond.methodLink RX6 178 yX6_gets_ ∈ TT := tg_4_2 (List.mem_of_getElem? (i := 7) rfl) rfl
theorem m_im_X6_gets_ : Cond.instanceMethod yX6_gets_ ∈ TT := tg_4_2 (List.mem_of_getElem? (i := 8) rfl) rfl
theorem m_sl_X6_gets_ : Cond.selects RX6 yX6_gets_ yX6_gets_ ∈ TT := tg_4_2 (List.mem_of_getElem? (i := 9) rfl) rfl
theorem m_cd_X6_gets_ : Cond.code yX6_gets_ cX6_gets_ 5 (some .int) ∈ TT := tg_4_2 (List.mem_of_getElem? (i := 10) rfl) rfl
theorem m_ml_X6_162 : Cond.methodLink RX6 162 yX6_gets ∈ TT := tg_4_2 (List.mem_of_getElem? (i := 11) rfl) rfl
theorem m_im_X6_gets : Cond.instanceMethod yX6_gets ∈ TT := tg_4_2 (List.mem_of_getElem? (i := 12) rfl) rfl
theorem m_sl_X6_gets : Cond.selects RX6 yX6_gets yX6_gets ∈ TT := tg_4_2 (List.mem_of_getElem? (i := 13) rfl) rfl
theorem m_cd_X6_gets : Cond.code yX6_gets cX6_gets 12 (some .int) ∈ TT := tg_4_2 (List.mem_of_getElem? (i := 14) rfl) rfl
theorem m_ml_X6_159 : Cond.methodLink RX6 159 yX6_because ∈ TT := tg_4_2 (List.mem_of_getElem? (i := 15) rfl) rfl
theorem m_im_X6_because : Cond.instanceMethod yX6_because ∈ TT := tg_4_2 (List.mem_of_getElem? (i := 17) rfl) rfl
theorem m_cd_X6_because : Cond.code yX6_because cX6_because 3 (some .int) ∈ TT := tg_4_2 (List.mem_of_getElem? (i := 18) rfl) rfl
theorem m_ml_X6_165 : Cond.methodLink RX6 165 yX6_arm ∈ TT := tg_4_2 (List.mem_of_getElem? (i := 19) rfl) rfl
theorem m_im_X6_arm : Cond.instanceMethod yX6_arm ∈ TT := tg_4_3 (List.mem_of_getElem? (i := 0) rfl) rfl
theorem m_sl_X6_arm : Cond.selects RX6 yX6_arm yX6_arm ∈ TT := tg_4_3 (List.mem_of_getElem? (i := 1) rfl) rfl
theorem m_cd_X6_arm : Cond.code yX6_arm cX6_arm 7 (some (.array .int)) ∈ TT := tg_4_3 (List.mem_of_getElem? (i := 2) rfl) rfl
theorem m_ml_X6_169 : Cond.methodLink RX6 169 yX6_holds ∈ TT := tg_4_3 (List.mem_of_getElem? (i := 3) rfl) rfl
theorem m_im_X6_holds : Cond.instanceMethod yX6_holds ∈ TT := tg_4_3 (List.mem_of_getElem? (i := 4) rfl) rfl
theorem m_sl_X6_holds : Cond.selects RX6 yX6_holds yX6_holds ∈ TT := tg_4_3 (List.mem_of_getElem? (i := 5) rfl) rfl
theorem m_cd_X6_holds : Cond.code yX6_holds cX6_holds 7 (some .int) ∈ TT := tg_4_3 (List.mem_of_getElem? (i := 6) rfl) rfl
theorem m_ml_X6_172 : Cond.methodLink RX6 172 yX6_bucket ∈ TT := tg_4_3 (List.mem_of_getElem? (i := 7) rfl) rfl
theorem m_st_X6_bucket : Cond.static yX6_bucket ∈ TT := tg_4_3 (List.mem_of_getElem? (i := 8) rfl) rfl
theorem m_cd_X6_bucket : Cond.code yX6_bucket cX6_bucket 4 (some .int) ∈ TT := tg_4_3 (List.mem_of_getElem? (i := 9) rfl) rfl
theorem m_lc_X6_144 : Cond.constantLong RX6 144 (7919) ∈ TT := tg_4_3 (List.mem_of_getElem? (i := 10) rfl) rfl
theorem m_lc_X6_146 : Cond.constantLong RX6 146 (31) ∈ TT := tg_4_3 (List.mem_of_getElem? (i := 11) rfl) rfl
theorem m_lc_X6_148 : Cond.constantLong RX6 148 (17) ∈ TT := tg_4_3 (List.mem_of_getElem? (i := 12) rfl) rfl
theorem m_lc_X6_150 : Cond.constantLong RX6 150 (10007) ∈ TT := tg_4_3 (List.mem_of_getElem? (i := 13) rfl) rfl
theorem m_lc_X6_152 : Cond.constantLong RX6 152 (3) ∈ TT := tg_4_3 (List.mem_of_getElem? (i := 14) rfl) rfl
theorem m_lc_X6_154 : Cond.constantLong RX6 154 (1000) ∈ TT := tg_4_3 (List.mem_of_getElem? (i := 15) rfl) rfl
theorem m_ml_X6_175 : Cond.methodLink RX6 175 yJ9_max_7cf53 ∈ TT := tg_4_3 (List.mem_of_getElem? (i := 16) rfl) rfl
theorem m_ml_X6_180 : Cond.methodLink RX6 180 yX5_why ∈ TT := tg_4_3 (List.mem_of_getElem? (i := 17) rfl) rfl
theorem m_ml_X6_183 : Cond.methodLink RX6 183 yX5_gets ∈ TT := tg_4_3 (List.mem_of_getElem? (i := 18) rfl) rfl
theorem m_ml_X6_184 : Cond.methodLink RX6 184 yX5_holds ∈ TT := tg_4_3 (List.mem_of_getElem? (i := 19) rfl) rfl
theorem m_ml_X6_186 : Cond.methodLink RX6 186 yX5_ask ∈ TT := tg_4_4 (List.mem_of_getElem? (i := 0) rfl) rfl
theorem m_im_X5_ask : Cond.instanceMethod yX5_ask ∈ TT := tg_4_4 (List.mem_of_getElem? (i := 1) rfl) rfl
theorem m_sl_X5_ask : Cond.selects RX5 yX5_ask yX5_ask ∈ TT := tg_4_4 (List.mem_of_getElem? (i := 2) rfl) rfl
theorem m_cd_X5_ask : Cond.code yX5_ask cX5_ask 8 (some .int) ∈ TT := tg_4_4 (List.mem_of_getElem? (i := 3) rfl) rfl
theorem m_ml_X5_172 : Cond.methodLink RX5 172 yX3_addArm ∈ TT := tg_4_4 (List.mem_of_getElem? (i := 4) rfl) rfl
theorem m_im_X3_addArm : Cond.instanceMethod yX3_addArm ∈ TT := tg_4_4 (List.mem_of_getElem? (i := 5) rfl) rfl
theorem m_sl_X3_addArm : Cond.selects RX3 yX3_addArm yX3_addArm ∈ TT := tg_4_4 (List.mem_of_getElem? (i := 6) rfl) rfl
theorem m_cd_X3_addArm : Cond.code yX3_addArm cX3_addArm 3 none ∈ TT := tg_4_4 (List.mem_of_getElem? (i := 7) rfl) rfl
theorem m_cl_X3_90 : Cond.classLink RX3 90 RX0 ∈ TT := tg_4_4 (List.mem_of_getElem? (i := 8) rfl) rfl
theorem m_nw_X0 : Cond.instantiable RX0 5 ∈ TT := tg_4_4 (List.mem_of_getElem? (i := 9) rfl) rfl
theorem m_ml_X3_97 : Cond.methodLink RX3 97 yX0_init ∈ TT := tg_4_4 (List.mem_of_getElem? (i := 10) rfl) rfl
theorem m_im_X0_init : Cond.instanceMethod yX0_init ∈ TT := tg_4_4 (List.mem_of_getElem? (i := 11) rfl) rfl
theorem m_cd_X0_init : Cond.code yX0_init cX0_init 4 none ∈ TT := tg_4_4 (List.mem_of_getElem? (i := 12) rfl) rfl
theorem m_ml_X0_1 : Cond.methodLink RX0 1 ⟨"java/lang/Object", "<init>", "()V"⟩ ∈ TT := tg_4_4 (List.mem_of_getElem? (i := 13) rfl) rfl
theorem m_fl_X0_7 : Cond.fieldLink RX0 7 "DaybreakFlags$Arm" "user" "I" ∈ TT := tg_4_4 (List.mem_of_getElem? (i := 14) rfl) rfl
theorem m_fl_X0_13 : Cond.fieldLink RX0 13 "DaybreakFlags$Arm" "variant" "I" ∈ TT := tg_4_4 (List.mem_of_getElem? (i := 16) rfl) rfl
theorem m_fl_X0_16 : Cond.fieldLink RX0 16 "DaybreakFlags$Arm" "older" "LDaybreakFlags$Arm;" ∈ TT := tg_4_4 (List.mem_of_getElem? (i := 19) rfl) rfl
theorem m_ml_X3_100 : Cond.methodLink RX3 100 yX4_countArm ∈ TT := tg_4_5 (List.mem_of_getElem? (i := 14) rfl) rfl
theorem m_im_X4_countArm : Cond.instanceMethod yX4_countArm ∈ TT := tg_4_5 (List.mem_of_getElem? (i := 15) rfl) rfl
theorem m_sl_X4_countArm : Cond.selects RX4 yX4_countArm yX4_countArm ∈ TT := tg_4_5 (List.mem_of_getElem? (i := 16) rfl) rfl
theorem m_cd_X4_countArm : Cond.code yX4_countArm cX4_countArm 2 none ∈ TT := tg_4_5 (List.mem_of_getElem? (i := 17) rfl) rfl
theorem m_ml_X6_189 : Cond.methodLink RX6 189 yX5_arms ∈ TT := tg_4_5 (List.mem_of_getElem? (i := 18) rfl) rfl
theorem m_ml_L_28 : Cond.methodLink RL 28 yX6_act ∈ TT := tg_4_5 (List.mem_of_getElem? (i := 19) rfl) rfl
theorem m_im_X6_act : Cond.instanceMethod yX6_act ∈ TT := tg_4_6 (List.mem_of_getElem? (i := 0) rfl) rfl
theorem m_sl_X6_act : Cond.selects RX6 yX6_act yX6_act ∈ TT := tg_4_6 (List.mem_of_getElem? (i := 1) rfl) rfl
theorem m_cd_X6_act : Cond.code yX6_act cX6_act 8 (some .boolean) ∈ TT := tg_4_6 (List.mem_of_getElem? (i := 2) rfl) rfl
theorem m_ml_X6_192 : Cond.methodLink RX6 192 yX5_act ∈ TT := tg_4_6 (List.mem_of_getElem? (i := 3) rfl) rfl
theorem m_im_X5_act : Cond.instanceMethod yX5_act ∈ TT := tg_4_6 (List.mem_of_getElem? (i := 4) rfl) rfl
theorem m_sl_X5_act : Cond.selects RX5 yX5_act yX5_act ∈ TT := tg_4_6 (List.mem_of_getElem? (i := 5) rfl) rfl
theorem m_cd_X5_act : Cond.code yX5_act cX5_act 8 (some .int) ∈ TT := tg_4_6 (List.mem_of_getElem? (i := 6) rfl) rfl
theorem m_ml_X5_177 : Cond.methodLink RX5 177 yX3_addWorth ∈ TT := tg_4_6 (List.mem_of_getElem? (i := 8) rfl) rfl
theorem m_im_X3_addWorth : Cond.instanceMethod yX3_addWorth ∈ TT := tg_4_6 (List.mem_of_getElem? (i := 9) rfl) rfl
theorem m_sl_X3_addWorth : Cond.selects RX3 yX3_addWorth yX3_addWorth ∈ TT := tg_4_6 (List.mem_of_getElem? (i := 10) rfl) rfl
theorem m_cd_X3_addWorth : Cond.code yX3_addWorth cX3_addWorth 4 (some .boolean) ∈ TT := tg_4_6 (List.mem_of_getElem? (i := 11) rfl) rfl
theorem m_ml_X3_104 : Cond.methodLink RX3 104 yX3_armOf ∈ TT := tg_4_6 (List.mem_of_getElem? (i := 12) rfl) rfl
theorem m_ml_X3_117 : Cond.methodLink RX3 117 yX4_countAct ∈ TT := tg_4_6 (List.mem_of_getElem? (i := 13) rfl) rfl
theorem m_im_X4_countAct : Cond.instanceMethod yX4_countAct ∈ TT := tg_4_6 (List.mem_of_getElem? (i := 14) rfl) rfl
theorem m_sl_X4_countAct : Cond.selects RX4 yX4_countAct yX4_countAct ∈ TT := tg_4_6 (List.mem_of_getElem? (i := 15) rfl) rfl
theorem m_cd_X4_countAct : Cond.code yX4_countAct cX4_countAct 8 none ∈ TT := tg_4_6 (List.mem_of_getElem? (i := 16) rfl) rfl
theorem m_sl_X5_known : Cond.selects RX5 yX5_known yX5_known ∈ TT := tt_m0 0 (by decide +kernel) (by decide +kernel)
theorem m_sl_X5_switchAt : Cond.selects RX5 yX5_switchAt yX5_switchAt ∈ TT := tt_m0 1 (by decide +kernel) (by decide +kernel)
theorem m_sl_X5_variantOf : Cond.selects RX5 yX5_variantOf yX5_variantOf ∈ TT := tt_m0 3 (by decide +kernel) (by decide +kernel)
theorem m_sl_X5_reasonOf : Cond.selects RX5 yX5_reasonOf yX5_reasonOf ∈ TT := tt_m0 4 (by decide +kernel) (by decide +kernel)
theorem m_sl_X5_hasNeed : Cond.selects RX5 yX5_hasNeed yX5_hasNeed ∈ TT := tt_m0 5 (by decide +kernel) (by decide +kernel)
theorem m_sl_X5_isInLayer : Cond.selects RX5 yX5_isInLayer yX5_isInLayer ∈ TT := tt_m0 6 (by decide +kernel) (by decide +kernel)
theorem m_sl_X5_variantBy : Cond.selects RX5 yX5_variantBy yX5_variantBy ∈ TT := tt_m0 7 (by decide +kernel) (by decide +kernel)
theorem m_sl_X4_spreadByCount : Cond.selects RX4 yX4_spreadByCount yX4_spreadByCount ∈ TT := tt_m0 8 (by decide +kernel) (by decide +kernel)
theorem m_sl_X5_withSwitch : Cond.selects RX5 yX5_withSwitch yX5_withSwitch ∈ TT := tt_m0 9 (by decide +kernel) (by decide +kernel)
theorem m_sl_X6_dropRule : Cond.selects RX6 yX6_dropRule yX6_dropRule ∈ TT := tt_m0 10 (by decide +kernel) (by decide +kernel)
theorem m_sl_X5_isTaken : Cond.selects RX5 yX5_isTaken yX5_isTaken ∈ TT := tt_m0 11 (by decide +kernel) (by decide +kernel)
theorem m_sl_X6_because : Cond.selects RX6 yX6_because yX6_because ∈ TT := tt_m0 12 (by decide +kernel) (by decide +kernel)
theorem m_cd_objectInit : Cond.code objectInit ⟨#[0xb1]⟩ 1 none ∈ TT := tg_1_2 (List.mem_of_getElem? (i := 16) rfl) rfl
theorem tb_l {ws : List Cond} (ps : List Nat) (h : ws = ps.filterMap (fun i => lw_tbl[i]?)) : ∀ w ∈ ws, w ∈ lw_tbl := fun w hw => by
  rw [h] at hw
  obtain ⟨i, -, hi⟩ := List.mem_filterMap.mp hw
  exact List.mem_of_getElem? hi
theorem m_u_X0 : ∀ w ∈ wsX00, w ∈ TT := tt_l [836, 838, 840, 842, 844] (by decide +kernel) (by decide +kernel)
theorem m_u_X1 : ∀ w ∈ wsX10, w ∈ TT := tt_l [407, 409, 411, 413, 415, 417] (by decide +kernel) (by decide +kernel)
theorem m_u_X2 : ∀ w ∈ wsX20, w ∈ TT := tt_l [686, 688, 690, 692] (by decide +kernel) (by decide +kernel)
theorem m_u_X3 : ∀ w ∈ wsX30, w ∈ TT := tt_l [584, 586, 588, 590, 592, 594, 596, 598, 600, 602, 604, 606, 608, 610, 612, 614, 616, 618] (by decide +kernel) (by decide +kernel)
theorem m_u_X4 : ∀ w ∈ wsX40, w ∈ TT := tt_l [542, 544, 546, 548, 550] (by decide +kernel) (by decide +kernel)
theorem m_u_X5 : ∀ w ∈ wsX50, w ∈ TT := tt_l [426, 428, 430, 432, 434, 436] (by decide +kernel) (by decide +kernel)
theorem m_u_X6 : ∀ w ∈ wsX60, w ∈ TT := tt_l [458, 460, 462, 464, 466, 468, 470, 472, 474, 476, 478] (by decide +kernel) (by decide +kernel)
/-- a call's words, out of the tables' words alone -/
theorem kg_V {own C : String} {idx : Nat} {y : MethodName} {w : Cond} (h1 : Cond.methodLink own idx y ∈ TT) (h2 : Cond.instanceMethod y ∈ TT) (h3 : Cond.selects C y y ∈ TT) (h4 : Cond.initialized C ∈ TT) (h5 : w ∈ TT) : GoodIn TT (wsV own idx C y (w :: TT)) := by
  intro z hz
  have : z ∈ TT := by
    simp only [wsV, List.cons_append, List.nil_append, List.mem_cons] at hz
    rcases hz with rfl | rfl | rfl | rfl | rfl | hz <;> assumption
  exact ⟨this, tt_good this⟩
theorem kg_S {own : String} {idx : Nat} {y : MethodName} {w : Cond} (h1 : Cond.methodLink own idx y ∈ TT) (h2 : Cond.static y ∈ TT) (h4 : Cond.initialized own ∈ TT) (h5 : w ∈ TT) : GoodIn TT (wsS own idx y (w :: TT)) := by
  intro z hz
  have : z ∈ TT := by
    simp only [wsS, List.cons_append, List.nil_append, List.mem_cons] at hz
    rcases hz with rfl | rfl | rfl | rfl | hz <;> assumption
  exact ⟨this, tt_good this⟩
theorem kg_I {w : Cond} (h5 : w ∈ TT) : GoodIn TT (w :: TT) := by
  intro z hz
  have : z ∈ TT := by
    rcases List.mem_cons.mp hz with rfl | hz <;> assumption
  exact ⟨this, tt_good this⟩
/-- the texts that the class throws -/
def kStr : List (Nat × String) := [(28, "salt or variants out of range"), (39, "no more switches"), (57, "no weight that can be moved"), (67, "share or step out of range"), (86, "another switch has some of the range"), (97, "only a switch with a smaller number can be needed"), (105, "mark, how or n out of range"), (110, "no more rules"), (123, "no such rule"), (130, "held out of range"), (135, "ticks out of range"), (137, "no such layer"), (175, "user or worth out of range"), (181, "user out of range"), (207, "what out of range"), (236, "share out of range"), (304, "no such switch"), (306, "no such variant"), (308, "user or mark out of range"), (310, "many out of range"), (312, "layer or range out of range")]
/-- words of exceptions and of nest mates, that are on the tables, but no good words -/
def TB : List Cond := [Cond.castable "java/lang/IndexOutOfBoundsException" "java/lang/IndexOutOfBoundsException", Cond.castable "java/lang/IllegalArgumentException" "java/lang/IllegalArgumentException", Cond.castable "java/lang/IllegalStateException" "java/lang/IllegalStateException", Cond.declares ⟨"java/lang/RuntimeException", "<init>", "()V"⟩, Cond.declares ⟨"java/lang/RuntimeException", "<init>", "(Ljava/lang/String;)V"⟩, Cond.declares ⟨"java/lang/Exception", "<init>", "()V"⟩, Cond.declares ⟨"java/lang/Exception", "<init>", "(Ljava/lang/String;)V"⟩, Cond.declares ⟨"java/lang/Throwable", "<init>", "()V"⟩, Cond.declares ⟨"java/lang/Throwable", "<init>", "(Ljava/lang/String;)V"⟩, Cond.methodLinkNest RX5 17 yX1_init RX5, Cond.fieldLinkNest RX5 320 "DaybreakFlags$Asker" "user" "I" RX5, Cond.fieldLinkNest RX5 323 "DaybreakFlags$Asker" "first" "I" RX5, Cond.fieldLinkNest RX5 326 "DaybreakFlags$Asker" "second" "I" RX5, Cond.methodLinkNest RX6 41 yL_cell RL, Cond.methodLinkNest RX6 47 yL_below RL, Cond.methodLinkNest RX3 23 yX4_init RX5, Cond.fieldLinkNest RX3 121 "DaybreakFlags$Tally" "total" "I" RX5, Cond.fieldLinkNest RX1 40 "DaybreakFlags$Switch" "number" "I" RX5, Cond.fieldLinkNest RX5 314 "DaybreakFlags$Switch" "number" "I" RX5, Cond.fieldLinkNest RX5 334 "DaybreakFlags$Switch" "salt" "I" RX5, Cond.fieldLinkNest RX5 286 "DaybreakFlags$Switch" "variantCount" "I" RX5, Cond.fieldLinkNest RX5 347 "DaybreakFlags$Switch" "isSticky" "Z" RX5, Cond.fieldLinkNest RX5 188 "DaybreakFlags$Switch" "tally" "LDaybreakFlags$Tally;" RX5, Cond.fieldLinkNest RX5 107 "DaybreakFlags$Switch" "ruleCount" "I" RX5, Cond.fieldLinkNest RX5 63 "DaybreakFlags$Switch" "isOn" "Z" RX5, Cond.fieldLinkNest RX1 34 "DaybreakFlags$Switch" "isOn" "Z" RX5, Cond.fieldLinkNest RX5 88 "DaybreakFlags$Switch" "layer" "I" RX5, Cond.fieldLinkNest RX5 91 "DaybreakFlags$Switch" "from" "I" RX5, Cond.fieldLinkNest RX5 94 "DaybreakFlags$Switch" "to" "I" RX5, Cond.fieldLinkNest RX5 99 "DaybreakFlags$Switch" "needed" "I" RX5, Cond.fieldLinkNest RX5 102 "DaybreakFlags$Switch" "neededVariant" "I" RX5, Cond.fieldLinkNest RX5 333 "DaybreakFlags$Rule" "variant" "I" RX5, Cond.fieldLinkNest RX3 89 "DaybreakFlags$Arm" "user" "I" RX5, Cond.fieldLinkNest RX3 108 "DaybreakFlags$Arm" "variant" "I" RX5, Cond.fieldLinkNest RX5 183 "DaybreakFlags$Arm" "variant" "I" RX5, Cond.fieldLinkNest RX3 94 "DaybreakFlags$Arm" "older" "LDaybreakFlags$Arm;" RX5, Cond.fieldLinkNest RX3 111 "DaybreakFlags$Arm" "sum" "I" RX5, Cond.fieldLinkNest RX3 114 "DaybreakFlags$Arm" "hasActed" "Z" RX5]
theorem m_ml_X5_17 : Cond.methodLinkNest RX5 17 yX1_init RX5 ∈ TB := List.mem_of_getElem? (i := 9) (by decide +kernel)
theorem m_fl_X5_320 : Cond.fieldLinkNest RX5 320 "DaybreakFlags$Asker" "user" "I" RX5 ∈ TB := List.mem_of_getElem? (i := 10) (by decide +kernel)
theorem m_fl_X5_323 : Cond.fieldLinkNest RX5 323 "DaybreakFlags$Asker" "first" "I" RX5 ∈ TB := List.mem_of_getElem? (i := 11) (by decide +kernel)
theorem m_fl_X5_326 : Cond.fieldLinkNest RX5 326 "DaybreakFlags$Asker" "second" "I" RX5 ∈ TB := List.mem_of_getElem? (i := 12) (by decide +kernel)
theorem m_ml_X6_41 : Cond.methodLinkNest RX6 41 yL_cell RL ∈ TB := List.mem_of_getElem? (i := 13) (by decide +kernel)
theorem m_ml_X6_47 : Cond.methodLinkNest RX6 47 yL_below RL ∈ TB := List.mem_of_getElem? (i := 14) (by decide +kernel)
theorem m_ml_X3_23 : Cond.methodLinkNest RX3 23 yX4_init RX5 ∈ TB := List.mem_of_getElem? (i := 15) (by decide +kernel)
theorem m_fl_X3_121 : Cond.fieldLinkNest RX3 121 "DaybreakFlags$Tally" "total" "I" RX5 ∈ TB := List.mem_of_getElem? (i := 16) (by decide +kernel)
theorem m_fl_X1_40 : Cond.fieldLinkNest RX1 40 "DaybreakFlags$Switch" "number" "I" RX5 ∈ TB := List.mem_of_getElem? (i := 17) (by decide +kernel)
theorem m_fl_X5_314 : Cond.fieldLinkNest RX5 314 "DaybreakFlags$Switch" "number" "I" RX5 ∈ TB := List.mem_of_getElem? (i := 18) (by decide +kernel)
theorem m_fl_X5_334 : Cond.fieldLinkNest RX5 334 "DaybreakFlags$Switch" "salt" "I" RX5 ∈ TB := List.mem_of_getElem? (i := 19) (by decide +kernel)
theorem m_fl_X5_286 : Cond.fieldLinkNest RX5 286 "DaybreakFlags$Switch" "variantCount" "I" RX5 ∈ TB := List.mem_of_getElem? (i := 20) (by decide +kernel)
theorem m_fl_X5_347 : Cond.fieldLinkNest RX5 347 "DaybreakFlags$Switch" "isSticky" "Z" RX5 ∈ TB := List.mem_of_getElem? (i := 21) (by decide +kernel)
theorem m_fl_X5_188 : Cond.fieldLinkNest RX5 188 "DaybreakFlags$Switch" "tally" "LDaybreakFlags$Tally;" RX5 ∈ TB := List.mem_of_getElem? (i := 22) (by decide +kernel)
theorem m_fl_X5_107 : Cond.fieldLinkNest RX5 107 "DaybreakFlags$Switch" "ruleCount" "I" RX5 ∈ TB := List.mem_of_getElem? (i := 23) (by decide +kernel)
theorem m_fl_X5_63 : Cond.fieldLinkNest RX5 63 "DaybreakFlags$Switch" "isOn" "Z" RX5 ∈ TB := List.mem_of_getElem? (i := 24) (by decide +kernel)
theorem m_fl_X1_34 : Cond.fieldLinkNest RX1 34 "DaybreakFlags$Switch" "isOn" "Z" RX5 ∈ TB := List.mem_of_getElem? (i := 25) (by decide +kernel)
theorem m_fl_X5_88 : Cond.fieldLinkNest RX5 88 "DaybreakFlags$Switch" "layer" "I" RX5 ∈ TB := List.mem_of_getElem? (i := 26) (by decide +kernel)
theorem m_fl_X5_91 : Cond.fieldLinkNest RX5 91 "DaybreakFlags$Switch" "from" "I" RX5 ∈ TB := List.mem_of_getElem? (i := 27) (by decide +kernel)
theorem m_fl_X5_94 : Cond.fieldLinkNest RX5 94 "DaybreakFlags$Switch" "to" "I" RX5 ∈ TB := List.mem_of_getElem? (i := 28) (by decide +kernel)
theorem m_fl_X5_99 : Cond.fieldLinkNest RX5 99 "DaybreakFlags$Switch" "needed" "I" RX5 ∈ TB := List.mem_of_getElem? (i := 29) (by decide +kernel)
theorem m_fl_X5_102 : Cond.fieldLinkNest RX5 102 "DaybreakFlags$Switch" "neededVariant" "I" RX5 ∈ TB := List.mem_of_getElem? (i := 30) (by decide +kernel)
theorem m_fl_X5_333 : Cond.fieldLinkNest RX5 333 "DaybreakFlags$Rule" "variant" "I" RX5 ∈ TB := List.mem_of_getElem? (i := 31) (by decide +kernel)
theorem m_fl_X3_89 : Cond.fieldLinkNest RX3 89 "DaybreakFlags$Arm" "user" "I" RX5 ∈ TB := List.mem_of_getElem? (i := 32) (by decide +kernel)
theorem m_fl_X3_108 : Cond.fieldLinkNest RX3 108 "DaybreakFlags$Arm" "variant" "I" RX5 ∈ TB := List.mem_of_getElem? (i := 33) (by decide +kernel)
theorem m_fl_X5_183 : Cond.fieldLinkNest RX5 183 "DaybreakFlags$Arm" "variant" "I" RX5 ∈ TB := List.mem_of_getElem? (i := 34) (by decide +kernel)
theorem m_fl_X3_94 : Cond.fieldLinkNest RX3 94 "DaybreakFlags$Arm" "older" "LDaybreakFlags$Arm;" RX5 ∈ TB := List.mem_of_getElem? (i := 35) (by decide +kernel)
theorem m_fl_X3_111 : Cond.fieldLinkNest RX3 111 "DaybreakFlags$Arm" "sum" "I" RX5 ∈ TB := List.mem_of_getElem? (i := 36) (by decide +kernel)
theorem m_fl_X3_114 : Cond.fieldLinkNest RX3 114 "DaybreakFlags$Arm" "hasActed" "Z" RX5 ∈ TB := List.mem_of_getElem? (i := 37) (by decide +kernel)
theorem tb_ot : ∀ w ∈ TB, w.onTables = true := fun w h => List.all_eq_true.mp (show TB.all (fun w => w.onTables) = true from by decide +kernel) w h
theorem tb_in : ∀ w ∈ TB, w ∈ lw_tbl := tb_l [44, 141, 510, 45, 46, 47, 48, 49, 50, 394, 399, 401, 403, 486, 490, 532, 541, 555, 556, 558, 560, 562, 566, 568, 570, 571, 576, 577, 579, 582, 583, 685, 828, 830, 831, 833, 834, 835] (by decide +kernel)
theorem at_IAE : ∀ w ∈ (vx_atS RX5 30 "java/lang/IllegalArgumentException" ["java/lang/RuntimeException", "java/lang/Exception"]).filter goodWord, w ∈ TT := by
  intro w h
  exact List.mem_filter.mpr ⟨(show ∀ w ∈ (vx_atS RX5 30 "java/lang/IllegalArgumentException" ["java/lang/RuntimeException", "java/lang/Exception"]).filter goodWord, w ∈ lw_tbl from by decide +kernel) w h, (List.mem_filter.mp h).2⟩
theorem an_IAE : ∀ w ∈ (vx_atS RX5 30 "java/lang/IllegalArgumentException" ["java/lang/RuntimeException", "java/lang/Exception"]).filter (fun w => !goodWord w), w ∈ TB := by decide +kernel
theorem ag_IAE (ik : Nat) : ∀ w ∈ Cond.classLink RX5 ik "java/lang/IllegalArgumentException" :: Cond.initialized "java/lang/IllegalArgumentException" :: vx_atS RX5 30 "java/lang/IllegalArgumentException" ["java/lang/RuntimeException", "java/lang/Exception"], vx_ot w = true := by
  intro w h
  rcases List.mem_cons.mp h with rfl | h
  · rfl
  rcases List.mem_cons.mp h with rfl | h
  · rfl
  exact (show ∀ w ∈ vx_atS RX5 30 "java/lang/IllegalArgumentException" ["java/lang/RuntimeException", "java/lang/Exception"], vx_ot w = true from by decide +kernel) w h
theorem at_ISE : ∀ w ∈ (vx_atS RX5 41 "java/lang/IllegalStateException" ["java/lang/RuntimeException", "java/lang/Exception"]).filter goodWord, w ∈ TT := by
  intro w h
  exact List.mem_filter.mpr ⟨(show ∀ w ∈ (vx_atS RX5 41 "java/lang/IllegalStateException" ["java/lang/RuntimeException", "java/lang/Exception"]).filter goodWord, w ∈ lw_tbl from by decide +kernel) w h, (List.mem_filter.mp h).2⟩
theorem an_ISE : ∀ w ∈ (vx_atS RX5 41 "java/lang/IllegalStateException" ["java/lang/RuntimeException", "java/lang/Exception"]).filter (fun w => !goodWord w), w ∈ TB := by decide +kernel
theorem ag_ISE (ik : Nat) : ∀ w ∈ Cond.classLink RX5 ik "java/lang/IllegalStateException" :: Cond.initialized "java/lang/IllegalStateException" :: vx_atS RX5 41 "java/lang/IllegalStateException" ["java/lang/RuntimeException", "java/lang/Exception"], vx_ot w = true := by
  intro w h
  rcases List.mem_cons.mp h with rfl | h
  · rfl
  rcases List.mem_cons.mp h with rfl | h
  · rfl
  exact (show ∀ w ∈ vx_atS RX5 41 "java/lang/IllegalStateException" ["java/lang/RuntimeException", "java/lang/Exception"], vx_ot w = true from by decide +kernel) w h
theorem at_IOE : ∀ w ∈ (vx_atS RX5 125 "java/lang/IndexOutOfBoundsException" ["java/lang/RuntimeException", "java/lang/Exception"]).filter goodWord, w ∈ TT := by
  intro w h
  exact List.mem_filter.mpr ⟨(show ∀ w ∈ (vx_atS RX5 125 "java/lang/IndexOutOfBoundsException" ["java/lang/RuntimeException", "java/lang/Exception"]).filter goodWord, w ∈ lw_tbl from by decide +kernel) w h, (List.mem_filter.mp h).2⟩
theorem an_IOE : ∀ w ∈ (vx_atS RX5 125 "java/lang/IndexOutOfBoundsException" ["java/lang/RuntimeException", "java/lang/Exception"]).filter (fun w => !goodWord w), w ∈ TB := by decide +kernel
theorem ag_IOE (ik : Nat) : ∀ w ∈ Cond.classLink RX5 ik "java/lang/IndexOutOfBoundsException" :: Cond.initialized "java/lang/IndexOutOfBoundsException" :: vx_atS RX5 125 "java/lang/IndexOutOfBoundsException" ["java/lang/RuntimeException", "java/lang/Exception"], vx_ot w = true := by
  intro w h
  rcases List.mem_cons.mp h with rfl | h
  · rfl
  rcases List.mem_cons.mp h with rfl | h
  · rfl
  exact (show ∀ w ∈ vx_atS RX5 125 "java/lang/IndexOutOfBoundsException" ["java/lang/RuntimeException", "java/lang/Exception"], vx_ot w = true from by decide +kernel) w h
end
section
theorem dX0_init_0 : decode cX0_init 0 = .ok (.aload_n 0, 1) := by decide +kernel
theorem dX0_init_1 : decode cX0_init 1 = .ok (.invokespecial 1, 3) := by decide +kernel
theorem dX0_init_4 : decode cX0_init 4 = .ok (.aload_n 0, 1) := by decide +kernel
theorem dX0_init_5 : decode cX0_init 5 = .ok (.iload_n 1, 1) := by decide +kernel
theorem dX0_init_6 : decode cX0_init 6 = .ok (.putfield 7, 3) := by decide +kernel
theorem dX0_init_9 : decode cX0_init 9 = .ok (.aload_n 0, 1) := by decide +kernel
theorem dX0_init_10 : decode cX0_init 10 = .ok (.iload_n 2, 1) := by decide +kernel
theorem dX0_init_11 : decode cX0_init 11 = .ok (.putfield 13, 3) := by decide +kernel
theorem dX0_init_14 : decode cX0_init 14 = .ok (.aload_n 0, 1) := by decide +kernel
theorem dX0_init_15 : decode cX0_init 15 = .ok (.aload_n 3, 1) := by decide +kernel
theorem dX0_init_16 : decode cX0_init 16 = .ok (.putfield 16, 3) := by decide +kernel
theorem dX0_init_19 : decode cX0_init 19 = .ok (.return_, 1) := by decide +kernel
theorem dX1_init_0 : decode cX1_init 0 = .ok (.aload_n 0, 1) := by decide +kernel
theorem dX1_init_1 : decode cX1_init 1 = .ok (.invokespecial 3, 3) := by decide +kernel
theorem dX1_init_4 : decode cX1_init 4 = .ok (.aload_n 0, 1) := by decide +kernel
theorem dX1_init_5 : decode cX1_init 5 = .ok (.iconst (-1), 1) := by decide +kernel
theorem dX1_init_6 : decode cX1_init 6 = .ok (.putfield 9, 3) := by decide +kernel
theorem dX1_init_9 : decode cX1_init 9 = .ok (.aload_n 0, 1) := by decide +kernel
theorem dX1_init_10 : decode cX1_init 10 = .ok (.iconst (-1), 1) := by decide +kernel
theorem dX1_init_11 : decode cX1_init 11 = .ok (.putfield 15, 3) := by decide +kernel
theorem dX1_init_14 : decode cX1_init 14 = .ok (.return_, 1) := by decide +kernel
theorem dX1_become_0 : decode cX1_become 0 = .ok (.aload_n 0, 1) := by decide +kernel
theorem dX1_become_1 : decode cX1_become 1 = .ok (.iload_n 1, 1) := by decide +kernel
theorem dX1_become_2 : decode cX1_become 2 = .ok (.putfield 18, 3) := by decide +kernel
theorem dX1_become_5 : decode cX1_become 5 = .ok (.aload_n 0, 1) := by decide +kernel
theorem dX1_become_6 : decode cX1_become 6 = .ok (.iload_n 2, 1) := by decide +kernel
theorem dX1_become_7 : decode cX1_become 7 = .ok (.putfield 21, 3) := by decide +kernel
theorem dX1_become_10 : decode cX1_become 10 = .ok (.aload_n 0, 1) := by decide +kernel
theorem dX1_become_11 : decode cX1_become 11 = .ok (.iload_n 3, 1) := by decide +kernel
theorem dX1_become_12 : decode cX1_become 12 = .ok (.putfield 24, 3) := by decide +kernel
theorem dX1_become_15 : decode cX1_become 15 = .ok (.aload_n 0, 1) := by decide +kernel
theorem dX1_become_16 : decode cX1_become 16 = .ok (.iconst (-1), 1) := by decide +kernel
theorem dX1_become_17 : decode cX1_become 17 = .ok (.putfield 9, 3) := by decide +kernel
theorem dX1_become_20 : decode cX1_become 20 = .ok (.aload_n 0, 1) := by decide +kernel
theorem dX1_become_21 : decode cX1_become 21 = .ok (.iconst (-1), 1) := by decide +kernel
theorem dX1_become_22 : decode cX1_become 22 = .ok (.putfield 15, 3) := by decide +kernel
theorem dX1_become_25 : decode cX1_become 25 = .ok (.return_, 1) := by decide +kernel
theorem dX1_becomeCounted_0 : decode cX1_becomeCounted 0 = .ok (.aload_n 0, 1) := by decide +kernel
theorem dX1_becomeCounted_1 : decode cX1_becomeCounted 1 = .ok (.iload_n 1, 1) := by decide +kernel
theorem dX1_becomeCounted_2 : decode cX1_becomeCounted 2 = .ok (.iload_n 1, 1) := by decide +kernel
theorem dX1_becomeCounted_3 : decode cX1_becomeCounted 3 = .ok (.bipush 10, 2) := by decide +kernel
theorem dX1_becomeCounted_5 : decode cX1_becomeCounted 5 = .ok (.irem, 1) := by decide +kernel
theorem dX1_becomeCounted_6 : decode cX1_becomeCounted 6 = .ok (.iload_n 1, 1) := by decide +kernel
theorem dX1_becomeCounted_7 : decode cX1_becomeCounted 7 = .ok (.bipush 10, 2) := by decide +kernel
theorem dX1_becomeCounted_9 : decode cX1_becomeCounted 9 = .ok (.idiv, 1) := by decide +kernel
theorem dX1_becomeCounted_10 : decode cX1_becomeCounted 10 = .ok (.bipush 10, 2) := by decide +kernel
theorem dX1_becomeCounted_12 : decode cX1_becomeCounted 12 = .ok (.irem, 1) := by decide +kernel
theorem dX1_becomeCounted_13 : decode cX1_becomeCounted 13 = .ok (.invokevirtual 27, 3) := by decide +kernel
theorem dX1_becomeCounted_16 : decode cX1_becomeCounted 16 = .ok (.return_, 1) := by decide +kernel
theorem dX1_supposeRamp_0 : decode cX1_supposeRamp 0 = .ok (.aload_n 0, 1) := by decide +kernel
theorem dX1_supposeRamp_1 : decode cX1_supposeRamp 1 = .ok (.iload_n 1, 1) := by decide +kernel
theorem dX1_supposeRamp_2 : decode cX1_supposeRamp 2 = .ok (.putfield 15, 3) := by decide +kernel
theorem dX1_supposeRamp_5 : decode cX1_supposeRamp 5 = .ok (.aload_n 0, 1) := by decide +kernel
theorem dX1_supposeRamp_6 : decode cX1_supposeRamp 6 = .ok (.iload_n 2, 1) := by decide +kernel
theorem dX1_supposeRamp_7 : decode cX1_supposeRamp 7 = .ok (.putfield 31, 3) := by decide +kernel
theorem dX1_supposeRamp_10 : decode cX1_supposeRamp 10 = .ok (.return_, 1) := by decide +kernel
theorem dX1_findsOn_0 : decode cX1_findsOn 0 = .ok (.aload_n 1, 1) := by decide +kernel
theorem dX1_findsOn_1 : decode cX1_findsOn 1 = .ok (.getfield 34, 3) := by decide +kernel
theorem dX1_findsOn_4 : decode cX1_findsOn 4 = .ok (.aload_n 1, 1) := by decide +kernel
theorem dX1_findsOn_5 : decode cX1_findsOn 5 = .ok (.getfield 40, 3) := by decide +kernel
theorem dX1_findsOn_8 : decode cX1_findsOn 8 = .ok (.aload_n 0, 1) := by decide +kernel
theorem dX1_findsOn_9 : decode cX1_findsOn 9 = .ok (.getfield 9, 3) := by decide +kernel
theorem dX1_findsOn_12 : decode cX1_findsOn 12 = .ok (.if_icmp .ne 7, 3) := by decide +kernel
theorem dX1_findsOn_15 : decode cX1_findsOn 15 = .ok (.iconst 1, 1) := by decide +kernel
theorem dX1_findsOn_16 : decode cX1_findsOn 16 = .ok (.goto 4, 3) := by decide +kernel
theorem dX1_findsOn_19 : decode cX1_findsOn 19 = .ok (.iconst 0, 1) := by decide +kernel
theorem dX1_findsOn_20 : decode cX1_findsOn 20 = .ok (.if_icmp .eq 7, 3) := by decide +kernel
theorem dX1_findsOn_23 : decode cX1_findsOn 23 = .ok (.iconst 1, 1) := by decide +kernel
theorem dX1_findsOn_24 : decode cX1_findsOn 24 = .ok (.goto 4, 3) := by decide +kernel
theorem dX1_findsOn_27 : decode cX1_findsOn 27 = .ok (.iconst 0, 1) := by decide +kernel
theorem dX1_findsOn_28 : decode cX1_findsOn 28 = .ok (.ireturn, 1) := by decide +kernel
theorem dX1_findsFar_0 : decode cX1_findsFar 0 = .ok (.aload_n 1, 1) := by decide +kernel
theorem dX1_findsFar_1 : decode cX1_findsFar 1 = .ok (.getfield 40, 3) := by decide +kernel
theorem dX1_findsFar_4 : decode cX1_findsFar 4 = .ok (.aload_n 0, 1) := by decide +kernel
theorem dX1_findsFar_5 : decode cX1_findsFar 5 = .ok (.getfield 15, 3) := by decide +kernel
theorem dX1_findsFar_8 : decode cX1_findsFar 8 = .ok (.if_icmp .ne 10, 3) := by decide +kernel
theorem dX1_findsFar_11 : decode cX1_findsFar 11 = .ok (.aload_n 0, 1) := by decide +kernel
theorem dX1_findsFar_12 : decode cX1_findsFar 12 = .ok (.getfield 31, 3) := by decide +kernel
theorem dX1_findsFar_15 : decode cX1_findsFar 15 = .ok (.goto 8, 3) := by decide +kernel
theorem dX1_findsFar_18 : decode cX1_findsFar 18 = .ok (.aload_n 1, 1) := by decide +kernel
theorem dX1_findsFar_19 : decode cX1_findsFar 19 = .ok (.iload_n 2, 1) := by decide +kernel
theorem dX1_findsFar_20 : decode cX1_findsFar 20 = .ok (.invokevirtual 43, 3) := by decide +kernel
theorem dX1_findsFar_23 : decode cX1_findsFar 23 = .ok (.ireturn, 1) := by decide +kernel
theorem dX2_init_0 : decode cX2_init 0 = .ok (.aload_n 0, 1) := by decide +kernel
theorem dX2_init_1 : decode cX2_init 1 = .ok (.invokespecial 3, 3) := by decide +kernel
theorem dX2_init_4 : decode cX2_init 4 = .ok (.aload_n 0, 1) := by decide +kernel
theorem dX2_init_5 : decode cX2_init 5 = .ok (.iload_n 1, 1) := by decide +kernel
theorem dX2_init_6 : decode cX2_init 6 = .ok (.putfield 9, 3) := by decide +kernel
theorem dX2_init_9 : decode cX2_init 9 = .ok (.aload_n 0, 1) := by decide +kernel
theorem dX2_init_10 : decode cX2_init 10 = .ok (.iload_n 2, 1) := by decide +kernel
theorem dX2_init_11 : decode cX2_init 11 = .ok (.putfield 15, 3) := by decide +kernel
theorem dX2_init_14 : decode cX2_init 14 = .ok (.aload_n 0, 1) := by decide +kernel
theorem dX2_init_15 : decode cX2_init 15 = .ok (.iload_n 3, 1) := by decide +kernel
theorem dX2_init_16 : decode cX2_init 16 = .ok (.putfield 18, 3) := by decide +kernel
theorem dX2_init_19 : decode cX2_init 19 = .ok (.aload_n 0, 1) := by decide +kernel
theorem dX2_init_20 : decode cX2_init 20 = .ok (.iload 4, 2) := by decide +kernel
theorem dX2_init_22 : decode cX2_init 22 = .ok (.putfield 21, 3) := by decide +kernel
theorem dX2_init_25 : decode cX2_init 25 = .ok (.return_, 1) := by decide +kernel
theorem dX2_isMetBy_0 : decode cX2_isMetBy 0 = .ok (.aload_n 0, 1) := by decide +kernel
theorem dX2_isMetBy_1 : decode cX2_isMetBy 1 = .ok (.getfield 9, 3) := by decide +kernel
theorem dX2_isMetBy_4 : decode cX2_isMetBy 4 = .ok (.ifCond .ne 7, 3) := by decide +kernel
theorem dX2_isMetBy_7 : decode cX2_isMetBy 7 = .ok (.iload_n 1, 1) := by decide +kernel
theorem dX2_isMetBy_8 : decode cX2_isMetBy 8 = .ok (.goto 4, 3) := by decide +kernel
theorem dX2_isMetBy_11 : decode cX2_isMetBy 11 = .ok (.iload_n 2, 1) := by decide +kernel
theorem dX2_isMetBy_12 : decode cX2_isMetBy 12 = .ok (.istore_n 3, 1) := by decide +kernel
theorem dX2_isMetBy_13 : decode cX2_isMetBy 13 = .ok (.aload_n 0, 1) := by decide +kernel
theorem dX2_isMetBy_14 : decode cX2_isMetBy 14 = .ok (.getfield 15, 3) := by decide +kernel
theorem dX2_isMetBy_17 : decode cX2_isMetBy 17 = .ok (.iconst 1, 1) := by decide +kernel
theorem dX2_isMetBy_18 : decode cX2_isMetBy 18 = .ok (.if_icmp .ne 17, 3) := by decide +kernel
theorem dX2_isMetBy_21 : decode cX2_isMetBy 21 = .ok (.iload_n 3, 1) := by decide +kernel
theorem dX2_isMetBy_22 : decode cX2_isMetBy 22 = .ok (.aload_n 0, 1) := by decide +kernel
theorem dX2_isMetBy_23 : decode cX2_isMetBy 23 = .ok (.getfield 18, 3) := by decide +kernel
theorem dX2_isMetBy_26 : decode cX2_isMetBy 26 = .ok (.if_icmp .ge 7, 3) := by decide +kernel
theorem dX2_isMetBy_29 : decode cX2_isMetBy 29 = .ok (.iconst 1, 1) := by decide +kernel
theorem dX2_isMetBy_30 : decode cX2_isMetBy 30 = .ok (.goto 4, 3) := by decide +kernel
theorem dX2_isMetBy_33 : decode cX2_isMetBy 33 = .ok (.iconst 0, 1) := by decide +kernel
theorem dX2_isMetBy_34 : decode cX2_isMetBy 34 = .ok (.ireturn, 1) := by decide +kernel
theorem dX2_isMetBy_35 : decode cX2_isMetBy 35 = .ok (.aload_n 0, 1) := by decide +kernel
theorem dX2_isMetBy_36 : decode cX2_isMetBy 36 = .ok (.getfield 15, 3) := by decide +kernel
theorem dX2_isMetBy_39 : decode cX2_isMetBy 39 = .ok (.iconst 2, 1) := by decide +kernel
theorem dX2_isMetBy_40 : decode cX2_isMetBy 40 = .ok (.if_icmp .ne 19, 3) := by decide +kernel
theorem dX2_isMetBy_43 : decode cX2_isMetBy 43 = .ok (.iload_n 3, 1) := by decide +kernel
theorem dX2_isMetBy_44 : decode cX2_isMetBy 44 = .ok (.aload_n 0, 1) := by decide +kernel
theorem dX2_isMetBy_45 : decode cX2_isMetBy 45 = .ok (.getfield 18, 3) := by decide +kernel
theorem dX2_isMetBy_48 : decode cX2_isMetBy 48 = .ok (.if_icmp .ne 7, 3) := by decide +kernel
theorem dX2_isMetBy_51 : decode cX2_isMetBy 51 = .ok (.iconst 1, 1) := by decide +kernel
theorem dX2_isMetBy_52 : decode cX2_isMetBy 52 = .ok (.goto 20, 3) := by decide +kernel
theorem dX2_isMetBy_55 : decode cX2_isMetBy 55 = .ok (.iconst 0, 1) := by decide +kernel
theorem dX2_isMetBy_56 : decode cX2_isMetBy 56 = .ok (.goto 16, 3) := by decide +kernel
theorem dX2_isMetBy_59 : decode cX2_isMetBy 59 = .ok (.iload_n 3, 1) := by decide +kernel
theorem dX2_isMetBy_60 : decode cX2_isMetBy 60 = .ok (.aload_n 0, 1) := by decide +kernel
theorem dX2_isMetBy_61 : decode cX2_isMetBy 61 = .ok (.getfield 18, 3) := by decide +kernel
theorem dX2_isMetBy_64 : decode cX2_isMetBy 64 = .ok (.if_icmp .le 7, 3) := by decide +kernel
theorem dX2_isMetBy_67 : decode cX2_isMetBy 67 = .ok (.iconst 1, 1) := by decide +kernel
theorem dX2_isMetBy_68 : decode cX2_isMetBy 68 = .ok (.goto 4, 3) := by decide +kernel
theorem dX2_isMetBy_71 : decode cX2_isMetBy 71 = .ok (.iconst 0, 1) := by decide +kernel
theorem dX2_isMetBy_72 : decode cX2_isMetBy 72 = .ok (.ireturn, 1) := by decide +kernel
theorem dX3_init_0 : decode cX3_init 0 = .ok (.aload_n 0, 1) := by decide +kernel
theorem dX3_init_1 : decode cX3_init 1 = .ok (.invokespecial 3, 3) := by decide +kernel
theorem dX3_init_4 : decode cX3_init 4 = .ok (.aload_n 0, 1) := by decide +kernel
theorem dX3_init_5 : decode cX3_init 5 = .ok (.iconst 4, 1) := by decide +kernel
theorem dX3_init_6 : decode cX3_init 6 = .ok (.newarray .int, 2) := by decide +kernel
theorem dX3_init_8 : decode cX3_init 8 = .ok (.putfield 9, 3) := by decide +kernel
theorem dX3_init_11 : decode cX3_init 11 = .ok (.aload_n 0, 1) := by decide +kernel
theorem dX3_init_12 : decode cX3_init 12 = .ok (.iconst 5, 1) := by decide +kernel
theorem dX3_init_13 : decode cX3_init 13 = .ok (.anewarray 15, 3) := by decide +kernel
theorem dX3_init_16 : decode cX3_init 16 = .ok (.putfield 17, 3) := by decide +kernel
theorem dX3_init_19 : decode cX3_init 19 = .ok (.aload_n 0, 1) := by decide +kernel
theorem dX3_init_20 : decode cX3_init 20 = .ok (.new 21, 3) := by decide +kernel
theorem dX3_init_23 : decode cX3_init 23 = .ok (.dup, 1) := by decide +kernel
theorem dX3_init_24 : decode cX3_init 24 = .ok (.invokespecial 23, 3) := by decide +kernel
theorem dX3_init_27 : decode cX3_init 27 = .ok (.putfield 24, 3) := by decide +kernel
theorem dX3_init_30 : decode cX3_init 30 = .ok (.aload_n 0, 1) := by decide +kernel
theorem dX3_init_31 : decode cX3_init 31 = .ok (.sipush 1000, 3) := by decide +kernel
theorem dX3_init_34 : decode cX3_init 34 = .ok (.putfield 28, 3) := by decide +kernel
theorem dX3_init_37 : decode cX3_init 37 = .ok (.aload_n 0, 1) := by decide +kernel
theorem dX3_init_38 : decode cX3_init 38 = .ok (.iconst (-1), 1) := by decide +kernel
theorem dX3_init_39 : decode cX3_init 39 = .ok (.putfield 32, 3) := by decide +kernel
theorem dX3_init_42 : decode cX3_init 42 = .ok (.aload_n 0, 1) := by decide +kernel
theorem dX3_init_43 : decode cX3_init 43 = .ok (.iconst (-1), 1) := by decide +kernel
theorem dX3_init_44 : decode cX3_init 44 = .ok (.putfield 35, 3) := by decide +kernel
theorem dX3_init_47 : decode cX3_init 47 = .ok (.aload_n 0, 1) := by decide +kernel
theorem dX3_init_48 : decode cX3_init 48 = .ok (.iload_n 1, 1) := by decide +kernel
theorem dX3_init_49 : decode cX3_init 49 = .ok (.putfield 38, 3) := by decide +kernel
theorem dX3_init_52 : decode cX3_init 52 = .ok (.aload_n 0, 1) := by decide +kernel
theorem dX3_init_53 : decode cX3_init 53 = .ok (.iload_n 2, 1) := by decide +kernel
theorem dX3_init_54 : decode cX3_init 54 = .ok (.putfield 41, 3) := by decide +kernel
theorem dX3_init_57 : decode cX3_init 57 = .ok (.aload_n 0, 1) := by decide +kernel
theorem dX3_init_58 : decode cX3_init 58 = .ok (.iload_n 3, 1) := by decide +kernel
theorem dX3_init_59 : decode cX3_init 59 = .ok (.putfield 44, 3) := by decide +kernel
theorem dX3_init_62 : decode cX3_init 62 = .ok (.aload_n 0, 1) := by decide +kernel
theorem dX3_init_63 : decode cX3_init 63 = .ok (.iload 4, 2) := by decide +kernel
theorem dX3_init_65 : decode cX3_init 65 = .ok (.putfield 47, 3) := by decide +kernel
theorem dX3_init_68 : decode cX3_init 68 = .ok (.aload_n 0, 1) := by decide +kernel
theorem dX3_init_69 : decode cX3_init 69 = .ok (.getfield 9, 3) := by decide +kernel
theorem dX3_init_72 : decode cX3_init 72 = .ok (.iconst 0, 1) := by decide +kernel
theorem dX3_init_73 : decode cX3_init 73 = .ok (.sipush 1000, 3) := by decide +kernel
theorem dX3_init_76 : decode cX3_init 76 = .ok (.iastore, 1) := by decide +kernel
theorem dX3_init_77 : decode cX3_init 77 = .ok (.return_, 1) := by decide +kernel
theorem dX3_weightOf_0 : decode cX3_weightOf 0 = .ok (.iload_n 1, 1) := by decide +kernel
theorem dX3_weightOf_1 : decode cX3_weightOf 1 = .ok (.ifCond .lt 12, 3) := by decide +kernel
theorem dX3_weightOf_4 : decode cX3_weightOf 4 = .ok (.iload_n 1, 1) := by decide +kernel
theorem dX3_weightOf_5 : decode cX3_weightOf 5 = .ok (.aload_n 0, 1) := by decide +kernel
theorem dX3_weightOf_6 : decode cX3_weightOf 6 = .ok (.getfield 9, 3) := by decide +kernel
theorem dX3_weightOf_9 : decode cX3_weightOf 9 = .ok (.arraylength, 1) := by decide +kernel
theorem dX3_weightOf_10 : decode cX3_weightOf 10 = .ok (.if_icmp .lt 7, 3) := by decide +kernel
theorem dX3_weightOf_13 : decode cX3_weightOf 13 = .ok (.iconst 0, 1) := by decide +kernel
theorem dX3_weightOf_14 : decode cX3_weightOf 14 = .ok (.goto 9, 3) := by decide +kernel
theorem dX3_weightOf_17 : decode cX3_weightOf 17 = .ok (.aload_n 0, 1) := by decide +kernel
theorem dX3_weightOf_18 : decode cX3_weightOf 18 = .ok (.getfield 9, 3) := by decide +kernel
theorem dX3_weightOf_21 : decode cX3_weightOf 21 = .ok (.iload_n 1, 1) := by decide +kernel
theorem dX3_weightOf_22 : decode cX3_weightOf 22 = .ok (.iaload, 1) := by decide +kernel
theorem dX3_weightOf_23 : decode cX3_weightOf 23 = .ok (.ireturn, 1) := by decide +kernel
theorem dX3_setWeight_0 : decode cX3_setWeight 0 = .ok (.iload_n 1, 1) := by decide +kernel
theorem dX3_setWeight_1 : decode cX3_setWeight 1 = .ok (.ifCond .lt 19, 3) := by decide +kernel
theorem dX3_setWeight_4 : decode cX3_setWeight 4 = .ok (.iload_n 1, 1) := by decide +kernel
theorem dX3_setWeight_5 : decode cX3_setWeight 5 = .ok (.aload_n 0, 1) := by decide +kernel
theorem dX3_setWeight_6 : decode cX3_setWeight 6 = .ok (.getfield 9, 3) := by decide +kernel
theorem dX3_setWeight_9 : decode cX3_setWeight 9 = .ok (.arraylength, 1) := by decide +kernel
theorem dX3_setWeight_10 : decode cX3_setWeight 10 = .ok (.if_icmp .ge 10, 3) := by decide +kernel
theorem dX3_setWeight_13 : decode cX3_setWeight 13 = .ok (.aload_n 0, 1) := by decide +kernel
theorem dX3_setWeight_14 : decode cX3_setWeight 14 = .ok (.getfield 9, 3) := by decide +kernel
theorem dX3_setWeight_17 : decode cX3_setWeight 17 = .ok (.iload_n 1, 1) := by decide +kernel
theorem dX3_setWeight_18 : decode cX3_setWeight 18 = .ok (.iload_n 2, 1) := by decide +kernel
theorem dX3_setWeight_19 : decode cX3_setWeight 19 = .ok (.iastore, 1) := by decide +kernel
theorem dX3_setWeight_20 : decode cX3_setWeight 20 = .ok (.return_, 1) := by decide +kernel
theorem dX3_splitBy_0 : decode cX3_splitBy 0 = .ok (.iconst 0, 1) := by decide +kernel
theorem dX3_splitBy_1 : decode cX3_splitBy 1 = .ok (.istore_n 2, 1) := by decide +kernel
theorem dX3_splitBy_2 : decode cX3_splitBy 2 = .ok (.iconst 0, 1) := by decide +kernel
theorem dX3_splitBy_3 : decode cX3_splitBy 3 = .ok (.istore_n 3, 1) := by decide +kernel
theorem dX3_splitBy_4 : decode cX3_splitBy 4 = .ok (.iload_n 3, 1) := by decide +kernel
theorem dX3_splitBy_5 : decode cX3_splitBy 5 = .ok (.aload_n 0, 1) := by decide +kernel
theorem dX3_splitBy_6 : decode cX3_splitBy 6 = .ok (.getfield 9, 3) := by decide +kernel
theorem dX3_splitBy_9 : decode cX3_splitBy 9 = .ok (.arraylength, 1) := by decide +kernel
theorem dX3_splitBy_10 : decode cX3_splitBy 10 = .ok (.if_icmp .ge 25, 3) := by decide +kernel
theorem dX3_splitBy_13 : decode cX3_splitBy 13 = .ok (.iload_n 2, 1) := by decide +kernel
theorem dX3_splitBy_14 : decode cX3_splitBy 14 = .ok (.aload_n 0, 1) := by decide +kernel
theorem dX3_splitBy_15 : decode cX3_splitBy 15 = .ok (.getfield 9, 3) := by decide +kernel
theorem dX3_splitBy_18 : decode cX3_splitBy 18 = .ok (.iload_n 3, 1) := by decide +kernel
theorem dX3_splitBy_19 : decode cX3_splitBy 19 = .ok (.iaload, 1) := by decide +kernel
theorem dX3_splitBy_20 : decode cX3_splitBy 20 = .ok (.iadd, 1) := by decide +kernel
theorem dX3_splitBy_21 : decode cX3_splitBy 21 = .ok (.istore_n 2, 1) := by decide +kernel
theorem dX3_splitBy_22 : decode cX3_splitBy 22 = .ok (.iload_n 1, 1) := by decide +kernel
theorem dX3_splitBy_23 : decode cX3_splitBy 23 = .ok (.iload_n 2, 1) := by decide +kernel
theorem dX3_splitBy_24 : decode cX3_splitBy 24 = .ok (.if_icmp .ge 5, 3) := by decide +kernel
theorem dX3_splitBy_27 : decode cX3_splitBy 27 = .ok (.iload_n 3, 1) := by decide +kernel
theorem dX3_splitBy_28 : decode cX3_splitBy 28 = .ok (.ireturn, 1) := by decide +kernel
theorem dX3_splitBy_29 : decode cX3_splitBy 29 = .ok (.iinc 3 1, 3) := by decide +kernel
theorem dX3_splitBy_32 : decode cX3_splitBy 32 = .ok (.goto (-28), 3) := by decide +kernel
theorem dX3_splitBy_35 : decode cX3_splitBy 35 = .ok (.iconst 0, 1) := by decide +kernel
theorem dX3_splitBy_36 : decode cX3_splitBy 36 = .ok (.ireturn, 1) := by decide +kernel
theorem dX3_setRamp_0 : decode cX3_setRamp 0 = .ok (.aload_n 0, 1) := by decide +kernel
theorem dX3_setRamp_1 : decode cX3_setRamp 1 = .ok (.iload_n 1, 1) := by decide +kernel
theorem dX3_setRamp_2 : decode cX3_setRamp 2 = .ok (.putfield 28, 3) := by decide +kernel
theorem dX3_setRamp_5 : decode cX3_setRamp 5 = .ok (.aload_n 0, 1) := by decide +kernel
theorem dX3_setRamp_6 : decode cX3_setRamp 6 = .ok (.iload_n 2, 1) := by decide +kernel
theorem dX3_setRamp_7 : decode cX3_setRamp 7 = .ok (.putfield 51, 3) := by decide +kernel
theorem dX3_setRamp_10 : decode cX3_setRamp 10 = .ok (.aload_n 0, 1) := by decide +kernel
theorem dX3_setRamp_11 : decode cX3_setRamp 11 = .ok (.iload_n 3, 1) := by decide +kernel
theorem dX3_setRamp_12 : decode cX3_setRamp 12 = .ok (.putfield 54, 3) := by decide +kernel
theorem dX3_setRamp_15 : decode cX3_setRamp 15 = .ok (.return_, 1) := by decide +kernel
theorem dX3_farAt_0 : decode cX3_farAt 0 = .ok (.aload_n 0, 1) := by decide +kernel
theorem dX3_farAt_1 : decode cX3_farAt 1 = .ok (.getfield 28, 3) := by decide +kernel
theorem dX3_farAt_4 : decode cX3_farAt 4 = .ok (.i2l, 1) := by decide +kernel
theorem dX3_farAt_5 : decode cX3_farAt 5 = .ok (.aload_n 0, 1) := by decide +kernel
theorem dX3_farAt_6 : decode cX3_farAt 6 = .ok (.getfield 51, 3) := by decide +kernel
theorem dX3_farAt_9 : decode cX3_farAt 9 = .ok (.i2l, 1) := by decide +kernel
theorem dX3_farAt_10 : decode cX3_farAt 10 = .ok (.iload_n 1, 1) := by decide +kernel
theorem dX3_farAt_11 : decode cX3_farAt 11 = .ok (.aload_n 0, 1) := by decide +kernel
theorem dX3_farAt_12 : decode cX3_farAt 12 = .ok (.getfield 54, 3) := by decide +kernel
theorem dX3_farAt_15 : decode cX3_farAt 15 = .ok (.isub, 1) := by decide +kernel
theorem dX3_farAt_16 : decode cX3_farAt 16 = .ok (.i2l, 1) := by decide +kernel
theorem dX3_farAt_17 : decode cX3_farAt 17 = .ok (.lmul, 1) := by decide +kernel
theorem dX3_farAt_18 : decode cX3_farAt 18 = .ok (.ladd, 1) := by decide +kernel
theorem dX3_farAt_19 : decode cX3_farAt 19 = .ok (.lstore_n 2, 1) := by decide +kernel
theorem dX3_farAt_20 : decode cX3_farAt 20 = .ok (.lload_n 2, 1) := by decide +kernel
theorem dX3_farAt_21 : decode cX3_farAt 21 = .ok (.ldc2_w 57, 3) := by decide +kernel
theorem dX3_farAt_24 : decode cX3_farAt 24 = .ok (.lcmp, 1) := by decide +kernel
theorem dX3_farAt_25 : decode cX3_farAt 25 = .ok (.ifCond .le 9, 3) := by decide +kernel
theorem dX3_farAt_28 : decode cX3_farAt 28 = .ok (.sipush 1000, 3) := by decide +kernel
theorem dX3_farAt_31 : decode cX3_farAt 31 = .ok (.goto 5, 3) := by decide +kernel
theorem dX3_farAt_34 : decode cX3_farAt 34 = .ok (.lload_n 2, 1) := by decide +kernel
theorem dX3_farAt_35 : decode cX3_farAt 35 = .ok (.l2i, 1) := by decide +kernel
theorem dX3_farAt_36 : decode cX3_farAt 36 = .ok (.ireturn, 1) := by decide +kernel
theorem dX3_sharesRange_0 : decode cX3_sharesRange 0 = .ok (.aload_n 0, 1) := by decide +kernel
theorem dX3_sharesRange_1 : decode cX3_sharesRange 1 = .ok (.getfield 59, 3) := by decide +kernel
theorem dX3_sharesRange_4 : decode cX3_sharesRange 4 = .ok (.iload_n 1, 1) := by decide +kernel
theorem dX3_sharesRange_5 : decode cX3_sharesRange 5 = .ok (.invokestatic 62, 3) := by decide +kernel
theorem dX3_sharesRange_8 : decode cX3_sharesRange 8 = .ok (.aload_n 0, 1) := by decide +kernel
theorem dX3_sharesRange_9 : decode cX3_sharesRange 9 = .ok (.getfield 68, 3) := by decide +kernel
theorem dX3_sharesRange_12 : decode cX3_sharesRange 12 = .ok (.iload_n 2, 1) := by decide +kernel
theorem dX3_sharesRange_13 : decode cX3_sharesRange 13 = .ok (.invokestatic 71, 3) := by decide +kernel
theorem dX3_sharesRange_16 : decode cX3_sharesRange 16 = .ok (.if_icmp .ge 7, 3) := by decide +kernel
theorem dX3_sharesRange_19 : decode cX3_sharesRange 19 = .ok (.iconst 1, 1) := by decide +kernel
theorem dX3_sharesRange_20 : decode cX3_sharesRange 20 = .ok (.goto 4, 3) := by decide +kernel
theorem dX3_sharesRange_23 : decode cX3_sharesRange 23 = .ok (.iconst 0, 1) := by decide +kernel
theorem dX3_sharesRange_24 : decode cX3_sharesRange 24 = .ok (.ireturn, 1) := by decide +kernel
theorem dX3_ruleAt_0 : decode cX3_ruleAt 0 = .ok (.iload_n 1, 1) := by decide +kernel
theorem dX3_ruleAt_1 : decode cX3_ruleAt 1 = .ok (.ifCond .lt 12, 3) := by decide +kernel
theorem dX3_ruleAt_4 : decode cX3_ruleAt 4 = .ok (.iload_n 1, 1) := by decide +kernel
theorem dX3_ruleAt_5 : decode cX3_ruleAt 5 = .ok (.aload_n 0, 1) := by decide +kernel
theorem dX3_ruleAt_6 : decode cX3_ruleAt 6 = .ok (.getfield 17, 3) := by decide +kernel
theorem dX3_ruleAt_9 : decode cX3_ruleAt 9 = .ok (.arraylength, 1) := by decide +kernel
theorem dX3_ruleAt_10 : decode cX3_ruleAt 10 = .ok (.if_icmp .lt 7, 3) := by decide +kernel
theorem dX3_ruleAt_13 : decode cX3_ruleAt 13 = .ok (.aconst_null, 1) := by decide +kernel
theorem dX3_ruleAt_14 : decode cX3_ruleAt 14 = .ok (.goto 9, 3) := by decide +kernel
theorem dX3_ruleAt_17 : decode cX3_ruleAt 17 = .ok (.aload_n 0, 1) := by decide +kernel
theorem dX3_ruleAt_18 : decode cX3_ruleAt 18 = .ok (.getfield 17, 3) := by decide +kernel
theorem dX3_ruleAt_21 : decode cX3_ruleAt 21 = .ok (.iload_n 1, 1) := by decide +kernel
theorem dX3_ruleAt_22 : decode cX3_ruleAt 22 = .ok (.aaload, 1) := by decide +kernel
theorem dX3_ruleAt_23 : decode cX3_ruleAt 23 = .ok (.areturn, 1) := by decide +kernel
theorem dX3_addRule_0 : decode cX3_addRule 0 = .ok (.aload_n 0, 1) := by decide +kernel
theorem dX3_addRule_1 : decode cX3_addRule 1 = .ok (.getfield 74, 3) := by decide +kernel
theorem dX3_addRule_4 : decode cX3_addRule 4 = .ok (.ifCond .lt 35, 3) := by decide +kernel
theorem dX3_addRule_7 : decode cX3_addRule 7 = .ok (.aload_n 0, 1) := by decide +kernel
theorem dX3_addRule_8 : decode cX3_addRule 8 = .ok (.getfield 74, 3) := by decide +kernel
theorem dX3_addRule_11 : decode cX3_addRule 11 = .ok (.aload_n 0, 1) := by decide +kernel
theorem dX3_addRule_12 : decode cX3_addRule 12 = .ok (.getfield 17, 3) := by decide +kernel
theorem dX3_addRule_15 : decode cX3_addRule 15 = .ok (.arraylength, 1) := by decide +kernel
theorem dX3_addRule_16 : decode cX3_addRule 16 = .ok (.if_icmp .ge 23, 3) := by decide +kernel
theorem dX3_addRule_19 : decode cX3_addRule 19 = .ok (.aload_n 0, 1) := by decide +kernel
theorem dX3_addRule_20 : decode cX3_addRule 20 = .ok (.getfield 17, 3) := by decide +kernel
theorem dX3_addRule_23 : decode cX3_addRule 23 = .ok (.aload_n 0, 1) := by decide +kernel
theorem dX3_addRule_24 : decode cX3_addRule 24 = .ok (.getfield 74, 3) := by decide +kernel
theorem dX3_addRule_27 : decode cX3_addRule 27 = .ok (.aload_n 1, 1) := by decide +kernel
theorem dX3_addRule_28 : decode cX3_addRule 28 = .ok (.aastore, 1) := by decide +kernel
theorem dX3_addRule_29 : decode cX3_addRule 29 = .ok (.aload_n 0, 1) := by decide +kernel
theorem dX3_addRule_30 : decode cX3_addRule 30 = .ok (.dup, 1) := by decide +kernel
theorem dX3_addRule_31 : decode cX3_addRule 31 = .ok (.getfield 74, 3) := by decide +kernel
theorem dX3_addRule_34 : decode cX3_addRule 34 = .ok (.iconst 1, 1) := by decide +kernel
theorem dX3_addRule_35 : decode cX3_addRule 35 = .ok (.iadd, 1) := by decide +kernel
theorem dX3_addRule_36 : decode cX3_addRule 36 = .ok (.putfield 74, 3) := by decide +kernel
theorem dX3_addRule_39 : decode cX3_addRule 39 = .ok (.return_, 1) := by decide +kernel
theorem dX3_removeRule_0 : decode cX3_removeRule 0 = .ok (.iload_n 1, 1) := by decide +kernel
theorem dX3_removeRule_1 : decode cX3_removeRule 1 = .ok (.iconst 0, 1) := by decide +kernel
theorem dX3_removeRule_2 : decode cX3_removeRule 2 = .ok (.invokestatic 62, 3) := by decide +kernel
theorem dX3_removeRule_5 : decode cX3_removeRule 5 = .ok (.istore_n 2, 1) := by decide +kernel
theorem dX3_removeRule_6 : decode cX3_removeRule 6 = .ok (.iload_n 2, 1) := by decide +kernel
theorem dX3_removeRule_7 : decode cX3_removeRule 7 = .ok (.aload_n 0, 1) := by decide +kernel
theorem dX3_removeRule_8 : decode cX3_removeRule 8 = .ok (.getfield 17, 3) := by decide +kernel
theorem dX3_removeRule_11 : decode cX3_removeRule 11 = .ok (.arraylength, 1) := by decide +kernel
theorem dX3_removeRule_12 : decode cX3_removeRule 12 = .ok (.if_icmp .ge 22, 3) := by decide +kernel
theorem dX3_removeRule_15 : decode cX3_removeRule 15 = .ok (.aload_n 0, 1) := by decide +kernel
theorem dX3_removeRule_16 : decode cX3_removeRule 16 = .ok (.getfield 17, 3) := by decide +kernel
theorem dX3_removeRule_19 : decode cX3_removeRule 19 = .ok (.iload_n 2, 1) := by decide +kernel
theorem dX3_removeRule_20 : decode cX3_removeRule 20 = .ok (.aload_n 0, 1) := by decide +kernel
theorem dX3_removeRule_21 : decode cX3_removeRule 21 = .ok (.iload_n 2, 1) := by decide +kernel
theorem dX3_removeRule_22 : decode cX3_removeRule 22 = .ok (.iconst 1, 1) := by decide +kernel
theorem dX3_removeRule_23 : decode cX3_removeRule 23 = .ok (.iadd, 1) := by decide +kernel
theorem dX3_removeRule_24 : decode cX3_removeRule 24 = .ok (.invokevirtual 77, 3) := by decide +kernel
theorem dX3_removeRule_27 : decode cX3_removeRule 27 = .ok (.aastore, 1) := by decide +kernel
theorem dX3_removeRule_28 : decode cX3_removeRule 28 = .ok (.iinc 2 1, 3) := by decide +kernel
theorem dX3_removeRule_31 : decode cX3_removeRule 31 = .ok (.goto (-25), 3) := by decide +kernel
theorem dX3_removeRule_34 : decode cX3_removeRule 34 = .ok (.aload_n 0, 1) := by decide +kernel
theorem dX3_removeRule_35 : decode cX3_removeRule 35 = .ok (.dup, 1) := by decide +kernel
theorem dX3_removeRule_36 : decode cX3_removeRule 36 = .ok (.getfield 74, 3) := by decide +kernel
theorem dX3_removeRule_39 : decode cX3_removeRule 39 = .ok (.iconst 1, 1) := by decide +kernel
theorem dX3_removeRule_40 : decode cX3_removeRule 40 = .ok (.isub, 1) := by decide +kernel
theorem dX3_removeRule_41 : decode cX3_removeRule 41 = .ok (.putfield 74, 3) := by decide +kernel
theorem dX3_removeRule_44 : decode cX3_removeRule 44 = .ok (.return_, 1) := by decide +kernel
theorem dX3_firstRuleFor_0 : decode cX3_firstRuleFor 0 = .ok (.iconst 0, 1) := by decide +kernel
theorem dX3_firstRuleFor_1 : decode cX3_firstRuleFor 1 = .ok (.istore_n 3, 1) := by decide +kernel
theorem dX3_firstRuleFor_2 : decode cX3_firstRuleFor 2 = .ok (.iload_n 3, 1) := by decide +kernel
theorem dX3_firstRuleFor_3 : decode cX3_firstRuleFor 3 = .ok (.aload_n 0, 1) := by decide +kernel
theorem dX3_firstRuleFor_4 : decode cX3_firstRuleFor 4 = .ok (.getfield 17, 3) := by decide +kernel
theorem dX3_firstRuleFor_7 : decode cX3_firstRuleFor 7 = .ok (.arraylength, 1) := by decide +kernel
theorem dX3_firstRuleFor_8 : decode cX3_firstRuleFor 8 = .ok (.if_icmp .ge 34, 3) := by decide +kernel
theorem dX3_firstRuleFor_11 : decode cX3_firstRuleFor 11 = .ok (.aload_n 0, 1) := by decide +kernel
theorem dX3_firstRuleFor_12 : decode cX3_firstRuleFor 12 = .ok (.getfield 17, 3) := by decide +kernel
theorem dX3_firstRuleFor_15 : decode cX3_firstRuleFor 15 = .ok (.iload_n 3, 1) := by decide +kernel
theorem dX3_firstRuleFor_16 : decode cX3_firstRuleFor 16 = .ok (.aaload, 1) := by decide +kernel
theorem dX3_firstRuleFor_17 : decode cX3_firstRuleFor 17 = .ok (.astore 4, 2) := by decide +kernel
theorem dX3_firstRuleFor_19 : decode cX3_firstRuleFor 19 = .ok (.aload 4, 2) := by decide +kernel
theorem dX3_firstRuleFor_21 : decode cX3_firstRuleFor 21 = .ok (.ifnull 15, 3) := by decide +kernel
theorem dX3_firstRuleFor_24 : decode cX3_firstRuleFor 24 = .ok (.aload 4, 2) := by decide +kernel
theorem dX3_firstRuleFor_26 : decode cX3_firstRuleFor 26 = .ok (.iload_n 1, 1) := by decide +kernel
theorem dX3_firstRuleFor_27 : decode cX3_firstRuleFor 27 = .ok (.iload_n 2, 1) := by decide +kernel
theorem dX3_firstRuleFor_28 : decode cX3_firstRuleFor 28 = .ok (.invokevirtual 81, 3) := by decide +kernel
theorem dX3_firstRuleFor_31 : decode cX3_firstRuleFor 31 = .ok (.ifCond .eq 5, 3) := by decide +kernel
theorem dX3_firstRuleFor_34 : decode cX3_firstRuleFor 34 = .ok (.iload_n 3, 1) := by decide +kernel
theorem dX3_firstRuleFor_35 : decode cX3_firstRuleFor 35 = .ok (.ireturn, 1) := by decide +kernel
theorem dX3_firstRuleFor_36 : decode cX3_firstRuleFor 36 = .ok (.iinc 3 1, 3) := by decide +kernel
theorem dX3_firstRuleFor_39 : decode cX3_firstRuleFor 39 = .ok (.goto (-37), 3) := by decide +kernel
theorem dX3_firstRuleFor_42 : decode cX3_firstRuleFor 42 = .ok (.iconst (-1), 1) := by decide +kernel
theorem dX3_firstRuleFor_43 : decode cX3_firstRuleFor 43 = .ok (.ireturn, 1) := by decide +kernel
theorem dX3_armOf_0 : decode cX3_armOf 0 = .ok (.aload_n 0, 1) := by decide +kernel
theorem dX3_armOf_1 : decode cX3_armOf 1 = .ok (.getfield 85, 3) := by decide +kernel
theorem dX3_armOf_4 : decode cX3_armOf 4 = .ok (.astore_n 2, 1) := by decide +kernel
theorem dX3_armOf_5 : decode cX3_armOf 5 = .ok (.aload_n 2, 1) := by decide +kernel
theorem dX3_armOf_6 : decode cX3_armOf 6 = .ok (.ifnull 21, 3) := by decide +kernel
theorem dX3_armOf_9 : decode cX3_armOf 9 = .ok (.aload_n 2, 1) := by decide +kernel
theorem dX3_armOf_10 : decode cX3_armOf 10 = .ok (.getfield 89, 3) := by decide +kernel
theorem dX3_armOf_13 : decode cX3_armOf 13 = .ok (.iload_n 1, 1) := by decide +kernel
theorem dX3_armOf_14 : decode cX3_armOf 14 = .ok (.if_icmp .ne 5, 3) := by decide +kernel
theorem dX3_armOf_17 : decode cX3_armOf 17 = .ok (.aload_n 2, 1) := by decide +kernel
theorem dX3_armOf_18 : decode cX3_armOf 18 = .ok (.areturn, 1) := by decide +kernel
theorem dX3_armOf_19 : decode cX3_armOf 19 = .ok (.aload_n 2, 1) := by decide +kernel
theorem dX3_armOf_20 : decode cX3_armOf 20 = .ok (.getfield 94, 3) := by decide +kernel
theorem dX3_armOf_23 : decode cX3_armOf 23 = .ok (.astore_n 2, 1) := by decide +kernel
theorem dX3_armOf_24 : decode cX3_armOf 24 = .ok (.goto (-19), 3) := by decide +kernel
theorem dX3_armOf_27 : decode cX3_armOf 27 = .ok (.aconst_null, 1) := by decide +kernel
theorem dX3_armOf_28 : decode cX3_armOf 28 = .ok (.areturn, 1) := by decide +kernel
theorem dX3_addArm_0 : decode cX3_addArm 0 = .ok (.aload_n 0, 1) := by decide +kernel
theorem dX3_addArm_1 : decode cX3_addArm 1 = .ok (.new 90, 3) := by decide +kernel
theorem dX3_addArm_4 : decode cX3_addArm 4 = .ok (.dup, 1) := by decide +kernel
theorem dX3_addArm_5 : decode cX3_addArm 5 = .ok (.iload_n 1, 1) := by decide +kernel
theorem dX3_addArm_6 : decode cX3_addArm 6 = .ok (.iload_n 2, 1) := by decide +kernel
theorem dX3_addArm_7 : decode cX3_addArm 7 = .ok (.aload_n 0, 1) := by decide +kernel
theorem dX3_addArm_8 : decode cX3_addArm 8 = .ok (.getfield 85, 3) := by decide +kernel
theorem dX3_addArm_11 : decode cX3_addArm 11 = .ok (.invokespecial 97, 3) := by decide +kernel
theorem dX3_addArm_14 : decode cX3_addArm 14 = .ok (.putfield 85, 3) := by decide +kernel
theorem dX3_addArm_17 : decode cX3_addArm 17 = .ok (.aload_n 0, 1) := by decide +kernel
theorem dX3_addArm_18 : decode cX3_addArm 18 = .ok (.getfield 24, 3) := by decide +kernel
theorem dX3_addArm_21 : decode cX3_addArm 21 = .ok (.iload_n 2, 1) := by decide +kernel
theorem dX3_addArm_22 : decode cX3_addArm 22 = .ok (.invokevirtual 100, 3) := by decide +kernel
theorem dX3_addArm_25 : decode cX3_addArm 25 = .ok (.return_, 1) := by decide +kernel
theorem dX3_addWorth_0 : decode cX3_addWorth 0 = .ok (.aload_n 0, 1) := by decide +kernel
theorem dX3_addWorth_1 : decode cX3_addWorth 1 = .ok (.iload_n 1, 1) := by decide +kernel
theorem dX3_addWorth_2 : decode cX3_addWorth 2 = .ok (.invokevirtual 104, 3) := by decide +kernel
theorem dX3_addWorth_5 : decode cX3_addWorth 5 = .ok (.astore_n 3, 1) := by decide +kernel
theorem dX3_addWorth_6 : decode cX3_addWorth 6 = .ok (.aload_n 3, 1) := by decide +kernel
theorem dX3_addWorth_7 : decode cX3_addWorth 7 = .ok (.ifnonnull 5, 3) := by decide +kernel
theorem dX3_addWorth_10 : decode cX3_addWorth 10 = .ok (.iconst 0, 1) := by decide +kernel
theorem dX3_addWorth_11 : decode cX3_addWorth 11 = .ok (.ireturn, 1) := by decide +kernel
theorem dX3_addWorth_12 : decode cX3_addWorth 12 = .ok (.aload_n 0, 1) := by decide +kernel
theorem dX3_addWorth_13 : decode cX3_addWorth 13 = .ok (.getfield 24, 3) := by decide +kernel
theorem dX3_addWorth_16 : decode cX3_addWorth 16 = .ok (.aload_n 3, 1) := by decide +kernel
theorem dX3_addWorth_17 : decode cX3_addWorth 17 = .ok (.getfield 108, 3) := by decide +kernel
theorem dX3_addWorth_20 : decode cX3_addWorth 20 = .ok (.aload_n 3, 1) := by decide +kernel
theorem dX3_addWorth_21 : decode cX3_addWorth 21 = .ok (.getfield 111, 3) := by decide +kernel
theorem dX3_addWorth_24 : decode cX3_addWorth 24 = .ok (.i2l, 1) := by decide +kernel
theorem dX3_addWorth_25 : decode cX3_addWorth 25 = .ok (.iload_n 2, 1) := by decide +kernel
theorem dX3_addWorth_26 : decode cX3_addWorth 26 = .ok (.aload_n 3, 1) := by decide +kernel
theorem dX3_addWorth_27 : decode cX3_addWorth 27 = .ok (.getfield 114, 3) := by decide +kernel
theorem dX3_addWorth_30 : decode cX3_addWorth 30 = .ok (.ifCond .ne 7, 3) := by decide +kernel
theorem dX3_addWorth_33 : decode cX3_addWorth 33 = .ok (.iconst 1, 1) := by decide +kernel
theorem dX3_addWorth_34 : decode cX3_addWorth 34 = .ok (.goto 4, 3) := by decide +kernel
theorem dX3_addWorth_37 : decode cX3_addWorth 37 = .ok (.iconst 0, 1) := by decide +kernel
theorem dX3_addWorth_38 : decode cX3_addWorth 38 = .ok (.invokevirtual 117, 3) := by decide +kernel
theorem dX3_addWorth_41 : decode cX3_addWorth 41 = .ok (.aload_n 3, 1) := by decide +kernel
theorem dX3_addWorth_42 : decode cX3_addWorth 42 = .ok (.dup, 1) := by decide +kernel
theorem dX3_addWorth_43 : decode cX3_addWorth 43 = .ok (.getfield 111, 3) := by decide +kernel
theorem dX3_addWorth_46 : decode cX3_addWorth 46 = .ok (.iload_n 2, 1) := by decide +kernel
theorem dX3_addWorth_47 : decode cX3_addWorth 47 = .ok (.iadd, 1) := by decide +kernel
theorem dX3_addWorth_48 : decode cX3_addWorth 48 = .ok (.putfield 111, 3) := by decide +kernel
theorem dX3_addWorth_51 : decode cX3_addWorth 51 = .ok (.aload_n 3, 1) := by decide +kernel
theorem dX3_addWorth_52 : decode cX3_addWorth 52 = .ok (.iconst 1, 1) := by decide +kernel
theorem dX3_addWorth_53 : decode cX3_addWorth 53 = .ok (.putfield 114, 3) := by decide +kernel
theorem dX3_addWorth_56 : decode cX3_addWorth 56 = .ok (.iconst 1, 1) := by decide +kernel
theorem dX3_addWorth_57 : decode cX3_addWorth 57 = .ok (.ireturn, 1) := by decide +kernel
theorem dX3_badness_0 : decode cX3_badness 0 = .ok (.aload_n 0, 1) := by decide +kernel
theorem dX3_badness_1 : decode cX3_badness 1 = .ok (.getfield 24, 3) := by decide +kernel
theorem dX3_badness_4 : decode cX3_badness 4 = .ok (.getfield 121, 3) := by decide +kernel
theorem dX3_badness_7 : decode cX3_badness 7 = .ok (.i2l, 1) := by decide +kernel
theorem dX3_badness_8 : decode cX3_badness 8 = .ok (.lstore_n 1, 1) := by decide +kernel
theorem dX3_badness_9 : decode cX3_badness 9 = .ok (.lconst 0, 1) := by decide +kernel
theorem dX3_badness_10 : decode cX3_badness 10 = .ok (.lstore_n 3, 1) := by decide +kernel
theorem dX3_badness_11 : decode cX3_badness 11 = .ok (.iconst 0, 1) := by decide +kernel
theorem dX3_badness_12 : decode cX3_badness 12 = .ok (.istore 5, 2) := by decide +kernel
theorem dX3_badness_14 : decode cX3_badness 14 = .ok (.iload 5, 2) := by decide +kernel
theorem dX3_badness_16 : decode cX3_badness 16 = .ok (.aload_n 0, 1) := by decide +kernel
theorem dX3_badness_17 : decode cX3_badness 17 = .ok (.getfield 9, 3) := by decide +kernel
theorem dX3_badness_20 : decode cX3_badness 20 = .ok (.arraylength, 1) := by decide +kernel
theorem dX3_badness_21 : decode cX3_badness 21 = .ok (.if_icmp .ge 62, 3) := by decide +kernel
theorem dX3_badness_24 : decode cX3_badness 24 = .ok (.lload_n 1, 1) := by decide +kernel
theorem dX3_badness_25 : decode cX3_badness 25 = .ok (.aload_n 0, 1) := by decide +kernel
theorem dX3_badness_26 : decode cX3_badness 26 = .ok (.getfield 9, 3) := by decide +kernel
theorem dX3_badness_29 : decode cX3_badness 29 = .ok (.iload 5, 2) := by decide +kernel
theorem dX3_badness_31 : decode cX3_badness 31 = .ok (.iaload, 1) := by decide +kernel
theorem dX3_badness_32 : decode cX3_badness 32 = .ok (.i2l, 1) := by decide +kernel
theorem dX3_badness_33 : decode cX3_badness 33 = .ok (.lmul, 1) := by decide +kernel
theorem dX3_badness_34 : decode cX3_badness 34 = .ok (.lstore 6, 2) := by decide +kernel
theorem dX3_badness_36 : decode cX3_badness 36 = .ok (.lload 6, 2) := by decide +kernel
theorem dX3_badness_38 : decode cX3_badness 38 = .ok (.lconst 0, 1) := by decide +kernel
theorem dX3_badness_39 : decode cX3_badness 39 = .ok (.lcmp, 1) := by decide +kernel
theorem dX3_badness_40 : decode cX3_badness 40 = .ok (.ifCond .le 37, 3) := by decide +kernel
theorem dX3_badness_43 : decode cX3_badness 43 = .ok (.aload_n 0, 1) := by decide +kernel
theorem dX3_badness_44 : decode cX3_badness 44 = .ok (.getfield 24, 3) := by decide +kernel
theorem dX3_badness_47 : decode cX3_badness 47 = .ok (.iload 5, 2) := by decide +kernel
theorem dX3_badness_49 : decode cX3_badness 49 = .ok (.invokevirtual 124, 3) := by decide +kernel
theorem dX3_badness_52 : decode cX3_badness 52 = .ok (.i2l, 1) := by decide +kernel
theorem dX3_badness_53 : decode cX3_badness 53 = .ok (.ldc2_w 57, 3) := by decide +kernel
theorem dX3_badness_56 : decode cX3_badness 56 = .ok (.lmul, 1) := by decide +kernel
theorem dX3_badness_57 : decode cX3_badness 57 = .ok (.lload 6, 2) := by decide +kernel
theorem dX3_badness_59 : decode cX3_badness 59 = .ok (.lsub, 1) := by decide +kernel
theorem dX3_badness_60 : decode cX3_badness 60 = .ok (.lstore 8, 2) := by decide +kernel
theorem dX3_badness_62 : decode cX3_badness 62 = .ok (.lload_n 3, 1) := by decide +kernel
theorem dX3_badness_63 : decode cX3_badness 63 = .ok (.lload 8, 2) := by decide +kernel
theorem dX3_badness_65 : decode cX3_badness 65 = .ok (.lload 8, 2) := by decide +kernel
theorem dX3_badness_67 : decode cX3_badness 67 = .ok (.lmul, 1) := by decide +kernel
theorem dX3_badness_68 : decode cX3_badness 68 = .ok (.lload 6, 2) := by decide +kernel
theorem dX3_badness_70 : decode cX3_badness 70 = .ok (.ldc2_w 128, 3) := by decide +kernel
theorem dX3_badness_73 : decode cX3_badness 73 = .ok (.lmul, 1) := by decide +kernel
theorem dX3_badness_74 : decode cX3_badness 74 = .ok (.ldiv, 1) := by decide +kernel
theorem dX3_badness_75 : decode cX3_badness 75 = .ok (.ladd, 1) := by decide +kernel
theorem dX3_badness_76 : decode cX3_badness 76 = .ok (.lstore_n 3, 1) := by decide +kernel
theorem dX3_badness_77 : decode cX3_badness 77 = .ok (.iinc 5 1, 3) := by decide +kernel
theorem dX3_badness_80 : decode cX3_badness 80 = .ok (.goto (-66), 3) := by decide +kernel
theorem dX3_badness_83 : decode cX3_badness 83 = .ok (.lload_n 3, 1) := by decide +kernel
theorem dX3_badness_84 : decode cX3_badness 84 = .ok (.l2i, 1) := by decide +kernel
theorem dX3_badness_85 : decode cX3_badness 85 = .ok (.ireturn, 1) := by decide +kernel
theorem dX3_canBeTrusted_0 : decode cX3_canBeTrusted 0 = .ok (.iconst 0, 1) := by decide +kernel
theorem dX3_canBeTrusted_1 : decode cX3_canBeTrusted 1 = .ok (.istore_n 1, 1) := by decide +kernel
theorem dX3_canBeTrusted_2 : decode cX3_canBeTrusted 2 = .ok (.iconst 0, 1) := by decide +kernel
theorem dX3_canBeTrusted_3 : decode cX3_canBeTrusted 3 = .ok (.istore_n 2, 1) := by decide +kernel
theorem dX3_canBeTrusted_4 : decode cX3_canBeTrusted 4 = .ok (.iload_n 2, 1) := by decide +kernel
theorem dX3_canBeTrusted_5 : decode cX3_canBeTrusted 5 = .ok (.aload_n 0, 1) := by decide +kernel
theorem dX3_canBeTrusted_6 : decode cX3_canBeTrusted 6 = .ok (.getfield 9, 3) := by decide +kernel
theorem dX3_canBeTrusted_9 : decode cX3_canBeTrusted 9 = .ok (.arraylength, 1) := by decide +kernel
theorem dX3_canBeTrusted_10 : decode cX3_canBeTrusted 10 = .ok (.if_icmp .ge 37, 3) := by decide +kernel
theorem dX3_canBeTrusted_13 : decode cX3_canBeTrusted 13 = .ok (.aload_n 0, 1) := by decide +kernel
theorem dX3_canBeTrusted_14 : decode cX3_canBeTrusted 14 = .ok (.getfield 9, 3) := by decide +kernel
theorem dX3_canBeTrusted_17 : decode cX3_canBeTrusted 17 = .ok (.iload_n 2, 1) := by decide +kernel
theorem dX3_canBeTrusted_18 : decode cX3_canBeTrusted 18 = .ok (.iaload, 1) := by decide +kernel
theorem dX3_canBeTrusted_19 : decode cX3_canBeTrusted 19 = .ok (.ifCond .le 9, 3) := by decide +kernel
theorem dX3_canBeTrusted_22 : decode cX3_canBeTrusted 22 = .ok (.iinc 1 1, 3) := by decide +kernel
theorem dX3_canBeTrusted_25 : decode cX3_canBeTrusted 25 = .ok (.goto 16, 3) := by decide +kernel
theorem dX3_canBeTrusted_28 : decode cX3_canBeTrusted 28 = .ok (.aload_n 0, 1) := by decide +kernel
theorem dX3_canBeTrusted_29 : decode cX3_canBeTrusted 29 = .ok (.getfield 24, 3) := by decide +kernel
theorem dX3_canBeTrusted_32 : decode cX3_canBeTrusted 32 = .ok (.iload_n 2, 1) := by decide +kernel
theorem dX3_canBeTrusted_33 : decode cX3_canBeTrusted 33 = .ok (.invokevirtual 124, 3) := by decide +kernel
theorem dX3_canBeTrusted_36 : decode cX3_canBeTrusted 36 = .ok (.ifCond .le 5, 3) := by decide +kernel
theorem dX3_canBeTrusted_39 : decode cX3_canBeTrusted 39 = .ok (.iconst 0, 1) := by decide +kernel
theorem dX3_canBeTrusted_40 : decode cX3_canBeTrusted 40 = .ok (.ireturn, 1) := by decide +kernel
theorem dX3_canBeTrusted_41 : decode cX3_canBeTrusted 41 = .ok (.iinc 2 1, 3) := by decide +kernel
theorem dX3_canBeTrusted_44 : decode cX3_canBeTrusted 44 = .ok (.goto (-40), 3) := by decide +kernel
theorem dX3_canBeTrusted_47 : decode cX3_canBeTrusted 47 = .ok (.iload_n 1, 1) := by decide +kernel
theorem dX3_canBeTrusted_48 : decode cX3_canBeTrusted 48 = .ok (.iconst 2, 1) := by decide +kernel
theorem dX3_canBeTrusted_49 : decode cX3_canBeTrusted 49 = .ok (.if_icmp .lt 14, 3) := by decide +kernel
theorem dX3_canBeTrusted_52 : decode cX3_canBeTrusted 52 = .ok (.aload_n 0, 1) := by decide +kernel
theorem dX3_canBeTrusted_53 : decode cX3_canBeTrusted 53 = .ok (.invokevirtual 130, 3) := by decide +kernel
theorem dX3_canBeTrusted_56 : decode cX3_canBeTrusted 56 = .ok (.iload_n 1, 1) := by decide +kernel
theorem dX3_canBeTrusted_57 : decode cX3_canBeTrusted 57 = .ok (.invokestatic 134, 3) := by decide +kernel
theorem dX3_canBeTrusted_60 : decode cX3_canBeTrusted 60 = .ok (.if_icmp .gt 7, 3) := by decide +kernel
theorem dX3_canBeTrusted_63 : decode cX3_canBeTrusted 63 = .ok (.iconst 1, 1) := by decide +kernel
theorem dX3_canBeTrusted_64 : decode cX3_canBeTrusted 64 = .ok (.goto 4, 3) := by decide +kernel
theorem dX3_canBeTrusted_67 : decode cX3_canBeTrusted 67 = .ok (.iconst 0, 1) := by decide +kernel
theorem dX3_canBeTrusted_68 : decode cX3_canBeTrusted 68 = .ok (.ireturn, 1) := by decide +kernel
theorem dX3_mostBadness_0 : decode cX3_mostBadness 0 = .ok (.iload_n 0, 1) := by decide +kernel
theorem dX3_mostBadness_1 : decode cX3_mostBadness 1 = .ok (.iconst 2, 1) := by decide +kernel
theorem dX3_mostBadness_2 : decode cX3_mostBadness 2 = .ok (.if_icmp .ne 7, 3) := by decide +kernel
theorem dX3_mostBadness_5 : decode cX3_mostBadness 5 = .ok (.sipush 384, 3) := by decide +kernel
theorem dX3_mostBadness_8 : decode cX3_mostBadness 8 = .ok (.ireturn, 1) := by decide +kernel
theorem dX3_mostBadness_9 : decode cX3_mostBadness 9 = .ok (.iload_n 0, 1) := by decide +kernel
theorem dX3_mostBadness_10 : decode cX3_mostBadness 10 = .ok (.iconst 3, 1) := by decide +kernel
theorem dX3_mostBadness_11 : decode cX3_mostBadness 11 = .ok (.if_icmp .ne 9, 3) := by decide +kernel
theorem dX3_mostBadness_14 : decode cX3_mostBadness 14 = .ok (.sipush 599, 3) := by decide +kernel
theorem dX3_mostBadness_17 : decode cX3_mostBadness 17 = .ok (.goto 6, 3) := by decide +kernel
theorem dX3_mostBadness_20 : decode cX3_mostBadness 20 = .ok (.sipush 781, 3) := by decide +kernel
theorem dX3_mostBadness_23 : decode cX3_mostBadness 23 = .ok (.ireturn, 1) := by decide +kernel
theorem dX4_init_0 : decode cX4_init 0 = .ok (.aload_n 0, 1) := by decide +kernel
theorem dX4_init_1 : decode cX4_init 1 = .ok (.invokespecial 3, 3) := by decide +kernel
theorem dX4_init_4 : decode cX4_init 4 = .ok (.aload_n 0, 1) := by decide +kernel
theorem dX4_init_5 : decode cX4_init 5 = .ok (.iconst 4, 1) := by decide +kernel
theorem dX4_init_6 : decode cX4_init 6 = .ok (.newarray .int, 2) := by decide +kernel
theorem dX4_init_8 : decode cX4_init 8 = .ok (.putfield 9, 3) := by decide +kernel
theorem dX4_init_11 : decode cX4_init 11 = .ok (.aload_n 0, 1) := by decide +kernel
theorem dX4_init_12 : decode cX4_init 12 = .ok (.iconst 4, 1) := by decide +kernel
theorem dX4_init_13 : decode cX4_init 13 = .ok (.newarray .int, 2) := by decide +kernel
theorem dX4_init_15 : decode cX4_init 15 = .ok (.putfield 15, 3) := by decide +kernel
theorem dX4_init_18 : decode cX4_init 18 = .ok (.aload_n 0, 1) := by decide +kernel
theorem dX4_init_19 : decode cX4_init 19 = .ok (.iconst 4, 1) := by decide +kernel
theorem dX4_init_20 : decode cX4_init 20 = .ok (.newarray .int, 2) := by decide +kernel
theorem dX4_init_22 : decode cX4_init 22 = .ok (.putfield 18, 3) := by decide +kernel
theorem dX4_init_25 : decode cX4_init 25 = .ok (.aload_n 0, 1) := by decide +kernel
theorem dX4_init_26 : decode cX4_init 26 = .ok (.iconst 4, 1) := by decide +kernel
theorem dX4_init_27 : decode cX4_init 27 = .ok (.newarray .long, 2) := by decide +kernel
theorem dX4_init_29 : decode cX4_init 29 = .ok (.putfield 21, 3) := by decide +kernel
theorem dX4_init_32 : decode cX4_init 32 = .ok (.return_, 1) := by decide +kernel
theorem dX4_isKept_0 : decode cX4_isKept 0 = .ok (.iload_n 0, 1) := by decide +kernel
theorem dX4_isKept_1 : decode cX4_isKept 1 = .ok (.ifCond .lt 12, 3) := by decide +kernel
theorem dX4_isKept_4 : decode cX4_isKept 4 = .ok (.iload_n 0, 1) := by decide +kernel
theorem dX4_isKept_5 : decode cX4_isKept 5 = .ok (.iconst 4, 1) := by decide +kernel
theorem dX4_isKept_6 : decode cX4_isKept 6 = .ok (.if_icmp .ge 7, 3) := by decide +kernel
theorem dX4_isKept_9 : decode cX4_isKept 9 = .ok (.iconst 1, 1) := by decide +kernel
theorem dX4_isKept_10 : decode cX4_isKept 10 = .ok (.goto 4, 3) := by decide +kernel
theorem dX4_isKept_13 : decode cX4_isKept 13 = .ok (.iconst 0, 1) := by decide +kernel
theorem dX4_isKept_14 : decode cX4_isKept 14 = .ok (.ireturn, 1) := by decide +kernel
theorem dX4_countArm_0 : decode cX4_countArm 0 = .ok (.iload_n 1, 1) := by decide +kernel
theorem dX4_countArm_1 : decode cX4_countArm 1 = .ok (.invokestatic 25, 3) := by decide +kernel
theorem dX4_countArm_4 : decode cX4_countArm 4 = .ok (.ifCond .eq 23, 3) := by decide +kernel
theorem dX4_countArm_7 : decode cX4_countArm 7 = .ok (.aload_n 0, 1) := by decide +kernel
theorem dX4_countArm_8 : decode cX4_countArm 8 = .ok (.getfield 9, 3) := by decide +kernel
theorem dX4_countArm_11 : decode cX4_countArm 11 = .ok (.iload_n 1, 1) := by decide +kernel
theorem dX4_countArm_12 : decode cX4_countArm 12 = .ok (.dup2, 1) := by decide +kernel
theorem dX4_countArm_13 : decode cX4_countArm 13 = .ok (.iaload, 1) := by decide +kernel
theorem dX4_countArm_14 : decode cX4_countArm 14 = .ok (.iconst 1, 1) := by decide +kernel
theorem dX4_countArm_15 : decode cX4_countArm 15 = .ok (.iadd, 1) := by decide +kernel
theorem dX4_countArm_16 : decode cX4_countArm 16 = .ok (.iastore, 1) := by decide +kernel
theorem dX4_countArm_17 : decode cX4_countArm 17 = .ok (.aload_n 0, 1) := by decide +kernel
theorem dX4_countArm_18 : decode cX4_countArm 18 = .ok (.dup, 1) := by decide +kernel
theorem dX4_countArm_19 : decode cX4_countArm 19 = .ok (.getfield 29, 3) := by decide +kernel
theorem dX4_countArm_22 : decode cX4_countArm 22 = .ok (.iconst 1, 1) := by decide +kernel
theorem dX4_countArm_23 : decode cX4_countArm 23 = .ok (.iadd, 1) := by decide +kernel
theorem dX4_countArm_24 : decode cX4_countArm 24 = .ok (.putfield 29, 3) := by decide +kernel
theorem dX4_countArm_27 : decode cX4_countArm 27 = .ok (.return_, 1) := by decide +kernel
theorem dX4_countAct_0 : decode cX4_countAct 0 = .ok (.iload_n 1, 1) := by decide +kernel
theorem dX4_countAct_1 : decode cX4_countAct 1 = .ok (.invokestatic 25, 3) := by decide +kernel
theorem dX4_countAct_4 : decode cX4_countAct 4 = .ok (.ifCond .eq 58, 3) := by decide +kernel
theorem dX4_countAct_7 : decode cX4_countAct 7 = .ok (.lload_n 2, 1) := by decide +kernel
theorem dX4_countAct_8 : decode cX4_countAct 8 = .ok (.iload 4, 2) := by decide +kernel
theorem dX4_countAct_10 : decode cX4_countAct 10 = .ok (.i2l, 1) := by decide +kernel
theorem dX4_countAct_11 : decode cX4_countAct 11 = .ok (.ladd, 1) := by decide +kernel
theorem dX4_countAct_12 : decode cX4_countAct 12 = .ok (.lstore 6, 2) := by decide +kernel
theorem dX4_countAct_14 : decode cX4_countAct 14 = .ok (.aload_n 0, 1) := by decide +kernel
theorem dX4_countAct_15 : decode cX4_countAct 15 = .ok (.getfield 18, 3) := by decide +kernel
theorem dX4_countAct_18 : decode cX4_countAct 18 = .ok (.iload_n 1, 1) := by decide +kernel
theorem dX4_countAct_19 : decode cX4_countAct 19 = .ok (.dup2, 1) := by decide +kernel
theorem dX4_countAct_20 : decode cX4_countAct 20 = .ok (.iaload, 1) := by decide +kernel
theorem dX4_countAct_21 : decode cX4_countAct 21 = .ok (.iload 4, 2) := by decide +kernel
theorem dX4_countAct_23 : decode cX4_countAct 23 = .ok (.iadd, 1) := by decide +kernel
theorem dX4_countAct_24 : decode cX4_countAct 24 = .ok (.iastore, 1) := by decide +kernel
theorem dX4_countAct_25 : decode cX4_countAct 25 = .ok (.aload_n 0, 1) := by decide +kernel
theorem dX4_countAct_26 : decode cX4_countAct 26 = .ok (.getfield 21, 3) := by decide +kernel
theorem dX4_countAct_29 : decode cX4_countAct 29 = .ok (.iload_n 1, 1) := by decide +kernel
theorem dX4_countAct_30 : decode cX4_countAct 30 = .ok (.dup2, 1) := by decide +kernel
theorem dX4_countAct_31 : decode cX4_countAct 31 = .ok (.laload, 1) := by decide +kernel
theorem dX4_countAct_32 : decode cX4_countAct 32 = .ok (.lload 6, 2) := by decide +kernel
theorem dX4_countAct_34 : decode cX4_countAct 34 = .ok (.lload 6, 2) := by decide +kernel
theorem dX4_countAct_36 : decode cX4_countAct 36 = .ok (.lmul, 1) := by decide +kernel
theorem dX4_countAct_37 : decode cX4_countAct 37 = .ok (.lload_n 2, 1) := by decide +kernel
theorem dX4_countAct_38 : decode cX4_countAct 38 = .ok (.lload_n 2, 1) := by decide +kernel
theorem dX4_countAct_39 : decode cX4_countAct 39 = .ok (.lmul, 1) := by decide +kernel
theorem dX4_countAct_40 : decode cX4_countAct 40 = .ok (.lsub, 1) := by decide +kernel
theorem dX4_countAct_41 : decode cX4_countAct 41 = .ok (.ladd, 1) := by decide +kernel
theorem dX4_countAct_42 : decode cX4_countAct 42 = .ok (.lastore, 1) := by decide +kernel
theorem dX4_countAct_43 : decode cX4_countAct 43 = .ok (.aload_n 0, 1) := by decide +kernel
theorem dX4_countAct_44 : decode cX4_countAct 44 = .ok (.getfield 15, 3) := by decide +kernel
theorem dX4_countAct_47 : decode cX4_countAct 47 = .ok (.iload_n 1, 1) := by decide +kernel
theorem dX4_countAct_48 : decode cX4_countAct 48 = .ok (.dup2, 1) := by decide +kernel
theorem dX4_countAct_49 : decode cX4_countAct 49 = .ok (.iaload, 1) := by decide +kernel
theorem dX4_countAct_50 : decode cX4_countAct 50 = .ok (.iload 5, 2) := by decide +kernel
theorem dX4_countAct_52 : decode cX4_countAct 52 = .ok (.ifCond .eq 7, 3) := by decide +kernel
theorem dX4_countAct_55 : decode cX4_countAct 55 = .ok (.iconst 1, 1) := by decide +kernel
theorem dX4_countAct_56 : decode cX4_countAct 56 = .ok (.goto 4, 3) := by decide +kernel
theorem dX4_countAct_59 : decode cX4_countAct 59 = .ok (.iconst 0, 1) := by decide +kernel
theorem dX4_countAct_60 : decode cX4_countAct 60 = .ok (.iadd, 1) := by decide +kernel
theorem dX4_countAct_61 : decode cX4_countAct 61 = .ok (.iastore, 1) := by decide +kernel
theorem dX4_countAct_62 : decode cX4_countAct 62 = .ok (.return_, 1) := by decide +kernel
theorem dX4_countOf_0 : decode cX4_countOf 0 = .ok (.iload_n 1, 1) := by decide +kernel
theorem dX4_countOf_1 : decode cX4_countOf 1 = .ok (.invokestatic 25, 3) := by decide +kernel
theorem dX4_countOf_4 : decode cX4_countOf 4 = .ok (.ifCond .eq 12, 3) := by decide +kernel
theorem dX4_countOf_7 : decode cX4_countOf 7 = .ok (.aload_n 0, 1) := by decide +kernel
theorem dX4_countOf_8 : decode cX4_countOf 8 = .ok (.getfield 9, 3) := by decide +kernel
theorem dX4_countOf_11 : decode cX4_countOf 11 = .ok (.iload_n 1, 1) := by decide +kernel
theorem dX4_countOf_12 : decode cX4_countOf 12 = .ok (.iaload, 1) := by decide +kernel
theorem dX4_countOf_13 : decode cX4_countOf 13 = .ok (.goto 4, 3) := by decide +kernel
theorem dX4_countOf_16 : decode cX4_countOf 16 = .ok (.iconst 0, 1) := by decide +kernel
theorem dX4_countOf_17 : decode cX4_countOf 17 = .ok (.ireturn, 1) := by decide +kernel
theorem dX4_actedOf_0 : decode cX4_actedOf 0 = .ok (.iload_n 1, 1) := by decide +kernel
theorem dX4_actedOf_1 : decode cX4_actedOf 1 = .ok (.invokestatic 25, 3) := by decide +kernel
theorem dX4_actedOf_4 : decode cX4_actedOf 4 = .ok (.ifCond .eq 12, 3) := by decide +kernel
theorem dX4_actedOf_7 : decode cX4_actedOf 7 = .ok (.aload_n 0, 1) := by decide +kernel
theorem dX4_actedOf_8 : decode cX4_actedOf 8 = .ok (.getfield 15, 3) := by decide +kernel
theorem dX4_actedOf_11 : decode cX4_actedOf 11 = .ok (.iload_n 1, 1) := by decide +kernel
theorem dX4_actedOf_12 : decode cX4_actedOf 12 = .ok (.iaload, 1) := by decide +kernel
theorem dX4_actedOf_13 : decode cX4_actedOf 13 = .ok (.goto 4, 3) := by decide +kernel
theorem dX4_actedOf_16 : decode cX4_actedOf 16 = .ok (.iconst 0, 1) := by decide +kernel
theorem dX4_actedOf_17 : decode cX4_actedOf 17 = .ok (.ireturn, 1) := by decide +kernel
theorem dX4_sumOf_0 : decode cX4_sumOf 0 = .ok (.iload_n 1, 1) := by decide +kernel
theorem dX4_sumOf_1 : decode cX4_sumOf 1 = .ok (.invokestatic 25, 3) := by decide +kernel
theorem dX4_sumOf_4 : decode cX4_sumOf 4 = .ok (.ifCond .eq 12, 3) := by decide +kernel
theorem dX4_sumOf_7 : decode cX4_sumOf 7 = .ok (.aload_n 0, 1) := by decide +kernel
theorem dX4_sumOf_8 : decode cX4_sumOf 8 = .ok (.getfield 18, 3) := by decide +kernel
theorem dX4_sumOf_11 : decode cX4_sumOf 11 = .ok (.iload_n 1, 1) := by decide +kernel
theorem dX4_sumOf_12 : decode cX4_sumOf 12 = .ok (.iaload, 1) := by decide +kernel
theorem dX4_sumOf_13 : decode cX4_sumOf 13 = .ok (.goto 4, 3) := by decide +kernel
theorem dX4_sumOf_16 : decode cX4_sumOf 16 = .ok (.iconst 0, 1) := by decide +kernel
theorem dX4_sumOf_17 : decode cX4_sumOf 17 = .ok (.ireturn, 1) := by decide +kernel
theorem dX4_squaresOf_0 : decode cX4_squaresOf 0 = .ok (.iload_n 1, 1) := by decide +kernel
theorem dX4_squaresOf_1 : decode cX4_squaresOf 1 = .ok (.invokestatic 25, 3) := by decide +kernel
theorem dX4_squaresOf_4 : decode cX4_squaresOf 4 = .ok (.ifCond .eq 12, 3) := by decide +kernel
theorem dX4_squaresOf_7 : decode cX4_squaresOf 7 = .ok (.aload_n 0, 1) := by decide +kernel
theorem dX4_squaresOf_8 : decode cX4_squaresOf 8 = .ok (.getfield 21, 3) := by decide +kernel
theorem dX4_squaresOf_11 : decode cX4_squaresOf 11 = .ok (.iload_n 1, 1) := by decide +kernel
theorem dX4_squaresOf_12 : decode cX4_squaresOf 12 = .ok (.laload, 1) := by decide +kernel
theorem dX4_squaresOf_13 : decode cX4_squaresOf 13 = .ok (.goto 4, 3) := by decide +kernel
theorem dX4_squaresOf_16 : decode cX4_squaresOf 16 = .ok (.lconst 0, 1) := by decide +kernel
theorem dX4_squaresOf_17 : decode cX4_squaresOf 17 = .ok (.lreturn, 1) := by decide +kernel
theorem dX4_meanOf_0 : decode cX4_meanOf 0 = .ok (.aload_n 0, 1) := by decide +kernel
theorem dX4_meanOf_1 : decode cX4_meanOf 1 = .ok (.iload_n 1, 1) := by decide +kernel
theorem dX4_meanOf_2 : decode cX4_meanOf 2 = .ok (.invokevirtual 33, 3) := by decide +kernel
theorem dX4_meanOf_5 : decode cX4_meanOf 5 = .ok (.istore_n 2, 1) := by decide +kernel
theorem dX4_meanOf_6 : decode cX4_meanOf 6 = .ok (.iload_n 2, 1) := by decide +kernel
theorem dX4_meanOf_7 : decode cX4_meanOf 7 = .ok (.ifCond .ne 7, 3) := by decide +kernel
theorem dX4_meanOf_10 : decode cX4_meanOf 10 = .ok (.dconst 0, 1) := by decide +kernel
theorem dX4_meanOf_11 : decode cX4_meanOf 11 = .ok (.goto 12, 3) := by decide +kernel
theorem dX4_meanOf_14 : decode cX4_meanOf 14 = .ok (.aload_n 0, 1) := by decide +kernel
theorem dX4_meanOf_15 : decode cX4_meanOf 15 = .ok (.iload_n 1, 1) := by decide +kernel
theorem dX4_meanOf_16 : decode cX4_meanOf 16 = .ok (.invokevirtual 37, 3) := by decide +kernel
theorem dX4_meanOf_19 : decode cX4_meanOf 19 = .ok (.i2d, 1) := by decide +kernel
theorem dX4_meanOf_20 : decode cX4_meanOf 20 = .ok (.iload_n 2, 1) := by decide +kernel
theorem dX4_meanOf_21 : decode cX4_meanOf 21 = .ok (.i2d, 1) := by decide +kernel
theorem dX4_meanOf_22 : decode cX4_meanOf 22 = .ok (.ddiv, 1) := by decide +kernel
theorem dX4_meanOf_23 : decode cX4_meanOf 23 = .ok (.dreturn, 1) := by decide +kernel
theorem dX4_liftOf_0 : decode cX4_liftOf 0 = .ok (.aload_n 0, 1) := by decide +kernel
theorem dX4_liftOf_1 : decode cX4_liftOf 1 = .ok (.iload_n 1, 1) := by decide +kernel
theorem dX4_liftOf_2 : decode cX4_liftOf 2 = .ok (.invokevirtual 40, 3) := by decide +kernel
theorem dX4_liftOf_5 : decode cX4_liftOf 5 = .ok (.aload_n 0, 1) := by decide +kernel
theorem dX4_liftOf_6 : decode cX4_liftOf 6 = .ok (.iconst 0, 1) := by decide +kernel
theorem dX4_liftOf_7 : decode cX4_liftOf 7 = .ok (.invokevirtual 40, 3) := by decide +kernel
theorem dX4_liftOf_10 : decode cX4_liftOf 10 = .ok (.dsub, 1) := by decide +kernel
theorem dX4_liftOf_11 : decode cX4_liftOf 11 = .ok (.dreturn, 1) := by decide +kernel
theorem dX4_surenessOf_0 : decode cX4_surenessOf 0 = .ok (.aload_n 0, 1) := by decide +kernel
theorem dX4_surenessOf_1 : decode cX4_surenessOf 1 = .ok (.iload_n 1, 1) := by decide +kernel
theorem dX4_surenessOf_2 : decode cX4_surenessOf 2 = .ok (.invokevirtual 33, 3) := by decide +kernel
theorem dX4_surenessOf_5 : decode cX4_surenessOf 5 = .ok (.ifCond .eq 11, 3) := by decide +kernel
theorem dX4_surenessOf_8 : decode cX4_surenessOf 8 = .ok (.aload_n 0, 1) := by decide +kernel
theorem dX4_surenessOf_9 : decode cX4_surenessOf 9 = .ok (.iconst 0, 1) := by decide +kernel
theorem dX4_surenessOf_10 : decode cX4_surenessOf 10 = .ok (.invokevirtual 33, 3) := by decide +kernel
theorem dX4_surenessOf_13 : decode cX4_surenessOf 13 = .ok (.ifCond .ne 5, 3) := by decide +kernel
theorem dX4_surenessOf_16 : decode cX4_surenessOf 16 = .ok (.dconst 0, 1) := by decide +kernel
theorem dX4_surenessOf_17 : decode cX4_surenessOf 17 = .ok (.dreturn, 1) := by decide +kernel
theorem dX4_surenessOf_18 : decode cX4_surenessOf 18 = .ok (.aload_n 0, 1) := by decide +kernel
theorem dX4_surenessOf_19 : decode cX4_surenessOf 19 = .ok (.iload_n 1, 1) := by decide +kernel
theorem dX4_surenessOf_20 : decode cX4_surenessOf 20 = .ok (.invokevirtual 44, 3) := by decide +kernel
theorem dX4_surenessOf_23 : decode cX4_surenessOf 23 = .ok (.aload_n 0, 1) := by decide +kernel
theorem dX4_surenessOf_24 : decode cX4_surenessOf 24 = .ok (.iconst 0, 1) := by decide +kernel
theorem dX4_surenessOf_25 : decode cX4_surenessOf 25 = .ok (.invokevirtual 44, 3) := by decide +kernel
theorem dX4_surenessOf_28 : decode cX4_surenessOf 28 = .ok (.dadd, 1) := by decide +kernel
theorem dX4_surenessOf_29 : decode cX4_surenessOf 29 = .ok (.dstore_n 2, 1) := by decide +kernel
theorem dX4_surenessOf_30 : decode cX4_surenessOf 30 = .ok (.aload_n 0, 1) := by decide +kernel
theorem dX4_surenessOf_31 : decode cX4_surenessOf 31 = .ok (.iload_n 1, 1) := by decide +kernel
theorem dX4_surenessOf_32 : decode cX4_surenessOf 32 = .ok (.invokevirtual 47, 3) := by decide +kernel
theorem dX4_surenessOf_35 : decode cX4_surenessOf 35 = .ok (.dstore 4, 2) := by decide +kernel
theorem dX4_surenessOf_37 : decode cX4_surenessOf 37 = .ok (.dload_n 2, 1) := by decide +kernel
theorem dX4_surenessOf_38 : decode cX4_surenessOf 38 = .ok (.dconst 0, 1) := by decide +kernel
theorem dX4_surenessOf_39 : decode cX4_surenessOf 39 = .ok (.dcmp .l, 1) := by decide +kernel
theorem dX4_surenessOf_40 : decode cX4_surenessOf 40 = .ok (.ifCond .ne 7, 3) := by decide +kernel
theorem dX4_surenessOf_43 : decode cX4_surenessOf 43 = .ok (.dconst 0, 1) := by decide +kernel
theorem dX4_surenessOf_44 : decode cX4_surenessOf 44 = .ok (.goto 10, 3) := by decide +kernel
theorem dX4_surenessOf_47 : decode cX4_surenessOf 47 = .ok (.dload 4, 2) := by decide +kernel
theorem dX4_surenessOf_49 : decode cX4_surenessOf 49 = .ok (.dload 4, 2) := by decide +kernel
theorem dX4_surenessOf_51 : decode cX4_surenessOf 51 = .ok (.dmul, 1) := by decide +kernel
theorem dX4_surenessOf_52 : decode cX4_surenessOf 52 = .ok (.dload_n 2, 1) := by decide +kernel
theorem dX4_surenessOf_53 : decode cX4_surenessOf 53 = .ok (.ddiv, 1) := by decide +kernel
theorem dX4_surenessOf_54 : decode cX4_surenessOf 54 = .ok (.dreturn, 1) := by decide +kernel
theorem dX4_spreadByCount_0 : decode cX4_spreadByCount 0 = .ok (.aload_n 0, 1) := by decide +kernel
theorem dX4_spreadByCount_1 : decode cX4_spreadByCount 1 = .ok (.iload_n 1, 1) := by decide +kernel
theorem dX4_spreadByCount_2 : decode cX4_spreadByCount 2 = .ok (.invokevirtual 33, 3) := by decide +kernel
theorem dX4_spreadByCount_5 : decode cX4_spreadByCount 5 = .ok (.istore_n 2, 1) := by decide +kernel
theorem dX4_spreadByCount_6 : decode cX4_spreadByCount 6 = .ok (.iload_n 2, 1) := by decide +kernel
theorem dX4_spreadByCount_7 : decode cX4_spreadByCount 7 = .ok (.ifCond .ne 5, 3) := by decide +kernel
theorem dX4_spreadByCount_10 : decode cX4_spreadByCount 10 = .ok (.dconst 0, 1) := by decide +kernel
theorem dX4_spreadByCount_11 : decode cX4_spreadByCount 11 = .ok (.dreturn, 1) := by decide +kernel
theorem dX4_spreadByCount_12 : decode cX4_spreadByCount 12 = .ok (.aload_n 0, 1) := by decide +kernel
theorem dX4_spreadByCount_13 : decode cX4_spreadByCount 13 = .ok (.iload_n 1, 1) := by decide +kernel
theorem dX4_spreadByCount_14 : decode cX4_spreadByCount 14 = .ok (.invokevirtual 40, 3) := by decide +kernel
theorem dX4_spreadByCount_17 : decode cX4_spreadByCount 17 = .ok (.dstore_n 3, 1) := by decide +kernel
theorem dX4_spreadByCount_18 : decode cX4_spreadByCount 18 = .ok (.aload_n 0, 1) := by decide +kernel
theorem dX4_spreadByCount_19 : decode cX4_spreadByCount 19 = .ok (.iload_n 1, 1) := by decide +kernel
theorem dX4_spreadByCount_20 : decode cX4_spreadByCount 20 = .ok (.invokevirtual 50, 3) := by decide +kernel
theorem dX4_spreadByCount_23 : decode cX4_spreadByCount 23 = .ok (.l2d, 1) := by decide +kernel
theorem dX4_spreadByCount_24 : decode cX4_spreadByCount 24 = .ok (.iload_n 2, 1) := by decide +kernel
theorem dX4_spreadByCount_25 : decode cX4_spreadByCount 25 = .ok (.i2d, 1) := by decide +kernel
theorem dX4_spreadByCount_26 : decode cX4_spreadByCount 26 = .ok (.ddiv, 1) := by decide +kernel
theorem dX4_spreadByCount_27 : decode cX4_spreadByCount 27 = .ok (.dload_n 3, 1) := by decide +kernel
theorem dX4_spreadByCount_28 : decode cX4_spreadByCount 28 = .ok (.dload_n 3, 1) := by decide +kernel
theorem dX4_spreadByCount_29 : decode cX4_spreadByCount 29 = .ok (.dmul, 1) := by decide +kernel
theorem dX4_spreadByCount_30 : decode cX4_spreadByCount 30 = .ok (.dsub, 1) := by decide +kernel
theorem dX4_spreadByCount_31 : decode cX4_spreadByCount 31 = .ok (.dstore 5, 2) := by decide +kernel
theorem dX4_spreadByCount_33 : decode cX4_spreadByCount 33 = .ok (.dload 5, 2) := by decide +kernel
theorem dX4_spreadByCount_35 : decode cX4_spreadByCount 35 = .ok (.iload_n 2, 1) := by decide +kernel
theorem dX4_spreadByCount_36 : decode cX4_spreadByCount 36 = .ok (.i2d, 1) := by decide +kernel
theorem dX4_spreadByCount_37 : decode cX4_spreadByCount 37 = .ok (.ddiv, 1) := by decide +kernel
theorem dX4_spreadByCount_38 : decode cX4_spreadByCount 38 = .ok (.dreturn, 1) := by decide +kernel
theorem dX4_bestVariant_0 : decode cX4_bestVariant 0 = .ok (.iconst (-1), 1) := by decide +kernel
theorem dX4_bestVariant_1 : decode cX4_bestVariant 1 = .ok (.istore_n 1, 1) := by decide +kernel
theorem dX4_bestVariant_2 : decode cX4_bestVariant 2 = .ok (.iconst 0, 1) := by decide +kernel
theorem dX4_bestVariant_3 : decode cX4_bestVariant 3 = .ok (.istore_n 2, 1) := by decide +kernel
theorem dX4_bestVariant_4 : decode cX4_bestVariant 4 = .ok (.iload_n 2, 1) := by decide +kernel
theorem dX4_bestVariant_5 : decode cX4_bestVariant 5 = .ok (.iconst 4, 1) := by decide +kernel
theorem dX4_bestVariant_6 : decode cX4_bestVariant 6 = .ok (.if_icmp .ge 38, 3) := by decide +kernel
theorem dX4_bestVariant_9 : decode cX4_bestVariant 9 = .ok (.aload_n 0, 1) := by decide +kernel
theorem dX4_bestVariant_10 : decode cX4_bestVariant 10 = .ok (.iload_n 2, 1) := by decide +kernel
theorem dX4_bestVariant_11 : decode cX4_bestVariant 11 = .ok (.invokevirtual 33, 3) := by decide +kernel
theorem dX4_bestVariant_14 : decode cX4_bestVariant 14 = .ok (.ifCond .le 24, 3) := by decide +kernel
theorem dX4_bestVariant_17 : decode cX4_bestVariant 17 = .ok (.iload_n 1, 1) := by decide +kernel
theorem dX4_bestVariant_18 : decode cX4_bestVariant 18 = .ok (.iconst (-1), 1) := by decide +kernel
theorem dX4_bestVariant_19 : decode cX4_bestVariant 19 = .ok (.if_icmp .eq 17, 3) := by decide +kernel
theorem dX4_bestVariant_22 : decode cX4_bestVariant 22 = .ok (.aload_n 0, 1) := by decide +kernel
theorem dX4_bestVariant_23 : decode cX4_bestVariant 23 = .ok (.iload_n 2, 1) := by decide +kernel
theorem dX4_bestVariant_24 : decode cX4_bestVariant 24 = .ok (.invokevirtual 40, 3) := by decide +kernel
theorem dX4_bestVariant_27 : decode cX4_bestVariant 27 = .ok (.aload_n 0, 1) := by decide +kernel
theorem dX4_bestVariant_28 : decode cX4_bestVariant 28 = .ok (.iload_n 1, 1) := by decide +kernel
theorem dX4_bestVariant_29 : decode cX4_bestVariant 29 = .ok (.invokevirtual 40, 3) := by decide +kernel
theorem dX4_bestVariant_32 : decode cX4_bestVariant 32 = .ok (.dcmp .l, 1) := by decide +kernel
theorem dX4_bestVariant_33 : decode cX4_bestVariant 33 = .ok (.ifCond .le 5, 3) := by decide +kernel
theorem dX4_bestVariant_36 : decode cX4_bestVariant 36 = .ok (.iload_n 2, 1) := by decide +kernel
theorem dX4_bestVariant_37 : decode cX4_bestVariant 37 = .ok (.istore_n 1, 1) := by decide +kernel
theorem dX4_bestVariant_38 : decode cX4_bestVariant 38 = .ok (.iinc 2 1, 3) := by decide +kernel
theorem dX4_bestVariant_41 : decode cX4_bestVariant 41 = .ok (.goto (-37), 3) := by decide +kernel
theorem dX4_bestVariant_44 : decode cX4_bestVariant 44 = .ok (.iload_n 1, 1) := by decide +kernel
theorem dX4_bestVariant_45 : decode cX4_bestVariant 45 = .ok (.ireturn, 1) := by decide +kernel
theorem dX5_init_0 : decode cX5_init 0 = .ok (.aload_n 0, 1) := by decide +kernel
theorem dX5_init_1 : decode cX5_init 1 = .ok (.invokespecial 1, 3) := by decide +kernel
theorem dX5_init_4 : decode cX5_init 4 = .ok (.aload_n 0, 1) := by decide +kernel
theorem dX5_init_5 : decode cX5_init 5 = .ok (.bipush 8, 2) := by decide +kernel
theorem dX5_init_7 : decode cX5_init 7 = .ok (.anewarray 9, 3) := by decide +kernel
theorem dX5_init_10 : decode cX5_init 10 = .ok (.putfield 11, 3) := by decide +kernel
theorem dX5_init_13 : decode cX5_init 13 = .ok (.aload_n 0, 1) := by decide +kernel
theorem dX5_init_14 : decode cX5_init 14 = .ok (.new 15, 3) := by decide +kernel
theorem dX5_init_17 : decode cX5_init 17 = .ok (.dup, 1) := by decide +kernel
theorem dX5_init_18 : decode cX5_init 18 = .ok (.invokespecial 17, 3) := by decide +kernel
theorem dX5_init_21 : decode cX5_init 21 = .ok (.putfield 18, 3) := by decide +kernel
theorem dX5_init_24 : decode cX5_init 24 = .ok (.return_, 1) := by decide +kernel
theorem dX5_add_0 : decode cX5_add 0 = .ok (.iload_n 1, 1) := by decide +kernel
theorem dX5_add_1 : decode cX5_add 1 = .ok (.iconst 0, 1) := by decide +kernel
theorem dX5_add_2 : decode cX5_add 2 = .ok (.sipush 498, 3) := by decide +kernel
theorem dX5_add_5 : decode cX5_add 5 = .ok (.invokestatic 22, 3) := by decide +kernel
theorem dX5_add_8 : decode cX5_add 8 = .ok (.ifCond .ne 12, 3) := by decide +kernel
theorem dX5_add_11 : decode cX5_add 11 = .ok (.iload_n 2, 1) := by decide +kernel
theorem dX5_add_12 : decode cX5_add 12 = .ok (.iconst 2, 1) := by decide +kernel
theorem dX5_add_13 : decode cX5_add 13 = .ok (.iconst 4, 1) := by decide +kernel
theorem dX5_add_14 : decode cX5_add 14 = .ok (.invokestatic 22, 3) := by decide +kernel
theorem dX5_add_17 : decode cX5_add 17 = .ok (.ifCond .eq 13, 3) := by decide +kernel
theorem dX5_add_20 : decode cX5_add 20 = .ok (.new 26, 3) := by decide +kernel
theorem dX5_add_23 : decode cX5_add 23 = .ok (.dup, 1) := by decide +kernel
theorem dX5_add_24 : decode cX5_add 24 = .ok (.ldc 28, 2) := by decide +kernel
theorem dX5_add_26 : decode cX5_add 26 = .ok (.invokespecial 30, 3) := by decide +kernel
theorem dX5_add_29 : decode cX5_add 29 = .ok (.athrow, 1) := by decide +kernel
theorem dX5_add_30 : decode cX5_add 30 = .ok (.aload_n 0, 1) := by decide +kernel
theorem dX5_add_31 : decode cX5_add 31 = .ok (.getfield 33, 3) := by decide +kernel
theorem dX5_add_34 : decode cX5_add 34 = .ok (.istore 4, 2) := by decide +kernel
theorem dX5_add_36 : decode cX5_add 36 = .ok (.iload 4, 2) := by decide +kernel
theorem dX5_add_38 : decode cX5_add 38 = .ok (.ifCond .lt 13, 3) := by decide +kernel
theorem dX5_add_41 : decode cX5_add 41 = .ok (.iload 4, 2) := by decide +kernel
theorem dX5_add_43 : decode cX5_add 43 = .ok (.aload_n 0, 1) := by decide +kernel
theorem dX5_add_44 : decode cX5_add 44 = .ok (.getfield 11, 3) := by decide +kernel
theorem dX5_add_47 : decode cX5_add 47 = .ok (.arraylength, 1) := by decide +kernel
theorem dX5_add_48 : decode cX5_add 48 = .ok (.if_icmp .lt 13, 3) := by decide +kernel
theorem dX5_add_51 : decode cX5_add 51 = .ok (.new 37, 3) := by decide +kernel
theorem dX5_add_54 : decode cX5_add 54 = .ok (.dup, 1) := by decide +kernel
theorem dX5_add_55 : decode cX5_add 55 = .ok (.ldc 39, 2) := by decide +kernel
theorem dX5_add_57 : decode cX5_add 57 = .ok (.invokespecial 41, 3) := by decide +kernel
theorem dX5_add_60 : decode cX5_add 60 = .ok (.athrow, 1) := by decide +kernel
theorem dX5_add_61 : decode cX5_add 61 = .ok (.aload_n 0, 1) := by decide +kernel
theorem dX5_add_62 : decode cX5_add 62 = .ok (.getfield 11, 3) := by decide +kernel
theorem dX5_add_65 : decode cX5_add 65 = .ok (.iload 4, 2) := by decide +kernel
theorem dX5_add_67 : decode cX5_add 67 = .ok (.new 9, 3) := by decide +kernel
theorem dX5_add_70 : decode cX5_add 70 = .ok (.dup, 1) := by decide +kernel
theorem dX5_add_71 : decode cX5_add 71 = .ok (.iload 4, 2) := by decide +kernel
theorem dX5_add_73 : decode cX5_add 73 = .ok (.iload_n 1, 1) := by decide +kernel
theorem dX5_add_74 : decode cX5_add 74 = .ok (.iload_n 2, 1) := by decide +kernel
theorem dX5_add_75 : decode cX5_add 75 = .ok (.iload_n 3, 1) := by decide +kernel
theorem dX5_add_76 : decode cX5_add 76 = .ok (.invokespecial 42, 3) := by decide +kernel
theorem dX5_add_79 : decode cX5_add 79 = .ok (.aastore, 1) := by decide +kernel
theorem dX5_add_80 : decode cX5_add 80 = .ok (.aload_n 0, 1) := by decide +kernel
theorem dX5_add_81 : decode cX5_add 81 = .ok (.iload 4, 2) := by decide +kernel
theorem dX5_add_83 : decode cX5_add 83 = .ok (.iconst 1, 1) := by decide +kernel
theorem dX5_add_84 : decode cX5_add 84 = .ok (.iadd, 1) := by decide +kernel
theorem dX5_add_85 : decode cX5_add 85 = .ok (.putfield 33, 3) := by decide +kernel
theorem dX5_add_88 : decode cX5_add 88 = .ok (.iload 4, 2) := by decide +kernel
theorem dX5_add_90 : decode cX5_add 90 = .ok (.ireturn, 1) := by decide +kernel
theorem dX5_weigh_0 : decode cX5_weigh 0 = .ok (.aload_n 0, 1) := by decide +kernel
theorem dX5_weigh_1 : decode cX5_weigh 1 = .ok (.iload_n 1, 1) := by decide +kernel
theorem dX5_weigh_2 : decode cX5_weigh 2 = .ok (.invokevirtual 45, 3) := by decide +kernel
theorem dX5_weigh_5 : decode cX5_weigh 5 = .ok (.astore 4, 2) := by decide +kernel
theorem dX5_weigh_7 : decode cX5_weigh 7 = .ok (.aload 4, 2) := by decide +kernel
theorem dX5_weigh_9 : decode cX5_weigh 9 = .ok (.iload_n 2, 1) := by decide +kernel
theorem dX5_weigh_10 : decode cX5_weigh 10 = .ok (.invokestatic 49, 3) := by decide +kernel
theorem dX5_weigh_13 : decode cX5_weigh 13 = .ok (.aload 4, 2) := by decide +kernel
theorem dX5_weigh_15 : decode cX5_weigh 15 = .ok (.iconst 0, 1) := by decide +kernel
theorem dX5_weigh_16 : decode cX5_weigh 16 = .ok (.invokevirtual 53, 3) := by decide +kernel
theorem dX5_weigh_19 : decode cX5_weigh 19 = .ok (.aload 4, 2) := by decide +kernel
theorem dX5_weigh_21 : decode cX5_weigh 21 = .ok (.iload_n 2, 1) := by decide +kernel
theorem dX5_weigh_22 : decode cX5_weigh 22 = .ok (.invokevirtual 53, 3) := by decide +kernel
theorem dX5_weigh_25 : decode cX5_weigh 25 = .ok (.iadd, 1) := by decide +kernel
theorem dX5_weigh_26 : decode cX5_weigh 26 = .ok (.iload_n 3, 1) := by decide +kernel
theorem dX5_weigh_27 : decode cX5_weigh 27 = .ok (.isub, 1) := by decide +kernel
theorem dX5_weigh_28 : decode cX5_weigh 28 = .ok (.istore 5, 2) := by decide +kernel
theorem dX5_weigh_30 : decode cX5_weigh 30 = .ok (.iload_n 2, 1) := by decide +kernel
theorem dX5_weigh_31 : decode cX5_weigh 31 = .ok (.ifCond .eq 19, 3) := by decide +kernel
theorem dX5_weigh_34 : decode cX5_weigh 34 = .ok (.iload_n 3, 1) := by decide +kernel
theorem dX5_weigh_35 : decode cX5_weigh 35 = .ok (.iconst 0, 1) := by decide +kernel
theorem dX5_weigh_36 : decode cX5_weigh 36 = .ok (.sipush 1000, 3) := by decide +kernel
theorem dX5_weigh_39 : decode cX5_weigh 39 = .ok (.invokestatic 22, 3) := by decide +kernel
theorem dX5_weigh_42 : decode cX5_weigh 42 = .ok (.ifCond .ne 8, 3) := by decide +kernel
theorem dX5_weigh_45 : decode cX5_weigh 45 = .ok (.iload 5, 2) := by decide +kernel
theorem dX5_weigh_47 : decode cX5_weigh 47 = .ok (.ifCond .ge 13, 3) := by decide +kernel
theorem dX5_weigh_50 : decode cX5_weigh 50 = .ok (.new 26, 3) := by decide +kernel
theorem dX5_weigh_53 : decode cX5_weigh 53 = .ok (.dup, 1) := by decide +kernel
theorem dX5_weigh_54 : decode cX5_weigh 54 = .ok (.ldc 57, 2) := by decide +kernel
theorem dX5_weigh_56 : decode cX5_weigh 56 = .ok (.invokespecial 30, 3) := by decide +kernel
theorem dX5_weigh_59 : decode cX5_weigh 59 = .ok (.athrow, 1) := by decide +kernel
theorem dX5_weigh_60 : decode cX5_weigh 60 = .ok (.aload 4, 2) := by decide +kernel
theorem dX5_weigh_62 : decode cX5_weigh 62 = .ok (.iload_n 2, 1) := by decide +kernel
theorem dX5_weigh_63 : decode cX5_weigh 63 = .ok (.iload_n 3, 1) := by decide +kernel
theorem dX5_weigh_64 : decode cX5_weigh 64 = .ok (.invokevirtual 59, 3) := by decide +kernel
theorem dX5_weigh_67 : decode cX5_weigh 67 = .ok (.aload 4, 2) := by decide +kernel
theorem dX5_weigh_69 : decode cX5_weigh 69 = .ok (.iconst 0, 1) := by decide +kernel
theorem dX5_weigh_70 : decode cX5_weigh 70 = .ok (.iload 5, 2) := by decide +kernel
theorem dX5_weigh_72 : decode cX5_weigh 72 = .ok (.invokevirtual 59, 3) := by decide +kernel
theorem dX5_weigh_75 : decode cX5_weigh 75 = .ok (.iload 5, 2) := by decide +kernel
theorem dX5_weigh_77 : decode cX5_weigh 77 = .ok (.ireturn, 1) := by decide +kernel
theorem dX5_turn_0 : decode cX5_turn 0 = .ok (.aload_n 0, 1) := by decide +kernel
theorem dX5_turn_1 : decode cX5_turn 1 = .ok (.iload_n 1, 1) := by decide +kernel
theorem dX5_turn_2 : decode cX5_turn 2 = .ok (.invokevirtual 45, 3) := by decide +kernel
theorem dX5_turn_5 : decode cX5_turn 5 = .ok (.astore_n 3, 1) := by decide +kernel
theorem dX5_turn_6 : decode cX5_turn 6 = .ok (.aload_n 3, 1) := by decide +kernel
theorem dX5_turn_7 : decode cX5_turn 7 = .ok (.getfield 63, 3) := by decide +kernel
theorem dX5_turn_10 : decode cX5_turn 10 = .ok (.istore 4, 2) := by decide +kernel
theorem dX5_turn_12 : decode cX5_turn 12 = .ok (.aload_n 3, 1) := by decide +kernel
theorem dX5_turn_13 : decode cX5_turn 13 = .ok (.iload_n 2, 1) := by decide +kernel
theorem dX5_turn_14 : decode cX5_turn 14 = .ok (.putfield 63, 3) := by decide +kernel
theorem dX5_turn_17 : decode cX5_turn 17 = .ok (.iload 4, 2) := by decide +kernel
theorem dX5_turn_19 : decode cX5_turn 19 = .ok (.ireturn, 1) := by decide +kernel
theorem dX5_ramp_0 : decode cX5_ramp 0 = .ok (.aload_n 0, 1) := by decide +kernel
theorem dX5_ramp_1 : decode cX5_ramp 1 = .ok (.iload_n 1, 1) := by decide +kernel
theorem dX5_ramp_2 : decode cX5_ramp 2 = .ok (.invokevirtual 45, 3) := by decide +kernel
theorem dX5_ramp_5 : decode cX5_ramp 5 = .ok (.astore 4, 2) := by decide +kernel
theorem dX5_ramp_7 : decode cX5_ramp 7 = .ok (.iload_n 2, 1) := by decide +kernel
theorem dX5_ramp_8 : decode cX5_ramp 8 = .ok (.iconst 0, 1) := by decide +kernel
theorem dX5_ramp_9 : decode cX5_ramp 9 = .ok (.sipush 1000, 3) := by decide +kernel
theorem dX5_ramp_12 : decode cX5_ramp 12 = .ok (.invokestatic 22, 3) := by decide +kernel
theorem dX5_ramp_15 : decode cX5_ramp 15 = .ok (.ifCond .ne 14, 3) := by decide +kernel
theorem dX5_ramp_18 : decode cX5_ramp 18 = .ok (.iload_n 3, 1) := by decide +kernel
theorem dX5_ramp_19 : decode cX5_ramp 19 = .ok (.iconst 0, 1) := by decide +kernel
theorem dX5_ramp_20 : decode cX5_ramp 20 = .ok (.sipush 1000, 3) := by decide +kernel
theorem dX5_ramp_23 : decode cX5_ramp 23 = .ok (.invokestatic 22, 3) := by decide +kernel
theorem dX5_ramp_26 : decode cX5_ramp 26 = .ok (.ifCond .eq 13, 3) := by decide +kernel
theorem dX5_ramp_29 : decode cX5_ramp 29 = .ok (.new 26, 3) := by decide +kernel
theorem dX5_ramp_32 : decode cX5_ramp 32 = .ok (.dup, 1) := by decide +kernel
theorem dX5_ramp_33 : decode cX5_ramp 33 = .ok (.ldc 67, 2) := by decide +kernel
theorem dX5_ramp_35 : decode cX5_ramp 35 = .ok (.invokespecial 30, 3) := by decide +kernel
theorem dX5_ramp_38 : decode cX5_ramp 38 = .ok (.athrow, 1) := by decide +kernel
theorem dX5_ramp_39 : decode cX5_ramp 39 = .ok (.aload 4, 2) := by decide +kernel
theorem dX5_ramp_41 : decode cX5_ramp 41 = .ok (.aload_n 0, 1) := by decide +kernel
theorem dX5_ramp_42 : decode cX5_ramp 42 = .ok (.getfield 69, 3) := by decide +kernel
theorem dX5_ramp_45 : decode cX5_ramp 45 = .ok (.invokevirtual 72, 3) := by decide +kernel
theorem dX5_ramp_48 : decode cX5_ramp 48 = .ok (.istore 5, 2) := by decide +kernel
theorem dX5_ramp_50 : decode cX5_ramp 50 = .ok (.aload 4, 2) := by decide +kernel
theorem dX5_ramp_52 : decode cX5_ramp 52 = .ok (.iload_n 2, 1) := by decide +kernel
theorem dX5_ramp_53 : decode cX5_ramp 53 = .ok (.iload_n 3, 1) := by decide +kernel
theorem dX5_ramp_54 : decode cX5_ramp 54 = .ok (.aload_n 0, 1) := by decide +kernel
theorem dX5_ramp_55 : decode cX5_ramp 55 = .ok (.getfield 69, 3) := by decide +kernel
theorem dX5_ramp_58 : decode cX5_ramp 58 = .ok (.invokevirtual 75, 3) := by decide +kernel
theorem dX5_ramp_61 : decode cX5_ramp 61 = .ok (.iload 5, 2) := by decide +kernel
theorem dX5_ramp_63 : decode cX5_ramp 63 = .ok (.ireturn, 1) := by decide +kernel
theorem dX5_place_0 : decode cX5_place 0 = .ok (.aload_n 0, 1) := by decide +kernel
theorem dX5_place_1 : decode cX5_place 1 = .ok (.iload_n 1, 1) := by decide +kernel
theorem dX5_place_2 : decode cX5_place 2 = .ok (.invokevirtual 45, 3) := by decide +kernel
theorem dX5_place_5 : decode cX5_place 5 = .ok (.astore 5, 2) := by decide +kernel
theorem dX5_place_7 : decode cX5_place 7 = .ok (.iload_n 2, 1) := by decide +kernel
theorem dX5_place_8 : decode cX5_place 8 = .ok (.iconst (-1), 1) := by decide +kernel
theorem dX5_place_9 : decode cX5_place 9 = .ok (.if_icmp .eq 32, 3) := by decide +kernel
theorem dX5_place_12 : decode cX5_place 12 = .ok (.iload_n 2, 1) := by decide +kernel
theorem dX5_place_13 : decode cX5_place 13 = .ok (.iload_n 3, 1) := by decide +kernel
theorem dX5_place_14 : decode cX5_place 14 = .ok (.iload 4, 2) := by decide +kernel
theorem dX5_place_16 : decode cX5_place 16 = .ok (.invokestatic 79, 3) := by decide +kernel
theorem dX5_place_19 : decode cX5_place 19 = .ok (.aload_n 0, 1) := by decide +kernel
theorem dX5_place_20 : decode cX5_place 20 = .ok (.iload_n 1, 1) := by decide +kernel
theorem dX5_place_21 : decode cX5_place 21 = .ok (.iload_n 2, 1) := by decide +kernel
theorem dX5_place_22 : decode cX5_place 22 = .ok (.iload_n 3, 1) := by decide +kernel
theorem dX5_place_23 : decode cX5_place 23 = .ok (.iload 4, 2) := by decide +kernel
theorem dX5_place_25 : decode cX5_place 25 = .ok (.invokevirtual 82, 3) := by decide +kernel
theorem dX5_place_28 : decode cX5_place 28 = .ok (.ifCond .eq 13, 3) := by decide +kernel
theorem dX5_place_31 : decode cX5_place 31 = .ok (.new 37, 3) := by decide +kernel
theorem dX5_place_34 : decode cX5_place 34 = .ok (.dup, 1) := by decide +kernel
theorem dX5_place_35 : decode cX5_place 35 = .ok (.ldc 86, 2) := by decide +kernel
theorem dX5_place_37 : decode cX5_place 37 = .ok (.invokespecial 41, 3) := by decide +kernel
theorem dX5_place_40 : decode cX5_place 40 = .ok (.athrow, 1) := by decide +kernel
theorem dX5_place_41 : decode cX5_place 41 = .ok (.aload 5, 2) := by decide +kernel
theorem dX5_place_43 : decode cX5_place 43 = .ok (.getfield 88, 3) := by decide +kernel
theorem dX5_place_46 : decode cX5_place 46 = .ok (.istore 6, 2) := by decide +kernel
theorem dX5_place_48 : decode cX5_place 48 = .ok (.aload 5, 2) := by decide +kernel
theorem dX5_place_50 : decode cX5_place 50 = .ok (.iload_n 2, 1) := by decide +kernel
theorem dX5_place_51 : decode cX5_place 51 = .ok (.putfield 88, 3) := by decide +kernel
theorem dX5_place_54 : decode cX5_place 54 = .ok (.aload 5, 2) := by decide +kernel
theorem dX5_place_56 : decode cX5_place 56 = .ok (.iload_n 2, 1) := by decide +kernel
theorem dX5_place_57 : decode cX5_place 57 = .ok (.iconst (-1), 1) := by decide +kernel
theorem dX5_place_58 : decode cX5_place 58 = .ok (.if_icmp .ne 7, 3) := by decide +kernel
theorem dX5_place_61 : decode cX5_place 61 = .ok (.iconst 0, 1) := by decide +kernel
theorem dX5_place_62 : decode cX5_place 62 = .ok (.goto 4, 3) := by decide +kernel
theorem dX5_place_65 : decode cX5_place 65 = .ok (.iload_n 3, 1) := by decide +kernel
theorem dX5_place_66 : decode cX5_place 66 = .ok (.putfield 91, 3) := by decide +kernel
theorem dX5_place_69 : decode cX5_place 69 = .ok (.aload 5, 2) := by decide +kernel
theorem dX5_place_71 : decode cX5_place 71 = .ok (.iload_n 2, 1) := by decide +kernel
theorem dX5_place_72 : decode cX5_place 72 = .ok (.iconst (-1), 1) := by decide +kernel
theorem dX5_place_73 : decode cX5_place 73 = .ok (.if_icmp .ne 7, 3) := by decide +kernel
theorem dX5_place_76 : decode cX5_place 76 = .ok (.iconst 0, 1) := by decide +kernel
theorem dX5_place_77 : decode cX5_place 77 = .ok (.goto 5, 3) := by decide +kernel
theorem dX5_place_80 : decode cX5_place 80 = .ok (.iload 4, 2) := by decide +kernel
theorem dX5_place_82 : decode cX5_place 82 = .ok (.putfield 94, 3) := by decide +kernel
theorem dX5_place_85 : decode cX5_place 85 = .ok (.iload 6, 2) := by decide +kernel
theorem dX5_place_87 : decode cX5_place 87 = .ok (.ireturn, 1) := by decide +kernel
theorem dX5_need_0 : decode cX5_need 0 = .ok (.aload_n 0, 1) := by decide +kernel
theorem dX5_need_1 : decode cX5_need 1 = .ok (.iload_n 1, 1) := by decide +kernel
theorem dX5_need_2 : decode cX5_need 2 = .ok (.invokevirtual 45, 3) := by decide +kernel
theorem dX5_need_5 : decode cX5_need 5 = .ok (.astore 4, 2) := by decide +kernel
theorem dX5_need_7 : decode cX5_need 7 = .ok (.iload_n 2, 1) := by decide +kernel
theorem dX5_need_8 : decode cX5_need 8 = .ok (.iconst (-1), 1) := by decide +kernel
theorem dX5_need_9 : decode cX5_need 9 = .ok (.if_icmp .eq 27, 3) := by decide +kernel
theorem dX5_need_12 : decode cX5_need 12 = .ok (.aload_n 0, 1) := by decide +kernel
theorem dX5_need_13 : decode cX5_need 13 = .ok (.iload_n 2, 1) := by decide +kernel
theorem dX5_need_14 : decode cX5_need 14 = .ok (.invokevirtual 45, 3) := by decide +kernel
theorem dX5_need_17 : decode cX5_need 17 = .ok (.iload_n 3, 1) := by decide +kernel
theorem dX5_need_18 : decode cX5_need 18 = .ok (.invokestatic 49, 3) := by decide +kernel
theorem dX5_need_21 : decode cX5_need 21 = .ok (.iload_n 2, 1) := by decide +kernel
theorem dX5_need_22 : decode cX5_need 22 = .ok (.iload_n 1, 1) := by decide +kernel
theorem dX5_need_23 : decode cX5_need 23 = .ok (.if_icmp .lt 13, 3) := by decide +kernel
theorem dX5_need_26 : decode cX5_need 26 = .ok (.new 26, 3) := by decide +kernel
theorem dX5_need_29 : decode cX5_need 29 = .ok (.dup, 1) := by decide +kernel
theorem dX5_need_30 : decode cX5_need 30 = .ok (.ldc 97, 2) := by decide +kernel
theorem dX5_need_32 : decode cX5_need 32 = .ok (.invokespecial 30, 3) := by decide +kernel
theorem dX5_need_35 : decode cX5_need 35 = .ok (.athrow, 1) := by decide +kernel
theorem dX5_need_36 : decode cX5_need 36 = .ok (.aload 4, 2) := by decide +kernel
theorem dX5_need_38 : decode cX5_need 38 = .ok (.getfield 99, 3) := by decide +kernel
theorem dX5_need_41 : decode cX5_need 41 = .ok (.istore 5, 2) := by decide +kernel
theorem dX5_need_43 : decode cX5_need 43 = .ok (.aload 4, 2) := by decide +kernel
theorem dX5_need_45 : decode cX5_need 45 = .ok (.iload_n 2, 1) := by decide +kernel
theorem dX5_need_46 : decode cX5_need 46 = .ok (.putfield 99, 3) := by decide +kernel
theorem dX5_need_49 : decode cX5_need 49 = .ok (.aload 4, 2) := by decide +kernel
theorem dX5_need_51 : decode cX5_need 51 = .ok (.iload_n 3, 1) := by decide +kernel
theorem dX5_need_52 : decode cX5_need 52 = .ok (.putfield 102, 3) := by decide +kernel
theorem dX5_need_55 : decode cX5_need 55 = .ok (.iload 5, 2) := by decide +kernel
theorem dX5_need_57 : decode cX5_need 57 = .ok (.ireturn, 1) := by decide +kernel
theorem dX5_rule_0 : decode cX5_rule 0 = .ok (.aload_n 0, 1) := by decide +kernel
theorem dX5_rule_1 : decode cX5_rule 1 = .ok (.iload_n 1, 1) := by decide +kernel
theorem dX5_rule_2 : decode cX5_rule 2 = .ok (.invokevirtual 45, 3) := by decide +kernel
theorem dX5_rule_5 : decode cX5_rule 5 = .ok (.astore 6, 2) := by decide +kernel
theorem dX5_rule_7 : decode cX5_rule 7 = .ok (.iload 5, 2) := by decide +kernel
theorem dX5_rule_9 : decode cX5_rule 9 = .ok (.iconst (-1), 1) := by decide +kernel
theorem dX5_rule_10 : decode cX5_rule 10 = .ok (.if_icmp .eq 10, 3) := by decide +kernel
theorem dX5_rule_13 : decode cX5_rule 13 = .ok (.aload 6, 2) := by decide +kernel
theorem dX5_rule_15 : decode cX5_rule 15 = .ok (.iload 5, 2) := by decide +kernel
theorem dX5_rule_17 : decode cX5_rule 17 = .ok (.invokestatic 49, 3) := by decide +kernel
theorem dX5_rule_20 : decode cX5_rule 20 = .ok (.iload_n 2, 1) := by decide +kernel
theorem dX5_rule_21 : decode cX5_rule 21 = .ok (.iconst 0, 1) := by decide +kernel
theorem dX5_rule_22 : decode cX5_rule 22 = .ok (.iconst 1, 1) := by decide +kernel
theorem dX5_rule_23 : decode cX5_rule 23 = .ok (.invokestatic 22, 3) := by decide +kernel
theorem dX5_rule_26 : decode cX5_rule 26 = .ok (.ifCond .ne 23, 3) := by decide +kernel
theorem dX5_rule_29 : decode cX5_rule 29 = .ok (.iload_n 3, 1) := by decide +kernel
theorem dX5_rule_30 : decode cX5_rule 30 = .ok (.iconst 1, 1) := by decide +kernel
theorem dX5_rule_31 : decode cX5_rule 31 = .ok (.iconst 3, 1) := by decide +kernel
theorem dX5_rule_32 : decode cX5_rule 32 = .ok (.invokestatic 22, 3) := by decide +kernel
theorem dX5_rule_35 : decode cX5_rule 35 = .ok (.ifCond .ne 14, 3) := by decide +kernel
theorem dX5_rule_38 : decode cX5_rule 38 = .ok (.iload 4, 2) := by decide +kernel
theorem dX5_rule_40 : decode cX5_rule 40 = .ok (.iconst 0, 1) := by decide +kernel
theorem dX5_rule_41 : decode cX5_rule 41 = .ok (.bipush 9, 2) := by decide +kernel
theorem dX5_rule_43 : decode cX5_rule 43 = .ok (.invokestatic 22, 3) := by decide +kernel
theorem dX5_rule_46 : decode cX5_rule 46 = .ok (.ifCond .eq 13, 3) := by decide +kernel
theorem dX5_rule_49 : decode cX5_rule 49 = .ok (.new 26, 3) := by decide +kernel
theorem dX5_rule_52 : decode cX5_rule 52 = .ok (.dup, 1) := by decide +kernel
theorem dX5_rule_53 : decode cX5_rule 53 = .ok (.ldc 105, 2) := by decide +kernel
theorem dX5_rule_55 : decode cX5_rule 55 = .ok (.invokespecial 30, 3) := by decide +kernel
theorem dX5_rule_58 : decode cX5_rule 58 = .ok (.athrow, 1) := by decide +kernel
theorem dX5_rule_59 : decode cX5_rule 59 = .ok (.aload 6, 2) := by decide +kernel
theorem dX5_rule_61 : decode cX5_rule 61 = .ok (.getfield 107, 3) := by decide +kernel
theorem dX5_rule_64 : decode cX5_rule 64 = .ok (.iconst 5, 1) := by decide +kernel
theorem dX5_rule_65 : decode cX5_rule 65 = .ok (.if_icmp .lt 13, 3) := by decide +kernel
theorem dX5_rule_68 : decode cX5_rule 68 = .ok (.new 37, 3) := by decide +kernel
theorem dX5_rule_71 : decode cX5_rule 71 = .ok (.dup, 1) := by decide +kernel
theorem dX5_rule_72 : decode cX5_rule 72 = .ok (.ldc 110, 2) := by decide +kernel
theorem dX5_rule_74 : decode cX5_rule 74 = .ok (.invokespecial 41, 3) := by decide +kernel
theorem dX5_rule_77 : decode cX5_rule 77 = .ok (.athrow, 1) := by decide +kernel
theorem dX5_rule_78 : decode cX5_rule 78 = .ok (.aload 6, 2) := by decide +kernel
theorem dX5_rule_80 : decode cX5_rule 80 = .ok (.new 112, 3) := by decide +kernel
theorem dX5_rule_83 : decode cX5_rule 83 = .ok (.dup, 1) := by decide +kernel
theorem dX5_rule_84 : decode cX5_rule 84 = .ok (.iload_n 2, 1) := by decide +kernel
theorem dX5_rule_85 : decode cX5_rule 85 = .ok (.iload_n 3, 1) := by decide +kernel
theorem dX5_rule_86 : decode cX5_rule 86 = .ok (.iload 4, 2) := by decide +kernel
theorem dX5_rule_88 : decode cX5_rule 88 = .ok (.iload 5, 2) := by decide +kernel
theorem dX5_rule_90 : decode cX5_rule 90 = .ok (.invokespecial 114, 3) := by decide +kernel
theorem dX5_rule_93 : decode cX5_rule 93 = .ok (.invokevirtual 117, 3) := by decide +kernel
theorem dX5_rule_96 : decode cX5_rule 96 = .ok (.aload 6, 2) := by decide +kernel
theorem dX5_rule_98 : decode cX5_rule 98 = .ok (.getfield 107, 3) := by decide +kernel
theorem dX5_rule_101 : decode cX5_rule 101 = .ok (.ireturn, 1) := by decide +kernel
theorem dX5_unrule_0 : decode cX5_unrule 0 = .ok (.aload_n 0, 1) := by decide +kernel
theorem dX5_unrule_1 : decode cX5_unrule 1 = .ok (.iload_n 1, 1) := by decide +kernel
theorem dX5_unrule_2 : decode cX5_unrule 2 = .ok (.invokevirtual 45, 3) := by decide +kernel
theorem dX5_unrule_5 : decode cX5_unrule 5 = .ok (.astore_n 3, 1) := by decide +kernel
theorem dX5_unrule_6 : decode cX5_unrule 6 = .ok (.iload_n 2, 1) := by decide +kernel
theorem dX5_unrule_7 : decode cX5_unrule 7 = .ok (.iconst 0, 1) := by decide +kernel
theorem dX5_unrule_8 : decode cX5_unrule 8 = .ok (.aload_n 3, 1) := by decide +kernel
theorem dX5_unrule_9 : decode cX5_unrule 9 = .ok (.getfield 107, 3) := by decide +kernel
theorem dX5_unrule_12 : decode cX5_unrule 12 = .ok (.iconst 1, 1) := by decide +kernel
theorem dX5_unrule_13 : decode cX5_unrule 13 = .ok (.isub, 1) := by decide +kernel
theorem dX5_unrule_14 : decode cX5_unrule 14 = .ok (.invokestatic 22, 3) := by decide +kernel
theorem dX5_unrule_17 : decode cX5_unrule 17 = .ok (.ifCond .eq 13, 3) := by decide +kernel
theorem dX5_unrule_20 : decode cX5_unrule 20 = .ok (.new 121, 3) := by decide +kernel
theorem dX5_unrule_23 : decode cX5_unrule 23 = .ok (.dup, 1) := by decide +kernel
theorem dX5_unrule_24 : decode cX5_unrule 24 = .ok (.ldc 123, 2) := by decide +kernel
theorem dX5_unrule_26 : decode cX5_unrule 26 = .ok (.invokespecial 125, 3) := by decide +kernel
theorem dX5_unrule_29 : decode cX5_unrule 29 = .ok (.athrow, 1) := by decide +kernel
theorem dX5_unrule_30 : decode cX5_unrule 30 = .ok (.aload_n 3, 1) := by decide +kernel
theorem dX5_unrule_31 : decode cX5_unrule 31 = .ok (.iload_n 2, 1) := by decide +kernel
theorem dX5_unrule_32 : decode cX5_unrule 32 = .ok (.invokevirtual 126, 3) := by decide +kernel
theorem dX5_unrule_35 : decode cX5_unrule 35 = .ok (.aload_n 3, 1) := by decide +kernel
theorem dX5_unrule_36 : decode cX5_unrule 36 = .ok (.getfield 107, 3) := by decide +kernel
theorem dX5_unrule_39 : decode cX5_unrule 39 = .ok (.ireturn, 1) := by decide +kernel
theorem dX5_hold_0 : decode cX5_hold 0 = .ok (.iload_n 1, 1) := by decide +kernel
theorem dX5_hold_1 : decode cX5_hold 1 = .ok (.iconst 0, 1) := by decide +kernel
theorem dX5_hold_2 : decode cX5_hold 2 = .ok (.sipush 1000, 3) := by decide +kernel
theorem dX5_hold_5 : decode cX5_hold 5 = .ok (.invokestatic 22, 3) := by decide +kernel
theorem dX5_hold_8 : decode cX5_hold 8 = .ok (.ifCond .eq 13, 3) := by decide +kernel
theorem dX5_hold_11 : decode cX5_hold 11 = .ok (.new 26, 3) := by decide +kernel
theorem dX5_hold_14 : decode cX5_hold 14 = .ok (.dup, 1) := by decide +kernel
theorem dX5_hold_15 : decode cX5_hold 15 = .ok (.ldc 130, 2) := by decide +kernel
theorem dX5_hold_17 : decode cX5_hold 17 = .ok (.invokespecial 30, 3) := by decide +kernel
theorem dX5_hold_20 : decode cX5_hold 20 = .ok (.athrow, 1) := by decide +kernel
theorem dX5_hold_21 : decode cX5_hold 21 = .ok (.aload_n 0, 1) := by decide +kernel
theorem dX5_hold_22 : decode cX5_hold 22 = .ok (.getfield 132, 3) := by decide +kernel
theorem dX5_hold_25 : decode cX5_hold 25 = .ok (.istore_n 2, 1) := by decide +kernel
theorem dX5_hold_26 : decode cX5_hold 26 = .ok (.aload_n 0, 1) := by decide +kernel
theorem dX5_hold_27 : decode cX5_hold 27 = .ok (.iload_n 1, 1) := by decide +kernel
theorem dX5_hold_28 : decode cX5_hold 28 = .ok (.putfield 132, 3) := by decide +kernel
theorem dX5_hold_31 : decode cX5_hold 31 = .ok (.iload_n 2, 1) := by decide +kernel
theorem dX5_hold_32 : decode cX5_hold 32 = .ok (.ireturn, 1) := by decide +kernel
theorem dX5_goOn_0 : decode cX5_goOn 0 = .ok (.iload_n 1, 1) := by decide +kernel
theorem dX5_goOn_1 : decode cX5_goOn 1 = .ok (.iconst 1, 1) := by decide +kernel
theorem dX5_goOn_2 : decode cX5_goOn 2 = .ok (.bipush 100, 2) := by decide +kernel
theorem dX5_goOn_4 : decode cX5_goOn 4 = .ok (.invokestatic 22, 3) := by decide +kernel
theorem dX5_goOn_7 : decode cX5_goOn 7 = .ok (.ifCond .eq 13, 3) := by decide +kernel
theorem dX5_goOn_10 : decode cX5_goOn 10 = .ok (.new 26, 3) := by decide +kernel
theorem dX5_goOn_13 : decode cX5_goOn 13 = .ok (.dup, 1) := by decide +kernel
theorem dX5_goOn_14 : decode cX5_goOn 14 = .ok (.ldc 135, 2) := by decide +kernel
theorem dX5_goOn_16 : decode cX5_goOn 16 = .ok (.invokespecial 30, 3) := by decide +kernel
theorem dX5_goOn_19 : decode cX5_goOn 19 = .ok (.athrow, 1) := by decide +kernel
theorem dX5_goOn_20 : decode cX5_goOn 20 = .ok (.aload_n 0, 1) := by decide +kernel
theorem dX5_goOn_21 : decode cX5_goOn 21 = .ok (.dup, 1) := by decide +kernel
theorem dX5_goOn_22 : decode cX5_goOn 22 = .ok (.getfield 69, 3) := by decide +kernel
theorem dX5_goOn_25 : decode cX5_goOn 25 = .ok (.iload_n 1, 1) := by decide +kernel
theorem dX5_goOn_26 : decode cX5_goOn 26 = .ok (.iadd, 1) := by decide +kernel
theorem dX5_goOn_27 : decode cX5_goOn 27 = .ok (.putfield 69, 3) := by decide +kernel
theorem dX5_goOn_30 : decode cX5_goOn 30 = .ok (.aload_n 0, 1) := by decide +kernel
theorem dX5_goOn_31 : decode cX5_goOn 31 = .ok (.getfield 69, 3) := by decide +kernel
theorem dX5_goOn_34 : decode cX5_goOn 34 = .ok (.ireturn, 1) := by decide +kernel
theorem dX5_switches_0 : decode cX5_switches 0 = .ok (.aload_n 0, 1) := by decide +kernel
theorem dX5_switches_1 : decode cX5_switches 1 = .ok (.getfield 33, 3) := by decide +kernel
theorem dX5_switches_4 : decode cX5_switches 4 = .ok (.ireturn, 1) := by decide +kernel
theorem dX5_weight_0 : decode cX5_weight 0 = .ok (.aload_n 0, 1) := by decide +kernel
theorem dX5_weight_1 : decode cX5_weight 1 = .ok (.iload_n 1, 1) := by decide +kernel
theorem dX5_weight_2 : decode cX5_weight 2 = .ok (.invokevirtual 45, 3) := by decide +kernel
theorem dX5_weight_5 : decode cX5_weight 5 = .ok (.astore_n 3, 1) := by decide +kernel
theorem dX5_weight_6 : decode cX5_weight 6 = .ok (.aload_n 3, 1) := by decide +kernel
theorem dX5_weight_7 : decode cX5_weight 7 = .ok (.iload_n 2, 1) := by decide +kernel
theorem dX5_weight_8 : decode cX5_weight 8 = .ok (.invokestatic 49, 3) := by decide +kernel
theorem dX5_weight_11 : decode cX5_weight 11 = .ok (.aload_n 3, 1) := by decide +kernel
theorem dX5_weight_12 : decode cX5_weight 12 = .ok (.iload_n 2, 1) := by decide +kernel
theorem dX5_weight_13 : decode cX5_weight 13 = .ok (.invokevirtual 53, 3) := by decide +kernel
theorem dX5_weight_16 : decode cX5_weight 16 = .ok (.ireturn, 1) := by decide +kernel
theorem dX5_share_0 : decode cX5_share 0 = .ok (.aload_n 0, 1) := by decide +kernel
theorem dX5_share_1 : decode cX5_share 1 = .ok (.iload_n 1, 1) := by decide +kernel
theorem dX5_share_2 : decode cX5_share 2 = .ok (.invokevirtual 45, 3) := by decide +kernel
theorem dX5_share_5 : decode cX5_share 5 = .ok (.aload_n 0, 1) := by decide +kernel
theorem dX5_share_6 : decode cX5_share 6 = .ok (.getfield 69, 3) := by decide +kernel
theorem dX5_share_9 : decode cX5_share 9 = .ok (.invokevirtual 72, 3) := by decide +kernel
theorem dX5_share_12 : decode cX5_share 12 = .ok (.ireturn, 1) := by decide +kernel
theorem dX5_left_0 : decode cX5_left 0 = .ok (.iload_n 1, 1) := by decide +kernel
theorem dX5_left_1 : decode cX5_left 1 = .ok (.iconst 0, 1) := by decide +kernel
theorem dX5_left_2 : decode cX5_left 2 = .ok (.iconst 2, 1) := by decide +kernel
theorem dX5_left_3 : decode cX5_left 3 = .ok (.invokestatic 22, 3) := by decide +kernel
theorem dX5_left_6 : decode cX5_left 6 = .ok (.ifCond .eq 13, 3) := by decide +kernel
theorem dX5_left_9 : decode cX5_left 9 = .ok (.new 121, 3) := by decide +kernel
theorem dX5_left_12 : decode cX5_left 12 = .ok (.dup, 1) := by decide +kernel
theorem dX5_left_13 : decode cX5_left 13 = .ok (.ldc 137, 2) := by decide +kernel
theorem dX5_left_15 : decode cX5_left 15 = .ok (.invokespecial 125, 3) := by decide +kernel
theorem dX5_left_18 : decode cX5_left 18 = .ok (.athrow, 1) := by decide +kernel
theorem dX5_left_19 : decode cX5_left 19 = .ok (.sipush 1000, 3) := by decide +kernel
theorem dX5_left_22 : decode cX5_left 22 = .ok (.istore_n 2, 1) := by decide +kernel
theorem dX5_left_23 : decode cX5_left 23 = .ok (.aload_n 0, 1) := by decide +kernel
theorem dX5_left_24 : decode cX5_left 24 = .ok (.getfield 11, 3) := by decide +kernel
theorem dX5_left_27 : decode cX5_left 27 = .ok (.astore_n 3, 1) := by decide +kernel
theorem dX5_left_28 : decode cX5_left 28 = .ok (.aload_n 3, 1) := by decide +kernel
theorem dX5_left_29 : decode cX5_left 29 = .ok (.arraylength, 1) := by decide +kernel
theorem dX5_left_30 : decode cX5_left 30 = .ok (.istore 4, 2) := by decide +kernel
theorem dX5_left_32 : decode cX5_left 32 = .ok (.iconst 0, 1) := by decide +kernel
theorem dX5_left_33 : decode cX5_left 33 = .ok (.istore 5, 2) := by decide +kernel
theorem dX5_left_35 : decode cX5_left 35 = .ok (.iload 5, 2) := by decide +kernel
theorem dX5_left_37 : decode cX5_left 37 = .ok (.iload 4, 2) := by decide +kernel
theorem dX5_left_39 : decode cX5_left 39 = .ok (.if_icmp .ge 43, 3) := by decide +kernel
theorem dX5_left_42 : decode cX5_left 42 = .ok (.aload_n 3, 1) := by decide +kernel
theorem dX5_left_43 : decode cX5_left 43 = .ok (.iload 5, 2) := by decide +kernel
theorem dX5_left_45 : decode cX5_left 45 = .ok (.aaload, 1) := by decide +kernel
theorem dX5_left_46 : decode cX5_left 46 = .ok (.astore 6, 2) := by decide +kernel
theorem dX5_left_48 : decode cX5_left 48 = .ok (.aload 6, 2) := by decide +kernel
theorem dX5_left_50 : decode cX5_left 50 = .ok (.ifnull 26, 3) := by decide +kernel
theorem dX5_left_53 : decode cX5_left 53 = .ok (.aload 6, 2) := by decide +kernel
theorem dX5_left_55 : decode cX5_left 55 = .ok (.getfield 88, 3) := by decide +kernel
theorem dX5_left_58 : decode cX5_left 58 = .ok (.iload_n 1, 1) := by decide +kernel
theorem dX5_left_59 : decode cX5_left 59 = .ok (.if_icmp .ne 17, 3) := by decide +kernel
theorem dX5_left_62 : decode cX5_left 62 = .ok (.iload_n 2, 1) := by decide +kernel
theorem dX5_left_63 : decode cX5_left 63 = .ok (.aload 6, 2) := by decide +kernel
theorem dX5_left_65 : decode cX5_left 65 = .ok (.getfield 94, 3) := by decide +kernel
theorem dX5_left_68 : decode cX5_left 68 = .ok (.aload 6, 2) := by decide +kernel
theorem dX5_left_70 : decode cX5_left 70 = .ok (.getfield 91, 3) := by decide +kernel
theorem dX5_left_73 : decode cX5_left 73 = .ok (.isub, 1) := by decide +kernel
theorem dX5_left_74 : decode cX5_left 74 = .ok (.isub, 1) := by decide +kernel
theorem dX5_left_75 : decode cX5_left 75 = .ok (.istore_n 2, 1) := by decide +kernel
theorem dX5_left_76 : decode cX5_left 76 = .ok (.iinc 5 1, 3) := by decide +kernel
theorem dX5_left_79 : decode cX5_left 79 = .ok (.goto (-44), 3) := by decide +kernel
theorem dX5_left_82 : decode cX5_left 82 = .ok (.iload_n 2, 1) := by decide +kernel
theorem dX5_left_83 : decode cX5_left 83 = .ok (.ireturn, 1) := by decide +kernel
theorem dX5_gets_0 : decode cX5_gets 0 = .ok (.aload_n 0, 1) := by decide +kernel
theorem dX5_gets_1 : decode cX5_gets 1 = .ok (.iload_n 1, 1) := by decide +kernel
theorem dX5_gets_2 : decode cX5_gets 2 = .ok (.invokevirtual 45, 3) := by decide +kernel
theorem dX5_gets_5 : decode cX5_gets 5 = .ok (.astore 5, 2) := by decide +kernel
theorem dX5_gets_7 : decode cX5_gets 7 = .ok (.iload_n 2, 1) := by decide +kernel
theorem dX5_gets_8 : decode cX5_gets 8 = .ok (.iload_n 3, 1) := by decide +kernel
theorem dX5_gets_9 : decode cX5_gets 9 = .ok (.iload 4, 2) := by decide +kernel
theorem dX5_gets_11 : decode cX5_gets 11 = .ok (.invokestatic 145, 3) := by decide +kernel
theorem dX5_gets_14 : decode cX5_gets 14 = .ok (.aload_n 0, 1) := by decide +kernel
theorem dX5_gets_15 : decode cX5_gets 15 = .ok (.getfield 18, 3) := by decide +kernel
theorem dX5_gets_18 : decode cX5_gets 18 = .ok (.iload_n 2, 1) := by decide +kernel
theorem dX5_gets_19 : decode cX5_gets 19 = .ok (.iload_n 3, 1) := by decide +kernel
theorem dX5_gets_20 : decode cX5_gets 20 = .ok (.iload 4, 2) := by decide +kernel
theorem dX5_gets_22 : decode cX5_gets 22 = .ok (.invokevirtual 148, 3) := by decide +kernel
theorem dX5_gets_25 : decode cX5_gets 25 = .ok (.aload_n 0, 1) := by decide +kernel
theorem dX5_gets_26 : decode cX5_gets 26 = .ok (.aload 5, 2) := by decide +kernel
theorem dX5_gets_28 : decode cX5_gets 28 = .ok (.invokevirtual 151, 3) := by decide +kernel
theorem dX5_gets_31 : decode cX5_gets 31 = .ok (.ireturn, 1) := by decide +kernel
theorem dX5_why_0 : decode cX5_why 0 = .ok (.aload_n 0, 1) := by decide +kernel
theorem dX5_why_1 : decode cX5_why 1 = .ok (.iload_n 1, 1) := by decide +kernel
theorem dX5_why_2 : decode cX5_why 2 = .ok (.invokevirtual 45, 3) := by decide +kernel
theorem dX5_why_5 : decode cX5_why 5 = .ok (.astore 5, 2) := by decide +kernel
theorem dX5_why_7 : decode cX5_why 7 = .ok (.iload_n 2, 1) := by decide +kernel
theorem dX5_why_8 : decode cX5_why 8 = .ok (.iload_n 3, 1) := by decide +kernel
theorem dX5_why_9 : decode cX5_why 9 = .ok (.iload 4, 2) := by decide +kernel
theorem dX5_why_11 : decode cX5_why 11 = .ok (.invokestatic 145, 3) := by decide +kernel
theorem dX5_why_14 : decode cX5_why 14 = .ok (.aload_n 0, 1) := by decide +kernel
theorem dX5_why_15 : decode cX5_why 15 = .ok (.getfield 18, 3) := by decide +kernel
theorem dX5_why_18 : decode cX5_why 18 = .ok (.iload_n 2, 1) := by decide +kernel
theorem dX5_why_19 : decode cX5_why 19 = .ok (.iload_n 3, 1) := by decide +kernel
theorem dX5_why_20 : decode cX5_why 20 = .ok (.iload 4, 2) := by decide +kernel
theorem dX5_why_22 : decode cX5_why 22 = .ok (.invokevirtual 148, 3) := by decide +kernel
theorem dX5_why_25 : decode cX5_why 25 = .ok (.aload_n 0, 1) := by decide +kernel
theorem dX5_why_26 : decode cX5_why 26 = .ok (.aload 5, 2) := by decide +kernel
theorem dX5_why_28 : decode cX5_why 28 = .ok (.invokevirtual 155, 3) := by decide +kernel
theorem dX5_why_31 : decode cX5_why 31 = .ok (.ireturn, 1) := by decide +kernel
theorem dX5_holds_0 : decode cX5_holds 0 = .ok (.aload_n 0, 1) := by decide +kernel
theorem dX5_holds_1 : decode cX5_holds 1 = .ok (.iload_n 1, 1) := by decide +kernel
theorem dX5_holds_2 : decode cX5_holds 2 = .ok (.invokevirtual 45, 3) := by decide +kernel
theorem dX5_holds_5 : decode cX5_holds 5 = .ok (.astore 5, 2) := by decide +kernel
theorem dX5_holds_7 : decode cX5_holds 7 = .ok (.iload_n 2, 1) := by decide +kernel
theorem dX5_holds_8 : decode cX5_holds 8 = .ok (.iload_n 3, 1) := by decide +kernel
theorem dX5_holds_9 : decode cX5_holds 9 = .ok (.iload 4, 2) := by decide +kernel
theorem dX5_holds_11 : decode cX5_holds 11 = .ok (.invokestatic 145, 3) := by decide +kernel
theorem dX5_holds_14 : decode cX5_holds 14 = .ok (.aload 5, 2) := by decide +kernel
theorem dX5_holds_16 : decode cX5_holds 16 = .ok (.iload_n 3, 1) := by decide +kernel
theorem dX5_holds_17 : decode cX5_holds 17 = .ok (.iload 4, 2) := by decide +kernel
theorem dX5_holds_19 : decode cX5_holds 19 = .ok (.invokevirtual 158, 3) := by decide +kernel
theorem dX5_holds_22 : decode cX5_holds 22 = .ok (.ireturn, 1) := by decide +kernel
theorem dX5_ask_0 : decode cX5_ask 0 = .ok (.aload_n 0, 1) := by decide +kernel
theorem dX5_ask_1 : decode cX5_ask 1 = .ok (.iload_n 1, 1) := by decide +kernel
theorem dX5_ask_2 : decode cX5_ask 2 = .ok (.invokevirtual 45, 3) := by decide +kernel
theorem dX5_ask_5 : decode cX5_ask 5 = .ok (.astore 5, 2) := by decide +kernel
theorem dX5_ask_7 : decode cX5_ask 7 = .ok (.iload_n 2, 1) := by decide +kernel
theorem dX5_ask_8 : decode cX5_ask 8 = .ok (.iload_n 3, 1) := by decide +kernel
theorem dX5_ask_9 : decode cX5_ask 9 = .ok (.iload 4, 2) := by decide +kernel
theorem dX5_ask_11 : decode cX5_ask 11 = .ok (.invokestatic 145, 3) := by decide +kernel
theorem dX5_ask_14 : decode cX5_ask 14 = .ok (.aload_n 0, 1) := by decide +kernel
theorem dX5_ask_15 : decode cX5_ask 15 = .ok (.getfield 18, 3) := by decide +kernel
theorem dX5_ask_18 : decode cX5_ask 18 = .ok (.iload_n 2, 1) := by decide +kernel
theorem dX5_ask_19 : decode cX5_ask 19 = .ok (.iload_n 3, 1) := by decide +kernel
theorem dX5_ask_20 : decode cX5_ask 20 = .ok (.iload 4, 2) := by decide +kernel
theorem dX5_ask_22 : decode cX5_ask 22 = .ok (.invokevirtual 148, 3) := by decide +kernel
theorem dX5_ask_25 : decode cX5_ask 25 = .ok (.aload_n 0, 1) := by decide +kernel
theorem dX5_ask_26 : decode cX5_ask 26 = .ok (.aload 5, 2) := by decide +kernel
theorem dX5_ask_28 : decode cX5_ask 28 = .ok (.invokevirtual 155, 3) := by decide +kernel
theorem dX5_ask_31 : decode cX5_ask 31 = .ok (.istore 6, 2) := by decide +kernel
theorem dX5_ask_33 : decode cX5_ask 33 = .ok (.aload_n 0, 1) := by decide +kernel
theorem dX5_ask_34 : decode cX5_ask 34 = .ok (.aload 5, 2) := by decide +kernel
theorem dX5_ask_36 : decode cX5_ask 36 = .ok (.iload 6, 2) := by decide +kernel
theorem dX5_ask_38 : decode cX5_ask 38 = .ok (.invokevirtual 161, 3) := by decide +kernel
theorem dX5_ask_41 : decode cX5_ask 41 = .ok (.istore 7, 2) := by decide +kernel
theorem dX5_ask_43 : decode cX5_ask 43 = .ok (.iload 6, 2) := by decide +kernel
theorem dX5_ask_45 : decode cX5_ask 45 = .ok (.bipush 8, 2) := by decide +kernel
theorem dX5_ask_47 : decode cX5_ask 47 = .ok (.if_icmp .ne 39, 3) := by decide +kernel
theorem dX5_ask_50 : decode cX5_ask 50 = .ok (.aload_n 0, 1) := by decide +kernel
theorem dX5_ask_51 : decode cX5_ask 51 = .ok (.getfield 165, 3) := by decide +kernel
theorem dX5_ask_54 : decode cX5_ask 54 = .ok (.bipush 100, 2) := by decide +kernel
theorem dX5_ask_56 : decode cX5_ask 56 = .ok (.if_icmp .ge 30, 3) := by decide +kernel
theorem dX5_ask_59 : decode cX5_ask 59 = .ok (.aload 5, 2) := by decide +kernel
theorem dX5_ask_61 : decode cX5_ask 61 = .ok (.iload_n 2, 1) := by decide +kernel
theorem dX5_ask_62 : decode cX5_ask 62 = .ok (.invokevirtual 168, 3) := by decide +kernel
theorem dX5_ask_65 : decode cX5_ask 65 = .ok (.ifnonnull 21, 3) := by decide +kernel
theorem dX5_ask_68 : decode cX5_ask 68 = .ok (.aload 5, 2) := by decide +kernel
theorem dX5_ask_70 : decode cX5_ask 70 = .ok (.iload_n 2, 1) := by decide +kernel
theorem dX5_ask_71 : decode cX5_ask 71 = .ok (.iload 7, 2) := by decide +kernel
theorem dX5_ask_73 : decode cX5_ask 73 = .ok (.invokevirtual 172, 3) := by decide +kernel
theorem dX5_ask_76 : decode cX5_ask 76 = .ok (.aload_n 0, 1) := by decide +kernel
theorem dX5_ask_77 : decode cX5_ask 77 = .ok (.dup, 1) := by decide +kernel
theorem dX5_ask_78 : decode cX5_ask 78 = .ok (.getfield 165, 3) := by decide +kernel
theorem dX5_ask_81 : decode cX5_ask 81 = .ok (.iconst 1, 1) := by decide +kernel
theorem dX5_ask_82 : decode cX5_ask 82 = .ok (.iadd, 1) := by decide +kernel
theorem dX5_ask_83 : decode cX5_ask 83 = .ok (.putfield 165, 3) := by decide +kernel
theorem dX5_ask_86 : decode cX5_ask 86 = .ok (.iload 7, 2) := by decide +kernel
theorem dX5_ask_88 : decode cX5_ask 88 = .ok (.ireturn, 1) := by decide +kernel
theorem dX5_act_0 : decode cX5_act 0 = .ok (.iload_n 1, 1) := by decide +kernel
theorem dX5_act_1 : decode cX5_act 1 = .ok (.iconst 0, 1) := by decide +kernel
theorem dX5_act_2 : decode cX5_act 2 = .ok (.sipush 9999, 3) := by decide +kernel
theorem dX5_act_5 : decode cX5_act 5 = .ok (.invokestatic 22, 3) := by decide +kernel
theorem dX5_act_8 : decode cX5_act 8 = .ok (.ifCond .ne 13, 3) := by decide +kernel
theorem dX5_act_11 : decode cX5_act 11 = .ok (.iload_n 2, 1) := by decide +kernel
theorem dX5_act_12 : decode cX5_act 12 = .ok (.iconst 0, 1) := by decide +kernel
theorem dX5_act_13 : decode cX5_act 13 = .ok (.bipush 100, 2) := by decide +kernel
theorem dX5_act_15 : decode cX5_act 15 = .ok (.invokestatic 22, 3) := by decide +kernel
theorem dX5_act_18 : decode cX5_act 18 = .ok (.ifCond .eq 13, 3) := by decide +kernel
theorem dX5_act_21 : decode cX5_act 21 = .ok (.new 26, 3) := by decide +kernel
theorem dX5_act_24 : decode cX5_act 24 = .ok (.dup, 1) := by decide +kernel
theorem dX5_act_25 : decode cX5_act 25 = .ok (.ldc 175, 2) := by decide +kernel
theorem dX5_act_27 : decode cX5_act 27 = .ok (.invokespecial 30, 3) := by decide +kernel
theorem dX5_act_30 : decode cX5_act 30 = .ok (.athrow, 1) := by decide +kernel
theorem dX5_act_31 : decode cX5_act 31 = .ok (.iconst 0, 1) := by decide +kernel
theorem dX5_act_32 : decode cX5_act 32 = .ok (.istore_n 3, 1) := by decide +kernel
theorem dX5_act_33 : decode cX5_act 33 = .ok (.aload_n 0, 1) := by decide +kernel
theorem dX5_act_34 : decode cX5_act 34 = .ok (.getfield 11, 3) := by decide +kernel
theorem dX5_act_37 : decode cX5_act 37 = .ok (.astore 4, 2) := by decide +kernel
theorem dX5_act_39 : decode cX5_act 39 = .ok (.aload 4, 2) := by decide +kernel
theorem dX5_act_41 : decode cX5_act 41 = .ok (.arraylength, 1) := by decide +kernel
theorem dX5_act_42 : decode cX5_act 42 = .ok (.istore 5, 2) := by decide +kernel
theorem dX5_act_44 : decode cX5_act 44 = .ok (.iconst 0, 1) := by decide +kernel
theorem dX5_act_45 : decode cX5_act 45 = .ok (.istore 6, 2) := by decide +kernel
theorem dX5_act_47 : decode cX5_act 47 = .ok (.iload 6, 2) := by decide +kernel
theorem dX5_act_49 : decode cX5_act 49 = .ok (.iload 5, 2) := by decide +kernel
theorem dX5_act_51 : decode cX5_act 51 = .ok (.if_icmp .ge 34, 3) := by decide +kernel
theorem dX5_act_54 : decode cX5_act 54 = .ok (.aload 4, 2) := by decide +kernel
theorem dX5_act_56 : decode cX5_act 56 = .ok (.iload 6, 2) := by decide +kernel
theorem dX5_act_58 : decode cX5_act 58 = .ok (.aaload, 1) := by decide +kernel
theorem dX5_act_59 : decode cX5_act 59 = .ok (.astore 7, 2) := by decide +kernel
theorem dX5_act_61 : decode cX5_act 61 = .ok (.aload 7, 2) := by decide +kernel
theorem dX5_act_63 : decode cX5_act 63 = .ok (.ifnull 16, 3) := by decide +kernel
theorem dX5_act_66 : decode cX5_act 66 = .ok (.aload 7, 2) := by decide +kernel
theorem dX5_act_68 : decode cX5_act 68 = .ok (.iload_n 1, 1) := by decide +kernel
theorem dX5_act_69 : decode cX5_act 69 = .ok (.iload_n 2, 1) := by decide +kernel
theorem dX5_act_70 : decode cX5_act 70 = .ok (.invokevirtual 177, 3) := by decide +kernel
theorem dX5_act_73 : decode cX5_act 73 = .ok (.ifCond .eq 6, 3) := by decide +kernel
theorem dX5_act_76 : decode cX5_act 76 = .ok (.iinc 3 1, 3) := by decide +kernel
theorem dX5_act_79 : decode cX5_act 79 = .ok (.iinc 6 1, 3) := by decide +kernel
theorem dX5_act_82 : decode cX5_act 82 = .ok (.goto (-35), 3) := by decide +kernel
theorem dX5_act_85 : decode cX5_act 85 = .ok (.iload_n 3, 1) := by decide +kernel
theorem dX5_act_86 : decode cX5_act 86 = .ok (.ireturn, 1) := by decide +kernel
theorem dX5_arm_0 : decode cX5_arm 0 = .ok (.aload_n 0, 1) := by decide +kernel
theorem dX5_arm_1 : decode cX5_arm 1 = .ok (.iload_n 1, 1) := by decide +kernel
theorem dX5_arm_2 : decode cX5_arm 2 = .ok (.invokevirtual 45, 3) := by decide +kernel
theorem dX5_arm_5 : decode cX5_arm 5 = .ok (.astore_n 3, 1) := by decide +kernel
theorem dX5_arm_6 : decode cX5_arm 6 = .ok (.iload_n 2, 1) := by decide +kernel
theorem dX5_arm_7 : decode cX5_arm 7 = .ok (.iconst 0, 1) := by decide +kernel
theorem dX5_arm_8 : decode cX5_arm 8 = .ok (.sipush 9999, 3) := by decide +kernel
theorem dX5_arm_11 : decode cX5_arm 11 = .ok (.invokestatic 22, 3) := by decide +kernel
theorem dX5_arm_14 : decode cX5_arm 14 = .ok (.ifCond .eq 13, 3) := by decide +kernel
theorem dX5_arm_17 : decode cX5_arm 17 = .ok (.new 26, 3) := by decide +kernel
theorem dX5_arm_20 : decode cX5_arm 20 = .ok (.dup, 1) := by decide +kernel
theorem dX5_arm_21 : decode cX5_arm 21 = .ok (.ldc 181, 2) := by decide +kernel
theorem dX5_arm_23 : decode cX5_arm 23 = .ok (.invokespecial 30, 3) := by decide +kernel
theorem dX5_arm_26 : decode cX5_arm 26 = .ok (.athrow, 1) := by decide +kernel
theorem dX5_arm_27 : decode cX5_arm 27 = .ok (.aload_n 3, 1) := by decide +kernel
theorem dX5_arm_28 : decode cX5_arm 28 = .ok (.iload_n 2, 1) := by decide +kernel
theorem dX5_arm_29 : decode cX5_arm 29 = .ok (.invokevirtual 168, 3) := by decide +kernel
theorem dX5_arm_32 : decode cX5_arm 32 = .ok (.astore 4, 2) := by decide +kernel
theorem dX5_arm_34 : decode cX5_arm 34 = .ok (.aload 4, 2) := by decide +kernel
theorem dX5_arm_36 : decode cX5_arm 36 = .ok (.ifnonnull 7, 3) := by decide +kernel
theorem dX5_arm_39 : decode cX5_arm 39 = .ok (.iconst (-1), 1) := by decide +kernel
theorem dX5_arm_40 : decode cX5_arm 40 = .ok (.goto 8, 3) := by decide +kernel
theorem dX5_arm_43 : decode cX5_arm 43 = .ok (.aload 4, 2) := by decide +kernel
theorem dX5_arm_45 : decode cX5_arm 45 = .ok (.getfield 183, 3) := by decide +kernel
theorem dX5_arm_48 : decode cX5_arm 48 = .ok (.ireturn, 1) := by decide +kernel
theorem dX5_arms_0 : decode cX5_arms 0 = .ok (.aload_n 0, 1) := by decide +kernel
theorem dX5_arms_1 : decode cX5_arms 1 = .ok (.getfield 165, 3) := by decide +kernel
theorem dX5_arms_4 : decode cX5_arms 4 = .ok (.ireturn, 1) := by decide +kernel
theorem dX5_told_0 : decode cX5_told 0 = .ok (.aload_n 0, 1) := by decide +kernel
theorem dX5_told_1 : decode cX5_told 1 = .ok (.iload_n 1, 1) := by decide +kernel
theorem dX5_told_2 : decode cX5_told 2 = .ok (.invokevirtual 45, 3) := by decide +kernel
theorem dX5_told_5 : decode cX5_told 5 = .ok (.astore 4, 2) := by decide +kernel
theorem dX5_told_7 : decode cX5_told 7 = .ok (.aload 4, 2) := by decide +kernel
theorem dX5_told_9 : decode cX5_told 9 = .ok (.iload_n 2, 1) := by decide +kernel
theorem dX5_told_10 : decode cX5_told 10 = .ok (.invokestatic 49, 3) := by decide +kernel
theorem dX5_told_13 : decode cX5_told 13 = .ok (.iload_n 3, 1) := by decide +kernel
theorem dX5_told_14 : decode cX5_told 14 = .ok (.tableswitch 71 0 3 #[30, 40, 50, 60], 30) := by decide +kernel
theorem dX5_told_44 : decode cX5_told 44 = .ok (.aload 4, 2) := by decide +kernel
theorem dX5_told_46 : decode cX5_told 46 = .ok (.getfield 188, 3) := by decide +kernel
theorem dX5_told_49 : decode cX5_told 49 = .ok (.iload_n 2, 1) := by decide +kernel
theorem dX5_told_50 : decode cX5_told 50 = .ok (.invokevirtual 192, 3) := by decide +kernel
theorem dX5_told_53 : decode cX5_told 53 = .ok (.ireturn, 1) := by decide +kernel
theorem dX5_told_54 : decode cX5_told 54 = .ok (.aload 4, 2) := by decide +kernel
theorem dX5_told_56 : decode cX5_told 56 = .ok (.getfield 188, 3) := by decide +kernel
theorem dX5_told_59 : decode cX5_told 59 = .ok (.iload_n 2, 1) := by decide +kernel
theorem dX5_told_60 : decode cX5_told 60 = .ok (.invokevirtual 197, 3) := by decide +kernel
theorem dX5_told_63 : decode cX5_told 63 = .ok (.ireturn, 1) := by decide +kernel
theorem dX5_told_64 : decode cX5_told 64 = .ok (.aload 4, 2) := by decide +kernel
theorem dX5_told_66 : decode cX5_told 66 = .ok (.getfield 188, 3) := by decide +kernel
theorem dX5_told_69 : decode cX5_told 69 = .ok (.iload_n 2, 1) := by decide +kernel
theorem dX5_told_70 : decode cX5_told 70 = .ok (.invokevirtual 200, 3) := by decide +kernel
theorem dX5_told_73 : decode cX5_told 73 = .ok (.ireturn, 1) := by decide +kernel
theorem dX5_told_74 : decode cX5_told 74 = .ok (.aload 4, 2) := by decide +kernel
theorem dX5_told_76 : decode cX5_told 76 = .ok (.getfield 188, 3) := by decide +kernel
theorem dX5_told_79 : decode cX5_told 79 = .ok (.iload_n 2, 1) := by decide +kernel
theorem dX5_told_80 : decode cX5_told 80 = .ok (.invokevirtual 203, 3) := by decide +kernel
theorem dX5_told_83 : decode cX5_told 83 = .ok (.l2i, 1) := by decide +kernel
theorem dX5_told_84 : decode cX5_told 84 = .ok (.ireturn, 1) := by decide +kernel
theorem dX5_told_85 : decode cX5_told 85 = .ok (.new 26, 3) := by decide +kernel
theorem dX5_told_88 : decode cX5_told 88 = .ok (.dup, 1) := by decide +kernel
theorem dX5_told_89 : decode cX5_told 89 = .ok (.ldc 207, 2) := by decide +kernel
theorem dX5_told_91 : decode cX5_told 91 = .ok (.invokespecial 30, 3) := by decide +kernel
theorem dX5_told_94 : decode cX5_told 94 = .ok (.athrow, 1) := by decide +kernel
theorem dX5_mean_0 : decode cX5_mean 0 = .ok (.aload_n 0, 1) := by decide +kernel
theorem dX5_mean_1 : decode cX5_mean 1 = .ok (.iload_n 1, 1) := by decide +kernel
theorem dX5_mean_2 : decode cX5_mean 2 = .ok (.invokevirtual 45, 3) := by decide +kernel
theorem dX5_mean_5 : decode cX5_mean 5 = .ok (.astore_n 3, 1) := by decide +kernel
theorem dX5_mean_6 : decode cX5_mean 6 = .ok (.aload_n 3, 1) := by decide +kernel
theorem dX5_mean_7 : decode cX5_mean 7 = .ok (.iload_n 2, 1) := by decide +kernel
theorem dX5_mean_8 : decode cX5_mean 8 = .ok (.invokestatic 49, 3) := by decide +kernel
theorem dX5_mean_11 : decode cX5_mean 11 = .ok (.aload_n 3, 1) := by decide +kernel
theorem dX5_mean_12 : decode cX5_mean 12 = .ok (.getfield 188, 3) := by decide +kernel
theorem dX5_mean_15 : decode cX5_mean 15 = .ok (.iload_n 2, 1) := by decide +kernel
theorem dX5_mean_16 : decode cX5_mean 16 = .ok (.invokevirtual 209, 3) := by decide +kernel
theorem dX5_mean_19 : decode cX5_mean 19 = .ok (.dreturn, 1) := by decide +kernel
theorem dX5_lift_0 : decode cX5_lift 0 = .ok (.aload_n 0, 1) := by decide +kernel
theorem dX5_lift_1 : decode cX5_lift 1 = .ok (.iload_n 1, 1) := by decide +kernel
theorem dX5_lift_2 : decode cX5_lift 2 = .ok (.invokevirtual 45, 3) := by decide +kernel
theorem dX5_lift_5 : decode cX5_lift 5 = .ok (.astore_n 3, 1) := by decide +kernel
theorem dX5_lift_6 : decode cX5_lift 6 = .ok (.aload_n 3, 1) := by decide +kernel
theorem dX5_lift_7 : decode cX5_lift 7 = .ok (.iload_n 2, 1) := by decide +kernel
theorem dX5_lift_8 : decode cX5_lift 8 = .ok (.invokestatic 49, 3) := by decide +kernel
theorem dX5_lift_11 : decode cX5_lift 11 = .ok (.aload_n 3, 1) := by decide +kernel
theorem dX5_lift_12 : decode cX5_lift 12 = .ok (.getfield 188, 3) := by decide +kernel
theorem dX5_lift_15 : decode cX5_lift 15 = .ok (.iload_n 2, 1) := by decide +kernel
theorem dX5_lift_16 : decode cX5_lift 16 = .ok (.invokevirtual 213, 3) := by decide +kernel
theorem dX5_lift_19 : decode cX5_lift 19 = .ok (.dreturn, 1) := by decide +kernel
theorem dX5_sure_0 : decode cX5_sure 0 = .ok (.aload_n 0, 1) := by decide +kernel
theorem dX5_sure_1 : decode cX5_sure 1 = .ok (.iload_n 1, 1) := by decide +kernel
theorem dX5_sure_2 : decode cX5_sure 2 = .ok (.invokevirtual 45, 3) := by decide +kernel
theorem dX5_sure_5 : decode cX5_sure 5 = .ok (.astore_n 3, 1) := by decide +kernel
theorem dX5_sure_6 : decode cX5_sure 6 = .ok (.aload_n 3, 1) := by decide +kernel
theorem dX5_sure_7 : decode cX5_sure 7 = .ok (.iload_n 2, 1) := by decide +kernel
theorem dX5_sure_8 : decode cX5_sure 8 = .ok (.invokestatic 49, 3) := by decide +kernel
theorem dX5_sure_11 : decode cX5_sure 11 = .ok (.aload_n 3, 1) := by decide +kernel
theorem dX5_sure_12 : decode cX5_sure 12 = .ok (.getfield 188, 3) := by decide +kernel
theorem dX5_sure_15 : decode cX5_sure 15 = .ok (.iload_n 2, 1) := by decide +kernel
theorem dX5_sure_16 : decode cX5_sure 16 = .ok (.invokevirtual 216, 3) := by decide +kernel
theorem dX5_sure_19 : decode cX5_sure 19 = .ok (.dreturn, 1) := by decide +kernel
theorem dX5_bad_0 : decode cX5_bad 0 = .ok (.aload_n 0, 1) := by decide +kernel
theorem dX5_bad_1 : decode cX5_bad 1 = .ok (.iload_n 1, 1) := by decide +kernel
theorem dX5_bad_2 : decode cX5_bad 2 = .ok (.invokevirtual 45, 3) := by decide +kernel
theorem dX5_bad_5 : decode cX5_bad 5 = .ok (.invokevirtual 219, 3) := by decide +kernel
theorem dX5_bad_8 : decode cX5_bad 8 = .ok (.ireturn, 1) := by decide +kernel
theorem dX5_isTrusted_0 : decode cX5_isTrusted 0 = .ok (.aload_n 0, 1) := by decide +kernel
theorem dX5_isTrusted_1 : decode cX5_isTrusted 1 = .ok (.iload_n 1, 1) := by decide +kernel
theorem dX5_isTrusted_2 : decode cX5_isTrusted 2 = .ok (.invokevirtual 45, 3) := by decide +kernel
theorem dX5_isTrusted_5 : decode cX5_isTrusted 5 = .ok (.invokevirtual 223, 3) := by decide +kernel
theorem dX5_isTrusted_8 : decode cX5_isTrusted 8 = .ok (.ireturn, 1) := by decide +kernel
theorem dX5_best_0 : decode cX5_best 0 = .ok (.aload_n 0, 1) := by decide +kernel
theorem dX5_best_1 : decode cX5_best 1 = .ok (.iload_n 1, 1) := by decide +kernel
theorem dX5_best_2 : decode cX5_best 2 = .ok (.invokevirtual 45, 3) := by decide +kernel
theorem dX5_best_5 : decode cX5_best 5 = .ok (.getfield 188, 3) := by decide +kernel
theorem dX5_best_8 : decode cX5_best 8 = .ok (.invokevirtual 227, 3) := by decide +kernel
theorem dX5_best_11 : decode cX5_best 11 = .ok (.ireturn, 1) := by decide +kernel
theorem dX5_reach_0 : decode cX5_reach 0 = .ok (.aload_n 0, 1) := by decide +kernel
theorem dX5_reach_1 : decode cX5_reach 1 = .ok (.iload_n 1, 1) := by decide +kernel
theorem dX5_reach_2 : decode cX5_reach 2 = .ok (.invokevirtual 45, 3) := by decide +kernel
theorem dX5_reach_5 : decode cX5_reach 5 = .ok (.astore 4, 2) := by decide +kernel
theorem dX5_reach_7 : decode cX5_reach 7 = .ok (.aload 4, 2) := by decide +kernel
theorem dX5_reach_9 : decode cX5_reach 9 = .ok (.iload_n 2, 1) := by decide +kernel
theorem dX5_reach_10 : decode cX5_reach 10 = .ok (.invokestatic 49, 3) := by decide +kernel
theorem dX5_reach_13 : decode cX5_reach 13 = .ok (.iload_n 3, 1) := by decide +kernel
theorem dX5_reach_14 : decode cX5_reach 14 = .ok (.invokestatic 230, 3) := by decide +kernel
theorem dX5_reach_17 : decode cX5_reach 17 = .ok (.iconst 0, 1) := by decide +kernel
theorem dX5_reach_18 : decode cX5_reach 18 = .ok (.istore 5, 2) := by decide +kernel
theorem dX5_reach_20 : decode cX5_reach 20 = .ok (.iconst 0, 1) := by decide +kernel
theorem dX5_reach_21 : decode cX5_reach 21 = .ok (.istore 6, 2) := by decide +kernel
theorem dX5_reach_23 : decode cX5_reach 23 = .ok (.iload 6, 2) := by decide +kernel
theorem dX5_reach_25 : decode cX5_reach 25 = .ok (.iload_n 3, 1) := by decide +kernel
theorem dX5_reach_26 : decode cX5_reach 26 = .ok (.if_icmp .ge 31, 3) := by decide +kernel
theorem dX5_reach_29 : decode cX5_reach 29 = .ok (.aload_n 0, 1) := by decide +kernel
theorem dX5_reach_30 : decode cX5_reach 30 = .ok (.getfield 18, 3) := by decide +kernel
theorem dX5_reach_33 : decode cX5_reach 33 = .ok (.iload 6, 2) := by decide +kernel
theorem dX5_reach_35 : decode cX5_reach 35 = .ok (.invokevirtual 233, 3) := by decide +kernel
theorem dX5_reach_38 : decode cX5_reach 38 = .ok (.aload_n 0, 1) := by decide +kernel
theorem dX5_reach_39 : decode cX5_reach 39 = .ok (.aload 4, 2) := by decide +kernel
theorem dX5_reach_41 : decode cX5_reach 41 = .ok (.invokevirtual 151, 3) := by decide +kernel
theorem dX5_reach_44 : decode cX5_reach 44 = .ok (.iload_n 2, 1) := by decide +kernel
theorem dX5_reach_45 : decode cX5_reach 45 = .ok (.if_icmp .ne 6, 3) := by decide +kernel
theorem dX5_reach_48 : decode cX5_reach 48 = .ok (.iinc 5 1, 3) := by decide +kernel
theorem dX5_reach_51 : decode cX5_reach 51 = .ok (.iinc 6 1, 3) := by decide +kernel
theorem dX5_reach_54 : decode cX5_reach 54 = .ok (.goto (-31), 3) := by decide +kernel
theorem dX5_reach_57 : decode cX5_reach 57 = .ok (.iload 5, 2) := by decide +kernel
theorem dX5_reach_59 : decode cX5_reach 59 = .ok (.ireturn, 1) := by decide +kernel
theorem dX5_both_0 : decode cX5_both 0 = .ok (.aload_n 0, 1) := by decide +kernel
theorem dX5_both_1 : decode cX5_both 1 = .ok (.iload_n 1, 1) := by decide +kernel
theorem dX5_both_2 : decode cX5_both 2 = .ok (.invokevirtual 45, 3) := by decide +kernel
theorem dX5_both_5 : decode cX5_both 5 = .ok (.astore 4, 2) := by decide +kernel
theorem dX5_both_7 : decode cX5_both 7 = .ok (.aload_n 0, 1) := by decide +kernel
theorem dX5_both_8 : decode cX5_both 8 = .ok (.iload_n 2, 1) := by decide +kernel
theorem dX5_both_9 : decode cX5_both 9 = .ok (.invokevirtual 45, 3) := by decide +kernel
theorem dX5_both_12 : decode cX5_both 12 = .ok (.astore 5, 2) := by decide +kernel
theorem dX5_both_14 : decode cX5_both 14 = .ok (.iload_n 3, 1) := by decide +kernel
theorem dX5_both_15 : decode cX5_both 15 = .ok (.invokestatic 230, 3) := by decide +kernel
theorem dX5_both_18 : decode cX5_both 18 = .ok (.iconst 0, 1) := by decide +kernel
theorem dX5_both_19 : decode cX5_both 19 = .ok (.istore 6, 2) := by decide +kernel
theorem dX5_both_21 : decode cX5_both 21 = .ok (.iconst 0, 1) := by decide +kernel
theorem dX5_both_22 : decode cX5_both 22 = .ok (.istore 7, 2) := by decide +kernel
theorem dX5_both_24 : decode cX5_both 24 = .ok (.iload 7, 2) := by decide +kernel
theorem dX5_both_26 : decode cX5_both 26 = .ok (.iload_n 3, 1) := by decide +kernel
theorem dX5_both_27 : decode cX5_both 27 = .ok (.if_icmp .ge 43, 3) := by decide +kernel
theorem dX5_both_30 : decode cX5_both 30 = .ok (.aload_n 0, 1) := by decide +kernel
theorem dX5_both_31 : decode cX5_both 31 = .ok (.getfield 18, 3) := by decide +kernel
theorem dX5_both_34 : decode cX5_both 34 = .ok (.iload 7, 2) := by decide +kernel
theorem dX5_both_36 : decode cX5_both 36 = .ok (.invokevirtual 233, 3) := by decide +kernel
theorem dX5_both_39 : decode cX5_both 39 = .ok (.aload_n 0, 1) := by decide +kernel
theorem dX5_both_40 : decode cX5_both 40 = .ok (.aload 4, 2) := by decide +kernel
theorem dX5_both_42 : decode cX5_both 42 = .ok (.invokevirtual 155, 3) := by decide +kernel
theorem dX5_both_45 : decode cX5_both 45 = .ok (.bipush 8, 2) := by decide +kernel
theorem dX5_both_47 : decode cX5_both 47 = .ok (.if_icmp .ne 17, 3) := by decide +kernel
theorem dX5_both_50 : decode cX5_both 50 = .ok (.aload_n 0, 1) := by decide +kernel
theorem dX5_both_51 : decode cX5_both 51 = .ok (.aload 5, 2) := by decide +kernel
theorem dX5_both_53 : decode cX5_both 53 = .ok (.invokevirtual 155, 3) := by decide +kernel
theorem dX5_both_56 : decode cX5_both 56 = .ok (.bipush 8, 2) := by decide +kernel
theorem dX5_both_58 : decode cX5_both 58 = .ok (.if_icmp .ne 6, 3) := by decide +kernel
theorem dX5_both_61 : decode cX5_both 61 = .ok (.iinc 6 1, 3) := by decide +kernel
theorem dX5_both_64 : decode cX5_both 64 = .ok (.iinc 7 1, 3) := by decide +kernel
theorem dX5_both_67 : decode cX5_both 67 = .ok (.goto (-43), 3) := by decide +kernel
theorem dX5_both_70 : decode cX5_both 70 = .ok (.iload 6, 2) := by decide +kernel
theorem dX5_both_72 : decode cX5_both 72 = .ok (.ireturn, 1) := by decide +kernel
theorem dX5_wouldChange_0 : decode cX5_wouldChange 0 = .ok (.aload_n 0, 1) := by decide +kernel
theorem dX5_wouldChange_1 : decode cX5_wouldChange 1 = .ok (.iload_n 1, 1) := by decide +kernel
theorem dX5_wouldChange_2 : decode cX5_wouldChange 2 = .ok (.invokevirtual 45, 3) := by decide +kernel
theorem dX5_wouldChange_5 : decode cX5_wouldChange 5 = .ok (.astore 4, 2) := by decide +kernel
theorem dX5_wouldChange_7 : decode cX5_wouldChange 7 = .ok (.iload_n 2, 1) := by decide +kernel
theorem dX5_wouldChange_8 : decode cX5_wouldChange 8 = .ok (.iconst 0, 1) := by decide +kernel
theorem dX5_wouldChange_9 : decode cX5_wouldChange 9 = .ok (.sipush 1000, 3) := by decide +kernel
theorem dX5_wouldChange_12 : decode cX5_wouldChange 12 = .ok (.invokestatic 22, 3) := by decide +kernel
theorem dX5_wouldChange_15 : decode cX5_wouldChange 15 = .ok (.ifCond .eq 13, 3) := by decide +kernel
theorem dX5_wouldChange_18 : decode cX5_wouldChange 18 = .ok (.new 26, 3) := by decide +kernel
theorem dX5_wouldChange_21 : decode cX5_wouldChange 21 = .ok (.dup, 1) := by decide +kernel
theorem dX5_wouldChange_22 : decode cX5_wouldChange 22 = .ok (.ldc 236, 2) := by decide +kernel
theorem dX5_wouldChange_24 : decode cX5_wouldChange 24 = .ok (.invokespecial 30, 3) := by decide +kernel
theorem dX5_wouldChange_27 : decode cX5_wouldChange 27 = .ok (.athrow, 1) := by decide +kernel
theorem dX5_wouldChange_28 : decode cX5_wouldChange 28 = .ok (.iload_n 3, 1) := by decide +kernel
theorem dX5_wouldChange_29 : decode cX5_wouldChange 29 = .ok (.invokestatic 230, 3) := by decide +kernel
theorem dX5_wouldChange_32 : decode cX5_wouldChange 32 = .ok (.iconst 0, 1) := by decide +kernel
theorem dX5_wouldChange_33 : decode cX5_wouldChange 33 = .ok (.istore 5, 2) := by decide +kernel
theorem dX5_wouldChange_35 : decode cX5_wouldChange 35 = .ok (.iconst 0, 1) := by decide +kernel
theorem dX5_wouldChange_36 : decode cX5_wouldChange 36 = .ok (.istore 6, 2) := by decide +kernel
theorem dX5_wouldChange_38 : decode cX5_wouldChange 38 = .ok (.iload 6, 2) := by decide +kernel
theorem dX5_wouldChange_40 : decode cX5_wouldChange 40 = .ok (.iload_n 3, 1) := by decide +kernel
theorem dX5_wouldChange_41 : decode cX5_wouldChange 41 = .ok (.if_icmp .ge 49, 3) := by decide +kernel
theorem dX5_wouldChange_44 : decode cX5_wouldChange 44 = .ok (.aload_n 0, 1) := by decide +kernel
theorem dX5_wouldChange_45 : decode cX5_wouldChange 45 = .ok (.getfield 18, 3) := by decide +kernel
theorem dX5_wouldChange_48 : decode cX5_wouldChange 48 = .ok (.iload 6, 2) := by decide +kernel
theorem dX5_wouldChange_50 : decode cX5_wouldChange 50 = .ok (.invokevirtual 233, 3) := by decide +kernel
theorem dX5_wouldChange_53 : decode cX5_wouldChange 53 = .ok (.aload_n 0, 1) := by decide +kernel
theorem dX5_wouldChange_54 : decode cX5_wouldChange 54 = .ok (.aload 4, 2) := by decide +kernel
theorem dX5_wouldChange_56 : decode cX5_wouldChange 56 = .ok (.invokevirtual 151, 3) := by decide +kernel
theorem dX5_wouldChange_59 : decode cX5_wouldChange 59 = .ok (.istore 7, 2) := by decide +kernel
theorem dX5_wouldChange_61 : decode cX5_wouldChange 61 = .ok (.aload_n 0, 1) := by decide +kernel
theorem dX5_wouldChange_62 : decode cX5_wouldChange 62 = .ok (.getfield 18, 3) := by decide +kernel
theorem dX5_wouldChange_65 : decode cX5_wouldChange 65 = .ok (.iload_n 1, 1) := by decide +kernel
theorem dX5_wouldChange_66 : decode cX5_wouldChange 66 = .ok (.iload_n 2, 1) := by decide +kernel
theorem dX5_wouldChange_67 : decode cX5_wouldChange 67 = .ok (.invokevirtual 238, 3) := by decide +kernel
theorem dX5_wouldChange_70 : decode cX5_wouldChange 70 = .ok (.aload_n 0, 1) := by decide +kernel
theorem dX5_wouldChange_71 : decode cX5_wouldChange 71 = .ok (.aload 4, 2) := by decide +kernel
theorem dX5_wouldChange_73 : decode cX5_wouldChange 73 = .ok (.invokevirtual 151, 3) := by decide +kernel
theorem dX5_wouldChange_76 : decode cX5_wouldChange 76 = .ok (.iload 7, 2) := by decide +kernel
theorem dX5_wouldChange_78 : decode cX5_wouldChange 78 = .ok (.if_icmp .eq 6, 3) := by decide +kernel
theorem dX5_wouldChange_81 : decode cX5_wouldChange 81 = .ok (.iinc 5 1, 3) := by decide +kernel
theorem dX5_wouldChange_84 : decode cX5_wouldChange 84 = .ok (.iinc 6 1, 3) := by decide +kernel
theorem dX5_wouldChange_87 : decode cX5_wouldChange 87 = .ok (.goto (-49), 3) := by decide +kernel
theorem dX5_wouldChange_90 : decode cX5_wouldChange 90 = .ok (.iload 5, 2) := by decide +kernel
theorem dX5_wouldChange_92 : decode cX5_wouldChange 92 = .ok (.ireturn, 1) := by decide +kernel
theorem dX5_shareIn_0 : decode cX5_shareIn 0 = .ok (.aload_n 0, 1) := by decide +kernel
theorem dX5_shareIn_1 : decode cX5_shareIn 1 = .ok (.iload_n 1, 1) := by decide +kernel
theorem dX5_shareIn_2 : decode cX5_shareIn 2 = .ok (.invokevirtual 45, 3) := by decide +kernel
theorem dX5_shareIn_5 : decode cX5_shareIn 5 = .ok (.astore_n 3, 1) := by decide +kernel
theorem dX5_shareIn_6 : decode cX5_shareIn 6 = .ok (.iload_n 2, 1) := by decide +kernel
theorem dX5_shareIn_7 : decode cX5_shareIn 7 = .ok (.iconst 0, 1) := by decide +kernel
theorem dX5_shareIn_8 : decode cX5_shareIn 8 = .ok (.sipush 1000, 3) := by decide +kernel
theorem dX5_shareIn_11 : decode cX5_shareIn 11 = .ok (.invokestatic 22, 3) := by decide +kernel
theorem dX5_shareIn_14 : decode cX5_shareIn 14 = .ok (.ifCond .eq 13, 3) := by decide +kernel
theorem dX5_shareIn_17 : decode cX5_shareIn 17 = .ok (.new 26, 3) := by decide +kernel
theorem dX5_shareIn_20 : decode cX5_shareIn 20 = .ok (.dup, 1) := by decide +kernel
theorem dX5_shareIn_21 : decode cX5_shareIn 21 = .ok (.ldc 135, 2) := by decide +kernel
theorem dX5_shareIn_23 : decode cX5_shareIn 23 = .ok (.invokespecial 30, 3) := by decide +kernel
theorem dX5_shareIn_26 : decode cX5_shareIn 26 = .ok (.athrow, 1) := by decide +kernel
theorem dX5_shareIn_27 : decode cX5_shareIn 27 = .ok (.aload_n 3, 1) := by decide +kernel
theorem dX5_shareIn_28 : decode cX5_shareIn 28 = .ok (.aload_n 0, 1) := by decide +kernel
theorem dX5_shareIn_29 : decode cX5_shareIn 29 = .ok (.getfield 69, 3) := by decide +kernel
theorem dX5_shareIn_32 : decode cX5_shareIn 32 = .ok (.iload_n 2, 1) := by decide +kernel
theorem dX5_shareIn_33 : decode cX5_shareIn 33 = .ok (.iadd, 1) := by decide +kernel
theorem dX5_shareIn_34 : decode cX5_shareIn 34 = .ok (.invokevirtual 72, 3) := by decide +kernel
theorem dX5_shareIn_37 : decode cX5_shareIn 37 = .ok (.ireturn, 1) := by decide +kernel
theorem dX5_digest_0 : decode cX5_digest 0 = .ok (.ldc2_w 244, 3) := by decide +kernel
theorem dX5_digest_3 : decode cX5_digest 3 = .ok (.aload_n 0, 1) := by decide +kernel
theorem dX5_digest_4 : decode cX5_digest 4 = .ok (.invokevirtual 246, 3) := by decide +kernel
theorem dX5_digest_7 : decode cX5_digest 7 = .ok (.i2l, 1) := by decide +kernel
theorem dX5_digest_8 : decode cX5_digest 8 = .ok (.invokestatic 249, 3) := by decide +kernel
theorem dX5_digest_11 : decode cX5_digest 11 = .ok (.lstore_n 1, 1) := by decide +kernel
theorem dX5_digest_12 : decode cX5_digest 12 = .ok (.lload_n 1, 1) := by decide +kernel
theorem dX5_digest_13 : decode cX5_digest 13 = .ok (.aload_n 0, 1) := by decide +kernel
theorem dX5_digest_14 : decode cX5_digest 14 = .ok (.invokevirtual 253, 3) := by decide +kernel
theorem dX5_digest_17 : decode cX5_digest 17 = .ok (.i2l, 1) := by decide +kernel
theorem dX5_digest_18 : decode cX5_digest 18 = .ok (.invokestatic 249, 3) := by decide +kernel
theorem dX5_digest_21 : decode cX5_digest 21 = .ok (.lstore_n 1, 1) := by decide +kernel
theorem dX5_digest_22 : decode cX5_digest 22 = .ok (.iconst 0, 1) := by decide +kernel
theorem dX5_digest_23 : decode cX5_digest 23 = .ok (.istore_n 3, 1) := by decide +kernel
theorem dX5_digest_24 : decode cX5_digest 24 = .ok (.iload_n 3, 1) := by decide +kernel
theorem dX5_digest_25 : decode cX5_digest 25 = .ok (.iconst 3, 1) := by decide +kernel
theorem dX5_digest_26 : decode cX5_digest 26 = .ok (.if_icmp .ge 20, 3) := by decide +kernel
theorem dX5_digest_29 : decode cX5_digest 29 = .ok (.lload_n 1, 1) := by decide +kernel
theorem dX5_digest_30 : decode cX5_digest 30 = .ok (.aload_n 0, 1) := by decide +kernel
theorem dX5_digest_31 : decode cX5_digest 31 = .ok (.iload_n 3, 1) := by decide +kernel
theorem dX5_digest_32 : decode cX5_digest 32 = .ok (.invokevirtual 256, 3) := by decide +kernel
theorem dX5_digest_35 : decode cX5_digest 35 = .ok (.i2l, 1) := by decide +kernel
theorem dX5_digest_36 : decode cX5_digest 36 = .ok (.invokestatic 249, 3) := by decide +kernel
theorem dX5_digest_39 : decode cX5_digest 39 = .ok (.lstore_n 1, 1) := by decide +kernel
theorem dX5_digest_40 : decode cX5_digest 40 = .ok (.iinc 3 1, 3) := by decide +kernel
theorem dX5_digest_43 : decode cX5_digest 43 = .ok (.goto (-19), 3) := by decide +kernel
theorem dX5_digest_46 : decode cX5_digest 46 = .ok (.iconst 0, 1) := by decide +kernel
theorem dX5_digest_47 : decode cX5_digest 47 = .ok (.istore_n 3, 1) := by decide +kernel
theorem dX5_digest_48 : decode cX5_digest 48 = .ok (.iload_n 3, 1) := by decide +kernel
theorem dX5_digest_49 : decode cX5_digest 49 = .ok (.aload_n 0, 1) := by decide +kernel
theorem dX5_digest_50 : decode cX5_digest 50 = .ok (.getfield 33, 3) := by decide +kernel
theorem dX5_digest_53 : decode cX5_digest 53 = .ok (.if_icmp .ge 16, 3) := by decide +kernel
theorem dX5_digest_56 : decode cX5_digest 56 = .ok (.aload_n 0, 1) := by decide +kernel
theorem dX5_digest_57 : decode cX5_digest 57 = .ok (.lload_n 1, 1) := by decide +kernel
theorem dX5_digest_58 : decode cX5_digest 58 = .ok (.iload_n 3, 1) := by decide +kernel
theorem dX5_digest_59 : decode cX5_digest 59 = .ok (.invokevirtual 259, 3) := by decide +kernel
theorem dX5_digest_62 : decode cX5_digest 62 = .ok (.lstore_n 1, 1) := by decide +kernel
theorem dX5_digest_63 : decode cX5_digest 63 = .ok (.iinc 3 1, 3) := by decide +kernel
theorem dX5_digest_66 : decode cX5_digest 66 = .ok (.goto (-18), 3) := by decide +kernel
theorem dX5_digest_69 : decode cX5_digest 69 = .ok (.iconst 0, 1) := by decide +kernel
theorem dX5_digest_70 : decode cX5_digest 70 = .ok (.istore_n 3, 1) := by decide +kernel
theorem dX5_digest_71 : decode cX5_digest 71 = .ok (.iload_n 3, 1) := by decide +kernel
theorem dX5_digest_72 : decode cX5_digest 72 = .ok (.bipush 10, 2) := by decide +kernel
theorem dX5_digest_74 : decode cX5_digest 74 = .ok (.if_icmp .ge 76, 3) := by decide +kernel
theorem dX5_digest_77 : decode cX5_digest 77 = .ok (.iconst 0, 1) := by decide +kernel
theorem dX5_digest_78 : decode cX5_digest 78 = .ok (.istore 4, 2) := by decide +kernel
theorem dX5_digest_80 : decode cX5_digest 80 = .ok (.iload 4, 2) := by decide +kernel
theorem dX5_digest_82 : decode cX5_digest 82 = .ok (.aload_n 0, 1) := by decide +kernel
theorem dX5_digest_83 : decode cX5_digest 83 = .ok (.getfield 33, 3) := by decide +kernel
theorem dX5_digest_86 : decode cX5_digest 86 = .ok (.if_icmp .ge 58, 3) := by decide +kernel
theorem dX5_digest_89 : decode cX5_digest 89 = .ok (.lload_n 1, 1) := by decide +kernel
theorem dX5_digest_90 : decode cX5_digest 90 = .ok (.aload_n 0, 1) := by decide +kernel
theorem dX5_digest_91 : decode cX5_digest 91 = .ok (.iload 4, 2) := by decide +kernel
theorem dX5_digest_93 : decode cX5_digest 93 = .ok (.iload_n 3, 1) := by decide +kernel
theorem dX5_digest_94 : decode cX5_digest 94 = .ok (.iload_n 3, 1) := by decide +kernel
theorem dX5_digest_95 : decode cX5_digest 95 = .ok (.bipush 9, 2) := by decide +kernel
theorem dX5_digest_97 : decode cX5_digest 97 = .ok (.iload_n 3, 1) := by decide +kernel
theorem dX5_digest_98 : decode cX5_digest 98 = .ok (.isub, 1) := by decide +kernel
theorem dX5_digest_99 : decode cX5_digest 99 = .ok (.invokevirtual 263, 3) := by decide +kernel
theorem dX5_digest_102 : decode cX5_digest 102 = .ok (.i2l, 1) := by decide +kernel
theorem dX5_digest_103 : decode cX5_digest 103 = .ok (.invokestatic 249, 3) := by decide +kernel
theorem dX5_digest_106 : decode cX5_digest 106 = .ok (.lstore_n 1, 1) := by decide +kernel
theorem dX5_digest_107 : decode cX5_digest 107 = .ok (.lload_n 1, 1) := by decide +kernel
theorem dX5_digest_108 : decode cX5_digest 108 = .ok (.aload_n 0, 1) := by decide +kernel
theorem dX5_digest_109 : decode cX5_digest 109 = .ok (.iload 4, 2) := by decide +kernel
theorem dX5_digest_111 : decode cX5_digest 111 = .ok (.iload_n 3, 1) := by decide +kernel
theorem dX5_digest_112 : decode cX5_digest 112 = .ok (.iload_n 3, 1) := by decide +kernel
theorem dX5_digest_113 : decode cX5_digest 113 = .ok (.bipush 9, 2) := by decide +kernel
theorem dX5_digest_115 : decode cX5_digest 115 = .ok (.iload_n 3, 1) := by decide +kernel
theorem dX5_digest_116 : decode cX5_digest 116 = .ok (.isub, 1) := by decide +kernel
theorem dX5_digest_117 : decode cX5_digest 117 = .ok (.invokevirtual 267, 3) := by decide +kernel
theorem dX5_digest_120 : decode cX5_digest 120 = .ok (.i2l, 1) := by decide +kernel
theorem dX5_digest_121 : decode cX5_digest 121 = .ok (.invokestatic 249, 3) := by decide +kernel
theorem dX5_digest_124 : decode cX5_digest 124 = .ok (.lstore_n 1, 1) := by decide +kernel
theorem dX5_digest_125 : decode cX5_digest 125 = .ok (.lload_n 1, 1) := by decide +kernel
theorem dX5_digest_126 : decode cX5_digest 126 = .ok (.aload_n 0, 1) := by decide +kernel
theorem dX5_digest_127 : decode cX5_digest 127 = .ok (.iload 4, 2) := by decide +kernel
theorem dX5_digest_129 : decode cX5_digest 129 = .ok (.iload_n 3, 1) := by decide +kernel
theorem dX5_digest_130 : decode cX5_digest 130 = .ok (.invokevirtual 270, 3) := by decide +kernel
theorem dX5_digest_133 : decode cX5_digest 133 = .ok (.i2l, 1) := by decide +kernel
theorem dX5_digest_134 : decode cX5_digest 134 = .ok (.invokestatic 249, 3) := by decide +kernel
theorem dX5_digest_137 : decode cX5_digest 137 = .ok (.lstore_n 1, 1) := by decide +kernel
theorem dX5_digest_138 : decode cX5_digest 138 = .ok (.iinc 4 1, 3) := by decide +kernel
theorem dX5_digest_141 : decode cX5_digest 141 = .ok (.goto (-61), 3) := by decide +kernel
theorem dX5_digest_144 : decode cX5_digest 144 = .ok (.iinc 3 1, 3) := by decide +kernel
theorem dX5_digest_147 : decode cX5_digest 147 = .ok (.goto (-76), 3) := by decide +kernel
theorem dX5_digest_150 : decode cX5_digest 150 = .ok (.lload_n 1, 1) := by decide +kernel
theorem dX5_digest_151 : decode cX5_digest 151 = .ok (.lreturn, 1) := by decide +kernel
theorem dX5_withSwitch_0 : decode cX5_withSwitch 0 = .ok (.lload_n 1, 1) := by decide +kernel
theorem dX5_withSwitch_1 : decode cX5_withSwitch 1 = .ok (.aload_n 0, 1) := by decide +kernel
theorem dX5_withSwitch_2 : decode cX5_withSwitch 2 = .ok (.iload_n 3, 1) := by decide +kernel
theorem dX5_withSwitch_3 : decode cX5_withSwitch 3 = .ok (.invokevirtual 273, 3) := by decide +kernel
theorem dX5_withSwitch_6 : decode cX5_withSwitch 6 = .ok (.i2l, 1) := by decide +kernel
theorem dX5_withSwitch_7 : decode cX5_withSwitch 7 = .ok (.invokestatic 249, 3) := by decide +kernel
theorem dX5_withSwitch_10 : decode cX5_withSwitch 10 = .ok (.lstore 4, 2) := by decide +kernel
theorem dX5_withSwitch_12 : decode cX5_withSwitch 12 = .ok (.lload 4, 2) := by decide +kernel
theorem dX5_withSwitch_14 : decode cX5_withSwitch 14 = .ok (.aload_n 0, 1) := by decide +kernel
theorem dX5_withSwitch_15 : decode cX5_withSwitch 15 = .ok (.iload_n 3, 1) := by decide +kernel
theorem dX5_withSwitch_16 : decode cX5_withSwitch 16 = .ok (.invokevirtual 276, 3) := by decide +kernel
theorem dX5_withSwitch_19 : decode cX5_withSwitch 19 = .ok (.i2l, 1) := by decide +kernel
theorem dX5_withSwitch_20 : decode cX5_withSwitch 20 = .ok (.invokestatic 249, 3) := by decide +kernel
theorem dX5_withSwitch_23 : decode cX5_withSwitch 23 = .ok (.lstore 4, 2) := by decide +kernel
theorem dX5_withSwitch_25 : decode cX5_withSwitch 25 = .ok (.lload 4, 2) := by decide +kernel
theorem dX5_withSwitch_27 : decode cX5_withSwitch 27 = .ok (.aload_n 0, 1) := by decide +kernel
theorem dX5_withSwitch_28 : decode cX5_withSwitch 28 = .ok (.iload_n 3, 1) := by decide +kernel
theorem dX5_withSwitch_29 : decode cX5_withSwitch 29 = .ok (.invokevirtual 279, 3) := by decide +kernel
theorem dX5_withSwitch_32 : decode cX5_withSwitch 32 = .ok (.ifCond .eq 7, 3) := by decide +kernel
theorem dX5_withSwitch_35 : decode cX5_withSwitch 35 = .ok (.lconst 1, 1) := by decide +kernel
theorem dX5_withSwitch_36 : decode cX5_withSwitch 36 = .ok (.goto 4, 3) := by decide +kernel
theorem dX5_withSwitch_39 : decode cX5_withSwitch 39 = .ok (.lconst 0, 1) := by decide +kernel
theorem dX5_withSwitch_40 : decode cX5_withSwitch 40 = .ok (.invokestatic 249, 3) := by decide +kernel
theorem dX5_withSwitch_43 : decode cX5_withSwitch 43 = .ok (.lstore 4, 2) := by decide +kernel
theorem dX5_withSwitch_45 : decode cX5_withSwitch 45 = .ok (.lload 4, 2) := by decide +kernel
theorem dX5_withSwitch_47 : decode cX5_withSwitch 47 = .ok (.aload_n 0, 1) := by decide +kernel
theorem dX5_withSwitch_48 : decode cX5_withSwitch 48 = .ok (.iload_n 3, 1) := by decide +kernel
theorem dX5_withSwitch_49 : decode cX5_withSwitch 49 = .ok (.invokevirtual 283, 3) := by decide +kernel
theorem dX5_withSwitch_52 : decode cX5_withSwitch 52 = .ok (.i2l, 1) := by decide +kernel
theorem dX5_withSwitch_53 : decode cX5_withSwitch 53 = .ok (.invokestatic 249, 3) := by decide +kernel
theorem dX5_withSwitch_56 : decode cX5_withSwitch 56 = .ok (.lstore 4, 2) := by decide +kernel
theorem dX5_withSwitch_58 : decode cX5_withSwitch 58 = .ok (.aload_n 0, 1) := by decide +kernel
theorem dX5_withSwitch_59 : decode cX5_withSwitch 59 = .ok (.iload_n 3, 1) := by decide +kernel
theorem dX5_withSwitch_60 : decode cX5_withSwitch 60 = .ok (.invokevirtual 45, 3) := by decide +kernel
theorem dX5_withSwitch_63 : decode cX5_withSwitch 63 = .ok (.getfield 286, 3) := by decide +kernel
theorem dX5_withSwitch_66 : decode cX5_withSwitch 66 = .ok (.istore 6, 2) := by decide +kernel
theorem dX5_withSwitch_68 : decode cX5_withSwitch 68 = .ok (.iconst 0, 1) := by decide +kernel
theorem dX5_withSwitch_69 : decode cX5_withSwitch 69 = .ok (.istore 7, 2) := by decide +kernel
theorem dX5_withSwitch_71 : decode cX5_withSwitch 71 = .ok (.iload 7, 2) := by decide +kernel
theorem dX5_withSwitch_73 : decode cX5_withSwitch 73 = .ok (.iload 6, 2) := by decide +kernel
theorem dX5_withSwitch_75 : decode cX5_withSwitch 75 = .ok (.if_icmp .ge 73, 3) := by decide +kernel
theorem dX5_withSwitch_78 : decode cX5_withSwitch 78 = .ok (.lload 4, 2) := by decide +kernel
theorem dX5_withSwitch_80 : decode cX5_withSwitch 80 = .ok (.aload_n 0, 1) := by decide +kernel
theorem dX5_withSwitch_81 : decode cX5_withSwitch 81 = .ok (.iload_n 3, 1) := by decide +kernel
theorem dX5_withSwitch_82 : decode cX5_withSwitch 82 = .ok (.iload 7, 2) := by decide +kernel
theorem dX5_withSwitch_84 : decode cX5_withSwitch 84 = .ok (.invokevirtual 289, 3) := by decide +kernel
theorem dX5_withSwitch_87 : decode cX5_withSwitch 87 = .ok (.i2l, 1) := by decide +kernel
theorem dX5_withSwitch_88 : decode cX5_withSwitch 88 = .ok (.invokestatic 249, 3) := by decide +kernel
theorem dX5_withSwitch_91 : decode cX5_withSwitch 91 = .ok (.lstore 4, 2) := by decide +kernel
theorem dX5_withSwitch_93 : decode cX5_withSwitch 93 = .ok (.iconst 0, 1) := by decide +kernel
theorem dX5_withSwitch_94 : decode cX5_withSwitch 94 = .ok (.istore 8, 2) := by decide +kernel
theorem dX5_withSwitch_96 : decode cX5_withSwitch 96 = .ok (.iload 8, 2) := by decide +kernel
theorem dX5_withSwitch_98 : decode cX5_withSwitch 98 = .ok (.iconst 3, 1) := by decide +kernel
theorem dX5_withSwitch_99 : decode cX5_withSwitch 99 = .ok (.if_icmp .gt 26, 3) := by decide +kernel
theorem dX5_withSwitch_102 : decode cX5_withSwitch 102 = .ok (.lload 4, 2) := by decide +kernel
theorem dX5_withSwitch_104 : decode cX5_withSwitch 104 = .ok (.aload_n 0, 1) := by decide +kernel
theorem dX5_withSwitch_105 : decode cX5_withSwitch 105 = .ok (.iload_n 3, 1) := by decide +kernel
theorem dX5_withSwitch_106 : decode cX5_withSwitch 106 = .ok (.iload 7, 2) := by decide +kernel
theorem dX5_withSwitch_108 : decode cX5_withSwitch 108 = .ok (.iload 8, 2) := by decide +kernel
theorem dX5_withSwitch_110 : decode cX5_withSwitch 110 = .ok (.invokevirtual 292, 3) := by decide +kernel
theorem dX5_withSwitch_113 : decode cX5_withSwitch 113 = .ok (.i2l, 1) := by decide +kernel
theorem dX5_withSwitch_114 : decode cX5_withSwitch 114 = .ok (.invokestatic 249, 3) := by decide +kernel
theorem dX5_withSwitch_117 : decode cX5_withSwitch 117 = .ok (.lstore 4, 2) := by decide +kernel
theorem dX5_withSwitch_119 : decode cX5_withSwitch 119 = .ok (.iinc 8 1, 3) := by decide +kernel
theorem dX5_withSwitch_122 : decode cX5_withSwitch 122 = .ok (.goto (-26), 3) := by decide +kernel
theorem dX5_withSwitch_125 : decode cX5_withSwitch 125 = .ok (.lload 4, 2) := by decide +kernel
theorem dX5_withSwitch_127 : decode cX5_withSwitch 127 = .ok (.aload_n 0, 1) := by decide +kernel
theorem dX5_withSwitch_128 : decode cX5_withSwitch 128 = .ok (.iload_n 3, 1) := by decide +kernel
theorem dX5_withSwitch_129 : decode cX5_withSwitch 129 = .ok (.iload 7, 2) := by decide +kernel
theorem dX5_withSwitch_131 : decode cX5_withSwitch 131 = .ok (.bipush 20, 2) := by decide +kernel
theorem dX5_withSwitch_133 : decode cX5_withSwitch 133 = .ok (.invokevirtual 296, 3) := by decide +kernel
theorem dX5_withSwitch_136 : decode cX5_withSwitch 136 = .ok (.i2l, 1) := by decide +kernel
theorem dX5_withSwitch_137 : decode cX5_withSwitch 137 = .ok (.invokestatic 249, 3) := by decide +kernel
theorem dX5_withSwitch_140 : decode cX5_withSwitch 140 = .ok (.lstore 4, 2) := by decide +kernel
theorem dX5_withSwitch_142 : decode cX5_withSwitch 142 = .ok (.iinc 7 1, 3) := by decide +kernel
theorem dX5_withSwitch_145 : decode cX5_withSwitch 145 = .ok (.goto (-74), 3) := by decide +kernel
theorem dX5_withSwitch_148 : decode cX5_withSwitch 148 = .ok (.lload 4, 2) := by decide +kernel
theorem dX5_withSwitch_150 : decode cX5_withSwitch 150 = .ok (.lreturn, 1) := by decide +kernel
theorem dX5_withNext_0 : decode cX5_withNext 0 = .ok (.lload_n 0, 1) := by decide +kernel
theorem dX5_withNext_1 : decode cX5_withNext 1 = .ok (.ldc2_w 299, 3) := by decide +kernel
theorem dX5_withNext_4 : decode cX5_withNext 4 = .ok (.lmul, 1) := by decide +kernel
theorem dX5_withNext_5 : decode cX5_withNext 5 = .ok (.lload_n 2, 1) := by decide +kernel
theorem dX5_withNext_6 : decode cX5_withNext 6 = .ok (.ladd, 1) := by decide +kernel
theorem dX5_withNext_7 : decode cX5_withNext 7 = .ok (.lreturn, 1) := by decide +kernel
theorem dX5_isOutside_0 : decode cX5_isOutside 0 = .ok (.iload_n 0, 1) := by decide +kernel
theorem dX5_isOutside_1 : decode cX5_isOutside 1 = .ok (.iload_n 1, 1) := by decide +kernel
theorem dX5_isOutside_2 : decode cX5_isOutside 2 = .ok (.if_icmp .lt 8, 3) := by decide +kernel
theorem dX5_isOutside_5 : decode cX5_isOutside 5 = .ok (.iload_n 0, 1) := by decide +kernel
theorem dX5_isOutside_6 : decode cX5_isOutside 6 = .ok (.iload_n 2, 1) := by decide +kernel
theorem dX5_isOutside_7 : decode cX5_isOutside 7 = .ok (.if_icmp .le 7, 3) := by decide +kernel
theorem dX5_isOutside_10 : decode cX5_isOutside 10 = .ok (.iconst 1, 1) := by decide +kernel
theorem dX5_isOutside_11 : decode cX5_isOutside 11 = .ok (.goto 4, 3) := by decide +kernel
theorem dX5_isOutside_14 : decode cX5_isOutside 14 = .ok (.iconst 0, 1) := by decide +kernel
theorem dX5_isOutside_15 : decode cX5_isOutside 15 = .ok (.ireturn, 1) := by decide +kernel
theorem dX5_bucketOf_0 : decode cX5_bucketOf 0 = .ok (.iload_n 0, 1) := by decide +kernel
theorem dX5_bucketOf_1 : decode cX5_bucketOf 1 = .ok (.sipush 7919, 3) := by decide +kernel
theorem dX5_bucketOf_4 : decode cX5_bucketOf 4 = .ok (.imul, 1) := by decide +kernel
theorem dX5_bucketOf_5 : decode cX5_bucketOf 5 = .ok (.iload_n 1, 1) := by decide +kernel
theorem dX5_bucketOf_6 : decode cX5_bucketOf 6 = .ok (.bipush 31, 2) := by decide +kernel
theorem dX5_bucketOf_8 : decode cX5_bucketOf 8 = .ok (.imul, 1) := by decide +kernel
theorem dX5_bucketOf_9 : decode cX5_bucketOf 9 = .ok (.iadd, 1) := by decide +kernel
theorem dX5_bucketOf_10 : decode cX5_bucketOf 10 = .ok (.bipush 17, 2) := by decide +kernel
theorem dX5_bucketOf_12 : decode cX5_bucketOf 12 = .ok (.iadd, 1) := by decide +kernel
theorem dX5_bucketOf_13 : decode cX5_bucketOf 13 = .ok (.sipush 10007, 3) := by decide +kernel
theorem dX5_bucketOf_16 : decode cX5_bucketOf 16 = .ok (.irem, 1) := by decide +kernel
theorem dX5_bucketOf_17 : decode cX5_bucketOf 17 = .ok (.istore_n 2, 1) := by decide +kernel
theorem dX5_bucketOf_18 : decode cX5_bucketOf 18 = .ok (.iload_n 2, 1) := by decide +kernel
theorem dX5_bucketOf_19 : decode cX5_bucketOf 19 = .ok (.iload_n 2, 1) := by decide +kernel
theorem dX5_bucketOf_20 : decode cX5_bucketOf 20 = .ok (.imul, 1) := by decide +kernel
theorem dX5_bucketOf_21 : decode cX5_bucketOf 21 = .ok (.iload_n 0, 1) := by decide +kernel
theorem dX5_bucketOf_22 : decode cX5_bucketOf 22 = .ok (.iadd, 1) := by decide +kernel
theorem dX5_bucketOf_23 : decode cX5_bucketOf 23 = .ok (.iconst 3, 1) := by decide +kernel
theorem dX5_bucketOf_24 : decode cX5_bucketOf 24 = .ok (.iload_n 1, 1) := by decide +kernel
theorem dX5_bucketOf_25 : decode cX5_bucketOf 25 = .ok (.imul, 1) := by decide +kernel
theorem dX5_bucketOf_26 : decode cX5_bucketOf 26 = .ok (.iadd, 1) := by decide +kernel
theorem dX5_bucketOf_27 : decode cX5_bucketOf 27 = .ok (.sipush 10007, 3) := by decide +kernel
theorem dX5_bucketOf_30 : decode cX5_bucketOf 30 = .ok (.irem, 1) := by decide +kernel
theorem dX5_bucketOf_31 : decode cX5_bucketOf 31 = .ok (.istore_n 3, 1) := by decide +kernel
theorem dX5_bucketOf_32 : decode cX5_bucketOf 32 = .ok (.iload_n 3, 1) := by decide +kernel
theorem dX5_bucketOf_33 : decode cX5_bucketOf 33 = .ok (.sipush 1000, 3) := by decide +kernel
theorem dX5_bucketOf_36 : decode cX5_bucketOf 36 = .ok (.irem, 1) := by decide +kernel
theorem dX5_bucketOf_37 : decode cX5_bucketOf 37 = .ok (.ireturn, 1) := by decide +kernel
theorem dX5_switchAt_0 : decode cX5_switchAt 0 = .ok (.iload_n 1, 1) := by decide +kernel
theorem dX5_switchAt_1 : decode cX5_switchAt 1 = .ok (.ifCond .lt 12, 3) := by decide +kernel
theorem dX5_switchAt_4 : decode cX5_switchAt 4 = .ok (.iload_n 1, 1) := by decide +kernel
theorem dX5_switchAt_5 : decode cX5_switchAt 5 = .ok (.aload_n 0, 1) := by decide +kernel
theorem dX5_switchAt_6 : decode cX5_switchAt 6 = .ok (.getfield 11, 3) := by decide +kernel
theorem dX5_switchAt_9 : decode cX5_switchAt 9 = .ok (.arraylength, 1) := by decide +kernel
theorem dX5_switchAt_10 : decode cX5_switchAt 10 = .ok (.if_icmp .lt 7, 3) := by decide +kernel
theorem dX5_switchAt_13 : decode cX5_switchAt 13 = .ok (.aconst_null, 1) := by decide +kernel
theorem dX5_switchAt_14 : decode cX5_switchAt 14 = .ok (.goto 9, 3) := by decide +kernel
theorem dX5_switchAt_17 : decode cX5_switchAt 17 = .ok (.aload_n 0, 1) := by decide +kernel
theorem dX5_switchAt_18 : decode cX5_switchAt 18 = .ok (.getfield 11, 3) := by decide +kernel
theorem dX5_switchAt_21 : decode cX5_switchAt 21 = .ok (.iload_n 1, 1) := by decide +kernel
theorem dX5_switchAt_22 : decode cX5_switchAt 22 = .ok (.aaload, 1) := by decide +kernel
theorem dX5_switchAt_23 : decode cX5_switchAt 23 = .ok (.areturn, 1) := by decide +kernel
theorem dX5_known_0 : decode cX5_known 0 = .ok (.aload_n 0, 1) := by decide +kernel
theorem dX5_known_1 : decode cX5_known 1 = .ok (.iload_n 1, 1) := by decide +kernel
theorem dX5_known_2 : decode cX5_known 2 = .ok (.invokevirtual 301, 3) := by decide +kernel
theorem dX5_known_5 : decode cX5_known 5 = .ok (.astore_n 2, 1) := by decide +kernel
theorem dX5_known_6 : decode cX5_known 6 = .ok (.aload_n 2, 1) := by decide +kernel
theorem dX5_known_7 : decode cX5_known 7 = .ok (.ifnonnull 14, 3) := by decide +kernel
theorem dX5_known_10 : decode cX5_known 10 = .ok (.new 121, 3) := by decide +kernel
theorem dX5_known_13 : decode cX5_known 13 = .ok (.dup, 1) := by decide +kernel
theorem dX5_known_14 : decode cX5_known 14 = .ok (.ldc_w 304, 3) := by decide +kernel
theorem dX5_known_17 : decode cX5_known 17 = .ok (.invokespecial 125, 3) := by decide +kernel
theorem dX5_known_20 : decode cX5_known 20 = .ok (.athrow, 1) := by decide +kernel
theorem dX5_known_21 : decode cX5_known 21 = .ok (.aload_n 2, 1) := by decide +kernel
theorem dX5_known_22 : decode cX5_known 22 = .ok (.areturn, 1) := by decide +kernel
theorem dX5_checkVariant_0 : decode cX5_checkVariant 0 = .ok (.iload_n 1, 1) := by decide +kernel
theorem dX5_checkVariant_1 : decode cX5_checkVariant 1 = .ok (.iconst 0, 1) := by decide +kernel
theorem dX5_checkVariant_2 : decode cX5_checkVariant 2 = .ok (.aload_n 0, 1) := by decide +kernel
theorem dX5_checkVariant_3 : decode cX5_checkVariant 3 = .ok (.getfield 286, 3) := by decide +kernel
theorem dX5_checkVariant_6 : decode cX5_checkVariant 6 = .ok (.iconst 1, 1) := by decide +kernel
theorem dX5_checkVariant_7 : decode cX5_checkVariant 7 = .ok (.isub, 1) := by decide +kernel
theorem dX5_checkVariant_8 : decode cX5_checkVariant 8 = .ok (.invokestatic 22, 3) := by decide +kernel
theorem dX5_checkVariant_11 : decode cX5_checkVariant 11 = .ok (.ifCond .eq 14, 3) := by decide +kernel
theorem dX5_checkVariant_14 : decode cX5_checkVariant 14 = .ok (.new 121, 3) := by decide +kernel
theorem dX5_checkVariant_17 : decode cX5_checkVariant 17 = .ok (.dup, 1) := by decide +kernel
theorem dX5_checkVariant_18 : decode cX5_checkVariant 18 = .ok (.ldc_w 306, 3) := by decide +kernel
theorem dX5_checkVariant_21 : decode cX5_checkVariant 21 = .ok (.invokespecial 125, 3) := by decide +kernel
theorem dX5_checkVariant_24 : decode cX5_checkVariant 24 = .ok (.athrow, 1) := by decide +kernel
theorem dX5_checkVariant_25 : decode cX5_checkVariant 25 = .ok (.return_, 1) := by decide +kernel
theorem dX5_checkAsker_0 : decode cX5_checkAsker 0 = .ok (.iload_n 0, 1) := by decide +kernel
theorem dX5_checkAsker_1 : decode cX5_checkAsker 1 = .ok (.iconst 0, 1) := by decide +kernel
theorem dX5_checkAsker_2 : decode cX5_checkAsker 2 = .ok (.sipush 9999, 3) := by decide +kernel
theorem dX5_checkAsker_5 : decode cX5_checkAsker 5 = .ok (.invokestatic 22, 3) := by decide +kernel
theorem dX5_checkAsker_8 : decode cX5_checkAsker 8 = .ok (.ifCond .ne 23, 3) := by decide +kernel
theorem dX5_checkAsker_11 : decode cX5_checkAsker 11 = .ok (.iload_n 1, 1) := by decide +kernel
theorem dX5_checkAsker_12 : decode cX5_checkAsker 12 = .ok (.iconst 0, 1) := by decide +kernel
theorem dX5_checkAsker_13 : decode cX5_checkAsker 13 = .ok (.bipush 9, 2) := by decide +kernel
theorem dX5_checkAsker_15 : decode cX5_checkAsker 15 = .ok (.invokestatic 22, 3) := by decide +kernel
theorem dX5_checkAsker_18 : decode cX5_checkAsker 18 = .ok (.ifCond .ne 13, 3) := by decide +kernel
theorem dX5_checkAsker_21 : decode cX5_checkAsker 21 = .ok (.iload_n 2, 1) := by decide +kernel
theorem dX5_checkAsker_22 : decode cX5_checkAsker 22 = .ok (.iconst 0, 1) := by decide +kernel
theorem dX5_checkAsker_23 : decode cX5_checkAsker 23 = .ok (.bipush 9, 2) := by decide +kernel
theorem dX5_checkAsker_25 : decode cX5_checkAsker 25 = .ok (.invokestatic 22, 3) := by decide +kernel
theorem dX5_checkAsker_28 : decode cX5_checkAsker 28 = .ok (.ifCond .eq 14, 3) := by decide +kernel
theorem dX5_checkAsker_31 : decode cX5_checkAsker 31 = .ok (.new 26, 3) := by decide +kernel
theorem dX5_checkAsker_34 : decode cX5_checkAsker 34 = .ok (.dup, 1) := by decide +kernel
theorem dX5_checkAsker_35 : decode cX5_checkAsker 35 = .ok (.ldc_w 308, 3) := by decide +kernel
theorem dX5_checkAsker_38 : decode cX5_checkAsker 38 = .ok (.invokespecial 30, 3) := by decide +kernel
theorem dX5_checkAsker_41 : decode cX5_checkAsker 41 = .ok (.athrow, 1) := by decide +kernel
theorem dX5_checkAsker_42 : decode cX5_checkAsker 42 = .ok (.return_, 1) := by decide +kernel
theorem dX5_checkMany_0 : decode cX5_checkMany 0 = .ok (.iload_n 0, 1) := by decide +kernel
theorem dX5_checkMany_1 : decode cX5_checkMany 1 = .ok (.iconst 1, 1) := by decide +kernel
theorem dX5_checkMany_2 : decode cX5_checkMany 2 = .ok (.sipush 200, 3) := by decide +kernel
theorem dX5_checkMany_5 : decode cX5_checkMany 5 = .ok (.invokestatic 22, 3) := by decide +kernel
theorem dX5_checkMany_8 : decode cX5_checkMany 8 = .ok (.ifCond .eq 14, 3) := by decide +kernel
theorem dX5_checkMany_11 : decode cX5_checkMany 11 = .ok (.new 26, 3) := by decide +kernel
theorem dX5_checkMany_14 : decode cX5_checkMany 14 = .ok (.dup, 1) := by decide +kernel
theorem dX5_checkMany_15 : decode cX5_checkMany 15 = .ok (.ldc_w 310, 3) := by decide +kernel
theorem dX5_checkMany_18 : decode cX5_checkMany 18 = .ok (.invokespecial 30, 3) := by decide +kernel
theorem dX5_checkMany_21 : decode cX5_checkMany 21 = .ok (.athrow, 1) := by decide +kernel
theorem dX5_checkMany_22 : decode cX5_checkMany 22 = .ok (.return_, 1) := by decide +kernel
theorem dX5_checkRange_0 : decode cX5_checkRange 0 = .ok (.iload_n 0, 1) := by decide +kernel
theorem dX5_checkRange_1 : decode cX5_checkRange 1 = .ok (.iconst 0, 1) := by decide +kernel
theorem dX5_checkRange_2 : decode cX5_checkRange 2 = .ok (.iconst 2, 1) := by decide +kernel
theorem dX5_checkRange_3 : decode cX5_checkRange 3 = .ok (.invokestatic 22, 3) := by decide +kernel
theorem dX5_checkRange_6 : decode cX5_checkRange 6 = .ok (.ifCond .ne 19, 3) := by decide +kernel
theorem dX5_checkRange_9 : decode cX5_checkRange 9 = .ok (.iload_n 1, 1) := by decide +kernel
theorem dX5_checkRange_10 : decode cX5_checkRange 10 = .ok (.ifCond .lt 15, 3) := by decide +kernel
theorem dX5_checkRange_13 : decode cX5_checkRange 13 = .ok (.iload_n 1, 1) := by decide +kernel
theorem dX5_checkRange_14 : decode cX5_checkRange 14 = .ok (.iload_n 2, 1) := by decide +kernel
theorem dX5_checkRange_15 : decode cX5_checkRange 15 = .ok (.if_icmp .gt 10, 3) := by decide +kernel
theorem dX5_checkRange_18 : decode cX5_checkRange 18 = .ok (.iload_n 2, 1) := by decide +kernel
theorem dX5_checkRange_19 : decode cX5_checkRange 19 = .ok (.sipush 1000, 3) := by decide +kernel
theorem dX5_checkRange_22 : decode cX5_checkRange 22 = .ok (.if_icmp .le 14, 3) := by decide +kernel
theorem dX5_checkRange_25 : decode cX5_checkRange 25 = .ok (.new 26, 3) := by decide +kernel
theorem dX5_checkRange_28 : decode cX5_checkRange 28 = .ok (.dup, 1) := by decide +kernel
theorem dX5_checkRange_29 : decode cX5_checkRange 29 = .ok (.ldc_w 312, 3) := by decide +kernel
theorem dX5_checkRange_32 : decode cX5_checkRange 32 = .ok (.invokespecial 30, 3) := by decide +kernel
theorem dX5_checkRange_35 : decode cX5_checkRange 35 = .ok (.athrow, 1) := by decide +kernel
theorem dX5_checkRange_36 : decode cX5_checkRange 36 = .ok (.return_, 1) := by decide +kernel
theorem dX5_isTaken_0 : decode cX5_isTaken 0 = .ok (.aload_n 0, 1) := by decide +kernel
theorem dX5_isTaken_1 : decode cX5_isTaken 1 = .ok (.getfield 11, 3) := by decide +kernel
theorem dX5_isTaken_4 : decode cX5_isTaken 4 = .ok (.astore 5, 2) := by decide +kernel
theorem dX5_isTaken_6 : decode cX5_isTaken 6 = .ok (.aload 5, 2) := by decide +kernel
theorem dX5_isTaken_8 : decode cX5_isTaken 8 = .ok (.arraylength, 1) := by decide +kernel
theorem dX5_isTaken_9 : decode cX5_isTaken 9 = .ok (.istore 6, 2) := by decide +kernel
theorem dX5_isTaken_11 : decode cX5_isTaken 11 = .ok (.iconst 0, 1) := by decide +kernel
theorem dX5_isTaken_12 : decode cX5_isTaken 12 = .ok (.istore 7, 2) := by decide +kernel
theorem dX5_isTaken_14 : decode cX5_isTaken 14 = .ok (.iload 7, 2) := by decide +kernel
theorem dX5_isTaken_16 : decode cX5_isTaken 16 = .ok (.iload 6, 2) := by decide +kernel
theorem dX5_isTaken_18 : decode cX5_isTaken 18 = .ok (.if_icmp .ge 52, 3) := by decide +kernel
theorem dX5_isTaken_21 : decode cX5_isTaken 21 = .ok (.aload 5, 2) := by decide +kernel
theorem dX5_isTaken_23 : decode cX5_isTaken 23 = .ok (.iload 7, 2) := by decide +kernel
theorem dX5_isTaken_25 : decode cX5_isTaken 25 = .ok (.aaload, 1) := by decide +kernel
theorem dX5_isTaken_26 : decode cX5_isTaken 26 = .ok (.astore 8, 2) := by decide +kernel
theorem dX5_isTaken_28 : decode cX5_isTaken 28 = .ok (.aload 8, 2) := by decide +kernel
theorem dX5_isTaken_30 : decode cX5_isTaken 30 = .ok (.ifnull 34, 3) := by decide +kernel
theorem dX5_isTaken_33 : decode cX5_isTaken 33 = .ok (.aload 8, 2) := by decide +kernel
theorem dX5_isTaken_35 : decode cX5_isTaken 35 = .ok (.getfield 314, 3) := by decide +kernel
theorem dX5_isTaken_38 : decode cX5_isTaken 38 = .ok (.iload_n 1, 1) := by decide +kernel
theorem dX5_isTaken_39 : decode cX5_isTaken 39 = .ok (.if_icmp .eq 25, 3) := by decide +kernel
theorem dX5_isTaken_42 : decode cX5_isTaken 42 = .ok (.aload 8, 2) := by decide +kernel
theorem dX5_isTaken_44 : decode cX5_isTaken 44 = .ok (.getfield 88, 3) := by decide +kernel
theorem dX5_isTaken_47 : decode cX5_isTaken 47 = .ok (.iload_n 2, 1) := by decide +kernel
theorem dX5_isTaken_48 : decode cX5_isTaken 48 = .ok (.if_icmp .ne 16, 3) := by decide +kernel
theorem dX5_isTaken_51 : decode cX5_isTaken 51 = .ok (.aload 8, 2) := by decide +kernel
theorem dX5_isTaken_53 : decode cX5_isTaken 53 = .ok (.iload_n 3, 1) := by decide +kernel
theorem dX5_isTaken_54 : decode cX5_isTaken 54 = .ok (.iload 4, 2) := by decide +kernel
theorem dX5_isTaken_56 : decode cX5_isTaken 56 = .ok (.invokevirtual 317, 3) := by decide +kernel
theorem dX5_isTaken_59 : decode cX5_isTaken 59 = .ok (.ifCond .eq 5, 3) := by decide +kernel
theorem dX5_isTaken_62 : decode cX5_isTaken 62 = .ok (.iconst 1, 1) := by decide +kernel
theorem dX5_isTaken_63 : decode cX5_isTaken 63 = .ok (.ireturn, 1) := by decide +kernel
theorem dX5_isTaken_64 : decode cX5_isTaken 64 = .ok (.iinc 7 1, 3) := by decide +kernel
theorem dX5_isTaken_67 : decode cX5_isTaken 67 = .ok (.goto (-53), 3) := by decide +kernel
theorem dX5_isTaken_70 : decode cX5_isTaken 70 = .ok (.iconst 0, 1) := by decide +kernel
theorem dX5_isTaken_71 : decode cX5_isTaken 71 = .ok (.ireturn, 1) := by decide +kernel
theorem dX5_variantOf_0 : decode cX5_variantOf 0 = .ok (.aload_n 0, 1) := by decide +kernel
theorem dX5_variantOf_1 : decode cX5_variantOf 1 = .ok (.aload_n 1, 1) := by decide +kernel
theorem dX5_variantOf_2 : decode cX5_variantOf 2 = .ok (.aload_n 0, 1) := by decide +kernel
theorem dX5_variantOf_3 : decode cX5_variantOf 3 = .ok (.aload_n 1, 1) := by decide +kernel
theorem dX5_variantOf_4 : decode cX5_variantOf 4 = .ok (.invokevirtual 155, 3) := by decide +kernel
theorem dX5_variantOf_7 : decode cX5_variantOf 7 = .ok (.invokevirtual 161, 3) := by decide +kernel
theorem dX5_variantOf_10 : decode cX5_variantOf 10 = .ok (.ireturn, 1) := by decide +kernel
theorem dX5_variantBy_0 : decode cX5_variantBy 0 = .ok (.iload_n 2, 1) := by decide +kernel
theorem dX5_variantBy_1 : decode cX5_variantBy 1 = .ok (.lookupswitch 118 #[(2, 35), (3, 60), (8, 99)], 35) := by decide +kernel
theorem dX5_variantBy_36 : decode cX5_variantBy 36 = .ok (.aload_n 1, 1) := by decide +kernel
theorem dX5_variantBy_37 : decode cX5_variantBy 37 = .ok (.aload_n 0, 1) := by decide +kernel
theorem dX5_variantBy_38 : decode cX5_variantBy 38 = .ok (.getfield 18, 3) := by decide +kernel
theorem dX5_variantBy_41 : decode cX5_variantBy 41 = .ok (.getfield 320, 3) := by decide +kernel
theorem dX5_variantBy_44 : decode cX5_variantBy 44 = .ok (.invokevirtual 168, 3) := by decide +kernel
theorem dX5_variantBy_47 : decode cX5_variantBy 47 = .ok (.astore_n 3, 1) := by decide +kernel
theorem dX5_variantBy_48 : decode cX5_variantBy 48 = .ok (.aload_n 3, 1) := by decide +kernel
theorem dX5_variantBy_49 : decode cX5_variantBy 49 = .ok (.ifnonnull 7, 3) := by decide +kernel
theorem dX5_variantBy_52 : decode cX5_variantBy 52 = .ok (.iconst 0, 1) := by decide +kernel
theorem dX5_variantBy_53 : decode cX5_variantBy 53 = .ok (.goto 7, 3) := by decide +kernel
theorem dX5_variantBy_56 : decode cX5_variantBy 56 = .ok (.aload_n 3, 1) := by decide +kernel
theorem dX5_variantBy_57 : decode cX5_variantBy 57 = .ok (.getfield 183, 3) := by decide +kernel
theorem dX5_variantBy_60 : decode cX5_variantBy 60 = .ok (.ireturn, 1) := by decide +kernel
theorem dX5_variantBy_61 : decode cX5_variantBy 61 = .ok (.aload_n 1, 1) := by decide +kernel
theorem dX5_variantBy_62 : decode cX5_variantBy 62 = .ok (.aload_n 1, 1) := by decide +kernel
theorem dX5_variantBy_63 : decode cX5_variantBy 63 = .ok (.aload_n 0, 1) := by decide +kernel
theorem dX5_variantBy_64 : decode cX5_variantBy 64 = .ok (.getfield 18, 3) := by decide +kernel
theorem dX5_variantBy_67 : decode cX5_variantBy 67 = .ok (.getfield 323, 3) := by decide +kernel
theorem dX5_variantBy_70 : decode cX5_variantBy 70 = .ok (.aload_n 0, 1) := by decide +kernel
theorem dX5_variantBy_71 : decode cX5_variantBy 71 = .ok (.getfield 18, 3) := by decide +kernel
theorem dX5_variantBy_74 : decode cX5_variantBy 74 = .ok (.getfield 326, 3) := by decide +kernel
theorem dX5_variantBy_77 : decode cX5_variantBy 77 = .ok (.invokevirtual 158, 3) := by decide +kernel
theorem dX5_variantBy_80 : decode cX5_variantBy 80 = .ok (.invokevirtual 329, 3) := by decide +kernel
theorem dX5_variantBy_83 : decode cX5_variantBy 83 = .ok (.astore 4, 2) := by decide +kernel
theorem dX5_variantBy_85 : decode cX5_variantBy 85 = .ok (.aload 4, 2) := by decide +kernel
theorem dX5_variantBy_87 : decode cX5_variantBy 87 = .ok (.ifnonnull 7, 3) := by decide +kernel
theorem dX5_variantBy_90 : decode cX5_variantBy 90 = .ok (.iconst 0, 1) := by decide +kernel
theorem dX5_variantBy_91 : decode cX5_variantBy 91 = .ok (.goto 8, 3) := by decide +kernel
theorem dX5_variantBy_94 : decode cX5_variantBy 94 = .ok (.aload 4, 2) := by decide +kernel
theorem dX5_variantBy_96 : decode cX5_variantBy 96 = .ok (.getfield 333, 3) := by decide +kernel
theorem dX5_variantBy_99 : decode cX5_variantBy 99 = .ok (.ireturn, 1) := by decide +kernel
theorem dX5_variantBy_100 : decode cX5_variantBy 100 = .ok (.aload_n 1, 1) := by decide +kernel
theorem dX5_variantBy_101 : decode cX5_variantBy 101 = .ok (.aload_n 1, 1) := by decide +kernel
theorem dX5_variantBy_102 : decode cX5_variantBy 102 = .ok (.getfield 334, 3) := by decide +kernel
theorem dX5_variantBy_105 : decode cX5_variantBy 105 = .ok (.aload_n 0, 1) := by decide +kernel
theorem dX5_variantBy_106 : decode cX5_variantBy 106 = .ok (.getfield 18, 3) := by decide +kernel
theorem dX5_variantBy_109 : decode cX5_variantBy 109 = .ok (.getfield 320, 3) := by decide +kernel
theorem dX5_variantBy_112 : decode cX5_variantBy 112 = .ok (.invokestatic 141, 3) := by decide +kernel
theorem dX5_variantBy_115 : decode cX5_variantBy 115 = .ok (.invokevirtual 337, 3) := by decide +kernel
theorem dX5_variantBy_118 : decode cX5_variantBy 118 = .ok (.ireturn, 1) := by decide +kernel
theorem dX5_variantBy_119 : decode cX5_variantBy 119 = .ok (.iconst 0, 1) := by decide +kernel
theorem dX5_variantBy_120 : decode cX5_variantBy 120 = .ok (.ireturn, 1) := by decide +kernel
theorem dX5_reasonOf_0 : decode cX5_reasonOf 0 = .ok (.aload_n 0, 1) := by decide +kernel
theorem dX5_reasonOf_1 : decode cX5_reasonOf 1 = .ok (.getfield 18, 3) := by decide +kernel
theorem dX5_reasonOf_4 : decode cX5_reasonOf 4 = .ok (.aload_n 1, 1) := by decide +kernel
theorem dX5_reasonOf_5 : decode cX5_reasonOf 5 = .ok (.invokevirtual 340, 3) := by decide +kernel
theorem dX5_reasonOf_8 : decode cX5_reasonOf 8 = .ok (.ifCond .ne 5, 3) := by decide +kernel
theorem dX5_reasonOf_11 : decode cX5_reasonOf 11 = .ok (.iconst 0, 1) := by decide +kernel
theorem dX5_reasonOf_12 : decode cX5_reasonOf 12 = .ok (.ireturn, 1) := by decide +kernel
theorem dX5_reasonOf_13 : decode cX5_reasonOf 13 = .ok (.aload_n 0, 1) := by decide +kernel
theorem dX5_reasonOf_14 : decode cX5_reasonOf 14 = .ok (.aload_n 1, 1) := by decide +kernel
theorem dX5_reasonOf_15 : decode cX5_reasonOf 15 = .ok (.invokevirtual 344, 3) := by decide +kernel
theorem dX5_reasonOf_18 : decode cX5_reasonOf 18 = .ok (.ifCond .ne 5, 3) := by decide +kernel
theorem dX5_reasonOf_21 : decode cX5_reasonOf 21 = .ok (.iconst 1, 1) := by decide +kernel
theorem dX5_reasonOf_22 : decode cX5_reasonOf 22 = .ok (.ireturn, 1) := by decide +kernel
theorem dX5_reasonOf_23 : decode cX5_reasonOf 23 = .ok (.aload_n 1, 1) := by decide +kernel
theorem dX5_reasonOf_24 : decode cX5_reasonOf 24 = .ok (.getfield 347, 3) := by decide +kernel
theorem dX5_reasonOf_27 : decode cX5_reasonOf 27 = .ok (.ifCond .eq 19, 3) := by decide +kernel
theorem dX5_reasonOf_30 : decode cX5_reasonOf 30 = .ok (.aload_n 1, 1) := by decide +kernel
theorem dX5_reasonOf_31 : decode cX5_reasonOf 31 = .ok (.aload_n 0, 1) := by decide +kernel
theorem dX5_reasonOf_32 : decode cX5_reasonOf 32 = .ok (.getfield 18, 3) := by decide +kernel
theorem dX5_reasonOf_35 : decode cX5_reasonOf 35 = .ok (.getfield 320, 3) := by decide +kernel
theorem dX5_reasonOf_38 : decode cX5_reasonOf 38 = .ok (.invokevirtual 168, 3) := by decide +kernel
theorem dX5_reasonOf_41 : decode cX5_reasonOf 41 = .ok (.ifnull 5, 3) := by decide +kernel
theorem dX5_reasonOf_44 : decode cX5_reasonOf 44 = .ok (.iconst 2, 1) := by decide +kernel
theorem dX5_reasonOf_45 : decode cX5_reasonOf 45 = .ok (.ireturn, 1) := by decide +kernel
theorem dX5_reasonOf_46 : decode cX5_reasonOf 46 = .ok (.aload_n 1, 1) := by decide +kernel
theorem dX5_reasonOf_47 : decode cX5_reasonOf 47 = .ok (.aload_n 1, 1) := by decide +kernel
theorem dX5_reasonOf_48 : decode cX5_reasonOf 48 = .ok (.aload_n 0, 1) := by decide +kernel
theorem dX5_reasonOf_49 : decode cX5_reasonOf 49 = .ok (.getfield 18, 3) := by decide +kernel
theorem dX5_reasonOf_52 : decode cX5_reasonOf 52 = .ok (.getfield 323, 3) := by decide +kernel
theorem dX5_reasonOf_55 : decode cX5_reasonOf 55 = .ok (.aload_n 0, 1) := by decide +kernel
theorem dX5_reasonOf_56 : decode cX5_reasonOf 56 = .ok (.getfield 18, 3) := by decide +kernel
theorem dX5_reasonOf_59 : decode cX5_reasonOf 59 = .ok (.getfield 326, 3) := by decide +kernel
theorem dX5_reasonOf_62 : decode cX5_reasonOf 62 = .ok (.invokevirtual 158, 3) := by decide +kernel
theorem dX5_reasonOf_65 : decode cX5_reasonOf 65 = .ok (.invokevirtual 329, 3) := by decide +kernel
theorem dX5_reasonOf_68 : decode cX5_reasonOf 68 = .ok (.astore_n 2, 1) := by decide +kernel
theorem dX5_reasonOf_69 : decode cX5_reasonOf 69 = .ok (.aload_n 2, 1) := by decide +kernel
theorem dX5_reasonOf_70 : decode cX5_reasonOf 70 = .ok (.ifnull 13, 3) := by decide +kernel
theorem dX5_reasonOf_73 : decode cX5_reasonOf 73 = .ok (.aload_n 2, 1) := by decide +kernel
theorem dX5_reasonOf_74 : decode cX5_reasonOf 74 = .ok (.getfield 333, 3) := by decide +kernel
theorem dX5_reasonOf_77 : decode cX5_reasonOf 77 = .ok (.iconst (-1), 1) := by decide +kernel
theorem dX5_reasonOf_78 : decode cX5_reasonOf 78 = .ok (.if_icmp .eq 5, 3) := by decide +kernel
theorem dX5_reasonOf_81 : decode cX5_reasonOf 81 = .ok (.iconst 3, 1) := by decide +kernel
theorem dX5_reasonOf_82 : decode cX5_reasonOf 82 = .ok (.ireturn, 1) := by decide +kernel
theorem dX5_reasonOf_83 : decode cX5_reasonOf 83 = .ok (.sipush 999, 3) := by decide +kernel
theorem dX5_reasonOf_86 : decode cX5_reasonOf 86 = .ok (.aload_n 0, 1) := by decide +kernel
theorem dX5_reasonOf_87 : decode cX5_reasonOf 87 = .ok (.getfield 18, 3) := by decide +kernel
theorem dX5_reasonOf_90 : decode cX5_reasonOf 90 = .ok (.getfield 320, 3) := by decide +kernel
theorem dX5_reasonOf_93 : decode cX5_reasonOf 93 = .ok (.invokestatic 141, 3) := by decide +kernel
theorem dX5_reasonOf_96 : decode cX5_reasonOf 96 = .ok (.aload_n 0, 1) := by decide +kernel
theorem dX5_reasonOf_97 : decode cX5_reasonOf 97 = .ok (.getfield 132, 3) := by decide +kernel
theorem dX5_reasonOf_100 : decode cX5_reasonOf 100 = .ok (.if_icmp .ge 5, 3) := by decide +kernel
theorem dX5_reasonOf_103 : decode cX5_reasonOf 103 = .ok (.iconst 4, 1) := by decide +kernel
theorem dX5_reasonOf_104 : decode cX5_reasonOf 104 = .ok (.ireturn, 1) := by decide +kernel
theorem dX5_reasonOf_105 : decode cX5_reasonOf 105 = .ok (.aload_n 0, 1) := by decide +kernel
theorem dX5_reasonOf_106 : decode cX5_reasonOf 106 = .ok (.aload_n 1, 1) := by decide +kernel
theorem dX5_reasonOf_107 : decode cX5_reasonOf 107 = .ok (.invokevirtual 350, 3) := by decide +kernel
theorem dX5_reasonOf_110 : decode cX5_reasonOf 110 = .ok (.ifCond .ne 5, 3) := by decide +kernel
theorem dX5_reasonOf_113 : decode cX5_reasonOf 113 = .ok (.iconst 5, 1) := by decide +kernel
theorem dX5_reasonOf_114 : decode cX5_reasonOf 114 = .ok (.ireturn, 1) := by decide +kernel
theorem dX5_reasonOf_115 : decode cX5_reasonOf 115 = .ok (.aload_n 1, 1) := by decide +kernel
theorem dX5_reasonOf_116 : decode cX5_reasonOf 116 = .ok (.getfield 334, 3) := by decide +kernel
theorem dX5_reasonOf_119 : decode cX5_reasonOf 119 = .ok (.iconst 1, 1) := by decide +kernel
theorem dX5_reasonOf_120 : decode cX5_reasonOf 120 = .ok (.iadd, 1) := by decide +kernel
theorem dX5_reasonOf_121 : decode cX5_reasonOf 121 = .ok (.aload_n 0, 1) := by decide +kernel
theorem dX5_reasonOf_122 : decode cX5_reasonOf 122 = .ok (.getfield 18, 3) := by decide +kernel
theorem dX5_reasonOf_125 : decode cX5_reasonOf 125 = .ok (.getfield 320, 3) := by decide +kernel
theorem dX5_reasonOf_128 : decode cX5_reasonOf 128 = .ok (.invokestatic 141, 3) := by decide +kernel
theorem dX5_reasonOf_131 : decode cX5_reasonOf 131 = .ok (.aload_n 0, 1) := by decide +kernel
theorem dX5_reasonOf_132 : decode cX5_reasonOf 132 = .ok (.getfield 18, 3) := by decide +kernel
theorem dX5_reasonOf_135 : decode cX5_reasonOf 135 = .ok (.aload_n 1, 1) := by decide +kernel
theorem dX5_reasonOf_136 : decode cX5_reasonOf 136 = .ok (.aload_n 0, 1) := by decide +kernel
theorem dX5_reasonOf_137 : decode cX5_reasonOf 137 = .ok (.getfield 69, 3) := by decide +kernel
theorem dX5_reasonOf_140 : decode cX5_reasonOf 140 = .ok (.invokevirtual 353, 3) := by decide +kernel
theorem dX5_reasonOf_143 : decode cX5_reasonOf 143 = .ok (.if_icmp .lt 6, 3) := by decide +kernel
theorem dX5_reasonOf_146 : decode cX5_reasonOf 146 = .ok (.bipush 6, 2) := by decide +kernel
theorem dX5_reasonOf_148 : decode cX5_reasonOf 148 = .ok (.ireturn, 1) := by decide +kernel
theorem dX5_reasonOf_149 : decode cX5_reasonOf 149 = .ok (.aload_n 2, 1) := by decide +kernel
theorem dX5_reasonOf_150 : decode cX5_reasonOf 150 = .ok (.ifnonnull 15, 3) := by decide +kernel
theorem dX5_reasonOf_153 : decode cX5_reasonOf 153 = .ok (.aload_n 1, 1) := by decide +kernel
theorem dX5_reasonOf_154 : decode cX5_reasonOf 154 = .ok (.getfield 107, 3) := by decide +kernel
theorem dX5_reasonOf_157 : decode cX5_reasonOf 157 = .ok (.ifCond .le 8, 3) := by decide +kernel
theorem dX5_reasonOf_160 : decode cX5_reasonOf 160 = .ok (.bipush 7, 2) := by decide +kernel
theorem dX5_reasonOf_162 : decode cX5_reasonOf 162 = .ok (.goto 5, 3) := by decide +kernel
theorem dX5_reasonOf_165 : decode cX5_reasonOf 165 = .ok (.bipush 8, 2) := by decide +kernel
theorem dX5_reasonOf_167 : decode cX5_reasonOf 167 = .ok (.ireturn, 1) := by decide +kernel
theorem dX5_hasNeed_0 : decode cX5_hasNeed 0 = .ok (.aload_n 1, 1) := by decide +kernel
theorem dX5_hasNeed_1 : decode cX5_hasNeed 1 = .ok (.getfield 99, 3) := by decide +kernel
theorem dX5_hasNeed_4 : decode cX5_hasNeed 4 = .ok (.aload_n 1, 1) := by decide +kernel
theorem dX5_hasNeed_5 : decode cX5_hasNeed 5 = .ok (.getfield 314, 3) := by decide +kernel
theorem dX5_hasNeed_8 : decode cX5_hasNeed 8 = .ok (.if_icmp .ge 14, 3) := by decide +kernel
theorem dX5_hasNeed_11 : decode cX5_hasNeed 11 = .ok (.aload_n 0, 1) := by decide +kernel
theorem dX5_hasNeed_12 : decode cX5_hasNeed 12 = .ok (.aload_n 1, 1) := by decide +kernel
theorem dX5_hasNeed_13 : decode cX5_hasNeed 13 = .ok (.getfield 99, 3) := by decide +kernel
theorem dX5_hasNeed_16 : decode cX5_hasNeed 16 = .ok (.invokevirtual 301, 3) := by decide +kernel
theorem dX5_hasNeed_19 : decode cX5_hasNeed 19 = .ok (.goto 4, 3) := by decide +kernel
theorem dX5_hasNeed_22 : decode cX5_hasNeed 22 = .ok (.aconst_null, 1) := by decide +kernel
theorem dX5_hasNeed_23 : decode cX5_hasNeed 23 = .ok (.astore_n 2, 1) := by decide +kernel
theorem dX5_hasNeed_24 : decode cX5_hasNeed 24 = .ok (.aload_n 2, 1) := by decide +kernel
theorem dX5_hasNeed_25 : decode cX5_hasNeed 25 = .ok (.ifnull 15, 3) := by decide +kernel
theorem dX5_hasNeed_28 : decode cX5_hasNeed 28 = .ok (.aload_n 0, 1) := by decide +kernel
theorem dX5_hasNeed_29 : decode cX5_hasNeed 29 = .ok (.aload_n 2, 1) := by decide +kernel
theorem dX5_hasNeed_30 : decode cX5_hasNeed 30 = .ok (.invokevirtual 151, 3) := by decide +kernel
theorem dX5_hasNeed_33 : decode cX5_hasNeed 33 = .ok (.aload_n 1, 1) := by decide +kernel
theorem dX5_hasNeed_34 : decode cX5_hasNeed 34 = .ok (.getfield 102, 3) := by decide +kernel
theorem dX5_hasNeed_37 : decode cX5_hasNeed 37 = .ok (.if_icmp .ne 7, 3) := by decide +kernel
theorem dX5_hasNeed_40 : decode cX5_hasNeed 40 = .ok (.iconst 1, 1) := by decide +kernel
theorem dX5_hasNeed_41 : decode cX5_hasNeed 41 = .ok (.goto 4, 3) := by decide +kernel
theorem dX5_hasNeed_44 : decode cX5_hasNeed 44 = .ok (.iconst 0, 1) := by decide +kernel
theorem dX5_hasNeed_45 : decode cX5_hasNeed 45 = .ok (.ireturn, 1) := by decide +kernel
theorem dX5_isInLayer_0 : decode cX5_isInLayer 0 = .ok (.aload_n 1, 1) := by decide +kernel
theorem dX5_isInLayer_1 : decode cX5_isInLayer 1 = .ok (.getfield 88, 3) := by decide +kernel
theorem dX5_isInLayer_4 : decode cX5_isInLayer 4 = .ok (.iconst (-1), 1) := by decide +kernel
theorem dX5_isInLayer_5 : decode cX5_isInLayer 5 = .ok (.if_icmp .ne 5, 3) := by decide +kernel
theorem dX5_isInLayer_8 : decode cX5_isInLayer 8 = .ok (.iconst 1, 1) := by decide +kernel
theorem dX5_isInLayer_9 : decode cX5_isInLayer 9 = .ok (.ireturn, 1) := by decide +kernel
theorem dX5_isInLayer_10 : decode cX5_isInLayer 10 = .ok (.sipush 500, 3) := by decide +kernel
theorem dX5_isInLayer_13 : decode cX5_isInLayer 13 = .ok (.aload_n 1, 1) := by decide +kernel
theorem dX5_isInLayer_14 : decode cX5_isInLayer 14 = .ok (.getfield 88, 3) := by decide +kernel
theorem dX5_isInLayer_17 : decode cX5_isInLayer 17 = .ok (.iadd, 1) := by decide +kernel
theorem dX5_isInLayer_18 : decode cX5_isInLayer 18 = .ok (.aload_n 0, 1) := by decide +kernel
theorem dX5_isInLayer_19 : decode cX5_isInLayer 19 = .ok (.getfield 18, 3) := by decide +kernel
theorem dX5_isInLayer_22 : decode cX5_isInLayer 22 = .ok (.getfield 320, 3) := by decide +kernel
theorem dX5_isInLayer_25 : decode cX5_isInLayer 25 = .ok (.invokestatic 141, 3) := by decide +kernel
theorem dX5_isInLayer_28 : decode cX5_isInLayer 28 = .ok (.istore_n 2, 1) := by decide +kernel
theorem dX5_isInLayer_29 : decode cX5_isInLayer 29 = .ok (.iload_n 2, 1) := by decide +kernel
theorem dX5_isInLayer_30 : decode cX5_isInLayer 30 = .ok (.aload_n 1, 1) := by decide +kernel
theorem dX5_isInLayer_31 : decode cX5_isInLayer 31 = .ok (.getfield 91, 3) := by decide +kernel
theorem dX5_isInLayer_34 : decode cX5_isInLayer 34 = .ok (.if_icmp .lt 15, 3) := by decide +kernel
theorem dX5_isInLayer_37 : decode cX5_isInLayer 37 = .ok (.iload_n 2, 1) := by decide +kernel
theorem dX5_isInLayer_38 : decode cX5_isInLayer 38 = .ok (.aload_n 1, 1) := by decide +kernel
theorem dX5_isInLayer_39 : decode cX5_isInLayer 39 = .ok (.getfield 94, 3) := by decide +kernel
theorem dX5_isInLayer_42 : decode cX5_isInLayer 42 = .ok (.if_icmp .ge 7, 3) := by decide +kernel
theorem dX5_isInLayer_45 : decode cX5_isInLayer 45 = .ok (.iconst 1, 1) := by decide +kernel
theorem dX5_isInLayer_46 : decode cX5_isInLayer 46 = .ok (.goto 4, 3) := by decide +kernel
theorem dX5_isInLayer_49 : decode cX5_isInLayer 49 = .ok (.iconst 0, 1) := by decide +kernel
theorem dX5_isInLayer_50 : decode cX5_isInLayer 50 = .ok (.ireturn, 1) := by decide +kernel
theorem dJ9_max_7cf53_0 : decode cJ9_max_7cf53 0 = .ok (.iload_n 0, 1) := by decide +kernel
theorem dJ9_max_7cf53_1 : decode cJ9_max_7cf53 1 = .ok (.iload_n 1, 1) := by decide +kernel
theorem dJ9_max_7cf53_2 : decode cJ9_max_7cf53 2 = .ok (.if_icmp .lt 7, 3) := by decide +kernel
theorem dJ9_max_7cf53_5 : decode cJ9_max_7cf53 5 = .ok (.iload_n 0, 1) := by decide +kernel
theorem dJ9_max_7cf53_6 : decode cJ9_max_7cf53 6 = .ok (.goto 4, 3) := by decide +kernel
theorem dJ9_max_7cf53_9 : decode cJ9_max_7cf53 9 = .ok (.iload_n 1, 1) := by decide +kernel
theorem dJ9_max_7cf53_10 : decode cJ9_max_7cf53 10 = .ok (.ireturn, 1) := by decide +kernel
theorem dJ9_min_7cf53_0 : decode cJ9_min_7cf53 0 = .ok (.iload_n 0, 1) := by decide +kernel
theorem dJ9_min_7cf53_1 : decode cJ9_min_7cf53 1 = .ok (.iload_n 1, 1) := by decide +kernel
theorem dJ9_min_7cf53_2 : decode cJ9_min_7cf53 2 = .ok (.if_icmp .gt 7, 3) := by decide +kernel
theorem dJ9_min_7cf53_5 : decode cJ9_min_7cf53 5 = .ok (.iload_n 0, 1) := by decide +kernel
theorem dJ9_min_7cf53_6 : decode cJ9_min_7cf53 6 = .ok (.goto 4, 3) := by decide +kernel
theorem dJ9_min_7cf53_9 : decode cJ9_min_7cf53 9 = .ok (.iload_n 1, 1) := by decide +kernel
theorem dJ9_min_7cf53_10 : decode cJ9_min_7cf53 10 = .ok (.ireturn, 1) := by decide +kernel
end
section
theorem dX6_init_0 : decode cX6_init 0 = .ok (.aload_n 0, 1) := by decide +kernel
theorem dX6_init_1 : decode cX6_init 1 = .ok (.invokespecial 1, 3) := by decide +kernel
theorem dX6_init_4 : decode cX6_init 4 = .ok (.aload_n 0, 1) := by decide +kernel
theorem dX6_init_5 : decode cX6_init 5 = .ok (.new 7, 3) := by decide +kernel
theorem dX6_init_8 : decode cX6_init 8 = .ok (.dup, 1) := by decide +kernel
theorem dX6_init_9 : decode cX6_init 9 = .ok (.invokespecial 9, 3) := by decide +kernel
theorem dX6_init_12 : decode cX6_init 12 = .ok (.putfield 10, 3) := by decide +kernel
theorem dX6_init_15 : decode cX6_init 15 = .ok (.aload_n 0, 1) := by decide +kernel
theorem dX6_init_16 : decode cX6_init 16 = .ok (.bipush 8, 2) := by decide +kernel
theorem dX6_init_18 : decode cX6_init 18 = .ok (.anewarray 16, 3) := by decide +kernel
theorem dX6_init_21 : decode cX6_init 21 = .ok (.putfield 18, 3) := by decide +kernel
theorem dX6_init_24 : decode cX6_init 24 = .ok (.aload_n 0, 1) := by decide +kernel
theorem dX6_init_25 : decode cX6_init 25 = .ok (.bipush 8, 2) := by decide +kernel
theorem dX6_init_27 : decode cX6_init 27 = .ok (.iconst 4, 1) := by decide +kernel
theorem dX6_init_28 : decode cX6_init 28 = .ok (.multianewarray 22 2, 4) := by decide +kernel
theorem dX6_init_32 : decode cX6_init 32 = .ok (.putfield 23, 3) := by decide +kernel
theorem dX6_init_35 : decode cX6_init 35 = .ok (.aload_n 0, 1) := by decide +kernel
theorem dX6_init_36 : decode cX6_init 36 = .ok (.bipush 8, 2) := by decide +kernel
theorem dX6_init_38 : decode cX6_init 38 = .ok (.iconst 0, 1) := by decide +kernel
theorem dX6_init_39 : decode cX6_init 39 = .ok (.multianewarray 26 2, 4) := by decide +kernel
theorem dX6_init_43 : decode cX6_init 43 = .ok (.putfield 28, 3) := by decide +kernel
theorem dX6_init_46 : decode cX6_init 46 = .ok (.aload_n 0, 1) := by decide +kernel
theorem dX6_init_47 : decode cX6_init 47 = .ok (.iconst 0, 1) := by decide +kernel
theorem dX6_init_48 : decode cX6_init 48 = .ok (.anewarray 16, 3) := by decide +kernel
theorem dX6_init_51 : decode cX6_init 51 = .ok (.putfield 31, 3) := by decide +kernel
theorem dX6_init_54 : decode cX6_init 54 = .ok (.aload_n 0, 1) := by decide +kernel
theorem dX6_init_55 : decode cX6_init 55 = .ok (.aload_n 1, 1) := by decide +kernel
theorem dX6_init_56 : decode cX6_init 56 = .ok (.putfield 34, 3) := by decide +kernel
theorem dX6_init_59 : decode cX6_init 59 = .ok (.aload_n 0, 1) := by decide +kernel
theorem dX6_init_60 : decode cX6_init 60 = .ok (.iload_n 2, 1) := by decide +kernel
theorem dX6_init_61 : decode cX6_init 61 = .ok (.putfield 37, 3) := by decide +kernel
theorem dX6_init_64 : decode cX6_init 64 = .ok (.return_, 1) := by decide +kernel
theorem dX6_draw_0 : decode cX6_draw 0 = .ok (.aload_n 0, 1) := by decide +kernel
theorem dX6_draw_1 : decode cX6_draw 1 = .ok (.getfield 34, 3) := by decide +kernel
theorem dX6_draw_4 : decode cX6_draw 4 = .ok (.aload_n 0, 1) := by decide +kernel
theorem dX6_draw_5 : decode cX6_draw 5 = .ok (.getfield 37, 3) := by decide +kernel
theorem dX6_draw_8 : decode cX6_draw 8 = .ok (.bipush 24, 2) := by decide +kernel
theorem dX6_draw_10 : decode cX6_draw 10 = .ok (.irem, 1) := by decide +kernel
theorem dX6_draw_11 : decode cX6_draw 11 = .ok (.invokestatic 41, 3) := by decide +kernel
theorem dX6_draw_14 : decode cX6_draw 14 = .ok (.aload_n 0, 1) := by decide +kernel
theorem dX6_draw_15 : decode cX6_draw 15 = .ok (.getfield 37, 3) := by decide +kernel
theorem dX6_draw_18 : decode cX6_draw 18 = .ok (.bipush 24, 2) := by decide +kernel
theorem dX6_draw_20 : decode cX6_draw 20 = .ok (.idiv, 1) := by decide +kernel
theorem dX6_draw_21 : decode cX6_draw 21 = .ok (.bipush 8, 2) := by decide +kernel
theorem dX6_draw_23 : decode cX6_draw 23 = .ok (.irem, 1) := by decide +kernel
theorem dX6_draw_24 : decode cX6_draw 24 = .ok (.ishr, 1) := by decide +kernel
theorem dX6_draw_25 : decode cX6_draw 25 = .ok (.bipush 127, 2) := by decide +kernel
theorem dX6_draw_27 : decode cX6_draw 27 = .ok (.aload_n 0, 1) := by decide +kernel
theorem dX6_draw_28 : decode cX6_draw 28 = .ok (.getfield 37, 3) := by decide +kernel
theorem dX6_draw_31 : decode cX6_draw 31 = .ok (.imul, 1) := by decide +kernel
theorem dX6_draw_32 : decode cX6_draw 32 = .ok (.iadd, 1) := by decide +kernel
theorem dX6_draw_33 : decode cX6_draw 33 = .ok (.iload_n 1, 1) := by decide +kernel
theorem dX6_draw_34 : decode cX6_draw 34 = .ok (.invokestatic 47, 3) := by decide +kernel
theorem dX6_draw_37 : decode cX6_draw 37 = .ok (.istore_n 2, 1) := by decide +kernel
theorem dX6_draw_38 : decode cX6_draw 38 = .ok (.aload_n 0, 1) := by decide +kernel
theorem dX6_draw_39 : decode cX6_draw 39 = .ok (.dup, 1) := by decide +kernel
theorem dX6_draw_40 : decode cX6_draw 40 = .ok (.getfield 37, 3) := by decide +kernel
theorem dX6_draw_43 : decode cX6_draw 43 = .ok (.iconst 1, 1) := by decide +kernel
theorem dX6_draw_44 : decode cX6_draw 44 = .ok (.iadd, 1) := by decide +kernel
theorem dX6_draw_45 : decode cX6_draw 45 = .ok (.putfield 37, 3) := by decide +kernel
theorem dX6_draw_48 : decode cX6_draw 48 = .ok (.iload_n 2, 1) := by decide +kernel
theorem dX6_draw_49 : decode cX6_draw 49 = .ok (.ireturn, 1) := by decide +kernel
theorem dX6_with_0 : decode cX6_with 0 = .ok (.aload_n 0, 1) := by decide +kernel
theorem dX6_with_1 : decode cX6_with 1 = .ok (.arraylength, 1) := by decide +kernel
theorem dX6_with_2 : decode cX6_with 2 = .ok (.iconst 1, 1) := by decide +kernel
theorem dX6_with_3 : decode cX6_with 3 = .ok (.iadd, 1) := by decide +kernel
theorem dX6_with_4 : decode cX6_with 4 = .ok (.anewarray 16, 3) := by decide +kernel
theorem dX6_with_7 : decode cX6_with 7 = .ok (.astore_n 2, 1) := by decide +kernel
theorem dX6_with_8 : decode cX6_with 8 = .ok (.aload_n 0, 1) := by decide +kernel
theorem dX6_with_9 : decode cX6_with 9 = .ok (.iconst 0, 1) := by decide +kernel
theorem dX6_with_10 : decode cX6_with 10 = .ok (.aload_n 2, 1) := by decide +kernel
theorem dX6_with_11 : decode cX6_with 11 = .ok (.iconst 0, 1) := by decide +kernel
theorem dX6_with_12 : decode cX6_with 12 = .ok (.aload_n 0, 1) := by decide +kernel
theorem dX6_with_13 : decode cX6_with 13 = .ok (.arraylength, 1) := by decide +kernel
theorem dX6_with_14 : decode cX6_with 14 = .ok (.invokestatic 51, 3) := by decide +kernel
theorem dX6_with_17 : decode cX6_with 17 = .ok (.aload_n 2, 1) := by decide +kernel
theorem dX6_with_18 : decode cX6_with 18 = .ok (.aload_n 0, 1) := by decide +kernel
theorem dX6_with_19 : decode cX6_with 19 = .ok (.arraylength, 1) := by decide +kernel
theorem dX6_with_20 : decode cX6_with 20 = .ok (.aload_n 1, 1) := by decide +kernel
theorem dX6_with_21 : decode cX6_with 21 = .ok (.aastore, 1) := by decide +kernel
theorem dX6_with_22 : decode cX6_with 22 = .ok (.aload_n 2, 1) := by decide +kernel
theorem dX6_with_23 : decode cX6_with 23 = .ok (.areturn, 1) := by decide +kernel
theorem dX6_add_0 : decode cX6_add 0 = .ok (.aload_n 0, 1) := by decide +kernel
theorem dX6_add_1 : decode cX6_add 1 = .ok (.getfield 57, 3) := by decide +kernel
theorem dX6_add_4 : decode cX6_add 4 = .ok (.bipush 8, 2) := by decide +kernel
theorem dX6_add_6 : decode cX6_add 6 = .ok (.if_icmp .ne 5, 3) := by decide +kernel
theorem dX6_add_9 : decode cX6_add 9 = .ok (.iconst 1, 1) := by decide +kernel
theorem dX6_add_10 : decode cX6_add 10 = .ok (.ireturn, 1) := by decide +kernel
theorem dX6_add_11 : decode cX6_add 11 = .ok (.bipush 12, 2) := by decide +kernel
theorem dX6_add_13 : decode cX6_add 13 = .ok (.newarray .int, 2) := by decide +kernel
theorem dX6_add_15 : decode cX6_add 15 = .ok (.dup, 1) := by decide +kernel
theorem dX6_add_16 : decode cX6_add 16 = .ok (.iconst 0, 1) := by decide +kernel
theorem dX6_add_17 : decode cX6_add 17 = .ok (.aload_n 0, 1) := by decide +kernel
theorem dX6_add_18 : decode cX6_add 18 = .ok (.sipush 499, 3) := by decide +kernel
theorem dX6_add_21 : decode cX6_add 21 = .ok (.invokevirtual 60, 3) := by decide +kernel
theorem dX6_add_24 : decode cX6_add 24 = .ok (.iastore, 1) := by decide +kernel
theorem dX6_add_25 : decode cX6_add 25 = .ok (.dup, 1) := by decide +kernel
theorem dX6_add_26 : decode cX6_add 26 = .ok (.iconst 1, 1) := by decide +kernel
theorem dX6_add_27 : decode cX6_add 27 = .ok (.iconst 2, 1) := by decide +kernel
theorem dX6_add_28 : decode cX6_add 28 = .ok (.aload_n 0, 1) := by decide +kernel
theorem dX6_add_29 : decode cX6_add 29 = .ok (.iconst 3, 1) := by decide +kernel
theorem dX6_add_30 : decode cX6_add 30 = .ok (.invokevirtual 60, 3) := by decide +kernel
theorem dX6_add_33 : decode cX6_add 33 = .ok (.iadd, 1) := by decide +kernel
theorem dX6_add_34 : decode cX6_add 34 = .ok (.iastore, 1) := by decide +kernel
theorem dX6_add_35 : decode cX6_add 35 = .ok (.dup, 1) := by decide +kernel
theorem dX6_add_36 : decode cX6_add 36 = .ok (.iconst 2, 1) := by decide +kernel
theorem dX6_add_37 : decode cX6_add 37 = .ok (.aload_n 0, 1) := by decide +kernel
theorem dX6_add_38 : decode cX6_add 38 = .ok (.iconst 3, 1) := by decide +kernel
theorem dX6_add_39 : decode cX6_add 39 = .ok (.invokevirtual 60, 3) := by decide +kernel
theorem dX6_add_42 : decode cX6_add 42 = .ok (.ifCond .ne 7, 3) := by decide +kernel
theorem dX6_add_45 : decode cX6_add 45 = .ok (.iconst 1, 1) := by decide +kernel
theorem dX6_add_46 : decode cX6_add 46 = .ok (.goto 4, 3) := by decide +kernel
theorem dX6_add_49 : decode cX6_add 49 = .ok (.iconst 0, 1) := by decide +kernel
theorem dX6_add_50 : decode cX6_add 50 = .ok (.iastore, 1) := by decide +kernel
theorem dX6_add_51 : decode cX6_add 51 = .ok (.dup, 1) := by decide +kernel
theorem dX6_add_52 : decode cX6_add 52 = .ok (.iconst 3, 1) := by decide +kernel
theorem dX6_add_53 : decode cX6_add 53 = .ok (.iconst 0, 1) := by decide +kernel
theorem dX6_add_54 : decode cX6_add 54 = .ok (.iastore, 1) := by decide +kernel
theorem dX6_add_55 : decode cX6_add 55 = .ok (.dup, 1) := by decide +kernel
theorem dX6_add_56 : decode cX6_add 56 = .ok (.iconst 4, 1) := by decide +kernel
theorem dX6_add_57 : decode cX6_add 57 = .ok (.sipush 1000, 3) := by decide +kernel
theorem dX6_add_60 : decode cX6_add 60 = .ok (.iastore, 1) := by decide +kernel
theorem dX6_add_61 : decode cX6_add 61 = .ok (.dup, 1) := by decide +kernel
theorem dX6_add_62 : decode cX6_add 62 = .ok (.iconst 5, 1) := by decide +kernel
theorem dX6_add_63 : decode cX6_add 63 = .ok (.iconst 0, 1) := by decide +kernel
theorem dX6_add_64 : decode cX6_add 64 = .ok (.iastore, 1) := by decide +kernel
theorem dX6_add_65 : decode cX6_add 65 = .ok (.dup, 1) := by decide +kernel
theorem dX6_add_66 : decode cX6_add 66 = .ok (.bipush 6, 2) := by decide +kernel
theorem dX6_add_68 : decode cX6_add 68 = .ok (.aload_n 0, 1) := by decide +kernel
theorem dX6_add_69 : decode cX6_add 69 = .ok (.getfield 64, 3) := by decide +kernel
theorem dX6_add_72 : decode cX6_add 72 = .ok (.iastore, 1) := by decide +kernel
theorem dX6_add_73 : decode cX6_add 73 = .ok (.dup, 1) := by decide +kernel
theorem dX6_add_74 : decode cX6_add 74 = .ok (.bipush 7, 2) := by decide +kernel
theorem dX6_add_76 : decode cX6_add 76 = .ok (.iconst (-1), 1) := by decide +kernel
theorem dX6_add_77 : decode cX6_add 77 = .ok (.iastore, 1) := by decide +kernel
theorem dX6_add_78 : decode cX6_add 78 = .ok (.dup, 1) := by decide +kernel
theorem dX6_add_79 : decode cX6_add 79 = .ok (.bipush 8, 2) := by decide +kernel
theorem dX6_add_81 : decode cX6_add 81 = .ok (.iconst 0, 1) := by decide +kernel
theorem dX6_add_82 : decode cX6_add 82 = .ok (.iastore, 1) := by decide +kernel
theorem dX6_add_83 : decode cX6_add 83 = .ok (.dup, 1) := by decide +kernel
theorem dX6_add_84 : decode cX6_add 84 = .ok (.bipush 9, 2) := by decide +kernel
theorem dX6_add_86 : decode cX6_add 86 = .ok (.iconst 0, 1) := by decide +kernel
theorem dX6_add_87 : decode cX6_add 87 = .ok (.iastore, 1) := by decide +kernel
theorem dX6_add_88 : decode cX6_add 88 = .ok (.dup, 1) := by decide +kernel
theorem dX6_add_89 : decode cX6_add 89 = .ok (.bipush 10, 2) := by decide +kernel
theorem dX6_add_91 : decode cX6_add 91 = .ok (.iconst (-1), 1) := by decide +kernel
theorem dX6_add_92 : decode cX6_add 92 = .ok (.iastore, 1) := by decide +kernel
theorem dX6_add_93 : decode cX6_add 93 = .ok (.dup, 1) := by decide +kernel
theorem dX6_add_94 : decode cX6_add 94 = .ok (.bipush 11, 2) := by decide +kernel
theorem dX6_add_96 : decode cX6_add 96 = .ok (.iconst 0, 1) := by decide +kernel
theorem dX6_add_97 : decode cX6_add 97 = .ok (.iastore, 1) := by decide +kernel
theorem dX6_add_98 : decode cX6_add 98 = .ok (.astore_n 1, 1) := by decide +kernel
theorem dX6_add_99 : decode cX6_add 99 = .ok (.aload_n 0, 1) := by decide +kernel
theorem dX6_add_100 : decode cX6_add 100 = .ok (.getfield 18, 3) := by decide +kernel
theorem dX6_add_103 : decode cX6_add 103 = .ok (.aload_n 0, 1) := by decide +kernel
theorem dX6_add_104 : decode cX6_add 104 = .ok (.getfield 57, 3) := by decide +kernel
theorem dX6_add_107 : decode cX6_add 107 = .ok (.aload_n 1, 1) := by decide +kernel
theorem dX6_add_108 : decode cX6_add 108 = .ok (.aastore, 1) := by decide +kernel
theorem dX6_add_109 : decode cX6_add 109 = .ok (.aload_n 0, 1) := by decide +kernel
theorem dX6_add_110 : decode cX6_add 110 = .ok (.getfield 23, 3) := by decide +kernel
theorem dX6_add_113 : decode cX6_add 113 = .ok (.aload_n 0, 1) := by decide +kernel
theorem dX6_add_114 : decode cX6_add 114 = .ok (.getfield 57, 3) := by decide +kernel
theorem dX6_add_117 : decode cX6_add 117 = .ok (.aaload, 1) := by decide +kernel
theorem dX6_add_118 : decode cX6_add 118 = .ok (.iconst 0, 1) := by decide +kernel
theorem dX6_add_119 : decode cX6_add 119 = .ok (.sipush 1000, 3) := by decide +kernel
theorem dX6_add_122 : decode cX6_add 122 = .ok (.iastore, 1) := by decide +kernel
theorem dX6_add_123 : decode cX6_add 123 = .ok (.aload_n 0, 1) := by decide +kernel
theorem dX6_add_124 : decode cX6_add 124 = .ok (.getfield 10, 3) := by decide +kernel
theorem dX6_add_127 : decode cX6_add 127 = .ok (.aload_n 1, 1) := by decide +kernel
theorem dX6_add_128 : decode cX6_add 128 = .ok (.iconst 0, 1) := by decide +kernel
theorem dX6_add_129 : decode cX6_add 129 = .ok (.iaload, 1) := by decide +kernel
theorem dX6_add_130 : decode cX6_add 130 = .ok (.aload_n 1, 1) := by decide +kernel
theorem dX6_add_131 : decode cX6_add 131 = .ok (.iconst 1, 1) := by decide +kernel
theorem dX6_add_132 : decode cX6_add 132 = .ok (.iaload, 1) := by decide +kernel
theorem dX6_add_133 : decode cX6_add 133 = .ok (.aload_n 1, 1) := by decide +kernel
theorem dX6_add_134 : decode cX6_add 134 = .ok (.iconst 2, 1) := by decide +kernel
theorem dX6_add_135 : decode cX6_add 135 = .ok (.iaload, 1) := by decide +kernel
theorem dX6_add_136 : decode cX6_add 136 = .ok (.iconst 1, 1) := by decide +kernel
theorem dX6_add_137 : decode cX6_add 137 = .ok (.if_icmp .ne 7, 3) := by decide +kernel
theorem dX6_add_140 : decode cX6_add 140 = .ok (.iconst 1, 1) := by decide +kernel
theorem dX6_add_141 : decode cX6_add 141 = .ok (.goto 4, 3) := by decide +kernel
theorem dX6_add_144 : decode cX6_add 144 = .ok (.iconst 0, 1) := by decide +kernel
theorem dX6_add_145 : decode cX6_add 145 = .ok (.invokevirtual 67, 3) := by decide +kernel
theorem dX6_add_148 : decode cX6_add 148 = .ok (.aload_n 0, 1) := by decide +kernel
theorem dX6_add_149 : decode cX6_add 149 = .ok (.dup, 1) := by decide +kernel
theorem dX6_add_150 : decode cX6_add 150 = .ok (.getfield 57, 3) := by decide +kernel
theorem dX6_add_153 : decode cX6_add 153 = .ok (.dup_x1, 1) := by decide +kernel
theorem dX6_add_154 : decode cX6_add 154 = .ok (.iconst 1, 1) := by decide +kernel
theorem dX6_add_155 : decode cX6_add 155 = .ok (.iadd, 1) := by decide +kernel
theorem dX6_add_156 : decode cX6_add 156 = .ok (.putfield 57, 3) := by decide +kernel
theorem dX6_add_159 : decode cX6_add 159 = .ok (.if_icmp .ne 7, 3) := by decide +kernel
theorem dX6_add_162 : decode cX6_add 162 = .ok (.iconst 1, 1) := by decide +kernel
theorem dX6_add_163 : decode cX6_add 163 = .ok (.goto 4, 3) := by decide +kernel
theorem dX6_add_166 : decode cX6_add 166 = .ok (.iconst 0, 1) := by decide +kernel
theorem dX6_add_167 : decode cX6_add 167 = .ok (.ireturn, 1) := by decide +kernel
theorem dX6_weigh_0 : decode cX6_weigh 0 = .ok (.aload_n 0, 1) := by decide +kernel
theorem dX6_weigh_1 : decode cX6_weigh 1 = .ok (.aload_n 0, 1) := by decide +kernel
theorem dX6_weigh_2 : decode cX6_weigh 2 = .ok (.getfield 57, 3) := by decide +kernel
theorem dX6_weigh_5 : decode cX6_weigh 5 = .ok (.invokevirtual 60, 3) := by decide +kernel
theorem dX6_weigh_8 : decode cX6_weigh 8 = .ok (.istore_n 1, 1) := by decide +kernel
theorem dX6_weigh_9 : decode cX6_weigh 9 = .ok (.iconst 1, 1) := by decide +kernel
theorem dX6_weigh_10 : decode cX6_weigh 10 = .ok (.aload_n 0, 1) := by decide +kernel
theorem dX6_weigh_11 : decode cX6_weigh 11 = .ok (.aload_n 0, 1) := by decide +kernel
theorem dX6_weigh_12 : decode cX6_weigh 12 = .ok (.getfield 18, 3) := by decide +kernel
theorem dX6_weigh_15 : decode cX6_weigh 15 = .ok (.iload_n 1, 1) := by decide +kernel
theorem dX6_weigh_16 : decode cX6_weigh 16 = .ok (.aaload, 1) := by decide +kernel
theorem dX6_weigh_17 : decode cX6_weigh 17 = .ok (.iconst 1, 1) := by decide +kernel
theorem dX6_weigh_18 : decode cX6_weigh 18 = .ok (.iaload, 1) := by decide +kernel
theorem dX6_weigh_19 : decode cX6_weigh 19 = .ok (.iconst 1, 1) := by decide +kernel
theorem dX6_weigh_20 : decode cX6_weigh 20 = .ok (.isub, 1) := by decide +kernel
theorem dX6_weigh_21 : decode cX6_weigh 21 = .ok (.invokevirtual 60, 3) := by decide +kernel
theorem dX6_weigh_24 : decode cX6_weigh 24 = .ok (.iadd, 1) := by decide +kernel
theorem dX6_weigh_25 : decode cX6_weigh 25 = .ok (.istore_n 2, 1) := by decide +kernel
theorem dX6_weigh_26 : decode cX6_weigh 26 = .ok (.aload_n 0, 1) := by decide +kernel
theorem dX6_weigh_27 : decode cX6_weigh 27 = .ok (.getfield 23, 3) := by decide +kernel
theorem dX6_weigh_30 : decode cX6_weigh 30 = .ok (.iload_n 1, 1) := by decide +kernel
theorem dX6_weigh_31 : decode cX6_weigh 31 = .ok (.aaload, 1) := by decide +kernel
theorem dX6_weigh_32 : decode cX6_weigh 32 = .ok (.iconst 0, 1) := by decide +kernel
theorem dX6_weigh_33 : decode cX6_weigh 33 = .ok (.iaload, 1) := by decide +kernel
theorem dX6_weigh_34 : decode cX6_weigh 34 = .ok (.aload_n 0, 1) := by decide +kernel
theorem dX6_weigh_35 : decode cX6_weigh 35 = .ok (.getfield 23, 3) := by decide +kernel
theorem dX6_weigh_38 : decode cX6_weigh 38 = .ok (.iload_n 1, 1) := by decide +kernel
theorem dX6_weigh_39 : decode cX6_weigh 39 = .ok (.aaload, 1) := by decide +kernel
theorem dX6_weigh_40 : decode cX6_weigh 40 = .ok (.iload_n 2, 1) := by decide +kernel
theorem dX6_weigh_41 : decode cX6_weigh 41 = .ok (.iaload, 1) := by decide +kernel
theorem dX6_weigh_42 : decode cX6_weigh 42 = .ok (.iadd, 1) := by decide +kernel
theorem dX6_weigh_43 : decode cX6_weigh 43 = .ok (.istore_n 3, 1) := by decide +kernel
theorem dX6_weigh_44 : decode cX6_weigh 44 = .ok (.aload_n 0, 1) := by decide +kernel
theorem dX6_weigh_45 : decode cX6_weigh 45 = .ok (.getfield 23, 3) := by decide +kernel
theorem dX6_weigh_48 : decode cX6_weigh 48 = .ok (.iload_n 1, 1) := by decide +kernel
theorem dX6_weigh_49 : decode cX6_weigh 49 = .ok (.aaload, 1) := by decide +kernel
theorem dX6_weigh_50 : decode cX6_weigh 50 = .ok (.iload_n 2, 1) := by decide +kernel
theorem dX6_weigh_51 : decode cX6_weigh 51 = .ok (.aload_n 0, 1) := by decide +kernel
theorem dX6_weigh_52 : decode cX6_weigh 52 = .ok (.iload_n 3, 1) := by decide +kernel
theorem dX6_weigh_53 : decode cX6_weigh 53 = .ok (.iconst 1, 1) := by decide +kernel
theorem dX6_weigh_54 : decode cX6_weigh 54 = .ok (.iadd, 1) := by decide +kernel
theorem dX6_weigh_55 : decode cX6_weigh 55 = .ok (.invokevirtual 60, 3) := by decide +kernel
theorem dX6_weigh_58 : decode cX6_weigh 58 = .ok (.iastore, 1) := by decide +kernel
theorem dX6_weigh_59 : decode cX6_weigh 59 = .ok (.aload_n 0, 1) := by decide +kernel
theorem dX6_weigh_60 : decode cX6_weigh 60 = .ok (.getfield 23, 3) := by decide +kernel
theorem dX6_weigh_63 : decode cX6_weigh 63 = .ok (.iload_n 1, 1) := by decide +kernel
theorem dX6_weigh_64 : decode cX6_weigh 64 = .ok (.aaload, 1) := by decide +kernel
theorem dX6_weigh_65 : decode cX6_weigh 65 = .ok (.iconst 0, 1) := by decide +kernel
theorem dX6_weigh_66 : decode cX6_weigh 66 = .ok (.iload_n 3, 1) := by decide +kernel
theorem dX6_weigh_67 : decode cX6_weigh 67 = .ok (.aload_n 0, 1) := by decide +kernel
theorem dX6_weigh_68 : decode cX6_weigh 68 = .ok (.getfield 23, 3) := by decide +kernel
theorem dX6_weigh_71 : decode cX6_weigh 71 = .ok (.iload_n 1, 1) := by decide +kernel
theorem dX6_weigh_72 : decode cX6_weigh 72 = .ok (.aaload, 1) := by decide +kernel
theorem dX6_weigh_73 : decode cX6_weigh 73 = .ok (.iload_n 2, 1) := by decide +kernel
theorem dX6_weigh_74 : decode cX6_weigh 74 = .ok (.iaload, 1) := by decide +kernel
theorem dX6_weigh_75 : decode cX6_weigh 75 = .ok (.isub, 1) := by decide +kernel
theorem dX6_weigh_76 : decode cX6_weigh 76 = .ok (.iastore, 1) := by decide +kernel
theorem dX6_weigh_77 : decode cX6_weigh 77 = .ok (.aload_n 0, 1) := by decide +kernel
theorem dX6_weigh_78 : decode cX6_weigh 78 = .ok (.getfield 10, 3) := by decide +kernel
theorem dX6_weigh_81 : decode cX6_weigh 81 = .ok (.iload_n 1, 1) := by decide +kernel
theorem dX6_weigh_82 : decode cX6_weigh 82 = .ok (.iload_n 2, 1) := by decide +kernel
theorem dX6_weigh_83 : decode cX6_weigh 83 = .ok (.aload_n 0, 1) := by decide +kernel
theorem dX6_weigh_84 : decode cX6_weigh 84 = .ok (.getfield 23, 3) := by decide +kernel
theorem dX6_weigh_87 : decode cX6_weigh 87 = .ok (.iload_n 1, 1) := by decide +kernel
theorem dX6_weigh_88 : decode cX6_weigh 88 = .ok (.aaload, 1) := by decide +kernel
theorem dX6_weigh_89 : decode cX6_weigh 89 = .ok (.iload_n 2, 1) := by decide +kernel
theorem dX6_weigh_90 : decode cX6_weigh 90 = .ok (.iaload, 1) := by decide +kernel
theorem dX6_weigh_91 : decode cX6_weigh 91 = .ok (.invokevirtual 71, 3) := by decide +kernel
theorem dX6_weigh_94 : decode cX6_weigh 94 = .ok (.aload_n 0, 1) := by decide +kernel
theorem dX6_weigh_95 : decode cX6_weigh 95 = .ok (.getfield 23, 3) := by decide +kernel
theorem dX6_weigh_98 : decode cX6_weigh 98 = .ok (.iload_n 1, 1) := by decide +kernel
theorem dX6_weigh_99 : decode cX6_weigh 99 = .ok (.aaload, 1) := by decide +kernel
theorem dX6_weigh_100 : decode cX6_weigh 100 = .ok (.iconst 0, 1) := by decide +kernel
theorem dX6_weigh_101 : decode cX6_weigh 101 = .ok (.iaload, 1) := by decide +kernel
theorem dX6_weigh_102 : decode cX6_weigh 102 = .ok (.if_icmp .ne 7, 3) := by decide +kernel
theorem dX6_weigh_105 : decode cX6_weigh 105 = .ok (.iconst 1, 1) := by decide +kernel
theorem dX6_weigh_106 : decode cX6_weigh 106 = .ok (.goto 4, 3) := by decide +kernel
theorem dX6_weigh_109 : decode cX6_weigh 109 = .ok (.iconst 0, 1) := by decide +kernel
theorem dX6_weigh_110 : decode cX6_weigh 110 = .ok (.ireturn, 1) := by decide +kernel
theorem dX6_turn_0 : decode cX6_turn 0 = .ok (.aload_n 0, 1) := by decide +kernel
theorem dX6_turn_1 : decode cX6_turn 1 = .ok (.aload_n 0, 1) := by decide +kernel
theorem dX6_turn_2 : decode cX6_turn 2 = .ok (.getfield 57, 3) := by decide +kernel
theorem dX6_turn_5 : decode cX6_turn 5 = .ok (.invokevirtual 60, 3) := by decide +kernel
theorem dX6_turn_8 : decode cX6_turn 8 = .ok (.istore_n 1, 1) := by decide +kernel
theorem dX6_turn_9 : decode cX6_turn 9 = .ok (.aload_n 0, 1) := by decide +kernel
theorem dX6_turn_10 : decode cX6_turn 10 = .ok (.getfield 18, 3) := by decide +kernel
theorem dX6_turn_13 : decode cX6_turn 13 = .ok (.iload_n 1, 1) := by decide +kernel
theorem dX6_turn_14 : decode cX6_turn 14 = .ok (.aaload, 1) := by decide +kernel
theorem dX6_turn_15 : decode cX6_turn 15 = .ok (.iconst 3, 1) := by decide +kernel
theorem dX6_turn_16 : decode cX6_turn 16 = .ok (.iaload, 1) := by decide +kernel
theorem dX6_turn_17 : decode cX6_turn 17 = .ok (.istore_n 2, 1) := by decide +kernel
theorem dX6_turn_18 : decode cX6_turn 18 = .ok (.aload_n 0, 1) := by decide +kernel
theorem dX6_turn_19 : decode cX6_turn 19 = .ok (.getfield 18, 3) := by decide +kernel
theorem dX6_turn_22 : decode cX6_turn 22 = .ok (.iload_n 1, 1) := by decide +kernel
theorem dX6_turn_23 : decode cX6_turn 23 = .ok (.aaload, 1) := by decide +kernel
theorem dX6_turn_24 : decode cX6_turn 24 = .ok (.iconst 3, 1) := by decide +kernel
theorem dX6_turn_25 : decode cX6_turn 25 = .ok (.aload_n 0, 1) := by decide +kernel
theorem dX6_turn_26 : decode cX6_turn 26 = .ok (.iconst 5, 1) := by decide +kernel
theorem dX6_turn_27 : decode cX6_turn 27 = .ok (.invokevirtual 60, 3) := by decide +kernel
theorem dX6_turn_30 : decode cX6_turn 30 = .ok (.ifCond .le 7, 3) := by decide +kernel
theorem dX6_turn_33 : decode cX6_turn 33 = .ok (.iconst 1, 1) := by decide +kernel
theorem dX6_turn_34 : decode cX6_turn 34 = .ok (.goto 4, 3) := by decide +kernel
theorem dX6_turn_37 : decode cX6_turn 37 = .ok (.iconst 0, 1) := by decide +kernel
theorem dX6_turn_38 : decode cX6_turn 38 = .ok (.iastore, 1) := by decide +kernel
theorem dX6_turn_39 : decode cX6_turn 39 = .ok (.aload_n 0, 1) := by decide +kernel
theorem dX6_turn_40 : decode cX6_turn 40 = .ok (.getfield 10, 3) := by decide +kernel
theorem dX6_turn_43 : decode cX6_turn 43 = .ok (.iload_n 1, 1) := by decide +kernel
theorem dX6_turn_44 : decode cX6_turn 44 = .ok (.aload_n 0, 1) := by decide +kernel
theorem dX6_turn_45 : decode cX6_turn 45 = .ok (.getfield 18, 3) := by decide +kernel
theorem dX6_turn_48 : decode cX6_turn 48 = .ok (.iload_n 1, 1) := by decide +kernel
theorem dX6_turn_49 : decode cX6_turn 49 = .ok (.aaload, 1) := by decide +kernel
theorem dX6_turn_50 : decode cX6_turn 50 = .ok (.iconst 3, 1) := by decide +kernel
theorem dX6_turn_51 : decode cX6_turn 51 = .ok (.iaload, 1) := by decide +kernel
theorem dX6_turn_52 : decode cX6_turn 52 = .ok (.iconst 1, 1) := by decide +kernel
theorem dX6_turn_53 : decode cX6_turn 53 = .ok (.if_icmp .ne 7, 3) := by decide +kernel
theorem dX6_turn_56 : decode cX6_turn 56 = .ok (.iconst 1, 1) := by decide +kernel
theorem dX6_turn_57 : decode cX6_turn 57 = .ok (.goto 4, 3) := by decide +kernel
theorem dX6_turn_60 : decode cX6_turn 60 = .ok (.iconst 0, 1) := by decide +kernel
theorem dX6_turn_61 : decode cX6_turn 61 = .ok (.invokevirtual 75, 3) := by decide +kernel
theorem dX6_turn_64 : decode cX6_turn 64 = .ok (.iload_n 2, 1) := by decide +kernel
theorem dX6_turn_65 : decode cX6_turn 65 = .ok (.iconst 1, 1) := by decide +kernel
theorem dX6_turn_66 : decode cX6_turn 66 = .ok (.if_icmp .ne 7, 3) := by decide +kernel
theorem dX6_turn_69 : decode cX6_turn 69 = .ok (.iconst 1, 1) := by decide +kernel
theorem dX6_turn_70 : decode cX6_turn 70 = .ok (.goto 4, 3) := by decide +kernel
theorem dX6_turn_73 : decode cX6_turn 73 = .ok (.iconst 0, 1) := by decide +kernel
theorem dX6_turn_74 : decode cX6_turn 74 = .ok (.if_icmp .ne 7, 3) := by decide +kernel
theorem dX6_turn_77 : decode cX6_turn 77 = .ok (.iconst 1, 1) := by decide +kernel
theorem dX6_turn_78 : decode cX6_turn 78 = .ok (.goto 4, 3) := by decide +kernel
theorem dX6_turn_81 : decode cX6_turn 81 = .ok (.iconst 0, 1) := by decide +kernel
theorem dX6_turn_82 : decode cX6_turn 82 = .ok (.ireturn, 1) := by decide +kernel
theorem dX6_far_0 : decode cX6_far 0 = .ok (.aload_n 0, 1) := by decide +kernel
theorem dX6_far_1 : decode cX6_far 1 = .ok (.getfield 18, 3) := by decide +kernel
theorem dX6_far_4 : decode cX6_far 4 = .ok (.iload_n 1, 1) := by decide +kernel
theorem dX6_far_5 : decode cX6_far 5 = .ok (.aaload, 1) := by decide +kernel
theorem dX6_far_6 : decode cX6_far 6 = .ok (.iconst 4, 1) := by decide +kernel
theorem dX6_far_7 : decode cX6_far 7 = .ok (.iaload, 1) := by decide +kernel
theorem dX6_far_8 : decode cX6_far 8 = .ok (.istore_n 3, 1) := by decide +kernel
theorem dX6_far_9 : decode cX6_far 9 = .ok (.aload_n 0, 1) := by decide +kernel
theorem dX6_far_10 : decode cX6_far 10 = .ok (.getfield 18, 3) := by decide +kernel
theorem dX6_far_13 : decode cX6_far 13 = .ok (.iload_n 1, 1) := by decide +kernel
theorem dX6_far_14 : decode cX6_far 14 = .ok (.aaload, 1) := by decide +kernel
theorem dX6_far_15 : decode cX6_far 15 = .ok (.bipush 6, 2) := by decide +kernel
theorem dX6_far_17 : decode cX6_far 17 = .ok (.iaload, 1) := by decide +kernel
theorem dX6_far_18 : decode cX6_far 18 = .ok (.istore 4, 2) := by decide +kernel
theorem dX6_far_20 : decode cX6_far 20 = .ok (.iload 4, 2) := by decide +kernel
theorem dX6_far_22 : decode cX6_far 22 = .ok (.aload_n 0, 1) := by decide +kernel
theorem dX6_far_23 : decode cX6_far 23 = .ok (.getfield 64, 3) := by decide +kernel
theorem dX6_far_26 : decode cX6_far 26 = .ok (.iload_n 2, 1) := by decide +kernel
theorem dX6_far_27 : decode cX6_far 27 = .ok (.iadd, 1) := by decide +kernel
theorem dX6_far_28 : decode cX6_far 28 = .ok (.if_icmp .ge 27, 3) := by decide +kernel
theorem dX6_far_31 : decode cX6_far 31 = .ok (.iload_n 3, 1) := by decide +kernel
theorem dX6_far_32 : decode cX6_far 32 = .ok (.sipush 1000, 3) := by decide +kernel
theorem dX6_far_35 : decode cX6_far 35 = .ok (.if_icmp .ge 20, 3) := by decide +kernel
theorem dX6_far_38 : decode cX6_far 38 = .ok (.iload_n 3, 1) := by decide +kernel
theorem dX6_far_39 : decode cX6_far 39 = .ok (.aload_n 0, 1) := by decide +kernel
theorem dX6_far_40 : decode cX6_far 40 = .ok (.getfield 18, 3) := by decide +kernel
theorem dX6_far_43 : decode cX6_far 43 = .ok (.iload_n 1, 1) := by decide +kernel
theorem dX6_far_44 : decode cX6_far 44 = .ok (.aaload, 1) := by decide +kernel
theorem dX6_far_45 : decode cX6_far 45 = .ok (.iconst 5, 1) := by decide +kernel
theorem dX6_far_46 : decode cX6_far 46 = .ok (.iaload, 1) := by decide +kernel
theorem dX6_far_47 : decode cX6_far 47 = .ok (.iadd, 1) := by decide +kernel
theorem dX6_far_48 : decode cX6_far 48 = .ok (.istore_n 3, 1) := by decide +kernel
theorem dX6_far_49 : decode cX6_far 49 = .ok (.iinc 4 1, 3) := by decide +kernel
theorem dX6_far_52 : decode cX6_far 52 = .ok (.goto (-32), 3) := by decide +kernel
theorem dX6_far_55 : decode cX6_far 55 = .ok (.iload_n 3, 1) := by decide +kernel
theorem dX6_far_56 : decode cX6_far 56 = .ok (.sipush 1000, 3) := by decide +kernel
theorem dX6_far_59 : decode cX6_far 59 = .ok (.if_icmp .le 9, 3) := by decide +kernel
theorem dX6_far_62 : decode cX6_far 62 = .ok (.sipush 1000, 3) := by decide +kernel
theorem dX6_far_65 : decode cX6_far 65 = .ok (.goto 4, 3) := by decide +kernel
theorem dX6_far_68 : decode cX6_far 68 = .ok (.iload_n 3, 1) := by decide +kernel
theorem dX6_far_69 : decode cX6_far 69 = .ok (.ireturn, 1) := by decide +kernel
theorem dX6_ramp_0 : decode cX6_ramp 0 = .ok (.aload_n 0, 1) := by decide +kernel
theorem dX6_ramp_1 : decode cX6_ramp 1 = .ok (.aload_n 0, 1) := by decide +kernel
theorem dX6_ramp_2 : decode cX6_ramp 2 = .ok (.getfield 57, 3) := by decide +kernel
theorem dX6_ramp_5 : decode cX6_ramp 5 = .ok (.invokevirtual 60, 3) := by decide +kernel
theorem dX6_ramp_8 : decode cX6_ramp 8 = .ok (.istore_n 1, 1) := by decide +kernel
theorem dX6_ramp_9 : decode cX6_ramp 9 = .ok (.aload_n 0, 1) := by decide +kernel
theorem dX6_ramp_10 : decode cX6_ramp 10 = .ok (.iload_n 1, 1) := by decide +kernel
theorem dX6_ramp_11 : decode cX6_ramp 11 = .ok (.iconst 0, 1) := by decide +kernel
theorem dX6_ramp_12 : decode cX6_ramp 12 = .ok (.invokevirtual 79, 3) := by decide +kernel
theorem dX6_ramp_15 : decode cX6_ramp 15 = .ok (.istore_n 2, 1) := by decide +kernel
theorem dX6_ramp_16 : decode cX6_ramp 16 = .ok (.aload_n 0, 1) := by decide +kernel
theorem dX6_ramp_17 : decode cX6_ramp 17 = .ok (.getfield 18, 3) := by decide +kernel
theorem dX6_ramp_20 : decode cX6_ramp 20 = .ok (.iload_n 1, 1) := by decide +kernel
theorem dX6_ramp_21 : decode cX6_ramp 21 = .ok (.aaload, 1) := by decide +kernel
theorem dX6_ramp_22 : decode cX6_ramp 22 = .ok (.iconst 4, 1) := by decide +kernel
theorem dX6_ramp_23 : decode cX6_ramp 23 = .ok (.aload_n 0, 1) := by decide +kernel
theorem dX6_ramp_24 : decode cX6_ramp 24 = .ok (.iconst 2, 1) := by decide +kernel
theorem dX6_ramp_25 : decode cX6_ramp 25 = .ok (.invokevirtual 60, 3) := by decide +kernel
theorem dX6_ramp_28 : decode cX6_ramp 28 = .ok (.ifCond .ne 13, 3) := by decide +kernel
theorem dX6_ramp_31 : decode cX6_ramp 31 = .ok (.aload_n 0, 1) := by decide +kernel
theorem dX6_ramp_32 : decode cX6_ramp 32 = .ok (.sipush 1001, 3) := by decide +kernel
theorem dX6_ramp_35 : decode cX6_ramp 35 = .ok (.invokevirtual 60, 3) := by decide +kernel
theorem dX6_ramp_38 : decode cX6_ramp 38 = .ok (.goto 10, 3) := by decide +kernel
theorem dX6_ramp_41 : decode cX6_ramp 41 = .ok (.aload_n 0, 1) := by decide +kernel
theorem dX6_ramp_42 : decode cX6_ramp 42 = .ok (.sipush 200, 3) := by decide +kernel
theorem dX6_ramp_45 : decode cX6_ramp 45 = .ok (.invokevirtual 60, 3) := by decide +kernel
theorem dX6_ramp_48 : decode cX6_ramp 48 = .ok (.iastore, 1) := by decide +kernel
theorem dX6_ramp_49 : decode cX6_ramp 49 = .ok (.aload_n 0, 1) := by decide +kernel
theorem dX6_ramp_50 : decode cX6_ramp 50 = .ok (.getfield 18, 3) := by decide +kernel
theorem dX6_ramp_53 : decode cX6_ramp 53 = .ok (.iload_n 1, 1) := by decide +kernel
theorem dX6_ramp_54 : decode cX6_ramp 54 = .ok (.aaload, 1) := by decide +kernel
theorem dX6_ramp_55 : decode cX6_ramp 55 = .ok (.iconst 5, 1) := by decide +kernel
theorem dX6_ramp_56 : decode cX6_ramp 56 = .ok (.aload_n 0, 1) := by decide +kernel
theorem dX6_ramp_57 : decode cX6_ramp 57 = .ok (.iconst 3, 1) := by decide +kernel
theorem dX6_ramp_58 : decode cX6_ramp 58 = .ok (.invokevirtual 60, 3) := by decide +kernel
theorem dX6_ramp_61 : decode cX6_ramp 61 = .ok (.ifCond .ne 7, 3) := by decide +kernel
theorem dX6_ramp_64 : decode cX6_ramp 64 = .ok (.iconst 0, 1) := by decide +kernel
theorem dX6_ramp_65 : decode cX6_ramp 65 = .ok (.goto 10, 3) := by decide +kernel
theorem dX6_ramp_68 : decode cX6_ramp 68 = .ok (.aload_n 0, 1) := by decide +kernel
theorem dX6_ramp_69 : decode cX6_ramp 69 = .ok (.sipush 200, 3) := by decide +kernel
theorem dX6_ramp_72 : decode cX6_ramp 72 = .ok (.invokevirtual 60, 3) := by decide +kernel
theorem dX6_ramp_75 : decode cX6_ramp 75 = .ok (.iastore, 1) := by decide +kernel
theorem dX6_ramp_76 : decode cX6_ramp 76 = .ok (.aload_n 0, 1) := by decide +kernel
theorem dX6_ramp_77 : decode cX6_ramp 77 = .ok (.getfield 18, 3) := by decide +kernel
theorem dX6_ramp_80 : decode cX6_ramp 80 = .ok (.iload_n 1, 1) := by decide +kernel
theorem dX6_ramp_81 : decode cX6_ramp 81 = .ok (.aaload, 1) := by decide +kernel
theorem dX6_ramp_82 : decode cX6_ramp 82 = .ok (.bipush 6, 2) := by decide +kernel
theorem dX6_ramp_84 : decode cX6_ramp 84 = .ok (.aload_n 0, 1) := by decide +kernel
theorem dX6_ramp_85 : decode cX6_ramp 85 = .ok (.getfield 64, 3) := by decide +kernel
theorem dX6_ramp_88 : decode cX6_ramp 88 = .ok (.iastore, 1) := by decide +kernel
theorem dX6_ramp_89 : decode cX6_ramp 89 = .ok (.aload_n 0, 1) := by decide +kernel
theorem dX6_ramp_90 : decode cX6_ramp 90 = .ok (.getfield 10, 3) := by decide +kernel
theorem dX6_ramp_93 : decode cX6_ramp 93 = .ok (.iload_n 1, 1) := by decide +kernel
theorem dX6_ramp_94 : decode cX6_ramp 94 = .ok (.aload_n 0, 1) := by decide +kernel
theorem dX6_ramp_95 : decode cX6_ramp 95 = .ok (.getfield 18, 3) := by decide +kernel
theorem dX6_ramp_98 : decode cX6_ramp 98 = .ok (.iload_n 1, 1) := by decide +kernel
theorem dX6_ramp_99 : decode cX6_ramp 99 = .ok (.aaload, 1) := by decide +kernel
theorem dX6_ramp_100 : decode cX6_ramp 100 = .ok (.iconst 4, 1) := by decide +kernel
theorem dX6_ramp_101 : decode cX6_ramp 101 = .ok (.iaload, 1) := by decide +kernel
theorem dX6_ramp_102 : decode cX6_ramp 102 = .ok (.aload_n 0, 1) := by decide +kernel
theorem dX6_ramp_103 : decode cX6_ramp 103 = .ok (.getfield 18, 3) := by decide +kernel
theorem dX6_ramp_106 : decode cX6_ramp 106 = .ok (.iload_n 1, 1) := by decide +kernel
theorem dX6_ramp_107 : decode cX6_ramp 107 = .ok (.aaload, 1) := by decide +kernel
theorem dX6_ramp_108 : decode cX6_ramp 108 = .ok (.iconst 5, 1) := by decide +kernel
theorem dX6_ramp_109 : decode cX6_ramp 109 = .ok (.iaload, 1) := by decide +kernel
theorem dX6_ramp_110 : decode cX6_ramp 110 = .ok (.invokevirtual 82, 3) := by decide +kernel
theorem dX6_ramp_113 : decode cX6_ramp 113 = .ok (.iload_n 2, 1) := by decide +kernel
theorem dX6_ramp_114 : decode cX6_ramp 114 = .ok (.if_icmp .ne 7, 3) := by decide +kernel
theorem dX6_ramp_117 : decode cX6_ramp 117 = .ok (.iconst 1, 1) := by decide +kernel
theorem dX6_ramp_118 : decode cX6_ramp 118 = .ok (.goto 4, 3) := by decide +kernel
theorem dX6_ramp_121 : decode cX6_ramp 121 = .ok (.iconst 0, 1) := by decide +kernel
theorem dX6_ramp_122 : decode cX6_ramp 122 = .ok (.ireturn, 1) := by decide +kernel
theorem dX6_place_0 : decode cX6_place 0 = .ok (.aload_n 0, 1) := by decide +kernel
theorem dX6_place_1 : decode cX6_place 1 = .ok (.aload_n 0, 1) := by decide +kernel
theorem dX6_place_2 : decode cX6_place 2 = .ok (.getfield 57, 3) := by decide +kernel
theorem dX6_place_5 : decode cX6_place 5 = .ok (.invokevirtual 60, 3) := by decide +kernel
theorem dX6_place_8 : decode cX6_place 8 = .ok (.istore_n 1, 1) := by decide +kernel
theorem dX6_place_9 : decode cX6_place 9 = .ok (.aload_n 0, 1) := by decide +kernel
theorem dX6_place_10 : decode cX6_place 10 = .ok (.iconst 5, 1) := by decide +kernel
theorem dX6_place_11 : decode cX6_place 11 = .ok (.invokevirtual 60, 3) := by decide +kernel
theorem dX6_place_14 : decode cX6_place 14 = .ok (.ifCond .ne 7, 3) := by decide +kernel
theorem dX6_place_17 : decode cX6_place 17 = .ok (.iconst (-1), 1) := by decide +kernel
theorem dX6_place_18 : decode cX6_place 18 = .ok (.goto 8, 3) := by decide +kernel
theorem dX6_place_21 : decode cX6_place 21 = .ok (.aload_n 0, 1) := by decide +kernel
theorem dX6_place_22 : decode cX6_place 22 = .ok (.iconst 2, 1) := by decide +kernel
theorem dX6_place_23 : decode cX6_place 23 = .ok (.invokevirtual 60, 3) := by decide +kernel
theorem dX6_place_26 : decode cX6_place 26 = .ok (.istore_n 2, 1) := by decide +kernel
theorem dX6_place_27 : decode cX6_place 27 = .ok (.bipush 100, 2) := by decide +kernel
theorem dX6_place_29 : decode cX6_place 29 = .ok (.aload_n 0, 1) := by decide +kernel
theorem dX6_place_30 : decode cX6_place 30 = .ok (.bipush 10, 2) := by decide +kernel
theorem dX6_place_32 : decode cX6_place 32 = .ok (.invokevirtual 60, 3) := by decide +kernel
theorem dX6_place_35 : decode cX6_place 35 = .ok (.imul, 1) := by decide +kernel
theorem dX6_place_36 : decode cX6_place 36 = .ok (.istore_n 3, 1) := by decide +kernel
theorem dX6_place_37 : decode cX6_place 37 = .ok (.sipush 1000, 3) := by decide +kernel
theorem dX6_place_40 : decode cX6_place 40 = .ok (.iload_n 3, 1) := by decide +kernel
theorem dX6_place_41 : decode cX6_place 41 = .ok (.aload_n 0, 1) := by decide +kernel
theorem dX6_place_42 : decode cX6_place 42 = .ok (.sipush 500, 3) := by decide +kernel
theorem dX6_place_45 : decode cX6_place 45 = .ok (.invokevirtual 60, 3) := by decide +kernel
theorem dX6_place_48 : decode cX6_place 48 = .ok (.iadd, 1) := by decide +kernel
theorem dX6_place_49 : decode cX6_place 49 = .ok (.invokestatic 85, 3) := by decide +kernel
theorem dX6_place_52 : decode cX6_place 52 = .ok (.istore 4, 2) := by decide +kernel
theorem dX6_place_54 : decode cX6_place 54 = .ok (.iload_n 3, 1) := by decide +kernel
theorem dX6_place_55 : decode cX6_place 55 = .ok (.iload 4, 2) := by decide +kernel
theorem dX6_place_57 : decode cX6_place 57 = .ok (.if_icmp .gt 7, 3) := by decide +kernel
theorem dX6_place_60 : decode cX6_place 60 = .ok (.iconst 1, 1) := by decide +kernel
theorem dX6_place_61 : decode cX6_place 61 = .ok (.goto 4, 3) := by decide +kernel
theorem dX6_place_64 : decode cX6_place 64 = .ok (.iconst 0, 1) := by decide +kernel
theorem dX6_place_65 : decode cX6_place 65 = .ok (.istore 5, 2) := by decide +kernel
theorem dX6_place_67 : decode cX6_place 67 = .ok (.iconst 0, 1) := by decide +kernel
theorem dX6_place_68 : decode cX6_place 68 = .ok (.istore 6, 2) := by decide +kernel
theorem dX6_place_70 : decode cX6_place 70 = .ok (.iload 6, 2) := by decide +kernel
theorem dX6_place_72 : decode cX6_place 72 = .ok (.aload_n 0, 1) := by decide +kernel
theorem dX6_place_73 : decode cX6_place 73 = .ok (.getfield 57, 3) := by decide +kernel
theorem dX6_place_76 : decode cX6_place 76 = .ok (.if_icmp .ge 92, 3) := by decide +kernel
theorem dX6_place_79 : decode cX6_place 79 = .ok (.iload_n 2, 1) := by decide +kernel
theorem dX6_place_80 : decode cX6_place 80 = .ok (.ifCond .lt 88, 3) := by decide +kernel
theorem dX6_place_83 : decode cX6_place 83 = .ok (.iload 6, 2) := by decide +kernel
theorem dX6_place_85 : decode cX6_place 85 = .ok (.iload_n 1, 1) := by decide +kernel
theorem dX6_place_86 : decode cX6_place 86 = .ok (.if_icmp .eq 76, 3) := by decide +kernel
theorem dX6_place_89 : decode cX6_place 89 = .ok (.aload_n 0, 1) := by decide +kernel
theorem dX6_place_90 : decode cX6_place 90 = .ok (.getfield 18, 3) := by decide +kernel
theorem dX6_place_93 : decode cX6_place 93 = .ok (.iload 6, 2) := by decide +kernel
theorem dX6_place_95 : decode cX6_place 95 = .ok (.aaload, 1) := by decide +kernel
theorem dX6_place_96 : decode cX6_place 96 = .ok (.bipush 7, 2) := by decide +kernel
theorem dX6_place_98 : decode cX6_place 98 = .ok (.iaload, 1) := by decide +kernel
theorem dX6_place_99 : decode cX6_place 99 = .ok (.iload_n 2, 1) := by decide +kernel
theorem dX6_place_100 : decode cX6_place 100 = .ok (.if_icmp .eq 6, 3) := by decide +kernel
theorem dX6_place_103 : decode cX6_place 103 = .ok (.goto 59, 3) := by decide +kernel
theorem dX6_place_106 : decode cX6_place 106 = .ok (.iload_n 3, 1) := by decide +kernel
theorem dX6_place_107 : decode cX6_place 107 = .ok (.istore 7, 2) := by decide +kernel
theorem dX6_place_109 : decode cX6_place 109 = .ok (.iload 7, 2) := by decide +kernel
theorem dX6_place_111 : decode cX6_place 111 = .ok (.iload 4, 2) := by decide +kernel
theorem dX6_place_113 : decode cX6_place 113 = .ok (.if_icmp .ge 49, 3) := by decide +kernel
theorem dX6_place_116 : decode cX6_place 116 = .ok (.iload 5, 2) := by decide +kernel
theorem dX6_place_118 : decode cX6_place 118 = .ok (.iload 7, 2) := by decide +kernel
theorem dX6_place_120 : decode cX6_place 120 = .ok (.aload_n 0, 1) := by decide +kernel
theorem dX6_place_121 : decode cX6_place 121 = .ok (.getfield 18, 3) := by decide +kernel
theorem dX6_place_124 : decode cX6_place 124 = .ok (.iload 6, 2) := by decide +kernel
theorem dX6_place_126 : decode cX6_place 126 = .ok (.aaload, 1) := by decide +kernel
theorem dX6_place_127 : decode cX6_place 127 = .ok (.bipush 8, 2) := by decide +kernel
theorem dX6_place_129 : decode cX6_place 129 = .ok (.iaload, 1) := by decide +kernel
theorem dX6_place_130 : decode cX6_place 130 = .ok (.if_icmp .lt 18, 3) := by decide +kernel
theorem dX6_place_133 : decode cX6_place 133 = .ok (.iload 7, 2) := by decide +kernel
theorem dX6_place_135 : decode cX6_place 135 = .ok (.aload_n 0, 1) := by decide +kernel
theorem dX6_place_136 : decode cX6_place 136 = .ok (.getfield 18, 3) := by decide +kernel
theorem dX6_place_139 : decode cX6_place 139 = .ok (.iload 6, 2) := by decide +kernel
theorem dX6_place_141 : decode cX6_place 141 = .ok (.aaload, 1) := by decide +kernel
theorem dX6_place_142 : decode cX6_place 142 = .ok (.bipush 9, 2) := by decide +kernel
theorem dX6_place_144 : decode cX6_place 144 = .ok (.iaload, 1) := by decide +kernel
theorem dX6_place_145 : decode cX6_place 145 = .ok (.if_icmp .lt 7, 3) := by decide +kernel
theorem dX6_place_148 : decode cX6_place 148 = .ok (.iconst 1, 1) := by decide +kernel
theorem dX6_place_149 : decode cX6_place 149 = .ok (.goto 4, 3) := by decide +kernel
theorem dX6_place_152 : decode cX6_place 152 = .ok (.iconst 0, 1) := by decide +kernel
theorem dX6_place_153 : decode cX6_place 153 = .ok (.iand, 1) := by decide +kernel
theorem dX6_place_154 : decode cX6_place 154 = .ok (.istore 5, 2) := by decide +kernel
theorem dX6_place_156 : decode cX6_place 156 = .ok (.iinc 7 1, 3) := by decide +kernel
theorem dX6_place_159 : decode cX6_place 159 = .ok (.goto (-50), 3) := by decide +kernel
theorem dX6_place_162 : decode cX6_place 162 = .ok (.iinc 6 1, 3) := by decide +kernel
theorem dX6_place_165 : decode cX6_place 165 = .ok (.goto (-95), 3) := by decide +kernel
theorem dX6_place_168 : decode cX6_place 168 = .ok (.aload_n 0, 1) := by decide +kernel
theorem dX6_place_169 : decode cX6_place 169 = .ok (.getfield 18, 3) := by decide +kernel
theorem dX6_place_172 : decode cX6_place 172 = .ok (.iload_n 1, 1) := by decide +kernel
theorem dX6_place_173 : decode cX6_place 173 = .ok (.aaload, 1) := by decide +kernel
theorem dX6_place_174 : decode cX6_place 174 = .ok (.bipush 7, 2) := by decide +kernel
theorem dX6_place_176 : decode cX6_place 176 = .ok (.iaload, 1) := by decide +kernel
theorem dX6_place_177 : decode cX6_place 177 = .ok (.istore 6, 2) := by decide +kernel
theorem dX6_place_179 : decode cX6_place 179 = .ok (.aload_n 0, 1) := by decide +kernel
theorem dX6_place_180 : decode cX6_place 180 = .ok (.getfield 10, 3) := by decide +kernel
theorem dX6_place_183 : decode cX6_place 183 = .ok (.iload_n 1, 1) := by decide +kernel
theorem dX6_place_184 : decode cX6_place 184 = .ok (.iload_n 2, 1) := by decide +kernel
theorem dX6_place_185 : decode cX6_place 185 = .ok (.iload_n 3, 1) := by decide +kernel
theorem dX6_place_186 : decode cX6_place 186 = .ok (.iload 4, 2) := by decide +kernel
theorem dX6_place_188 : decode cX6_place 188 = .ok (.invokevirtual 90, 3) := by decide +kernel
theorem dX6_place_191 : decode cX6_place 191 = .ok (.iload 6, 2) := by decide +kernel
theorem dX6_place_193 : decode cX6_place 193 = .ok (.if_icmp .ne 8, 3) := by decide +kernel
theorem dX6_place_196 : decode cX6_place 196 = .ok (.iload 5, 2) := by decide +kernel
theorem dX6_place_198 : decode cX6_place 198 = .ok (.ifCond .ne 5, 3) := by decide +kernel
theorem dX6_place_201 : decode cX6_place 201 = .ok (.iconst 0, 1) := by decide +kernel
theorem dX6_place_202 : decode cX6_place 202 = .ok (.ireturn, 1) := by decide +kernel
theorem dX6_place_203 : decode cX6_place 203 = .ok (.aload_n 0, 1) := by decide +kernel
theorem dX6_place_204 : decode cX6_place 204 = .ok (.getfield 18, 3) := by decide +kernel
theorem dX6_place_207 : decode cX6_place 207 = .ok (.iload_n 1, 1) := by decide +kernel
theorem dX6_place_208 : decode cX6_place 208 = .ok (.aaload, 1) := by decide +kernel
theorem dX6_place_209 : decode cX6_place 209 = .ok (.bipush 7, 2) := by decide +kernel
theorem dX6_place_211 : decode cX6_place 211 = .ok (.iload_n 2, 1) := by decide +kernel
theorem dX6_place_212 : decode cX6_place 212 = .ok (.iastore, 1) := by decide +kernel
theorem dX6_place_213 : decode cX6_place 213 = .ok (.aload_n 0, 1) := by decide +kernel
theorem dX6_place_214 : decode cX6_place 214 = .ok (.getfield 18, 3) := by decide +kernel
theorem dX6_place_217 : decode cX6_place 217 = .ok (.iload_n 1, 1) := by decide +kernel
theorem dX6_place_218 : decode cX6_place 218 = .ok (.aaload, 1) := by decide +kernel
theorem dX6_place_219 : decode cX6_place 219 = .ok (.bipush 8, 2) := by decide +kernel
theorem dX6_place_221 : decode cX6_place 221 = .ok (.iload_n 3, 1) := by decide +kernel
theorem dX6_place_222 : decode cX6_place 222 = .ok (.iastore, 1) := by decide +kernel
theorem dX6_place_223 : decode cX6_place 223 = .ok (.aload_n 0, 1) := by decide +kernel
theorem dX6_place_224 : decode cX6_place 224 = .ok (.getfield 18, 3) := by decide +kernel
theorem dX6_place_227 : decode cX6_place 227 = .ok (.iload_n 1, 1) := by decide +kernel
theorem dX6_place_228 : decode cX6_place 228 = .ok (.aaload, 1) := by decide +kernel
theorem dX6_place_229 : decode cX6_place 229 = .ok (.bipush 9, 2) := by decide +kernel
theorem dX6_place_231 : decode cX6_place 231 = .ok (.iload 4, 2) := by decide +kernel
theorem dX6_place_233 : decode cX6_place 233 = .ok (.iastore, 1) := by decide +kernel
theorem dX6_place_234 : decode cX6_place 234 = .ok (.iconst 1, 1) := by decide +kernel
theorem dX6_place_235 : decode cX6_place 235 = .ok (.ireturn, 1) := by decide +kernel
theorem dX6_place_236 : decode cX6_place 236 = .ok (.astore 7, 2) := by decide +kernel
theorem dX6_place_238 : decode cX6_place 238 = .ok (.iload 5, 2) := by decide +kernel
theorem dX6_place_240 : decode cX6_place 240 = .ok (.ifCond .ne 7, 3) := by decide +kernel
theorem dX6_place_243 : decode cX6_place 243 = .ok (.iconst 1, 1) := by decide +kernel
theorem dX6_place_244 : decode cX6_place 244 = .ok (.goto 4, 3) := by decide +kernel
theorem dX6_place_247 : decode cX6_place 247 = .ok (.iconst 0, 1) := by decide +kernel
theorem dX6_place_248 : decode cX6_place 248 = .ok (.ireturn, 1) := by decide +kernel
theorem dX6_need_0 : decode cX6_need 0 = .ok (.aload_n 0, 1) := by decide +kernel
theorem dX6_need_1 : decode cX6_need 1 = .ok (.aload_n 0, 1) := by decide +kernel
theorem dX6_need_2 : decode cX6_need 2 = .ok (.getfield 57, 3) := by decide +kernel
theorem dX6_need_5 : decode cX6_need 5 = .ok (.invokevirtual 60, 3) := by decide +kernel
theorem dX6_need_8 : decode cX6_need 8 = .ok (.istore_n 1, 1) := by decide +kernel
theorem dX6_need_9 : decode cX6_need 9 = .ok (.iload_n 1, 1) := by decide +kernel
theorem dX6_need_10 : decode cX6_need 10 = .ok (.ifCond .eq 11, 3) := by decide +kernel
theorem dX6_need_13 : decode cX6_need 13 = .ok (.aload_n 0, 1) := by decide +kernel
theorem dX6_need_14 : decode cX6_need 14 = .ok (.iconst 4, 1) := by decide +kernel
theorem dX6_need_15 : decode cX6_need 15 = .ok (.invokevirtual 60, 3) := by decide +kernel
theorem dX6_need_18 : decode cX6_need 18 = .ok (.ifCond .ne 7, 3) := by decide +kernel
theorem dX6_need_21 : decode cX6_need 21 = .ok (.iconst (-1), 1) := by decide +kernel
theorem dX6_need_22 : decode cX6_need 22 = .ok (.goto 8, 3) := by decide +kernel
theorem dX6_need_25 : decode cX6_need 25 = .ok (.aload_n 0, 1) := by decide +kernel
theorem dX6_need_26 : decode cX6_need 26 = .ok (.iload_n 1, 1) := by decide +kernel
theorem dX6_need_27 : decode cX6_need 27 = .ok (.invokevirtual 60, 3) := by decide +kernel
theorem dX6_need_30 : decode cX6_need 30 = .ok (.istore_n 2, 1) := by decide +kernel
theorem dX6_need_31 : decode cX6_need 31 = .ok (.aload_n 0, 1) := by decide +kernel
theorem dX6_need_32 : decode cX6_need 32 = .ok (.getfield 18, 3) := by decide +kernel
theorem dX6_need_35 : decode cX6_need 35 = .ok (.iload_n 1, 1) := by decide +kernel
theorem dX6_need_36 : decode cX6_need 36 = .ok (.aaload, 1) := by decide +kernel
theorem dX6_need_37 : decode cX6_need 37 = .ok (.bipush 10, 2) := by decide +kernel
theorem dX6_need_39 : decode cX6_need 39 = .ok (.iaload, 1) := by decide +kernel
theorem dX6_need_40 : decode cX6_need 40 = .ok (.istore_n 3, 1) := by decide +kernel
theorem dX6_need_41 : decode cX6_need 41 = .ok (.aload_n 0, 1) := by decide +kernel
theorem dX6_need_42 : decode cX6_need 42 = .ok (.getfield 18, 3) := by decide +kernel
theorem dX6_need_45 : decode cX6_need 45 = .ok (.iload_n 1, 1) := by decide +kernel
theorem dX6_need_46 : decode cX6_need 46 = .ok (.aaload, 1) := by decide +kernel
theorem dX6_need_47 : decode cX6_need 47 = .ok (.bipush 10, 2) := by decide +kernel
theorem dX6_need_49 : decode cX6_need 49 = .ok (.iload_n 2, 1) := by decide +kernel
theorem dX6_need_50 : decode cX6_need 50 = .ok (.iastore, 1) := by decide +kernel
theorem dX6_need_51 : decode cX6_need 51 = .ok (.aload_n 0, 1) := by decide +kernel
theorem dX6_need_52 : decode cX6_need 52 = .ok (.getfield 18, 3) := by decide +kernel
theorem dX6_need_55 : decode cX6_need 55 = .ok (.iload_n 1, 1) := by decide +kernel
theorem dX6_need_56 : decode cX6_need 56 = .ok (.aaload, 1) := by decide +kernel
theorem dX6_need_57 : decode cX6_need 57 = .ok (.bipush 11, 2) := by decide +kernel
theorem dX6_need_59 : decode cX6_need 59 = .ok (.iload_n 2, 1) := by decide +kernel
theorem dX6_need_60 : decode cX6_need 60 = .ok (.ifCond .ge 7, 3) := by decide +kernel
theorem dX6_need_63 : decode cX6_need 63 = .ok (.iconst 0, 1) := by decide +kernel
theorem dX6_need_64 : decode cX6_need 64 = .ok (.goto 15, 3) := by decide +kernel
theorem dX6_need_67 : decode cX6_need 67 = .ok (.aload_n 0, 1) := by decide +kernel
theorem dX6_need_68 : decode cX6_need 68 = .ok (.aload_n 0, 1) := by decide +kernel
theorem dX6_need_69 : decode cX6_need 69 = .ok (.getfield 18, 3) := by decide +kernel
theorem dX6_need_72 : decode cX6_need 72 = .ok (.iload_n 2, 1) := by decide +kernel
theorem dX6_need_73 : decode cX6_need 73 = .ok (.aaload, 1) := by decide +kernel
theorem dX6_need_74 : decode cX6_need 74 = .ok (.iconst 1, 1) := by decide +kernel
theorem dX6_need_75 : decode cX6_need 75 = .ok (.iaload, 1) := by decide +kernel
theorem dX6_need_76 : decode cX6_need 76 = .ok (.invokevirtual 60, 3) := by decide +kernel
theorem dX6_need_79 : decode cX6_need 79 = .ok (.iastore, 1) := by decide +kernel
theorem dX6_need_80 : decode cX6_need 80 = .ok (.aload_n 0, 1) := by decide +kernel
theorem dX6_need_81 : decode cX6_need 81 = .ok (.getfield 10, 3) := by decide +kernel
theorem dX6_need_84 : decode cX6_need 84 = .ok (.iload_n 1, 1) := by decide +kernel
theorem dX6_need_85 : decode cX6_need 85 = .ok (.iload_n 2, 1) := by decide +kernel
theorem dX6_need_86 : decode cX6_need 86 = .ok (.aload_n 0, 1) := by decide +kernel
theorem dX6_need_87 : decode cX6_need 87 = .ok (.getfield 18, 3) := by decide +kernel
theorem dX6_need_90 : decode cX6_need 90 = .ok (.iload_n 1, 1) := by decide +kernel
theorem dX6_need_91 : decode cX6_need 91 = .ok (.aaload, 1) := by decide +kernel
theorem dX6_need_92 : decode cX6_need 92 = .ok (.bipush 11, 2) := by decide +kernel
theorem dX6_need_94 : decode cX6_need 94 = .ok (.iaload, 1) := by decide +kernel
theorem dX6_need_95 : decode cX6_need 95 = .ok (.invokevirtual 96, 3) := by decide +kernel
theorem dX6_need_98 : decode cX6_need 98 = .ok (.iload_n 3, 1) := by decide +kernel
theorem dX6_need_99 : decode cX6_need 99 = .ok (.if_icmp .ne 7, 3) := by decide +kernel
theorem dX6_need_102 : decode cX6_need 102 = .ok (.iconst 1, 1) := by decide +kernel
theorem dX6_need_103 : decode cX6_need 103 = .ok (.goto 4, 3) := by decide +kernel
theorem dX6_need_106 : decode cX6_need 106 = .ok (.iconst 0, 1) := by decide +kernel
theorem dX6_need_107 : decode cX6_need 107 = .ok (.ireturn, 1) := by decide +kernel
theorem dX6_rule_0 : decode cX6_rule 0 = .ok (.aload_n 0, 1) := by decide +kernel
theorem dX6_rule_1 : decode cX6_rule 1 = .ok (.aload_n 0, 1) := by decide +kernel
theorem dX6_rule_2 : decode cX6_rule 2 = .ok (.getfield 57, 3) := by decide +kernel
theorem dX6_rule_5 : decode cX6_rule 5 = .ok (.invokevirtual 60, 3) := by decide +kernel
theorem dX6_rule_8 : decode cX6_rule 8 = .ok (.istore_n 1, 1) := by decide +kernel
theorem dX6_rule_9 : decode cX6_rule 9 = .ok (.aload_n 0, 1) := by decide +kernel
theorem dX6_rule_10 : decode cX6_rule 10 = .ok (.getfield 28, 3) := by decide +kernel
theorem dX6_rule_13 : decode cX6_rule 13 = .ok (.iload_n 1, 1) := by decide +kernel
theorem dX6_rule_14 : decode cX6_rule 14 = .ok (.aaload, 1) := by decide +kernel
theorem dX6_rule_15 : decode cX6_rule 15 = .ok (.arraylength, 1) := by decide +kernel
theorem dX6_rule_16 : decode cX6_rule 16 = .ok (.iconst 5, 1) := by decide +kernel
theorem dX6_rule_17 : decode cX6_rule 17 = .ok (.if_icmp .ne 31, 3) := by decide +kernel
theorem dX6_rule_20 : decode cX6_rule 20 = .ok (.aload_n 0, 1) := by decide +kernel
theorem dX6_rule_21 : decode cX6_rule 21 = .ok (.getfield 10, 3) := by decide +kernel
theorem dX6_rule_24 : decode cX6_rule 24 = .ok (.iload_n 1, 1) := by decide +kernel
theorem dX6_rule_25 : decode cX6_rule 25 = .ok (.iconst 2, 1) := by decide +kernel
theorem dX6_rule_26 : decode cX6_rule 26 = .ok (.invokevirtual 99, 3) := by decide +kernel
theorem dX6_rule_29 : decode cX6_rule 29 = .ok (.iconst 4, 1) := by decide +kernel
theorem dX6_rule_30 : decode cX6_rule 30 = .ok (.if_icmp .ne 16, 3) := by decide +kernel
theorem dX6_rule_33 : decode cX6_rule 33 = .ok (.aload_n 0, 1) := by decide +kernel
theorem dX6_rule_34 : decode cX6_rule 34 = .ok (.iload_n 1, 1) := by decide +kernel
theorem dX6_rule_35 : decode cX6_rule 35 = .ok (.iconst 2, 1) := by decide +kernel
theorem dX6_rule_36 : decode cX6_rule 36 = .ok (.invokevirtual 102, 3) := by decide +kernel
theorem dX6_rule_39 : decode cX6_rule 39 = .ok (.ifCond .eq 7, 3) := by decide +kernel
theorem dX6_rule_42 : decode cX6_rule 42 = .ok (.iconst 1, 1) := by decide +kernel
theorem dX6_rule_43 : decode cX6_rule 43 = .ok (.goto 4, 3) := by decide +kernel
theorem dX6_rule_46 : decode cX6_rule 46 = .ok (.iconst 0, 1) := by decide +kernel
theorem dX6_rule_47 : decode cX6_rule 47 = .ok (.ireturn, 1) := by decide +kernel
theorem dX6_rule_48 : decode cX6_rule 48 = .ok (.iconst 4, 1) := by decide +kernel
theorem dX6_rule_49 : decode cX6_rule 49 = .ok (.newarray .int, 2) := by decide +kernel
theorem dX6_rule_51 : decode cX6_rule 51 = .ok (.dup, 1) := by decide +kernel
theorem dX6_rule_52 : decode cX6_rule 52 = .ok (.iconst 0, 1) := by decide +kernel
theorem dX6_rule_53 : decode cX6_rule 53 = .ok (.aload_n 0, 1) := by decide +kernel
theorem dX6_rule_54 : decode cX6_rule 54 = .ok (.iconst 2, 1) := by decide +kernel
theorem dX6_rule_55 : decode cX6_rule 55 = .ok (.invokevirtual 60, 3) := by decide +kernel
theorem dX6_rule_58 : decode cX6_rule 58 = .ok (.iastore, 1) := by decide +kernel
theorem dX6_rule_59 : decode cX6_rule 59 = .ok (.dup, 1) := by decide +kernel
theorem dX6_rule_60 : decode cX6_rule 60 = .ok (.iconst 1, 1) := by decide +kernel
theorem dX6_rule_61 : decode cX6_rule 61 = .ok (.iconst 1, 1) := by decide +kernel
theorem dX6_rule_62 : decode cX6_rule 62 = .ok (.aload_n 0, 1) := by decide +kernel
theorem dX6_rule_63 : decode cX6_rule 63 = .ok (.iconst 3, 1) := by decide +kernel
theorem dX6_rule_64 : decode cX6_rule 64 = .ok (.invokevirtual 60, 3) := by decide +kernel
theorem dX6_rule_67 : decode cX6_rule 67 = .ok (.iadd, 1) := by decide +kernel
theorem dX6_rule_68 : decode cX6_rule 68 = .ok (.iastore, 1) := by decide +kernel
theorem dX6_rule_69 : decode cX6_rule 69 = .ok (.dup, 1) := by decide +kernel
theorem dX6_rule_70 : decode cX6_rule 70 = .ok (.iconst 2, 1) := by decide +kernel
theorem dX6_rule_71 : decode cX6_rule 71 = .ok (.aload_n 0, 1) := by decide +kernel
theorem dX6_rule_72 : decode cX6_rule 72 = .ok (.bipush 10, 2) := by decide +kernel
theorem dX6_rule_74 : decode cX6_rule 74 = .ok (.invokevirtual 60, 3) := by decide +kernel
theorem dX6_rule_77 : decode cX6_rule 77 = .ok (.iastore, 1) := by decide +kernel
theorem dX6_rule_78 : decode cX6_rule 78 = .ok (.dup, 1) := by decide +kernel
theorem dX6_rule_79 : decode cX6_rule 79 = .ok (.iconst 3, 1) := by decide +kernel
theorem dX6_rule_80 : decode cX6_rule 80 = .ok (.aload_n 0, 1) := by decide +kernel
theorem dX6_rule_81 : decode cX6_rule 81 = .ok (.iconst 3, 1) := by decide +kernel
theorem dX6_rule_82 : decode cX6_rule 82 = .ok (.invokevirtual 60, 3) := by decide +kernel
theorem dX6_rule_85 : decode cX6_rule 85 = .ok (.ifCond .ne 7, 3) := by decide +kernel
theorem dX6_rule_88 : decode cX6_rule 88 = .ok (.iconst (-1), 1) := by decide +kernel
theorem dX6_rule_89 : decode cX6_rule 89 = .ok (.goto 15, 3) := by decide +kernel
theorem dX6_rule_92 : decode cX6_rule 92 = .ok (.aload_n 0, 1) := by decide +kernel
theorem dX6_rule_93 : decode cX6_rule 93 = .ok (.aload_n 0, 1) := by decide +kernel
theorem dX6_rule_94 : decode cX6_rule 94 = .ok (.getfield 18, 3) := by decide +kernel
theorem dX6_rule_97 : decode cX6_rule 97 = .ok (.iload_n 1, 1) := by decide +kernel
theorem dX6_rule_98 : decode cX6_rule 98 = .ok (.aaload, 1) := by decide +kernel
theorem dX6_rule_99 : decode cX6_rule 99 = .ok (.iconst 1, 1) := by decide +kernel
theorem dX6_rule_100 : decode cX6_rule 100 = .ok (.iaload, 1) := by decide +kernel
theorem dX6_rule_101 : decode cX6_rule 101 = .ok (.invokevirtual 60, 3) := by decide +kernel
theorem dX6_rule_104 : decode cX6_rule 104 = .ok (.iastore, 1) := by decide +kernel
theorem dX6_rule_105 : decode cX6_rule 105 = .ok (.astore_n 2, 1) := by decide +kernel
theorem dX6_rule_106 : decode cX6_rule 106 = .ok (.aload_n 0, 1) := by decide +kernel
theorem dX6_rule_107 : decode cX6_rule 107 = .ok (.getfield 28, 3) := by decide +kernel
theorem dX6_rule_110 : decode cX6_rule 110 = .ok (.iload_n 1, 1) := by decide +kernel
theorem dX6_rule_111 : decode cX6_rule 111 = .ok (.aload_n 0, 1) := by decide +kernel
theorem dX6_rule_112 : decode cX6_rule 112 = .ok (.getfield 28, 3) := by decide +kernel
theorem dX6_rule_115 : decode cX6_rule 115 = .ok (.iload_n 1, 1) := by decide +kernel
theorem dX6_rule_116 : decode cX6_rule 116 = .ok (.aaload, 1) := by decide +kernel
theorem dX6_rule_117 : decode cX6_rule 117 = .ok (.aload_n 2, 1) := by decide +kernel
theorem dX6_rule_118 : decode cX6_rule 118 = .ok (.invokestatic 106, 3) := by decide +kernel
theorem dX6_rule_121 : decode cX6_rule 121 = .ok (.aastore, 1) := by decide +kernel
theorem dX6_rule_122 : decode cX6_rule 122 = .ok (.aload_n 0, 1) := by decide +kernel
theorem dX6_rule_123 : decode cX6_rule 123 = .ok (.getfield 10, 3) := by decide +kernel
theorem dX6_rule_126 : decode cX6_rule 126 = .ok (.iload_n 1, 1) := by decide +kernel
theorem dX6_rule_127 : decode cX6_rule 127 = .ok (.aload_n 2, 1) := by decide +kernel
theorem dX6_rule_128 : decode cX6_rule 128 = .ok (.iconst 0, 1) := by decide +kernel
theorem dX6_rule_129 : decode cX6_rule 129 = .ok (.iaload, 1) := by decide +kernel
theorem dX6_rule_130 : decode cX6_rule 130 = .ok (.aload_n 2, 1) := by decide +kernel
theorem dX6_rule_131 : decode cX6_rule 131 = .ok (.iconst 1, 1) := by decide +kernel
theorem dX6_rule_132 : decode cX6_rule 132 = .ok (.iaload, 1) := by decide +kernel
theorem dX6_rule_133 : decode cX6_rule 133 = .ok (.aload_n 2, 1) := by decide +kernel
theorem dX6_rule_134 : decode cX6_rule 134 = .ok (.iconst 2, 1) := by decide +kernel
theorem dX6_rule_135 : decode cX6_rule 135 = .ok (.iaload, 1) := by decide +kernel
theorem dX6_rule_136 : decode cX6_rule 136 = .ok (.aload_n 2, 1) := by decide +kernel
theorem dX6_rule_137 : decode cX6_rule 137 = .ok (.iconst 3, 1) := by decide +kernel
theorem dX6_rule_138 : decode cX6_rule 138 = .ok (.iaload, 1) := by decide +kernel
theorem dX6_rule_139 : decode cX6_rule 139 = .ok (.invokevirtual 110, 3) := by decide +kernel
theorem dX6_rule_142 : decode cX6_rule 142 = .ok (.aload_n 0, 1) := by decide +kernel
theorem dX6_rule_143 : decode cX6_rule 143 = .ok (.getfield 28, 3) := by decide +kernel
theorem dX6_rule_146 : decode cX6_rule 146 = .ok (.iload_n 1, 1) := by decide +kernel
theorem dX6_rule_147 : decode cX6_rule 147 = .ok (.aaload, 1) := by decide +kernel
theorem dX6_rule_148 : decode cX6_rule 148 = .ok (.arraylength, 1) := by decide +kernel
theorem dX6_rule_149 : decode cX6_rule 149 = .ok (.if_icmp .ne 7, 3) := by decide +kernel
theorem dX6_rule_152 : decode cX6_rule 152 = .ok (.iconst 1, 1) := by decide +kernel
theorem dX6_rule_153 : decode cX6_rule 153 = .ok (.goto 4, 3) := by decide +kernel
theorem dX6_rule_156 : decode cX6_rule 156 = .ok (.iconst 0, 1) := by decide +kernel
theorem dX6_rule_157 : decode cX6_rule 157 = .ok (.ireturn, 1) := by decide +kernel
theorem dX6_dropRule_0 : decode cX6_dropRule 0 = .ok (.aload_n 0, 1) := by decide +kernel
theorem dX6_dropRule_1 : decode cX6_dropRule 1 = .ok (.getfield 28, 3) := by decide +kernel
theorem dX6_dropRule_4 : decode cX6_dropRule 4 = .ok (.iload_n 1, 1) := by decide +kernel
theorem dX6_dropRule_5 : decode cX6_dropRule 5 = .ok (.aaload, 1) := by decide +kernel
theorem dX6_dropRule_6 : decode cX6_dropRule 6 = .ok (.arraylength, 1) := by decide +kernel
theorem dX6_dropRule_7 : decode cX6_dropRule 7 = .ok (.iconst 1, 1) := by decide +kernel
theorem dX6_dropRule_8 : decode cX6_dropRule 8 = .ok (.isub, 1) := by decide +kernel
theorem dX6_dropRule_9 : decode cX6_dropRule 9 = .ok (.anewarray 16, 3) := by decide +kernel
theorem dX6_dropRule_12 : decode cX6_dropRule 12 = .ok (.astore_n 3, 1) := by decide +kernel
theorem dX6_dropRule_13 : decode cX6_dropRule 13 = .ok (.iconst 0, 1) := by decide +kernel
theorem dX6_dropRule_14 : decode cX6_dropRule 14 = .ok (.istore 4, 2) := by decide +kernel
theorem dX6_dropRule_16 : decode cX6_dropRule 16 = .ok (.iload 4, 2) := by decide +kernel
theorem dX6_dropRule_18 : decode cX6_dropRule 18 = .ok (.aload_n 3, 1) := by decide +kernel
theorem dX6_dropRule_19 : decode cX6_dropRule 19 = .ok (.arraylength, 1) := by decide +kernel
theorem dX6_dropRule_20 : decode cX6_dropRule 20 = .ok (.if_icmp .ge 35, 3) := by decide +kernel
theorem dX6_dropRule_23 : decode cX6_dropRule 23 = .ok (.aload_n 3, 1) := by decide +kernel
theorem dX6_dropRule_24 : decode cX6_dropRule 24 = .ok (.iload 4, 2) := by decide +kernel
theorem dX6_dropRule_26 : decode cX6_dropRule 26 = .ok (.aload_n 0, 1) := by decide +kernel
theorem dX6_dropRule_27 : decode cX6_dropRule 27 = .ok (.getfield 28, 3) := by decide +kernel
theorem dX6_dropRule_30 : decode cX6_dropRule 30 = .ok (.iload_n 1, 1) := by decide +kernel
theorem dX6_dropRule_31 : decode cX6_dropRule 31 = .ok (.aaload, 1) := by decide +kernel
theorem dX6_dropRule_32 : decode cX6_dropRule 32 = .ok (.iload 4, 2) := by decide +kernel
theorem dX6_dropRule_34 : decode cX6_dropRule 34 = .ok (.iload_n 2, 1) := by decide +kernel
theorem dX6_dropRule_35 : decode cX6_dropRule 35 = .ok (.if_icmp .ge 8, 3) := by decide +kernel
theorem dX6_dropRule_38 : decode cX6_dropRule 38 = .ok (.iload 4, 2) := by decide +kernel
theorem dX6_dropRule_40 : decode cX6_dropRule 40 = .ok (.goto 7, 3) := by decide +kernel
theorem dX6_dropRule_43 : decode cX6_dropRule 43 = .ok (.iload 4, 2) := by decide +kernel
theorem dX6_dropRule_45 : decode cX6_dropRule 45 = .ok (.iconst 1, 1) := by decide +kernel
theorem dX6_dropRule_46 : decode cX6_dropRule 46 = .ok (.iadd, 1) := by decide +kernel
theorem dX6_dropRule_47 : decode cX6_dropRule 47 = .ok (.aaload, 1) := by decide +kernel
theorem dX6_dropRule_48 : decode cX6_dropRule 48 = .ok (.aastore, 1) := by decide +kernel
theorem dX6_dropRule_49 : decode cX6_dropRule 49 = .ok (.iinc 4 1, 3) := by decide +kernel
theorem dX6_dropRule_52 : decode cX6_dropRule 52 = .ok (.goto (-36), 3) := by decide +kernel
theorem dX6_dropRule_55 : decode cX6_dropRule 55 = .ok (.aload_n 0, 1) := by decide +kernel
theorem dX6_dropRule_56 : decode cX6_dropRule 56 = .ok (.getfield 28, 3) := by decide +kernel
theorem dX6_dropRule_59 : decode cX6_dropRule 59 = .ok (.iload_n 1, 1) := by decide +kernel
theorem dX6_dropRule_60 : decode cX6_dropRule 60 = .ok (.aload_n 3, 1) := by decide +kernel
theorem dX6_dropRule_61 : decode cX6_dropRule 61 = .ok (.aastore, 1) := by decide +kernel
theorem dX6_dropRule_62 : decode cX6_dropRule 62 = .ok (.iconst 1, 1) := by decide +kernel
theorem dX6_dropRule_63 : decode cX6_dropRule 63 = .ok (.ireturn, 1) := by decide +kernel
theorem dX6_unrule_0 : decode cX6_unrule 0 = .ok (.aload_n 0, 1) := by decide +kernel
theorem dX6_unrule_1 : decode cX6_unrule 1 = .ok (.aload_n 0, 1) := by decide +kernel
theorem dX6_unrule_2 : decode cX6_unrule 2 = .ok (.getfield 57, 3) := by decide +kernel
theorem dX6_unrule_5 : decode cX6_unrule 5 = .ok (.invokevirtual 60, 3) := by decide +kernel
theorem dX6_unrule_8 : decode cX6_unrule 8 = .ok (.istore_n 1, 1) := by decide +kernel
theorem dX6_unrule_9 : decode cX6_unrule 9 = .ok (.aload_n 0, 1) := by decide +kernel
theorem dX6_unrule_10 : decode cX6_unrule 10 = .ok (.iconst 5, 1) := by decide +kernel
theorem dX6_unrule_11 : decode cX6_unrule 11 = .ok (.invokevirtual 60, 3) := by decide +kernel
theorem dX6_unrule_14 : decode cX6_unrule 14 = .ok (.istore_n 2, 1) := by decide +kernel
theorem dX6_unrule_15 : decode cX6_unrule 15 = .ok (.iload_n 2, 1) := by decide +kernel
theorem dX6_unrule_16 : decode cX6_unrule 16 = .ok (.aload_n 0, 1) := by decide +kernel
theorem dX6_unrule_17 : decode cX6_unrule 17 = .ok (.getfield 28, 3) := by decide +kernel
theorem dX6_unrule_20 : decode cX6_unrule 20 = .ok (.iload_n 1, 1) := by decide +kernel
theorem dX6_unrule_21 : decode cX6_unrule 21 = .ok (.aaload, 1) := by decide +kernel
theorem dX6_unrule_22 : decode cX6_unrule 22 = .ok (.arraylength, 1) := by decide +kernel
theorem dX6_unrule_23 : decode cX6_unrule 23 = .ok (.if_icmp .lt 5, 3) := by decide +kernel
theorem dX6_unrule_26 : decode cX6_unrule 26 = .ok (.iconst 1, 1) := by decide +kernel
theorem dX6_unrule_27 : decode cX6_unrule 27 = .ok (.ireturn, 1) := by decide +kernel
theorem dX6_unrule_28 : decode cX6_unrule 28 = .ok (.aload_n 0, 1) := by decide +kernel
theorem dX6_unrule_29 : decode cX6_unrule 29 = .ok (.getfield 10, 3) := by decide +kernel
theorem dX6_unrule_32 : decode cX6_unrule 32 = .ok (.iload_n 1, 1) := by decide +kernel
theorem dX6_unrule_33 : decode cX6_unrule 33 = .ok (.iload_n 2, 1) := by decide +kernel
theorem dX6_unrule_34 : decode cX6_unrule 34 = .ok (.invokevirtual 99, 3) := by decide +kernel
theorem dX6_unrule_37 : decode cX6_unrule 37 = .ok (.aload_n 0, 1) := by decide +kernel
theorem dX6_unrule_38 : decode cX6_unrule 38 = .ok (.getfield 28, 3) := by decide +kernel
theorem dX6_unrule_41 : decode cX6_unrule 41 = .ok (.iload_n 1, 1) := by decide +kernel
theorem dX6_unrule_42 : decode cX6_unrule 42 = .ok (.aaload, 1) := by decide +kernel
theorem dX6_unrule_43 : decode cX6_unrule 43 = .ok (.arraylength, 1) := by decide +kernel
theorem dX6_unrule_44 : decode cX6_unrule 44 = .ok (.iconst 1, 1) := by decide +kernel
theorem dX6_unrule_45 : decode cX6_unrule 45 = .ok (.isub, 1) := by decide +kernel
theorem dX6_unrule_46 : decode cX6_unrule 46 = .ok (.if_icmp .ne 16, 3) := by decide +kernel
theorem dX6_unrule_49 : decode cX6_unrule 49 = .ok (.aload_n 0, 1) := by decide +kernel
theorem dX6_unrule_50 : decode cX6_unrule 50 = .ok (.iload_n 1, 1) := by decide +kernel
theorem dX6_unrule_51 : decode cX6_unrule 51 = .ok (.iload_n 2, 1) := by decide +kernel
theorem dX6_unrule_52 : decode cX6_unrule 52 = .ok (.invokevirtual 102, 3) := by decide +kernel
theorem dX6_unrule_55 : decode cX6_unrule 55 = .ok (.ifCond .eq 7, 3) := by decide +kernel
theorem dX6_unrule_58 : decode cX6_unrule 58 = .ok (.iconst 1, 1) := by decide +kernel
theorem dX6_unrule_59 : decode cX6_unrule 59 = .ok (.goto 4, 3) := by decide +kernel
theorem dX6_unrule_62 : decode cX6_unrule 62 = .ok (.iconst 0, 1) := by decide +kernel
theorem dX6_unrule_63 : decode cX6_unrule 63 = .ok (.ireturn, 1) := by decide +kernel
theorem dX6_hold_0 : decode cX6_hold 0 = .ok (.aload_n 0, 1) := by decide +kernel
theorem dX6_hold_1 : decode cX6_hold 1 = .ok (.getfield 114, 3) := by decide +kernel
theorem dX6_hold_4 : decode cX6_hold 4 = .ok (.istore_n 1, 1) := by decide +kernel
theorem dX6_hold_5 : decode cX6_hold 5 = .ok (.aload_n 0, 1) := by decide +kernel
theorem dX6_hold_6 : decode cX6_hold 6 = .ok (.aload_n 0, 1) := by decide +kernel
theorem dX6_hold_7 : decode cX6_hold 7 = .ok (.iconst 2, 1) := by decide +kernel
theorem dX6_hold_8 : decode cX6_hold 8 = .ok (.invokevirtual 60, 3) := by decide +kernel
theorem dX6_hold_11 : decode cX6_hold 11 = .ok (.ifCond .ne 7, 3) := by decide +kernel
theorem dX6_hold_14 : decode cX6_hold 14 = .ok (.iconst 0, 1) := by decide +kernel
theorem dX6_hold_15 : decode cX6_hold 15 = .ok (.goto 10, 3) := by decide +kernel
theorem dX6_hold_18 : decode cX6_hold 18 = .ok (.aload_n 0, 1) := by decide +kernel
theorem dX6_hold_19 : decode cX6_hold 19 = .ok (.sipush 300, 3) := by decide +kernel
theorem dX6_hold_22 : decode cX6_hold 22 = .ok (.invokevirtual 60, 3) := by decide +kernel
theorem dX6_hold_25 : decode cX6_hold 25 = .ok (.putfield 114, 3) := by decide +kernel
theorem dX6_hold_28 : decode cX6_hold 28 = .ok (.aload_n 0, 1) := by decide +kernel
theorem dX6_hold_29 : decode cX6_hold 29 = .ok (.getfield 10, 3) := by decide +kernel
theorem dX6_hold_32 : decode cX6_hold 32 = .ok (.aload_n 0, 1) := by decide +kernel
theorem dX6_hold_33 : decode cX6_hold 33 = .ok (.getfield 114, 3) := by decide +kernel
theorem dX6_hold_36 : decode cX6_hold 36 = .ok (.invokevirtual 117, 3) := by decide +kernel
theorem dX6_hold_39 : decode cX6_hold 39 = .ok (.iload_n 1, 1) := by decide +kernel
theorem dX6_hold_40 : decode cX6_hold 40 = .ok (.if_icmp .ne 7, 3) := by decide +kernel
theorem dX6_hold_43 : decode cX6_hold 43 = .ok (.iconst 1, 1) := by decide +kernel
theorem dX6_hold_44 : decode cX6_hold 44 = .ok (.goto 4, 3) := by decide +kernel
theorem dX6_hold_47 : decode cX6_hold 47 = .ok (.iconst 0, 1) := by decide +kernel
theorem dX6_hold_48 : decode cX6_hold 48 = .ok (.ireturn, 1) := by decide +kernel
theorem dX6_goOn_0 : decode cX6_goOn 0 = .ok (.iconst 1, 1) := by decide +kernel
theorem dX6_goOn_1 : decode cX6_goOn 1 = .ok (.aload_n 0, 1) := by decide +kernel
theorem dX6_goOn_2 : decode cX6_goOn 2 = .ok (.iconst 4, 1) := by decide +kernel
theorem dX6_goOn_3 : decode cX6_goOn 3 = .ok (.invokevirtual 60, 3) := by decide +kernel
theorem dX6_goOn_6 : decode cX6_goOn 6 = .ok (.iadd, 1) := by decide +kernel
theorem dX6_goOn_7 : decode cX6_goOn 7 = .ok (.istore_n 1, 1) := by decide +kernel
theorem dX6_goOn_8 : decode cX6_goOn 8 = .ok (.aload_n 0, 1) := by decide +kernel
theorem dX6_goOn_9 : decode cX6_goOn 9 = .ok (.dup, 1) := by decide +kernel
theorem dX6_goOn_10 : decode cX6_goOn 10 = .ok (.getfield 64, 3) := by decide +kernel
theorem dX6_goOn_13 : decode cX6_goOn 13 = .ok (.iload_n 1, 1) := by decide +kernel
theorem dX6_goOn_14 : decode cX6_goOn 14 = .ok (.iadd, 1) := by decide +kernel
theorem dX6_goOn_15 : decode cX6_goOn 15 = .ok (.putfield 64, 3) := by decide +kernel
theorem dX6_goOn_18 : decode cX6_goOn 18 = .ok (.aload_n 0, 1) := by decide +kernel
theorem dX6_goOn_19 : decode cX6_goOn 19 = .ok (.getfield 10, 3) := by decide +kernel
theorem dX6_goOn_22 : decode cX6_goOn 22 = .ok (.iload_n 1, 1) := by decide +kernel
theorem dX6_goOn_23 : decode cX6_goOn 23 = .ok (.invokevirtual 120, 3) := by decide +kernel
theorem dX6_goOn_26 : decode cX6_goOn 26 = .ok (.aload_n 0, 1) := by decide +kernel
theorem dX6_goOn_27 : decode cX6_goOn 27 = .ok (.getfield 64, 3) := by decide +kernel
theorem dX6_goOn_30 : decode cX6_goOn 30 = .ok (.if_icmp .ne 7, 3) := by decide +kernel
theorem dX6_goOn_33 : decode cX6_goOn 33 = .ok (.iconst 1, 1) := by decide +kernel
theorem dX6_goOn_34 : decode cX6_goOn 34 = .ok (.goto 4, 3) := by decide +kernel
theorem dX6_goOn_37 : decode cX6_goOn 37 = .ok (.iconst 0, 1) := by decide +kernel
theorem dX6_goOn_38 : decode cX6_goOn 38 = .ok (.ireturn, 1) := by decide +kernel
theorem dX6_found_0 : decode cX6_found 0 = .ok (.iconst 0, 1) := by decide +kernel
theorem dX6_found_1 : decode cX6_found 1 = .ok (.istore_n 1, 1) := by decide +kernel
theorem dX6_found_2 : decode cX6_found 2 = .ok (.iload_n 1, 1) := by decide +kernel
theorem dX6_found_3 : decode cX6_found 3 = .ok (.iconst 4, 1) := by decide +kernel
theorem dX6_found_4 : decode cX6_found 4 = .ok (.if_icmp .ge 18, 3) := by decide +kernel
theorem dX6_found_7 : decode cX6_found 7 = .ok (.aload_n 0, 1) := by decide +kernel
theorem dX6_found_8 : decode cX6_found 8 = .ok (.invokevirtual 123, 3) := by decide +kernel
theorem dX6_found_11 : decode cX6_found 11 = .ok (.ifCond .ne 5, 3) := by decide +kernel
theorem dX6_found_14 : decode cX6_found 14 = .ok (.iconst 0, 1) := by decide +kernel
theorem dX6_found_15 : decode cX6_found 15 = .ok (.ireturn, 1) := by decide +kernel
theorem dX6_found_16 : decode cX6_found 16 = .ok (.iinc 1 1, 3) := by decide +kernel
theorem dX6_found_19 : decode cX6_found 19 = .ok (.goto (-17), 3) := by decide +kernel
theorem dX6_found_22 : decode cX6_found 22 = .ok (.iconst 0, 1) := by decide +kernel
theorem dX6_found_23 : decode cX6_found 23 = .ok (.istore_n 1, 1) := by decide +kernel
theorem dX6_found_24 : decode cX6_found 24 = .ok (.iload_n 1, 1) := by decide +kernel
theorem dX6_found_25 : decode cX6_found 25 = .ok (.bipush 6, 2) := by decide +kernel
theorem dX6_found_27 : decode cX6_found 27 = .ok (.if_icmp .ge 56, 3) := by decide +kernel
theorem dX6_found_30 : decode cX6_found 30 = .ok (.aload_n 0, 1) := by decide +kernel
theorem dX6_found_31 : decode cX6_found 31 = .ok (.invokevirtual 126, 3) := by decide +kernel
theorem dX6_found_34 : decode cX6_found 34 = .ok (.ifCond .eq 41, 3) := by decide +kernel
theorem dX6_found_37 : decode cX6_found 37 = .ok (.aload_n 0, 1) := by decide +kernel
theorem dX6_found_38 : decode cX6_found 38 = .ok (.invokevirtual 128, 3) := by decide +kernel
theorem dX6_found_41 : decode cX6_found 41 = .ok (.ifCond .eq 34, 3) := by decide +kernel
theorem dX6_found_44 : decode cX6_found 44 = .ok (.iload_n 1, 1) := by decide +kernel
theorem dX6_found_45 : decode cX6_found 45 = .ok (.iconst 3, 1) := by decide +kernel
theorem dX6_found_46 : decode cX6_found 46 = .ok (.if_icmp .ge 10, 3) := by decide +kernel
theorem dX6_found_49 : decode cX6_found 49 = .ok (.aload_n 0, 1) := by decide +kernel
theorem dX6_found_50 : decode cX6_found 50 = .ok (.invokevirtual 130, 3) := by decide +kernel
theorem dX6_found_53 : decode cX6_found 53 = .ok (.ifCond .eq 22, 3) := by decide +kernel
theorem dX6_found_56 : decode cX6_found 56 = .ok (.iload_n 1, 1) := by decide +kernel
theorem dX6_found_57 : decode cX6_found 57 = .ok (.iconst 2, 1) := by decide +kernel
theorem dX6_found_58 : decode cX6_found 58 = .ok (.if_icmp .ge 19, 3) := by decide +kernel
theorem dX6_found_61 : decode cX6_found 61 = .ok (.aload_n 0, 1) := by decide +kernel
theorem dX6_found_62 : decode cX6_found 62 = .ok (.invokevirtual 132, 3) := by decide +kernel
theorem dX6_found_65 : decode cX6_found 65 = .ok (.ifCond .eq 10, 3) := by decide +kernel
theorem dX6_found_68 : decode cX6_found 68 = .ok (.aload_n 0, 1) := by decide +kernel
theorem dX6_found_69 : decode cX6_found 69 = .ok (.invokevirtual 134, 3) := by decide +kernel
theorem dX6_found_72 : decode cX6_found 72 = .ok (.ifCond .ne 5, 3) := by decide +kernel
theorem dX6_found_75 : decode cX6_found 75 = .ok (.iconst 0, 1) := by decide +kernel
theorem dX6_found_76 : decode cX6_found 76 = .ok (.ireturn, 1) := by decide +kernel
theorem dX6_found_77 : decode cX6_found 77 = .ok (.iinc 1 1, 3) := by decide +kernel
theorem dX6_found_80 : decode cX6_found 80 = .ok (.goto (-56), 3) := by decide +kernel
theorem dX6_found_83 : decode cX6_found 83 = .ok (.iconst 0, 1) := by decide +kernel
theorem dX6_found_84 : decode cX6_found 84 = .ok (.istore_n 1, 1) := by decide +kernel
theorem dX6_found_85 : decode cX6_found 85 = .ok (.iload_n 1, 1) := by decide +kernel
theorem dX6_found_86 : decode cX6_found 86 = .ok (.aload_n 0, 1) := by decide +kernel
theorem dX6_found_87 : decode cX6_found 87 = .ok (.getfield 57, 3) := by decide +kernel
theorem dX6_found_90 : decode cX6_found 90 = .ok (.if_icmp .ge 49, 3) := by decide +kernel
theorem dX6_found_93 : decode cX6_found 93 = .ok (.aload_n 0, 1) := by decide +kernel
theorem dX6_found_94 : decode cX6_found 94 = .ok (.getfield 10, 3) := by decide +kernel
theorem dX6_found_97 : decode cX6_found 97 = .ok (.iload_n 1, 1) := by decide +kernel
theorem dX6_found_98 : decode cX6_found 98 = .ok (.iconst 1, 1) := by decide +kernel
theorem dX6_found_99 : decode cX6_found 99 = .ok (.invokevirtual 75, 3) := by decide +kernel
theorem dX6_found_102 : decode cX6_found 102 = .ok (.aload_n 0, 1) := by decide +kernel
theorem dX6_found_103 : decode cX6_found 103 = .ok (.getfield 18, 3) := by decide +kernel
theorem dX6_found_106 : decode cX6_found 106 = .ok (.iload_n 1, 1) := by decide +kernel
theorem dX6_found_107 : decode cX6_found 107 = .ok (.aaload, 1) := by decide +kernel
theorem dX6_found_108 : decode cX6_found 108 = .ok (.iconst 3, 1) := by decide +kernel
theorem dX6_found_109 : decode cX6_found 109 = .ok (.iaload, 1) := by decide +kernel
theorem dX6_found_110 : decode cX6_found 110 = .ok (.iconst 1, 1) := by decide +kernel
theorem dX6_found_111 : decode cX6_found 111 = .ok (.if_icmp .ne 7, 3) := by decide +kernel
theorem dX6_found_114 : decode cX6_found 114 = .ok (.iconst 1, 1) := by decide +kernel
theorem dX6_found_115 : decode cX6_found 115 = .ok (.goto 4, 3) := by decide +kernel
theorem dX6_found_118 : decode cX6_found 118 = .ok (.iconst 0, 1) := by decide +kernel
theorem dX6_found_119 : decode cX6_found 119 = .ok (.if_icmp .eq 5, 3) := by decide +kernel
theorem dX6_found_122 : decode cX6_found 122 = .ok (.iconst 0, 1) := by decide +kernel
theorem dX6_found_123 : decode cX6_found 123 = .ok (.ireturn, 1) := by decide +kernel
theorem dX6_found_124 : decode cX6_found 124 = .ok (.aload_n 0, 1) := by decide +kernel
theorem dX6_found_125 : decode cX6_found 125 = .ok (.getfield 18, 3) := by decide +kernel
theorem dX6_found_128 : decode cX6_found 128 = .ok (.iload_n 1, 1) := by decide +kernel
theorem dX6_found_129 : decode cX6_found 129 = .ok (.aaload, 1) := by decide +kernel
theorem dX6_found_130 : decode cX6_found 130 = .ok (.iconst 3, 1) := by decide +kernel
theorem dX6_found_131 : decode cX6_found 131 = .ok (.iconst 1, 1) := by decide +kernel
theorem dX6_found_132 : decode cX6_found 132 = .ok (.iastore, 1) := by decide +kernel
theorem dX6_found_133 : decode cX6_found 133 = .ok (.iinc 1 1, 3) := by decide +kernel
theorem dX6_found_136 : decode cX6_found 136 = .ok (.goto (-51), 3) := by decide +kernel
theorem dX6_found_139 : decode cX6_found 139 = .ok (.aload_n 0, 1) := by decide +kernel
theorem dX6_found_140 : decode cX6_found 140 = .ok (.invokevirtual 136, 3) := by decide +kernel
theorem dX6_found_143 : decode cX6_found 143 = .ok (.ifCond .eq 21, 3) := by decide +kernel
theorem dX6_found_146 : decode cX6_found 146 = .ok (.aload_n 0, 1) := by decide +kernel
theorem dX6_found_147 : decode cX6_found 147 = .ok (.invokevirtual 136, 3) := by decide +kernel
theorem dX6_found_150 : decode cX6_found 150 = .ok (.ifCond .eq 14, 3) := by decide +kernel
theorem dX6_found_153 : decode cX6_found 153 = .ok (.aload_n 0, 1) := by decide +kernel
theorem dX6_found_154 : decode cX6_found 154 = .ok (.invokevirtual 138, 3) := by decide +kernel
theorem dX6_found_157 : decode cX6_found 157 = .ok (.ifCond .eq 7, 3) := by decide +kernel
theorem dX6_found_160 : decode cX6_found 160 = .ok (.iconst 1, 1) := by decide +kernel
theorem dX6_found_161 : decode cX6_found 161 = .ok (.goto 4, 3) := by decide +kernel
theorem dX6_found_164 : decode cX6_found 164 = .ok (.iconst 0, 1) := by decide +kernel
theorem dX6_found_165 : decode cX6_found 165 = .ok (.ireturn, 1) := by decide +kernel
theorem dX6_change_0 : decode cX6_change 0 = .ok (.aload_n 0, 1) := by decide +kernel
theorem dX6_change_1 : decode cX6_change 1 = .ok (.bipush 10, 2) := by decide +kernel
theorem dX6_change_3 : decode cX6_change 3 = .ok (.invokevirtual 60, 3) := by decide +kernel
theorem dX6_change_6 : decode cX6_change 6 = .ok (.tableswitch 95 0 8 #[50, 55, 60, 65, 70, 75, 80, 85, 90], 50) := by decide +kernel
theorem dX6_change_56 : decode cX6_change 56 = .ok (.aload_n 0, 1) := by decide +kernel
theorem dX6_change_57 : decode cX6_change 57 = .ok (.invokevirtual 123, 3) := by decide +kernel
theorem dX6_change_60 : decode cX6_change 60 = .ok (.ireturn, 1) := by decide +kernel
theorem dX6_change_61 : decode cX6_change 61 = .ok (.aload_n 0, 1) := by decide +kernel
theorem dX6_change_62 : decode cX6_change 62 = .ok (.invokevirtual 126, 3) := by decide +kernel
theorem dX6_change_65 : decode cX6_change 65 = .ok (.ireturn, 1) := by decide +kernel
theorem dX6_change_66 : decode cX6_change 66 = .ok (.aload_n 0, 1) := by decide +kernel
theorem dX6_change_67 : decode cX6_change 67 = .ok (.invokevirtual 128, 3) := by decide +kernel
theorem dX6_change_70 : decode cX6_change 70 = .ok (.ireturn, 1) := by decide +kernel
theorem dX6_change_71 : decode cX6_change 71 = .ok (.aload_n 0, 1) := by decide +kernel
theorem dX6_change_72 : decode cX6_change 72 = .ok (.invokevirtual 132, 3) := by decide +kernel
theorem dX6_change_75 : decode cX6_change 75 = .ok (.ireturn, 1) := by decide +kernel
theorem dX6_change_76 : decode cX6_change 76 = .ok (.aload_n 0, 1) := by decide +kernel
theorem dX6_change_77 : decode cX6_change 77 = .ok (.invokevirtual 136, 3) := by decide +kernel
theorem dX6_change_80 : decode cX6_change 80 = .ok (.ireturn, 1) := by decide +kernel
theorem dX6_change_81 : decode cX6_change 81 = .ok (.aload_n 0, 1) := by decide +kernel
theorem dX6_change_82 : decode cX6_change 82 = .ok (.invokevirtual 134, 3) := by decide +kernel
theorem dX6_change_85 : decode cX6_change 85 = .ok (.ireturn, 1) := by decide +kernel
theorem dX6_change_86 : decode cX6_change 86 = .ok (.aload_n 0, 1) := by decide +kernel
theorem dX6_change_87 : decode cX6_change 87 = .ok (.invokevirtual 130, 3) := by decide +kernel
theorem dX6_change_90 : decode cX6_change 90 = .ok (.ireturn, 1) := by decide +kernel
theorem dX6_change_91 : decode cX6_change 91 = .ok (.aload_n 0, 1) := by decide +kernel
theorem dX6_change_92 : decode cX6_change 92 = .ok (.invokevirtual 140, 3) := by decide +kernel
theorem dX6_change_95 : decode cX6_change 95 = .ok (.ireturn, 1) := by decide +kernel
theorem dX6_change_96 : decode cX6_change 96 = .ok (.aload_n 0, 1) := by decide +kernel
theorem dX6_change_97 : decode cX6_change 97 = .ok (.invokevirtual 138, 3) := by decide +kernel
theorem dX6_change_100 : decode cX6_change 100 = .ok (.ireturn, 1) := by decide +kernel
theorem dX6_change_101 : decode cX6_change 101 = .ok (.aload_n 0, 1) := by decide +kernel
theorem dX6_change_102 : decode cX6_change 102 = .ok (.invokevirtual 142, 3) := by decide +kernel
theorem dX6_change_105 : decode cX6_change 105 = .ok (.ireturn, 1) := by decide +kernel
theorem dX6_bucket_0 : decode cX6_bucket 0 = .ok (.iload_n 0, 1) := by decide +kernel
theorem dX6_bucket_1 : decode cX6_bucket 1 = .ok (.i2l, 1) := by decide +kernel
theorem dX6_bucket_2 : decode cX6_bucket 2 = .ok (.ldc2_w 144, 3) := by decide +kernel
theorem dX6_bucket_5 : decode cX6_bucket 5 = .ok (.lmul, 1) := by decide +kernel
theorem dX6_bucket_6 : decode cX6_bucket 6 = .ok (.iload_n 1, 1) := by decide +kernel
theorem dX6_bucket_7 : decode cX6_bucket 7 = .ok (.i2l, 1) := by decide +kernel
theorem dX6_bucket_8 : decode cX6_bucket 8 = .ok (.ldc2_w 146, 3) := by decide +kernel
theorem dX6_bucket_11 : decode cX6_bucket 11 = .ok (.lmul, 1) := by decide +kernel
theorem dX6_bucket_12 : decode cX6_bucket 12 = .ok (.ladd, 1) := by decide +kernel
theorem dX6_bucket_13 : decode cX6_bucket 13 = .ok (.ldc2_w 148, 3) := by decide +kernel
theorem dX6_bucket_16 : decode cX6_bucket 16 = .ok (.ladd, 1) := by decide +kernel
theorem dX6_bucket_17 : decode cX6_bucket 17 = .ok (.ldc2_w 150, 3) := by decide +kernel
theorem dX6_bucket_20 : decode cX6_bucket 20 = .ok (.lrem, 1) := by decide +kernel
theorem dX6_bucket_21 : decode cX6_bucket 21 = .ok (.lstore_n 2, 1) := by decide +kernel
theorem dX6_bucket_22 : decode cX6_bucket 22 = .ok (.lload_n 2, 1) := by decide +kernel
theorem dX6_bucket_23 : decode cX6_bucket 23 = .ok (.lload_n 2, 1) := by decide +kernel
theorem dX6_bucket_24 : decode cX6_bucket 24 = .ok (.lmul, 1) := by decide +kernel
theorem dX6_bucket_25 : decode cX6_bucket 25 = .ok (.iload_n 0, 1) := by decide +kernel
theorem dX6_bucket_26 : decode cX6_bucket 26 = .ok (.i2l, 1) := by decide +kernel
theorem dX6_bucket_27 : decode cX6_bucket 27 = .ok (.ladd, 1) := by decide +kernel
theorem dX6_bucket_28 : decode cX6_bucket 28 = .ok (.ldc2_w 152, 3) := by decide +kernel
theorem dX6_bucket_31 : decode cX6_bucket 31 = .ok (.iload_n 1, 1) := by decide +kernel
theorem dX6_bucket_32 : decode cX6_bucket 32 = .ok (.i2l, 1) := by decide +kernel
theorem dX6_bucket_33 : decode cX6_bucket 33 = .ok (.lmul, 1) := by decide +kernel
theorem dX6_bucket_34 : decode cX6_bucket 34 = .ok (.ladd, 1) := by decide +kernel
theorem dX6_bucket_35 : decode cX6_bucket 35 = .ok (.ldc2_w 150, 3) := by decide +kernel
theorem dX6_bucket_38 : decode cX6_bucket 38 = .ok (.lrem, 1) := by decide +kernel
theorem dX6_bucket_39 : decode cX6_bucket 39 = .ok (.ldc2_w 154, 3) := by decide +kernel
theorem dX6_bucket_42 : decode cX6_bucket 42 = .ok (.lrem, 1) := by decide +kernel
theorem dX6_bucket_43 : decode cX6_bucket 43 = .ok (.l2i, 1) := by decide +kernel
theorem dX6_bucket_44 : decode cX6_bucket 44 = .ok (.ireturn, 1) := by decide +kernel
theorem dX6_arm_0 : decode cX6_arm 0 = .ok (.aload_n 0, 1) := by decide +kernel
theorem dX6_arm_1 : decode cX6_arm 1 = .ok (.getfield 31, 3) := by decide +kernel
theorem dX6_arm_4 : decode cX6_arm 4 = .ok (.astore_n 3, 1) := by decide +kernel
theorem dX6_arm_5 : decode cX6_arm 5 = .ok (.aload_n 3, 1) := by decide +kernel
theorem dX6_arm_6 : decode cX6_arm 6 = .ok (.arraylength, 1) := by decide +kernel
theorem dX6_arm_7 : decode cX6_arm 7 = .ok (.istore 4, 2) := by decide +kernel
theorem dX6_arm_9 : decode cX6_arm 9 = .ok (.iconst 0, 1) := by decide +kernel
theorem dX6_arm_10 : decode cX6_arm 10 = .ok (.istore 5, 2) := by decide +kernel
theorem dX6_arm_12 : decode cX6_arm 12 = .ok (.iload 5, 2) := by decide +kernel
theorem dX6_arm_14 : decode cX6_arm 14 = .ok (.iload 4, 2) := by decide +kernel
theorem dX6_arm_16 : decode cX6_arm 16 = .ok (.if_icmp .ge 34, 3) := by decide +kernel
theorem dX6_arm_19 : decode cX6_arm 19 = .ok (.aload_n 3, 1) := by decide +kernel
theorem dX6_arm_20 : decode cX6_arm 20 = .ok (.iload 5, 2) := by decide +kernel
theorem dX6_arm_22 : decode cX6_arm 22 = .ok (.aaload, 1) := by decide +kernel
theorem dX6_arm_23 : decode cX6_arm 23 = .ok (.astore 6, 2) := by decide +kernel
theorem dX6_arm_25 : decode cX6_arm 25 = .ok (.aload 6, 2) := by decide +kernel
theorem dX6_arm_27 : decode cX6_arm 27 = .ok (.iconst 0, 1) := by decide +kernel
theorem dX6_arm_28 : decode cX6_arm 28 = .ok (.iaload, 1) := by decide +kernel
theorem dX6_arm_29 : decode cX6_arm 29 = .ok (.iload_n 1, 1) := by decide +kernel
theorem dX6_arm_30 : decode cX6_arm 30 = .ok (.if_icmp .ne 14, 3) := by decide +kernel
theorem dX6_arm_33 : decode cX6_arm 33 = .ok (.aload 6, 2) := by decide +kernel
theorem dX6_arm_35 : decode cX6_arm 35 = .ok (.iconst 1, 1) := by decide +kernel
theorem dX6_arm_36 : decode cX6_arm 36 = .ok (.iaload, 1) := by decide +kernel
theorem dX6_arm_37 : decode cX6_arm 37 = .ok (.iload_n 2, 1) := by decide +kernel
theorem dX6_arm_38 : decode cX6_arm 38 = .ok (.if_icmp .ne 6, 3) := by decide +kernel
theorem dX6_arm_41 : decode cX6_arm 41 = .ok (.aload 6, 2) := by decide +kernel
theorem dX6_arm_43 : decode cX6_arm 43 = .ok (.areturn, 1) := by decide +kernel
theorem dX6_arm_44 : decode cX6_arm 44 = .ok (.iinc 5 1, 3) := by decide +kernel
theorem dX6_arm_47 : decode cX6_arm 47 = .ok (.goto (-35), 3) := by decide +kernel
theorem dX6_arm_50 : decode cX6_arm 50 = .ok (.iconst 0, 1) := by decide +kernel
theorem dX6_arm_51 : decode cX6_arm 51 = .ok (.newarray .int, 2) := by decide +kernel
theorem dX6_arm_53 : decode cX6_arm 53 = .ok (.areturn, 1) := by decide +kernel
theorem dX6_holds_0 : decode cX6_holds 0 = .ok (.iconst 0, 1) := by decide +kernel
theorem dX6_holds_1 : decode cX6_holds 1 = .ok (.istore 4, 2) := by decide +kernel
theorem dX6_holds_3 : decode cX6_holds 3 = .ok (.iload 4, 2) := by decide +kernel
theorem dX6_holds_5 : decode cX6_holds 5 = .ok (.aload_n 0, 1) := by decide +kernel
theorem dX6_holds_6 : decode cX6_holds 6 = .ok (.getfield 28, 3) := by decide +kernel
theorem dX6_holds_9 : decode cX6_holds 9 = .ok (.iload_n 1, 1) := by decide +kernel
theorem dX6_holds_10 : decode cX6_holds 10 = .ok (.aaload, 1) := by decide +kernel
theorem dX6_holds_11 : decode cX6_holds 11 = .ok (.arraylength, 1) := by decide +kernel
theorem dX6_holds_12 : decode cX6_holds 12 = .ok (.if_icmp .ge 81, 3) := by decide +kernel
theorem dX6_holds_15 : decode cX6_holds 15 = .ok (.aload_n 0, 1) := by decide +kernel
theorem dX6_holds_16 : decode cX6_holds 16 = .ok (.getfield 28, 3) := by decide +kernel
theorem dX6_holds_19 : decode cX6_holds 19 = .ok (.iload_n 1, 1) := by decide +kernel
theorem dX6_holds_20 : decode cX6_holds 20 = .ok (.aaload, 1) := by decide +kernel
theorem dX6_holds_21 : decode cX6_holds 21 = .ok (.iload 4, 2) := by decide +kernel
theorem dX6_holds_23 : decode cX6_holds 23 = .ok (.aaload, 1) := by decide +kernel
theorem dX6_holds_24 : decode cX6_holds 24 = .ok (.astore 5, 2) := by decide +kernel
theorem dX6_holds_26 : decode cX6_holds 26 = .ok (.aload 5, 2) := by decide +kernel
theorem dX6_holds_28 : decode cX6_holds 28 = .ok (.iconst 0, 1) := by decide +kernel
theorem dX6_holds_29 : decode cX6_holds 29 = .ok (.iaload, 1) := by decide +kernel
theorem dX6_holds_30 : decode cX6_holds 30 = .ok (.ifCond .ne 7, 3) := by decide +kernel
theorem dX6_holds_33 : decode cX6_holds 33 = .ok (.iload_n 2, 1) := by decide +kernel
theorem dX6_holds_34 : decode cX6_holds 34 = .ok (.goto 4, 3) := by decide +kernel
theorem dX6_holds_37 : decode cX6_holds 37 = .ok (.iload_n 3, 1) := by decide +kernel
theorem dX6_holds_38 : decode cX6_holds 38 = .ok (.aload 5, 2) := by decide +kernel
theorem dX6_holds_40 : decode cX6_holds 40 = .ok (.iconst 2, 1) := by decide +kernel
theorem dX6_holds_41 : decode cX6_holds 41 = .ok (.iaload, 1) := by decide +kernel
theorem dX6_holds_42 : decode cX6_holds 42 = .ok (.isub, 1) := by decide +kernel
theorem dX6_holds_43 : decode cX6_holds 43 = .ok (.istore 6, 2) := by decide +kernel
theorem dX6_holds_45 : decode cX6_holds 45 = .ok (.aload 5, 2) := by decide +kernel
theorem dX6_holds_47 : decode cX6_holds 47 = .ok (.iconst 1, 1) := by decide +kernel
theorem dX6_holds_48 : decode cX6_holds 48 = .ok (.iaload, 1) := by decide +kernel
theorem dX6_holds_49 : decode cX6_holds 49 = .ok (.iconst 1, 1) := by decide +kernel
theorem dX6_holds_50 : decode cX6_holds 50 = .ok (.if_icmp .ne 8, 3) := by decide +kernel
theorem dX6_holds_53 : decode cX6_holds 53 = .ok (.iload 6, 2) := by decide +kernel
theorem dX6_holds_55 : decode cX6_holds 55 = .ok (.ifCond .lt 29, 3) := by decide +kernel
theorem dX6_holds_58 : decode cX6_holds 58 = .ok (.aload 5, 2) := by decide +kernel
theorem dX6_holds_60 : decode cX6_holds 60 = .ok (.iconst 1, 1) := by decide +kernel
theorem dX6_holds_61 : decode cX6_holds 61 = .ok (.iaload, 1) := by decide +kernel
theorem dX6_holds_62 : decode cX6_holds 62 = .ok (.iconst 2, 1) := by decide +kernel
theorem dX6_holds_63 : decode cX6_holds 63 = .ok (.if_icmp .ne 8, 3) := by decide +kernel
theorem dX6_holds_66 : decode cX6_holds 66 = .ok (.iload 6, 2) := by decide +kernel
theorem dX6_holds_68 : decode cX6_holds 68 = .ok (.ifCond .eq 16, 3) := by decide +kernel
theorem dX6_holds_71 : decode cX6_holds 71 = .ok (.aload 5, 2) := by decide +kernel
theorem dX6_holds_73 : decode cX6_holds 73 = .ok (.iconst 1, 1) := by decide +kernel
theorem dX6_holds_74 : decode cX6_holds 74 = .ok (.iaload, 1) := by decide +kernel
theorem dX6_holds_75 : decode cX6_holds 75 = .ok (.iconst 3, 1) := by decide +kernel
theorem dX6_holds_76 : decode cX6_holds 76 = .ok (.if_icmp .ne 11, 3) := by decide +kernel
theorem dX6_holds_79 : decode cX6_holds 79 = .ok (.iload 6, 2) := by decide +kernel
theorem dX6_holds_81 : decode cX6_holds 81 = .ok (.ifCond .le 6, 3) := by decide +kernel
theorem dX6_holds_84 : decode cX6_holds 84 = .ok (.iload 4, 2) := by decide +kernel
theorem dX6_holds_86 : decode cX6_holds 86 = .ok (.ireturn, 1) := by decide +kernel
theorem dX6_holds_87 : decode cX6_holds 87 = .ok (.iinc 4 1, 3) := by decide +kernel
theorem dX6_holds_90 : decode cX6_holds 90 = .ok (.goto (-87), 3) := by decide +kernel
theorem dX6_holds_93 : decode cX6_holds 93 = .ok (.iconst (-1), 1) := by decide +kernel
theorem dX6_holds_94 : decode cX6_holds 94 = .ok (.ireturn, 1) := by decide +kernel
theorem dX6_because_0 : decode cX6_because 0 = .ok (.aload_n 0, 1) := by decide +kernel
theorem dX6_because_1 : decode cX6_because 1 = .ok (.iload_n 1, 1) := by decide +kernel
theorem dX6_because_2 : decode cX6_because 2 = .ok (.putfield 156, 3) := by decide +kernel
theorem dX6_because_5 : decode cX6_because 5 = .ok (.iload_n 2, 1) := by decide +kernel
theorem dX6_because_6 : decode cX6_because 6 = .ok (.ireturn, 1) := by decide +kernel
theorem dX6_gets_0 : decode cX6_gets 0 = .ok (.aload_n 0, 1) := by decide +kernel
theorem dX6_gets_1 : decode cX6_gets 1 = .ok (.getfield 18, 3) := by decide +kernel
theorem dX6_gets_4 : decode cX6_gets 4 = .ok (.iload_n 1, 1) := by decide +kernel
theorem dX6_gets_5 : decode cX6_gets 5 = .ok (.aaload, 1) := by decide +kernel
theorem dX6_gets_6 : decode cX6_gets 6 = .ok (.astore 6, 2) := by decide +kernel
theorem dX6_gets_8 : decode cX6_gets 8 = .ok (.aload 6, 2) := by decide +kernel
theorem dX6_gets_10 : decode cX6_gets 10 = .ok (.iconst 3, 1) := by decide +kernel
theorem dX6_gets_11 : decode cX6_gets 11 = .ok (.iaload, 1) := by decide +kernel
theorem dX6_gets_12 : decode cX6_gets 12 = .ok (.ifCond .ne 10, 3) := by decide +kernel
theorem dX6_gets_15 : decode cX6_gets 15 = .ok (.aload_n 0, 1) := by decide +kernel
theorem dX6_gets_16 : decode cX6_gets 16 = .ok (.iconst 0, 1) := by decide +kernel
theorem dX6_gets_17 : decode cX6_gets 17 = .ok (.iconst 0, 1) := by decide +kernel
theorem dX6_gets_18 : decode cX6_gets 18 = .ok (.invokevirtual 159, 3) := by decide +kernel
theorem dX6_gets_21 : decode cX6_gets 21 = .ok (.ireturn, 1) := by decide +kernel
theorem dX6_gets_22 : decode cX6_gets 22 = .ok (.aload 6, 2) := by decide +kernel
theorem dX6_gets_24 : decode cX6_gets 24 = .ok (.bipush 10, 2) := by decide +kernel
theorem dX6_gets_26 : decode cX6_gets 26 = .ok (.iaload, 1) := by decide +kernel
theorem dX6_gets_27 : decode cX6_gets 27 = .ok (.ifCond .lt 41, 3) := by decide +kernel
theorem dX6_gets_30 : decode cX6_gets 30 = .ok (.aload_n 0, 1) := by decide +kernel
theorem dX6_gets_31 : decode cX6_gets 31 = .ok (.aload 6, 2) := by decide +kernel
theorem dX6_gets_33 : decode cX6_gets 33 = .ok (.bipush 10, 2) := by decide +kernel
theorem dX6_gets_35 : decode cX6_gets 35 = .ok (.iaload, 1) := by decide +kernel
theorem dX6_gets_36 : decode cX6_gets 36 = .ok (.iload_n 2, 1) := by decide +kernel
theorem dX6_gets_37 : decode cX6_gets 37 = .ok (.iload_n 3, 1) := by decide +kernel
theorem dX6_gets_38 : decode cX6_gets 38 = .ok (.iload 4, 2) := by decide +kernel
theorem dX6_gets_40 : decode cX6_gets 40 = .ok (.aload_n 0, 1) := by decide +kernel
theorem dX6_gets_41 : decode cX6_gets 41 = .ok (.aload 6, 2) := by decide +kernel
theorem dX6_gets_43 : decode cX6_gets 43 = .ok (.bipush 10, 2) := by decide +kernel
theorem dX6_gets_45 : decode cX6_gets 45 = .ok (.iaload, 1) := by decide +kernel
theorem dX6_gets_46 : decode cX6_gets 46 = .ok (.iconst 0, 1) := by decide +kernel
theorem dX6_gets_47 : decode cX6_gets 47 = .ok (.invokevirtual 79, 3) := by decide +kernel
theorem dX6_gets_50 : decode cX6_gets 50 = .ok (.invokevirtual 162, 3) := by decide +kernel
theorem dX6_gets_53 : decode cX6_gets 53 = .ok (.aload 6, 2) := by decide +kernel
theorem dX6_gets_55 : decode cX6_gets 55 = .ok (.bipush 11, 2) := by decide +kernel
theorem dX6_gets_57 : decode cX6_gets 57 = .ok (.iaload, 1) := by decide +kernel
theorem dX6_gets_58 : decode cX6_gets 58 = .ok (.if_icmp .eq 10, 3) := by decide +kernel
theorem dX6_gets_61 : decode cX6_gets 61 = .ok (.aload_n 0, 1) := by decide +kernel
theorem dX6_gets_62 : decode cX6_gets 62 = .ok (.iconst 1, 1) := by decide +kernel
theorem dX6_gets_63 : decode cX6_gets 63 = .ok (.iconst 0, 1) := by decide +kernel
theorem dX6_gets_64 : decode cX6_gets 64 = .ok (.invokevirtual 159, 3) := by decide +kernel
theorem dX6_gets_67 : decode cX6_gets 67 = .ok (.ireturn, 1) := by decide +kernel
theorem dX6_gets_68 : decode cX6_gets 68 = .ok (.aload_n 0, 1) := by decide +kernel
theorem dX6_gets_69 : decode cX6_gets 69 = .ok (.iload_n 1, 1) := by decide +kernel
theorem dX6_gets_70 : decode cX6_gets 70 = .ok (.iload_n 2, 1) := by decide +kernel
theorem dX6_gets_71 : decode cX6_gets 71 = .ok (.invokevirtual 165, 3) := by decide +kernel
theorem dX6_gets_74 : decode cX6_gets 74 = .ok (.astore 7, 2) := by decide +kernel
theorem dX6_gets_76 : decode cX6_gets 76 = .ok (.aload 6, 2) := by decide +kernel
theorem dX6_gets_78 : decode cX6_gets 78 = .ok (.iconst 2, 1) := by decide +kernel
theorem dX6_gets_79 : decode cX6_gets 79 = .ok (.iaload, 1) := by decide +kernel
theorem dX6_gets_80 : decode cX6_gets 80 = .ok (.iconst 1, 1) := by decide +kernel
theorem dX6_gets_81 : decode cX6_gets 81 = .ok (.if_icmp .ne 19, 3) := by decide +kernel
theorem dX6_gets_84 : decode cX6_gets 84 = .ok (.aload 7, 2) := by decide +kernel
theorem dX6_gets_86 : decode cX6_gets 86 = .ok (.arraylength, 1) := by decide +kernel
theorem dX6_gets_87 : decode cX6_gets 87 = .ok (.ifCond .le 13, 3) := by decide +kernel
theorem dX6_gets_90 : decode cX6_gets 90 = .ok (.aload_n 0, 1) := by decide +kernel
theorem dX6_gets_91 : decode cX6_gets 91 = .ok (.iconst 2, 1) := by decide +kernel
theorem dX6_gets_92 : decode cX6_gets 92 = .ok (.aload 7, 2) := by decide +kernel
theorem dX6_gets_94 : decode cX6_gets 94 = .ok (.iconst 2, 1) := by decide +kernel
theorem dX6_gets_95 : decode cX6_gets 95 = .ok (.iaload, 1) := by decide +kernel
theorem dX6_gets_96 : decode cX6_gets 96 = .ok (.invokevirtual 159, 3) := by decide +kernel
theorem dX6_gets_99 : decode cX6_gets 99 = .ok (.ireturn, 1) := by decide +kernel
theorem dX6_gets_100 : decode cX6_gets 100 = .ok (.aload_n 0, 1) := by decide +kernel
theorem dX6_gets_101 : decode cX6_gets 101 = .ok (.iload_n 1, 1) := by decide +kernel
theorem dX6_gets_102 : decode cX6_gets 102 = .ok (.iload_n 3, 1) := by decide +kernel
theorem dX6_gets_103 : decode cX6_gets 103 = .ok (.iload 4, 2) := by decide +kernel
theorem dX6_gets_105 : decode cX6_gets 105 = .ok (.invokevirtual 169, 3) := by decide +kernel
theorem dX6_gets_108 : decode cX6_gets 108 = .ok (.istore 8, 2) := by decide +kernel
theorem dX6_gets_110 : decode cX6_gets 110 = .ok (.iload 8, 2) := by decide +kernel
theorem dX6_gets_112 : decode cX6_gets 112 = .ok (.ifCond .lt 34, 3) := by decide +kernel
theorem dX6_gets_115 : decode cX6_gets 115 = .ok (.aload_n 0, 1) := by decide +kernel
theorem dX6_gets_116 : decode cX6_gets 116 = .ok (.getfield 28, 3) := by decide +kernel
theorem dX6_gets_119 : decode cX6_gets 119 = .ok (.iload_n 1, 1) := by decide +kernel
theorem dX6_gets_120 : decode cX6_gets 120 = .ok (.aaload, 1) := by decide +kernel
theorem dX6_gets_121 : decode cX6_gets 121 = .ok (.iload 8, 2) := by decide +kernel
theorem dX6_gets_123 : decode cX6_gets 123 = .ok (.aaload, 1) := by decide +kernel
theorem dX6_gets_124 : decode cX6_gets 124 = .ok (.iconst 3, 1) := by decide +kernel
theorem dX6_gets_125 : decode cX6_gets 125 = .ok (.iaload, 1) := by decide +kernel
theorem dX6_gets_126 : decode cX6_gets 126 = .ok (.ifCond .lt 20, 3) := by decide +kernel
theorem dX6_gets_129 : decode cX6_gets 129 = .ok (.aload_n 0, 1) := by decide +kernel
theorem dX6_gets_130 : decode cX6_gets 130 = .ok (.iconst 3, 1) := by decide +kernel
theorem dX6_gets_131 : decode cX6_gets 131 = .ok (.aload_n 0, 1) := by decide +kernel
theorem dX6_gets_132 : decode cX6_gets 132 = .ok (.getfield 28, 3) := by decide +kernel
theorem dX6_gets_135 : decode cX6_gets 135 = .ok (.iload_n 1, 1) := by decide +kernel
theorem dX6_gets_136 : decode cX6_gets 136 = .ok (.aaload, 1) := by decide +kernel
theorem dX6_gets_137 : decode cX6_gets 137 = .ok (.iload 8, 2) := by decide +kernel
theorem dX6_gets_139 : decode cX6_gets 139 = .ok (.aaload, 1) := by decide +kernel
theorem dX6_gets_140 : decode cX6_gets 140 = .ok (.iconst 3, 1) := by decide +kernel
theorem dX6_gets_141 : decode cX6_gets 141 = .ok (.iaload, 1) := by decide +kernel
theorem dX6_gets_142 : decode cX6_gets 142 = .ok (.invokevirtual 159, 3) := by decide +kernel
theorem dX6_gets_145 : decode cX6_gets 145 = .ok (.ireturn, 1) := by decide +kernel
theorem dX6_gets_146 : decode cX6_gets 146 = .ok (.sipush 999, 3) := by decide +kernel
theorem dX6_gets_149 : decode cX6_gets 149 = .ok (.iload_n 2, 1) := by decide +kernel
theorem dX6_gets_150 : decode cX6_gets 150 = .ok (.invokestatic 172, 3) := by decide +kernel
theorem dX6_gets_153 : decode cX6_gets 153 = .ok (.aload_n 0, 1) := by decide +kernel
theorem dX6_gets_154 : decode cX6_gets 154 = .ok (.getfield 114, 3) := by decide +kernel
theorem dX6_gets_157 : decode cX6_gets 157 = .ok (.if_icmp .ge 10, 3) := by decide +kernel
theorem dX6_gets_160 : decode cX6_gets 160 = .ok (.aload_n 0, 1) := by decide +kernel
theorem dX6_gets_161 : decode cX6_gets 161 = .ok (.iconst 4, 1) := by decide +kernel
theorem dX6_gets_162 : decode cX6_gets 162 = .ok (.iconst 0, 1) := by decide +kernel
theorem dX6_gets_163 : decode cX6_gets 163 = .ok (.invokevirtual 159, 3) := by decide +kernel
theorem dX6_gets_166 : decode cX6_gets 166 = .ok (.ireturn, 1) := by decide +kernel
theorem dX6_gets_167 : decode cX6_gets 167 = .ok (.sipush 500, 3) := by decide +kernel
theorem dX6_gets_170 : decode cX6_gets 170 = .ok (.iconst 0, 1) := by decide +kernel
theorem dX6_gets_171 : decode cX6_gets 171 = .ok (.aload 6, 2) := by decide +kernel
theorem dX6_gets_173 : decode cX6_gets 173 = .ok (.bipush 7, 2) := by decide +kernel
theorem dX6_gets_175 : decode cX6_gets 175 = .ok (.iaload, 1) := by decide +kernel
theorem dX6_gets_176 : decode cX6_gets 176 = .ok (.invokestatic 175, 3) := by decide +kernel
theorem dX6_gets_179 : decode cX6_gets 179 = .ok (.iadd, 1) := by decide +kernel
theorem dX6_gets_180 : decode cX6_gets 180 = .ok (.iload_n 2, 1) := by decide +kernel
theorem dX6_gets_181 : decode cX6_gets 181 = .ok (.invokestatic 172, 3) := by decide +kernel
theorem dX6_gets_184 : decode cX6_gets 184 = .ok (.istore 9, 2) := by decide +kernel
theorem dX6_gets_186 : decode cX6_gets 186 = .ok (.aload 6, 2) := by decide +kernel
theorem dX6_gets_188 : decode cX6_gets 188 = .ok (.bipush 7, 2) := by decide +kernel
theorem dX6_gets_190 : decode cX6_gets 190 = .ok (.iaload, 1) := by decide +kernel
theorem dX6_gets_191 : decode cX6_gets 191 = .ok (.ifCond .lt 30, 3) := by decide +kernel
theorem dX6_gets_194 : decode cX6_gets 194 = .ok (.iload 9, 2) := by decide +kernel
theorem dX6_gets_196 : decode cX6_gets 196 = .ok (.aload 6, 2) := by decide +kernel
theorem dX6_gets_198 : decode cX6_gets 198 = .ok (.bipush 8, 2) := by decide +kernel
theorem dX6_gets_200 : decode cX6_gets 200 = .ok (.iaload, 1) := by decide +kernel
theorem dX6_gets_201 : decode cX6_gets 201 = .ok (.if_icmp .lt 13, 3) := by decide +kernel
theorem dX6_gets_204 : decode cX6_gets 204 = .ok (.iload 9, 2) := by decide +kernel
theorem dX6_gets_206 : decode cX6_gets 206 = .ok (.aload 6, 2) := by decide +kernel
theorem dX6_gets_208 : decode cX6_gets 208 = .ok (.bipush 9, 2) := by decide +kernel
theorem dX6_gets_210 : decode cX6_gets 210 = .ok (.iaload, 1) := by decide +kernel
theorem dX6_gets_211 : decode cX6_gets 211 = .ok (.if_icmp .lt 10, 3) := by decide +kernel
theorem dX6_gets_214 : decode cX6_gets 214 = .ok (.aload_n 0, 1) := by decide +kernel
theorem dX6_gets_215 : decode cX6_gets 215 = .ok (.iconst 5, 1) := by decide +kernel
theorem dX6_gets_216 : decode cX6_gets 216 = .ok (.iconst 0, 1) := by decide +kernel
theorem dX6_gets_217 : decode cX6_gets 217 = .ok (.invokevirtual 159, 3) := by decide +kernel
theorem dX6_gets_220 : decode cX6_gets 220 = .ok (.ireturn, 1) := by decide +kernel
theorem dX6_gets_221 : decode cX6_gets 221 = .ok (.aload 6, 2) := by decide +kernel
theorem dX6_gets_223 : decode cX6_gets 223 = .ok (.iconst 0, 1) := by decide +kernel
theorem dX6_gets_224 : decode cX6_gets 224 = .ok (.iaload, 1) := by decide +kernel
theorem dX6_gets_225 : decode cX6_gets 225 = .ok (.iconst 1, 1) := by decide +kernel
theorem dX6_gets_226 : decode cX6_gets 226 = .ok (.iadd, 1) := by decide +kernel
theorem dX6_gets_227 : decode cX6_gets 227 = .ok (.iload_n 2, 1) := by decide +kernel
theorem dX6_gets_228 : decode cX6_gets 228 = .ok (.invokestatic 172, 3) := by decide +kernel
theorem dX6_gets_231 : decode cX6_gets 231 = .ok (.iload 5, 2) := by decide +kernel
theorem dX6_gets_233 : decode cX6_gets 233 = .ok (.if_icmp .lt 11, 3) := by decide +kernel
theorem dX6_gets_236 : decode cX6_gets 236 = .ok (.aload_n 0, 1) := by decide +kernel
theorem dX6_gets_237 : decode cX6_gets 237 = .ok (.bipush 6, 2) := by decide +kernel
theorem dX6_gets_239 : decode cX6_gets 239 = .ok (.iconst 0, 1) := by decide +kernel
theorem dX6_gets_240 : decode cX6_gets 240 = .ok (.invokevirtual 159, 3) := by decide +kernel
theorem dX6_gets_243 : decode cX6_gets 243 = .ok (.ireturn, 1) := by decide +kernel
theorem dX6_gets_244 : decode cX6_gets 244 = .ok (.iload 8, 2) := by decide +kernel
theorem dX6_gets_246 : decode cX6_gets 246 = .ok (.ifCond .ge 21, 3) := by decide +kernel
theorem dX6_gets_249 : decode cX6_gets 249 = .ok (.aload_n 0, 1) := by decide +kernel
theorem dX6_gets_250 : decode cX6_gets 250 = .ok (.getfield 28, 3) := by decide +kernel
theorem dX6_gets_253 : decode cX6_gets 253 = .ok (.iload_n 1, 1) := by decide +kernel
theorem dX6_gets_254 : decode cX6_gets 254 = .ok (.aaload, 1) := by decide +kernel
theorem dX6_gets_255 : decode cX6_gets 255 = .ok (.arraylength, 1) := by decide +kernel
theorem dX6_gets_256 : decode cX6_gets 256 = .ok (.ifCond .le 11, 3) := by decide +kernel
theorem dX6_gets_259 : decode cX6_gets 259 = .ok (.aload_n 0, 1) := by decide +kernel
theorem dX6_gets_260 : decode cX6_gets 260 = .ok (.bipush 7, 2) := by decide +kernel
theorem dX6_gets_262 : decode cX6_gets 262 = .ok (.iconst 0, 1) := by decide +kernel
theorem dX6_gets_263 : decode cX6_gets 263 = .ok (.invokevirtual 159, 3) := by decide +kernel
theorem dX6_gets_266 : decode cX6_gets 266 = .ok (.ireturn, 1) := by decide +kernel
theorem dX6_gets_267 : decode cX6_gets 267 = .ok (.aload 6, 2) := by decide +kernel
theorem dX6_gets_269 : decode cX6_gets 269 = .ok (.iconst 0, 1) := by decide +kernel
theorem dX6_gets_270 : decode cX6_gets 270 = .ok (.iaload, 1) := by decide +kernel
theorem dX6_gets_271 : decode cX6_gets 271 = .ok (.iload_n 2, 1) := by decide +kernel
theorem dX6_gets_272 : decode cX6_gets 272 = .ok (.invokestatic 172, 3) := by decide +kernel
theorem dX6_gets_275 : decode cX6_gets 275 = .ok (.istore 10, 2) := by decide +kernel
theorem dX6_gets_277 : decode cX6_gets 277 = .ok (.iconst 0, 1) := by decide +kernel
theorem dX6_gets_278 : decode cX6_gets 278 = .ok (.istore 11, 2) := by decide +kernel
theorem dX6_gets_280 : decode cX6_gets 280 = .ok (.iload 11, 2) := by decide +kernel
theorem dX6_gets_282 : decode cX6_gets 282 = .ok (.iconst 4, 1) := by decide +kernel
theorem dX6_gets_283 : decode cX6_gets 283 = .ok (.if_icmp .ge 46, 3) := by decide +kernel
theorem dX6_gets_286 : decode cX6_gets 286 = .ok (.iload 10, 2) := by decide +kernel
theorem dX6_gets_288 : decode cX6_gets 288 = .ok (.aload_n 0, 1) := by decide +kernel
theorem dX6_gets_289 : decode cX6_gets 289 = .ok (.getfield 23, 3) := by decide +kernel
theorem dX6_gets_292 : decode cX6_gets 292 = .ok (.iload_n 1, 1) := by decide +kernel
theorem dX6_gets_293 : decode cX6_gets 293 = .ok (.aaload, 1) := by decide +kernel
theorem dX6_gets_294 : decode cX6_gets 294 = .ok (.iload 11, 2) := by decide +kernel
theorem dX6_gets_296 : decode cX6_gets 296 = .ok (.iaload, 1) := by decide +kernel
theorem dX6_gets_297 : decode cX6_gets 297 = .ok (.if_icmp .ge 12, 3) := by decide +kernel
theorem dX6_gets_300 : decode cX6_gets 300 = .ok (.aload_n 0, 1) := by decide +kernel
theorem dX6_gets_301 : decode cX6_gets 301 = .ok (.bipush 8, 2) := by decide +kernel
theorem dX6_gets_303 : decode cX6_gets 303 = .ok (.iload 11, 2) := by decide +kernel
theorem dX6_gets_305 : decode cX6_gets 305 = .ok (.invokevirtual 159, 3) := by decide +kernel
theorem dX6_gets_308 : decode cX6_gets 308 = .ok (.ireturn, 1) := by decide +kernel
theorem dX6_gets_309 : decode cX6_gets 309 = .ok (.iload 10, 2) := by decide +kernel
theorem dX6_gets_311 : decode cX6_gets 311 = .ok (.aload_n 0, 1) := by decide +kernel
theorem dX6_gets_312 : decode cX6_gets 312 = .ok (.getfield 23, 3) := by decide +kernel
theorem dX6_gets_315 : decode cX6_gets 315 = .ok (.iload_n 1, 1) := by decide +kernel
theorem dX6_gets_316 : decode cX6_gets 316 = .ok (.aaload, 1) := by decide +kernel
theorem dX6_gets_317 : decode cX6_gets 317 = .ok (.iload 11, 2) := by decide +kernel
theorem dX6_gets_319 : decode cX6_gets 319 = .ok (.iaload, 1) := by decide +kernel
theorem dX6_gets_320 : decode cX6_gets 320 = .ok (.isub, 1) := by decide +kernel
theorem dX6_gets_321 : decode cX6_gets 321 = .ok (.istore 10, 2) := by decide +kernel
theorem dX6_gets_323 : decode cX6_gets 323 = .ok (.iinc 11 1, 3) := by decide +kernel
theorem dX6_gets_326 : decode cX6_gets 326 = .ok (.goto (-46), 3) := by decide +kernel
theorem dX6_gets_329 : decode cX6_gets 329 = .ok (.aload_n 0, 1) := by decide +kernel
theorem dX6_gets_330 : decode cX6_gets 330 = .ok (.bipush 9, 2) := by decide +kernel
theorem dX6_gets_332 : decode cX6_gets 332 = .ok (.iconst (-1), 1) := by decide +kernel
theorem dX6_gets_333 : decode cX6_gets 333 = .ok (.invokevirtual 159, 3) := by decide +kernel
theorem dX6_gets_336 : decode cX6_gets 336 = .ok (.ireturn, 1) := by decide +kernel
theorem dX6_gets__0 : decode cX6_gets_ 0 = .ok (.aload_n 0, 1) := by decide +kernel
theorem dX6_gets__1 : decode cX6_gets_ 1 = .ok (.iload_n 1, 1) := by decide +kernel
theorem dX6_gets__2 : decode cX6_gets_ 2 = .ok (.iload_n 2, 1) := by decide +kernel
theorem dX6_gets__3 : decode cX6_gets_ 3 = .ok (.iload_n 3, 1) := by decide +kernel
theorem dX6_gets__4 : decode cX6_gets_ 4 = .ok (.iload 4, 2) := by decide +kernel
theorem dX6_gets__6 : decode cX6_gets_ 6 = .ok (.aload_n 0, 1) := by decide +kernel
theorem dX6_gets__7 : decode cX6_gets_ 7 = .ok (.iload_n 1, 1) := by decide +kernel
theorem dX6_gets__8 : decode cX6_gets_ 8 = .ok (.iconst 0, 1) := by decide +kernel
theorem dX6_gets__9 : decode cX6_gets_ 9 = .ok (.invokevirtual 79, 3) := by decide +kernel
theorem dX6_gets__12 : decode cX6_gets_ 12 = .ok (.invokevirtual 162, 3) := by decide +kernel
theorem dX6_gets__15 : decode cX6_gets_ 15 = .ok (.ireturn, 1) := by decide +kernel
theorem dX6_ask_0 : decode cX6_ask 0 = .ok (.aload_n 0, 1) := by decide +kernel
theorem dX6_ask_1 : decode cX6_ask 1 = .ok (.aload_n 0, 1) := by decide +kernel
theorem dX6_ask_2 : decode cX6_ask 2 = .ok (.getfield 57, 3) := by decide +kernel
theorem dX6_ask_5 : decode cX6_ask 5 = .ok (.invokevirtual 60, 3) := by decide +kernel
theorem dX6_ask_8 : decode cX6_ask 8 = .ok (.istore_n 1, 1) := by decide +kernel
theorem dX6_ask_9 : decode cX6_ask 9 = .ok (.aload_n 0, 1) := by decide +kernel
theorem dX6_ask_10 : decode cX6_ask 10 = .ok (.bipush 30, 2) := by decide +kernel
theorem dX6_ask_12 : decode cX6_ask 12 = .ok (.invokevirtual 60, 3) := by decide +kernel
theorem dX6_ask_15 : decode cX6_ask 15 = .ok (.istore_n 2, 1) := by decide +kernel
theorem dX6_ask_16 : decode cX6_ask 16 = .ok (.aload_n 0, 1) := by decide +kernel
theorem dX6_ask_17 : decode cX6_ask 17 = .ok (.bipush 10, 2) := by decide +kernel
theorem dX6_ask_19 : decode cX6_ask 19 = .ok (.invokevirtual 60, 3) := by decide +kernel
theorem dX6_ask_22 : decode cX6_ask 22 = .ok (.istore_n 3, 1) := by decide +kernel
theorem dX6_ask_23 : decode cX6_ask 23 = .ok (.aload_n 0, 1) := by decide +kernel
theorem dX6_ask_24 : decode cX6_ask 24 = .ok (.bipush 10, 2) := by decide +kernel
theorem dX6_ask_26 : decode cX6_ask 26 = .ok (.invokevirtual 60, 3) := by decide +kernel
theorem dX6_ask_29 : decode cX6_ask 29 = .ok (.istore 4, 2) := by decide +kernel
theorem dX6_ask_31 : decode cX6_ask 31 = .ok (.aload_n 0, 1) := by decide +kernel
theorem dX6_ask_32 : decode cX6_ask 32 = .ok (.iload_n 1, 1) := by decide +kernel
theorem dX6_ask_33 : decode cX6_ask 33 = .ok (.iload_n 2, 1) := by decide +kernel
theorem dX6_ask_34 : decode cX6_ask 34 = .ok (.iload_n 3, 1) := by decide +kernel
theorem dX6_ask_35 : decode cX6_ask 35 = .ok (.iload 4, 2) := by decide +kernel
theorem dX6_ask_37 : decode cX6_ask 37 = .ok (.invokevirtual 178, 3) := by decide +kernel
theorem dX6_ask_40 : decode cX6_ask 40 = .ok (.istore 5, 2) := by decide +kernel
theorem dX6_ask_42 : decode cX6_ask 42 = .ok (.aload_n 0, 1) := by decide +kernel
theorem dX6_ask_43 : decode cX6_ask 43 = .ok (.getfield 156, 3) := by decide +kernel
theorem dX6_ask_46 : decode cX6_ask 46 = .ok (.istore 6, 2) := by decide +kernel
theorem dX6_ask_48 : decode cX6_ask 48 = .ok (.aload_n 0, 1) := by decide +kernel
theorem dX6_ask_49 : decode cX6_ask 49 = .ok (.getfield 10, 3) := by decide +kernel
theorem dX6_ask_52 : decode cX6_ask 52 = .ok (.iload_n 1, 1) := by decide +kernel
theorem dX6_ask_53 : decode cX6_ask 53 = .ok (.iload_n 2, 1) := by decide +kernel
theorem dX6_ask_54 : decode cX6_ask 54 = .ok (.iload_n 3, 1) := by decide +kernel
theorem dX6_ask_55 : decode cX6_ask 55 = .ok (.iload 4, 2) := by decide +kernel
theorem dX6_ask_57 : decode cX6_ask 57 = .ok (.invokevirtual 180, 3) := by decide +kernel
theorem dX6_ask_60 : decode cX6_ask 60 = .ok (.iload 6, 2) := by decide +kernel
theorem dX6_ask_62 : decode cX6_ask 62 = .ok (.if_icmp .ne 43, 3) := by decide +kernel
theorem dX6_ask_65 : decode cX6_ask 65 = .ok (.aload_n 0, 1) := by decide +kernel
theorem dX6_ask_66 : decode cX6_ask 66 = .ok (.getfield 10, 3) := by decide +kernel
theorem dX6_ask_69 : decode cX6_ask 69 = .ok (.iload_n 1, 1) := by decide +kernel
theorem dX6_ask_70 : decode cX6_ask 70 = .ok (.iload_n 2, 1) := by decide +kernel
theorem dX6_ask_71 : decode cX6_ask 71 = .ok (.iload_n 3, 1) := by decide +kernel
theorem dX6_ask_72 : decode cX6_ask 72 = .ok (.iload 4, 2) := by decide +kernel
theorem dX6_ask_74 : decode cX6_ask 74 = .ok (.invokevirtual 183, 3) := by decide +kernel
theorem dX6_ask_77 : decode cX6_ask 77 = .ok (.iload 5, 2) := by decide +kernel
theorem dX6_ask_79 : decode cX6_ask 79 = .ok (.if_icmp .ne 26, 3) := by decide +kernel
theorem dX6_ask_82 : decode cX6_ask 82 = .ok (.aload_n 0, 1) := by decide +kernel
theorem dX6_ask_83 : decode cX6_ask 83 = .ok (.getfield 10, 3) := by decide +kernel
theorem dX6_ask_86 : decode cX6_ask 86 = .ok (.iload_n 1, 1) := by decide +kernel
theorem dX6_ask_87 : decode cX6_ask 87 = .ok (.iload_n 2, 1) := by decide +kernel
theorem dX6_ask_88 : decode cX6_ask 88 = .ok (.iload_n 3, 1) := by decide +kernel
theorem dX6_ask_89 : decode cX6_ask 89 = .ok (.iload 4, 2) := by decide +kernel
theorem dX6_ask_91 : decode cX6_ask 91 = .ok (.invokevirtual 184, 3) := by decide +kernel
theorem dX6_ask_94 : decode cX6_ask 94 = .ok (.aload_n 0, 1) := by decide +kernel
theorem dX6_ask_95 : decode cX6_ask 95 = .ok (.iload_n 1, 1) := by decide +kernel
theorem dX6_ask_96 : decode cX6_ask 96 = .ok (.iload_n 3, 1) := by decide +kernel
theorem dX6_ask_97 : decode cX6_ask 97 = .ok (.iload 4, 2) := by decide +kernel
theorem dX6_ask_99 : decode cX6_ask 99 = .ok (.invokevirtual 169, 3) := by decide +kernel
theorem dX6_ask_102 : decode cX6_ask 102 = .ok (.if_icmp .eq 5, 3) := by decide +kernel
theorem dX6_ask_105 : decode cX6_ask 105 = .ok (.iconst 0, 1) := by decide +kernel
theorem dX6_ask_106 : decode cX6_ask 106 = .ok (.ireturn, 1) := by decide +kernel
theorem dX6_ask_107 : decode cX6_ask 107 = .ok (.iconst 5, 1) := by decide +kernel
theorem dX6_ask_108 : decode cX6_ask 108 = .ok (.newarray .int, 2) := by decide +kernel
theorem dX6_ask_110 : decode cX6_ask 110 = .ok (.dup, 1) := by decide +kernel
theorem dX6_ask_111 : decode cX6_ask 111 = .ok (.iconst 0, 1) := by decide +kernel
theorem dX6_ask_112 : decode cX6_ask 112 = .ok (.iload_n 1, 1) := by decide +kernel
theorem dX6_ask_113 : decode cX6_ask 113 = .ok (.iastore, 1) := by decide +kernel
theorem dX6_ask_114 : decode cX6_ask 114 = .ok (.dup, 1) := by decide +kernel
theorem dX6_ask_115 : decode cX6_ask 115 = .ok (.iconst 1, 1) := by decide +kernel
theorem dX6_ask_116 : decode cX6_ask 116 = .ok (.iload_n 2, 1) := by decide +kernel
theorem dX6_ask_117 : decode cX6_ask 117 = .ok (.iastore, 1) := by decide +kernel
theorem dX6_ask_118 : decode cX6_ask 118 = .ok (.dup, 1) := by decide +kernel
theorem dX6_ask_119 : decode cX6_ask 119 = .ok (.iconst 2, 1) := by decide +kernel
theorem dX6_ask_120 : decode cX6_ask 120 = .ok (.iload 5, 2) := by decide +kernel
theorem dX6_ask_122 : decode cX6_ask 122 = .ok (.iastore, 1) := by decide +kernel
theorem dX6_ask_123 : decode cX6_ask 123 = .ok (.dup, 1) := by decide +kernel
theorem dX6_ask_124 : decode cX6_ask 124 = .ok (.iconst 3, 1) := by decide +kernel
theorem dX6_ask_125 : decode cX6_ask 125 = .ok (.iconst 0, 1) := by decide +kernel
theorem dX6_ask_126 : decode cX6_ask 126 = .ok (.iastore, 1) := by decide +kernel
theorem dX6_ask_127 : decode cX6_ask 127 = .ok (.dup, 1) := by decide +kernel
theorem dX6_ask_128 : decode cX6_ask 128 = .ok (.iconst 4, 1) := by decide +kernel
theorem dX6_ask_129 : decode cX6_ask 129 = .ok (.iconst 0, 1) := by decide +kernel
theorem dX6_ask_130 : decode cX6_ask 130 = .ok (.iastore, 1) := by decide +kernel
theorem dX6_ask_131 : decode cX6_ask 131 = .ok (.astore 7, 2) := by decide +kernel
theorem dX6_ask_133 : decode cX6_ask 133 = .ok (.iload 6, 2) := by decide +kernel
theorem dX6_ask_135 : decode cX6_ask 135 = .ok (.bipush 8, 2) := by decide +kernel
theorem dX6_ask_137 : decode cX6_ask 137 = .ok (.if_icmp .ne 36, 3) := by decide +kernel
theorem dX6_ask_140 : decode cX6_ask 140 = .ok (.aload_n 0, 1) := by decide +kernel
theorem dX6_ask_141 : decode cX6_ask 141 = .ok (.getfield 31, 3) := by decide +kernel
theorem dX6_ask_144 : decode cX6_ask 144 = .ok (.arraylength, 1) := by decide +kernel
theorem dX6_ask_145 : decode cX6_ask 145 = .ok (.bipush 100, 2) := by decide +kernel
theorem dX6_ask_147 : decode cX6_ask 147 = .ok (.if_icmp .ge 26, 3) := by decide +kernel
theorem dX6_ask_150 : decode cX6_ask 150 = .ok (.aload_n 0, 1) := by decide +kernel
theorem dX6_ask_151 : decode cX6_ask 151 = .ok (.iload_n 1, 1) := by decide +kernel
theorem dX6_ask_152 : decode cX6_ask 152 = .ok (.iload_n 2, 1) := by decide +kernel
theorem dX6_ask_153 : decode cX6_ask 153 = .ok (.invokevirtual 165, 3) := by decide +kernel
theorem dX6_ask_156 : decode cX6_ask 156 = .ok (.arraylength, 1) := by decide +kernel
theorem dX6_ask_157 : decode cX6_ask 157 = .ok (.ifCond .ne 16, 3) := by decide +kernel
theorem dX6_ask_160 : decode cX6_ask 160 = .ok (.aload_n 0, 1) := by decide +kernel
theorem dX6_ask_161 : decode cX6_ask 161 = .ok (.aload_n 0, 1) := by decide +kernel
theorem dX6_ask_162 : decode cX6_ask 162 = .ok (.getfield 31, 3) := by decide +kernel
theorem dX6_ask_165 : decode cX6_ask 165 = .ok (.aload 7, 2) := by decide +kernel
theorem dX6_ask_167 : decode cX6_ask 167 = .ok (.invokestatic 106, 3) := by decide +kernel
theorem dX6_ask_170 : decode cX6_ask 170 = .ok (.putfield 31, 3) := by decide +kernel
theorem dX6_ask_173 : decode cX6_ask 173 = .ok (.aload_n 0, 1) := by decide +kernel
theorem dX6_ask_174 : decode cX6_ask 174 = .ok (.getfield 10, 3) := by decide +kernel
theorem dX6_ask_177 : decode cX6_ask 177 = .ok (.iload_n 1, 1) := by decide +kernel
theorem dX6_ask_178 : decode cX6_ask 178 = .ok (.iload_n 2, 1) := by decide +kernel
theorem dX6_ask_179 : decode cX6_ask 179 = .ok (.iload_n 3, 1) := by decide +kernel
theorem dX6_ask_180 : decode cX6_ask 180 = .ok (.iload 4, 2) := by decide +kernel
theorem dX6_ask_182 : decode cX6_ask 182 = .ok (.invokevirtual 186, 3) := by decide +kernel
theorem dX6_ask_185 : decode cX6_ask 185 = .ok (.iload 5, 2) := by decide +kernel
theorem dX6_ask_187 : decode cX6_ask 187 = .ok (.if_icmp .ne 22, 3) := by decide +kernel
theorem dX6_ask_190 : decode cX6_ask 190 = .ok (.aload_n 0, 1) := by decide +kernel
theorem dX6_ask_191 : decode cX6_ask 191 = .ok (.getfield 10, 3) := by decide +kernel
theorem dX6_ask_194 : decode cX6_ask 194 = .ok (.invokevirtual 189, 3) := by decide +kernel
theorem dX6_ask_197 : decode cX6_ask 197 = .ok (.aload_n 0, 1) := by decide +kernel
theorem dX6_ask_198 : decode cX6_ask 198 = .ok (.getfield 31, 3) := by decide +kernel
theorem dX6_ask_201 : decode cX6_ask 201 = .ok (.arraylength, 1) := by decide +kernel
theorem dX6_ask_202 : decode cX6_ask 202 = .ok (.if_icmp .ne 7, 3) := by decide +kernel
theorem dX6_ask_205 : decode cX6_ask 205 = .ok (.iconst 1, 1) := by decide +kernel
theorem dX6_ask_206 : decode cX6_ask 206 = .ok (.goto 4, 3) := by decide +kernel
theorem dX6_ask_209 : decode cX6_ask 209 = .ok (.iconst 0, 1) := by decide +kernel
theorem dX6_ask_210 : decode cX6_ask 210 = .ok (.ireturn, 1) := by decide +kernel
theorem dX6_act_0 : decode cX6_act 0 = .ok (.aload_n 0, 1) := by decide +kernel
theorem dX6_act_1 : decode cX6_act 1 = .ok (.bipush 30, 2) := by decide +kernel
theorem dX6_act_3 : decode cX6_act 3 = .ok (.invokevirtual 60, 3) := by decide +kernel
theorem dX6_act_6 : decode cX6_act 6 = .ok (.istore_n 1, 1) := by decide +kernel
theorem dX6_act_7 : decode cX6_act 7 = .ok (.aload_n 0, 1) := by decide +kernel
theorem dX6_act_8 : decode cX6_act 8 = .ok (.bipush 101, 2) := by decide +kernel
theorem dX6_act_10 : decode cX6_act 10 = .ok (.invokevirtual 60, 3) := by decide +kernel
theorem dX6_act_13 : decode cX6_act 13 = .ok (.istore_n 2, 1) := by decide +kernel
theorem dX6_act_14 : decode cX6_act 14 = .ok (.iconst 0, 1) := by decide +kernel
theorem dX6_act_15 : decode cX6_act 15 = .ok (.istore_n 3, 1) := by decide +kernel
theorem dX6_act_16 : decode cX6_act 16 = .ok (.aload_n 0, 1) := by decide +kernel
theorem dX6_act_17 : decode cX6_act 17 = .ok (.getfield 31, 3) := by decide +kernel
theorem dX6_act_20 : decode cX6_act 20 = .ok (.astore 4, 2) := by decide +kernel
theorem dX6_act_22 : decode cX6_act 22 = .ok (.aload 4, 2) := by decide +kernel
theorem dX6_act_24 : decode cX6_act 24 = .ok (.arraylength, 1) := by decide +kernel
theorem dX6_act_25 : decode cX6_act 25 = .ok (.istore 5, 2) := by decide +kernel
theorem dX6_act_27 : decode cX6_act 27 = .ok (.iconst 0, 1) := by decide +kernel
theorem dX6_act_28 : decode cX6_act 28 = .ok (.istore 6, 2) := by decide +kernel
theorem dX6_act_30 : decode cX6_act 30 = .ok (.iload 6, 2) := by decide +kernel
theorem dX6_act_32 : decode cX6_act 32 = .ok (.iload 5, 2) := by decide +kernel
theorem dX6_act_34 : decode cX6_act 34 = .ok (.if_icmp .ge 43, 3) := by decide +kernel
theorem dX6_act_37 : decode cX6_act 37 = .ok (.aload 4, 2) := by decide +kernel
theorem dX6_act_39 : decode cX6_act 39 = .ok (.iload 6, 2) := by decide +kernel
theorem dX6_act_41 : decode cX6_act 41 = .ok (.aaload, 1) := by decide +kernel
theorem dX6_act_42 : decode cX6_act 42 = .ok (.astore 7, 2) := by decide +kernel
theorem dX6_act_44 : decode cX6_act 44 = .ok (.aload 7, 2) := by decide +kernel
theorem dX6_act_46 : decode cX6_act 46 = .ok (.iconst 1, 1) := by decide +kernel
theorem dX6_act_47 : decode cX6_act 47 = .ok (.iaload, 1) := by decide +kernel
theorem dX6_act_48 : decode cX6_act 48 = .ok (.iload_n 1, 1) := by decide +kernel
theorem dX6_act_49 : decode cX6_act 49 = .ok (.if_icmp .eq 6, 3) := by decide +kernel
theorem dX6_act_52 : decode cX6_act 52 = .ok (.goto 19, 3) := by decide +kernel
theorem dX6_act_55 : decode cX6_act 55 = .ok (.aload 7, 2) := by decide +kernel
theorem dX6_act_57 : decode cX6_act 57 = .ok (.iconst 3, 1) := by decide +kernel
theorem dX6_act_58 : decode cX6_act 58 = .ok (.dup2, 1) := by decide +kernel
theorem dX6_act_59 : decode cX6_act 59 = .ok (.iaload, 1) := by decide +kernel
theorem dX6_act_60 : decode cX6_act 60 = .ok (.iload_n 2, 1) := by decide +kernel
theorem dX6_act_61 : decode cX6_act 61 = .ok (.iadd, 1) := by decide +kernel
theorem dX6_act_62 : decode cX6_act 62 = .ok (.iastore, 1) := by decide +kernel
theorem dX6_act_63 : decode cX6_act 63 = .ok (.aload 7, 2) := by decide +kernel
theorem dX6_act_65 : decode cX6_act 65 = .ok (.iconst 4, 1) := by decide +kernel
theorem dX6_act_66 : decode cX6_act 66 = .ok (.iconst 1, 1) := by decide +kernel
theorem dX6_act_67 : decode cX6_act 67 = .ok (.iastore, 1) := by decide +kernel
theorem dX6_act_68 : decode cX6_act 68 = .ok (.iinc 3 1, 3) := by decide +kernel
theorem dX6_act_71 : decode cX6_act 71 = .ok (.iinc 6 1, 3) := by decide +kernel
theorem dX6_act_74 : decode cX6_act 74 = .ok (.goto (-44), 3) := by decide +kernel
theorem dX6_act_77 : decode cX6_act 77 = .ok (.aload_n 0, 1) := by decide +kernel
theorem dX6_act_78 : decode cX6_act 78 = .ok (.getfield 10, 3) := by decide +kernel
theorem dX6_act_81 : decode cX6_act 81 = .ok (.iload_n 1, 1) := by decide +kernel
theorem dX6_act_82 : decode cX6_act 82 = .ok (.iload_n 2, 1) := by decide +kernel
theorem dX6_act_83 : decode cX6_act 83 = .ok (.invokevirtual 192, 3) := by decide +kernel
theorem dX6_act_86 : decode cX6_act 86 = .ok (.iload_n 3, 1) := by decide +kernel
theorem dX6_act_87 : decode cX6_act 87 = .ok (.if_icmp .ne 7, 3) := by decide +kernel
theorem dX6_act_90 : decode cX6_act 90 = .ok (.iconst 1, 1) := by decide +kernel
theorem dX6_act_91 : decode cX6_act 91 = .ok (.goto 4, 3) := by decide +kernel
theorem dX6_act_94 : decode cX6_act 94 = .ok (.iconst 0, 1) := by decide +kernel
theorem dX6_act_95 : decode cX6_act 95 = .ok (.ireturn, 1) := by decide +kernel
end
section
/-! THE POOL: all cells of the class under proof, by their addresses: their kinds (0 Arm, 1 Asker, 2 Rule, 3 Switch, 4 Tally, 5 DaybreakFlags; 6 to 19 rows of ints, 20 rows of longs, 21 rows of Rules, 22 rows of Switches), lengths, numbers, references, and what the rows hold -/
abbrev Pool : Type := List Nat × (Nat → Nat) × (Nat → Nat) × (Nat → Nat → Int32) × (Nat → Nat → Option Nat) × (Nat → Nat → Int32) × (Nat → Nat → Int64) × (Nat → Nat → Option Nat)
abbrev gL (S : Pool) : List Nat := S.1
abbrev gK (S : Pool) : Nat → Nat := S.2.1
abbrev gN (S : Pool) : Nat → Nat := S.2.2.1
abbrev gI (S : Pool) : Nat → Nat → Int32 := S.2.2.2.1
abbrev gQ (S : Pool) : Nat → Nat → Option Nat := S.2.2.2.2.1
abbrev gR (S : Pool) : Nat → Nat → Int32 := S.2.2.2.2.2.1
abbrev gJ (S : Pool) : Nat → Nat → Int64 := S.2.2.2.2.2.2.1
abbrev gP (S : Pool) : Nat → Nat → Option Nat := S.2.2.2.2.2.2.2
def u2 {α : Type} (f : Nat → Nat → α) (a k : Nat) (v : α) : Nat → Nat → α := fun b j => if b = a ∧ j = k then v else f b j
def u1 {α : Type} (f : Nat → Nat → α) (a : Nat) (g : Nat → α) : Nat → Nat → α := fun b j => if b = a then g j else f b j
theorem u2_s {α : Type} {f : Nat → Nat → α} {a k : Nat} {v : α} : u2 f a k v a k = v := by simp [u2]
theorem u2_a {α : Type} {f : Nat → Nat → α} {a k b j : Nat} {v : α} (h : b ≠ a) : u2 f a k v b j = f b j := by simp [u2, h]
theorem u2_k {α : Type} {f : Nat → Nat → α} {a k b j : Nat} {v : α} (h : j ≠ k) : u2 f a k v b j = f b j := by simp [u2, h]
theorem u1_s {α : Type} {f : Nat → Nat → α} {a j : Nat} {g : Nat → α} : u1 f a g a j = g j := by simp [u1]
theorem u1_a {α : Type} {f : Nat → Nat → α} {a b j : Nat} {g : Nat → α} (h : b ≠ a) : u1 f a g b j = f b j := by simp [u1, h]
abbrev pI (S : Pool) (a k : Nat) (v : Int32) : Pool := (gL S, gK S, gN S, u2 (gI S) a k v, gQ S, gR S, gJ S, gP S)
abbrev pQ (S : Pool) (a k : Nat) (v : Option Nat) : Pool := (gL S, gK S, gN S, gI S, u2 (gQ S) a k v, gR S, gJ S, gP S)
abbrev pR (S : Pool) (a k : Nat) (v : Int32) : Pool := (gL S, gK S, gN S, gI S, gQ S, u2 (gR S) a k v, gJ S, gP S)
abbrev pJ (S : Pool) (a k : Nat) (v : Int64) : Pool := (gL S, gK S, gN S, gI S, gQ S, gR S, u2 (gJ S) a k v, gP S)
abbrev pP (S : Pool) (a k : Nat) (v : Option Nat) : Pool := (gL S, gK S, gN S, gI S, gQ S, gR S, gJ S, u2 (gP S) a k v)
/-- a new object (or row) of a kind at q, all of it 0 or null -/
abbrev pW (S : Pool) (q ki n : Nat) : Pool := (gL S ++ [q], va_up (gK S) q ki, va_up (gN S) q n, u1 (gI S) q (fun _ => 0), u1 (gQ S) q (fun _ => none), u1 (gR S) q (fun _ => 0), u1 (gJ S) q (fun _ => 0), u1 (gP S) q (fun _ => none))
def nf : Nat → Nat
  | 0 => 5
  | 1 => 6
  | 2 => 4
  | 3 => 18
  | 4 => 5
  | 23 => 11
  | _ => 6
def isR : Nat → Nat → Bool
  | 0, 2 => true
  | 3, 4 => true
  | 3, 5 => true
  | 3, 6 => true
  | 3, 7 => true
  | 4, 0 => true
  | 4, 1 => true
  | 4, 2 => true
  | 4, 3 => true
  | 5, 0 => true
  | 5, 1 => true
  | 23, 0 => true
  | 23, 1 => true
  | 23, 6 => true
  | 23, 7 => true
  | 23, 8 => true
  | 23, 9 => true
  | _, _ => false
def pv (S : Pool) (ci a k : Nat) : Value := if isR ci k = true then va_rf (gQ S a k) else .int (gI S a k)
def pcell (cA : Nat → ClassId) (S : Pool) (a : Nat) : va_E :=
  if gK S a < 6 then .inr (gK S a, (List.range (nf (gK S a))).map (pv S (gK S a) a))
  else if gK S a < 20 then .inl (cA 0, gN S a, .inl (gR S a))
  else if gK S a = 20 then .inl (cA 1, gN S a, .inr (.inl (gJ S a)))
  else if gK S a = 21 then .inl (cA 4, gN S a, .inr (.inr (.inr (.inr (gP S a)))))
  else if gK S a = 23 then .inr (6, (List.range 11).map (pv S (gK S a) a))
  else if gK S a = 24 then .inl (cA 6, gN S a, .inr (.inr (.inr (.inr (gP S a)))))
  else if gK S a = 25 then .inl (cA 7, gN S a, .inr (.inr (.inr (.inr (gP S a)))))
  else .inl (cA 5, gN S a, .inr (.inr (.inr (.inr (gP S a)))))
abbrev PW (cA : Nat → ClassId) (S : Pool) : va_W := va_pl (gL S) (pcell cA S)
abbrev ty6 (cA : Nat → ClassId) : List (ClassId × FieldType) := [(cA 0, .int), (cA 1, .long), (cA 2, .boolean), (cA 3, .double), (cA 4, .object RX2), (cA 5, .object RX3), (cA 6, .array .int), (cA 7, .array (.array .int))]
/-- an object of a kind lies at a -/
abbrev isO (S : Pool) (a ki : Nat) : Prop := a ∈ gL S ∧ gK S a = ki
/-- a row of a kind and of n places lies at a -/
abbrev isA (S : Pool) (a ki n : Nat) : Prop := a ∈ gL S ∧ gK S a = ki ∧ gN S a = n
theorem pcell_o {cA : Nat → ClassId} {S : Pool} {a ci : Nat} (h : gK S a = ci) (hc : ci < 6) : pcell cA S a = .inr (ci, (List.range (nf ci)).map (pv S ci a)) := by
  unfold pcell
  rw [h, if_pos hc]
theorem pcell_i {cA : Nat → ClassId} {S : Pool} {a ci : Nat} (h : gK S a = ci) (h6 : 6 ≤ ci) (h20 : ci < 20) : pcell cA S a = .inl (cA 0, gN S a, .inl (gR S a)) := by
  unfold pcell
  rw [h, if_neg (by omega), if_pos h20]
theorem pcell_j {cA : Nat → ClassId} {S : Pool} {a : Nat} (h : gK S a = 20) : pcell cA S a = .inl (cA 1, gN S a, .inr (.inl (gJ S a))) := by
  unfold pcell
  rw [h, if_neg (by omega), if_neg (by omega), if_pos rfl]
theorem pcell_r {cA : Nat → ClassId} {S : Pool} {a : Nat} (h : gK S a = 21) : pcell cA S a = .inl (cA 4, gN S a, .inr (.inr (.inr (.inr (gP S a))))) := by
  unfold pcell
  rw [h, if_neg (by omega), if_neg (by omega), if_neg (by omega), if_pos rfl]
theorem pcell_s {cA : Nat → ClassId} {S : Pool} {a : Nat} (h : gK S a = 22) : pcell cA S a = .inl (cA 5, gN S a, .inr (.inr (.inr (.inr (gP S a))))) := by
  unfold pcell
  rw [h, if_neg (by omega), if_neg (by omega), if_neg (by omega), if_neg (by omega), if_neg (by omega), if_neg (by omega), if_neg (by omega)]
theorem pcell_d {cA : Nat → ClassId} {S : Pool} {a : Nat} (h : gK S a = 23) : pcell cA S a = .inr (6, (List.range 11).map (pv S 23 a)) := by
  unfold pcell
  rw [h, if_neg (by omega), if_neg (by omega), if_neg (by omega), if_neg (by omega), if_pos rfl]
theorem pcell_a {cA : Nat → ClassId} {S : Pool} {a : Nat} (h : gK S a = 24) : pcell cA S a = .inl (cA 6, gN S a, .inr (.inr (.inr (.inr (gP S a))))) := by
  unfold pcell
  rw [h, if_neg (by omega), if_neg (by omega), if_neg (by omega), if_neg (by omega), if_neg (by omega), if_pos rfl]
theorem pcell_b {cA : Nat → ClassId} {S : Pool} {a : Nat} (h : gK S a = 25) : pcell cA S a = .inl (cA 7, gN S a, .inr (.inr (.inr (.inr (gP S a))))) := by
  unfold pcell
  rw [h, if_neg (by omega), if_neg (by omega), if_neg (by omega), if_neg (by omega), if_neg (by omega), if_neg (by omega), if_pos rfl]
theorem map_set {α : Type} {n k : Nat} {g g' : Nat → α} {v : α} (h1 : k < n → g' k = v) (h2 : ∀ j, j ≠ k → g' j = g j) : ((List.range n).map g).set k v = (List.range n).map g' := by
  apply List.ext_getElem?
  intro j
  rw [List.getElem?_set]
  by_cases hj : k = j
  · subst hj
    by_cases hn : k < n
    · simp [hn, h1 hn]
    · simp [hn]
  · rw [if_neg hj]
    by_cases hn : j < n
    · simp [hn, h2 j (fun e => hj e.symm)]
    · simp [hn]
theorem pw_get {cA : Nat → ClassId} {S : Pool} {a : Nat} (h : a ∈ gL S) : ∃ k : Nat, (PW cA S)[k]? = some (a, pcell cA S a) := va_pl_get (X := []) h
theorem pw_set {cA : Nat → ClassId} {S : Pool} {A : Nat → Prop} {a k : Nat} {e : va_E} {g : Nat → va_E} (hD : va_D A (PW cA S)) (h : a ∈ gL S) (hk : (PW cA S)[k]? = some (a, pcell cA S a)) (ha : g a = e) (hb : ∀ b, b ≠ a → g b = pcell cA S b) : (PW cA S).set k (a, e) = va_pl (gL S) g := by
  have h1 := va_pl_set (X := []) (e := e) hD h hk
  refine (show (PW cA S).set k (a, e) = va_pl (gL S) (va_up (pcell cA S) a e) from h1).trans (va_pl_congr fun b => ?_)
  by_cases hba : b = a
  · subst hba
    rw [ha]; simp [va_up]
  · rw [hb b hba]; simp [va_up, hba]
theorem pw_new {cA : Nat → ClassId} {S : Pool} {A : Nat → Prop} {q : Nat} {e : va_E} {g : Nat → va_E} (hD : va_D A (PW cA S ++ [(q, e)])) (ha : g q = e) (hb : ∀ b, b ≠ q → g b = pcell cA S b) : q ∉ gL S ∧ PW cA S ++ [(q, e)] = va_pl (gL S ++ [q]) g := by
  have hq : q ∉ gL S := by
    intro hm
    obtain ⟨k, hk⟩ := pw_get (cA := cA) (S := S) hm
    have hlt : k < (PW cA S).length := (List.getElem?_eq_some_iff.mp hk).1
    have h1 : (PW cA S ++ [(q, e)])[k]? = some (q, pcell cA S q) := by rw [List.getElem?_append_left hlt]; exact hk
    have h2 : (PW cA S ++ [(q, e)])[(PW cA S).length]? = some (q, e) := by simp
    have := hD.1 _ _ _ _ h1 h2 rfl
    omega
  refine ⟨hq, ?_⟩
  refine (va_pl_push hq).trans (va_pl_congr fun b => ?_)
  by_cases hba : b = q
  · subst hba
    rw [ha]; simp [va_up]
  · rw [hb b hba]; simp [va_up, hba]
theorem pcell_ne {cA : Nat → ClassId} {S S' : Pool} {b : Nat} (hK : gK S' b = gK S b) (hN : gN S' b = gN S b) (hI : gI S' b = gI S b) (hQ : gQ S' b = gQ S b) (hR : gR S' b = gR S b) (hJ : gJ S' b = gJ S b) (hP : gP S' b = gP S b) : pcell cA S' b = pcell cA S b := by
  unfold pcell
  have h : pv S' (gK S b) b = pv S (gK S b) b := by
    funext k
    unfold pv
    rw [hI, hQ]
  rw [hK, hN, hR, hJ, hP, h]
theorem u2_row {α : Type} {f : Nat → Nat → α} {a k b : Nat} {v : α} (h : b ≠ a) : u2 f a k v b = f b := by funext j; exact u2_a h
theorem u1_row {α : Type} {f : Nat → Nat → α} {a b : Nat} {g : Nat → α} (h : b ≠ a) : u1 f a g b = f b := by funext j; exact u1_a h
theorem u2_upd {f : Nat → Nat → Int32} {a k : Nat} {v : Int32} : u2 f a k v a = upd (f a) k v := by funext j; simp [u2, upd]
theorem u2_updL {f : Nat → Nat → Int64} {a k : Nat} {v : Int64} : u2 f a k v a = vp_updL (f a) k v := by funext j; simp [u2, vp_updL]
theorem u2_updP {f : Nat → Nat → Option Nat} {a k : Nat} {v : Option Nat} : u2 f a k v a = va_up (f a) k v := by funext j; simp [u2, va_up]
theorem up_ne {f : Nat → Nat} {q b v : Nat} (h : b ≠ q) : va_up f q v b = f b := by simp [va_up, h]
theorem up_s {f : Nat → Nat} {q v : Nat} : va_up f q v q = v := by simp [va_up]
theorem ne_new {S : Pool} {q b : Nat} (hb : b ∈ gL S) (hq : q ∉ gL S) : b ≠ q := by
  intro e
  subst e
  exact hq hb
theorem isO_new {S : Pool} {q ki n b kb : Nat} (h : isO S b kb) (hq : q ∉ gL S) : isO (pW S q ki n) b kb := ⟨List.mem_append_left _ h.1, show va_up (gK S) q ki b = kb from (up_ne (ne_new h.1 hq)).trans h.2⟩
theorem isA_new {S : Pool} {q ki n b kb nb : Nat} (h : isA S b kb nb) (hq : q ∉ gL S) : isA (pW S q ki n) b kb nb := ⟨List.mem_append_left _ h.1, show va_up (gK S) q ki b = kb from (up_ne (ne_new h.1 hq)).trans h.2.1, show va_up (gN S) q n b = nb from (up_ne (ne_new h.1 hq)).trans h.2.2⟩
theorem isO_q {S : Pool} {q ki n : Nat} : isO (pW S q ki n) q ki := ⟨List.mem_append_right _ (List.mem_singleton.mpr rfl), show va_up (gK S) q ki q = ki from up_s⟩
theorem isA_q {S : Pool} {q ki n : Nat} : isA (pW S q ki n) q ki n := ⟨List.mem_append_right _ (List.mem_singleton.mpr rfl), show va_up (gK S) q ki q = ki from up_s, show va_up (gN S) q n q = n from up_s⟩
theorem gI_new {S : Pool} {q ki n b k : Nat} (hb : b ∈ gL S) (hq : q ∉ gL S) : gI (pW S q ki n) b k = gI S b k := show u1 (gI S) q (fun _ => 0) b k = gI S b k from u1_a (ne_new hb hq)
theorem gI_q {S : Pool} {q ki n k : Nat} : gI (pW S q ki n) q k = 0 := show u1 (gI S) q (fun _ => 0) q k = 0 from u1_s
theorem gQ_new {S : Pool} {q ki n b k : Nat} (hb : b ∈ gL S) (hq : q ∉ gL S) : gQ (pW S q ki n) b k = gQ S b k := show u1 (gQ S) q (fun _ => none) b k = gQ S b k from u1_a (ne_new hb hq)
theorem gQ_q {S : Pool} {q ki n k : Nat} : gQ (pW S q ki n) q k = none := show u1 (gQ S) q (fun _ => none) q k = none from u1_s
theorem gR_new {S : Pool} {q ki n b k : Nat} (hb : b ∈ gL S) (hq : q ∉ gL S) : gR (pW S q ki n) b k = gR S b k := show u1 (gR S) q (fun _ => 0) b k = gR S b k from u1_a (ne_new hb hq)
theorem gR_q {S : Pool} {q ki n k : Nat} : gR (pW S q ki n) q k = 0 := show u1 (gR S) q (fun _ => 0) q k = 0 from u1_s
theorem gJ_new {S : Pool} {q ki n b k : Nat} (hb : b ∈ gL S) (hq : q ∉ gL S) : gJ (pW S q ki n) b k = gJ S b k := show u1 (gJ S) q (fun _ => 0) b k = gJ S b k from u1_a (ne_new hb hq)
theorem gJ_q {S : Pool} {q ki n k : Nat} : gJ (pW S q ki n) q k = 0 := show u1 (gJ S) q (fun _ => 0) q k = 0 from u1_s
theorem gP_new {S : Pool} {q ki n b k : Nat} (hb : b ∈ gL S) (hq : q ∉ gL S) : gP (pW S q ki n) b k = gP S b k := show u1 (gP S) q (fun _ => none) b k = gP S b k from u1_a (ne_new hb hq)
theorem gP_q {S : Pool} {q ki n k : Nat} : gP (pW S q ki n) q k = none := show u1 (gP S) q (fun _ => none) q k = none from u1_s
theorem kz_b {x : Int32} (h : x = 0 ∨ x = 1) : narrow .boolean (.int x) = .int x ∧ fits .boolean (.int x) = true := by rcases h with rfl | rfl <;> decide
theorem ne_of_kind {S : Pool} {a b i j : Nat} (ha : gK S a = i) (hb : gK S b = j) (h : i ≠ j) : a ≠ b := by
  intro e
  subst e
  exact h (ha.symm.trans hb)
end
section
/-! rows over the pool -/
section KX
variable {p : Program} {l : Launch} {e : Env} {R : Room} {s : State} {m : MethodId} {args : Array Value} {below : List Frame} {meth : Method} {c : Code} {H : Heap} {locs : List Loc} {cells slots : Nat} {Q : State → Prop}
variable {cc : ByteArray} {pc : Nat} {ls : Array Slot} {rest : List Value} {D : va_G} {A : Nat → Prop} {a : Nat} {H0 : Heap} {cA : Nat → ClassId} {S : Pool}
theorem kx_geti (hexec : p.tables.exec = Jvm.exec) (hb : c.code = cc) {own C : String} {T : u_T} {N ci index : Nat} {Ts : List Cond} (hts : ∀ w ∈ Ts, w.before args s = true) (hin : ∀ w ∈ u_ws C T N, w ∈ Ts) (hown : s.vm.findClass own = some m.cls) (hK : va_K D vwCl (ty6 cA) s) (hP : va_P D vwCl (PW cA S) H) (ho : isO S a ci) (hci : ci < 6) (hc : vwCl[ci]? = some (C, T, N)) (k : Nat) (hk : k < N) (hk2 : k < nf ci) (hi : isR ci k = false) (hlink : (Cond.fieldLink own index (T k).1 (T k).2.1 (T k).2.2.1).before args s = true) (hdg : decode cc pc = .ok (.getfield index, 3))
    (kk : W p l e R s m args below meth c H locs cells slots Q (F0 m (pc + 3) ls (.int (gI S a k) :: rest))) : W p l e R s m args below meth c H locs cells slots Q (F0 m pc ls (.ref a :: rest)) := by
  obtain ⟨q0, h0⟩ := pw_get (cA := cA) ho.1
  rw [pcell_o ho.2 hci] at h0
  refine va_get hexec hb hts hin hown hK hP q0 h0 hc k hk hlink (fun _ h9 => h9) (v := .int (gI S a k)) ?_ hdg kk
  simp [hk2, pv, hi]
theorem kx_getr (hexec : p.tables.exec = Jvm.exec) (hb : c.code = cc) {own C : String} {T : u_T} {N ci index : Nat} {Ts : List Cond} (hts : ∀ w ∈ Ts, w.before args s = true) (hin : ∀ w ∈ u_ws C T N, w ∈ Ts) (hown : s.vm.findClass own = some m.cls) (hK : va_K D vwCl (ty6 cA) s) (hP : va_P D vwCl (PW cA S) H) (ho : isO S a ci) (hci : ci < 6) (hc : vwCl[ci]? = some (C, T, N)) (k : Nat) (hk : k < N) (hk2 : k < nf ci) (hi : isR ci k = true) {r : Option Nat} (hr : gQ S a k = r) (hlink : (Cond.fieldLink own index (T k).1 (T k).2.1 (T k).2.2.1).before args s = true) (hdg : decode cc pc = .ok (.getfield index, 3))
    (kk : W p l e R s m args below meth c H locs cells slots Q (F0 m (pc + 3) ls (va_rf r :: rest))) : W p l e R s m args below meth c H locs cells slots Q (F0 m pc ls (.ref a :: rest)) := by
  obtain ⟨q0, h0⟩ := pw_get (cA := cA) ho.1
  rw [pcell_o ho.2 hci] at h0
  refine va_get hexec hb hts hin hown hK hP q0 h0 hc k hk hlink (fun _ h9 => h9) (v := va_rf r) ?_ hdg kk
  simp [hk2, pv, hi, ← hr]
theorem kx_puti (hexec : p.tables.exec = Jvm.exec) (hb : c.code = cc) {own C : String} {T : u_T} {N ci index : Nat} {Ts : List Cond} (hts : ∀ w ∈ Ts, w.before args s = true) (hin : ∀ w ∈ u_ws C T N, w ∈ Ts) (ty0 : Nat → FieldType) (hty : ∀ k, k < N → parseFieldDescriptor (T k).2.2.1 = some (ty0 k)) (hnm : ∀ a, a < N → ∀ b, b < N → a ≠ b → (T a).2.1 ≠ (T b).2.1) (hown : s.vm.findClass own = some m.cls) (hK : va_K D vwCl (ty6 cA) s) (hP : va_P D vwCl (PW cA S) H) (hD : va_D A (PW cA S)) (hS : va_S A H0 H locs) (ho : isO S a ci) (hci : ci < 6) (hc : vwCl[ci]? = some (C, T, N)) (k : Nat) (hk : k < N) (hk2 : k < nf ci) (hi : isR ci k = false) (hlink : (Cond.fieldLink own index (T k).1 (T k).2.1 (T k).2.2.1).before args s = true) (hfin : (T k).2.2.2 = false) {ty : FieldType} {x : Int32} (hd : parseFieldDescriptor (T k).2.2.1 = some ty) (hn : narrow ty (.int x) = .int x) (hfit : fits ty (.int x) = true) (hdg : decode cc pc = .ok (.putfield index, 3))
    (kk : ∀ (H1 : Heap) (locs1 : List Loc), va_P D vwCl (PW cA (pI S a k x)) H1 → va_D A (PW cA (pI S a k x)) → va_S A H0 H1 locs1 → W p l e R s m args below meth c H1 locs1 cells slots Q (F0 m (pc + 3) ls rest)) : W p l e R s m args below meth c H locs cells slots Q (F0 m pc ls (.int x :: .ref a :: rest)) := by
  obtain ⟨q0, h0⟩ := pw_get (cA := cA) ho.1
  have h1 : (PW cA S)[q0]? = some (a, .inr (ci, (List.range (nf ci)).map (pv S ci a))) := by rw [h0, pcell_o ho.2 hci]
  have hw : (PW cA S).set q0 (a, .inr (ci, ((List.range (nf ci)).map (pv S ci a)).set k (.int x))) = PW cA (pI S a k x) := by
    refine pw_set hD ho.1 h0 ?_ ?_
    · rw [pcell_o (S := pI S a k x) ho.2 hci]
      rw [map_set (g' := pv (pI S a k x) ci a)]
      · intro _; show (if isR ci k = true then va_rf (gQ S a k) else Value.int (u2 (gI S) a k x a k)) = _; rw [hi, u2_s]; rfl
      · intro j hj
        unfold pv
        rw [show gI (pI S a k x) a j = gI S a j from u2_k hj]
    · intro b hb
      exact pcell_ne (S' := pI S a k x) rfl rfl (u2_row hb) rfl rfl rfl rfl
  refine va_put hexec hb hts hin ty0 hty hnm hown hK hP hD hS q0 h1 hc k hk hlink (fun _ h9 => h9) hfin hd hn hfit (by simp [hk2]) hdg (fun H1 locs1 a1 a2 a3 => ?_)
  rw [hw] at a1 a2
  exact kk H1 locs1 a1 a2 a3
theorem kx_putr (hexec : p.tables.exec = Jvm.exec) (hb : c.code = cc) {own C : String} {T : u_T} {N ci index : Nat} {Ts : List Cond} (hts : ∀ w ∈ Ts, w.before args s = true) (hin : ∀ w ∈ u_ws C T N, w ∈ Ts) (ty0 : Nat → FieldType) (hty : ∀ k, k < N → parseFieldDescriptor (T k).2.2.1 = some (ty0 k)) (hnm : ∀ a, a < N → ∀ b, b < N → a ≠ b → (T a).2.1 ≠ (T b).2.1) (hown : s.vm.findClass own = some m.cls) (hK : va_K D vwCl (ty6 cA) s) (hP : va_P D vwCl (PW cA S) H) (hD : va_D A (PW cA S)) (hS : va_S A H0 H locs) (ho : isO S a ci) (hci : ci < 6) (hc : vwCl[ci]? = some (C, T, N)) (k : Nat) (hk : k < N) (hk2 : k < nf ci) (hi : isR ci k = true) (hlink : (Cond.fieldLink own index (T k).1 (T k).2.1 (T k).2.2.1).before args s = true) (hfin : (T k).2.2.2 = false) {ty : FieldType} {r : Option Nat} (hd : parseFieldDescriptor (T k).2.2.1 = some ty) (hn : narrow ty (va_rf r) = va_rf r) (hfit : fits ty (va_rf r) = true) (hdg : decode cc pc = .ok (.putfield index, 3))
    (kk : ∀ (H1 : Heap) (locs1 : List Loc), va_P D vwCl (PW cA (pQ S a k r)) H1 → va_D A (PW cA (pQ S a k r)) → va_S A H0 H1 locs1 → W p l e R s m args below meth c H1 locs1 cells slots Q (F0 m (pc + 3) ls rest)) : W p l e R s m args below meth c H locs cells slots Q (F0 m pc ls (va_rf r :: .ref a :: rest)) := by
  obtain ⟨q0, h0⟩ := pw_get (cA := cA) ho.1
  have h1 : (PW cA S)[q0]? = some (a, .inr (ci, (List.range (nf ci)).map (pv S ci a))) := by rw [h0, pcell_o ho.2 hci]
  have hw : (PW cA S).set q0 (a, .inr (ci, ((List.range (nf ci)).map (pv S ci a)).set k (va_rf r))) = PW cA (pQ S a k r) := by
    refine pw_set hD ho.1 h0 ?_ ?_
    · rw [pcell_o (S := pQ S a k r) ho.2 hci]
      rw [map_set (g' := pv (pQ S a k r) ci a)]
      · intro _; show (if isR ci k = true then va_rf (u2 (gQ S) a k r a k) else Value.int (gI S a k)) = _; rw [hi, u2_s]; rfl
      · intro j hj
        unfold pv
        rw [show gQ (pQ S a k r) a j = gQ S a j from u2_k hj]
    · intro b hb
      exact pcell_ne (S' := pQ S a k r) rfl rfl rfl (u2_row hb) rfl rfl rfl
  refine va_put hexec hb hts hin ty0 hty hnm hown hK hP hD hS q0 h1 hc k hk hlink (fun _ h9 => h9) hfin hd hn hfit (by simp [hk2]) hdg (fun H1 locs1 a1 a2 a3 => ?_)
  rw [hw] at a1 a2
  exact kk H1 locs1 a1 a2 a3
theorem kx_putiF (hexec : p.tables.exec = Jvm.exec) (hb : c.code = cc) {own C : String} {T : u_T} {N ci index : Nat} {Ts : List Cond} (hts : ∀ w ∈ Ts, w.before args s = true) (hin : ∀ w ∈ u_ws C T N, w ∈ Ts) (ty0 : Nat → FieldType) (hty : ∀ k, k < N → parseFieldDescriptor (T k).2.2.1 = some (ty0 k)) (hnm : ∀ a, a < N → ∀ b, b < N → a ≠ b → (T a).2.1 ≠ (T b).2.1) (hown : s.vm.findClass own = some m.cls) (hK : va_K D vwCl (ty6 cA) s) (hP : va_P D vwCl (PW cA S) H) (hD : va_D A (PW cA S)) (hS : va_S A H0 H locs) (ho : isO S a ci) (hci : ci < 6) (hc : vwCl[ci]? = some (C, T, N)) (k : Nat) (hk : k < N) (hk2 : k < nf ci) (hi : isR ci k = false) (hlink : (Cond.fieldLink own index (T k).1 (T k).2.1 (T k).2.2.1).before args s = true) (hfin : (T k).2.2.2 = true) (hin2 : meth.name = "<init>") (hdecl : (T k).1 = own) {ty : FieldType} {x : Int32} (hd : parseFieldDescriptor (T k).2.2.1 = some ty) (hn : narrow ty (.int x) = .int x) (hfit : fits ty (.int x) = true) (hdg : decode cc pc = .ok (.putfield index, 3))
    (kk : ∀ (H1 : Heap) (locs1 : List Loc), va_P D vwCl (PW cA (pI S a k x)) H1 → va_D A (PW cA (pI S a k x)) → va_S A H0 H1 locs1 → W p l e R s m args below meth c H1 locs1 cells slots Q (F0 m (pc + 3) ls rest)) : W p l e R s m args below meth c H locs cells slots Q (F0 m pc ls (.int x :: .ref a :: rest)) := by
  obtain ⟨q0, h0⟩ := pw_get (cA := cA) ho.1
  have h1 : (PW cA S)[q0]? = some (a, .inr (ci, (List.range (nf ci)).map (pv S ci a))) := by rw [h0, pcell_o ho.2 hci]
  have hw : (PW cA S).set q0 (a, .inr (ci, ((List.range (nf ci)).map (pv S ci a)).set k (.int x))) = PW cA (pI S a k x) := by
    refine pw_set hD ho.1 h0 ?_ ?_
    · rw [pcell_o (S := pI S a k x) ho.2 hci]
      rw [map_set (g' := pv (pI S a k x) ci a)]
      · intro _; show (if isR ci k = true then va_rf (gQ S a k) else Value.int (u2 (gI S) a k x a k)) = _; rw [hi, u2_s]; rfl
      · intro j hj
        unfold pv
        rw [show gI (pI S a k x) a j = gI S a j from u2_k hj]
    · intro b hb
      exact pcell_ne (S' := pI S a k x) rfl rfl (u2_row hb) rfl rfl rfl rfl
  refine va_putF hexec hb hts hin ty0 hty hnm hown hK hP hD hS q0 h1 hc k hk hlink (fun _ h9 => h9) hfin hin2 hdecl hd hn hfit (by simp [hk2]) hdg (fun H1 locs1 a1 a2 a3 => ?_)
  rw [hw] at a1 a2
  exact kk H1 locs1 a1 a2 a3
theorem kx_putrF (hexec : p.tables.exec = Jvm.exec) (hb : c.code = cc) {own C : String} {T : u_T} {N ci index : Nat} {Ts : List Cond} (hts : ∀ w ∈ Ts, w.before args s = true) (hin : ∀ w ∈ u_ws C T N, w ∈ Ts) (ty0 : Nat → FieldType) (hty : ∀ k, k < N → parseFieldDescriptor (T k).2.2.1 = some (ty0 k)) (hnm : ∀ a, a < N → ∀ b, b < N → a ≠ b → (T a).2.1 ≠ (T b).2.1) (hown : s.vm.findClass own = some m.cls) (hK : va_K D vwCl (ty6 cA) s) (hP : va_P D vwCl (PW cA S) H) (hD : va_D A (PW cA S)) (hS : va_S A H0 H locs) (ho : isO S a ci) (hci : ci < 6) (hc : vwCl[ci]? = some (C, T, N)) (k : Nat) (hk : k < N) (hk2 : k < nf ci) (hi : isR ci k = true) (hlink : (Cond.fieldLink own index (T k).1 (T k).2.1 (T k).2.2.1).before args s = true) (hfin : (T k).2.2.2 = true) (hin2 : meth.name = "<init>") (hdecl : (T k).1 = own) {ty : FieldType} {r : Option Nat} (hd : parseFieldDescriptor (T k).2.2.1 = some ty) (hn : narrow ty (va_rf r) = va_rf r) (hfit : fits ty (va_rf r) = true) (hdg : decode cc pc = .ok (.putfield index, 3))
    (kk : ∀ (H1 : Heap) (locs1 : List Loc), va_P D vwCl (PW cA (pQ S a k r)) H1 → va_D A (PW cA (pQ S a k r)) → va_S A H0 H1 locs1 → W p l e R s m args below meth c H1 locs1 cells slots Q (F0 m (pc + 3) ls rest)) : W p l e R s m args below meth c H locs cells slots Q (F0 m pc ls (va_rf r :: .ref a :: rest)) := by
  obtain ⟨q0, h0⟩ := pw_get (cA := cA) ho.1
  have h1 : (PW cA S)[q0]? = some (a, .inr (ci, (List.range (nf ci)).map (pv S ci a))) := by rw [h0, pcell_o ho.2 hci]
  have hw : (PW cA S).set q0 (a, .inr (ci, ((List.range (nf ci)).map (pv S ci a)).set k (va_rf r))) = PW cA (pQ S a k r) := by
    refine pw_set hD ho.1 h0 ?_ ?_
    · rw [pcell_o (S := pQ S a k r) ho.2 hci]
      rw [map_set (g' := pv (pQ S a k r) ci a)]
      · intro _; show (if isR ci k = true then va_rf (u2 (gQ S) a k r a k) else Value.int (gI S a k)) = _; rw [hi, u2_s]; rfl
      · intro j hj
        unfold pv
        rw [show gQ (pQ S a k r) a j = gQ S a j from u2_k hj]
    · intro b hb
      exact pcell_ne (S' := pQ S a k r) rfl rfl rfl (u2_row hb) rfl rfl rfl
  refine va_putF hexec hb hts hin ty0 hty hnm hown hK hP hD hS q0 h1 hc k hk hlink (fun _ h9 => h9) hfin hin2 hdecl hd hn hfit (by simp [hk2]) hdg (fun H1 locs1 a1 a2 a3 => ?_)
  rw [hw] at a1 a2
  exact kk H1 locs1 a1 a2 a3
/-- rows of ints -/
theorem kx_iald (hexec : p.tables.exec = Jvm.exec) (hb : c.code = cc) (hK : va_K D vwCl (ty6 cA) s) (hP : va_P D vwCl (PW cA S) H) {ki n : Nat} (ho : isA S a ki n) (h6 : 6 ≤ ki) (h20 : ki < 20) {i : Int32} (hin : vp_in i n) (hdg : decode cc pc = .ok (.iaload, 1))
    (kk : W p l e R s m args below meth c H locs cells slots Q (F0 m (pc + 1) ls (.int (gR S a i.toNatClampNeg) :: rest))) : W p l e R s m args below meth c H locs cells slots Q (F0 m pc ls (.int i :: .ref a :: rest)) := by
  obtain ⟨q0, h0⟩ := pw_get (cA := cA) ho.1
  rw [pcell_i ho.2.1 h6 h20] at h0
  exact va_iald hexec hb hK hP q0 0 h0 rfl (by rw [ho.2.2]; exact hin) hdg kk
theorem kx_iast (hexec : p.tables.exec = Jvm.exec) (hb : c.code = cc) (hK : va_K D vwCl (ty6 cA) s) (hP : va_P D vwCl (PW cA S) H) (hD : va_D A (PW cA S)) (hS : va_S A H0 H locs) {ki n : Nat} (ho : isA S a ki n) (h6 : 6 ≤ ki) (h20 : ki < 20) {i x : Int32} (hin : vp_in i n) (hdg : decode cc pc = .ok (.iastore, 1))
    (kk : ∀ (H1 : Heap) (locs1 : List Loc), va_P D vwCl (PW cA (pR S a i.toNatClampNeg x)) H1 → va_D A (PW cA (pR S a i.toNatClampNeg x)) → va_S A H0 H1 locs1 → W p l e R s m args below meth c H1 locs1 cells slots Q (F0 m (pc + 1) ls rest)) : W p l e R s m args below meth c H locs cells slots Q (F0 m pc ls (.int x :: .int i :: .ref a :: rest)) := by
  obtain ⟨q0, h0⟩ := pw_get (cA := cA) ho.1
  have h1 : (PW cA S)[q0]? = some (a, .inl (cA 0, gN S a, .inl (gR S a))) := by rw [h0, pcell_i ho.2.1 h6 h20]
  have hw : (PW cA S).set q0 (a, .inl (cA 0, gN S a, .inl (upd (gR S a) i.toNatClampNeg x))) = PW cA (pR S a i.toNatClampNeg x) := by
    refine pw_set hD ho.1 h0 ?_ ?_
    · rw [pcell_i (S := pR S a i.toNatClampNeg x) ho.2.1 h6 h20, show gR (pR S a i.toNatClampNeg x) a = upd (gR S a) i.toNatClampNeg x from u2_upd]
    · intro b hb
      exact pcell_ne (S' := pR S a i.toNatClampNeg x) rfl rfl rfl rfl (u2_row hb) rfl rfl
  refine va_iast hexec hb hK hP hD hS q0 0 h1 rfl (by rw [ho.2.2]; exact hin) hdg (fun H1 locs1 a1 a2 a3 => ?_)
  rw [hw] at a1 a2
  exact kk H1 locs1 a1 a2 a3
theorem kx_lald (hexec : p.tables.exec = Jvm.exec) (hb : c.code = cc) (hK : va_K D vwCl (ty6 cA) s) (hP : va_P D vwCl (PW cA S) H) {n : Nat} (ho : isA S a 20 n) {i : Int32} (hin : vp_in i n) (hdg : decode cc pc = .ok (.laload, 1))
    (kk : W p l e R s m args below meth c H locs cells slots Q (F0 m (pc + 1) ls (.long (gJ S a i.toNatClampNeg) :: rest))) : W p l e R s m args below meth c H locs cells slots Q (F0 m pc ls (.int i :: .ref a :: rest)) := by
  obtain ⟨q0, h0⟩ := pw_get (cA := cA) ho.1
  rw [pcell_j ho.2.1] at h0
  exact va_lald hexec hb hK hP q0 1 h0 rfl (by rw [ho.2.2]; exact hin) hdg kk
theorem kx_last (hexec : p.tables.exec = Jvm.exec) (hb : c.code = cc) (hK : va_K D vwCl (ty6 cA) s) (hP : va_P D vwCl (PW cA S) H) (hD : va_D A (PW cA S)) (hS : va_S A H0 H locs) {n : Nat} (ho : isA S a 20 n) {i : Int32} {x : Int64} (hin : vp_in i n) (hdg : decode cc pc = .ok (.lastore, 1))
    (kk : ∀ (H1 : Heap) (locs1 : List Loc), va_P D vwCl (PW cA (pJ S a i.toNatClampNeg x)) H1 → va_D A (PW cA (pJ S a i.toNatClampNeg x)) → va_S A H0 H1 locs1 → W p l e R s m args below meth c H1 locs1 cells slots Q (F0 m (pc + 1) ls rest)) : W p l e R s m args below meth c H locs cells slots Q (F0 m pc ls (.long x :: .int i :: .ref a :: rest)) := by
  obtain ⟨q0, h0⟩ := pw_get (cA := cA) ho.1
  have h1 : (PW cA S)[q0]? = some (a, .inl (cA 1, gN S a, .inr (.inl (gJ S a)))) := by rw [h0, pcell_j ho.2.1]
  have hw : (PW cA S).set q0 (a, .inl (cA 1, gN S a, .inr (.inl (vp_updL (gJ S a) i.toNatClampNeg x)))) = PW cA (pJ S a i.toNatClampNeg x) := by
    refine pw_set hD ho.1 h0 ?_ ?_
    · rw [pcell_j (S := pJ S a i.toNatClampNeg x) ho.2.1, show gJ (pJ S a i.toNatClampNeg x) a = vp_updL (gJ S a) i.toNatClampNeg x from u2_updL]
    · intro b hb
      exact pcell_ne (S' := pJ S a i.toNatClampNeg x) rfl rfl rfl rfl rfl (u2_row hb) rfl
  refine va_last hexec hb hK hP hD hS q0 1 h1 rfl (by rw [ho.2.2]; exact hin) hdg (fun H1 locs1 a1 a2 a3 => ?_)
  rw [hw] at a1 a2
  exact kk H1 locs1 a1 a2 a3
/-- rows of Rules (kind 21), of Switches (kind 22) -/
theorem kx_aldr (hexec : p.tables.exec = Jvm.exec) (hb : c.code = cc) (hK : va_K D vwCl (ty6 cA) s) (hP : va_P D vwCl (PW cA S) H) {n : Nat} (ho : isA S a 21 n) {i : Int32} (hin : vp_in i n) {r : Option Nat} (hr : gP S a i.toNatClampNeg = r) (hdg : decode cc pc = .ok (.aaload, 1))
    (kk : W p l e R s m args below meth c H locs cells slots Q (F0 m (pc + 1) ls (va_rf r :: rest))) : W p l e R s m args below meth c H locs cells slots Q (F0 m pc ls (.int i :: .ref a :: rest)) := by
  obtain ⟨q0, h0⟩ := pw_get (cA := cA) ho.1
  rw [pcell_r ho.2.1] at h0
  subst hr
  exact va_aldq hexec hb hK hP q0 4 h0 rfl (by rw [ho.2.2]; exact hin) hdg kk
theorem kx_alds (hexec : p.tables.exec = Jvm.exec) (hb : c.code = cc) (hK : va_K D vwCl (ty6 cA) s) (hP : va_P D vwCl (PW cA S) H) {n : Nat} (ho : isA S a 22 n) {i : Int32} (hin : vp_in i n) {r : Option Nat} (hr : gP S a i.toNatClampNeg = r) (hdg : decode cc pc = .ok (.aaload, 1))
    (kk : W p l e R s m args below meth c H locs cells slots Q (F0 m (pc + 1) ls (va_rf r :: rest))) : W p l e R s m args below meth c H locs cells slots Q (F0 m pc ls (.int i :: .ref a :: rest)) := by
  obtain ⟨q0, h0⟩ := pw_get (cA := cA) ho.1
  rw [pcell_s ho.2.1] at h0
  subst hr
  exact va_aldq hexec hb hK hP q0 5 h0 rfl (by rw [ho.2.2]; exact hin) hdg kk
theorem kx_alen (hexec : p.tables.exec = Jvm.exec) (hb : c.code = cc) (hK : va_K D vwCl (ty6 cA) s) (hP : va_P D vwCl (PW cA S) H) {ki n : Nat} (ho : isA S a ki n) (h6 : 6 ≤ ki) (h20 : ki < 23) {v : Int32} (hv : nI n = v) (hdg : decode cc pc = .ok (.arraylength, 1))
    (kk : W p l e R s m args below meth c H locs cells slots Q (F0 m (pc + 1) ls (.int v :: rest))) : W p l e R s m args below meth c H locs cells slots Q (F0 m pc ls (.ref a :: rest)) := by
  obtain ⟨q0, h0⟩ := pw_get (cA := cA) ho.1
  by_cases h1 : ki < 20
  · rw [pcell_i ho.2.1 h6 h1] at h0
    exact va_alen hexec hb hK hP q0 0 h0 rfl (by rw [← hv]; show Int32.ofNat (gN S a) = _; rw [ho.2.2]; rfl) hdg kk
  · by_cases h2 : ki = 20
    · subst h2
      rw [pcell_j ho.2.1] at h0
      exact va_alen hexec hb hK hP q0 1 h0 rfl (by rw [← hv]; show Int32.ofNat (gN S a) = _; rw [ho.2.2]; rfl) hdg kk
    · by_cases h3 : ki = 21
      · subst h3
        rw [pcell_r ho.2.1] at h0
        exact va_alen hexec hb hK hP q0 4 h0 rfl (by rw [← hv]; show Int32.ofNat (gN S a) = _; rw [ho.2.2]; rfl) hdg kk
      · have h4 : ki = 22 := by omega
        subst h4
        rw [pcell_s ho.2.1] at h0
        exact va_alen hexec hb hK hP q0 5 h0 rfl (by rw [← hv]; show Int32.ofNat (gN S a) = _; rw [ho.2.2]; rfl) hdg kk
theorem kx_astr (hexec : p.tables.exec = Jvm.exec) (hb : c.code = cc) (hK : va_K D vwCl (ty6 cA) s) (hP : va_P D vwCl (PW cA S) H) (hD : va_D A (PW cA S)) (hS : va_S A H0 H locs) {n v : Nat} (ho : isA S a 21 n) (hv : isO S v 2) {i : Int32} (hin : vp_in i n) (hdg : decode cc pc = .ok (.aastore, 1))
    (kk : ∀ (H1 : Heap) (locs1 : List Loc), va_P D vwCl (PW cA (pP S a i.toNatClampNeg (some v))) H1 → va_D A (PW cA (pP S a i.toNatClampNeg (some v))) → va_S A H0 H1 locs1 → W p l e R s m args below meth c H1 locs1 cells slots Q (F0 m (pc + 1) ls rest)) : W p l e R s m args below meth c H locs cells slots Q (F0 m pc ls (.ref v :: .int i :: .ref a :: rest)) := by
  obtain ⟨q0, h0⟩ := pw_get (cA := cA) ho.1
  obtain ⟨qk, h2⟩ := pw_get (cA := cA) hv.1
  rw [pcell_o hv.2 (by omega)] at h2
  have h1 : (PW cA S)[q0]? = some (a, .inl (cA 4, gN S a, .inr (.inr (.inr (.inr (gP S a)))))) := by rw [h0, pcell_r ho.2.1]
  have hw : (PW cA S).set q0 (a, .inl (cA 4, gN S a, .inr (.inr (.inr (.inr (va_up (gP S a) i.toNatClampNeg (some v))))))) = PW cA (pP S a i.toNatClampNeg (some v)) := by
    refine pw_set hD ho.1 h0 ?_ ?_
    · rw [pcell_r (S := pP S a i.toNatClampNeg (some v)) ho.2.1, show gP (pP S a i.toNatClampNeg (some v)) a = va_up (gP S a) i.toNatClampNeg (some v) from u2_updP]
    · intro b hb
      exact pcell_ne (S' := pP S a i.toNatClampNeg (some v)) rfl rfl rfl rfl rfl rfl (u2_row hb)
  refine va_astq hexec hb hK hP hD hS q0 4 qk 2 h1 rfl h2 (r := (RX2, TX2, 4)) rfl (by rw [ho.2.2]; exact hin) hdg (fun H1 locs1 a1 a2 a3 => ?_)
  rw [hw] at a1 a2
  exact kk H1 locs1 a1 a2 a3
theorem kx_astrN (hexec : p.tables.exec = Jvm.exec) (hb : c.code = cc) (hK : va_K D vwCl (ty6 cA) s) (hP : va_P D vwCl (PW cA S) H) (hD : va_D A (PW cA S)) (hS : va_S A H0 H locs) {n : Nat} (ho : isA S a 21 n) {i : Int32} (hin : vp_in i n) (hdg : decode cc pc = .ok (.aastore, 1))
    (kk : ∀ (H1 : Heap) (locs1 : List Loc), va_P D vwCl (PW cA (pP S a i.toNatClampNeg none)) H1 → va_D A (PW cA (pP S a i.toNatClampNeg none)) → va_S A H0 H1 locs1 → W p l e R s m args below meth c H1 locs1 cells slots Q (F0 m (pc + 1) ls rest)) : W p l e R s m args below meth c H locs cells slots Q (F0 m pc ls (.null :: .int i :: .ref a :: rest)) := by
  obtain ⟨q0, h0⟩ := pw_get (cA := cA) ho.1
  have h1 : (PW cA S)[q0]? = some (a, .inl (cA 4, gN S a, .inr (.inr (.inr (.inr (gP S a)))))) := by rw [h0, pcell_r ho.2.1]
  have hw : (PW cA S).set q0 (a, .inl (cA 4, gN S a, .inr (.inr (.inr (.inr (va_up (gP S a) i.toNatClampNeg none)))))) = PW cA (pP S a i.toNatClampNeg none) := by
    refine pw_set hD ho.1 h0 ?_ ?_
    · rw [pcell_r (S := pP S a i.toNatClampNeg none) ho.2.1, show gP (pP S a i.toNatClampNeg none) a = va_up (gP S a) i.toNatClampNeg none from u2_updP]
    · intro b hb
      exact pcell_ne (S' := pP S a i.toNatClampNeg none) rfl rfl rfl rfl rfl rfl (u2_row hb)
  refine va_astqN hexec hb hK hP hD hS q0 4 h1 (C := RX2) rfl (by rw [ho.2.2]; exact hin) hdg (fun H1 locs1 a1 a2 a3 => ?_)
  rw [hw] at a1 a2
  exact kk H1 locs1 a1 a2 a3
theorem kx_asts (hexec : p.tables.exec = Jvm.exec) (hb : c.code = cc) (hK : va_K D vwCl (ty6 cA) s) (hP : va_P D vwCl (PW cA S) H) (hD : va_D A (PW cA S)) (hS : va_S A H0 H locs) {n v : Nat} (ho : isA S a 22 n) (hv : isO S v 3) {i : Int32} (hin : vp_in i n) (hdg : decode cc pc = .ok (.aastore, 1))
    (kk : ∀ (H1 : Heap) (locs1 : List Loc), va_P D vwCl (PW cA (pP S a i.toNatClampNeg (some v))) H1 → va_D A (PW cA (pP S a i.toNatClampNeg (some v))) → va_S A H0 H1 locs1 → W p l e R s m args below meth c H1 locs1 cells slots Q (F0 m (pc + 1) ls rest)) : W p l e R s m args below meth c H locs cells slots Q (F0 m pc ls (.ref v :: .int i :: .ref a :: rest)) := by
  obtain ⟨q0, h0⟩ := pw_get (cA := cA) ho.1
  obtain ⟨qk, h2⟩ := pw_get (cA := cA) hv.1
  rw [pcell_o hv.2 (by omega)] at h2
  have h1 : (PW cA S)[q0]? = some (a, .inl (cA 5, gN S a, .inr (.inr (.inr (.inr (gP S a)))))) := by rw [h0, pcell_s ho.2.1]
  have hw : (PW cA S).set q0 (a, .inl (cA 5, gN S a, .inr (.inr (.inr (.inr (va_up (gP S a) i.toNatClampNeg (some v))))))) = PW cA (pP S a i.toNatClampNeg (some v)) := by
    refine pw_set hD ho.1 h0 ?_ ?_
    · rw [pcell_s (S := pP S a i.toNatClampNeg (some v)) ho.2.1, show gP (pP S a i.toNatClampNeg (some v)) a = va_up (gP S a) i.toNatClampNeg (some v) from u2_updP]
    · intro b hb
      exact pcell_ne (S' := pP S a i.toNatClampNeg (some v)) rfl rfl rfl rfl rfl rfl (u2_row hb)
  refine va_astq hexec hb hK hP hD hS q0 5 qk 3 h1 rfl h2 (r := (RX3, TX3, 18)) rfl (by rw [ho.2.2]; exact hin) hdg (fun H1 locs1 a1 a2 a3 => ?_)
  rw [hw] at a1 a2
  exact kk H1 locs1 a1 a2 a3
/-- a new object: all its numbers 0, its references null -/
theorem kx_new (hexec : p.tables.exec = Jvm.exec) (hb : c.code = cc) {own C : String} {T : u_T} {N ci index : Nat} {Ts : List Cond} (hts : ∀ w ∈ Ts, w.before args s = true) (hin : ∀ w ∈ u_ws C T N, w ∈ Ts) (ty : Nat → FieldType) (hty : ∀ k, k < N → parseFieldDescriptor (T k).2.2.1 = some (ty k)) (hown : s.vm.findClass own = some m.cls) (hcl : (Cond.classLink own index C).before args s = true) (hinst : (Cond.instantiable C N).before args s = true) (hini : (Cond.initialized C).before args s = true)
    (hK : va_K D vwCl (ty6 cA) s) (hP : va_P D vwCl (PW cA S) H) (hD : va_D A (PW cA S)) (hS : va_S A H0 H locs) (hA : ∀ q, H0.size ≤ q → A q) (hci : ci < 6) (hc : vwCl[ci]? = some (C, T, N)) (hnf : nf ci = N) (hfs : ∀ j, j < N → defaultValue (ty j) = if isR ci j = true then .null else .int 0) (hcells : cells + 1 ≤ R.cells) (hslots : slots + N ≤ R.slots) (hdg : decode cc pc = .ok (.new index, 3))
    (kk : ∀ (q : Nat) (H1 : Heap), q ∉ gL S → va_P D vwCl (PW cA (pW S q ci 0)) H1 → va_D A (PW cA (pW S q ci 0)) → va_S A H0 H1 locs →
      W p l e R s m args below meth c H1 locs (cells + 1) (slots + N) Q (F0 m (pc + 3) ls (.ref q :: rest))) : W p l e R s m args below meth c H locs cells slots Q (F0 m pc ls rest) := by
  subst hnf
  refine va_new hexec hb hts hin ty hty hown hcl hinst hini hK hP hD hS hA hc (fs := (List.range (nf ci)).map (fun j => if isR ci j = true then Value.null else .int 0)) ?_ hcells hslots hdg (fun q H1 a1 a2 a3 => ?_)
  · intro j hj
    rw [hfs j hj]
    simp [vp_V, hj]
  · have hg : pcell cA (pW S q ci 0) q = .inr (ci, (List.range (nf ci)).map (fun j => if isR ci j = true then Value.null else .int 0)) := by
      rw [pcell_o (S := pW S q ci 0) (ci := ci) up_s hci]
      refine congrArg (fun z => Sum.inr (ci, z)) ?_
      refine List.map_congr_left fun j _ => ?_
      show (if isR ci j = true then va_rf (u1 (gQ S) q (fun _ => none) q j) else Value.int (u1 (gI S) q (fun _ => 0) q j)) = _
      rw [u1_s, u1_s]; rfl
    obtain ⟨h1, h2⟩ := pw_new (g := pcell cA (pW S q ci 0)) a2 hg (fun b hb => pcell_ne (S' := pW S q ci 0) (up_ne hb) (up_ne hb) (u1_row hb) (u1_row hb) (u1_row hb) (u1_row hb) (u1_row hb))
    rw [h2] at a1 a2
    exact kk q H1 h1 a1 a2 a3
theorem kx_arrI {cI cJ : ClassId} {ty : FieldType} (h1 : va_RA s cI ty) (h2 : va_RA s cJ ty) : cI = cJ := by
  cases ty with
  | object C =>
    obtain ⟨_, _, _, _, _, e1⟩ := h1
    obtain ⟨_, _, _, _, _, e2⟩ := h2
    exact Option.some.inj (e1.symm.trans e2)
  | _ => exact Option.some.inj ((show _ = some cI from h1).symm.trans (show _ = some cJ from h2))
theorem kx_newi (hexec : p.tables.exec = Jvm.exec) (hb : c.code = cc) (harr : (Cond.arrayClass .int).before args s = true) (hK : va_K D vwCl (ty6 cA) s) (hP : va_P D vwCl (PW cA S) H) (hD : va_D A (PW cA S)) (hS : va_S A H0 H locs) (hA : ∀ q, H0.size ≤ q → A q)
    (ki : Nat) (h6 : 6 ≤ ki) (h20 : ki < 20) {n : Int32} {N' : Nat} (hn : ¬ n < 0) (hN : n.toNatClampNeg = N') (hbytes : N' * 4 ≤ 536870912) (hcells : cells + 1 ≤ R.cells) (hslots : slots + N' ≤ R.slots) (hdg : decode cc pc = .ok (.newarray .int, 2))
    (kk : ∀ (q : Nat) (H1 : Heap), q ∉ gL S → va_P D vwCl (PW cA (pW S q ki N')) H1 → va_D A (PW cA (pW S q ki N')) → va_S A H0 H1 locs →
      W p l e R s m args below meth c H1 locs (cells + 1) (slots + N') Q (F0 m (pc + 2) ls (.ref q :: rest))) : W p l e R s m args below meth c H locs cells slots Q (F0 m pc ls (.int n :: rest)) := by
  refine va_newa (atype := .int) (ty := .int) hexec hb harr rfl hK hP hD hS hA (a0 := (N', .inl (fun _ => 0))) (fun _ => rfl) hn hN hbytes hcells hslots hdg (fun q c1 H1 b0 a1 a2 a3 => ?_)
  have e : c1 = cA 0 := kx_arrI (b0.2 8 _ rfl).2 (hK.2 0 _ rfl).2
  subst e
  have hg : pcell cA (pW S q ki N') q = .inl (cA 0, N', .inl (fun _ => 0)) := by
    rw [pcell_i (S := pW S q ki N') (ci := ki) up_s h6 h20]
    rw [show gN (pW S q ki N') q = N' from up_s]
    rw [show gR (pW S q ki N') q = fun _ => 0 from by funext j; exact (show u1 (gR S) q (fun _ => 0) q j = 0 from u1_s)]
  obtain ⟨h1, h2⟩ := pw_new (g := pcell cA (pW S q ki N')) a2 hg (fun b hb => pcell_ne (S' := pW S q ki N') (up_ne hb) (up_ne hb) (u1_row hb) (u1_row hb) (u1_row hb) (u1_row hb) (u1_row hb))
  rw [h2] at a1 a2
  exact kk q H1 h1 a1 a2 a3
theorem kx_newj (hexec : p.tables.exec = Jvm.exec) (hb : c.code = cc) (harr : (Cond.arrayClass .long).before args s = true) (hK : va_K D vwCl (ty6 cA) s) (hP : va_P D vwCl (PW cA S) H) (hD : va_D A (PW cA S)) (hS : va_S A H0 H locs) (hA : ∀ q, H0.size ≤ q → A q)
    {n : Int32} {N' : Nat} (hn : ¬ n < 0) (hN : n.toNatClampNeg = N') (hbytes : N' * 8 ≤ 536870912) (hcells : cells + 1 ≤ R.cells) (hslots : slots + N' ≤ R.slots) (hdg : decode cc pc = .ok (.newarray .long, 2))
    (kk : ∀ (q : Nat) (H1 : Heap), q ∉ gL S → va_P D vwCl (PW cA (pW S q 20 N')) H1 → va_D A (PW cA (pW S q 20 N')) → va_S A H0 H1 locs →
      W p l e R s m args below meth c H1 locs (cells + 1) (slots + N') Q (F0 m (pc + 2) ls (.ref q :: rest))) : W p l e R s m args below meth c H locs cells slots Q (F0 m pc ls (.int n :: rest)) := by
  refine va_newa (atype := .long) (ty := .long) hexec hb harr rfl hK hP hD hS hA (a0 := (N', .inr (.inl (fun _ => 0)))) (fun _ => rfl) hn hN hbytes hcells hslots hdg (fun q c1 H1 b0 a1 a2 a3 => ?_)
  have e : c1 = cA 1 := kx_arrI (b0.2 8 _ rfl).2 (hK.2 1 _ rfl).2
  subst e
  have hg : pcell cA (pW S q 20 N') q = .inl (cA 1, N', .inr (.inl (fun _ => 0))) := by
    rw [pcell_j (S := pW S q 20 N') up_s]
    rw [show gN (pW S q 20 N') q = N' from up_s]
    rw [show gJ (pW S q 20 N') q = fun _ => 0 from by funext j; exact (show u1 (gJ S) q (fun _ => 0) q j = 0 from u1_s)]
  obtain ⟨h1, h2⟩ := pw_new (g := pcell cA (pW S q 20 N')) a2 hg (fun b hb => pcell_ne (S' := pW S q 20 N') (up_ne hb) (up_ne hb) (u1_row hb) (u1_row hb) (u1_row hb) (u1_row hb) (u1_row hb))
  rw [h2] at a1 a2
  exact kk q H1 h1 a1 a2 a3
theorem kx_newr (hexec : p.tables.exec = Jvm.exec) (hb : c.code = cc) {own : String} {index : Nat} (hown : s.vm.findClass own = some m.cls) (hclink : (Cond.classLink own index RX2).before args s = true) (hover : va_AO RX2 s) (hK : va_K D vwCl (ty6 cA) s) (hP : va_P D vwCl (PW cA S) H) (hD : va_D A (PW cA S)) (hS : va_S A H0 H locs) (hA : ∀ q, H0.size ≤ q → A q)
    {n : Int32} {N' : Nat} (hn : ¬ n < 0) (hN : n.toNatClampNeg = N') (hbytes : N' * 4 ≤ 536870912) (hcells : cells + 1 ≤ R.cells) (hslots : slots + N' ≤ R.slots) (hdg : decode cc pc = .ok (.anewarray index, 3))
    (kk : ∀ (q : Nat) (H1 : Heap), q ∉ gL S → va_P D vwCl (PW cA (pW S q 21 N')) H1 → va_D A (PW cA (pW S q 21 N')) → va_S A H0 H1 locs →
      W p l e R s m args below meth c H1 locs (cells + 1) (slots + N') Q (F0 m (pc + 3) ls (.ref q :: rest))) : W p l e R s m args below meth c H locs cells slots Q (F0 m pc ls (.int n :: rest)) := by
  refine va_newq (C := RX2) hexec hb hown hclink hover hK hP hD hS hA hn hN hbytes hcells hslots hdg (fun q c1 H1 b0 a1 a2 a3 => ?_)
  have e : c1 = cA 4 := kx_arrI (b0.2 8 _ rfl).2 (hK.2 4 _ rfl).2
  subst e
  have hg : pcell cA (pW S q 21 N') q = .inl (cA 4, N', .inr (.inr (.inr (.inr (fun _ => none))))) := by
    rw [pcell_r (S := pW S q 21 N') up_s]
    rw [show gN (pW S q 21 N') q = N' from up_s]
    rw [show gP (pW S q 21 N') q = fun _ => none from by funext j; exact (show u1 (gP S) q (fun _ => none) q j = none from u1_s)]
  obtain ⟨h1, h2⟩ := pw_new (g := pcell cA (pW S q 21 N')) a2 hg (fun b hb => pcell_ne (S' := pW S q 21 N') (up_ne hb) (up_ne hb) (u1_row hb) (u1_row hb) (u1_row hb) (u1_row hb) (u1_row hb))
  rw [h2] at a1 a2
  exact kk q H1 h1 a1 a2 a3
theorem kx_news (hexec : p.tables.exec = Jvm.exec) (hb : c.code = cc) {own : String} {index : Nat} (hown : s.vm.findClass own = some m.cls) (hclink : (Cond.classLink own index RX3).before args s = true) (hover : va_AO RX3 s) (hK : va_K D vwCl (ty6 cA) s) (hP : va_P D vwCl (PW cA S) H) (hD : va_D A (PW cA S)) (hS : va_S A H0 H locs) (hA : ∀ q, H0.size ≤ q → A q)
    {n : Int32} {N' : Nat} (hn : ¬ n < 0) (hN : n.toNatClampNeg = N') (hbytes : N' * 4 ≤ 536870912) (hcells : cells + 1 ≤ R.cells) (hslots : slots + N' ≤ R.slots) (hdg : decode cc pc = .ok (.anewarray index, 3))
    (kk : ∀ (q : Nat) (H1 : Heap), q ∉ gL S → va_P D vwCl (PW cA (pW S q 22 N')) H1 → va_D A (PW cA (pW S q 22 N')) → va_S A H0 H1 locs →
      W p l e R s m args below meth c H1 locs (cells + 1) (slots + N') Q (F0 m (pc + 3) ls (.ref q :: rest))) : W p l e R s m args below meth c H locs cells slots Q (F0 m pc ls (.int n :: rest)) := by
  refine va_newq (C := RX3) hexec hb hown hclink hover hK hP hD hS hA hn hN hbytes hcells hslots hdg (fun q c1 H1 b0 a1 a2 a3 => ?_)
  have e : c1 = cA 5 := kx_arrI (b0.2 8 _ rfl).2 (hK.2 5 _ rfl).2
  subst e
  have hg : pcell cA (pW S q 22 N') q = .inl (cA 5, N', .inr (.inr (.inr (.inr (fun _ => none))))) := by
    rw [pcell_s (S := pW S q 22 N') up_s]
    rw [show gN (pW S q 22 N') q = N' from up_s]
    rw [show gP (pW S q 22 N') q = fun _ => none from by funext j; exact (show u1 (gP S) q (fun _ => none) q j = none from u1_s)]
  obtain ⟨h1, h2⟩ := pw_new (g := pcell cA (pW S q 22 N')) a2 hg (fun b hb => pcell_ne (S' := pW S q 22 N') (up_ne hb) (up_ne hb) (u1_row hb) (u1_row hb) (u1_row hb) (u1_row hb) (u1_row hb))
  rw [h2] at a1 a2
  exact kk q H1 h1 a1 a2 a3
theorem kx_getiN (hexec : p.tables.exec = Jvm.exec) (hb : c.code = cc) {own C : String} {T : u_T} {N ci index : Nat} {Ts : List Cond} (hts : ∀ w ∈ Ts, w.before args s = true) (hin : ∀ w ∈ u_ws C T N, w ∈ Ts) (hown : s.vm.findClass own = some m.cls) (hK : va_K D vwCl (ty6 cA) s) (hP : va_P D vwCl (PW cA S) H) (ho : isO S a ci) (hci : ci < 6) (hc : vwCl[ci]? = some (C, T, N)) (k : Nat) (hk : k < N) (hk2 : k < nf ci) (hi : isR ci k = false) (hlink : (Cond.fieldLinkNest own index (T k).1 (T k).2.1 (T k).2.2.1 RX5).before args s = true) (hdg : decode cc pc = .ok (.getfield index, 3))
    (kk : W p l e R s m args below meth c H locs cells slots Q (F0 m (pc + 3) ls (.int (gI S a k) :: rest))) : W p l e R s m args below meth c H locs cells slots Q (F0 m pc ls (.ref a :: rest)) := by
  obtain ⟨q0, h0⟩ := pw_get (cA := cA) ho.1
  rw [pcell_o ho.2 hci] at h0
  refine va_getN hexec hb hts hin hown hK hP q0 h0 hc k hk hlink (fun _ h9 => h9) (v := .int (gI S a k)) ?_ hdg kk
  simp [hk2, pv, hi]
theorem kx_getrN (hexec : p.tables.exec = Jvm.exec) (hb : c.code = cc) {own C : String} {T : u_T} {N ci index : Nat} {Ts : List Cond} (hts : ∀ w ∈ Ts, w.before args s = true) (hin : ∀ w ∈ u_ws C T N, w ∈ Ts) (hown : s.vm.findClass own = some m.cls) (hK : va_K D vwCl (ty6 cA) s) (hP : va_P D vwCl (PW cA S) H) (ho : isO S a ci) (hci : ci < 6) (hc : vwCl[ci]? = some (C, T, N)) (k : Nat) (hk : k < N) (hk2 : k < nf ci) (hi : isR ci k = true) {r : Option Nat} (hr : gQ S a k = r) (hlink : (Cond.fieldLinkNest own index (T k).1 (T k).2.1 (T k).2.2.1 RX5).before args s = true) (hdg : decode cc pc = .ok (.getfield index, 3))
    (kk : W p l e R s m args below meth c H locs cells slots Q (F0 m (pc + 3) ls (va_rf r :: rest))) : W p l e R s m args below meth c H locs cells slots Q (F0 m pc ls (.ref a :: rest)) := by
  obtain ⟨q0, h0⟩ := pw_get (cA := cA) ho.1
  rw [pcell_o ho.2 hci] at h0
  refine va_getN hexec hb hts hin hown hK hP q0 h0 hc k hk hlink (fun _ h9 => h9) (v := va_rf r) ?_ hdg kk
  simp [hk2, pv, hi, ← hr]
theorem kx_putiN (hexec : p.tables.exec = Jvm.exec) (hb : c.code = cc) {own C : String} {T : u_T} {N ci index : Nat} {Ts : List Cond} (hts : ∀ w ∈ Ts, w.before args s = true) (hin : ∀ w ∈ u_ws C T N, w ∈ Ts) (ty0 : Nat → FieldType) (hty : ∀ k, k < N → parseFieldDescriptor (T k).2.2.1 = some (ty0 k)) (hnm : ∀ a, a < N → ∀ b, b < N → a ≠ b → (T a).2.1 ≠ (T b).2.1) (hown : s.vm.findClass own = some m.cls) (hK : va_K D vwCl (ty6 cA) s) (hP : va_P D vwCl (PW cA S) H) (hD : va_D A (PW cA S)) (hS : va_S A H0 H locs) (ho : isO S a ci) (hci : ci < 6) (hc : vwCl[ci]? = some (C, T, N)) (k : Nat) (hk : k < N) (hk2 : k < nf ci) (hi : isR ci k = false) (hlink : (Cond.fieldLinkNest own index (T k).1 (T k).2.1 (T k).2.2.1 RX5).before args s = true) (hfin : (T k).2.2.2 = false) {ty : FieldType} {x : Int32} (hd : parseFieldDescriptor (T k).2.2.1 = some ty) (hn : narrow ty (.int x) = .int x) (hfit : fits ty (.int x) = true) (hdg : decode cc pc = .ok (.putfield index, 3))
    (kk : ∀ (H1 : Heap) (locs1 : List Loc), va_P D vwCl (PW cA (pI S a k x)) H1 → va_D A (PW cA (pI S a k x)) → va_S A H0 H1 locs1 → W p l e R s m args below meth c H1 locs1 cells slots Q (F0 m (pc + 3) ls rest)) : W p l e R s m args below meth c H locs cells slots Q (F0 m pc ls (.int x :: .ref a :: rest)) := by
  obtain ⟨q0, h0⟩ := pw_get (cA := cA) ho.1
  have h1 : (PW cA S)[q0]? = some (a, .inr (ci, (List.range (nf ci)).map (pv S ci a))) := by rw [h0, pcell_o ho.2 hci]
  have hw : (PW cA S).set q0 (a, .inr (ci, ((List.range (nf ci)).map (pv S ci a)).set k (.int x))) = PW cA (pI S a k x) := by
    refine pw_set hD ho.1 h0 ?_ ?_
    · rw [pcell_o (S := pI S a k x) ho.2 hci]
      rw [map_set (g' := pv (pI S a k x) ci a)]
      · intro _; show (if isR ci k = true then va_rf (gQ S a k) else Value.int (u2 (gI S) a k x a k)) = _; rw [hi, u2_s]; rfl
      · intro j hj
        unfold pv
        rw [show gI (pI S a k x) a j = gI S a j from u2_k hj]
    · intro b hb
      exact pcell_ne (S' := pI S a k x) rfl rfl (u2_row hb) rfl rfl rfl rfl
  refine va_putN hexec hb hts hin ty0 hty hnm hown hK hP hD hS q0 h1 hc k hk hlink (fun _ h9 => h9) hfin hd hn hfit (by simp [hk2]) hdg (fun H1 locs1 a1 a2 a3 => ?_)
  rw [hw] at a1 a2
  exact kk H1 locs1 a1 a2 a3
theorem kx_putrN (hexec : p.tables.exec = Jvm.exec) (hb : c.code = cc) {own C : String} {T : u_T} {N ci index : Nat} {Ts : List Cond} (hts : ∀ w ∈ Ts, w.before args s = true) (hin : ∀ w ∈ u_ws C T N, w ∈ Ts) (ty0 : Nat → FieldType) (hty : ∀ k, k < N → parseFieldDescriptor (T k).2.2.1 = some (ty0 k)) (hnm : ∀ a, a < N → ∀ b, b < N → a ≠ b → (T a).2.1 ≠ (T b).2.1) (hown : s.vm.findClass own = some m.cls) (hK : va_K D vwCl (ty6 cA) s) (hP : va_P D vwCl (PW cA S) H) (hD : va_D A (PW cA S)) (hS : va_S A H0 H locs) (ho : isO S a ci) (hci : ci < 6) (hc : vwCl[ci]? = some (C, T, N)) (k : Nat) (hk : k < N) (hk2 : k < nf ci) (hi : isR ci k = true) (hlink : (Cond.fieldLinkNest own index (T k).1 (T k).2.1 (T k).2.2.1 RX5).before args s = true) (hfin : (T k).2.2.2 = false) {ty : FieldType} {r : Option Nat} (hd : parseFieldDescriptor (T k).2.2.1 = some ty) (hn : narrow ty (va_rf r) = va_rf r) (hfit : fits ty (va_rf r) = true) (hdg : decode cc pc = .ok (.putfield index, 3))
    (kk : ∀ (H1 : Heap) (locs1 : List Loc), va_P D vwCl (PW cA (pQ S a k r)) H1 → va_D A (PW cA (pQ S a k r)) → va_S A H0 H1 locs1 → W p l e R s m args below meth c H1 locs1 cells slots Q (F0 m (pc + 3) ls rest)) : W p l e R s m args below meth c H locs cells slots Q (F0 m pc ls (va_rf r :: .ref a :: rest)) := by
  obtain ⟨q0, h0⟩ := pw_get (cA := cA) ho.1
  have h1 : (PW cA S)[q0]? = some (a, .inr (ci, (List.range (nf ci)).map (pv S ci a))) := by rw [h0, pcell_o ho.2 hci]
  have hw : (PW cA S).set q0 (a, .inr (ci, ((List.range (nf ci)).map (pv S ci a)).set k (va_rf r))) = PW cA (pQ S a k r) := by
    refine pw_set hD ho.1 h0 ?_ ?_
    · rw [pcell_o (S := pQ S a k r) ho.2 hci]
      rw [map_set (g' := pv (pQ S a k r) ci a)]
      · intro _; show (if isR ci k = true then va_rf (u2 (gQ S) a k r a k) else Value.int (gI S a k)) = _; rw [hi, u2_s]; rfl
      · intro j hj
        unfold pv
        rw [show gQ (pQ S a k r) a j = gQ S a j from u2_k hj]
    · intro b hb
      exact pcell_ne (S' := pQ S a k r) rfl rfl rfl (u2_row hb) rfl rfl rfl
  refine va_putN hexec hb hts hin ty0 hty hnm hown hK hP hD hS q0 h1 hc k hk hlink (fun _ h9 => h9) hfin hd hn hfit (by simp [hk2]) hdg (fun H1 locs1 a1 a2 a3 => ?_)
  rw [hw] at a1 a2
  exact kk H1 locs1 a1 a2 a3
theorem kx_getiv (hexec : p.tables.exec = Jvm.exec) (hb : c.code = cc) {own C : String} {T : u_T} {N ci index : Nat} {Ts : List Cond} (hts : ∀ w ∈ Ts, w.before args s = true) (hin : ∀ w ∈ u_ws C T N, w ∈ Ts) (hown : s.vm.findClass own = some m.cls) (hK : va_K D vwCl (ty6 cA) s) (hP : va_P D vwCl (PW cA S) H) (ho : isO S a ci) (hci : ci < 6) (hc : vwCl[ci]? = some (C, T, N)) (k : Nat) (hk : k < N) (hk2 : k < nf ci) (hi : isR ci k = false) (hlink : (Cond.fieldLink own index (T k).1 (T k).2.1 (T k).2.2.1).before args s = true) {x : Int32} (hx9 : gI S a k = x) (hdg : decode cc pc = .ok (.getfield index, 3))
    (kk : W p l e R s m args below meth c H locs cells slots Q (F0 m (pc + 3) ls (.int x :: rest))) : W p l e R s m args below meth c H locs cells slots Q (F0 m pc ls (.ref a :: rest)) := by
  subst hx9
  exact kx_geti hexec hb hts hin hown hK hP ho hci hc k hk hk2 hi hlink hdg kk
theorem kx_getiNv (hexec : p.tables.exec = Jvm.exec) (hb : c.code = cc) {own C : String} {T : u_T} {N ci index : Nat} {Ts : List Cond} (hts : ∀ w ∈ Ts, w.before args s = true) (hin : ∀ w ∈ u_ws C T N, w ∈ Ts) (hown : s.vm.findClass own = some m.cls) (hK : va_K D vwCl (ty6 cA) s) (hP : va_P D vwCl (PW cA S) H) (ho : isO S a ci) (hci : ci < 6) (hc : vwCl[ci]? = some (C, T, N)) (k : Nat) (hk : k < N) (hk2 : k < nf ci) (hi : isR ci k = false) (hlink : (Cond.fieldLinkNest own index (T k).1 (T k).2.1 (T k).2.2.1 RX5).before args s = true) {x : Int32} (hx9 : gI S a k = x) (hdg : decode cc pc = .ok (.getfield index, 3))
    (kk : W p l e R s m args below meth c H locs cells slots Q (F0 m (pc + 3) ls (.int x :: rest))) : W p l e R s m args below meth c H locs cells slots Q (F0 m pc ls (.ref a :: rest)) := by
  subst hx9
  exact kx_getiN hexec hb hts hin hown hK hP ho hci hc k hk hk2 hi hlink hdg kk
theorem kx_gets (hexec : p.tables.exec = Jvm.exec) (hb : c.code = cc) {own C : String} {T : u_T} {N ci index : Nat} {Ts : List Cond} (hts : ∀ w ∈ Ts, w.before args s = true) (hin : ∀ w ∈ u_ws C T N, w ∈ Ts) (hown : s.vm.findClass own = some m.cls) (hK : va_K D vwCl (ty6 cA) s) (hP : va_P D vwCl (PW cA S) H) (ho : isO S a ci) (hci : ci < 6) (hc : vwCl[ci]? = some (C, T, N)) (k : Nat) (hk : k < N) (hk2 : k < nf ci) (hi : isR ci k = true) {r : Nat} (hr : gQ S a k = some r) (hlink : (Cond.fieldLink own index (T k).1 (T k).2.1 (T k).2.2.1).before args s = true) (hdg : decode cc pc = .ok (.getfield index, 3))
    (kk : W p l e R s m args below meth c H locs cells slots Q (F0 m (pc + 3) ls (.ref r :: rest))) : W p l e R s m args below meth c H locs cells slots Q (F0 m pc ls (.ref a :: rest)) := kx_getr hexec hb hts hin hown hK hP ho hci hc k hk hk2 hi hr hlink hdg kk
theorem kx_getz (hexec : p.tables.exec = Jvm.exec) (hb : c.code = cc) {own C : String} {T : u_T} {N ci index : Nat} {Ts : List Cond} (hts : ∀ w ∈ Ts, w.before args s = true) (hin : ∀ w ∈ u_ws C T N, w ∈ Ts) (hown : s.vm.findClass own = some m.cls) (hK : va_K D vwCl (ty6 cA) s) (hP : va_P D vwCl (PW cA S) H) (ho : isO S a ci) (hci : ci < 6) (hc : vwCl[ci]? = some (C, T, N)) (k : Nat) (hk : k < N) (hk2 : k < nf ci) (hi : isR ci k = true) (hr : gQ S a k = none) (hlink : (Cond.fieldLink own index (T k).1 (T k).2.1 (T k).2.2.1).before args s = true) (hdg : decode cc pc = .ok (.getfield index, 3))
    (kk : W p l e R s m args below meth c H locs cells slots Q (F0 m (pc + 3) ls (.null :: rest))) : W p l e R s m args below meth c H locs cells slots Q (F0 m pc ls (.ref a :: rest)) := kx_getr hexec hb hts hin hown hK hP ho hci hc k hk hk2 hi hr hlink hdg kk
theorem kx_getsN (hexec : p.tables.exec = Jvm.exec) (hb : c.code = cc) {own C : String} {T : u_T} {N ci index : Nat} {Ts : List Cond} (hts : ∀ w ∈ Ts, w.before args s = true) (hin : ∀ w ∈ u_ws C T N, w ∈ Ts) (hown : s.vm.findClass own = some m.cls) (hK : va_K D vwCl (ty6 cA) s) (hP : va_P D vwCl (PW cA S) H) (ho : isO S a ci) (hci : ci < 6) (hc : vwCl[ci]? = some (C, T, N)) (k : Nat) (hk : k < N) (hk2 : k < nf ci) (hi : isR ci k = true) {r : Nat} (hr : gQ S a k = some r) (hlink : (Cond.fieldLinkNest own index (T k).1 (T k).2.1 (T k).2.2.1 RX5).before args s = true) (hdg : decode cc pc = .ok (.getfield index, 3))
    (kk : W p l e R s m args below meth c H locs cells slots Q (F0 m (pc + 3) ls (.ref r :: rest))) : W p l e R s m args below meth c H locs cells slots Q (F0 m pc ls (.ref a :: rest)) := kx_getrN hexec hb hts hin hown hK hP ho hci hc k hk hk2 hi hr hlink hdg kk
theorem kx_getzN (hexec : p.tables.exec = Jvm.exec) (hb : c.code = cc) {own C : String} {T : u_T} {N ci index : Nat} {Ts : List Cond} (hts : ∀ w ∈ Ts, w.before args s = true) (hin : ∀ w ∈ u_ws C T N, w ∈ Ts) (hown : s.vm.findClass own = some m.cls) (hK : va_K D vwCl (ty6 cA) s) (hP : va_P D vwCl (PW cA S) H) (ho : isO S a ci) (hci : ci < 6) (hc : vwCl[ci]? = some (C, T, N)) (k : Nat) (hk : k < N) (hk2 : k < nf ci) (hi : isR ci k = true) (hr : gQ S a k = none) (hlink : (Cond.fieldLinkNest own index (T k).1 (T k).2.1 (T k).2.2.1 RX5).before args s = true) (hdg : decode cc pc = .ok (.getfield index, 3))
    (kk : W p l e R s m args below meth c H locs cells slots Q (F0 m (pc + 3) ls (.null :: rest))) : W p l e R s m args below meth c H locs cells slots Q (F0 m pc ls (.ref a :: rest)) := kx_getrN hexec hb hts hin hown hK hP ho hci hc k hk hk2 hi hr hlink hdg kk
end KX
end
section
/-! rows of rows: loads, stores, new ones -/
section VRB
variable {p : Program} {l : Launch} {e : Env} {R : Room} {s : State} {m : MethodId} {args : Array Value} {below : List Frame} {meth : Method} {c : Code} {H : Heap} {locs : List Loc} {cells slots : Nat} {Q : State → Prop}
variable {cc : ByteArray} {pc : Nat} {ls : Array Slot} {rest : List Value} {D : va_G} {cl : List vw_C} {A : Nat → Prop} {a : Nat} {tys : List (ClassId × FieldType)} {ws : va_W} {H0 : Heap}
theorem vm_cell (cB : ClassId) (x : vp_A) : (vp_cell cB x).cls = cB ∧ (vp_cell cB x).vm = .none := by
  obtain ⟨n, x⟩ := x
  rcases x with f | f | f | f | f <;> exact ⟨rfl, rfl⟩
theorem va_alda (hexec : p.tables.exec = Jvm.exec) (hb : c.code = cc) (hK : va_K D cl tys s) (hP : va_P D cl ws H) (q0 t0 : Nat) {cA : ClassId} {T0 : FieldType} {n : Nat} {f : Nat → Option Nat} (ha : ws[q0]? = some (a, .inl (cA, n, .inr (.inr (.inr (.inr f)))))) (ht : tys[t0]? = some (cA, .array T0)) {i : Int32} (hin : vp_in i n) (hdg : decode cc pc = .ok (.aaload, 1))
    (kk : W p l e R s m args below meth c H locs cells slots Q (F0 m (pc + 1) ls (va_rf (f i.toNatClampNeg) :: rest))) : W p l e R s m args below meth c H locs cells slots Q (F0 m pc ls (.int i :: .ref a :: rest)) := by
  have hlt : i.toNatClampNeg < n := Nat.not_le.mp fun q => hin (Or.inr q)
  exact W.aald (v := va_rf (f i.toNatClampNeg)) (ty := .array T0) hexec hb (hP q0 _ ha) ((hK.2 t0 _ ht).1 n (fun j => va_rf (f j))) rfl (fun q => by cases q) (by show ¬ (i < 0 ∨ (arrV _ _ _).slots.size ≤ _); rw [arrV_size]; exact hin) (by show (arrV _ _ _).slots[_]? = _; rw [arrV_read _ _ hlt]) rfl rfl hdg kk
/-- the class cA is that of rows whose places are rows of the class cB -/
def va_RR (U : State) (cA cB : ClassId) (T0 : FieldType) : Prop := ∃ (kA kB : Class), U.vm.classes[cA]? = some kA ∧ kA.kind = .array cB (.array T0) ∧ U.vm.classes[cB]? = some kB
theorem va_RR.moved {u U : State} (hvm : u.vm.Alike U.vm) {cA cB : ClassId} {T0 : FieldType} (h : va_RR u cA cB T0) : va_RR U cA cB T0 := by
  obtain ⟨kA, kB, h1, h2, h3⟩ := h
  obtain ⟨k', hk', he⟩ := hvm.2.2 _ _ h1
  obtain ⟨k2, hk2, -⟩ := hvm.2.2 _ _ h3
  exact ⟨k', k2, hk', by rw [he]; exact h2, hk2⟩
theorem va_asta (hexec : p.tables.exec = Jvm.exec) (hb : c.code = cc) (hP : va_P D cl ws H) (hD : va_D A ws) (hS : va_S A H0 H locs) (q0 qk : Nat) {cA cB : ClassId} {T0 : FieldType} {n v : Nat} {x : vp_A} {f : Nat → Option Nat} (ha : ws[q0]? = some (a, .inl (cA, n, .inr (.inr (.inr (.inr f)))))) (hR : va_RR s cA cB T0) (hv : ws[qk]? = some (v, .inl (cB, x))) {i : Int32} (hin : vp_in i n) (hdg : decode cc pc = .ok (.aastore, 1))
    (kk : ∀ (H1 : Heap) (locs1 : List Loc), va_P D cl (ws.set q0 (a, .inl (cA, n, .inr (.inr (.inr (.inr (va_up f i.toNatClampNeg (some v)))))))) H1 → va_D A (ws.set q0 (a, .inl (cA, n, .inr (.inr (.inr (.inr (va_up f i.toNatClampNeg (some v)))))))) → va_S A H0 H1 locs1 → W p l e R s m args below meth c H1 locs1 cells slots Q (F0 m (pc + 1) ls rest)) : W p l e R s m args below meth c H locs cells slots Q (F0 m pc ls (.ref v :: .int i :: .ref a :: rest)) := by
  have hlt : i.toNatClampNeg < n := Nat.not_le.mp fun q => hin (Or.inr q)
  have h0 : ¬ i < 0 := fun q => hin (Or.inl q)
  obtain ⟨kA, kB, k1, k2, k3⟩ := hR
  obtain ⟨v1, v2⟩ := vm_cell cB x
  have g1 : H[v]? = some (vp_cell cB x) := hP qk _ hv
  refine W.aast (k := kA) (kv := kB) (kcomp := kB) (comp := cB) (t := .array T0) hexec hb (hP q0 _ ha) (fun q h => by cases h) (fun h => by cases h) k1 k2 rfl k3 ⟨h0, by show _ < (arrV _ _ _).slots.size; rw [arrV_size]; exact hlt⟩ g1 (fun q h => by rw [v2] at h; cases h) (by rw [v1]; exact k3) (by rw [v1]; show (cB == cB || _) = true; rw [beq_self_eq_true]; rfl) rfl rfl hdg fun H1 e z oq => ?_
  refine kk H1 _ (hP.set hD ha ?_ oq) (hD.set ha) (hS.put z oq (hD.2 q0 _ ha))
  show H1[a]? = some (vp_cell _ _)
  rw [e]
  rw [vp_cell_q, vp_cell_q, arrV_store]
  congr 2
  funext q
  by_cases hq : q = i.toNatClampNeg
  · subst hq
    simp [updV, va_up, va_rf]
  · simp [updV, va_up, hq]
theorem va_newqa (hexec : p.tables.exec = Jvm.exec) (hb : c.code = cc) {own : String} {index : Nat} {t : FieldType} (hown : s.vm.findClass own = some m.cls) (hclink : (Cond.classLink own index (FieldType.array t).toString).before args s = true) (hover : (Cond.arrayOver (.array t)).before args s = true) (hK : va_K D cl tys s) (hP : va_P D cl ws H) (hD : va_D A ws) (hS : va_S A H0 H locs) (hA : ∀ q, H0.size ≤ q → A q)
    {n : Int32} {N' : Nat} (hn : ¬ n < 0) (hN : n.toNatClampNeg = N') (hbytes : N' * 4 ≤ 536870912) (hcells : cells + 1 ≤ R.cells) (hslots : slots + N' ≤ R.slots) (hdg : decode cc pc = .ok (.anewarray index, 3))
    (kk : ∀ (q : Nat) (cA : ClassId) (H1 : Heap), s.vm.findClass ("[" ++ (FieldType.array t).toString) = some cA → va_P D cl (ws ++ [(q, .inl (cA, N', .inr (.inr (.inr (.inr (fun _ => none))))))]) H1 → va_D A (ws ++ [(q, .inl (cA, N', .inr (.inr (.inr (.inr (fun _ => none))))))]) → va_S A H0 H1 locs →
      W p l e R s m args below meth c H1 locs (cells + 1) (slots + N') Q (F0 m (pc + 3) ls (.ref q :: rest))) : W p l e R s m args below meth c H locs cells slots Q (F0 m pc ls (.int n :: rest)) := by
  subst hN
  refine W.anewA hexec hb hown hclink hover rfl hdg rfl hn hbytes hcells hslots fun cA kA comp f1 f2 f3 f4 => ?_
  generalize hH1 : H.push ({ cls := cA, slots := Array.replicate n.toNatClampNeg .null, vm := .none } : Cell) = H1
  have z1 : H1.size = H.size + 1 := by rw [← hH1, Array.size_push]
  have e1 : H1[H.size]? = some (arrV cA n.toNatClampNeg (fun _ => .null)) := by rw [← hH1, Array.getElem?_push_size, ← arrV_new]
  have o1 : ∀ q : Nat, q < H.size → H1[q]? = H[q]? := fun q hq => by rw [← hH1, Array.getElem?_push, if_neg (Nat.ne_of_lt hq)]
  have hk : ∀ (k : Nat) (x : Nat × va_E), ws[k]? = some x → H1[x.1]? = H[x.1]? := fun k x hx => o1 x.1 ((hP k x hx).lt)
  refine kk H.size cA H1 f1 ((hP.kept hk).app (fun k x hx => ?_)) (hD.push hP rfl (hA _ hS.1)) ⟨Nat.le_trans hS.1 (by omega), fun x h1 h2 => (o1 x (Nat.lt_of_lt_of_le h1 hS.1)).trans (hS.2.1 x h1 h2), hS.2.2⟩
  have hz : k < 1 := (List.getElem?_eq_some_iff.mp hx).1
  rw [show k = 0 by omega] at hx
  cases hx
  show H1[H.size]? = some (vp_cell _ _)
  rw [vp_cell_q]
  exact e1
end VRB
end
section
/-! what a method over the pool finds, what it leaves, and calls of such methods -/
def TBok (U : State) : Prop := (∀ w ∈ TB, va_Nw w U) ∧ va_AO RX2 U ∧ va_AO RX3 U
def tbk (w : Cond) : Bool := match w with
  | .castable _ _ => true
  | .declares _ => true
  | .fieldLinkNest _ _ _ _ _ _ => true
  | .methodLinkNest _ _ _ _ => true
  | _ => false
theorem tb_k : ∀ w ∈ TB, tbk w = true := fun w h => List.all_eq_true.mp (show TB.all tbk = true from by decide +kernel) w h
theorem TBok.warm {s U : State} (hW : s.WarmedH U.vm) (h : TBok s) : TBok U := by
  refine ⟨?_, va_AO.moved hW.alike h.2.1, va_AO.moved hW.alike h.2.2⟩
  intro w hw
  have hk := tb_k w hw
  have h1 := h.1 w hw
  cases w <;> first
    | exact va_Nw.warmC hW h1
    | exact va_Nw.warmD hW h1
    | exact va_Nw.warmF hW h1
    | exact va_Nw.warmM hW h1
    | exact absurd hk (by decide)
    | simp [tbk] at hk
theorem TBok.same {u U : State} (h : u.vm = U.vm) (ha : u.vm.Alike U.vm) (hZ : TBok u) : TBok U := ⟨fun w hw => va_Nw.same (tb_ot w hw) h (hZ.1 w hw), va_AO.moved ha hZ.2.1, va_AO.moved ha hZ.2.2⟩
theorem TBok.use {s : State} {args : Array Value} (h : TBok s) {w : Cond} (hw : w ∈ TB) : w.before args s = true := va_Nw.use (tb_ot w hw) (h.1 w hw)
/-- which exceptions a handler of another class lets pass -/
def kNc : List (String × String) := [("java/lang/IllegalArgumentException", "java/lang/IllegalStateException"), ("java/lang/IllegalArgumentException", "java/lang/IndexOutOfBoundsException"), ("java/lang/IllegalStateException", "java/lang/IllegalArgumentException"), ("java/lang/IllegalStateException", "java/lang/IndexOutOfBoundsException"), ("java/lang/IndexOutOfBoundsException", "java/lang/IllegalArgumentException"), ("java/lang/IndexOutOfBoundsException", "java/lang/IllegalStateException")]
/-- what a throw needs of the world around it -/
def TXok (A : Nat → Prop) (U : State) : Prop := vx_Zq Bundle.tN "UNASSIGNED_STACK" Bundle.steD A U U.heap ∧ vx_Zq Bundle.tN "SUPPRESSED_SENTINEL" Bundle.listD A U U.heap ∧ (∀ q ∈ kStr, ∃ a, vk_R RX5 q.1 q.2 a U) ∧ ∀ q ∈ kNc, va_Nc q.1 q.2 U
theorem TXok.at {s U : State} {A A' : Nat → Prop} {H : Heap} {locs : List Loc} (h : TXok A s) (hS : va_S A s.heap H locs) (hA : ∀ q, A' q → A q) (hU : U.heap = H) (hW : s.WarmedH U.vm) : TXok A' U := by
  subst hU
  refine ⟨((h.1.kept hS.2.1).moved hW.alike).narrow hA, ((h.2.1.kept hS.2.1).moved hW.alike).narrow hA, fun q hq => ?_, fun q hq => va_Nc.moved hW.alike (h.2.2.2 q hq)⟩
  obtain ⟨a, ha⟩ := h.2.2.1 q hq
  exact ⟨a, vk_R.warm hW ha⟩
theorem TXok.call {A : Nat → Prop} {U : State} {g : JFrame} {mk : MethodId} {a : Array Value} (h : TXok A U) : TXok A (U.calling g mk a) := by
  refine ⟨vx_Zq.moved (u := U) (U := U.calling g mk a) (Vm.Alike.refl U.vm) h.1, vx_Zq.moved (u := U) (U := U.calling g mk a) (Vm.Alike.refl U.vm) h.2.1, fun q hq => ?_, fun q hq => va_Nc.moved (u := U) (U := U.calling g mk a) (Vm.Alike.refl U.vm) (h.2.2.2 q hq)⟩
  obtain ⟨z, hz⟩ := h.2.2.1 q hq
  exact ⟨z, vk_R.same (u := U) rfl hz⟩
abbrev kPre (D : va_G) (cA : Nat → ClassId) (ws : va_W) (sz : Nat) (U : State) : Prop := U.heap.size = sz ∧ va_P D vwCl ws U.heap ∧ va_K D vwCl (ty6 cA) U ∧ va_D (fun _ => True) ws ∧ TBok U
abbrev kPreX (D : va_G) (cA : Nat → ClassId) (ws : va_W) (sz : Nat) (U : State) : Prop := kPre D cA ws sz U ∧ TXok (va_A ws sz) U
abbrev kB (D : va_G) (cA : Nat → ClassId) (A : Nat → Prop) (ws : va_W) (t : State) : Prop := va_P D vwCl ws t.heap ∧ va_K D vwCl (ty6 cA) t ∧ va_D A ws
theorem kPre.call {D : va_G} {cA : Nat → ClassId} {ws : va_W} {sz : Nat} {U : State} {g : JFrame} {mk : MethodId} {a : Array Value} (h : kPre D cA ws sz U) : kPre D cA ws sz (U.calling g mk a) := ⟨h.1, h.2.1, va_K.moved (u := U) (U := U.calling g mk a) (Vm.Alike.refl U.vm) h.2.2.1, h.2.2.2.1, TBok.same (u := U) (U := U.calling g mk a) rfl (Vm.Alike.refl U.vm) h.2.2.2.2⟩
theorem kPre.blind {D : va_G} {cA : Nat → ClassId} {ws : va_W} {sz : Nat} {av : List Value} : FrameBlind (va_Pc av (kPre D cA ws sz)) := fun _ _ _ _ q => ⟨q.1, q.2.call⟩
theorem kPreX.blind {D : va_G} {cA : Nat → ClassId} {ws : va_W} {sz : Nat} {av : List Value} : FrameBlind (va_Pc av (kPreX D cA ws sz)) := fun _ _ _ _ q => ⟨q.1, q.2.1.call, q.2.2.call⟩
section KC
variable {p : Program} {l : Launch} {e : Env} {R : Room} {s : State} {m : MethodId} {args : Array Value} {below : List Frame} {meth : Method} {c : Code} {H : Heap} {locs : List Loc} {cells slots mc ms : Nat} {Q : State → Prop}
variable {cc : ByteArray} {pc : Nat} {ls : Array Slot} {st0 rest : List Value} {D : va_G} {A : Nat → Prop} {a b : Nat} {H0 : Heap} {cA : Nat → ClassId} {ws : va_W} {As : List Value} {as : Array Value}
theorem kp_at (hK : va_K D vwCl (ty6 cA) s) (hP : va_P D vwCl ws H) (hD : va_D A ws) (hTB : TBok s) {U : State} (hU : U.heap = H) (hW : s.WarmedH U.vm) : kPre D cA ws H.size U := by
  subst hU
  exact ⟨rfl, hP, va_K.moved hW.alike hK, hD.weaken (fun _ _ _ _ => trivial), hTB.warm hW⟩
theorem kp_A (hD : va_D A ws) (hS : va_S A H0 H locs) (hA : ∀ q, H0.size ≤ q → A q) : ∀ q, va_A ws H.size q → A q := fun q h => h.elim (fun ⟨k, e, hk⟩ => hD.2 k _ hk) (fun h => hA q (Nat.le_trans hS.1 h))
theorem kp_rc {S : Pool} (hK : va_K D vwCl (ty6 cA) s) (hP : va_P D vwCl (PW cA S) H) {ci N : Nat} {C : String} {T : u_T} (ho : isO S b ci) (hci : ci < 6) (hc : vwCl[ci]? = some (C, T, N)) : ∃ cell : Cell, H[b]? = some cell ∧ cell.vm.isStatics = false ∧ s.vm.findClass C = some cell.cls := by
  obtain ⟨q0, h0⟩ := pw_get (cA := cA) ho.1
  rw [pcell_o ho.2 hci] at h0
  exact va_recv hK hP hc h0
theorem kp_V (hK : va_K D vwCl (ty6 cA) s) (hP : va_P D vwCl ws H) (hD : va_D A ws) (hTB : TBok s) {C : String} (hrc : ∃ cell : Cell, H[b]? = some cell ∧ cell.vm.isStatics = false ∧ s.vm.findClass C = some cell.cls) : PreV s H C b (va_Pc (.ref b :: As) (kPre D cA ws H.size)) As :=
  ⟨kPre.blind, hrc, fun _ hU hW => ⟨rfl, kp_at hK hP hD hTB hU hW⟩⟩
theorem kp_S (hK : va_K D vwCl (ty6 cA) s) (hP : va_P D vwCl ws H) (hD : va_D A ws) (hTB : TBok s) : PreS s H (va_Pc As (kPre D cA ws H.size)) As :=
  ⟨kPre.blind, fun _ hU hW => ⟨rfl, kp_at hK hP hD hTB hU hW⟩⟩
theorem kp_VX (hK : va_K D vwCl (ty6 cA) s) (hP : va_P D vwCl ws H) (hD : va_D A ws) (hTB : TBok s) (hTX : TXok A s) (hS : va_S A s.heap H locs) (hA : ∀ q, s.heap.size ≤ q → A q) {C : String} (hrc : ∃ cell : Cell, H[b]? = some cell ∧ cell.vm.isStatics = false ∧ s.vm.findClass C = some cell.cls) : PreV s H C b (va_Pc (.ref b :: As) (kPreX D cA ws H.size)) As :=
  ⟨kPreX.blind, hrc, fun _ hU hW => ⟨rfl, kp_at hK hP hD hTB hU hW, hTX.at hS (kp_A hD hS hA) hU hW⟩⟩
theorem kp_SX (hK : va_K D vwCl (ty6 cA) s) (hP : va_P D vwCl ws H) (hD : va_D A ws) (hTB : TBok s) (hTX : TXok A s) (hS : va_S A s.heap H locs) (hA : ∀ q, s.heap.size ≤ q → A q) : PreS s H (va_Pc As (kPreX D cA ws H.size)) As :=
  ⟨kPreX.blind, fun _ hU hW => ⟨rfl, kp_at hK hP hD hTB hU hW, hTX.at hS (kp_A hD hS hA) hU hW⟩⟩
/-- a call that answers an int -/
theorem kc_i {X : Type} {w : X → va_W} {φ : Int32 → X → Prop} (hr : va_Run p l e R s m args below meth c H locs cells slots mc ms (F0 m pc ls st0) rest (va_Qi φ (fun x => kB D cA (va_A ws H.size) (w x)) (va_A ws H.size) as) (va_A ws H.size)) (hD : va_D A ws) (hS : va_S A H0 H locs) (hA : ∀ q, H0.size ≤ q → A q)
    (kk : ∀ (r : Int32) (x : X) (H1 : Heap) (locs1 : List Loc), φ r x → va_P D vwCl (w x) H1 → va_D A (w x) → va_S A H0 H1 locs1 → W p l e R s m args below meth c H1 locs1 (cells + mc) (slots + ms) Q (F0 m (pc + 3) ls (.int r :: rest))) : W p l e R s m args below meth c H locs cells slots Q (F0 m pc ls st0) := by
  have hF := kp_A hD hS hA
  refine va_calli hr hS (fun q _ h => hF q h) hF (fun r u t H1 locs1 ht hvm hw hB hz1 hk1 hS1 => ?_)
  obtain ⟨b1, b2, b3⟩ := hB
  rw [ht] at b1
  exact kk r u H1 locs1 hw b1 (b3.weaken (fun _ _ _ h => hF _ h)) hS1
theorem kc_l {X : Type} {w : X → va_W} {φ : Int64 → X → Prop} (hr : va_Run p l e R s m args below meth c H locs cells slots mc ms (F0 m pc ls st0) rest (va_Ql φ (fun x => kB D cA (va_A ws H.size) (w x)) (va_A ws H.size) as) (va_A ws H.size)) (hD : va_D A ws) (hS : va_S A H0 H locs) (hA : ∀ q, H0.size ≤ q → A q)
    (kk : ∀ (r : Int64) (x : X) (H1 : Heap) (locs1 : List Loc), φ r x → va_P D vwCl (w x) H1 → va_D A (w x) → va_S A H0 H1 locs1 → W p l e R s m args below meth c H1 locs1 (cells + mc) (slots + ms) Q (F0 m (pc + 3) ls (.long r :: rest))) : W p l e R s m args below meth c H locs cells slots Q (F0 m pc ls st0) := by
  have hF := kp_A hD hS hA
  refine va_calll hr hS (fun q _ h => hF q h) hF (fun r u t H1 locs1 ht hvm hw hB hz1 hk1 hS1 => ?_)
  obtain ⟨b1, b2, b3⟩ := hB
  rw [ht] at b1
  exact kk r u H1 locs1 hw b1 (b3.weaken (fun _ _ _ h => hF _ h)) hS1
theorem kc_v {X : Type} {w : X → va_W} {φ : X → Prop} (hr : va_Run p l e R s m args below meth c H locs cells slots mc ms (F0 m pc ls st0) rest (va_Qv φ (fun x => kB D cA (va_A ws H.size) (w x)) (va_A ws H.size) as) (va_A ws H.size)) (hD : va_D A ws) (hS : va_S A H0 H locs) (hA : ∀ q, H0.size ≤ q → A q)
    (kk : ∀ (x : X) (H1 : Heap) (locs1 : List Loc), φ x → va_P D vwCl (w x) H1 → va_D A (w x) → va_S A H0 H1 locs1 → W p l e R s m args below meth c H1 locs1 (cells + mc) (slots + ms) Q (F0 m (pc + 3) ls rest)) : W p l e R s m args below meth c H locs cells slots Q (F0 m pc ls st0) := by
  have hF := kp_A hD hS hA
  refine va_callv hr hS (fun q _ h => hF q h) hF (fun u t H1 locs1 ht hvm hw hB hz1 hk1 hS1 => ?_)
  obtain ⟨b1, b2, b3⟩ := hB
  rw [ht] at b1
  exact kk u H1 locs1 hw b1 (b3.weaken (fun _ _ _ h => hF _ h)) hS1
theorem kc_q {X : Type} {w : X → va_W} {φ : Option Nat → X → Prop} (hr : va_Run p l e R s m args below meth c H locs cells slots mc ms (F0 m pc ls st0) rest (va_Qq φ (fun x => kB D cA (va_A ws H.size) (w x)) (va_A ws H.size) as) (va_A ws H.size)) (hD : va_D A ws) (hS : va_S A H0 H locs) (hA : ∀ q, H0.size ≤ q → A q)
    (kk : ∀ (r : Option Nat) (x : X) (H1 : Heap) (locs1 : List Loc), φ r x → va_P D vwCl (w x) H1 → va_D A (w x) → va_S A H0 H1 locs1 → W p l e R s m args below meth c H1 locs1 (cells + mc) (slots + ms) Q (F0 m (pc + 3) ls (va_rf r :: rest))) : W p l e R s m args below meth c H locs cells slots Q (F0 m pc ls st0) := by
  have hF := kp_A hD hS hA
  refine va_callq hr hS (fun q _ h => hF q h) hF (fun r u t H1 locs1 ht hvm hw hB hz1 hk1 hS1 => ?_)
  obtain ⟨b1, b2, b3⟩ := hB
  rw [ht] at b1
  exact kk r u H1 locs1 hw b1 (b3.weaken (fun _ _ _ h => hF _ h)) hS1
/-- the world where a method has thrown E0, nothing changed -/
def kXC (D : va_G) (cA : Nat → ClassId) (ws : va_W) (E0 : String) (A : Nat → Prop) : String → State → State → Prop := vx_X (fun _ : Unit => True) (fun E _ t => E = E0 ∧ kB D cA A ws t) A
abbrev kNo : Array Value → State → Outcome → State → Prop := fun _ _ _ _ => False
/-- a call of a method that throws, here in any case -/
theorem kt_call {E0 : String} (hr : vx_Run p l e R s m args below meth c H locs cells slots mc ms (F0 m pc ls st0) rest (kNo as) (kXC D cA ws E0 (va_A ws H.size)) (va_A ws H.size)) (hD : va_D A ws) (hS : va_S A H0 H locs) (hA : ∀ q, H0.size ≤ q → A q)
    (kk : ∀ (ce : Cell) (q9 : Addr) (H1 : Heap) (locs1 : List Loc), va_P D vwCl ws H1 → va_D A ws → va_S A H0 H1 locs1 → H1[q9]? = some ce → ce.vm = .none → s.vm.findClass E0 = some ce.cls → vx_W p l e R s m args below meth c H1 locs1 (cells + mc) (slots + ms) Q (F0 m pc ls rest) q9) : W p l e R s m args below meth c H locs cells slots Q (F0 m pc ls st0) := by
  have hF := kp_A hD hS hA
  intro T hT X
  rcases hr T hT X with ⟨v, st₀, t, T', L, h0, X', hL, e1, e2, hno, st⟩ | ⟨q, st₀, t, T', L, E, ce, h0, X', hL, e1, e2, ⟨u, hp, ⟨rfl, b1, b2, b3⟩, hFr⟩, hce, hcv, hcl, st⟩
  · exact hno.elim
  · obtain ⟨k1, k2, k3⟩ := vx_keep h0 e1 hS (fun q _ h => hF q h) hF hL hFr
    obtain ⟨t2, a1, z1⟩ := kk ce q T'.heap (locs ++ L) (by rw [e1]; exact b1) (b3.weaken (fun _ _ _ h => hF _ h)) k3 (by rw [e1]; exact hce) hcv hcl T' rfl X'
    exact ⟨t2, st.trans a1, z1⟩
/-- it leaves this method too -/
theorem kt_out {E0 : String} {ce : Cell} {q : Addr} {Qc : Array Value → State → Outcome → State → Prop} (hTab : ∀ x ∈ c.exceptionTable.toList, False) (hlocks : meth.locks = false) (hK : va_K D vwCl (ty6 cA) s) (hP : va_P D vwCl ws H) (hD : va_D A ws) (hS : va_S A s.heap H locs) (hce : H[q]? = some ce) (hcv : ce.vm = .none) (hcl : s.vm.findClass E0 = some ce.cls) (hc : cells ≤ mc) (hs : slots ≤ ms) :
    vx_W p l e R s m args below meth c H locs cells slots (vx_MQ below Qc (kXC D cA ws E0 A) args s mc ms A) (F0 m pc ls rest) q :=
  vx_out (fun x hx => (hTab x hx).elim) hlocks hce hcv hcl (fun t ht ha => ⟨(), trivial, ⟨rfl, by rw [ht]; exact hP, va_K.moved ha hK, hD⟩, hS.F ht⟩) hS.2.2 hc hs
/-- throw new E(text) -/
theorem kt_new {Qc : Array Value → State → Outcome → State → Prop} {E0 text : String} {ik is ic : Nat} (hexec : p.tables.exec = Jvm.exec) (hb : c.code = cc) (hl : l.stackTraces = false) (hown : s.vm.findClass RX5 = some m.cls)
    (hE : E0 = "java/lang/IllegalArgumentException" ∨ E0 = "java/lang/IllegalStateException" ∨ E0 = "java/lang/IndexOutOfBoundsException") (hk : (Cond.classLink RX5 ik E0).before args s = true) (hini : (Cond.initialized E0).before args s = true) (hst : (is, text) ∈ kStr)
    (hat : ∀ w ∈ (vx_atS RX5 ic E0 ["java/lang/RuntimeException", "java/lang/Exception"]).filter goodWord, w.before args s = true) (han : ∀ w ∈ (vx_atS RX5 ic E0 ["java/lang/RuntimeException", "java/lang/Exception"]).filter (fun w => !goodWord w), w ∈ TB)
    (hgood : ∀ w ∈ Cond.classLink RX5 ik E0 :: Cond.initialized E0 :: vx_atS RX5 ic E0 ["java/lang/RuntimeException", "java/lang/Exception"], vx_ot w = true)
    (hTB : TBok s) (hTX : TXok A s) (hK : va_K D vwCl (ty6 cA) s) (hP : va_P D vwCl ws H) (hD : va_D A ws) (hS : va_S A s.heap H locs) (hsize : ls.size = c.maxLocals)
    (d0 : decode cc pc = .ok (.new ik, 3)) (d3 : decode cc (pc + 3) = .ok (.dup, 1)) (d4 : decode cc (pc + 4) = .ok (.ldc is, 2)) (d6 : decode cc (pc + 6) = .ok (.invokespecial ic, 3)) (d9 : decode cc (pc + 9) = .ok (.athrow, 1))
    (hTab : ∀ x ∈ c.exceptionTable.toList, False) (hRf : 5 < R.frames) (hRl : (rest.map fun v => v.category).sum + 82 ≤ R.locals) (hRc : cells + 1 ≤ R.cells) (hRs : slots + 6 ≤ R.slots) (hlocks : meth.locks = false) (hc : cells + 1 ≤ mc) (hs : slots + 6 ≤ ms) :
    W p l e R s m args below meth c H locs cells slots (vx_MQ below Qc (kXC D cA ws E0 A) args s mc ms A) (F0 m pc ls rest) := by
  obtain ⟨sa, hsa⟩ := hTX.2.2.1 _ hst
  have hfit : Bundle.fit E0 = true := by rcases hE with rfl | rfl | rfl <;> decide +kernel
  refine vx_throwS (own := RX5) (names := ["java/lang/RuntimeException", "java/lang/Exception"]) (A := A) hexec hb hl hown hfit (by decide +kernel) hk hini hsa (vx_hat hat han (fun w hw => hTB.use hw)) hgood hTX.1 hTX.2.1 hS hsize d0 d3 d4 d6 d9 (fun x hx => (hTab x hx).elim) hRf hRl hRc hRs hlocks (fun t ha hz hq => ?_) hS.2.2 hc hs
  refine ⟨(), trivial, ⟨rfl, hP.kept (fun k q hk => hq q.1 ((hP k q hk).lt)), va_K.moved ha hK, hD⟩, Nat.le_trans hS.1 hz, fun q h1 h2 => (hq q (Nat.lt_of_lt_of_le h1 hS.1)).trans (hS.2.1 q h1 h2)⟩
/-- the same, the text by a wide index -/
theorem kt_newW {Qc : Array Value → State → Outcome → State → Prop} {E0 text : String} {ik is ic : Nat} (hexec : p.tables.exec = Jvm.exec) (hb : c.code = cc) (hl : l.stackTraces = false) (hown : s.vm.findClass RX5 = some m.cls)
    (hE : E0 = "java/lang/IllegalArgumentException" ∨ E0 = "java/lang/IllegalStateException" ∨ E0 = "java/lang/IndexOutOfBoundsException") (hk : (Cond.classLink RX5 ik E0).before args s = true) (hini : (Cond.initialized E0).before args s = true) (hst : (is, text) ∈ kStr)
    (hat : ∀ w ∈ (vx_atS RX5 ic E0 ["java/lang/RuntimeException", "java/lang/Exception"]).filter goodWord, w.before args s = true) (han : ∀ w ∈ (vx_atS RX5 ic E0 ["java/lang/RuntimeException", "java/lang/Exception"]).filter (fun w => !goodWord w), w ∈ TB)
    (hgood : ∀ w ∈ Cond.classLink RX5 ik E0 :: Cond.initialized E0 :: vx_atS RX5 ic E0 ["java/lang/RuntimeException", "java/lang/Exception"], vx_ot w = true)
    (hTB : TBok s) (hTX : TXok A s) (hK : va_K D vwCl (ty6 cA) s) (hP : va_P D vwCl ws H) (hD : va_D A ws) (hS : va_S A s.heap H locs) (hsize : ls.size = c.maxLocals)
    (d0 : decode cc pc = .ok (.new ik, 3)) (d3 : decode cc (pc + 3) = .ok (.dup, 1)) (d4 : decode cc (pc + 4) = .ok (.ldc_w is, 3)) (d7 : decode cc (pc + 7) = .ok (.invokespecial ic, 3)) (d10 : decode cc (pc + 10) = .ok (.athrow, 1))
    (hTab : ∀ x ∈ c.exceptionTable.toList, False) (hRf : 5 < R.frames) (hRl : (rest.map fun v => v.category).sum + 82 ≤ R.locals) (hRc : cells + 1 ≤ R.cells) (hRs : slots + 6 ≤ R.slots) (hlocks : meth.locks = false) (hc : cells + 1 ≤ mc) (hs : slots + 6 ≤ ms) :
    W p l e R s m args below meth c H locs cells slots (vx_MQ below Qc (kXC D cA ws E0 A) args s mc ms A) (F0 m pc ls rest) := by
  obtain ⟨sa, hsa⟩ := hTX.2.2.1 _ hst
  have hfit : Bundle.fit E0 = true := by rcases hE with rfl | rfl | rfl <;> decide +kernel
  refine vx_throwSW (own := RX5) (names := ["java/lang/RuntimeException", "java/lang/Exception"]) (A := A) hexec hb hl hown hfit (by decide +kernel) hk hini hsa (vx_hat hat han (fun w hw => hTB.use hw)) hgood hTX.1 hTX.2.1 hS hsize d0 d3 d4 d7 d10 (fun x hx => (hTab x hx).elim) hRf hRl hRc hRs hlocks (fun t ha hz hq => ?_) hS.2.2 hc hs
  refine ⟨(), trivial, ⟨rfl, hP.kept (fun k q hk => hq q.1 ((hP k q hk).lt)), va_K.moved ha hK, hD⟩, Nat.le_trans hS.1 hz, fun q h1 h2 => (hq q (Nat.lt_of_lt_of_le h1 hS.1)).trans (hS.2.1 q h1 h2)⟩
end KC
end
section
/-! THE REFERENCE'S CELLS: its object at am, its rows at r 4 .. (by the place of their field); the numbers Sx, the rows Rx -/
abbrev MSt : Type := (Nat → Int32) × (Nat → Nat → Int32)
def isRm (k : Nat) : Bool := (4 ≤ k && k ≤ 21) || (23 ≤ k && k ≤ 27)
def isZm (k : Nat) : Bool := k == 10 || k == 11 || k == 27
def mLen (k : Nat) : Nat := if k = 6 then 32 else if 18 ≤ k ∧ k ≤ 21 then 40 else if 23 ≤ k then 100 else 8
def mKeys : List Nat := [4, 5, 6, 7, 8, 9, 10, 11, 12, 13, 14, 15, 16, 17, 18, 19, 20, 21, 23, 24, 25, 26, 27]
def mPos (k : Nat) : Nat := if k < 22 then k - 3 else k - 4
def mv (r : Nat → Nat) (Sx : Nat → Int32) (k : Nat) : Value := if isRm k = true then .ref (r k) else .int (Sx k)
def mrow (cA : Nat → ClassId) (Rx : Nat → Nat → Int32) (k : Nat) : va_E := .inl (if isZm k = true then cA 2 else cA 0, mLen k, .inl (Rx k))
def wM (cA : Nat → ClassId) (am : Nat) (r : Nat → Nat) (M : MSt) : va_W := (am, .inr (6, (List.range 29).map (mv r M.1))) :: mKeys.map (fun k => (r k, mrow cA M.2 k))
abbrev mS (M : MSt) (k : Nat) (v : Int32) : MSt := (va_up M.1 k v, M.2)
abbrev mR (M : MSt) (k i : Nat) (v : Int32) : MSt := (M.1, va_up M.2 k (upd (M.2 k) i v))
theorem mk_pos {k : Nat} (h : isRm k = true) : mKeys[mPos k - 1]? = some k ∧ 1 ≤ mPos k := by
  have h1 : ∀ k, k < 28 → isRm k = true → mKeys[mPos k - 1]? = some k ∧ 1 ≤ mPos k := by decide +kernel
  refine h1 k ?_ h
  rcases Nat.lt_or_ge k 28 with q | q
  · exact q
  · simp [isRm] at h; omega
theorem wM_0 {cA : Nat → ClassId} {am : Nat} {r : Nat → Nat} {M : MSt} : (wM cA am r M)[0]? = some (am, .inr (6, (List.range 29).map (mv r M.1))) := rfl
theorem wM_k {cA : Nat → ClassId} {am : Nat} {r : Nat → Nat} {M : MSt} {k : Nat} (h : isRm k = true) : (wM cA am r M)[mPos k]? = some (r k, mrow cA M.2 k) := by
  obtain ⟨h1, h2⟩ := mk_pos h
  unfold wM
  obtain ⟨n, hn⟩ : ∃ n, mPos k = n + 1 := ⟨mPos k - 1, by omega⟩
  rw [hn, List.getElem?_cons_succ, List.getElem?_map]
  rw [hn] at h1
  rw [show mKeys[n]? = some k from h1]
  rfl
theorem mk_inj : ∀ (i j : Nat), ∀ k, mKeys[i]? = some k → mKeys[j]? = some k → i = j := by
  have h : ∀ i, i < 23 → ∀ j, j < 23 → mKeys[i]? = mKeys[j]? → i = j := by decide +kernel
  intro i j k hi hj
  have h1 : i < 23 := (List.getElem?_eq_some_iff.mp hi).1
  have h2 : j < 23 := (List.getElem?_eq_some_iff.mp hj).1
  exact h i h1 j h2 (hi.trans hj.symm)
theorem wM_set0 {cA : Nat → ClassId} {am : Nat} {r : Nat → Nat} {M : MSt} {k : Nat} {v : Int32} (h : isRm k = false) : (wM cA am r M).set 0 (am, .inr (6, ((List.range 29).map (mv r M.1)).set k (.int v))) = wM cA am r (mS M k v) := by
  unfold wM
  rw [List.set_cons_zero, map_set (g' := mv r (va_up M.1 k v))]
  · intro _; simp [mv, h, va_up]
  · intro j hj; simp [mv, va_up, hj]
theorem wM_setk {cA : Nat → ClassId} {am : Nat} {r : Nat → Nat} {M : MSt} {k : Nat} {f : Nat → Int32} (h : isRm k = true) : (wM cA am r M).set (mPos k) (r k, .inl (if isZm k = true then cA 2 else cA 0, mLen k, .inl f)) = wM cA am r (M.1, va_up M.2 k f) := by
  obtain ⟨h1, h2⟩ := mk_pos h
  unfold wM
  obtain ⟨n, hn⟩ : ∃ n, mPos k = n + 1 := ⟨mPos k - 1, by omega⟩
  rw [hn] at h1
  have h3 : mKeys[n]? = some k := h1
  rw [hn, List.set_cons_succ]
  refine congrArg (fun z => (am, _) :: z) ?_
  apply List.ext_getElem?
  intro j
  rw [List.getElem?_set, List.getElem?_map, List.getElem?_map]
  by_cases hj : n = j
  · subst hj
    have h4 : n < mKeys.length := (List.getElem?_eq_some_iff.mp h3).1
    rw [if_pos rfl, if_pos (by rw [List.length_map]; exact h4), h3]
    simp [mrow, va_up]
  · rw [if_neg hj]
    cases hq : mKeys[j]? with
    | none => rfl
    | some q =>
      have : q ≠ k := fun e => hj (mk_inj n j k h3 (by rw [hq, e]))
      simp [mrow, va_up, this]
section KM
variable {p : Program} {l : Launch} {e : Env} {R : Room} {s : State} {m : MethodId} {args : Array Value} {below : List Frame} {meth : Method} {c : Code} {H : Heap} {locs : List Loc} {cells slots : Nat} {Q : State → Prop}
variable {cc : ByteArray} {pc : Nat} {ls : Array Slot} {rest : List Value} {D : va_G} {A : Nat → Prop} {am : Nat} {r : Nat → Nat} {H0 : Heap} {cA : Nat → ClassId} {M : MSt}
theorem km_iald (hexec : p.tables.exec = Jvm.exec) (hb : c.code = cc) (hK : va_K D vwCl (ty6 cA) s) (hP : va_P D vwCl (wM cA am r M) H) (k : Nat) (hk : isRm k = true) (hz : isZm k = false) {i : Int32} (hin : vp_in i (mLen k)) (hdg : decode cc pc = .ok (.iaload, 1))
    (kk : W p l e R s m args below meth c H locs cells slots Q (F0 m (pc + 1) ls (.int (M.2 k i.toNatClampNeg) :: rest))) : W p l e R s m args below meth c H locs cells slots Q (F0 m pc ls (.int i :: .ref (r k) :: rest)) := by
  have h := wM_k (cA := cA) (am := am) (r := r) (M := M) hk
  unfold mrow at h
  rw [hz] at h
  exact va_iald hexec hb hK hP (mPos k) 0 h rfl hin hdg kk
theorem km_zald (hexec : p.tables.exec = Jvm.exec) (hb : c.code = cc) (hK : va_K D vwCl (ty6 cA) s) (hP : va_P D vwCl (wM cA am r M) H) (k : Nat) (hk : isRm k = true) (hz : isZm k = true) {i : Int32} (hin : vp_in i (mLen k)) (hdg : decode cc pc = .ok (.baload, 1))
    (kk : W p l e R s m args below meth c H locs cells slots Q (F0 m (pc + 1) ls (.int (M.2 k i.toNatClampNeg) :: rest))) : W p l e R s m args below meth c H locs cells slots Q (F0 m pc ls (.int i :: .ref (r k) :: rest)) := by
  have h := wM_k (cA := cA) (am := am) (r := r) (M := M) hk
  unfold mrow at h
  rw [hz] at h
  exact va_zald hexec hb hK hP (mPos k) 2 h rfl hin hdg kk
theorem km_iast (hexec : p.tables.exec = Jvm.exec) (hb : c.code = cc) (hK : va_K D vwCl (ty6 cA) s) (hP : va_P D vwCl (wM cA am r M) H) (hD : va_D A (wM cA am r M)) (hS : va_S A H0 H locs) (k : Nat) (hk : isRm k = true) (hz : isZm k = false) {i x : Int32} (hin : vp_in i (mLen k)) (hdg : decode cc pc = .ok (.iastore, 1))
    (kk : ∀ (H1 : Heap) (locs1 : List Loc), va_P D vwCl (wM cA am r (mR M k i.toNatClampNeg x)) H1 → va_D A (wM cA am r (mR M k i.toNatClampNeg x)) → va_S A H0 H1 locs1 → W p l e R s m args below meth c H1 locs1 cells slots Q (F0 m (pc + 1) ls rest)) : W p l e R s m args below meth c H locs cells slots Q (F0 m pc ls (.int x :: .int i :: .ref (r k) :: rest)) := by
  have h := wM_k (cA := cA) (am := am) (r := r) (M := M) hk
  unfold mrow at h
  rw [hz] at h
  have h2 := wM_setk (cA := cA) (am := am) (r := r) (M := M) (f := upd (M.2 k) i.toNatClampNeg x) hk
  rw [hz] at h2
  refine va_iast hexec hb hK hP hD hS (mPos k) 0 h rfl hin hdg (fun H1 locs1 a1 a2 a3 => ?_)
  exact kk H1 locs1 (h2 ▸ a1) (h2 ▸ a2) a3
theorem km_zast (hexec : p.tables.exec = Jvm.exec) (hb : c.code = cc) (hK : va_K D vwCl (ty6 cA) s) (hP : va_P D vwCl (wM cA am r M) H) (hD : va_D A (wM cA am r M)) (hS : va_S A H0 H locs) (k : Nat) (hk : isRm k = true) (hz : isZm k = true) {i x : Int32} (hx : x = 0 ∨ x = 1) (hin : vp_in i (mLen k)) (hdg : decode cc pc = .ok (.bastore, 1))
    (kk : ∀ (H1 : Heap) (locs1 : List Loc), va_P D vwCl (wM cA am r (mR M k i.toNatClampNeg x)) H1 → va_D A (wM cA am r (mR M k i.toNatClampNeg x)) → va_S A H0 H1 locs1 → W p l e R s m args below meth c H1 locs1 cells slots Q (F0 m (pc + 1) ls rest)) : W p l e R s m args below meth c H locs cells slots Q (F0 m pc ls (.int x :: .int i :: .ref (r k) :: rest)) := by
  have h := wM_k (cA := cA) (am := am) (r := r) (M := M) hk
  unfold mrow at h
  rw [hz] at h
  have h2 := wM_setk (cA := cA) (am := am) (r := r) (M := M) (f := upd (M.2 k) i.toNatClampNeg x) hk
  rw [hz] at h2
  have hv : vp_nar .boolean x = x := by rcases hx with rfl | rfl <;> decide
  refine va_zast hexec hb hK hP hD hS (mPos k) 2 h rfl hin hdg (fun H1 locs1 a1 a2 a3 => ?_)
  rw [hv] at a1 a2
  exact kk H1 locs1 (h2 ▸ a1) (h2 ▸ a2) a3
theorem km_ialdv (hexec : p.tables.exec = Jvm.exec) (hb : c.code = cc) (hK : va_K D vwCl (ty6 cA) s) (hP : va_P D vwCl (wM cA am r M) H) (k : Nat) (hk : isRm k = true) (hz : isZm k = false) {i : Int32} (hin : vp_in i (mLen k)) {x : Int32} (hx9 : M.2 k i.toNatClampNeg = x) (hdg : decode cc pc = .ok (.iaload, 1))
    (kk : W p l e R s m args below meth c H locs cells slots Q (F0 m (pc + 1) ls (.int x :: rest))) : W p l e R s m args below meth c H locs cells slots Q (F0 m pc ls (.int i :: .ref (r k) :: rest)) := by
  subst hx9
  exact km_iald hexec hb hK hP k hk hz hin hdg kk
theorem km_zaldv (hexec : p.tables.exec = Jvm.exec) (hb : c.code = cc) (hK : va_K D vwCl (ty6 cA) s) (hP : va_P D vwCl (wM cA am r M) H) (k : Nat) (hk : isRm k = true) (hz : isZm k = true) {i : Int32} (hin : vp_in i (mLen k)) {x : Int32} (hx9 : M.2 k i.toNatClampNeg = x) (hdg : decode cc pc = .ok (.baload, 1))
    (kk : W p l e R s m args below meth c H locs cells slots Q (F0 m (pc + 1) ls (.int x :: rest))) : W p l e R s m args below meth c H locs cells slots Q (F0 m pc ls (.int i :: .ref (r k) :: rest)) := by
  subst hx9
  exact km_zald hexec hb hK hP k hk hz hin hdg kk
end KM
end
section
/-! calls of a method whose world is a part of this one's -/
theorem kj_mem {D : va_G} {ws : va_W} {H : Heap} : va_P D vwCl ws H ↔ ∀ q ∈ ws, va_at D vwCl q H := by
  constructor
  · intro h q hq
    obtain ⟨k, hk⟩ := List.getElem?_of_mem hq
    exact h k q hk
  · intro h k q hk
    exact h q (List.mem_of_getElem? hk)
theorem kj_dis {A : Nat → Prop} {ws : va_W} : va_D A ws ↔ (ws.map Prod.fst).Nodup ∧ ∀ q ∈ ws, A q.1 := by
  constructor
  · intro h
    refine ⟨?_, fun q hq => ?_⟩
    · rw [List.nodup_iff_pairwise_ne, List.pairwise_iff_getElem]
      intro i j hi hj hij he
      rw [List.length_map] at hi hj
      have h1 : ws[i]? = some ws[i] := List.getElem?_eq_getElem hi
      have h2 : ws[j]? = some ws[j] := List.getElem?_eq_getElem hj
      rw [List.getElem_map, List.getElem_map] at he
      have := h.1 i j _ _ h1 h2 he
      omega
    · obtain ⟨k, hk⟩ := List.getElem?_of_mem hq
      exact h.2 k q hk
  · intro h
    refine ⟨fun i j p q hi hj he => ?_, fun k q hk => h.2 q (List.mem_of_getElem? hk)⟩
    have hn := h.1
    rw [List.nodup_iff_pairwise_ne, List.pairwise_iff_getElem] at hn
    have hi' : i < ws.length := (List.getElem?_eq_some_iff.mp hi).1
    have hj' : j < ws.length := (List.getElem?_eq_some_iff.mp hj).1
    have ei : ws[i] = p := (List.getElem?_eq_some_iff.mp hi).2
    have ej : ws[j] = q := (List.getElem?_eq_some_iff.mp hj).2
    rcases Nat.lt_trichotomy i j with h1 | h1 | h1
    · exact absurd (by rw [List.getElem_map, List.getElem_map, ei, ej]; exact he) (hn i j (by rw [List.length_map]; exact hi') (by rw [List.length_map]; exact hj') h1)
    · exact h1
    · exact absurd (by rw [List.getElem_map, List.getElem_map, ei, ej]; exact he.symm) (hn j i (by rw [List.length_map]; exact hj') (by rw [List.length_map]; exact hi') h1)
theorem kj_P {D : va_G} {ws ws' : va_W} {H : Heap} (h : ws.Perm ws') (hP : va_P D vwCl ws H) : va_P D vwCl ws' H := kj_mem.mpr fun q hq => kj_mem.mp hP q (h.mem_iff.mpr hq)
theorem kj_D {A : Nat → Prop} {ws ws' : va_W} (h : ws.Perm ws') (hD : va_D A ws) : va_D A ws' := by
  have h1 := kj_dis.mp hD
  exact kj_dis.mpr ⟨((h.map Prod.fst).nodup_iff).mp h1.1, fun q hq => h1.2 q (h.mem_iff.mpr hq)⟩
/-- what came back, beside the rest -/
theorem kj_join {D : va_G} {A : Nat → Prop} {wa wb w1 : va_W} {H H1 : Heap} (hP : va_P D vwCl (wa ++ wb) H) (hD : va_D A (wa ++ wb)) (hk : ∀ q : Nat, q < H.size → ¬ va_A wa H.size q → H1[q]? = H[q]?) (h1 : va_P D vwCl w1 H1) (d1 : va_D (va_A wa H.size) w1) (hA : ∀ q, va_A wa H.size q → A q) : va_P D vwCl (w1 ++ wb) H1 ∧ va_D A (w1 ++ wb) := by
  have hPm := kj_mem.mp hP
  have hDm := kj_dis.mp hD
  have hsz : ∀ q ∈ wb, q.1 < H.size := fun q hq => (hPm q (List.mem_append_right _ hq)).lt
  have hnd := hDm.1
  rw [List.map_append, List.nodup_append] at hnd
  have hno : ∀ q ∈ wb, ¬ va_A wa H.size q.1 := by
    intro q hq h
    rcases h with ⟨k, e, he⟩ | h
    · exact hnd.2.2 q.1 (List.mem_map.mpr ⟨(q.1, e), List.mem_of_getElem? he, rfl⟩) q.1 (List.mem_map.mpr ⟨q, hq, rfl⟩) rfl
    · exact absurd (hsz q hq) (Nat.not_lt.mpr h)
  have hPb : va_P D vwCl wb H1 := kj_mem.mpr fun q hq => (hPm q (List.mem_append_right _ hq)).kept (hk q.1 (hsz q hq) (hno q hq))
  refine ⟨h1.app hPb, ?_⟩
  have d1m := kj_dis.mp d1
  refine kj_dis.mpr ⟨?_, fun q hq => ?_⟩
  · rw [List.map_append, List.nodup_append]
    refine ⟨d1m.1, hnd.2.1, fun a ha b hb e => ?_⟩
    obtain ⟨qa, ha1, rfl⟩ := List.mem_map.mp ha
    obtain ⟨qb, hb1, rfl⟩ := List.mem_map.mp hb
    exact hno qb hb1 (e ▸ d1m.2 qa ha1)
  · rcases List.mem_append.mp hq with h | h
    · exact hA _ (d1m.2 q h)
    · exact hDm.2 q (List.mem_append_right _ h)
section KJ
variable {p : Program} {l : Launch} {e : Env} {R : Room} {s : State} {m : MethodId} {args : Array Value} {below : List Frame} {meth : Method} {c : Code} {H : Heap} {locs : List Loc} {cells slots mc ms : Nat} {Q : State → Prop}
variable {cc : ByteArray} {pc : Nat} {ls : Array Slot} {st0 rest : List Value} {D : va_G} {A : Nat → Prop} {a b : Nat} {H0 : Heap} {cA : Nat → ClassId} {ws wa wb : va_W} {As : List Value} {as : Array Value} {X : Type} {w : X → va_W}
theorem kj_i {φ : Int32 → X → Prop} (hpm : ws.Perm (wa ++ wb)) (hr : va_Run p l e R s m args below meth c H locs cells slots mc ms (F0 m pc ls st0) rest (va_Qi φ (fun x => kB D cA (va_A wa H.size) (w x)) (va_A wa H.size) as) (va_A wa H.size)) (hP : va_P D vwCl ws H) (hD : va_D A ws) (hS : va_S A H0 H locs) (hA : ∀ q, H0.size ≤ q → A q)
    (kk : ∀ (r : Int32) (x : X) (H1 : Heap) (locs1 : List Loc), φ r x → va_P D vwCl (w x ++ wb) H1 → va_D A (w x ++ wb) → va_S A H0 H1 locs1 → W p l e R s m args below meth c H1 locs1 (cells + mc) (slots + ms) Q (F0 m (pc + 3) ls (.int r :: rest))) : W p l e R s m args below meth c H locs cells slots Q (F0 m pc ls st0) := by
  have hP' := kj_P hpm hP
  have hD' := kj_D hpm hD
  have hDa : va_D A wa := ⟨fun i j p q hi hj => hD'.1 i j p q (by rw [List.getElem?_append_left (List.getElem?_eq_some_iff.mp hi).1]; exact hi) (by rw [List.getElem?_append_left (List.getElem?_eq_some_iff.mp hj).1]; exact hj), fun k q hk => hD'.2 k q (by rw [List.getElem?_append_left (List.getElem?_eq_some_iff.mp hk).1]; exact hk)⟩
  have hF := kp_A hDa hS hA
  refine va_calli hr hS (fun q _ h => hF q h) hF (fun r u t H1 locs1 ht hvm hw hB hz1 hk1 hS1 => ?_)
  obtain ⟨b1, b2, b3⟩ := hB
  rw [ht] at b1
  obtain ⟨j1, j2⟩ := kj_join hP' hD' hk1 b1 b3 hF
  exact kk r u H1 locs1 hw j1 j2 hS1
theorem kj_l {φ : Int64 → X → Prop} (hpm : ws.Perm (wa ++ wb)) (hr : va_Run p l e R s m args below meth c H locs cells slots mc ms (F0 m pc ls st0) rest (va_Ql φ (fun x => kB D cA (va_A wa H.size) (w x)) (va_A wa H.size) as) (va_A wa H.size)) (hP : va_P D vwCl ws H) (hD : va_D A ws) (hS : va_S A H0 H locs) (hA : ∀ q, H0.size ≤ q → A q)
    (kk : ∀ (r : Int64) (x : X) (H1 : Heap) (locs1 : List Loc), φ r x → va_P D vwCl (w x ++ wb) H1 → va_D A (w x ++ wb) → va_S A H0 H1 locs1 → W p l e R s m args below meth c H1 locs1 (cells + mc) (slots + ms) Q (F0 m (pc + 3) ls (.long r :: rest))) : W p l e R s m args below meth c H locs cells slots Q (F0 m pc ls st0) := by
  have hP' := kj_P hpm hP
  have hD' := kj_D hpm hD
  have hDa : va_D A wa := ⟨fun i j p q hi hj => hD'.1 i j p q (by rw [List.getElem?_append_left (List.getElem?_eq_some_iff.mp hi).1]; exact hi) (by rw [List.getElem?_append_left (List.getElem?_eq_some_iff.mp hj).1]; exact hj), fun k q hk => hD'.2 k q (by rw [List.getElem?_append_left (List.getElem?_eq_some_iff.mp hk).1]; exact hk)⟩
  have hF := kp_A hDa hS hA
  refine va_calll hr hS (fun q _ h => hF q h) hF (fun r u t H1 locs1 ht hvm hw hB hz1 hk1 hS1 => ?_)
  obtain ⟨b1, b2, b3⟩ := hB
  rw [ht] at b1
  obtain ⟨j1, j2⟩ := kj_join hP' hD' hk1 b1 b3 hF
  exact kk r u H1 locs1 hw j1 j2 hS1
theorem kj_d {φ : UInt64 → X → Prop} (hpm : ws.Perm (wa ++ wb)) (hr : va_Run p l e R s m args below meth c H locs cells slots mc ms (F0 m pc ls st0) rest (va_Qd φ (fun x => kB D cA (va_A wa H.size) (w x)) (va_A wa H.size) as) (va_A wa H.size)) (hP : va_P D vwCl ws H) (hD : va_D A ws) (hS : va_S A H0 H locs) (hA : ∀ q, H0.size ≤ q → A q)
    (kk : ∀ (r : UInt64) (x : X) (H1 : Heap) (locs1 : List Loc), φ r x → va_P D vwCl (w x ++ wb) H1 → va_D A (w x ++ wb) → va_S A H0 H1 locs1 → W p l e R s m args below meth c H1 locs1 (cells + mc) (slots + ms) Q (F0 m (pc + 3) ls (.double r :: rest))) : W p l e R s m args below meth c H locs cells slots Q (F0 m pc ls st0) := by
  have hP' := kj_P hpm hP
  have hD' := kj_D hpm hD
  have hDa : va_D A wa := ⟨fun i j p q hi hj => hD'.1 i j p q (by rw [List.getElem?_append_left (List.getElem?_eq_some_iff.mp hi).1]; exact hi) (by rw [List.getElem?_append_left (List.getElem?_eq_some_iff.mp hj).1]; exact hj), fun k q hk => hD'.2 k q (by rw [List.getElem?_append_left (List.getElem?_eq_some_iff.mp hk).1]; exact hk)⟩
  have hF := kp_A hDa hS hA
  refine va_calld hr hS (fun q _ h => hF q h) hF (fun r u t H1 locs1 ht hvm hw hB hz1 hk1 hS1 => ?_)
  obtain ⟨b1, b2, b3⟩ := hB
  rw [ht] at b1
  obtain ⟨j1, j2⟩ := kj_join hP' hD' hk1 b1 b3 hF
  exact kk r u H1 locs1 hw j1 j2 hS1
theorem kj_v {φ : X → Prop} (hpm : ws.Perm (wa ++ wb)) (hr : va_Run p l e R s m args below meth c H locs cells slots mc ms (F0 m pc ls st0) rest (va_Qv φ (fun x => kB D cA (va_A wa H.size) (w x)) (va_A wa H.size) as) (va_A wa H.size)) (hP : va_P D vwCl ws H) (hD : va_D A ws) (hS : va_S A H0 H locs) (hA : ∀ q, H0.size ≤ q → A q)
    (kk : ∀ (x : X) (H1 : Heap) (locs1 : List Loc), φ x → va_P D vwCl (w x ++ wb) H1 → va_D A (w x ++ wb) → va_S A H0 H1 locs1 → W p l e R s m args below meth c H1 locs1 (cells + mc) (slots + ms) Q (F0 m (pc + 3) ls rest)) : W p l e R s m args below meth c H locs cells slots Q (F0 m pc ls st0) := by
  have hP' := kj_P hpm hP
  have hD' := kj_D hpm hD
  have hDa : va_D A wa := ⟨fun i j p q hi hj => hD'.1 i j p q (by rw [List.getElem?_append_left (List.getElem?_eq_some_iff.mp hi).1]; exact hi) (by rw [List.getElem?_append_left (List.getElem?_eq_some_iff.mp hj).1]; exact hj), fun k q hk => hD'.2 k q (by rw [List.getElem?_append_left (List.getElem?_eq_some_iff.mp hk).1]; exact hk)⟩
  have hF := kp_A hDa hS hA
  refine va_callv hr hS (fun q _ h => hF q h) hF (fun u t H1 locs1 ht hvm hw hB hz1 hk1 hS1 => ?_)
  obtain ⟨b1, b2, b3⟩ := hB
  rw [ht] at b1
  obtain ⟨j1, j2⟩ := kj_join hP' hD' hk1 b1 b3 hF
  exact kk u H1 locs1 hw j1 j2 hS1
/-- a call that throws in any case, of a part of this world -/
theorem kj_t {E0 : String} (hpm : ws.Perm (wa ++ wb)) (hr : vx_Run p l e R s m args below meth c H locs cells slots mc ms (F0 m pc ls st0) rest (kNo as) (kXC D cA wa E0 (va_A wa H.size)) (va_A wa H.size)) (hP : va_P D vwCl ws H) (hD : va_D A ws) (hS : va_S A H0 H locs) (hA : ∀ q, H0.size ≤ q → A q)
    (kk : ∀ (ce : Cell) (q9 : Addr) (H1 : Heap) (locs1 : List Loc), va_P D vwCl (wa ++ wb) H1 → va_D A (wa ++ wb) → va_S A H0 H1 locs1 → H1[q9]? = some ce → ce.vm = .none → s.vm.findClass E0 = some ce.cls → vx_W p l e R s m args below meth c H1 locs1 (cells + mc) (slots + ms) Q (F0 m pc ls rest) q9) : W p l e R s m args below meth c H locs cells slots Q (F0 m pc ls st0) := by
  have hP' := kj_P hpm hP
  have hD' := kj_D hpm hD
  have hDa : va_D A wa := ⟨fun i j p q hi hj => hD'.1 i j p q (by rw [List.getElem?_append_left (List.getElem?_eq_some_iff.mp hi).1]; exact hi) (by rw [List.getElem?_append_left (List.getElem?_eq_some_iff.mp hj).1]; exact hj), fun k q hk => hD'.2 k q (by rw [List.getElem?_append_left (List.getElem?_eq_some_iff.mp hk).1]; exact hk)⟩
  have hF := kp_A hDa hS hA
  intro T hT Y
  rcases hr T hT Y with ⟨v, st₀, t, T', L, h0, X', hL, e1, e2, hno, st⟩ | ⟨q, st₀, t, T', L, E, ce, h0, X', hL, e1, e2, ⟨u, hp, ⟨rfl, b1, b2, b3⟩, hFr⟩, hce, hcv, hcl, st⟩
  · exact hno.elim
  · obtain ⟨k1, k2, k3⟩ := vx_keep h0 e1 hS (fun q _ h => hF q h) hF hL hFr
    have b1' : va_P D vwCl wa T'.heap := by rw [e1]; exact b1
    obtain ⟨j1, j2⟩ := kj_join hP' hD' k2 b1' b3 hF
    obtain ⟨t2, a1, z1⟩ := kk ce q T'.heap (locs ++ L) j1 j2 k3 (by rw [e1]; exact hce) hcv hcl T' rfl X'
    exact ⟨t2, st.trans a1, z1⟩
/-- the part of the world that a callee finds -/
theorem kj_at (hpm : ws.Perm (wa ++ wb)) (hK : va_K D vwCl (ty6 cA) s) (hP : va_P D vwCl ws H) (hD : va_D A ws) (hTB : TBok s) {U : State} (hU : U.heap = H) (hW : s.WarmedH U.vm) : kPre D cA wa H.size U := by
  have hP' := kj_P hpm hP
  have hD' := kj_D hpm hD
  refine kp_at (A := A) hK (fun k q hk => hP' k q (by rw [List.getElem?_append_left (List.getElem?_eq_some_iff.mp hk).1]; exact hk)) ⟨fun i j p q hi hj => hD'.1 i j p q (by rw [List.getElem?_append_left (List.getElem?_eq_some_iff.mp hi).1]; exact hi) (by rw [List.getElem?_append_left (List.getElem?_eq_some_iff.mp hj).1]; exact hj), fun k q hk => hD'.2 k q (by rw [List.getElem?_append_left (List.getElem?_eq_some_iff.mp hk).1]; exact hk)⟩ hTB hU hW
theorem kj_FA (hpm : ws.Perm (wa ++ wb)) (hD : va_D A ws) (hS : va_S A H0 H locs) (hA : ∀ q, H0.size ≤ q → A q) : ∀ q, va_A wa H.size q → A q := by
  have hD' := kj_D hpm hD
  exact kp_A ⟨fun i j p q hi hj => hD'.1 i j p q (by rw [List.getElem?_append_left (List.getElem?_eq_some_iff.mp hi).1]; exact hi) (by rw [List.getElem?_append_left (List.getElem?_eq_some_iff.mp hj).1]; exact hj), fun k q hk => hD'.2 k q (by rw [List.getElem?_append_left (List.getElem?_eq_some_iff.mp hk).1]; exact hk)⟩ hS hA
theorem kj_V (hpm : ws.Perm (wa ++ wb)) (hK : va_K D vwCl (ty6 cA) s) (hP : va_P D vwCl ws H) (hD : va_D A ws) (hTB : TBok s) {C : String} (hrc : ∃ cell : Cell, H[b]? = some cell ∧ cell.vm.isStatics = false ∧ s.vm.findClass C = some cell.cls) : PreV s H C b (va_Pc (.ref b :: As) (kPre D cA wa H.size)) As :=
  ⟨kPre.blind, hrc, fun _ hU hW => ⟨rfl, kj_at hpm hK hP hD hTB hU hW⟩⟩
theorem kj_VX (hpm : ws.Perm (wa ++ wb)) (hK : va_K D vwCl (ty6 cA) s) (hP : va_P D vwCl ws H) (hD : va_D A ws) (hTB : TBok s) (hTX : TXok A s) (hS : va_S A s.heap H locs) (hA : ∀ q, s.heap.size ≤ q → A q) {C : String} (hrc : ∃ cell : Cell, H[b]? = some cell ∧ cell.vm.isStatics = false ∧ s.vm.findClass C = some cell.cls) : PreV s H C b (va_Pc (.ref b :: As) (kPreX D cA wa H.size)) As :=
  ⟨kPreX.blind, hrc, fun _ hU hW => ⟨rfl, kj_at hpm hK hP hD hTB hU hW, hTX.at hS (kj_FA hpm hD hS hA) hU hW⟩⟩
theorem kj_SX (hpm : ws.Perm (wa ++ wb)) (hK : va_K D vwCl (ty6 cA) s) (hP : va_P D vwCl ws H) (hD : va_D A ws) (hTB : TBok s) (hTX : TXok A s) (hS : va_S A s.heap H locs) (hA : ∀ q, s.heap.size ≤ q → A q) : PreS s H (va_Pc As (kPreX D cA wa H.size)) As :=
  ⟨kPreX.blind, fun _ hU hW => ⟨rfl, kj_at hpm hK hP hD hTB hU hW, hTX.at hS (kj_FA hpm hD hS hA) hU hW⟩⟩
theorem kj_S (hpm : ws.Perm (wa ++ wb)) (hK : va_K D vwCl (ty6 cA) s) (hP : va_P D vwCl ws H) (hD : va_D A ws) (hTB : TBok s) : PreS s H (va_Pc As (kPre D cA wa H.size)) As :=
  ⟨kPre.blind, fun _ hU hW => ⟨rfl, kj_at hpm hK hP hD hTB hU hW⟩⟩
end KJ
/-- a method with a table of its own, that returns -/
theorem kt_ofWH {l : Launch} {y : MethodName} {ws ws' : List Cond} {rm : Room} {Pc : Array Value → State → Prop} {Qc : Array Value → State → Outcome → State → Prop} {mc ms : Nat} {free : Addr → Prop} {cc : ByteArray} {maxL : Nat} {ret : Option FieldType} {hh : List (Nat × Nat × Nat × Nat)}
    (hy : plainName y.cls = true) (hw : ws = Cond.codeWith y cc maxL ret hh :: ws')
    (body : ∀ p e s m args below meth c s₁, BodyLoose p l y (headSpec ws rm) cc maxL ret e s m args below meth c s₁ → c.maxLocals = maxL → c.exceptionTable.toList = tableOf hh → Pc args s →
      W p l e (headSpec ws rm).room s m args below meth c s.heap [] 0 0 (MQ below Qc args s mc ms free) (entryFrame m args maxL)) : Met l y ws rm Pc Qc mc ms free := by
  refine MetFree.of_bodyS (code := cc) (maxLocals := maxL) (ret := ret) hy ?_ ?_
  · intro args s m h hn
    obtain ⟨m9, meth, c, hn9, h1, h2, h3, h4, -, h5, h6, -⟩ := Cond.codeWith_spec (atoms_spec (ws := ws) h _ (by rw [hw]; exact List.mem_cons_self))
    cases hn.symm.trans hn9
    exact ⟨meth, c, h1, h2, h3, h4, h5, h6⟩
  · intro p e s m args below meth c s₁ B hml hP _
    have hh0 : s₁.heap = s.heap := by rw [B.state]; rfl
    have hcw : (Cond.codeWith y cc maxL ret hh).before args s = true := atoms_spec (ws := ws) B.pre _ (by rw [hw]; exact List.mem_cons_self)
    obtain ⟨t, a1, o, b1, b2, b3⟩ := body p e s m args below meth c s₁ B hml (vx_table (x := y) B hcw) hP s₁ hh0 (Stand.of_body B)
    exact ⟨t, o, a1, b1, b2, b3⟩
theorem kw_get {wa : va_W} {q : Nat × va_E} : (wa ++ [q])[wa.length]? = some q := by simp
theorem kw_set {wa : va_W} {q q' : Nat × va_E} : (wa ++ [q]).set wa.length q' = wa ++ [q'] := by
  rw [List.set_append_right _ _ (Nat.le_refl _)]
  simp
section KW
variable {p : Program} {l : Launch} {e : Env} {R : Room} {s : State} {m : MethodId} {args : Array Value} {below : List Frame} {meth : Method} {c : Code} {H : Heap} {locs : List Loc} {cells slots mc ms : Nat} {Q : State → Prop}
variable {cc : ByteArray} {pc : Nat} {ls : Array Slot} {st0 rest : List Value} {D : va_G} {A : Nat → Prop} {a b : Nat} {H0 : Heap} {cA : Nat → ClassId} {wa : va_W}
abbrev oJ (cA : Nat → ClassId) (a : Nat) (f : Nat → Int64) : Nat × va_E := (a, .inl (cA 1, 1, .inr (.inl f)))
abbrev oD (cA : Nat → ClassId) (a : Nat) (f : Nat → UInt64) : Nat × va_E := (a, .inl (cA 3, 1, .inr (.inr (.inr (.inl f)))))
theorem kw_last {f : Nat → Int64} {x : Int64} (hexec : p.tables.exec = Jvm.exec) (hb : c.code = cc) (hK : va_K D vwCl (ty6 cA) s) (hP : va_P D vwCl (wa ++ [oJ cA a f]) H) (hD : va_D A (wa ++ [oJ cA a f])) (hS : va_S A H0 H locs) (hdg : decode cc pc = .ok (.lastore, 1))
    (kk : ∀ (H1 : Heap) (locs1 : List Loc), va_P D vwCl (wa ++ [oJ cA a (vp_updL f 0 x)]) H1 → va_D A (wa ++ [oJ cA a (vp_updL f 0 x)]) → va_S A H0 H1 locs1 → W p l e R s m args below meth c H1 locs1 cells slots Q (F0 m (pc + 1) ls rest)) : W p l e R s m args below meth c H locs cells slots Q (F0 m pc ls (.long x :: .int 0 :: .ref a :: rest)) := by
  refine va_last hexec hb hK hP hD hS wa.length 1 kw_get rfl (vp_in_iff.mpr (by decide)) hdg (fun H1 locs1 a1 a2 a3 => ?_)
  rw [kw_set] at a1 a2
  exact kk H1 locs1 a1 a2 a3
theorem kw_dast {f : Nat → UInt64} {x : UInt64} (hexec : p.tables.exec = Jvm.exec) (hb : c.code = cc) (hK : va_K D vwCl (ty6 cA) s) (hP : va_P D vwCl (wa ++ [oD cA a f]) H) (hD : va_D A (wa ++ [oD cA a f])) (hS : va_S A H0 H locs) (hdg : decode cc pc = .ok (.dastore, 1))
    (kk : ∀ (H1 : Heap) (locs1 : List Loc), va_P D vwCl (wa ++ [oD cA a (vf_upd f 0 x)]) H1 → va_D A (wa ++ [oD cA a (vf_upd f 0 x)]) → va_S A H0 H1 locs1 → W p l e R s m args below meth c H1 locs1 cells slots Q (F0 m (pc + 1) ls rest)) : W p l e R s m args below meth c H locs cells slots Q (F0 m pc ls (.double x :: .int 0 :: .ref a :: rest)) := by
  refine va_dast hexec hb hK hP hD hS wa.length 3 kw_get rfl (vp_in_iff.mpr (by decide)) hdg (fun H1 locs1 a1 a2 a3 => ?_)
  rw [kw_set] at a1 a2
  exact kk H1 locs1 a1 a2 a3
theorem kj_rc {ws : va_W} {S : Pool} (hpm : ws.Perm (PW cA S ++ wa)) (hK : va_K D vwCl (ty6 cA) s) (hP : va_P D vwCl ws H) {ci N : Nat} {C : String} {T : u_T} (ho : isO S b ci) (hci : ci < 6) (hc : vwCl[ci]? = some (C, T, N)) : ∃ cell : Cell, H[b]? = some cell ∧ cell.vm.isStatics = false ∧ s.vm.findClass C = some cell.cls := by
  have hP' := kj_P hpm hP
  exact kp_rc hK (fun k q hk => hP' k q (by rw [List.getElem?_append_left (List.getElem?_eq_some_iff.mp hk).1]; exact hk)) ho hci hc
end KW
theorem n_ca : ∀ E, E = "java/lang/IndexOutOfBoundsException" ∨ E = "java/lang/IllegalArgumentException" ∨ E = "java/lang/IllegalStateException" → Cond.castable E E ∈ TB := by
  intro E h
  rcases h with rfl | rfl | rfl
  · exact List.mem_of_getElem? (i := 0) (by decide +kernel)
  · exact List.mem_of_getElem? (i := 1) (by decide +kernel)
  · exact List.mem_of_getElem? (i := 2) (by decide +kernel)
end
section
/-! rows over a pool with more cells behind it -/
theorem kmy_P {D : va_G} {wa wb : va_W} {H : Heap} (h : va_P D vwCl (wa ++ wb) H) : va_P D vwCl wa H := fun k q hk => h k q (by rw [List.getElem?_append_left (List.getElem?_eq_some_iff.mp hk).1]; exact hk)
theorem kmy_D {A : Nat → Prop} {wa wb : va_W} (h : va_D A (wa ++ wb)) : va_D A wa := ⟨fun i j p q hi hj => h.1 i j p q (by rw [List.getElem?_append_left (List.getElem?_eq_some_iff.mp hi).1]; exact hi) (by rw [List.getElem?_append_left (List.getElem?_eq_some_iff.mp hj).1]; exact hj), fun k q hk => h.2 k q (by rw [List.getElem?_append_left (List.getElem?_eq_some_iff.mp hk).1]; exact hk)⟩
theorem kmy_at {wa wb : va_W} {k : Nat} {q : Nat × va_E} (h : wa[k]? = some q) : (wa ++ wb)[k]? = some q := by rw [List.getElem?_append_left (List.getElem?_eq_some_iff.mp h).1]; exact h
theorem kmy_set {wa wb : va_W} {k : Nat} {q q2 : Nat × va_E} (h : wa[k]? = some q) : (wa ++ wb).set k q2 = wa.set k q2 ++ wb := List.set_append_left _ _ (List.getElem?_eq_some_iff.mp h).1
theorem kmy_perm {wa wb : va_W} {q : Nat × va_E} : ((wa ++ wb) ++ [q]).Perm ((wa ++ [q]) ++ wb) := by
  rw [List.append_assoc, List.append_assoc]
  exact List.Perm.append_left wa List.perm_append_comm
section KY
variable {p : Program} {l : Launch} {e : Env} {R : Room} {s : State} {m : MethodId} {args : Array Value} {below : List Frame} {meth : Method} {c : Code} {H : Heap} {locs : List Loc} {cells slots : Nat} {Q : State → Prop}
variable {cc : ByteArray} {pc : Nat} {ls : Array Slot} {rest : List Value} {D : va_G} {A : Nat → Prop} {a : Nat} {H0 : Heap} {cA : Nat → ClassId} {S : Pool} {wb : va_W}
theorem ky_iast (hexec : p.tables.exec = Jvm.exec) (hb : c.code = cc) (hK : va_K D vwCl (ty6 cA) s) (hP : va_P D vwCl (PW cA S ++ wb) H) (hD : va_D A (PW cA S ++ wb)) (hS : va_S A H0 H locs) {ki n : Nat} (ho : isA S a ki n) (h6 : 6 ≤ ki) (h20 : ki < 20) {i x : Int32} (hin : vp_in i n) (hdg : decode cc pc = .ok (.iastore, 1))
    (kk : ∀ (H1 : Heap) (locs1 : List Loc), va_P D vwCl (PW cA (pR S a i.toNatClampNeg x) ++ wb) H1 → va_D A (PW cA (pR S a i.toNatClampNeg x) ++ wb) → va_S A H0 H1 locs1 → W p l e R s m args below meth c H1 locs1 cells slots Q (F0 m (pc + 1) ls rest)) : W p l e R s m args below meth c H locs cells slots Q (F0 m pc ls (.int x :: .int i :: .ref a :: rest)) := by
  obtain ⟨q0, h0⟩ := pw_get (cA := cA) ho.1
  have h1 : (PW cA S)[q0]? = some (a, .inl (cA 0, gN S a, .inl (gR S a))) := by rw [h0, pcell_i ho.2.1 h6 h20]
  have hw : (PW cA S).set q0 (a, .inl (cA 0, gN S a, .inl (upd (gR S a) i.toNatClampNeg x))) = PW cA (pR S a i.toNatClampNeg x) := by
    refine pw_set (kmy_D hD) ho.1 h0 ?_ ?_
    · rw [pcell_i (S := pR S a i.toNatClampNeg x) ho.2.1 h6 h20, show gR (pR S a i.toNatClampNeg x) a = upd (gR S a) i.toNatClampNeg x from u2_upd]
    · intro b hb
      exact pcell_ne (S' := pR S a i.toNatClampNeg x) rfl rfl rfl rfl (u2_row hb) rfl rfl
  refine va_iast hexec hb hK hP hD hS q0 0 (kmy_at h1) rfl (by rw [ho.2.2]; exact hin) hdg (fun H1 locs1 a1 a2 a3 => ?_)
  rw [kmy_set h0, hw] at a1 a2
  exact kk H1 locs1 a1 a2 a3
theorem kd_puti (hexec : p.tables.exec = Jvm.exec) (hb : c.code = cc) {own C : String} {T : u_T} {N index : Nat} {Ts : List Cond} (hts : ∀ w ∈ Ts, w.before args s = true) (hin : ∀ w ∈ u_ws C T N, w ∈ Ts) (ty0 : Nat → FieldType) (hty : ∀ k, k < N → parseFieldDescriptor (T k).2.2.1 = some (ty0 k)) (hnm : ∀ a, a < N → ∀ b, b < N → a ≠ b → (T a).2.1 ≠ (T b).2.1) (hown : s.vm.findClass own = some m.cls) (hK : va_K D vwCl (ty6 cA) s) (hP : va_P D vwCl (PW cA S ++ wb) H) (hD : va_D A (PW cA S ++ wb)) (hS : va_S A H0 H locs) (ho : isO S a 23) (hc : vwCl[6]? = some (C, T, N)) (k : Nat) (hk : k < N) (hk2 : k < 11) (hi : isR 23 k = false) (hlink : (Cond.fieldLink own index (T k).1 (T k).2.1 (T k).2.2.1).before args s = true) (hfin : (T k).2.2.2 = false) {ty : FieldType} {x : Int32} (hd : parseFieldDescriptor (T k).2.2.1 = some ty) (hn : narrow ty (.int x) = .int x) (hfit : fits ty (.int x) = true) (hdg : decode cc pc = .ok (.putfield index, 3))
    (kk : ∀ (H1 : Heap) (locs1 : List Loc), va_P D vwCl (PW cA (pI S a k x) ++ wb) H1 → va_D A (PW cA (pI S a k x) ++ wb) → va_S A H0 H1 locs1 → W p l e R s m args below meth c H1 locs1 cells slots Q (F0 m (pc + 3) ls rest)) : W p l e R s m args below meth c H locs cells slots Q (F0 m pc ls (.int x :: .ref a :: rest)) := by
  obtain ⟨q0, h0⟩ := pw_get (cA := cA) ho.1
  have h1 : (PW cA S)[q0]? = some (a, .inr (6, (List.range (11)).map (pv S 23 a))) := by rw [h0, pcell_d ho.2]
  have hw : (PW cA S).set q0 (a, .inr (6, ((List.range (11)).map (pv S 23 a)).set k (.int x))) = PW cA (pI S a k x) := by
    refine pw_set (kmy_D hD) ho.1 h0 ?_ ?_
    · rw [pcell_d (S := pI S a k x) ho.2]
      rw [map_set (g' := pv (pI S a k x) 23 a)]
      · intro _; show (if isR 23 k = true then va_rf (gQ S a k) else Value.int (u2 (gI S) a k x a k)) = _; rw [hi, u2_s]; rfl
      · intro j hj
        unfold pv
        rw [show gI (pI S a k x) a j = gI S a j from u2_k hj]
    · intro b hb
      exact pcell_ne (S' := pI S a k x) rfl rfl (u2_row hb) rfl rfl rfl rfl
  refine va_put hexec hb hts hin ty0 hty hnm hown hK hP hD hS q0 (kmy_at h1) hc k hk hlink (fun _ h9 => h9) hfin hd hn hfit (by simp [hk2]) hdg (fun H1 locs1 a1 a2 a3 => ?_)
  rw [kmy_set h0, hw] at a1 a2
  exact kk H1 locs1 a1 a2 a3
theorem kd_putr (hexec : p.tables.exec = Jvm.exec) (hb : c.code = cc) {own C : String} {T : u_T} {N index : Nat} {Ts : List Cond} (hts : ∀ w ∈ Ts, w.before args s = true) (hin : ∀ w ∈ u_ws C T N, w ∈ Ts) (ty0 : Nat → FieldType) (hty : ∀ k, k < N → parseFieldDescriptor (T k).2.2.1 = some (ty0 k)) (hnm : ∀ a, a < N → ∀ b, b < N → a ≠ b → (T a).2.1 ≠ (T b).2.1) (hown : s.vm.findClass own = some m.cls) (hK : va_K D vwCl (ty6 cA) s) (hP : va_P D vwCl (PW cA S ++ wb) H) (hD : va_D A (PW cA S ++ wb)) (hS : va_S A H0 H locs) (ho : isO S a 23) (hc : vwCl[6]? = some (C, T, N)) (k : Nat) (hk : k < N) (hk2 : k < 11) (hi : isR 23 k = true) (hlink : (Cond.fieldLink own index (T k).1 (T k).2.1 (T k).2.2.1).before args s = true) (hfin : (T k).2.2.2 = false) {ty : FieldType} {r : Option Nat} (hd : parseFieldDescriptor (T k).2.2.1 = some ty) (hn : narrow ty (va_rf r) = va_rf r) (hfit : fits ty (va_rf r) = true) (hdg : decode cc pc = .ok (.putfield index, 3))
    (kk : ∀ (H1 : Heap) (locs1 : List Loc), va_P D vwCl (PW cA (pQ S a k r) ++ wb) H1 → va_D A (PW cA (pQ S a k r) ++ wb) → va_S A H0 H1 locs1 → W p l e R s m args below meth c H1 locs1 cells slots Q (F0 m (pc + 3) ls rest)) : W p l e R s m args below meth c H locs cells slots Q (F0 m pc ls (va_rf r :: .ref a :: rest)) := by
  obtain ⟨q0, h0⟩ := pw_get (cA := cA) ho.1
  have h1 : (PW cA S)[q0]? = some (a, .inr (6, (List.range (11)).map (pv S 23 a))) := by rw [h0, pcell_d ho.2]
  have hw : (PW cA S).set q0 (a, .inr (6, ((List.range (11)).map (pv S 23 a)).set k (va_rf r))) = PW cA (pQ S a k r) := by
    refine pw_set (kmy_D hD) ho.1 h0 ?_ ?_
    · rw [pcell_d (S := pQ S a k r) ho.2]
      rw [map_set (g' := pv (pQ S a k r) 23 a)]
      · intro _; show (if isR 23 k = true then va_rf (u2 (gQ S) a k r a k) else Value.int (gI S a k)) = _; rw [hi, u2_s]; rfl
      · intro j hj
        unfold pv
        rw [show gQ (pQ S a k r) a j = gQ S a j from u2_k hj]
    · intro b hb
      exact pcell_ne (S' := pQ S a k r) rfl rfl rfl (u2_row hb) rfl rfl rfl
  refine va_put hexec hb hts hin ty0 hty hnm hown hK hP hD hS q0 (kmy_at h1) hc k hk hlink (fun _ h9 => h9) hfin hd hn hfit (by simp [hk2]) hdg (fun H1 locs1 a1 a2 a3 => ?_)
  rw [kmy_set h0, hw] at a1 a2
  exact kk H1 locs1 a1 a2 a3
theorem kd_putiF (hexec : p.tables.exec = Jvm.exec) (hb : c.code = cc) {own C : String} {T : u_T} {N index : Nat} {Ts : List Cond} (hts : ∀ w ∈ Ts, w.before args s = true) (hin : ∀ w ∈ u_ws C T N, w ∈ Ts) (ty0 : Nat → FieldType) (hty : ∀ k, k < N → parseFieldDescriptor (T k).2.2.1 = some (ty0 k)) (hnm : ∀ a, a < N → ∀ b, b < N → a ≠ b → (T a).2.1 ≠ (T b).2.1) (hown : s.vm.findClass own = some m.cls) (hK : va_K D vwCl (ty6 cA) s) (hP : va_P D vwCl (PW cA S ++ wb) H) (hD : va_D A (PW cA S ++ wb)) (hS : va_S A H0 H locs) (ho : isO S a 23) (hc : vwCl[6]? = some (C, T, N)) (k : Nat) (hk : k < N) (hk2 : k < 11) (hi : isR 23 k = false) (hlink : (Cond.fieldLink own index (T k).1 (T k).2.1 (T k).2.2.1).before args s = true) (hfin : (T k).2.2.2 = true) (hin2 : meth.name = "<init>") (hdecl : (T k).1 = own) {ty : FieldType} {x : Int32} (hd : parseFieldDescriptor (T k).2.2.1 = some ty) (hn : narrow ty (.int x) = .int x) (hfit : fits ty (.int x) = true) (hdg : decode cc pc = .ok (.putfield index, 3))
    (kk : ∀ (H1 : Heap) (locs1 : List Loc), va_P D vwCl (PW cA (pI S a k x) ++ wb) H1 → va_D A (PW cA (pI S a k x) ++ wb) → va_S A H0 H1 locs1 → W p l e R s m args below meth c H1 locs1 cells slots Q (F0 m (pc + 3) ls rest)) : W p l e R s m args below meth c H locs cells slots Q (F0 m pc ls (.int x :: .ref a :: rest)) := by
  obtain ⟨q0, h0⟩ := pw_get (cA := cA) ho.1
  have h1 : (PW cA S)[q0]? = some (a, .inr (6, (List.range (11)).map (pv S 23 a))) := by rw [h0, pcell_d ho.2]
  have hw : (PW cA S).set q0 (a, .inr (6, ((List.range (11)).map (pv S 23 a)).set k (.int x))) = PW cA (pI S a k x) := by
    refine pw_set (kmy_D hD) ho.1 h0 ?_ ?_
    · rw [pcell_d (S := pI S a k x) ho.2]
      rw [map_set (g' := pv (pI S a k x) 23 a)]
      · intro _; show (if isR 23 k = true then va_rf (gQ S a k) else Value.int (u2 (gI S) a k x a k)) = _; rw [hi, u2_s]; rfl
      · intro j hj
        unfold pv
        rw [show gI (pI S a k x) a j = gI S a j from u2_k hj]
    · intro b hb
      exact pcell_ne (S' := pI S a k x) rfl rfl (u2_row hb) rfl rfl rfl rfl
  refine va_putF hexec hb hts hin ty0 hty hnm hown hK hP hD hS q0 (kmy_at h1) hc k hk hlink (fun _ h9 => h9) hfin hin2 hdecl hd hn hfit (by simp [hk2]) hdg (fun H1 locs1 a1 a2 a3 => ?_)
  rw [kmy_set h0, hw] at a1 a2
  exact kk H1 locs1 a1 a2 a3
theorem kd_putrF (hexec : p.tables.exec = Jvm.exec) (hb : c.code = cc) {own C : String} {T : u_T} {N index : Nat} {Ts : List Cond} (hts : ∀ w ∈ Ts, w.before args s = true) (hin : ∀ w ∈ u_ws C T N, w ∈ Ts) (ty0 : Nat → FieldType) (hty : ∀ k, k < N → parseFieldDescriptor (T k).2.2.1 = some (ty0 k)) (hnm : ∀ a, a < N → ∀ b, b < N → a ≠ b → (T a).2.1 ≠ (T b).2.1) (hown : s.vm.findClass own = some m.cls) (hK : va_K D vwCl (ty6 cA) s) (hP : va_P D vwCl (PW cA S ++ wb) H) (hD : va_D A (PW cA S ++ wb)) (hS : va_S A H0 H locs) (ho : isO S a 23) (hc : vwCl[6]? = some (C, T, N)) (k : Nat) (hk : k < N) (hk2 : k < 11) (hi : isR 23 k = true) (hlink : (Cond.fieldLink own index (T k).1 (T k).2.1 (T k).2.2.1).before args s = true) (hfin : (T k).2.2.2 = true) (hin2 : meth.name = "<init>") (hdecl : (T k).1 = own) {ty : FieldType} {r : Option Nat} (hd : parseFieldDescriptor (T k).2.2.1 = some ty) (hn : narrow ty (va_rf r) = va_rf r) (hfit : fits ty (va_rf r) = true) (hdg : decode cc pc = .ok (.putfield index, 3))
    (kk : ∀ (H1 : Heap) (locs1 : List Loc), va_P D vwCl (PW cA (pQ S a k r) ++ wb) H1 → va_D A (PW cA (pQ S a k r) ++ wb) → va_S A H0 H1 locs1 → W p l e R s m args below meth c H1 locs1 cells slots Q (F0 m (pc + 3) ls rest)) : W p l e R s m args below meth c H locs cells slots Q (F0 m pc ls (va_rf r :: .ref a :: rest)) := by
  obtain ⟨q0, h0⟩ := pw_get (cA := cA) ho.1
  have h1 : (PW cA S)[q0]? = some (a, .inr (6, (List.range (11)).map (pv S 23 a))) := by rw [h0, pcell_d ho.2]
  have hw : (PW cA S).set q0 (a, .inr (6, ((List.range (11)).map (pv S 23 a)).set k (va_rf r))) = PW cA (pQ S a k r) := by
    refine pw_set (kmy_D hD) ho.1 h0 ?_ ?_
    · rw [pcell_d (S := pQ S a k r) ho.2]
      rw [map_set (g' := pv (pQ S a k r) 23 a)]
      · intro _; show (if isR 23 k = true then va_rf (u2 (gQ S) a k r a k) else Value.int (gI S a k)) = _; rw [hi, u2_s]; rfl
      · intro j hj
        unfold pv
        rw [show gQ (pQ S a k r) a j = gQ S a j from u2_k hj]
    · intro b hb
      exact pcell_ne (S' := pQ S a k r) rfl rfl rfl (u2_row hb) rfl rfl rfl
  refine va_putF hexec hb hts hin ty0 hty hnm hown hK hP hD hS q0 (kmy_at h1) hc k hk hlink (fun _ h9 => h9) hfin hin2 hdecl hd hn hfit (by simp [hk2]) hdg (fun H1 locs1 a1 a2 a3 => ?_)
  rw [kmy_set h0, hw] at a1 a2
  exact kk H1 locs1 a1 a2 a3
theorem kd_geti (hexec : p.tables.exec = Jvm.exec) (hb : c.code = cc) {own C : String} {T : u_T} {N index : Nat} {Ts : List Cond} (hts : ∀ w ∈ Ts, w.before args s = true) (hin : ∀ w ∈ u_ws C T N, w ∈ Ts) (hown : s.vm.findClass own = some m.cls) (hK : va_K D vwCl (ty6 cA) s) (hP : va_P D vwCl (PW cA S ++ wb) H) (ho : isO S a 23) (hc : vwCl[6]? = some (C, T, N)) (k : Nat) (hk : k < N) (hk2 : k < 11) (hi : isR 23 k = false) (hlink : (Cond.fieldLink own index (T k).1 (T k).2.1 (T k).2.2.1).before args s = true) (hdg : decode cc pc = .ok (.getfield index, 3))
    (kk : W p l e R s m args below meth c H locs cells slots Q (F0 m (pc + 3) ls (.int (gI S a k) :: rest))) : W p l e R s m args below meth c H locs cells slots Q (F0 m pc ls (.ref a :: rest)) := by
  obtain ⟨q0, h0⟩ := pw_get (cA := cA) ho.1
  rw [pcell_d ho.2] at h0
  refine va_get hexec hb hts hin hown hK (kmy_P hP) q0 h0 hc k hk hlink (fun _ h9 => h9) (v := .int (gI S a k)) ?_ hdg kk
  simp [hk2, pv, hi]
theorem kd_getr (hexec : p.tables.exec = Jvm.exec) (hb : c.code = cc) {own C : String} {T : u_T} {N index : Nat} {Ts : List Cond} (hts : ∀ w ∈ Ts, w.before args s = true) (hin : ∀ w ∈ u_ws C T N, w ∈ Ts) (hown : s.vm.findClass own = some m.cls) (hK : va_K D vwCl (ty6 cA) s) (hP : va_P D vwCl (PW cA S ++ wb) H) (ho : isO S a 23) (hc : vwCl[6]? = some (C, T, N)) (k : Nat) (hk : k < N) (hk2 : k < 11) (hi : isR 23 k = true) {r : Option Nat} (hr : gQ S a k = r) (hlink : (Cond.fieldLink own index (T k).1 (T k).2.1 (T k).2.2.1).before args s = true) (hdg : decode cc pc = .ok (.getfield index, 3))
    (kk : W p l e R s m args below meth c H locs cells slots Q (F0 m (pc + 3) ls (va_rf r :: rest))) : W p l e R s m args below meth c H locs cells slots Q (F0 m pc ls (.ref a :: rest)) := by
  obtain ⟨q0, h0⟩ := pw_get (cA := cA) ho.1
  rw [pcell_d ho.2] at h0
  refine va_get hexec hb hts hin hown hK (kmy_P hP) q0 h0 hc k hk hlink (fun _ h9 => h9) (v := va_rf r) ?_ hdg kk
  simp [hk2, pv, hi, ← hr]
theorem kd_getiv (hexec : p.tables.exec = Jvm.exec) (hb : c.code = cc) {own C : String} {T : u_T} {N index : Nat} {Ts : List Cond} (hts : ∀ w ∈ Ts, w.before args s = true) (hin : ∀ w ∈ u_ws C T N, w ∈ Ts) (hown : s.vm.findClass own = some m.cls) (hK : va_K D vwCl (ty6 cA) s) (hP : va_P D vwCl (PW cA S ++ wb) H) (ho : isO S a 23) (hc : vwCl[6]? = some (C, T, N)) (k : Nat) (hk : k < N) (hk2 : k < 11) (hi : isR 23 k = false) (hlink : (Cond.fieldLink own index (T k).1 (T k).2.1 (T k).2.2.1).before args s = true) {x : Int32} (hx9 : gI S a k = x) (hdg : decode cc pc = .ok (.getfield index, 3))
    (kk : W p l e R s m args below meth c H locs cells slots Q (F0 m (pc + 3) ls (.int x :: rest))) : W p l e R s m args below meth c H locs cells slots Q (F0 m pc ls (.ref a :: rest)) := by
  subst hx9
  exact kd_geti hexec hb hts hin hown hK hP ho hc k hk hk2 hi hlink hdg kk
theorem kd_gets (hexec : p.tables.exec = Jvm.exec) (hb : c.code = cc) {own C : String} {T : u_T} {N index : Nat} {Ts : List Cond} (hts : ∀ w ∈ Ts, w.before args s = true) (hin : ∀ w ∈ u_ws C T N, w ∈ Ts) (hown : s.vm.findClass own = some m.cls) (hK : va_K D vwCl (ty6 cA) s) (hP : va_P D vwCl (PW cA S ++ wb) H) (ho : isO S a 23) (hc : vwCl[6]? = some (C, T, N)) (k : Nat) (hk : k < N) (hk2 : k < 11) (hi : isR 23 k = true) {r : Nat} (hr : gQ S a k = some r) (hlink : (Cond.fieldLink own index (T k).1 (T k).2.1 (T k).2.2.1).before args s = true) (hdg : decode cc pc = .ok (.getfield index, 3))
    (kk : W p l e R s m args below meth c H locs cells slots Q (F0 m (pc + 3) ls (.ref r :: rest))) : W p l e R s m args below meth c H locs cells slots Q (F0 m pc ls (.ref a :: rest)) := kd_getr hexec hb hts hin hown hK hP ho hc k hk hk2 hi hr hlink hdg kk
theorem kd_getz (hexec : p.tables.exec = Jvm.exec) (hb : c.code = cc) {own C : String} {T : u_T} {N index : Nat} {Ts : List Cond} (hts : ∀ w ∈ Ts, w.before args s = true) (hin : ∀ w ∈ u_ws C T N, w ∈ Ts) (hown : s.vm.findClass own = some m.cls) (hK : va_K D vwCl (ty6 cA) s) (hP : va_P D vwCl (PW cA S ++ wb) H) (ho : isO S a 23) (hc : vwCl[6]? = some (C, T, N)) (k : Nat) (hk : k < N) (hk2 : k < 11) (hi : isR 23 k = true) (hr : gQ S a k = none) (hlink : (Cond.fieldLink own index (T k).1 (T k).2.1 (T k).2.2.1).before args s = true) (hdg : decode cc pc = .ok (.getfield index, 3))
    (kk : W p l e R s m args below meth c H locs cells slots Q (F0 m (pc + 3) ls (.null :: rest))) : W p l e R s m args below meth c H locs cells slots Q (F0 m pc ls (.ref a :: rest)) := kd_getr hexec hb hts hin hown hK hP ho hc k hk hk2 hi hr hlink hdg kk
theorem ky_newi (hexec : p.tables.exec = Jvm.exec) (hb : c.code = cc) (harr : (Cond.arrayClass .int).before args s = true) (hK : va_K D vwCl (ty6 cA) s) (hP : va_P D vwCl (PW cA S ++ wb) H) (hD : va_D A (PW cA S ++ wb)) (hS : va_S A H0 H locs) (hA : ∀ q, H0.size ≤ q → A q)
    (ki : Nat) (h6 : 6 ≤ ki) (h20 : ki < 20) {n : Int32} {N' : Nat} (hn : ¬ n < 0) (hN : n.toNatClampNeg = N') (hbytes : N' * 4 ≤ 536870912) (hcells : cells + 1 ≤ R.cells) (hslots : slots + N' ≤ R.slots) (hdg : decode cc pc = .ok (.newarray .int, 2))
    (kk : ∀ (q : Nat) (H1 : Heap), q ∉ gL S → va_P D vwCl (PW cA (pW S q ki N') ++ wb) H1 → va_D A (PW cA (pW S q ki N') ++ wb) → va_S A H0 H1 locs →
      W p l e R s m args below meth c H1 locs (cells + 1) (slots + N') Q (F0 m (pc + 2) ls (.ref q :: rest))) : W p l e R s m args below meth c H locs cells slots Q (F0 m pc ls (.int n :: rest)) := by
  refine va_newa (atype := .int) (ty := .int) hexec hb harr rfl hK hP hD hS hA (a0 := (N', .inl (fun _ => 0))) (fun _ => rfl) hn hN hbytes hcells hslots hdg (fun q c1 H1 b0 a1 a2 a3 => ?_)
  have e : c1 = cA 0 := kx_arrI (b0.2 8 _ rfl).2 (hK.2 0 _ rfl).2
  subst e
  have hg : pcell cA (pW S q ki N') q = .inl (cA 0, N', .inl (fun _ => 0)) := by
    rw [pcell_i (S := pW S q ki N') (ci := ki) up_s h6 h20]
    rw [show gN (pW S q ki N') q = N' from up_s]
    rw [show gR (pW S q ki N') q = fun _ => 0 from by funext j; exact (show u1 (gR S) q (fun _ => 0) q j = 0 from u1_s)]
  have a1 := kj_P kmy_perm a1
  have a2 := kj_D kmy_perm a2
  obtain ⟨h1, h2⟩ := pw_new (g := pcell cA (pW S q ki N')) (kmy_D a2) hg (fun b hb => pcell_ne (S' := pW S q ki N') (up_ne hb) (up_ne hb) (u1_row hb) (u1_row hb) (u1_row hb) (u1_row hb) (u1_row hb))
  rw [h2] at a1 a2
  exact kk q H1 h1 a1 a2 a3
theorem ky_alda (hexec : p.tables.exec = Jvm.exec) (hb : c.code = cc) (hK : va_K D vwCl (ty6 cA) s) (hP : va_P D vwCl (PW cA S ++ wb) H) {n : Nat} (ho : isA S a 24 n) {i : Int32} (hin : vp_in i n) {r : Option Nat} (hr : gP S a i.toNatClampNeg = r) (hdg : decode cc pc = .ok (.aaload, 1))
    (kk : W p l e R s m args below meth c H locs cells slots Q (F0 m (pc + 1) ls (va_rf r :: rest))) : W p l e R s m args below meth c H locs cells slots Q (F0 m pc ls (.int i :: .ref a :: rest)) := by
  obtain ⟨q0, h0⟩ := pw_get (cA := cA) ho.1
  rw [pcell_a ho.2.1] at h0
  subst hr
  exact va_alda hexec hb hK hP q0 6 (kmy_at h0) rfl (by rw [ho.2.2]; exact hin) hdg kk
theorem ky_aldb (hexec : p.tables.exec = Jvm.exec) (hb : c.code = cc) (hK : va_K D vwCl (ty6 cA) s) (hP : va_P D vwCl (PW cA S ++ wb) H) {n : Nat} (ho : isA S a 25 n) {i : Int32} (hin : vp_in i n) {r : Option Nat} (hr : gP S a i.toNatClampNeg = r) (hdg : decode cc pc = .ok (.aaload, 1))
    (kk : W p l e R s m args below meth c H locs cells slots Q (F0 m (pc + 1) ls (va_rf r :: rest))) : W p l e R s m args below meth c H locs cells slots Q (F0 m pc ls (.int i :: .ref a :: rest)) := by
  obtain ⟨q0, h0⟩ := pw_get (cA := cA) ho.1
  rw [pcell_b ho.2.1] at h0
  subst hr
  exact va_alda hexec hb hK hP q0 7 (kmy_at h0) rfl (by rw [ho.2.2]; exact hin) hdg kk
theorem ky_asta (hexec : p.tables.exec = Jvm.exec) (hb : c.code = cc) (hP : va_P D vwCl (PW cA S ++ wb) H) (hD : va_D A (PW cA S ++ wb)) (hS : va_S A H0 H locs) {n v : Nat} (ho : isA S a 24 n) {ki nv : Nat} (hv : isA S v ki nv) (h6 : 6 ≤ ki) (h20 : ki < 20) (hR : va_RR s (cA 6) (cA 0) .int) {i : Int32} (hin : vp_in i n) (hdg : decode cc pc = .ok (.aastore, 1))
    (kk : ∀ (H1 : Heap) (locs1 : List Loc), va_P D vwCl (PW cA (pP S a i.toNatClampNeg (some v)) ++ wb) H1 → va_D A (PW cA (pP S a i.toNatClampNeg (some v)) ++ wb) → va_S A H0 H1 locs1 → W p l e R s m args below meth c H1 locs1 cells slots Q (F0 m (pc + 1) ls rest)) : W p l e R s m args below meth c H locs cells slots Q (F0 m pc ls (.ref v :: .int i :: .ref a :: rest)) := by
  obtain ⟨q0, h0⟩ := pw_get (cA := cA) ho.1
  obtain ⟨qk, hk⟩ := pw_get (cA := cA) hv.1
  have h1 : (PW cA S)[q0]? = some (a, .inl (cA 6, gN S a, .inr (.inr (.inr (.inr (gP S a)))))) := by rw [h0, pcell_a ho.2.1]
  have hk1 : (PW cA S)[qk]? = some (v, .inl (cA 0, gN S v, .inl (gR S v))) := by rw [hk, pcell_i hv.2.1 h6 h20]
  have hw : (PW cA S).set q0 (a, .inl (cA 6, gN S a, .inr (.inr (.inr (.inr (va_up (gP S a) i.toNatClampNeg (some v))))))) = PW cA (pP S a i.toNatClampNeg (some v)) := by
    refine pw_set (kmy_D hD) ho.1 h0 ?_ ?_
    · rw [pcell_a (S := pP S a i.toNatClampNeg (some v)) ho.2.1, show gP (pP S a i.toNatClampNeg (some v)) a = va_up (gP S a) i.toNatClampNeg (some v) from u2_updP]
    · intro b hb
      exact pcell_ne (S' := pP S a i.toNatClampNeg (some v)) rfl rfl rfl rfl rfl rfl (u2_row hb)
  refine va_asta hexec hb hP hD hS q0 qk (kmy_at h1) hR (kmy_at hk1) (by rw [ho.2.2]; exact hin) hdg (fun H1 locs1 a1 a2 a3 => ?_)
  rw [kmy_set h0, hw] at a1 a2
  exact kk H1 locs1 a1 a2 a3
theorem ky_astb (hexec : p.tables.exec = Jvm.exec) (hb : c.code = cc) (hP : va_P D vwCl (PW cA S ++ wb) H) (hD : va_D A (PW cA S ++ wb)) (hS : va_S A H0 H locs) {n v : Nat} (ho : isA S a 25 n) {nv : Nat} (hv : isA S v 24 nv) (hR : va_RR s (cA 7) (cA 6) (.array .int)) {i : Int32} (hin : vp_in i n) (hdg : decode cc pc = .ok (.aastore, 1))
    (kk : ∀ (H1 : Heap) (locs1 : List Loc), va_P D vwCl (PW cA (pP S a i.toNatClampNeg (some v)) ++ wb) H1 → va_D A (PW cA (pP S a i.toNatClampNeg (some v)) ++ wb) → va_S A H0 H1 locs1 → W p l e R s m args below meth c H1 locs1 cells slots Q (F0 m (pc + 1) ls rest)) : W p l e R s m args below meth c H locs cells slots Q (F0 m pc ls (.ref v :: .int i :: .ref a :: rest)) := by
  obtain ⟨q0, h0⟩ := pw_get (cA := cA) ho.1
  obtain ⟨qk, hk⟩ := pw_get (cA := cA) hv.1
  have h1 : (PW cA S)[q0]? = some (a, .inl (cA 7, gN S a, .inr (.inr (.inr (.inr (gP S a)))))) := by rw [h0, pcell_b ho.2.1]
  have hk1 : (PW cA S)[qk]? = some (v, .inl (cA 6, gN S v, .inr (.inr (.inr (.inr (gP S v)))))) := by rw [hk, pcell_a hv.2.1]
  have hw : (PW cA S).set q0 (a, .inl (cA 7, gN S a, .inr (.inr (.inr (.inr (va_up (gP S a) i.toNatClampNeg (some v))))))) = PW cA (pP S a i.toNatClampNeg (some v)) := by
    refine pw_set (kmy_D hD) ho.1 h0 ?_ ?_
    · rw [pcell_b (S := pP S a i.toNatClampNeg (some v)) ho.2.1, show gP (pP S a i.toNatClampNeg (some v)) a = va_up (gP S a) i.toNatClampNeg (some v) from u2_updP]
    · intro b hb
      exact pcell_ne (S' := pP S a i.toNatClampNeg (some v)) rfl rfl rfl rfl rfl rfl (u2_row hb)
  refine va_asta hexec hb hP hD hS q0 qk (kmy_at h1) hR (kmy_at hk1) (by rw [ho.2.2]; exact hin) hdg (fun H1 locs1 a1 a2 a3 => ?_)
  rw [kmy_set h0, hw] at a1 a2
  exact kk H1 locs1 a1 a2 a3
theorem ky_newa (hexec : p.tables.exec = Jvm.exec) (hb : c.code = cc) {own : String} {index : Nat} (hown : s.vm.findClass own = some m.cls) (hclink : (Cond.classLink own index (FieldType.array .int).toString).before args s = true) (hover : (Cond.arrayOver (.array .int)).before args s = true) (hK : va_K D vwCl (ty6 cA) s) (hP : va_P D vwCl (PW cA S ++ wb) H) (hD : va_D A (PW cA S ++ wb)) (hS : va_S A H0 H locs) (hA : ∀ q, H0.size ≤ q → A q)
    {n : Int32} {N' : Nat} (hn : ¬ n < 0) (hN : n.toNatClampNeg = N') (hbytes : N' * 4 ≤ 536870912) (hcells : cells + 1 ≤ R.cells) (hslots : slots + N' ≤ R.slots) (hdg : decode cc pc = .ok (.anewarray index, 3))
    (kk : ∀ (q : Nat) (H1 : Heap), q ∉ gL S → va_P D vwCl (PW cA (pW S q 24 N') ++ wb) H1 → va_D A (PW cA (pW S q 24 N') ++ wb) → va_S A H0 H1 locs →
      W p l e R s m args below meth c H1 locs (cells + 1) (slots + N') Q (F0 m (pc + 3) ls (.ref q :: rest))) : W p l e R s m args below meth c H locs cells slots Q (F0 m pc ls (.int n :: rest)) := by
  refine va_newqa hexec hb hown hclink hover hK hP hD hS hA hn hN hbytes hcells hslots hdg (fun q c1 H1 f1 a1 a2 a3 => ?_)
  have e : c1 = cA 6 := Option.some.inj (f1.symm.trans (show _ = some (cA 6) from (hK.2 6 _ rfl).2))
  subst e
  have hg : pcell cA (pW S q 24 N') q = .inl (cA 6, N', .inr (.inr (.inr (.inr (fun _ => none))))) := by
    rw [pcell_a (S := pW S q 24 N') up_s]
    rw [show gN (pW S q 24 N') q = N' from up_s]
    rw [show gP (pW S q 24 N') q = fun _ => none from by funext j; exact (show u1 (gP S) q (fun _ => none) q j = none from u1_s)]
  have a1 := kj_P kmy_perm a1
  have a2 := kj_D kmy_perm a2
  obtain ⟨h1, h2⟩ := pw_new (g := pcell cA (pW S q 24 N')) (kmy_D a2) hg (fun b hb => pcell_ne (S' := pW S q 24 N') (up_ne hb) (up_ne hb) (u1_row hb) (u1_row hb) (u1_row hb) (u1_row hb) (u1_row hb))
  rw [h2] at a1 a2
  exact kk q H1 h1 a1 a2 a3
end KY
end
section
/-! how a method of Desk begins: the cells, what a throw needs, the script -/
abbrev kPreD (D : va_G) (cA : Nat → ClassId) (ws : va_W) (b L : Nat) (xs : Nat → Int32) (sz : Nat) (U : State) : Prop := kPreX D cA ws sz U ∧ va_X b L xs U U.heap ∧ b < sz ∧ ¬ va_A ws sz b
theorem kPreD.blind {D : va_G} {cA : Nat → ClassId} {ws : va_W} {b L : Nat} {xs : Nat → Int32} {sz : Nat} {av : List Value} : FrameBlind (va_Pc av (kPreD D cA ws b L xs sz)) := fun _ U _ _ q => ⟨q.1, ⟨q.2.1.1.call, q.2.1.2.call⟩, va_X.moved (u := U) (Vm.Alike.refl U.vm) q.2.2.1, q.2.2.2⟩
section KD
variable {p : Program} {l : Launch} {e : Env} {R : Room} {s : State} {m : MethodId} {args : Array Value} {below : List Frame} {meth : Method} {c : Code} {H : Heap} {locs : List Loc} {cells slots mc ms : Nat} {Q : State → Prop}
variable {D : va_G} {A : Nat → Prop} {a b L : Nat} {xs : Nat → Int32} {H0 : Heap} {cA : Nat → ClassId} {ws : va_W} {As : List Value}
theorem kpd_at (hK : va_K D vwCl (ty6 cA) s) (hP : va_P D vwCl ws H) (hD : va_D A ws) (hTB : TBok s) (hTX : TXok A s) (hX : va_X b L xs s s.heap) (hbl : b < s.heap.size) (hbA : ¬ A b) (hS : va_S A s.heap H locs) (hA : ∀ q, s.heap.size ≤ q → A q) {U : State} (hU : U.heap = H) (hW : s.WarmedH U.vm) : kPreD D cA ws b L xs H.size U := by
  refine ⟨⟨kp_at hK hP hD hTB hU hW, hTX.at hS (kp_A hD hS hA) hU hW⟩, ?_, Nat.lt_of_lt_of_le hbl hS.1, fun h => hbA (kp_A hD hS hA b h)⟩
  subst hU
  exact (hX.kept (hS.2.1 b hbl hbA)).moved hW.alike
theorem kpd_V (hK : va_K D vwCl (ty6 cA) s) (hP : va_P D vwCl ws H) (hD : va_D A ws) (hTB : TBok s) (hTX : TXok A s) (hX : va_X b L xs s s.heap) (hbl : b < s.heap.size) (hbA : ¬ A b) (hS : va_S A s.heap H locs) (hA : ∀ q, s.heap.size ≤ q → A q) {C : String} {o : Nat} (hrc : ∃ cell : Cell, H[o]? = some cell ∧ cell.vm.isStatics = false ∧ s.vm.findClass C = some cell.cls) : PreV s H C o (va_Pc (.ref o :: As) (kPreD D cA ws b L xs H.size)) As :=
  ⟨kPreD.blind, hrc, fun _ hU hW => ⟨rfl, kpd_at hK hP hD hTB hTX hX hbl hbA hS hA hU hW⟩⟩
theorem kpd_S (hK : va_K D vwCl (ty6 cA) s) (hP : va_P D vwCl ws H) (hD : va_D A ws) (hTB : TBok s) (hTX : TXok A s) (hX : va_X b L xs s s.heap) (hbl : b < s.heap.size) (hbA : ¬ A b) (hS : va_S A s.heap H locs) (hA : ∀ q, s.heap.size ≤ q → A q) : PreS s H (va_Pc As (kPreD D cA ws b L xs H.size)) As :=
  ⟨kPreD.blind, fun _ hU hW => ⟨rfl, kpd_at hK hP hD hTB hTX hX hbl hbA hS hA hU hW⟩⟩
end KD
end
section
theorem dL_below_0 : decode cL_below 0 = .ok (.iload_n 0, 1) := by decide +kernel
theorem dL_below_1 : decode cL_below 1 = .ok (.ldc 7, 2) := by decide +kernel
theorem dL_below_3 : decode cL_below 3 = .ok (.iand, 1) := by decide +kernel
theorem dL_below_4 : decode cL_below 4 = .ok (.iload_n 1, 1) := by decide +kernel
theorem dL_below_5 : decode cL_below 5 = .ok (.irem, 1) := by decide +kernel
theorem dL_below_6 : decode cL_below 6 = .ok (.ireturn, 1) := by decide +kernel
theorem dL_cell_0 : decode cL_cell 0 = .ok (.iload_n 1, 1) := by decide +kernel
theorem dL_cell_1 : decode cL_cell 1 = .ok (.aload_n 0, 1) := by decide +kernel
theorem dL_cell_2 : decode cL_cell 2 = .ok (.arraylength, 1) := by decide +kernel
theorem dL_cell_3 : decode cL_cell 3 = .ok (.if_icmp .ge 9, 3) := by decide +kernel
theorem dL_cell_6 : decode cL_cell 6 = .ok (.aload_n 0, 1) := by decide +kernel
theorem dL_cell_7 : decode cL_cell 7 = .ok (.iload_n 1, 1) := by decide +kernel
theorem dL_cell_8 : decode cL_cell 8 = .ok (.iaload, 1) := by decide +kernel
theorem dL_cell_9 : decode cL_cell 9 = .ok (.goto 9, 3) := by decide +kernel
theorem dL_cell_12 : decode cL_cell 12 = .ok (.ldc 8, 2) := by decide +kernel
theorem dL_cell_14 : decode cL_cell 14 = .ok (.iload_n 1, 1) := by decide +kernel
theorem dL_cell_15 : decode cL_cell 15 = .ok (.iconst 3, 1) := by decide +kernel
theorem dL_cell_16 : decode cL_cell 16 = .ok (.iadd, 1) := by decide +kernel
theorem dL_cell_17 : decode cL_cell 17 = .ok (.imul, 1) := by decide +kernel
theorem dL_cell_18 : decode cL_cell 18 = .ok (.ireturn, 1) := by decide +kernel
end
section
/-! loops and joints of a walk -/
section KZ
variable {p : Program} {l : Launch} {e : Env} {R : Room} {s : State} {m : MethodId} {args : Array Value} {below : List Frame} {meth : Method} {c : Code} {H0 : Heap} {locs0 : List Loc} {cells slots : Nat} {Q : State → Prop}
/-- a loop with its head at pc: what holds there (I), with a number that falls -/
theorem kz_loop (pc : Nat) (I : Nat → Heap → List Loc → Array Slot → Prop) {st : List Value} (h : ∀ n, (∀ k, k < n → ∀ (H : Heap) (locs : List Loc) (ls : Array Slot), I k H locs ls → W p l e R s m args below meth c H locs cells slots Q (F0 m pc ls st)) → ∀ (H : Heap) (locs : List Loc) (ls : Array Slot), I n H locs ls → W p l e R s m args below meth c H locs cells slots Q (F0 m pc ls st)) {ls0 : Array Slot} {n : Nat} (h0 : I n H0 locs0 ls0) : W p l e R s m args below meth c H0 locs0 cells slots Q (F0 m pc ls0 st) := by
  have key : ∀ n, ∀ (H : Heap) (locs : List Loc) (ls : Array Slot), I n H locs ls → W p l e R s m args below meth c H locs cells slots Q (F0 m pc ls st) := by
    intro n
    induction n using Nat.strongRecOn with
    | _ n ih => exact h n ih
  exact key n _ _ _ h0
/-- several ways come together at pc -/
theorem kz_cut (pc : Nat) (I : Heap → List Loc → Array Slot → List Value → Prop) {g : JFrame} (g0 : (∀ (H : Heap) (locs : List Loc) (ls : Array Slot) (st : List Value), I H locs ls st → W p l e R s m args below meth c H locs cells slots Q (F0 m pc ls st)) → W p l e R s m args below meth c H0 locs0 cells slots Q g) (g1 : ∀ (H : Heap) (locs : List Loc) (ls : Array Slot) (st : List Value), I H locs ls st → W p l e R s m args below meth c H locs cells slots Q (F0 m pc ls st)) : W p l e R s m args below meth c H0 locs0 cells slots Q g := g0 g1
end KZ
/-- places -/
theorem ki_in {n N : Nat} (h : n < N) (hN : N < 2 ^ 31) : vp_in (nI n) N := vp_in_nI h hN
theorem ki_cl {n : Nat} (h : n < 2 ^ 31) : (nI n).toNatClampNeg = n := nI_clamp h
end
section
/-! what the methods answer, in the code's own words -/
def kOut (v lo hi : Int32) : Int32 := if v < lo then 1 else if v ≤ hi then 0 else 1
theorem kOut_01 (v lo hi : Int32) : kOut v lo hi = 0 ∨ kOut v lo hi = 1 := by
  unfold kOut; split
  · exact Or.inr rfl
  · split
    · exact Or.inl rfl
    · exact Or.inr rfl
def kSw (S : Pool) (ar : Nat) (one : Int32) : Option Nat := if one < 0 then none else if one < 8 then gP S ar one.toNatClampNeg else none
theorem kz_rf (r : Option Nat) : va_rf r = .null ∨ ∃ a, va_rf r = .ref a := by
  cases r with
  | none => exact Or.inl rfl
  | some a => exact Or.inr ⟨a, rfl⟩
theorem kz_in {x : Int32} {n : Nat} (hn : n < 2 ^ 31) (h0 : ¬ x < 0) (h1 : x < nI n) : vp_in x n := by
  rcases pk_ix x hn with h | h | ⟨j, hj, rfl⟩
  · exact absurd h h0
  · exact absurd h1 (Int32.not_lt.mpr h)
  · exact vp_in_nI hj hn
def kBkt (salt user : Int32) : Int32 :=
  let h := (salt * 7919 + user * 31 + 17) - (salt * 7919 + user * 31 + 17) / 10007 * 10007
  let k := (h * h + salt + 3 * user) - (h * h + salt + 3 * user) / 10007 * 10007
  k - k / 1000 * 1000
/-! the reference's answers, in its own words -/
def kIn (x lo hi : Int32) : Int32 := if x < lo then 0 else if hi < x then 0 else 1
theorem kIn_01 (v lo hi : Int32) : kIn v lo hi = 0 ∨ kIn v lo hi = 1 := by
  unfold kIn; split
  · exact Or.inl rfl
  · split
    · exact Or.inl rfl
    · exact Or.inr rfl
theorem kIn_out {x lo hi : Int32} : kIn x lo hi = 1 ↔ kOut x lo hi = 0 := by
  unfold kIn kOut
  by_cases h1 : x < lo
  · simp [h1]
  · by_cases h2 : hi < x
    · have h3 : ¬ x ≤ hi := Int32.not_le.mpr h2
      simp [h1, h2, h3]
    · have h3 : x ≤ hi := Int32.not_lt.mp h2
      simp [h1, h2, h3]
theorem kIn_out0 {x lo hi : Int32} : kIn x lo hi = 0 ↔ kOut x lo hi = 1 := by
  rcases kIn_01 x lo hi with h | h
  · rcases kOut_01 x lo hi with g | g
    · exact absurd (kIn_out.mpr g) (by rw [h]; decide)
    · exact ⟨fun _ => g, fun _ => h⟩
  · constructor
    · intro g; rw [h] at g; exact absurd g (by decide)
    · intro g; rw [kIn_out.mp h] at g; exact absurd g (by decide)
end
section
/-! Desk: what is drawn -/
theorem bel_and (v : Int32) : ∃ k, k < 2 ^ 31 ∧ v &&& 2147483647 = nI k := by
  have h : (v.toBitVec &&& 2147483647#32).toNat = v.toBitVec.toNat % 2 ^ 31 := by
    rw [BitVec.toNat_and]
    exact Nat.and_two_pow_sub_one_eq_mod _ 31
  have hk : v.toBitVec.toNat % 2 ^ 31 < 2 ^ 31 := Nat.mod_lt _ (by decide)
  refine ⟨v.toBitVec.toNat % 2 ^ 31, hk, ?_⟩
  apply Int32.toBitVec_inj.mp
  show v.toBitVec &&& 2147483647#32 = BitVec.ofNat 32 (v.toBitVec.toNat % 2 ^ 31)
  apply BitVec.eq_of_toNat_eq
  rw [h, BitVec.toNat_ofNat, Nat.mod_eq_of_lt (Nat.lt_trans hk (by decide))]
theorem rem_nI {a n : Nat} (ha : a < 2 ^ 31) (h0 : 0 < n) (hn : n < 2 ^ 31) : nI a - nI a / nI n * nI n = nI (a % n) := by
  rw [pk_div ha h0 hn, pk_mul, pk_sub (Nat.div_mul_le_self a n)]
  congr 1
  have h := Nat.div_add_mod a n
  rw [Nat.mul_comm] at h
  omega
theorem bel_rng (v : Int32) {N : Nat} (h0 : 0 < N) (hN : N < 2 ^ 31) : ∃ w, w < N ∧ (v &&& 2147483647) - (v &&& 2147483647) / nI N * nI N = nI w := by
  obtain ⟨k, hk, e⟩ := bel_and v
  rw [e]
  exact ⟨k % N, Nat.mod_lt _ h0, rem_nI hk h0 hN⟩
set_option maxRecDepth 100000 in
set_option maxHeartbeats 4000000 in
/-- below -/
theorem l_below (l : Launch) (D : va_G) (cA : Nat → ClassId) (sz : Nat) (ws : va_W) (v : Int32) (N : Nat) (hN0 : 0 < N) (hN : N < 2 ^ 31) : Met l yL_below (Cond.code yL_below cL_below 2 (some .int) :: TT) ({ frames := 0, cells := 0, slots := 0, locals := 0 }) (va_Pc [.int v, .int (nI N)] (kPre D cA ws sz)) (va_Qi (fun (r_ : Int32) (x_ : Unit) => ∃ w, w < N ∧ r_ = nI w) (fun x_ => kB D cA (va_A ws sz) (ws)) (va_A ws sz)) 0 0 (va_A ws sz) := by
  refine Met.ofW (cc := cL_below) (maxL := 2) (ret := (some .int)) (by decide) rfl ?_
  intro p e s m args below meth c s₁ B hml hv
  obtain ⟨rfl, hsz, hP, hK, hD0, hTB⟩ := hv
  have hx := B.exec
  have hb := B.bytes
  have hr := B.returns
  have hts := atoms_spec (ws := Cond.code yL_below cL_below 2 (some .int) :: TT) B.pre
  have htT : ∀ w ∈ TT, w.before _ s = true := fun w h => hts w (List.mem_cons_of_mem _ h)
  have hown : s.vm.findClass RL = some m.cls := findClass_of_methodNamed B.named
  have hlocks := B.notSynchronized
  subst hsz
  have hD := hD0.self (sz := s.heap.size)
  generalize hAe : va_A ws s.heap.size = A at hD ⊢
  have hA : ∀ q : Nat, s.heap.size ≤ q → A q := fun q h => by rw [← hAe]; exact Or.inr h
  have hS : va_S A s.heap s.heap [] := va_S.rf
  have hl := lv_entry ([.int v, .int (nI N)]) (n := 2) (Nat.le_of_ble_eq_true rfl)
  rw [lg_entry_eq]
  generalize (lg_sl ([.int v, .int (nI N)]) ++ List.replicate (2 - (lg_sl ([.int v, .int (nI N)])).length) Slot.unset).toArray = ls at hl ⊢
  have hl : lv_has ls 2 [(0, .int v), (1, .int (nI N))] := hl
  refine lv_iload_n hx hb dL_below_0 rfl (lv_at hl 0 rfl) ?_
  refine lv_ldc (v := 2147483647) hx hb hown (htT _ m_kc_L_7) dL_below_1 ?_
  refine lv_iand hx hb dL_below_3 ?_
  refine lv_iload_n hx hb dL_below_4 rfl (lv_at hl 1 rfl) ?_
  refine lv_irem hx hb dL_below_5 (fun h9 => by have := (nI_eq (a := N) (b := 0) (by omega) (by omega)).mp h9; omega) ?_
  exact W.iret (v := (v &&& 2147483647) - (v &&& 2147483647) / (nI N) * (nI N)) hx hb hr (fun t ht hW => ⟨⟨(v &&& 2147483647) - (v &&& 2147483647) / (nI N) * (nI N), (), rfl, bel_rng v hN0 hN, by rw [ht]; exact hP, va_K.moved hW.alike hK, hD⟩, hS.F ht⟩) hS.2.2 dL_below_6

set_option maxRecDepth 100000 in
set_option maxHeartbeats 4000000 in
/-- cell -/
theorem l_cell (l : Launch) (D : va_G) (cA : Nat → ClassId) (sz : Nat) (ws : va_W) (b L : Nat) (xs : Nat → Int32) (hL : L < 2 ^ 31) (k : Nat) (hk : k < 2 ^ 31) : Met l yL_cell (Cond.code yL_cell cL_cell 2 (some .int) :: TT) ({ frames := 0, cells := 0, slots := 0, locals := 0 }) (va_Pc [.ref b, .int (nI k)] (kPreD D cA ws b L xs sz)) (va_Qi (fun (r_ : Int32) (x_ : Unit) => True) (fun x_ => kB D cA (va_A ws sz) (ws)) (va_A ws sz)) 0 0 (va_A ws sz) := by
  refine Met.ofW (cc := cL_cell) (maxL := 2) (ret := (some .int)) (by decide) rfl ?_
  intro p e s m args below meth c s₁ B hml hv
  obtain ⟨rfl, ⟨⟨hsz, hP, hK, hD0, hTB⟩, hTX⟩, hX, hbl, hbA⟩ := hv
  have hx := B.exec
  have hb := B.bytes
  have hr := B.returns
  have hts := atoms_spec (ws := Cond.code yL_cell cL_cell 2 (some .int) :: TT) B.pre
  have htT : ∀ w ∈ TT, w.before _ s = true := fun w h => hts w (List.mem_cons_of_mem _ h)
  have hown : s.vm.findClass RL = some m.cls := findClass_of_methodNamed B.named
  have hlocks := B.notSynchronized
  subst hsz
  have hD := hD0.self (sz := s.heap.size)
  generalize hAe : va_A ws s.heap.size = A at hD hTX hbA ⊢
  have hA : ∀ q : Nat, s.heap.size ≤ q → A q := fun q h => by rw [← hAe]; exact Or.inr h
  have hS : va_S A s.heap s.heap [] := va_S.rf
  have hl := lv_entry ([.ref b, .int (nI k)]) (n := 2) (Nat.le_of_ble_eq_true rfl)
  rw [lg_entry_eq]
  generalize (lg_sl ([.ref b, .int (nI k)]) ++ List.replicate (2 - (lg_sl ([.ref b, .int (nI k)])).length) Slot.unset).toArray = ls at hl ⊢
  have hl : lv_has ls 2 [(0, .ref b), (1, .int (nI k))] := hl
  refine lv_iload_n hx hb dL_cell_0 rfl (lv_at hl 1 rfl) ?_
  refine lv_aload_n hx hb dL_cell_1 rfl (lv_at hl 0 rfl) ?_
  refine va_slen hx hb hX hbl hbA hS dL_cell_2 ?_
  refine lv_icmp_ge (tgt := 12) hx hb dL_cell_3 (by decide) (fun c_1 => ?_) (fun c_1 => ?_)
  · replace c_1 := (nI_leI (a := L) (b := k) (by omega) (by omega)).mp c_1
    refine lv_ldc (v := 790386105) hx hb hown (htT _ m_kc_L_8) dL_cell_12 ?_
    refine lv_iload_n hx hb dL_cell_14 rfl (lv_at hl 1 rfl) ?_
    refine lv_iconst (v := 3) hx hb dL_cell_15 (by decide) ?_
    refine lv_iadd hx hb dL_cell_16 ?_
    rw [show ((nI k) + 3 : Int32) = nI (k + 3) from nI_add k 3]
    refine lv_imul hx hb dL_cell_17 ?_
    rw [show (790386105 * (nI (k + 3)) : Int32) = nI (790386105 * (k + 3)) from pk_mul 790386105 (k + 3)]
    exact W.iret (v := nI (790386105 * (k + 3))) hx hb hr (fun t ht hW => ⟨⟨nI (790386105 * (k + 3)), (), rfl, trivial, by rw [ht]; exact hP, va_K.moved hW.alike hK, hD⟩, hS.F ht⟩) hS.2.2 dL_cell_18
  · replace c_1 : ¬ (L ≤ k) := fun h9 => c_1 ((nI_leI (a := L) (b := k) (by omega) (by omega)).mpr h9)
    refine lv_aload_n hx hb dL_cell_6 rfl (lv_at hl 0 rfl) ?_
    refine lv_iload_n hx hb dL_cell_7 rfl (lv_at hl 1 rfl) ?_
    refine va_sld hx hb hX hbl hbA hS (show vp_in (nI k) L from ki_in (by omega) (by omega)) dL_cell_8 ?_
    refine lv_goto (tgt := 18) hx hb dL_cell_9 (by decide) ?_
    exact W.iret (v := xs (nI k).toNatClampNeg) hx hb hr (fun t ht hW => ⟨⟨xs (nI k).toNatClampNeg, (), rfl, trivial, by rw [ht]; exact hP, va_K.moved hW.alike hK, hD⟩, hS.F ht⟩) hS.2.2 dL_cell_18

set_option maxRecDepth 100000 in
set_option maxHeartbeats 4000000 in
/-- draw -/
theorem d_draw (l : Launch) (D : va_G) (cA : Nat → ClassId) (sz : Nat) (wb : va_W) (b L : Nat) (xs : Nat → Int32) (hL : L < 2 ^ 31) (T : Pool) (d : Nat) (hd : isO T d 23) (hs : gQ T d 1 = some b) (dr : Nat) (hdr : gI T d 2 = nI dr) (hd9 : dr < 2000000) (N : Nat) (hN0 : 0 < N) (hN : N < 2 ^ 31) : Met l yX6_draw (Cond.code yX6_draw cX6_draw 3 (some .int) :: TT) ({ frames := 1, cells := 0, slots := 0, locals := 21 }) (va_Pc [.ref d, .int (nI N)] (kPreD D cA (PW cA T ++ wb) b L xs sz)) (va_Qi (fun (r_ : Int32) (x_ : Pool) => (∃ w, w < N ∧ r_ = nI w) ∧ x_ = pI T d 2 (nI (dr + 1))) (fun x_ => kB D cA (va_A (PW cA T ++ wb) sz) (PW cA x_ ++ wb)) (va_A (PW cA T ++ wb) sz)) 0 0 (va_A (PW cA T ++ wb) sz) := by
  refine Met.ofW (cc := cX6_draw) (maxL := 3) (ret := (some .int)) (by decide) rfl ?_
  intro p e s m args below meth c s₁ B hml hv
  obtain ⟨rfl, ⟨⟨hsz, hP, hK, hD0, hTB⟩, hTX⟩, hX, hbl, hbA⟩ := hv
  have hx := B.exec
  have hb := B.bytes
  have hr := B.returns
  have hts := atoms_spec (ws := Cond.code yX6_draw cX6_draw 3 (some .int) :: TT) B.pre
  have htT : ∀ w ∈ TT, w.before _ s = true := fun w h => hts w (List.mem_cons_of_mem _ h)
  have hown : s.vm.findClass RX6 = some m.cls := findClass_of_methodNamed B.named
  have hlocks := B.notSynchronized
  subst hsz
  have hD := hD0.self (sz := s.heap.size)
  generalize hAe : va_A (PW cA T ++ wb) s.heap.size = A at hD hTX hbA ⊢
  have hA : ∀ q : Nat, s.heap.size ≤ q → A q := fun q h => by rw [← hAe]; exact Or.inr h
  have hS : va_S A s.heap s.heap [] := va_S.rf
  have hl := lv_entry ([.ref d, .int (nI N)]) (n := 3) (Nat.le_of_ble_eq_true rfl)
  rw [lg_entry_eq]
  generalize (lg_sl ([.ref d, .int (nI N)]) ++ List.replicate (3 - (lg_sl ([.ref d, .int (nI N)])).length) Slot.unset).toArray = ls at hl ⊢
  have hl : lv_has ls 3 [(0, .ref d), (1, .int (nI N))] := hl
  refine lv_aload_n hx hb dX6_draw_0 rfl (lv_at hl 0 rfl) ?_
  refine kd_gets hx hb htT m_u_X6 hown hK hP hd rfl 1 (by decide) (by decide) rfl hs (htT _ m_fl_X6_34) dX6_draw_1 ?_
  refine lv_aload_n hx hb dX6_draw_4 rfl (lv_at hl 0 rfl) ?_
  refine kd_getiv hx hb htT m_u_X6 hown hK hP hd rfl 2 (by decide) (by decide) rfl (htT _ m_fl_X6_37) hdr dX6_draw_5 ?_
  refine lv_bipush (v := 24) hx hb dX6_draw_8 (by decide) ?_
  refine lv_irem hx hb dX6_draw_10 (by decide) ?_
  rw [show ((nI dr) - (nI dr) / 24 * 24 : Int32) = nI (dr % 24) from rem_nI (n := 24) (by omega) (by decide) (by decide)]
  refine kc_i (va_runS (As := [.ref b, .int (nI (dr % 24))]) (rest := []) ⟨hx, hb, hml, hown, htT⟩ (l_cell l D cA _ (PW cA T ++ wb) b L xs hL (dr % 24) (by omega)) (cwS 2 htT (kg_S m_ml_X6_41 m_st_L_cell m_in_L m_cd_L_cell) rfl rfl rfl (by decide +kernel) ⟨Nat.le_of_ble_eq_true rfl, Nat.le_of_ble_eq_true rfl⟩) (kpd_S hK hP hD hTB hTX hX hbl hbA hS hA) rfl rfl hl.1 rfl (lv_room (Nat.le_of_ble_eq_true rfl)) dX6_draw_11 ⟨Nat.le_of_ble_eq_true rfl, Nat.le_of_ble_eq_true rfl⟩) hD hS hA (fun r_1 x_1 H locs hq_1 hP hD hS => ?_)
  refine lv_aload_n hx hb dX6_draw_14 rfl (lv_at hl 0 rfl) ?_
  refine kd_getiv hx hb htT m_u_X6 hown hK hP hd rfl 2 (by decide) (by decide) rfl (htT _ m_fl_X6_37) hdr dX6_draw_15 ?_
  refine lv_bipush (v := 24) hx hb dX6_draw_18 (by decide) ?_
  refine lv_idiv hx hb dX6_draw_20 (by decide) ?_
  refine lv_bipush (v := 8) hx hb dX6_draw_21 (by decide) ?_
  refine lv_irem hx hb dX6_draw_23 (by decide) ?_
  refine lv_ishr hx hb dX6_draw_24 ?_
  refine lv_bipush (v := 127) hx hb dX6_draw_25 (by decide) ?_
  refine lv_aload_n hx hb dX6_draw_27 rfl (lv_at hl 0 rfl) ?_
  refine kd_getiv hx hb htT m_u_X6 hown hK hP hd rfl 2 (by decide) (by decide) rfl (htT _ m_fl_X6_37) hdr dX6_draw_28 ?_
  refine lv_imul hx hb dX6_draw_31 ?_
  rw [show (127 * (nI dr) : Int32) = nI (127 * dr) from pk_mul 127 dr]
  refine lv_iadd hx hb dX6_draw_32 ?_
  refine lv_iload_n hx hb dX6_draw_33 rfl (lv_at hl 1 rfl) ?_
  refine kc_i (va_runS (As := [.int ((r_1 >>> ((((nI dr) / 24) - ((nI dr) / 24) / 8 * 8) &&& 31)) + (nI (127 * dr))), .int (nI N)]) (rest := []) ⟨hx, hb, hml, hown, htT⟩ (l_below l D cA _ (PW cA T ++ wb) ((r_1 >>> ((((nI dr) / 24) - ((nI dr) / 24) / 8 * 8) &&& 31)) + (nI (127 * dr))) N hN0 hN) (cwS 2 htT (kg_S m_ml_X6_47 m_st_L_below m_in_L m_cd_L_below) rfl rfl rfl (by decide +kernel) ⟨Nat.le_of_ble_eq_true rfl, Nat.le_of_ble_eq_true rfl⟩) (kp_S hK hP hD hTB) rfl rfl hl.1 rfl (lv_room (Nat.le_of_ble_eq_true rfl)) dX6_draw_34 ⟨Nat.le_of_ble_eq_true rfl, Nat.le_of_ble_eq_true rfl⟩) hD hS hA (fun r_2 x_2 H locs hq_2 hP hD hS => ?_)
  refine lv_istore_n (lv' := [(2, .int r_2), (0, .ref d), (1, .int (nI N))]) hx hb dX6_draw_37 rfl hl (by decide) rfl (fun ls hl => ?_)
  refine lv_aload_n hx hb dX6_draw_38 rfl (lv_at hl 1 rfl) ?_
  refine lv_dup hx hb dX6_draw_39 rfl ?_
  refine kd_getiv hx hb htT m_u_X6 hown hK hP hd rfl 2 (by decide) (by decide) rfl (htT _ m_fl_X6_37) hdr dX6_draw_40 ?_
  refine lv_iconst (v := 1) hx hb dX6_draw_43 (by decide) ?_
  refine lv_iadd hx hb dX6_draw_44 ?_
  rw [show ((nI dr) + 1 : Int32) = nI (dr + 1) from nI_add dr 1]
  refine kd_puti (ty := .int) hx hb htT m_u_X6 tyX6 tyX6_ok nmX6 hown hK hP hD hS hd rfl 2 (by decide) (by decide) rfl (htT _ m_fl_X6_37) rfl (by decide +kernel) rfl rfl dX6_draw_45 (fun H locs hP hD hS => ?_)
  refine lv_iload_n hx hb dX6_draw_48 rfl (lv_at hl 0 rfl) ?_
  exact W.iret (v := r_2) hx hb hr (fun t ht hW => ⟨⟨r_2, pI T d 2 (nI (dr + 1)), rfl, ⟨hq_2, rfl⟩, by rw [ht]; exact hP, va_K.moved hW.alike hK, hD⟩, hS.F ht⟩) hS.2.2 dX6_draw_49
end
