/-! THE REFERENCE'S CELLS: its object at am, its rows at r 4 .. (by the place of their field); the numbers Sx, the rows Rx -/
abbrev MSt : Type := (Nat → Int32) × (Nat → Nat → Int32)
def isRm (k : Nat) : Bool := (4 ≤ k && k ≤ 21) || (23 ≤ k && k ≤ 27)
def isZm (k : Nat) : Bool := k == 10 || k == 11 || k == 27
def mLen (k : Nat) : Nat := if k = 6 then 32 else if 18 ≤ k ∧ k ≤ 21 then 40 else if 23 ≤ k then 100 else 8
def mKeys : List Nat := [4, 5, 6, 7, 8, 9, 10, 11, 12, 13, 14, 15, 16, 17, 18, 19, 20, 21, 23, 24, 25, 26, 27]
def mPos (k : Nat) : Nat := if k < 22 then k - 3 else k - 4
def mv (r : Nat → Nat) (Sx : Nat → Int32) (k : Nat) : Value := if isRm k = true then .ref (r k) else .int (Sx k)
def mrow (cA : Nat → ClassId) (Rx : Nat → Nat → Int32) (k : Nat) : va_E := .inl (if isZm k = true then cA 2 else cA 0, mLen k, .inl (Rx k))
def wM (cA : Nat → ClassId) (am : Nat) (r : Nat → Nat) (M : MSt) : va_W := (am, .inr (6, (List.range 29).map (mv r M.1))) :: mKeys.map (fun k => (r k, mrow cA M.2 k))
abbrev mS (M : MSt) (k : Nat) (v : Int32) : MSt := (va_up M.1 k v, M.2)
abbrev mR (M : MSt) (k i : Nat) (v : Int32) : MSt := (M.1, va_up M.2 k (upd (M.2 k) i v))
theorem mk_pos {k : Nat} (h : isRm k = true) : mKeys[mPos k - 1]? = some k ∧ 1 ≤ mPos k := by
  have h1 : ∀ k, k < 28 → isRm k = true → mKeys[mPos k - 1]? = some k ∧ 1 ≤ mPos k := by decide +kernel
  refine h1 k ?_ h
  rcases Nat.lt_or_ge k 28 with q | q
  · exact q
  · simp [isRm] at h; omega
theorem wM_0 {cA : Nat → ClassId} {am : Nat} {r : Nat → Nat} {M : MSt} : (wM cA am r M)[0]? = some (am, .inr (6, (List.range 29).map (mv r M.1))) := rfl
theorem wM_k {cA : Nat → ClassId} {am : Nat} {r : Nat → Nat} {M : MSt} {k : Nat} (h : isRm k = true) : (wM cA am r M)[mPos k]? = some (r k, mrow cA M.2 k) := by
  obtain ⟨h1, h2⟩ := mk_pos h
  unfold wM
  obtain ⟨n, hn⟩ : ∃ n, mPos k = n + 1 := ⟨mPos k - 1, by omega⟩
  rw [hn, List.getElem?_cons_succ, List.getElem?_map]
  rw [hn] at h1
  rw [show mKeys[n]? = some k from h1]
  rfl
theorem mk_inj : ∀ (i j : Nat), ∀ k, mKeys[i]? = some k → mKeys[j]? = some k → i = j := by
  have h : ∀ i, i < 23 → ∀ j, j < 23 → mKeys[i]? = mKeys[j]? → i = j := by decide +kernel
  intro i j k hi hj
  have h1 : i < 23 := (List.getElem?_eq_some_iff.mp hi).1
  have h2 : j < 23 := (List.getElem?_eq_some_iff.mp hj).1
  exact h i h1 j h2 (hi.trans hj.symm)
theorem wM_set0 {cA : Nat → ClassId} {am : Nat} {r : Nat → Nat} {M : MSt} {k : Nat} {v : Int32} (h : isRm k = false) : (wM cA am r M).set 0 (am, .inr (6, ((List.range 29).map (mv r M.1)).set k (.int v))) = wM cA am r (mS M k v) := by
  unfold wM
  rw [List.set_cons_zero, map_set (g' := mv r (va_up M.1 k v))]
  · intro _; simp [mv, h, va_up]
  · intro j hj; simp [mv, va_up, hj]
theorem wM_setk {cA : Nat → ClassId} {am : Nat} {r : Nat → Nat} {M : MSt} {k : Nat} {f : Nat → Int32} (h : isRm k = true) : (wM cA am r M).set (mPos k) (r k, .inl (if isZm k = true then cA 2 else cA 0, mLen k, .inl f)) = wM cA am r (M.1, va_up M.2 k f) := by
  obtain ⟨h1, h2⟩ := mk_pos h
  unfold wM
  obtain ⟨n, hn⟩ : ∃ n, mPos k = n + 1 := ⟨mPos k - 1, by omega⟩
  rw [hn] at h1
  have h3 : mKeys[n]? = some k := h1
  rw [hn, List.set_cons_succ]
  refine congrArg (fun z => (am, _) :: z) ?_
  apply List.ext_getElem?
  intro j
  rw [List.getElem?_set, List.getElem?_map, List.getElem?_map]
  by_cases hj : n = j
  · subst hj
    have h4 : n < mKeys.length := (List.getElem?_eq_some_iff.mp h3).1
    rw [if_pos rfl, if_pos (by rw [List.length_map]; exact h4), h3]
    simp [mrow, va_up]
  · rw [if_neg hj]
    cases hq : mKeys[j]? with
    | none => rfl
    | some q =>
      have : q ≠ k := fun e => hj (mk_inj n j k h3 (by rw [hq, e]))
      simp [mrow, va_up, this]
section KM
variable {p : Program} {l : Launch} {e : Env} {R : Room} {s : State} {m : MethodId} {args : Array Value} {below : List Frame} {meth : Method} {c : Code} {H : Heap} {locs : List Loc} {cells slots : Nat} {Q : State → Prop}
variable {cc : ByteArray} {pc : Nat} {ls : Array Slot} {rest : List Value} {D : va_G} {A : Nat → Prop} {am : Nat} {r : Nat → Nat} {H0 : Heap} {cA : Nat → ClassId} {M : MSt}
theorem km_rc (hK : va_K D vwCl (ty6 cA) s) (hP : va_P D vwCl (wM cA am r M) H) : ∃ cell : Cell, H[am]? = some cell ∧ cell.vm.isStatics = false ∧ s.vm.findClass RX6 = some cell.cls := va_recv hK hP (ci := 6) (q := (RX6, TX6, 29)) rfl wM_0
theorem km_geti (hexec : p.tables.exec = Jvm.exec) (hb : c.code = cc) (htT : ∀ w ∈ TT, w.before args s = true) (hown : s.vm.findClass RX6 = some m.cls) (hK : va_K D vwCl (ty6 cA) s) (hP : va_P D vwCl (wM cA am r M) H) {index : Nat} (k : Nat) (hk : k < 29) (hi : isRm k = false) (hlink : (Cond.fieldLink RX6 index (TX6 k).1 (TX6 k).2.1 (TX6 k).2.2.1).before args s = true) (hdg : decode cc pc = .ok (.getfield index, 3))
    (kk : W p l e R s m args below meth c H locs cells slots Q (F0 m (pc + 3) ls (.int (M.1 k) :: rest))) : W p l e R s m args below meth c H locs cells slots Q (F0 m pc ls (.ref am :: rest)) := by
  refine va_get hexec hb htT m_u_X6 hown hK hP 0 wM_0 rfl k hk hlink (fun _ h9 => h9) (v := .int (M.1 k)) ?_ hdg kk
  simp [hk, mv, hi]
theorem km_getr (hexec : p.tables.exec = Jvm.exec) (hb : c.code = cc) (htT : ∀ w ∈ TT, w.before args s = true) (hown : s.vm.findClass RX6 = some m.cls) (hK : va_K D vwCl (ty6 cA) s) (hP : va_P D vwCl (wM cA am r M) H) {index : Nat} (k : Nat) (hk : k < 29) (hi : isRm k = true) (hlink : (Cond.fieldLink RX6 index (TX6 k).1 (TX6 k).2.1 (TX6 k).2.2.1).before args s = true) (hdg : decode cc pc = .ok (.getfield index, 3))
    (kk : W p l e R s m args below meth c H locs cells slots Q (F0 m (pc + 3) ls (.ref (r k) :: rest))) : W p l e R s m args below meth c H locs cells slots Q (F0 m pc ls (.ref am :: rest)) := by
  refine va_get hexec hb htT m_u_X6 hown hK hP 0 wM_0 rfl k hk hlink (fun _ h9 => h9) (v := .ref (r k)) ?_ hdg kk
  simp [hk, mv, hi]
theorem km_puti (hexec : p.tables.exec = Jvm.exec) (hb : c.code = cc) (htT : ∀ w ∈ TT, w.before args s = true) (hown : s.vm.findClass RX6 = some m.cls) (hK : va_K D vwCl (ty6 cA) s) (hP : va_P D vwCl (wM cA am r M) H) (hD : va_D A (wM cA am r M)) (hS : va_S A H0 H locs) {index : Nat} (k : Nat) (hk : k < 29) (hi : isRm k = false) (hlink : (Cond.fieldLink RX6 index (TX6 k).1 (TX6 k).2.1 (TX6 k).2.2.1).before args s = true) (hfin : (TX6 k).2.2.2 = false) (hd : parseFieldDescriptor (TX6 k).2.2.1 = some .int) {x : Int32} (hdg : decode cc pc = .ok (.putfield index, 3))
    (kk : ∀ (H1 : Heap) (locs1 : List Loc), va_P D vwCl (wM cA am r (mS M k x)) H1 → va_D A (wM cA am r (mS M k x)) → va_S A H0 H1 locs1 → W p l e R s m args below meth c H1 locs1 cells slots Q (F0 m (pc + 3) ls rest)) : W p l e R s m args below meth c H locs cells slots Q (F0 m pc ls (.int x :: .ref am :: rest)) := by
  refine va_put hexec hb htT m_u_X6 tyX6 tyX6_ok nmX6 hown hK hP hD hS 0 wM_0 rfl k hk hlink (fun _ h9 => h9) hfin hd rfl rfl (by simp [hk]) hdg (fun H1 locs1 a1 a2 a3 => ?_)
  rw [wM_set0 hi] at a1 a2
  exact kk H1 locs1 a1 a2 a3
theorem km_iald (hexec : p.tables.exec = Jvm.exec) (hb : c.code = cc) (hK : va_K D vwCl (ty6 cA) s) (hP : va_P D vwCl (wM cA am r M) H) (k : Nat) (hk : isRm k = true) (hz : isZm k = false) {i : Int32} (hin : vp_in i (mLen k)) (hdg : decode cc pc = .ok (.iaload, 1))
    (kk : W p l e R s m args below meth c H locs cells slots Q (F0 m (pc + 1) ls (.int (M.2 k i.toNatClampNeg) :: rest))) : W p l e R s m args below meth c H locs cells slots Q (F0 m pc ls (.int i :: .ref (r k) :: rest)) := by
  have h := wM_k (cA := cA) (am := am) (r := r) (M := M) hk
  unfold mrow at h
  rw [hz] at h
  exact va_iald hexec hb hK hP (mPos k) 0 h rfl hin hdg kk
theorem km_zald (hexec : p.tables.exec = Jvm.exec) (hb : c.code = cc) (hK : va_K D vwCl (ty6 cA) s) (hP : va_P D vwCl (wM cA am r M) H) (k : Nat) (hk : isRm k = true) (hz : isZm k = true) {i : Int32} (hin : vp_in i (mLen k)) (hdg : decode cc pc = .ok (.baload, 1))
    (kk : W p l e R s m args below meth c H locs cells slots Q (F0 m (pc + 1) ls (.int (M.2 k i.toNatClampNeg) :: rest))) : W p l e R s m args below meth c H locs cells slots Q (F0 m pc ls (.int i :: .ref (r k) :: rest)) := by
  have h := wM_k (cA := cA) (am := am) (r := r) (M := M) hk
  unfold mrow at h
  rw [hz] at h
  exact va_zald hexec hb hK hP (mPos k) 2 h rfl hin hdg kk
theorem km_iast (hexec : p.tables.exec = Jvm.exec) (hb : c.code = cc) (hK : va_K D vwCl (ty6 cA) s) (hP : va_P D vwCl (wM cA am r M) H) (hD : va_D A (wM cA am r M)) (hS : va_S A H0 H locs) (k : Nat) (hk : isRm k = true) (hz : isZm k = false) {i x : Int32} (hin : vp_in i (mLen k)) (hdg : decode cc pc = .ok (.iastore, 1))
    (kk : ∀ (H1 : Heap) (locs1 : List Loc), va_P D vwCl (wM cA am r (mR M k i.toNatClampNeg x)) H1 → va_D A (wM cA am r (mR M k i.toNatClampNeg x)) → va_S A H0 H1 locs1 → W p l e R s m args below meth c H1 locs1 cells slots Q (F0 m (pc + 1) ls rest)) : W p l e R s m args below meth c H locs cells slots Q (F0 m pc ls (.int x :: .int i :: .ref (r k) :: rest)) := by
  have h := wM_k (cA := cA) (am := am) (r := r) (M := M) hk
  unfold mrow at h
  rw [hz] at h
  have h2 := wM_setk (cA := cA) (am := am) (r := r) (M := M) (f := upd (M.2 k) i.toNatClampNeg x) hk
  rw [hz] at h2
  refine va_iast hexec hb hK hP hD hS (mPos k) 0 h rfl hin hdg (fun H1 locs1 a1 a2 a3 => ?_)
  exact kk H1 locs1 (h2 ▸ a1) (h2 ▸ a2) a3
theorem km_zast (hexec : p.tables.exec = Jvm.exec) (hb : c.code = cc) (hK : va_K D vwCl (ty6 cA) s) (hP : va_P D vwCl (wM cA am r M) H) (hD : va_D A (wM cA am r M)) (hS : va_S A H0 H locs) (k : Nat) (hk : isRm k = true) (hz : isZm k = true) {i x : Int32} (hx : x = 0 ∨ x = 1) (hin : vp_in i (mLen k)) (hdg : decode cc pc = .ok (.bastore, 1))
    (kk : ∀ (H1 : Heap) (locs1 : List Loc), va_P D vwCl (wM cA am r (mR M k i.toNatClampNeg x)) H1 → va_D A (wM cA am r (mR M k i.toNatClampNeg x)) → va_S A H0 H1 locs1 → W p l e R s m args below meth c H1 locs1 cells slots Q (F0 m (pc + 1) ls rest)) : W p l e R s m args below meth c H locs cells slots Q (F0 m pc ls (.int x :: .int i :: .ref (r k) :: rest)) := by
  have h := wM_k (cA := cA) (am := am) (r := r) (M := M) hk
  unfold mrow at h
  rw [hz] at h
  have h2 := wM_setk (cA := cA) (am := am) (r := r) (M := M) (f := upd (M.2 k) i.toNatClampNeg x) hk
  rw [hz] at h2
  have hv : vp_nar .boolean x = x := by rcases hx with rfl | rfl <;> decide
  refine va_zast hexec hb hK hP hD hS (mPos k) 2 h rfl hin hdg (fun H1 locs1 a1 a2 a3 => ?_)
  rw [hv] at a1 a2
  exact kk H1 locs1 (h2 ▸ a1) (h2 ▸ a2) a3
theorem km_getiv (hexec : p.tables.exec = Jvm.exec) (hb : c.code = cc) (htT : ∀ w ∈ TT, w.before args s = true) (hown : s.vm.findClass RX6 = some m.cls) (hK : va_K D vwCl (ty6 cA) s) (hP : va_P D vwCl (wM cA am r M) H) {index : Nat} (k : Nat) (hk : k < 29) (hi : isRm k = false) (hlink : (Cond.fieldLink RX6 index (TX6 k).1 (TX6 k).2.1 (TX6 k).2.2.1).before args s = true) {x : Int32} (hx9 : M.1 k = x) (hdg : decode cc pc = .ok (.getfield index, 3))
    (kk : W p l e R s m args below meth c H locs cells slots Q (F0 m (pc + 3) ls (.int x :: rest))) : W p l e R s m args below meth c H locs cells slots Q (F0 m pc ls (.ref am :: rest)) := by
  subst hx9
  exact km_geti hexec hb htT hown hK hP k hk hi hlink hdg kk
theorem km_ialdv (hexec : p.tables.exec = Jvm.exec) (hb : c.code = cc) (hK : va_K D vwCl (ty6 cA) s) (hP : va_P D vwCl (wM cA am r M) H) (k : Nat) (hk : isRm k = true) (hz : isZm k = false) {i : Int32} (hin : vp_in i (mLen k)) {x : Int32} (hx9 : M.2 k i.toNatClampNeg = x) (hdg : decode cc pc = .ok (.iaload, 1))
    (kk : W p l e R s m args below meth c H locs cells slots Q (F0 m (pc + 1) ls (.int x :: rest))) : W p l e R s m args below meth c H locs cells slots Q (F0 m pc ls (.int i :: .ref (r k) :: rest)) := by
  subst hx9
  exact km_iald hexec hb hK hP k hk hz hin hdg kk
theorem km_zaldv (hexec : p.tables.exec = Jvm.exec) (hb : c.code = cc) (hK : va_K D vwCl (ty6 cA) s) (hP : va_P D vwCl (wM cA am r M) H) (k : Nat) (hk : isRm k = true) (hz : isZm k = true) {i : Int32} (hin : vp_in i (mLen k)) {x : Int32} (hx9 : M.2 k i.toNatClampNeg = x) (hdg : decode cc pc = .ok (.baload, 1))
    (kk : W p l e R s m args below meth c H locs cells slots Q (F0 m (pc + 1) ls (.int x :: rest))) : W p l e R s m args below meth c H locs cells slots Q (F0 m pc ls (.int i :: .ref (r k) :: rest)) := by
  subst hx9
  exact km_zald hexec hb hK hP k hk hz hin hdg kk
end KM
