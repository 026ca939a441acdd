/-! new rows beside Desk's -/
section KF
variable {p : Program} {l : Launch} {e : Env} {R : Room} {s : State} {m : MethodId} {args : Array Value} {below : List Frame} {meth : Method} {c : Code} {H : Heap} {locs : List Loc} {cells slots : Nat} {Q : State → Prop}
variable {cc : ByteArray} {pc : Nat} {ls : Array Slot} {rest : List Value} {D : va_G} {A : Nat → Prop} {a : Nat} {H0 : Heap} {cA : Nat → ClassId} {S : Pool} {wb : va_W}
theorem ky_iastv (hexec : p.tables.exec = Jvm.exec) (hb : c.code = cc) (hK : va_K D vwCl (ty6 cA) s) (hP : va_P D vwCl (PW cA S ++ wb) H) (hD : va_D A (PW cA S ++ wb)) (hS : va_S A H0 H locs) {ki n : Nat} (ho : isA S a ki n) (h6 : 6 ≤ ki) (h20 : ki < 20) {i x : Int32} (hin : vp_in i n) {j : Nat} (hj : i.toNatClampNeg = j) (hdg : decode cc pc = .ok (.iastore, 1))
    (kk : ∀ (H1 : Heap) (locs1 : List Loc), va_P D vwCl (PW cA (pR S a j x) ++ wb) H1 → va_D A (PW cA (pR S a j x) ++ wb) → va_S A H0 H1 locs1 → W p l e R s m args below meth c H1 locs1 cells slots Q (F0 m (pc + 1) ls rest)) : W p l e R s m args below meth c H locs cells slots Q (F0 m pc ls (.int x :: .int i :: .ref a :: rest)) := by
  subst hj
  exact ky_iast hexec hb hK hP hD hS ho h6 h20 hin hdg kk
theorem ky_astav (hexec : p.tables.exec = Jvm.exec) (hb : c.code = cc) (hP : va_P D vwCl (PW cA S ++ wb) H) (hD : va_D A (PW cA S ++ wb)) (hS : va_S A H0 H locs) {n v : Nat} (ho : isA S a 24 n) {ki nv : Nat} (hv : isA S v ki nv) (h6 : 6 ≤ ki) (h20 : ki < 20) (hR : va_RR s (cA 6) (cA 0) .int) {i : Int32} (hin : vp_in i n) {j : Nat} (hj : i.toNatClampNeg = j) (hdg : decode cc pc = .ok (.aastore, 1))
    (kk : ∀ (H1 : Heap) (locs1 : List Loc), va_P D vwCl (PW cA (pP S a j (some v)) ++ wb) H1 → va_D A (PW cA (pP S a j (some v)) ++ wb) → va_S A H0 H1 locs1 → W p l e R s m args below meth c H1 locs1 cells slots Q (F0 m (pc + 1) ls rest)) : W p l e R s m args below meth c H locs cells slots Q (F0 m pc ls (.ref v :: .int i :: .ref a :: rest)) := by
  subst hj
  exact ky_asta hexec hb hP hD hS ho hv h6 h20 hR hin hdg kk
theorem ky_astbv (hexec : p.tables.exec = Jvm.exec) (hb : c.code = cc) (hP : va_P D vwCl (PW cA S ++ wb) H) (hD : va_D A (PW cA S ++ wb)) (hS : va_S A H0 H locs) {n v : Nat} (ho : isA S a 25 n) {nv : Nat} (hv : isA S v 24 nv) (hR : va_RR s (cA 7) (cA 6) (.array .int)) {i : Int32} (hin : vp_in i n) {j : Nat} (hj : i.toNatClampNeg = j) (hdg : decode cc pc = .ok (.aastore, 1))
    (kk : ∀ (H1 : Heap) (locs1 : List Loc), va_P D vwCl (PW cA (pP S a j (some v)) ++ wb) H1 → va_D A (PW cA (pP S a j (some v)) ++ wb) → va_S A H0 H1 locs1 → W p l e R s m args below meth c H1 locs1 cells slots Q (F0 m (pc + 1) ls rest)) : W p l e R s m args below meth c H locs cells slots Q (F0 m pc ls (.ref v :: .int i :: .ref a :: rest)) := by
  subst hj
  exact ky_astb hexec hb hP hD hS ho hv hR hin hdg kk
end KF
/-- none of Desk's rows of ints -/
def NQ (A : DA) (V : DV) (q : Nat) : Prop := (∀ k, k < vN V → aOk A k ≠ q) ∧ (∀ k, k < 8 → aWk A k ≠ q) ∧ (∀ k i, k < 8 → i < vC V k → aRR A k i ≠ q) ∧ ∀ i, i < vA V → aAk A i ≠ q
/-- none of Desk's rows of rows -/
def NP (A : DA) (q : Nat) : Prop := aO A ≠ q ∧ aW A ≠ q ∧ aR A ≠ q ∧ aA A ≠ q ∧ ∀ k, k < 8 → aRk A k ≠ q
section KFS
variable {T : Pool} {d x b q j : Nat} {A : DA} {V : DV}
theorem DK.nq (h : DK T d x b A V) (hq : q ∉ gL T) : NQ A V q := ⟨fun k hk e => hq (e ▸ (h.oa hk).1), fun k hk e => hq (e ▸ (h.wa hk).1), fun k i hk hi e => hq (e ▸ (h.rra hk hi).1), fun i hi e => hq (e ▸ (h.ma hi).1)⟩
theorem DK.np (h : DK T d x b A V) (hq : q ∉ gL T) : NP A q := ⟨fun e => hq (e ▸ h.ao.1), fun e => hq (e ▸ h.aw.1), fun e => hq (e ▸ h.ar.1), fun e => hq (e ▸ h.aa.1), fun k hk e => hq (e ▸ (h.ra hk).1)⟩
theorem DK.fr {v : Int32} (h : DK T d x b A V) (hq : NQ A V q) : DK (pR T q j v) d x b A V := by
  obtain ⟨q1, q2, q3, q4⟩ := hq
  obtain ⟨h1, h2, ⟨c1, c2⟩, ⟨d1, d2⟩, e1, f1, f2⟩ := h
  exact ⟨h1, h2, ⟨fun i hi => ⟨(c1 i hi).1, (c1 i hi).2.1, fun z hz => (u2_a (q1 i hi)).trans ((c1 i hi).2.2 z hz)⟩, c2⟩, ⟨fun i hi => ⟨(d1 i hi).1, (d1 i hi).2.1, fun z hz => (u2_a (q2 i hi)).trans ((d1 i hi).2.2 z hz)⟩, d2⟩, fun i hi => ⟨(e1 i hi).1, (e1 i hi).2.1, fun z hz => ⟨((e1 i hi).2.2 z hz).1, ((e1 i hi).2.2 z hz).2.1, fun y hy => (u2_a (q3 i z hi hz)).trans (((e1 i hi).2.2 z hz).2.2 y hy)⟩⟩, fun i hi => ⟨(f1 i hi).1, (f1 i hi).2.1, fun z hz => (u2_a (q4 i hi)).trans ((f1 i hi).2.2 z hz)⟩, f2⟩
theorem DK.frP {v : Option Nat} (h : DK T d x b A V) (hq : NP A q) : DK (pP T q j v) d x b A V := by
  obtain ⟨q1, q2, q3, q4, q5⟩ := hq
  obtain ⟨h1, h2, ⟨c1, c2⟩, ⟨d1, d2⟩, e1, f1, f2⟩ := h
  exact ⟨h1, h2, ⟨fun i hi => ⟨(u2_a q1).trans (c1 i hi).1, (c1 i hi).2⟩, c2⟩, ⟨fun i hi => ⟨(u2_a q2).trans (d1 i hi).1, (d1 i hi).2⟩, d2⟩, fun i hi => ⟨(u2_a q3).trans (e1 i hi).1, (e1 i hi).2.1, fun z hz => ⟨(u2_a (q5 i hi)).trans ((e1 i hi).2.2 z hz).1, ((e1 i hi).2.2 z hz).2⟩⟩, fun i hi => ⟨(u2_a q4).trans (f1 i hi).1, (f1 i hi).2⟩, f2⟩
end KFS
