/-! the reference: would turn, exact -/
section KMX2
variable {p : Program} {l : Launch} {e : Env} {R : Room} {s : State} {m : MethodId} {args : Array Value} {below : List Frame} {meth : Method} {c : Code} {H : Heap} {locs : List Loc} {cells slots : Nat} {Q : State → Prop}
variable {cc : ByteArray} {pc : Nat} {ls : Array Slot} {rest : List Value} {D : va_G} {A : Nat → Prop} {am : Nat} {r : Nat → Nat} {H0 : Heap} {cA : Nat → ClassId} {M : MSt} {qn N : Nat} {f : Nat → Int32}
theorem kmx_aldX (hexec : p.tables.exec = Jvm.exec) (hb : c.code = cc) (hK : va_K D vwCl (ty6 cA) s) (hP : va_P D vwCl (wM cA am r M ++ [oI cA qn N f]) H) {i : Int32} (hin : vp_in i N) (hdg : decode cc pc = .ok (.iaload, 1))
    (kk : W p l e R s m args below meth c H locs cells slots Q (F0 m (pc + 1) ls (.int (f i.toNatClampNeg) :: rest))) : W p l e R s m args below meth c H locs cells slots Q (F0 m pc ls (.int i :: .ref qn :: rest)) := va_iald hexec hb hK hP (wM cA am r M).length 0 kw_get rfl hin hdg kk
theorem kmx_astX (hexec : p.tables.exec = Jvm.exec) (hb : c.code = cc) (hK : va_K D vwCl (ty6 cA) s) (hP : va_P D vwCl (wM cA am r M ++ [oI cA qn N f]) H) (hD : va_D A (wM cA am r M ++ [oI cA qn N f])) (hS : va_S A H0 H locs) {i x : Int32} (hin : vp_in i N) (hdg : decode cc pc = .ok (.iastore, 1))
    (kk : ∀ (H1 : Heap) (locs1 : List Loc), va_P D vwCl (wM cA am r M ++ [oI cA qn N (upd f i.toNatClampNeg x)]) H1 → va_D A (wM cA am r M ++ [oI cA qn N (upd f i.toNatClampNeg x)]) → va_S A H0 H1 locs1 → W p l e R s m args below meth c H1 locs1 cells slots Q (F0 m (pc + 1) ls rest)) : W p l e R s m args below meth c H locs cells slots Q (F0 m pc ls (.int x :: .int i :: .ref qn :: rest)) := by
  refine va_iast hexec hb hK hP hD hS (wM cA am r M).length 0 kw_get rfl hin hdg (fun H1 locs1 a1 a2 a3 => ?_)
  rw [kw_set] at a1 a2
  exact kk H1 locs1 a1 a2 a3
end KMX2
theorem tl_snoc {f B : Nat → Int32} {j : Nat} (hj : j < 2 ^ 31) (h : ∀ k, k < j → f k = B k) : ∀ k, k < j + 1 → upd f (nI j).toNatClampNeg (B j) k = B k := by
  intro k hk
  rw [ki_cl hj]
  unfold upd
  by_cases e : k = j
  · rw [if_pos e, e]
  · rw [if_neg e]; exact h k (by omega)
theorem mR_bk {M : MSt} {i : Nat} {v w : Int32} (h : M.2 11 i = w) : mR (mR M 11 i v) 11 i w = M := by
  refine Prod.ext rfl ?_
  funext k j
  rw [mR_at, mR_at]
  by_cases hk : k = 11 ∧ j = i
  · rw [if_pos hk, hk.1, hk.2, h]
  · rw [if_neg hk, if_neg hk]
theorem okG.S2 {M : MSt} {n na : Nat} {ru : Nat → Nat} {ρ : Int32} (h : okG M n na ru) : okG (mS (mS M 0 0) 28 ρ) n na ru := h
theorem okG.on {M : MSt} {n na i : Nat} {ru : Nat → Nat} {v : Int32} (h : okG M n na ru) : okG (mR M 11 i v) n na ru := by
  obtain ⟨k1, k2, k3, k4, k5⟩ := h
  have e : ∀ j, j ≠ 11 → (mR M 11 i v).2 j = M.2 j := fun j hj => up_o hj
  refine ⟨k1, k2, k3, k4, fun j hj => ?_⟩
  rw [e 17 (by decide), e 15 (by decide), e 4 (by decide), rAcc_same (e 6 (by decide))]
  exact k5 j hj
theorem mS_on {M : MSt} {i : Nat} {v ρ σ : Int32} : mS (mR (mS (mS M 0 0) 28 ρ) 11 i v) 28 σ = mR (mS (mS M 0 0) 28 σ) 11 i v := congrArg (fun z => mR z 11 i v) (mS_s (M := mS M 0 0) (k := 28) (a := ρ) (b := σ))
/-- the other state of a switch; what all get -/
def rTog (M : MSt) (i : Nat) : Int32 := if M.2 11 i = 0 then 1 else 0
def rAl (M : MSt) (n na : Nat) (ru : Nat → Nat) (u : Nat) : Int32 := rAll (fun k => (rBy M na ru k u).1) n 0 0
