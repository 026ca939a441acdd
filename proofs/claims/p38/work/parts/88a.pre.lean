/-! how a method of Desk begins: the cells, what a throw needs, the script -/
abbrev kPreE (D : va_G) (cA : Nat → ClassId) (ws : va_W) (b L : Nat) (xs : Nat → Int32) (sz : Nat) (U : State) : Prop := kPreX D cA ws sz U ∧ va_X b L xs U U.heap ∧ b < sz ∧ (¬ va_A ws sz b) ∧ va_AOA .int U ∧ va_AOA (.array .int) U
theorem kPreE.blind {D : va_G} {cA : Nat → ClassId} {ws : va_W} {b L : Nat} {xs : Nat → Int32} {sz : Nat} {av : List Value} : FrameBlind (va_Pc av (kPreE D cA ws b L xs sz)) := fun _ U _ _ q => ⟨q.1, ⟨q.2.1.1.call, q.2.1.2.call⟩, va_X.moved (u := U) (Vm.Alike.refl U.vm) q.2.2.1, q.2.2.2.1, q.2.2.2.2.1, va_AOA.moved (u := U) (Vm.Alike.refl U.vm) q.2.2.2.2.2.1, va_AOA.moved (u := U) (Vm.Alike.refl U.vm) q.2.2.2.2.2.2⟩
section KE
variable {p : Program} {l : Launch} {e : Env} {R : Room} {s : State} {m : MethodId} {args : Array Value} {below : List Frame} {meth : Method} {c : Code} {H : Heap} {locs : List Loc} {cells slots mc ms : Nat} {Q : State → Prop}
variable {D : va_G} {A : Nat → Prop} {a b L : Nat} {xs : Nat → Int32} {H0 : Heap} {cA : Nat → ClassId} {ws : va_W} {As : List Value}
theorem kpe_at (hK : va_K D vwCl (ty6 cA) s) (hP : va_P D vwCl ws H) (hD : va_D A ws) (hTB : TBok s) (hTX : TXok A s) (hX : va_X b L xs s s.heap) (hbl : b < s.heap.size) (hbA : ¬ A b) (hAO : va_AOA .int s ∧ va_AOA (.array .int) s) (hS : va_S A s.heap H locs) (hA : ∀ q, s.heap.size ≤ q → A q) {U : State} (hU : U.heap = H) (hW : s.WarmedH U.vm) : kPreE D cA ws b L xs H.size U := by
  refine ⟨⟨kp_at hK hP hD hTB hU hW, hTX.at hS (kp_A hD hS hA) hU hW⟩, ?_, Nat.lt_of_lt_of_le hbl hS.1, fun h => hbA (kp_A hD hS hA b h), va_AOA.moved hW.alike hAO.1, va_AOA.moved hW.alike hAO.2⟩
  subst hU
  exact (hX.kept (hS.2.1 b hbl hbA)).moved hW.alike
theorem kpe_V (hK : va_K D vwCl (ty6 cA) s) (hP : va_P D vwCl ws H) (hD : va_D A ws) (hTB : TBok s) (hTX : TXok A s) (hX : va_X b L xs s s.heap) (hbl : b < s.heap.size) (hbA : ¬ A b) (hAO : va_AOA .int s ∧ va_AOA (.array .int) s) (hS : va_S A s.heap H locs) (hA : ∀ q, s.heap.size ≤ q → A q) {C : String} {o : Nat} (hrc : ∃ cell : Cell, H[o]? = some cell ∧ cell.vm.isStatics = false ∧ s.vm.findClass C = some cell.cls) : PreV s H C o (va_Pc (.ref o :: As) (kPreE D cA ws b L xs H.size)) As :=
  ⟨kPreE.blind, hrc, fun _ hU hW => ⟨rfl, kpe_at hK hP hD hTB hTX hX hbl hbA hAO hS hA hU hW⟩⟩
theorem kpe_S (hK : va_K D vwCl (ty6 cA) s) (hP : va_P D vwCl ws H) (hD : va_D A ws) (hTB : TBok s) (hTX : TXok A s) (hX : va_X b L xs s s.heap) (hbl : b < s.heap.size) (hbA : ¬ A b) (hAO : va_AOA .int s ∧ va_AOA (.array .int) s) (hS : va_S A s.heap H locs) (hA : ∀ q, s.heap.size ≤ q → A q) : PreS s H (va_Pc As (kPreE D cA ws b L xs H.size)) As :=
  ⟨kPreE.blind, fun _ hU hW => ⟨rfl, kpe_at hK hP hD hTB hTX hX hbl hbA hAO hS hA hU hW⟩⟩
end KE
