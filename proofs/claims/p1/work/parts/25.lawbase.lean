/-! the law over a new object: what holds there, its end -/
abbrev mZ : MSt := (fun _ => 0, fun _ _ => 0)
abbrev P0 : Pool := ([], fun _ => 0, fun _ => 0, fun _ _ => 0, fun _ _ => none, fun _ _ => 0, fun _ _ => 0, fun _ _ => none)
/-- the world of the law -/
abbrev LW (cA : Nat → ClassId) (S : Pool) (qo : Nat) (fo : Nat → Int64) (qd : Nat) (fd : Nat → UInt64) (am : Nat) (r : Nat → Nat) (M : MSt) : va_W := PW cA S ++ ([oJ cA qo fo] ++ ([oD cA qd fd] ++ wM cA am r M))
theorem pmJ (P M : va_W) (j d : Nat × va_E) : (P ++ ([j] ++ ([d] ++ M))).Perm ((P ++ [j]) ++ ([d] ++ M)) := by rw [List.append_assoc]
theorem pmD (P M : va_W) (j d : Nat × va_E) : (P ++ ([j] ++ ([d] ++ M))).Perm ((P ++ [d]) ++ ([j] ++ M)) := by
  rw [List.append_assoc]
  exact List.Perm.append_left P (List.Perm.swap d j M)
theorem pmM (P M : va_W) (j d : Nat × va_E) : (P ++ ([j] ++ ([d] ++ M))).Perm (M ++ (P ++ ([j] ++ [d]))) := by
  have h : P ++ ([j] ++ ([d] ++ M)) = (P ++ ([j] ++ [d])) ++ M := by simp
  rw [h]
  exact List.perm_append_comm
theorem pm0 (P M : va_W) (j d : Nat × va_E) : (((M ++ P) ++ [j]) ++ [d]).Perm (P ++ ([j] ++ ([d] ++ M))) := by
  have h : ((M ++ P) ++ [j]) ++ [d] = M ++ (P ++ ([j] ++ [d])) := by simp
  rw [h]
  exact (pmM P M j d).symm
theorem fresh_sw {S : Pool} {ar : Nat} (hn : ∀ j, j < 8 → gP S ar j = none) (one : Int32) : kSw S ar one = none := by
  unfold kSw
  split
  · rfl
  · rename_i h0
    split
    · rename_i h1
      rcases pk_ix one (show (8 : Nat) < 2 ^ 31 by decide) with h | h | ⟨j, hj, rfl⟩
      · exact absurd h h0
      · exact absurd h1 (Int32.not_lt.mpr h)
      · rw [nI_clamp (by omega)]; exact hn j hj
    · rfl
theorem fresh_in (x : Int32) : kIn x 0 (mZ.1 3 - 1) = 0 := by
  show kIn x 0 (-1) = 0
  unfold kIn
  by_cases h : x < 0
  · simp [h]
  · have h2 : (-1 : Int32) < x := by
      rw [Int32.lt_iff_toInt_lt] at h ⊢
      have e1 : (0 : Int32).toInt = 0 := rfl
      have e2 : (-1 : Int32).toInt = -1 := rfl
      rw [e1] at h
      rw [e2]
      omega
    simp [h, h2]
theorem lg_self (x : Int64) : lg_cmp x x = 0 := by
  unfold lg_cmp
  simp
theorem kg_SW {own : String} {idx : Nat} {y : MethodName} {w : Cond} (h1 : Cond.methodLink own idx y ∈ TT) (h2 : Cond.static y ∈ TT) (h4 : Cond.initialized y.cls ∈ TT) (h5 : w ∈ TT) : GoodIn TT (va_wsS own idx y (w :: TT)) := by
  intro z hz
  have : z ∈ TT := by
    simp only [va_wsS, List.cons_append, List.nil_append, List.mem_cons] at hz
    rcases hz with rfl | rfl | rfl | rfl | hz <;> assumption
  exact ⟨this, tt_good this⟩
section LW
variable {p : Program} {l : Launch} {e : Env} {R : Room} {s : State} {m : MethodId} {args : Array Value} {below : List Frame} {meth : Method} {c : Code} {H : Heap} {locs : List Loc} {cells slots mc ms : Nat} {Q : State → Prop}
variable {cc : ByteArray} {pc : Nat} {ls : Array Slot} {st0 rest : List Value} {D : va_G} {A : Nat → Prop} {a b : Nat} {H0 : Heap} {cA : Nat → ClassId} {wa wb : va_W}
/-- the row out is read -/
theorem kw_lald {f : Nat → Int64} {v : Int64} (hexec : p.tables.exec = Jvm.exec) (hb : c.code = cc) (hK : va_K D vwCl (ty6 cA) s) (hP : va_P D vwCl (wa ++ ([oJ cA a f] ++ wb)) H) (hv : f 0 = v) (hdg : decode cc pc = .ok (.laload, 1))
    (kk : W p l e R s m args below meth c H locs cells slots Q (F0 m (pc + 1) ls (.long v :: rest))) : W p l e R s m args below meth c H locs cells slots Q (F0 m pc ls (.int 0 :: .ref a :: rest)) := by
  have h : (wa ++ ([oJ cA a f] ++ wb))[wa.length]? = some (oJ cA a f) := by simp
  refine va_lald hexec hb hK hP wa.length 1 h rfl (vp_in_iff.mpr (by decide)) hdg ?_
  rw [show f (0 : Int32).toNatClampNeg = v from hv]
  exact kk
end LW
set_option maxRecDepth 100000 in
set_option maxHeartbeats 4000000 in
/-- behind the one call: the law ends, and answers 1 -/
theorem law_end {p : Program} {l : Launch} {e : Env} {s : State} {m : MethodId} {below : List Frame} {meth : Method} {c : Code} {b : Nat} {xs : Nat → Int32} (C0 : lw_At p s m meth c b 6 xs) {H : Heap} {locs : List Loc} {ls : Array Slot} (hS : va_S (fun q : Nat => s.heap.size ≤ q) s.heap H locs) {cells slots : Nat} (hc : cells ≤ 600002) (hs : slots ≤ 7302232) (hl : lv_has ls 9 [(5, .int 0), (0, .ref b)]) :
    W p l e room_1 s m #[Value.ref b] below meth c H locs cells slots (lw_Z below #[Value.ref b] s) (F0 m 2693 ls []) := by
  obtain ⟨hx, hb, hr, hml, hown, hts, hX, hbl, hlocks, hgv⟩ := C0
  have hbA : ¬ (fun q : Nat => s.heap.size ≤ q) b := Nat.not_le.mpr hbl
  refine lv_iinc (v := 6) (lv' := [(5, .int 6), (0, .ref b)]) hx hb dL_law_2693 hl (k := 0) rfl (by decide) (by decide) rfl (fun ls hl => ?_)
  refine lv_goto (tgt := 28) hx hb dL_law_2696 (by decide) ?_
  refine lv_iload hx hb dL_law_28 (lv_at hl 0 rfl) ?_
  refine lv_aload_n hx hb dL_law_30 rfl (lv_at hl 1 rfl) ?_
  refine va_slen hx hb hX hbl hbA hS dL_law_31 ?_
  refine lv_bipush (v := 6) hx hb dL_law_32 (by decide) ?_
  refine lv_isub hx hb dL_law_34 ?_
  refine lv_icmp_gt (tgt := 2699) hx hb dL_law_35 (by decide) (fun _ => ?_) (fun c_1 => absurd c_1 (by decide))
  refine lv_iconst (v := 1) hx hb dL_law_2699 (by decide) ?_
  refine va_forget (fun q hq => hS.2.2 q hq) ?_
  refine W.widen (k := 600002) (n := 7302232) hc hs ?_
  refine W.base ?_
  exact lw_ret (Drawn.sameBut.refl s.drawn lw_cs) hx hb hr hlocks dL_law_2700
