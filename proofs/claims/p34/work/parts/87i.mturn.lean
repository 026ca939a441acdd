/-! the reference: would turn, exact -/
section KMX2
variable {p : Program} {l : Launch} {e : Env} {R : Room} {s : State} {m : MethodId} {args : Array Value} {below : List Frame} {meth : Method} {c : Code} {H : Heap} {locs : List Loc} {cells slots : Nat} {Q : State → Prop}
variable {cc : ByteArray} {pc : Nat} {ls : Array Slot} {rest : List Value} {D : va_G} {A : Nat → Prop} {am : Nat} {r : Nat → Nat} {H0 : Heap} {cA : Nat → ClassId} {M : MSt} {qn N : Nat} {f : Nat → Int32}
theorem kmx_aldX (hexec : p.tables.exec = Jvm.exec) (hb : c.code = cc) (hK : va_K D vwCl (ty6 cA) s) (hP : va_P D vwCl (wM cA am r M ++ [oI cA qn N f]) H) {i : Int32} (hin : vp_in i N) (hdg : decode cc pc = .ok (.iaload, 1))
    (kk : W p l e R s m args below meth c H locs cells slots Q (F0 m (pc + 1) ls (.int (f i.toNatClampNeg) :: rest))) : W p l e R s m args below meth c H locs cells slots Q (F0 m pc ls (.int i :: .ref qn :: rest)) := va_iald hexec hb hK hP (wM cA am r M).length 0 kw_get rfl hin hdg kk
theorem kmx_astX (hexec : p.tables.exec = Jvm.exec) (hb : c.code = cc) (hK : va_K D vwCl (ty6 cA) s) (hP : va_P D vwCl (wM cA am r M ++ [oI cA qn N f]) H) (hD : va_D A (wM cA am r M ++ [oI cA qn N f])) (hS : va_S A H0 H locs) {i x : Int32} (hin : vp_in i N) (hdg : decode cc pc = .ok (.iastore, 1))
    (kk : ∀ (H1 : Heap) (locs1 : List Loc), va_P D vwCl (wM cA am r M ++ [oI cA qn N (upd f i.toNatClampNeg x)]) H1 → va_D A (wM cA am r M ++ [oI cA qn N (upd f i.toNatClampNeg x)]) → va_S A H0 H1 locs1 → W p l e R s m args below meth c H1 locs1 cells slots Q (F0 m (pc + 1) ls rest)) : W p l e R s m args below meth c H locs cells slots Q (F0 m pc ls (.int x :: .int i :: .ref qn :: rest)) := by
  refine va_iast hexec hb hK hP hD hS (wM cA am r M).length 0 kw_get rfl hin hdg (fun H1 locs1 a1 a2 a3 => ?_)
  rw [kw_set] at a1 a2
  exact kk H1 locs1 a1 a2 a3
end KMX2
theorem tl_snoc {f B : Nat → Int32} {j : Nat} (hj : j < 2 ^ 31) (h : ∀ k, k < j → f k = B k) : ∀ k, k < j + 1 → upd f (nI j).toNatClampNeg (B j) k = B k := by
  intro k hk
  rw [ki_cl hj]
  unfold upd
  by_cases e : k = j
  · rw [if_pos e, e]
  · rw [if_neg e]; exact h k (by omega)
theorem mR_bk {M : MSt} {i : Nat} {v w : Int32} (h : M.2 11 i = w) : mR (mR M 11 i v) 11 i w = M := by
  refine Prod.ext rfl ?_
  funext k j
  rw [mR_at, mR_at]
  by_cases hk : k = 11 ∧ j = i
  · rw [if_pos hk, hk.1, hk.2, h]
  · rw [if_neg hk, if_neg hk]
theorem okG.S2 {M : MSt} {n na : Nat} {ru : Nat → Nat} {ρ : Int32} (h : okG M n na ru) : okG (mS (mS M 0 0) 28 ρ) n na ru := h
theorem okG.on {M : MSt} {n na i : Nat} {ru : Nat → Nat} {v : Int32} (h : okG M n na ru) : okG (mR M 11 i v) n na ru := by
  obtain ⟨k1, k2, k3, k4, k5⟩ := h
  have e : ∀ j, j ≠ 11 → (mR M 11 i v).2 j = M.2 j := fun j hj => up_o hj
  refine ⟨k1, k2, k3, k4, fun j hj => ?_⟩
  rw [e 17 (by decide), e 15 (by decide), e 4 (by decide), rAcc_same (e 6 (by decide))]
  exact k5 j hj
theorem mS_on {M : MSt} {i : Nat} {v ρ σ : Int32} : mS (mR (mS (mS M 0 0) 28 ρ) 11 i v) 28 σ = mR (mS (mS M 0 0) 28 σ) 11 i v := congrArg (fun z => mR z 11 i v) (mS_s (M := mS M 0 0) (k := 28) (a := ρ) (b := σ))
/-- the other state of a switch; what all get -/
def rTog (M : MSt) (i : Nat) : Int32 := if M.2 11 i = 0 then 1 else 0
def rAl (M : MSt) (n na : Nat) (ru : Nat → Nat) (u : Nat) : Int32 := rAll (fun k => (rBy M na ru k u).1) n 0 0
set_option maxRecDepth 100000 in
set_option maxHeartbeats 4000000 in
/-- wouldTurn, exact -/
theorem m_wouldTurn (l : Launch) (D : va_G) (cA : Nat → ClassId) (sz : Nat) (am : Nat) (r : Nat → Nat) (M : MSt) (n i : Nat) (hi : i < n) (hn8 : n ≤ 8) (h3 : M.1 3 = nI n) (na : Nat) (ru : Nat → Nat) (hok : okG M n na ru) (hz01 : M.2 11 i = 0 ∨ M.2 11 i = 1) (mm : Nat) (hm2 : mm ≤ 200) (h1 : kIn (nI mm) 1 200 = 1) : Met l yX6_wouldTurn (Cond.code yX6_wouldTurn cX6_wouldTurn 6 (some .int) :: TT) ({ frames := 20, cells := 1, slots := 200, locals := 1009 }) (va_Pc [.ref am, .int (nI i), .int (nI mm)] (kPre D cA (wM cA am r M) sz)) (va_Qi (fun (r_ : Int32) (x_ : MSt) => r_ = rCnt (fun u => if rAl (mR M 11 i (rTog M i)) n na ru u = rAl M n na ru u then 0 else 1) mm 0 0 ∧ ∃ ρ, x_ = mS (mS M 0 0) 28 ρ) (fun x_ => kB D cA (va_A (wM cA am r M) sz) (wM cA am r x_)) (va_A (wM cA am r M) sz)) 1 200 (va_A (wM cA am r M) sz) := by
  refine Met.ofW (cc := cX6_wouldTurn) (maxL := 6) (ret := (some .int)) (by decide) rfl ?_
  intro p e s m args below meth c s₁ B hml hv
  obtain ⟨rfl, hsz, hP, hK, hD0, hTB⟩ := hv
  have hx := B.exec
  have hb := B.bytes
  have hr := B.returns
  have hts := atoms_spec (ws := Cond.code yX6_wouldTurn cX6_wouldTurn 6 (some .int) :: TT) B.pre
  have htT : ∀ w ∈ TT, w.before _ s = true := fun w h => hts w (List.mem_cons_of_mem _ h)
  have hown : s.vm.findClass RX6 = some m.cls := findClass_of_methodNamed B.named
  have hlocks := B.notSynchronized
  subst hsz
  have hD := hD0.self (sz := s.heap.size)
  generalize hAe : va_A (wM cA am r M) s.heap.size = A at hD ⊢
  have hA : ∀ q : Nat, s.heap.size ≤ q → A q := fun q h => by rw [← hAe]; exact Or.inr h
  have hS : va_S A s.heap s.heap [] := va_S.rf
  have hl := lv_entry ([.ref am, .int (nI i), .int (nI mm)]) (n := 6) (Nat.le_of_ble_eq_true rfl)
  rw [lg_entry_eq]
  generalize (lg_sl ([.ref am, .int (nI i), .int (nI mm)]) ++ List.replicate (6 - (lg_sl ([.ref am, .int (nI i), .int (nI mm)])).length) Slot.unset).toArray = ls at hl ⊢
  have hl : lv_has ls 6 [(0, .ref am), (1, .int (nI i)), (2, .int (nI mm))] := hl
  have hsw1 := kIn_sw hi hn8 h3
  have hmm := hm2
  refine lv_aload_n hx hb dX6_wouldTurn_0 rfl (lv_at hl 0 rfl) ?_
  refine lv_iconst (v := 0) hx hb dX6_wouldTurn_1 (by decide) ?_
  refine km_puti hx hb htT hown hK hP hD hS 0 (by decide) rfl (htT _ m_fl_X6_80) rfl (by decide +kernel) dX6_wouldTurn_2 (fun H locs hP hD hS => ?_)
  refine lv_aload_n hx hb dX6_wouldTurn_5 rfl (lv_at hl 0 rfl) ?_
  refine lv_iload_n hx hb dX6_wouldTurn_6 rfl (lv_at hl 1 rfl) ?_
  refine kc_i (va_runV (As := [.int (nI i)]) (rest := []) ⟨hx, hb, hml, hown, htT⟩ (m_isSwitch l D cA _ am r (mS M 0 0) (nI i)) (cwV 1 htT (kg_V m_ml_X6_91 m_im_X6_isSwitch m_sl_X6_isSwitch m_in_X6 m_cd_X6_isSwitch) rfl rfl rfl (by decide +kernel) ⟨Nat.le_of_ble_eq_true rfl, Nat.le_of_ble_eq_true rfl⟩) (kp_V hK hP hD hTB (km_rc hK hP)) rfl rfl hl.1 rfl (lv_room (Nat.le_of_ble_eq_true rfl)) dX6_wouldTurn_7 ⟨Nat.le_of_ble_eq_true rfl, Nat.le_of_ble_eq_true rfl⟩) hD hS hA (fun r_1 x_1 H locs hq_1 hP hD hS => ?_)
  rw [hq_1.1.trans hsw1]
  rw [hq_1.2] at hP hD
  refine lv_if_ne (tgt := 19) hx hb dX6_wouldTurn_10 (by decide) (fun _ => ?_) (fun c_2 => absurd c_2 (by decide))
  refine lv_iload_n hx hb dX6_wouldTurn_19 rfl (lv_at hl 2 rfl) ?_
  refine lv_iconst (v := 1) hx hb dX6_wouldTurn_20 (by decide) ?_
  refine lv_sipush (v := 200) hx hb dX6_wouldTurn_21 (by decide) ?_
  refine kc_i (va_runS (As := [.int (nI mm), .int 1, .int 200]) (rest := []) ⟨hx, hb, hml, hown, htT⟩ (m_isIn l D cA _ am r (mS M 0 0) (nI mm) 1 200) (cwS 3 htT (kg_S m_ml_X6_87 m_st_X6_isIn m_in_X6 m_cd_X6_isIn) rfl rfl rfl (by decide +kernel) ⟨Nat.le_of_ble_eq_true rfl, Nat.le_of_ble_eq_true rfl⟩) (kp_S hK hP hD hTB) rfl rfl hl.1 rfl (lv_room (Nat.le_of_ble_eq_true rfl)) dX6_wouldTurn_24 ⟨Nat.le_of_ble_eq_true rfl, Nat.le_of_ble_eq_true rfl⟩) hD hS hA (fun r_3 x_3 H locs hq_3 hP hD hS => ?_)
  rw [hq_3.1.trans h1]
  rw [hq_3.2] at hP hD
  refine lv_if_ne (tgt := 36) hx hb dX6_wouldTurn_27 (by decide) (fun _ => ?_) (fun c_4 => absurd c_4 (by decide))
  refine lv_iload_n hx hb dX6_wouldTurn_36 rfl (lv_at hl 2 rfl) ?_
  refine kmx_new hx hb (htT _ m_ar_int) hK hP hD hS hA (mm := mm) hmm (Nat.le_of_ble_eq_true rfl) (Nat.le_of_ble_eq_true rfl) dX6_wouldTurn_37 (fun qn H hP hD hS => ?_)
  refine lv_astore_n (lv' := [(3, .ref qn), (0, .ref am), (1, .int (nI i)), (2, .int (nI mm))]) hx hb dX6_wouldTurn_39 rfl hl (by decide) rfl (fun ls hl => ?_)
  refine lv_iconst (v := 0) hx hb dX6_wouldTurn_40 (by decide) ?_
  refine lv_istore (lv' := [(4, .int 0), (3, .ref qn), (0, .ref am), (1, .int (nI i)), (2, .int (nI mm))]) hx hb dX6_wouldTurn_41 hl (by decide) rfl (fun ls hl => ?_)
  have hP : va_P D vwCl (wM cA am r (mS (mS M 0 0) 28 (M.1 28)) ++ [oI cA qn mm (fun _ => 0)]) H := by rw [show mS (mS M 0 0) 28 (M.1 28) = mS M 0 0 from mS_id (M := mS M 0 0) (k := 28)]; exact hP
  have hD : va_D A (wM cA am r (mS (mS M 0 0) 28 (M.1 28)) ++ [oI cA qn mm (fun _ => 0)]) := by rw [show mS (mS M 0 0) 28 (M.1 28) = mS M 0 0 from mS_id (M := mS M 0 0) (k := 28)]; exact hD
  refine kz_loop 43 (fun N9 H locs ls => ∃ (j : Nat) (ρ : Int32) (f : Nat → Int32), N9 = mm - j ∧ j ≤ mm ∧ (∀ k, k < j → f k = rAl M n na ru k) ∧ va_P D vwCl (wM cA am r (mS (mS M 0 0) 28 ρ) ++ [oI cA qn mm f]) H ∧ va_D A (wM cA am r (mS (mS M 0 0) 28 ρ) ++ [oI cA qn mm f]) ∧ va_S A s.heap H locs ∧ lv_has ls 6 [(4, .int (nI j)), (3, .ref qn), (2, .int (nI mm)), (1, .int (nI i)), (0, .ref am)]) (fun N9 ih_43 H locs ls hI => ?_) ⟨0, (M.1 28), (fun _ => 0), rfl, by omega, fun k hk => absurd hk (Nat.not_lt_zero k), hP, hD, hS, lv_sub hl [0, 1, 4, 3, 2] rfl⟩
  obtain ⟨j, ρ, f, hn9, hj, hA9, hP, hD, hS, hl⟩ := hI
  refine lv_iload hx hb dX6_wouldTurn_43 (lv_at hl 0 rfl) ?_
  refine lv_iload_n hx hb dX6_wouldTurn_45 rfl (lv_at hl 2 rfl) ?_
  refine lv_icmp_ge (tgt := 65) hx hb dX6_wouldTurn_46 (by decide) (fun c_6 => ?_) (fun c_6 => ?_)
  · replace c_6 := (nI_leI (a := mm) (b := j) (by omega) (by omega)).mp c_6
    refine lv_aload_n hx hb dX6_wouldTurn_65 rfl (lv_at hl 4 rfl) ?_
    refine kmx_getr hx hb htT hown hK hP 11 (by decide) rfl (htT _ m_fl_X6_32) dX6_wouldTurn_66 ?_
    refine lv_iload_n hx hb dX6_wouldTurn_69 rfl (lv_at hl 3 rfl) ?_
    refine lv_aload_n hx hb dX6_wouldTurn_70 rfl (lv_at hl 4 rfl) ?_
    refine kmx_getr hx hb htT hown hK hP 11 (by decide) rfl (htT _ m_fl_X6_32) dX6_wouldTurn_71 ?_
    refine lv_iload_n hx hb dX6_wouldTurn_74 rfl (lv_at hl 3 rfl) ?_
    refine kmx_zald hx hb hK hP 11 rfl rfl (show vp_in (nI i) 8 from ki_in (by omega) (by decide)) dX6_wouldTurn_75 ?_
    rw [ki_cl (n := i) (by omega)]
    rcases hz01 with hz9 | hz9
    · rw [show (mS (mS M 0 0) 28 ρ).2 11 i = 0 from hz9]
      refine lv_if_ne (tgt := 83) hx hb dX6_wouldTurn_76 (by decide) (fun c_7 => absurd c_7 (by decide)) (fun _ => ?_)
      refine lv_iconst (v := 1) hx hb dX6_wouldTurn_79 (by decide) ?_
      refine lv_goto (tgt := 84) hx hb dX6_wouldTurn_80 (by decide) ?_
      refine kmx_zast hx hb hK hP hD hS 11 rfl rfl (Or.inr rfl) (show vp_in (nI i) 8 from ki_in (by omega) (by decide)) dX6_wouldTurn_84 (fun H locs hP hD hS => ?_)
      rw [ki_cl (n := i) (by omega)] at hP hD
      refine lv_iconst (v := 0) hx hb dX6_wouldTurn_85 (by decide) ?_
      refine lv_istore (lv' := [(4, .int 0), (3, .ref qn), (2, .int (nI mm)), (1, .int (nI i)), (0, .ref am)]) hx hb dX6_wouldTurn_86 hl (by decide) rfl (fun ls hl => ?_)
      refine lv_iconst (v := 0) hx hb dX6_wouldTurn_88 (by decide) ?_
      refine lv_istore (lv' := [(5, .int 0), (4, .int 0), (3, .ref qn), (2, .int (nI mm)), (1, .int (nI i)), (0, .ref am)]) hx hb dX6_wouldTurn_89 hl (by decide) rfl (fun ls hl => ?_)
      have hA9 : ∀ k, k < mm → f k = rAl M n na ru k := fun k hk => hA9 k (by omega)
      refine kz_loop 91 (fun N9 H locs ls => ∃ (j : Nat) (acc : Int32) (ρ : Int32), N9 = mm - j ∧ j ≤ mm ∧ rCnt (fun u => if rAl (mR M 11 i 1) n na ru u = rAl M n na ru u then 0 else 1) mm 0 0 = rCnt (fun u => if rAl (mR M 11 i 1) n na ru u = rAl M n na ru u then 0 else 1) (mm - j) j acc ∧ va_P D vwCl (wM cA am r (mR (mS (mS M 0 0) 28 ρ) 11 i 1) ++ [oI cA qn mm f]) H ∧ va_D A (wM cA am r (mR (mS (mS M 0 0) 28 ρ) 11 i 1) ++ [oI cA qn mm f]) ∧ va_S A s.heap H locs ∧ lv_has ls 6 [(5, .int (nI j)), (4, .int acc), (3, .ref qn), (2, .int (nI mm)), (1, .int (nI i)), (0, .ref am)]) (fun N9 ih_91 H locs ls hI => ?_) ⟨0, 0, ρ, rfl, by omega, rfl, hP, hD, hS, lv_sub hl [0, 1, 2, 3, 4, 5] rfl⟩
      obtain ⟨j, acc, ρ, hn9, hj, hF, hP, hD, hS, hl⟩ := hI
      refine lv_iload hx hb dX6_wouldTurn_91 (lv_at hl 0 rfl) ?_
      refine lv_iload_n hx hb dX6_wouldTurn_93 rfl (lv_at hl 3 rfl) ?_
      refine lv_icmp_ge (tgt := 126) hx hb dX6_wouldTurn_94 (by decide) (fun c_8 => ?_) (fun c_8 => ?_)
      · replace c_8 := (nI_leI (a := mm) (b := j) (by omega) (by omega)).mp c_8
        refine lv_aload_n hx hb dX6_wouldTurn_126 rfl (lv_at hl 5 rfl) ?_
        refine kmx_getr hx hb htT hown hK hP 11 (by decide) rfl (htT _ m_fl_X6_32) dX6_wouldTurn_127 ?_
        refine lv_iload_n hx hb dX6_wouldTurn_130 rfl (lv_at hl 4 rfl) ?_
        refine lv_aload_n hx hb dX6_wouldTurn_131 rfl (lv_at hl 5 rfl) ?_
        refine kmx_getr hx hb htT hown hK hP 11 (by decide) rfl (htT _ m_fl_X6_32) dX6_wouldTurn_132 ?_
        refine lv_iload_n hx hb dX6_wouldTurn_135 rfl (lv_at hl 4 rfl) ?_
        refine kmx_zald hx hb hK hP 11 rfl rfl (show vp_in (nI i) 8 from ki_in (by omega) (by decide)) dX6_wouldTurn_136 ?_
        rw [ki_cl (n := i) (by omega)]
        rw [show (mR (mS (mS M 0 0) 28 ρ) 11 i 1).2 11 i = 1 by rw [mR_at, if_pos ⟨rfl, rfl⟩]]
        refine lv_if_ne (tgt := 144) hx hb dX6_wouldTurn_137 (by decide) (fun _ => ?_) (fun c_9 => absurd c_9 (by decide))
        refine lv_iconst (v := 0) hx hb dX6_wouldTurn_144 (by decide) ?_
        refine kmx_zast hx hb hK hP hD hS 11 rfl rfl (Or.inl rfl) (show vp_in (nI i) 8 from ki_in (by omega) (by decide)) dX6_wouldTurn_145 (fun H locs hP hD hS => ?_)
        rw [ki_cl (n := i) (by omega)] at hP hD
        refine lv_iload hx hb dX6_wouldTurn_146 (lv_at hl 1 rfl) ?_
        have hP := kmx_P hP
        have hD := kmx_D hD
        rw [mR_bk (show (mS (mS M 0 0) 28 ρ).2 11 i = 0 from hz9)] at hP hD
        exact W.iret (v := acc) hx hb hr (fun t ht hW => ⟨⟨acc, mS (mS M 0 0) 28 ρ, rfl, ⟨by rw [show rTog M i = 1 from if_pos hz9, hF, show mm - j = 0 by omega]; rfl, _, rfl⟩, by rw [ht]; exact hP, va_K.moved hW.alike hK, hD⟩, hS.F ht⟩) hS.2.2 dX6_wouldTurn_148
      · replace c_8 : ¬ (mm ≤ j) := fun h9 => c_8 ((nI_leI (a := mm) (b := j) (by omega) (by omega)).mpr h9)
        refine lv_iload hx hb dX6_wouldTurn_97 (lv_at hl 1 rfl) ?_
        refine lv_aload_n hx hb dX6_wouldTurn_99 rfl (lv_at hl 5 rfl) ?_
        refine lv_iload hx hb dX6_wouldTurn_100 (lv_at hl 0 rfl) ?_
        refine kj_i (List.Perm.refl _) (va_runV (As := [.int (nI j)]) (rest := [.int acc]) ⟨hx, hb, hml, hown, htT⟩ (m_all l D cA _ am r (mR (mS (mS M 0 0) 28 ρ) 11 i 1) n na ru (hok.S2).on j (by omega)) (cwV 1 htT (kg_V m_ml_X6_212 m_im_X6_all m_sl_X6_all m_in_X6 m_cd_X6_all) rfl rfl rfl (by decide +kernel) ⟨Nat.le_of_ble_eq_true rfl, Nat.le_of_ble_eq_true rfl⟩) (kj_V (List.Perm.refl _) hK hP hD hTB (kj_rm (List.Perm.refl _) hK hP)) rfl rfl hl.1 rfl (lv_room (Nat.le_of_ble_eq_true rfl)) dX6_wouldTurn_102 ⟨Nat.le_of_ble_eq_true rfl, Nat.le_of_ble_eq_true rfl⟩) hP hD hS hA (fun r_10 x_10 H locs hq_10 hP hD hS => ?_)
        obtain ⟨ρ_10, eρ_10⟩ : ∃ ρ, x_10 = mR (mS (mS M 0 0) 28 ρ) 11 i 1 := hq_10.2.imp (fun _ e => e.trans mS_on)
        rw [eρ_10] at hP hD
        rw [show r_10 = rAl (mR M 11 i 1) n na ru j from hq_10.1]
        refine lv_aload_n hx hb dX6_wouldTurn_105 rfl (lv_at hl 2 rfl) ?_
        refine lv_iload hx hb dX6_wouldTurn_106 (lv_at hl 0 rfl) ?_
        refine kmx_aldX hx hb hK hP (show vp_in (nI j) mm from ki_in (by omega) (by omega)) dX6_wouldTurn_108 ?_
        rw [ki_cl (n := j) (by omega), hA9 j (by omega)]
        refine lv_icmp_ne (tgt := 116) hx hb dX6_wouldTurn_109 (by decide) (fun c_11 => ?_) (fun c_11 => ?_)
        · refine lv_iconst (v := 1) hx hb dX6_wouldTurn_116 (by decide) ?_
          refine lv_iadd hx hb dX6_wouldTurn_117 ?_
          refine lv_istore (lv' := [(4, .int (acc + 1)), (5, .int (nI j)), (3, .ref qn), (2, .int (nI mm)), (1, .int (nI i)), (0, .ref am)]) hx hb dX6_wouldTurn_118 hl (by decide) rfl (fun ls hl => ?_)
          refine lv_iinc (v := nI (j + 1)) (lv' := [(5, .int (nI (j + 1))), (4, .int (acc + 1)), (3, .ref qn), (2, .int (nI mm)), (1, .int (nI i)), (0, .ref am)]) hx hb dX6_wouldTurn_120 hl (k := 1) rfl (nI_1 _) (by decide) rfl (fun ls hl => ?_)
          refine lv_goto (tgt := 91) hx hb dX6_wouldTurn_123 (by decide) ?_
          have hl := lv_sub hl [0, 1, 2, 3, 4, 5] rfl
          exact ih_91 _ (by omega) H locs ls ⟨j + 1, _, ρ_10, rfl, by omega, by rw [hF, show mm - j = (mm - (j + 1)) + 1 by omega]; simp [rCnt, c_11], hP, hD, hS, hl⟩
        · refine lv_iconst (v := 0) hx hb dX6_wouldTurn_112 (by decide) ?_
          refine lv_goto (tgt := 117) hx hb dX6_wouldTurn_113 (by decide) ?_
          refine lv_iadd hx hb dX6_wouldTurn_117 ?_
          refine lv_istore (lv' := [(4, .int (acc + 0)), (5, .int (nI j)), (3, .ref qn), (2, .int (nI mm)), (1, .int (nI i)), (0, .ref am)]) hx hb dX6_wouldTurn_118 hl (by decide) rfl (fun ls hl => ?_)
          refine lv_iinc (v := nI (j + 1)) (lv' := [(5, .int (nI (j + 1))), (4, .int (acc + 0)), (3, .ref qn), (2, .int (nI mm)), (1, .int (nI i)), (0, .ref am)]) hx hb dX6_wouldTurn_120 hl (k := 1) rfl (nI_1 _) (by decide) rfl (fun ls hl => ?_)
          refine lv_goto (tgt := 91) hx hb dX6_wouldTurn_123 (by decide) ?_
          have hl := lv_sub hl [0, 1, 2, 3, 4, 5] rfl
          exact ih_91 _ (by omega) H locs ls ⟨j + 1, _, ρ_10, rfl, by omega, by rw [hF, show mm - j = (mm - (j + 1)) + 1 by omega]; simp [rCnt, c_11], hP, hD, hS, hl⟩
    · rw [show (mS (mS M 0 0) 28 ρ).2 11 i = 1 from hz9]
      refine lv_if_ne (tgt := 83) hx hb dX6_wouldTurn_76 (by decide) (fun _ => ?_) (fun c_12 => absurd c_12 (by decide))
      refine lv_iconst (v := 0) hx hb dX6_wouldTurn_83 (by decide) ?_
      refine kmx_zast hx hb hK hP hD hS 11 rfl rfl (Or.inl rfl) (show vp_in (nI i) 8 from ki_in (by omega) (by decide)) dX6_wouldTurn_84 (fun H locs hP hD hS => ?_)
      rw [ki_cl (n := i) (by omega)] at hP hD
      refine lv_iconst (v := 0) hx hb dX6_wouldTurn_85 (by decide) ?_
      refine lv_istore (lv' := [(4, .int 0), (3, .ref qn), (2, .int (nI mm)), (1, .int (nI i)), (0, .ref am)]) hx hb dX6_wouldTurn_86 hl (by decide) rfl (fun ls hl => ?_)
      refine lv_iconst (v := 0) hx hb dX6_wouldTurn_88 (by decide) ?_
      refine lv_istore (lv' := [(5, .int 0), (4, .int 0), (3, .ref qn), (2, .int (nI mm)), (1, .int (nI i)), (0, .ref am)]) hx hb dX6_wouldTurn_89 hl (by decide) rfl (fun ls hl => ?_)
      have hA9 : ∀ k, k < mm → f k = rAl M n na ru k := fun k hk => hA9 k (by omega)
      refine kz_loop 91 (fun N9 H locs ls => ∃ (j : Nat) (acc : Int32) (ρ : Int32), N9 = mm - j ∧ j ≤ mm ∧ rCnt (fun u => if rAl (mR M 11 i 0) n na ru u = rAl M n na ru u then 0 else 1) mm 0 0 = rCnt (fun u => if rAl (mR M 11 i 0) n na ru u = rAl M n na ru u then 0 else 1) (mm - j) j acc ∧ va_P D vwCl (wM cA am r (mR (mS (mS M 0 0) 28 ρ) 11 i 0) ++ [oI cA qn mm f]) H ∧ va_D A (wM cA am r (mR (mS (mS M 0 0) 28 ρ) 11 i 0) ++ [oI cA qn mm f]) ∧ va_S A s.heap H locs ∧ lv_has ls 6 [(5, .int (nI j)), (4, .int acc), (3, .ref qn), (2, .int (nI mm)), (1, .int (nI i)), (0, .ref am)]) (fun N9 ih_91 H locs ls hI => ?_) ⟨0, 0, ρ, rfl, by omega, rfl, hP, hD, hS, lv_sub hl [0, 1, 2, 3, 4, 5] rfl⟩
      obtain ⟨j, acc, ρ, hn9, hj, hF, hP, hD, hS, hl⟩ := hI
      refine lv_iload hx hb dX6_wouldTurn_91 (lv_at hl 0 rfl) ?_
      refine lv_iload_n hx hb dX6_wouldTurn_93 rfl (lv_at hl 3 rfl) ?_
      refine lv_icmp_ge (tgt := 126) hx hb dX6_wouldTurn_94 (by decide) (fun c_13 => ?_) (fun c_13 => ?_)
      · replace c_13 := (nI_leI (a := mm) (b := j) (by omega) (by omega)).mp c_13
        refine lv_aload_n hx hb dX6_wouldTurn_126 rfl (lv_at hl 5 rfl) ?_
        refine kmx_getr hx hb htT hown hK hP 11 (by decide) rfl (htT _ m_fl_X6_32) dX6_wouldTurn_127 ?_
        refine lv_iload_n hx hb dX6_wouldTurn_130 rfl (lv_at hl 4 rfl) ?_
        refine lv_aload_n hx hb dX6_wouldTurn_131 rfl (lv_at hl 5 rfl) ?_
        refine kmx_getr hx hb htT hown hK hP 11 (by decide) rfl (htT _ m_fl_X6_32) dX6_wouldTurn_132 ?_
        refine lv_iload_n hx hb dX6_wouldTurn_135 rfl (lv_at hl 4 rfl) ?_
        refine kmx_zald hx hb hK hP 11 rfl rfl (show vp_in (nI i) 8 from ki_in (by omega) (by decide)) dX6_wouldTurn_136 ?_
        rw [ki_cl (n := i) (by omega)]
        rw [show (mR (mS (mS M 0 0) 28 ρ) 11 i 0).2 11 i = 0 by rw [mR_at, if_pos ⟨rfl, rfl⟩]]
        refine lv_if_ne (tgt := 144) hx hb dX6_wouldTurn_137 (by decide) (fun c_14 => absurd c_14 (by decide)) (fun _ => ?_)
        refine lv_iconst (v := 1) hx hb dX6_wouldTurn_140 (by decide) ?_
        refine lv_goto (tgt := 145) hx hb dX6_wouldTurn_141 (by decide) ?_
        refine kmx_zast hx hb hK hP hD hS 11 rfl rfl (Or.inr rfl) (show vp_in (nI i) 8 from ki_in (by omega) (by decide)) dX6_wouldTurn_145 (fun H locs hP hD hS => ?_)
        rw [ki_cl (n := i) (by omega)] at hP hD
        refine lv_iload hx hb dX6_wouldTurn_146 (lv_at hl 1 rfl) ?_
        have hP := kmx_P hP
        have hD := kmx_D hD
        rw [mR_bk (show (mS (mS M 0 0) 28 ρ).2 11 i = 1 from hz9)] at hP hD
        exact W.iret (v := acc) hx hb hr (fun t ht hW => ⟨⟨acc, mS (mS M 0 0) 28 ρ, rfl, ⟨by rw [show rTog M i = 0 from if_neg (by rw [hz9]; decide), hF, show mm - j = 0 by omega]; rfl, _, rfl⟩, by rw [ht]; exact hP, va_K.moved hW.alike hK, hD⟩, hS.F ht⟩) hS.2.2 dX6_wouldTurn_148
      · replace c_13 : ¬ (mm ≤ j) := fun h9 => c_13 ((nI_leI (a := mm) (b := j) (by omega) (by omega)).mpr h9)
        refine lv_iload hx hb dX6_wouldTurn_97 (lv_at hl 1 rfl) ?_
        refine lv_aload_n hx hb dX6_wouldTurn_99 rfl (lv_at hl 5 rfl) ?_
        refine lv_iload hx hb dX6_wouldTurn_100 (lv_at hl 0 rfl) ?_
        refine kj_i (List.Perm.refl _) (va_runV (As := [.int (nI j)]) (rest := [.int acc]) ⟨hx, hb, hml, hown, htT⟩ (m_all l D cA _ am r (mR (mS (mS M 0 0) 28 ρ) 11 i 0) n na ru (hok.S2).on j (by omega)) (cwV 1 htT (kg_V m_ml_X6_212 m_im_X6_all m_sl_X6_all m_in_X6 m_cd_X6_all) rfl rfl rfl (by decide +kernel) ⟨Nat.le_of_ble_eq_true rfl, Nat.le_of_ble_eq_true rfl⟩) (kj_V (List.Perm.refl _) hK hP hD hTB (kj_rm (List.Perm.refl _) hK hP)) rfl rfl hl.1 rfl (lv_room (Nat.le_of_ble_eq_true rfl)) dX6_wouldTurn_102 ⟨Nat.le_of_ble_eq_true rfl, Nat.le_of_ble_eq_true rfl⟩) hP hD hS hA (fun r_15 x_15 H locs hq_15 hP hD hS => ?_)
        obtain ⟨ρ_15, eρ_15⟩ : ∃ ρ, x_15 = mR (mS (mS M 0 0) 28 ρ) 11 i 0 := hq_15.2.imp (fun _ e => e.trans mS_on)
        rw [eρ_15] at hP hD
        rw [show r_15 = rAl (mR M 11 i 0) n na ru j from hq_15.1]
        refine lv_aload_n hx hb dX6_wouldTurn_105 rfl (lv_at hl 2 rfl) ?_
        refine lv_iload hx hb dX6_wouldTurn_106 (lv_at hl 0 rfl) ?_
        refine kmx_aldX hx hb hK hP (show vp_in (nI j) mm from ki_in (by omega) (by omega)) dX6_wouldTurn_108 ?_
        rw [ki_cl (n := j) (by omega), hA9 j (by omega)]
        refine lv_icmp_ne (tgt := 116) hx hb dX6_wouldTurn_109 (by decide) (fun c_16 => ?_) (fun c_16 => ?_)
        · refine lv_iconst (v := 1) hx hb dX6_wouldTurn_116 (by decide) ?_
          refine lv_iadd hx hb dX6_wouldTurn_117 ?_
          refine lv_istore (lv' := [(4, .int (acc + 1)), (5, .int (nI j)), (3, .ref qn), (2, .int (nI mm)), (1, .int (nI i)), (0, .ref am)]) hx hb dX6_wouldTurn_118 hl (by decide) rfl (fun ls hl => ?_)
          refine lv_iinc (v := nI (j + 1)) (lv' := [(5, .int (nI (j + 1))), (4, .int (acc + 1)), (3, .ref qn), (2, .int (nI mm)), (1, .int (nI i)), (0, .ref am)]) hx hb dX6_wouldTurn_120 hl (k := 1) rfl (nI_1 _) (by decide) rfl (fun ls hl => ?_)
          refine lv_goto (tgt := 91) hx hb dX6_wouldTurn_123 (by decide) ?_
          have hl := lv_sub hl [0, 1, 2, 3, 4, 5] rfl
          exact ih_91 _ (by omega) H locs ls ⟨j + 1, _, ρ_15, rfl, by omega, by rw [hF, show mm - j = (mm - (j + 1)) + 1 by omega]; simp [rCnt, c_16], hP, hD, hS, hl⟩
        · refine lv_iconst (v := 0) hx hb dX6_wouldTurn_112 (by decide) ?_
          refine lv_goto (tgt := 117) hx hb dX6_wouldTurn_113 (by decide) ?_
          refine lv_iadd hx hb dX6_wouldTurn_117 ?_
          refine lv_istore (lv' := [(4, .int (acc + 0)), (5, .int (nI j)), (3, .ref qn), (2, .int (nI mm)), (1, .int (nI i)), (0, .ref am)]) hx hb dX6_wouldTurn_118 hl (by decide) rfl (fun ls hl => ?_)
          refine lv_iinc (v := nI (j + 1)) (lv' := [(5, .int (nI (j + 1))), (4, .int (acc + 0)), (3, .ref qn), (2, .int (nI mm)), (1, .int (nI i)), (0, .ref am)]) hx hb dX6_wouldTurn_120 hl (k := 1) rfl (nI_1 _) (by decide) rfl (fun ls hl => ?_)
          refine lv_goto (tgt := 91) hx hb dX6_wouldTurn_123 (by decide) ?_
          have hl := lv_sub hl [0, 1, 2, 3, 4, 5] rfl
          exact ih_91 _ (by omega) H locs ls ⟨j + 1, _, ρ_15, rfl, by omega, by rw [hF, show mm - j = (mm - (j + 1)) + 1 by omega]; simp [rCnt, c_16], hP, hD, hS, hl⟩
  · replace c_6 : ¬ (mm ≤ j) := fun h9 => c_6 ((nI_leI (a := mm) (b := j) (by omega) (by omega)).mpr h9)
    refine lv_aload_n hx hb dX6_wouldTurn_49 rfl (lv_at hl 1 rfl) ?_
    refine lv_iload hx hb dX6_wouldTurn_50 (lv_at hl 0 rfl) ?_
    refine lv_aload_n hx hb dX6_wouldTurn_52 rfl (lv_at hl 4 rfl) ?_
    refine lv_iload hx hb dX6_wouldTurn_53 (lv_at hl 0 rfl) ?_
    refine kj_i (List.Perm.refl _) (va_runV (As := [.int (nI j)]) (rest := [.int (nI j), .ref qn]) ⟨hx, hb, hml, hown, htT⟩ (m_all l D cA _ am r (mS (mS M 0 0) 28 ρ) n na ru hok.S2 j (by omega)) (cwV 1 htT (kg_V m_ml_X6_212 m_im_X6_all m_sl_X6_all m_in_X6 m_cd_X6_all) rfl rfl rfl (by decide +kernel) ⟨Nat.le_of_ble_eq_true rfl, Nat.le_of_ble_eq_true rfl⟩) (kj_V (List.Perm.refl _) hK hP hD hTB (kj_rm (List.Perm.refl _) hK hP)) rfl rfl hl.1 rfl (lv_room (Nat.le_of_ble_eq_true rfl)) dX6_wouldTurn_55 ⟨Nat.le_of_ble_eq_true rfl, Nat.le_of_ble_eq_true rfl⟩) hP hD hS hA (fun r_17 x_17 H locs hq_17 hP hD hS => ?_)
    obtain ⟨ρ_17, eρ_17⟩ : ∃ ρ, x_17 = mS (mS M 0 0) 28 ρ := hq_17.2.imp (fun _ e => e.trans mS_s)
    rw [eρ_17] at hP hD
    rw [show r_17 = rAl M n na ru j from hq_17.1]
    refine kmx_astX hx hb hK hP hD hS (show vp_in (nI j) mm from ki_in (by omega) (by omega)) dX6_wouldTurn_58 (fun H locs hP hD hS => ?_)
    refine lv_iinc (v := nI (j + 1)) (lv' := [(4, .int (nI (j + 1))), (3, .ref qn), (2, .int (nI mm)), (1, .int (nI i)), (0, .ref am)]) hx hb dX6_wouldTurn_59 hl (k := 0) rfl (nI_1 _) (by decide) rfl (fun ls hl => ?_)
    refine lv_goto (tgt := 43) hx hb dX6_wouldTurn_62 (by decide) ?_
    have hl := lv_sub hl [0, 1, 2, 3, 4] rfl
    exact ih_43 _ (by omega) H locs ls ⟨j + 1, ρ_17, upd f (nI j).toNatClampNeg (rAl M n na ru j), rfl, by omega, tl_snoc (by omega) hA9, hP, hD, hS, hl⟩

set_option maxRecDepth 100000 in
set_option maxHeartbeats 4000000 in
theorem m_wouldTurn_1 (l : Launch) (D : va_G) (cA : Nat → ClassId) (sz : Nat) (am : Nat) (r : Nat → Nat) (M : MSt) (n i : Nat) (hi : i < n) (hn8 : n ≤ 8) (h3 : M.1 3 = nI n) (p1 : Int32) (h1 : kIn p1 1 200 = 0) : Met l yX6_wouldTurn (Cond.code yX6_wouldTurn cX6_wouldTurn 6 (some .int) :: TT) ({ frames := 2, cells := 0, slots := 0, locals := 43 }) (va_Pc [.ref am, .int (nI i), .int p1] (kPre D cA (wM cA am r M) sz)) (va_Qi (fun (r_ : Int32) (x_ : MSt) => r_ = 0 ∧ x_ = mS (mS M 0 0) 0 2) (fun x_ => kB D cA (va_A (wM cA am r M) sz) (wM cA am r x_)) (va_A (wM cA am r M) sz)) 0 0 (va_A (wM cA am r M) sz) := by
  refine Met.ofW (cc := cX6_wouldTurn) (maxL := 6) (ret := (some .int)) (by decide) rfl ?_
  intro p e s m args below meth c s₁ B hml hv
  obtain ⟨rfl, hsz, hP, hK, hD0, hTB⟩ := hv
  have hx := B.exec
  have hb := B.bytes
  have hr := B.returns
  have hts := atoms_spec (ws := Cond.code yX6_wouldTurn cX6_wouldTurn 6 (some .int) :: TT) B.pre
  have htT : ∀ w ∈ TT, w.before _ s = true := fun w h => hts w (List.mem_cons_of_mem _ h)
  have hown : s.vm.findClass RX6 = some m.cls := findClass_of_methodNamed B.named
  have hlocks := B.notSynchronized
  subst hsz
  have hD := hD0.self (sz := s.heap.size)
  generalize hAe : va_A (wM cA am r M) s.heap.size = A at hD ⊢
  have hA : ∀ q : Nat, s.heap.size ≤ q → A q := fun q h => by rw [← hAe]; exact Or.inr h
  have hS : va_S A s.heap s.heap [] := va_S.rf
  have hl := lv_entry ([.ref am, .int (nI i), .int p1]) (n := 6) (Nat.le_of_ble_eq_true rfl)
  rw [lg_entry_eq]
  generalize (lg_sl ([.ref am, .int (nI i), .int p1]) ++ List.replicate (6 - (lg_sl ([.ref am, .int (nI i), .int p1])).length) Slot.unset).toArray = ls at hl ⊢
  have hl : lv_has ls 6 [(0, .ref am), (1, .int (nI i)), (2, .int p1)] := hl
  have hsw1 := kIn_sw hi hn8 h3
  refine lv_aload_n hx hb dX6_wouldTurn_0 rfl (lv_at hl 0 rfl) ?_
  refine lv_iconst (v := 0) hx hb dX6_wouldTurn_1 (by decide) ?_
  refine km_puti hx hb htT hown hK hP hD hS 0 (by decide) rfl (htT _ m_fl_X6_80) rfl (by decide +kernel) dX6_wouldTurn_2 (fun H locs hP hD hS => ?_)
  refine lv_aload_n hx hb dX6_wouldTurn_5 rfl (lv_at hl 0 rfl) ?_
  refine lv_iload_n hx hb dX6_wouldTurn_6 rfl (lv_at hl 1 rfl) ?_
  refine kc_i (va_runV (As := [.int (nI i)]) (rest := []) ⟨hx, hb, hml, hown, htT⟩ (m_isSwitch l D cA _ am r (mS M 0 0) (nI i)) (cwV 1 htT (kg_V m_ml_X6_91 m_im_X6_isSwitch m_sl_X6_isSwitch m_in_X6 m_cd_X6_isSwitch) rfl rfl rfl (by decide +kernel) ⟨Nat.le_of_ble_eq_true rfl, Nat.le_of_ble_eq_true rfl⟩) (kp_V hK hP hD hTB (km_rc hK hP)) rfl rfl hl.1 rfl (lv_room (Nat.le_of_ble_eq_true rfl)) dX6_wouldTurn_7 ⟨Nat.le_of_ble_eq_true rfl, Nat.le_of_ble_eq_true rfl⟩) hD hS hA (fun r_1 x_1 H locs hq_1 hP hD hS => ?_)
  rw [hq_1.1.trans hsw1]
  rw [hq_1.2] at hP hD
  refine lv_if_ne (tgt := 19) hx hb dX6_wouldTurn_10 (by decide) (fun _ => ?_) (fun c_2 => absurd c_2 (by decide))
  refine lv_iload_n hx hb dX6_wouldTurn_19 rfl (lv_at hl 2 rfl) ?_
  refine lv_iconst (v := 1) hx hb dX6_wouldTurn_20 (by decide) ?_
  refine lv_sipush (v := 200) hx hb dX6_wouldTurn_21 (by decide) ?_
  refine kc_i (va_runS (As := [.int p1, .int 1, .int 200]) (rest := []) ⟨hx, hb, hml, hown, htT⟩ (m_isIn l D cA _ am r (mS M 0 0) p1 1 200) (cwS 3 htT (kg_S m_ml_X6_87 m_st_X6_isIn m_in_X6 m_cd_X6_isIn) rfl rfl rfl (by decide +kernel) ⟨Nat.le_of_ble_eq_true rfl, Nat.le_of_ble_eq_true rfl⟩) (kp_S hK hP hD hTB) rfl rfl hl.1 rfl (lv_room (Nat.le_of_ble_eq_true rfl)) dX6_wouldTurn_24 ⟨Nat.le_of_ble_eq_true rfl, Nat.le_of_ble_eq_true rfl⟩) hD hS hA (fun r_3 x_3 H locs hq_3 hP hD hS => ?_)
  rw [hq_3.1.trans h1]
  rw [hq_3.2] at hP hD
  refine lv_if_ne (tgt := 36) hx hb dX6_wouldTurn_27 (by decide) (fun c_4 => absurd c_4 (by decide)) (fun _ => ?_)
  refine lv_aload_n hx hb dX6_wouldTurn_30 rfl (lv_at hl 0 rfl) ?_
  refine lv_iconst (v := 2) hx hb dX6_wouldTurn_31 (by decide) ?_
  refine kc_i (va_runV (As := [.int 2]) (rest := []) ⟨hx, hb, hml, hown, htT⟩ (m_no l D cA _ am r (mS M 0 0) 2) (cwV 1 htT (kg_V m_ml_X6_95 m_im_X6_no m_sl_X6_no m_in_X6 m_cd_X6_no) rfl rfl rfl (by decide +kernel) ⟨Nat.le_of_ble_eq_true rfl, Nat.le_of_ble_eq_true rfl⟩) (kp_V hK hP hD hTB (km_rc hK hP)) rfl rfl hl.1 rfl (lv_room (Nat.le_of_ble_eq_true rfl)) dX6_wouldTurn_32 ⟨Nat.le_of_ble_eq_true rfl, Nat.le_of_ble_eq_true rfl⟩) hD hS hA (fun r_5 x_5 H locs hq_5 hP hD hS => ?_)
  rw [hq_5.1]
  rw [hq_5.2] at hP hD
  exact W.iret (v := 0) hx hb hr (fun t ht hW => ⟨⟨0, mS (mS M 0 0) 0 2, rfl, ⟨rfl, rfl⟩, by rw [ht]; exact hP, va_K.moved hW.alike hK, hD⟩, hS.F ht⟩) hS.2.2 dX6_wouldTurn_35

