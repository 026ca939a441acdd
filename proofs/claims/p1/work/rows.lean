section
-- ===== PART A: goes FIRST, ahead of the names: the tables' words, and 'selects' of the private methods out of them =====
/-- a private method of a class that the tables say can be made, by its rows of tables_1 -/
def lw_okq (q : MethodName × Nat) : Prop := (q.1.cls ≠ "java/lang/invoke/MethodHandle" ∧ q.1.cls ≠ "java/lang/invoke/VarHandle") ∧ Cond.instantiable q.1.cls q.2 ∈ tables_1 ∧ Cond.privateMethod q.1 ∈ tables_1 ∧ Cond.instanceMethod q.1 ∈ tables_1
theorem lw_p0 : lw_okq (⟨"java/lang/Throwable", "fillInStackTrace", "(I)Ljava/lang/Throwable;"⟩, 6) := ⟨⟨by decide +kernel, by decide +kernel⟩, List.mem_of_getElem? (i := 138) (by decide +kernel), List.mem_of_getElem? (i := 136) (by decide +kernel), List.mem_of_getElem? (i := 137) (by decide +kernel)⟩
theorem lw_p1 : lw_okq (⟨"DaybreakFlags", "withSwitch", "(JI)J"⟩, 6) := ⟨⟨by decide +kernel, by decide +kernel⟩, List.mem_of_getElem? (i := 17) (by decide +kernel), List.mem_of_getElem? (i := 168) (by decide +kernel), List.mem_of_getElem? (i := 169) (by decide +kernel)⟩
theorem lw_p2 : lw_okq (⟨"DaybreakFlags", "known", "(I)LDaybreakFlags$Switch;"⟩, 6) := ⟨⟨by decide +kernel, by decide +kernel⟩, List.mem_of_getElem? (i := 17) (by decide +kernel), List.mem_of_getElem? (i := 176) (by decide +kernel), List.mem_of_getElem? (i := 177) (by decide +kernel)⟩
theorem lw_p3 : lw_okq (⟨"DaybreakFlags", "switchAt", "(I)LDaybreakFlags$Switch;"⟩, 6) := ⟨⟨by decide +kernel, by decide +kernel⟩, List.mem_of_getElem? (i := 17) (by decide +kernel), List.mem_of_getElem? (i := 180) (by decide +kernel), List.mem_of_getElem? (i := 181) (by decide +kernel)⟩
theorem lw_p4 : lw_okq (⟨"DaybreakFlags", "variantOf", "(LDaybreakFlags$Switch;)I"⟩, 6) := ⟨⟨by decide +kernel, by decide +kernel⟩, List.mem_of_getElem? (i := 17) (by decide +kernel), List.mem_of_getElem? (i := 293) (by decide +kernel), List.mem_of_getElem? (i := 294) (by decide +kernel)⟩
theorem lw_p5 : lw_okq (⟨"DaybreakFlags", "reasonOf", "(LDaybreakFlags$Switch;)I"⟩, 6) := ⟨⟨by decide +kernel, by decide +kernel⟩, List.mem_of_getElem? (i := 17) (by decide +kernel), List.mem_of_getElem? (i := 297) (by decide +kernel), List.mem_of_getElem? (i := 298) (by decide +kernel)⟩
theorem lw_p6 : lw_okq (⟨"DaybreakFlags", "hasNeed", "(LDaybreakFlags$Switch;)Z"⟩, 6) := ⟨⟨by decide +kernel, by decide +kernel⟩, List.mem_of_getElem? (i := 17) (by decide +kernel), List.mem_of_getElem? (i := 305) (by decide +kernel), List.mem_of_getElem? (i := 306) (by decide +kernel)⟩
theorem lw_p7 : lw_okq (⟨"DaybreakFlags", "isInLayer", "(LDaybreakFlags$Switch;)Z"⟩, 6) := ⟨⟨by decide +kernel, by decide +kernel⟩, List.mem_of_getElem? (i := 17) (by decide +kernel), List.mem_of_getElem? (i := 328) (by decide +kernel), List.mem_of_getElem? (i := 329) (by decide +kernel)⟩
theorem lw_p8 : lw_okq (⟨"DaybreakFlags", "variantBy", "(LDaybreakFlags$Switch;I)I"⟩, 6) := ⟨⟨by decide +kernel, by decide +kernel⟩, List.mem_of_getElem? (i := 17) (by decide +kernel), List.mem_of_getElem? (i := 337) (by decide +kernel), List.mem_of_getElem? (i := 338) (by decide +kernel)⟩
theorem lw_p9 : lw_okq (⟨"DaybreakFlags", "isTaken", "(IIII)Z"⟩, 6) := ⟨⟨by decide +kernel, by decide +kernel⟩, List.mem_of_getElem? (i := 17) (by decide +kernel), List.mem_of_getElem? (i := 531) (by decide +kernel), List.mem_of_getElem? (i := 532) (by decide +kernel)⟩
theorem lw_p10 : lw_okq (⟨"DaybreakFlags$Tally", "spreadByCount", "(I)D"⟩, 5) := ⟨⟨by decide +kernel, by decide +kernel⟩, List.mem_of_getElem? (i := 396) (by decide +kernel), List.mem_of_getElem? (i := 747) (by decide +kernel), List.mem_of_getElem? (i := 748) (by decide +kernel)⟩
theorem lw_p11 : lw_okq (⟨"DaybreakFlags", "changesByTurning", "(II)Z"⟩, 6) := ⟨⟨by decide +kernel, by decide +kernel⟩, List.mem_of_getElem? (i := 17) (by decide +kernel), List.mem_of_getElem? (i := 795) (by decide +kernel), List.mem_of_getElem? (i := 796) (by decide +kernel)⟩
theorem lw_p12 : lw_okq (⟨"DaybreakFlagsModel", "no", "(I)I"⟩, 29) := ⟨⟨by decide +kernel, by decide +kernel⟩, List.mem_of_getElem? (i := 810) (by decide +kernel), List.mem_of_getElem? (i := 916) (by decide +kernel), List.mem_of_getElem? (i := 917) (by decide +kernel)⟩
theorem lw_p13 : lw_okq (⟨"DaybreakFlagsModel", "isVariant", "(II)Z"⟩, 29) := ⟨⟨by decide +kernel, by decide +kernel⟩, List.mem_of_getElem? (i := 810) (by decide +kernel), List.mem_of_getElem? (i := 924) (by decide +kernel), List.mem_of_getElem? (i := 925) (by decide +kernel)⟩
theorem lw_p14 : lw_okq (⟨"DaybreakFlagsModel", "isSwitch", "(I)Z"⟩, 29) := ⟨⟨by decide +kernel, by decide +kernel⟩, List.mem_of_getElem? (i := 810) (by decide +kernel), List.mem_of_getElem? (i := 928) (by decide +kernel), List.mem_of_getElem? (i := 929) (by decide +kernel)⟩
theorem lw_p15 : lw_okq (⟨"DaybreakFlagsModel", "isNot", "(I)Z"⟩, 29) := ⟨⟨by decide +kernel, by decide +kernel⟩, List.mem_of_getElem? (i := 810) (by decide +kernel), List.mem_of_getElem? (i := 936) (by decide +kernel), List.mem_of_getElem? (i := 937) (by decide +kernel)⟩
def lw_privs_1 : List (MethodName × Nat) := [(⟨"java/lang/Throwable", "fillInStackTrace", "(I)Ljava/lang/Throwable;"⟩, 6), (⟨"DaybreakFlags", "withSwitch", "(JI)J"⟩, 6), (⟨"DaybreakFlags", "known", "(I)LDaybreakFlags$Switch;"⟩, 6), (⟨"DaybreakFlags", "switchAt", "(I)LDaybreakFlags$Switch;"⟩, 6), (⟨"DaybreakFlags", "variantOf", "(LDaybreakFlags$Switch;)I"⟩, 6), (⟨"DaybreakFlags", "reasonOf", "(LDaybreakFlags$Switch;)I"⟩, 6), (⟨"DaybreakFlags", "hasNeed", "(LDaybreakFlags$Switch;)Z"⟩, 6), (⟨"DaybreakFlags", "isInLayer", "(LDaybreakFlags$Switch;)Z"⟩, 6), (⟨"DaybreakFlags", "variantBy", "(LDaybreakFlags$Switch;I)I"⟩, 6), (⟨"DaybreakFlags", "isTaken", "(IIII)Z"⟩, 6), (⟨"DaybreakFlags$Tally", "spreadByCount", "(I)D"⟩, 5), (⟨"DaybreakFlags", "changesByTurning", "(II)Z"⟩, 6), (⟨"DaybreakFlagsModel", "no", "(I)I"⟩, 29), (⟨"DaybreakFlagsModel", "isVariant", "(II)Z"⟩, 29), (⟨"DaybreakFlagsModel", "isSwitch", "(I)Z"⟩, 29), (⟨"DaybreakFlagsModel", "isNot", "(I)Z"⟩, 29)]
theorem lw_r1 : ∀ q ∈ lw_privs_1, lw_okq q := List.forall_mem_cons.mpr ⟨lw_p0, List.forall_mem_cons.mpr ⟨lw_p1, List.forall_mem_cons.mpr ⟨lw_p2, List.forall_mem_cons.mpr ⟨lw_p3, List.forall_mem_cons.mpr ⟨lw_p4, List.forall_mem_cons.mpr ⟨lw_p5, List.forall_mem_cons.mpr ⟨lw_p6, List.forall_mem_cons.mpr ⟨lw_p7, List.forall_mem_cons.mpr ⟨lw_p8, List.forall_mem_cons.mpr ⟨lw_p9, List.forall_mem_cons.mpr ⟨lw_p10, List.forall_mem_cons.mpr ⟨lw_p11, List.forall_mem_cons.mpr ⟨lw_p12, List.forall_mem_cons.mpr ⟨lw_p13, List.forall_mem_cons.mpr ⟨lw_p14, List.forall_mem_cons.mpr ⟨lw_p15, fun _ h => absurd h List.not_mem_nil⟩⟩⟩⟩⟩⟩⟩⟩⟩⟩⟩⟩⟩⟩⟩⟩
theorem lw_p16 : lw_okq (⟨"DaybreakFlagsModel", "farIn", "(II)I"⟩, 29) := ⟨⟨by decide +kernel, by decide +kernel⟩, List.mem_of_getElem? (i := 810) (by decide +kernel), List.mem_of_getElem? (i := 944) (by decide +kernel), List.mem_of_getElem? (i := 945) (by decide +kernel)⟩
theorem lw_p17 : lw_okq (⟨"DaybreakFlagsModel", "ok", "(I)I"⟩, 29) := ⟨⟨by decide +kernel, by decide +kernel⟩, List.mem_of_getElem? (i := 810) (by decide +kernel), List.mem_of_getElem? (i := 988) (by decide +kernel), List.mem_of_getElem? (i := 989) (by decide +kernel)⟩
theorem lw_p18 : lw_okq (⟨"DaybreakFlagsModel", "leftIn", "(I)I"⟩, 29) := ⟨⟨by decide +kernel, by decide +kernel⟩, List.mem_of_getElem? (i := 810) (by decide +kernel), List.mem_of_getElem? (i := 1004) (by decide +kernel), List.mem_of_getElem? (i := 1005) (by decide +kernel)⟩
theorem lw_p19 : lw_okq (⟨"DaybreakFlagsModel", "isAsked", "(IIII)Z"⟩, 29) := ⟨⟨by decide +kernel, by decide +kernel⟩, List.mem_of_getElem? (i := 810) (by decide +kernel), List.mem_of_getElem? (i := 1022) (by decide +kernel), List.mem_of_getElem? (i := 1023) (by decide +kernel)⟩
theorem lw_p20 : lw_okq (⟨"DaybreakFlagsModel", "getsOf", "(IIII)I"⟩, 29) := ⟨⟨by decide +kernel, by decide +kernel⟩, List.mem_of_getElem? (i := 810) (by decide +kernel), List.mem_of_getElem? (i := 1026) (by decide +kernel), List.mem_of_getElem? (i := 1027) (by decide +kernel)⟩
theorem lw_p21 : lw_okq (⟨"DaybreakFlagsModel", "getsNow", "(IIIII)I"⟩, 29) := ⟨⟨by decide +kernel, by decide +kernel⟩, List.mem_of_getElem? (i := 810) (by decide +kernel), List.mem_of_getElem? (i := 1030) (by decide +kernel), List.mem_of_getElem? (i := 1031) (by decide +kernel)⟩
theorem lw_p22 : lw_okq (⟨"DaybreakFlagsModel", "armAt", "(II)I"⟩, 29) := ⟨⟨by decide +kernel, by decide +kernel⟩, List.mem_of_getElem? (i := 810) (by decide +kernel), List.mem_of_getElem? (i := 1034) (by decide +kernel), List.mem_of_getElem? (i := 1035) (by decide +kernel)⟩
theorem lw_p23 : lw_okq (⟨"DaybreakFlagsModel", "holdsNow", "(III)I"⟩, 29) := ⟨⟨by decide +kernel, by decide +kernel⟩, List.mem_of_getElem? (i := 810) (by decide +kernel), List.mem_of_getElem? (i := 1038) (by decide +kernel), List.mem_of_getElem? (i := 1039) (by decide +kernel)⟩
theorem lw_p24 : lw_okq (⟨"DaybreakFlagsModel", "split", "(II)I"⟩, 29) := ⟨⟨by decide +kernel, by decide +kernel⟩, List.mem_of_getElem? (i := 810) (by decide +kernel), List.mem_of_getElem? (i := 1042) (by decide +kernel), List.mem_of_getElem? (i := 1043) (by decide +kernel)⟩
theorem lw_p25 : lw_okq (⟨"DaybreakFlagsModel", "armNow", "(II)I"⟩, 29) := ⟨⟨by decide +kernel, by decide +kernel⟩, List.mem_of_getElem? (i := 810) (by decide +kernel), List.mem_of_getElem? (i := 1066) (by decide +kernel), List.mem_of_getElem? (i := 1067) (by decide +kernel)⟩
theorem lw_p26 : lw_okq (⟨"DaybreakFlagsModel", "toldNow", "(III)I"⟩, 29) := ⟨⟨by decide +kernel, by decide +kernel⟩, List.mem_of_getElem? (i := 810) (by decide +kernel), List.mem_of_getElem? (i := 1078) (by decide +kernel), List.mem_of_getElem? (i := 1079) (by decide +kernel)⟩
theorem lw_p27 : lw_okq (⟨"DaybreakFlagsModel", "meanNow", "(II)D"⟩, 29) := ⟨⟨by decide +kernel, by decide +kernel⟩, List.mem_of_getElem? (i := 810) (by decide +kernel), List.mem_of_getElem? (i := 1086) (by decide +kernel), List.mem_of_getElem? (i := 1087) (by decide +kernel)⟩
theorem lw_p28 : lw_okq (⟨"DaybreakFlagsModel", "spread", "(II)D"⟩, 29) := ⟨⟨by decide +kernel, by decide +kernel⟩, List.mem_of_getElem? (i := 810) (by decide +kernel), List.mem_of_getElem? (i := 1098) (by decide +kernel), List.mem_of_getElem? (i := 1099) (by decide +kernel)⟩
theorem lw_p29 : lw_okq (⟨"DaybreakFlagsModel", "badNow", "(I)I"⟩, 29) := ⟨⟨by decide +kernel, by decide +kernel⟩, List.mem_of_getElem? (i := 810) (by decide +kernel), List.mem_of_getElem? (i := 1106) (by decide +kernel), List.mem_of_getElem? (i := 1107) (by decide +kernel)⟩
theorem lw_p30 : lw_okq (⟨"DaybreakFlagsModel", "isTrustedNow", "(I)Z"⟩, 29) := ⟨⟨by decide +kernel, by decide +kernel⟩, List.mem_of_getElem? (i := 810) (by decide +kernel), List.mem_of_getElem? (i := 1115) (by decide +kernel), List.mem_of_getElem? (i := 1116) (by decide +kernel)⟩
theorem lw_p31 : lw_okq (⟨"DaybreakFlagsModel", "bestNow", "(I)I"⟩, 29) := ⟨⟨by decide +kernel, by decide +kernel⟩, List.mem_of_getElem? (i := 810) (by decide +kernel), List.mem_of_getElem? (i := 1123) (by decide +kernel), List.mem_of_getElem? (i := 1124) (by decide +kernel)⟩
def lw_privs_2 : List (MethodName × Nat) := [(⟨"DaybreakFlagsModel", "farIn", "(II)I"⟩, 29), (⟨"DaybreakFlagsModel", "ok", "(I)I"⟩, 29), (⟨"DaybreakFlagsModel", "leftIn", "(I)I"⟩, 29), (⟨"DaybreakFlagsModel", "isAsked", "(IIII)Z"⟩, 29), (⟨"DaybreakFlagsModel", "getsOf", "(IIII)I"⟩, 29), (⟨"DaybreakFlagsModel", "getsNow", "(IIIII)I"⟩, 29), (⟨"DaybreakFlagsModel", "armAt", "(II)I"⟩, 29), (⟨"DaybreakFlagsModel", "holdsNow", "(III)I"⟩, 29), (⟨"DaybreakFlagsModel", "split", "(II)I"⟩, 29), (⟨"DaybreakFlagsModel", "armNow", "(II)I"⟩, 29), (⟨"DaybreakFlagsModel", "toldNow", "(III)I"⟩, 29), (⟨"DaybreakFlagsModel", "meanNow", "(II)D"⟩, 29), (⟨"DaybreakFlagsModel", "spread", "(II)D"⟩, 29), (⟨"DaybreakFlagsModel", "badNow", "(I)I"⟩, 29), (⟨"DaybreakFlagsModel", "isTrustedNow", "(I)Z"⟩, 29), (⟨"DaybreakFlagsModel", "bestNow", "(I)I"⟩, 29)]
theorem lw_r2 : ∀ q ∈ lw_privs_2, lw_okq q := List.forall_mem_cons.mpr ⟨lw_p16, List.forall_mem_cons.mpr ⟨lw_p17, List.forall_mem_cons.mpr ⟨lw_p18, List.forall_mem_cons.mpr ⟨lw_p19, List.forall_mem_cons.mpr ⟨lw_p20, List.forall_mem_cons.mpr ⟨lw_p21, List.forall_mem_cons.mpr ⟨lw_p22, List.forall_mem_cons.mpr ⟨lw_p23, List.forall_mem_cons.mpr ⟨lw_p24, List.forall_mem_cons.mpr ⟨lw_p25, List.forall_mem_cons.mpr ⟨lw_p26, List.forall_mem_cons.mpr ⟨lw_p27, List.forall_mem_cons.mpr ⟨lw_p28, List.forall_mem_cons.mpr ⟨lw_p29, List.forall_mem_cons.mpr ⟨lw_p30, List.forall_mem_cons.mpr ⟨lw_p31, fun _ h => absurd h List.not_mem_nil⟩⟩⟩⟩⟩⟩⟩⟩⟩⟩⟩⟩⟩⟩⟩⟩
theorem lw_p32 : lw_okq (⟨"DaybreakFlagsModel", "reachNow", "(III)I"⟩, 29) := ⟨⟨by decide +kernel, by decide +kernel⟩, List.mem_of_getElem? (i := 810) (by decide +kernel), List.mem_of_getElem? (i := 1131) (by decide +kernel), List.mem_of_getElem? (i := 1132) (by decide +kernel)⟩
theorem lw_p33 : lw_okq (⟨"DaybreakFlagsModel", "getsBy", "(II)I"⟩, 29) := ⟨⟨by decide +kernel, by decide +kernel⟩, List.mem_of_getElem? (i := 810) (by decide +kernel), List.mem_of_getElem? (i := 1135) (by decide +kernel), List.mem_of_getElem? (i := 1136) (by decide +kernel)⟩
theorem lw_p34 : lw_okq (⟨"DaybreakFlagsModel", "isSplit", "(II)Z"⟩, 29) := ⟨⟨by decide +kernel, by decide +kernel⟩, List.mem_of_getElem? (i := 810) (by decide +kernel), List.mem_of_getElem? (i := 1143) (by decide +kernel), List.mem_of_getElem? (i := 1144) (by decide +kernel)⟩
theorem lw_p35 : lw_okq (⟨"DaybreakFlagsModel", "all", "(I)I"⟩, 29) := ⟨⟨by decide +kernel, by decide +kernel⟩, List.mem_of_getElem? (i := 810) (by decide +kernel), List.mem_of_getElem? (i := 1155) (by decide +kernel), List.mem_of_getElem? (i := 1156) (by decide +kernel)⟩
def lw_privs_3 : List (MethodName × Nat) := [(⟨"DaybreakFlagsModel", "reachNow", "(III)I"⟩, 29), (⟨"DaybreakFlagsModel", "getsBy", "(II)I"⟩, 29), (⟨"DaybreakFlagsModel", "isSplit", "(II)Z"⟩, 29), (⟨"DaybreakFlagsModel", "all", "(I)I"⟩, 29)]
theorem lw_r3 : ∀ q ∈ lw_privs_3, lw_okq q := List.forall_mem_cons.mpr ⟨lw_p32, List.forall_mem_cons.mpr ⟨lw_p33, List.forall_mem_cons.mpr ⟨lw_p34, List.forall_mem_cons.mpr ⟨lw_p35, fun _ h => absurd h List.not_mem_nil⟩⟩⟩⟩
def lw_privs : List (MethodName × Nat) := lw_privs_1 ++ (lw_privs_2 ++ (lw_privs_3))
def lw_tbl : List Cond := k2_sels lw_privs ++ tables_1
theorem lw_privs_ok : ∀ q ∈ lw_privs, lw_okq q := by
  show ∀ q ∈ lw_privs_1 ++ (lw_privs_2 ++ (lw_privs_3)), lw_okq q
  exact List.forall_mem_append.mpr ⟨lw_r1, List.forall_mem_append.mpr ⟨lw_r2, lw_r3⟩⟩
/-- the streams that the claim lets the run draw from -/
abbrev lw_cs : List Choice := [Jvm.Choice.named "NaN.bits"]
theorem lw_bits : nanBits ∈ lw_cs := by first | decide | exact List.mem_cons_self | simp [lw_cs, nanBits]
-- ===== end of PART A; then your names; then what follows =====
/-! THE CLAIM OUT OF ONE WALK OF THE LAW'S BODY. Your part is whole_start (and what it stands on); all else here is the same for every law, but numbers. -/
def R_law : String := "DaybreakFlagsLaw"
def lw_P (b : Addr) (xs : List Int32) (args : Array Value) (s : State) : Prop := args = #[.ref b] ∧ s.IntsAt b xs ∧ xs.length ≤ 6 ∧ (Jvm.Cond.and given_1 narrow_1).before args s = true
/-- what a walk over the start with the record d0 says of its end, said of the start itself -/
theorem lw_closed {s t : State} {o : Outcome} {d0 : Drawn} {L : List Loc} {k n : Nat} (hd0 : s.drawn.sameBut d0 lw_cs) (hv : ∃ v, o = .returned v) (hW : (s.setDrawn d0).WarmedH t.vm) (hs : (s.setDrawn d0).sameButNew ({ t with vm := s.vm } : State) L k n) : State.butDraws s t lw_cs (fun t1 => Framed s o t1 L k n) := by
  have h2 : t.drawn = d0 := congrArg State.drawn hs.1
  refine ⟨⟨hv, hW, State.sameButNew.setDrawn hs s.drawn⟩, ?_, by decide⟩
  rw [h2]
  exact hd0
def lw_Q (_ : Array Value) (s : State) (o : Outcome) (t : State) : Prop := o = .returned (some (.int 1)) ∧ State.butDraws s t lw_cs (fun t1 => Framed s o t1 [] 600002 7302232)
def lw_Z (below : List Frame) (a : Array Value) (s : State) : State → Prop := fun t => ∃ o, t.status = .running ∧ Ended t below o ∧ lw_Q a s o t
/-- the law's own end, with 1 on the stack, nothing written that was there before, its room as the claim has it; d0: the record of draws at this point (at the entry s.drawn: begin with 'refine W.base ?_' and 'have hd0 := Drawn.sameBut.refl s.drawn lw_cs') -/
theorem lw_ret {p : Program} {l : Launch} {e : Env} {s : State} {m : MethodId} {below : List Frame} {meth : Method} {c : Code} {b : Nat} {d0 : Drawn} (hd0 : s.drawn.sameBut d0 lw_cs) (hx : p.tables.exec = Jvm.exec) (hb : c.code = code) (hr : meth.sig.returnType = ret) (hlocks : meth.locks = false) {pc : Nat} {H : Heap} {ls : Array Slot} (hdg : decode code pc = .ok (.ireturn, 1)) : W p l e room_1 (s.setDrawn d0) m #[Value.ref b] below meth c H [] 600002 7302232 (lw_Z below #[Value.ref b] s) (F0 m pc ls [.int 1]) := by
  intro T hT X
  obtain ⟨fs, hret, hrun, hended, hW, hframe⟩ := X.leave (v := some (.int 1)) (hlocks := hlocks) (fun h => by rw [hr] at h; cases h)
  have hmeth' : T.vm.method? m = some meth := X.method'
  refine ⟨T.setFrames fs, ?_, .returned (some (.int 1)), hrun, hended, rfl, lw_closed hd0 ⟨_, rfl⟩ hW hframe⟩
  jvm_step X.here [X.here.top, hx, hb, hdg, hmeth', hr, ret, narrow_b1]
  (try refine ⟨rfl, ?_⟩); (try refine ⟨rfl, ?_⟩)
  first | (intro acts; rw [hret _ acts rfl rfl rfl]) | rw [hret _ _ rfl rfl rfl]
  exact Steps.refl _
/-- what holds at the law's entry: the machine, the code, the tables' words (any of lw_tbl by 'hts w (by decide +kernel)'), the script of L ints xs at the cell b, what the Statement gives of the start (any of its parts by flat_of_before) -/
def lw_At (p : Program) (s : State) (m : MethodId) (meth : Method) (c : Code) (b L : Nat) (xs : Nat → Int32) : Prop :=
  p.tables.exec = Jvm.exec ∧ c.code = code ∧ meth.sig.returnType = ret ∧ c.maxLocals = 9 ∧ s.vm.findClass R_law = some m.cls ∧ (∀ w ∈ lw_tbl, w.before #[Value.ref b] s = true) ∧ va_X b L xs s s.heap ∧ b < s.heap.size ∧ meth.locks = false ∧ (Jvm.Cond.and given_1 narrow_1).before #[Value.ref b] s = true
end
section
/-! ===== BEGIN words of one list among another's, by their places ===== -/
theorem goodIn_r {big : List Cond} (ws : List Cond) (ps : List Nat) (hp : ws = ps.filterMap (fun i => big[i]?)) (h : ws.all goodWord = true) : GoodIn big ws := by
  intro w hw
  have h1 := List.all_eq_true.mp h w hw
  rw [hp] at hw
  obtain ⟨i, -, hi⟩ := List.mem_filterMap.mp hw
  have hm : w ∈ big := by first | exact List.mem_of_getElem? hi | exact List.getElem?_mem hi
  exact ⟨hm, good_of_word h1⟩
theorem goodIn_app {big a b : List Cond} (ha : GoodIn big a) (hb : GoodIn big b) : GoodIn big (a ++ b) := fun w h => (List.mem_append.mp h).elim (ha w) (hb w)
theorem goodIn_ca {big a b : List Cond} {c : Cond} (ha : GoodIn big (c :: a)) (hb : GoodIn big b) : GoodIn big (c :: (a ++ b)) := fun w h => (List.mem_cons.mp h).elim (fun e => ha w (List.mem_cons.mpr (Or.inl e))) (fun h => (List.mem_append.mp h).elim (fun h => ha w (List.mem_cons.mpr (Or.inr h))) (hb w))
theorem goodIn_sub {big ws : List Cond} (hm : ∀ w ∈ ws, w ∈ big) (h : ws.all goodWord = true) : GoodIn big ws := fun w hw => ⟨hm w hw, good_of_word (List.all_eq_true.mp h w hw)⟩
/-! ===== END ===== -/

/-! ===== BEGIN exceptions that leave a method, and their catching by the caller (launches without stack traces) ===== -/
section VXA
/-! The laws vx_back, vx_callV, vx_callS, vx_callSW, vx_throw0, vx_throwS follow proofs of the library, with one case more: JvmDerived/Free/Laws.lean (Back.of_free), Shelf42/LK1.lean (callV, callS), Shelf/KitTraced.lean (throwNew0V, throwNewS). -/
/-- where a method has thrown q: the class by its name, the cell, what was written, the world -/
def vx_T (XC : String → State → State → Prop) (st : State) (q : Addr) (t : State) (mc ms : Nat) (free : Addr → Prop) : Prop :=
  ∃ (E : String) (ce : Cell) (L : List Loc), XC E st t ∧ t.heap[q]? = some ce ∧ ce.vm = .none ∧ st.vm.findClass E = some ce.cls ∧ st.WarmedH t.vm ∧ st.sameButNew ({ t with vm := st.vm } : State) L mc ms ∧ ∀ z ∈ L, free z.base
def vx_Q (Qc : Array Value → State → Outcome → State → Prop) (XC : String → State → State → Prop) (mc ms : Nat) (free : Addr → Prop) : Array Value → State → Outcome → State → Prop := fun a st o t =>
  (Qc a st o t ∧ ∃ L, FrameEnd st o t L mc ms ∧ ∀ q ∈ L, free q.base) ∨ ∃ q, o = .threw q ∧ vx_T XC st q t mc ms free
/-- a callee that returns or throws -/
def vx_Met (l : Launch) (y : MethodName) (ws : List Cond) (rm : Room) (Pc : Array Value → State → Prop) (Qc : Array Value → State → Outcome → State → Prop) (XC : String → State → State → Prop) (mc ms : Nat) (free : Addr → Prop) : Prop :=
  MetFree l y (headSpec ws rm) Pc (fun _ _ _ _ _ => True) (vx_Q Qc XC mc ms free)
def vx_Post (XC : String → State → State → Prop) (mc ms : Nat) (free : Addr → Prop) : Pt → Array Value → Addr → Pt → Prop := fun A a q B =>
  ∃ (g : JFrame) (mk : MethodId) (t : State) (L : List Loc) (E : String) (ce : Cell), B.U.heap = t.heap ∧ B.U.vm = t.vm ∧ XC E (A.U.calling g mk a) t ∧ t.heap[q]? = some ce ∧ ce.vm = .none ∧ A.U.vm.findClass E = some ce.cls ∧ B.locs = A.locs ++ L ∧ (∀ z ∈ L, free z.base) ∧ B.cells = A.cells + mc ∧ B.slots = A.slots + ms
def vx_Back (l : Launch) (R : Room) (p : Program) (e : Env) (below : List Frame) (s : State) (sargs : Array Value) (y : MethodName) (len W9 : Nat)
    (Pre : Pt → Array Value → Prop) (Post : Pt → Array Value → Option Value → Pt → Prop) (PostX : Pt → Array Value → Addr → Pt → Prop) : Prop :=
  ∀ (m : MethodId) (meth : Method) (c : Code) (A : Pt) (g : JFrame) (ig : Instr) (mk : MethodId) (a : Array Value),
    Stand p l e R s m sargs below meth c A.U A.locs A.cells A.slots → g.method = m → g.locals.size = c.maxLocals → decode c.code g.pc = .ok (ig, len) →
    2 * g.monitorRoom + (g.stack.map fun v => v.category).sum ≤ W9 → A.U.methodNamed? y = some mk → Pre A a →
    (∃ (v : Option Value) (B : Pt), Stand p l e R s m sargs below meth c B.U B.locs B.cells B.slots ∧ Post A a v B ∧
      Steps p.tables e below (doInvoke e (A.U.setTop g) [] mk a).1 (B.U.setTop { g with pc := g.pc + len, stack := v.toList ++ g.stack })) ∨
    (∃ (q : Addr) (B : Pt), Stand p l e R s m sargs below meth c B.U B.locs B.cells B.slots ∧ PostX A a q B ∧
      Steps p.tables e below (doInvoke e (A.U.setTop g) [] mk a).1 ((B.U.setTop g).pushFrame (.throwing q)))
section Payer
variable {l : Launch} {R : Room} {p : Program} {e : Env} {below : List Frame} {s : State} {sargs : Array Value} {y : MethodName} {len W9 : Nat}
theorem vx_back {ws : List Cond} {rm : Room} {Pc : Array Value → State → Prop} {Qc : Array Value → State → Outcome → State → Prop} {XC : String → State → State → Prop} {mc ms : Nat} {free : Addr → Prop} {bytes : ByteArray} {maxL : Nat} {ret : Option FieldType}
    (hM : vx_Met l y ws rm Pc Qc XC mc ms free) (hblind : FrameBlind Pc) (hrc : rm.cells = mc) (hrs : rm.slots = ms)
    (hframes : rm.frames + 1 ≤ R.frames) (hlocals : W9 + (maxL + 11) + rm.locals ≤ R.locals)
    (hws : ∀ w ∈ ws, ∀ a' U, s.WarmedH U.vm → w.before a' U = true) (hcode : Cond.code y bytes maxL ret ∈ ws) (hinit : ∀ a' U, s.WarmedH U.vm → (Cond.initialized y.cls).before a' U = true) :
    vx_Back l R p e below s sargs y len W9 (PreOf R mc ms Pc) (PostOf Qc mc ms free) (vx_Post XC mc ms free) := by
  intro m meth c A g ig mk a X hg hsize hdg hW hn hp
  have h1 : (headSpec ws rm).pre.before a A.U = true := atoms_intro fun w hw => hws w hw _ _ X.warmed
  have h2 : (Cond.code y bytes maxL ret).before a A.U = true := hws _ hcode _ _ X.warmed
  have h3 : (Cond.initialized y.cls).before a A.U = true := hinit _ _ X.warmed
  have h4 : A.cells + (headSpec ws rm).room.cells ≤ R.cells := by rw [show (headSpec ws rm).room.cells = mc from hrc]; exact hp.1
  have h5 : A.slots + (headSpec ws rm).room.slots ≤ R.slots := by rw [show (headSpec ws rm).room.slots = ms from hrs]; exact hp.2.1
  have hPc : Pc a (A.U.calling g mk a) := hblind _ _ _ _ hp.2.2
  obtain ⟨U, Ls, c0, s0⟩ := A
  dsimp only [Pt.U, Pt.locs, Pt.cells, Pt.slots] at h1 h2 h3 h4 h5 X hn hPc ⊢
  obtain ⟨methY, cY, hmY, hcY, -, hlY, -, -, -, -⟩ := Cond.code_spec hn h2
  obtain ⟨kY, hkY, -⟩ := className_of_methodNamed hn
  have hinitY : kY.init = .initialized := Cond.initialized_spec (findClass_of_methodNamed hn) hkY h3
  have h : At U g.method c below := by rw [hg]; exact X.here
  have hlocals9 : W9 + (maxL + 11) + (headSpec ws rm).room.locals ≤ R.locals := hlocals
  have happ : (headSpec ws rm).appliesLoose y e.platform (U.calling g mk a) = true :=
    Spec.appliesLoose_calling (g := g) h hdg hn hkY hinitY
      (X.room_calling (g := g) (R' := (headSpec ws rm).room) hsize hmY hcY hframes (by rw [hlY]; omega) h4 h5) h1
  obtain ⟨mid, hmid⟩ := h.above
  have hfr : (U.setTop g).frames = (.java g :: mid) ++ below := by rw [State.frames_setTop' g h.top, hmid]; rfl
  obtain ⟨o, s₂, hsteps, -, hend, hq⟩ := Steps.callFree hM p X.admits X.cas X.clock (acts := []) hfr happ hPc trivial
  have hq' : vx_Q Qc XC mc ms free a (U.calling g mk a) o s₂ := hq
  rw [State.frames_setTop' g h.top] at hend
  obtain ⟨g₀, hg0⟩ := Option.isSome_iff_exists.mp h.top
  obtain ⟨r, hr⟩ := State.topJava?_eq_some.mp hg0
  have hr' : (({ U with heap := s₂.heap, slotsUsed := s₂.slotsUsed } : State).setVm s₂.vm).frames = .java g₀ :: r := hr
  rcases hq' with ⟨hqc, L, hfe, hL⟩ | ⟨q, rfl, E, ce, L, hx, hce, hcv, hcl, hW₂, hsm, hL⟩
  · obtain ⟨⟨v, rfl⟩, hW₂, e2, q2, q3, q4, q5, q6⟩ := id hfe
    have e3 : s₂ = ({ (U.calling g mk a).setFrames s₂.frames with heap := s₂.heap, slotsUsed := s₂.slotsUsed } : State).setVm s₂.vm := by
      have : s₂ = ({ s₂ with vm := (U.calling g mk a).vm } : State).setVm s₂.vm := rfl
      rw [e2] at this
      exact this
    obtain ⟨c₂, i₂, len₂, hc₂, hd₂, hf₂⟩ := hend
    have hW' : U.WarmedH s₂.vm := hW₂
    have hcc : c₂ = c := by
      have h1 : s₂.code? g.method = U.code? g.method := by
        rw [State.code?_eq, State.code?_eq, hW'.alike.method?]
      exact Option.some.inj (hc₂.symm.trans (h1.trans h.code))
    subst hcc
    have hlen : len₂ = len := by rw [hdg] at hd₂; cases hd₂; rfl
    subst hlen
    have hs₂ : s₂ = (({ U with heap := s₂.heap, slotsUsed := s₂.slotsUsed } : State).setVm s₂.vm).setTop { g with pc := g.pc + len₂, stack := v.toList ++ g.stack } := by
      refine e3.trans ?_
      rw [hf₂, State.calling_eq h.top, State.setFrames_setFrames, State.setTop_of_frames _ hr', hr]
      rfl
    have hsame : U.sameButNew ({ U with heap := s₂.heap, slotsUsed := s₂.slotsUsed } : State) L mc ms := by
      refine ⟨?_, q2, q3, q4, q5, q6⟩
      obtain ⟨t, ht, -⟩ := State.frames_cons hr
      show ({ U with heap := s₂.heap, slotsUsed := s₂.slotsUsed } : State) = { U.setFrames U.frames with heap := s₂.heap, slotsUsed := s₂.slotsUsed }
      rw [State.setFrames_self ht]
    subst hg
    refine Or.inl ⟨v, ⟨(({ U with heap := s₂.heap, slotsUsed := s₂.slotsUsed } : State).setVm s₂.vm), Ls ++ L, c0 + mc, s0 + ms⟩,
      ⟨X.admits, X.cas, X.clock, X.frames, X.room, X.hears, X.method, X.code, (X.here.setHeapUsed s₂.heap s₂.slotsUsed).setVm hW'.alike, X.tail, State.WarmedH.trans X.warmed hW', X.limits, X.bytes, X.same.trans (hsame.setVm s.vm)⟩,
      ⟨g, mk, s₂, L, rfl, rfl, hqc, rfl, hL, rfl, rfl⟩, ?_⟩
    show Steps p.tables e below _ ((({ U with heap := s₂.heap, slotsUsed := s₂.slotsUsed } : State).setVm s₂.vm).setTop { g with pc := g.pc + len₂, stack := v.toList ++ g.stack })
    rw [← hs₂]
    exact hsteps
  · obtain ⟨e2, q2, q3, q4, q5, q6⟩ := id hsm
    have e3 : s₂ = ({ (U.calling g mk a).setFrames s₂.frames with heap := s₂.heap, slotsUsed := s₂.slotsUsed } : State).setVm s₂.vm := by
      have : s₂ = ({ s₂ with vm := (U.calling g mk a).vm } : State).setVm s₂.vm := rfl
      rw [e2] at this
      exact this
    have hf₂ : s₂.frames = .throwing q :: .java g :: U.frames.tail := hend
    have hW' : U.WarmedH s₂.vm := hW₂
    have hs₂ : s₂ = ((({ U with heap := s₂.heap, slotsUsed := s₂.slotsUsed } : State).setVm s₂.vm).setTop g).pushFrame (.throwing q) := by
      refine e3.trans ?_
      rw [hf₂, State.calling_eq h.top, State.setFrames_setFrames, State.pushFrame, State.frames_setTop _ hr', State.setTop_of_frames _ hr', State.setFrames_setFrames, hr]
      rfl
    have hsame : U.sameButNew ({ U with heap := s₂.heap, slotsUsed := s₂.slotsUsed } : State) L mc ms := by
      refine ⟨?_, q2, q3, q4, q5, q6⟩
      obtain ⟨t, ht, -⟩ := State.frames_cons hr
      show ({ U with heap := s₂.heap, slotsUsed := s₂.slotsUsed } : State) = { U.setFrames U.frames with heap := s₂.heap, slotsUsed := s₂.slotsUsed }
      rw [State.setFrames_self ht]
    subst hg
    refine Or.inr ⟨q, ⟨(({ U with heap := s₂.heap, slotsUsed := s₂.slotsUsed } : State).setVm s₂.vm), Ls ++ L, c0 + mc, s0 + ms⟩,
      ⟨X.admits, X.cas, X.clock, X.frames, X.room, X.hears, X.method, X.code, (X.here.setHeapUsed s₂.heap s₂.slotsUsed).setVm hW'.alike, X.tail, State.WarmedH.trans X.warmed hW', X.limits, X.bytes, X.same.trans (hsame.setVm s.vm)⟩,
      ⟨g, mk, s₂, L, E, ce, rfl, rfl, hx, hce, hcv, hcl, rfl, hL, rfl, rfl⟩, ?_⟩
    show Steps p.tables e below _ (((({ U with heap := s₂.heap, slotsUsed := s₂.slotsUsed } : State).setVm s₂.vm).setTop g).pushFrame (.throwing q))
    rw [← hs₂]
    exact hsteps
end Payer
section Calls
variable {p : Program} {l : Launch} {e : Env} {R : Room} {s : State} {m : MethodId} {args : Array Value} {below : List Frame} {meth : Method} {c : Code} {T : State} {locs : List Loc} {cells slots : Nat}
theorem vx_callV (X : Stand p l e R s m args below meth c T locs cells slots) (hexec : p.tables.exec = Jvm.exec) {own C : String} {index : Nat} {y : MethodName} {bytes : ByteArray} {maxL : Nat} {ret : Option FieldType}
    (hown : s.vm.findClass own = some m.cls) (hlink : (Cond.methodLink own index y).before args s = true) (hinst : (Cond.instanceMethod y).before args s = true) (hsel : (Cond.selects C y y).before args s = true)
    (hcode : (Cond.code y bytes maxL ret).before args s = true) (hy : y.cls ≠ "java/lang/invoke/MethodHandle" ∧ y.cls ≠ "java/lang/invoke/VarHandle")
    {W9 : Nat} {Pre : Pt → Array Value → Prop} {Post : Pt → Array Value → Option Value → Pt → Prop} {PostX : Pt → Array Value → Addr → Pt → Prop} (hK : vx_Back l R p e below s args y 3 W9 Pre Post PostX)
    {b : Addr} {cellB : Cell} (hcell : T.heap[b]? = some cellB) (hobj : cellB.vm.isStatics = false) (hcls : s.vm.findClass C = some cellB.cls)
    {g : JFrame} (hg : g.method = m) (hsize : g.locals.size = c.maxLocals) {argsL rest : List Value} (hlen : ∀ sig, parseMethodDescriptor y.desc = some sig → argsL.length = sig.parameters.length)
    (hstack : g.stack = argsL.reverse ++ .ref b :: rest) (hW : 2 * g.monitorRoom + (rest.map fun v => v.category).sum ≤ W9) (hdg : decode c.code g.pc = .ok (.invokevirtual index, 3))
    (hpre : ∀ vm₁, s.WarmedH vm₁ → Pre ⟨T.setVm vm₁, locs, cells, slots⟩ (Value.ref b :: argsL).toArray) :
    (∃ (v : Option Value) (vm₁ : Vm) (B : Pt), s.WarmedH vm₁ ∧ Stand p l e R s m args below meth c B.U B.locs B.cells B.slots ∧ Post ⟨T.setVm vm₁, locs, cells, slots⟩ (Value.ref b :: argsL).toArray v B ∧
      ∀ target, Steps p.tables e below (B.U.setTop { g with pc := g.pc + 3, stack := v.toList ++ rest }) target → Steps p.tables e below (T.setTop g) target) ∨
    (∃ (q : Addr) (vm₁ : Vm) (B : Pt), s.WarmedH vm₁ ∧ Stand p l e R s m args below meth c B.U B.locs B.cells B.slots ∧ PostX ⟨T.setVm vm₁, locs, cells, slots⟩ (Value.ref b :: argsL).toArray q B ∧
      Steps p.tables e below (T.setTop g) ((B.U.setTop { g with stack := rest }).pushFrame (.throwing q))) := by
  obtain ⟨mk, methM, hnamed, hmethM, hstM, habM⟩ := Cond.instanceMethod_spec hinst
  obtain ⟨methM', cM, hmethM', -, -, -, -, -, -, hsigM⟩ := Cond.code_spec hnamed hcode
  cases hmethM.symm.trans hmethM'
  obtain ⟨c2, r2, m2, q1, q2, q3, q4, kP, hkP, hkPi⟩ := Cond.selects_spec hsel
  cases hcls.symm.trans q1
  cases (State.methodFound?_of_named hnamed hy).symm.trans q2
  cases hnamed.symm.trans q3
  have hselP : selectMethod e.platform s.vm cellB.cls mk = .method mk := by rw [Launch.admits_selectMethod X.admits]; exact q4
  obtain ⟨vm₁, X₁, hstep₁⟩ := X.invokevirtual hexec hown hlink hnamed hmethM hstM hkP hkPi hy (a := b) (cell := cellB) hcell
    (fun z h => by rw [h] at hobj; cases hobj) hselP hmethM habM hkP hkPi (g := g) hg (argsL := argsL) (rest := rest) (hlen _ hsigM) hstack hdg
  rcases hK m meth c ⟨T.setVm vm₁, locs, cells, slots⟩ { g with stack := rest } (.invokevirtual index) mk (Value.ref b :: argsL).toArray X₁ hg hsize hdg hW (X₁.named hnamed) (hpre vm₁ X₁.warmed) with ⟨v, B, X', hpost, hsteps⟩ | ⟨q, B, X', hpost, hsteps⟩
  · exact Or.inl ⟨v, vm₁, B, X₁.warmed, X', hpost, fun target h => hstep₁ _ fun acts => by rw [doInvoke_state]; exact hsteps.trans h⟩
  · exact Or.inr ⟨q, vm₁, B, X₁.warmed, X', hpost, hstep₁ _ fun acts => by rw [doInvoke_state]; exact hsteps⟩
theorem vx_callS (X : Stand p l e R s m args below meth c T locs cells slots) (hexec : p.tables.exec = Jvm.exec) {own : String} {index : Nat} {y : MethodName} {bytes : ByteArray} {maxL : Nat} {ret : Option FieldType}
    (hown : s.vm.findClass own = some m.cls) (hlink : (Cond.methodLink own index y).before args s = true) (hstat : (Cond.static y).before args s = true) (hinit : (Cond.initialized y.cls).before args s = true)
    (hcode : (Cond.code y bytes maxL ret).before args s = true) (hy : y.cls ≠ "java/lang/invoke/MethodHandle" ∧ y.cls ≠ "java/lang/invoke/VarHandle")
    {W9 : Nat} {Pre : Pt → Array Value → Prop} {Post : Pt → Array Value → Option Value → Pt → Prop} {PostX : Pt → Array Value → Addr → Pt → Prop} (hK : vx_Back l R p e below s args y 3 W9 Pre Post PostX)
    {g : JFrame} (hg : g.method = m) (hsize : g.locals.size = c.maxLocals) {argsL rest : List Value} (hlen : ∀ sig, parseMethodDescriptor y.desc = some sig → argsL.length = sig.parameters.length)
    (hstack : g.stack = argsL.reverse ++ rest) (hW : 2 * g.monitorRoom + (rest.map fun v => v.category).sum ≤ W9) (hdg : decode c.code g.pc = .ok (.invokestatic index, 3))
    (hpre : ∀ vm₁, s.WarmedH vm₁ → Pre ⟨T.setVm vm₁, locs, cells, slots⟩ argsL.toArray) :
    (∃ (v : Option Value) (vm₁ : Vm) (B : Pt), s.WarmedH vm₁ ∧ Stand p l e R s m args below meth c B.U B.locs B.cells B.slots ∧ Post ⟨T.setVm vm₁, locs, cells, slots⟩ argsL.toArray v B ∧
      ∀ target, Steps p.tables e below (B.U.setTop { g with pc := g.pc + 3, stack := v.toList ++ rest }) target → Steps p.tables e below (T.setTop g) target) ∨
    (∃ (q : Addr) (vm₁ : Vm) (B : Pt), s.WarmedH vm₁ ∧ Stand p l e R s m args below meth c B.U B.locs B.cells B.slots ∧ PostX ⟨T.setVm vm₁, locs, cells, slots⟩ argsL.toArray q B ∧
      Steps p.tables e below (T.setTop g) ((B.U.setTop { g with stack := rest }).pushFrame (.throwing q))) := by
  obtain ⟨mk, hnamed⟩ := Cond.code_named hcode
  obtain ⟨methM, cM, hmethM, -, -, -, -, -, -, hsigM⟩ := Cond.code_spec hnamed hcode
  have hstatic : methM.isStatic = true := Cond.static_spec hnamed hmethM hstat
  obtain ⟨kP, hkP, -⟩ := className_of_methodNamed hnamed
  have hinitP : kP.init = .initialized := Cond.initialized_spec (findClass_of_methodNamed hnamed) hkP hinit
  obtain ⟨vm₁, X₁, hstep₁⟩ := X.invokestatic hexec hown hlink hnamed hmethM hstatic hkP hinitP hy (g := g) hg (argsL := argsL) (rest := rest) (hlen _ hsigM) hstack hdg
  rcases hK m meth c ⟨T.setVm vm₁, locs, cells, slots⟩ { g with stack := rest } (.invokestatic index) mk argsL.toArray X₁ hg hsize hdg hW (X₁.named hnamed) (hpre vm₁ X₁.warmed) with ⟨v, B, X', hpost, hsteps⟩ | ⟨q, B, X', hpost, hsteps⟩
  · exact Or.inl ⟨v, vm₁, B, X₁.warmed, X', hpost, fun target h => hstep₁ _ fun acts => by rw [doInvoke_state]; exact hsteps.trans h⟩
  · exact Or.inr ⟨q, vm₁, B, X₁.warmed, X', hpost, hstep₁ _ fun acts => by rw [doInvoke_state]; exact hsteps⟩
end Calls
theorem vx_cls {s : State} {T : State} {vm₁ : Vm} {E : String} {k : ClassId} (hW : s.WarmedH vm₁) (h : (T.setVm vm₁).vm.findClass E = some k) : s.vm.findClass E = some k := by
  have h1 : vm₁.findClass E = some k := h
  rw [hW.alike.findClass] at h1
  exact h1
/-- the method's frame g, with q thrown over it -/
def vx_W (p : Program) (l : Launch) (e : Env) (R : Room) (s : State) (m : MethodId) (args : Array Value) (below : List Frame) (meth : Method) (c : Code) (H : Heap) (locs : List Loc) (cells slots : Nat) (Q : State → Prop) (g : JFrame) (q : Addr) : Prop :=
  ∀ T : State, T.heap = H → Stand p l e R s m args below meth c T locs cells slots → ∃ t, Steps p.tables e below ((T.setTop g).pushFrame (.throwing q)) t ∧ Q t
def vx_Run (p : Program) (l : Launch) (e : Env) (R : Room) (s : State) (m : MethodId) (args : Array Value) (below : List Frame) (meth : Method) (c : Code) (H : Heap) (locs : List Loc) (cells slots mc ms : Nat) (g : JFrame) (rest : List Value) (Qa : State → Outcome → State → Prop) (XC : String → State → State → Prop) (free : Addr → Prop) : Prop :=
  ∀ T : State, T.heap = H → Stand p l e R s m args below meth c T locs cells slots →
    (∃ (v : Option Value) (st₀ t T' : State) (L : List Loc), st₀.heap = H ∧ Stand p l e R s m args below meth c T' (locs ++ L) (cells + mc) (slots + ms) ∧ (∀ q ∈ L, free q.base) ∧ T'.heap = t.heap ∧ T'.vm = t.vm ∧ Qa st₀ (.returned v) t ∧
      Goes p e below T g T' { g with pc := g.pc + 3, stack := v.toList ++ rest }) ∨
    (∃ (q : Addr) (st₀ t T' : State) (L : List Loc) (E : String) (ce : Cell), st₀.heap = H ∧ Stand p l e R s m args below meth c T' (locs ++ L) (cells + mc) (slots + ms) ∧ (∀ z ∈ L, free z.base) ∧ T'.heap = t.heap ∧ T'.vm = t.vm ∧ XC E st₀ t ∧ t.heap[q]? = some ce ∧ ce.vm = .none ∧ s.vm.findClass E = some ce.cls ∧
      Steps p.tables e below (T.setTop g) ((T'.setTop { g with stack := rest }).pushFrame (.throwing q)))
def vx_X {S : Type} (px : S → Prop) (B : String → S → State → Prop) (A : Nat → Prop) : String → State → State → Prop := fun E st t => ∃ u : S, px u ∧ B E u t ∧ va_F A st t
section Runs
variable {p : Program} {l : Launch} {e : Env} {R : Room} {s : State} {m : MethodId} {args : Array Value} {below : List Frame} {meth : Method} {c : Code} {H : Heap} {locs : List Loc} {cells slots : Nat}
variable {y : MethodName} {bytes cc : ByteArray} {maxL nL mc ms n index : Nat} {ret : Option FieldType} {ws : List Cond} {rm : Room} {Pc : Array Value → State → Prop} {Qc : Array Value → State → Outcome → State → Prop} {XC : String → State → State → Prop} {free : Addr → Prop} {Ts : List Cond} {own C : String} {b : Addr} {As rest : List Value} {g : JFrame}
theorem vx_callBack (cb : CallB R s args own index y bytes maxL ret ws rm mc ms n) (hM : vx_Met l y ws rm Pc Qc XC mc ms free) (hbl : FrameBlind Pc) : vx_Back l R p e below s args y 3 8 (PreOf R mc ms Pc) (PostOf Qc mc ms free) (vx_Post XC mc ms free) := by
  obtain ⟨hrc, hrs, hfr, hlo, hws, hcw, -, hini, -⟩ := cb
  exact vx_back (bytes := bytes) (maxL := maxL) (ret := ret) hM hbl hrc hrs hfr hlo hws hcw (fun a' U hW => word_at hW (Or.inl (by first | rfl | simp [Cond.onTables, Cond.keeps, Cond.steady])) hini)
theorem vx_runV (S : CallFix p m c cc nL s args Ts own) (hM : vx_Met l y ws rm Pc Qc XC mc ms free) (cw : CallW R s args own C index y bytes maxL ret ws rm mc ms n) (hp : PreV s H C b Pc As)
    (hg : g.method = m) (hn : As.length = n) (hsize : g.locals.size = nL) (hstack : g.stack = As.reverse ++ .ref b :: rest) (hW : 2 * g.monitorRoom + (rest.map fun v => v.category).sum ≤ 8) (hdg : decode cc g.pc = .ok (.invokevirtual index, 3)) (hf : cells + mc ≤ R.cells ∧ slots + ms ≤ R.slots) :
    vx_Run p l e R s m args below meth c H locs cells slots mc ms g rest (Qc (Value.ref b :: As).toArray) XC free := by
  have hK : vx_Back l R p e below s args y 3 8 (PreOf R mc ms Pc) (PostOf Qc mc ms free) (vx_Post XC mc ms free) := vx_callBack cw.1 hM hp.1
  obtain ⟨⟨-, -, -, -, -, -, hcode, -, hy, hlen, hl⟩, hin, hse⟩ := cw
  obtain ⟨hx, hb, hml, ho, -⟩ := S
  obtain ⟨-, ⟨cellB, hcB, hoB, hclB⟩, hPc⟩ := hp
  intro T hT X
  rcases vx_callV X hx (C := C) (bytes := bytes) (maxL := maxL) (ret := ret) ho hl hin hse hcode hy hK (by rw [hT]; exact hcB) hoB hclB hg (hsize.trans hml.symm) (argsL := As) (rest := rest) (fun sig h => hn.trans (hlen sig h)) hstack hW (by rw [hb]; exact hdg)
    (fun vm₁ hW₁ => ⟨hf.1, hf.2, hPc (T.setVm vm₁) hT hW₁⟩) with ⟨v, vm₁, ⟨U', l2, c2, s2⟩, hW₁, X', ⟨g', mk, t, L, e1, e2, hq, h1, hL, h2, h3⟩, st⟩ | ⟨q, vm₁, ⟨U', l2, c2, s2⟩, hW₁, X', ⟨g', mk, t, L, E, ce, e1, e2, hq, hce, hcv, hcl, h1, hL, h2, h3⟩, st⟩
  · dsimp only [Pt.U, Pt.locs, Pt.cells, Pt.slots] at X' e1 e2 h1 h2 h3 st
    subst h1; subst h2; subst h3
    exact Or.inl ⟨v, (T.setVm vm₁).calling g' mk (Value.ref b :: As).toArray, t, U', L, hT, X', hL, e1, e2, hq, st⟩
  · dsimp only [Pt.U, Pt.locs, Pt.cells, Pt.slots] at X' e1 e2 h1 h2 h3 st hcl
    subst h1; subst h2; subst h3
    exact Or.inr ⟨q, (T.setVm vm₁).calling g' mk (Value.ref b :: As).toArray, t, U', L, E, ce, hT, X', hL, e1, e2, hq, hce, hcv, vx_cls hW₁ hcl, st⟩
theorem vx_runS (S : CallFix p m c cc nL s args Ts own) (hM : vx_Met l y ws rm Pc Qc XC mc ms free) (cw : CallB R s args own index y bytes maxL ret ws rm mc ms n ∧ (Cond.static y).before args s = true) (hp : PreS s H Pc As)
    (hg : g.method = m) (hn : As.length = n) (hsize : g.locals.size = nL) (hstack : g.stack = As.reverse ++ rest) (hW : 2 * g.monitorRoom + (rest.map fun v => v.category).sum ≤ 8) (hdg : decode cc g.pc = .ok (.invokestatic index, 3)) (hf : cells + mc ≤ R.cells ∧ slots + ms ≤ R.slots) :
    vx_Run p l e R s m args below meth c H locs cells slots mc ms g rest (Qc As.toArray) XC free := by
  have hK : vx_Back l R p e below s args y 3 8 (PreOf R mc ms Pc) (PostOf Qc mc ms free) (vx_Post XC mc ms free) := vx_callBack cw.1 hM hp.1
  obtain ⟨⟨-, -, -, -, -, -, hcode, hini, hy, hlen, hl⟩, hstt⟩ := cw
  obtain ⟨hx, hb, hml, ho, -⟩ := S
  intro T hT X
  rcases vx_callS X hx (bytes := bytes) (maxL := maxL) (ret := ret) ho hl hstt hini hcode hy hK hg (hsize.trans hml.symm) (argsL := As) (rest := rest) (fun sig h => hn.trans (hlen sig h)) hstack hW (by rw [hb]; exact hdg)
    (fun vm₁ hW₁ => ⟨hf.1, hf.2, hp.2 (T.setVm vm₁) hT hW₁⟩) with ⟨v, vm₁, ⟨U', l2, c2, s2⟩, hW₁, X', ⟨g', mk, t, L, e1, e2, hq, h1, hL, h2, h3⟩, st⟩ | ⟨q, vm₁, ⟨U', l2, c2, s2⟩, hW₁, X', ⟨g', mk, t, L, E, ce, e1, e2, hq, hce, hcv, hcl, h1, hL, h2, h3⟩, st⟩
  · dsimp only [Pt.U, Pt.locs, Pt.cells, Pt.slots] at X' e1 e2 h1 h2 h3 st
    subst h1; subst h2; subst h3
    exact Or.inl ⟨v, (T.setVm vm₁).calling g' mk As.toArray, t, U', L, hT, X', hL, e1, e2, hq, st⟩
  · dsimp only [Pt.U, Pt.locs, Pt.cells, Pt.slots] at X' e1 e2 h1 h2 h3 st hcl
    subst h1; subst h2; subst h3
    exact Or.inr ⟨q, (T.setVm vm₁).calling g' mk As.toArray, t, U', L, E, ce, hT, X', hL, e1, e2, hq, hce, hcv, vx_cls hW₁ hcl, st⟩
end Runs
section Rows
variable {p : Program} {l : Launch} {e : Env} {R : Room} {s : State} {m : MethodId} {args : Array Value} {below : List Frame} {meth : Method} {c : Code} {H : Heap} {locs : List Loc} {cells slots : Nat} {Q : State → Prop}
variable {mc ms : Nat} {free : Addr → Prop} {A0 A1 : Nat → Prop} {H0 : Heap} {a : Array Value} {pc : Nat} {ls : Array Slot} {st0 rest : List Value}
theorem vx_keep {st₀ t T' : State} {L : List Loc} (h0 : st₀.heap = H) (e1 : T'.heap = t.heap) (hS : va_S A0 H0 H locs) (hA : ∀ q, q < H.size → A1 q → A0 q) (hf : ∀ q, free q → A0 q) (hL : ∀ q ∈ L, free q.base) (hF : va_F A1 st₀ t) :
    H.size ≤ T'.heap.size ∧ (∀ q : Nat, q < H.size → ¬ A1 q → T'.heap[q]? = H[q]?) ∧ va_S A0 H0 T'.heap (locs ++ L) := by
  obtain ⟨hz, hk⟩ := hF
  rw [h0] at hz hk
  exact ⟨by rw [e1]; exact hz, fun q h1 h2 => by rw [e1]; exact hk q h1 h2,
    ⟨Nat.le_trans hS.1 (by rw [e1]; exact hz), fun q h1 h2 => by rw [e1, hk q (Nat.lt_of_lt_of_le h1 hS.1) (fun z => h2 (hA q (Nat.lt_of_lt_of_le h1 hS.1) z))]; exact hS.2.1 q h1 h2, fun q hq => by
      rcases List.mem_append.mp hq with h | h
      · exact hS.2.2 q h
      · exact hf _ (hL q h)⟩⟩
theorem vx_calli {S SX : Type} {post : Int32 → S → Prop} {px : SX → Prop} {B : S → State → Prop} {BX : String → SX → State → Prop} {AX : Nat → Prop} (hr : vx_Run p l e R s m args below meth c H locs cells slots mc ms (F0 m pc ls st0) rest (va_Qi post B A1 a) (vx_X px BX AX) free) (hS : va_S A0 H0 H locs) (hA : ∀ q, q < H.size → A1 q → A0 q) (hf : ∀ q, free q → A0 q) (hAX : ∀ q, q < H.size → AX q → A0 q)
    (kx : ∀ (E : String) (ce : Cell) (q9 : Addr) (u : SX) (t : State) (H1 : Heap) (locs1 : List Loc), t.heap = H1 → s.vm.Alike t.vm → px u → BX E u t → H.size ≤ H1.size → (∀ q : Nat, q < H.size → ¬ AX q → H1[q]? = H[q]?) → va_S A0 H0 H1 locs1 → H1[q9]? = some ce → ce.vm = .none → s.vm.findClass E = some ce.cls → vx_W p l e R s m args below meth c H1 locs1 (cells + mc) (slots + ms) Q (F0 m pc ls rest) q9)
    (kk : ∀ (r : Int32) (u : S) (t : State) (H1 : Heap) (locs1 : List Loc), t.heap = H1 → s.vm.Alike t.vm → post r u → B u t → H.size ≤ H1.size → (∀ q : Nat, q < H.size → ¬ A1 q → H1[q]? = H[q]?) → va_S A0 H0 H1 locs1 → W p l e R s m args below meth c H1 locs1 (cells + mc) (slots + ms) Q (F0 m (pc + 3) ls (.int r :: rest))) : W p l e R s m args below meth c H locs cells slots Q (F0 m pc ls st0) := by
  intro T hT X
  rcases hr T hT X with ⟨v, st₀, t, T', L, h0, X', hL, e1, e2, ⟨⟨r, u, hv, hp, hb⟩, hF⟩, st⟩ | ⟨q, st₀, t, T', L, E, ce, h0, X', hL, e1, e2, ⟨u, hp, hb, hF⟩, hce, hcv, hcl, st⟩
  · cases hv
    obtain ⟨k1, k2, k3⟩ := vx_keep h0 e1 hS hA hf hL hF
    obtain ⟨t2, a1, b1⟩ := kk r u t T'.heap (locs ++ L) e1.symm (by rw [← e2]; exact X'.warmed.alike) hp hb k1 k2 k3 T' rfl X'
    exact ⟨t2, st t2 a1, b1⟩
  · obtain ⟨k1, k2, k3⟩ := vx_keep h0 e1 hS hAX hf hL hF
    obtain ⟨t2, a1, b1⟩ := kx E ce q u t T'.heap (locs ++ L) e1.symm (by rw [← e2]; exact X'.warmed.alike) hp hb k1 k2 k3 (by rw [e1]; exact hce) hcv hcl T' rfl X'
    exact ⟨t2, st.trans a1, b1⟩
theorem vx_calll {S SX : Type} {post : Int64 → S → Prop} {px : SX → Prop} {B : S → State → Prop} {BX : String → SX → State → Prop} {AX : Nat → Prop} (hr : vx_Run p l e R s m args below meth c H locs cells slots mc ms (F0 m pc ls st0) rest (va_Ql post B A1 a) (vx_X px BX AX) free) (hS : va_S A0 H0 H locs) (hA : ∀ q, q < H.size → A1 q → A0 q) (hf : ∀ q, free q → A0 q) (hAX : ∀ q, q < H.size → AX q → A0 q)
    (kx : ∀ (E : String) (ce : Cell) (q9 : Addr) (u : SX) (t : State) (H1 : Heap) (locs1 : List Loc), t.heap = H1 → s.vm.Alike t.vm → px u → BX E u t → H.size ≤ H1.size → (∀ q : Nat, q < H.size → ¬ AX q → H1[q]? = H[q]?) → va_S A0 H0 H1 locs1 → H1[q9]? = some ce → ce.vm = .none → s.vm.findClass E = some ce.cls → vx_W p l e R s m args below meth c H1 locs1 (cells + mc) (slots + ms) Q (F0 m pc ls rest) q9)
    (kk : ∀ (r : Int64) (u : S) (t : State) (H1 : Heap) (locs1 : List Loc), t.heap = H1 → s.vm.Alike t.vm → post r u → B u t → H.size ≤ H1.size → (∀ q : Nat, q < H.size → ¬ A1 q → H1[q]? = H[q]?) → va_S A0 H0 H1 locs1 → W p l e R s m args below meth c H1 locs1 (cells + mc) (slots + ms) Q (F0 m (pc + 3) ls (.long r :: rest))) : W p l e R s m args below meth c H locs cells slots Q (F0 m pc ls st0) := by
  intro T hT X
  rcases hr T hT X with ⟨v, st₀, t, T', L, h0, X', hL, e1, e2, ⟨⟨r, u, hv, hp, hb⟩, hF⟩, st⟩ | ⟨q, st₀, t, T', L, E, ce, h0, X', hL, e1, e2, ⟨u, hp, hb, hF⟩, hce, hcv, hcl, st⟩
  · cases hv
    obtain ⟨k1, k2, k3⟩ := vx_keep h0 e1 hS hA hf hL hF
    obtain ⟨t2, a1, b1⟩ := kk r u t T'.heap (locs ++ L) e1.symm (by rw [← e2]; exact X'.warmed.alike) hp hb k1 k2 k3 T' rfl X'
    exact ⟨t2, st t2 a1, b1⟩
  · obtain ⟨k1, k2, k3⟩ := vx_keep h0 e1 hS hAX hf hL hF
    obtain ⟨t2, a1, b1⟩ := kx E ce q u t T'.heap (locs ++ L) e1.symm (by rw [← e2]; exact X'.warmed.alike) hp hb k1 k2 k3 (by rw [e1]; exact hce) hcv hcl T' rfl X'
    exact ⟨t2, st.trans a1, b1⟩
theorem vx_callf {S SX : Type} {post : UInt32 → S → Prop} {px : SX → Prop} {B : S → State → Prop} {BX : String → SX → State → Prop} {AX : Nat → Prop} (hr : vx_Run p l e R s m args below meth c H locs cells slots mc ms (F0 m pc ls st0) rest (va_Qf post B A1 a) (vx_X px BX AX) free) (hS : va_S A0 H0 H locs) (hA : ∀ q, q < H.size → A1 q → A0 q) (hf : ∀ q, free q → A0 q) (hAX : ∀ q, q < H.size → AX q → A0 q)
    (kx : ∀ (E : String) (ce : Cell) (q9 : Addr) (u : SX) (t : State) (H1 : Heap) (locs1 : List Loc), t.heap = H1 → s.vm.Alike t.vm → px u → BX E u t → H.size ≤ H1.size → (∀ q : Nat, q < H.size → ¬ AX q → H1[q]? = H[q]?) → va_S A0 H0 H1 locs1 → H1[q9]? = some ce → ce.vm = .none → s.vm.findClass E = some ce.cls → vx_W p l e R s m args below meth c H1 locs1 (cells + mc) (slots + ms) Q (F0 m pc ls rest) q9)
    (kk : ∀ (r : UInt32) (u : S) (t : State) (H1 : Heap) (locs1 : List Loc), t.heap = H1 → s.vm.Alike t.vm → post r u → B u t → H.size ≤ H1.size → (∀ q : Nat, q < H.size → ¬ A1 q → H1[q]? = H[q]?) → va_S A0 H0 H1 locs1 → W p l e R s m args below meth c H1 locs1 (cells + mc) (slots + ms) Q (F0 m (pc + 3) ls (.float r :: rest))) : W p l e R s m args below meth c H locs cells slots Q (F0 m pc ls st0) := by
  intro T hT X
  rcases hr T hT X with ⟨v, st₀, t, T', L, h0, X', hL, e1, e2, ⟨⟨r, u, hv, hp, hb⟩, hF⟩, st⟩ | ⟨q, st₀, t, T', L, E, ce, h0, X', hL, e1, e2, ⟨u, hp, hb, hF⟩, hce, hcv, hcl, st⟩
  · cases hv
    obtain ⟨k1, k2, k3⟩ := vx_keep h0 e1 hS hA hf hL hF
    obtain ⟨t2, a1, b1⟩ := kk r u t T'.heap (locs ++ L) e1.symm (by rw [← e2]; exact X'.warmed.alike) hp hb k1 k2 k3 T' rfl X'
    exact ⟨t2, st t2 a1, b1⟩
  · obtain ⟨k1, k2, k3⟩ := vx_keep h0 e1 hS hAX hf hL hF
    obtain ⟨t2, a1, b1⟩ := kx E ce q u t T'.heap (locs ++ L) e1.symm (by rw [← e2]; exact X'.warmed.alike) hp hb k1 k2 k3 (by rw [e1]; exact hce) hcv hcl T' rfl X'
    exact ⟨t2, st.trans a1, b1⟩
theorem vx_calld {S SX : Type} {post : UInt64 → S → Prop} {px : SX → Prop} {B : S → State → Prop} {BX : String → SX → State → Prop} {AX : Nat → Prop} (hr : vx_Run p l e R s m args below meth c H locs cells slots mc ms (F0 m pc ls st0) rest (va_Qd post B A1 a) (vx_X px BX AX) free) (hS : va_S A0 H0 H locs) (hA : ∀ q, q < H.size → A1 q → A0 q) (hf : ∀ q, free q → A0 q) (hAX : ∀ q, q < H.size → AX q → A0 q)
    (kx : ∀ (E : String) (ce : Cell) (q9 : Addr) (u : SX) (t : State) (H1 : Heap) (locs1 : List Loc), t.heap = H1 → s.vm.Alike t.vm → px u → BX E u t → H.size ≤ H1.size → (∀ q : Nat, q < H.size → ¬ AX q → H1[q]? = H[q]?) → va_S A0 H0 H1 locs1 → H1[q9]? = some ce → ce.vm = .none → s.vm.findClass E = some ce.cls → vx_W p l e R s m args below meth c H1 locs1 (cells + mc) (slots + ms) Q (F0 m pc ls rest) q9)
    (kk : ∀ (r : UInt64) (u : S) (t : State) (H1 : Heap) (locs1 : List Loc), t.heap = H1 → s.vm.Alike t.vm → post r u → B u t → H.size ≤ H1.size → (∀ q : Nat, q < H.size → ¬ A1 q → H1[q]? = H[q]?) → va_S A0 H0 H1 locs1 → W p l e R s m args below meth c H1 locs1 (cells + mc) (slots + ms) Q (F0 m (pc + 3) ls (.double r :: rest))) : W p l e R s m args below meth c H locs cells slots Q (F0 m pc ls st0) := by
  intro T hT X
  rcases hr T hT X with ⟨v, st₀, t, T', L, h0, X', hL, e1, e2, ⟨⟨r, u, hv, hp, hb⟩, hF⟩, st⟩ | ⟨q, st₀, t, T', L, E, ce, h0, X', hL, e1, e2, ⟨u, hp, hb, hF⟩, hce, hcv, hcl, st⟩
  · cases hv
    obtain ⟨k1, k2, k3⟩ := vx_keep h0 e1 hS hA hf hL hF
    obtain ⟨t2, a1, b1⟩ := kk r u t T'.heap (locs ++ L) e1.symm (by rw [← e2]; exact X'.warmed.alike) hp hb k1 k2 k3 T' rfl X'
    exact ⟨t2, st t2 a1, b1⟩
  · obtain ⟨k1, k2, k3⟩ := vx_keep h0 e1 hS hAX hf hL hF
    obtain ⟨t2, a1, b1⟩ := kx E ce q u t T'.heap (locs ++ L) e1.symm (by rw [← e2]; exact X'.warmed.alike) hp hb k1 k2 k3 (by rw [e1]; exact hce) hcv hcl T' rfl X'
    exact ⟨t2, st.trans a1, b1⟩
theorem vx_callv {S SX : Type} {post : S → Prop} {px : SX → Prop} {B : S → State → Prop} {BX : String → SX → State → Prop} {AX : Nat → Prop} (hr : vx_Run p l e R s m args below meth c H locs cells slots mc ms (F0 m pc ls st0) rest (va_Qv post B A1 a) (vx_X px BX AX) free) (hS : va_S A0 H0 H locs) (hA : ∀ q, q < H.size → A1 q → A0 q) (hf : ∀ q, free q → A0 q) (hAX : ∀ q, q < H.size → AX q → A0 q)
    (kx : ∀ (E : String) (ce : Cell) (q9 : Addr) (u : SX) (t : State) (H1 : Heap) (locs1 : List Loc), t.heap = H1 → s.vm.Alike t.vm → px u → BX E u t → H.size ≤ H1.size → (∀ q : Nat, q < H.size → ¬ AX q → H1[q]? = H[q]?) → va_S A0 H0 H1 locs1 → H1[q9]? = some ce → ce.vm = .none → s.vm.findClass E = some ce.cls → vx_W p l e R s m args below meth c H1 locs1 (cells + mc) (slots + ms) Q (F0 m pc ls rest) q9)
    (kk : ∀ (u : S) (t : State) (H1 : Heap) (locs1 : List Loc), t.heap = H1 → s.vm.Alike t.vm → post u → B u t → H.size ≤ H1.size → (∀ q : Nat, q < H.size → ¬ A1 q → H1[q]? = H[q]?) → va_S A0 H0 H1 locs1 → W p l e R s m args below meth c H1 locs1 (cells + mc) (slots + ms) Q (F0 m (pc + 3) ls (rest))) : W p l e R s m args below meth c H locs cells slots Q (F0 m pc ls st0) := by
  intro T hT X
  rcases hr T hT X with ⟨v, st₀, t, T', L, h0, X', hL, e1, e2, ⟨⟨u, hv, hp, hb⟩, hF⟩, st⟩ | ⟨q, st₀, t, T', L, E, ce, h0, X', hL, e1, e2, ⟨u, hp, hb, hF⟩, hce, hcv, hcl, st⟩
  · cases hv
    obtain ⟨k1, k2, k3⟩ := vx_keep h0 e1 hS hA hf hL hF
    obtain ⟨t2, a1, b1⟩ := kk u t T'.heap (locs ++ L) e1.symm (by rw [← e2]; exact X'.warmed.alike) hp hb k1 k2 k3 T' rfl X'
    exact ⟨t2, st t2 a1, b1⟩
  · obtain ⟨k1, k2, k3⟩ := vx_keep h0 e1 hS hAX hf hL hF
    obtain ⟨t2, a1, b1⟩ := kx E ce q u t T'.heap (locs ++ L) e1.symm (by rw [← e2]; exact X'.warmed.alike) hp hb k1 k2 k3 (by rw [e1]; exact hce) hcv hcl T' rfl X'
    exact ⟨t2, st.trans a1, b1⟩
/-- caught by the row x of this method's table; the rows ahead don't take it -/
theorem vx_catch {own name : String} {E : String} {ce : Cell} {q : Addr} (hown : s.vm.findClass own = some m.cls) (pre : List ExceptionTableEntry) (x : ExceptionTableEntry) (suf : List ExceptionTableEntry) (hsplit : c.exceptionTable.toList = pre ++ x :: suf)
    (hpass : ∀ z ∈ pre, covers z pc = false ∨ (z.catchType ≠ 0 ∧ ∃ nm : String, (Cond.classLink own z.catchType nm).before args s = true ∧ va_Nc E nm s)) (hx : covers x pc = true) (h0 : x.catchType ≠ 0)
    (hlink : (Cond.classLink own x.catchType name).before args s = true) (hcast : (Cond.castable E name).before args s = true) (hcell : H[q]? = some ce) (hv : ce.vm = .none) (hcl : s.vm.findClass E = some ce.cls)
    (kk : W p l e R s m args below meth c H locs cells slots Q (F0 m x.handlerPc ls [.ref q])) : vx_W p l e R s m args below meth c H locs cells slots Q (F0 m pc ls rest) q := by
  intro T hT X
  have hpl : e.platform.magicAccessors = ({} : Platform).magicAccessors := by rw [X.admits.platform]
  obtain ⟨c3, c4, hc3, hc4, hasg⟩ := Cond.castable_spec hcast
  cases Option.some.inj (hc3.symm.trans hcl)
  obtain ⟨c5, hc5, hcl5⟩ := Cond.classLink_spec hown hlink e.platform hpl
  cases Option.some.inj (hc4.symm.trans hc5)
  obtain ⟨vm', X', st⟩ := X.thenCaughtThrough q (g := F0 m pc ls rest) rfl (Steps.refl _) (by rw [hT]; exact hcell) (by rw [hv]; rfl) (by obtain ⟨k9, h9, -⟩ := Vm.findClass_spec hcl; exact ⟨k9, h9⟩) pre x suf hsplit
    (fun z hz => by
      rcases hpass z hz with h | ⟨hz0, nm, hl1, hn1⟩
      · exact Or.inl h
      · obtain ⟨c6, hc6, hcl6⟩ := Cond.classLink_spec hown hl1 e.platform hpl
        obtain ⟨a8, b8, h1, h2, h3⟩ := hn1
        cases Option.some.inj (h1.symm.trans hcl)
        cases Option.some.inj (h2.symm.trans hc6)
        exact Or.inr ⟨hz0, _, hcl6, h3⟩) hx (Or.inr ⟨h0, c4, hcl5, hasg⟩)
  obtain ⟨t, a1, b1⟩ := kk (T.setVm vm') hT X'
  exact ⟨t, st.trans a1, b1⟩
end Rows
section Ends
variable {p : Program} {l : Launch} {e : Env} {R : Room} {s : State} {m : MethodId} {args : Array Value} {below : List Frame} {meth : Method} {c : Code} {H : Heap} {locs : List Loc} {cells slots : Nat} {Q : State → Prop}
variable {mc ms : Nat} {free : Addr → Prop} {A0 A1 : Nat → Prop} {H0 : Heap} {a : Array Value} {ls : Array Slot} {st0 rest : List Value}
variable {Qc : Array Value → State → Outcome → State → Prop} {XC : String → State → State → Prop}
/-- what a body that may throw owes at its end -/
def vx_MQ (below : List Frame) (Qc : Array Value → State → Outcome → State → Prop) (XC : String → State → State → Prop) (a : Array Value) (s : State) (mc ms : Nat) (free : Addr → Prop) : State → Prop := fun t =>
  ∃ o, t.status = .running ∧ Ended t below o ∧ vx_Q Qc XC mc ms free a s o t
theorem vx_ret {g : JFrame} {mc ms : Nat} (k : W p l e R s m args below meth c H locs cells slots (MQ below Qc args s mc ms free) g) : W p l e R s m args below meth c H locs cells slots (vx_MQ below Qc XC args s mc ms free) g := by
  intro T hT X
  obtain ⟨t, a1, o, b1, b2, b3, b4⟩ := k T hT X
  exact ⟨t, a1, o, b1, b2, Or.inl ⟨b3, b4⟩⟩
/-- not caught here: it goes on to the caller -/
theorem vx_widen {g : JFrame} {q : Addr} {k n : Nat} (h1 : cells ≤ k) (h2 : slots ≤ n) (kk : vx_W p l e R s m args below meth c H locs k n Q g q) : vx_W p l e R s m args below meth c H locs cells slots Q g q := fun T hT X => kk T hT (stand_widen X h1 h2)
theorem vx_out {pc : Nat} {E : String} {ce : Cell} {q : Addr} {mc ms : Nat} (hout : ∀ x ∈ c.exceptionTable.toList, covers x pc = false) (hlocks : meth.locks = false) (hcell : H[q]? = some ce) (hv : ce.vm = .none) (hcl : s.vm.findClass E = some ce.cls)
    (hx : ∀ t : State, t.heap = H → s.vm.Alike t.vm → XC E s t) (hf : ∀ z ∈ locs, free z.base) (hc : cells ≤ mc) (hs : slots ≤ ms) :
    vx_W p l e R s m args below meth c H locs cells slots (vx_MQ below Qc XC args s mc ms free) (F0 m pc ls rest) q := by
  intro T hT X
  obtain ⟨st1, hrun, hend, hW, hsm⟩ := X.leaveThrown q (g := F0 m pc ls rest) rfl rfl rfl hout hlocks
  have hcell9 : (T.setFrames (.throwing q :: below)).heap[q]? = some ce := by
    show T.heap[q]? = some ce
    rw [hT]; exact hcell
  exact ⟨_, st1, .threw q, hrun, hend, Or.inr ⟨q, rfl, E, ce, locs, hx _ hT hW.alike, hcell9, hv, hcl, hW, hsm.mono hc hs, hf⟩⟩
theorem vx_frame {U : State} {k n : Nat} (h : s.sameButNew ({ U with vm := s.vm } : State) locs k n) : s.heap.size ≤ U.heap.size ∧ ∀ q : Nat, q < s.heap.size → (∀ z ∈ locs, z.base ≠ q) → U.heap[q]? = s.heap[q]? := by
  obtain ⟨-, h2, -, -, -, h6⟩ := h
  refine ⟨h2, fun q hq hz => ?_⟩
  obtain ⟨c9, e1, e2, e3, e4⟩ := h6 q _ (Array.getElem?_eq_getElem hq)
  have hs : c9.slots = (s.heap[q]).slots := Array.ext_getElem? fun i => e4 i fun hm => hz _ hm rfl
  have h9 : c9 = s.heap[q] := by
    rw [hs] at e2
    exact e2
  have e5 : U.heap[q]? = some c9 := e1
  rw [e5, h9, Array.getElem?_eq_getElem hq]
/-- the words of a throw but the four that speak of the heap -/
def vx_no (w : Cond) : Bool := decide (w ≠ .isRef (.static Bundle.tN "UNASSIGNED_STACK" Bundle.steD)) && decide (w ≠ .isRef (.static Bundle.tN "SUPPRESSED_SENTINEL" Bundle.listD)) && decide (w ≠ .laysStatic Bundle.tN "UNASSIGNED_STACK" Bundle.steD) && decide (w ≠ .laysStatic Bundle.tN "SUPPRESSED_SENTINEL" Bundle.listD)
def vx_at0 (own : String) (ic : Nat) (X : String) (names : List String) : List Cond := (Bundle.ownAtoms0 own ic X names).filter vx_no
def vx_atS (own : String) (ic : Nat) (X : String) (names : List String) : List Cond := (Bundle.ownAtoms own ic X names).filter vx_no
/-- a word that the tables alone decide, or a good one -/
def vx_ot (w : Cond) : Bool := w.onTables || goodWord w
theorem vx_ot_at {args a' : Array Value} {s U : State} {w : Cond} (hW : s.WarmedH U.vm) (hvm : s.vm = U.vm) (hg : vx_ot w = true) (h : w.before args s = true) : w.before a' U = true := by
  simp only [vx_ot, Bool.or_eq_true] at hg
  rcases hg with hg | hg
  · exact va_tabs hg hvm h
  · exact word_at hW (good_of_word hg) h
/-- a list's words: the good ones out of the method's own list, the others by premises of their own -/
theorem vx_hat {args : Array Value} {s : State} {L B : List Cond} (h1 : ∀ w ∈ L.filter goodWord, w.before args s = true) (h2 : ∀ w ∈ L.filter (fun w => !goodWord w), w ∈ B) (h3 : ∀ w ∈ B, w.before args s = true) : ∀ w ∈ L, w.before args s = true := by
  intro w hw
  by_cases g : goodWord w = true
  · exact h1 w (List.mem_filter.mpr ⟨hw, g⟩)
  · refine h3 w (h2 w (List.mem_filter.mpr ⟨hw, ?_⟩))
    show (!goodWord w) = true
    cases hgw : goodWord w
    · rfl
    · exact absurd hgw g
theorem vx_c {args : Array Value} {s : State} {w : Cond} {B : List Cond} (h : w.before args s = true) (t : ∀ w ∈ B, w.before args s = true) : ∀ w' ∈ w :: B, w'.before args s = true := fun w' h' => (List.mem_cons.mp h').elim (fun e => by rw [e]; exact h) (t w')
theorem vx_n {args : Array Value} {s : State} : ∀ w ∈ ([] : List Cond), w.before args s = true := fun _ h => nomatch h
theorem vx_own {args : Array Value} {s : State} {L : List Cond} (h1 : ∀ w ∈ L.filter vx_no, w.before args s = true)
    (hU : (Cond.isRef (.static Bundle.tN "UNASSIGNED_STACK" Bundle.steD)).before args s = true) (hN : (Cond.isRef (.static Bundle.tN "SUPPRESSED_SENTINEL" Bundle.listD)).before args s = true)
    (lU : (Cond.laysStatic Bundle.tN "UNASSIGNED_STACK" Bundle.steD).before args s = true) (lN : (Cond.laysStatic Bundle.tN "SUPPRESSED_SENTINEL" Bundle.listD).before args s = true) : ∀ w ∈ L, w.before args s = true := by
  intro w hw
  by_cases e1 : w = .isRef (.static Bundle.tN "UNASSIGNED_STACK" Bundle.steD)
  · rw [e1]; exact hU
  · by_cases e2 : w = .isRef (.static Bundle.tN "SUPPRESSED_SENTINEL" Bundle.listD)
    · rw [e2]; exact hN
    · by_cases e3 : w = .laysStatic Bundle.tN "UNASSIGNED_STACK" Bundle.steD
      · rw [e3]; exact lU
      · by_cases e4 : w = .laysStatic Bundle.tN "SUPPRESSED_SENTINEL" Bundle.listD
        · rw [e4]; exact lN
        · exact h1 w (List.mem_filter.mpr ⟨hw, by unfold vx_no; rw [decide_eq_true e1, decide_eq_true e2, decide_eq_true e3, decide_eq_true e4]; rfl⟩)
/-- where a static field lies, its class's statics cell in H -/
def vx_L (C n d : String) (A : Nat → Prop) (U : State) (H : Heap) : Prop := ∃ (c : ClassId) (k : Class) (i : Nat) (f : Field) (a : Nat) (cell : Cell), U.vm.findClass C = some c ∧ U.fieldFound? C n d = some (c, k, i, f) ∧ f.isStatic = true ∧ k.statics = some a ∧ H[a]? = some cell ∧ cell.vm.isStatics = true ∧ cell.cls = c ∧ f.slot < cell.slots.size ∧ k.staticTypes[f.slot]? = some f.type ∧ ¬ A a
theorem vx_L.moved {C n d : String} {A : Nat → Prop} {u U : State} {H : Heap} (hvm : u.vm.Alike U.vm) (h : vx_L C n d A u H) : vx_L C n d A U H := by
  obtain ⟨c, k, i, f, a, cell, h1, h2, h3, h4, h5, h6, h7, h8, h9, h10⟩ := h
  obtain ⟨k', hi', he⟩ := State.fieldFound?_setVm hvm h2
  exact ⟨c, k', i, f, a, cell, by rw [hvm.findClass]; exact h1, hi', h3, by rw [he]; exact h4, h5, h6, h7, h8, by rw [he]; exact h9, h10⟩
theorem vx_L.kept {C n d : String} {A : Nat → Prop} {U : State} {H H1 : Heap} (h : vx_L C n d A U H) (hq : ∀ a : Nat, a < H.size → ¬ A a → H1[a]? = H[a]?) : vx_L C n d A U H1 := by
  obtain ⟨c, k, i, f, a, cell, h1, h2, h3, h4, h5, h6, h7, h8, h9, h10⟩ := h
  exact ⟨c, k, i, f, a, cell, h1, h2, h3, h4, by rw [hq a (Array.getElem?_eq_some_iff.mp h5).1 h10]; exact h5, h6, h7, h8, h9, h10⟩
theorem vx_L.narrow {C n d : String} {A B : Nat → Prop} {U : State} {H : Heap} (h : vx_L C n d A U H) (hAB : ∀ q, B q → A q) : vx_L C n d B U H := by
  obtain ⟨c, k, i, f, a, cell, h1, h2, h3, h4, h5, h6, h7, h8, h9, h10⟩ := h
  exact ⟨c, k, i, f, a, cell, h1, h2, h3, h4, h5, h6, h7, h8, h9, fun z => h10 (hAB _ z)⟩
theorem vx_L.word {C n d : String} {A : Nat → Prop} {s : State} {args : Array Value} (h : vx_L C n d A s s.heap) : (Cond.laysStatic C n d).before args s = true := by
  obtain ⟨c, k, i, f, a, cell, h1, h2, h3, h4, h5, h6, h7, h8, h9, -⟩ := h
  show (Cond.laysStatic C n d).holds args s none s [] = true
  exact Cond.laysStatic_of h1 h2 h3 h4 h5 h6 h7 h8 h9
/-- .. and what it holds: null or some reference -/
def vx_Zq (C n d : String) (A : Nat → Prop) (U : State) (H : Heap) : Prop := va_Zq C n d A U H ∧ vx_L C n d A U H
theorem vx_Zq.moved {C n d : String} {A : Nat → Prop} {u U : State} {H : Heap} (hvm : u.vm.Alike U.vm) (h : vx_Zq C n d A u H) : vx_Zq C n d A U H := ⟨va_Zq.moved hvm h.1, vx_L.moved hvm h.2⟩
theorem vx_Zq.kept {C n d : String} {A : Nat → Prop} {U : State} {H H1 : Heap} (h : vx_Zq C n d A U H) (hq : ∀ a : Nat, a < H.size → ¬ A a → H1[a]? = H[a]?) : vx_Zq C n d A U H1 := ⟨va_Zq.kept h.1 hq, vx_L.kept h.2 hq⟩
theorem vx_Zq.narrow {C n d : String} {A B : Nat → Prop} {U : State} {H : Heap} (h : vx_Zq C n d A U H) (hAB : ∀ q, B q → A q) : vx_Zq C n d B U H := ⟨va_Zq.narrow h.1 hAB, vx_L.narrow h.2 hAB⟩
theorem vx_Zqof {args : Array Value} {s : State} {C n d : String} {A : Nat → Prop} (hl : (Cond.laysStatic C n d).before args s = true) (hini : (Cond.initialized C).before args s = true) (h : (Cond.isRef (.static C n d)).before args s = true) (hA : ∀ a : Nat, a < s.heap.size → ¬ A a) : vx_Zq C n d A s s.heap := by
  refine ⟨va_Zqof hl hini h hA, ?_⟩
  obtain ⟨c, k, i, f, a, cell, h1, h2, h3, h4, h5, h6, h7, h8, h9⟩ := Cond.laysStatic_spec hl
  exact ⟨c, k, i, f, a, cell, h1, h2, h3, h4, h5, h6, h7, h8, h9, hA a (Array.getElem?_eq_some_iff.mp h5).1⟩
theorem vx_isRef {C n d : String} {v : Value} {A : Nat → Prop} {s : State} {args : Array Value} (h : va_Z C n d v A s s.heap) (hv : v.isRef = true) : (Cond.isRef (.static C n d)).before args s = true := by
  obtain ⟨cf, kf, fi, f, a, cell, h1, h2, h3, h4, h5, h6, h7, -⟩ := h
  have he : (Term.static C n d).eval args s none [] s = some v := by
    simp [Term.eval, State.fieldNamed?, h1, h2, h4, h5, h6, h7]
  simp only [Cond.before, Cond.holds, Cond.value, he]
  cases v <;> simp_all [Value.isRef]
theorem vx_isRefq {C n d : String} {A : Nat → Prop} {s : State} {args : Array Value} (h : va_Zq C n d A s s.heap) : (Cond.isRef (.static C n d)).before args s = true := by
  rcases h with h | ⟨t, h⟩
  · exact vx_isRef h rfl
  · exact vx_isRef h rfl
/-- the same frame, seen from here: as if the method were called anew in this heap -/
theorem vx_rebase {T : State} (X : Stand p l e R s m args below meth c T locs cells slots) {R' : Room} (hf : R'.frames ≤ R.frames) (hl : R'.locals ≤ R.locals) (hc : cells + R'.cells ≤ R.cells) (hs : slots + R'.slots ≤ R.slots) :
    Stand p l e R' ((T.setVm s.vm).setFrames (.invoking m args :: below)) m args below meth c T [] 0 0 := by
  have htop : (T.setVm s.vm).topJava?.isSome := X.here.top
  have hF : ((T.setVm s.vm).setFrames (.invoking m args :: below)).frames = .invoking m args :: below := State.frames_setFrames _ (State.cur_lt_of_top htop)
  obtain ⟨g₀, hg0⟩ := Option.isSome_iff_exists.mp htop
  obtain ⟨r, hr⟩ := State.topJava?_eq_some.mp hg0
  have hl9 : e.platform.stackLimits (T.setVm s.vm).me = e.platform.stackLimits s.me := X.limits
  have hb9 : (T.setVm s.vm).me.stackBytes = s.me.stackBytes := X.bytes
  refine ⟨X.admits, X.cas, X.clock, hF, ?_, X.hears, X.method, X.code, X.here, X.tail, X.warmed, ?_, ?_, ?_⟩
  · have h := X.room
    have hU : ((T.setVm s.vm).setFrames (.invoking m args :: below)).localsInUse = s.localsInUse := by
      rw [State.localsInUse_invoking hF (meth := meth) (c := c) X.method X.code, State.localsInUse_invoking X.frames X.method X.code]
    simp only [State.hasRoom, Bool.and_eq_true, decide_eq_true_eq] at h ⊢
    obtain ⟨⟨⟨⟨h1, h2, h3, h4, h5, h6⟩, h7⟩, h8⟩, h9⟩ := h
    rw [X.frames, List.length_cons] at h2 h3
    have q1 := X.heapSize
    have q2 := X.used
    simp only [hF, hU, List.length_cons, State.stackLimits_setFrames, State.stackBytes_setFrames, hl9, hb9]
    refine ⟨⟨⟨⟨by omega, by omega, by omega, by omega, by omega, h6⟩, ?_⟩, ?_⟩, X.book⟩
    · show T.heap.size + R'.cells ≤ e.platform.maxCells
      omega
    · show T.slotsUsed + R'.slots ≤ e.platform.maxSlots
      omega
  · rw [State.stackLimits_setFrames]; rfl
  · rw [State.stackBytes_setFrames]; rfl
  · refine ⟨?_, Nat.le_refl _, Nat.le_refl _, ?_, ?_, fun a c9 h9 => ⟨c9, h9, rfl, rfl, fun _ _ => rfl⟩⟩
    · obtain ⟨t, ht, -⟩ := State.frames_cons hr
      show T.setVm s.vm = { ((T.setVm s.vm).setFrames (.invoking m args :: below)).setFrames (T.setVm s.vm).frames with heap := T.heap, slotsUsed := T.slotsUsed }
      rw [State.setFrames_setFrames, State.setFrames_self ht]
      rfl
    · show T.slotsUsed = T.slotsUsed + ((T.heap.toList.drop T.heap.size).map (·.slots.size)).sum
      rw [List.drop_eq_nil_of_le (Nat.le_of_eq Array.length_toList)]
      rfl
    · show ((T.heap.toList.drop T.heap.size).map (·.slots.size)).sum ≤ 0
      rw [List.drop_eq_nil_of_le (Nat.le_of_eq Array.length_toList)]
      exact Nat.le_refl _
/-- 'throw new E()': new; dup; invokespecial; athrow -/
theorem vx_throw0 {cc : ByteArray} {pc : Nat} (hexec : p.tables.exec = Jvm.exec) (hb : c.code = cc) (hl : l.stackTraces = false) {own cls : String} {names : List String} {ik ic mc ms : Nat} {A : Nat → Prop}
    (hown : s.vm.findClass own = some m.cls) (hcls : Bundle.fit cls = true) (hnames : ∀ n ∈ names, Bundle.fit n = true)
    (hk : (Cond.classLink own ik cls).before args s = true) (hini : (Cond.initialized cls).before args s = true) (hat : ∀ w ∈ vx_at0 own ic cls names, w.before args s = true)
    (hgood : ∀ w ∈ Cond.classLink own ik cls :: Cond.initialized cls :: vx_at0 own ic cls names, vx_ot w = true)
    (hU : vx_Zq Bundle.tN "UNASSIGNED_STACK" Bundle.steD A s s.heap) (hN : vx_Zq Bundle.tN "SUPPRESSED_SENTINEL" Bundle.listD A s s.heap) (hS : va_S A s.heap H locs) (hsize : ls.size = c.maxLocals)
    (d0 : decode cc pc = .ok (.new ik, 3)) (d3 : decode cc (pc + 3) = .ok (.dup, 1)) (d4 : decode cc (pc + 4) = .ok (.invokespecial ic, 3)) (d7 : decode cc (pc + 7) = .ok (.athrow, 1))
    (hout : ∀ x ∈ c.exceptionTable.toList, covers x (pc + 7) = false)
    (hRframes : names.length + 3 < R.frames) (hRlocals : (rest.map fun v => v.category).sum + (13 * (names.length + 1) + 42) ≤ R.locals) (hRcells : cells + 1 ≤ R.cells) (hRslots : slots + 6 ≤ R.slots) (hlocks : meth.locks = false)
    (hx : ∀ t : State, s.vm.Alike t.vm → H.size ≤ t.heap.size → (∀ q : Nat, q < H.size → t.heap[q]? = H[q]?) → XC cls s t)
    (hf : ∀ z ∈ locs, free z.base) (hc : cells + 1 ≤ mc) (hs : slots + 6 ≤ ms) :
    W p l e R s m args below meth c H locs cells slots (vx_MQ below Qc XC args s mc ms free) (F0 m pc ls rest) := by
  intro T hT X
  have htr : e.platform.stackTraces = false := (show e.platform.stackTraces = l.stackTraces by rw [X.admits.platform]).trans hl
  have Y := vx_rebase X (R' := { frames := R.frames, locals := R.locals, cells := 1, slots := 6 }) (Nat.le_refl _) (Nat.le_refl _) hRcells hRslots
  obtain ⟨s', hA⟩ : ∃ z, z = (T.setVm s.vm).setFrames (.invoking m args :: below) := ⟨_, rfl⟩
  rw [← hA] at Y
  have hvm : s'.vm = s.vm := by rw [hA]; rfl
  have hhp : s'.heap = H := by rw [hA]; exact hT
  have hW0 : s.WarmedH s'.vm := by rw [hvm]; exact State.WarmedH.refl s
  have hat' : ∀ w ∈ vx_at0 own ic cls names, w.before args s' = true := fun w hw => vx_ot_at hW0 hvm.symm (hgood w (List.mem_cons_of_mem _ (List.mem_cons_of_mem _ hw))) (hat w hw)
  have hk' : (Cond.classLink own ik cls).before args s' = true := vx_ot_at hW0 hvm.symm (hgood _ List.mem_cons_self) hk
  have hini' : (Cond.initialized cls).before args s' = true := vx_ot_at hW0 hvm.symm (hgood _ (List.mem_cons_of_mem _ List.mem_cons_self)) hini
  have hU' : vx_Zq Bundle.tN "UNASSIGNED_STACK" Bundle.steD A s' s'.heap := by rw [hhp]; exact vx_Zq.moved hW0.alike (hU.kept hS.2.1)
  have hN' : vx_Zq Bundle.tN "SUPPRESSED_SENTINEL" Bundle.listD A s' s'.heap := by rw [hhp]; exact vx_Zq.moved hW0.alike (hN.kept hS.2.1)
  have h : ∀ w ∈ Bundle.ownAtoms0 own ic cls names, w.before args s' = true := vx_own hat' (vx_isRefq hU'.1) (vx_isRefq hN'.1) hU'.2.word hN'.2.word
  have hown' : s'.vm.findClass own = some m.cls := by rw [hvm]; exact hown
  have hins : (Cond.instantiable cls 6).before args s' = true := h _ (by simp [Bundle.ownAtoms0])
  obtain ⟨vm₁, cX, kX, hfX, hkX, -, -, X₁, st1⟩ := Y.newCold hexec (own := own) (C := cls) (index := ik) (n := 6) hown' hk' hins hini'
    (g := F0 m pc ls rest) rfl (by rw [hb]; exact d0) (Nat.le_refl _) (Nat.le_refl _)
  generalize hT1 : (T.setVm vm₁).pushCell { cls := cX, slots := kX.instanceTypes.map defaultValue, vm := .none } = T1 at X₁ st1
  have hcat : (Value.ref T.heap.size).category = 1 := rfl
  have hcellA : T1.heap[T.heap.size]? = some (freshCell cX kX) := by rw [← hT1]; exact State.heap_pushCell_size _ _
  have d3' : decode c.code (pc + 3) = .ok (.dup, 1) := by rw [hb]; exact d3
  obtain ⟨U, hsteps, hrun, hend, hW, hsame, ce, hce, hO⟩ := X₁.ctorThrow0 hexec htr (own := own) (cls := cls) (names := names) (ic := ic) hown' hcls hnames h (fun x hx => nomatch hx) hfX hkX hcellA (by rw [hhp, hT]; exact Nat.le_refl _)
    (g := { method := m, pc := pc + 4, locals := ls, stack := .ref T.heap.size :: .ref T.heap.size :: rest, locked := none }) rfl hsize rfl rfl (rest := rest) rfl
    (by rw [hb]; exact d4) (by rw [hb]; exact d7) hout hRframes (by simp only [List.map_cons, List.sum_cons, hcat]; omega) hlocks
  obtain ⟨f1, f2⟩ := vx_frame hsame
  rw [hhp] at f1 f2
  have hWs : s.WarmedH U.vm := State.WarmedH.trans hW0 hW
  have hcl : s.vm.findClass cls = some ce.cls := by
    have h9 := hO.cls
    rw [hvm] at h9
    exact h9
  have hall : s.sameButNew ({ U with vm := s.vm } : State) locs mc ms := by
    subst hA
    obtain ⟨e1, e2⟩ := hsame
    rw [State.setFrames_setFrames] at e1
    have h2 : (T.setVm s.vm).sameButNew ({ U with vm := s.vm } : State) [] (0 + 1) (0 + 6) := ⟨e1, e2⟩
    have h3 := X.same.trans h2
    rw [List.append_nil] at h3
    exact h3.mono hc hs
  refine ⟨U, ?_, .threw T.heap.size, hrun, hend, Or.inr ⟨T.heap.size, rfl, cls, ce, locs, hx U hWs.alike f1 (fun q hq => f2 q hq (fun z hz => nomatch hz)), hce, hO.vm, hcl, hWs, hall, hf⟩⟩
  refine st1 _ ?_
  show Steps p.tables e below (T1.setTop { method := m, pc := pc + 3, locals := ls, stack := .ref T.heap.size :: rest, locked := none }) _
  jvm_step X₁.here [X₁.here.top, hexec, d3', Value.category]
  exact hsteps
/-- 'throw new E("text")': new; dup; ldc; invokespecial; athrow -/
theorem vx_throwS {cc : ByteArray} {pc : Nat} (hexec : p.tables.exec = Jvm.exec) (hb : c.code = cc) (hl : l.stackTraces = false) {own cls text : String} {names : List String} {ik is ic mc ms sa : Nat} {A : Nat → Prop}
    (hown : s.vm.findClass own = some m.cls) (hcls : Bundle.fit cls = true) (hnames : ∀ n ∈ names, Bundle.fit n = true)
    (hk : (Cond.classLink own ik cls).before args s = true) (hini : (Cond.initialized cls).before args s = true) (hstr : vk_R own is text sa s) (hat : ∀ w ∈ vx_atS own ic cls names, w.before args s = true)
    (hgood : ∀ w ∈ Cond.classLink own ik cls :: Cond.initialized cls :: vx_atS own ic cls names, vx_ot w = true)
    (hU : vx_Zq Bundle.tN "UNASSIGNED_STACK" Bundle.steD A s s.heap) (hN : vx_Zq Bundle.tN "SUPPRESSED_SENTINEL" Bundle.listD A s s.heap) (hS : va_S A s.heap H locs) (hsize : ls.size = c.maxLocals)
    (d0 : decode cc pc = .ok (.new ik, 3)) (d3 : decode cc (pc + 3) = .ok (.dup, 1)) (d4 : decode cc (pc + 4) = .ok (.ldc is, 2)) (d6 : decode cc (pc + 6) = .ok (.invokespecial ic, 3)) (d9 : decode cc (pc + 9) = .ok (.athrow, 1))
    (hout : ∀ x ∈ c.exceptionTable.toList, covers x (pc + 9) = false)
    (hRframes : names.length + 3 < R.frames) (hRlocals : (rest.map fun v => v.category).sum + (13 * (names.length + 1) + 43) ≤ R.locals) (hRcells : cells + 1 ≤ R.cells) (hRslots : slots + 6 ≤ R.slots) (hlocks : meth.locks = false)
    (hx : ∀ t : State, s.vm.Alike t.vm → H.size ≤ t.heap.size → (∀ q : Nat, q < H.size → t.heap[q]? = H[q]?) → XC cls s t)
    (hf : ∀ z ∈ locs, free z.base) (hc : cells + 1 ≤ mc) (hs : slots + 6 ≤ ms) :
    W p l e R s m args below meth c H locs cells slots (vx_MQ below Qc XC args s mc ms free) (F0 m pc ls rest) := by
  intro T hT X
  have htr : e.platform.stackTraces = false := (show e.platform.stackTraces = l.stackTraces by rw [X.admits.platform]).trans hl
  have Y := vx_rebase X (R' := { frames := R.frames, locals := R.locals, cells := 1, slots := 6 }) (Nat.le_refl _) (Nat.le_refl _) hRcells hRslots
  obtain ⟨s', hA⟩ : ∃ z, z = (T.setVm s.vm).setFrames (.invoking m args :: below) := ⟨_, rfl⟩
  rw [← hA] at Y
  have hvm : s'.vm = s.vm := by rw [hA]; rfl
  have hhp : s'.heap = H := by rw [hA]; exact hT
  have hW0 : s.WarmedH s'.vm := by rw [hvm]; exact State.WarmedH.refl s
  have hat' : ∀ w ∈ vx_atS own ic cls names, w.before args s' = true := fun w hw => vx_ot_at hW0 hvm.symm (hgood w (List.mem_cons_of_mem _ (List.mem_cons_of_mem _ hw))) (hat w hw)
  have hk' : (Cond.classLink own ik cls).before args s' = true := vx_ot_at hW0 hvm.symm (hgood _ List.mem_cons_self) hk
  have hini' : (Cond.initialized cls).before args s' = true := vx_ot_at hW0 hvm.symm (hgood _ (List.mem_cons_of_mem _ List.mem_cons_self)) hini
  have hU' : vx_Zq Bundle.tN "UNASSIGNED_STACK" Bundle.steD A s' s'.heap := by rw [hhp]; exact vx_Zq.moved hW0.alike (hU.kept hS.2.1)
  have hN' : vx_Zq Bundle.tN "SUPPRESSED_SENTINEL" Bundle.listD A s' s'.heap := by rw [hhp]; exact vx_Zq.moved hW0.alike (hN.kept hS.2.1)
  have h : ∀ w ∈ Bundle.ownAtoms own ic cls names, w.before args s' = true := vx_own hat' (vx_isRefq hU'.1) (vx_isRefq hN'.1) hU'.2.word hN'.2.word
  have hown' : s'.vm.findClass own = some m.cls := by rw [hvm]; exact hown
  have hins : (Cond.instantiable cls 6).before args s' = true := h _ (by simp [Bundle.ownAtoms])
  obtain ⟨vm₁, cX, kX, hfX, hkX, -, -, X₁, st1⟩ := Y.newCold hexec (own := own) (C := cls) (index := ik) (n := 6) hown' hk' hins hini'
    (g := F0 m pc ls rest) rfl (by rw [hb]; exact d0) (Nat.le_refl _) (Nat.le_refl _)
  generalize hT1 : (T.setVm vm₁).pushCell { cls := cX, slots := kX.instanceTypes.map defaultValue, vm := .none } = T1 at X₁ st1
  have hcat : (Value.ref T.heap.size).category = 1 := rfl
  have hcellA : T1.heap[T.heap.size]? = some (freshCell cX kX) := by rw [← hT1]; exact State.heap_pushCell_size _ _
  have d3' : decode c.code (pc + 3) = .ok (.dup, 1) := by rw [hb]; exact d3
  have d4' : decode c.code (pc + 4) = .ok (.ldc is, 2) := by rw [hb]; exact d4
  have hstr' : vk_R own is text sa s' := vk_R.warm hW0 hstr
  obtain ⟨U, hsteps, hrun, hend, hW, hsame, ce, hce, hO⟩ := X₁.ctorThrowS hexec htr (own := own) (cls := cls) (names := names) (ic := ic) hown' hcls hnames h (fun x hx => nomatch hx) hfX hkX hcellA (by rw [hhp, hT]; exact Nat.le_refl _) (msg := .ref sa) rfl
    (g := { method := m, pc := pc + 6, locals := ls, stack := .ref sa :: .ref T.heap.size :: .ref T.heap.size :: rest, locked := none }) rfl hsize rfl rfl (rest := rest) rfl
    (by rw [hb]; exact d6) (by rw [hb]; exact d9) hout hRframes (by simp only [List.map_cons, List.sum_cons, hcat]; omega) hlocks
  obtain ⟨f1, f2⟩ := vx_frame hsame
  rw [hhp] at f1 f2
  have hWs : s.WarmedH U.vm := State.WarmedH.trans hW0 hW
  have hcl : s.vm.findClass cls = some ce.cls := by
    have h9 := hO.cls
    rw [hvm] at h9
    exact h9
  have hall : s.sameButNew ({ U with vm := s.vm } : State) locs mc ms := by
    subst hA
    obtain ⟨e1, e2⟩ := hsame
    rw [State.setFrames_setFrames] at e1
    have h2 : (T.setVm s.vm).sameButNew ({ U with vm := s.vm } : State) [] (0 + 1) (0 + 6) := ⟨e1, e2⟩
    have h3 := X.same.trans h2
    rw [List.append_nil] at h3
    exact h3.mono hc hs
  refine ⟨U, ?_, .threw T.heap.size, hrun, hend, Or.inr ⟨T.heap.size, rfl, cls, ce, locs, hx U hWs.alike f1 (fun q hq => f2 q hq (fun z hz => nomatch hz)), hce, hO.vm, hcl, hWs, hall, hf⟩⟩
  refine st1 _ ?_
  show Steps p.tables e below (T1.setTop { method := m, pc := pc + 3, locals := ls, stack := .ref T.heap.size :: rest, locked := none }) _
  jvm_step X₁.here [X₁.here.top, hexec, d3', Value.category]
  exact X₁.ldcString hexec (own := own) (text := text) (index := is) (a := sa) hown' hstr'.1 hstr'.2
    (g := { method := m, pc := pc + 4, locals := ls, stack := .ref T.heap.size :: .ref T.heap.size :: rest, locked := none }) rfl d4' _ hsteps
/-- 'throw new E("text")', the text by a wide index -/
theorem vx_throwSW {cc : ByteArray} {pc : Nat} (hexec : p.tables.exec = Jvm.exec) (hb : c.code = cc) (hl : l.stackTraces = false) {own cls text : String} {names : List String} {ik is ic mc ms sa : Nat} {A : Nat → Prop}
    (hown : s.vm.findClass own = some m.cls) (hcls : Bundle.fit cls = true) (hnames : ∀ n ∈ names, Bundle.fit n = true)
    (hk : (Cond.classLink own ik cls).before args s = true) (hini : (Cond.initialized cls).before args s = true) (hstr : vk_R own is text sa s) (hat : ∀ w ∈ vx_atS own ic cls names, w.before args s = true)
    (hgood : ∀ w ∈ Cond.classLink own ik cls :: Cond.initialized cls :: vx_atS own ic cls names, vx_ot w = true)
    (hU : vx_Zq Bundle.tN "UNASSIGNED_STACK" Bundle.steD A s s.heap) (hN : vx_Zq Bundle.tN "SUPPRESSED_SENTINEL" Bundle.listD A s s.heap) (hS : va_S A s.heap H locs) (hsize : ls.size = c.maxLocals)
    (d0 : decode cc pc = .ok (.new ik, 3)) (d3 : decode cc (pc + 3) = .ok (.dup, 1)) (d4 : decode cc (pc + 4) = .ok (.ldc_w is, 3)) (d7 : decode cc (pc + 7) = .ok (.invokespecial ic, 3)) (d10 : decode cc (pc + 10) = .ok (.athrow, 1))
    (hout : ∀ x ∈ c.exceptionTable.toList, covers x (pc + 10) = false)
    (hRframes : names.length + 3 < R.frames) (hRlocals : (rest.map fun v => v.category).sum + (13 * (names.length + 1) + 43) ≤ R.locals) (hRcells : cells + 1 ≤ R.cells) (hRslots : slots + 6 ≤ R.slots) (hlocks : meth.locks = false)
    (hx : ∀ t : State, s.vm.Alike t.vm → H.size ≤ t.heap.size → (∀ q : Nat, q < H.size → t.heap[q]? = H[q]?) → XC cls s t)
    (hf : ∀ z ∈ locs, free z.base) (hc : cells + 1 ≤ mc) (hs : slots + 6 ≤ ms) :
    W p l e R s m args below meth c H locs cells slots (vx_MQ below Qc XC args s mc ms free) (F0 m pc ls rest) := by
  intro T hT X
  have htr : e.platform.stackTraces = false := (show e.platform.stackTraces = l.stackTraces by rw [X.admits.platform]).trans hl
  have Y := vx_rebase X (R' := { frames := R.frames, locals := R.locals, cells := 1, slots := 6 }) (Nat.le_refl _) (Nat.le_refl _) hRcells hRslots
  obtain ⟨s', hA⟩ : ∃ z, z = (T.setVm s.vm).setFrames (.invoking m args :: below) := ⟨_, rfl⟩
  rw [← hA] at Y
  have hvm : s'.vm = s.vm := by rw [hA]; rfl
  have hhp : s'.heap = H := by rw [hA]; exact hT
  have hW0 : s.WarmedH s'.vm := by rw [hvm]; exact State.WarmedH.refl s
  have hat' : ∀ w ∈ vx_atS own ic cls names, w.before args s' = true := fun w hw => vx_ot_at hW0 hvm.symm (hgood w (List.mem_cons_of_mem _ (List.mem_cons_of_mem _ hw))) (hat w hw)
  have hk' : (Cond.classLink own ik cls).before args s' = true := vx_ot_at hW0 hvm.symm (hgood _ List.mem_cons_self) hk
  have hini' : (Cond.initialized cls).before args s' = true := vx_ot_at hW0 hvm.symm (hgood _ (List.mem_cons_of_mem _ List.mem_cons_self)) hini
  have hU' : vx_Zq Bundle.tN "UNASSIGNED_STACK" Bundle.steD A s' s'.heap := by rw [hhp]; exact vx_Zq.moved hW0.alike (hU.kept hS.2.1)
  have hN' : vx_Zq Bundle.tN "SUPPRESSED_SENTINEL" Bundle.listD A s' s'.heap := by rw [hhp]; exact vx_Zq.moved hW0.alike (hN.kept hS.2.1)
  have h : ∀ w ∈ Bundle.ownAtoms own ic cls names, w.before args s' = true := vx_own hat' (vx_isRefq hU'.1) (vx_isRefq hN'.1) hU'.2.word hN'.2.word
  have hown' : s'.vm.findClass own = some m.cls := by rw [hvm]; exact hown
  have hins : (Cond.instantiable cls 6).before args s' = true := h _ (by simp [Bundle.ownAtoms])
  obtain ⟨vm₁, cX, kX, hfX, hkX, -, -, X₁, st1⟩ := Y.newCold hexec (own := own) (C := cls) (index := ik) (n := 6) hown' hk' hins hini'
    (g := F0 m pc ls rest) rfl (by rw [hb]; exact d0) (Nat.le_refl _) (Nat.le_refl _)
  generalize hT1 : (T.setVm vm₁).pushCell { cls := cX, slots := kX.instanceTypes.map defaultValue, vm := .none } = T1 at X₁ st1
  have hcat : (Value.ref T.heap.size).category = 1 := rfl
  have hcellA : T1.heap[T.heap.size]? = some (freshCell cX kX) := by rw [← hT1]; exact State.heap_pushCell_size _ _
  have d3' : decode c.code (pc + 3) = .ok (.dup, 1) := by rw [hb]; exact d3
  have d4' : decode c.code (pc + 4) = .ok (.ldc_w is, 3) := by rw [hb]; exact d4
  have hstr' : vk_R own is text sa s' := vk_R.warm hW0 hstr
  obtain ⟨U, hsteps, hrun, hend, hW, hsame, ce, hce, hO⟩ := X₁.ctorThrowS hexec htr (own := own) (cls := cls) (names := names) (ic := ic) hown' hcls hnames h (fun x hx => nomatch hx) hfX hkX hcellA (by rw [hhp, hT]; exact Nat.le_refl _) (msg := .ref sa) rfl
    (g := { method := m, pc := pc + 7, locals := ls, stack := .ref sa :: .ref T.heap.size :: .ref T.heap.size :: rest, locked := none }) rfl hsize rfl rfl (rest := rest) rfl
    (by rw [hb]; exact d7) (by rw [hb]; exact d10) hout hRframes (by simp only [List.map_cons, List.sum_cons, hcat]; omega) hlocks
  obtain ⟨f1, f2⟩ := vx_frame hsame
  rw [hhp] at f1 f2
  have hWs : s.WarmedH U.vm := State.WarmedH.trans hW0 hW
  have hcl : s.vm.findClass cls = some ce.cls := by
    have h9 := hO.cls
    rw [hvm] at h9
    exact h9
  have hall : s.sameButNew ({ U with vm := s.vm } : State) locs mc ms := by
    subst hA
    obtain ⟨e1, e2⟩ := hsame
    rw [State.setFrames_setFrames] at e1
    have h2 : (T.setVm s.vm).sameButNew ({ U with vm := s.vm } : State) [] (0 + 1) (0 + 6) := ⟨e1, e2⟩
    have h3 := X.same.trans h2
    rw [List.append_nil] at h3
    exact h3.mono hc hs
  refine ⟨U, ?_, .threw T.heap.size, hrun, hend, Or.inr ⟨T.heap.size, rfl, cls, ce, locs, hx U hWs.alike f1 (fun q hq => f2 q hq (fun z hz => nomatch hz)), hce, hO.vm, hcl, hWs, hall, hf⟩⟩
  refine st1 _ ?_
  show Steps p.tables e below (T1.setTop { method := m, pc := pc + 3, locals := ls, stack := .ref T.heap.size :: rest, locked := none }) _
  jvm_step X₁.here [X₁.here.top, hexec, d3', Value.category]
  exact X₁.ldcStringW hexec (own := own) (text := text) (index := is) (a := sa) hown' hstr'.1 hstr'.2
    (g := { method := m, pc := pc + 4, locals := ls, stack := .ref T.heap.size :: .ref T.heap.size :: rest, locked := none }) rfl d4' _ hsteps
end Ends
section Bodies
variable {l : Launch}
theorem vx_ofW {y : MethodName} {ws ws' : List Cond} {rm : Room} {Pc : Array Value → State → Prop} {Qc : Array Value → State → Outcome → State → Prop} {XC : String → State → State → Prop} {mc ms : Nat} {free : Addr → Prop} {cc : ByteArray} {maxL : Nat} {ret : Option FieldType}
    (hy : plainName y.cls = true) (hw : ws = Cond.code y cc maxL ret :: ws')
    (body : ∀ p e s m args below meth c s₁, BodyLoose p l y (headSpec ws rm) cc maxL ret e s m args below meth c s₁ → c.maxLocals = maxL → (∀ x ∈ c.exceptionTable.toList, False) → Pc args s →
      W p l e (headSpec ws rm).room s m args below meth c s.heap [] 0 0 (vx_MQ below Qc XC args s mc ms free) (entryFrame m args maxL)) : vx_Met l y ws rm Pc Qc XC mc ms free := by
  refine MetFree.of_bodyS (code := cc) (maxLocals := maxL) (ret := ret) hy ?_ ?_
  · intro args s m h hn
    obtain ⟨meth, c, h1, h2, h3, h4, h5, h6, -, -⟩ := Cond.code_spec hn (atoms_spec (ws := ws) h _ (by rw [hw]; exact List.mem_cons_self))
    exact ⟨meth, c, h1, h2, h3, h4, h5, h6⟩
  · intro p e s m args below meth c s₁ B hml hP _
    have hh0 : s₁.heap = s.heap := by rw [B.state]; rfl
    have ht : ∀ x ∈ c.exceptionTable.toList, False := by
      obtain ⟨meth9, c9, h1, h2, -, -, -, -, h7, -⟩ := Cond.code_spec B.named (atoms_spec (ws := ws) B.pre _ (by rw [hw]; exact List.mem_cons_self))
      cases Option.some.inj (h1.symm.trans B.method)
      cases Option.some.inj (h2.symm.trans (Stand.of_body B).code)
      intro x hx
      rw [Array.isEmpty_iff.mp h7] at hx
      cases hx
    obtain ⟨t, a1, o, b1, b2, b3⟩ := body p e s m args below meth c s₁ B hml ht hP s₁ hh0 (Stand.of_body B)
    exact ⟨t, o, a1, b1, b2, b3⟩
/-- the table of a body with handlers -/
theorem vx_table {p : Program} {x y : MethodName} {S : Spec} {cc bytes : ByteArray} {maxL maxL' : Nat} {ret ret' : Option FieldType} {e : Env} {s s₁ : State} {m : MethodId} {args : Array Value} {below : List Frame} {meth : Method} {c : Code} {hh : List (Nat × Nat × Nat × Nat)}
    (B : BodyLoose p l y S cc maxL ret e s m args below meth c s₁) (h : (Cond.codeWith y bytes maxL' ret' hh).before args s = true) : c.exceptionTable.toList = tableOf hh := by
  obtain ⟨m9, meth9, c9, hn9, h1, h2, -, -, h6, -⟩ := Cond.codeWith_spec h
  cases Option.some.inj (hn9.symm.trans B.named)
  cases Option.some.inj (h1.symm.trans B.method)
  cases Option.some.inj (h2.symm.trans (Stand.of_body B).code)
  rw [← h6, table_eq]
end Bodies
end VXA
/-! ===== END ===== -/
/-! ===== BEGIN a static call of a method with an exception table ===== -/
section VXS
variable {p : Program} {l : Launch} {e : Env} {R : Room} {s : State} {m : MethodId} {args : Array Value} {below : List Frame} {meth : Method} {c : Code} {T : State} {H : Heap} {locs : List Loc} {cells slots : Nat}
abbrev vx_CSW (R : Room) (s : State) (args : Array Value) (own : String) (index : Nat) (y : MethodName) (bytes : ByteArray) (maxL : Nat) (ret : Option FieldType) (hh : List (Nat × Nat × Nat × Nat)) (ws : List Cond) (rm : Room) (mc ms n : Nat) : Prop :=
  (rm.cells = mc ∧ rm.slots = ms ∧ rm.frames + 1 ≤ R.frames ∧ 8 + (maxL + 11) + rm.locals ≤ R.locals ∧ (∀ w ∈ ws, ∀ (a' : Array Value) (U : State), s.WarmedH U.vm → w.before a' U = true) ∧ Cond.codeWith y bytes maxL ret hh ∈ ws) ∧
  (Cond.codeWith y bytes maxL ret hh).before args s = true ∧ (Cond.initialized y.cls).before args s = true ∧ (y.cls ≠ "java/lang/invoke/MethodHandle" ∧ y.cls ≠ "java/lang/invoke/VarHandle") ∧
  (∀ sig, parseMethodDescriptor y.desc = some sig → n = sig.parameters.length) ∧ (Cond.methodLink own index y).before args s = true ∧ (Cond.static y).before args s = true
theorem vx_cwSW {own : String} {index maxL mc ms : Nat} {y : MethodName} {bytes : ByteArray} {ret : Option FieldType} {hh : List (Nat × Nat × Nat × Nat)} {Ts ws ws' : List Cond} {rm : Room} (n : Nat) (ht : ∀ w ∈ Ts, w.before args s = true) (hT : GoodIn Ts (va_wsS own index y ws)) (hw : ws = Cond.codeWith y bytes maxL ret hh :: ws') (hrc : rm.cells = mc) (hrs : rm.slots = ms)
    (hd : y.cls ≠ "java/lang/invoke/MethodHandle" ∧ y.cls ≠ "java/lang/invoke/VarHandle" ∧ (parseMethodDescriptor y.desc).map (fun d => d.parameters.length) = some n) (hR : rm.frames + 1 ≤ R.frames ∧ 8 + (maxL + 11) + rm.locals ≤ R.locals) :
    vx_CSW R s args own index y bytes maxL ret hh ws rm mc ms n := by
  have ok : ∀ w ∈ va_wsS own index y ws, w.before args s = true := fun w h => ht w (hT w h).1
  have hG : GoodIn Ts ws := fun w h => hT w (by unfold va_wsS; exact List.mem_append_right _ h)
  have hc : Cond.codeWith y bytes maxL ret hh ∈ ws := by rw [hw]; exact List.mem_cons_self
  refine ⟨⟨hrc, hrs, hR.1, hR.2, pay_in ht hG, hc⟩, ht _ (hG _ hc).1, ok _ (by simp [va_wsS]), ⟨hd.1, hd.2.1⟩, fun sig h => ?_, ok _ (by simp [va_wsS]), ok _ (by simp [va_wsS])⟩
  have h2 := hd.2.2
  rw [h] at h2
  exact (Option.some.inj h2).symm
theorem vx_callSW (X : Stand p l e R s m args below meth c T locs cells slots) (hexec : p.tables.exec = Jvm.exec) {own : String} {index : Nat} {y : MethodName} {bytes : ByteArray} {maxL : Nat} {ret : Option FieldType} {hh : List (Nat × Nat × Nat × Nat)}
    (hown : s.vm.findClass own = some m.cls) (hlink : (Cond.methodLink own index y).before args s = true) (hstat : (Cond.static y).before args s = true) (hinit : (Cond.initialized y.cls).before args s = true)
    (hcode : (Cond.codeWith y bytes maxL ret hh).before args s = true) (hy : y.cls ≠ "java/lang/invoke/MethodHandle" ∧ y.cls ≠ "java/lang/invoke/VarHandle")
    {W9 : Nat} {Pre : Pt → Array Value → Prop} {Post : Pt → Array Value → Option Value → Pt → Prop} (hK : Back l R p e below s args y 3 W9 Pre Post)
    {g : JFrame} (hg : g.method = m) (hsize : g.locals.size = c.maxLocals) {argsL rest : List Value} (hlen : ∀ sig, parseMethodDescriptor y.desc = some sig → argsL.length = sig.parameters.length)
    (hstack : g.stack = argsL.reverse ++ rest) (hW : 2 * g.monitorRoom + (rest.map fun v => v.category).sum ≤ W9) (hdg : decode c.code g.pc = .ok (.invokestatic index, 3))
    (hpre : ∀ vm₁, s.WarmedH vm₁ → Pre ⟨T.setVm vm₁, locs, cells, slots⟩ argsL.toArray) :
    ∃ (v : Option Value) (vm₁ : Vm) (B : Pt), s.WarmedH vm₁ ∧ Stand p l e R s m args below meth c B.U B.locs B.cells B.slots ∧ Post ⟨T.setVm vm₁, locs, cells, slots⟩ argsL.toArray v B ∧
      ∀ target, Steps p.tables e below (B.U.setTop { g with pc := g.pc + 3, stack := v.toList ++ rest }) target → Steps p.tables e below (T.setTop g) target := by
  obtain ⟨mk, methM, cM, hnamed, hmethM, -, -, -, -, -, -, hsigM⟩ := Cond.codeWith_spec hcode
  have hstatic : methM.isStatic = true := Cond.static_spec hnamed hmethM hstat
  obtain ⟨kP, hkP, -⟩ := className_of_methodNamed hnamed
  have hinitP : kP.init = .initialized := Cond.initialized_spec (findClass_of_methodNamed hnamed) hkP hinit
  obtain ⟨vm₁, X₁, hstep₁⟩ := X.invokestatic hexec hown hlink hnamed hmethM hstatic hkP hinitP hy (g := g) hg (argsL := argsL) (rest := rest) (hlen _ hsigM) hstack hdg
  obtain ⟨v, B, X', hpost, hsteps⟩ := hK m meth c ⟨T.setVm vm₁, locs, cells, slots⟩ { g with stack := rest } (.invokestatic index) mk argsL.toArray X₁ hg hsize hdg hW (X₁.named hnamed) (hpre vm₁ X₁.warmed)
  exact ⟨v, vm₁, B, X₁.warmed, X', hpost, fun target h => hstep₁ _ fun acts => by rw [doInvoke_state]; exact hsteps.trans h⟩
theorem vx_runSW {y : MethodName} {bytes cc : ByteArray} {maxL nL mc ms n index : Nat} {ret : Option FieldType} {hh : List (Nat × Nat × Nat × Nat)} {ws : List Cond} {rm : Room} {Pc : Array Value → State → Prop} {Qc : Array Value → State → Outcome → State → Prop} {free : Addr → Prop} {Ts : List Cond} {own : String} {As rest : List Value} {g : JFrame}
    (S : CallFix p m c cc nL s args Ts own) (hM : Met l y ws rm Pc Qc mc ms free) (cw : vx_CSW R s args own index y bytes maxL ret hh ws rm mc ms n) (hp : PreS s H Pc As)
    (hg : g.method = m) (hn : As.length = n) (hsize : g.locals.size = nL) (hstack : g.stack = As.reverse ++ rest) (hW : 2 * g.monitorRoom + (rest.map fun v => v.category).sum ≤ 8) (hdg : decode cc g.pc = .ok (.invokestatic index, 3)) (hf : cells + mc ≤ R.cells ∧ slots + ms ≤ R.slots) :
    va_Run p l e R s m args below meth c H locs cells slots mc ms g rest (Qc As.toArray) (free) := by
  obtain ⟨⟨hrc, hrs, hfr, hlo, hws, hcw⟩, hcode, hini, hy, hlen, hl, hstt⟩ := cw
  have hK : Back l R p e below s args y 3 8 (PreOf R mc ms Pc) (PostOf Qc mc ms free) := va_backW (hh := hh) (bytes := bytes) (maxL := maxL) (ret := ret) hM hp.1 hrc hrs hfr hlo hws hcw (fun a' U hW => word_at hW (Or.inl (by first | rfl | simp [Cond.onTables, Cond.keeps, Cond.steady])) hini)
  obtain ⟨hx, hb, hml, ho, -⟩ := S
  intro T hT X
  obtain ⟨v, vm₁, ⟨U', l2, c2, s2⟩, hW₁, X', ⟨g', mk, t, L, e1, e2, hq, h1, hL, h2, h3⟩, st⟩ := vx_callSW X hx (hh := hh) (bytes := bytes) (maxL := maxL) (ret := ret) ho hl hstt hini hcode hy hK hg (hsize.trans hml.symm) (argsL := As) (rest := rest) (fun sig h => hn.trans (hlen sig h)) hstack hW (by rw [hb]; exact hdg)
    (fun vm₁ hW₁ => ⟨hf.1, hf.2, hp.2 (T.setVm vm₁) hT hW₁⟩)
  dsimp only [Pt.U, Pt.locs, Pt.cells, Pt.slots] at X' e1 e2 h1 h2 h3 st
  subst h1; subst h2; subst h3
  exact ⟨v, (T.setVm vm₁).calling g' mk As.toArray, t, U', L, hT, X', hL, e1, e2, hq, st⟩
/-- not caught here, past rows that name other classes: it goes on to the caller -/
theorem vx_outP {p : Program} {l : Launch} {e : Env} {R : Room} {s : State} {m : MethodId} {args : Array Value} {below : List Frame} {meth : Method} {c : Code} {H : Heap} {locs : List Loc} {cells slots : Nat} {free : Addr → Prop} {ls : Array Slot} {rest : List Value} {Qc : Array Value → State → Outcome → State → Prop} {XC : String → State → State → Prop}
    {pc : Nat} {own E : String} {ce : Cell} {q : Addr} {mc ms : Nat} (hown : s.vm.findClass own = some m.cls) (hlocks : meth.locks = false)
    (hpass : ∀ z ∈ c.exceptionTable.toList, covers z pc = false ∨ (z.catchType ≠ 0 ∧ ∃ nm : String, (Cond.classLink own z.catchType nm).before args s = true ∧ va_Nc E nm s)) (hcell : H[q]? = some ce) (hv : ce.vm = .none) (hcl : s.vm.findClass E = some ce.cls)
    (hx : ∀ t : State, t.heap = H → s.vm.Alike t.vm → XC E s t) (hf : ∀ z ∈ locs, free z.base) (hc : cells ≤ mc) (hs : slots ≤ ms) :
    vx_W p l e R s m args below meth c H locs cells slots (vx_MQ below Qc XC args s mc ms free) (F0 m pc ls rest) q := by
  intro T hT X
  have hpl : e.platform.magicAccessors = ({} : Platform).magicAccessors := by rw [X.admits.platform]
  obtain ⟨vm', hW', X', st⟩ := X.outThrough hlocks q (g := F0 m pc ls rest) rfl rfl rfl (cell := ce) (by rw [hT]; exact hcell) (by rw [hv]; rfl)
    (by obtain ⟨k9, h9, -⟩ := Vm.findClass_spec hcl; exact ⟨k9, h9⟩) (fun z hz => by
      rcases hpass z hz with h | ⟨hz0, nm, hl1, hn1⟩
      · exact Or.inl h
      · obtain ⟨c6, hc6, hcl6⟩ := Cond.classLink_spec hown hl1 e.platform hpl
        obtain ⟨a8, b8, h1, h2, h3⟩ := hn1
        cases Option.some.inj (h1.symm.trans hcl)
        cases Option.some.inj (h2.symm.trans hc6)
        exact Or.inr ⟨hz0, _, hcl6, h3⟩)
  obtain ⟨g₀, hfr⟩ := X'.frames_eq
  have hcell9 : ((T.setVm vm').setFrames (.throwing q :: below)).heap[q]? = some ce := by
    show T.heap[q]? = some ce
    rw [hT]; exact hcell
  have hend : Ended ((T.setVm vm').setFrames (.throwing q :: below)) below (.threw q) := State.frames_setFrames _ (State.cur_lt_of_frames hfr)
  refine ⟨(T.setVm vm').setFrames (.throwing q :: below), ?_, .threw q, X'.here.running, hend, Or.inr ⟨q, rfl, E, ce, locs, hx _ hT (X'.ends _).1.alike, hcell9, hv, hcl, (X'.ends _).1, (X'.ends _).2.mono hc hs, hf⟩⟩
  rw [X.pushThrowing_eq]
  exact st
/-- a thing of a world lies in the heap -/
theorem vx_lt {D : va_G} {cl : List vw_C} {ws : va_W} {H1 : Heap} (h : va_P D cl ws H1) {k : Nat} {q : Nat × va_E} (hk : ws[k]? = some q) : q.1 < H1.size := (h k q hk).lt
end VXS
/-! ===== END ===== -/
/-! ===== BEGIN methods with a table of their own: called by a name, returning or throwing ===== -/
section VXH
/-! vx_backW, vx_callVX, vx_callSX, vx_callVW, vx_runVW, vx_runVX, vx_runSX, vx_ofWH follow the same proofs as their sisters above (Free/Laws.lean, Shelf42/LK1.lean); vx_outP calls Shelf42/NT130.lean (outThrough). -/
section
variable {l : Launch} {R : Room} {p : Program} {e : Env} {below : List Frame} {s : State} {sargs : Array Value} {y : MethodName} {len W9 : Nat}
theorem vx_backW {ws : List Cond} {rm : Room} {Pc : Array Value → State → Prop} {Qc : Array Value → State → Outcome → State → Prop} {XC : String → State → State → Prop} {mc ms : Nat} {free : Addr → Prop} {bytes : ByteArray} {maxL : Nat} {ret : Option FieldType} {hh : List (Nat × Nat × Nat × Nat)}
    (hM : vx_Met l y ws rm Pc Qc XC mc ms free) (hblind : FrameBlind Pc) (hrc : rm.cells = mc) (hrs : rm.slots = ms)
    (hframes : rm.frames + 1 ≤ R.frames) (hlocals : W9 + (maxL + 11) + rm.locals ≤ R.locals)
    (hws : ∀ w ∈ ws, ∀ a' U, s.WarmedH U.vm → w.before a' U = true) (hcode : Cond.codeWith y bytes maxL ret hh ∈ ws) (hinit : ∀ a' U, s.WarmedH U.vm → (Cond.initialized y.cls).before a' U = true) :
    vx_Back l R p e below s sargs y len W9 (PreOf R mc ms Pc) (PostOf Qc mc ms free) (vx_Post XC mc ms free) := by
  intro m meth c A g ig mk a X hg hsize hdg hW hn hp
  have h1 : (headSpec ws rm).pre.before a A.U = true := atoms_intro fun w hw => hws w hw _ _ X.warmed
  have h2 : (Cond.codeWith y bytes maxL ret hh).before a A.U = true := hws _ hcode _ _ X.warmed
  have h3 : (Cond.initialized y.cls).before a A.U = true := hinit _ _ X.warmed
  have h4 : A.cells + (headSpec ws rm).room.cells ≤ R.cells := by rw [show (headSpec ws rm).room.cells = mc from hrc]; exact hp.1
  have h5 : A.slots + (headSpec ws rm).room.slots ≤ R.slots := by rw [show (headSpec ws rm).room.slots = ms from hrs]; exact hp.2.1
  have hPc : Pc a (A.U.calling g mk a) := hblind _ _ _ _ hp.2.2
  obtain ⟨U, Ls, c0, s0⟩ := A
  dsimp only [Pt.U, Pt.locs, Pt.cells, Pt.slots] at h1 h2 h3 h4 h5 X hn hPc ⊢
  obtain ⟨m9, methY, cY, hn9, hmY, hcY, -, hlY, -⟩ := Cond.codeWith_spec h2
  cases Option.some.inj (hn9.symm.trans hn)
  obtain ⟨kY, hkY, -⟩ := className_of_methodNamed hn
  have hinitY : kY.init = .initialized := Cond.initialized_spec (findClass_of_methodNamed hn) hkY h3
  have h : At U g.method c below := by rw [hg]; exact X.here
  have hlocals9 : W9 + (maxL + 11) + (headSpec ws rm).room.locals ≤ R.locals := hlocals
  have happ : (headSpec ws rm).appliesLoose y e.platform (U.calling g mk a) = true :=
    Spec.appliesLoose_calling (g := g) h hdg hn hkY hinitY
      (X.room_calling (g := g) (R' := (headSpec ws rm).room) hsize hmY hcY hframes (by rw [hlY]; omega) h4 h5) h1
  obtain ⟨mid, hmid⟩ := h.above
  have hfr : (U.setTop g).frames = (.java g :: mid) ++ below := by rw [State.frames_setTop' g h.top, hmid]; rfl
  obtain ⟨o, s₂, hsteps, -, hend, hq⟩ := Steps.callFree hM p X.admits X.cas X.clock (acts := []) hfr happ hPc trivial
  have hq' : vx_Q Qc XC mc ms free a (U.calling g mk a) o s₂ := hq
  rw [State.frames_setTop' g h.top] at hend
  obtain ⟨g₀, hg0⟩ := Option.isSome_iff_exists.mp h.top
  obtain ⟨r, hr⟩ := State.topJava?_eq_some.mp hg0
  have hr' : (({ U with heap := s₂.heap, slotsUsed := s₂.slotsUsed } : State).setVm s₂.vm).frames = .java g₀ :: r := hr
  rcases hq' with ⟨hqc, L, hfe, hL⟩ | ⟨q, rfl, E, ce, L, hx, hce, hcv, hcl, hW₂, hsm, hL⟩
  · obtain ⟨⟨v, rfl⟩, hW₂, e2, q2, q3, q4, q5, q6⟩ := id hfe
    have e3 : s₂ = ({ (U.calling g mk a).setFrames s₂.frames with heap := s₂.heap, slotsUsed := s₂.slotsUsed } : State).setVm s₂.vm := by
      have : s₂ = ({ s₂ with vm := (U.calling g mk a).vm } : State).setVm s₂.vm := rfl
      rw [e2] at this
      exact this
    obtain ⟨c₂, i₂, len₂, hc₂, hd₂, hf₂⟩ := hend
    have hW' : U.WarmedH s₂.vm := hW₂
    have hcc : c₂ = c := by
      have h1 : s₂.code? g.method = U.code? g.method := by
        rw [State.code?_eq, State.code?_eq, hW'.alike.method?]
      exact Option.some.inj (hc₂.symm.trans (h1.trans h.code))
    subst hcc
    have hlen : len₂ = len := by rw [hdg] at hd₂; cases hd₂; rfl
    subst hlen
    have hs₂ : s₂ = (({ U with heap := s₂.heap, slotsUsed := s₂.slotsUsed } : State).setVm s₂.vm).setTop { g with pc := g.pc + len₂, stack := v.toList ++ g.stack } := by
      refine e3.trans ?_
      rw [hf₂, State.calling_eq h.top, State.setFrames_setFrames, State.setTop_of_frames _ hr', hr]
      rfl
    have hsame : U.sameButNew ({ U with heap := s₂.heap, slotsUsed := s₂.slotsUsed } : State) L mc ms := by
      refine ⟨?_, q2, q3, q4, q5, q6⟩
      obtain ⟨t, ht, -⟩ := State.frames_cons hr
      show ({ U with heap := s₂.heap, slotsUsed := s₂.slotsUsed } : State) = { U.setFrames U.frames with heap := s₂.heap, slotsUsed := s₂.slotsUsed }
      rw [State.setFrames_self ht]
    subst hg
    refine Or.inl ⟨v, ⟨(({ U with heap := s₂.heap, slotsUsed := s₂.slotsUsed } : State).setVm s₂.vm), Ls ++ L, c0 + mc, s0 + ms⟩,
      ⟨X.admits, X.cas, X.clock, X.frames, X.room, X.hears, X.method, X.code, (X.here.setHeapUsed s₂.heap s₂.slotsUsed).setVm hW'.alike, X.tail, State.WarmedH.trans X.warmed hW', X.limits, X.bytes, X.same.trans (hsame.setVm s.vm)⟩,
      ⟨g, mk, s₂, L, rfl, rfl, hqc, rfl, hL, rfl, rfl⟩, ?_⟩
    show Steps p.tables e below _ ((({ U with heap := s₂.heap, slotsUsed := s₂.slotsUsed } : State).setVm s₂.vm).setTop { g with pc := g.pc + len₂, stack := v.toList ++ g.stack })
    rw [← hs₂]
    exact hsteps
  · obtain ⟨e2, q2, q3, q4, q5, q6⟩ := id hsm
    have e3 : s₂ = ({ (U.calling g mk a).setFrames s₂.frames with heap := s₂.heap, slotsUsed := s₂.slotsUsed } : State).setVm s₂.vm := by
      have : s₂ = ({ s₂ with vm := (U.calling g mk a).vm } : State).setVm s₂.vm := rfl
      rw [e2] at this
      exact this
    have hf₂ : s₂.frames = .throwing q :: .java g :: U.frames.tail := hend
    have hW' : U.WarmedH s₂.vm := hW₂
    have hs₂ : s₂ = ((({ U with heap := s₂.heap, slotsUsed := s₂.slotsUsed } : State).setVm s₂.vm).setTop g).pushFrame (.throwing q) := by
      refine e3.trans ?_
      rw [hf₂, State.calling_eq h.top, State.setFrames_setFrames, State.pushFrame, State.frames_setTop _ hr', State.setTop_of_frames _ hr', State.setFrames_setFrames, hr]
      rfl
    have hsame : U.sameButNew ({ U with heap := s₂.heap, slotsUsed := s₂.slotsUsed } : State) L mc ms := by
      refine ⟨?_, q2, q3, q4, q5, q6⟩
      obtain ⟨t, ht, -⟩ := State.frames_cons hr
      show ({ U with heap := s₂.heap, slotsUsed := s₂.slotsUsed } : State) = { U.setFrames U.frames with heap := s₂.heap, slotsUsed := s₂.slotsUsed }
      rw [State.setFrames_self ht]
    subst hg
    refine Or.inr ⟨q, ⟨(({ U with heap := s₂.heap, slotsUsed := s₂.slotsUsed } : State).setVm s₂.vm), Ls ++ L, c0 + mc, s0 + ms⟩,
      ⟨X.admits, X.cas, X.clock, X.frames, X.room, X.hears, X.method, X.code, (X.here.setHeapUsed s₂.heap s₂.slotsUsed).setVm hW'.alike, X.tail, State.WarmedH.trans X.warmed hW', X.limits, X.bytes, X.same.trans (hsame.setVm s.vm)⟩,
      ⟨g, mk, s₂, L, E, ce, rfl, rfl, hx, hce, hcv, hcl, rfl, hL, rfl, rfl⟩, ?_⟩
    show Steps p.tables e below _ (((({ U with heap := s₂.heap, slotsUsed := s₂.slotsUsed } : State).setVm s₂.vm).setTop g).pushFrame (.throwing q))
    rw [← hs₂]
    exact hsteps
end
variable {p : Program} {l : Launch} {e : Env} {R : Room} {s : State} {m : MethodId} {args : Array Value} {below : List Frame} {meth : Method} {c : Code} {T : State} {H : Heap} {locs : List Loc} {cells slots : Nat}
theorem vx_callVX (X : Stand p l e R s m args below meth c T locs cells slots) (hexec : p.tables.exec = Jvm.exec) {own C : String} {index : Nat} {y : MethodName} {bytes : ByteArray} {maxL : Nat} {ret : Option FieldType} {hh : List (Nat × Nat × Nat × Nat)}
    (hown : s.vm.findClass own = some m.cls) (hlink : (Cond.methodLink own index y).before args s = true) (hinst : (Cond.instanceMethod y).before args s = true) (hsel : (Cond.selects C y y).before args s = true)
    (hcode : (Cond.codeWith y bytes maxL ret hh).before args s = true) (hy : y.cls ≠ "java/lang/invoke/MethodHandle" ∧ y.cls ≠ "java/lang/invoke/VarHandle")
    {W9 : Nat} {Pre : Pt → Array Value → Prop} {Post : Pt → Array Value → Option Value → Pt → Prop} {PostX : Pt → Array Value → Addr → Pt → Prop} (hK : vx_Back l R p e below s args y 3 W9 Pre Post PostX)
    {b : Addr} {cellB : Cell} (hcell : T.heap[b]? = some cellB) (hobj : cellB.vm.isStatics = false) (hcls : s.vm.findClass C = some cellB.cls)
    {g : JFrame} (hg : g.method = m) (hsize : g.locals.size = c.maxLocals) {argsL rest : List Value} (hlen : ∀ sig, parseMethodDescriptor y.desc = some sig → argsL.length = sig.parameters.length)
    (hstack : g.stack = argsL.reverse ++ .ref b :: rest) (hW : 2 * g.monitorRoom + (rest.map fun v => v.category).sum ≤ W9) (hdg : decode c.code g.pc = .ok (.invokevirtual index, 3))
    (hpre : ∀ vm₁, s.WarmedH vm₁ → Pre ⟨T.setVm vm₁, locs, cells, slots⟩ (Value.ref b :: argsL).toArray) :
    (∃ (v : Option Value) (vm₁ : Vm) (B : Pt), s.WarmedH vm₁ ∧ Stand p l e R s m args below meth c B.U B.locs B.cells B.slots ∧ Post ⟨T.setVm vm₁, locs, cells, slots⟩ (Value.ref b :: argsL).toArray v B ∧
      ∀ target, Steps p.tables e below (B.U.setTop { g with pc := g.pc + 3, stack := v.toList ++ rest }) target → Steps p.tables e below (T.setTop g) target) ∨
    (∃ (q : Addr) (vm₁ : Vm) (B : Pt), s.WarmedH vm₁ ∧ Stand p l e R s m args below meth c B.U B.locs B.cells B.slots ∧ PostX ⟨T.setVm vm₁, locs, cells, slots⟩ (Value.ref b :: argsL).toArray q B ∧
      Steps p.tables e below (T.setTop g) ((B.U.setTop { g with stack := rest }).pushFrame (.throwing q))) := by
  obtain ⟨mk, methM, hnamed, hmethM, hstM, habM⟩ := Cond.instanceMethod_spec hinst
  obtain ⟨m8, methM', cM, hn8, hmethM', -, -, -, -, -, -, hsigM⟩ := Cond.codeWith_spec hcode
  cases Option.some.inj (hn8.symm.trans hnamed)
  cases hmethM.symm.trans hmethM'
  obtain ⟨c2, r2, m2, q1, q2, q3, q4, kP, hkP, hkPi⟩ := Cond.selects_spec hsel
  cases hcls.symm.trans q1
  cases (State.methodFound?_of_named hnamed hy).symm.trans q2
  cases hnamed.symm.trans q3
  have hselP : selectMethod e.platform s.vm cellB.cls mk = .method mk := by rw [Launch.admits_selectMethod X.admits]; exact q4
  obtain ⟨vm₁, X₁, hstep₁⟩ := X.invokevirtual hexec hown hlink hnamed hmethM hstM hkP hkPi hy (a := b) (cell := cellB) hcell
    (fun z h => by rw [h] at hobj; cases hobj) hselP hmethM habM hkP hkPi (g := g) hg (argsL := argsL) (rest := rest) (hlen _ hsigM) hstack hdg
  rcases hK m meth c ⟨T.setVm vm₁, locs, cells, slots⟩ { g with stack := rest } (.invokevirtual index) mk (Value.ref b :: argsL).toArray X₁ hg hsize hdg hW (X₁.named hnamed) (hpre vm₁ X₁.warmed) with ⟨v, B, X', hpost, hsteps⟩ | ⟨q, B, X', hpost, hsteps⟩
  · exact Or.inl ⟨v, vm₁, B, X₁.warmed, X', hpost, fun target h => hstep₁ _ fun acts => by rw [doInvoke_state]; exact hsteps.trans h⟩
  · exact Or.inr ⟨q, vm₁, B, X₁.warmed, X', hpost, hstep₁ _ fun acts => by rw [doInvoke_state]; exact hsteps⟩
theorem vx_callSX (X : Stand p l e R s m args below meth c T locs cells slots) (hexec : p.tables.exec = Jvm.exec) {own : String} {index : Nat} {y : MethodName} {bytes : ByteArray} {maxL : Nat} {ret : Option FieldType} {hh : List (Nat × Nat × Nat × Nat)}
    (hown : s.vm.findClass own = some m.cls) (hlink : (Cond.methodLink own index y).before args s = true) (hstat : (Cond.static y).before args s = true) (hinit : (Cond.initialized y.cls).before args s = true)
    (hcode : (Cond.codeWith y bytes maxL ret hh).before args s = true) (hy : y.cls ≠ "java/lang/invoke/MethodHandle" ∧ y.cls ≠ "java/lang/invoke/VarHandle")
    {W9 : Nat} {Pre : Pt → Array Value → Prop} {Post : Pt → Array Value → Option Value → Pt → Prop} {PostX : Pt → Array Value → Addr → Pt → Prop} (hK : vx_Back l R p e below s args y 3 W9 Pre Post PostX)
    {g : JFrame} (hg : g.method = m) (hsize : g.locals.size = c.maxLocals) {argsL rest : List Value} (hlen : ∀ sig, parseMethodDescriptor y.desc = some sig → argsL.length = sig.parameters.length)
    (hstack : g.stack = argsL.reverse ++ rest) (hW : 2 * g.monitorRoom + (rest.map fun v => v.category).sum ≤ W9) (hdg : decode c.code g.pc = .ok (.invokestatic index, 3))
    (hpre : ∀ vm₁, s.WarmedH vm₁ → Pre ⟨T.setVm vm₁, locs, cells, slots⟩ argsL.toArray) :
    (∃ (v : Option Value) (vm₁ : Vm) (B : Pt), s.WarmedH vm₁ ∧ Stand p l e R s m args below meth c B.U B.locs B.cells B.slots ∧ Post ⟨T.setVm vm₁, locs, cells, slots⟩ argsL.toArray v B ∧
      ∀ target, Steps p.tables e below (B.U.setTop { g with pc := g.pc + 3, stack := v.toList ++ rest }) target → Steps p.tables e below (T.setTop g) target) ∨
    (∃ (q : Addr) (vm₁ : Vm) (B : Pt), s.WarmedH vm₁ ∧ Stand p l e R s m args below meth c B.U B.locs B.cells B.slots ∧ PostX ⟨T.setVm vm₁, locs, cells, slots⟩ argsL.toArray q B ∧
      Steps p.tables e below (T.setTop g) ((B.U.setTop { g with stack := rest }).pushFrame (.throwing q))) := by
  obtain ⟨mk, methM, cM, hnamed, hmethM, -, -, -, -, -, -, hsigM⟩ := Cond.codeWith_spec hcode
  have hstatic : methM.isStatic = true := Cond.static_spec hnamed hmethM hstat
  obtain ⟨kP, hkP, -⟩ := className_of_methodNamed hnamed
  have hinitP : kP.init = .initialized := Cond.initialized_spec (findClass_of_methodNamed hnamed) hkP hinit
  obtain ⟨vm₁, X₁, hstep₁⟩ := X.invokestatic hexec hown hlink hnamed hmethM hstatic hkP hinitP hy (g := g) hg (argsL := argsL) (rest := rest) (hlen _ hsigM) hstack hdg
  rcases hK m meth c ⟨T.setVm vm₁, locs, cells, slots⟩ { g with stack := rest } (.invokestatic index) mk argsL.toArray X₁ hg hsize hdg hW (X₁.named hnamed) (hpre vm₁ X₁.warmed) with ⟨v, B, X', hpost, hsteps⟩ | ⟨q, B, X', hpost, hsteps⟩
  · exact Or.inl ⟨v, vm₁, B, X₁.warmed, X', hpost, fun target h => hstep₁ _ fun acts => by rw [doInvoke_state]; exact hsteps.trans h⟩
  · exact Or.inr ⟨q, vm₁, B, X₁.warmed, X', hpost, hstep₁ _ fun acts => by rw [doInvoke_state]; exact hsteps⟩
theorem vx_callVW (X : Stand p l e R s m args below meth c T locs cells slots) (hexec : p.tables.exec = Jvm.exec) {own C : String} {index : Nat} {y : MethodName} {bytes : ByteArray} {maxL : Nat} {ret : Option FieldType} {hh : List (Nat × Nat × Nat × Nat)}
    (hown : s.vm.findClass own = some m.cls) (hlink : (Cond.methodLink own index y).before args s = true) (hinst : (Cond.instanceMethod y).before args s = true) (hsel : (Cond.selects C y y).before args s = true)
    (hcode : (Cond.codeWith y bytes maxL ret hh).before args s = true) (hy : y.cls ≠ "java/lang/invoke/MethodHandle" ∧ y.cls ≠ "java/lang/invoke/VarHandle")
    {W9 : Nat} {Pre : Pt → Array Value → Prop} {Post : Pt → Array Value → Option Value → Pt → Prop} (hK : Back l R p e below s args y 3 W9 Pre Post)
    {b : Addr} {cellB : Cell} (hcell : T.heap[b]? = some cellB) (hobj : cellB.vm.isStatics = false) (hcls : s.vm.findClass C = some cellB.cls)
    {g : JFrame} (hg : g.method = m) (hsize : g.locals.size = c.maxLocals) {argsL rest : List Value} (hlen : ∀ sig, parseMethodDescriptor y.desc = some sig → argsL.length = sig.parameters.length)
    (hstack : g.stack = argsL.reverse ++ .ref b :: rest) (hW : 2 * g.monitorRoom + (rest.map fun v => v.category).sum ≤ W9) (hdg : decode c.code g.pc = .ok (.invokevirtual index, 3))
    (hpre : ∀ vm₁, s.WarmedH vm₁ → Pre ⟨T.setVm vm₁, locs, cells, slots⟩ (Value.ref b :: argsL).toArray) :
    ∃ (v : Option Value) (vm₁ : Vm) (B : Pt), s.WarmedH vm₁ ∧ Stand p l e R s m args below meth c B.U B.locs B.cells B.slots ∧ Post ⟨T.setVm vm₁, locs, cells, slots⟩ (Value.ref b :: argsL).toArray v B ∧
      ∀ target, Steps p.tables e below (B.U.setTop { g with pc := g.pc + 3, stack := v.toList ++ rest }) target → Steps p.tables e below (T.setTop g) target := by
  obtain ⟨mk, methM, hnamed, hmethM, hstM, habM⟩ := Cond.instanceMethod_spec hinst
  obtain ⟨m8, methM', cM, hn8, hmethM', -, -, -, -, -, -, hsigM⟩ := Cond.codeWith_spec hcode
  cases Option.some.inj (hn8.symm.trans hnamed)
  cases hmethM.symm.trans hmethM'
  obtain ⟨c2, r2, m2, q1, q2, q3, q4, kP, hkP, hkPi⟩ := Cond.selects_spec hsel
  cases hcls.symm.trans q1
  cases (State.methodFound?_of_named hnamed hy).symm.trans q2
  cases hnamed.symm.trans q3
  have hselP : selectMethod e.platform s.vm cellB.cls mk = .method mk := by rw [Launch.admits_selectMethod X.admits]; exact q4
  obtain ⟨vm₁, X₁, hstep₁⟩ := X.invokevirtual hexec hown hlink hnamed hmethM hstM hkP hkPi hy (a := b) (cell := cellB) hcell
    (fun z h => by rw [h] at hobj; cases hobj) hselP hmethM habM hkP hkPi (g := g) hg (argsL := argsL) (rest := rest) (hlen _ hsigM) hstack hdg
  obtain ⟨v, B, X', hpost, hsteps⟩ := hK m meth c ⟨T.setVm vm₁, locs, cells, slots⟩ { g with stack := rest } (.invokevirtual index) mk (Value.ref b :: argsL).toArray X₁ hg hsize hdg hW (X₁.named hnamed) (hpre vm₁ X₁.warmed)
  exact ⟨v, vm₁, B, X₁.warmed, X', hpost, fun target h => hstep₁ _ fun acts => by rw [doInvoke_state]; exact hsteps.trans h⟩
abbrev vx_CVW (R : Room) (s : State) (args : Array Value) (own C : String) (index : Nat) (y : MethodName) (bytes : ByteArray) (maxL : Nat) (ret : Option FieldType) (hh : List (Nat × Nat × Nat × Nat)) (ws : List Cond) (rm : Room) (mc ms n : Nat) : Prop :=
  (rm.cells = mc ∧ rm.slots = ms ∧ rm.frames + 1 ≤ R.frames ∧ 8 + (maxL + 11) + rm.locals ≤ R.locals ∧ (∀ w ∈ ws, ∀ (a' : Array Value) (U : State), s.WarmedH U.vm → w.before a' U = true) ∧ Cond.codeWith y bytes maxL ret hh ∈ ws) ∧
  (Cond.codeWith y bytes maxL ret hh).before args s = true ∧ (Cond.initialized y.cls).before args s = true ∧ (y.cls ≠ "java/lang/invoke/MethodHandle" ∧ y.cls ≠ "java/lang/invoke/VarHandle") ∧
  (∀ sig, parseMethodDescriptor y.desc = some sig → n = sig.parameters.length) ∧ (Cond.methodLink own index y).before args s = true ∧ (Cond.instanceMethod y).before args s = true ∧ (Cond.selects C y y).before args s = true
theorem vx_cwVW {own C : String} {index maxL mc ms : Nat} {y : MethodName} {bytes : ByteArray} {ret : Option FieldType} {hh : List (Nat × Nat × Nat × Nat)} {Ts ws ws' : List Cond} {rm : Room} (n : Nat) (ht : ∀ w ∈ Ts, w.before args s = true) (hT : GoodIn Ts (wsV own index C y ws)) (hw : ws = Cond.codeWith y bytes maxL ret hh :: ws') (hrc : rm.cells = mc) (hrs : rm.slots = ms)
    (hd : y.cls = C ∧ y.cls ≠ "java/lang/invoke/MethodHandle" ∧ y.cls ≠ "java/lang/invoke/VarHandle" ∧ (parseMethodDescriptor y.desc).map (fun d => d.parameters.length) = some n) (hR : rm.frames + 1 ≤ R.frames ∧ 8 + (maxL + 11) + rm.locals ≤ R.locals) :
    vx_CVW R s args own C index y bytes maxL ret hh ws rm mc ms n := by
  obtain ⟨hC, hd⟩ := hd
  subst hC
  have ok : ∀ w ∈ wsV own index y.cls y ws, w.before args s = true := fun w h => ht w (hT w h).1
  have hG : GoodIn Ts ws := fun w h => hT w (by unfold wsV; exact List.mem_append_right _ h)
  have hc : Cond.codeWith y bytes maxL ret hh ∈ ws := by rw [hw]; exact List.mem_cons_self
  refine ⟨⟨hrc, hrs, hR.1, hR.2, pay_in ht hG, hc⟩, ht _ (hG _ hc).1, ok _ (by simp [wsV]), ⟨hd.1, hd.2.1⟩, fun sig h => ?_, ok _ (by simp [wsV]), ok _ (by simp [wsV]), ok _ (by simp [wsV])⟩
  have h2 := hd.2.2
  rw [h] at h2
  exact (Option.some.inj h2).symm
theorem vx_runVW {y : MethodName} {bytes cc : ByteArray} {maxL nL mc ms n index : Nat} {ret : Option FieldType} {hh : List (Nat × Nat × Nat × Nat)} {ws : List Cond} {rm : Room} {Pc : Array Value → State → Prop} {Qc : Array Value → State → Outcome → State → Prop} {free : Addr → Prop} {Ts : List Cond} {own C : String} {b : Addr} {As rest : List Value} {g : JFrame}
    (S : CallFix p m c cc nL s args Ts own) (hM : Met l y ws rm Pc Qc mc ms free) (cw : vx_CVW R s args own C index y bytes maxL ret hh ws rm mc ms n) (hp : PreV s H C b Pc As)
    (hg : g.method = m) (hn : As.length = n) (hsize : g.locals.size = nL) (hstack : g.stack = As.reverse ++ .ref b :: rest) (hW : 2 * g.monitorRoom + (rest.map fun v => v.category).sum ≤ 8) (hdg : decode cc g.pc = .ok (.invokevirtual index, 3)) (hf : cells + mc ≤ R.cells ∧ slots + ms ≤ R.slots) :
    va_Run p l e R s m args below meth c H locs cells slots mc ms g rest (Qc (Value.ref b :: As).toArray) free := by
  obtain ⟨⟨hrc, hrs, hfr, hlo, hws, hcw⟩, hcode, hini, hy, hlen, hl, hin, hse⟩ := cw
  have hK : Back l R p e below s args y 3 8 (PreOf R mc ms Pc) (PostOf Qc mc ms free) := va_backW (hh := hh) (bytes := bytes) (maxL := maxL) (ret := ret) hM hp.1 hrc hrs hfr hlo hws hcw (fun a' U hW => word_at hW (Or.inl (by first | rfl | simp [Cond.onTables, Cond.keeps, Cond.steady])) hini)
  obtain ⟨hx, hb, hml, ho, -⟩ := S
  obtain ⟨-, ⟨cellB, hcB, hoB, hclB⟩, hPc⟩ := hp
  intro T hT X
  obtain ⟨v, vm₁, ⟨U', l2, c2, s2⟩, hW₁, X', ⟨g', mk, t, L, e1, e2, hq, h1, hL, h2, h3⟩, st⟩ := vx_callVW X hx (C := C) (hh := hh) (bytes := bytes) (maxL := maxL) (ret := ret) ho hl hin hse hcode hy hK (by rw [hT]; exact hcB) hoB hclB hg (hsize.trans hml.symm) (argsL := As) (rest := rest) (fun sig h => hn.trans (hlen sig h)) hstack hW (by rw [hb]; exact hdg)
    (fun vm₁ hW₁ => ⟨hf.1, hf.2, hPc (T.setVm vm₁) hT hW₁⟩)
  dsimp only [Pt.U, Pt.locs, Pt.cells, Pt.slots] at X' e1 e2 h1 h2 h3 st
  subst h1; subst h2; subst h3
  exact ⟨v, (T.setVm vm₁).calling g' mk (Value.ref b :: As).toArray, t, U', L, hT, X', hL, e1, e2, hq, st⟩
section
variable {y : MethodName} {bytes cc : ByteArray} {maxL nL mc ms n index : Nat} {ret : Option FieldType} {ws : List Cond} {rm : Room} {Pc : Array Value → State → Prop} {Qc : Array Value → State → Outcome → State → Prop} {XC : String → State → State → Prop} {free : Addr → Prop} {Ts : List Cond} {own C : String} {b : Addr} {As rest : List Value} {g : JFrame}
theorem vx_runVX {hh : List (Nat × Nat × Nat × Nat)} (S : CallFix p m c cc nL s args Ts own) (hM : vx_Met l y ws rm Pc Qc XC mc ms free) (cw : vx_CVW R s args own C index y bytes maxL ret hh ws rm mc ms n) (hp : PreV s H C b Pc As)
    (hg : g.method = m) (hn : As.length = n) (hsize : g.locals.size = nL) (hstack : g.stack = As.reverse ++ .ref b :: rest) (hW : 2 * g.monitorRoom + (rest.map fun v => v.category).sum ≤ 8) (hdg : decode cc g.pc = .ok (.invokevirtual index, 3)) (hf : cells + mc ≤ R.cells ∧ slots + ms ≤ R.slots) :
    vx_Run p l e R s m args below meth c H locs cells slots mc ms g rest (Qc (Value.ref b :: As).toArray) XC free := by
  obtain ⟨⟨hrc, hrs, hfr, hlo, hws, hcw⟩, hcode, hini, hy, hlen, hl, hin, hse⟩ := cw
  have hK : vx_Back l R p e below s args y 3 8 (PreOf R mc ms Pc) (PostOf Qc mc ms free) (vx_Post XC mc ms free) := vx_backW (hh := hh) (bytes := bytes) (maxL := maxL) (ret := ret) hM hp.1 hrc hrs hfr hlo hws hcw (fun a' U hW => word_at hW (Or.inl (by first | rfl | simp [Cond.onTables, Cond.keeps, Cond.steady])) hini)
  obtain ⟨hx, hb, hml, ho, -⟩ := S
  obtain ⟨-, ⟨cellB, hcB, hoB, hclB⟩, hPc⟩ := hp
  intro T hT X
  rcases vx_callVX X hx (C := C) (hh := hh) (bytes := bytes) (maxL := maxL) (ret := ret) ho hl hin hse hcode hy hK (by rw [hT]; exact hcB) hoB hclB hg (hsize.trans hml.symm) (argsL := As) (rest := rest) (fun sig h => hn.trans (hlen sig h)) hstack hW (by rw [hb]; exact hdg)
    (fun vm₁ hW₁ => ⟨hf.1, hf.2, hPc (T.setVm vm₁) hT hW₁⟩) with ⟨v, vm₁, ⟨U', l2, c2, s2⟩, hW₁, X', ⟨g', mk, t, L, e1, e2, hq, h1, hL, h2, h3⟩, st⟩ | ⟨q, vm₁, ⟨U', l2, c2, s2⟩, hW₁, X', ⟨g', mk, t, L, E, ce, e1, e2, hq, hce, hcv, hcl, h1, hL, h2, h3⟩, st⟩
  · dsimp only [Pt.U, Pt.locs, Pt.cells, Pt.slots] at X' e1 e2 h1 h2 h3 st
    subst h1; subst h2; subst h3
    exact Or.inl ⟨v, (T.setVm vm₁).calling g' mk (Value.ref b :: As).toArray, t, U', L, hT, X', hL, e1, e2, hq, st⟩
  · dsimp only [Pt.U, Pt.locs, Pt.cells, Pt.slots] at X' e1 e2 h1 h2 h3 st hcl
    subst h1; subst h2; subst h3
    exact Or.inr ⟨q, (T.setVm vm₁).calling g' mk (Value.ref b :: As).toArray, t, U', L, E, ce, hT, X', hL, e1, e2, hq, hce, hcv, vx_cls hW₁ hcl, st⟩
theorem vx_runSX {hh : List (Nat × Nat × Nat × Nat)} (S : CallFix p m c cc nL s args Ts own) (hM : vx_Met l y ws rm Pc Qc XC mc ms free) (cw : vx_CSW R s args own index y bytes maxL ret hh ws rm mc ms n) (hp : PreS s H Pc As)
    (hg : g.method = m) (hn : As.length = n) (hsize : g.locals.size = nL) (hstack : g.stack = As.reverse ++ rest) (hW : 2 * g.monitorRoom + (rest.map fun v => v.category).sum ≤ 8) (hdg : decode cc g.pc = .ok (.invokestatic index, 3)) (hf : cells + mc ≤ R.cells ∧ slots + ms ≤ R.slots) :
    vx_Run p l e R s m args below meth c H locs cells slots mc ms g rest (Qc As.toArray) XC free := by
  obtain ⟨⟨hrc, hrs, hfr, hlo, hws, hcw⟩, hcode, hini, hy, hlen, hl, hstt⟩ := cw
  have hK : vx_Back l R p e below s args y 3 8 (PreOf R mc ms Pc) (PostOf Qc mc ms free) (vx_Post XC mc ms free) := vx_backW (hh := hh) (bytes := bytes) (maxL := maxL) (ret := ret) hM hp.1 hrc hrs hfr hlo hws hcw (fun a' U hW => word_at hW (Or.inl (by first | rfl | simp [Cond.onTables, Cond.keeps, Cond.steady])) hini)
  obtain ⟨hx, hb, hml, ho, -⟩ := S
  intro T hT X
  rcases vx_callSX X hx (hh := hh) (bytes := bytes) (maxL := maxL) (ret := ret) ho hl hstt hini hcode hy hK hg (hsize.trans hml.symm) (argsL := As) (rest := rest) (fun sig h => hn.trans (hlen sig h)) hstack hW (by rw [hb]; exact hdg)
    (fun vm₁ hW₁ => ⟨hf.1, hf.2, hp.2 (T.setVm vm₁) hT hW₁⟩) with ⟨v, vm₁, ⟨U', l2, c2, s2⟩, hW₁, X', ⟨g', mk, t, L, e1, e2, hq, h1, hL, h2, h3⟩, st⟩ | ⟨q, vm₁, ⟨U', l2, c2, s2⟩, hW₁, X', ⟨g', mk, t, L, E, ce, e1, e2, hq, hce, hcv, hcl, h1, hL, h2, h3⟩, st⟩
  · dsimp only [Pt.U, Pt.locs, Pt.cells, Pt.slots] at X' e1 e2 h1 h2 h3 st
    subst h1; subst h2; subst h3
    exact Or.inl ⟨v, (T.setVm vm₁).calling g' mk As.toArray, t, U', L, hT, X', hL, e1, e2, hq, st⟩
  · dsimp only [Pt.U, Pt.locs, Pt.cells, Pt.slots] at X' e1 e2 h1 h2 h3 st hcl
    subst h1; subst h2; subst h3
    exact Or.inr ⟨q, (T.setVm vm₁).calling g' mk As.toArray, t, U', L, E, ce, hT, X', hL, e1, e2, hq, hce, hcv, vx_cls hW₁ hcl, st⟩
end
end VXH
theorem vx_ofWH {l : Launch} {y : MethodName} {ws ws' : List Cond} {rm : Room} {Pc : Array Value → State → Prop} {Qc : Array Value → State → Outcome → State → Prop} {XC : String → State → State → Prop} {mc ms : Nat} {free : Addr → Prop} {cc : ByteArray} {maxL : Nat} {ret : Option FieldType} {hh : List (Nat × Nat × Nat × Nat)}
    (hy : plainName y.cls = true) (hw : ws = Cond.codeWith y cc maxL ret hh :: ws')
    (body : ∀ p e s m args below meth c s₁, BodyLoose p l y (headSpec ws rm) cc maxL ret e s m args below meth c s₁ → c.maxLocals = maxL → Pc args s →
      W p l e (headSpec ws rm).room s m args below meth c s.heap [] 0 0 (vx_MQ below Qc XC args s mc ms free) (entryFrame m args maxL)) : vx_Met l y ws rm Pc Qc XC mc ms free := by
  refine MetFree.of_bodyS (code := cc) (maxLocals := maxL) (ret := ret) hy ?_ ?_
  · intro args s m h hn
    obtain ⟨m9, meth, c, hn9, h1, h2, h3, h4, -, h5, h6, -⟩ := Cond.codeWith_spec (atoms_spec (ws := ws) h _ (by rw [hw]; exact List.mem_cons_self))
    cases hn.symm.trans hn9
    exact ⟨meth, c, h1, h2, h3, h4, h5, h6⟩
  · intro p e s m args below meth c s₁ B hml hP _
    have hh0 : s₁.heap = s.heap := by rw [B.state]; rfl
    obtain ⟨t, a1, o, b1, b2, b3⟩ := body p e s m args below meth c s₁ B hml hP s₁ hh0 (Stand.of_body B)
    exact ⟨t, o, a1, b1, b2, b3⟩
/-! ===== END ===== -/
end
section
def RX0 : String := "DaybreakFlags$Arm"
def TX0 : u_T := fun k => match k with
  | 0 => ("DaybreakFlags$Arm", "user", "I", true)
  | 1 => ("DaybreakFlags$Arm", "variant", "I", true)
  | 2 => ("DaybreakFlags$Arm", "older", "LDaybreakFlags$Arm;", true)
  | 3 => ("DaybreakFlags$Arm", "sum", "I", false)
  | _ => ("DaybreakFlags$Arm", "hasActed", "Z", false)
def tyX0 : Nat → FieldType := fun k => match k with
  | 0 => .int
  | 1 => .int
  | 2 => .object "DaybreakFlags$Arm"
  | 3 => .int
  | _ => .boolean
abbrev wsX00 : List Cond := u_ws RX0 TX0 5
theorem nmX0 : ∀ a, a < 5 → ∀ b, b < 5 → a ≠ b → (TX0 a).2.1 ≠ (TX0 b).2.1 := by decide +kernel
theorem tyX0_ok : ∀ k, k < 5 → parseFieldDescriptor (TX0 k).2.2.1 = some (tyX0 k) := by decide +kernel
abbrev cX0_init : ByteArray := prog_2_method_1_code
def yX0_init : MethodName := ⟨RX0, "<init>", "(IILDaybreakFlags$Arm;)V"⟩
def RX1 : String := "DaybreakFlags$Asker"
def TX1 : u_T := fun k => match k with
  | 0 => ("DaybreakFlags$Asker", "user", "I", false)
  | 1 => ("DaybreakFlags$Asker", "first", "I", false)
  | 2 => ("DaybreakFlags$Asker", "second", "I", false)
  | 3 => ("DaybreakFlags$Asker", "turned", "I", false)
  | 4 => ("DaybreakFlags$Asker", "ramped", "I", false)
  | _ => ("DaybreakFlags$Asker", "rampedTo", "I", false)
def tyX1 : Nat → FieldType := fun k => match k with
  | 0 => .int
  | 1 => .int
  | 2 => .int
  | 3 => .int
  | 4 => .int
  | _ => .int
abbrev wsX10 : List Cond := u_ws RX1 TX1 6
theorem nmX1 : ∀ a, a < 6 → ∀ b, b < 6 → a ≠ b → (TX1 a).2.1 ≠ (TX1 b).2.1 := by decide +kernel
theorem tyX1_ok : ∀ k, k < 6 → parseFieldDescriptor (TX1 k).2.2.1 = some (tyX1 k) := by decide +kernel
abbrev cX1_init : ByteArray := prog_3_method_1_code
def yX1_init : MethodName := ⟨RX1, "<init>", "()V"⟩
abbrev cX1_become : ByteArray := prog_3_method_2_code
def yX1_become : MethodName := ⟨RX1, "become", "(III)V"⟩
abbrev cX1_becomeCounted : ByteArray := prog_3_method_3_code
def yX1_becomeCounted : MethodName := ⟨RX1, "becomeCounted", "(I)V"⟩
abbrev cX1_supposeTurned : ByteArray := prog_3_method_4_code
def yX1_supposeTurned : MethodName := ⟨RX1, "supposeTurned", "(I)V"⟩
abbrev cX1_supposeRamp : ByteArray := prog_3_method_5_code
def yX1_supposeRamp : MethodName := ⟨RX1, "supposeRamp", "(II)V"⟩
abbrev cX1_findsOn : ByteArray := prog_3_method_6_code
def yX1_findsOn : MethodName := ⟨RX1, "findsOn", "(LDaybreakFlags$Switch;)Z"⟩
abbrev cX1_findsFar : ByteArray := prog_3_method_7_code
def yX1_findsFar : MethodName := ⟨RX1, "findsFar", "(LDaybreakFlags$Switch;I)I"⟩
def RX2 : String := "DaybreakFlags$Rule"
def TX2 : u_T := fun k => match k with
  | 0 => ("DaybreakFlags$Rule", "mark", "I", true)
  | 1 => ("DaybreakFlags$Rule", "how", "I", true)
  | 2 => ("DaybreakFlags$Rule", "n", "I", true)
  | _ => ("DaybreakFlags$Rule", "variant", "I", true)
def tyX2 : Nat → FieldType := fun k => match k with
  | 0 => .int
  | 1 => .int
  | 2 => .int
  | _ => .int
abbrev wsX20 : List Cond := u_ws RX2 TX2 4
theorem nmX2 : ∀ a, a < 4 → ∀ b, b < 4 → a ≠ b → (TX2 a).2.1 ≠ (TX2 b).2.1 := by decide +kernel
theorem tyX2_ok : ∀ k, k < 4 → parseFieldDescriptor (TX2 k).2.2.1 = some (tyX2 k) := by decide +kernel
abbrev cX2_init : ByteArray := prog_4_method_1_code
def yX2_init : MethodName := ⟨RX2, "<init>", "(IIII)V"⟩
abbrev cX2_isMetBy : ByteArray := prog_4_method_2_code
def yX2_isMetBy : MethodName := ⟨RX2, "isMetBy", "(II)Z"⟩
def RX3 : String := "DaybreakFlags$Switch"
def TX3 : u_T := fun k => match k with
  | 0 => ("DaybreakFlags$Switch", "number", "I", true)
  | 1 => ("DaybreakFlags$Switch", "salt", "I", true)
  | 2 => ("DaybreakFlags$Switch", "variantCount", "I", true)
  | 3 => ("DaybreakFlags$Switch", "isSticky", "Z", true)
  | 4 => ("DaybreakFlags$Switch", "weights", "[I", true)
  | 5 => ("DaybreakFlags$Switch", "rules", "[LDaybreakFlags$Rule;", true)
  | 6 => ("DaybreakFlags$Switch", "tally", "LDaybreakFlags$Tally;", true)
  | 7 => ("DaybreakFlags$Switch", "newest", "LDaybreakFlags$Arm;", false)
  | 8 => ("DaybreakFlags$Switch", "ruleCount", "I", false)
  | 9 => ("DaybreakFlags$Switch", "isOn", "Z", false)
  | 10 => ("DaybreakFlags$Switch", "startShare", "I", false)
  | 11 => ("DaybreakFlags$Switch", "step", "I", false)
  | 12 => ("DaybreakFlags$Switch", "rampedAt", "I", false)
  | 13 => ("DaybreakFlags$Switch", "layer", "I", false)
  | 14 => ("DaybreakFlags$Switch", "from", "I", false)
  | 15 => ("DaybreakFlags$Switch", "to", "I", false)
  | 16 => ("DaybreakFlags$Switch", "needed", "I", false)
  | _ => ("DaybreakFlags$Switch", "neededVariant", "I", false)
def tyX3 : Nat → FieldType := fun k => match k with
  | 0 => .int
  | 1 => .int
  | 2 => .int
  | 3 => .boolean
  | 4 => .array .int
  | 5 => .array (.object "DaybreakFlags$Rule")
  | 6 => .object "DaybreakFlags$Tally"
  | 7 => .object "DaybreakFlags$Arm"
  | 8 => .int
  | 9 => .boolean
  | 10 => .int
  | 11 => .int
  | 12 => .int
  | 13 => .int
  | 14 => .int
  | 15 => .int
  | 16 => .int
  | _ => .int
abbrev wsX30 : List Cond := u_ws RX3 TX3 18
theorem nmX3 : ∀ a, a < 18 → ∀ b, b < 18 → a ≠ b → (TX3 a).2.1 ≠ (TX3 b).2.1 := by decide +kernel
theorem tyX3_ok : ∀ k, k < 18 → parseFieldDescriptor (TX3 k).2.2.1 = some (tyX3 k) := by decide +kernel
abbrev cX3_init : ByteArray := prog_5_method_1_code
def yX3_init : MethodName := ⟨RX3, "<init>", "(IIIZ)V"⟩
abbrev cX3_weightOf : ByteArray := prog_5_method_2_code
def yX3_weightOf : MethodName := ⟨RX3, "weightOf", "(I)I"⟩
abbrev cX3_setWeight : ByteArray := prog_5_method_3_code
def yX3_setWeight : MethodName := ⟨RX3, "setWeight", "(II)V"⟩
abbrev cX3_splitBy : ByteArray := prog_5_method_4_code
def yX3_splitBy : MethodName := ⟨RX3, "splitBy", "(I)I"⟩
abbrev cX3_setRamp : ByteArray := prog_5_method_5_code
def yX3_setRamp : MethodName := ⟨RX3, "setRamp", "(III)V"⟩
abbrev cX3_farAt : ByteArray := prog_5_method_6_code
def yX3_farAt : MethodName := ⟨RX3, "farAt", "(I)I"⟩
abbrev cX3_sharesRange : ByteArray := prog_5_method_7_code
def yX3_sharesRange : MethodName := ⟨RX3, "sharesRange", "(II)Z"⟩
abbrev cX3_ruleAt : ByteArray := prog_5_method_8_code
def yX3_ruleAt : MethodName := ⟨RX3, "ruleAt", "(I)LDaybreakFlags$Rule;"⟩
abbrev cX3_addRule : ByteArray := prog_5_method_9_code
def yX3_addRule : MethodName := ⟨RX3, "addRule", "(LDaybreakFlags$Rule;)V"⟩
abbrev cX3_removeRule : ByteArray := prog_5_method_10_code
def yX3_removeRule : MethodName := ⟨RX3, "removeRule", "(I)V"⟩
abbrev cX3_firstRuleFor : ByteArray := prog_5_method_11_code
def yX3_firstRuleFor : MethodName := ⟨RX3, "firstRuleFor", "(II)I"⟩
abbrev cX3_armOf : ByteArray := prog_5_method_12_code
def yX3_armOf : MethodName := ⟨RX3, "armOf", "(I)LDaybreakFlags$Arm;"⟩
abbrev cX3_addArm : ByteArray := prog_5_method_13_code
def yX3_addArm : MethodName := ⟨RX3, "addArm", "(II)V"⟩
abbrev cX3_addWorth : ByteArray := prog_5_method_14_code
def yX3_addWorth : MethodName := ⟨RX3, "addWorth", "(II)Z"⟩
abbrev cX3_badness : ByteArray := prog_5_method_15_code
def yX3_badness : MethodName := ⟨RX3, "badness", "()I"⟩
abbrev cX3_canBeTrusted : ByteArray := prog_5_method_16_code
def yX3_canBeTrusted : MethodName := ⟨RX3, "canBeTrusted", "()Z"⟩
abbrev cX3_mostBadness : ByteArray := prog_5_method_17_code
def yX3_mostBadness : MethodName := ⟨RX3, "mostBadness", "(I)I"⟩
def RX4 : String := "DaybreakFlags$Tally"
def TX4 : u_T := fun k => match k with
  | 0 => ("DaybreakFlags$Tally", "counts", "[I", true)
  | 1 => ("DaybreakFlags$Tally", "acted", "[I", true)
  | 2 => ("DaybreakFlags$Tally", "sums", "[I", true)
  | 3 => ("DaybreakFlags$Tally", "squares", "[J", true)
  | _ => ("DaybreakFlags$Tally", "total", "I", false)
def tyX4 : Nat → FieldType := fun k => match k with
  | 0 => .array .int
  | 1 => .array .int
  | 2 => .array .int
  | 3 => .array .long
  | _ => .int
abbrev wsX40 : List Cond := u_ws RX4 TX4 5
theorem nmX4 : ∀ a, a < 5 → ∀ b, b < 5 → a ≠ b → (TX4 a).2.1 ≠ (TX4 b).2.1 := by decide +kernel
theorem tyX4_ok : ∀ k, k < 5 → parseFieldDescriptor (TX4 k).2.2.1 = some (tyX4 k) := by decide +kernel
abbrev cX4_init : ByteArray := prog_6_method_1_code
def yX4_init : MethodName := ⟨RX4, "<init>", "()V"⟩
abbrev cX4_isKept : ByteArray := prog_6_method_2_code
def yX4_isKept : MethodName := ⟨RX4, "isKept", "(I)Z"⟩
abbrev cX4_countArm : ByteArray := prog_6_method_3_code
def yX4_countArm : MethodName := ⟨RX4, "countArm", "(I)V"⟩
abbrev cX4_countAct : ByteArray := prog_6_method_4_code
def yX4_countAct : MethodName := ⟨RX4, "countAct", "(IJIZ)V"⟩
abbrev cX4_countOf : ByteArray := prog_6_method_5_code
def yX4_countOf : MethodName := ⟨RX4, "countOf", "(I)I"⟩
abbrev cX4_actedOf : ByteArray := prog_6_method_6_code
def yX4_actedOf : MethodName := ⟨RX4, "actedOf", "(I)I"⟩
abbrev cX4_sumOf : ByteArray := prog_6_method_7_code
def yX4_sumOf : MethodName := ⟨RX4, "sumOf", "(I)I"⟩
abbrev cX4_squaresOf : ByteArray := prog_6_method_8_code
def yX4_squaresOf : MethodName := ⟨RX4, "squaresOf", "(I)J"⟩
abbrev cX4_meanOf : ByteArray := prog_6_method_9_code
def yX4_meanOf : MethodName := ⟨RX4, "meanOf", "(I)D"⟩
abbrev cX4_liftOf : ByteArray := prog_6_method_10_code
def yX4_liftOf : MethodName := ⟨RX4, "liftOf", "(I)D"⟩
abbrev cX4_surenessOf : ByteArray := prog_6_method_11_code
def yX4_surenessOf : MethodName := ⟨RX4, "surenessOf", "(I)D"⟩
abbrev cX4_spreadByCount : ByteArray := prog_6_method_12_code
def yX4_spreadByCount : MethodName := ⟨RX4, "spreadByCount", "(I)D"⟩
abbrev cX4_bestVariant : ByteArray := prog_6_method_13_code
def yX4_bestVariant : MethodName := ⟨RX4, "bestVariant", "()I"⟩
def RX5 : String := "DaybreakFlags"
def TX5 : u_T := fun k => match k with
  | 0 => ("DaybreakFlags", "row", "[LDaybreakFlags$Switch;", true)
  | 1 => ("DaybreakFlags", "asker", "LDaybreakFlags$Asker;", true)
  | 2 => ("DaybreakFlags", "switchCount", "I", false)
  | 3 => ("DaybreakFlags", "armCount", "I", false)
  | 4 => ("DaybreakFlags", "holdout", "I", false)
  | _ => ("DaybreakFlags", "clock", "I", false)
def tyX5 : Nat → FieldType := fun k => match k with
  | 0 => .array (.object "DaybreakFlags$Switch")
  | 1 => .object "DaybreakFlags$Asker"
  | 2 => .int
  | 3 => .int
  | 4 => .int
  | _ => .int
abbrev wsX50 : List Cond := u_ws RX5 TX5 6
theorem nmX5 : ∀ a, a < 6 → ∀ b, b < 6 → a ≠ b → (TX5 a).2.1 ≠ (TX5 b).2.1 := by decide +kernel
theorem tyX5_ok : ∀ k, k < 6 → parseFieldDescriptor (TX5 k).2.2.1 = some (tyX5 k) := by decide +kernel
abbrev cX5_init : ByteArray := prog_1_method_1_code
def yX5_init : MethodName := ⟨RX5, "<init>", "()V"⟩
abbrev cX5_add : ByteArray := prog_1_method_2_code
def yX5_add : MethodName := ⟨RX5, "add", "(IIZ)I"⟩
abbrev cX5_weigh : ByteArray := prog_1_method_3_code
def yX5_weigh : MethodName := ⟨RX5, "weigh", "(III)I"⟩
abbrev cX5_turn : ByteArray := prog_1_method_4_code
def yX5_turn : MethodName := ⟨RX5, "turn", "(IZ)Z"⟩
abbrev cX5_ramp : ByteArray := prog_1_method_5_code
def yX5_ramp : MethodName := ⟨RX5, "ramp", "(III)I"⟩
abbrev cX5_place : ByteArray := prog_1_method_6_code
def yX5_place : MethodName := ⟨RX5, "place", "(IIII)I"⟩
abbrev cX5_need : ByteArray := prog_1_method_7_code
def yX5_need : MethodName := ⟨RX5, "need", "(III)I"⟩
abbrev cX5_rule : ByteArray := prog_1_method_8_code
def yX5_rule : MethodName := ⟨RX5, "rule", "(IIIII)I"⟩
abbrev cX5_unrule : ByteArray := prog_1_method_9_code
def yX5_unrule : MethodName := ⟨RX5, "unrule", "(II)I"⟩
abbrev cX5_hold : ByteArray := prog_1_method_10_code
def yX5_hold : MethodName := ⟨RX5, "hold", "(I)I"⟩
abbrev cX5_goOn : ByteArray := prog_1_method_11_code
def yX5_goOn : MethodName := ⟨RX5, "goOn", "(I)I"⟩
abbrev cX5_switches : ByteArray := prog_1_method_12_code
def yX5_switches : MethodName := ⟨RX5, "switches", "()I"⟩
abbrev cX5_weight : ByteArray := prog_1_method_13_code
def yX5_weight : MethodName := ⟨RX5, "weight", "(II)I"⟩
abbrev cX5_share : ByteArray := prog_1_method_14_code
def yX5_share : MethodName := ⟨RX5, "share", "(I)I"⟩
abbrev cX5_left : ByteArray := prog_1_method_15_code
def yX5_left : MethodName := ⟨RX5, "left", "(I)I"⟩
abbrev cX5_bucket : ByteArray := prog_1_method_16_code
def yX5_bucket : MethodName := ⟨RX5, "bucket", "(II)I"⟩
abbrev cX5_gets : ByteArray := prog_1_method_17_code
def yX5_gets : MethodName := ⟨RX5, "gets", "(IIII)I"⟩
abbrev cX5_why : ByteArray := prog_1_method_18_code
def yX5_why : MethodName := ⟨RX5, "why", "(IIII)I"⟩
abbrev cX5_holds : ByteArray := prog_1_method_19_code
def yX5_holds : MethodName := ⟨RX5, "holds", "(IIII)I"⟩
abbrev cX5_ask : ByteArray := prog_1_method_20_code
def yX5_ask : MethodName := ⟨RX5, "ask", "(IIII)I"⟩
abbrev cX5_act : ByteArray := prog_1_method_21_code
def yX5_act : MethodName := ⟨RX5, "act", "(II)I"⟩
abbrev cX5_arm : ByteArray := prog_1_method_22_code
def yX5_arm : MethodName := ⟨RX5, "arm", "(II)I"⟩
abbrev cX5_arms : ByteArray := prog_1_method_23_code
def yX5_arms : MethodName := ⟨RX5, "arms", "()I"⟩
abbrev cX5_told : ByteArray := prog_1_method_24_code
def yX5_told : MethodName := ⟨RX5, "told", "(III)I"⟩
abbrev cX5_mean : ByteArray := prog_1_method_25_code
def yX5_mean : MethodName := ⟨RX5, "mean", "(II)D"⟩
abbrev cX5_lift : ByteArray := prog_1_method_26_code
def yX5_lift : MethodName := ⟨RX5, "lift", "(II)D"⟩
abbrev cX5_sure : ByteArray := prog_1_method_27_code
def yX5_sure : MethodName := ⟨RX5, "sure", "(II)D"⟩
abbrev cX5_bad : ByteArray := prog_1_method_28_code
def yX5_bad : MethodName := ⟨RX5, "bad", "(I)I"⟩
abbrev cX5_isTrusted : ByteArray := prog_1_method_29_code
def yX5_isTrusted : MethodName := ⟨RX5, "isTrusted", "(I)Z"⟩
abbrev cX5_best : ByteArray := prog_1_method_30_code
def yX5_best : MethodName := ⟨RX5, "best", "(I)I"⟩
abbrev cX5_reach : ByteArray := prog_1_method_31_code
def yX5_reach : MethodName := ⟨RX5, "reach", "(III)I"⟩
abbrev cX5_both : ByteArray := prog_1_method_32_code
def yX5_both : MethodName := ⟨RX5, "both", "(III)I"⟩
abbrev cX5_wouldChange : ByteArray := prog_1_method_33_code
def yX5_wouldChange : MethodName := ⟨RX5, "wouldChange", "(III)I"⟩
abbrev cX5_wouldTurn : ByteArray := prog_1_method_34_code
def yX5_wouldTurn : MethodName := ⟨RX5, "wouldTurn", "(II)I"⟩
abbrev cX5_shareIn : ByteArray := prog_1_method_35_code
def yX5_shareIn : MethodName := ⟨RX5, "shareIn", "(II)I"⟩
abbrev cX5_digest : ByteArray := prog_1_method_36_code
def yX5_digest : MethodName := ⟨RX5, "digest", "()J"⟩
abbrev cX5_withSwitch : ByteArray := prog_1_method_37_code
def yX5_withSwitch : MethodName := ⟨RX5, "withSwitch", "(JI)J"⟩
abbrev cX5_withNext : ByteArray := prog_1_method_38_code
def yX5_withNext : MethodName := ⟨RX5, "withNext", "(JJ)J"⟩
abbrev cX5_isOutside : ByteArray := prog_1_method_39_code
def yX5_isOutside : MethodName := ⟨RX5, "isOutside", "(III)Z"⟩
abbrev cX5_bucketOf : ByteArray := prog_1_method_40_code
def yX5_bucketOf : MethodName := ⟨RX5, "bucketOf", "(II)I"⟩
abbrev cX5_switchAt : ByteArray := prog_1_method_41_code
def yX5_switchAt : MethodName := ⟨RX5, "switchAt", "(I)LDaybreakFlags$Switch;"⟩
abbrev cX5_known : ByteArray := prog_1_method_42_code
def yX5_known : MethodName := ⟨RX5, "known", "(I)LDaybreakFlags$Switch;"⟩
abbrev cX5_checkVariant : ByteArray := prog_1_method_43_code
def yX5_checkVariant : MethodName := ⟨RX5, "checkVariant", "(LDaybreakFlags$Switch;I)V"⟩
abbrev cX5_checkAsker : ByteArray := prog_1_method_44_code
def yX5_checkAsker : MethodName := ⟨RX5, "checkAsker", "(III)V"⟩
abbrev cX5_checkMany : ByteArray := prog_1_method_45_code
def yX5_checkMany : MethodName := ⟨RX5, "checkMany", "(I)V"⟩
abbrev cX5_checkRange : ByteArray := prog_1_method_46_code
def yX5_checkRange : MethodName := ⟨RX5, "checkRange", "(III)V"⟩
abbrev cX5_isTaken : ByteArray := prog_1_method_47_code
def yX5_isTaken : MethodName := ⟨RX5, "isTaken", "(IIII)Z"⟩
abbrev cX5_variantOf : ByteArray := prog_1_method_48_code
def yX5_variantOf : MethodName := ⟨RX5, "variantOf", "(LDaybreakFlags$Switch;)I"⟩
abbrev cX5_variantBy : ByteArray := prog_1_method_49_code
def yX5_variantBy : MethodName := ⟨RX5, "variantBy", "(LDaybreakFlags$Switch;I)I"⟩
abbrev cX5_reasonOf : ByteArray := prog_1_method_50_code
def yX5_reasonOf : MethodName := ⟨RX5, "reasonOf", "(LDaybreakFlags$Switch;)I"⟩
abbrev cX5_hasNeed : ByteArray := prog_1_method_51_code
def yX5_hasNeed : MethodName := ⟨RX5, "hasNeed", "(LDaybreakFlags$Switch;)Z"⟩
abbrev cX5_isInLayer : ByteArray := prog_1_method_52_code
def yX5_isInLayer : MethodName := ⟨RX5, "isInLayer", "(LDaybreakFlags$Switch;)Z"⟩
abbrev cX5_changesByTurning : ByteArray := prog_1_method_53_code
def yX5_changesByTurning : MethodName := ⟨RX5, "changesByTurning", "(II)Z"⟩
def RX6 : String := "DaybreakFlagsModel"
def TX6 : u_T := fun k => match k with
  | 0 => ("DaybreakFlagsModel", "thrown", "I", false)
  | 1 => ("DaybreakFlagsModel", "clock", "I", false)
  | 2 => ("DaybreakFlagsModel", "holdout", "I", false)
  | 3 => ("DaybreakFlagsModel", "switches", "I", false)
  | 4 => ("DaybreakFlagsModel", "salt", "[I", true)
  | 5 => ("DaybreakFlagsModel", "variants", "[I", true)
  | 6 => ("DaybreakFlagsModel", "weight", "[I", true)
  | 7 => ("DaybreakFlagsModel", "share", "[I", true)
  | 8 => ("DaybreakFlagsModel", "step", "[I", true)
  | 9 => ("DaybreakFlagsModel", "since", "[I", true)
  | 10 => ("DaybreakFlagsModel", "isSticky", "[Z", true)
  | 11 => ("DaybreakFlagsModel", "isOn", "[Z", true)
  | 12 => ("DaybreakFlagsModel", "layer", "[I", true)
  | 13 => ("DaybreakFlagsModel", "from", "[I", true)
  | 14 => ("DaybreakFlagsModel", "to", "[I", true)
  | 15 => ("DaybreakFlagsModel", "needs", "[I", true)
  | 16 => ("DaybreakFlagsModel", "needed", "[I", true)
  | 17 => ("DaybreakFlagsModel", "rules", "[I", true)
  | 18 => ("DaybreakFlagsModel", "mark", "[I", true)
  | 19 => ("DaybreakFlagsModel", "how", "[I", true)
  | 20 => ("DaybreakFlagsModel", "limit", "[I", true)
  | 21 => ("DaybreakFlagsModel", "comes", "[I", true)
  | 22 => ("DaybreakFlagsModel", "arms", "I", false)
  | 23 => ("DaybreakFlagsModel", "armOf", "[I", true)
  | 24 => ("DaybreakFlagsModel", "armUser", "[I", true)
  | 25 => ("DaybreakFlagsModel", "armVariant", "[I", true)
  | 26 => ("DaybreakFlagsModel", "armSum", "[I", true)
  | 27 => ("DaybreakFlagsModel", "hasActed", "[Z", true)
  | _ => ("DaybreakFlagsModel", "reason", "I", false)
def tyX6 : Nat → FieldType := fun k => match k with
  | 0 => .int
  | 1 => .int
  | 2 => .int
  | 3 => .int
  | 4 => .array .int
  | 5 => .array .int
  | 6 => .array .int
  | 7 => .array .int
  | 8 => .array .int
  | 9 => .array .int
  | 10 => .array .boolean
  | 11 => .array .boolean
  | 12 => .array .int
  | 13 => .array .int
  | 14 => .array .int
  | 15 => .array .int
  | 16 => .array .int
  | 17 => .array .int
  | 18 => .array .int
  | 19 => .array .int
  | 20 => .array .int
  | 21 => .array .int
  | 22 => .int
  | 23 => .array .int
  | 24 => .array .int
  | 25 => .array .int
  | 26 => .array .int
  | 27 => .array .boolean
  | _ => .int
abbrev wsX60 : List Cond := u_ws RX6 TX6 29
theorem nmX6 : ∀ a, a < 29 → ∀ b, b < 29 → a ≠ b → (TX6 a).2.1 ≠ (TX6 b).2.1 := by decide +kernel
theorem tyX6_ok : ∀ k, k < 29 → parseFieldDescriptor (TX6 k).2.2.1 = some (tyX6 k) := by decide +kernel
abbrev cX6_init : ByteArray := prog_8_method_1_code
def yX6_init : MethodName := ⟨RX6, "<init>", "()V"⟩
abbrev cX6_thrown : ByteArray := prog_8_method_2_code
def yX6_thrown : MethodName := ⟨RX6, "thrown", "()I"⟩
abbrev cX6_no : ByteArray := prog_8_method_3_code
def yX6_no : MethodName := ⟨RX6, "no", "(I)I"⟩
abbrev cX6_isNot : ByteArray := prog_8_method_4_code
def yX6_isNot : MethodName := ⟨RX6, "isNot", "(I)Z"⟩
abbrev cX6_ok : ByteArray := prog_8_method_5_code
def yX6_ok : MethodName := ⟨RX6, "ok", "(I)I"⟩
abbrev cX6_isIn : ByteArray := prog_8_method_6_code
def yX6_isIn : MethodName := ⟨RX6, "isIn", "(III)Z"⟩
abbrev cX6_isSwitch : ByteArray := prog_8_method_7_code
def yX6_isSwitch : MethodName := ⟨RX6, "isSwitch", "(I)Z"⟩
abbrev cX6_isVariant : ByteArray := prog_8_method_8_code
def yX6_isVariant : MethodName := ⟨RX6, "isVariant", "(II)Z"⟩
abbrev cX6_isUser : ByteArray := prog_8_method_9_code
def yX6_isUser : MethodName := ⟨RX6, "isUser", "(I)Z"⟩
abbrev cX6_add : ByteArray := prog_8_method_10_code
def yX6_add : MethodName := ⟨RX6, "add", "(IIZ)I"⟩
abbrev cX6_weigh : ByteArray := prog_8_method_11_code
def yX6_weigh : MethodName := ⟨RX6, "weigh", "(III)I"⟩
abbrev cX6_turn : ByteArray := prog_8_method_12_code
def yX6_turn : MethodName := ⟨RX6, "turn", "(IZ)Z"⟩
abbrev cX6_farIn : ByteArray := prog_8_method_13_code
def yX6_farIn : MethodName := ⟨RX6, "farIn", "(II)I"⟩
abbrev cX6_ramp : ByteArray := prog_8_method_14_code
def yX6_ramp : MethodName := ⟨RX6, "ramp", "(III)I"⟩
abbrev cX6_place : ByteArray := prog_8_method_15_code
def yX6_place : MethodName := ⟨RX6, "place", "(IIII)I"⟩
abbrev cX6_need : ByteArray := prog_8_method_16_code
def yX6_need : MethodName := ⟨RX6, "need", "(III)I"⟩
abbrev cX6_rule : ByteArray := prog_8_method_17_code
def yX6_rule : MethodName := ⟨RX6, "rule", "(IIIII)I"⟩
abbrev cX6_moveUp : ByteArray := prog_8_method_18_code
def yX6_moveUp : MethodName := ⟨RX6, "moveUp", "([III)V"⟩
abbrev cX6_unrule : ByteArray := prog_8_method_19_code
def yX6_unrule : MethodName := ⟨RX6, "unrule", "(II)I"⟩
abbrev cX6_hold : ByteArray := prog_8_method_20_code
def yX6_hold : MethodName := ⟨RX6, "hold", "(I)I"⟩
abbrev cX6_goOn : ByteArray := prog_8_method_21_code
def yX6_goOn : MethodName := ⟨RX6, "goOn", "(I)I"⟩
abbrev cX6_switches : ByteArray := prog_8_method_22_code
def yX6_switches : MethodName := ⟨RX6, "switches", "()I"⟩
abbrev cX6_weight : ByteArray := prog_8_method_23_code
def yX6_weight : MethodName := ⟨RX6, "weight", "(II)I"⟩
abbrev cX6_share : ByteArray := prog_8_method_24_code
def yX6_share : MethodName := ⟨RX6, "share", "(I)I"⟩
abbrev cX6_leftIn : ByteArray := prog_8_method_25_code
def yX6_leftIn : MethodName := ⟨RX6, "leftIn", "(I)I"⟩
abbrev cX6_left : ByteArray := prog_8_method_26_code
def yX6_left : MethodName := ⟨RX6, "left", "(I)I"⟩
abbrev cX6_bucketOf : ByteArray := prog_8_method_27_code
def yX6_bucketOf : MethodName := ⟨RX6, "bucketOf", "(II)I"⟩
abbrev cX6_bucket : ByteArray := prog_8_method_28_code
def yX6_bucket : MethodName := ⟨RX6, "bucket", "(II)I"⟩
abbrev cX6_armAt : ByteArray := prog_8_method_29_code
def yX6_armAt : MethodName := ⟨RX6, "armAt", "(II)I"⟩
abbrev cX6_holdsNow : ByteArray := prog_8_method_30_code
def yX6_holdsNow : MethodName := ⟨RX6, "holdsNow", "(III)I"⟩
abbrev cX6_split : ByteArray := prog_8_method_31_code
def yX6_split : MethodName := ⟨RX6, "split", "(II)I"⟩
abbrev cX6_getsNow : ByteArray := prog_8_method_32_code
def yX6_getsNow : MethodName := ⟨RX6, "getsNow", "(IIIII)I"⟩
abbrev cX6_getsOf : ByteArray := prog_8_method_33_code
def yX6_getsOf : MethodName := ⟨RX6, "getsOf", "(IIII)I"⟩
abbrev cX6_isAsked : ByteArray := prog_8_method_34_code
def yX6_isAsked : MethodName := ⟨RX6, "isAsked", "(IIII)Z"⟩
abbrev cX6_gets : ByteArray := prog_8_method_35_code
def yX6_gets : MethodName := ⟨RX6, "gets", "(IIII)I"⟩
abbrev cX6_why : ByteArray := prog_8_method_36_code
def yX6_why : MethodName := ⟨RX6, "why", "(IIII)I"⟩
abbrev cX6_holds : ByteArray := prog_8_method_37_code
def yX6_holds : MethodName := ⟨RX6, "holds", "(IIII)I"⟩
abbrev cX6_ask : ByteArray := prog_8_method_38_code
def yX6_ask : MethodName := ⟨RX6, "ask", "(IIII)I"⟩
abbrev cX6_act : ByteArray := prog_8_method_39_code
def yX6_act : MethodName := ⟨RX6, "act", "(II)I"⟩
abbrev cX6_armNow : ByteArray := prog_8_method_40_code
def yX6_armNow : MethodName := ⟨RX6, "armNow", "(II)I"⟩
abbrev cX6_arm : ByteArray := prog_8_method_41_code
def yX6_arm : MethodName := ⟨RX6, "arm", "(II)I"⟩
abbrev cX6_arms : ByteArray := prog_8_method_42_code
def yX6_arms : MethodName := ⟨RX6, "arms", "()I"⟩
abbrev cX6_toldNow : ByteArray := prog_8_method_43_code
def yX6_toldNow : MethodName := ⟨RX6, "toldNow", "(III)I"⟩
abbrev cX6_told : ByteArray := prog_8_method_44_code
def yX6_told : MethodName := ⟨RX6, "told", "(III)I"⟩
abbrev cX6_meanNow : ByteArray := prog_8_method_45_code
def yX6_meanNow : MethodName := ⟨RX6, "meanNow", "(II)D"⟩
abbrev cX6_spread : ByteArray := prog_8_method_46_code
def yX6_spread : MethodName := ⟨RX6, "spread", "(II)D"⟩
abbrev cX6_mean : ByteArray := prog_8_method_47_code
def yX6_mean : MethodName := ⟨RX6, "mean", "(II)D"⟩
abbrev cX6_lift : ByteArray := prog_8_method_48_code
def yX6_lift : MethodName := ⟨RX6, "lift", "(II)D"⟩
abbrev cX6_sure : ByteArray := prog_8_method_49_code
def yX6_sure : MethodName := ⟨RX6, "sure", "(II)D"⟩
abbrev cX6_badNow : ByteArray := prog_8_method_50_code
def yX6_badNow : MethodName := ⟨RX6, "badNow", "(I)I"⟩
abbrev cX6_bad : ByteArray := prog_8_method_51_code
def yX6_bad : MethodName := ⟨RX6, "bad", "(I)I"⟩
abbrev cX6_isTrustedNow : ByteArray := prog_8_method_52_code
def yX6_isTrustedNow : MethodName := ⟨RX6, "isTrustedNow", "(I)Z"⟩
abbrev cX6_isTrusted : ByteArray := prog_8_method_53_code
def yX6_isTrusted : MethodName := ⟨RX6, "isTrusted", "(I)Z"⟩
abbrev cX6_bestNow : ByteArray := prog_8_method_54_code
def yX6_bestNow : MethodName := ⟨RX6, "bestNow", "(I)I"⟩
abbrev cX6_best : ByteArray := prog_8_method_55_code
def yX6_best : MethodName := ⟨RX6, "best", "(I)I"⟩
abbrev cX6_getsBy : ByteArray := prog_8_method_56_code
def yX6_getsBy : MethodName := ⟨RX6, "getsBy", "(II)I"⟩
abbrev cX6_reachNow : ByteArray := prog_8_method_57_code
def yX6_reachNow : MethodName := ⟨RX6, "reachNow", "(III)I"⟩
abbrev cX6_reach : ByteArray := prog_8_method_58_code
def yX6_reach : MethodName := ⟨RX6, "reach", "(III)I"⟩
abbrev cX6_isSplit : ByteArray := prog_8_method_59_code
def yX6_isSplit : MethodName := ⟨RX6, "isSplit", "(II)Z"⟩
abbrev cX6_both : ByteArray := prog_8_method_60_code
def yX6_both : MethodName := ⟨RX6, "both", "(III)I"⟩
abbrev cX6_wouldChange : ByteArray := prog_8_method_61_code
def yX6_wouldChange : MethodName := ⟨RX6, "wouldChange", "(III)I"⟩
abbrev cX6_all : ByteArray := prog_8_method_62_code
def yX6_all : MethodName := ⟨RX6, "all", "(I)I"⟩
abbrev cX6_wouldTurn : ByteArray := prog_8_method_63_code
def yX6_wouldTurn : MethodName := ⟨RX6, "wouldTurn", "(II)I"⟩
abbrev cX6_shareIn : ByteArray := prog_8_method_64_code
def yX6_shareIn : MethodName := ⟨RX6, "shareIn", "(II)I"⟩
abbrev cX6_digest : ByteArray := prog_8_method_65_code
def yX6_digest : MethodName := ⟨RX6, "digest", "()J"⟩
def RJ9 : String := "java/lang/Math"
def TJ9 : u_T := fun k => match k with
  | _ => ("", "", "", false)
def tyJ9 : Nat → FieldType := fun k => match k with
  | _ => .int
theorem nmJ9 : ∀ a, a < 0 → ∀ b, b < 0 → a ≠ b → (TJ9 a).2.1 ≠ (TJ9 b).2.1 := by decide +kernel
theorem tyJ9_ok : ∀ k, k < 0 → parseFieldDescriptor (TJ9 k).2.2.1 = some (tyJ9 k) := by decide +kernel
abbrev cJ9_max_7cf53 : ByteArray := prog_13_method_65_code
def yJ9_max_7cf53 : MethodName := ⟨RJ9, "max", "(II)I"⟩
abbrev cJ9_min_7cf53 : ByteArray := prog_13_method_69_code
def yJ9_min_7cf53 : MethodName := ⟨RJ9, "min", "(II)I"⟩
abbrev cJ9_min_f86c9 : ByteArray := prog_13_method_70_code
def yJ9_min_f86c9 : MethodName := ⟨RJ9, "min", "(JJ)J"⟩
def RJ0 : String := "java/lang/String"
def TJ0 : u_T := fun k => match k with
  | _ => ("", "", "", false)
def tyJ0 : Nat → FieldType := fun k => match k with
  | _ => .int
theorem nmJ0 : ∀ a, a < 0 → ∀ b, b < 0 → a ≠ b → (TJ0 a).2.1 ≠ (TJ0 b).2.1 := by decide +kernel
theorem tyJ0_ok : ∀ k, k < 0 → parseFieldDescriptor (TJ0 k).2.2.1 = some (tyJ0 k) := by decide +kernel
def RJ10 : String := "java/lang/System"
def TJ10 : u_T := fun k => match k with
  | _ => ("", "", "", false)
def tyJ10 : Nat → FieldType := fun k => match k with
  | _ => .int
theorem nmJ10 : ∀ a, a < 0 → ∀ b, b < 0 → a ≠ b → (TJ10 a).2.1 ≠ (TJ10 b).2.1 := by decide +kernel
theorem tyJ10_ok : ∀ k, k < 0 → parseFieldDescriptor (TJ10 k).2.2.1 = some (tyJ10 k) := by decide +kernel
def RL : String := "DaybreakFlagsLaw"
abbrev cL_add : ByteArray := method_3_code
def yL_add : MethodName := ⟨RL, "add", "(LDaybreakFlags;IIZ[J)I"⟩
abbrev cL_weigh : ByteArray := method_4_code
def yL_weigh : MethodName := ⟨RL, "weigh", "(LDaybreakFlags;III[J)I"⟩
abbrev cL_turn : ByteArray := method_5_code
def yL_turn : MethodName := ⟨RL, "turn", "(LDaybreakFlags;IZ[J)I"⟩
abbrev cL_ramp : ByteArray := method_6_code
def yL_ramp : MethodName := ⟨RL, "ramp", "(LDaybreakFlags;III[J)I"⟩
abbrev cL_place : ByteArray := method_7_code
def yL_place : MethodName := ⟨RL, "place", "(LDaybreakFlags;IIII[J)I"⟩
abbrev cL_need : ByteArray := method_8_code
def yL_need : MethodName := ⟨RL, "need", "(LDaybreakFlags;III[J)I"⟩
abbrev cL_rule : ByteArray := method_9_code
def yL_rule : MethodName := ⟨RL, "rule", "(LDaybreakFlags;IIIII[J)I"⟩
abbrev cL_unrule : ByteArray := method_10_code
def yL_unrule : MethodName := ⟨RL, "unrule", "(LDaybreakFlags;II[J)I"⟩
abbrev cL_hold : ByteArray := method_11_code
def yL_hold : MethodName := ⟨RL, "hold", "(LDaybreakFlags;I[J)I"⟩
abbrev cL_goOn : ByteArray := method_12_code
def yL_goOn : MethodName := ⟨RL, "goOn", "(LDaybreakFlags;I[J)I"⟩
abbrev cL_weight : ByteArray := method_13_code
def yL_weight : MethodName := ⟨RL, "weight", "(LDaybreakFlags;II[J)I"⟩
abbrev cL_share : ByteArray := method_14_code
def yL_share : MethodName := ⟨RL, "share", "(LDaybreakFlags;I[J)I"⟩
abbrev cL_left : ByteArray := method_15_code
def yL_left : MethodName := ⟨RL, "left", "(LDaybreakFlags;I[J)I"⟩
abbrev cL_bucket : ByteArray := method_16_code
def yL_bucket : MethodName := ⟨RL, "bucket", "(LDaybreakFlags;II[J)I"⟩
abbrev cL_gets : ByteArray := method_17_code
def yL_gets : MethodName := ⟨RL, "gets", "(LDaybreakFlags;IIII[J)I"⟩
abbrev cL_why : ByteArray := method_18_code
def yL_why : MethodName := ⟨RL, "why", "(LDaybreakFlags;IIII[J)I"⟩
abbrev cL_holds : ByteArray := method_19_code
def yL_holds : MethodName := ⟨RL, "holds", "(LDaybreakFlags;IIII[J)I"⟩
abbrev cL_ask : ByteArray := method_20_code
def yL_ask : MethodName := ⟨RL, "ask", "(LDaybreakFlags;IIII[J)I"⟩
abbrev cL_act : ByteArray := method_21_code
def yL_act : MethodName := ⟨RL, "act", "(LDaybreakFlags;II[J)I"⟩
abbrev cL_arm : ByteArray := method_22_code
def yL_arm : MethodName := ⟨RL, "arm", "(LDaybreakFlags;II[J)I"⟩
abbrev cL_told : ByteArray := method_23_code
def yL_told : MethodName := ⟨RL, "told", "(LDaybreakFlags;III[J)I"⟩
abbrev cL_mean : ByteArray := method_24_code
def yL_mean : MethodName := ⟨RL, "mean", "(LDaybreakFlags;II[D)I"⟩
abbrev cL_lift : ByteArray := method_25_code
def yL_lift : MethodName := ⟨RL, "lift", "(LDaybreakFlags;II[D)I"⟩
abbrev cL_sure : ByteArray := method_26_code
def yL_sure : MethodName := ⟨RL, "sure", "(LDaybreakFlags;II[D)I"⟩
abbrev cL_bad : ByteArray := method_27_code
def yL_bad : MethodName := ⟨RL, "bad", "(LDaybreakFlags;I[J)I"⟩
abbrev cL_isTrusted : ByteArray := method_28_code
def yL_isTrusted : MethodName := ⟨RL, "isTrusted", "(LDaybreakFlags;I[J)I"⟩
abbrev cL_best : ByteArray := method_29_code
def yL_best : MethodName := ⟨RL, "best", "(LDaybreakFlags;I[J)I"⟩
abbrev cL_reach : ByteArray := method_30_code
def yL_reach : MethodName := ⟨RL, "reach", "(LDaybreakFlags;III[J)I"⟩
abbrev cL_both : ByteArray := method_31_code
def yL_both : MethodName := ⟨RL, "both", "(LDaybreakFlags;III[J)I"⟩
abbrev cL_wouldChange : ByteArray := method_32_code
def yL_wouldChange : MethodName := ⟨RL, "wouldChange", "(LDaybreakFlags;III[J)I"⟩
abbrev cL_wouldTurn : ByteArray := method_33_code
def yL_wouldTurn : MethodName := ⟨RL, "wouldTurn", "(LDaybreakFlags;II[J)I"⟩
abbrev cL_shareIn : ByteArray := method_34_code
def yL_shareIn : MethodName := ⟨RL, "shareIn", "(LDaybreakFlags;II[J)I"⟩
abbrev cL_law : ByteArray := code
def yL_law : MethodName := ⟨RL, "law", "([I)Z"⟩
abbrev vwCl : List vw_C := [(RX0, TX0, 5), (RX1, TX1, 6), (RX2, TX2, 4), (RX3, TX3, 18), (RX4, TX4, 5), (RX5, TX5, 6), (RX6, TX6, 29)]
end
section
/-- the words of the tables that hold wherever a method begins -/
def TT : List Cond := lw_tbl.filter goodWord
theorem tt_m {w : Cond} (i : Nat) (h : lw_tbl[i]? = some w) (hg : goodWord w = true) : w ∈ TT := List.mem_filter.mpr ⟨List.mem_of_getElem? h, hg⟩
theorem tt_good {w : Cond} (h : w ∈ TT) : (w.onTables && w.keeps) = true ∨ ∃ ty, w = .arrayClass ty := good_of_word (List.mem_filter.mp h).2
theorem tt_in {w : Cond} (h : w ∈ TT) : w ∈ lw_tbl := (List.mem_filter.mp h).1
theorem tt_l {ws : List Cond} (ps : List Nat) (h : ws = ps.filterMap (fun i => lw_tbl[i]?)) (hg : ws.all goodWord = true) : ∀ w ∈ ws, w ∈ TT := fun w hw => by
  have h1 := List.all_eq_true.mp hg w hw
  rw [h] at hw
  obtain ⟨i, -, hi⟩ := List.mem_filterMap.mp hw
  exact tt_m i hi h1
theorem tt_m0 {w : Cond} (i : Nat) (h : (k2_sels lw_privs)[i]? = some w) (hg : goodWord w = true) : w ∈ TT := List.mem_filter.mpr ⟨List.mem_append_left _ (List.mem_of_getElem? h), hg⟩
theorem tt_m1 {w : Cond} (i : Nat) (h : tables_1_1[i]? = some w) (hg : goodWord w = true) : w ∈ TT := List.mem_filter.mpr ⟨List.mem_append_right _ (show w ∈ tables_1 from List.mem_append_left _ (List.mem_of_getElem? h)), hg⟩
theorem tt_m2 {w : Cond} (i : Nat) (h : tables_1_2[i]? = some w) (hg : goodWord w = true) : w ∈ TT := List.mem_filter.mpr ⟨List.mem_append_right _ (show w ∈ tables_1 from List.mem_append_right _ (List.mem_append_left _ (List.mem_of_getElem? h))), hg⟩
theorem tt_m3 {w : Cond} (i : Nat) (h : tables_1_3[i]? = some w) (hg : goodWord w = true) : w ∈ TT := List.mem_filter.mpr ⟨List.mem_append_right _ (show w ∈ tables_1 from List.mem_append_right _ (List.mem_append_right _ (List.mem_append_left _ (List.mem_of_getElem? h)))), hg⟩
theorem tt_m4 {w : Cond} (i : Nat) (h : tables_1_4[i]? = some w) (hg : goodWord w = true) : w ∈ TT := List.mem_filter.mpr ⟨List.mem_append_right _ (show w ∈ tables_1 from List.mem_append_right _ (List.mem_append_right _ (List.mem_append_right _ (List.mem_append_left _ (List.mem_of_getElem? h))))), hg⟩
theorem tt_m5 {w : Cond} (i : Nat) (h : tables_1_5[i]? = some w) (hg : goodWord w = true) : w ∈ TT := List.mem_filter.mpr ⟨List.mem_append_right _ (show w ∈ tables_1 from List.mem_append_right _ (List.mem_append_right _ (List.mem_append_right _ (List.mem_append_right _ (List.mem_of_getElem? h))))), hg⟩
theorem m_in_L : Cond.initialized RL ∈ TT := tt_m1 0 (by decide +kernel) (by decide +kernel)
theorem m_in_X5 : Cond.initialized RX5 ∈ TT := tt_m1 1 (by decide +kernel) (by decide +kernel)
theorem m_in_X1 : Cond.initialized RX1 ∈ TT := tt_m1 2 (by decide +kernel) (by decide +kernel)
theorem m_in_X6 : Cond.initialized RX6 ∈ TT := tt_m1 3 (by decide +kernel) (by decide +kernel)
theorem m_in_Throwable : Cond.initialized "java/lang/Throwable" ∈ TT := tt_m1 4 (by decide +kernel) (by decide +kernel)
theorem m_in_Exception : Cond.initialized "java/lang/Exception" ∈ TT := tt_m1 5 (by decide +kernel) (by decide +kernel)
theorem m_in_RuntimeException : Cond.initialized "java/lang/RuntimeException" ∈ TT := tt_m1 6 (by decide +kernel) (by decide +kernel)
theorem m_in_IllegalArgumentException : Cond.initialized "java/lang/IllegalArgumentException" ∈ TT := tt_m1 7 (by decide +kernel) (by decide +kernel)
theorem m_in_IllegalStateException : Cond.initialized "java/lang/IllegalStateException" ∈ TT := tt_m1 8 (by decide +kernel) (by decide +kernel)
theorem m_in_X3 : Cond.initialized RX3 ∈ TT := tt_m1 9 (by decide +kernel) (by decide +kernel)
theorem m_in_X4 : Cond.initialized RX4 ∈ TT := tt_m1 10 (by decide +kernel) (by decide +kernel)
theorem m_in_IndexOutOfBoundsException : Cond.initialized "java/lang/IndexOutOfBoundsException" ∈ TT := tt_m1 11 (by decide +kernel) (by decide +kernel)
theorem m_in_Math : Cond.initialized "java/lang/Math" ∈ TT := tt_m1 12 (by decide +kernel) (by decide +kernel)
theorem m_in_X2 : Cond.initialized RX2 ∈ TT := tt_m1 13 (by decide +kernel) (by decide +kernel)
theorem m_in_System : Cond.initialized "java/lang/System" ∈ TT := tt_m1 14 (by decide +kernel) (by decide +kernel)
theorem m_in_X0 : Cond.initialized RX0 ∈ TT := tt_m1 15 (by decide +kernel) (by decide +kernel)
theorem m_cl_L_8 : Cond.classLink RL 8 RX5 ∈ TT := tt_m1 16 (by decide +kernel) (by decide +kernel)
theorem m_nw_X5 : Cond.instantiable RX5 6 ∈ TT := tt_m1 17 (by decide +kernel) (by decide +kernel)
theorem m_ml_L_120 : Cond.methodLink RL 120 yX5_init ∈ TT := tt_m1 18 (by decide +kernel) (by decide +kernel)
theorem m_im_X5_init : Cond.instanceMethod yX5_init ∈ TT := tt_m1 19 (by decide +kernel) (by decide +kernel)
theorem m_cd_X5_init : Cond.code yX5_init cX5_init 1 none ∈ TT := tt_m1 20 (by decide +kernel) (by decide +kernel)
theorem m_ml_X5_1 : Cond.methodLink RX5 1 ⟨"java/lang/Object", "<init>", "()V"⟩ ∈ TT := tt_m1 21 (by decide +kernel) (by decide +kernel)
theorem m_im_objectInit : Cond.instanceMethod objectInit ∈ TT := tt_m1 22 (by decide +kernel) (by decide +kernel)
theorem m_cl_X5_9 : Cond.classLink RX5 9 RX3 ∈ TT := tt_m1 24 (by decide +kernel) (by decide +kernel)
theorem m_cl_X5_15 : Cond.classLink RX5 15 RX1 ∈ TT := tt_m1 26 (by decide +kernel) (by decide +kernel)
theorem m_nw_X1 : Cond.instantiable RX1 6 ∈ TT := tt_m1 27 (by decide +kernel) (by decide +kernel)
theorem m_im_X1_init : Cond.instanceMethod yX1_init ∈ TT := tt_m1 29 (by decide +kernel) (by decide +kernel)
theorem m_cd_X1_init : Cond.code yX1_init cX1_init 1 none ∈ TT := tt_m1 30 (by decide +kernel) (by decide +kernel)
theorem m_ml_X1_3 : Cond.methodLink RX1 3 ⟨"java/lang/Object", "<init>", "()V"⟩ ∈ TT := tt_m1 31 (by decide +kernel) (by decide +kernel)
theorem m_fl_X1_18 : Cond.fieldLink RX1 18 "DaybreakFlags$Asker" "user" "I" ∈ TT := tt_m1 32 (by decide +kernel) (by decide +kernel)
theorem m_fl_X1_21 : Cond.fieldLink RX1 21 "DaybreakFlags$Asker" "first" "I" ∈ TT := tt_m1 34 (by decide +kernel) (by decide +kernel)
theorem m_fl_X1_24 : Cond.fieldLink RX1 24 "DaybreakFlags$Asker" "second" "I" ∈ TT := tt_m1 36 (by decide +kernel) (by decide +kernel)
theorem m_fl_X1_9 : Cond.fieldLink RX1 9 "DaybreakFlags$Asker" "turned" "I" ∈ TT := tt_m1 38 (by decide +kernel) (by decide +kernel)
theorem m_fl_X1_15 : Cond.fieldLink RX1 15 "DaybreakFlags$Asker" "ramped" "I" ∈ TT := tt_m1 39 (by decide +kernel) (by decide +kernel)
theorem m_fl_X1_31 : Cond.fieldLink RX1 31 "DaybreakFlags$Asker" "rampedTo" "I" ∈ TT := tt_m1 40 (by decide +kernel) (by decide +kernel)
theorem m_fl_X5_11 : Cond.fieldLink RX5 11 "DaybreakFlags" "row" "[LDaybreakFlags$Switch;" ∈ TT := tt_m1 54 (by decide +kernel) (by decide +kernel)
theorem m_fl_X5_18 : Cond.fieldLink RX5 18 "DaybreakFlags" "asker" "LDaybreakFlags$Asker;" ∈ TT := tt_m1 55 (by decide +kernel) (by decide +kernel)
theorem m_fl_X5_33 : Cond.fieldLink RX5 33 "DaybreakFlags" "switchCount" "I" ∈ TT := tt_m1 56 (by decide +kernel) (by decide +kernel)
theorem m_fl_X5_165 : Cond.fieldLink RX5 165 "DaybreakFlags" "armCount" "I" ∈ TT := tt_m1 57 (by decide +kernel) (by decide +kernel)
theorem m_fl_X5_132 : Cond.fieldLink RX5 132 "DaybreakFlags" "holdout" "I" ∈ TT := tt_m1 58 (by decide +kernel) (by decide +kernel)
theorem m_fl_X5_69 : Cond.fieldLink RX5 69 "DaybreakFlags" "clock" "I" ∈ TT := tt_m1 59 (by decide +kernel) (by decide +kernel)
theorem m_ml_L_167 : Cond.methodLink RL 167 yX5_switches ∈ TT := tt_m1 73 (by decide +kernel) (by decide +kernel)
theorem m_im_X5_switches : Cond.instanceMethod yX5_switches ∈ TT := tt_m1 74 (by decide +kernel) (by decide +kernel)
theorem m_sl_X5_switches : Cond.selects RX5 yX5_switches yX5_switches ∈ TT := tt_m1 75 (by decide +kernel) (by decide +kernel)
theorem m_cd_X5_switches : Cond.code yX5_switches cX5_switches 1 (some .int) ∈ TT := tt_m1 76 (by decide +kernel) (by decide +kernel)
theorem m_ml_L_201 : Cond.methodLink RL 201 yX5_arms ∈ TT := tt_m1 77 (by decide +kernel) (by decide +kernel)
theorem m_im_X5_arms : Cond.instanceMethod yX5_arms ∈ TT := tt_m1 78 (by decide +kernel) (by decide +kernel)
theorem m_sl_X5_arms : Cond.selects RX5 yX5_arms yX5_arms ∈ TT := tt_m1 79 (by decide +kernel) (by decide +kernel)
theorem m_cd_X5_arms : Cond.code yX5_arms cX5_arms 1 (some .int) ∈ TT := tt_m1 80 (by decide +kernel) (by decide +kernel)
theorem m_ml_L_242 : Cond.methodLink RL 242 yX5_digest ∈ TT := tt_m1 81 (by decide +kernel) (by decide +kernel)
theorem m_im_X5_digest : Cond.instanceMethod yX5_digest ∈ TT := tt_m1 82 (by decide +kernel) (by decide +kernel)
theorem m_sl_X5_digest : Cond.selects RX5 yX5_digest yX5_digest ∈ TT := tt_m1 83 (by decide +kernel) (by decide +kernel)
theorem m_cd_X5_digest : Cond.code yX5_digest cX5_digest 5 (some .long) ∈ TT := tt_m1 84 (by decide +kernel) (by decide +kernel)
theorem m_lc_X5_244 : Cond.constantLong RX5 244 (2687) ∈ TT := tt_m1 85 (by decide +kernel) (by decide +kernel)
theorem m_ml_X5_246 : Cond.methodLink RX5 246 yX5_switches ∈ TT := tt_m1 86 (by decide +kernel) (by decide +kernel)
theorem m_ml_X5_249 : Cond.methodLink RX5 249 yX5_withNext ∈ TT := tt_m1 87 (by decide +kernel) (by decide +kernel)
theorem m_st_X5_withNext : Cond.static yX5_withNext ∈ TT := tt_m1 88 (by decide +kernel) (by decide +kernel)
theorem m_cd_X5_withNext : Cond.code yX5_withNext cX5_withNext 4 (some .long) ∈ TT := tt_m1 89 (by decide +kernel) (by decide +kernel)
theorem m_lc_X5_299 : Cond.constantLong RX5 299 (31) ∈ TT := tt_m1 90 (by decide +kernel) (by decide +kernel)
theorem m_ml_X5_253 : Cond.methodLink RX5 253 yX5_arms ∈ TT := tt_m1 91 (by decide +kernel) (by decide +kernel)
theorem m_ml_X5_256 : Cond.methodLink RX5 256 yX5_left ∈ TT := tt_m1 92 (by decide +kernel) (by decide +kernel)
theorem m_im_X5_left : Cond.instanceMethod yX5_left ∈ TT := tt_m1 93 (by decide +kernel) (by decide +kernel)
theorem m_sl_X5_left : Cond.selects RX5 yX5_left yX5_left ∈ TT := tt_m1 94 (by decide +kernel) (by decide +kernel)
theorem m_cd_X5_left : Cond.code yX5_left cX5_left 7 (some .int) ∈ TT := tt_m1 95 (by decide +kernel) (by decide +kernel)
theorem m_ml_X5_22 : Cond.methodLink RX5 22 yX5_isOutside ∈ TT := tt_m1 96 (by decide +kernel) (by decide +kernel)
theorem m_st_X5_isOutside : Cond.static yX5_isOutside ∈ TT := tt_m1 97 (by decide +kernel) (by decide +kernel)
theorem m_cd_X5_isOutside : Cond.code yX5_isOutside cX5_isOutside 3 (some .boolean) ∈ TT := tt_m1 98 (by decide +kernel) (by decide +kernel)
theorem m_cl_X5_121 : Cond.classLink RX5 121 "java/lang/IndexOutOfBoundsException" ∈ TT := tt_m1 99 (by decide +kernel) (by decide +kernel)
theorem m_ml_X5_125 : Cond.methodLink RX5 125 ⟨"java/lang/IndexOutOfBoundsException", "<init>", "(Ljava/lang/String;)V"⟩ ∈ TT := tt_m1 141 (by decide +kernel) (by decide +kernel)
theorem m_ar_byte : Cond.arrayClass .byte ∈ TT := tt_m1 166 (by decide +kernel) (by decide +kernel)
theorem m_ml_X5_259 : Cond.methodLink RX5 259 yX5_withSwitch ∈ TT := tt_m1 167 (by decide +kernel) (by decide +kernel)
theorem m_im_X5_withSwitch : Cond.instanceMethod yX5_withSwitch ∈ TT := tt_m1 169 (by decide +kernel) (by decide +kernel)
theorem m_cd_X5_withSwitch : Cond.code yX5_withSwitch cX5_withSwitch 9 (some .long) ∈ TT := tt_m1 170 (by decide +kernel) (by decide +kernel)
theorem m_ml_X5_273 : Cond.methodLink RX5 273 yX5_share ∈ TT := tt_m1 171 (by decide +kernel) (by decide +kernel)
theorem m_im_X5_share : Cond.instanceMethod yX5_share ∈ TT := tt_m1 172 (by decide +kernel) (by decide +kernel)
theorem m_sl_X5_share : Cond.selects RX5 yX5_share yX5_share ∈ TT := tt_m1 173 (by decide +kernel) (by decide +kernel)
theorem m_cd_X5_share : Cond.code yX5_share cX5_share 2 (some .int) ∈ TT := tt_m1 174 (by decide +kernel) (by decide +kernel)
theorem m_ml_X5_45 : Cond.methodLink RX5 45 yX5_known ∈ TT := tt_m1 175 (by decide +kernel) (by decide +kernel)
theorem m_im_X5_known : Cond.instanceMethod yX5_known ∈ TT := tt_m1 177 (by decide +kernel) (by decide +kernel)
theorem m_cd_X5_known : Cond.code yX5_known cX5_known 3 (some (.object "DaybreakFlags$Switch")) ∈ TT := tt_m1 178 (by decide +kernel) (by decide +kernel)
theorem m_ml_X5_301 : Cond.methodLink RX5 301 yX5_switchAt ∈ TT := tt_m1 179 (by decide +kernel) (by decide +kernel)
theorem m_im_X5_switchAt : Cond.instanceMethod yX5_switchAt ∈ TT := tt_m1 181 (by decide +kernel) (by decide +kernel)
theorem m_cd_X5_switchAt : Cond.code yX5_switchAt cX5_switchAt 2 (some (.object "DaybreakFlags$Switch")) ∈ TT := tt_m1 182 (by decide +kernel) (by decide +kernel)
theorem m_ml_X5_72 : Cond.methodLink RX5 72 yX3_farAt ∈ TT := tt_m1 184 (by decide +kernel) (by decide +kernel)
theorem m_im_X3_farAt : Cond.instanceMethod yX3_farAt ∈ TT := tt_m1 185 (by decide +kernel) (by decide +kernel)
theorem m_sl_X3_farAt : Cond.selects RX3 yX3_farAt yX3_farAt ∈ TT := tt_m1 186 (by decide +kernel) (by decide +kernel)
theorem m_cd_X3_farAt : Cond.code yX3_farAt cX3_farAt 4 (some .int) ∈ TT := tt_m1 187 (by decide +kernel) (by decide +kernel)
theorem m_lc_X3_57 : Cond.constantLong RX3 57 (1000) ∈ TT := tt_m1 188 (by decide +kernel) (by decide +kernel)
theorem m_ml_X5_276 : Cond.methodLink RX5 276 yX5_bad ∈ TT := tt_m1 189 (by decide +kernel) (by decide +kernel)
theorem m_im_X5_bad : Cond.instanceMethod yX5_bad ∈ TT := tt_m1 190 (by decide +kernel) (by decide +kernel)
theorem m_sl_X5_bad : Cond.selects RX5 yX5_bad yX5_bad ∈ TT := tt_m1 191 (by decide +kernel) (by decide +kernel)
theorem m_cd_X5_bad : Cond.code yX5_bad cX5_bad 2 (some .int) ∈ TT := tt_m1 192 (by decide +kernel) (by decide +kernel)
theorem m_ml_X5_219 : Cond.methodLink RX5 219 yX3_badness ∈ TT := tt_m1 193 (by decide +kernel) (by decide +kernel)
theorem m_im_X3_badness : Cond.instanceMethod yX3_badness ∈ TT := tt_m1 194 (by decide +kernel) (by decide +kernel)
theorem m_sl_X3_badness : Cond.selects RX3 yX3_badness yX3_badness ∈ TT := tt_m1 195 (by decide +kernel) (by decide +kernel)
theorem m_cd_X3_badness : Cond.code yX3_badness cX3_badness 10 (some .int) ∈ TT := tt_m1 196 (by decide +kernel) (by decide +kernel)
theorem m_ml_X3_124 : Cond.methodLink RX3 124 yX4_countOf ∈ TT := tt_m1 197 (by decide +kernel) (by decide +kernel)
theorem m_im_X4_countOf : Cond.instanceMethod yX4_countOf ∈ TT := tt_m1 198 (by decide +kernel) (by decide +kernel)
theorem m_sl_X4_countOf : Cond.selects RX4 yX4_countOf yX4_countOf ∈ TT := tt_m1 199 (by decide +kernel) (by decide +kernel)
theorem m_cd_X4_countOf : Cond.code yX4_countOf cX4_countOf 2 (some .int) ∈ TT := tt_m1 200 (by decide +kernel) (by decide +kernel)
theorem m_ml_X4_25 : Cond.methodLink RX4 25 yX4_isKept ∈ TT := tt_m1 201 (by decide +kernel) (by decide +kernel)
theorem m_st_X4_isKept : Cond.static yX4_isKept ∈ TT := tt_m1 202 (by decide +kernel) (by decide +kernel)
theorem m_cd_X4_isKept : Cond.code yX4_isKept cX4_isKept 1 (some .boolean) ∈ TT := tt_m1 203 (by decide +kernel) (by decide +kernel)
theorem m_lc_X3_128 : Cond.constantLong RX3 128 (10) ∈ TT := tt_m1 204 (by decide +kernel) (by decide +kernel)
theorem m_ml_X5_279 : Cond.methodLink RX5 279 yX5_isTrusted ∈ TT := tt_m1 205 (by decide +kernel) (by decide +kernel)
theorem m_im_X5_isTrusted : Cond.instanceMethod yX5_isTrusted ∈ TT := tt_m1 206 (by decide +kernel) (by decide +kernel)
theorem m_sl_X5_isTrusted : Cond.selects RX5 yX5_isTrusted yX5_isTrusted ∈ TT := tt_m1 207 (by decide +kernel) (by decide +kernel)
theorem m_cd_X5_isTrusted : Cond.code yX5_isTrusted cX5_isTrusted 2 (some .boolean) ∈ TT := tt_m1 208 (by decide +kernel) (by decide +kernel)
theorem m_ml_X5_223 : Cond.methodLink RX5 223 yX3_canBeTrusted ∈ TT := tt_m1 209 (by decide +kernel) (by decide +kernel)
theorem m_im_X3_canBeTrusted : Cond.instanceMethod yX3_canBeTrusted ∈ TT := tt_m1 210 (by decide +kernel) (by decide +kernel)
theorem m_sl_X3_canBeTrusted : Cond.selects RX3 yX3_canBeTrusted yX3_canBeTrusted ∈ TT := tt_m1 211 (by decide +kernel) (by decide +kernel)
theorem m_cd_X3_canBeTrusted : Cond.code yX3_canBeTrusted cX3_canBeTrusted 3 (some .boolean) ∈ TT := tt_m1 212 (by decide +kernel) (by decide +kernel)
theorem m_ml_X3_130 : Cond.methodLink RX3 130 yX3_badness ∈ TT := tt_m1 213 (by decide +kernel) (by decide +kernel)
theorem m_ml_X3_134 : Cond.methodLink RX3 134 yX3_mostBadness ∈ TT := tt_m1 214 (by decide +kernel) (by decide +kernel)
theorem m_st_X3_mostBadness : Cond.static yX3_mostBadness ∈ TT := tt_m1 215 (by decide +kernel) (by decide +kernel)
theorem m_cd_X3_mostBadness : Cond.code yX3_mostBadness cX3_mostBadness 1 (some .int) ∈ TT := tt_m1 216 (by decide +kernel) (by decide +kernel)
theorem m_ml_X5_283 : Cond.methodLink RX5 283 yX5_best ∈ TT := tt_m1 217 (by decide +kernel) (by decide +kernel)
theorem m_im_X5_best : Cond.instanceMethod yX5_best ∈ TT := tt_m1 218 (by decide +kernel) (by decide +kernel)
theorem m_sl_X5_best : Cond.selects RX5 yX5_best yX5_best ∈ TT := tt_m1 219 (by decide +kernel) (by decide +kernel)
theorem m_cd_X5_best : Cond.code yX5_best cX5_best 2 (some .int) ∈ TT := tt_m1 220 (by decide +kernel) (by decide +kernel)
theorem m_ml_X5_227 : Cond.methodLink RX5 227 yX4_bestVariant ∈ TT := tt_m1 221 (by decide +kernel) (by decide +kernel)
theorem m_im_X4_bestVariant : Cond.instanceMethod yX4_bestVariant ∈ TT := tt_m1 222 (by decide +kernel) (by decide +kernel)
theorem m_sl_X4_bestVariant : Cond.selects RX4 yX4_bestVariant yX4_bestVariant ∈ TT := tt_m1 223 (by decide +kernel) (by decide +kernel)
theorem m_cd_X4_bestVariant : Cond.code yX4_bestVariant cX4_bestVariant 3 (some .int) ∈ TT := tt_m1 224 (by decide +kernel) (by decide +kernel)
theorem m_ml_X4_33 : Cond.methodLink RX4 33 yX4_countOf ∈ TT := tt_m1 225 (by decide +kernel) (by decide +kernel)
theorem m_ml_X4_40 : Cond.methodLink RX4 40 yX4_meanOf ∈ TT := tt_m1 226 (by decide +kernel) (by decide +kernel)
theorem m_im_X4_meanOf : Cond.instanceMethod yX4_meanOf ∈ TT := tt_m1 227 (by decide +kernel) (by decide +kernel)
theorem m_sl_X4_meanOf : Cond.selects RX4 yX4_meanOf yX4_meanOf ∈ TT := tt_m1 228 (by decide +kernel) (by decide +kernel)
theorem m_cd_X4_meanOf : Cond.code yX4_meanOf cX4_meanOf 3 (some .double) ∈ TT := tt_m1 229 (by decide +kernel) (by decide +kernel)
theorem m_ml_X4_37 : Cond.methodLink RX4 37 yX4_sumOf ∈ TT := tt_m1 230 (by decide +kernel) (by decide +kernel)
theorem m_im_X4_sumOf : Cond.instanceMethod yX4_sumOf ∈ TT := tt_m1 231 (by decide +kernel) (by decide +kernel)
theorem m_sl_X4_sumOf : Cond.selects RX4 yX4_sumOf yX4_sumOf ∈ TT := tt_m1 232 (by decide +kernel) (by decide +kernel)
theorem m_cd_X4_sumOf : Cond.code yX4_sumOf cX4_sumOf 2 (some .int) ∈ TT := tt_m1 233 (by decide +kernel) (by decide +kernel)
theorem m_ml_X5_289 : Cond.methodLink RX5 289 yX5_weight ∈ TT := tt_m1 234 (by decide +kernel) (by decide +kernel)
theorem m_im_X5_weight : Cond.instanceMethod yX5_weight ∈ TT := tt_m1 235 (by decide +kernel) (by decide +kernel)
theorem m_sl_X5_weight : Cond.selects RX5 yX5_weight yX5_weight ∈ TT := tt_m1 236 (by decide +kernel) (by decide +kernel)
theorem m_cd_X5_weight : Cond.code yX5_weight cX5_weight 4 (some .int) ∈ TT := tt_m1 237 (by decide +kernel) (by decide +kernel)
theorem m_ml_X5_49 : Cond.methodLink RX5 49 yX5_checkVariant ∈ TT := tt_m1 238 (by decide +kernel) (by decide +kernel)
theorem m_st_X5_checkVariant : Cond.static yX5_checkVariant ∈ TT := tt_m1 239 (by decide +kernel) (by decide +kernel)
theorem m_cd_X5_checkVariant : Cond.code yX5_checkVariant cX5_checkVariant 2 none ∈ TT := tt_m2 0 (by decide +kernel) (by decide +kernel)
theorem m_ml_X5_53 : Cond.methodLink RX5 53 yX3_weightOf ∈ TT := tt_m2 2 (by decide +kernel) (by decide +kernel)
theorem m_im_X3_weightOf : Cond.instanceMethod yX3_weightOf ∈ TT := tt_m2 3 (by decide +kernel) (by decide +kernel)
theorem m_sl_X3_weightOf : Cond.selects RX3 yX3_weightOf yX3_weightOf ∈ TT := tt_m2 4 (by decide +kernel) (by decide +kernel)
theorem m_cd_X3_weightOf : Cond.code yX3_weightOf cX3_weightOf 2 (some .int) ∈ TT := tt_m2 5 (by decide +kernel) (by decide +kernel)
theorem m_ml_X5_292 : Cond.methodLink RX5 292 yX5_told ∈ TT := tt_m2 6 (by decide +kernel) (by decide +kernel)
theorem m_im_X5_told : Cond.instanceMethod yX5_told ∈ TT := tt_m2 7 (by decide +kernel) (by decide +kernel)
theorem m_sl_X5_told : Cond.selects RX5 yX5_told yX5_told ∈ TT := tt_m2 8 (by decide +kernel) (by decide +kernel)
theorem m_cd_X5_told : Cond.code yX5_told cX5_told 5 (some .int) ∈ TT := tt_m2 9 (by decide +kernel) (by decide +kernel)
theorem m_ml_X5_192 : Cond.methodLink RX5 192 yX4_countOf ∈ TT := tt_m2 10 (by decide +kernel) (by decide +kernel)
theorem m_ml_X5_197 : Cond.methodLink RX5 197 yX4_actedOf ∈ TT := tt_m2 11 (by decide +kernel) (by decide +kernel)
theorem m_im_X4_actedOf : Cond.instanceMethod yX4_actedOf ∈ TT := tt_m2 12 (by decide +kernel) (by decide +kernel)
theorem m_sl_X4_actedOf : Cond.selects RX4 yX4_actedOf yX4_actedOf ∈ TT := tt_m2 13 (by decide +kernel) (by decide +kernel)
theorem m_cd_X4_actedOf : Cond.code yX4_actedOf cX4_actedOf 2 (some .int) ∈ TT := tt_m2 14 (by decide +kernel) (by decide +kernel)
theorem m_ml_X5_200 : Cond.methodLink RX5 200 yX4_sumOf ∈ TT := tt_m2 15 (by decide +kernel) (by decide +kernel)
theorem m_ml_X5_203 : Cond.methodLink RX5 203 yX4_squaresOf ∈ TT := tt_m2 16 (by decide +kernel) (by decide +kernel)
theorem m_im_X4_squaresOf : Cond.instanceMethod yX4_squaresOf ∈ TT := tt_m2 17 (by decide +kernel) (by decide +kernel)
theorem m_sl_X4_squaresOf : Cond.selects RX4 yX4_squaresOf yX4_squaresOf ∈ TT := tt_m2 18 (by decide +kernel) (by decide +kernel)
theorem m_cd_X4_squaresOf : Cond.code yX4_squaresOf cX4_squaresOf 2 (some .long) ∈ TT := tt_m2 19 (by decide +kernel) (by decide +kernel)
theorem m_cl_X5_26 : Cond.classLink RX5 26 "java/lang/IllegalArgumentException" ∈ TT := tt_m2 20 (by decide +kernel) (by decide +kernel)
theorem m_ml_X5_30 : Cond.methodLink RX5 30 ⟨"java/lang/IllegalArgumentException", "<init>", "(Ljava/lang/String;)V"⟩ ∈ TT := tt_m2 30 (by decide +kernel) (by decide +kernel)
theorem m_ml_X5_296 : Cond.methodLink RX5 296 yX5_reach ∈ TT := tt_m2 36 (by decide +kernel) (by decide +kernel)
theorem m_im_X5_reach : Cond.instanceMethod yX5_reach ∈ TT := tt_m2 37 (by decide +kernel) (by decide +kernel)
theorem m_sl_X5_reach : Cond.selects RX5 yX5_reach yX5_reach ∈ TT := tt_m2 38 (by decide +kernel) (by decide +kernel)
theorem m_cd_X5_reach : Cond.code yX5_reach cX5_reach 7 (some .int) ∈ TT := tt_m2 39 (by decide +kernel) (by decide +kernel)
theorem m_ml_X5_230 : Cond.methodLink RX5 230 yX5_checkMany ∈ TT := tt_m2 40 (by decide +kernel) (by decide +kernel)
theorem m_st_X5_checkMany : Cond.static yX5_checkMany ∈ TT := tt_m2 41 (by decide +kernel) (by decide +kernel)
theorem m_cd_X5_checkMany : Cond.code yX5_checkMany cX5_checkMany 1 none ∈ TT := tt_m2 42 (by decide +kernel) (by decide +kernel)
theorem m_ml_X5_233 : Cond.methodLink RX5 233 yX1_becomeCounted ∈ TT := tt_m2 44 (by decide +kernel) (by decide +kernel)
theorem m_im_X1_becomeCounted : Cond.instanceMethod yX1_becomeCounted ∈ TT := tt_m2 45 (by decide +kernel) (by decide +kernel)
theorem m_sl_X1_becomeCounted : Cond.selects RX1 yX1_becomeCounted yX1_becomeCounted ∈ TT := tt_m2 46 (by decide +kernel) (by decide +kernel)
theorem m_cd_X1_becomeCounted : Cond.code yX1_becomeCounted cX1_becomeCounted 2 none ∈ TT := tt_m2 47 (by decide +kernel) (by decide +kernel)
theorem m_ml_X1_27 : Cond.methodLink RX1 27 yX1_become ∈ TT := tt_m2 48 (by decide +kernel) (by decide +kernel)
theorem m_im_X1_become : Cond.instanceMethod yX1_become ∈ TT := tt_m2 49 (by decide +kernel) (by decide +kernel)
theorem m_sl_X1_become : Cond.selects RX1 yX1_become yX1_become ∈ TT := tt_m2 50 (by decide +kernel) (by decide +kernel)
theorem m_cd_X1_become : Cond.code yX1_become cX1_become 4 none ∈ TT := tt_m2 51 (by decide +kernel) (by decide +kernel)
theorem m_ml_X5_151 : Cond.methodLink RX5 151 yX5_variantOf ∈ TT := tt_m2 52 (by decide +kernel) (by decide +kernel)
theorem m_im_X5_variantOf : Cond.instanceMethod yX5_variantOf ∈ TT := tt_m2 54 (by decide +kernel) (by decide +kernel)
theorem m_cd_X5_variantOf : Cond.code yX5_variantOf cX5_variantOf 2 (some .int) ∈ TT := tt_m2 55 (by decide +kernel) (by decide +kernel)
theorem m_ml_X5_155 : Cond.methodLink RX5 155 yX5_reasonOf ∈ TT := tt_m2 56 (by decide +kernel) (by decide +kernel)
theorem m_im_X5_reasonOf : Cond.instanceMethod yX5_reasonOf ∈ TT := tt_m2 58 (by decide +kernel) (by decide +kernel)
theorem m_cd_X5_reasonOf : Cond.code yX5_reasonOf cX5_reasonOf 3 (some .int) ∈ TT := tt_m2 59 (by decide +kernel) (by decide +kernel)
theorem m_ml_X5_340 : Cond.methodLink RX5 340 yX1_findsOn ∈ TT := tt_m2 60 (by decide +kernel) (by decide +kernel)
theorem m_im_X1_findsOn : Cond.instanceMethod yX1_findsOn ∈ TT := tt_m2 61 (by decide +kernel) (by decide +kernel)
theorem m_sl_X1_findsOn : Cond.selects RX1 yX1_findsOn yX1_findsOn ∈ TT := tt_m2 62 (by decide +kernel) (by decide +kernel)
theorem m_cd_X1_findsOn : Cond.code yX1_findsOn cX1_findsOn 2 (some .boolean) ∈ TT := tt_m2 63 (by decide +kernel) (by decide +kernel)
theorem m_ml_X5_344 : Cond.methodLink RX5 344 yX5_hasNeed ∈ TT := tt_m2 64 (by decide +kernel) (by decide +kernel)
theorem m_im_X5_hasNeed : Cond.instanceMethod yX5_hasNeed ∈ TT := tt_m2 66 (by decide +kernel) (by decide +kernel)
theorem m_cd_X5_hasNeed : Cond.code yX5_hasNeed cX5_hasNeed 3 (some .boolean) ∈ TT := tt_m2 67 (by decide +kernel) (by decide +kernel)
theorem m_ml_X5_168 : Cond.methodLink RX5 168 yX3_armOf ∈ TT := tt_m2 68 (by decide +kernel) (by decide +kernel)
theorem m_im_X3_armOf : Cond.instanceMethod yX3_armOf ∈ TT := tt_m2 69 (by decide +kernel) (by decide +kernel)
theorem m_sl_X3_armOf : Cond.selects RX3 yX3_armOf yX3_armOf ∈ TT := tt_m2 70 (by decide +kernel) (by decide +kernel)
theorem m_cd_X3_armOf : Cond.code yX3_armOf cX3_armOf 3 (some (.object "DaybreakFlags$Arm")) ∈ TT := tt_m2 71 (by decide +kernel) (by decide +kernel)
theorem m_ml_X5_158 : Cond.methodLink RX5 158 yX3_firstRuleFor ∈ TT := tt_m2 72 (by decide +kernel) (by decide +kernel)
theorem m_im_X3_firstRuleFor : Cond.instanceMethod yX3_firstRuleFor ∈ TT := tt_m2 73 (by decide +kernel) (by decide +kernel)
theorem m_sl_X3_firstRuleFor : Cond.selects RX3 yX3_firstRuleFor yX3_firstRuleFor ∈ TT := tt_m2 74 (by decide +kernel) (by decide +kernel)
theorem m_cd_X3_firstRuleFor : Cond.code yX3_firstRuleFor cX3_firstRuleFor 5 (some .int) ∈ TT := tt_m2 75 (by decide +kernel) (by decide +kernel)
theorem m_ml_X3_81 : Cond.methodLink RX3 81 yX2_isMetBy ∈ TT := tt_m2 76 (by decide +kernel) (by decide +kernel)
theorem m_im_X2_isMetBy : Cond.instanceMethod yX2_isMetBy ∈ TT := tt_m2 77 (by decide +kernel) (by decide +kernel)
theorem m_sl_X2_isMetBy : Cond.selects RX2 yX2_isMetBy yX2_isMetBy ∈ TT := tt_m2 78 (by decide +kernel) (by decide +kernel)
theorem m_cd_X2_isMetBy : Cond.code yX2_isMetBy cX2_isMetBy 4 (some .boolean) ∈ TT := tt_m2 79 (by decide +kernel) (by decide +kernel)
theorem m_ml_X5_329 : Cond.methodLink RX5 329 yX3_ruleAt ∈ TT := tt_m2 80 (by decide +kernel) (by decide +kernel)
theorem m_im_X3_ruleAt : Cond.instanceMethod yX3_ruleAt ∈ TT := tt_m2 81 (by decide +kernel) (by decide +kernel)
theorem m_sl_X3_ruleAt : Cond.selects RX3 yX3_ruleAt yX3_ruleAt ∈ TT := tt_m2 82 (by decide +kernel) (by decide +kernel)
theorem m_cd_X3_ruleAt : Cond.code yX3_ruleAt cX3_ruleAt 2 (some (.object "DaybreakFlags$Rule")) ∈ TT := tt_m2 83 (by decide +kernel) (by decide +kernel)
theorem m_ml_X5_141 : Cond.methodLink RX5 141 yX5_bucketOf ∈ TT := tt_m2 84 (by decide +kernel) (by decide +kernel)
theorem m_st_X5_bucketOf : Cond.static yX5_bucketOf ∈ TT := tt_m2 85 (by decide +kernel) (by decide +kernel)
theorem m_cd_X5_bucketOf : Cond.code yX5_bucketOf cX5_bucketOf 4 (some .int) ∈ TT := tt_m2 86 (by decide +kernel) (by decide +kernel)
theorem m_ml_X5_350 : Cond.methodLink RX5 350 yX5_isInLayer ∈ TT := tt_m2 87 (by decide +kernel) (by decide +kernel)
theorem m_im_X5_isInLayer : Cond.instanceMethod yX5_isInLayer ∈ TT := tt_m2 89 (by decide +kernel) (by decide +kernel)
theorem m_cd_X5_isInLayer : Cond.code yX5_isInLayer cX5_isInLayer 3 (some .boolean) ∈ TT := tt_m2 90 (by decide +kernel) (by decide +kernel)
theorem m_ml_X5_353 : Cond.methodLink RX5 353 yX1_findsFar ∈ TT := tt_m2 91 (by decide +kernel) (by decide +kernel)
theorem m_im_X1_findsFar : Cond.instanceMethod yX1_findsFar ∈ TT := tt_m2 92 (by decide +kernel) (by decide +kernel)
theorem m_sl_X1_findsFar : Cond.selects RX1 yX1_findsFar yX1_findsFar ∈ TT := tt_m2 93 (by decide +kernel) (by decide +kernel)
theorem m_cd_X1_findsFar : Cond.code yX1_findsFar cX1_findsFar 3 (some .int) ∈ TT := tt_m2 94 (by decide +kernel) (by decide +kernel)
theorem m_ml_X1_43 : Cond.methodLink RX1 43 yX3_farAt ∈ TT := tt_m2 95 (by decide +kernel) (by decide +kernel)
theorem m_ml_X5_161 : Cond.methodLink RX5 161 yX5_variantBy ∈ TT := tt_m2 96 (by decide +kernel) (by decide +kernel)
theorem m_im_X5_variantBy : Cond.instanceMethod yX5_variantBy ∈ TT := tt_m2 98 (by decide +kernel) (by decide +kernel)
theorem m_cd_X5_variantBy : Cond.code yX5_variantBy cX5_variantBy 5 (some .int) ∈ TT := tt_m2 99 (by decide +kernel) (by decide +kernel)
theorem m_ml_X5_337 : Cond.methodLink RX5 337 yX3_splitBy ∈ TT := tt_m2 100 (by decide +kernel) (by decide +kernel)
theorem m_im_X3_splitBy : Cond.instanceMethod yX3_splitBy ∈ TT := tt_m2 101 (by decide +kernel) (by decide +kernel)
theorem m_sl_X3_splitBy : Cond.selects RX3 yX3_splitBy yX3_splitBy ∈ TT := tt_m2 102 (by decide +kernel) (by decide +kernel)
theorem m_cd_X3_splitBy : Cond.code yX3_splitBy cX3_splitBy 4 (some .int) ∈ TT := tt_m2 103 (by decide +kernel) (by decide +kernel)
theorem m_ml_X5_263 : Cond.methodLink RX5 263 yX5_gets ∈ TT := tt_m2 104 (by decide +kernel) (by decide +kernel)
theorem m_im_X5_gets : Cond.instanceMethod yX5_gets ∈ TT := tt_m2 105 (by decide +kernel) (by decide +kernel)
theorem m_sl_X5_gets : Cond.selects RX5 yX5_gets yX5_gets ∈ TT := tt_m2 106 (by decide +kernel) (by decide +kernel)
theorem m_cd_X5_gets : Cond.code yX5_gets cX5_gets 6 (some .int) ∈ TT := tt_m2 107 (by decide +kernel) (by decide +kernel)
theorem m_ml_X5_145 : Cond.methodLink RX5 145 yX5_checkAsker ∈ TT := tt_m2 108 (by decide +kernel) (by decide +kernel)
theorem m_st_X5_checkAsker : Cond.static yX5_checkAsker ∈ TT := tt_m2 109 (by decide +kernel) (by decide +kernel)
theorem m_cd_X5_checkAsker : Cond.code yX5_checkAsker cX5_checkAsker 3 none ∈ TT := tt_m2 110 (by decide +kernel) (by decide +kernel)
theorem m_ml_X5_148 : Cond.methodLink RX5 148 yX1_become ∈ TT := tt_m2 112 (by decide +kernel) (by decide +kernel)
theorem m_ml_X5_267 : Cond.methodLink RX5 267 yX5_why ∈ TT := tt_m2 113 (by decide +kernel) (by decide +kernel)
theorem m_im_X5_why : Cond.instanceMethod yX5_why ∈ TT := tt_m2 114 (by decide +kernel) (by decide +kernel)
theorem m_sl_X5_why : Cond.selects RX5 yX5_why yX5_why ∈ TT := tt_m2 115 (by decide +kernel) (by decide +kernel)
theorem m_cd_X5_why : Cond.code yX5_why cX5_why 6 (some .int) ∈ TT := tt_m2 116 (by decide +kernel) (by decide +kernel)
theorem m_ml_X5_270 : Cond.methodLink RX5 270 yX5_arm ∈ TT := tt_m2 117 (by decide +kernel) (by decide +kernel)
theorem m_im_X5_arm : Cond.instanceMethod yX5_arm ∈ TT := tt_m2 118 (by decide +kernel) (by decide +kernel)
theorem m_sl_X5_arm : Cond.selects RX5 yX5_arm yX5_arm ∈ TT := tt_m2 119 (by decide +kernel) (by decide +kernel)
theorem m_cd_X5_arm : Cond.code yX5_arm cX5_arm 5 (some .int) ∈ TT := tt_m2 120 (by decide +kernel) (by decide +kernel)
theorem m_ml_L_124 : Cond.methodLink RL 124 yL_add ∈ TT := tt_m2 122 (by decide +kernel) (by decide +kernel)
theorem m_st_L_add : Cond.static yL_add ∈ TT := tt_m2 123 (by decide +kernel) (by decide +kernel)
theorem m_cd_L_add : Cond.codeWith yL_add cL_add 6 (some .int) [(0, 12, 15, 13), (0, 12, 19, 15)] ∈ TT := tt_m2 124 (by decide +kernel) (by decide +kernel)
theorem m_cl_L_13 : Cond.classLink RL 13 "java/lang/IllegalArgumentException" ∈ TT := tt_m2 125 (by decide +kernel) (by decide +kernel)
theorem m_cl_L_15 : Cond.classLink RL 15 "java/lang/IllegalStateException" ∈ TT := tt_m2 126 (by decide +kernel) (by decide +kernel)
theorem m_ml_L_7 : Cond.methodLink RL 7 yX5_add ∈ TT := tt_m2 127 (by decide +kernel) (by decide +kernel)
theorem m_im_X5_add : Cond.instanceMethod yX5_add ∈ TT := tt_m2 128 (by decide +kernel) (by decide +kernel)
theorem m_sl_X5_add : Cond.selects RX5 yX5_add yX5_add ∈ TT := tt_m2 129 (by decide +kernel) (by decide +kernel)
theorem m_cd_X5_add : Cond.code yX5_add cX5_add 5 (some .int) ∈ TT := tt_m2 130 (by decide +kernel) (by decide +kernel)
theorem m_cl_X5_37 : Cond.classLink RX5 37 "java/lang/IllegalStateException" ∈ TT := tt_m2 132 (by decide +kernel) (by decide +kernel)
theorem m_ml_X5_41 : Cond.methodLink RX5 41 ⟨"java/lang/IllegalStateException", "<init>", "(Ljava/lang/String;)V"⟩ ∈ TT := tt_m2 142 (by decide +kernel) (by decide +kernel)
theorem m_nw_X3 : Cond.instantiable RX3 18 ∈ TT := tt_m2 148 (by decide +kernel) (by decide +kernel)
theorem m_ml_X5_42 : Cond.methodLink RX5 42 yX3_init ∈ TT := tt_m2 149 (by decide +kernel) (by decide +kernel)
theorem m_im_X3_init : Cond.instanceMethod yX3_init ∈ TT := tt_m2 150 (by decide +kernel) (by decide +kernel)
theorem m_cd_X3_init : Cond.code yX3_init cX3_init 5 none ∈ TT := tt_m2 151 (by decide +kernel) (by decide +kernel)
theorem m_ml_X3_3 : Cond.methodLink RX3 3 ⟨"java/lang/Object", "<init>", "()V"⟩ ∈ TT := tt_m2 152 (by decide +kernel) (by decide +kernel)
theorem m_cl_X3_15 : Cond.classLink RX3 15 RX2 ∈ TT := tt_m2 153 (by decide +kernel) (by decide +kernel)
theorem m_cl_X3_21 : Cond.classLink RX3 21 RX4 ∈ TT := tt_m2 155 (by decide +kernel) (by decide +kernel)
theorem m_nw_X4 : Cond.instantiable RX4 5 ∈ TT := tt_m2 156 (by decide +kernel) (by decide +kernel)
theorem m_im_X4_init : Cond.instanceMethod yX4_init ∈ TT := tt_m2 158 (by decide +kernel) (by decide +kernel)
theorem m_cd_X4_init : Cond.code yX4_init cX4_init 1 none ∈ TT := tt_m2 159 (by decide +kernel) (by decide +kernel)
theorem m_ml_X4_3 : Cond.methodLink RX4 3 ⟨"java/lang/Object", "<init>", "()V"⟩ ∈ TT := tt_m2 160 (by decide +kernel) (by decide +kernel)
theorem m_fl_X4_9 : Cond.fieldLink RX4 9 "DaybreakFlags$Tally" "counts" "[I" ∈ TT := tt_m2 161 (by decide +kernel) (by decide +kernel)
theorem m_fl_X4_15 : Cond.fieldLink RX4 15 "DaybreakFlags$Tally" "acted" "[I" ∈ TT := tt_m2 162 (by decide +kernel) (by decide +kernel)
theorem m_fl_X4_18 : Cond.fieldLink RX4 18 "DaybreakFlags$Tally" "sums" "[I" ∈ TT := tt_m2 163 (by decide +kernel) (by decide +kernel)
theorem m_fl_X4_21 : Cond.fieldLink RX4 21 "DaybreakFlags$Tally" "squares" "[J" ∈ TT := tt_m2 164 (by decide +kernel) (by decide +kernel)
theorem m_fl_X4_29 : Cond.fieldLink RX4 29 "DaybreakFlags$Tally" "total" "I" ∈ TT := tt_m2 165 (by decide +kernel) (by decide +kernel)
theorem m_ar_int : Cond.arrayClass .int ∈ TT := tt_m2 178 (by decide +kernel) (by decide +kernel)
theorem m_ar_long : Cond.arrayClass .long ∈ TT := tt_m2 179 (by decide +kernel) (by decide +kernel)
theorem m_fl_X3_38 : Cond.fieldLink RX3 38 "DaybreakFlags$Switch" "number" "I" ∈ TT := tt_m2 180 (by decide +kernel) (by decide +kernel)
theorem m_fl_X3_41 : Cond.fieldLink RX3 41 "DaybreakFlags$Switch" "salt" "I" ∈ TT := tt_m2 183 (by decide +kernel) (by decide +kernel)
theorem m_fl_X3_44 : Cond.fieldLink RX3 44 "DaybreakFlags$Switch" "variantCount" "I" ∈ TT := tt_m2 185 (by decide +kernel) (by decide +kernel)
theorem m_fl_X3_47 : Cond.fieldLink RX3 47 "DaybreakFlags$Switch" "isSticky" "Z" ∈ TT := tt_m2 187 (by decide +kernel) (by decide +kernel)
theorem m_fl_X3_9 : Cond.fieldLink RX3 9 "DaybreakFlags$Switch" "weights" "[I" ∈ TT := tt_m2 189 (by decide +kernel) (by decide +kernel)
theorem m_fl_X3_17 : Cond.fieldLink RX3 17 "DaybreakFlags$Switch" "rules" "[LDaybreakFlags$Rule;" ∈ TT := tt_m2 190 (by decide +kernel) (by decide +kernel)
theorem m_fl_X3_24 : Cond.fieldLink RX3 24 "DaybreakFlags$Switch" "tally" "LDaybreakFlags$Tally;" ∈ TT := tt_m2 191 (by decide +kernel) (by decide +kernel)
theorem m_fl_X3_85 : Cond.fieldLink RX3 85 "DaybreakFlags$Switch" "newest" "LDaybreakFlags$Arm;" ∈ TT := tt_m2 193 (by decide +kernel) (by decide +kernel)
theorem m_fl_X3_74 : Cond.fieldLink RX3 74 "DaybreakFlags$Switch" "ruleCount" "I" ∈ TT := tt_m2 195 (by decide +kernel) (by decide +kernel)
theorem m_fl_X3_28 : Cond.fieldLink RX3 28 "DaybreakFlags$Switch" "startShare" "I" ∈ TT := tt_m2 198 (by decide +kernel) (by decide +kernel)
theorem m_fl_X3_51 : Cond.fieldLink RX3 51 "DaybreakFlags$Switch" "step" "I" ∈ TT := tt_m2 199 (by decide +kernel) (by decide +kernel)
theorem m_fl_X3_54 : Cond.fieldLink RX3 54 "DaybreakFlags$Switch" "rampedAt" "I" ∈ TT := tt_m2 200 (by decide +kernel) (by decide +kernel)
theorem m_fl_X3_32 : Cond.fieldLink RX3 32 "DaybreakFlags$Switch" "layer" "I" ∈ TT := tt_m2 201 (by decide +kernel) (by decide +kernel)
theorem m_fl_X3_59 : Cond.fieldLink RX3 59 "DaybreakFlags$Switch" "from" "I" ∈ TT := tt_m2 204 (by decide +kernel) (by decide +kernel)
theorem m_fl_X3_68 : Cond.fieldLink RX3 68 "DaybreakFlags$Switch" "to" "I" ∈ TT := tt_m2 206 (by decide +kernel) (by decide +kernel)
theorem m_fl_X3_35 : Cond.fieldLink RX3 35 "DaybreakFlags$Switch" "needed" "I" ∈ TT := tt_m2 207 (by decide +kernel) (by decide +kernel)
theorem m_ml_L_134 : Cond.methodLink RL 134 yL_weigh ∈ TT := tt_m3 7 (by decide +kernel) (by decide +kernel)
theorem m_st_L_weigh : Cond.static yL_weigh ∈ TT := tt_m3 8 (by decide +kernel) (by decide +kernel)
theorem m_cd_L_weigh : Cond.codeWith yL_weigh cL_weigh 6 (some .int) [(0, 12, 15, 21), (0, 12, 19, 13)] ∈ TT := tt_m3 9 (by decide +kernel) (by decide +kernel)
theorem m_cl_L_21 : Cond.classLink RL 21 "java/lang/IndexOutOfBoundsException" ∈ TT := tt_m3 10 (by decide +kernel) (by decide +kernel)
theorem m_ml_L_17 : Cond.methodLink RL 17 yX5_weigh ∈ TT := tt_m3 11 (by decide +kernel) (by decide +kernel)
theorem m_im_X5_weigh : Cond.instanceMethod yX5_weigh ∈ TT := tt_m3 12 (by decide +kernel) (by decide +kernel)
theorem m_sl_X5_weigh : Cond.selects RX5 yX5_weigh yX5_weigh ∈ TT := tt_m3 13 (by decide +kernel) (by decide +kernel)
theorem m_cd_X5_weigh : Cond.code yX5_weigh cX5_weigh 6 (some .int) ∈ TT := tt_m3 14 (by decide +kernel) (by decide +kernel)
theorem m_ml_X5_59 : Cond.methodLink RX5 59 yX3_setWeight ∈ TT := tt_m3 16 (by decide +kernel) (by decide +kernel)
theorem m_im_X3_setWeight : Cond.instanceMethod yX3_setWeight ∈ TT := tt_m3 17 (by decide +kernel) (by decide +kernel)
theorem m_sl_X3_setWeight : Cond.selects RX3 yX3_setWeight yX3_setWeight ∈ TT := tt_m3 18 (by decide +kernel) (by decide +kernel)
theorem m_cd_X3_setWeight : Cond.code yX3_setWeight cX3_setWeight 3 none ∈ TT := tt_m3 19 (by decide +kernel) (by decide +kernel)
theorem m_ml_L_138 : Cond.methodLink RL 138 yL_turn ∈ TT := tt_m3 20 (by decide +kernel) (by decide +kernel)
theorem m_st_L_turn : Cond.static yL_turn ∈ TT := tt_m3 21 (by decide +kernel) (by decide +kernel)
theorem m_cd_L_turn : Cond.codeWith yL_turn cL_turn 5 (some .int) [(0, 17, 20, 21)] ∈ TT := tt_m3 22 (by decide +kernel) (by decide +kernel)
theorem m_ml_L_23 : Cond.methodLink RL 23 yX5_turn ∈ TT := tt_m3 23 (by decide +kernel) (by decide +kernel)
theorem m_im_X5_turn : Cond.instanceMethod yX5_turn ∈ TT := tt_m3 24 (by decide +kernel) (by decide +kernel)
theorem m_sl_X5_turn : Cond.selects RX5 yX5_turn yX5_turn ∈ TT := tt_m3 25 (by decide +kernel) (by decide +kernel)
theorem m_cd_X5_turn : Cond.code yX5_turn cX5_turn 5 (some .boolean) ∈ TT := tt_m3 26 (by decide +kernel) (by decide +kernel)
theorem m_ml_L_142 : Cond.methodLink RL 142 yL_ramp ∈ TT := tt_m3 27 (by decide +kernel) (by decide +kernel)
theorem m_st_L_ramp : Cond.static yL_ramp ∈ TT := tt_m3 28 (by decide +kernel) (by decide +kernel)
theorem m_cd_L_ramp : Cond.codeWith yL_ramp cL_ramp 6 (some .int) [(0, 12, 15, 21), (0, 12, 19, 13)] ∈ TT := tt_m3 29 (by decide +kernel) (by decide +kernel)
theorem m_ml_L_27 : Cond.methodLink RL 27 yX5_ramp ∈ TT := tt_m3 30 (by decide +kernel) (by decide +kernel)
theorem m_im_X5_ramp : Cond.instanceMethod yX5_ramp ∈ TT := tt_m3 31 (by decide +kernel) (by decide +kernel)
theorem m_sl_X5_ramp : Cond.selects RX5 yX5_ramp yX5_ramp ∈ TT := tt_m3 32 (by decide +kernel) (by decide +kernel)
theorem m_cd_X5_ramp : Cond.code yX5_ramp cX5_ramp 6 (some .int) ∈ TT := tt_m3 33 (by decide +kernel) (by decide +kernel)
theorem m_ml_X5_75 : Cond.methodLink RX5 75 yX3_setRamp ∈ TT := tt_m3 35 (by decide +kernel) (by decide +kernel)
theorem m_im_X3_setRamp : Cond.instanceMethod yX3_setRamp ∈ TT := tt_m3 36 (by decide +kernel) (by decide +kernel)
theorem m_sl_X3_setRamp : Cond.selects RX3 yX3_setRamp yX3_setRamp ∈ TT := tt_m3 37 (by decide +kernel) (by decide +kernel)
theorem m_cd_X3_setRamp : Cond.code yX3_setRamp cX3_setRamp 4 none ∈ TT := tt_m3 38 (by decide +kernel) (by decide +kernel)
theorem m_ml_L_145 : Cond.methodLink RL 145 yL_place ∈ TT := tt_m3 39 (by decide +kernel) (by decide +kernel)
theorem m_st_L_place : Cond.static yL_place ∈ TT := tt_m3 40 (by decide +kernel) (by decide +kernel)
theorem m_cd_L_place : Cond.codeWith yL_place cL_place 7 (some .int) [(0, 14, 17, 21), (0, 14, 21, 13), (0, 14, 25, 15)] ∈ TT := tt_m3 41 (by decide +kernel) (by decide +kernel)
theorem m_ml_L_30 : Cond.methodLink RL 30 yX5_place ∈ TT := tt_m3 42 (by decide +kernel) (by decide +kernel)
theorem m_im_X5_place : Cond.instanceMethod yX5_place ∈ TT := tt_m3 43 (by decide +kernel) (by decide +kernel)
theorem m_sl_X5_place : Cond.selects RX5 yX5_place yX5_place ∈ TT := tt_m3 44 (by decide +kernel) (by decide +kernel)
theorem m_cd_X5_place : Cond.code yX5_place cX5_place 7 (some .int) ∈ TT := tt_m3 45 (by decide +kernel) (by decide +kernel)
theorem m_ml_X5_79 : Cond.methodLink RX5 79 yX5_checkRange ∈ TT := tt_m3 46 (by decide +kernel) (by decide +kernel)
theorem m_st_X5_checkRange : Cond.static yX5_checkRange ∈ TT := tt_m3 47 (by decide +kernel) (by decide +kernel)
theorem m_cd_X5_checkRange : Cond.code yX5_checkRange cX5_checkRange 3 none ∈ TT := tt_m3 48 (by decide +kernel) (by decide +kernel)
theorem m_ml_X5_82 : Cond.methodLink RX5 82 yX5_isTaken ∈ TT := tt_m3 50 (by decide +kernel) (by decide +kernel)
theorem m_im_X5_isTaken : Cond.instanceMethod yX5_isTaken ∈ TT := tt_m3 52 (by decide +kernel) (by decide +kernel)
theorem m_cd_X5_isTaken : Cond.code yX5_isTaken cX5_isTaken 9 (some .boolean) ∈ TT := tt_m3 53 (by decide +kernel) (by decide +kernel)
theorem m_ml_X5_317 : Cond.methodLink RX5 317 yX3_sharesRange ∈ TT := tt_m3 54 (by decide +kernel) (by decide +kernel)
theorem m_im_X3_sharesRange : Cond.instanceMethod yX3_sharesRange ∈ TT := tt_m3 55 (by decide +kernel) (by decide +kernel)
theorem m_sl_X3_sharesRange : Cond.selects RX3 yX3_sharesRange yX3_sharesRange ∈ TT := tt_m3 56 (by decide +kernel) (by decide +kernel)
theorem m_cd_X3_sharesRange : Cond.code yX3_sharesRange cX3_sharesRange 3 (some .boolean) ∈ TT := tt_m3 57 (by decide +kernel) (by decide +kernel)
theorem m_ml_X3_62 : Cond.methodLink RX3 62 yJ9_max_7cf53 ∈ TT := tt_m3 58 (by decide +kernel) (by decide +kernel)
theorem m_st_J9_max_7cf53 : Cond.static yJ9_max_7cf53 ∈ TT := tt_m3 59 (by decide +kernel) (by decide +kernel)
theorem m_cd_J9_max_7cf53 : Cond.code yJ9_max_7cf53 cJ9_max_7cf53 2 (some .int) ∈ TT := tt_m3 60 (by decide +kernel) (by decide +kernel)
theorem m_ml_X3_71 : Cond.methodLink RX3 71 yJ9_min_7cf53 ∈ TT := tt_m3 61 (by decide +kernel) (by decide +kernel)
theorem m_st_J9_min_7cf53 : Cond.static yJ9_min_7cf53 ∈ TT := tt_m3 62 (by decide +kernel) (by decide +kernel)
theorem m_cd_J9_min_7cf53 : Cond.code yJ9_min_7cf53 cJ9_min_7cf53 2 (some .int) ∈ TT := tt_m3 63 (by decide +kernel) (by decide +kernel)
theorem m_ml_L_149 : Cond.methodLink RL 149 yL_need ∈ TT := tt_m3 65 (by decide +kernel) (by decide +kernel)
theorem m_st_L_need : Cond.static yL_need ∈ TT := tt_m3 66 (by decide +kernel) (by decide +kernel)
theorem m_cd_L_need : Cond.codeWith yL_need cL_need 6 (some .int) [(0, 12, 15, 21), (0, 12, 19, 13)] ∈ TT := tt_m3 67 (by decide +kernel) (by decide +kernel)
theorem m_ml_L_34 : Cond.methodLink RL 34 yX5_need ∈ TT := tt_m3 68 (by decide +kernel) (by decide +kernel)
theorem m_im_X5_need : Cond.instanceMethod yX5_need ∈ TT := tt_m3 69 (by decide +kernel) (by decide +kernel)
theorem m_sl_X5_need : Cond.selects RX5 yX5_need yX5_need ∈ TT := tt_m3 70 (by decide +kernel) (by decide +kernel)
theorem m_cd_X5_need : Cond.code yX5_need cX5_need 6 (some .int) ∈ TT := tt_m3 71 (by decide +kernel) (by decide +kernel)
theorem m_ml_L_152 : Cond.methodLink RL 152 yL_rule ∈ TT := tt_m3 73 (by decide +kernel) (by decide +kernel)
theorem m_st_L_rule : Cond.static yL_rule ∈ TT := tt_m3 74 (by decide +kernel) (by decide +kernel)
theorem m_cd_L_rule : Cond.codeWith yL_rule cL_rule 8 (some .int) [(0, 16, 19, 21), (0, 16, 23, 13), (0, 16, 27, 15)] ∈ TT := tt_m3 75 (by decide +kernel) (by decide +kernel)
theorem m_ml_L_37 : Cond.methodLink RL 37 yX5_rule ∈ TT := tt_m3 76 (by decide +kernel) (by decide +kernel)
theorem m_im_X5_rule : Cond.instanceMethod yX5_rule ∈ TT := tt_m3 77 (by decide +kernel) (by decide +kernel)
theorem m_sl_X5_rule : Cond.selects RX5 yX5_rule yX5_rule ∈ TT := tt_m3 78 (by decide +kernel) (by decide +kernel)
theorem m_cd_X5_rule : Cond.code yX5_rule cX5_rule 7 (some .int) ∈ TT := tt_m3 79 (by decide +kernel) (by decide +kernel)
theorem m_cl_X5_112 : Cond.classLink RX5 112 RX2 ∈ TT := tt_m3 82 (by decide +kernel) (by decide +kernel)
theorem m_nw_X2 : Cond.instantiable RX2 4 ∈ TT := tt_m3 83 (by decide +kernel) (by decide +kernel)
theorem m_ml_X5_114 : Cond.methodLink RX5 114 yX2_init ∈ TT := tt_m3 84 (by decide +kernel) (by decide +kernel)
theorem m_im_X2_init : Cond.instanceMethod yX2_init ∈ TT := tt_m3 85 (by decide +kernel) (by decide +kernel)
theorem m_cd_X2_init : Cond.code yX2_init cX2_init 5 none ∈ TT := tt_m3 86 (by decide +kernel) (by decide +kernel)
theorem m_ml_X2_3 : Cond.methodLink RX2 3 ⟨"java/lang/Object", "<init>", "()V"⟩ ∈ TT := tt_m3 87 (by decide +kernel) (by decide +kernel)
theorem m_fl_X2_9 : Cond.fieldLink RX2 9 "DaybreakFlags$Rule" "mark" "I" ∈ TT := tt_m3 88 (by decide +kernel) (by decide +kernel)
theorem m_fl_X2_15 : Cond.fieldLink RX2 15 "DaybreakFlags$Rule" "how" "I" ∈ TT := tt_m3 89 (by decide +kernel) (by decide +kernel)
theorem m_fl_X2_18 : Cond.fieldLink RX2 18 "DaybreakFlags$Rule" "n" "I" ∈ TT := tt_m3 90 (by decide +kernel) (by decide +kernel)
theorem m_fl_X2_21 : Cond.fieldLink RX2 21 "DaybreakFlags$Rule" "variant" "I" ∈ TT := tt_m3 91 (by decide +kernel) (by decide +kernel)
theorem m_ml_X5_117 : Cond.methodLink RX5 117 yX3_addRule ∈ TT := tt_m3 102 (by decide +kernel) (by decide +kernel)
theorem m_im_X3_addRule : Cond.instanceMethod yX3_addRule ∈ TT := tt_m3 103 (by decide +kernel) (by decide +kernel)
theorem m_sl_X3_addRule : Cond.selects RX3 yX3_addRule yX3_addRule ∈ TT := tt_m3 104 (by decide +kernel) (by decide +kernel)
theorem m_cd_X3_addRule : Cond.code yX3_addRule cX3_addRule 2 none ∈ TT := tt_m3 105 (by decide +kernel) (by decide +kernel)
theorem m_ml_L_156 : Cond.methodLink RL 156 yL_unrule ∈ TT := tt_m3 106 (by decide +kernel) (by decide +kernel)
theorem m_st_L_unrule : Cond.static yL_unrule ∈ TT := tt_m3 107 (by decide +kernel) (by decide +kernel)
theorem m_cd_L_unrule : Cond.codeWith yL_unrule cL_unrule 5 (some .int) [(0, 10, 13, 21)] ∈ TT := tt_m3 108 (by decide +kernel) (by decide +kernel)
theorem m_ml_L_41 : Cond.methodLink RL 41 yX5_unrule ∈ TT := tt_m3 109 (by decide +kernel) (by decide +kernel)
theorem m_im_X5_unrule : Cond.instanceMethod yX5_unrule ∈ TT := tt_m3 110 (by decide +kernel) (by decide +kernel)
theorem m_sl_X5_unrule : Cond.selects RX5 yX5_unrule yX5_unrule ∈ TT := tt_m3 111 (by decide +kernel) (by decide +kernel)
theorem m_cd_X5_unrule : Cond.code yX5_unrule cX5_unrule 4 (some .int) ∈ TT := tt_m3 112 (by decide +kernel) (by decide +kernel)
theorem m_ml_X5_126 : Cond.methodLink RX5 126 yX3_removeRule ∈ TT := tt_m3 114 (by decide +kernel) (by decide +kernel)
theorem m_im_X3_removeRule : Cond.instanceMethod yX3_removeRule ∈ TT := tt_m3 115 (by decide +kernel) (by decide +kernel)
theorem m_sl_X3_removeRule : Cond.selects RX3 yX3_removeRule yX3_removeRule ∈ TT := tt_m3 116 (by decide +kernel) (by decide +kernel)
theorem m_cd_X3_removeRule : Cond.code yX3_removeRule cX3_removeRule 3 none ∈ TT := tt_m3 117 (by decide +kernel) (by decide +kernel)
theorem m_ml_X3_77 : Cond.methodLink RX3 77 yX3_ruleAt ∈ TT := tt_m3 118 (by decide +kernel) (by decide +kernel)
theorem m_ml_L_160 : Cond.methodLink RL 160 yL_hold ∈ TT := tt_m3 119 (by decide +kernel) (by decide +kernel)
theorem m_st_L_hold : Cond.static yL_hold ∈ TT := tt_m3 120 (by decide +kernel) (by decide +kernel)
theorem m_cd_L_hold : Cond.codeWith yL_hold cL_hold 4 (some .int) [(0, 9, 12, 13)] ∈ TT := tt_m3 121 (by decide +kernel) (by decide +kernel)
theorem m_ml_L_45 : Cond.methodLink RL 45 yX5_hold ∈ TT := tt_m3 122 (by decide +kernel) (by decide +kernel)
theorem m_im_X5_hold : Cond.instanceMethod yX5_hold ∈ TT := tt_m3 123 (by decide +kernel) (by decide +kernel)
theorem m_sl_X5_hold : Cond.selects RX5 yX5_hold yX5_hold ∈ TT := tt_m3 124 (by decide +kernel) (by decide +kernel)
theorem m_cd_X5_hold : Cond.code yX5_hold cX5_hold 3 (some .int) ∈ TT := tt_m3 125 (by decide +kernel) (by decide +kernel)
theorem m_ml_L_164 : Cond.methodLink RL 164 yL_goOn ∈ TT := tt_m3 127 (by decide +kernel) (by decide +kernel)
theorem m_st_L_goOn : Cond.static yL_goOn ∈ TT := tt_m3 128 (by decide +kernel) (by decide +kernel)
theorem m_cd_L_goOn : Cond.codeWith yL_goOn cL_goOn 4 (some .int) [(0, 9, 12, 13)] ∈ TT := tt_m3 129 (by decide +kernel) (by decide +kernel)
theorem m_ml_L_49 : Cond.methodLink RL 49 yX5_goOn ∈ TT := tt_m3 130 (by decide +kernel) (by decide +kernel)
theorem m_im_X5_goOn : Cond.instanceMethod yX5_goOn ∈ TT := tt_m3 131 (by decide +kernel) (by decide +kernel)
theorem m_sl_X5_goOn : Cond.selects RX5 yX5_goOn yX5_goOn ∈ TT := tt_m3 132 (by decide +kernel) (by decide +kernel)
theorem m_cd_X5_goOn : Cond.code yX5_goOn cX5_goOn 2 (some .int) ∈ TT := tt_m3 133 (by decide +kernel) (by decide +kernel)
theorem m_ml_L_171 : Cond.methodLink RL 171 yL_weight ∈ TT := tt_m3 135 (by decide +kernel) (by decide +kernel)
theorem m_st_L_weight : Cond.static yL_weight ∈ TT := tt_m3 136 (by decide +kernel) (by decide +kernel)
theorem m_cd_L_weight : Cond.codeWith yL_weight cL_weight 5 (some .int) [(0, 10, 13, 21)] ∈ TT := tt_m3 137 (by decide +kernel) (by decide +kernel)
theorem m_ml_L_52 : Cond.methodLink RL 52 yX5_weight ∈ TT := tt_m3 138 (by decide +kernel) (by decide +kernel)
theorem m_ml_L_174 : Cond.methodLink RL 174 yL_share ∈ TT := tt_m3 139 (by decide +kernel) (by decide +kernel)
theorem m_st_L_share : Cond.static yL_share ∈ TT := tt_m3 140 (by decide +kernel) (by decide +kernel)
theorem m_cd_L_share : Cond.codeWith yL_share cL_share 4 (some .int) [(0, 9, 12, 21)] ∈ TT := tt_m3 141 (by decide +kernel) (by decide +kernel)
theorem m_ml_L_55 : Cond.methodLink RL 55 yX5_share ∈ TT := tt_m3 142 (by decide +kernel) (by decide +kernel)
theorem m_ml_L_177 : Cond.methodLink RL 177 yL_left ∈ TT := tt_m3 143 (by decide +kernel) (by decide +kernel)
theorem m_st_L_left : Cond.static yL_left ∈ TT := tt_m3 144 (by decide +kernel) (by decide +kernel)
theorem m_cd_L_left : Cond.codeWith yL_left cL_left 4 (some .int) [(0, 9, 12, 21)] ∈ TT := tt_m3 145 (by decide +kernel) (by decide +kernel)
theorem m_ml_L_58 : Cond.methodLink RL 58 yX5_left ∈ TT := tt_m3 146 (by decide +kernel) (by decide +kernel)
theorem m_ml_L_180 : Cond.methodLink RL 180 yL_bucket ∈ TT := tt_m3 147 (by decide +kernel) (by decide +kernel)
theorem m_st_L_bucket : Cond.static yL_bucket ∈ TT := tt_m3 148 (by decide +kernel) (by decide +kernel)
theorem m_cd_L_bucket : Cond.codeWith yL_bucket cL_bucket 5 (some .int) [(0, 10, 13, 13)] ∈ TT := tt_m3 149 (by decide +kernel) (by decide +kernel)
theorem m_ml_L_61 : Cond.methodLink RL 61 yX5_bucket ∈ TT := tt_m3 150 (by decide +kernel) (by decide +kernel)
theorem m_im_X5_bucket : Cond.instanceMethod yX5_bucket ∈ TT := tt_m3 151 (by decide +kernel) (by decide +kernel)
theorem m_sl_X5_bucket : Cond.selects RX5 yX5_bucket yX5_bucket ∈ TT := tt_m3 152 (by decide +kernel) (by decide +kernel)
theorem m_cd_X5_bucket : Cond.code yX5_bucket cX5_bucket 3 (some .int) ∈ TT := tt_m3 153 (by decide +kernel) (by decide +kernel)
theorem m_ml_L_183 : Cond.methodLink RL 183 yL_gets ∈ TT := tt_m3 155 (by decide +kernel) (by decide +kernel)
theorem m_st_L_gets : Cond.static yL_gets ∈ TT := tt_m3 156 (by decide +kernel) (by decide +kernel)
theorem m_cd_L_gets : Cond.codeWith yL_gets cL_gets 7 (some .int) [(0, 14, 17, 21), (0, 14, 21, 13)] ∈ TT := tt_m3 157 (by decide +kernel) (by decide +kernel)
theorem m_ml_L_64 : Cond.methodLink RL 64 yX5_gets ∈ TT := tt_m3 158 (by decide +kernel) (by decide +kernel)
theorem m_ml_L_186 : Cond.methodLink RL 186 yL_why ∈ TT := tt_m3 159 (by decide +kernel) (by decide +kernel)
theorem m_st_L_why : Cond.static yL_why ∈ TT := tt_m3 160 (by decide +kernel) (by decide +kernel)
theorem m_cd_L_why : Cond.codeWith yL_why cL_why 7 (some .int) [(0, 14, 17, 21), (0, 14, 21, 13)] ∈ TT := tt_m3 161 (by decide +kernel) (by decide +kernel)
theorem m_ml_L_67 : Cond.methodLink RL 67 yX5_why ∈ TT := tt_m3 162 (by decide +kernel) (by decide +kernel)
theorem m_ml_L_189 : Cond.methodLink RL 189 yL_holds ∈ TT := tt_m3 163 (by decide +kernel) (by decide +kernel)
theorem m_st_L_holds : Cond.static yL_holds ∈ TT := tt_m3 164 (by decide +kernel) (by decide +kernel)
theorem m_cd_L_holds : Cond.codeWith yL_holds cL_holds 7 (some .int) [(0, 14, 17, 21), (0, 14, 21, 13)] ∈ TT := tt_m3 165 (by decide +kernel) (by decide +kernel)
theorem m_ml_L_70 : Cond.methodLink RL 70 yX5_holds ∈ TT := tt_m3 166 (by decide +kernel) (by decide +kernel)
theorem m_im_X5_holds : Cond.instanceMethod yX5_holds ∈ TT := tt_m3 167 (by decide +kernel) (by decide +kernel)
theorem m_sl_X5_holds : Cond.selects RX5 yX5_holds yX5_holds ∈ TT := tt_m3 168 (by decide +kernel) (by decide +kernel)
theorem m_cd_X5_holds : Cond.code yX5_holds cX5_holds 6 (some .int) ∈ TT := tt_m3 169 (by decide +kernel) (by decide +kernel)
theorem m_ml_L_192 : Cond.methodLink RL 192 yL_ask ∈ TT := tt_m3 170 (by decide +kernel) (by decide +kernel)
theorem m_st_L_ask : Cond.static yL_ask ∈ TT := tt_m3 171 (by decide +kernel) (by decide +kernel)
theorem m_cd_L_ask : Cond.codeWith yL_ask cL_ask 7 (some .int) [(0, 14, 17, 21), (0, 14, 21, 13)] ∈ TT := tt_m3 172 (by decide +kernel) (by decide +kernel)
theorem m_ml_L_73 : Cond.methodLink RL 73 yX5_ask ∈ TT := tt_m3 173 (by decide +kernel) (by decide +kernel)
theorem m_im_X5_ask : Cond.instanceMethod yX5_ask ∈ TT := tt_m3 174 (by decide +kernel) (by decide +kernel)
theorem m_sl_X5_ask : Cond.selects RX5 yX5_ask yX5_ask ∈ TT := tt_m3 175 (by decide +kernel) (by decide +kernel)
theorem m_cd_X5_ask : Cond.code yX5_ask cX5_ask 8 (some .int) ∈ TT := tt_m3 176 (by decide +kernel) (by decide +kernel)
theorem m_ml_X5_172 : Cond.methodLink RX5 172 yX3_addArm ∈ TT := tt_m3 177 (by decide +kernel) (by decide +kernel)
theorem m_im_X3_addArm : Cond.instanceMethod yX3_addArm ∈ TT := tt_m3 178 (by decide +kernel) (by decide +kernel)
theorem m_sl_X3_addArm : Cond.selects RX3 yX3_addArm yX3_addArm ∈ TT := tt_m3 179 (by decide +kernel) (by decide +kernel)
theorem m_cd_X3_addArm : Cond.code yX3_addArm cX3_addArm 3 none ∈ TT := tt_m3 180 (by decide +kernel) (by decide +kernel)
theorem m_cl_X3_90 : Cond.classLink RX3 90 RX0 ∈ TT := tt_m3 181 (by decide +kernel) (by decide +kernel)
theorem m_nw_X0 : Cond.instantiable RX0 5 ∈ TT := tt_m3 182 (by decide +kernel) (by decide +kernel)
theorem m_ml_X3_97 : Cond.methodLink RX3 97 yX0_init ∈ TT := tt_m3 183 (by decide +kernel) (by decide +kernel)
theorem m_im_X0_init : Cond.instanceMethod yX0_init ∈ TT := tt_m3 184 (by decide +kernel) (by decide +kernel)
theorem m_cd_X0_init : Cond.code yX0_init cX0_init 4 none ∈ TT := tt_m3 185 (by decide +kernel) (by decide +kernel)
theorem m_ml_X0_1 : Cond.methodLink RX0 1 ⟨"java/lang/Object", "<init>", "()V"⟩ ∈ TT := tt_m3 186 (by decide +kernel) (by decide +kernel)
theorem m_fl_X0_7 : Cond.fieldLink RX0 7 "DaybreakFlags$Arm" "user" "I" ∈ TT := tt_m3 187 (by decide +kernel) (by decide +kernel)
theorem m_fl_X0_13 : Cond.fieldLink RX0 13 "DaybreakFlags$Arm" "variant" "I" ∈ TT := tt_m3 189 (by decide +kernel) (by decide +kernel)
theorem m_fl_X0_16 : Cond.fieldLink RX0 16 "DaybreakFlags$Arm" "older" "LDaybreakFlags$Arm;" ∈ TT := tt_m3 192 (by decide +kernel) (by decide +kernel)
theorem m_ml_X3_100 : Cond.methodLink RX3 100 yX4_countArm ∈ TT := tt_m3 207 (by decide +kernel) (by decide +kernel)
theorem m_im_X4_countArm : Cond.instanceMethod yX4_countArm ∈ TT := tt_m3 208 (by decide +kernel) (by decide +kernel)
theorem m_sl_X4_countArm : Cond.selects RX4 yX4_countArm yX4_countArm ∈ TT := tt_m3 209 (by decide +kernel) (by decide +kernel)
theorem m_cd_X4_countArm : Cond.code yX4_countArm cX4_countArm 2 none ∈ TT := tt_m3 210 (by decide +kernel) (by decide +kernel)
theorem m_ml_L_195 : Cond.methodLink RL 195 yL_act ∈ TT := tt_m3 211 (by decide +kernel) (by decide +kernel)
theorem m_st_L_act : Cond.static yL_act ∈ TT := tt_m3 212 (by decide +kernel) (by decide +kernel)
theorem m_cd_L_act : Cond.codeWith yL_act cL_act 5 (some .int) [(0, 10, 13, 13)] ∈ TT := tt_m3 213 (by decide +kernel) (by decide +kernel)
theorem m_ml_L_76 : Cond.methodLink RL 76 yX5_act ∈ TT := tt_m3 214 (by decide +kernel) (by decide +kernel)
theorem m_im_X5_act : Cond.instanceMethod yX5_act ∈ TT := tt_m3 215 (by decide +kernel) (by decide +kernel)
theorem m_sl_X5_act : Cond.selects RX5 yX5_act yX5_act ∈ TT := tt_m3 216 (by decide +kernel) (by decide +kernel)
theorem m_cd_X5_act : Cond.code yX5_act cX5_act 8 (some .int) ∈ TT := tt_m3 217 (by decide +kernel) (by decide +kernel)
theorem m_ml_X5_177 : Cond.methodLink RX5 177 yX3_addWorth ∈ TT := tt_m3 219 (by decide +kernel) (by decide +kernel)
theorem m_im_X3_addWorth : Cond.instanceMethod yX3_addWorth ∈ TT := tt_m3 220 (by decide +kernel) (by decide +kernel)
theorem m_sl_X3_addWorth : Cond.selects RX3 yX3_addWorth yX3_addWorth ∈ TT := tt_m3 221 (by decide +kernel) (by decide +kernel)
theorem m_cd_X3_addWorth : Cond.code yX3_addWorth cX3_addWorth 4 (some .boolean) ∈ TT := tt_m3 222 (by decide +kernel) (by decide +kernel)
theorem m_ml_X3_104 : Cond.methodLink RX3 104 yX3_armOf ∈ TT := tt_m3 223 (by decide +kernel) (by decide +kernel)
theorem m_ml_X3_117 : Cond.methodLink RX3 117 yX4_countAct ∈ TT := tt_m3 224 (by decide +kernel) (by decide +kernel)
theorem m_im_X4_countAct : Cond.instanceMethod yX4_countAct ∈ TT := tt_m3 225 (by decide +kernel) (by decide +kernel)
theorem m_sl_X4_countAct : Cond.selects RX4 yX4_countAct yX4_countAct ∈ TT := tt_m3 226 (by decide +kernel) (by decide +kernel)
theorem m_cd_X4_countAct : Cond.code yX4_countAct cX4_countAct 8 none ∈ TT := tt_m3 227 (by decide +kernel) (by decide +kernel)
theorem m_ml_L_198 : Cond.methodLink RL 198 yL_arm ∈ TT := tt_m3 228 (by decide +kernel) (by decide +kernel)
theorem m_st_L_arm : Cond.static yL_arm ∈ TT := tt_m3 229 (by decide +kernel) (by decide +kernel)
theorem m_cd_L_arm : Cond.codeWith yL_arm cL_arm 5 (some .int) [(0, 10, 13, 21), (0, 10, 17, 13)] ∈ TT := tt_m3 230 (by decide +kernel) (by decide +kernel)
theorem m_ml_L_79 : Cond.methodLink RL 79 yX5_arm ∈ TT := tt_m3 231 (by decide +kernel) (by decide +kernel)
theorem m_ml_L_205 : Cond.methodLink RL 205 yL_told ∈ TT := tt_m3 232 (by decide +kernel) (by decide +kernel)
theorem m_st_L_told : Cond.static yL_told ∈ TT := tt_m3 233 (by decide +kernel) (by decide +kernel)
theorem m_cd_L_told : Cond.codeWith yL_told cL_told 6 (some .int) [(0, 12, 15, 21), (0, 12, 19, 13)] ∈ TT := tt_m3 234 (by decide +kernel) (by decide +kernel)
theorem m_ml_L_82 : Cond.methodLink RL 82 yX5_told ∈ TT := tt_m3 235 (by decide +kernel) (by decide +kernel)
theorem m_ml_L_208 : Cond.methodLink RL 208 yL_mean ∈ TT := tt_m3 236 (by decide +kernel) (by decide +kernel)
theorem m_st_L_mean : Cond.static yL_mean ∈ TT := tt_m3 237 (by decide +kernel) (by decide +kernel)
theorem m_cd_L_mean : Cond.codeWith yL_mean cL_mean 5 (some .int) [(0, 9, 12, 21)] ∈ TT := tt_m3 238 (by decide +kernel) (by decide +kernel)
theorem m_ml_L_85 : Cond.methodLink RL 85 yX5_mean ∈ TT := tt_m3 239 (by decide +kernel) (by decide +kernel)
theorem m_im_X5_mean : Cond.instanceMethod yX5_mean ∈ TT := tt_m4 0 (by decide +kernel) (by decide +kernel)
theorem m_sl_X5_mean : Cond.selects RX5 yX5_mean yX5_mean ∈ TT := tt_m4 1 (by decide +kernel) (by decide +kernel)
theorem m_cd_X5_mean : Cond.code yX5_mean cX5_mean 4 (some .double) ∈ TT := tt_m4 2 (by decide +kernel) (by decide +kernel)
theorem m_ml_X5_209 : Cond.methodLink RX5 209 yX4_meanOf ∈ TT := tt_m4 3 (by decide +kernel) (by decide +kernel)
theorem m_ml_L_212 : Cond.methodLink RL 212 yL_lift ∈ TT := tt_m4 4 (by decide +kernel) (by decide +kernel)
theorem m_st_L_lift : Cond.static yL_lift ∈ TT := tt_m4 5 (by decide +kernel) (by decide +kernel)
theorem m_cd_L_lift : Cond.codeWith yL_lift cL_lift 5 (some .int) [(0, 9, 12, 21)] ∈ TT := tt_m4 6 (by decide +kernel) (by decide +kernel)
theorem m_ml_L_89 : Cond.methodLink RL 89 yX5_lift ∈ TT := tt_m4 7 (by decide +kernel) (by decide +kernel)
theorem m_im_X5_lift : Cond.instanceMethod yX5_lift ∈ TT := tt_m4 8 (by decide +kernel) (by decide +kernel)
theorem m_sl_X5_lift : Cond.selects RX5 yX5_lift yX5_lift ∈ TT := tt_m4 9 (by decide +kernel) (by decide +kernel)
theorem m_cd_X5_lift : Cond.code yX5_lift cX5_lift 4 (some .double) ∈ TT := tt_m4 10 (by decide +kernel) (by decide +kernel)
theorem m_ml_X5_213 : Cond.methodLink RX5 213 yX4_liftOf ∈ TT := tt_m4 11 (by decide +kernel) (by decide +kernel)
theorem m_im_X4_liftOf : Cond.instanceMethod yX4_liftOf ∈ TT := tt_m4 12 (by decide +kernel) (by decide +kernel)
theorem m_sl_X4_liftOf : Cond.selects RX4 yX4_liftOf yX4_liftOf ∈ TT := tt_m4 13 (by decide +kernel) (by decide +kernel)
theorem m_cd_X4_liftOf : Cond.code yX4_liftOf cX4_liftOf 2 (some .double) ∈ TT := tt_m4 14 (by decide +kernel) (by decide +kernel)
theorem m_ml_L_215 : Cond.methodLink RL 215 yL_sure ∈ TT := tt_m4 15 (by decide +kernel) (by decide +kernel)
theorem m_st_L_sure : Cond.static yL_sure ∈ TT := tt_m4 16 (by decide +kernel) (by decide +kernel)
theorem m_cd_L_sure : Cond.codeWith yL_sure cL_sure 5 (some .int) [(0, 9, 12, 21)] ∈ TT := tt_m4 17 (by decide +kernel) (by decide +kernel)
theorem m_ml_L_92 : Cond.methodLink RL 92 yX5_sure ∈ TT := tt_m4 18 (by decide +kernel) (by decide +kernel)
theorem m_im_X5_sure : Cond.instanceMethod yX5_sure ∈ TT := tt_m4 19 (by decide +kernel) (by decide +kernel)
theorem m_sl_X5_sure : Cond.selects RX5 yX5_sure yX5_sure ∈ TT := tt_m4 20 (by decide +kernel) (by decide +kernel)
theorem m_cd_X5_sure : Cond.code yX5_sure cX5_sure 4 (some .double) ∈ TT := tt_m4 21 (by decide +kernel) (by decide +kernel)
theorem m_ml_X5_216 : Cond.methodLink RX5 216 yX4_surenessOf ∈ TT := tt_m4 22 (by decide +kernel) (by decide +kernel)
theorem m_im_X4_surenessOf : Cond.instanceMethod yX4_surenessOf ∈ TT := tt_m4 23 (by decide +kernel) (by decide +kernel)
theorem m_sl_X4_surenessOf : Cond.selects RX4 yX4_surenessOf yX4_surenessOf ∈ TT := tt_m4 24 (by decide +kernel) (by decide +kernel)
theorem m_cd_X4_surenessOf : Cond.code yX4_surenessOf cX4_surenessOf 6 (some .double) ∈ TT := tt_m4 25 (by decide +kernel) (by decide +kernel)
theorem m_ml_X4_44 : Cond.methodLink RX4 44 yX4_spreadByCount ∈ TT := tt_m4 26 (by decide +kernel) (by decide +kernel)
theorem m_im_X4_spreadByCount : Cond.instanceMethod yX4_spreadByCount ∈ TT := tt_m4 28 (by decide +kernel) (by decide +kernel)
theorem m_cd_X4_spreadByCount : Cond.code yX4_spreadByCount cX4_spreadByCount 7 (some .double) ∈ TT := tt_m4 29 (by decide +kernel) (by decide +kernel)
theorem m_ml_X4_50 : Cond.methodLink RX4 50 yX4_squaresOf ∈ TT := tt_m4 30 (by decide +kernel) (by decide +kernel)
theorem m_ml_X4_47 : Cond.methodLink RX4 47 yX4_liftOf ∈ TT := tt_m4 31 (by decide +kernel) (by decide +kernel)
theorem m_ml_L_218 : Cond.methodLink RL 218 yL_bad ∈ TT := tt_m4 32 (by decide +kernel) (by decide +kernel)
theorem m_st_L_bad : Cond.static yL_bad ∈ TT := tt_m4 33 (by decide +kernel) (by decide +kernel)
theorem m_cd_L_bad : Cond.codeWith yL_bad cL_bad 4 (some .int) [(0, 9, 12, 21)] ∈ TT := tt_m4 34 (by decide +kernel) (by decide +kernel)
theorem m_ml_L_95 : Cond.methodLink RL 95 yX5_bad ∈ TT := tt_m4 35 (by decide +kernel) (by decide +kernel)
theorem m_ml_L_221 : Cond.methodLink RL 221 yL_isTrusted ∈ TT := tt_m4 36 (by decide +kernel) (by decide +kernel)
theorem m_st_L_isTrusted : Cond.static yL_isTrusted ∈ TT := tt_m4 37 (by decide +kernel) (by decide +kernel)
theorem m_cd_L_isTrusted : Cond.codeWith yL_isTrusted cL_isTrusted 4 (some .int) [(0, 16, 19, 21)] ∈ TT := tt_m4 38 (by decide +kernel) (by decide +kernel)
theorem m_ml_L_98 : Cond.methodLink RL 98 yX5_isTrusted ∈ TT := tt_m4 39 (by decide +kernel) (by decide +kernel)
theorem m_ml_L_224 : Cond.methodLink RL 224 yL_best ∈ TT := tt_m4 40 (by decide +kernel) (by decide +kernel)
theorem m_st_L_best : Cond.static yL_best ∈ TT := tt_m4 41 (by decide +kernel) (by decide +kernel)
theorem m_cd_L_best : Cond.codeWith yL_best cL_best 4 (some .int) [(0, 9, 12, 21)] ∈ TT := tt_m4 42 (by decide +kernel) (by decide +kernel)
theorem m_ml_L_102 : Cond.methodLink RL 102 yX5_best ∈ TT := tt_m4 43 (by decide +kernel) (by decide +kernel)
theorem m_ml_L_227 : Cond.methodLink RL 227 yL_reach ∈ TT := tt_m4 44 (by decide +kernel) (by decide +kernel)
theorem m_st_L_reach : Cond.static yL_reach ∈ TT := tt_m4 45 (by decide +kernel) (by decide +kernel)
theorem m_cd_L_reach : Cond.codeWith yL_reach cL_reach 6 (some .int) [(0, 12, 15, 21), (0, 12, 19, 13)] ∈ TT := tt_m4 46 (by decide +kernel) (by decide +kernel)
theorem m_ml_L_105 : Cond.methodLink RL 105 yX5_reach ∈ TT := tt_m4 47 (by decide +kernel) (by decide +kernel)
theorem m_ml_L_230 : Cond.methodLink RL 230 yL_both ∈ TT := tt_m4 48 (by decide +kernel) (by decide +kernel)
theorem m_st_L_both : Cond.static yL_both ∈ TT := tt_m4 49 (by decide +kernel) (by decide +kernel)
theorem m_cd_L_both : Cond.codeWith yL_both cL_both 6 (some .int) [(0, 12, 15, 21), (0, 12, 19, 13)] ∈ TT := tt_m4 50 (by decide +kernel) (by decide +kernel)
theorem m_ml_L_108 : Cond.methodLink RL 108 yX5_both ∈ TT := tt_m4 51 (by decide +kernel) (by decide +kernel)
theorem m_im_X5_both : Cond.instanceMethod yX5_both ∈ TT := tt_m4 52 (by decide +kernel) (by decide +kernel)
theorem m_sl_X5_both : Cond.selects RX5 yX5_both yX5_both ∈ TT := tt_m4 53 (by decide +kernel) (by decide +kernel)
theorem m_cd_X5_both : Cond.code yX5_both cX5_both 8 (some .int) ∈ TT := tt_m4 54 (by decide +kernel) (by decide +kernel)
theorem m_ml_L_233 : Cond.methodLink RL 233 yL_wouldChange ∈ TT := tt_m4 55 (by decide +kernel) (by decide +kernel)
theorem m_st_L_wouldChange : Cond.static yL_wouldChange ∈ TT := tt_m4 56 (by decide +kernel) (by decide +kernel)
theorem m_cd_L_wouldChange : Cond.codeWith yL_wouldChange cL_wouldChange 6 (some .int) [(0, 12, 15, 21), (0, 12, 19, 13)] ∈ TT := tt_m4 57 (by decide +kernel) (by decide +kernel)
theorem m_ml_L_111 : Cond.methodLink RL 111 yX5_wouldChange ∈ TT := tt_m4 58 (by decide +kernel) (by decide +kernel)
theorem m_im_X5_wouldChange : Cond.instanceMethod yX5_wouldChange ∈ TT := tt_m4 59 (by decide +kernel) (by decide +kernel)
theorem m_sl_X5_wouldChange : Cond.selects RX5 yX5_wouldChange yX5_wouldChange ∈ TT := tt_m4 60 (by decide +kernel) (by decide +kernel)
theorem m_cd_X5_wouldChange : Cond.code yX5_wouldChange cX5_wouldChange 8 (some .int) ∈ TT := tt_m4 61 (by decide +kernel) (by decide +kernel)
theorem m_ml_X5_238 : Cond.methodLink RX5 238 yX1_supposeRamp ∈ TT := tt_m4 63 (by decide +kernel) (by decide +kernel)
theorem m_im_X1_supposeRamp : Cond.instanceMethod yX1_supposeRamp ∈ TT := tt_m4 64 (by decide +kernel) (by decide +kernel)
theorem m_sl_X1_supposeRamp : Cond.selects RX1 yX1_supposeRamp yX1_supposeRamp ∈ TT := tt_m4 65 (by decide +kernel) (by decide +kernel)
theorem m_cd_X1_supposeRamp : Cond.code yX1_supposeRamp cX1_supposeRamp 3 none ∈ TT := tt_m4 66 (by decide +kernel) (by decide +kernel)
theorem m_ml_L_236 : Cond.methodLink RL 236 yL_wouldTurn ∈ TT := tt_m4 67 (by decide +kernel) (by decide +kernel)
theorem m_st_L_wouldTurn : Cond.static yL_wouldTurn ∈ TT := tt_m4 68 (by decide +kernel) (by decide +kernel)
theorem m_cd_L_wouldTurn : Cond.codeWith yL_wouldTurn cL_wouldTurn 5 (some .int) [(0, 10, 13, 21), (0, 10, 17, 13)] ∈ TT := tt_m4 69 (by decide +kernel) (by decide +kernel)
theorem m_ml_L_114 : Cond.methodLink RL 114 yX5_wouldTurn ∈ TT := tt_m4 70 (by decide +kernel) (by decide +kernel)
theorem m_im_X5_wouldTurn : Cond.instanceMethod yX5_wouldTurn ∈ TT := tt_m4 71 (by decide +kernel) (by decide +kernel)
theorem m_sl_X5_wouldTurn : Cond.selects RX5 yX5_wouldTurn yX5_wouldTurn ∈ TT := tt_m4 72 (by decide +kernel) (by decide +kernel)
theorem m_cd_X5_wouldTurn : Cond.code yX5_wouldTurn cX5_wouldTurn 5 (some .int) ∈ TT := tt_m4 73 (by decide +kernel) (by decide +kernel)
theorem m_ml_X5_241 : Cond.methodLink RX5 241 yX5_changesByTurning ∈ TT := tt_m4 74 (by decide +kernel) (by decide +kernel)
theorem m_im_X5_changesByTurning : Cond.instanceMethod yX5_changesByTurning ∈ TT := tt_m4 76 (by decide +kernel) (by decide +kernel)
theorem m_cd_X5_changesByTurning : Cond.code yX5_changesByTurning cX5_changesByTurning 6 (some .boolean) ∈ TT := tt_m4 77 (by decide +kernel) (by decide +kernel)
theorem m_ml_X5_356 : Cond.methodLink RX5 356 yX1_supposeTurned ∈ TT := tt_m4 78 (by decide +kernel) (by decide +kernel)
theorem m_im_X1_supposeTurned : Cond.instanceMethod yX1_supposeTurned ∈ TT := tt_m4 79 (by decide +kernel) (by decide +kernel)
theorem m_sl_X1_supposeTurned : Cond.selects RX1 yX1_supposeTurned yX1_supposeTurned ∈ TT := tt_m4 80 (by decide +kernel) (by decide +kernel)
theorem m_cd_X1_supposeTurned : Cond.code yX1_supposeTurned cX1_supposeTurned 2 none ∈ TT := tt_m4 81 (by decide +kernel) (by decide +kernel)
theorem m_ml_L_239 : Cond.methodLink RL 239 yL_shareIn ∈ TT := tt_m4 82 (by decide +kernel) (by decide +kernel)
theorem m_st_L_shareIn : Cond.static yL_shareIn ∈ TT := tt_m4 83 (by decide +kernel) (by decide +kernel)
theorem m_cd_L_shareIn : Cond.codeWith yL_shareIn cL_shareIn 5 (some .int) [(0, 10, 13, 21), (0, 10, 17, 13)] ∈ TT := tt_m4 84 (by decide +kernel) (by decide +kernel)
theorem m_ml_L_117 : Cond.methodLink RL 117 yX5_shareIn ∈ TT := tt_m4 85 (by decide +kernel) (by decide +kernel)
theorem m_im_X5_shareIn : Cond.instanceMethod yX5_shareIn ∈ TT := tt_m4 86 (by decide +kernel) (by decide +kernel)
theorem m_sl_X5_shareIn : Cond.selects RX5 yX5_shareIn yX5_shareIn ∈ TT := tt_m4 87 (by decide +kernel) (by decide +kernel)
theorem m_cd_X5_shareIn : Cond.code yX5_shareIn cX5_shareIn 4 (some .int) ∈ TT := tt_m4 88 (by decide +kernel) (by decide +kernel)
theorem m_cl_L_121 : Cond.classLink RL 121 RX6 ∈ TT := tt_m4 89 (by decide +kernel) (by decide +kernel)
theorem m_nw_X6 : Cond.instantiable RX6 29 ∈ TT := tt_m4 90 (by decide +kernel) (by decide +kernel)
theorem m_ml_L_123 : Cond.methodLink RL 123 yX6_init ∈ TT := tt_m4 91 (by decide +kernel) (by decide +kernel)
theorem m_im_X6_init : Cond.instanceMethod yX6_init ∈ TT := tt_m4 92 (by decide +kernel) (by decide +kernel)
theorem m_cd_X6_init : Cond.code yX6_init cX6_init 1 none ∈ TT := tt_m4 93 (by decide +kernel) (by decide +kernel)
theorem m_ml_X6_1 : Cond.methodLink RX6 1 ⟨"java/lang/Object", "<init>", "()V"⟩ ∈ TT := tt_m4 94 (by decide +kernel) (by decide +kernel)
theorem m_fl_X6_80 : Cond.fieldLink RX6 80 "DaybreakFlagsModel" "thrown" "I" ∈ TT := tt_m4 95 (by decide +kernel) (by decide +kernel)
theorem m_fl_X6_99 : Cond.fieldLink RX6 99 "DaybreakFlagsModel" "clock" "I" ∈ TT := tt_m4 96 (by decide +kernel) (by decide +kernel)
theorem m_fl_X6_136 : Cond.fieldLink RX6 136 "DaybreakFlagsModel" "holdout" "I" ∈ TT := tt_m4 97 (by decide +kernel) (by decide +kernel)
theorem m_fl_X6_84 : Cond.fieldLink RX6 84 "DaybreakFlagsModel" "switches" "I" ∈ TT := tt_m4 98 (by decide +kernel) (by decide +kernel)
theorem m_fl_X6_9 : Cond.fieldLink RX6 9 "DaybreakFlagsModel" "salt" "[I" ∈ TT := tt_m4 99 (by decide +kernel) (by decide +kernel)
theorem m_fl_X6_13 : Cond.fieldLink RX6 13 "DaybreakFlagsModel" "variants" "[I" ∈ TT := tt_m4 100 (by decide +kernel) (by decide +kernel)
theorem m_fl_X6_16 : Cond.fieldLink RX6 16 "DaybreakFlagsModel" "weight" "[I" ∈ TT := tt_m4 101 (by decide +kernel) (by decide +kernel)
theorem m_fl_X6_19 : Cond.fieldLink RX6 19 "DaybreakFlagsModel" "share" "[I" ∈ TT := tt_m4 102 (by decide +kernel) (by decide +kernel)
theorem m_fl_X6_22 : Cond.fieldLink RX6 22 "DaybreakFlagsModel" "step" "[I" ∈ TT := tt_m4 103 (by decide +kernel) (by decide +kernel)
theorem m_fl_X6_25 : Cond.fieldLink RX6 25 "DaybreakFlagsModel" "since" "[I" ∈ TT := tt_m4 104 (by decide +kernel) (by decide +kernel)
theorem m_fl_X6_28 : Cond.fieldLink RX6 28 "DaybreakFlagsModel" "isSticky" "[Z" ∈ TT := tt_m4 105 (by decide +kernel) (by decide +kernel)
theorem m_fl_X6_32 : Cond.fieldLink RX6 32 "DaybreakFlagsModel" "isOn" "[Z" ∈ TT := tt_m4 106 (by decide +kernel) (by decide +kernel)
theorem m_fl_X6_35 : Cond.fieldLink RX6 35 "DaybreakFlagsModel" "layer" "[I" ∈ TT := tt_m4 107 (by decide +kernel) (by decide +kernel)
theorem m_fl_X6_38 : Cond.fieldLink RX6 38 "DaybreakFlagsModel" "from" "[I" ∈ TT := tt_m4 108 (by decide +kernel) (by decide +kernel)
theorem m_fl_X6_41 : Cond.fieldLink RX6 41 "DaybreakFlagsModel" "to" "[I" ∈ TT := tt_m4 109 (by decide +kernel) (by decide +kernel)
theorem m_fl_X6_44 : Cond.fieldLink RX6 44 "DaybreakFlagsModel" "needs" "[I" ∈ TT := tt_m4 110 (by decide +kernel) (by decide +kernel)
theorem m_fl_X6_47 : Cond.fieldLink RX6 47 "DaybreakFlagsModel" "needed" "[I" ∈ TT := tt_m4 111 (by decide +kernel) (by decide +kernel)
theorem m_fl_X6_50 : Cond.fieldLink RX6 50 "DaybreakFlagsModel" "rules" "[I" ∈ TT := tt_m4 112 (by decide +kernel) (by decide +kernel)
theorem m_fl_X6_53 : Cond.fieldLink RX6 53 "DaybreakFlagsModel" "mark" "[I" ∈ TT := tt_m4 113 (by decide +kernel) (by decide +kernel)
theorem m_fl_X6_56 : Cond.fieldLink RX6 56 "DaybreakFlagsModel" "how" "[I" ∈ TT := tt_m4 114 (by decide +kernel) (by decide +kernel)
theorem m_fl_X6_59 : Cond.fieldLink RX6 59 "DaybreakFlagsModel" "limit" "[I" ∈ TT := tt_m4 115 (by decide +kernel) (by decide +kernel)
theorem m_fl_X6_62 : Cond.fieldLink RX6 62 "DaybreakFlagsModel" "comes" "[I" ∈ TT := tt_m4 116 (by decide +kernel) (by decide +kernel)
theorem m_fl_X6_151 : Cond.fieldLink RX6 151 "DaybreakFlagsModel" "arms" "I" ∈ TT := tt_m4 117 (by decide +kernel) (by decide +kernel)
theorem m_fl_X6_65 : Cond.fieldLink RX6 65 "DaybreakFlagsModel" "armOf" "[I" ∈ TT := tt_m4 118 (by decide +kernel) (by decide +kernel)
theorem m_fl_X6_68 : Cond.fieldLink RX6 68 "DaybreakFlagsModel" "armUser" "[I" ∈ TT := tt_m4 119 (by decide +kernel) (by decide +kernel)
theorem m_fl_X6_71 : Cond.fieldLink RX6 71 "DaybreakFlagsModel" "armVariant" "[I" ∈ TT := tt_m4 120 (by decide +kernel) (by decide +kernel)
theorem m_fl_X6_74 : Cond.fieldLink RX6 74 "DaybreakFlagsModel" "armSum" "[I" ∈ TT := tt_m4 121 (by decide +kernel) (by decide +kernel)
theorem m_fl_X6_77 : Cond.fieldLink RX6 77 "DaybreakFlagsModel" "hasActed" "[Z" ∈ TT := tt_m4 122 (by decide +kernel) (by decide +kernel)
theorem m_fl_X6_165 : Cond.fieldLink RX6 165 "DaybreakFlagsModel" "reason" "I" ∈ TT := tt_m4 123 (by decide +kernel) (by decide +kernel)
theorem m_ar_boolean : Cond.arrayClass .boolean ∈ TT := tt_m4 183 (by decide +kernel) (by decide +kernel)
theorem m_ml_L_130 : Cond.methodLink RL 130 yX6_thrown ∈ TT := tt_m4 184 (by decide +kernel) (by decide +kernel)
theorem m_im_X6_thrown : Cond.instanceMethod yX6_thrown ∈ TT := tt_m4 185 (by decide +kernel) (by decide +kernel)
theorem m_sl_X6_thrown : Cond.selects RX6 yX6_thrown yX6_thrown ∈ TT := tt_m4 186 (by decide +kernel) (by decide +kernel)
theorem m_cd_X6_thrown : Cond.code yX6_thrown cX6_thrown 1 (some .int) ∈ TT := tt_m4 187 (by decide +kernel) (by decide +kernel)
theorem m_ml_L_129 : Cond.methodLink RL 129 yX6_add ∈ TT := tt_m4 188 (by decide +kernel) (by decide +kernel)
theorem m_im_X6_add : Cond.instanceMethod yX6_add ∈ TT := tt_m4 189 (by decide +kernel) (by decide +kernel)
theorem m_sl_X6_add : Cond.selects RX6 yX6_add yX6_add ∈ TT := tt_m4 190 (by decide +kernel) (by decide +kernel)
theorem m_cd_X6_add : Cond.code yX6_add cX6_add 4 (some .int) ∈ TT := tt_m4 191 (by decide +kernel) (by decide +kernel)
theorem m_ml_X6_87 : Cond.methodLink RX6 87 yX6_isIn ∈ TT := tt_m4 192 (by decide +kernel) (by decide +kernel)
theorem m_st_X6_isIn : Cond.static yX6_isIn ∈ TT := tt_m4 193 (by decide +kernel) (by decide +kernel)
theorem m_cd_X6_isIn : Cond.code yX6_isIn cX6_isIn 3 (some .boolean) ∈ TT := tt_m4 194 (by decide +kernel) (by decide +kernel)
theorem m_ml_X6_95 : Cond.methodLink RX6 95 yX6_no ∈ TT := tt_m4 195 (by decide +kernel) (by decide +kernel)
theorem m_im_X6_no : Cond.instanceMethod yX6_no ∈ TT := tt_m4 197 (by decide +kernel) (by decide +kernel)
theorem m_cd_X6_no : Cond.code yX6_no cX6_no 2 (some .int) ∈ TT := tt_m4 198 (by decide +kernel) (by decide +kernel)
theorem m_ml_L_137 : Cond.methodLink RL 137 yX6_weigh ∈ TT := tt_m4 199 (by decide +kernel) (by decide +kernel)
theorem m_im_X6_weigh : Cond.instanceMethod yX6_weigh ∈ TT := tt_m4 200 (by decide +kernel) (by decide +kernel)
theorem m_sl_X6_weigh : Cond.selects RX6 yX6_weigh yX6_weigh ∈ TT := tt_m4 201 (by decide +kernel) (by decide +kernel)
theorem m_cd_X6_weigh : Cond.code yX6_weigh cX6_weigh 5 (some .int) ∈ TT := tt_m4 202 (by decide +kernel) (by decide +kernel)
theorem m_ml_X6_102 : Cond.methodLink RX6 102 yX6_isVariant ∈ TT := tt_m4 203 (by decide +kernel) (by decide +kernel)
theorem m_im_X6_isVariant : Cond.instanceMethod yX6_isVariant ∈ TT := tt_m4 205 (by decide +kernel) (by decide +kernel)
theorem m_cd_X6_isVariant : Cond.code yX6_isVariant cX6_isVariant 3 (some .boolean) ∈ TT := tt_m4 206 (by decide +kernel) (by decide +kernel)
theorem m_ml_X6_91 : Cond.methodLink RX6 91 yX6_isSwitch ∈ TT := tt_m4 207 (by decide +kernel) (by decide +kernel)
theorem m_im_X6_isSwitch : Cond.instanceMethod yX6_isSwitch ∈ TT := tt_m4 209 (by decide +kernel) (by decide +kernel)
theorem m_cd_X6_isSwitch : Cond.code yX6_isSwitch cX6_isSwitch 2 (some .boolean) ∈ TT := tt_m4 210 (by decide +kernel) (by decide +kernel)
theorem m_ml_L_141 : Cond.methodLink RL 141 yX6_turn ∈ TT := tt_m4 211 (by decide +kernel) (by decide +kernel)
theorem m_im_X6_turn : Cond.instanceMethod yX6_turn ∈ TT := tt_m4 212 (by decide +kernel) (by decide +kernel)
theorem m_sl_X6_turn : Cond.selects RX6 yX6_turn yX6_turn ∈ TT := tt_m4 213 (by decide +kernel) (by decide +kernel)
theorem m_cd_X6_turn : Cond.code yX6_turn cX6_turn 4 (some .boolean) ∈ TT := tt_m4 214 (by decide +kernel) (by decide +kernel)
theorem m_ml_X6_106 : Cond.methodLink RX6 106 yX6_isNot ∈ TT := tt_m4 215 (by decide +kernel) (by decide +kernel)
theorem m_im_X6_isNot : Cond.instanceMethod yX6_isNot ∈ TT := tt_m4 217 (by decide +kernel) (by decide +kernel)
theorem m_cd_X6_isNot : Cond.code yX6_isNot cX6_isNot 2 (some .boolean) ∈ TT := tt_m4 218 (by decide +kernel) (by decide +kernel)
theorem m_ml_L_144 : Cond.methodLink RL 144 yX6_ramp ∈ TT := tt_m4 219 (by decide +kernel) (by decide +kernel)
theorem m_im_X6_ramp : Cond.instanceMethod yX6_ramp ∈ TT := tt_m4 220 (by decide +kernel) (by decide +kernel)
theorem m_sl_X6_ramp : Cond.selects RX6 yX6_ramp yX6_ramp ∈ TT := tt_m4 221 (by decide +kernel) (by decide +kernel)
theorem m_cd_X6_ramp : Cond.code yX6_ramp cX6_ramp 5 (some .int) ∈ TT := tt_m4 222 (by decide +kernel) (by decide +kernel)
theorem m_ml_X6_117 : Cond.methodLink RX6 117 yX6_farIn ∈ TT := tt_m4 223 (by decide +kernel) (by decide +kernel)
theorem m_im_X6_farIn : Cond.instanceMethod yX6_farIn ∈ TT := tt_m4 225 (by decide +kernel) (by decide +kernel)
theorem m_cd_X6_farIn : Cond.code yX6_farIn cX6_farIn 3 (some .int) ∈ TT := tt_m4 226 (by decide +kernel) (by decide +kernel)
theorem m_lc_X6_109 : Cond.constantLong RX6 109 (1000) ∈ TT := tt_m4 227 (by decide +kernel) (by decide +kernel)
theorem m_ml_X6_111 : Cond.methodLink RX6 111 yJ9_min_f86c9 ∈ TT := tt_m4 228 (by decide +kernel) (by decide +kernel)
theorem m_st_J9_min_f86c9 : Cond.static yJ9_min_f86c9 ∈ TT := tt_m4 229 (by decide +kernel) (by decide +kernel)
theorem m_cd_J9_min_f86c9 : Cond.code yJ9_min_f86c9 cJ9_min_f86c9 4 (some .long) ∈ TT := tt_m4 230 (by decide +kernel) (by decide +kernel)
theorem m_ml_L_148 : Cond.methodLink RL 148 yX6_place ∈ TT := tt_m4 231 (by decide +kernel) (by decide +kernel)
theorem m_im_X6_place : Cond.instanceMethod yX6_place ∈ TT := tt_m4 232 (by decide +kernel) (by decide +kernel)
theorem m_sl_X6_place : Cond.selects RX6 yX6_place yX6_place ∈ TT := tt_m4 233 (by decide +kernel) (by decide +kernel)
theorem m_cd_X6_place : Cond.code yX6_place cX6_place 6 (some .int) ∈ TT := tt_m4 234 (by decide +kernel) (by decide +kernel)
theorem m_ml_X6_121 : Cond.methodLink RX6 121 yJ9_max_7cf53 ∈ TT := tt_m4 235 (by decide +kernel) (by decide +kernel)
theorem m_ml_X6_124 : Cond.methodLink RX6 124 yJ9_min_7cf53 ∈ TT := tt_m4 236 (by decide +kernel) (by decide +kernel)
theorem m_ml_L_151 : Cond.methodLink RL 151 yX6_need ∈ TT := tt_m4 237 (by decide +kernel) (by decide +kernel)
theorem m_im_X6_need : Cond.instanceMethod yX6_need ∈ TT := tt_m4 238 (by decide +kernel) (by decide +kernel)
theorem m_sl_X6_need : Cond.selects RX6 yX6_need yX6_need ∈ TT := tt_m4 239 (by decide +kernel) (by decide +kernel)
theorem m_cd_X6_need : Cond.code yX6_need cX6_need 5 (some .int) ∈ TT := tt_m5 0 (by decide +kernel) (by decide +kernel)
theorem m_ml_L_155 : Cond.methodLink RL 155 yX6_rule ∈ TT := tt_m5 1 (by decide +kernel) (by decide +kernel)
theorem m_im_X6_rule : Cond.instanceMethod yX6_rule ∈ TT := tt_m5 2 (by decide +kernel) (by decide +kernel)
theorem m_sl_X6_rule : Cond.selects RX6 yX6_rule yX6_rule ∈ TT := tt_m5 3 (by decide +kernel) (by decide +kernel)
theorem m_cd_X6_rule : Cond.code yX6_rule cX6_rule 7 (some .int) ∈ TT := tt_m5 4 (by decide +kernel) (by decide +kernel)
theorem m_ml_L_159 : Cond.methodLink RL 159 yX6_unrule ∈ TT := tt_m5 5 (by decide +kernel) (by decide +kernel)
theorem m_im_X6_unrule : Cond.instanceMethod yX6_unrule ∈ TT := tt_m5 6 (by decide +kernel) (by decide +kernel)
theorem m_sl_X6_unrule : Cond.selects RX6 yX6_unrule yX6_unrule ∈ TT := tt_m5 7 (by decide +kernel) (by decide +kernel)
theorem m_cd_X6_unrule : Cond.code yX6_unrule cX6_unrule 5 (some .int) ∈ TT := tt_m5 8 (by decide +kernel) (by decide +kernel)
theorem m_ml_X6_132 : Cond.methodLink RX6 132 yX6_moveUp ∈ TT := tt_m5 9 (by decide +kernel) (by decide +kernel)
theorem m_st_X6_moveUp : Cond.static yX6_moveUp ∈ TT := tt_m5 10 (by decide +kernel) (by decide +kernel)
theorem m_cd_X6_moveUp : Cond.code yX6_moveUp cX6_moveUp 3 none ∈ TT := tt_m5 11 (by decide +kernel) (by decide +kernel)
theorem m_ml_X6_126 : Cond.methodLink RX6 126 ⟨"java/lang/System", "arraycopy", "(Ljava/lang/Object;ILjava/lang/Object;II)V"⟩ ∈ TT := tt_m5 12 (by decide +kernel) (by decide +kernel)
theorem m_ml_L_163 : Cond.methodLink RL 163 yX6_hold ∈ TT := tt_m5 15 (by decide +kernel) (by decide +kernel)
theorem m_im_X6_hold : Cond.instanceMethod yX6_hold ∈ TT := tt_m5 16 (by decide +kernel) (by decide +kernel)
theorem m_sl_X6_hold : Cond.selects RX6 yX6_hold yX6_hold ∈ TT := tt_m5 17 (by decide +kernel) (by decide +kernel)
theorem m_cd_X6_hold : Cond.code yX6_hold cX6_hold 3 (some .int) ∈ TT := tt_m5 18 (by decide +kernel) (by decide +kernel)
theorem m_ml_L_166 : Cond.methodLink RL 166 yX6_goOn ∈ TT := tt_m5 19 (by decide +kernel) (by decide +kernel)
theorem m_im_X6_goOn : Cond.instanceMethod yX6_goOn ∈ TT := tt_m5 20 (by decide +kernel) (by decide +kernel)
theorem m_sl_X6_goOn : Cond.selects RX6 yX6_goOn yX6_goOn ∈ TT := tt_m5 21 (by decide +kernel) (by decide +kernel)
theorem m_cd_X6_goOn : Cond.code yX6_goOn cX6_goOn 2 (some .int) ∈ TT := tt_m5 22 (by decide +kernel) (by decide +kernel)
theorem m_ml_L_170 : Cond.methodLink RL 170 yX6_switches ∈ TT := tt_m5 23 (by decide +kernel) (by decide +kernel)
theorem m_im_X6_switches : Cond.instanceMethod yX6_switches ∈ TT := tt_m5 24 (by decide +kernel) (by decide +kernel)
theorem m_sl_X6_switches : Cond.selects RX6 yX6_switches yX6_switches ∈ TT := tt_m5 25 (by decide +kernel) (by decide +kernel)
theorem m_cd_X6_switches : Cond.code yX6_switches cX6_switches 1 (some .int) ∈ TT := tt_m5 26 (by decide +kernel) (by decide +kernel)
theorem m_ml_X6_139 : Cond.methodLink RX6 139 yX6_ok ∈ TT := tt_m5 27 (by decide +kernel) (by decide +kernel)
theorem m_im_X6_ok : Cond.instanceMethod yX6_ok ∈ TT := tt_m5 29 (by decide +kernel) (by decide +kernel)
theorem m_cd_X6_ok : Cond.code yX6_ok cX6_ok 2 (some .int) ∈ TT := tt_m5 30 (by decide +kernel) (by decide +kernel)
theorem m_ml_L_173 : Cond.methodLink RL 173 yX6_weight ∈ TT := tt_m5 31 (by decide +kernel) (by decide +kernel)
theorem m_im_X6_weight : Cond.instanceMethod yX6_weight ∈ TT := tt_m5 32 (by decide +kernel) (by decide +kernel)
theorem m_sl_X6_weight : Cond.selects RX6 yX6_weight yX6_weight ∈ TT := tt_m5 33 (by decide +kernel) (by decide +kernel)
theorem m_cd_X6_weight : Cond.code yX6_weight cX6_weight 3 (some .int) ∈ TT := tt_m5 34 (by decide +kernel) (by decide +kernel)
theorem m_ml_L_176 : Cond.methodLink RL 176 yX6_share ∈ TT := tt_m5 35 (by decide +kernel) (by decide +kernel)
theorem m_im_X6_share : Cond.instanceMethod yX6_share ∈ TT := tt_m5 36 (by decide +kernel) (by decide +kernel)
theorem m_sl_X6_share : Cond.selects RX6 yX6_share yX6_share ∈ TT := tt_m5 37 (by decide +kernel) (by decide +kernel)
theorem m_cd_X6_share : Cond.code yX6_share cX6_share 2 (some .int) ∈ TT := tt_m5 38 (by decide +kernel) (by decide +kernel)
theorem m_ml_L_179 : Cond.methodLink RL 179 yX6_left ∈ TT := tt_m5 39 (by decide +kernel) (by decide +kernel)
theorem m_im_X6_left : Cond.instanceMethod yX6_left ∈ TT := tt_m5 40 (by decide +kernel) (by decide +kernel)
theorem m_sl_X6_left : Cond.selects RX6 yX6_left yX6_left ∈ TT := tt_m5 41 (by decide +kernel) (by decide +kernel)
theorem m_cd_X6_left : Cond.code yX6_left cX6_left 2 (some .int) ∈ TT := tt_m5 42 (by decide +kernel) (by decide +kernel)
theorem m_ml_X6_142 : Cond.methodLink RX6 142 yX6_leftIn ∈ TT := tt_m5 43 (by decide +kernel) (by decide +kernel)
theorem m_im_X6_leftIn : Cond.instanceMethod yX6_leftIn ∈ TT := tt_m5 45 (by decide +kernel) (by decide +kernel)
theorem m_cd_X6_leftIn : Cond.code yX6_leftIn cX6_leftIn 4 (some .int) ∈ TT := tt_m5 46 (by decide +kernel) (by decide +kernel)
theorem m_ml_L_182 : Cond.methodLink RL 182 yX6_bucket ∈ TT := tt_m5 47 (by decide +kernel) (by decide +kernel)
theorem m_im_X6_bucket : Cond.instanceMethod yX6_bucket ∈ TT := tt_m5 48 (by decide +kernel) (by decide +kernel)
theorem m_sl_X6_bucket : Cond.selects RX6 yX6_bucket yX6_bucket ∈ TT := tt_m5 49 (by decide +kernel) (by decide +kernel)
theorem m_cd_X6_bucket : Cond.code yX6_bucket cX6_bucket 3 (some .int) ∈ TT := tt_m5 50 (by decide +kernel) (by decide +kernel)
theorem m_ml_X6_145 : Cond.methodLink RX6 145 yX6_isUser ∈ TT := tt_m5 51 (by decide +kernel) (by decide +kernel)
theorem m_st_X6_isUser : Cond.static yX6_isUser ∈ TT := tt_m5 52 (by decide +kernel) (by decide +kernel)
theorem m_cd_X6_isUser : Cond.code yX6_isUser cX6_isUser 1 (some .boolean) ∈ TT := tt_m5 53 (by decide +kernel) (by decide +kernel)
theorem m_ml_X6_148 : Cond.methodLink RX6 148 yX6_bucketOf ∈ TT := tt_m5 54 (by decide +kernel) (by decide +kernel)
theorem m_st_X6_bucketOf : Cond.static yX6_bucketOf ∈ TT := tt_m5 55 (by decide +kernel) (by decide +kernel)
theorem m_cd_X6_bucketOf : Cond.code yX6_bucketOf cX6_bucketOf 3 (some .int) ∈ TT := tt_m5 56 (by decide +kernel) (by decide +kernel)
theorem m_ml_L_185 : Cond.methodLink RL 185 yX6_gets ∈ TT := tt_m5 57 (by decide +kernel) (by decide +kernel)
theorem m_im_X6_gets : Cond.instanceMethod yX6_gets ∈ TT := tt_m5 58 (by decide +kernel) (by decide +kernel)
theorem m_sl_X6_gets : Cond.selects RX6 yX6_gets yX6_gets ∈ TT := tt_m5 59 (by decide +kernel) (by decide +kernel)
theorem m_cd_X6_gets : Cond.code yX6_gets cX6_gets 5 (some .int) ∈ TT := tt_m5 60 (by decide +kernel) (by decide +kernel)
theorem m_ml_X6_175 : Cond.methodLink RX6 175 yX6_isAsked ∈ TT := tt_m5 61 (by decide +kernel) (by decide +kernel)
theorem m_im_X6_isAsked : Cond.instanceMethod yX6_isAsked ∈ TT := tt_m5 63 (by decide +kernel) (by decide +kernel)
theorem m_cd_X6_isAsked : Cond.code yX6_isAsked cX6_isAsked 5 (some .boolean) ∈ TT := tt_m5 64 (by decide +kernel) (by decide +kernel)
theorem m_ml_X6_154 : Cond.methodLink RX6 154 yX6_getsOf ∈ TT := tt_m5 65 (by decide +kernel) (by decide +kernel)
theorem m_im_X6_getsOf : Cond.instanceMethod yX6_getsOf ∈ TT := tt_m5 67 (by decide +kernel) (by decide +kernel)
theorem m_cd_X6_getsOf : Cond.code yX6_getsOf cX6_getsOf 5 (some .int) ∈ TT := tt_m5 68 (by decide +kernel) (by decide +kernel)
theorem m_ml_X6_171 : Cond.methodLink RX6 171 yX6_getsNow ∈ TT := tt_m5 69 (by decide +kernel) (by decide +kernel)
theorem m_im_X6_getsNow : Cond.instanceMethod yX6_getsNow ∈ TT := tt_m5 71 (by decide +kernel) (by decide +kernel)
theorem m_cd_X6_getsNow : Cond.code yX6_getsNow cX6_getsNow 9 (some .int) ∈ TT := tt_m5 72 (by decide +kernel) (by decide +kernel)
theorem m_ml_X6_158 : Cond.methodLink RX6 158 yX6_armAt ∈ TT := tt_m5 73 (by decide +kernel) (by decide +kernel)
theorem m_im_X6_armAt : Cond.instanceMethod yX6_armAt ∈ TT := tt_m5 75 (by decide +kernel) (by decide +kernel)
theorem m_cd_X6_armAt : Cond.code yX6_armAt cX6_armAt 4 (some .int) ∈ TT := tt_m5 76 (by decide +kernel) (by decide +kernel)
theorem m_ml_X6_161 : Cond.methodLink RX6 161 yX6_holdsNow ∈ TT := tt_m5 77 (by decide +kernel) (by decide +kernel)
theorem m_im_X6_holdsNow : Cond.instanceMethod yX6_holdsNow ∈ TT := tt_m5 79 (by decide +kernel) (by decide +kernel)
theorem m_cd_X6_holdsNow : Cond.code yX6_holdsNow cX6_holdsNow 6 (some .int) ∈ TT := tt_m5 80 (by decide +kernel) (by decide +kernel)
theorem m_ml_X6_168 : Cond.methodLink RX6 168 yX6_split ∈ TT := tt_m5 81 (by decide +kernel) (by decide +kernel)
theorem m_im_X6_split : Cond.instanceMethod yX6_split ∈ TT := tt_m5 83 (by decide +kernel) (by decide +kernel)
theorem m_cd_X6_split : Cond.code yX6_split cX6_split 6 (some .int) ∈ TT := tt_m5 84 (by decide +kernel) (by decide +kernel)
theorem m_ml_L_188 : Cond.methodLink RL 188 yX6_why ∈ TT := tt_m5 85 (by decide +kernel) (by decide +kernel)
theorem m_im_X6_why : Cond.instanceMethod yX6_why ∈ TT := tt_m5 86 (by decide +kernel) (by decide +kernel)
theorem m_sl_X6_why : Cond.selects RX6 yX6_why yX6_why ∈ TT := tt_m5 87 (by decide +kernel) (by decide +kernel)
theorem m_cd_X6_why : Cond.code yX6_why cX6_why 5 (some .int) ∈ TT := tt_m5 88 (by decide +kernel) (by decide +kernel)
theorem m_ml_L_191 : Cond.methodLink RL 191 yX6_holds ∈ TT := tt_m5 89 (by decide +kernel) (by decide +kernel)
theorem m_im_X6_holds : Cond.instanceMethod yX6_holds ∈ TT := tt_m5 90 (by decide +kernel) (by decide +kernel)
theorem m_sl_X6_holds : Cond.selects RX6 yX6_holds yX6_holds ∈ TT := tt_m5 91 (by decide +kernel) (by decide +kernel)
theorem m_cd_X6_holds : Cond.code yX6_holds cX6_holds 5 (some .int) ∈ TT := tt_m5 92 (by decide +kernel) (by decide +kernel)
theorem m_ml_L_194 : Cond.methodLink RL 194 yX6_ask ∈ TT := tt_m5 93 (by decide +kernel) (by decide +kernel)
theorem m_im_X6_ask : Cond.instanceMethod yX6_ask ∈ TT := tt_m5 94 (by decide +kernel) (by decide +kernel)
theorem m_sl_X6_ask : Cond.selects RX6 yX6_ask yX6_ask ∈ TT := tt_m5 95 (by decide +kernel) (by decide +kernel)
theorem m_cd_X6_ask : Cond.code yX6_ask cX6_ask 6 (some .int) ∈ TT := tt_m5 96 (by decide +kernel) (by decide +kernel)
theorem m_ml_L_197 : Cond.methodLink RL 197 yX6_act ∈ TT := tt_m5 97 (by decide +kernel) (by decide +kernel)
theorem m_im_X6_act : Cond.instanceMethod yX6_act ∈ TT := tt_m5 98 (by decide +kernel) (by decide +kernel)
theorem m_sl_X6_act : Cond.selects RX6 yX6_act yX6_act ∈ TT := tt_m5 99 (by decide +kernel) (by decide +kernel)
theorem m_cd_X6_act : Cond.code yX6_act cX6_act 5 (some .int) ∈ TT := tt_m5 100 (by decide +kernel) (by decide +kernel)
theorem m_ml_L_200 : Cond.methodLink RL 200 yX6_arm ∈ TT := tt_m5 101 (by decide +kernel) (by decide +kernel)
theorem m_im_X6_arm : Cond.instanceMethod yX6_arm ∈ TT := tt_m5 102 (by decide +kernel) (by decide +kernel)
theorem m_sl_X6_arm : Cond.selects RX6 yX6_arm yX6_arm ∈ TT := tt_m5 103 (by decide +kernel) (by decide +kernel)
theorem m_cd_X6_arm : Cond.code yX6_arm cX6_arm 3 (some .int) ∈ TT := tt_m5 104 (by decide +kernel) (by decide +kernel)
theorem m_ml_X6_179 : Cond.methodLink RX6 179 yX6_armNow ∈ TT := tt_m5 105 (by decide +kernel) (by decide +kernel)
theorem m_im_X6_armNow : Cond.instanceMethod yX6_armNow ∈ TT := tt_m5 107 (by decide +kernel) (by decide +kernel)
theorem m_cd_X6_armNow : Cond.code yX6_armNow cX6_armNow 4 (some .int) ∈ TT := tt_m5 108 (by decide +kernel) (by decide +kernel)
theorem m_ml_L_204 : Cond.methodLink RL 204 yX6_arms ∈ TT := tt_m5 109 (by decide +kernel) (by decide +kernel)
theorem m_im_X6_arms : Cond.instanceMethod yX6_arms ∈ TT := tt_m5 110 (by decide +kernel) (by decide +kernel)
theorem m_sl_X6_arms : Cond.selects RX6 yX6_arms yX6_arms ∈ TT := tt_m5 111 (by decide +kernel) (by decide +kernel)
theorem m_cd_X6_arms : Cond.code yX6_arms cX6_arms 1 (some .int) ∈ TT := tt_m5 112 (by decide +kernel) (by decide +kernel)
theorem m_ml_L_207 : Cond.methodLink RL 207 yX6_told ∈ TT := tt_m5 113 (by decide +kernel) (by decide +kernel)
theorem m_im_X6_told : Cond.instanceMethod yX6_told ∈ TT := tt_m5 114 (by decide +kernel) (by decide +kernel)
theorem m_sl_X6_told : Cond.selects RX6 yX6_told yX6_told ∈ TT := tt_m5 115 (by decide +kernel) (by decide +kernel)
theorem m_cd_X6_told : Cond.code yX6_told cX6_told 4 (some .int) ∈ TT := tt_m5 116 (by decide +kernel) (by decide +kernel)
theorem m_ml_X6_182 : Cond.methodLink RX6 182 yX6_toldNow ∈ TT := tt_m5 117 (by decide +kernel) (by decide +kernel)
theorem m_im_X6_toldNow : Cond.instanceMethod yX6_toldNow ∈ TT := tt_m5 119 (by decide +kernel) (by decide +kernel)
theorem m_cd_X6_toldNow : Cond.code yX6_toldNow cX6_toldNow 6 (some .int) ∈ TT := tt_m5 120 (by decide +kernel) (by decide +kernel)
theorem m_ml_L_211 : Cond.methodLink RL 211 yX6_mean ∈ TT := tt_m5 121 (by decide +kernel) (by decide +kernel)
theorem m_im_X6_mean : Cond.instanceMethod yX6_mean ∈ TT := tt_m5 122 (by decide +kernel) (by decide +kernel)
theorem m_sl_X6_mean : Cond.selects RX6 yX6_mean yX6_mean ∈ TT := tt_m5 123 (by decide +kernel) (by decide +kernel)
theorem m_cd_X6_mean : Cond.code yX6_mean cX6_mean 3 (some .double) ∈ TT := tt_m5 124 (by decide +kernel) (by decide +kernel)
theorem m_ml_X6_185 : Cond.methodLink RX6 185 yX6_meanNow ∈ TT := tt_m5 125 (by decide +kernel) (by decide +kernel)
theorem m_im_X6_meanNow : Cond.instanceMethod yX6_meanNow ∈ TT := tt_m5 127 (by decide +kernel) (by decide +kernel)
theorem m_cd_X6_meanNow : Cond.code yX6_meanNow cX6_meanNow 4 (some .double) ∈ TT := tt_m5 128 (by decide +kernel) (by decide +kernel)
theorem m_ml_L_214 : Cond.methodLink RL 214 yX6_lift ∈ TT := tt_m5 129 (by decide +kernel) (by decide +kernel)
theorem m_im_X6_lift : Cond.instanceMethod yX6_lift ∈ TT := tt_m5 130 (by decide +kernel) (by decide +kernel)
theorem m_sl_X6_lift : Cond.selects RX6 yX6_lift yX6_lift ∈ TT := tt_m5 131 (by decide +kernel) (by decide +kernel)
theorem m_cd_X6_lift : Cond.code yX6_lift cX6_lift 3 (some .double) ∈ TT := tt_m5 132 (by decide +kernel) (by decide +kernel)
theorem m_ml_L_217 : Cond.methodLink RL 217 yX6_sure ∈ TT := tt_m5 133 (by decide +kernel) (by decide +kernel)
theorem m_im_X6_sure : Cond.instanceMethod yX6_sure ∈ TT := tt_m5 134 (by decide +kernel) (by decide +kernel)
theorem m_sl_X6_sure : Cond.selects RX6 yX6_sure yX6_sure ∈ TT := tt_m5 135 (by decide +kernel) (by decide +kernel)
theorem m_cd_X6_sure : Cond.code yX6_sure cX6_sure 9 (some .double) ∈ TT := tt_m5 136 (by decide +kernel) (by decide +kernel)
theorem m_ml_X6_189 : Cond.methodLink RX6 189 yX6_spread ∈ TT := tt_m5 137 (by decide +kernel) (by decide +kernel)
theorem m_im_X6_spread : Cond.instanceMethod yX6_spread ∈ TT := tt_m5 139 (by decide +kernel) (by decide +kernel)
theorem m_cd_X6_spread : Cond.code yX6_spread cX6_spread 6 (some .double) ∈ TT := tt_m5 140 (by decide +kernel) (by decide +kernel)
theorem m_ml_L_220 : Cond.methodLink RL 220 yX6_bad ∈ TT := tt_m5 141 (by decide +kernel) (by decide +kernel)
theorem m_im_X6_bad : Cond.instanceMethod yX6_bad ∈ TT := tt_m5 142 (by decide +kernel) (by decide +kernel)
theorem m_sl_X6_bad : Cond.selects RX6 yX6_bad yX6_bad ∈ TT := tt_m5 143 (by decide +kernel) (by decide +kernel)
theorem m_cd_X6_bad : Cond.code yX6_bad cX6_bad 2 (some .int) ∈ TT := tt_m5 144 (by decide +kernel) (by decide +kernel)
theorem m_ml_X6_194 : Cond.methodLink RX6 194 yX6_badNow ∈ TT := tt_m5 145 (by decide +kernel) (by decide +kernel)
theorem m_im_X6_badNow : Cond.instanceMethod yX6_badNow ∈ TT := tt_m5 147 (by decide +kernel) (by decide +kernel)
theorem m_cd_X6_badNow : Cond.code yX6_badNow cX6_badNow 10 (some .int) ∈ TT := tt_m5 148 (by decide +kernel) (by decide +kernel)
theorem m_lc_X6_192 : Cond.constantLong RX6 192 (10) ∈ TT := tt_m5 149 (by decide +kernel) (by decide +kernel)
theorem m_ml_L_223 : Cond.methodLink RL 223 yX6_isTrusted ∈ TT := tt_m5 150 (by decide +kernel) (by decide +kernel)
theorem m_im_X6_isTrusted : Cond.instanceMethod yX6_isTrusted ∈ TT := tt_m5 151 (by decide +kernel) (by decide +kernel)
theorem m_sl_X6_isTrusted : Cond.selects RX6 yX6_isTrusted yX6_isTrusted ∈ TT := tt_m5 152 (by decide +kernel) (by decide +kernel)
theorem m_cd_X6_isTrusted : Cond.code yX6_isTrusted cX6_isTrusted 2 (some .boolean) ∈ TT := tt_m5 153 (by decide +kernel) (by decide +kernel)
theorem m_ml_X6_197 : Cond.methodLink RX6 197 yX6_isTrustedNow ∈ TT := tt_m5 154 (by decide +kernel) (by decide +kernel)
theorem m_im_X6_isTrustedNow : Cond.instanceMethod yX6_isTrustedNow ∈ TT := tt_m5 156 (by decide +kernel) (by decide +kernel)
theorem m_cd_X6_isTrustedNow : Cond.code yX6_isTrustedNow cX6_isTrustedNow 4 (some .boolean) ∈ TT := tt_m5 157 (by decide +kernel) (by decide +kernel)
theorem m_ml_L_226 : Cond.methodLink RL 226 yX6_best ∈ TT := tt_m5 158 (by decide +kernel) (by decide +kernel)
theorem m_im_X6_best : Cond.instanceMethod yX6_best ∈ TT := tt_m5 159 (by decide +kernel) (by decide +kernel)
theorem m_sl_X6_best : Cond.selects RX6 yX6_best yX6_best ∈ TT := tt_m5 160 (by decide +kernel) (by decide +kernel)
theorem m_cd_X6_best : Cond.code yX6_best cX6_best 2 (some .int) ∈ TT := tt_m5 161 (by decide +kernel) (by decide +kernel)
theorem m_ml_X6_200 : Cond.methodLink RX6 200 yX6_bestNow ∈ TT := tt_m5 162 (by decide +kernel) (by decide +kernel)
theorem m_im_X6_bestNow : Cond.instanceMethod yX6_bestNow ∈ TT := tt_m5 164 (by decide +kernel) (by decide +kernel)
theorem m_cd_X6_bestNow : Cond.code yX6_bestNow cX6_bestNow 4 (some .int) ∈ TT := tt_m5 165 (by decide +kernel) (by decide +kernel)
theorem m_ml_L_229 : Cond.methodLink RL 229 yX6_reach ∈ TT := tt_m5 166 (by decide +kernel) (by decide +kernel)
theorem m_im_X6_reach : Cond.instanceMethod yX6_reach ∈ TT := tt_m5 167 (by decide +kernel) (by decide +kernel)
theorem m_sl_X6_reach : Cond.selects RX6 yX6_reach yX6_reach ∈ TT := tt_m5 168 (by decide +kernel) (by decide +kernel)
theorem m_cd_X6_reach : Cond.code yX6_reach cX6_reach 4 (some .int) ∈ TT := tt_m5 169 (by decide +kernel) (by decide +kernel)
theorem m_ml_X6_206 : Cond.methodLink RX6 206 yX6_reachNow ∈ TT := tt_m5 170 (by decide +kernel) (by decide +kernel)
theorem m_im_X6_reachNow : Cond.instanceMethod yX6_reachNow ∈ TT := tt_m5 172 (by decide +kernel) (by decide +kernel)
theorem m_cd_X6_reachNow : Cond.code yX6_reachNow cX6_reachNow 6 (some .int) ∈ TT := tt_m5 173 (by decide +kernel) (by decide +kernel)
theorem m_ml_X6_203 : Cond.methodLink RX6 203 yX6_getsBy ∈ TT := tt_m5 174 (by decide +kernel) (by decide +kernel)
theorem m_im_X6_getsBy : Cond.instanceMethod yX6_getsBy ∈ TT := tt_m5 176 (by decide +kernel) (by decide +kernel)
theorem m_cd_X6_getsBy : Cond.code yX6_getsBy cX6_getsBy 3 (some .int) ∈ TT := tt_m5 177 (by decide +kernel) (by decide +kernel)
theorem m_ml_L_232 : Cond.methodLink RL 232 yX6_both ∈ TT := tt_m5 178 (by decide +kernel) (by decide +kernel)
theorem m_im_X6_both : Cond.instanceMethod yX6_both ∈ TT := tt_m5 179 (by decide +kernel) (by decide +kernel)
theorem m_sl_X6_both : Cond.selects RX6 yX6_both yX6_both ∈ TT := tt_m5 180 (by decide +kernel) (by decide +kernel)
theorem m_cd_X6_both : Cond.code yX6_both cX6_both 6 (some .int) ∈ TT := tt_m5 181 (by decide +kernel) (by decide +kernel)
theorem m_ml_X6_209 : Cond.methodLink RX6 209 yX6_isSplit ∈ TT := tt_m5 182 (by decide +kernel) (by decide +kernel)
theorem m_im_X6_isSplit : Cond.instanceMethod yX6_isSplit ∈ TT := tt_m5 184 (by decide +kernel) (by decide +kernel)
theorem m_cd_X6_isSplit : Cond.code yX6_isSplit cX6_isSplit 3 (some .boolean) ∈ TT := tt_m5 185 (by decide +kernel) (by decide +kernel)
theorem m_ml_L_235 : Cond.methodLink RL 235 yX6_wouldChange ∈ TT := tt_m5 186 (by decide +kernel) (by decide +kernel)
theorem m_im_X6_wouldChange : Cond.instanceMethod yX6_wouldChange ∈ TT := tt_m5 187 (by decide +kernel) (by decide +kernel)
theorem m_sl_X6_wouldChange : Cond.selects RX6 yX6_wouldChange yX6_wouldChange ∈ TT := tt_m5 188 (by decide +kernel) (by decide +kernel)
theorem m_cd_X6_wouldChange : Cond.code yX6_wouldChange cX6_wouldChange 6 (some .int) ∈ TT := tt_m5 189 (by decide +kernel) (by decide +kernel)
theorem m_ml_L_238 : Cond.methodLink RL 238 yX6_wouldTurn ∈ TT := tt_m5 190 (by decide +kernel) (by decide +kernel)
theorem m_im_X6_wouldTurn : Cond.instanceMethod yX6_wouldTurn ∈ TT := tt_m5 191 (by decide +kernel) (by decide +kernel)
theorem m_sl_X6_wouldTurn : Cond.selects RX6 yX6_wouldTurn yX6_wouldTurn ∈ TT := tt_m5 192 (by decide +kernel) (by decide +kernel)
theorem m_cd_X6_wouldTurn : Cond.code yX6_wouldTurn cX6_wouldTurn 6 (some .int) ∈ TT := tt_m5 193 (by decide +kernel) (by decide +kernel)
theorem m_ml_X6_212 : Cond.methodLink RX6 212 yX6_all ∈ TT := tt_m5 194 (by decide +kernel) (by decide +kernel)
theorem m_im_X6_all : Cond.instanceMethod yX6_all ∈ TT := tt_m5 196 (by decide +kernel) (by decide +kernel)
theorem m_cd_X6_all : Cond.code yX6_all cX6_all 4 (some .int) ∈ TT := tt_m5 197 (by decide +kernel) (by decide +kernel)
theorem m_ml_L_241 : Cond.methodLink RL 241 yX6_shareIn ∈ TT := tt_m5 198 (by decide +kernel) (by decide +kernel)
theorem m_im_X6_shareIn : Cond.instanceMethod yX6_shareIn ∈ TT := tt_m5 199 (by decide +kernel) (by decide +kernel)
theorem m_sl_X6_shareIn : Cond.selects RX6 yX6_shareIn yX6_shareIn ∈ TT := tt_m5 200 (by decide +kernel) (by decide +kernel)
theorem m_cd_X6_shareIn : Cond.code yX6_shareIn cX6_shareIn 3 (some .int) ∈ TT := tt_m5 201 (by decide +kernel) (by decide +kernel)
theorem m_ml_L_246 : Cond.methodLink RL 246 yX6_digest ∈ TT := tt_m5 202 (by decide +kernel) (by decide +kernel)
theorem m_im_X6_digest : Cond.instanceMethod yX6_digest ∈ TT := tt_m5 203 (by decide +kernel) (by decide +kernel)
theorem m_sl_X6_digest : Cond.selects RX6 yX6_digest yX6_digest ∈ TT := tt_m5 204 (by decide +kernel) (by decide +kernel)
theorem m_cd_X6_digest : Cond.code yX6_digest cX6_digest 6 (some .long) ∈ TT := tt_m5 205 (by decide +kernel) (by decide +kernel)
theorem m_lc_X6_215 : Cond.constantLong RX6 215 (83297) ∈ TT := tt_m5 206 (by decide +kernel) (by decide +kernel)
theorem m_lc_X6_217 : Cond.constantLong RX6 217 (31) ∈ TT := tt_m5 207 (by decide +kernel) (by decide +kernel)
theorem m_ar_double : Cond.arrayClass .double ∈ TT := tt_m5 208 (by decide +kernel) (by decide +kernel)
theorem m_sl_X5_withSwitch : Cond.selects RX5 yX5_withSwitch yX5_withSwitch ∈ TT := tt_m0 1 (by decide +kernel) (by decide +kernel)
theorem m_sl_X5_known : Cond.selects RX5 yX5_known yX5_known ∈ TT := tt_m0 2 (by decide +kernel) (by decide +kernel)
theorem m_sl_X5_switchAt : Cond.selects RX5 yX5_switchAt yX5_switchAt ∈ TT := tt_m0 3 (by decide +kernel) (by decide +kernel)
theorem m_sl_X5_variantOf : Cond.selects RX5 yX5_variantOf yX5_variantOf ∈ TT := tt_m0 4 (by decide +kernel) (by decide +kernel)
theorem m_sl_X5_reasonOf : Cond.selects RX5 yX5_reasonOf yX5_reasonOf ∈ TT := tt_m0 5 (by decide +kernel) (by decide +kernel)
theorem m_sl_X5_hasNeed : Cond.selects RX5 yX5_hasNeed yX5_hasNeed ∈ TT := tt_m0 6 (by decide +kernel) (by decide +kernel)
theorem m_sl_X5_isInLayer : Cond.selects RX5 yX5_isInLayer yX5_isInLayer ∈ TT := tt_m0 7 (by decide +kernel) (by decide +kernel)
theorem m_sl_X5_variantBy : Cond.selects RX5 yX5_variantBy yX5_variantBy ∈ TT := tt_m0 8 (by decide +kernel) (by decide +kernel)
theorem m_sl_X5_isTaken : Cond.selects RX5 yX5_isTaken yX5_isTaken ∈ TT := tt_m0 9 (by decide +kernel) (by decide +kernel)
theorem m_sl_X4_spreadByCount : Cond.selects RX4 yX4_spreadByCount yX4_spreadByCount ∈ TT := tt_m0 10 (by decide +kernel) (by decide +kernel)
theorem m_sl_X5_changesByTurning : Cond.selects RX5 yX5_changesByTurning yX5_changesByTurning ∈ TT := tt_m0 11 (by decide +kernel) (by decide +kernel)
theorem m_sl_X6_no : Cond.selects RX6 yX6_no yX6_no ∈ TT := tt_m0 12 (by decide +kernel) (by decide +kernel)
theorem m_sl_X6_isVariant : Cond.selects RX6 yX6_isVariant yX6_isVariant ∈ TT := tt_m0 13 (by decide +kernel) (by decide +kernel)
theorem m_sl_X6_isSwitch : Cond.selects RX6 yX6_isSwitch yX6_isSwitch ∈ TT := tt_m0 14 (by decide +kernel) (by decide +kernel)
theorem m_sl_X6_isNot : Cond.selects RX6 yX6_isNot yX6_isNot ∈ TT := tt_m0 15 (by decide +kernel) (by decide +kernel)
theorem m_sl_X6_farIn : Cond.selects RX6 yX6_farIn yX6_farIn ∈ TT := tt_m0 16 (by decide +kernel) (by decide +kernel)
theorem m_sl_X6_ok : Cond.selects RX6 yX6_ok yX6_ok ∈ TT := tt_m0 17 (by decide +kernel) (by decide +kernel)
theorem m_sl_X6_leftIn : Cond.selects RX6 yX6_leftIn yX6_leftIn ∈ TT := tt_m0 18 (by decide +kernel) (by decide +kernel)
theorem m_sl_X6_isAsked : Cond.selects RX6 yX6_isAsked yX6_isAsked ∈ TT := tt_m0 19 (by decide +kernel) (by decide +kernel)
theorem m_sl_X6_getsOf : Cond.selects RX6 yX6_getsOf yX6_getsOf ∈ TT := tt_m0 20 (by decide +kernel) (by decide +kernel)
theorem m_sl_X6_getsNow : Cond.selects RX6 yX6_getsNow yX6_getsNow ∈ TT := tt_m0 21 (by decide +kernel) (by decide +kernel)
theorem m_sl_X6_armAt : Cond.selects RX6 yX6_armAt yX6_armAt ∈ TT := tt_m0 22 (by decide +kernel) (by decide +kernel)
theorem m_sl_X6_holdsNow : Cond.selects RX6 yX6_holdsNow yX6_holdsNow ∈ TT := tt_m0 23 (by decide +kernel) (by decide +kernel)
theorem m_sl_X6_split : Cond.selects RX6 yX6_split yX6_split ∈ TT := tt_m0 24 (by decide +kernel) (by decide +kernel)
theorem m_sl_X6_armNow : Cond.selects RX6 yX6_armNow yX6_armNow ∈ TT := tt_m0 25 (by decide +kernel) (by decide +kernel)
theorem m_sl_X6_toldNow : Cond.selects RX6 yX6_toldNow yX6_toldNow ∈ TT := tt_m0 26 (by decide +kernel) (by decide +kernel)
theorem m_sl_X6_meanNow : Cond.selects RX6 yX6_meanNow yX6_meanNow ∈ TT := tt_m0 27 (by decide +kernel) (by decide +kernel)
theorem m_sl_X6_spread : Cond.selects RX6 yX6_spread yX6_spread ∈ TT := tt_m0 28 (by decide +kernel) (by decide +kernel)
theorem m_sl_X6_badNow : Cond.selects RX6 yX6_badNow yX6_badNow ∈ TT := tt_m0 29 (by decide +kernel) (by decide +kernel)
theorem m_sl_X6_isTrustedNow : Cond.selects RX6 yX6_isTrustedNow yX6_isTrustedNow ∈ TT := tt_m0 30 (by decide +kernel) (by decide +kernel)
theorem m_sl_X6_bestNow : Cond.selects RX6 yX6_bestNow yX6_bestNow ∈ TT := tt_m0 31 (by decide +kernel) (by decide +kernel)
theorem m_sl_X6_reachNow : Cond.selects RX6 yX6_reachNow yX6_reachNow ∈ TT := tt_m0 32 (by decide +kernel) (by decide +kernel)
theorem m_sl_X6_getsBy : Cond.selects RX6 yX6_getsBy yX6_getsBy ∈ TT := tt_m0 33 (by decide +kernel) (by decide +kernel)
theorem m_sl_X6_isSplit : Cond.selects RX6 yX6_isSplit yX6_isSplit ∈ TT := tt_m0 34 (by decide +kernel) (by decide +kernel)
theorem m_sl_X6_all : Cond.selects RX6 yX6_all yX6_all ∈ TT := tt_m0 35 (by decide +kernel) (by decide +kernel)
theorem m_cd_objectInit : Cond.code objectInit ⟨#[0xb1]⟩ 1 none ∈ TT := tt_m1 23 (by decide +kernel) (by decide +kernel)
theorem tb_l {ws : List Cond} (ps : List Nat) (h : ws = ps.filterMap (fun i => lw_tbl[i]?)) : ∀ w ∈ ws, w ∈ lw_tbl := fun w hw => by
  rw [h] at hw
  obtain ⟨i, -, hi⟩ := List.mem_filterMap.mp hw
  exact List.mem_of_getElem? hi
theorem m_u_X0 : ∀ w ∈ wsX00, w ∈ TT := tt_l [712, 714, 716, 718, 720] (by decide +kernel) (by decide +kernel)
theorem m_u_X1 : ∀ w ∈ wsX10, w ∈ TT := tt_l [77, 79, 81, 83, 85, 87] (by decide +kernel) (by decide +kernel)
theorem m_u_X2 : ∀ w ∈ wsX20, w ∈ TT := tt_l [609, 611, 613, 615] (by decide +kernel) (by decide +kernel)
theorem m_u_X3 : ∀ w ∈ wsX30, w ∈ TT := tt_l [486, 488, 490, 492, 494, 496, 498, 500, 502, 504, 506, 508, 510, 512, 514, 516, 518, 520] (by decide +kernel) (by decide +kernel)
theorem m_u_X4 : ∀ w ∈ wsX40, w ∈ TT := tt_l [443, 445, 447, 449, 451] (by decide +kernel) (by decide +kernel)
theorem m_u_X5 : ∀ w ∈ wsX50, w ∈ TT := tt_l [96, 98, 100, 102, 104, 106] (by decide +kernel) (by decide +kernel)
theorem m_u_X6 : ∀ w ∈ wsX60, w ∈ TT := tt_l [880, 882, 884, 886, 888, 890, 892, 894, 896, 898, 900, 902, 904, 906, 908, 910, 912, 914, 916, 918, 920, 922, 924, 926, 928, 930, 932, 934, 936] (by decide +kernel) (by decide +kernel)
/-- a call's words, out of the tables' words alone -/
theorem kg_V {own C : String} {idx : Nat} {y : MethodName} {w : Cond} (h1 : Cond.methodLink own idx y ∈ TT) (h2 : Cond.instanceMethod y ∈ TT) (h3 : Cond.selects C y y ∈ TT) (h4 : Cond.initialized C ∈ TT) (h5 : w ∈ TT) : GoodIn TT (wsV own idx C y (w :: TT)) := by
  intro z hz
  have : z ∈ TT := by
    simp only [wsV, List.cons_append, List.nil_append, List.mem_cons] at hz
    rcases hz with rfl | rfl | rfl | rfl | rfl | hz <;> assumption
  exact ⟨this, tt_good this⟩
theorem kg_S {own : String} {idx : Nat} {y : MethodName} {w : Cond} (h1 : Cond.methodLink own idx y ∈ TT) (h2 : Cond.static y ∈ TT) (h4 : Cond.initialized own ∈ TT) (h5 : w ∈ TT) : GoodIn TT (wsS own idx y (w :: TT)) := by
  intro z hz
  have : z ∈ TT := by
    simp only [wsS, List.cons_append, List.nil_append, List.mem_cons] at hz
    rcases hz with rfl | rfl | rfl | rfl | hz <;> assumption
  exact ⟨this, tt_good this⟩
theorem kg_I {w : Cond} (h5 : w ∈ TT) : GoodIn TT (w :: TT) := by
  intro z hz
  have : z ∈ TT := by
    rcases List.mem_cons.mp hz with rfl | hz <;> assumption
  exact ⟨this, tt_good this⟩
/-- the texts that the class throws -/
def kStr : List (Nat × String) := [(28, "salt or variants out of range"), (39, "no more switches"), (57, "no weight that can be moved"), (67, "share or step out of range"), (86, "another switch has some of the range"), (97, "only a switch with a smaller number can be needed"), (105, "mark, how or n out of range"), (110, "no more rules"), (123, "no such rule"), (130, "held out of range"), (135, "ticks out of range"), (137, "no such layer"), (139, "salt or user out of range"), (175, "user or worth out of range"), (181, "user out of range"), (207, "what out of range"), (236, "share out of range"), (304, "no such switch"), (306, "no such variant"), (308, "user or mark out of range"), (310, "many out of range"), (312, "layer or range out of range")]
/-- words of exceptions and of nest mates, that are on the tables, but no good words -/
def TB : List Cond := [Cond.castable "java/lang/IndexOutOfBoundsException" "java/lang/IndexOutOfBoundsException", Cond.castable "java/lang/IllegalArgumentException" "java/lang/IllegalArgumentException", Cond.castable "java/lang/IllegalStateException" "java/lang/IllegalStateException", Cond.declares ⟨"java/lang/RuntimeException", "<init>", "()V"⟩, Cond.declares ⟨"java/lang/RuntimeException", "<init>", "(Ljava/lang/String;)V"⟩, Cond.declares ⟨"java/lang/Exception", "<init>", "()V"⟩, Cond.declares ⟨"java/lang/Exception", "<init>", "(Ljava/lang/String;)V"⟩, Cond.declares ⟨"java/lang/Throwable", "<init>", "()V"⟩, Cond.declares ⟨"java/lang/Throwable", "<init>", "(Ljava/lang/String;)V"⟩, Cond.methodLinkNest RX5 17 yX1_init RX5, Cond.fieldLinkNest RX5 320 "DaybreakFlags$Asker" "user" "I" RX5, Cond.fieldLinkNest RX5 323 "DaybreakFlags$Asker" "first" "I" RX5, Cond.fieldLinkNest RX5 326 "DaybreakFlags$Asker" "second" "I" RX5, Cond.methodLinkNest RX3 23 yX4_init RX5, Cond.fieldLinkNest RX3 121 "DaybreakFlags$Tally" "total" "I" RX5, Cond.fieldLinkNest RX1 40 "DaybreakFlags$Switch" "number" "I" RX5, Cond.fieldLinkNest RX5 314 "DaybreakFlags$Switch" "number" "I" RX5, Cond.fieldLinkNest RX5 334 "DaybreakFlags$Switch" "salt" "I" RX5, Cond.fieldLinkNest RX5 286 "DaybreakFlags$Switch" "variantCount" "I" RX5, Cond.fieldLinkNest RX5 347 "DaybreakFlags$Switch" "isSticky" "Z" RX5, Cond.fieldLinkNest RX5 188 "DaybreakFlags$Switch" "tally" "LDaybreakFlags$Tally;" RX5, Cond.fieldLinkNest RX5 107 "DaybreakFlags$Switch" "ruleCount" "I" RX5, Cond.fieldLinkNest RX5 63 "DaybreakFlags$Switch" "isOn" "Z" RX5, Cond.fieldLinkNest RX1 34 "DaybreakFlags$Switch" "isOn" "Z" RX5, Cond.fieldLinkNest RX5 88 "DaybreakFlags$Switch" "layer" "I" RX5, Cond.fieldLinkNest RX5 91 "DaybreakFlags$Switch" "from" "I" RX5, Cond.fieldLinkNest RX5 94 "DaybreakFlags$Switch" "to" "I" RX5, Cond.fieldLinkNest RX5 99 "DaybreakFlags$Switch" "needed" "I" RX5, Cond.fieldLinkNest RX5 102 "DaybreakFlags$Switch" "neededVariant" "I" RX5, Cond.fieldLinkNest RX5 333 "DaybreakFlags$Rule" "variant" "I" RX5, Cond.fieldLinkNest RX3 89 "DaybreakFlags$Arm" "user" "I" RX5, Cond.fieldLinkNest RX3 108 "DaybreakFlags$Arm" "variant" "I" RX5, Cond.fieldLinkNest RX5 183 "DaybreakFlags$Arm" "variant" "I" RX5, Cond.fieldLinkNest RX3 94 "DaybreakFlags$Arm" "older" "LDaybreakFlags$Arm;" RX5, Cond.fieldLinkNest RX3 111 "DaybreakFlags$Arm" "sum" "I" RX5, Cond.fieldLinkNest RX3 114 "DaybreakFlags$Arm" "hasActed" "Z" RX5]
theorem m_ml_X5_17 : Cond.methodLinkNest RX5 17 yX1_init RX5 ∈ TB := List.mem_of_getElem? (i := 9) (by decide +kernel)
theorem m_fl_X5_320 : Cond.fieldLinkNest RX5 320 "DaybreakFlags$Asker" "user" "I" RX5 ∈ TB := List.mem_of_getElem? (i := 10) (by decide +kernel)
theorem m_fl_X5_323 : Cond.fieldLinkNest RX5 323 "DaybreakFlags$Asker" "first" "I" RX5 ∈ TB := List.mem_of_getElem? (i := 11) (by decide +kernel)
theorem m_fl_X5_326 : Cond.fieldLinkNest RX5 326 "DaybreakFlags$Asker" "second" "I" RX5 ∈ TB := List.mem_of_getElem? (i := 12) (by decide +kernel)
theorem m_ml_X3_23 : Cond.methodLinkNest RX3 23 yX4_init RX5 ∈ TB := List.mem_of_getElem? (i := 13) (by decide +kernel)
theorem m_fl_X3_121 : Cond.fieldLinkNest RX3 121 "DaybreakFlags$Tally" "total" "I" RX5 ∈ TB := List.mem_of_getElem? (i := 14) (by decide +kernel)
theorem m_fl_X1_40 : Cond.fieldLinkNest RX1 40 "DaybreakFlags$Switch" "number" "I" RX5 ∈ TB := List.mem_of_getElem? (i := 15) (by decide +kernel)
theorem m_fl_X5_314 : Cond.fieldLinkNest RX5 314 "DaybreakFlags$Switch" "number" "I" RX5 ∈ TB := List.mem_of_getElem? (i := 16) (by decide +kernel)
theorem m_fl_X5_334 : Cond.fieldLinkNest RX5 334 "DaybreakFlags$Switch" "salt" "I" RX5 ∈ TB := List.mem_of_getElem? (i := 17) (by decide +kernel)
theorem m_fl_X5_286 : Cond.fieldLinkNest RX5 286 "DaybreakFlags$Switch" "variantCount" "I" RX5 ∈ TB := List.mem_of_getElem? (i := 18) (by decide +kernel)
theorem m_fl_X5_347 : Cond.fieldLinkNest RX5 347 "DaybreakFlags$Switch" "isSticky" "Z" RX5 ∈ TB := List.mem_of_getElem? (i := 19) (by decide +kernel)
theorem m_fl_X5_188 : Cond.fieldLinkNest RX5 188 "DaybreakFlags$Switch" "tally" "LDaybreakFlags$Tally;" RX5 ∈ TB := List.mem_of_getElem? (i := 20) (by decide +kernel)
theorem m_fl_X5_107 : Cond.fieldLinkNest RX5 107 "DaybreakFlags$Switch" "ruleCount" "I" RX5 ∈ TB := List.mem_of_getElem? (i := 21) (by decide +kernel)
theorem m_fl_X5_63 : Cond.fieldLinkNest RX5 63 "DaybreakFlags$Switch" "isOn" "Z" RX5 ∈ TB := List.mem_of_getElem? (i := 22) (by decide +kernel)
theorem m_fl_X1_34 : Cond.fieldLinkNest RX1 34 "DaybreakFlags$Switch" "isOn" "Z" RX5 ∈ TB := List.mem_of_getElem? (i := 23) (by decide +kernel)
theorem m_fl_X5_88 : Cond.fieldLinkNest RX5 88 "DaybreakFlags$Switch" "layer" "I" RX5 ∈ TB := List.mem_of_getElem? (i := 24) (by decide +kernel)
theorem m_fl_X5_91 : Cond.fieldLinkNest RX5 91 "DaybreakFlags$Switch" "from" "I" RX5 ∈ TB := List.mem_of_getElem? (i := 25) (by decide +kernel)
theorem m_fl_X5_94 : Cond.fieldLinkNest RX5 94 "DaybreakFlags$Switch" "to" "I" RX5 ∈ TB := List.mem_of_getElem? (i := 26) (by decide +kernel)
theorem m_fl_X5_99 : Cond.fieldLinkNest RX5 99 "DaybreakFlags$Switch" "needed" "I" RX5 ∈ TB := List.mem_of_getElem? (i := 27) (by decide +kernel)
theorem m_fl_X5_102 : Cond.fieldLinkNest RX5 102 "DaybreakFlags$Switch" "neededVariant" "I" RX5 ∈ TB := List.mem_of_getElem? (i := 28) (by decide +kernel)
theorem m_fl_X5_333 : Cond.fieldLinkNest RX5 333 "DaybreakFlags$Rule" "variant" "I" RX5 ∈ TB := List.mem_of_getElem? (i := 29) (by decide +kernel)
theorem m_fl_X3_89 : Cond.fieldLinkNest RX3 89 "DaybreakFlags$Arm" "user" "I" RX5 ∈ TB := List.mem_of_getElem? (i := 30) (by decide +kernel)
theorem m_fl_X3_108 : Cond.fieldLinkNest RX3 108 "DaybreakFlags$Arm" "variant" "I" RX5 ∈ TB := List.mem_of_getElem? (i := 31) (by decide +kernel)
theorem m_fl_X5_183 : Cond.fieldLinkNest RX5 183 "DaybreakFlags$Arm" "variant" "I" RX5 ∈ TB := List.mem_of_getElem? (i := 32) (by decide +kernel)
theorem m_fl_X3_94 : Cond.fieldLinkNest RX3 94 "DaybreakFlags$Arm" "older" "LDaybreakFlags$Arm;" RX5 ∈ TB := List.mem_of_getElem? (i := 33) (by decide +kernel)
theorem m_fl_X3_111 : Cond.fieldLinkNest RX3 111 "DaybreakFlags$Arm" "sum" "I" RX5 ∈ TB := List.mem_of_getElem? (i := 34) (by decide +kernel)
theorem m_fl_X3_114 : Cond.fieldLinkNest RX3 114 "DaybreakFlags$Arm" "hasActed" "Z" RX5 ∈ TB := List.mem_of_getElem? (i := 35) (by decide +kernel)
theorem tb_ot : ∀ w ∈ TB, w.onTables = true := fun w h => List.all_eq_true.mp (show TB.all (fun w => w.onTables) = true from by decide +kernel) w h
theorem tb_in : ∀ w ∈ TB, w ∈ lw_tbl := tb_l [137, 298, 410, 138, 139, 140, 141, 142, 143, 64, 69, 71, 73, 433, 442, 457, 458, 460, 462, 464, 468, 470, 472, 473, 478, 479, 481, 484, 485, 608, 704, 706, 707, 709, 710, 711] (by decide +kernel)
theorem at_IAE : ∀ w ∈ (vx_atS RX5 30 "java/lang/IllegalArgumentException" ["java/lang/RuntimeException", "java/lang/Exception"]).filter goodWord, w ∈ TT := by
  intro w h
  exact List.mem_filter.mpr ⟨(show ∀ w ∈ (vx_atS RX5 30 "java/lang/IllegalArgumentException" ["java/lang/RuntimeException", "java/lang/Exception"]).filter goodWord, w ∈ lw_tbl from by decide +kernel) w h, (List.mem_filter.mp h).2⟩
theorem an_IAE : ∀ w ∈ (vx_atS RX5 30 "java/lang/IllegalArgumentException" ["java/lang/RuntimeException", "java/lang/Exception"]).filter (fun w => !goodWord w), w ∈ TB := by decide +kernel
theorem ag_IAE (ik : Nat) : ∀ w ∈ Cond.classLink RX5 ik "java/lang/IllegalArgumentException" :: Cond.initialized "java/lang/IllegalArgumentException" :: vx_atS RX5 30 "java/lang/IllegalArgumentException" ["java/lang/RuntimeException", "java/lang/Exception"], vx_ot w = true := by
  intro w h
  rcases List.mem_cons.mp h with rfl | h
  · rfl
  rcases List.mem_cons.mp h with rfl | h
  · rfl
  exact (show ∀ w ∈ vx_atS RX5 30 "java/lang/IllegalArgumentException" ["java/lang/RuntimeException", "java/lang/Exception"], vx_ot w = true from by decide +kernel) w h
theorem at_ISE : ∀ w ∈ (vx_atS RX5 41 "java/lang/IllegalStateException" ["java/lang/RuntimeException", "java/lang/Exception"]).filter goodWord, w ∈ TT := by
  intro w h
  exact List.mem_filter.mpr ⟨(show ∀ w ∈ (vx_atS RX5 41 "java/lang/IllegalStateException" ["java/lang/RuntimeException", "java/lang/Exception"]).filter goodWord, w ∈ lw_tbl from by decide +kernel) w h, (List.mem_filter.mp h).2⟩
theorem an_ISE : ∀ w ∈ (vx_atS RX5 41 "java/lang/IllegalStateException" ["java/lang/RuntimeException", "java/lang/Exception"]).filter (fun w => !goodWord w), w ∈ TB := by decide +kernel
theorem ag_ISE (ik : Nat) : ∀ w ∈ Cond.classLink RX5 ik "java/lang/IllegalStateException" :: Cond.initialized "java/lang/IllegalStateException" :: vx_atS RX5 41 "java/lang/IllegalStateException" ["java/lang/RuntimeException", "java/lang/Exception"], vx_ot w = true := by
  intro w h
  rcases List.mem_cons.mp h with rfl | h
  · rfl
  rcases List.mem_cons.mp h with rfl | h
  · rfl
  exact (show ∀ w ∈ vx_atS RX5 41 "java/lang/IllegalStateException" ["java/lang/RuntimeException", "java/lang/Exception"], vx_ot w = true from by decide +kernel) w h
theorem at_IOE : ∀ w ∈ (vx_atS RX5 125 "java/lang/IndexOutOfBoundsException" ["java/lang/RuntimeException", "java/lang/Exception"]).filter goodWord, w ∈ TT := by
  intro w h
  exact List.mem_filter.mpr ⟨(show ∀ w ∈ (vx_atS RX5 125 "java/lang/IndexOutOfBoundsException" ["java/lang/RuntimeException", "java/lang/Exception"]).filter goodWord, w ∈ lw_tbl from by decide +kernel) w h, (List.mem_filter.mp h).2⟩
theorem an_IOE : ∀ w ∈ (vx_atS RX5 125 "java/lang/IndexOutOfBoundsException" ["java/lang/RuntimeException", "java/lang/Exception"]).filter (fun w => !goodWord w), w ∈ TB := by decide +kernel
theorem ag_IOE (ik : Nat) : ∀ w ∈ Cond.classLink RX5 ik "java/lang/IndexOutOfBoundsException" :: Cond.initialized "java/lang/IndexOutOfBoundsException" :: vx_atS RX5 125 "java/lang/IndexOutOfBoundsException" ["java/lang/RuntimeException", "java/lang/Exception"], vx_ot w = true := by
  intro w h
  rcases List.mem_cons.mp h with rfl | h
  · rfl
  rcases List.mem_cons.mp h with rfl | h
  · rfl
  exact (show ∀ w ∈ vx_atS RX5 125 "java/lang/IndexOutOfBoundsException" ["java/lang/RuntimeException", "java/lang/Exception"], vx_ot w = true from by decide +kernel) w h
end
section
theorem dX0_init_0 : decode cX0_init 0 = .ok (.aload_n 0, 1) := by decide +kernel
theorem dX0_init_1 : decode cX0_init 1 = .ok (.invokespecial 1, 3) := by decide +kernel
theorem dX0_init_4 : decode cX0_init 4 = .ok (.aload_n 0, 1) := by decide +kernel
theorem dX0_init_5 : decode cX0_init 5 = .ok (.iload_n 1, 1) := by decide +kernel
theorem dX0_init_6 : decode cX0_init 6 = .ok (.putfield 7, 3) := by decide +kernel
theorem dX0_init_9 : decode cX0_init 9 = .ok (.aload_n 0, 1) := by decide +kernel
theorem dX0_init_10 : decode cX0_init 10 = .ok (.iload_n 2, 1) := by decide +kernel
theorem dX0_init_11 : decode cX0_init 11 = .ok (.putfield 13, 3) := by decide +kernel
theorem dX0_init_14 : decode cX0_init 14 = .ok (.aload_n 0, 1) := by decide +kernel
theorem dX0_init_15 : decode cX0_init 15 = .ok (.aload_n 3, 1) := by decide +kernel
theorem dX0_init_16 : decode cX0_init 16 = .ok (.putfield 16, 3) := by decide +kernel
theorem dX0_init_19 : decode cX0_init 19 = .ok (.return_, 1) := by decide +kernel
theorem dX1_init_0 : decode cX1_init 0 = .ok (.aload_n 0, 1) := by decide +kernel
theorem dX1_init_1 : decode cX1_init 1 = .ok (.invokespecial 3, 3) := by decide +kernel
theorem dX1_init_4 : decode cX1_init 4 = .ok (.aload_n 0, 1) := by decide +kernel
theorem dX1_init_5 : decode cX1_init 5 = .ok (.iconst (-1), 1) := by decide +kernel
theorem dX1_init_6 : decode cX1_init 6 = .ok (.putfield 9, 3) := by decide +kernel
theorem dX1_init_9 : decode cX1_init 9 = .ok (.aload_n 0, 1) := by decide +kernel
theorem dX1_init_10 : decode cX1_init 10 = .ok (.iconst (-1), 1) := by decide +kernel
theorem dX1_init_11 : decode cX1_init 11 = .ok (.putfield 15, 3) := by decide +kernel
theorem dX1_init_14 : decode cX1_init 14 = .ok (.return_, 1) := by decide +kernel
theorem dX1_become_0 : decode cX1_become 0 = .ok (.aload_n 0, 1) := by decide +kernel
theorem dX1_become_1 : decode cX1_become 1 = .ok (.iload_n 1, 1) := by decide +kernel
theorem dX1_become_2 : decode cX1_become 2 = .ok (.putfield 18, 3) := by decide +kernel
theorem dX1_become_5 : decode cX1_become 5 = .ok (.aload_n 0, 1) := by decide +kernel
theorem dX1_become_6 : decode cX1_become 6 = .ok (.iload_n 2, 1) := by decide +kernel
theorem dX1_become_7 : decode cX1_become 7 = .ok (.putfield 21, 3) := by decide +kernel
theorem dX1_become_10 : decode cX1_become 10 = .ok (.aload_n 0, 1) := by decide +kernel
theorem dX1_become_11 : decode cX1_become 11 = .ok (.iload_n 3, 1) := by decide +kernel
theorem dX1_become_12 : decode cX1_become 12 = .ok (.putfield 24, 3) := by decide +kernel
theorem dX1_become_15 : decode cX1_become 15 = .ok (.aload_n 0, 1) := by decide +kernel
theorem dX1_become_16 : decode cX1_become 16 = .ok (.iconst (-1), 1) := by decide +kernel
theorem dX1_become_17 : decode cX1_become 17 = .ok (.putfield 9, 3) := by decide +kernel
theorem dX1_become_20 : decode cX1_become 20 = .ok (.aload_n 0, 1) := by decide +kernel
theorem dX1_become_21 : decode cX1_become 21 = .ok (.iconst (-1), 1) := by decide +kernel
theorem dX1_become_22 : decode cX1_become 22 = .ok (.putfield 15, 3) := by decide +kernel
theorem dX1_become_25 : decode cX1_become 25 = .ok (.return_, 1) := by decide +kernel
theorem dX1_becomeCounted_0 : decode cX1_becomeCounted 0 = .ok (.aload_n 0, 1) := by decide +kernel
theorem dX1_becomeCounted_1 : decode cX1_becomeCounted 1 = .ok (.iload_n 1, 1) := by decide +kernel
theorem dX1_becomeCounted_2 : decode cX1_becomeCounted 2 = .ok (.iload_n 1, 1) := by decide +kernel
theorem dX1_becomeCounted_3 : decode cX1_becomeCounted 3 = .ok (.bipush 10, 2) := by decide +kernel
theorem dX1_becomeCounted_5 : decode cX1_becomeCounted 5 = .ok (.irem, 1) := by decide +kernel
theorem dX1_becomeCounted_6 : decode cX1_becomeCounted 6 = .ok (.iload_n 1, 1) := by decide +kernel
theorem dX1_becomeCounted_7 : decode cX1_becomeCounted 7 = .ok (.bipush 10, 2) := by decide +kernel
theorem dX1_becomeCounted_9 : decode cX1_becomeCounted 9 = .ok (.idiv, 1) := by decide +kernel
theorem dX1_becomeCounted_10 : decode cX1_becomeCounted 10 = .ok (.bipush 10, 2) := by decide +kernel
theorem dX1_becomeCounted_12 : decode cX1_becomeCounted 12 = .ok (.irem, 1) := by decide +kernel
theorem dX1_becomeCounted_13 : decode cX1_becomeCounted 13 = .ok (.invokevirtual 27, 3) := by decide +kernel
theorem dX1_becomeCounted_16 : decode cX1_becomeCounted 16 = .ok (.return_, 1) := by decide +kernel
theorem dX1_supposeTurned_0 : decode cX1_supposeTurned 0 = .ok (.aload_n 0, 1) := by decide +kernel
theorem dX1_supposeTurned_1 : decode cX1_supposeTurned 1 = .ok (.iload_n 1, 1) := by decide +kernel
theorem dX1_supposeTurned_2 : decode cX1_supposeTurned 2 = .ok (.putfield 9, 3) := by decide +kernel
theorem dX1_supposeTurned_5 : decode cX1_supposeTurned 5 = .ok (.return_, 1) := by decide +kernel
theorem dX1_supposeRamp_0 : decode cX1_supposeRamp 0 = .ok (.aload_n 0, 1) := by decide +kernel
theorem dX1_supposeRamp_1 : decode cX1_supposeRamp 1 = .ok (.iload_n 1, 1) := by decide +kernel
theorem dX1_supposeRamp_2 : decode cX1_supposeRamp 2 = .ok (.putfield 15, 3) := by decide +kernel
theorem dX1_supposeRamp_5 : decode cX1_supposeRamp 5 = .ok (.aload_n 0, 1) := by decide +kernel
theorem dX1_supposeRamp_6 : decode cX1_supposeRamp 6 = .ok (.iload_n 2, 1) := by decide +kernel
theorem dX1_supposeRamp_7 : decode cX1_supposeRamp 7 = .ok (.putfield 31, 3) := by decide +kernel
theorem dX1_supposeRamp_10 : decode cX1_supposeRamp 10 = .ok (.return_, 1) := by decide +kernel
theorem dX1_findsOn_0 : decode cX1_findsOn 0 = .ok (.aload_n 1, 1) := by decide +kernel
theorem dX1_findsOn_1 : decode cX1_findsOn 1 = .ok (.getfield 34, 3) := by decide +kernel
theorem dX1_findsOn_4 : decode cX1_findsOn 4 = .ok (.aload_n 1, 1) := by decide +kernel
theorem dX1_findsOn_5 : decode cX1_findsOn 5 = .ok (.getfield 40, 3) := by decide +kernel
theorem dX1_findsOn_8 : decode cX1_findsOn 8 = .ok (.aload_n 0, 1) := by decide +kernel
theorem dX1_findsOn_9 : decode cX1_findsOn 9 = .ok (.getfield 9, 3) := by decide +kernel
theorem dX1_findsOn_12 : decode cX1_findsOn 12 = .ok (.if_icmp .ne 7, 3) := by decide +kernel
theorem dX1_findsOn_15 : decode cX1_findsOn 15 = .ok (.iconst 1, 1) := by decide +kernel
theorem dX1_findsOn_16 : decode cX1_findsOn 16 = .ok (.goto 4, 3) := by decide +kernel
theorem dX1_findsOn_19 : decode cX1_findsOn 19 = .ok (.iconst 0, 1) := by decide +kernel
theorem dX1_findsOn_20 : decode cX1_findsOn 20 = .ok (.if_icmp .eq 7, 3) := by decide +kernel
theorem dX1_findsOn_23 : decode cX1_findsOn 23 = .ok (.iconst 1, 1) := by decide +kernel
theorem dX1_findsOn_24 : decode cX1_findsOn 24 = .ok (.goto 4, 3) := by decide +kernel
theorem dX1_findsOn_27 : decode cX1_findsOn 27 = .ok (.iconst 0, 1) := by decide +kernel
theorem dX1_findsOn_28 : decode cX1_findsOn 28 = .ok (.ireturn, 1) := by decide +kernel
theorem dX1_findsFar_0 : decode cX1_findsFar 0 = .ok (.aload_n 1, 1) := by decide +kernel
theorem dX1_findsFar_1 : decode cX1_findsFar 1 = .ok (.getfield 40, 3) := by decide +kernel
theorem dX1_findsFar_4 : decode cX1_findsFar 4 = .ok (.aload_n 0, 1) := by decide +kernel
theorem dX1_findsFar_5 : decode cX1_findsFar 5 = .ok (.getfield 15, 3) := by decide +kernel
theorem dX1_findsFar_8 : decode cX1_findsFar 8 = .ok (.if_icmp .ne 10, 3) := by decide +kernel
theorem dX1_findsFar_11 : decode cX1_findsFar 11 = .ok (.aload_n 0, 1) := by decide +kernel
theorem dX1_findsFar_12 : decode cX1_findsFar 12 = .ok (.getfield 31, 3) := by decide +kernel
theorem dX1_findsFar_15 : decode cX1_findsFar 15 = .ok (.goto 8, 3) := by decide +kernel
theorem dX1_findsFar_18 : decode cX1_findsFar 18 = .ok (.aload_n 1, 1) := by decide +kernel
theorem dX1_findsFar_19 : decode cX1_findsFar 19 = .ok (.iload_n 2, 1) := by decide +kernel
theorem dX1_findsFar_20 : decode cX1_findsFar 20 = .ok (.invokevirtual 43, 3) := by decide +kernel
theorem dX1_findsFar_23 : decode cX1_findsFar 23 = .ok (.ireturn, 1) := by decide +kernel
theorem dX2_init_0 : decode cX2_init 0 = .ok (.aload_n 0, 1) := by decide +kernel
theorem dX2_init_1 : decode cX2_init 1 = .ok (.invokespecial 3, 3) := by decide +kernel
theorem dX2_init_4 : decode cX2_init 4 = .ok (.aload_n 0, 1) := by decide +kernel
theorem dX2_init_5 : decode cX2_init 5 = .ok (.iload_n 1, 1) := by decide +kernel
theorem dX2_init_6 : decode cX2_init 6 = .ok (.putfield 9, 3) := by decide +kernel
theorem dX2_init_9 : decode cX2_init 9 = .ok (.aload_n 0, 1) := by decide +kernel
theorem dX2_init_10 : decode cX2_init 10 = .ok (.iload_n 2, 1) := by decide +kernel
theorem dX2_init_11 : decode cX2_init 11 = .ok (.putfield 15, 3) := by decide +kernel
theorem dX2_init_14 : decode cX2_init 14 = .ok (.aload_n 0, 1) := by decide +kernel
theorem dX2_init_15 : decode cX2_init 15 = .ok (.iload_n 3, 1) := by decide +kernel
theorem dX2_init_16 : decode cX2_init 16 = .ok (.putfield 18, 3) := by decide +kernel
theorem dX2_init_19 : decode cX2_init 19 = .ok (.aload_n 0, 1) := by decide +kernel
theorem dX2_init_20 : decode cX2_init 20 = .ok (.iload 4, 2) := by decide +kernel
theorem dX2_init_22 : decode cX2_init 22 = .ok (.putfield 21, 3) := by decide +kernel
theorem dX2_init_25 : decode cX2_init 25 = .ok (.return_, 1) := by decide +kernel
theorem dX2_isMetBy_0 : decode cX2_isMetBy 0 = .ok (.aload_n 0, 1) := by decide +kernel
theorem dX2_isMetBy_1 : decode cX2_isMetBy 1 = .ok (.getfield 9, 3) := by decide +kernel
theorem dX2_isMetBy_4 : decode cX2_isMetBy 4 = .ok (.ifCond .ne 7, 3) := by decide +kernel
theorem dX2_isMetBy_7 : decode cX2_isMetBy 7 = .ok (.iload_n 1, 1) := by decide +kernel
theorem dX2_isMetBy_8 : decode cX2_isMetBy 8 = .ok (.goto 4, 3) := by decide +kernel
theorem dX2_isMetBy_11 : decode cX2_isMetBy 11 = .ok (.iload_n 2, 1) := by decide +kernel
theorem dX2_isMetBy_12 : decode cX2_isMetBy 12 = .ok (.istore_n 3, 1) := by decide +kernel
theorem dX2_isMetBy_13 : decode cX2_isMetBy 13 = .ok (.aload_n 0, 1) := by decide +kernel
theorem dX2_isMetBy_14 : decode cX2_isMetBy 14 = .ok (.getfield 15, 3) := by decide +kernel
theorem dX2_isMetBy_17 : decode cX2_isMetBy 17 = .ok (.iconst 1, 1) := by decide +kernel
theorem dX2_isMetBy_18 : decode cX2_isMetBy 18 = .ok (.if_icmp .ne 17, 3) := by decide +kernel
theorem dX2_isMetBy_21 : decode cX2_isMetBy 21 = .ok (.iload_n 3, 1) := by decide +kernel
theorem dX2_isMetBy_22 : decode cX2_isMetBy 22 = .ok (.aload_n 0, 1) := by decide +kernel
theorem dX2_isMetBy_23 : decode cX2_isMetBy 23 = .ok (.getfield 18, 3) := by decide +kernel
theorem dX2_isMetBy_26 : decode cX2_isMetBy 26 = .ok (.if_icmp .ge 7, 3) := by decide +kernel
theorem dX2_isMetBy_29 : decode cX2_isMetBy 29 = .ok (.iconst 1, 1) := by decide +kernel
theorem dX2_isMetBy_30 : decode cX2_isMetBy 30 = .ok (.goto 4, 3) := by decide +kernel
theorem dX2_isMetBy_33 : decode cX2_isMetBy 33 = .ok (.iconst 0, 1) := by decide +kernel
theorem dX2_isMetBy_34 : decode cX2_isMetBy 34 = .ok (.ireturn, 1) := by decide +kernel
theorem dX2_isMetBy_35 : decode cX2_isMetBy 35 = .ok (.aload_n 0, 1) := by decide +kernel
theorem dX2_isMetBy_36 : decode cX2_isMetBy 36 = .ok (.getfield 15, 3) := by decide +kernel
theorem dX2_isMetBy_39 : decode cX2_isMetBy 39 = .ok (.iconst 2, 1) := by decide +kernel
theorem dX2_isMetBy_40 : decode cX2_isMetBy 40 = .ok (.if_icmp .ne 19, 3) := by decide +kernel
theorem dX2_isMetBy_43 : decode cX2_isMetBy 43 = .ok (.iload_n 3, 1) := by decide +kernel
theorem dX2_isMetBy_44 : decode cX2_isMetBy 44 = .ok (.aload_n 0, 1) := by decide +kernel
theorem dX2_isMetBy_45 : decode cX2_isMetBy 45 = .ok (.getfield 18, 3) := by decide +kernel
theorem dX2_isMetBy_48 : decode cX2_isMetBy 48 = .ok (.if_icmp .ne 7, 3) := by decide +kernel
theorem dX2_isMetBy_51 : decode cX2_isMetBy 51 = .ok (.iconst 1, 1) := by decide +kernel
theorem dX2_isMetBy_52 : decode cX2_isMetBy 52 = .ok (.goto 20, 3) := by decide +kernel
theorem dX2_isMetBy_55 : decode cX2_isMetBy 55 = .ok (.iconst 0, 1) := by decide +kernel
theorem dX2_isMetBy_56 : decode cX2_isMetBy 56 = .ok (.goto 16, 3) := by decide +kernel
theorem dX2_isMetBy_59 : decode cX2_isMetBy 59 = .ok (.iload_n 3, 1) := by decide +kernel
theorem dX2_isMetBy_60 : decode cX2_isMetBy 60 = .ok (.aload_n 0, 1) := by decide +kernel
theorem dX2_isMetBy_61 : decode cX2_isMetBy 61 = .ok (.getfield 18, 3) := by decide +kernel
theorem dX2_isMetBy_64 : decode cX2_isMetBy 64 = .ok (.if_icmp .le 7, 3) := by decide +kernel
theorem dX2_isMetBy_67 : decode cX2_isMetBy 67 = .ok (.iconst 1, 1) := by decide +kernel
theorem dX2_isMetBy_68 : decode cX2_isMetBy 68 = .ok (.goto 4, 3) := by decide +kernel
theorem dX2_isMetBy_71 : decode cX2_isMetBy 71 = .ok (.iconst 0, 1) := by decide +kernel
theorem dX2_isMetBy_72 : decode cX2_isMetBy 72 = .ok (.ireturn, 1) := by decide +kernel
theorem dX3_init_0 : decode cX3_init 0 = .ok (.aload_n 0, 1) := by decide +kernel
theorem dX3_init_1 : decode cX3_init 1 = .ok (.invokespecial 3, 3) := by decide +kernel
theorem dX3_init_4 : decode cX3_init 4 = .ok (.aload_n 0, 1) := by decide +kernel
theorem dX3_init_5 : decode cX3_init 5 = .ok (.iconst 4, 1) := by decide +kernel
theorem dX3_init_6 : decode cX3_init 6 = .ok (.newarray .int, 2) := by decide +kernel
theorem dX3_init_8 : decode cX3_init 8 = .ok (.putfield 9, 3) := by decide +kernel
theorem dX3_init_11 : decode cX3_init 11 = .ok (.aload_n 0, 1) := by decide +kernel
theorem dX3_init_12 : decode cX3_init 12 = .ok (.iconst 5, 1) := by decide +kernel
theorem dX3_init_13 : decode cX3_init 13 = .ok (.anewarray 15, 3) := by decide +kernel
theorem dX3_init_16 : decode cX3_init 16 = .ok (.putfield 17, 3) := by decide +kernel
theorem dX3_init_19 : decode cX3_init 19 = .ok (.aload_n 0, 1) := by decide +kernel
theorem dX3_init_20 : decode cX3_init 20 = .ok (.new 21, 3) := by decide +kernel
theorem dX3_init_23 : decode cX3_init 23 = .ok (.dup, 1) := by decide +kernel
theorem dX3_init_24 : decode cX3_init 24 = .ok (.invokespecial 23, 3) := by decide +kernel
theorem dX3_init_27 : decode cX3_init 27 = .ok (.putfield 24, 3) := by decide +kernel
theorem dX3_init_30 : decode cX3_init 30 = .ok (.aload_n 0, 1) := by decide +kernel
theorem dX3_init_31 : decode cX3_init 31 = .ok (.sipush 1000, 3) := by decide +kernel
theorem dX3_init_34 : decode cX3_init 34 = .ok (.putfield 28, 3) := by decide +kernel
theorem dX3_init_37 : decode cX3_init 37 = .ok (.aload_n 0, 1) := by decide +kernel
theorem dX3_init_38 : decode cX3_init 38 = .ok (.iconst (-1), 1) := by decide +kernel
theorem dX3_init_39 : decode cX3_init 39 = .ok (.putfield 32, 3) := by decide +kernel
theorem dX3_init_42 : decode cX3_init 42 = .ok (.aload_n 0, 1) := by decide +kernel
theorem dX3_init_43 : decode cX3_init 43 = .ok (.iconst (-1), 1) := by decide +kernel
theorem dX3_init_44 : decode cX3_init 44 = .ok (.putfield 35, 3) := by decide +kernel
theorem dX3_init_47 : decode cX3_init 47 = .ok (.aload_n 0, 1) := by decide +kernel
theorem dX3_init_48 : decode cX3_init 48 = .ok (.iload_n 1, 1) := by decide +kernel
theorem dX3_init_49 : decode cX3_init 49 = .ok (.putfield 38, 3) := by decide +kernel
theorem dX3_init_52 : decode cX3_init 52 = .ok (.aload_n 0, 1) := by decide +kernel
theorem dX3_init_53 : decode cX3_init 53 = .ok (.iload_n 2, 1) := by decide +kernel
theorem dX3_init_54 : decode cX3_init 54 = .ok (.putfield 41, 3) := by decide +kernel
theorem dX3_init_57 : decode cX3_init 57 = .ok (.aload_n 0, 1) := by decide +kernel
theorem dX3_init_58 : decode cX3_init 58 = .ok (.iload_n 3, 1) := by decide +kernel
theorem dX3_init_59 : decode cX3_init 59 = .ok (.putfield 44, 3) := by decide +kernel
theorem dX3_init_62 : decode cX3_init 62 = .ok (.aload_n 0, 1) := by decide +kernel
theorem dX3_init_63 : decode cX3_init 63 = .ok (.iload 4, 2) := by decide +kernel
theorem dX3_init_65 : decode cX3_init 65 = .ok (.putfield 47, 3) := by decide +kernel
theorem dX3_init_68 : decode cX3_init 68 = .ok (.aload_n 0, 1) := by decide +kernel
theorem dX3_init_69 : decode cX3_init 69 = .ok (.getfield 9, 3) := by decide +kernel
theorem dX3_init_72 : decode cX3_init 72 = .ok (.iconst 0, 1) := by decide +kernel
theorem dX3_init_73 : decode cX3_init 73 = .ok (.sipush 1000, 3) := by decide +kernel
theorem dX3_init_76 : decode cX3_init 76 = .ok (.iastore, 1) := by decide +kernel
theorem dX3_init_77 : decode cX3_init 77 = .ok (.return_, 1) := by decide +kernel
theorem dX3_weightOf_0 : decode cX3_weightOf 0 = .ok (.iload_n 1, 1) := by decide +kernel
theorem dX3_weightOf_1 : decode cX3_weightOf 1 = .ok (.ifCond .lt 12, 3) := by decide +kernel
theorem dX3_weightOf_4 : decode cX3_weightOf 4 = .ok (.iload_n 1, 1) := by decide +kernel
theorem dX3_weightOf_5 : decode cX3_weightOf 5 = .ok (.aload_n 0, 1) := by decide +kernel
theorem dX3_weightOf_6 : decode cX3_weightOf 6 = .ok (.getfield 9, 3) := by decide +kernel
theorem dX3_weightOf_9 : decode cX3_weightOf 9 = .ok (.arraylength, 1) := by decide +kernel
theorem dX3_weightOf_10 : decode cX3_weightOf 10 = .ok (.if_icmp .lt 7, 3) := by decide +kernel
theorem dX3_weightOf_13 : decode cX3_weightOf 13 = .ok (.iconst 0, 1) := by decide +kernel
theorem dX3_weightOf_14 : decode cX3_weightOf 14 = .ok (.goto 9, 3) := by decide +kernel
theorem dX3_weightOf_17 : decode cX3_weightOf 17 = .ok (.aload_n 0, 1) := by decide +kernel
theorem dX3_weightOf_18 : decode cX3_weightOf 18 = .ok (.getfield 9, 3) := by decide +kernel
theorem dX3_weightOf_21 : decode cX3_weightOf 21 = .ok (.iload_n 1, 1) := by decide +kernel
theorem dX3_weightOf_22 : decode cX3_weightOf 22 = .ok (.iaload, 1) := by decide +kernel
theorem dX3_weightOf_23 : decode cX3_weightOf 23 = .ok (.ireturn, 1) := by decide +kernel
theorem dX3_setWeight_0 : decode cX3_setWeight 0 = .ok (.iload_n 1, 1) := by decide +kernel
theorem dX3_setWeight_1 : decode cX3_setWeight 1 = .ok (.ifCond .lt 19, 3) := by decide +kernel
theorem dX3_setWeight_4 : decode cX3_setWeight 4 = .ok (.iload_n 1, 1) := by decide +kernel
theorem dX3_setWeight_5 : decode cX3_setWeight 5 = .ok (.aload_n 0, 1) := by decide +kernel
theorem dX3_setWeight_6 : decode cX3_setWeight 6 = .ok (.getfield 9, 3) := by decide +kernel
theorem dX3_setWeight_9 : decode cX3_setWeight 9 = .ok (.arraylength, 1) := by decide +kernel
theorem dX3_setWeight_10 : decode cX3_setWeight 10 = .ok (.if_icmp .ge 10, 3) := by decide +kernel
theorem dX3_setWeight_13 : decode cX3_setWeight 13 = .ok (.aload_n 0, 1) := by decide +kernel
theorem dX3_setWeight_14 : decode cX3_setWeight 14 = .ok (.getfield 9, 3) := by decide +kernel
theorem dX3_setWeight_17 : decode cX3_setWeight 17 = .ok (.iload_n 1, 1) := by decide +kernel
theorem dX3_setWeight_18 : decode cX3_setWeight 18 = .ok (.iload_n 2, 1) := by decide +kernel
theorem dX3_setWeight_19 : decode cX3_setWeight 19 = .ok (.iastore, 1) := by decide +kernel
theorem dX3_setWeight_20 : decode cX3_setWeight 20 = .ok (.return_, 1) := by decide +kernel
theorem dX3_splitBy_0 : decode cX3_splitBy 0 = .ok (.iconst 0, 1) := by decide +kernel
theorem dX3_splitBy_1 : decode cX3_splitBy 1 = .ok (.istore_n 2, 1) := by decide +kernel
theorem dX3_splitBy_2 : decode cX3_splitBy 2 = .ok (.iconst 0, 1) := by decide +kernel
theorem dX3_splitBy_3 : decode cX3_splitBy 3 = .ok (.istore_n 3, 1) := by decide +kernel
theorem dX3_splitBy_4 : decode cX3_splitBy 4 = .ok (.iload_n 3, 1) := by decide +kernel
theorem dX3_splitBy_5 : decode cX3_splitBy 5 = .ok (.aload_n 0, 1) := by decide +kernel
theorem dX3_splitBy_6 : decode cX3_splitBy 6 = .ok (.getfield 9, 3) := by decide +kernel
theorem dX3_splitBy_9 : decode cX3_splitBy 9 = .ok (.arraylength, 1) := by decide +kernel
theorem dX3_splitBy_10 : decode cX3_splitBy 10 = .ok (.if_icmp .ge 25, 3) := by decide +kernel
theorem dX3_splitBy_13 : decode cX3_splitBy 13 = .ok (.iload_n 2, 1) := by decide +kernel
theorem dX3_splitBy_14 : decode cX3_splitBy 14 = .ok (.aload_n 0, 1) := by decide +kernel
theorem dX3_splitBy_15 : decode cX3_splitBy 15 = .ok (.getfield 9, 3) := by decide +kernel
theorem dX3_splitBy_18 : decode cX3_splitBy 18 = .ok (.iload_n 3, 1) := by decide +kernel
theorem dX3_splitBy_19 : decode cX3_splitBy 19 = .ok (.iaload, 1) := by decide +kernel
theorem dX3_splitBy_20 : decode cX3_splitBy 20 = .ok (.iadd, 1) := by decide +kernel
theorem dX3_splitBy_21 : decode cX3_splitBy 21 = .ok (.istore_n 2, 1) := by decide +kernel
theorem dX3_splitBy_22 : decode cX3_splitBy 22 = .ok (.iload_n 1, 1) := by decide +kernel
theorem dX3_splitBy_23 : decode cX3_splitBy 23 = .ok (.iload_n 2, 1) := by decide +kernel
theorem dX3_splitBy_24 : decode cX3_splitBy 24 = .ok (.if_icmp .ge 5, 3) := by decide +kernel
theorem dX3_splitBy_27 : decode cX3_splitBy 27 = .ok (.iload_n 3, 1) := by decide +kernel
theorem dX3_splitBy_28 : decode cX3_splitBy 28 = .ok (.ireturn, 1) := by decide +kernel
theorem dX3_splitBy_29 : decode cX3_splitBy 29 = .ok (.iinc 3 1, 3) := by decide +kernel
theorem dX3_splitBy_32 : decode cX3_splitBy 32 = .ok (.goto (-28), 3) := by decide +kernel
theorem dX3_splitBy_35 : decode cX3_splitBy 35 = .ok (.iconst 0, 1) := by decide +kernel
theorem dX3_splitBy_36 : decode cX3_splitBy 36 = .ok (.ireturn, 1) := by decide +kernel
theorem dX3_setRamp_0 : decode cX3_setRamp 0 = .ok (.aload_n 0, 1) := by decide +kernel
theorem dX3_setRamp_1 : decode cX3_setRamp 1 = .ok (.iload_n 1, 1) := by decide +kernel
theorem dX3_setRamp_2 : decode cX3_setRamp 2 = .ok (.putfield 28, 3) := by decide +kernel
theorem dX3_setRamp_5 : decode cX3_setRamp 5 = .ok (.aload_n 0, 1) := by decide +kernel
theorem dX3_setRamp_6 : decode cX3_setRamp 6 = .ok (.iload_n 2, 1) := by decide +kernel
theorem dX3_setRamp_7 : decode cX3_setRamp 7 = .ok (.putfield 51, 3) := by decide +kernel
theorem dX3_setRamp_10 : decode cX3_setRamp 10 = .ok (.aload_n 0, 1) := by decide +kernel
theorem dX3_setRamp_11 : decode cX3_setRamp 11 = .ok (.iload_n 3, 1) := by decide +kernel
theorem dX3_setRamp_12 : decode cX3_setRamp 12 = .ok (.putfield 54, 3) := by decide +kernel
theorem dX3_setRamp_15 : decode cX3_setRamp 15 = .ok (.return_, 1) := by decide +kernel
theorem dX3_farAt_0 : decode cX3_farAt 0 = .ok (.aload_n 0, 1) := by decide +kernel
theorem dX3_farAt_1 : decode cX3_farAt 1 = .ok (.getfield 28, 3) := by decide +kernel
theorem dX3_farAt_4 : decode cX3_farAt 4 = .ok (.i2l, 1) := by decide +kernel
theorem dX3_farAt_5 : decode cX3_farAt 5 = .ok (.aload_n 0, 1) := by decide +kernel
theorem dX3_farAt_6 : decode cX3_farAt 6 = .ok (.getfield 51, 3) := by decide +kernel
theorem dX3_farAt_9 : decode cX3_farAt 9 = .ok (.i2l, 1) := by decide +kernel
theorem dX3_farAt_10 : decode cX3_farAt 10 = .ok (.iload_n 1, 1) := by decide +kernel
theorem dX3_farAt_11 : decode cX3_farAt 11 = .ok (.aload_n 0, 1) := by decide +kernel
theorem dX3_farAt_12 : decode cX3_farAt 12 = .ok (.getfield 54, 3) := by decide +kernel
theorem dX3_farAt_15 : decode cX3_farAt 15 = .ok (.isub, 1) := by decide +kernel
theorem dX3_farAt_16 : decode cX3_farAt 16 = .ok (.i2l, 1) := by decide +kernel
theorem dX3_farAt_17 : decode cX3_farAt 17 = .ok (.lmul, 1) := by decide +kernel
theorem dX3_farAt_18 : decode cX3_farAt 18 = .ok (.ladd, 1) := by decide +kernel
theorem dX3_farAt_19 : decode cX3_farAt 19 = .ok (.lstore_n 2, 1) := by decide +kernel
theorem dX3_farAt_20 : decode cX3_farAt 20 = .ok (.lload_n 2, 1) := by decide +kernel
theorem dX3_farAt_21 : decode cX3_farAt 21 = .ok (.ldc2_w 57, 3) := by decide +kernel
theorem dX3_farAt_24 : decode cX3_farAt 24 = .ok (.lcmp, 1) := by decide +kernel
theorem dX3_farAt_25 : decode cX3_farAt 25 = .ok (.ifCond .le 9, 3) := by decide +kernel
theorem dX3_farAt_28 : decode cX3_farAt 28 = .ok (.sipush 1000, 3) := by decide +kernel
theorem dX3_farAt_31 : decode cX3_farAt 31 = .ok (.goto 5, 3) := by decide +kernel
theorem dX3_farAt_34 : decode cX3_farAt 34 = .ok (.lload_n 2, 1) := by decide +kernel
theorem dX3_farAt_35 : decode cX3_farAt 35 = .ok (.l2i, 1) := by decide +kernel
theorem dX3_farAt_36 : decode cX3_farAt 36 = .ok (.ireturn, 1) := by decide +kernel
theorem dX3_sharesRange_0 : decode cX3_sharesRange 0 = .ok (.aload_n 0, 1) := by decide +kernel
theorem dX3_sharesRange_1 : decode cX3_sharesRange 1 = .ok (.getfield 59, 3) := by decide +kernel
theorem dX3_sharesRange_4 : decode cX3_sharesRange 4 = .ok (.iload_n 1, 1) := by decide +kernel
theorem dX3_sharesRange_5 : decode cX3_sharesRange 5 = .ok (.invokestatic 62, 3) := by decide +kernel
theorem dX3_sharesRange_8 : decode cX3_sharesRange 8 = .ok (.aload_n 0, 1) := by decide +kernel
theorem dX3_sharesRange_9 : decode cX3_sharesRange 9 = .ok (.getfield 68, 3) := by decide +kernel
theorem dX3_sharesRange_12 : decode cX3_sharesRange 12 = .ok (.iload_n 2, 1) := by decide +kernel
theorem dX3_sharesRange_13 : decode cX3_sharesRange 13 = .ok (.invokestatic 71, 3) := by decide +kernel
theorem dX3_sharesRange_16 : decode cX3_sharesRange 16 = .ok (.if_icmp .ge 7, 3) := by decide +kernel
theorem dX3_sharesRange_19 : decode cX3_sharesRange 19 = .ok (.iconst 1, 1) := by decide +kernel
theorem dX3_sharesRange_20 : decode cX3_sharesRange 20 = .ok (.goto 4, 3) := by decide +kernel
theorem dX3_sharesRange_23 : decode cX3_sharesRange 23 = .ok (.iconst 0, 1) := by decide +kernel
theorem dX3_sharesRange_24 : decode cX3_sharesRange 24 = .ok (.ireturn, 1) := by decide +kernel
theorem dX3_ruleAt_0 : decode cX3_ruleAt 0 = .ok (.iload_n 1, 1) := by decide +kernel
theorem dX3_ruleAt_1 : decode cX3_ruleAt 1 = .ok (.ifCond .lt 12, 3) := by decide +kernel
theorem dX3_ruleAt_4 : decode cX3_ruleAt 4 = .ok (.iload_n 1, 1) := by decide +kernel
theorem dX3_ruleAt_5 : decode cX3_ruleAt 5 = .ok (.aload_n 0, 1) := by decide +kernel
theorem dX3_ruleAt_6 : decode cX3_ruleAt 6 = .ok (.getfield 17, 3) := by decide +kernel
theorem dX3_ruleAt_9 : decode cX3_ruleAt 9 = .ok (.arraylength, 1) := by decide +kernel
theorem dX3_ruleAt_10 : decode cX3_ruleAt 10 = .ok (.if_icmp .lt 7, 3) := by decide +kernel
theorem dX3_ruleAt_13 : decode cX3_ruleAt 13 = .ok (.aconst_null, 1) := by decide +kernel
theorem dX3_ruleAt_14 : decode cX3_ruleAt 14 = .ok (.goto 9, 3) := by decide +kernel
theorem dX3_ruleAt_17 : decode cX3_ruleAt 17 = .ok (.aload_n 0, 1) := by decide +kernel
theorem dX3_ruleAt_18 : decode cX3_ruleAt 18 = .ok (.getfield 17, 3) := by decide +kernel
theorem dX3_ruleAt_21 : decode cX3_ruleAt 21 = .ok (.iload_n 1, 1) := by decide +kernel
theorem dX3_ruleAt_22 : decode cX3_ruleAt 22 = .ok (.aaload, 1) := by decide +kernel
theorem dX3_ruleAt_23 : decode cX3_ruleAt 23 = .ok (.areturn, 1) := by decide +kernel
theorem dX3_addRule_0 : decode cX3_addRule 0 = .ok (.aload_n 0, 1) := by decide +kernel
theorem dX3_addRule_1 : decode cX3_addRule 1 = .ok (.getfield 74, 3) := by decide +kernel
theorem dX3_addRule_4 : decode cX3_addRule 4 = .ok (.ifCond .lt 35, 3) := by decide +kernel
theorem dX3_addRule_7 : decode cX3_addRule 7 = .ok (.aload_n 0, 1) := by decide +kernel
theorem dX3_addRule_8 : decode cX3_addRule 8 = .ok (.getfield 74, 3) := by decide +kernel
theorem dX3_addRule_11 : decode cX3_addRule 11 = .ok (.aload_n 0, 1) := by decide +kernel
theorem dX3_addRule_12 : decode cX3_addRule 12 = .ok (.getfield 17, 3) := by decide +kernel
theorem dX3_addRule_15 : decode cX3_addRule 15 = .ok (.arraylength, 1) := by decide +kernel
theorem dX3_addRule_16 : decode cX3_addRule 16 = .ok (.if_icmp .ge 23, 3) := by decide +kernel
theorem dX3_addRule_19 : decode cX3_addRule 19 = .ok (.aload_n 0, 1) := by decide +kernel
theorem dX3_addRule_20 : decode cX3_addRule 20 = .ok (.getfield 17, 3) := by decide +kernel
theorem dX3_addRule_23 : decode cX3_addRule 23 = .ok (.aload_n 0, 1) := by decide +kernel
theorem dX3_addRule_24 : decode cX3_addRule 24 = .ok (.getfield 74, 3) := by decide +kernel
theorem dX3_addRule_27 : decode cX3_addRule 27 = .ok (.aload_n 1, 1) := by decide +kernel
theorem dX3_addRule_28 : decode cX3_addRule 28 = .ok (.aastore, 1) := by decide +kernel
theorem dX3_addRule_29 : decode cX3_addRule 29 = .ok (.aload_n 0, 1) := by decide +kernel
theorem dX3_addRule_30 : decode cX3_addRule 30 = .ok (.dup, 1) := by decide +kernel
theorem dX3_addRule_31 : decode cX3_addRule 31 = .ok (.getfield 74, 3) := by decide +kernel
theorem dX3_addRule_34 : decode cX3_addRule 34 = .ok (.iconst 1, 1) := by decide +kernel
theorem dX3_addRule_35 : decode cX3_addRule 35 = .ok (.iadd, 1) := by decide +kernel
theorem dX3_addRule_36 : decode cX3_addRule 36 = .ok (.putfield 74, 3) := by decide +kernel
theorem dX3_addRule_39 : decode cX3_addRule 39 = .ok (.return_, 1) := by decide +kernel
theorem dX3_removeRule_0 : decode cX3_removeRule 0 = .ok (.iload_n 1, 1) := by decide +kernel
theorem dX3_removeRule_1 : decode cX3_removeRule 1 = .ok (.iconst 0, 1) := by decide +kernel
theorem dX3_removeRule_2 : decode cX3_removeRule 2 = .ok (.invokestatic 62, 3) := by decide +kernel
theorem dX3_removeRule_5 : decode cX3_removeRule 5 = .ok (.istore_n 2, 1) := by decide +kernel
theorem dX3_removeRule_6 : decode cX3_removeRule 6 = .ok (.iload_n 2, 1) := by decide +kernel
theorem dX3_removeRule_7 : decode cX3_removeRule 7 = .ok (.aload_n 0, 1) := by decide +kernel
theorem dX3_removeRule_8 : decode cX3_removeRule 8 = .ok (.getfield 17, 3) := by decide +kernel
theorem dX3_removeRule_11 : decode cX3_removeRule 11 = .ok (.arraylength, 1) := by decide +kernel
theorem dX3_removeRule_12 : decode cX3_removeRule 12 = .ok (.if_icmp .ge 22, 3) := by decide +kernel
theorem dX3_removeRule_15 : decode cX3_removeRule 15 = .ok (.aload_n 0, 1) := by decide +kernel
theorem dX3_removeRule_16 : decode cX3_removeRule 16 = .ok (.getfield 17, 3) := by decide +kernel
theorem dX3_removeRule_19 : decode cX3_removeRule 19 = .ok (.iload_n 2, 1) := by decide +kernel
theorem dX3_removeRule_20 : decode cX3_removeRule 20 = .ok (.aload_n 0, 1) := by decide +kernel
theorem dX3_removeRule_21 : decode cX3_removeRule 21 = .ok (.iload_n 2, 1) := by decide +kernel
theorem dX3_removeRule_22 : decode cX3_removeRule 22 = .ok (.iconst 1, 1) := by decide +kernel
theorem dX3_removeRule_23 : decode cX3_removeRule 23 = .ok (.iadd, 1) := by decide +kernel
theorem dX3_removeRule_24 : decode cX3_removeRule 24 = .ok (.invokevirtual 77, 3) := by decide +kernel
theorem dX3_removeRule_27 : decode cX3_removeRule 27 = .ok (.aastore, 1) := by decide +kernel
theorem dX3_removeRule_28 : decode cX3_removeRule 28 = .ok (.iinc 2 1, 3) := by decide +kernel
theorem dX3_removeRule_31 : decode cX3_removeRule 31 = .ok (.goto (-25), 3) := by decide +kernel
theorem dX3_removeRule_34 : decode cX3_removeRule 34 = .ok (.aload_n 0, 1) := by decide +kernel
theorem dX3_removeRule_35 : decode cX3_removeRule 35 = .ok (.dup, 1) := by decide +kernel
theorem dX3_removeRule_36 : decode cX3_removeRule 36 = .ok (.getfield 74, 3) := by decide +kernel
theorem dX3_removeRule_39 : decode cX3_removeRule 39 = .ok (.iconst 1, 1) := by decide +kernel
theorem dX3_removeRule_40 : decode cX3_removeRule 40 = .ok (.isub, 1) := by decide +kernel
theorem dX3_removeRule_41 : decode cX3_removeRule 41 = .ok (.putfield 74, 3) := by decide +kernel
theorem dX3_removeRule_44 : decode cX3_removeRule 44 = .ok (.return_, 1) := by decide +kernel
theorem dX3_firstRuleFor_0 : decode cX3_firstRuleFor 0 = .ok (.iconst 0, 1) := by decide +kernel
theorem dX3_firstRuleFor_1 : decode cX3_firstRuleFor 1 = .ok (.istore_n 3, 1) := by decide +kernel
theorem dX3_firstRuleFor_2 : decode cX3_firstRuleFor 2 = .ok (.iload_n 3, 1) := by decide +kernel
theorem dX3_firstRuleFor_3 : decode cX3_firstRuleFor 3 = .ok (.aload_n 0, 1) := by decide +kernel
theorem dX3_firstRuleFor_4 : decode cX3_firstRuleFor 4 = .ok (.getfield 17, 3) := by decide +kernel
theorem dX3_firstRuleFor_7 : decode cX3_firstRuleFor 7 = .ok (.arraylength, 1) := by decide +kernel
theorem dX3_firstRuleFor_8 : decode cX3_firstRuleFor 8 = .ok (.if_icmp .ge 34, 3) := by decide +kernel
theorem dX3_firstRuleFor_11 : decode cX3_firstRuleFor 11 = .ok (.aload_n 0, 1) := by decide +kernel
theorem dX3_firstRuleFor_12 : decode cX3_firstRuleFor 12 = .ok (.getfield 17, 3) := by decide +kernel
theorem dX3_firstRuleFor_15 : decode cX3_firstRuleFor 15 = .ok (.iload_n 3, 1) := by decide +kernel
theorem dX3_firstRuleFor_16 : decode cX3_firstRuleFor 16 = .ok (.aaload, 1) := by decide +kernel
theorem dX3_firstRuleFor_17 : decode cX3_firstRuleFor 17 = .ok (.astore 4, 2) := by decide +kernel
theorem dX3_firstRuleFor_19 : decode cX3_firstRuleFor 19 = .ok (.aload 4, 2) := by decide +kernel
theorem dX3_firstRuleFor_21 : decode cX3_firstRuleFor 21 = .ok (.ifnull 15, 3) := by decide +kernel
theorem dX3_firstRuleFor_24 : decode cX3_firstRuleFor 24 = .ok (.aload 4, 2) := by decide +kernel
theorem dX3_firstRuleFor_26 : decode cX3_firstRuleFor 26 = .ok (.iload_n 1, 1) := by decide +kernel
theorem dX3_firstRuleFor_27 : decode cX3_firstRuleFor 27 = .ok (.iload_n 2, 1) := by decide +kernel
theorem dX3_firstRuleFor_28 : decode cX3_firstRuleFor 28 = .ok (.invokevirtual 81, 3) := by decide +kernel
theorem dX3_firstRuleFor_31 : decode cX3_firstRuleFor 31 = .ok (.ifCond .eq 5, 3) := by decide +kernel
theorem dX3_firstRuleFor_34 : decode cX3_firstRuleFor 34 = .ok (.iload_n 3, 1) := by decide +kernel
theorem dX3_firstRuleFor_35 : decode cX3_firstRuleFor 35 = .ok (.ireturn, 1) := by decide +kernel
theorem dX3_firstRuleFor_36 : decode cX3_firstRuleFor 36 = .ok (.iinc 3 1, 3) := by decide +kernel
theorem dX3_firstRuleFor_39 : decode cX3_firstRuleFor 39 = .ok (.goto (-37), 3) := by decide +kernel
theorem dX3_firstRuleFor_42 : decode cX3_firstRuleFor 42 = .ok (.iconst (-1), 1) := by decide +kernel
theorem dX3_firstRuleFor_43 : decode cX3_firstRuleFor 43 = .ok (.ireturn, 1) := by decide +kernel
theorem dX3_armOf_0 : decode cX3_armOf 0 = .ok (.aload_n 0, 1) := by decide +kernel
theorem dX3_armOf_1 : decode cX3_armOf 1 = .ok (.getfield 85, 3) := by decide +kernel
theorem dX3_armOf_4 : decode cX3_armOf 4 = .ok (.astore_n 2, 1) := by decide +kernel
theorem dX3_armOf_5 : decode cX3_armOf 5 = .ok (.aload_n 2, 1) := by decide +kernel
theorem dX3_armOf_6 : decode cX3_armOf 6 = .ok (.ifnull 21, 3) := by decide +kernel
theorem dX3_armOf_9 : decode cX3_armOf 9 = .ok (.aload_n 2, 1) := by decide +kernel
theorem dX3_armOf_10 : decode cX3_armOf 10 = .ok (.getfield 89, 3) := by decide +kernel
theorem dX3_armOf_13 : decode cX3_armOf 13 = .ok (.iload_n 1, 1) := by decide +kernel
theorem dX3_armOf_14 : decode cX3_armOf 14 = .ok (.if_icmp .ne 5, 3) := by decide +kernel
theorem dX3_armOf_17 : decode cX3_armOf 17 = .ok (.aload_n 2, 1) := by decide +kernel
theorem dX3_armOf_18 : decode cX3_armOf 18 = .ok (.areturn, 1) := by decide +kernel
theorem dX3_armOf_19 : decode cX3_armOf 19 = .ok (.aload_n 2, 1) := by decide +kernel
theorem dX3_armOf_20 : decode cX3_armOf 20 = .ok (.getfield 94, 3) := by decide +kernel
theorem dX3_armOf_23 : decode cX3_armOf 23 = .ok (.astore_n 2, 1) := by decide +kernel
theorem dX3_armOf_24 : decode cX3_armOf 24 = .ok (.goto (-19), 3) := by decide +kernel
theorem dX3_armOf_27 : decode cX3_armOf 27 = .ok (.aconst_null, 1) := by decide +kernel
theorem dX3_armOf_28 : decode cX3_armOf 28 = .ok (.areturn, 1) := by decide +kernel
theorem dX3_addArm_0 : decode cX3_addArm 0 = .ok (.aload_n 0, 1) := by decide +kernel
theorem dX3_addArm_1 : decode cX3_addArm 1 = .ok (.new 90, 3) := by decide +kernel
theorem dX3_addArm_4 : decode cX3_addArm 4 = .ok (.dup, 1) := by decide +kernel
theorem dX3_addArm_5 : decode cX3_addArm 5 = .ok (.iload_n 1, 1) := by decide +kernel
theorem dX3_addArm_6 : decode cX3_addArm 6 = .ok (.iload_n 2, 1) := by decide +kernel
theorem dX3_addArm_7 : decode cX3_addArm 7 = .ok (.aload_n 0, 1) := by decide +kernel
theorem dX3_addArm_8 : decode cX3_addArm 8 = .ok (.getfield 85, 3) := by decide +kernel
theorem dX3_addArm_11 : decode cX3_addArm 11 = .ok (.invokespecial 97, 3) := by decide +kernel
theorem dX3_addArm_14 : decode cX3_addArm 14 = .ok (.putfield 85, 3) := by decide +kernel
theorem dX3_addArm_17 : decode cX3_addArm 17 = .ok (.aload_n 0, 1) := by decide +kernel
theorem dX3_addArm_18 : decode cX3_addArm 18 = .ok (.getfield 24, 3) := by decide +kernel
theorem dX3_addArm_21 : decode cX3_addArm 21 = .ok (.iload_n 2, 1) := by decide +kernel
theorem dX3_addArm_22 : decode cX3_addArm 22 = .ok (.invokevirtual 100, 3) := by decide +kernel
theorem dX3_addArm_25 : decode cX3_addArm 25 = .ok (.return_, 1) := by decide +kernel
theorem dX3_addWorth_0 : decode cX3_addWorth 0 = .ok (.aload_n 0, 1) := by decide +kernel
theorem dX3_addWorth_1 : decode cX3_addWorth 1 = .ok (.iload_n 1, 1) := by decide +kernel
theorem dX3_addWorth_2 : decode cX3_addWorth 2 = .ok (.invokevirtual 104, 3) := by decide +kernel
theorem dX3_addWorth_5 : decode cX3_addWorth 5 = .ok (.astore_n 3, 1) := by decide +kernel
theorem dX3_addWorth_6 : decode cX3_addWorth 6 = .ok (.aload_n 3, 1) := by decide +kernel
theorem dX3_addWorth_7 : decode cX3_addWorth 7 = .ok (.ifnonnull 5, 3) := by decide +kernel
theorem dX3_addWorth_10 : decode cX3_addWorth 10 = .ok (.iconst 0, 1) := by decide +kernel
theorem dX3_addWorth_11 : decode cX3_addWorth 11 = .ok (.ireturn, 1) := by decide +kernel
theorem dX3_addWorth_12 : decode cX3_addWorth 12 = .ok (.aload_n 0, 1) := by decide +kernel
theorem dX3_addWorth_13 : decode cX3_addWorth 13 = .ok (.getfield 24, 3) := by decide +kernel
theorem dX3_addWorth_16 : decode cX3_addWorth 16 = .ok (.aload_n 3, 1) := by decide +kernel
theorem dX3_addWorth_17 : decode cX3_addWorth 17 = .ok (.getfield 108, 3) := by decide +kernel
theorem dX3_addWorth_20 : decode cX3_addWorth 20 = .ok (.aload_n 3, 1) := by decide +kernel
theorem dX3_addWorth_21 : decode cX3_addWorth 21 = .ok (.getfield 111, 3) := by decide +kernel
theorem dX3_addWorth_24 : decode cX3_addWorth 24 = .ok (.i2l, 1) := by decide +kernel
theorem dX3_addWorth_25 : decode cX3_addWorth 25 = .ok (.iload_n 2, 1) := by decide +kernel
theorem dX3_addWorth_26 : decode cX3_addWorth 26 = .ok (.aload_n 3, 1) := by decide +kernel
theorem dX3_addWorth_27 : decode cX3_addWorth 27 = .ok (.getfield 114, 3) := by decide +kernel
theorem dX3_addWorth_30 : decode cX3_addWorth 30 = .ok (.ifCond .ne 7, 3) := by decide +kernel
theorem dX3_addWorth_33 : decode cX3_addWorth 33 = .ok (.iconst 1, 1) := by decide +kernel
theorem dX3_addWorth_34 : decode cX3_addWorth 34 = .ok (.goto 4, 3) := by decide +kernel
theorem dX3_addWorth_37 : decode cX3_addWorth 37 = .ok (.iconst 0, 1) := by decide +kernel
theorem dX3_addWorth_38 : decode cX3_addWorth 38 = .ok (.invokevirtual 117, 3) := by decide +kernel
theorem dX3_addWorth_41 : decode cX3_addWorth 41 = .ok (.aload_n 3, 1) := by decide +kernel
theorem dX3_addWorth_42 : decode cX3_addWorth 42 = .ok (.dup, 1) := by decide +kernel
theorem dX3_addWorth_43 : decode cX3_addWorth 43 = .ok (.getfield 111, 3) := by decide +kernel
theorem dX3_addWorth_46 : decode cX3_addWorth 46 = .ok (.iload_n 2, 1) := by decide +kernel
theorem dX3_addWorth_47 : decode cX3_addWorth 47 = .ok (.iadd, 1) := by decide +kernel
theorem dX3_addWorth_48 : decode cX3_addWorth 48 = .ok (.putfield 111, 3) := by decide +kernel
theorem dX3_addWorth_51 : decode cX3_addWorth 51 = .ok (.aload_n 3, 1) := by decide +kernel
theorem dX3_addWorth_52 : decode cX3_addWorth 52 = .ok (.iconst 1, 1) := by decide +kernel
theorem dX3_addWorth_53 : decode cX3_addWorth 53 = .ok (.putfield 114, 3) := by decide +kernel
theorem dX3_addWorth_56 : decode cX3_addWorth 56 = .ok (.iconst 1, 1) := by decide +kernel
theorem dX3_addWorth_57 : decode cX3_addWorth 57 = .ok (.ireturn, 1) := by decide +kernel
theorem dX3_badness_0 : decode cX3_badness 0 = .ok (.aload_n 0, 1) := by decide +kernel
theorem dX3_badness_1 : decode cX3_badness 1 = .ok (.getfield 24, 3) := by decide +kernel
theorem dX3_badness_4 : decode cX3_badness 4 = .ok (.getfield 121, 3) := by decide +kernel
theorem dX3_badness_7 : decode cX3_badness 7 = .ok (.i2l, 1) := by decide +kernel
theorem dX3_badness_8 : decode cX3_badness 8 = .ok (.lstore_n 1, 1) := by decide +kernel
theorem dX3_badness_9 : decode cX3_badness 9 = .ok (.lconst 0, 1) := by decide +kernel
theorem dX3_badness_10 : decode cX3_badness 10 = .ok (.lstore_n 3, 1) := by decide +kernel
theorem dX3_badness_11 : decode cX3_badness 11 = .ok (.iconst 0, 1) := by decide +kernel
theorem dX3_badness_12 : decode cX3_badness 12 = .ok (.istore 5, 2) := by decide +kernel
theorem dX3_badness_14 : decode cX3_badness 14 = .ok (.iload 5, 2) := by decide +kernel
theorem dX3_badness_16 : decode cX3_badness 16 = .ok (.aload_n 0, 1) := by decide +kernel
theorem dX3_badness_17 : decode cX3_badness 17 = .ok (.getfield 9, 3) := by decide +kernel
theorem dX3_badness_20 : decode cX3_badness 20 = .ok (.arraylength, 1) := by decide +kernel
theorem dX3_badness_21 : decode cX3_badness 21 = .ok (.if_icmp .ge 62, 3) := by decide +kernel
theorem dX3_badness_24 : decode cX3_badness 24 = .ok (.lload_n 1, 1) := by decide +kernel
theorem dX3_badness_25 : decode cX3_badness 25 = .ok (.aload_n 0, 1) := by decide +kernel
theorem dX3_badness_26 : decode cX3_badness 26 = .ok (.getfield 9, 3) := by decide +kernel
theorem dX3_badness_29 : decode cX3_badness 29 = .ok (.iload 5, 2) := by decide +kernel
theorem dX3_badness_31 : decode cX3_badness 31 = .ok (.iaload, 1) := by decide +kernel
theorem dX3_badness_32 : decode cX3_badness 32 = .ok (.i2l, 1) := by decide +kernel
theorem dX3_badness_33 : decode cX3_badness 33 = .ok (.lmul, 1) := by decide +kernel
theorem dX3_badness_34 : decode cX3_badness 34 = .ok (.lstore 6, 2) := by decide +kernel
theorem dX3_badness_36 : decode cX3_badness 36 = .ok (.lload 6, 2) := by decide +kernel
theorem dX3_badness_38 : decode cX3_badness 38 = .ok (.lconst 0, 1) := by decide +kernel
theorem dX3_badness_39 : decode cX3_badness 39 = .ok (.lcmp, 1) := by decide +kernel
theorem dX3_badness_40 : decode cX3_badness 40 = .ok (.ifCond .le 37, 3) := by decide +kernel
theorem dX3_badness_43 : decode cX3_badness 43 = .ok (.aload_n 0, 1) := by decide +kernel
theorem dX3_badness_44 : decode cX3_badness 44 = .ok (.getfield 24, 3) := by decide +kernel
theorem dX3_badness_47 : decode cX3_badness 47 = .ok (.iload 5, 2) := by decide +kernel
theorem dX3_badness_49 : decode cX3_badness 49 = .ok (.invokevirtual 124, 3) := by decide +kernel
theorem dX3_badness_52 : decode cX3_badness 52 = .ok (.i2l, 1) := by decide +kernel
theorem dX3_badness_53 : decode cX3_badness 53 = .ok (.ldc2_w 57, 3) := by decide +kernel
theorem dX3_badness_56 : decode cX3_badness 56 = .ok (.lmul, 1) := by decide +kernel
theorem dX3_badness_57 : decode cX3_badness 57 = .ok (.lload 6, 2) := by decide +kernel
theorem dX3_badness_59 : decode cX3_badness 59 = .ok (.lsub, 1) := by decide +kernel
theorem dX3_badness_60 : decode cX3_badness 60 = .ok (.lstore 8, 2) := by decide +kernel
theorem dX3_badness_62 : decode cX3_badness 62 = .ok (.lload_n 3, 1) := by decide +kernel
theorem dX3_badness_63 : decode cX3_badness 63 = .ok (.lload 8, 2) := by decide +kernel
theorem dX3_badness_65 : decode cX3_badness 65 = .ok (.lload 8, 2) := by decide +kernel
theorem dX3_badness_67 : decode cX3_badness 67 = .ok (.lmul, 1) := by decide +kernel
theorem dX3_badness_68 : decode cX3_badness 68 = .ok (.lload 6, 2) := by decide +kernel
theorem dX3_badness_70 : decode cX3_badness 70 = .ok (.ldc2_w 128, 3) := by decide +kernel
theorem dX3_badness_73 : decode cX3_badness 73 = .ok (.lmul, 1) := by decide +kernel
theorem dX3_badness_74 : decode cX3_badness 74 = .ok (.ldiv, 1) := by decide +kernel
theorem dX3_badness_75 : decode cX3_badness 75 = .ok (.ladd, 1) := by decide +kernel
theorem dX3_badness_76 : decode cX3_badness 76 = .ok (.lstore_n 3, 1) := by decide +kernel
theorem dX3_badness_77 : decode cX3_badness 77 = .ok (.iinc 5 1, 3) := by decide +kernel
theorem dX3_badness_80 : decode cX3_badness 80 = .ok (.goto (-66), 3) := by decide +kernel
theorem dX3_badness_83 : decode cX3_badness 83 = .ok (.lload_n 3, 1) := by decide +kernel
theorem dX3_badness_84 : decode cX3_badness 84 = .ok (.l2i, 1) := by decide +kernel
theorem dX3_badness_85 : decode cX3_badness 85 = .ok (.ireturn, 1) := by decide +kernel
theorem dX3_canBeTrusted_0 : decode cX3_canBeTrusted 0 = .ok (.iconst 0, 1) := by decide +kernel
theorem dX3_canBeTrusted_1 : decode cX3_canBeTrusted 1 = .ok (.istore_n 1, 1) := by decide +kernel
theorem dX3_canBeTrusted_2 : decode cX3_canBeTrusted 2 = .ok (.iconst 0, 1) := by decide +kernel
theorem dX3_canBeTrusted_3 : decode cX3_canBeTrusted 3 = .ok (.istore_n 2, 1) := by decide +kernel
theorem dX3_canBeTrusted_4 : decode cX3_canBeTrusted 4 = .ok (.iload_n 2, 1) := by decide +kernel
theorem dX3_canBeTrusted_5 : decode cX3_canBeTrusted 5 = .ok (.aload_n 0, 1) := by decide +kernel
theorem dX3_canBeTrusted_6 : decode cX3_canBeTrusted 6 = .ok (.getfield 9, 3) := by decide +kernel
theorem dX3_canBeTrusted_9 : decode cX3_canBeTrusted 9 = .ok (.arraylength, 1) := by decide +kernel
theorem dX3_canBeTrusted_10 : decode cX3_canBeTrusted 10 = .ok (.if_icmp .ge 37, 3) := by decide +kernel
theorem dX3_canBeTrusted_13 : decode cX3_canBeTrusted 13 = .ok (.aload_n 0, 1) := by decide +kernel
theorem dX3_canBeTrusted_14 : decode cX3_canBeTrusted 14 = .ok (.getfield 9, 3) := by decide +kernel
theorem dX3_canBeTrusted_17 : decode cX3_canBeTrusted 17 = .ok (.iload_n 2, 1) := by decide +kernel
theorem dX3_canBeTrusted_18 : decode cX3_canBeTrusted 18 = .ok (.iaload, 1) := by decide +kernel
theorem dX3_canBeTrusted_19 : decode cX3_canBeTrusted 19 = .ok (.ifCond .le 9, 3) := by decide +kernel
theorem dX3_canBeTrusted_22 : decode cX3_canBeTrusted 22 = .ok (.iinc 1 1, 3) := by decide +kernel
theorem dX3_canBeTrusted_25 : decode cX3_canBeTrusted 25 = .ok (.goto 16, 3) := by decide +kernel
theorem dX3_canBeTrusted_28 : decode cX3_canBeTrusted 28 = .ok (.aload_n 0, 1) := by decide +kernel
theorem dX3_canBeTrusted_29 : decode cX3_canBeTrusted 29 = .ok (.getfield 24, 3) := by decide +kernel
theorem dX3_canBeTrusted_32 : decode cX3_canBeTrusted 32 = .ok (.iload_n 2, 1) := by decide +kernel
theorem dX3_canBeTrusted_33 : decode cX3_canBeTrusted 33 = .ok (.invokevirtual 124, 3) := by decide +kernel
theorem dX3_canBeTrusted_36 : decode cX3_canBeTrusted 36 = .ok (.ifCond .le 5, 3) := by decide +kernel
theorem dX3_canBeTrusted_39 : decode cX3_canBeTrusted 39 = .ok (.iconst 0, 1) := by decide +kernel
theorem dX3_canBeTrusted_40 : decode cX3_canBeTrusted 40 = .ok (.ireturn, 1) := by decide +kernel
theorem dX3_canBeTrusted_41 : decode cX3_canBeTrusted 41 = .ok (.iinc 2 1, 3) := by decide +kernel
theorem dX3_canBeTrusted_44 : decode cX3_canBeTrusted 44 = .ok (.goto (-40), 3) := by decide +kernel
theorem dX3_canBeTrusted_47 : decode cX3_canBeTrusted 47 = .ok (.iload_n 1, 1) := by decide +kernel
theorem dX3_canBeTrusted_48 : decode cX3_canBeTrusted 48 = .ok (.iconst 2, 1) := by decide +kernel
theorem dX3_canBeTrusted_49 : decode cX3_canBeTrusted 49 = .ok (.if_icmp .lt 14, 3) := by decide +kernel
theorem dX3_canBeTrusted_52 : decode cX3_canBeTrusted 52 = .ok (.aload_n 0, 1) := by decide +kernel
theorem dX3_canBeTrusted_53 : decode cX3_canBeTrusted 53 = .ok (.invokevirtual 130, 3) := by decide +kernel
theorem dX3_canBeTrusted_56 : decode cX3_canBeTrusted 56 = .ok (.iload_n 1, 1) := by decide +kernel
theorem dX3_canBeTrusted_57 : decode cX3_canBeTrusted 57 = .ok (.invokestatic 134, 3) := by decide +kernel
theorem dX3_canBeTrusted_60 : decode cX3_canBeTrusted 60 = .ok (.if_icmp .gt 7, 3) := by decide +kernel
theorem dX3_canBeTrusted_63 : decode cX3_canBeTrusted 63 = .ok (.iconst 1, 1) := by decide +kernel
theorem dX3_canBeTrusted_64 : decode cX3_canBeTrusted 64 = .ok (.goto 4, 3) := by decide +kernel
theorem dX3_canBeTrusted_67 : decode cX3_canBeTrusted 67 = .ok (.iconst 0, 1) := by decide +kernel
theorem dX3_canBeTrusted_68 : decode cX3_canBeTrusted 68 = .ok (.ireturn, 1) := by decide +kernel
theorem dX3_mostBadness_0 : decode cX3_mostBadness 0 = .ok (.iload_n 0, 1) := by decide +kernel
theorem dX3_mostBadness_1 : decode cX3_mostBadness 1 = .ok (.iconst 2, 1) := by decide +kernel
theorem dX3_mostBadness_2 : decode cX3_mostBadness 2 = .ok (.if_icmp .ne 7, 3) := by decide +kernel
theorem dX3_mostBadness_5 : decode cX3_mostBadness 5 = .ok (.sipush 384, 3) := by decide +kernel
theorem dX3_mostBadness_8 : decode cX3_mostBadness 8 = .ok (.ireturn, 1) := by decide +kernel
theorem dX3_mostBadness_9 : decode cX3_mostBadness 9 = .ok (.iload_n 0, 1) := by decide +kernel
theorem dX3_mostBadness_10 : decode cX3_mostBadness 10 = .ok (.iconst 3, 1) := by decide +kernel
theorem dX3_mostBadness_11 : decode cX3_mostBadness 11 = .ok (.if_icmp .ne 9, 3) := by decide +kernel
theorem dX3_mostBadness_14 : decode cX3_mostBadness 14 = .ok (.sipush 599, 3) := by decide +kernel
theorem dX3_mostBadness_17 : decode cX3_mostBadness 17 = .ok (.goto 6, 3) := by decide +kernel
theorem dX3_mostBadness_20 : decode cX3_mostBadness 20 = .ok (.sipush 781, 3) := by decide +kernel
theorem dX3_mostBadness_23 : decode cX3_mostBadness 23 = .ok (.ireturn, 1) := by decide +kernel
theorem dX4_init_0 : decode cX4_init 0 = .ok (.aload_n 0, 1) := by decide +kernel
theorem dX4_init_1 : decode cX4_init 1 = .ok (.invokespecial 3, 3) := by decide +kernel
theorem dX4_init_4 : decode cX4_init 4 = .ok (.aload_n 0, 1) := by decide +kernel
theorem dX4_init_5 : decode cX4_init 5 = .ok (.iconst 4, 1) := by decide +kernel
theorem dX4_init_6 : decode cX4_init 6 = .ok (.newarray .int, 2) := by decide +kernel
theorem dX4_init_8 : decode cX4_init 8 = .ok (.putfield 9, 3) := by decide +kernel
theorem dX4_init_11 : decode cX4_init 11 = .ok (.aload_n 0, 1) := by decide +kernel
theorem dX4_init_12 : decode cX4_init 12 = .ok (.iconst 4, 1) := by decide +kernel
theorem dX4_init_13 : decode cX4_init 13 = .ok (.newarray .int, 2) := by decide +kernel
theorem dX4_init_15 : decode cX4_init 15 = .ok (.putfield 15, 3) := by decide +kernel
theorem dX4_init_18 : decode cX4_init 18 = .ok (.aload_n 0, 1) := by decide +kernel
theorem dX4_init_19 : decode cX4_init 19 = .ok (.iconst 4, 1) := by decide +kernel
theorem dX4_init_20 : decode cX4_init 20 = .ok (.newarray .int, 2) := by decide +kernel
theorem dX4_init_22 : decode cX4_init 22 = .ok (.putfield 18, 3) := by decide +kernel
theorem dX4_init_25 : decode cX4_init 25 = .ok (.aload_n 0, 1) := by decide +kernel
theorem dX4_init_26 : decode cX4_init 26 = .ok (.iconst 4, 1) := by decide +kernel
theorem dX4_init_27 : decode cX4_init 27 = .ok (.newarray .long, 2) := by decide +kernel
theorem dX4_init_29 : decode cX4_init 29 = .ok (.putfield 21, 3) := by decide +kernel
theorem dX4_init_32 : decode cX4_init 32 = .ok (.return_, 1) := by decide +kernel
theorem dX4_isKept_0 : decode cX4_isKept 0 = .ok (.iload_n 0, 1) := by decide +kernel
theorem dX4_isKept_1 : decode cX4_isKept 1 = .ok (.ifCond .lt 12, 3) := by decide +kernel
theorem dX4_isKept_4 : decode cX4_isKept 4 = .ok (.iload_n 0, 1) := by decide +kernel
theorem dX4_isKept_5 : decode cX4_isKept 5 = .ok (.iconst 4, 1) := by decide +kernel
theorem dX4_isKept_6 : decode cX4_isKept 6 = .ok (.if_icmp .ge 7, 3) := by decide +kernel
theorem dX4_isKept_9 : decode cX4_isKept 9 = .ok (.iconst 1, 1) := by decide +kernel
theorem dX4_isKept_10 : decode cX4_isKept 10 = .ok (.goto 4, 3) := by decide +kernel
theorem dX4_isKept_13 : decode cX4_isKept 13 = .ok (.iconst 0, 1) := by decide +kernel
theorem dX4_isKept_14 : decode cX4_isKept 14 = .ok (.ireturn, 1) := by decide +kernel
theorem dX4_countArm_0 : decode cX4_countArm 0 = .ok (.iload_n 1, 1) := by decide +kernel
theorem dX4_countArm_1 : decode cX4_countArm 1 = .ok (.invokestatic 25, 3) := by decide +kernel
theorem dX4_countArm_4 : decode cX4_countArm 4 = .ok (.ifCond .eq 23, 3) := by decide +kernel
theorem dX4_countArm_7 : decode cX4_countArm 7 = .ok (.aload_n 0, 1) := by decide +kernel
theorem dX4_countArm_8 : decode cX4_countArm 8 = .ok (.getfield 9, 3) := by decide +kernel
theorem dX4_countArm_11 : decode cX4_countArm 11 = .ok (.iload_n 1, 1) := by decide +kernel
theorem dX4_countArm_12 : decode cX4_countArm 12 = .ok (.dup2, 1) := by decide +kernel
theorem dX4_countArm_13 : decode cX4_countArm 13 = .ok (.iaload, 1) := by decide +kernel
theorem dX4_countArm_14 : decode cX4_countArm 14 = .ok (.iconst 1, 1) := by decide +kernel
theorem dX4_countArm_15 : decode cX4_countArm 15 = .ok (.iadd, 1) := by decide +kernel
theorem dX4_countArm_16 : decode cX4_countArm 16 = .ok (.iastore, 1) := by decide +kernel
theorem dX4_countArm_17 : decode cX4_countArm 17 = .ok (.aload_n 0, 1) := by decide +kernel
theorem dX4_countArm_18 : decode cX4_countArm 18 = .ok (.dup, 1) := by decide +kernel
theorem dX4_countArm_19 : decode cX4_countArm 19 = .ok (.getfield 29, 3) := by decide +kernel
theorem dX4_countArm_22 : decode cX4_countArm 22 = .ok (.iconst 1, 1) := by decide +kernel
theorem dX4_countArm_23 : decode cX4_countArm 23 = .ok (.iadd, 1) := by decide +kernel
theorem dX4_countArm_24 : decode cX4_countArm 24 = .ok (.putfield 29, 3) := by decide +kernel
theorem dX4_countArm_27 : decode cX4_countArm 27 = .ok (.return_, 1) := by decide +kernel
theorem dX4_countAct_0 : decode cX4_countAct 0 = .ok (.iload_n 1, 1) := by decide +kernel
theorem dX4_countAct_1 : decode cX4_countAct 1 = .ok (.invokestatic 25, 3) := by decide +kernel
theorem dX4_countAct_4 : decode cX4_countAct 4 = .ok (.ifCond .eq 58, 3) := by decide +kernel
theorem dX4_countAct_7 : decode cX4_countAct 7 = .ok (.lload_n 2, 1) := by decide +kernel
theorem dX4_countAct_8 : decode cX4_countAct 8 = .ok (.iload 4, 2) := by decide +kernel
theorem dX4_countAct_10 : decode cX4_countAct 10 = .ok (.i2l, 1) := by decide +kernel
theorem dX4_countAct_11 : decode cX4_countAct 11 = .ok (.ladd, 1) := by decide +kernel
theorem dX4_countAct_12 : decode cX4_countAct 12 = .ok (.lstore 6, 2) := by decide +kernel
theorem dX4_countAct_14 : decode cX4_countAct 14 = .ok (.aload_n 0, 1) := by decide +kernel
theorem dX4_countAct_15 : decode cX4_countAct 15 = .ok (.getfield 18, 3) := by decide +kernel
theorem dX4_countAct_18 : decode cX4_countAct 18 = .ok (.iload_n 1, 1) := by decide +kernel
theorem dX4_countAct_19 : decode cX4_countAct 19 = .ok (.dup2, 1) := by decide +kernel
theorem dX4_countAct_20 : decode cX4_countAct 20 = .ok (.iaload, 1) := by decide +kernel
theorem dX4_countAct_21 : decode cX4_countAct 21 = .ok (.iload 4, 2) := by decide +kernel
theorem dX4_countAct_23 : decode cX4_countAct 23 = .ok (.iadd, 1) := by decide +kernel
theorem dX4_countAct_24 : decode cX4_countAct 24 = .ok (.iastore, 1) := by decide +kernel
theorem dX4_countAct_25 : decode cX4_countAct 25 = .ok (.aload_n 0, 1) := by decide +kernel
theorem dX4_countAct_26 : decode cX4_countAct 26 = .ok (.getfield 21, 3) := by decide +kernel
theorem dX4_countAct_29 : decode cX4_countAct 29 = .ok (.iload_n 1, 1) := by decide +kernel
theorem dX4_countAct_30 : decode cX4_countAct 30 = .ok (.dup2, 1) := by decide +kernel
theorem dX4_countAct_31 : decode cX4_countAct 31 = .ok (.laload, 1) := by decide +kernel
theorem dX4_countAct_32 : decode cX4_countAct 32 = .ok (.lload 6, 2) := by decide +kernel
theorem dX4_countAct_34 : decode cX4_countAct 34 = .ok (.lload 6, 2) := by decide +kernel
theorem dX4_countAct_36 : decode cX4_countAct 36 = .ok (.lmul, 1) := by decide +kernel
theorem dX4_countAct_37 : decode cX4_countAct 37 = .ok (.lload_n 2, 1) := by decide +kernel
theorem dX4_countAct_38 : decode cX4_countAct 38 = .ok (.lload_n 2, 1) := by decide +kernel
theorem dX4_countAct_39 : decode cX4_countAct 39 = .ok (.lmul, 1) := by decide +kernel
theorem dX4_countAct_40 : decode cX4_countAct 40 = .ok (.lsub, 1) := by decide +kernel
theorem dX4_countAct_41 : decode cX4_countAct 41 = .ok (.ladd, 1) := by decide +kernel
theorem dX4_countAct_42 : decode cX4_countAct 42 = .ok (.lastore, 1) := by decide +kernel
theorem dX4_countAct_43 : decode cX4_countAct 43 = .ok (.aload_n 0, 1) := by decide +kernel
theorem dX4_countAct_44 : decode cX4_countAct 44 = .ok (.getfield 15, 3) := by decide +kernel
theorem dX4_countAct_47 : decode cX4_countAct 47 = .ok (.iload_n 1, 1) := by decide +kernel
theorem dX4_countAct_48 : decode cX4_countAct 48 = .ok (.dup2, 1) := by decide +kernel
theorem dX4_countAct_49 : decode cX4_countAct 49 = .ok (.iaload, 1) := by decide +kernel
theorem dX4_countAct_50 : decode cX4_countAct 50 = .ok (.iload 5, 2) := by decide +kernel
theorem dX4_countAct_52 : decode cX4_countAct 52 = .ok (.ifCond .eq 7, 3) := by decide +kernel
theorem dX4_countAct_55 : decode cX4_countAct 55 = .ok (.iconst 1, 1) := by decide +kernel
theorem dX4_countAct_56 : decode cX4_countAct 56 = .ok (.goto 4, 3) := by decide +kernel
theorem dX4_countAct_59 : decode cX4_countAct 59 = .ok (.iconst 0, 1) := by decide +kernel
theorem dX4_countAct_60 : decode cX4_countAct 60 = .ok (.iadd, 1) := by decide +kernel
theorem dX4_countAct_61 : decode cX4_countAct 61 = .ok (.iastore, 1) := by decide +kernel
theorem dX4_countAct_62 : decode cX4_countAct 62 = .ok (.return_, 1) := by decide +kernel
theorem dX4_countOf_0 : decode cX4_countOf 0 = .ok (.iload_n 1, 1) := by decide +kernel
theorem dX4_countOf_1 : decode cX4_countOf 1 = .ok (.invokestatic 25, 3) := by decide +kernel
theorem dX4_countOf_4 : decode cX4_countOf 4 = .ok (.ifCond .eq 12, 3) := by decide +kernel
theorem dX4_countOf_7 : decode cX4_countOf 7 = .ok (.aload_n 0, 1) := by decide +kernel
theorem dX4_countOf_8 : decode cX4_countOf 8 = .ok (.getfield 9, 3) := by decide +kernel
theorem dX4_countOf_11 : decode cX4_countOf 11 = .ok (.iload_n 1, 1) := by decide +kernel
theorem dX4_countOf_12 : decode cX4_countOf 12 = .ok (.iaload, 1) := by decide +kernel
theorem dX4_countOf_13 : decode cX4_countOf 13 = .ok (.goto 4, 3) := by decide +kernel
theorem dX4_countOf_16 : decode cX4_countOf 16 = .ok (.iconst 0, 1) := by decide +kernel
theorem dX4_countOf_17 : decode cX4_countOf 17 = .ok (.ireturn, 1) := by decide +kernel
theorem dX4_actedOf_0 : decode cX4_actedOf 0 = .ok (.iload_n 1, 1) := by decide +kernel
theorem dX4_actedOf_1 : decode cX4_actedOf 1 = .ok (.invokestatic 25, 3) := by decide +kernel
theorem dX4_actedOf_4 : decode cX4_actedOf 4 = .ok (.ifCond .eq 12, 3) := by decide +kernel
theorem dX4_actedOf_7 : decode cX4_actedOf 7 = .ok (.aload_n 0, 1) := by decide +kernel
theorem dX4_actedOf_8 : decode cX4_actedOf 8 = .ok (.getfield 15, 3) := by decide +kernel
theorem dX4_actedOf_11 : decode cX4_actedOf 11 = .ok (.iload_n 1, 1) := by decide +kernel
theorem dX4_actedOf_12 : decode cX4_actedOf 12 = .ok (.iaload, 1) := by decide +kernel
theorem dX4_actedOf_13 : decode cX4_actedOf 13 = .ok (.goto 4, 3) := by decide +kernel
theorem dX4_actedOf_16 : decode cX4_actedOf 16 = .ok (.iconst 0, 1) := by decide +kernel
theorem dX4_actedOf_17 : decode cX4_actedOf 17 = .ok (.ireturn, 1) := by decide +kernel
theorem dX4_sumOf_0 : decode cX4_sumOf 0 = .ok (.iload_n 1, 1) := by decide +kernel
theorem dX4_sumOf_1 : decode cX4_sumOf 1 = .ok (.invokestatic 25, 3) := by decide +kernel
theorem dX4_sumOf_4 : decode cX4_sumOf 4 = .ok (.ifCond .eq 12, 3) := by decide +kernel
theorem dX4_sumOf_7 : decode cX4_sumOf 7 = .ok (.aload_n 0, 1) := by decide +kernel
theorem dX4_sumOf_8 : decode cX4_sumOf 8 = .ok (.getfield 18, 3) := by decide +kernel
theorem dX4_sumOf_11 : decode cX4_sumOf 11 = .ok (.iload_n 1, 1) := by decide +kernel
theorem dX4_sumOf_12 : decode cX4_sumOf 12 = .ok (.iaload, 1) := by decide +kernel
theorem dX4_sumOf_13 : decode cX4_sumOf 13 = .ok (.goto 4, 3) := by decide +kernel
theorem dX4_sumOf_16 : decode cX4_sumOf 16 = .ok (.iconst 0, 1) := by decide +kernel
theorem dX4_sumOf_17 : decode cX4_sumOf 17 = .ok (.ireturn, 1) := by decide +kernel
theorem dX4_squaresOf_0 : decode cX4_squaresOf 0 = .ok (.iload_n 1, 1) := by decide +kernel
theorem dX4_squaresOf_1 : decode cX4_squaresOf 1 = .ok (.invokestatic 25, 3) := by decide +kernel
theorem dX4_squaresOf_4 : decode cX4_squaresOf 4 = .ok (.ifCond .eq 12, 3) := by decide +kernel
theorem dX4_squaresOf_7 : decode cX4_squaresOf 7 = .ok (.aload_n 0, 1) := by decide +kernel
theorem dX4_squaresOf_8 : decode cX4_squaresOf 8 = .ok (.getfield 21, 3) := by decide +kernel
theorem dX4_squaresOf_11 : decode cX4_squaresOf 11 = .ok (.iload_n 1, 1) := by decide +kernel
theorem dX4_squaresOf_12 : decode cX4_squaresOf 12 = .ok (.laload, 1) := by decide +kernel
theorem dX4_squaresOf_13 : decode cX4_squaresOf 13 = .ok (.goto 4, 3) := by decide +kernel
theorem dX4_squaresOf_16 : decode cX4_squaresOf 16 = .ok (.lconst 0, 1) := by decide +kernel
theorem dX4_squaresOf_17 : decode cX4_squaresOf 17 = .ok (.lreturn, 1) := by decide +kernel
theorem dX4_meanOf_0 : decode cX4_meanOf 0 = .ok (.aload_n 0, 1) := by decide +kernel
theorem dX4_meanOf_1 : decode cX4_meanOf 1 = .ok (.iload_n 1, 1) := by decide +kernel
theorem dX4_meanOf_2 : decode cX4_meanOf 2 = .ok (.invokevirtual 33, 3) := by decide +kernel
theorem dX4_meanOf_5 : decode cX4_meanOf 5 = .ok (.istore_n 2, 1) := by decide +kernel
theorem dX4_meanOf_6 : decode cX4_meanOf 6 = .ok (.iload_n 2, 1) := by decide +kernel
theorem dX4_meanOf_7 : decode cX4_meanOf 7 = .ok (.ifCond .ne 7, 3) := by decide +kernel
theorem dX4_meanOf_10 : decode cX4_meanOf 10 = .ok (.dconst 0, 1) := by decide +kernel
theorem dX4_meanOf_11 : decode cX4_meanOf 11 = .ok (.goto 12, 3) := by decide +kernel
theorem dX4_meanOf_14 : decode cX4_meanOf 14 = .ok (.aload_n 0, 1) := by decide +kernel
theorem dX4_meanOf_15 : decode cX4_meanOf 15 = .ok (.iload_n 1, 1) := by decide +kernel
theorem dX4_meanOf_16 : decode cX4_meanOf 16 = .ok (.invokevirtual 37, 3) := by decide +kernel
theorem dX4_meanOf_19 : decode cX4_meanOf 19 = .ok (.i2d, 1) := by decide +kernel
theorem dX4_meanOf_20 : decode cX4_meanOf 20 = .ok (.iload_n 2, 1) := by decide +kernel
theorem dX4_meanOf_21 : decode cX4_meanOf 21 = .ok (.i2d, 1) := by decide +kernel
theorem dX4_meanOf_22 : decode cX4_meanOf 22 = .ok (.ddiv, 1) := by decide +kernel
theorem dX4_meanOf_23 : decode cX4_meanOf 23 = .ok (.dreturn, 1) := by decide +kernel
theorem dX4_liftOf_0 : decode cX4_liftOf 0 = .ok (.aload_n 0, 1) := by decide +kernel
theorem dX4_liftOf_1 : decode cX4_liftOf 1 = .ok (.iload_n 1, 1) := by decide +kernel
theorem dX4_liftOf_2 : decode cX4_liftOf 2 = .ok (.invokevirtual 40, 3) := by decide +kernel
theorem dX4_liftOf_5 : decode cX4_liftOf 5 = .ok (.aload_n 0, 1) := by decide +kernel
theorem dX4_liftOf_6 : decode cX4_liftOf 6 = .ok (.iconst 0, 1) := by decide +kernel
theorem dX4_liftOf_7 : decode cX4_liftOf 7 = .ok (.invokevirtual 40, 3) := by decide +kernel
theorem dX4_liftOf_10 : decode cX4_liftOf 10 = .ok (.dsub, 1) := by decide +kernel
theorem dX4_liftOf_11 : decode cX4_liftOf 11 = .ok (.dreturn, 1) := by decide +kernel
theorem dX4_surenessOf_0 : decode cX4_surenessOf 0 = .ok (.aload_n 0, 1) := by decide +kernel
theorem dX4_surenessOf_1 : decode cX4_surenessOf 1 = .ok (.iload_n 1, 1) := by decide +kernel
theorem dX4_surenessOf_2 : decode cX4_surenessOf 2 = .ok (.invokevirtual 33, 3) := by decide +kernel
theorem dX4_surenessOf_5 : decode cX4_surenessOf 5 = .ok (.ifCond .eq 11, 3) := by decide +kernel
theorem dX4_surenessOf_8 : decode cX4_surenessOf 8 = .ok (.aload_n 0, 1) := by decide +kernel
theorem dX4_surenessOf_9 : decode cX4_surenessOf 9 = .ok (.iconst 0, 1) := by decide +kernel
theorem dX4_surenessOf_10 : decode cX4_surenessOf 10 = .ok (.invokevirtual 33, 3) := by decide +kernel
theorem dX4_surenessOf_13 : decode cX4_surenessOf 13 = .ok (.ifCond .ne 5, 3) := by decide +kernel
theorem dX4_surenessOf_16 : decode cX4_surenessOf 16 = .ok (.dconst 0, 1) := by decide +kernel
theorem dX4_surenessOf_17 : decode cX4_surenessOf 17 = .ok (.dreturn, 1) := by decide +kernel
theorem dX4_surenessOf_18 : decode cX4_surenessOf 18 = .ok (.aload_n 0, 1) := by decide +kernel
theorem dX4_surenessOf_19 : decode cX4_surenessOf 19 = .ok (.iload_n 1, 1) := by decide +kernel
theorem dX4_surenessOf_20 : decode cX4_surenessOf 20 = .ok (.invokevirtual 44, 3) := by decide +kernel
theorem dX4_surenessOf_23 : decode cX4_surenessOf 23 = .ok (.aload_n 0, 1) := by decide +kernel
theorem dX4_surenessOf_24 : decode cX4_surenessOf 24 = .ok (.iconst 0, 1) := by decide +kernel
theorem dX4_surenessOf_25 : decode cX4_surenessOf 25 = .ok (.invokevirtual 44, 3) := by decide +kernel
theorem dX4_surenessOf_28 : decode cX4_surenessOf 28 = .ok (.dadd, 1) := by decide +kernel
theorem dX4_surenessOf_29 : decode cX4_surenessOf 29 = .ok (.dstore_n 2, 1) := by decide +kernel
theorem dX4_surenessOf_30 : decode cX4_surenessOf 30 = .ok (.aload_n 0, 1) := by decide +kernel
theorem dX4_surenessOf_31 : decode cX4_surenessOf 31 = .ok (.iload_n 1, 1) := by decide +kernel
theorem dX4_surenessOf_32 : decode cX4_surenessOf 32 = .ok (.invokevirtual 47, 3) := by decide +kernel
theorem dX4_surenessOf_35 : decode cX4_surenessOf 35 = .ok (.dstore 4, 2) := by decide +kernel
theorem dX4_surenessOf_37 : decode cX4_surenessOf 37 = .ok (.dload_n 2, 1) := by decide +kernel
theorem dX4_surenessOf_38 : decode cX4_surenessOf 38 = .ok (.dconst 0, 1) := by decide +kernel
theorem dX4_surenessOf_39 : decode cX4_surenessOf 39 = .ok (.dcmp .l, 1) := by decide +kernel
theorem dX4_surenessOf_40 : decode cX4_surenessOf 40 = .ok (.ifCond .ne 7, 3) := by decide +kernel
theorem dX4_surenessOf_43 : decode cX4_surenessOf 43 = .ok (.dconst 0, 1) := by decide +kernel
theorem dX4_surenessOf_44 : decode cX4_surenessOf 44 = .ok (.goto 10, 3) := by decide +kernel
theorem dX4_surenessOf_47 : decode cX4_surenessOf 47 = .ok (.dload 4, 2) := by decide +kernel
theorem dX4_surenessOf_49 : decode cX4_surenessOf 49 = .ok (.dload 4, 2) := by decide +kernel
theorem dX4_surenessOf_51 : decode cX4_surenessOf 51 = .ok (.dmul, 1) := by decide +kernel
theorem dX4_surenessOf_52 : decode cX4_surenessOf 52 = .ok (.dload_n 2, 1) := by decide +kernel
theorem dX4_surenessOf_53 : decode cX4_surenessOf 53 = .ok (.ddiv, 1) := by decide +kernel
theorem dX4_surenessOf_54 : decode cX4_surenessOf 54 = .ok (.dreturn, 1) := by decide +kernel
theorem dX4_spreadByCount_0 : decode cX4_spreadByCount 0 = .ok (.aload_n 0, 1) := by decide +kernel
theorem dX4_spreadByCount_1 : decode cX4_spreadByCount 1 = .ok (.iload_n 1, 1) := by decide +kernel
theorem dX4_spreadByCount_2 : decode cX4_spreadByCount 2 = .ok (.invokevirtual 33, 3) := by decide +kernel
theorem dX4_spreadByCount_5 : decode cX4_spreadByCount 5 = .ok (.istore_n 2, 1) := by decide +kernel
theorem dX4_spreadByCount_6 : decode cX4_spreadByCount 6 = .ok (.iload_n 2, 1) := by decide +kernel
theorem dX4_spreadByCount_7 : decode cX4_spreadByCount 7 = .ok (.ifCond .ne 5, 3) := by decide +kernel
theorem dX4_spreadByCount_10 : decode cX4_spreadByCount 10 = .ok (.dconst 0, 1) := by decide +kernel
theorem dX4_spreadByCount_11 : decode cX4_spreadByCount 11 = .ok (.dreturn, 1) := by decide +kernel
theorem dX4_spreadByCount_12 : decode cX4_spreadByCount 12 = .ok (.aload_n 0, 1) := by decide +kernel
theorem dX4_spreadByCount_13 : decode cX4_spreadByCount 13 = .ok (.iload_n 1, 1) := by decide +kernel
theorem dX4_spreadByCount_14 : decode cX4_spreadByCount 14 = .ok (.invokevirtual 40, 3) := by decide +kernel
theorem dX4_spreadByCount_17 : decode cX4_spreadByCount 17 = .ok (.dstore_n 3, 1) := by decide +kernel
theorem dX4_spreadByCount_18 : decode cX4_spreadByCount 18 = .ok (.aload_n 0, 1) := by decide +kernel
theorem dX4_spreadByCount_19 : decode cX4_spreadByCount 19 = .ok (.iload_n 1, 1) := by decide +kernel
theorem dX4_spreadByCount_20 : decode cX4_spreadByCount 20 = .ok (.invokevirtual 50, 3) := by decide +kernel
theorem dX4_spreadByCount_23 : decode cX4_spreadByCount 23 = .ok (.l2d, 1) := by decide +kernel
theorem dX4_spreadByCount_24 : decode cX4_spreadByCount 24 = .ok (.iload_n 2, 1) := by decide +kernel
theorem dX4_spreadByCount_25 : decode cX4_spreadByCount 25 = .ok (.i2d, 1) := by decide +kernel
theorem dX4_spreadByCount_26 : decode cX4_spreadByCount 26 = .ok (.ddiv, 1) := by decide +kernel
theorem dX4_spreadByCount_27 : decode cX4_spreadByCount 27 = .ok (.dload_n 3, 1) := by decide +kernel
theorem dX4_spreadByCount_28 : decode cX4_spreadByCount 28 = .ok (.dload_n 3, 1) := by decide +kernel
theorem dX4_spreadByCount_29 : decode cX4_spreadByCount 29 = .ok (.dmul, 1) := by decide +kernel
theorem dX4_spreadByCount_30 : decode cX4_spreadByCount 30 = .ok (.dsub, 1) := by decide +kernel
theorem dX4_spreadByCount_31 : decode cX4_spreadByCount 31 = .ok (.dstore 5, 2) := by decide +kernel
theorem dX4_spreadByCount_33 : decode cX4_spreadByCount 33 = .ok (.dload 5, 2) := by decide +kernel
theorem dX4_spreadByCount_35 : decode cX4_spreadByCount 35 = .ok (.iload_n 2, 1) := by decide +kernel
theorem dX4_spreadByCount_36 : decode cX4_spreadByCount 36 = .ok (.i2d, 1) := by decide +kernel
theorem dX4_spreadByCount_37 : decode cX4_spreadByCount 37 = .ok (.ddiv, 1) := by decide +kernel
theorem dX4_spreadByCount_38 : decode cX4_spreadByCount 38 = .ok (.dreturn, 1) := by decide +kernel
theorem dX4_bestVariant_0 : decode cX4_bestVariant 0 = .ok (.iconst (-1), 1) := by decide +kernel
theorem dX4_bestVariant_1 : decode cX4_bestVariant 1 = .ok (.istore_n 1, 1) := by decide +kernel
theorem dX4_bestVariant_2 : decode cX4_bestVariant 2 = .ok (.iconst 0, 1) := by decide +kernel
theorem dX4_bestVariant_3 : decode cX4_bestVariant 3 = .ok (.istore_n 2, 1) := by decide +kernel
theorem dX4_bestVariant_4 : decode cX4_bestVariant 4 = .ok (.iload_n 2, 1) := by decide +kernel
theorem dX4_bestVariant_5 : decode cX4_bestVariant 5 = .ok (.iconst 4, 1) := by decide +kernel
theorem dX4_bestVariant_6 : decode cX4_bestVariant 6 = .ok (.if_icmp .ge 38, 3) := by decide +kernel
theorem dX4_bestVariant_9 : decode cX4_bestVariant 9 = .ok (.aload_n 0, 1) := by decide +kernel
theorem dX4_bestVariant_10 : decode cX4_bestVariant 10 = .ok (.iload_n 2, 1) := by decide +kernel
theorem dX4_bestVariant_11 : decode cX4_bestVariant 11 = .ok (.invokevirtual 33, 3) := by decide +kernel
theorem dX4_bestVariant_14 : decode cX4_bestVariant 14 = .ok (.ifCond .le 24, 3) := by decide +kernel
theorem dX4_bestVariant_17 : decode cX4_bestVariant 17 = .ok (.iload_n 1, 1) := by decide +kernel
theorem dX4_bestVariant_18 : decode cX4_bestVariant 18 = .ok (.iconst (-1), 1) := by decide +kernel
theorem dX4_bestVariant_19 : decode cX4_bestVariant 19 = .ok (.if_icmp .eq 17, 3) := by decide +kernel
theorem dX4_bestVariant_22 : decode cX4_bestVariant 22 = .ok (.aload_n 0, 1) := by decide +kernel
theorem dX4_bestVariant_23 : decode cX4_bestVariant 23 = .ok (.iload_n 2, 1) := by decide +kernel
theorem dX4_bestVariant_24 : decode cX4_bestVariant 24 = .ok (.invokevirtual 40, 3) := by decide +kernel
theorem dX4_bestVariant_27 : decode cX4_bestVariant 27 = .ok (.aload_n 0, 1) := by decide +kernel
theorem dX4_bestVariant_28 : decode cX4_bestVariant 28 = .ok (.iload_n 1, 1) := by decide +kernel
theorem dX4_bestVariant_29 : decode cX4_bestVariant 29 = .ok (.invokevirtual 40, 3) := by decide +kernel
theorem dX4_bestVariant_32 : decode cX4_bestVariant 32 = .ok (.dcmp .l, 1) := by decide +kernel
theorem dX4_bestVariant_33 : decode cX4_bestVariant 33 = .ok (.ifCond .le 5, 3) := by decide +kernel
theorem dX4_bestVariant_36 : decode cX4_bestVariant 36 = .ok (.iload_n 2, 1) := by decide +kernel
theorem dX4_bestVariant_37 : decode cX4_bestVariant 37 = .ok (.istore_n 1, 1) := by decide +kernel
theorem dX4_bestVariant_38 : decode cX4_bestVariant 38 = .ok (.iinc 2 1, 3) := by decide +kernel
theorem dX4_bestVariant_41 : decode cX4_bestVariant 41 = .ok (.goto (-37), 3) := by decide +kernel
theorem dX4_bestVariant_44 : decode cX4_bestVariant 44 = .ok (.iload_n 1, 1) := by decide +kernel
theorem dX4_bestVariant_45 : decode cX4_bestVariant 45 = .ok (.ireturn, 1) := by decide +kernel
theorem dX5_init_0 : decode cX5_init 0 = .ok (.aload_n 0, 1) := by decide +kernel
theorem dX5_init_1 : decode cX5_init 1 = .ok (.invokespecial 1, 3) := by decide +kernel
theorem dX5_init_4 : decode cX5_init 4 = .ok (.aload_n 0, 1) := by decide +kernel
theorem dX5_init_5 : decode cX5_init 5 = .ok (.bipush 8, 2) := by decide +kernel
theorem dX5_init_7 : decode cX5_init 7 = .ok (.anewarray 9, 3) := by decide +kernel
theorem dX5_init_10 : decode cX5_init 10 = .ok (.putfield 11, 3) := by decide +kernel
theorem dX5_init_13 : decode cX5_init 13 = .ok (.aload_n 0, 1) := by decide +kernel
theorem dX5_init_14 : decode cX5_init 14 = .ok (.new 15, 3) := by decide +kernel
theorem dX5_init_17 : decode cX5_init 17 = .ok (.dup, 1) := by decide +kernel
theorem dX5_init_18 : decode cX5_init 18 = .ok (.invokespecial 17, 3) := by decide +kernel
theorem dX5_init_21 : decode cX5_init 21 = .ok (.putfield 18, 3) := by decide +kernel
theorem dX5_init_24 : decode cX5_init 24 = .ok (.return_, 1) := by decide +kernel
theorem dX5_add_0 : decode cX5_add 0 = .ok (.iload_n 1, 1) := by decide +kernel
theorem dX5_add_1 : decode cX5_add 1 = .ok (.iconst 0, 1) := by decide +kernel
theorem dX5_add_2 : decode cX5_add 2 = .ok (.sipush 498, 3) := by decide +kernel
theorem dX5_add_5 : decode cX5_add 5 = .ok (.invokestatic 22, 3) := by decide +kernel
theorem dX5_add_8 : decode cX5_add 8 = .ok (.ifCond .ne 12, 3) := by decide +kernel
theorem dX5_add_11 : decode cX5_add 11 = .ok (.iload_n 2, 1) := by decide +kernel
theorem dX5_add_12 : decode cX5_add 12 = .ok (.iconst 2, 1) := by decide +kernel
theorem dX5_add_13 : decode cX5_add 13 = .ok (.iconst 4, 1) := by decide +kernel
theorem dX5_add_14 : decode cX5_add 14 = .ok (.invokestatic 22, 3) := by decide +kernel
theorem dX5_add_17 : decode cX5_add 17 = .ok (.ifCond .eq 13, 3) := by decide +kernel
theorem dX5_add_20 : decode cX5_add 20 = .ok (.new 26, 3) := by decide +kernel
theorem dX5_add_23 : decode cX5_add 23 = .ok (.dup, 1) := by decide +kernel
theorem dX5_add_24 : decode cX5_add 24 = .ok (.ldc 28, 2) := by decide +kernel
theorem dX5_add_26 : decode cX5_add 26 = .ok (.invokespecial 30, 3) := by decide +kernel
theorem dX5_add_29 : decode cX5_add 29 = .ok (.athrow, 1) := by decide +kernel
theorem dX5_add_30 : decode cX5_add 30 = .ok (.aload_n 0, 1) := by decide +kernel
theorem dX5_add_31 : decode cX5_add 31 = .ok (.getfield 33, 3) := by decide +kernel
theorem dX5_add_34 : decode cX5_add 34 = .ok (.istore 4, 2) := by decide +kernel
theorem dX5_add_36 : decode cX5_add 36 = .ok (.iload 4, 2) := by decide +kernel
theorem dX5_add_38 : decode cX5_add 38 = .ok (.ifCond .lt 13, 3) := by decide +kernel
theorem dX5_add_41 : decode cX5_add 41 = .ok (.iload 4, 2) := by decide +kernel
theorem dX5_add_43 : decode cX5_add 43 = .ok (.aload_n 0, 1) := by decide +kernel
theorem dX5_add_44 : decode cX5_add 44 = .ok (.getfield 11, 3) := by decide +kernel
theorem dX5_add_47 : decode cX5_add 47 = .ok (.arraylength, 1) := by decide +kernel
theorem dX5_add_48 : decode cX5_add 48 = .ok (.if_icmp .lt 13, 3) := by decide +kernel
theorem dX5_add_51 : decode cX5_add 51 = .ok (.new 37, 3) := by decide +kernel
theorem dX5_add_54 : decode cX5_add 54 = .ok (.dup, 1) := by decide +kernel
theorem dX5_add_55 : decode cX5_add 55 = .ok (.ldc 39, 2) := by decide +kernel
theorem dX5_add_57 : decode cX5_add 57 = .ok (.invokespecial 41, 3) := by decide +kernel
theorem dX5_add_60 : decode cX5_add 60 = .ok (.athrow, 1) := by decide +kernel
theorem dX5_add_61 : decode cX5_add 61 = .ok (.aload_n 0, 1) := by decide +kernel
theorem dX5_add_62 : decode cX5_add 62 = .ok (.getfield 11, 3) := by decide +kernel
theorem dX5_add_65 : decode cX5_add 65 = .ok (.iload 4, 2) := by decide +kernel
theorem dX5_add_67 : decode cX5_add 67 = .ok (.new 9, 3) := by decide +kernel
theorem dX5_add_70 : decode cX5_add 70 = .ok (.dup, 1) := by decide +kernel
theorem dX5_add_71 : decode cX5_add 71 = .ok (.iload 4, 2) := by decide +kernel
theorem dX5_add_73 : decode cX5_add 73 = .ok (.iload_n 1, 1) := by decide +kernel
theorem dX5_add_74 : decode cX5_add 74 = .ok (.iload_n 2, 1) := by decide +kernel
theorem dX5_add_75 : decode cX5_add 75 = .ok (.iload_n 3, 1) := by decide +kernel
theorem dX5_add_76 : decode cX5_add 76 = .ok (.invokespecial 42, 3) := by decide +kernel
theorem dX5_add_79 : decode cX5_add 79 = .ok (.aastore, 1) := by decide +kernel
theorem dX5_add_80 : decode cX5_add 80 = .ok (.aload_n 0, 1) := by decide +kernel
theorem dX5_add_81 : decode cX5_add 81 = .ok (.iload 4, 2) := by decide +kernel
theorem dX5_add_83 : decode cX5_add 83 = .ok (.iconst 1, 1) := by decide +kernel
theorem dX5_add_84 : decode cX5_add 84 = .ok (.iadd, 1) := by decide +kernel
theorem dX5_add_85 : decode cX5_add 85 = .ok (.putfield 33, 3) := by decide +kernel
theorem dX5_add_88 : decode cX5_add 88 = .ok (.iload 4, 2) := by decide +kernel
theorem dX5_add_90 : decode cX5_add 90 = .ok (.ireturn, 1) := by decide +kernel
theorem dX5_weigh_0 : decode cX5_weigh 0 = .ok (.aload_n 0, 1) := by decide +kernel
theorem dX5_weigh_1 : decode cX5_weigh 1 = .ok (.iload_n 1, 1) := by decide +kernel
theorem dX5_weigh_2 : decode cX5_weigh 2 = .ok (.invokevirtual 45, 3) := by decide +kernel
theorem dX5_weigh_5 : decode cX5_weigh 5 = .ok (.astore 4, 2) := by decide +kernel
theorem dX5_weigh_7 : decode cX5_weigh 7 = .ok (.aload 4, 2) := by decide +kernel
theorem dX5_weigh_9 : decode cX5_weigh 9 = .ok (.iload_n 2, 1) := by decide +kernel
theorem dX5_weigh_10 : decode cX5_weigh 10 = .ok (.invokestatic 49, 3) := by decide +kernel
theorem dX5_weigh_13 : decode cX5_weigh 13 = .ok (.aload 4, 2) := by decide +kernel
theorem dX5_weigh_15 : decode cX5_weigh 15 = .ok (.iconst 0, 1) := by decide +kernel
theorem dX5_weigh_16 : decode cX5_weigh 16 = .ok (.invokevirtual 53, 3) := by decide +kernel
theorem dX5_weigh_19 : decode cX5_weigh 19 = .ok (.aload 4, 2) := by decide +kernel
theorem dX5_weigh_21 : decode cX5_weigh 21 = .ok (.iload_n 2, 1) := by decide +kernel
theorem dX5_weigh_22 : decode cX5_weigh 22 = .ok (.invokevirtual 53, 3) := by decide +kernel
theorem dX5_weigh_25 : decode cX5_weigh 25 = .ok (.iadd, 1) := by decide +kernel
theorem dX5_weigh_26 : decode cX5_weigh 26 = .ok (.iload_n 3, 1) := by decide +kernel
theorem dX5_weigh_27 : decode cX5_weigh 27 = .ok (.isub, 1) := by decide +kernel
theorem dX5_weigh_28 : decode cX5_weigh 28 = .ok (.istore 5, 2) := by decide +kernel
theorem dX5_weigh_30 : decode cX5_weigh 30 = .ok (.iload_n 2, 1) := by decide +kernel
theorem dX5_weigh_31 : decode cX5_weigh 31 = .ok (.ifCond .eq 19, 3) := by decide +kernel
theorem dX5_weigh_34 : decode cX5_weigh 34 = .ok (.iload_n 3, 1) := by decide +kernel
theorem dX5_weigh_35 : decode cX5_weigh 35 = .ok (.iconst 0, 1) := by decide +kernel
theorem dX5_weigh_36 : decode cX5_weigh 36 = .ok (.sipush 1000, 3) := by decide +kernel
theorem dX5_weigh_39 : decode cX5_weigh 39 = .ok (.invokestatic 22, 3) := by decide +kernel
theorem dX5_weigh_42 : decode cX5_weigh 42 = .ok (.ifCond .ne 8, 3) := by decide +kernel
theorem dX5_weigh_45 : decode cX5_weigh 45 = .ok (.iload 5, 2) := by decide +kernel
theorem dX5_weigh_47 : decode cX5_weigh 47 = .ok (.ifCond .ge 13, 3) := by decide +kernel
theorem dX5_weigh_50 : decode cX5_weigh 50 = .ok (.new 26, 3) := by decide +kernel
theorem dX5_weigh_53 : decode cX5_weigh 53 = .ok (.dup, 1) := by decide +kernel
theorem dX5_weigh_54 : decode cX5_weigh 54 = .ok (.ldc 57, 2) := by decide +kernel
theorem dX5_weigh_56 : decode cX5_weigh 56 = .ok (.invokespecial 30, 3) := by decide +kernel
theorem dX5_weigh_59 : decode cX5_weigh 59 = .ok (.athrow, 1) := by decide +kernel
theorem dX5_weigh_60 : decode cX5_weigh 60 = .ok (.aload 4, 2) := by decide +kernel
theorem dX5_weigh_62 : decode cX5_weigh 62 = .ok (.iload_n 2, 1) := by decide +kernel
theorem dX5_weigh_63 : decode cX5_weigh 63 = .ok (.iload_n 3, 1) := by decide +kernel
theorem dX5_weigh_64 : decode cX5_weigh 64 = .ok (.invokevirtual 59, 3) := by decide +kernel
theorem dX5_weigh_67 : decode cX5_weigh 67 = .ok (.aload 4, 2) := by decide +kernel
theorem dX5_weigh_69 : decode cX5_weigh 69 = .ok (.iconst 0, 1) := by decide +kernel
theorem dX5_weigh_70 : decode cX5_weigh 70 = .ok (.iload 5, 2) := by decide +kernel
theorem dX5_weigh_72 : decode cX5_weigh 72 = .ok (.invokevirtual 59, 3) := by decide +kernel
theorem dX5_weigh_75 : decode cX5_weigh 75 = .ok (.iload 5, 2) := by decide +kernel
theorem dX5_weigh_77 : decode cX5_weigh 77 = .ok (.ireturn, 1) := by decide +kernel
theorem dX5_turn_0 : decode cX5_turn 0 = .ok (.aload_n 0, 1) := by decide +kernel
theorem dX5_turn_1 : decode cX5_turn 1 = .ok (.iload_n 1, 1) := by decide +kernel
theorem dX5_turn_2 : decode cX5_turn 2 = .ok (.invokevirtual 45, 3) := by decide +kernel
theorem dX5_turn_5 : decode cX5_turn 5 = .ok (.astore_n 3, 1) := by decide +kernel
theorem dX5_turn_6 : decode cX5_turn 6 = .ok (.aload_n 3, 1) := by decide +kernel
theorem dX5_turn_7 : decode cX5_turn 7 = .ok (.getfield 63, 3) := by decide +kernel
theorem dX5_turn_10 : decode cX5_turn 10 = .ok (.istore 4, 2) := by decide +kernel
theorem dX5_turn_12 : decode cX5_turn 12 = .ok (.aload_n 3, 1) := by decide +kernel
theorem dX5_turn_13 : decode cX5_turn 13 = .ok (.iload_n 2, 1) := by decide +kernel
theorem dX5_turn_14 : decode cX5_turn 14 = .ok (.putfield 63, 3) := by decide +kernel
theorem dX5_turn_17 : decode cX5_turn 17 = .ok (.iload 4, 2) := by decide +kernel
theorem dX5_turn_19 : decode cX5_turn 19 = .ok (.ireturn, 1) := by decide +kernel
theorem dX5_ramp_0 : decode cX5_ramp 0 = .ok (.aload_n 0, 1) := by decide +kernel
theorem dX5_ramp_1 : decode cX5_ramp 1 = .ok (.iload_n 1, 1) := by decide +kernel
theorem dX5_ramp_2 : decode cX5_ramp 2 = .ok (.invokevirtual 45, 3) := by decide +kernel
theorem dX5_ramp_5 : decode cX5_ramp 5 = .ok (.astore 4, 2) := by decide +kernel
theorem dX5_ramp_7 : decode cX5_ramp 7 = .ok (.iload_n 2, 1) := by decide +kernel
theorem dX5_ramp_8 : decode cX5_ramp 8 = .ok (.iconst 0, 1) := by decide +kernel
theorem dX5_ramp_9 : decode cX5_ramp 9 = .ok (.sipush 1000, 3) := by decide +kernel
theorem dX5_ramp_12 : decode cX5_ramp 12 = .ok (.invokestatic 22, 3) := by decide +kernel
theorem dX5_ramp_15 : decode cX5_ramp 15 = .ok (.ifCond .ne 14, 3) := by decide +kernel
theorem dX5_ramp_18 : decode cX5_ramp 18 = .ok (.iload_n 3, 1) := by decide +kernel
theorem dX5_ramp_19 : decode cX5_ramp 19 = .ok (.iconst 0, 1) := by decide +kernel
theorem dX5_ramp_20 : decode cX5_ramp 20 = .ok (.sipush 1000, 3) := by decide +kernel
theorem dX5_ramp_23 : decode cX5_ramp 23 = .ok (.invokestatic 22, 3) := by decide +kernel
theorem dX5_ramp_26 : decode cX5_ramp 26 = .ok (.ifCond .eq 13, 3) := by decide +kernel
theorem dX5_ramp_29 : decode cX5_ramp 29 = .ok (.new 26, 3) := by decide +kernel
theorem dX5_ramp_32 : decode cX5_ramp 32 = .ok (.dup, 1) := by decide +kernel
theorem dX5_ramp_33 : decode cX5_ramp 33 = .ok (.ldc 67, 2) := by decide +kernel
theorem dX5_ramp_35 : decode cX5_ramp 35 = .ok (.invokespecial 30, 3) := by decide +kernel
theorem dX5_ramp_38 : decode cX5_ramp 38 = .ok (.athrow, 1) := by decide +kernel
theorem dX5_ramp_39 : decode cX5_ramp 39 = .ok (.aload 4, 2) := by decide +kernel
theorem dX5_ramp_41 : decode cX5_ramp 41 = .ok (.aload_n 0, 1) := by decide +kernel
theorem dX5_ramp_42 : decode cX5_ramp 42 = .ok (.getfield 69, 3) := by decide +kernel
theorem dX5_ramp_45 : decode cX5_ramp 45 = .ok (.invokevirtual 72, 3) := by decide +kernel
theorem dX5_ramp_48 : decode cX5_ramp 48 = .ok (.istore 5, 2) := by decide +kernel
theorem dX5_ramp_50 : decode cX5_ramp 50 = .ok (.aload 4, 2) := by decide +kernel
theorem dX5_ramp_52 : decode cX5_ramp 52 = .ok (.iload_n 2, 1) := by decide +kernel
theorem dX5_ramp_53 : decode cX5_ramp 53 = .ok (.iload_n 3, 1) := by decide +kernel
theorem dX5_ramp_54 : decode cX5_ramp 54 = .ok (.aload_n 0, 1) := by decide +kernel
theorem dX5_ramp_55 : decode cX5_ramp 55 = .ok (.getfield 69, 3) := by decide +kernel
theorem dX5_ramp_58 : decode cX5_ramp 58 = .ok (.invokevirtual 75, 3) := by decide +kernel
theorem dX5_ramp_61 : decode cX5_ramp 61 = .ok (.iload 5, 2) := by decide +kernel
theorem dX5_ramp_63 : decode cX5_ramp 63 = .ok (.ireturn, 1) := by decide +kernel
theorem dX5_place_0 : decode cX5_place 0 = .ok (.aload_n 0, 1) := by decide +kernel
theorem dX5_place_1 : decode cX5_place 1 = .ok (.iload_n 1, 1) := by decide +kernel
theorem dX5_place_2 : decode cX5_place 2 = .ok (.invokevirtual 45, 3) := by decide +kernel
theorem dX5_place_5 : decode cX5_place 5 = .ok (.astore 5, 2) := by decide +kernel
theorem dX5_place_7 : decode cX5_place 7 = .ok (.iload_n 2, 1) := by decide +kernel
theorem dX5_place_8 : decode cX5_place 8 = .ok (.iconst (-1), 1) := by decide +kernel
theorem dX5_place_9 : decode cX5_place 9 = .ok (.if_icmp .eq 32, 3) := by decide +kernel
theorem dX5_place_12 : decode cX5_place 12 = .ok (.iload_n 2, 1) := by decide +kernel
theorem dX5_place_13 : decode cX5_place 13 = .ok (.iload_n 3, 1) := by decide +kernel
theorem dX5_place_14 : decode cX5_place 14 = .ok (.iload 4, 2) := by decide +kernel
theorem dX5_place_16 : decode cX5_place 16 = .ok (.invokestatic 79, 3) := by decide +kernel
theorem dX5_place_19 : decode cX5_place 19 = .ok (.aload_n 0, 1) := by decide +kernel
theorem dX5_place_20 : decode cX5_place 20 = .ok (.iload_n 1, 1) := by decide +kernel
theorem dX5_place_21 : decode cX5_place 21 = .ok (.iload_n 2, 1) := by decide +kernel
theorem dX5_place_22 : decode cX5_place 22 = .ok (.iload_n 3, 1) := by decide +kernel
theorem dX5_place_23 : decode cX5_place 23 = .ok (.iload 4, 2) := by decide +kernel
theorem dX5_place_25 : decode cX5_place 25 = .ok (.invokevirtual 82, 3) := by decide +kernel
theorem dX5_place_28 : decode cX5_place 28 = .ok (.ifCond .eq 13, 3) := by decide +kernel
theorem dX5_place_31 : decode cX5_place 31 = .ok (.new 37, 3) := by decide +kernel
theorem dX5_place_34 : decode cX5_place 34 = .ok (.dup, 1) := by decide +kernel
theorem dX5_place_35 : decode cX5_place 35 = .ok (.ldc 86, 2) := by decide +kernel
theorem dX5_place_37 : decode cX5_place 37 = .ok (.invokespecial 41, 3) := by decide +kernel
theorem dX5_place_40 : decode cX5_place 40 = .ok (.athrow, 1) := by decide +kernel
theorem dX5_place_41 : decode cX5_place 41 = .ok (.aload 5, 2) := by decide +kernel
theorem dX5_place_43 : decode cX5_place 43 = .ok (.getfield 88, 3) := by decide +kernel
theorem dX5_place_46 : decode cX5_place 46 = .ok (.istore 6, 2) := by decide +kernel
theorem dX5_place_48 : decode cX5_place 48 = .ok (.aload 5, 2) := by decide +kernel
theorem dX5_place_50 : decode cX5_place 50 = .ok (.iload_n 2, 1) := by decide +kernel
theorem dX5_place_51 : decode cX5_place 51 = .ok (.putfield 88, 3) := by decide +kernel
theorem dX5_place_54 : decode cX5_place 54 = .ok (.aload 5, 2) := by decide +kernel
theorem dX5_place_56 : decode cX5_place 56 = .ok (.iload_n 2, 1) := by decide +kernel
theorem dX5_place_57 : decode cX5_place 57 = .ok (.iconst (-1), 1) := by decide +kernel
theorem dX5_place_58 : decode cX5_place 58 = .ok (.if_icmp .ne 7, 3) := by decide +kernel
theorem dX5_place_61 : decode cX5_place 61 = .ok (.iconst 0, 1) := by decide +kernel
theorem dX5_place_62 : decode cX5_place 62 = .ok (.goto 4, 3) := by decide +kernel
theorem dX5_place_65 : decode cX5_place 65 = .ok (.iload_n 3, 1) := by decide +kernel
theorem dX5_place_66 : decode cX5_place 66 = .ok (.putfield 91, 3) := by decide +kernel
theorem dX5_place_69 : decode cX5_place 69 = .ok (.aload 5, 2) := by decide +kernel
theorem dX5_place_71 : decode cX5_place 71 = .ok (.iload_n 2, 1) := by decide +kernel
theorem dX5_place_72 : decode cX5_place 72 = .ok (.iconst (-1), 1) := by decide +kernel
theorem dX5_place_73 : decode cX5_place 73 = .ok (.if_icmp .ne 7, 3) := by decide +kernel
theorem dX5_place_76 : decode cX5_place 76 = .ok (.iconst 0, 1) := by decide +kernel
theorem dX5_place_77 : decode cX5_place 77 = .ok (.goto 5, 3) := by decide +kernel
theorem dX5_place_80 : decode cX5_place 80 = .ok (.iload 4, 2) := by decide +kernel
theorem dX5_place_82 : decode cX5_place 82 = .ok (.putfield 94, 3) := by decide +kernel
theorem dX5_place_85 : decode cX5_place 85 = .ok (.iload 6, 2) := by decide +kernel
theorem dX5_place_87 : decode cX5_place 87 = .ok (.ireturn, 1) := by decide +kernel
theorem dX5_need_0 : decode cX5_need 0 = .ok (.aload_n 0, 1) := by decide +kernel
theorem dX5_need_1 : decode cX5_need 1 = .ok (.iload_n 1, 1) := by decide +kernel
theorem dX5_need_2 : decode cX5_need 2 = .ok (.invokevirtual 45, 3) := by decide +kernel
theorem dX5_need_5 : decode cX5_need 5 = .ok (.astore 4, 2) := by decide +kernel
theorem dX5_need_7 : decode cX5_need 7 = .ok (.iload_n 2, 1) := by decide +kernel
theorem dX5_need_8 : decode cX5_need 8 = .ok (.iconst (-1), 1) := by decide +kernel
theorem dX5_need_9 : decode cX5_need 9 = .ok (.if_icmp .eq 27, 3) := by decide +kernel
theorem dX5_need_12 : decode cX5_need 12 = .ok (.aload_n 0, 1) := by decide +kernel
theorem dX5_need_13 : decode cX5_need 13 = .ok (.iload_n 2, 1) := by decide +kernel
theorem dX5_need_14 : decode cX5_need 14 = .ok (.invokevirtual 45, 3) := by decide +kernel
theorem dX5_need_17 : decode cX5_need 17 = .ok (.iload_n 3, 1) := by decide +kernel
theorem dX5_need_18 : decode cX5_need 18 = .ok (.invokestatic 49, 3) := by decide +kernel
theorem dX5_need_21 : decode cX5_need 21 = .ok (.iload_n 2, 1) := by decide +kernel
theorem dX5_need_22 : decode cX5_need 22 = .ok (.iload_n 1, 1) := by decide +kernel
theorem dX5_need_23 : decode cX5_need 23 = .ok (.if_icmp .lt 13, 3) := by decide +kernel
theorem dX5_need_26 : decode cX5_need 26 = .ok (.new 26, 3) := by decide +kernel
theorem dX5_need_29 : decode cX5_need 29 = .ok (.dup, 1) := by decide +kernel
theorem dX5_need_30 : decode cX5_need 30 = .ok (.ldc 97, 2) := by decide +kernel
theorem dX5_need_32 : decode cX5_need 32 = .ok (.invokespecial 30, 3) := by decide +kernel
theorem dX5_need_35 : decode cX5_need 35 = .ok (.athrow, 1) := by decide +kernel
theorem dX5_need_36 : decode cX5_need 36 = .ok (.aload 4, 2) := by decide +kernel
theorem dX5_need_38 : decode cX5_need 38 = .ok (.getfield 99, 3) := by decide +kernel
theorem dX5_need_41 : decode cX5_need 41 = .ok (.istore 5, 2) := by decide +kernel
theorem dX5_need_43 : decode cX5_need 43 = .ok (.aload 4, 2) := by decide +kernel
theorem dX5_need_45 : decode cX5_need 45 = .ok (.iload_n 2, 1) := by decide +kernel
theorem dX5_need_46 : decode cX5_need 46 = .ok (.putfield 99, 3) := by decide +kernel
theorem dX5_need_49 : decode cX5_need 49 = .ok (.aload 4, 2) := by decide +kernel
theorem dX5_need_51 : decode cX5_need 51 = .ok (.iload_n 3, 1) := by decide +kernel
theorem dX5_need_52 : decode cX5_need 52 = .ok (.putfield 102, 3) := by decide +kernel
theorem dX5_need_55 : decode cX5_need 55 = .ok (.iload 5, 2) := by decide +kernel
theorem dX5_need_57 : decode cX5_need 57 = .ok (.ireturn, 1) := by decide +kernel
theorem dX5_rule_0 : decode cX5_rule 0 = .ok (.aload_n 0, 1) := by decide +kernel
theorem dX5_rule_1 : decode cX5_rule 1 = .ok (.iload_n 1, 1) := by decide +kernel
theorem dX5_rule_2 : decode cX5_rule 2 = .ok (.invokevirtual 45, 3) := by decide +kernel
theorem dX5_rule_5 : decode cX5_rule 5 = .ok (.astore 6, 2) := by decide +kernel
theorem dX5_rule_7 : decode cX5_rule 7 = .ok (.iload 5, 2) := by decide +kernel
theorem dX5_rule_9 : decode cX5_rule 9 = .ok (.iconst (-1), 1) := by decide +kernel
theorem dX5_rule_10 : decode cX5_rule 10 = .ok (.if_icmp .eq 10, 3) := by decide +kernel
theorem dX5_rule_13 : decode cX5_rule 13 = .ok (.aload 6, 2) := by decide +kernel
theorem dX5_rule_15 : decode cX5_rule 15 = .ok (.iload 5, 2) := by decide +kernel
theorem dX5_rule_17 : decode cX5_rule 17 = .ok (.invokestatic 49, 3) := by decide +kernel
theorem dX5_rule_20 : decode cX5_rule 20 = .ok (.iload_n 2, 1) := by decide +kernel
theorem dX5_rule_21 : decode cX5_rule 21 = .ok (.iconst 0, 1) := by decide +kernel
theorem dX5_rule_22 : decode cX5_rule 22 = .ok (.iconst 1, 1) := by decide +kernel
theorem dX5_rule_23 : decode cX5_rule 23 = .ok (.invokestatic 22, 3) := by decide +kernel
theorem dX5_rule_26 : decode cX5_rule 26 = .ok (.ifCond .ne 23, 3) := by decide +kernel
theorem dX5_rule_29 : decode cX5_rule 29 = .ok (.iload_n 3, 1) := by decide +kernel
theorem dX5_rule_30 : decode cX5_rule 30 = .ok (.iconst 1, 1) := by decide +kernel
theorem dX5_rule_31 : decode cX5_rule 31 = .ok (.iconst 3, 1) := by decide +kernel
theorem dX5_rule_32 : decode cX5_rule 32 = .ok (.invokestatic 22, 3) := by decide +kernel
theorem dX5_rule_35 : decode cX5_rule 35 = .ok (.ifCond .ne 14, 3) := by decide +kernel
theorem dX5_rule_38 : decode cX5_rule 38 = .ok (.iload 4, 2) := by decide +kernel
theorem dX5_rule_40 : decode cX5_rule 40 = .ok (.iconst 0, 1) := by decide +kernel
theorem dX5_rule_41 : decode cX5_rule 41 = .ok (.bipush 9, 2) := by decide +kernel
theorem dX5_rule_43 : decode cX5_rule 43 = .ok (.invokestatic 22, 3) := by decide +kernel
theorem dX5_rule_46 : decode cX5_rule 46 = .ok (.ifCond .eq 13, 3) := by decide +kernel
theorem dX5_rule_49 : decode cX5_rule 49 = .ok (.new 26, 3) := by decide +kernel
theorem dX5_rule_52 : decode cX5_rule 52 = .ok (.dup, 1) := by decide +kernel
theorem dX5_rule_53 : decode cX5_rule 53 = .ok (.ldc 105, 2) := by decide +kernel
theorem dX5_rule_55 : decode cX5_rule 55 = .ok (.invokespecial 30, 3) := by decide +kernel
theorem dX5_rule_58 : decode cX5_rule 58 = .ok (.athrow, 1) := by decide +kernel
theorem dX5_rule_59 : decode cX5_rule 59 = .ok (.aload 6, 2) := by decide +kernel
theorem dX5_rule_61 : decode cX5_rule 61 = .ok (.getfield 107, 3) := by decide +kernel
theorem dX5_rule_64 : decode cX5_rule 64 = .ok (.iconst 5, 1) := by decide +kernel
theorem dX5_rule_65 : decode cX5_rule 65 = .ok (.if_icmp .lt 13, 3) := by decide +kernel
theorem dX5_rule_68 : decode cX5_rule 68 = .ok (.new 37, 3) := by decide +kernel
theorem dX5_rule_71 : decode cX5_rule 71 = .ok (.dup, 1) := by decide +kernel
theorem dX5_rule_72 : decode cX5_rule 72 = .ok (.ldc 110, 2) := by decide +kernel
theorem dX5_rule_74 : decode cX5_rule 74 = .ok (.invokespecial 41, 3) := by decide +kernel
theorem dX5_rule_77 : decode cX5_rule 77 = .ok (.athrow, 1) := by decide +kernel
theorem dX5_rule_78 : decode cX5_rule 78 = .ok (.aload 6, 2) := by decide +kernel
theorem dX5_rule_80 : decode cX5_rule 80 = .ok (.new 112, 3) := by decide +kernel
theorem dX5_rule_83 : decode cX5_rule 83 = .ok (.dup, 1) := by decide +kernel
theorem dX5_rule_84 : decode cX5_rule 84 = .ok (.iload_n 2, 1) := by decide +kernel
theorem dX5_rule_85 : decode cX5_rule 85 = .ok (.iload_n 3, 1) := by decide +kernel
theorem dX5_rule_86 : decode cX5_rule 86 = .ok (.iload 4, 2) := by decide +kernel
theorem dX5_rule_88 : decode cX5_rule 88 = .ok (.iload 5, 2) := by decide +kernel
theorem dX5_rule_90 : decode cX5_rule 90 = .ok (.invokespecial 114, 3) := by decide +kernel
theorem dX5_rule_93 : decode cX5_rule 93 = .ok (.invokevirtual 117, 3) := by decide +kernel
theorem dX5_rule_96 : decode cX5_rule 96 = .ok (.aload 6, 2) := by decide +kernel
theorem dX5_rule_98 : decode cX5_rule 98 = .ok (.getfield 107, 3) := by decide +kernel
theorem dX5_rule_101 : decode cX5_rule 101 = .ok (.ireturn, 1) := by decide +kernel
theorem dX5_unrule_0 : decode cX5_unrule 0 = .ok (.aload_n 0, 1) := by decide +kernel
theorem dX5_unrule_1 : decode cX5_unrule 1 = .ok (.iload_n 1, 1) := by decide +kernel
theorem dX5_unrule_2 : decode cX5_unrule 2 = .ok (.invokevirtual 45, 3) := by decide +kernel
theorem dX5_unrule_5 : decode cX5_unrule 5 = .ok (.astore_n 3, 1) := by decide +kernel
theorem dX5_unrule_6 : decode cX5_unrule 6 = .ok (.iload_n 2, 1) := by decide +kernel
theorem dX5_unrule_7 : decode cX5_unrule 7 = .ok (.iconst 0, 1) := by decide +kernel
theorem dX5_unrule_8 : decode cX5_unrule 8 = .ok (.aload_n 3, 1) := by decide +kernel
theorem dX5_unrule_9 : decode cX5_unrule 9 = .ok (.getfield 107, 3) := by decide +kernel
theorem dX5_unrule_12 : decode cX5_unrule 12 = .ok (.iconst 1, 1) := by decide +kernel
theorem dX5_unrule_13 : decode cX5_unrule 13 = .ok (.isub, 1) := by decide +kernel
theorem dX5_unrule_14 : decode cX5_unrule 14 = .ok (.invokestatic 22, 3) := by decide +kernel
theorem dX5_unrule_17 : decode cX5_unrule 17 = .ok (.ifCond .eq 13, 3) := by decide +kernel
theorem dX5_unrule_20 : decode cX5_unrule 20 = .ok (.new 121, 3) := by decide +kernel
theorem dX5_unrule_23 : decode cX5_unrule 23 = .ok (.dup, 1) := by decide +kernel
theorem dX5_unrule_24 : decode cX5_unrule 24 = .ok (.ldc 123, 2) := by decide +kernel
theorem dX5_unrule_26 : decode cX5_unrule 26 = .ok (.invokespecial 125, 3) := by decide +kernel
theorem dX5_unrule_29 : decode cX5_unrule 29 = .ok (.athrow, 1) := by decide +kernel
theorem dX5_unrule_30 : decode cX5_unrule 30 = .ok (.aload_n 3, 1) := by decide +kernel
theorem dX5_unrule_31 : decode cX5_unrule 31 = .ok (.iload_n 2, 1) := by decide +kernel
theorem dX5_unrule_32 : decode cX5_unrule 32 = .ok (.invokevirtual 126, 3) := by decide +kernel
theorem dX5_unrule_35 : decode cX5_unrule 35 = .ok (.aload_n 3, 1) := by decide +kernel
theorem dX5_unrule_36 : decode cX5_unrule 36 = .ok (.getfield 107, 3) := by decide +kernel
theorem dX5_unrule_39 : decode cX5_unrule 39 = .ok (.ireturn, 1) := by decide +kernel
theorem dX5_hold_0 : decode cX5_hold 0 = .ok (.iload_n 1, 1) := by decide +kernel
theorem dX5_hold_1 : decode cX5_hold 1 = .ok (.iconst 0, 1) := by decide +kernel
theorem dX5_hold_2 : decode cX5_hold 2 = .ok (.sipush 1000, 3) := by decide +kernel
theorem dX5_hold_5 : decode cX5_hold 5 = .ok (.invokestatic 22, 3) := by decide +kernel
theorem dX5_hold_8 : decode cX5_hold 8 = .ok (.ifCond .eq 13, 3) := by decide +kernel
theorem dX5_hold_11 : decode cX5_hold 11 = .ok (.new 26, 3) := by decide +kernel
theorem dX5_hold_14 : decode cX5_hold 14 = .ok (.dup, 1) := by decide +kernel
theorem dX5_hold_15 : decode cX5_hold 15 = .ok (.ldc 130, 2) := by decide +kernel
theorem dX5_hold_17 : decode cX5_hold 17 = .ok (.invokespecial 30, 3) := by decide +kernel
theorem dX5_hold_20 : decode cX5_hold 20 = .ok (.athrow, 1) := by decide +kernel
theorem dX5_hold_21 : decode cX5_hold 21 = .ok (.aload_n 0, 1) := by decide +kernel
theorem dX5_hold_22 : decode cX5_hold 22 = .ok (.getfield 132, 3) := by decide +kernel
theorem dX5_hold_25 : decode cX5_hold 25 = .ok (.istore_n 2, 1) := by decide +kernel
theorem dX5_hold_26 : decode cX5_hold 26 = .ok (.aload_n 0, 1) := by decide +kernel
theorem dX5_hold_27 : decode cX5_hold 27 = .ok (.iload_n 1, 1) := by decide +kernel
theorem dX5_hold_28 : decode cX5_hold 28 = .ok (.putfield 132, 3) := by decide +kernel
theorem dX5_hold_31 : decode cX5_hold 31 = .ok (.iload_n 2, 1) := by decide +kernel
theorem dX5_hold_32 : decode cX5_hold 32 = .ok (.ireturn, 1) := by decide +kernel
theorem dX5_goOn_0 : decode cX5_goOn 0 = .ok (.iload_n 1, 1) := by decide +kernel
theorem dX5_goOn_1 : decode cX5_goOn 1 = .ok (.iconst 1, 1) := by decide +kernel
theorem dX5_goOn_2 : decode cX5_goOn 2 = .ok (.bipush 100, 2) := by decide +kernel
theorem dX5_goOn_4 : decode cX5_goOn 4 = .ok (.invokestatic 22, 3) := by decide +kernel
theorem dX5_goOn_7 : decode cX5_goOn 7 = .ok (.ifCond .eq 13, 3) := by decide +kernel
theorem dX5_goOn_10 : decode cX5_goOn 10 = .ok (.new 26, 3) := by decide +kernel
theorem dX5_goOn_13 : decode cX5_goOn 13 = .ok (.dup, 1) := by decide +kernel
theorem dX5_goOn_14 : decode cX5_goOn 14 = .ok (.ldc 135, 2) := by decide +kernel
theorem dX5_goOn_16 : decode cX5_goOn 16 = .ok (.invokespecial 30, 3) := by decide +kernel
theorem dX5_goOn_19 : decode cX5_goOn 19 = .ok (.athrow, 1) := by decide +kernel
theorem dX5_goOn_20 : decode cX5_goOn 20 = .ok (.aload_n 0, 1) := by decide +kernel
theorem dX5_goOn_21 : decode cX5_goOn 21 = .ok (.dup, 1) := by decide +kernel
theorem dX5_goOn_22 : decode cX5_goOn 22 = .ok (.getfield 69, 3) := by decide +kernel
theorem dX5_goOn_25 : decode cX5_goOn 25 = .ok (.iload_n 1, 1) := by decide +kernel
theorem dX5_goOn_26 : decode cX5_goOn 26 = .ok (.iadd, 1) := by decide +kernel
theorem dX5_goOn_27 : decode cX5_goOn 27 = .ok (.putfield 69, 3) := by decide +kernel
theorem dX5_goOn_30 : decode cX5_goOn 30 = .ok (.aload_n 0, 1) := by decide +kernel
theorem dX5_goOn_31 : decode cX5_goOn 31 = .ok (.getfield 69, 3) := by decide +kernel
theorem dX5_goOn_34 : decode cX5_goOn 34 = .ok (.ireturn, 1) := by decide +kernel
theorem dX5_switches_0 : decode cX5_switches 0 = .ok (.aload_n 0, 1) := by decide +kernel
theorem dX5_switches_1 : decode cX5_switches 1 = .ok (.getfield 33, 3) := by decide +kernel
theorem dX5_switches_4 : decode cX5_switches 4 = .ok (.ireturn, 1) := by decide +kernel
theorem dX5_weight_0 : decode cX5_weight 0 = .ok (.aload_n 0, 1) := by decide +kernel
theorem dX5_weight_1 : decode cX5_weight 1 = .ok (.iload_n 1, 1) := by decide +kernel
theorem dX5_weight_2 : decode cX5_weight 2 = .ok (.invokevirtual 45, 3) := by decide +kernel
theorem dX5_weight_5 : decode cX5_weight 5 = .ok (.astore_n 3, 1) := by decide +kernel
theorem dX5_weight_6 : decode cX5_weight 6 = .ok (.aload_n 3, 1) := by decide +kernel
theorem dX5_weight_7 : decode cX5_weight 7 = .ok (.iload_n 2, 1) := by decide +kernel
theorem dX5_weight_8 : decode cX5_weight 8 = .ok (.invokestatic 49, 3) := by decide +kernel
theorem dX5_weight_11 : decode cX5_weight 11 = .ok (.aload_n 3, 1) := by decide +kernel
theorem dX5_weight_12 : decode cX5_weight 12 = .ok (.iload_n 2, 1) := by decide +kernel
theorem dX5_weight_13 : decode cX5_weight 13 = .ok (.invokevirtual 53, 3) := by decide +kernel
theorem dX5_weight_16 : decode cX5_weight 16 = .ok (.ireturn, 1) := by decide +kernel
theorem dX5_share_0 : decode cX5_share 0 = .ok (.aload_n 0, 1) := by decide +kernel
theorem dX5_share_1 : decode cX5_share 1 = .ok (.iload_n 1, 1) := by decide +kernel
theorem dX5_share_2 : decode cX5_share 2 = .ok (.invokevirtual 45, 3) := by decide +kernel
theorem dX5_share_5 : decode cX5_share 5 = .ok (.aload_n 0, 1) := by decide +kernel
theorem dX5_share_6 : decode cX5_share 6 = .ok (.getfield 69, 3) := by decide +kernel
theorem dX5_share_9 : decode cX5_share 9 = .ok (.invokevirtual 72, 3) := by decide +kernel
theorem dX5_share_12 : decode cX5_share 12 = .ok (.ireturn, 1) := by decide +kernel
theorem dX5_left_0 : decode cX5_left 0 = .ok (.iload_n 1, 1) := by decide +kernel
theorem dX5_left_1 : decode cX5_left 1 = .ok (.iconst 0, 1) := by decide +kernel
theorem dX5_left_2 : decode cX5_left 2 = .ok (.iconst 2, 1) := by decide +kernel
theorem dX5_left_3 : decode cX5_left 3 = .ok (.invokestatic 22, 3) := by decide +kernel
theorem dX5_left_6 : decode cX5_left 6 = .ok (.ifCond .eq 13, 3) := by decide +kernel
theorem dX5_left_9 : decode cX5_left 9 = .ok (.new 121, 3) := by decide +kernel
theorem dX5_left_12 : decode cX5_left 12 = .ok (.dup, 1) := by decide +kernel
theorem dX5_left_13 : decode cX5_left 13 = .ok (.ldc 137, 2) := by decide +kernel
theorem dX5_left_15 : decode cX5_left 15 = .ok (.invokespecial 125, 3) := by decide +kernel
theorem dX5_left_18 : decode cX5_left 18 = .ok (.athrow, 1) := by decide +kernel
theorem dX5_left_19 : decode cX5_left 19 = .ok (.sipush 1000, 3) := by decide +kernel
theorem dX5_left_22 : decode cX5_left 22 = .ok (.istore_n 2, 1) := by decide +kernel
theorem dX5_left_23 : decode cX5_left 23 = .ok (.aload_n 0, 1) := by decide +kernel
theorem dX5_left_24 : decode cX5_left 24 = .ok (.getfield 11, 3) := by decide +kernel
theorem dX5_left_27 : decode cX5_left 27 = .ok (.astore_n 3, 1) := by decide +kernel
theorem dX5_left_28 : decode cX5_left 28 = .ok (.aload_n 3, 1) := by decide +kernel
theorem dX5_left_29 : decode cX5_left 29 = .ok (.arraylength, 1) := by decide +kernel
theorem dX5_left_30 : decode cX5_left 30 = .ok (.istore 4, 2) := by decide +kernel
theorem dX5_left_32 : decode cX5_left 32 = .ok (.iconst 0, 1) := by decide +kernel
theorem dX5_left_33 : decode cX5_left 33 = .ok (.istore 5, 2) := by decide +kernel
theorem dX5_left_35 : decode cX5_left 35 = .ok (.iload 5, 2) := by decide +kernel
theorem dX5_left_37 : decode cX5_left 37 = .ok (.iload 4, 2) := by decide +kernel
theorem dX5_left_39 : decode cX5_left 39 = .ok (.if_icmp .ge 43, 3) := by decide +kernel
theorem dX5_left_42 : decode cX5_left 42 = .ok (.aload_n 3, 1) := by decide +kernel
theorem dX5_left_43 : decode cX5_left 43 = .ok (.iload 5, 2) := by decide +kernel
theorem dX5_left_45 : decode cX5_left 45 = .ok (.aaload, 1) := by decide +kernel
theorem dX5_left_46 : decode cX5_left 46 = .ok (.astore 6, 2) := by decide +kernel
theorem dX5_left_48 : decode cX5_left 48 = .ok (.aload 6, 2) := by decide +kernel
theorem dX5_left_50 : decode cX5_left 50 = .ok (.ifnull 26, 3) := by decide +kernel
theorem dX5_left_53 : decode cX5_left 53 = .ok (.aload 6, 2) := by decide +kernel
theorem dX5_left_55 : decode cX5_left 55 = .ok (.getfield 88, 3) := by decide +kernel
theorem dX5_left_58 : decode cX5_left 58 = .ok (.iload_n 1, 1) := by decide +kernel
theorem dX5_left_59 : decode cX5_left 59 = .ok (.if_icmp .ne 17, 3) := by decide +kernel
theorem dX5_left_62 : decode cX5_left 62 = .ok (.iload_n 2, 1) := by decide +kernel
theorem dX5_left_63 : decode cX5_left 63 = .ok (.aload 6, 2) := by decide +kernel
theorem dX5_left_65 : decode cX5_left 65 = .ok (.getfield 94, 3) := by decide +kernel
theorem dX5_left_68 : decode cX5_left 68 = .ok (.aload 6, 2) := by decide +kernel
theorem dX5_left_70 : decode cX5_left 70 = .ok (.getfield 91, 3) := by decide +kernel
theorem dX5_left_73 : decode cX5_left 73 = .ok (.isub, 1) := by decide +kernel
theorem dX5_left_74 : decode cX5_left 74 = .ok (.isub, 1) := by decide +kernel
theorem dX5_left_75 : decode cX5_left 75 = .ok (.istore_n 2, 1) := by decide +kernel
theorem dX5_left_76 : decode cX5_left 76 = .ok (.iinc 5 1, 3) := by decide +kernel
theorem dX5_left_79 : decode cX5_left 79 = .ok (.goto (-44), 3) := by decide +kernel
theorem dX5_left_82 : decode cX5_left 82 = .ok (.iload_n 2, 1) := by decide +kernel
theorem dX5_left_83 : decode cX5_left 83 = .ok (.ireturn, 1) := by decide +kernel
theorem dX5_bucket_0 : decode cX5_bucket 0 = .ok (.iload_n 1, 1) := by decide +kernel
theorem dX5_bucket_1 : decode cX5_bucket 1 = .ok (.iconst 0, 1) := by decide +kernel
theorem dX5_bucket_2 : decode cX5_bucket 2 = .ok (.sipush 999, 3) := by decide +kernel
theorem dX5_bucket_5 : decode cX5_bucket 5 = .ok (.invokestatic 22, 3) := by decide +kernel
theorem dX5_bucket_8 : decode cX5_bucket 8 = .ok (.ifCond .ne 14, 3) := by decide +kernel
theorem dX5_bucket_11 : decode cX5_bucket 11 = .ok (.iload_n 2, 1) := by decide +kernel
theorem dX5_bucket_12 : decode cX5_bucket 12 = .ok (.iconst 0, 1) := by decide +kernel
theorem dX5_bucket_13 : decode cX5_bucket 13 = .ok (.sipush 9999, 3) := by decide +kernel
theorem dX5_bucket_16 : decode cX5_bucket 16 = .ok (.invokestatic 22, 3) := by decide +kernel
theorem dX5_bucket_19 : decode cX5_bucket 19 = .ok (.ifCond .eq 13, 3) := by decide +kernel
theorem dX5_bucket_22 : decode cX5_bucket 22 = .ok (.new 26, 3) := by decide +kernel
theorem dX5_bucket_25 : decode cX5_bucket 25 = .ok (.dup, 1) := by decide +kernel
theorem dX5_bucket_26 : decode cX5_bucket 26 = .ok (.ldc 139, 2) := by decide +kernel
theorem dX5_bucket_28 : decode cX5_bucket 28 = .ok (.invokespecial 30, 3) := by decide +kernel
theorem dX5_bucket_31 : decode cX5_bucket 31 = .ok (.athrow, 1) := by decide +kernel
theorem dX5_bucket_32 : decode cX5_bucket 32 = .ok (.iload_n 1, 1) := by decide +kernel
theorem dX5_bucket_33 : decode cX5_bucket 33 = .ok (.iload_n 2, 1) := by decide +kernel
theorem dX5_bucket_34 : decode cX5_bucket 34 = .ok (.invokestatic 141, 3) := by decide +kernel
theorem dX5_bucket_37 : decode cX5_bucket 37 = .ok (.ireturn, 1) := by decide +kernel
theorem dX5_gets_0 : decode cX5_gets 0 = .ok (.aload_n 0, 1) := by decide +kernel
theorem dX5_gets_1 : decode cX5_gets 1 = .ok (.iload_n 1, 1) := by decide +kernel
theorem dX5_gets_2 : decode cX5_gets 2 = .ok (.invokevirtual 45, 3) := by decide +kernel
theorem dX5_gets_5 : decode cX5_gets 5 = .ok (.astore 5, 2) := by decide +kernel
theorem dX5_gets_7 : decode cX5_gets 7 = .ok (.iload_n 2, 1) := by decide +kernel
theorem dX5_gets_8 : decode cX5_gets 8 = .ok (.iload_n 3, 1) := by decide +kernel
theorem dX5_gets_9 : decode cX5_gets 9 = .ok (.iload 4, 2) := by decide +kernel
theorem dX5_gets_11 : decode cX5_gets 11 = .ok (.invokestatic 145, 3) := by decide +kernel
theorem dX5_gets_14 : decode cX5_gets 14 = .ok (.aload_n 0, 1) := by decide +kernel
theorem dX5_gets_15 : decode cX5_gets 15 = .ok (.getfield 18, 3) := by decide +kernel
theorem dX5_gets_18 : decode cX5_gets 18 = .ok (.iload_n 2, 1) := by decide +kernel
theorem dX5_gets_19 : decode cX5_gets 19 = .ok (.iload_n 3, 1) := by decide +kernel
theorem dX5_gets_20 : decode cX5_gets 20 = .ok (.iload 4, 2) := by decide +kernel
theorem dX5_gets_22 : decode cX5_gets 22 = .ok (.invokevirtual 148, 3) := by decide +kernel
theorem dX5_gets_25 : decode cX5_gets 25 = .ok (.aload_n 0, 1) := by decide +kernel
theorem dX5_gets_26 : decode cX5_gets 26 = .ok (.aload 5, 2) := by decide +kernel
theorem dX5_gets_28 : decode cX5_gets 28 = .ok (.invokevirtual 151, 3) := by decide +kernel
theorem dX5_gets_31 : decode cX5_gets 31 = .ok (.ireturn, 1) := by decide +kernel
theorem dX5_why_0 : decode cX5_why 0 = .ok (.aload_n 0, 1) := by decide +kernel
theorem dX5_why_1 : decode cX5_why 1 = .ok (.iload_n 1, 1) := by decide +kernel
theorem dX5_why_2 : decode cX5_why 2 = .ok (.invokevirtual 45, 3) := by decide +kernel
theorem dX5_why_5 : decode cX5_why 5 = .ok (.astore 5, 2) := by decide +kernel
theorem dX5_why_7 : decode cX5_why 7 = .ok (.iload_n 2, 1) := by decide +kernel
theorem dX5_why_8 : decode cX5_why 8 = .ok (.iload_n 3, 1) := by decide +kernel
theorem dX5_why_9 : decode cX5_why 9 = .ok (.iload 4, 2) := by decide +kernel
theorem dX5_why_11 : decode cX5_why 11 = .ok (.invokestatic 145, 3) := by decide +kernel
theorem dX5_why_14 : decode cX5_why 14 = .ok (.aload_n 0, 1) := by decide +kernel
theorem dX5_why_15 : decode cX5_why 15 = .ok (.getfield 18, 3) := by decide +kernel
theorem dX5_why_18 : decode cX5_why 18 = .ok (.iload_n 2, 1) := by decide +kernel
theorem dX5_why_19 : decode cX5_why 19 = .ok (.iload_n 3, 1) := by decide +kernel
theorem dX5_why_20 : decode cX5_why 20 = .ok (.iload 4, 2) := by decide +kernel
theorem dX5_why_22 : decode cX5_why 22 = .ok (.invokevirtual 148, 3) := by decide +kernel
theorem dX5_why_25 : decode cX5_why 25 = .ok (.aload_n 0, 1) := by decide +kernel
theorem dX5_why_26 : decode cX5_why 26 = .ok (.aload 5, 2) := by decide +kernel
theorem dX5_why_28 : decode cX5_why 28 = .ok (.invokevirtual 155, 3) := by decide +kernel
theorem dX5_why_31 : decode cX5_why 31 = .ok (.ireturn, 1) := by decide +kernel
theorem dX5_holds_0 : decode cX5_holds 0 = .ok (.aload_n 0, 1) := by decide +kernel
theorem dX5_holds_1 : decode cX5_holds 1 = .ok (.iload_n 1, 1) := by decide +kernel
theorem dX5_holds_2 : decode cX5_holds 2 = .ok (.invokevirtual 45, 3) := by decide +kernel
theorem dX5_holds_5 : decode cX5_holds 5 = .ok (.astore 5, 2) := by decide +kernel
theorem dX5_holds_7 : decode cX5_holds 7 = .ok (.iload_n 2, 1) := by decide +kernel
theorem dX5_holds_8 : decode cX5_holds 8 = .ok (.iload_n 3, 1) := by decide +kernel
theorem dX5_holds_9 : decode cX5_holds 9 = .ok (.iload 4, 2) := by decide +kernel
theorem dX5_holds_11 : decode cX5_holds 11 = .ok (.invokestatic 145, 3) := by decide +kernel
theorem dX5_holds_14 : decode cX5_holds 14 = .ok (.aload 5, 2) := by decide +kernel
theorem dX5_holds_16 : decode cX5_holds 16 = .ok (.iload_n 3, 1) := by decide +kernel
theorem dX5_holds_17 : decode cX5_holds 17 = .ok (.iload 4, 2) := by decide +kernel
theorem dX5_holds_19 : decode cX5_holds 19 = .ok (.invokevirtual 158, 3) := by decide +kernel
theorem dX5_holds_22 : decode cX5_holds 22 = .ok (.ireturn, 1) := by decide +kernel
theorem dX5_ask_0 : decode cX5_ask 0 = .ok (.aload_n 0, 1) := by decide +kernel
theorem dX5_ask_1 : decode cX5_ask 1 = .ok (.iload_n 1, 1) := by decide +kernel
theorem dX5_ask_2 : decode cX5_ask 2 = .ok (.invokevirtual 45, 3) := by decide +kernel
theorem dX5_ask_5 : decode cX5_ask 5 = .ok (.astore 5, 2) := by decide +kernel
theorem dX5_ask_7 : decode cX5_ask 7 = .ok (.iload_n 2, 1) := by decide +kernel
theorem dX5_ask_8 : decode cX5_ask 8 = .ok (.iload_n 3, 1) := by decide +kernel
theorem dX5_ask_9 : decode cX5_ask 9 = .ok (.iload 4, 2) := by decide +kernel
theorem dX5_ask_11 : decode cX5_ask 11 = .ok (.invokestatic 145, 3) := by decide +kernel
theorem dX5_ask_14 : decode cX5_ask 14 = .ok (.aload_n 0, 1) := by decide +kernel
theorem dX5_ask_15 : decode cX5_ask 15 = .ok (.getfield 18, 3) := by decide +kernel
theorem dX5_ask_18 : decode cX5_ask 18 = .ok (.iload_n 2, 1) := by decide +kernel
theorem dX5_ask_19 : decode cX5_ask 19 = .ok (.iload_n 3, 1) := by decide +kernel
theorem dX5_ask_20 : decode cX5_ask 20 = .ok (.iload 4, 2) := by decide +kernel
theorem dX5_ask_22 : decode cX5_ask 22 = .ok (.invokevirtual 148, 3) := by decide +kernel
theorem dX5_ask_25 : decode cX5_ask 25 = .ok (.aload_n 0, 1) := by decide +kernel
theorem dX5_ask_26 : decode cX5_ask 26 = .ok (.aload 5, 2) := by decide +kernel
theorem dX5_ask_28 : decode cX5_ask 28 = .ok (.invokevirtual 155, 3) := by decide +kernel
theorem dX5_ask_31 : decode cX5_ask 31 = .ok (.istore 6, 2) := by decide +kernel
theorem dX5_ask_33 : decode cX5_ask 33 = .ok (.aload_n 0, 1) := by decide +kernel
theorem dX5_ask_34 : decode cX5_ask 34 = .ok (.aload 5, 2) := by decide +kernel
theorem dX5_ask_36 : decode cX5_ask 36 = .ok (.iload 6, 2) := by decide +kernel
theorem dX5_ask_38 : decode cX5_ask 38 = .ok (.invokevirtual 161, 3) := by decide +kernel
theorem dX5_ask_41 : decode cX5_ask 41 = .ok (.istore 7, 2) := by decide +kernel
theorem dX5_ask_43 : decode cX5_ask 43 = .ok (.iload 6, 2) := by decide +kernel
theorem dX5_ask_45 : decode cX5_ask 45 = .ok (.bipush 8, 2) := by decide +kernel
theorem dX5_ask_47 : decode cX5_ask 47 = .ok (.if_icmp .ne 39, 3) := by decide +kernel
theorem dX5_ask_50 : decode cX5_ask 50 = .ok (.aload_n 0, 1) := by decide +kernel
theorem dX5_ask_51 : decode cX5_ask 51 = .ok (.getfield 165, 3) := by decide +kernel
theorem dX5_ask_54 : decode cX5_ask 54 = .ok (.bipush 100, 2) := by decide +kernel
theorem dX5_ask_56 : decode cX5_ask 56 = .ok (.if_icmp .ge 30, 3) := by decide +kernel
theorem dX5_ask_59 : decode cX5_ask 59 = .ok (.aload 5, 2) := by decide +kernel
theorem dX5_ask_61 : decode cX5_ask 61 = .ok (.iload_n 2, 1) := by decide +kernel
theorem dX5_ask_62 : decode cX5_ask 62 = .ok (.invokevirtual 168, 3) := by decide +kernel
theorem dX5_ask_65 : decode cX5_ask 65 = .ok (.ifnonnull 21, 3) := by decide +kernel
theorem dX5_ask_68 : decode cX5_ask 68 = .ok (.aload 5, 2) := by decide +kernel
theorem dX5_ask_70 : decode cX5_ask 70 = .ok (.iload_n 2, 1) := by decide +kernel
theorem dX5_ask_71 : decode cX5_ask 71 = .ok (.iload 7, 2) := by decide +kernel
theorem dX5_ask_73 : decode cX5_ask 73 = .ok (.invokevirtual 172, 3) := by decide +kernel
theorem dX5_ask_76 : decode cX5_ask 76 = .ok (.aload_n 0, 1) := by decide +kernel
theorem dX5_ask_77 : decode cX5_ask 77 = .ok (.dup, 1) := by decide +kernel
theorem dX5_ask_78 : decode cX5_ask 78 = .ok (.getfield 165, 3) := by decide +kernel
theorem dX5_ask_81 : decode cX5_ask 81 = .ok (.iconst 1, 1) := by decide +kernel
theorem dX5_ask_82 : decode cX5_ask 82 = .ok (.iadd, 1) := by decide +kernel
theorem dX5_ask_83 : decode cX5_ask 83 = .ok (.putfield 165, 3) := by decide +kernel
theorem dX5_ask_86 : decode cX5_ask 86 = .ok (.iload 7, 2) := by decide +kernel
theorem dX5_ask_88 : decode cX5_ask 88 = .ok (.ireturn, 1) := by decide +kernel
theorem dX5_act_0 : decode cX5_act 0 = .ok (.iload_n 1, 1) := by decide +kernel
theorem dX5_act_1 : decode cX5_act 1 = .ok (.iconst 0, 1) := by decide +kernel
theorem dX5_act_2 : decode cX5_act 2 = .ok (.sipush 9999, 3) := by decide +kernel
theorem dX5_act_5 : decode cX5_act 5 = .ok (.invokestatic 22, 3) := by decide +kernel
theorem dX5_act_8 : decode cX5_act 8 = .ok (.ifCond .ne 13, 3) := by decide +kernel
theorem dX5_act_11 : decode cX5_act 11 = .ok (.iload_n 2, 1) := by decide +kernel
theorem dX5_act_12 : decode cX5_act 12 = .ok (.iconst 0, 1) := by decide +kernel
theorem dX5_act_13 : decode cX5_act 13 = .ok (.bipush 100, 2) := by decide +kernel
theorem dX5_act_15 : decode cX5_act 15 = .ok (.invokestatic 22, 3) := by decide +kernel
theorem dX5_act_18 : decode cX5_act 18 = .ok (.ifCond .eq 13, 3) := by decide +kernel
theorem dX5_act_21 : decode cX5_act 21 = .ok (.new 26, 3) := by decide +kernel
theorem dX5_act_24 : decode cX5_act 24 = .ok (.dup, 1) := by decide +kernel
theorem dX5_act_25 : decode cX5_act 25 = .ok (.ldc 175, 2) := by decide +kernel
theorem dX5_act_27 : decode cX5_act 27 = .ok (.invokespecial 30, 3) := by decide +kernel
theorem dX5_act_30 : decode cX5_act 30 = .ok (.athrow, 1) := by decide +kernel
theorem dX5_act_31 : decode cX5_act 31 = .ok (.iconst 0, 1) := by decide +kernel
theorem dX5_act_32 : decode cX5_act 32 = .ok (.istore_n 3, 1) := by decide +kernel
theorem dX5_act_33 : decode cX5_act 33 = .ok (.aload_n 0, 1) := by decide +kernel
theorem dX5_act_34 : decode cX5_act 34 = .ok (.getfield 11, 3) := by decide +kernel
theorem dX5_act_37 : decode cX5_act 37 = .ok (.astore 4, 2) := by decide +kernel
theorem dX5_act_39 : decode cX5_act 39 = .ok (.aload 4, 2) := by decide +kernel
theorem dX5_act_41 : decode cX5_act 41 = .ok (.arraylength, 1) := by decide +kernel
theorem dX5_act_42 : decode cX5_act 42 = .ok (.istore 5, 2) := by decide +kernel
theorem dX5_act_44 : decode cX5_act 44 = .ok (.iconst 0, 1) := by decide +kernel
theorem dX5_act_45 : decode cX5_act 45 = .ok (.istore 6, 2) := by decide +kernel
theorem dX5_act_47 : decode cX5_act 47 = .ok (.iload 6, 2) := by decide +kernel
theorem dX5_act_49 : decode cX5_act 49 = .ok (.iload 5, 2) := by decide +kernel
theorem dX5_act_51 : decode cX5_act 51 = .ok (.if_icmp .ge 34, 3) := by decide +kernel
theorem dX5_act_54 : decode cX5_act 54 = .ok (.aload 4, 2) := by decide +kernel
theorem dX5_act_56 : decode cX5_act 56 = .ok (.iload 6, 2) := by decide +kernel
theorem dX5_act_58 : decode cX5_act 58 = .ok (.aaload, 1) := by decide +kernel
theorem dX5_act_59 : decode cX5_act 59 = .ok (.astore 7, 2) := by decide +kernel
theorem dX5_act_61 : decode cX5_act 61 = .ok (.aload 7, 2) := by decide +kernel
theorem dX5_act_63 : decode cX5_act 63 = .ok (.ifnull 16, 3) := by decide +kernel
theorem dX5_act_66 : decode cX5_act 66 = .ok (.aload 7, 2) := by decide +kernel
theorem dX5_act_68 : decode cX5_act 68 = .ok (.iload_n 1, 1) := by decide +kernel
theorem dX5_act_69 : decode cX5_act 69 = .ok (.iload_n 2, 1) := by decide +kernel
theorem dX5_act_70 : decode cX5_act 70 = .ok (.invokevirtual 177, 3) := by decide +kernel
theorem dX5_act_73 : decode cX5_act 73 = .ok (.ifCond .eq 6, 3) := by decide +kernel
theorem dX5_act_76 : decode cX5_act 76 = .ok (.iinc 3 1, 3) := by decide +kernel
theorem dX5_act_79 : decode cX5_act 79 = .ok (.iinc 6 1, 3) := by decide +kernel
theorem dX5_act_82 : decode cX5_act 82 = .ok (.goto (-35), 3) := by decide +kernel
theorem dX5_act_85 : decode cX5_act 85 = .ok (.iload_n 3, 1) := by decide +kernel
theorem dX5_act_86 : decode cX5_act 86 = .ok (.ireturn, 1) := by decide +kernel
theorem dX5_arm_0 : decode cX5_arm 0 = .ok (.aload_n 0, 1) := by decide +kernel
theorem dX5_arm_1 : decode cX5_arm 1 = .ok (.iload_n 1, 1) := by decide +kernel
theorem dX5_arm_2 : decode cX5_arm 2 = .ok (.invokevirtual 45, 3) := by decide +kernel
theorem dX5_arm_5 : decode cX5_arm 5 = .ok (.astore_n 3, 1) := by decide +kernel
theorem dX5_arm_6 : decode cX5_arm 6 = .ok (.iload_n 2, 1) := by decide +kernel
theorem dX5_arm_7 : decode cX5_arm 7 = .ok (.iconst 0, 1) := by decide +kernel
theorem dX5_arm_8 : decode cX5_arm 8 = .ok (.sipush 9999, 3) := by decide +kernel
theorem dX5_arm_11 : decode cX5_arm 11 = .ok (.invokestatic 22, 3) := by decide +kernel
theorem dX5_arm_14 : decode cX5_arm 14 = .ok (.ifCond .eq 13, 3) := by decide +kernel
theorem dX5_arm_17 : decode cX5_arm 17 = .ok (.new 26, 3) := by decide +kernel
theorem dX5_arm_20 : decode cX5_arm 20 = .ok (.dup, 1) := by decide +kernel
theorem dX5_arm_21 : decode cX5_arm 21 = .ok (.ldc 181, 2) := by decide +kernel
theorem dX5_arm_23 : decode cX5_arm 23 = .ok (.invokespecial 30, 3) := by decide +kernel
theorem dX5_arm_26 : decode cX5_arm 26 = .ok (.athrow, 1) := by decide +kernel
theorem dX5_arm_27 : decode cX5_arm 27 = .ok (.aload_n 3, 1) := by decide +kernel
theorem dX5_arm_28 : decode cX5_arm 28 = .ok (.iload_n 2, 1) := by decide +kernel
theorem dX5_arm_29 : decode cX5_arm 29 = .ok (.invokevirtual 168, 3) := by decide +kernel
theorem dX5_arm_32 : decode cX5_arm 32 = .ok (.astore 4, 2) := by decide +kernel
theorem dX5_arm_34 : decode cX5_arm 34 = .ok (.aload 4, 2) := by decide +kernel
theorem dX5_arm_36 : decode cX5_arm 36 = .ok (.ifnonnull 7, 3) := by decide +kernel
theorem dX5_arm_39 : decode cX5_arm 39 = .ok (.iconst (-1), 1) := by decide +kernel
theorem dX5_arm_40 : decode cX5_arm 40 = .ok (.goto 8, 3) := by decide +kernel
theorem dX5_arm_43 : decode cX5_arm 43 = .ok (.aload 4, 2) := by decide +kernel
theorem dX5_arm_45 : decode cX5_arm 45 = .ok (.getfield 183, 3) := by decide +kernel
theorem dX5_arm_48 : decode cX5_arm 48 = .ok (.ireturn, 1) := by decide +kernel
theorem dX5_arms_0 : decode cX5_arms 0 = .ok (.aload_n 0, 1) := by decide +kernel
theorem dX5_arms_1 : decode cX5_arms 1 = .ok (.getfield 165, 3) := by decide +kernel
theorem dX5_arms_4 : decode cX5_arms 4 = .ok (.ireturn, 1) := by decide +kernel
theorem dX5_told_0 : decode cX5_told 0 = .ok (.aload_n 0, 1) := by decide +kernel
theorem dX5_told_1 : decode cX5_told 1 = .ok (.iload_n 1, 1) := by decide +kernel
theorem dX5_told_2 : decode cX5_told 2 = .ok (.invokevirtual 45, 3) := by decide +kernel
theorem dX5_told_5 : decode cX5_told 5 = .ok (.astore 4, 2) := by decide +kernel
theorem dX5_told_7 : decode cX5_told 7 = .ok (.aload 4, 2) := by decide +kernel
theorem dX5_told_9 : decode cX5_told 9 = .ok (.iload_n 2, 1) := by decide +kernel
theorem dX5_told_10 : decode cX5_told 10 = .ok (.invokestatic 49, 3) := by decide +kernel
theorem dX5_told_13 : decode cX5_told 13 = .ok (.iload_n 3, 1) := by decide +kernel
theorem dX5_told_14 : decode cX5_told 14 = .ok (.tableswitch 71 0 3 #[30, 40, 50, 60], 30) := by decide +kernel
theorem dX5_told_44 : decode cX5_told 44 = .ok (.aload 4, 2) := by decide +kernel
theorem dX5_told_46 : decode cX5_told 46 = .ok (.getfield 188, 3) := by decide +kernel
theorem dX5_told_49 : decode cX5_told 49 = .ok (.iload_n 2, 1) := by decide +kernel
theorem dX5_told_50 : decode cX5_told 50 = .ok (.invokevirtual 192, 3) := by decide +kernel
theorem dX5_told_53 : decode cX5_told 53 = .ok (.ireturn, 1) := by decide +kernel
theorem dX5_told_54 : decode cX5_told 54 = .ok (.aload 4, 2) := by decide +kernel
theorem dX5_told_56 : decode cX5_told 56 = .ok (.getfield 188, 3) := by decide +kernel
theorem dX5_told_59 : decode cX5_told 59 = .ok (.iload_n 2, 1) := by decide +kernel
theorem dX5_told_60 : decode cX5_told 60 = .ok (.invokevirtual 197, 3) := by decide +kernel
theorem dX5_told_63 : decode cX5_told 63 = .ok (.ireturn, 1) := by decide +kernel
theorem dX5_told_64 : decode cX5_told 64 = .ok (.aload 4, 2) := by decide +kernel
theorem dX5_told_66 : decode cX5_told 66 = .ok (.getfield 188, 3) := by decide +kernel
theorem dX5_told_69 : decode cX5_told 69 = .ok (.iload_n 2, 1) := by decide +kernel
theorem dX5_told_70 : decode cX5_told 70 = .ok (.invokevirtual 200, 3) := by decide +kernel
theorem dX5_told_73 : decode cX5_told 73 = .ok (.ireturn, 1) := by decide +kernel
theorem dX5_told_74 : decode cX5_told 74 = .ok (.aload 4, 2) := by decide +kernel
theorem dX5_told_76 : decode cX5_told 76 = .ok (.getfield 188, 3) := by decide +kernel
theorem dX5_told_79 : decode cX5_told 79 = .ok (.iload_n 2, 1) := by decide +kernel
theorem dX5_told_80 : decode cX5_told 80 = .ok (.invokevirtual 203, 3) := by decide +kernel
theorem dX5_told_83 : decode cX5_told 83 = .ok (.l2i, 1) := by decide +kernel
theorem dX5_told_84 : decode cX5_told 84 = .ok (.ireturn, 1) := by decide +kernel
theorem dX5_told_85 : decode cX5_told 85 = .ok (.new 26, 3) := by decide +kernel
theorem dX5_told_88 : decode cX5_told 88 = .ok (.dup, 1) := by decide +kernel
theorem dX5_told_89 : decode cX5_told 89 = .ok (.ldc 207, 2) := by decide +kernel
theorem dX5_told_91 : decode cX5_told 91 = .ok (.invokespecial 30, 3) := by decide +kernel
theorem dX5_told_94 : decode cX5_told 94 = .ok (.athrow, 1) := by decide +kernel
theorem dX5_mean_0 : decode cX5_mean 0 = .ok (.aload_n 0, 1) := by decide +kernel
theorem dX5_mean_1 : decode cX5_mean 1 = .ok (.iload_n 1, 1) := by decide +kernel
theorem dX5_mean_2 : decode cX5_mean 2 = .ok (.invokevirtual 45, 3) := by decide +kernel
theorem dX5_mean_5 : decode cX5_mean 5 = .ok (.astore_n 3, 1) := by decide +kernel
theorem dX5_mean_6 : decode cX5_mean 6 = .ok (.aload_n 3, 1) := by decide +kernel
theorem dX5_mean_7 : decode cX5_mean 7 = .ok (.iload_n 2, 1) := by decide +kernel
theorem dX5_mean_8 : decode cX5_mean 8 = .ok (.invokestatic 49, 3) := by decide +kernel
theorem dX5_mean_11 : decode cX5_mean 11 = .ok (.aload_n 3, 1) := by decide +kernel
theorem dX5_mean_12 : decode cX5_mean 12 = .ok (.getfield 188, 3) := by decide +kernel
theorem dX5_mean_15 : decode cX5_mean 15 = .ok (.iload_n 2, 1) := by decide +kernel
theorem dX5_mean_16 : decode cX5_mean 16 = .ok (.invokevirtual 209, 3) := by decide +kernel
theorem dX5_mean_19 : decode cX5_mean 19 = .ok (.dreturn, 1) := by decide +kernel
theorem dX5_lift_0 : decode cX5_lift 0 = .ok (.aload_n 0, 1) := by decide +kernel
theorem dX5_lift_1 : decode cX5_lift 1 = .ok (.iload_n 1, 1) := by decide +kernel
theorem dX5_lift_2 : decode cX5_lift 2 = .ok (.invokevirtual 45, 3) := by decide +kernel
theorem dX5_lift_5 : decode cX5_lift 5 = .ok (.astore_n 3, 1) := by decide +kernel
theorem dX5_lift_6 : decode cX5_lift 6 = .ok (.aload_n 3, 1) := by decide +kernel
theorem dX5_lift_7 : decode cX5_lift 7 = .ok (.iload_n 2, 1) := by decide +kernel
theorem dX5_lift_8 : decode cX5_lift 8 = .ok (.invokestatic 49, 3) := by decide +kernel
theorem dX5_lift_11 : decode cX5_lift 11 = .ok (.aload_n 3, 1) := by decide +kernel
theorem dX5_lift_12 : decode cX5_lift 12 = .ok (.getfield 188, 3) := by decide +kernel
theorem dX5_lift_15 : decode cX5_lift 15 = .ok (.iload_n 2, 1) := by decide +kernel
theorem dX5_lift_16 : decode cX5_lift 16 = .ok (.invokevirtual 213, 3) := by decide +kernel
theorem dX5_lift_19 : decode cX5_lift 19 = .ok (.dreturn, 1) := by decide +kernel
theorem dX5_sure_0 : decode cX5_sure 0 = .ok (.aload_n 0, 1) := by decide +kernel
theorem dX5_sure_1 : decode cX5_sure 1 = .ok (.iload_n 1, 1) := by decide +kernel
theorem dX5_sure_2 : decode cX5_sure 2 = .ok (.invokevirtual 45, 3) := by decide +kernel
theorem dX5_sure_5 : decode cX5_sure 5 = .ok (.astore_n 3, 1) := by decide +kernel
theorem dX5_sure_6 : decode cX5_sure 6 = .ok (.aload_n 3, 1) := by decide +kernel
theorem dX5_sure_7 : decode cX5_sure 7 = .ok (.iload_n 2, 1) := by decide +kernel
theorem dX5_sure_8 : decode cX5_sure 8 = .ok (.invokestatic 49, 3) := by decide +kernel
theorem dX5_sure_11 : decode cX5_sure 11 = .ok (.aload_n 3, 1) := by decide +kernel
theorem dX5_sure_12 : decode cX5_sure 12 = .ok (.getfield 188, 3) := by decide +kernel
theorem dX5_sure_15 : decode cX5_sure 15 = .ok (.iload_n 2, 1) := by decide +kernel
theorem dX5_sure_16 : decode cX5_sure 16 = .ok (.invokevirtual 216, 3) := by decide +kernel
theorem dX5_sure_19 : decode cX5_sure 19 = .ok (.dreturn, 1) := by decide +kernel
theorem dX5_bad_0 : decode cX5_bad 0 = .ok (.aload_n 0, 1) := by decide +kernel
theorem dX5_bad_1 : decode cX5_bad 1 = .ok (.iload_n 1, 1) := by decide +kernel
theorem dX5_bad_2 : decode cX5_bad 2 = .ok (.invokevirtual 45, 3) := by decide +kernel
theorem dX5_bad_5 : decode cX5_bad 5 = .ok (.invokevirtual 219, 3) := by decide +kernel
theorem dX5_bad_8 : decode cX5_bad 8 = .ok (.ireturn, 1) := by decide +kernel
theorem dX5_isTrusted_0 : decode cX5_isTrusted 0 = .ok (.aload_n 0, 1) := by decide +kernel
theorem dX5_isTrusted_1 : decode cX5_isTrusted 1 = .ok (.iload_n 1, 1) := by decide +kernel
theorem dX5_isTrusted_2 : decode cX5_isTrusted 2 = .ok (.invokevirtual 45, 3) := by decide +kernel
theorem dX5_isTrusted_5 : decode cX5_isTrusted 5 = .ok (.invokevirtual 223, 3) := by decide +kernel
theorem dX5_isTrusted_8 : decode cX5_isTrusted 8 = .ok (.ireturn, 1) := by decide +kernel
theorem dX5_best_0 : decode cX5_best 0 = .ok (.aload_n 0, 1) := by decide +kernel
theorem dX5_best_1 : decode cX5_best 1 = .ok (.iload_n 1, 1) := by decide +kernel
theorem dX5_best_2 : decode cX5_best 2 = .ok (.invokevirtual 45, 3) := by decide +kernel
theorem dX5_best_5 : decode cX5_best 5 = .ok (.getfield 188, 3) := by decide +kernel
theorem dX5_best_8 : decode cX5_best 8 = .ok (.invokevirtual 227, 3) := by decide +kernel
theorem dX5_best_11 : decode cX5_best 11 = .ok (.ireturn, 1) := by decide +kernel
theorem dX5_reach_0 : decode cX5_reach 0 = .ok (.aload_n 0, 1) := by decide +kernel
theorem dX5_reach_1 : decode cX5_reach 1 = .ok (.iload_n 1, 1) := by decide +kernel
theorem dX5_reach_2 : decode cX5_reach 2 = .ok (.invokevirtual 45, 3) := by decide +kernel
theorem dX5_reach_5 : decode cX5_reach 5 = .ok (.astore 4, 2) := by decide +kernel
theorem dX5_reach_7 : decode cX5_reach 7 = .ok (.aload 4, 2) := by decide +kernel
theorem dX5_reach_9 : decode cX5_reach 9 = .ok (.iload_n 2, 1) := by decide +kernel
theorem dX5_reach_10 : decode cX5_reach 10 = .ok (.invokestatic 49, 3) := by decide +kernel
theorem dX5_reach_13 : decode cX5_reach 13 = .ok (.iload_n 3, 1) := by decide +kernel
theorem dX5_reach_14 : decode cX5_reach 14 = .ok (.invokestatic 230, 3) := by decide +kernel
theorem dX5_reach_17 : decode cX5_reach 17 = .ok (.iconst 0, 1) := by decide +kernel
theorem dX5_reach_18 : decode cX5_reach 18 = .ok (.istore 5, 2) := by decide +kernel
theorem dX5_reach_20 : decode cX5_reach 20 = .ok (.iconst 0, 1) := by decide +kernel
theorem dX5_reach_21 : decode cX5_reach 21 = .ok (.istore 6, 2) := by decide +kernel
theorem dX5_reach_23 : decode cX5_reach 23 = .ok (.iload 6, 2) := by decide +kernel
theorem dX5_reach_25 : decode cX5_reach 25 = .ok (.iload_n 3, 1) := by decide +kernel
theorem dX5_reach_26 : decode cX5_reach 26 = .ok (.if_icmp .ge 31, 3) := by decide +kernel
theorem dX5_reach_29 : decode cX5_reach 29 = .ok (.aload_n 0, 1) := by decide +kernel
theorem dX5_reach_30 : decode cX5_reach 30 = .ok (.getfield 18, 3) := by decide +kernel
theorem dX5_reach_33 : decode cX5_reach 33 = .ok (.iload 6, 2) := by decide +kernel
theorem dX5_reach_35 : decode cX5_reach 35 = .ok (.invokevirtual 233, 3) := by decide +kernel
theorem dX5_reach_38 : decode cX5_reach 38 = .ok (.aload_n 0, 1) := by decide +kernel
theorem dX5_reach_39 : decode cX5_reach 39 = .ok (.aload 4, 2) := by decide +kernel
theorem dX5_reach_41 : decode cX5_reach 41 = .ok (.invokevirtual 151, 3) := by decide +kernel
theorem dX5_reach_44 : decode cX5_reach 44 = .ok (.iload_n 2, 1) := by decide +kernel
theorem dX5_reach_45 : decode cX5_reach 45 = .ok (.if_icmp .ne 6, 3) := by decide +kernel
theorem dX5_reach_48 : decode cX5_reach 48 = .ok (.iinc 5 1, 3) := by decide +kernel
theorem dX5_reach_51 : decode cX5_reach 51 = .ok (.iinc 6 1, 3) := by decide +kernel
theorem dX5_reach_54 : decode cX5_reach 54 = .ok (.goto (-31), 3) := by decide +kernel
theorem dX5_reach_57 : decode cX5_reach 57 = .ok (.iload 5, 2) := by decide +kernel
theorem dX5_reach_59 : decode cX5_reach 59 = .ok (.ireturn, 1) := by decide +kernel
theorem dX5_both_0 : decode cX5_both 0 = .ok (.aload_n 0, 1) := by decide +kernel
theorem dX5_both_1 : decode cX5_both 1 = .ok (.iload_n 1, 1) := by decide +kernel
theorem dX5_both_2 : decode cX5_both 2 = .ok (.invokevirtual 45, 3) := by decide +kernel
theorem dX5_both_5 : decode cX5_both 5 = .ok (.astore 4, 2) := by decide +kernel
theorem dX5_both_7 : decode cX5_both 7 = .ok (.aload_n 0, 1) := by decide +kernel
theorem dX5_both_8 : decode cX5_both 8 = .ok (.iload_n 2, 1) := by decide +kernel
theorem dX5_both_9 : decode cX5_both 9 = .ok (.invokevirtual 45, 3) := by decide +kernel
theorem dX5_both_12 : decode cX5_both 12 = .ok (.astore 5, 2) := by decide +kernel
theorem dX5_both_14 : decode cX5_both 14 = .ok (.iload_n 3, 1) := by decide +kernel
theorem dX5_both_15 : decode cX5_both 15 = .ok (.invokestatic 230, 3) := by decide +kernel
theorem dX5_both_18 : decode cX5_both 18 = .ok (.iconst 0, 1) := by decide +kernel
theorem dX5_both_19 : decode cX5_both 19 = .ok (.istore 6, 2) := by decide +kernel
theorem dX5_both_21 : decode cX5_both 21 = .ok (.iconst 0, 1) := by decide +kernel
theorem dX5_both_22 : decode cX5_both 22 = .ok (.istore 7, 2) := by decide +kernel
theorem dX5_both_24 : decode cX5_both 24 = .ok (.iload 7, 2) := by decide +kernel
theorem dX5_both_26 : decode cX5_both 26 = .ok (.iload_n 3, 1) := by decide +kernel
theorem dX5_both_27 : decode cX5_both 27 = .ok (.if_icmp .ge 43, 3) := by decide +kernel
theorem dX5_both_30 : decode cX5_both 30 = .ok (.aload_n 0, 1) := by decide +kernel
theorem dX5_both_31 : decode cX5_both 31 = .ok (.getfield 18, 3) := by decide +kernel
theorem dX5_both_34 : decode cX5_both 34 = .ok (.iload 7, 2) := by decide +kernel
theorem dX5_both_36 : decode cX5_both 36 = .ok (.invokevirtual 233, 3) := by decide +kernel
theorem dX5_both_39 : decode cX5_both 39 = .ok (.aload_n 0, 1) := by decide +kernel
theorem dX5_both_40 : decode cX5_both 40 = .ok (.aload 4, 2) := by decide +kernel
theorem dX5_both_42 : decode cX5_both 42 = .ok (.invokevirtual 155, 3) := by decide +kernel
theorem dX5_both_45 : decode cX5_both 45 = .ok (.bipush 8, 2) := by decide +kernel
theorem dX5_both_47 : decode cX5_both 47 = .ok (.if_icmp .ne 17, 3) := by decide +kernel
theorem dX5_both_50 : decode cX5_both 50 = .ok (.aload_n 0, 1) := by decide +kernel
theorem dX5_both_51 : decode cX5_both 51 = .ok (.aload 5, 2) := by decide +kernel
theorem dX5_both_53 : decode cX5_both 53 = .ok (.invokevirtual 155, 3) := by decide +kernel
theorem dX5_both_56 : decode cX5_both 56 = .ok (.bipush 8, 2) := by decide +kernel
theorem dX5_both_58 : decode cX5_both 58 = .ok (.if_icmp .ne 6, 3) := by decide +kernel
theorem dX5_both_61 : decode cX5_both 61 = .ok (.iinc 6 1, 3) := by decide +kernel
theorem dX5_both_64 : decode cX5_both 64 = .ok (.iinc 7 1, 3) := by decide +kernel
theorem dX5_both_67 : decode cX5_both 67 = .ok (.goto (-43), 3) := by decide +kernel
theorem dX5_both_70 : decode cX5_both 70 = .ok (.iload 6, 2) := by decide +kernel
theorem dX5_both_72 : decode cX5_both 72 = .ok (.ireturn, 1) := by decide +kernel
theorem dX5_wouldChange_0 : decode cX5_wouldChange 0 = .ok (.aload_n 0, 1) := by decide +kernel
theorem dX5_wouldChange_1 : decode cX5_wouldChange 1 = .ok (.iload_n 1, 1) := by decide +kernel
theorem dX5_wouldChange_2 : decode cX5_wouldChange 2 = .ok (.invokevirtual 45, 3) := by decide +kernel
theorem dX5_wouldChange_5 : decode cX5_wouldChange 5 = .ok (.astore 4, 2) := by decide +kernel
theorem dX5_wouldChange_7 : decode cX5_wouldChange 7 = .ok (.iload_n 2, 1) := by decide +kernel
theorem dX5_wouldChange_8 : decode cX5_wouldChange 8 = .ok (.iconst 0, 1) := by decide +kernel
theorem dX5_wouldChange_9 : decode cX5_wouldChange 9 = .ok (.sipush 1000, 3) := by decide +kernel
theorem dX5_wouldChange_12 : decode cX5_wouldChange 12 = .ok (.invokestatic 22, 3) := by decide +kernel
theorem dX5_wouldChange_15 : decode cX5_wouldChange 15 = .ok (.ifCond .eq 13, 3) := by decide +kernel
theorem dX5_wouldChange_18 : decode cX5_wouldChange 18 = .ok (.new 26, 3) := by decide +kernel
theorem dX5_wouldChange_21 : decode cX5_wouldChange 21 = .ok (.dup, 1) := by decide +kernel
theorem dX5_wouldChange_22 : decode cX5_wouldChange 22 = .ok (.ldc 236, 2) := by decide +kernel
theorem dX5_wouldChange_24 : decode cX5_wouldChange 24 = .ok (.invokespecial 30, 3) := by decide +kernel
theorem dX5_wouldChange_27 : decode cX5_wouldChange 27 = .ok (.athrow, 1) := by decide +kernel
theorem dX5_wouldChange_28 : decode cX5_wouldChange 28 = .ok (.iload_n 3, 1) := by decide +kernel
theorem dX5_wouldChange_29 : decode cX5_wouldChange 29 = .ok (.invokestatic 230, 3) := by decide +kernel
theorem dX5_wouldChange_32 : decode cX5_wouldChange 32 = .ok (.iconst 0, 1) := by decide +kernel
theorem dX5_wouldChange_33 : decode cX5_wouldChange 33 = .ok (.istore 5, 2) := by decide +kernel
theorem dX5_wouldChange_35 : decode cX5_wouldChange 35 = .ok (.iconst 0, 1) := by decide +kernel
theorem dX5_wouldChange_36 : decode cX5_wouldChange 36 = .ok (.istore 6, 2) := by decide +kernel
theorem dX5_wouldChange_38 : decode cX5_wouldChange 38 = .ok (.iload 6, 2) := by decide +kernel
theorem dX5_wouldChange_40 : decode cX5_wouldChange 40 = .ok (.iload_n 3, 1) := by decide +kernel
theorem dX5_wouldChange_41 : decode cX5_wouldChange 41 = .ok (.if_icmp .ge 49, 3) := by decide +kernel
theorem dX5_wouldChange_44 : decode cX5_wouldChange 44 = .ok (.aload_n 0, 1) := by decide +kernel
theorem dX5_wouldChange_45 : decode cX5_wouldChange 45 = .ok (.getfield 18, 3) := by decide +kernel
theorem dX5_wouldChange_48 : decode cX5_wouldChange 48 = .ok (.iload 6, 2) := by decide +kernel
theorem dX5_wouldChange_50 : decode cX5_wouldChange 50 = .ok (.invokevirtual 233, 3) := by decide +kernel
theorem dX5_wouldChange_53 : decode cX5_wouldChange 53 = .ok (.aload_n 0, 1) := by decide +kernel
theorem dX5_wouldChange_54 : decode cX5_wouldChange 54 = .ok (.aload 4, 2) := by decide +kernel
theorem dX5_wouldChange_56 : decode cX5_wouldChange 56 = .ok (.invokevirtual 151, 3) := by decide +kernel
theorem dX5_wouldChange_59 : decode cX5_wouldChange 59 = .ok (.istore 7, 2) := by decide +kernel
theorem dX5_wouldChange_61 : decode cX5_wouldChange 61 = .ok (.aload_n 0, 1) := by decide +kernel
theorem dX5_wouldChange_62 : decode cX5_wouldChange 62 = .ok (.getfield 18, 3) := by decide +kernel
theorem dX5_wouldChange_65 : decode cX5_wouldChange 65 = .ok (.iload_n 1, 1) := by decide +kernel
theorem dX5_wouldChange_66 : decode cX5_wouldChange 66 = .ok (.iload_n 2, 1) := by decide +kernel
theorem dX5_wouldChange_67 : decode cX5_wouldChange 67 = .ok (.invokevirtual 238, 3) := by decide +kernel
theorem dX5_wouldChange_70 : decode cX5_wouldChange 70 = .ok (.aload_n 0, 1) := by decide +kernel
theorem dX5_wouldChange_71 : decode cX5_wouldChange 71 = .ok (.aload 4, 2) := by decide +kernel
theorem dX5_wouldChange_73 : decode cX5_wouldChange 73 = .ok (.invokevirtual 151, 3) := by decide +kernel
theorem dX5_wouldChange_76 : decode cX5_wouldChange 76 = .ok (.iload 7, 2) := by decide +kernel
theorem dX5_wouldChange_78 : decode cX5_wouldChange 78 = .ok (.if_icmp .eq 6, 3) := by decide +kernel
theorem dX5_wouldChange_81 : decode cX5_wouldChange 81 = .ok (.iinc 5 1, 3) := by decide +kernel
theorem dX5_wouldChange_84 : decode cX5_wouldChange 84 = .ok (.iinc 6 1, 3) := by decide +kernel
theorem dX5_wouldChange_87 : decode cX5_wouldChange 87 = .ok (.goto (-49), 3) := by decide +kernel
theorem dX5_wouldChange_90 : decode cX5_wouldChange 90 = .ok (.iload 5, 2) := by decide +kernel
theorem dX5_wouldChange_92 : decode cX5_wouldChange 92 = .ok (.ireturn, 1) := by decide +kernel
theorem dX5_wouldTurn_0 : decode cX5_wouldTurn 0 = .ok (.aload_n 0, 1) := by decide +kernel
theorem dX5_wouldTurn_1 : decode cX5_wouldTurn 1 = .ok (.iload_n 1, 1) := by decide +kernel
theorem dX5_wouldTurn_2 : decode cX5_wouldTurn 2 = .ok (.invokevirtual 45, 3) := by decide +kernel
theorem dX5_wouldTurn_5 : decode cX5_wouldTurn 5 = .ok (.pop, 1) := by decide +kernel
theorem dX5_wouldTurn_6 : decode cX5_wouldTurn 6 = .ok (.iload_n 2, 1) := by decide +kernel
theorem dX5_wouldTurn_7 : decode cX5_wouldTurn 7 = .ok (.invokestatic 230, 3) := by decide +kernel
theorem dX5_wouldTurn_10 : decode cX5_wouldTurn 10 = .ok (.iconst 0, 1) := by decide +kernel
theorem dX5_wouldTurn_11 : decode cX5_wouldTurn 11 = .ok (.istore_n 3, 1) := by decide +kernel
theorem dX5_wouldTurn_12 : decode cX5_wouldTurn 12 = .ok (.iconst 0, 1) := by decide +kernel
theorem dX5_wouldTurn_13 : decode cX5_wouldTurn 13 = .ok (.istore 4, 2) := by decide +kernel
theorem dX5_wouldTurn_15 : decode cX5_wouldTurn 15 = .ok (.iload 4, 2) := by decide +kernel
theorem dX5_wouldTurn_17 : decode cX5_wouldTurn 17 = .ok (.iload_n 2, 1) := by decide +kernel
theorem dX5_wouldTurn_18 : decode cX5_wouldTurn 18 = .ok (.if_icmp .ge 22, 3) := by decide +kernel
theorem dX5_wouldTurn_21 : decode cX5_wouldTurn 21 = .ok (.aload_n 0, 1) := by decide +kernel
theorem dX5_wouldTurn_22 : decode cX5_wouldTurn 22 = .ok (.iload_n 1, 1) := by decide +kernel
theorem dX5_wouldTurn_23 : decode cX5_wouldTurn 23 = .ok (.iload 4, 2) := by decide +kernel
theorem dX5_wouldTurn_25 : decode cX5_wouldTurn 25 = .ok (.invokevirtual 241, 3) := by decide +kernel
theorem dX5_wouldTurn_28 : decode cX5_wouldTurn 28 = .ok (.ifCond .eq 6, 3) := by decide +kernel
theorem dX5_wouldTurn_31 : decode cX5_wouldTurn 31 = .ok (.iinc 3 1, 3) := by decide +kernel
theorem dX5_wouldTurn_34 : decode cX5_wouldTurn 34 = .ok (.iinc 4 1, 3) := by decide +kernel
theorem dX5_wouldTurn_37 : decode cX5_wouldTurn 37 = .ok (.goto (-22), 3) := by decide +kernel
theorem dX5_wouldTurn_40 : decode cX5_wouldTurn 40 = .ok (.iload_n 3, 1) := by decide +kernel
theorem dX5_wouldTurn_41 : decode cX5_wouldTurn 41 = .ok (.ireturn, 1) := by decide +kernel
theorem dX5_shareIn_0 : decode cX5_shareIn 0 = .ok (.aload_n 0, 1) := by decide +kernel
theorem dX5_shareIn_1 : decode cX5_shareIn 1 = .ok (.iload_n 1, 1) := by decide +kernel
theorem dX5_shareIn_2 : decode cX5_shareIn 2 = .ok (.invokevirtual 45, 3) := by decide +kernel
theorem dX5_shareIn_5 : decode cX5_shareIn 5 = .ok (.astore_n 3, 1) := by decide +kernel
theorem dX5_shareIn_6 : decode cX5_shareIn 6 = .ok (.iload_n 2, 1) := by decide +kernel
theorem dX5_shareIn_7 : decode cX5_shareIn 7 = .ok (.iconst 0, 1) := by decide +kernel
theorem dX5_shareIn_8 : decode cX5_shareIn 8 = .ok (.sipush 1000, 3) := by decide +kernel
theorem dX5_shareIn_11 : decode cX5_shareIn 11 = .ok (.invokestatic 22, 3) := by decide +kernel
theorem dX5_shareIn_14 : decode cX5_shareIn 14 = .ok (.ifCond .eq 13, 3) := by decide +kernel
theorem dX5_shareIn_17 : decode cX5_shareIn 17 = .ok (.new 26, 3) := by decide +kernel
theorem dX5_shareIn_20 : decode cX5_shareIn 20 = .ok (.dup, 1) := by decide +kernel
theorem dX5_shareIn_21 : decode cX5_shareIn 21 = .ok (.ldc 135, 2) := by decide +kernel
theorem dX5_shareIn_23 : decode cX5_shareIn 23 = .ok (.invokespecial 30, 3) := by decide +kernel
theorem dX5_shareIn_26 : decode cX5_shareIn 26 = .ok (.athrow, 1) := by decide +kernel
theorem dX5_shareIn_27 : decode cX5_shareIn 27 = .ok (.aload_n 3, 1) := by decide +kernel
theorem dX5_shareIn_28 : decode cX5_shareIn 28 = .ok (.aload_n 0, 1) := by decide +kernel
theorem dX5_shareIn_29 : decode cX5_shareIn 29 = .ok (.getfield 69, 3) := by decide +kernel
theorem dX5_shareIn_32 : decode cX5_shareIn 32 = .ok (.iload_n 2, 1) := by decide +kernel
theorem dX5_shareIn_33 : decode cX5_shareIn 33 = .ok (.iadd, 1) := by decide +kernel
theorem dX5_shareIn_34 : decode cX5_shareIn 34 = .ok (.invokevirtual 72, 3) := by decide +kernel
theorem dX5_shareIn_37 : decode cX5_shareIn 37 = .ok (.ireturn, 1) := by decide +kernel
theorem dX5_digest_0 : decode cX5_digest 0 = .ok (.ldc2_w 244, 3) := by decide +kernel
theorem dX5_digest_3 : decode cX5_digest 3 = .ok (.aload_n 0, 1) := by decide +kernel
theorem dX5_digest_4 : decode cX5_digest 4 = .ok (.invokevirtual 246, 3) := by decide +kernel
theorem dX5_digest_7 : decode cX5_digest 7 = .ok (.i2l, 1) := by decide +kernel
theorem dX5_digest_8 : decode cX5_digest 8 = .ok (.invokestatic 249, 3) := by decide +kernel
theorem dX5_digest_11 : decode cX5_digest 11 = .ok (.lstore_n 1, 1) := by decide +kernel
theorem dX5_digest_12 : decode cX5_digest 12 = .ok (.lload_n 1, 1) := by decide +kernel
theorem dX5_digest_13 : decode cX5_digest 13 = .ok (.aload_n 0, 1) := by decide +kernel
theorem dX5_digest_14 : decode cX5_digest 14 = .ok (.invokevirtual 253, 3) := by decide +kernel
theorem dX5_digest_17 : decode cX5_digest 17 = .ok (.i2l, 1) := by decide +kernel
theorem dX5_digest_18 : decode cX5_digest 18 = .ok (.invokestatic 249, 3) := by decide +kernel
theorem dX5_digest_21 : decode cX5_digest 21 = .ok (.lstore_n 1, 1) := by decide +kernel
theorem dX5_digest_22 : decode cX5_digest 22 = .ok (.iconst 0, 1) := by decide +kernel
theorem dX5_digest_23 : decode cX5_digest 23 = .ok (.istore_n 3, 1) := by decide +kernel
theorem dX5_digest_24 : decode cX5_digest 24 = .ok (.iload_n 3, 1) := by decide +kernel
theorem dX5_digest_25 : decode cX5_digest 25 = .ok (.iconst 3, 1) := by decide +kernel
theorem dX5_digest_26 : decode cX5_digest 26 = .ok (.if_icmp .ge 20, 3) := by decide +kernel
theorem dX5_digest_29 : decode cX5_digest 29 = .ok (.lload_n 1, 1) := by decide +kernel
theorem dX5_digest_30 : decode cX5_digest 30 = .ok (.aload_n 0, 1) := by decide +kernel
theorem dX5_digest_31 : decode cX5_digest 31 = .ok (.iload_n 3, 1) := by decide +kernel
theorem dX5_digest_32 : decode cX5_digest 32 = .ok (.invokevirtual 256, 3) := by decide +kernel
theorem dX5_digest_35 : decode cX5_digest 35 = .ok (.i2l, 1) := by decide +kernel
theorem dX5_digest_36 : decode cX5_digest 36 = .ok (.invokestatic 249, 3) := by decide +kernel
theorem dX5_digest_39 : decode cX5_digest 39 = .ok (.lstore_n 1, 1) := by decide +kernel
theorem dX5_digest_40 : decode cX5_digest 40 = .ok (.iinc 3 1, 3) := by decide +kernel
theorem dX5_digest_43 : decode cX5_digest 43 = .ok (.goto (-19), 3) := by decide +kernel
theorem dX5_digest_46 : decode cX5_digest 46 = .ok (.iconst 0, 1) := by decide +kernel
theorem dX5_digest_47 : decode cX5_digest 47 = .ok (.istore_n 3, 1) := by decide +kernel
theorem dX5_digest_48 : decode cX5_digest 48 = .ok (.iload_n 3, 1) := by decide +kernel
theorem dX5_digest_49 : decode cX5_digest 49 = .ok (.aload_n 0, 1) := by decide +kernel
theorem dX5_digest_50 : decode cX5_digest 50 = .ok (.getfield 33, 3) := by decide +kernel
theorem dX5_digest_53 : decode cX5_digest 53 = .ok (.if_icmp .ge 16, 3) := by decide +kernel
theorem dX5_digest_56 : decode cX5_digest 56 = .ok (.aload_n 0, 1) := by decide +kernel
theorem dX5_digest_57 : decode cX5_digest 57 = .ok (.lload_n 1, 1) := by decide +kernel
theorem dX5_digest_58 : decode cX5_digest 58 = .ok (.iload_n 3, 1) := by decide +kernel
theorem dX5_digest_59 : decode cX5_digest 59 = .ok (.invokevirtual 259, 3) := by decide +kernel
theorem dX5_digest_62 : decode cX5_digest 62 = .ok (.lstore_n 1, 1) := by decide +kernel
theorem dX5_digest_63 : decode cX5_digest 63 = .ok (.iinc 3 1, 3) := by decide +kernel
theorem dX5_digest_66 : decode cX5_digest 66 = .ok (.goto (-18), 3) := by decide +kernel
theorem dX5_digest_69 : decode cX5_digest 69 = .ok (.iconst 0, 1) := by decide +kernel
theorem dX5_digest_70 : decode cX5_digest 70 = .ok (.istore_n 3, 1) := by decide +kernel
theorem dX5_digest_71 : decode cX5_digest 71 = .ok (.iload_n 3, 1) := by decide +kernel
theorem dX5_digest_72 : decode cX5_digest 72 = .ok (.bipush 10, 2) := by decide +kernel
theorem dX5_digest_74 : decode cX5_digest 74 = .ok (.if_icmp .ge 76, 3) := by decide +kernel
theorem dX5_digest_77 : decode cX5_digest 77 = .ok (.iconst 0, 1) := by decide +kernel
theorem dX5_digest_78 : decode cX5_digest 78 = .ok (.istore 4, 2) := by decide +kernel
theorem dX5_digest_80 : decode cX5_digest 80 = .ok (.iload 4, 2) := by decide +kernel
theorem dX5_digest_82 : decode cX5_digest 82 = .ok (.aload_n 0, 1) := by decide +kernel
theorem dX5_digest_83 : decode cX5_digest 83 = .ok (.getfield 33, 3) := by decide +kernel
theorem dX5_digest_86 : decode cX5_digest 86 = .ok (.if_icmp .ge 58, 3) := by decide +kernel
theorem dX5_digest_89 : decode cX5_digest 89 = .ok (.lload_n 1, 1) := by decide +kernel
theorem dX5_digest_90 : decode cX5_digest 90 = .ok (.aload_n 0, 1) := by decide +kernel
theorem dX5_digest_91 : decode cX5_digest 91 = .ok (.iload 4, 2) := by decide +kernel
theorem dX5_digest_93 : decode cX5_digest 93 = .ok (.iload_n 3, 1) := by decide +kernel
theorem dX5_digest_94 : decode cX5_digest 94 = .ok (.iload_n 3, 1) := by decide +kernel
theorem dX5_digest_95 : decode cX5_digest 95 = .ok (.bipush 9, 2) := by decide +kernel
theorem dX5_digest_97 : decode cX5_digest 97 = .ok (.iload_n 3, 1) := by decide +kernel
theorem dX5_digest_98 : decode cX5_digest 98 = .ok (.isub, 1) := by decide +kernel
theorem dX5_digest_99 : decode cX5_digest 99 = .ok (.invokevirtual 263, 3) := by decide +kernel
theorem dX5_digest_102 : decode cX5_digest 102 = .ok (.i2l, 1) := by decide +kernel
theorem dX5_digest_103 : decode cX5_digest 103 = .ok (.invokestatic 249, 3) := by decide +kernel
theorem dX5_digest_106 : decode cX5_digest 106 = .ok (.lstore_n 1, 1) := by decide +kernel
theorem dX5_digest_107 : decode cX5_digest 107 = .ok (.lload_n 1, 1) := by decide +kernel
theorem dX5_digest_108 : decode cX5_digest 108 = .ok (.aload_n 0, 1) := by decide +kernel
theorem dX5_digest_109 : decode cX5_digest 109 = .ok (.iload 4, 2) := by decide +kernel
theorem dX5_digest_111 : decode cX5_digest 111 = .ok (.iload_n 3, 1) := by decide +kernel
theorem dX5_digest_112 : decode cX5_digest 112 = .ok (.iload_n 3, 1) := by decide +kernel
theorem dX5_digest_113 : decode cX5_digest 113 = .ok (.bipush 9, 2) := by decide +kernel
theorem dX5_digest_115 : decode cX5_digest 115 = .ok (.iload_n 3, 1) := by decide +kernel
theorem dX5_digest_116 : decode cX5_digest 116 = .ok (.isub, 1) := by decide +kernel
theorem dX5_digest_117 : decode cX5_digest 117 = .ok (.invokevirtual 267, 3) := by decide +kernel
theorem dX5_digest_120 : decode cX5_digest 120 = .ok (.i2l, 1) := by decide +kernel
theorem dX5_digest_121 : decode cX5_digest 121 = .ok (.invokestatic 249, 3) := by decide +kernel
theorem dX5_digest_124 : decode cX5_digest 124 = .ok (.lstore_n 1, 1) := by decide +kernel
theorem dX5_digest_125 : decode cX5_digest 125 = .ok (.lload_n 1, 1) := by decide +kernel
theorem dX5_digest_126 : decode cX5_digest 126 = .ok (.aload_n 0, 1) := by decide +kernel
theorem dX5_digest_127 : decode cX5_digest 127 = .ok (.iload 4, 2) := by decide +kernel
theorem dX5_digest_129 : decode cX5_digest 129 = .ok (.iload_n 3, 1) := by decide +kernel
theorem dX5_digest_130 : decode cX5_digest 130 = .ok (.invokevirtual 270, 3) := by decide +kernel
theorem dX5_digest_133 : decode cX5_digest 133 = .ok (.i2l, 1) := by decide +kernel
theorem dX5_digest_134 : decode cX5_digest 134 = .ok (.invokestatic 249, 3) := by decide +kernel
theorem dX5_digest_137 : decode cX5_digest 137 = .ok (.lstore_n 1, 1) := by decide +kernel
theorem dX5_digest_138 : decode cX5_digest 138 = .ok (.iinc 4 1, 3) := by decide +kernel
theorem dX5_digest_141 : decode cX5_digest 141 = .ok (.goto (-61), 3) := by decide +kernel
theorem dX5_digest_144 : decode cX5_digest 144 = .ok (.iinc 3 1, 3) := by decide +kernel
theorem dX5_digest_147 : decode cX5_digest 147 = .ok (.goto (-76), 3) := by decide +kernel
theorem dX5_digest_150 : decode cX5_digest 150 = .ok (.lload_n 1, 1) := by decide +kernel
theorem dX5_digest_151 : decode cX5_digest 151 = .ok (.lreturn, 1) := by decide +kernel
theorem dX5_withSwitch_0 : decode cX5_withSwitch 0 = .ok (.lload_n 1, 1) := by decide +kernel
theorem dX5_withSwitch_1 : decode cX5_withSwitch 1 = .ok (.aload_n 0, 1) := by decide +kernel
theorem dX5_withSwitch_2 : decode cX5_withSwitch 2 = .ok (.iload_n 3, 1) := by decide +kernel
theorem dX5_withSwitch_3 : decode cX5_withSwitch 3 = .ok (.invokevirtual 273, 3) := by decide +kernel
theorem dX5_withSwitch_6 : decode cX5_withSwitch 6 = .ok (.i2l, 1) := by decide +kernel
theorem dX5_withSwitch_7 : decode cX5_withSwitch 7 = .ok (.invokestatic 249, 3) := by decide +kernel
theorem dX5_withSwitch_10 : decode cX5_withSwitch 10 = .ok (.lstore 4, 2) := by decide +kernel
theorem dX5_withSwitch_12 : decode cX5_withSwitch 12 = .ok (.lload 4, 2) := by decide +kernel
theorem dX5_withSwitch_14 : decode cX5_withSwitch 14 = .ok (.aload_n 0, 1) := by decide +kernel
theorem dX5_withSwitch_15 : decode cX5_withSwitch 15 = .ok (.iload_n 3, 1) := by decide +kernel
theorem dX5_withSwitch_16 : decode cX5_withSwitch 16 = .ok (.invokevirtual 276, 3) := by decide +kernel
theorem dX5_withSwitch_19 : decode cX5_withSwitch 19 = .ok (.i2l, 1) := by decide +kernel
theorem dX5_withSwitch_20 : decode cX5_withSwitch 20 = .ok (.invokestatic 249, 3) := by decide +kernel
theorem dX5_withSwitch_23 : decode cX5_withSwitch 23 = .ok (.lstore 4, 2) := by decide +kernel
theorem dX5_withSwitch_25 : decode cX5_withSwitch 25 = .ok (.lload 4, 2) := by decide +kernel
theorem dX5_withSwitch_27 : decode cX5_withSwitch 27 = .ok (.aload_n 0, 1) := by decide +kernel
theorem dX5_withSwitch_28 : decode cX5_withSwitch 28 = .ok (.iload_n 3, 1) := by decide +kernel
theorem dX5_withSwitch_29 : decode cX5_withSwitch 29 = .ok (.invokevirtual 279, 3) := by decide +kernel
theorem dX5_withSwitch_32 : decode cX5_withSwitch 32 = .ok (.ifCond .eq 7, 3) := by decide +kernel
theorem dX5_withSwitch_35 : decode cX5_withSwitch 35 = .ok (.lconst 1, 1) := by decide +kernel
theorem dX5_withSwitch_36 : decode cX5_withSwitch 36 = .ok (.goto 4, 3) := by decide +kernel
theorem dX5_withSwitch_39 : decode cX5_withSwitch 39 = .ok (.lconst 0, 1) := by decide +kernel
theorem dX5_withSwitch_40 : decode cX5_withSwitch 40 = .ok (.invokestatic 249, 3) := by decide +kernel
theorem dX5_withSwitch_43 : decode cX5_withSwitch 43 = .ok (.lstore 4, 2) := by decide +kernel
theorem dX5_withSwitch_45 : decode cX5_withSwitch 45 = .ok (.lload 4, 2) := by decide +kernel
theorem dX5_withSwitch_47 : decode cX5_withSwitch 47 = .ok (.aload_n 0, 1) := by decide +kernel
theorem dX5_withSwitch_48 : decode cX5_withSwitch 48 = .ok (.iload_n 3, 1) := by decide +kernel
theorem dX5_withSwitch_49 : decode cX5_withSwitch 49 = .ok (.invokevirtual 283, 3) := by decide +kernel
theorem dX5_withSwitch_52 : decode cX5_withSwitch 52 = .ok (.i2l, 1) := by decide +kernel
theorem dX5_withSwitch_53 : decode cX5_withSwitch 53 = .ok (.invokestatic 249, 3) := by decide +kernel
theorem dX5_withSwitch_56 : decode cX5_withSwitch 56 = .ok (.lstore 4, 2) := by decide +kernel
theorem dX5_withSwitch_58 : decode cX5_withSwitch 58 = .ok (.aload_n 0, 1) := by decide +kernel
theorem dX5_withSwitch_59 : decode cX5_withSwitch 59 = .ok (.iload_n 3, 1) := by decide +kernel
theorem dX5_withSwitch_60 : decode cX5_withSwitch 60 = .ok (.invokevirtual 45, 3) := by decide +kernel
theorem dX5_withSwitch_63 : decode cX5_withSwitch 63 = .ok (.getfield 286, 3) := by decide +kernel
theorem dX5_withSwitch_66 : decode cX5_withSwitch 66 = .ok (.istore 6, 2) := by decide +kernel
theorem dX5_withSwitch_68 : decode cX5_withSwitch 68 = .ok (.iconst 0, 1) := by decide +kernel
theorem dX5_withSwitch_69 : decode cX5_withSwitch 69 = .ok (.istore 7, 2) := by decide +kernel
theorem dX5_withSwitch_71 : decode cX5_withSwitch 71 = .ok (.iload 7, 2) := by decide +kernel
theorem dX5_withSwitch_73 : decode cX5_withSwitch 73 = .ok (.iload 6, 2) := by decide +kernel
theorem dX5_withSwitch_75 : decode cX5_withSwitch 75 = .ok (.if_icmp .ge 73, 3) := by decide +kernel
theorem dX5_withSwitch_78 : decode cX5_withSwitch 78 = .ok (.lload 4, 2) := by decide +kernel
theorem dX5_withSwitch_80 : decode cX5_withSwitch 80 = .ok (.aload_n 0, 1) := by decide +kernel
theorem dX5_withSwitch_81 : decode cX5_withSwitch 81 = .ok (.iload_n 3, 1) := by decide +kernel
theorem dX5_withSwitch_82 : decode cX5_withSwitch 82 = .ok (.iload 7, 2) := by decide +kernel
theorem dX5_withSwitch_84 : decode cX5_withSwitch 84 = .ok (.invokevirtual 289, 3) := by decide +kernel
theorem dX5_withSwitch_87 : decode cX5_withSwitch 87 = .ok (.i2l, 1) := by decide +kernel
theorem dX5_withSwitch_88 : decode cX5_withSwitch 88 = .ok (.invokestatic 249, 3) := by decide +kernel
theorem dX5_withSwitch_91 : decode cX5_withSwitch 91 = .ok (.lstore 4, 2) := by decide +kernel
theorem dX5_withSwitch_93 : decode cX5_withSwitch 93 = .ok (.iconst 0, 1) := by decide +kernel
theorem dX5_withSwitch_94 : decode cX5_withSwitch 94 = .ok (.istore 8, 2) := by decide +kernel
theorem dX5_withSwitch_96 : decode cX5_withSwitch 96 = .ok (.iload 8, 2) := by decide +kernel
theorem dX5_withSwitch_98 : decode cX5_withSwitch 98 = .ok (.iconst 3, 1) := by decide +kernel
theorem dX5_withSwitch_99 : decode cX5_withSwitch 99 = .ok (.if_icmp .gt 26, 3) := by decide +kernel
theorem dX5_withSwitch_102 : decode cX5_withSwitch 102 = .ok (.lload 4, 2) := by decide +kernel
theorem dX5_withSwitch_104 : decode cX5_withSwitch 104 = .ok (.aload_n 0, 1) := by decide +kernel
theorem dX5_withSwitch_105 : decode cX5_withSwitch 105 = .ok (.iload_n 3, 1) := by decide +kernel
theorem dX5_withSwitch_106 : decode cX5_withSwitch 106 = .ok (.iload 7, 2) := by decide +kernel
theorem dX5_withSwitch_108 : decode cX5_withSwitch 108 = .ok (.iload 8, 2) := by decide +kernel
theorem dX5_withSwitch_110 : decode cX5_withSwitch 110 = .ok (.invokevirtual 292, 3) := by decide +kernel
theorem dX5_withSwitch_113 : decode cX5_withSwitch 113 = .ok (.i2l, 1) := by decide +kernel
theorem dX5_withSwitch_114 : decode cX5_withSwitch 114 = .ok (.invokestatic 249, 3) := by decide +kernel
theorem dX5_withSwitch_117 : decode cX5_withSwitch 117 = .ok (.lstore 4, 2) := by decide +kernel
theorem dX5_withSwitch_119 : decode cX5_withSwitch 119 = .ok (.iinc 8 1, 3) := by decide +kernel
theorem dX5_withSwitch_122 : decode cX5_withSwitch 122 = .ok (.goto (-26), 3) := by decide +kernel
theorem dX5_withSwitch_125 : decode cX5_withSwitch 125 = .ok (.lload 4, 2) := by decide +kernel
theorem dX5_withSwitch_127 : decode cX5_withSwitch 127 = .ok (.aload_n 0, 1) := by decide +kernel
theorem dX5_withSwitch_128 : decode cX5_withSwitch 128 = .ok (.iload_n 3, 1) := by decide +kernel
theorem dX5_withSwitch_129 : decode cX5_withSwitch 129 = .ok (.iload 7, 2) := by decide +kernel
theorem dX5_withSwitch_131 : decode cX5_withSwitch 131 = .ok (.bipush 20, 2) := by decide +kernel
theorem dX5_withSwitch_133 : decode cX5_withSwitch 133 = .ok (.invokevirtual 296, 3) := by decide +kernel
theorem dX5_withSwitch_136 : decode cX5_withSwitch 136 = .ok (.i2l, 1) := by decide +kernel
theorem dX5_withSwitch_137 : decode cX5_withSwitch 137 = .ok (.invokestatic 249, 3) := by decide +kernel
theorem dX5_withSwitch_140 : decode cX5_withSwitch 140 = .ok (.lstore 4, 2) := by decide +kernel
theorem dX5_withSwitch_142 : decode cX5_withSwitch 142 = .ok (.iinc 7 1, 3) := by decide +kernel
theorem dX5_withSwitch_145 : decode cX5_withSwitch 145 = .ok (.goto (-74), 3) := by decide +kernel
theorem dX5_withSwitch_148 : decode cX5_withSwitch 148 = .ok (.lload 4, 2) := by decide +kernel
theorem dX5_withSwitch_150 : decode cX5_withSwitch 150 = .ok (.lreturn, 1) := by decide +kernel
theorem dX5_withNext_0 : decode cX5_withNext 0 = .ok (.lload_n 0, 1) := by decide +kernel
theorem dX5_withNext_1 : decode cX5_withNext 1 = .ok (.ldc2_w 299, 3) := by decide +kernel
theorem dX5_withNext_4 : decode cX5_withNext 4 = .ok (.lmul, 1) := by decide +kernel
theorem dX5_withNext_5 : decode cX5_withNext 5 = .ok (.lload_n 2, 1) := by decide +kernel
theorem dX5_withNext_6 : decode cX5_withNext 6 = .ok (.ladd, 1) := by decide +kernel
theorem dX5_withNext_7 : decode cX5_withNext 7 = .ok (.lreturn, 1) := by decide +kernel
theorem dX5_isOutside_0 : decode cX5_isOutside 0 = .ok (.iload_n 0, 1) := by decide +kernel
theorem dX5_isOutside_1 : decode cX5_isOutside 1 = .ok (.iload_n 1, 1) := by decide +kernel
theorem dX5_isOutside_2 : decode cX5_isOutside 2 = .ok (.if_icmp .lt 8, 3) := by decide +kernel
theorem dX5_isOutside_5 : decode cX5_isOutside 5 = .ok (.iload_n 0, 1) := by decide +kernel
theorem dX5_isOutside_6 : decode cX5_isOutside 6 = .ok (.iload_n 2, 1) := by decide +kernel
theorem dX5_isOutside_7 : decode cX5_isOutside 7 = .ok (.if_icmp .le 7, 3) := by decide +kernel
theorem dX5_isOutside_10 : decode cX5_isOutside 10 = .ok (.iconst 1, 1) := by decide +kernel
theorem dX5_isOutside_11 : decode cX5_isOutside 11 = .ok (.goto 4, 3) := by decide +kernel
theorem dX5_isOutside_14 : decode cX5_isOutside 14 = .ok (.iconst 0, 1) := by decide +kernel
theorem dX5_isOutside_15 : decode cX5_isOutside 15 = .ok (.ireturn, 1) := by decide +kernel
theorem dX5_bucketOf_0 : decode cX5_bucketOf 0 = .ok (.iload_n 0, 1) := by decide +kernel
theorem dX5_bucketOf_1 : decode cX5_bucketOf 1 = .ok (.sipush 7919, 3) := by decide +kernel
theorem dX5_bucketOf_4 : decode cX5_bucketOf 4 = .ok (.imul, 1) := by decide +kernel
theorem dX5_bucketOf_5 : decode cX5_bucketOf 5 = .ok (.iload_n 1, 1) := by decide +kernel
theorem dX5_bucketOf_6 : decode cX5_bucketOf 6 = .ok (.bipush 31, 2) := by decide +kernel
theorem dX5_bucketOf_8 : decode cX5_bucketOf 8 = .ok (.imul, 1) := by decide +kernel
theorem dX5_bucketOf_9 : decode cX5_bucketOf 9 = .ok (.iadd, 1) := by decide +kernel
theorem dX5_bucketOf_10 : decode cX5_bucketOf 10 = .ok (.bipush 17, 2) := by decide +kernel
theorem dX5_bucketOf_12 : decode cX5_bucketOf 12 = .ok (.iadd, 1) := by decide +kernel
theorem dX5_bucketOf_13 : decode cX5_bucketOf 13 = .ok (.sipush 10007, 3) := by decide +kernel
theorem dX5_bucketOf_16 : decode cX5_bucketOf 16 = .ok (.irem, 1) := by decide +kernel
theorem dX5_bucketOf_17 : decode cX5_bucketOf 17 = .ok (.istore_n 2, 1) := by decide +kernel
theorem dX5_bucketOf_18 : decode cX5_bucketOf 18 = .ok (.iload_n 2, 1) := by decide +kernel
theorem dX5_bucketOf_19 : decode cX5_bucketOf 19 = .ok (.iload_n 2, 1) := by decide +kernel
theorem dX5_bucketOf_20 : decode cX5_bucketOf 20 = .ok (.imul, 1) := by decide +kernel
theorem dX5_bucketOf_21 : decode cX5_bucketOf 21 = .ok (.iload_n 0, 1) := by decide +kernel
theorem dX5_bucketOf_22 : decode cX5_bucketOf 22 = .ok (.iadd, 1) := by decide +kernel
theorem dX5_bucketOf_23 : decode cX5_bucketOf 23 = .ok (.iconst 3, 1) := by decide +kernel
theorem dX5_bucketOf_24 : decode cX5_bucketOf 24 = .ok (.iload_n 1, 1) := by decide +kernel
theorem dX5_bucketOf_25 : decode cX5_bucketOf 25 = .ok (.imul, 1) := by decide +kernel
theorem dX5_bucketOf_26 : decode cX5_bucketOf 26 = .ok (.iadd, 1) := by decide +kernel
theorem dX5_bucketOf_27 : decode cX5_bucketOf 27 = .ok (.sipush 10007, 3) := by decide +kernel
theorem dX5_bucketOf_30 : decode cX5_bucketOf 30 = .ok (.irem, 1) := by decide +kernel
theorem dX5_bucketOf_31 : decode cX5_bucketOf 31 = .ok (.istore_n 3, 1) := by decide +kernel
theorem dX5_bucketOf_32 : decode cX5_bucketOf 32 = .ok (.iload_n 3, 1) := by decide +kernel
theorem dX5_bucketOf_33 : decode cX5_bucketOf 33 = .ok (.sipush 1000, 3) := by decide +kernel
theorem dX5_bucketOf_36 : decode cX5_bucketOf 36 = .ok (.irem, 1) := by decide +kernel
theorem dX5_bucketOf_37 : decode cX5_bucketOf 37 = .ok (.ireturn, 1) := by decide +kernel
theorem dX5_switchAt_0 : decode cX5_switchAt 0 = .ok (.iload_n 1, 1) := by decide +kernel
theorem dX5_switchAt_1 : decode cX5_switchAt 1 = .ok (.ifCond .lt 12, 3) := by decide +kernel
theorem dX5_switchAt_4 : decode cX5_switchAt 4 = .ok (.iload_n 1, 1) := by decide +kernel
theorem dX5_switchAt_5 : decode cX5_switchAt 5 = .ok (.aload_n 0, 1) := by decide +kernel
theorem dX5_switchAt_6 : decode cX5_switchAt 6 = .ok (.getfield 11, 3) := by decide +kernel
theorem dX5_switchAt_9 : decode cX5_switchAt 9 = .ok (.arraylength, 1) := by decide +kernel
theorem dX5_switchAt_10 : decode cX5_switchAt 10 = .ok (.if_icmp .lt 7, 3) := by decide +kernel
theorem dX5_switchAt_13 : decode cX5_switchAt 13 = .ok (.aconst_null, 1) := by decide +kernel
theorem dX5_switchAt_14 : decode cX5_switchAt 14 = .ok (.goto 9, 3) := by decide +kernel
theorem dX5_switchAt_17 : decode cX5_switchAt 17 = .ok (.aload_n 0, 1) := by decide +kernel
theorem dX5_switchAt_18 : decode cX5_switchAt 18 = .ok (.getfield 11, 3) := by decide +kernel
theorem dX5_switchAt_21 : decode cX5_switchAt 21 = .ok (.iload_n 1, 1) := by decide +kernel
theorem dX5_switchAt_22 : decode cX5_switchAt 22 = .ok (.aaload, 1) := by decide +kernel
theorem dX5_switchAt_23 : decode cX5_switchAt 23 = .ok (.areturn, 1) := by decide +kernel
theorem dX5_known_0 : decode cX5_known 0 = .ok (.aload_n 0, 1) := by decide +kernel
theorem dX5_known_1 : decode cX5_known 1 = .ok (.iload_n 1, 1) := by decide +kernel
theorem dX5_known_2 : decode cX5_known 2 = .ok (.invokevirtual 301, 3) := by decide +kernel
theorem dX5_known_5 : decode cX5_known 5 = .ok (.astore_n 2, 1) := by decide +kernel
theorem dX5_known_6 : decode cX5_known 6 = .ok (.aload_n 2, 1) := by decide +kernel
theorem dX5_known_7 : decode cX5_known 7 = .ok (.ifnonnull 14, 3) := by decide +kernel
theorem dX5_known_10 : decode cX5_known 10 = .ok (.new 121, 3) := by decide +kernel
theorem dX5_known_13 : decode cX5_known 13 = .ok (.dup, 1) := by decide +kernel
theorem dX5_known_14 : decode cX5_known 14 = .ok (.ldc_w 304, 3) := by decide +kernel
theorem dX5_known_17 : decode cX5_known 17 = .ok (.invokespecial 125, 3) := by decide +kernel
theorem dX5_known_20 : decode cX5_known 20 = .ok (.athrow, 1) := by decide +kernel
theorem dX5_known_21 : decode cX5_known 21 = .ok (.aload_n 2, 1) := by decide +kernel
theorem dX5_known_22 : decode cX5_known 22 = .ok (.areturn, 1) := by decide +kernel
theorem dX5_checkVariant_0 : decode cX5_checkVariant 0 = .ok (.iload_n 1, 1) := by decide +kernel
theorem dX5_checkVariant_1 : decode cX5_checkVariant 1 = .ok (.iconst 0, 1) := by decide +kernel
theorem dX5_checkVariant_2 : decode cX5_checkVariant 2 = .ok (.aload_n 0, 1) := by decide +kernel
theorem dX5_checkVariant_3 : decode cX5_checkVariant 3 = .ok (.getfield 286, 3) := by decide +kernel
theorem dX5_checkVariant_6 : decode cX5_checkVariant 6 = .ok (.iconst 1, 1) := by decide +kernel
theorem dX5_checkVariant_7 : decode cX5_checkVariant 7 = .ok (.isub, 1) := by decide +kernel
theorem dX5_checkVariant_8 : decode cX5_checkVariant 8 = .ok (.invokestatic 22, 3) := by decide +kernel
theorem dX5_checkVariant_11 : decode cX5_checkVariant 11 = .ok (.ifCond .eq 14, 3) := by decide +kernel
theorem dX5_checkVariant_14 : decode cX5_checkVariant 14 = .ok (.new 121, 3) := by decide +kernel
theorem dX5_checkVariant_17 : decode cX5_checkVariant 17 = .ok (.dup, 1) := by decide +kernel
theorem dX5_checkVariant_18 : decode cX5_checkVariant 18 = .ok (.ldc_w 306, 3) := by decide +kernel
theorem dX5_checkVariant_21 : decode cX5_checkVariant 21 = .ok (.invokespecial 125, 3) := by decide +kernel
theorem dX5_checkVariant_24 : decode cX5_checkVariant 24 = .ok (.athrow, 1) := by decide +kernel
theorem dX5_checkVariant_25 : decode cX5_checkVariant 25 = .ok (.return_, 1) := by decide +kernel
theorem dX5_checkAsker_0 : decode cX5_checkAsker 0 = .ok (.iload_n 0, 1) := by decide +kernel
theorem dX5_checkAsker_1 : decode cX5_checkAsker 1 = .ok (.iconst 0, 1) := by decide +kernel
theorem dX5_checkAsker_2 : decode cX5_checkAsker 2 = .ok (.sipush 9999, 3) := by decide +kernel
theorem dX5_checkAsker_5 : decode cX5_checkAsker 5 = .ok (.invokestatic 22, 3) := by decide +kernel
theorem dX5_checkAsker_8 : decode cX5_checkAsker 8 = .ok (.ifCond .ne 23, 3) := by decide +kernel
theorem dX5_checkAsker_11 : decode cX5_checkAsker 11 = .ok (.iload_n 1, 1) := by decide +kernel
theorem dX5_checkAsker_12 : decode cX5_checkAsker 12 = .ok (.iconst 0, 1) := by decide +kernel
theorem dX5_checkAsker_13 : decode cX5_checkAsker 13 = .ok (.bipush 9, 2) := by decide +kernel
theorem dX5_checkAsker_15 : decode cX5_checkAsker 15 = .ok (.invokestatic 22, 3) := by decide +kernel
theorem dX5_checkAsker_18 : decode cX5_checkAsker 18 = .ok (.ifCond .ne 13, 3) := by decide +kernel
theorem dX5_checkAsker_21 : decode cX5_checkAsker 21 = .ok (.iload_n 2, 1) := by decide +kernel
theorem dX5_checkAsker_22 : decode cX5_checkAsker 22 = .ok (.iconst 0, 1) := by decide +kernel
theorem dX5_checkAsker_23 : decode cX5_checkAsker 23 = .ok (.bipush 9, 2) := by decide +kernel
theorem dX5_checkAsker_25 : decode cX5_checkAsker 25 = .ok (.invokestatic 22, 3) := by decide +kernel
theorem dX5_checkAsker_28 : decode cX5_checkAsker 28 = .ok (.ifCond .eq 14, 3) := by decide +kernel
theorem dX5_checkAsker_31 : decode cX5_checkAsker 31 = .ok (.new 26, 3) := by decide +kernel
theorem dX5_checkAsker_34 : decode cX5_checkAsker 34 = .ok (.dup, 1) := by decide +kernel
theorem dX5_checkAsker_35 : decode cX5_checkAsker 35 = .ok (.ldc_w 308, 3) := by decide +kernel
theorem dX5_checkAsker_38 : decode cX5_checkAsker 38 = .ok (.invokespecial 30, 3) := by decide +kernel
theorem dX5_checkAsker_41 : decode cX5_checkAsker 41 = .ok (.athrow, 1) := by decide +kernel
theorem dX5_checkAsker_42 : decode cX5_checkAsker 42 = .ok (.return_, 1) := by decide +kernel
theorem dX5_checkMany_0 : decode cX5_checkMany 0 = .ok (.iload_n 0, 1) := by decide +kernel
theorem dX5_checkMany_1 : decode cX5_checkMany 1 = .ok (.iconst 1, 1) := by decide +kernel
theorem dX5_checkMany_2 : decode cX5_checkMany 2 = .ok (.sipush 200, 3) := by decide +kernel
theorem dX5_checkMany_5 : decode cX5_checkMany 5 = .ok (.invokestatic 22, 3) := by decide +kernel
theorem dX5_checkMany_8 : decode cX5_checkMany 8 = .ok (.ifCond .eq 14, 3) := by decide +kernel
theorem dX5_checkMany_11 : decode cX5_checkMany 11 = .ok (.new 26, 3) := by decide +kernel
theorem dX5_checkMany_14 : decode cX5_checkMany 14 = .ok (.dup, 1) := by decide +kernel
theorem dX5_checkMany_15 : decode cX5_checkMany 15 = .ok (.ldc_w 310, 3) := by decide +kernel
theorem dX5_checkMany_18 : decode cX5_checkMany 18 = .ok (.invokespecial 30, 3) := by decide +kernel
theorem dX5_checkMany_21 : decode cX5_checkMany 21 = .ok (.athrow, 1) := by decide +kernel
theorem dX5_checkMany_22 : decode cX5_checkMany 22 = .ok (.return_, 1) := by decide +kernel
theorem dX5_checkRange_0 : decode cX5_checkRange 0 = .ok (.iload_n 0, 1) := by decide +kernel
theorem dX5_checkRange_1 : decode cX5_checkRange 1 = .ok (.iconst 0, 1) := by decide +kernel
theorem dX5_checkRange_2 : decode cX5_checkRange 2 = .ok (.iconst 2, 1) := by decide +kernel
theorem dX5_checkRange_3 : decode cX5_checkRange 3 = .ok (.invokestatic 22, 3) := by decide +kernel
theorem dX5_checkRange_6 : decode cX5_checkRange 6 = .ok (.ifCond .ne 19, 3) := by decide +kernel
theorem dX5_checkRange_9 : decode cX5_checkRange 9 = .ok (.iload_n 1, 1) := by decide +kernel
theorem dX5_checkRange_10 : decode cX5_checkRange 10 = .ok (.ifCond .lt 15, 3) := by decide +kernel
theorem dX5_checkRange_13 : decode cX5_checkRange 13 = .ok (.iload_n 1, 1) := by decide +kernel
theorem dX5_checkRange_14 : decode cX5_checkRange 14 = .ok (.iload_n 2, 1) := by decide +kernel
theorem dX5_checkRange_15 : decode cX5_checkRange 15 = .ok (.if_icmp .gt 10, 3) := by decide +kernel
theorem dX5_checkRange_18 : decode cX5_checkRange 18 = .ok (.iload_n 2, 1) := by decide +kernel
theorem dX5_checkRange_19 : decode cX5_checkRange 19 = .ok (.sipush 1000, 3) := by decide +kernel
theorem dX5_checkRange_22 : decode cX5_checkRange 22 = .ok (.if_icmp .le 14, 3) := by decide +kernel
theorem dX5_checkRange_25 : decode cX5_checkRange 25 = .ok (.new 26, 3) := by decide +kernel
theorem dX5_checkRange_28 : decode cX5_checkRange 28 = .ok (.dup, 1) := by decide +kernel
theorem dX5_checkRange_29 : decode cX5_checkRange 29 = .ok (.ldc_w 312, 3) := by decide +kernel
theorem dX5_checkRange_32 : decode cX5_checkRange 32 = .ok (.invokespecial 30, 3) := by decide +kernel
theorem dX5_checkRange_35 : decode cX5_checkRange 35 = .ok (.athrow, 1) := by decide +kernel
theorem dX5_checkRange_36 : decode cX5_checkRange 36 = .ok (.return_, 1) := by decide +kernel
theorem dX5_isTaken_0 : decode cX5_isTaken 0 = .ok (.aload_n 0, 1) := by decide +kernel
theorem dX5_isTaken_1 : decode cX5_isTaken 1 = .ok (.getfield 11, 3) := by decide +kernel
theorem dX5_isTaken_4 : decode cX5_isTaken 4 = .ok (.astore 5, 2) := by decide +kernel
theorem dX5_isTaken_6 : decode cX5_isTaken 6 = .ok (.aload 5, 2) := by decide +kernel
theorem dX5_isTaken_8 : decode cX5_isTaken 8 = .ok (.arraylength, 1) := by decide +kernel
theorem dX5_isTaken_9 : decode cX5_isTaken 9 = .ok (.istore 6, 2) := by decide +kernel
theorem dX5_isTaken_11 : decode cX5_isTaken 11 = .ok (.iconst 0, 1) := by decide +kernel
theorem dX5_isTaken_12 : decode cX5_isTaken 12 = .ok (.istore 7, 2) := by decide +kernel
theorem dX5_isTaken_14 : decode cX5_isTaken 14 = .ok (.iload 7, 2) := by decide +kernel
theorem dX5_isTaken_16 : decode cX5_isTaken 16 = .ok (.iload 6, 2) := by decide +kernel
theorem dX5_isTaken_18 : decode cX5_isTaken 18 = .ok (.if_icmp .ge 52, 3) := by decide +kernel
theorem dX5_isTaken_21 : decode cX5_isTaken 21 = .ok (.aload 5, 2) := by decide +kernel
theorem dX5_isTaken_23 : decode cX5_isTaken 23 = .ok (.iload 7, 2) := by decide +kernel
theorem dX5_isTaken_25 : decode cX5_isTaken 25 = .ok (.aaload, 1) := by decide +kernel
theorem dX5_isTaken_26 : decode cX5_isTaken 26 = .ok (.astore 8, 2) := by decide +kernel
theorem dX5_isTaken_28 : decode cX5_isTaken 28 = .ok (.aload 8, 2) := by decide +kernel
theorem dX5_isTaken_30 : decode cX5_isTaken 30 = .ok (.ifnull 34, 3) := by decide +kernel
theorem dX5_isTaken_33 : decode cX5_isTaken 33 = .ok (.aload 8, 2) := by decide +kernel
theorem dX5_isTaken_35 : decode cX5_isTaken 35 = .ok (.getfield 314, 3) := by decide +kernel
theorem dX5_isTaken_38 : decode cX5_isTaken 38 = .ok (.iload_n 1, 1) := by decide +kernel
theorem dX5_isTaken_39 : decode cX5_isTaken 39 = .ok (.if_icmp .eq 25, 3) := by decide +kernel
theorem dX5_isTaken_42 : decode cX5_isTaken 42 = .ok (.aload 8, 2) := by decide +kernel
theorem dX5_isTaken_44 : decode cX5_isTaken 44 = .ok (.getfield 88, 3) := by decide +kernel
theorem dX5_isTaken_47 : decode cX5_isTaken 47 = .ok (.iload_n 2, 1) := by decide +kernel
theorem dX5_isTaken_48 : decode cX5_isTaken 48 = .ok (.if_icmp .ne 16, 3) := by decide +kernel
theorem dX5_isTaken_51 : decode cX5_isTaken 51 = .ok (.aload 8, 2) := by decide +kernel
theorem dX5_isTaken_53 : decode cX5_isTaken 53 = .ok (.iload_n 3, 1) := by decide +kernel
theorem dX5_isTaken_54 : decode cX5_isTaken 54 = .ok (.iload 4, 2) := by decide +kernel
theorem dX5_isTaken_56 : decode cX5_isTaken 56 = .ok (.invokevirtual 317, 3) := by decide +kernel
theorem dX5_isTaken_59 : decode cX5_isTaken 59 = .ok (.ifCond .eq 5, 3) := by decide +kernel
theorem dX5_isTaken_62 : decode cX5_isTaken 62 = .ok (.iconst 1, 1) := by decide +kernel
theorem dX5_isTaken_63 : decode cX5_isTaken 63 = .ok (.ireturn, 1) := by decide +kernel
theorem dX5_isTaken_64 : decode cX5_isTaken 64 = .ok (.iinc 7 1, 3) := by decide +kernel
theorem dX5_isTaken_67 : decode cX5_isTaken 67 = .ok (.goto (-53), 3) := by decide +kernel
theorem dX5_isTaken_70 : decode cX5_isTaken 70 = .ok (.iconst 0, 1) := by decide +kernel
theorem dX5_isTaken_71 : decode cX5_isTaken 71 = .ok (.ireturn, 1) := by decide +kernel
theorem dX5_variantOf_0 : decode cX5_variantOf 0 = .ok (.aload_n 0, 1) := by decide +kernel
theorem dX5_variantOf_1 : decode cX5_variantOf 1 = .ok (.aload_n 1, 1) := by decide +kernel
theorem dX5_variantOf_2 : decode cX5_variantOf 2 = .ok (.aload_n 0, 1) := by decide +kernel
theorem dX5_variantOf_3 : decode cX5_variantOf 3 = .ok (.aload_n 1, 1) := by decide +kernel
theorem dX5_variantOf_4 : decode cX5_variantOf 4 = .ok (.invokevirtual 155, 3) := by decide +kernel
theorem dX5_variantOf_7 : decode cX5_variantOf 7 = .ok (.invokevirtual 161, 3) := by decide +kernel
theorem dX5_variantOf_10 : decode cX5_variantOf 10 = .ok (.ireturn, 1) := by decide +kernel
theorem dX5_variantBy_0 : decode cX5_variantBy 0 = .ok (.iload_n 2, 1) := by decide +kernel
theorem dX5_variantBy_1 : decode cX5_variantBy 1 = .ok (.lookupswitch 118 #[(2, 35), (3, 60), (8, 99)], 35) := by decide +kernel
theorem dX5_variantBy_36 : decode cX5_variantBy 36 = .ok (.aload_n 1, 1) := by decide +kernel
theorem dX5_variantBy_37 : decode cX5_variantBy 37 = .ok (.aload_n 0, 1) := by decide +kernel
theorem dX5_variantBy_38 : decode cX5_variantBy 38 = .ok (.getfield 18, 3) := by decide +kernel
theorem dX5_variantBy_41 : decode cX5_variantBy 41 = .ok (.getfield 320, 3) := by decide +kernel
theorem dX5_variantBy_44 : decode cX5_variantBy 44 = .ok (.invokevirtual 168, 3) := by decide +kernel
theorem dX5_variantBy_47 : decode cX5_variantBy 47 = .ok (.astore_n 3, 1) := by decide +kernel
theorem dX5_variantBy_48 : decode cX5_variantBy 48 = .ok (.aload_n 3, 1) := by decide +kernel
theorem dX5_variantBy_49 : decode cX5_variantBy 49 = .ok (.ifnonnull 7, 3) := by decide +kernel
theorem dX5_variantBy_52 : decode cX5_variantBy 52 = .ok (.iconst 0, 1) := by decide +kernel
theorem dX5_variantBy_53 : decode cX5_variantBy 53 = .ok (.goto 7, 3) := by decide +kernel
theorem dX5_variantBy_56 : decode cX5_variantBy 56 = .ok (.aload_n 3, 1) := by decide +kernel
theorem dX5_variantBy_57 : decode cX5_variantBy 57 = .ok (.getfield 183, 3) := by decide +kernel
theorem dX5_variantBy_60 : decode cX5_variantBy 60 = .ok (.ireturn, 1) := by decide +kernel
theorem dX5_variantBy_61 : decode cX5_variantBy 61 = .ok (.aload_n 1, 1) := by decide +kernel
theorem dX5_variantBy_62 : decode cX5_variantBy 62 = .ok (.aload_n 1, 1) := by decide +kernel
theorem dX5_variantBy_63 : decode cX5_variantBy 63 = .ok (.aload_n 0, 1) := by decide +kernel
theorem dX5_variantBy_64 : decode cX5_variantBy 64 = .ok (.getfield 18, 3) := by decide +kernel
theorem dX5_variantBy_67 : decode cX5_variantBy 67 = .ok (.getfield 323, 3) := by decide +kernel
theorem dX5_variantBy_70 : decode cX5_variantBy 70 = .ok (.aload_n 0, 1) := by decide +kernel
theorem dX5_variantBy_71 : decode cX5_variantBy 71 = .ok (.getfield 18, 3) := by decide +kernel
theorem dX5_variantBy_74 : decode cX5_variantBy 74 = .ok (.getfield 326, 3) := by decide +kernel
theorem dX5_variantBy_77 : decode cX5_variantBy 77 = .ok (.invokevirtual 158, 3) := by decide +kernel
theorem dX5_variantBy_80 : decode cX5_variantBy 80 = .ok (.invokevirtual 329, 3) := by decide +kernel
theorem dX5_variantBy_83 : decode cX5_variantBy 83 = .ok (.astore 4, 2) := by decide +kernel
theorem dX5_variantBy_85 : decode cX5_variantBy 85 = .ok (.aload 4, 2) := by decide +kernel
theorem dX5_variantBy_87 : decode cX5_variantBy 87 = .ok (.ifnonnull 7, 3) := by decide +kernel
theorem dX5_variantBy_90 : decode cX5_variantBy 90 = .ok (.iconst 0, 1) := by decide +kernel
theorem dX5_variantBy_91 : decode cX5_variantBy 91 = .ok (.goto 8, 3) := by decide +kernel
theorem dX5_variantBy_94 : decode cX5_variantBy 94 = .ok (.aload 4, 2) := by decide +kernel
theorem dX5_variantBy_96 : decode cX5_variantBy 96 = .ok (.getfield 333, 3) := by decide +kernel
theorem dX5_variantBy_99 : decode cX5_variantBy 99 = .ok (.ireturn, 1) := by decide +kernel
theorem dX5_variantBy_100 : decode cX5_variantBy 100 = .ok (.aload_n 1, 1) := by decide +kernel
theorem dX5_variantBy_101 : decode cX5_variantBy 101 = .ok (.aload_n 1, 1) := by decide +kernel
theorem dX5_variantBy_102 : decode cX5_variantBy 102 = .ok (.getfield 334, 3) := by decide +kernel
theorem dX5_variantBy_105 : decode cX5_variantBy 105 = .ok (.aload_n 0, 1) := by decide +kernel
theorem dX5_variantBy_106 : decode cX5_variantBy 106 = .ok (.getfield 18, 3) := by decide +kernel
theorem dX5_variantBy_109 : decode cX5_variantBy 109 = .ok (.getfield 320, 3) := by decide +kernel
theorem dX5_variantBy_112 : decode cX5_variantBy 112 = .ok (.invokestatic 141, 3) := by decide +kernel
theorem dX5_variantBy_115 : decode cX5_variantBy 115 = .ok (.invokevirtual 337, 3) := by decide +kernel
theorem dX5_variantBy_118 : decode cX5_variantBy 118 = .ok (.ireturn, 1) := by decide +kernel
theorem dX5_variantBy_119 : decode cX5_variantBy 119 = .ok (.iconst 0, 1) := by decide +kernel
theorem dX5_variantBy_120 : decode cX5_variantBy 120 = .ok (.ireturn, 1) := by decide +kernel
theorem dX5_reasonOf_0 : decode cX5_reasonOf 0 = .ok (.aload_n 0, 1) := by decide +kernel
theorem dX5_reasonOf_1 : decode cX5_reasonOf 1 = .ok (.getfield 18, 3) := by decide +kernel
theorem dX5_reasonOf_4 : decode cX5_reasonOf 4 = .ok (.aload_n 1, 1) := by decide +kernel
theorem dX5_reasonOf_5 : decode cX5_reasonOf 5 = .ok (.invokevirtual 340, 3) := by decide +kernel
theorem dX5_reasonOf_8 : decode cX5_reasonOf 8 = .ok (.ifCond .ne 5, 3) := by decide +kernel
theorem dX5_reasonOf_11 : decode cX5_reasonOf 11 = .ok (.iconst 0, 1) := by decide +kernel
theorem dX5_reasonOf_12 : decode cX5_reasonOf 12 = .ok (.ireturn, 1) := by decide +kernel
theorem dX5_reasonOf_13 : decode cX5_reasonOf 13 = .ok (.aload_n 0, 1) := by decide +kernel
theorem dX5_reasonOf_14 : decode cX5_reasonOf 14 = .ok (.aload_n 1, 1) := by decide +kernel
theorem dX5_reasonOf_15 : decode cX5_reasonOf 15 = .ok (.invokevirtual 344, 3) := by decide +kernel
theorem dX5_reasonOf_18 : decode cX5_reasonOf 18 = .ok (.ifCond .ne 5, 3) := by decide +kernel
theorem dX5_reasonOf_21 : decode cX5_reasonOf 21 = .ok (.iconst 1, 1) := by decide +kernel
theorem dX5_reasonOf_22 : decode cX5_reasonOf 22 = .ok (.ireturn, 1) := by decide +kernel
theorem dX5_reasonOf_23 : decode cX5_reasonOf 23 = .ok (.aload_n 1, 1) := by decide +kernel
theorem dX5_reasonOf_24 : decode cX5_reasonOf 24 = .ok (.getfield 347, 3) := by decide +kernel
theorem dX5_reasonOf_27 : decode cX5_reasonOf 27 = .ok (.ifCond .eq 19, 3) := by decide +kernel
theorem dX5_reasonOf_30 : decode cX5_reasonOf 30 = .ok (.aload_n 1, 1) := by decide +kernel
theorem dX5_reasonOf_31 : decode cX5_reasonOf 31 = .ok (.aload_n 0, 1) := by decide +kernel
theorem dX5_reasonOf_32 : decode cX5_reasonOf 32 = .ok (.getfield 18, 3) := by decide +kernel
theorem dX5_reasonOf_35 : decode cX5_reasonOf 35 = .ok (.getfield 320, 3) := by decide +kernel
theorem dX5_reasonOf_38 : decode cX5_reasonOf 38 = .ok (.invokevirtual 168, 3) := by decide +kernel
theorem dX5_reasonOf_41 : decode cX5_reasonOf 41 = .ok (.ifnull 5, 3) := by decide +kernel
theorem dX5_reasonOf_44 : decode cX5_reasonOf 44 = .ok (.iconst 2, 1) := by decide +kernel
theorem dX5_reasonOf_45 : decode cX5_reasonOf 45 = .ok (.ireturn, 1) := by decide +kernel
theorem dX5_reasonOf_46 : decode cX5_reasonOf 46 = .ok (.aload_n 1, 1) := by decide +kernel
theorem dX5_reasonOf_47 : decode cX5_reasonOf 47 = .ok (.aload_n 1, 1) := by decide +kernel
theorem dX5_reasonOf_48 : decode cX5_reasonOf 48 = .ok (.aload_n 0, 1) := by decide +kernel
theorem dX5_reasonOf_49 : decode cX5_reasonOf 49 = .ok (.getfield 18, 3) := by decide +kernel
theorem dX5_reasonOf_52 : decode cX5_reasonOf 52 = .ok (.getfield 323, 3) := by decide +kernel
theorem dX5_reasonOf_55 : decode cX5_reasonOf 55 = .ok (.aload_n 0, 1) := by decide +kernel
theorem dX5_reasonOf_56 : decode cX5_reasonOf 56 = .ok (.getfield 18, 3) := by decide +kernel
theorem dX5_reasonOf_59 : decode cX5_reasonOf 59 = .ok (.getfield 326, 3) := by decide +kernel
theorem dX5_reasonOf_62 : decode cX5_reasonOf 62 = .ok (.invokevirtual 158, 3) := by decide +kernel
theorem dX5_reasonOf_65 : decode cX5_reasonOf 65 = .ok (.invokevirtual 329, 3) := by decide +kernel
theorem dX5_reasonOf_68 : decode cX5_reasonOf 68 = .ok (.astore_n 2, 1) := by decide +kernel
theorem dX5_reasonOf_69 : decode cX5_reasonOf 69 = .ok (.aload_n 2, 1) := by decide +kernel
theorem dX5_reasonOf_70 : decode cX5_reasonOf 70 = .ok (.ifnull 13, 3) := by decide +kernel
theorem dX5_reasonOf_73 : decode cX5_reasonOf 73 = .ok (.aload_n 2, 1) := by decide +kernel
theorem dX5_reasonOf_74 : decode cX5_reasonOf 74 = .ok (.getfield 333, 3) := by decide +kernel
theorem dX5_reasonOf_77 : decode cX5_reasonOf 77 = .ok (.iconst (-1), 1) := by decide +kernel
theorem dX5_reasonOf_78 : decode cX5_reasonOf 78 = .ok (.if_icmp .eq 5, 3) := by decide +kernel
theorem dX5_reasonOf_81 : decode cX5_reasonOf 81 = .ok (.iconst 3, 1) := by decide +kernel
theorem dX5_reasonOf_82 : decode cX5_reasonOf 82 = .ok (.ireturn, 1) := by decide +kernel
theorem dX5_reasonOf_83 : decode cX5_reasonOf 83 = .ok (.sipush 999, 3) := by decide +kernel
theorem dX5_reasonOf_86 : decode cX5_reasonOf 86 = .ok (.aload_n 0, 1) := by decide +kernel
theorem dX5_reasonOf_87 : decode cX5_reasonOf 87 = .ok (.getfield 18, 3) := by decide +kernel
theorem dX5_reasonOf_90 : decode cX5_reasonOf 90 = .ok (.getfield 320, 3) := by decide +kernel
theorem dX5_reasonOf_93 : decode cX5_reasonOf 93 = .ok (.invokestatic 141, 3) := by decide +kernel
theorem dX5_reasonOf_96 : decode cX5_reasonOf 96 = .ok (.aload_n 0, 1) := by decide +kernel
theorem dX5_reasonOf_97 : decode cX5_reasonOf 97 = .ok (.getfield 132, 3) := by decide +kernel
theorem dX5_reasonOf_100 : decode cX5_reasonOf 100 = .ok (.if_icmp .ge 5, 3) := by decide +kernel
theorem dX5_reasonOf_103 : decode cX5_reasonOf 103 = .ok (.iconst 4, 1) := by decide +kernel
theorem dX5_reasonOf_104 : decode cX5_reasonOf 104 = .ok (.ireturn, 1) := by decide +kernel
theorem dX5_reasonOf_105 : decode cX5_reasonOf 105 = .ok (.aload_n 0, 1) := by decide +kernel
theorem dX5_reasonOf_106 : decode cX5_reasonOf 106 = .ok (.aload_n 1, 1) := by decide +kernel
theorem dX5_reasonOf_107 : decode cX5_reasonOf 107 = .ok (.invokevirtual 350, 3) := by decide +kernel
theorem dX5_reasonOf_110 : decode cX5_reasonOf 110 = .ok (.ifCond .ne 5, 3) := by decide +kernel
theorem dX5_reasonOf_113 : decode cX5_reasonOf 113 = .ok (.iconst 5, 1) := by decide +kernel
theorem dX5_reasonOf_114 : decode cX5_reasonOf 114 = .ok (.ireturn, 1) := by decide +kernel
theorem dX5_reasonOf_115 : decode cX5_reasonOf 115 = .ok (.aload_n 1, 1) := by decide +kernel
theorem dX5_reasonOf_116 : decode cX5_reasonOf 116 = .ok (.getfield 334, 3) := by decide +kernel
theorem dX5_reasonOf_119 : decode cX5_reasonOf 119 = .ok (.iconst 1, 1) := by decide +kernel
theorem dX5_reasonOf_120 : decode cX5_reasonOf 120 = .ok (.iadd, 1) := by decide +kernel
theorem dX5_reasonOf_121 : decode cX5_reasonOf 121 = .ok (.aload_n 0, 1) := by decide +kernel
theorem dX5_reasonOf_122 : decode cX5_reasonOf 122 = .ok (.getfield 18, 3) := by decide +kernel
theorem dX5_reasonOf_125 : decode cX5_reasonOf 125 = .ok (.getfield 320, 3) := by decide +kernel
theorem dX5_reasonOf_128 : decode cX5_reasonOf 128 = .ok (.invokestatic 141, 3) := by decide +kernel
theorem dX5_reasonOf_131 : decode cX5_reasonOf 131 = .ok (.aload_n 0, 1) := by decide +kernel
theorem dX5_reasonOf_132 : decode cX5_reasonOf 132 = .ok (.getfield 18, 3) := by decide +kernel
theorem dX5_reasonOf_135 : decode cX5_reasonOf 135 = .ok (.aload_n 1, 1) := by decide +kernel
theorem dX5_reasonOf_136 : decode cX5_reasonOf 136 = .ok (.aload_n 0, 1) := by decide +kernel
theorem dX5_reasonOf_137 : decode cX5_reasonOf 137 = .ok (.getfield 69, 3) := by decide +kernel
theorem dX5_reasonOf_140 : decode cX5_reasonOf 140 = .ok (.invokevirtual 353, 3) := by decide +kernel
theorem dX5_reasonOf_143 : decode cX5_reasonOf 143 = .ok (.if_icmp .lt 6, 3) := by decide +kernel
theorem dX5_reasonOf_146 : decode cX5_reasonOf 146 = .ok (.bipush 6, 2) := by decide +kernel
theorem dX5_reasonOf_148 : decode cX5_reasonOf 148 = .ok (.ireturn, 1) := by decide +kernel
theorem dX5_reasonOf_149 : decode cX5_reasonOf 149 = .ok (.aload_n 2, 1) := by decide +kernel
theorem dX5_reasonOf_150 : decode cX5_reasonOf 150 = .ok (.ifnonnull 15, 3) := by decide +kernel
theorem dX5_reasonOf_153 : decode cX5_reasonOf 153 = .ok (.aload_n 1, 1) := by decide +kernel
theorem dX5_reasonOf_154 : decode cX5_reasonOf 154 = .ok (.getfield 107, 3) := by decide +kernel
theorem dX5_reasonOf_157 : decode cX5_reasonOf 157 = .ok (.ifCond .le 8, 3) := by decide +kernel
theorem dX5_reasonOf_160 : decode cX5_reasonOf 160 = .ok (.bipush 7, 2) := by decide +kernel
theorem dX5_reasonOf_162 : decode cX5_reasonOf 162 = .ok (.goto 5, 3) := by decide +kernel
theorem dX5_reasonOf_165 : decode cX5_reasonOf 165 = .ok (.bipush 8, 2) := by decide +kernel
theorem dX5_reasonOf_167 : decode cX5_reasonOf 167 = .ok (.ireturn, 1) := by decide +kernel
theorem dX5_hasNeed_0 : decode cX5_hasNeed 0 = .ok (.aload_n 1, 1) := by decide +kernel
theorem dX5_hasNeed_1 : decode cX5_hasNeed 1 = .ok (.getfield 99, 3) := by decide +kernel
theorem dX5_hasNeed_4 : decode cX5_hasNeed 4 = .ok (.aload_n 1, 1) := by decide +kernel
theorem dX5_hasNeed_5 : decode cX5_hasNeed 5 = .ok (.getfield 314, 3) := by decide +kernel
theorem dX5_hasNeed_8 : decode cX5_hasNeed 8 = .ok (.if_icmp .ge 14, 3) := by decide +kernel
theorem dX5_hasNeed_11 : decode cX5_hasNeed 11 = .ok (.aload_n 0, 1) := by decide +kernel
theorem dX5_hasNeed_12 : decode cX5_hasNeed 12 = .ok (.aload_n 1, 1) := by decide +kernel
theorem dX5_hasNeed_13 : decode cX5_hasNeed 13 = .ok (.getfield 99, 3) := by decide +kernel
theorem dX5_hasNeed_16 : decode cX5_hasNeed 16 = .ok (.invokevirtual 301, 3) := by decide +kernel
theorem dX5_hasNeed_19 : decode cX5_hasNeed 19 = .ok (.goto 4, 3) := by decide +kernel
theorem dX5_hasNeed_22 : decode cX5_hasNeed 22 = .ok (.aconst_null, 1) := by decide +kernel
theorem dX5_hasNeed_23 : decode cX5_hasNeed 23 = .ok (.astore_n 2, 1) := by decide +kernel
theorem dX5_hasNeed_24 : decode cX5_hasNeed 24 = .ok (.aload_n 2, 1) := by decide +kernel
theorem dX5_hasNeed_25 : decode cX5_hasNeed 25 = .ok (.ifnull 15, 3) := by decide +kernel
theorem dX5_hasNeed_28 : decode cX5_hasNeed 28 = .ok (.aload_n 0, 1) := by decide +kernel
theorem dX5_hasNeed_29 : decode cX5_hasNeed 29 = .ok (.aload_n 2, 1) := by decide +kernel
theorem dX5_hasNeed_30 : decode cX5_hasNeed 30 = .ok (.invokevirtual 151, 3) := by decide +kernel
theorem dX5_hasNeed_33 : decode cX5_hasNeed 33 = .ok (.aload_n 1, 1) := by decide +kernel
theorem dX5_hasNeed_34 : decode cX5_hasNeed 34 = .ok (.getfield 102, 3) := by decide +kernel
theorem dX5_hasNeed_37 : decode cX5_hasNeed 37 = .ok (.if_icmp .ne 7, 3) := by decide +kernel
theorem dX5_hasNeed_40 : decode cX5_hasNeed 40 = .ok (.iconst 1, 1) := by decide +kernel
theorem dX5_hasNeed_41 : decode cX5_hasNeed 41 = .ok (.goto 4, 3) := by decide +kernel
theorem dX5_hasNeed_44 : decode cX5_hasNeed 44 = .ok (.iconst 0, 1) := by decide +kernel
theorem dX5_hasNeed_45 : decode cX5_hasNeed 45 = .ok (.ireturn, 1) := by decide +kernel
theorem dX5_isInLayer_0 : decode cX5_isInLayer 0 = .ok (.aload_n 1, 1) := by decide +kernel
theorem dX5_isInLayer_1 : decode cX5_isInLayer 1 = .ok (.getfield 88, 3) := by decide +kernel
theorem dX5_isInLayer_4 : decode cX5_isInLayer 4 = .ok (.iconst (-1), 1) := by decide +kernel
theorem dX5_isInLayer_5 : decode cX5_isInLayer 5 = .ok (.if_icmp .ne 5, 3) := by decide +kernel
theorem dX5_isInLayer_8 : decode cX5_isInLayer 8 = .ok (.iconst 1, 1) := by decide +kernel
theorem dX5_isInLayer_9 : decode cX5_isInLayer 9 = .ok (.ireturn, 1) := by decide +kernel
theorem dX5_isInLayer_10 : decode cX5_isInLayer 10 = .ok (.sipush 500, 3) := by decide +kernel
theorem dX5_isInLayer_13 : decode cX5_isInLayer 13 = .ok (.aload_n 1, 1) := by decide +kernel
theorem dX5_isInLayer_14 : decode cX5_isInLayer 14 = .ok (.getfield 88, 3) := by decide +kernel
theorem dX5_isInLayer_17 : decode cX5_isInLayer 17 = .ok (.iadd, 1) := by decide +kernel
theorem dX5_isInLayer_18 : decode cX5_isInLayer 18 = .ok (.aload_n 0, 1) := by decide +kernel
theorem dX5_isInLayer_19 : decode cX5_isInLayer 19 = .ok (.getfield 18, 3) := by decide +kernel
theorem dX5_isInLayer_22 : decode cX5_isInLayer 22 = .ok (.getfield 320, 3) := by decide +kernel
theorem dX5_isInLayer_25 : decode cX5_isInLayer 25 = .ok (.invokestatic 141, 3) := by decide +kernel
theorem dX5_isInLayer_28 : decode cX5_isInLayer 28 = .ok (.istore_n 2, 1) := by decide +kernel
theorem dX5_isInLayer_29 : decode cX5_isInLayer 29 = .ok (.iload_n 2, 1) := by decide +kernel
theorem dX5_isInLayer_30 : decode cX5_isInLayer 30 = .ok (.aload_n 1, 1) := by decide +kernel
theorem dX5_isInLayer_31 : decode cX5_isInLayer 31 = .ok (.getfield 91, 3) := by decide +kernel
theorem dX5_isInLayer_34 : decode cX5_isInLayer 34 = .ok (.if_icmp .lt 15, 3) := by decide +kernel
theorem dX5_isInLayer_37 : decode cX5_isInLayer 37 = .ok (.iload_n 2, 1) := by decide +kernel
theorem dX5_isInLayer_38 : decode cX5_isInLayer 38 = .ok (.aload_n 1, 1) := by decide +kernel
theorem dX5_isInLayer_39 : decode cX5_isInLayer 39 = .ok (.getfield 94, 3) := by decide +kernel
theorem dX5_isInLayer_42 : decode cX5_isInLayer 42 = .ok (.if_icmp .ge 7, 3) := by decide +kernel
theorem dX5_isInLayer_45 : decode cX5_isInLayer 45 = .ok (.iconst 1, 1) := by decide +kernel
theorem dX5_isInLayer_46 : decode cX5_isInLayer 46 = .ok (.goto 4, 3) := by decide +kernel
theorem dX5_isInLayer_49 : decode cX5_isInLayer 49 = .ok (.iconst 0, 1) := by decide +kernel
theorem dX5_isInLayer_50 : decode cX5_isInLayer 50 = .ok (.ireturn, 1) := by decide +kernel
theorem dX5_changesByTurning_0 : decode cX5_changesByTurning 0 = .ok (.iload_n 1, 1) := by decide +kernel
theorem dX5_changesByTurning_1 : decode cX5_changesByTurning 1 = .ok (.istore_n 3, 1) := by decide +kernel
theorem dX5_changesByTurning_2 : decode cX5_changesByTurning 2 = .ok (.iload_n 3, 1) := by decide +kernel
theorem dX5_changesByTurning_3 : decode cX5_changesByTurning 3 = .ok (.aload_n 0, 1) := by decide +kernel
theorem dX5_changesByTurning_4 : decode cX5_changesByTurning 4 = .ok (.getfield 33, 3) := by decide +kernel
theorem dX5_changesByTurning_7 : decode cX5_changesByTurning 7 = .ok (.if_icmp .ge 60, 3) := by decide +kernel
theorem dX5_changesByTurning_10 : decode cX5_changesByTurning 10 = .ok (.aload_n 0, 1) := by decide +kernel
theorem dX5_changesByTurning_11 : decode cX5_changesByTurning 11 = .ok (.iload_n 3, 1) := by decide +kernel
theorem dX5_changesByTurning_12 : decode cX5_changesByTurning 12 = .ok (.invokevirtual 301, 3) := by decide +kernel
theorem dX5_changesByTurning_15 : decode cX5_changesByTurning 15 = .ok (.astore 4, 2) := by decide +kernel
theorem dX5_changesByTurning_17 : decode cX5_changesByTurning 17 = .ok (.aload 4, 2) := by decide +kernel
theorem dX5_changesByTurning_19 : decode cX5_changesByTurning 19 = .ok (.ifnonnull 5, 3) := by decide +kernel
theorem dX5_changesByTurning_22 : decode cX5_changesByTurning 22 = .ok (.iconst 0, 1) := by decide +kernel
theorem dX5_changesByTurning_23 : decode cX5_changesByTurning 23 = .ok (.ireturn, 1) := by decide +kernel
theorem dX5_changesByTurning_24 : decode cX5_changesByTurning 24 = .ok (.aload_n 0, 1) := by decide +kernel
theorem dX5_changesByTurning_25 : decode cX5_changesByTurning 25 = .ok (.getfield 18, 3) := by decide +kernel
theorem dX5_changesByTurning_28 : decode cX5_changesByTurning 28 = .ok (.iload_n 2, 1) := by decide +kernel
theorem dX5_changesByTurning_29 : decode cX5_changesByTurning 29 = .ok (.invokevirtual 233, 3) := by decide +kernel
theorem dX5_changesByTurning_32 : decode cX5_changesByTurning 32 = .ok (.aload_n 0, 1) := by decide +kernel
theorem dX5_changesByTurning_33 : decode cX5_changesByTurning 33 = .ok (.aload 4, 2) := by decide +kernel
theorem dX5_changesByTurning_35 : decode cX5_changesByTurning 35 = .ok (.invokevirtual 151, 3) := by decide +kernel
theorem dX5_changesByTurning_38 : decode cX5_changesByTurning 38 = .ok (.istore 5, 2) := by decide +kernel
theorem dX5_changesByTurning_40 : decode cX5_changesByTurning 40 = .ok (.aload_n 0, 1) := by decide +kernel
theorem dX5_changesByTurning_41 : decode cX5_changesByTurning 41 = .ok (.getfield 18, 3) := by decide +kernel
theorem dX5_changesByTurning_44 : decode cX5_changesByTurning 44 = .ok (.iload_n 1, 1) := by decide +kernel
theorem dX5_changesByTurning_45 : decode cX5_changesByTurning 45 = .ok (.invokevirtual 356, 3) := by decide +kernel
theorem dX5_changesByTurning_48 : decode cX5_changesByTurning 48 = .ok (.aload_n 0, 1) := by decide +kernel
theorem dX5_changesByTurning_49 : decode cX5_changesByTurning 49 = .ok (.aload 4, 2) := by decide +kernel
theorem dX5_changesByTurning_51 : decode cX5_changesByTurning 51 = .ok (.invokevirtual 151, 3) := by decide +kernel
theorem dX5_changesByTurning_54 : decode cX5_changesByTurning 54 = .ok (.iload 5, 2) := by decide +kernel
theorem dX5_changesByTurning_56 : decode cX5_changesByTurning 56 = .ok (.if_icmp .eq 5, 3) := by decide +kernel
theorem dX5_changesByTurning_59 : decode cX5_changesByTurning 59 = .ok (.iconst 1, 1) := by decide +kernel
theorem dX5_changesByTurning_60 : decode cX5_changesByTurning 60 = .ok (.ireturn, 1) := by decide +kernel
theorem dX5_changesByTurning_61 : decode cX5_changesByTurning 61 = .ok (.iinc 3 1, 3) := by decide +kernel
theorem dX5_changesByTurning_64 : decode cX5_changesByTurning 64 = .ok (.goto (-62), 3) := by decide +kernel
theorem dX5_changesByTurning_67 : decode cX5_changesByTurning 67 = .ok (.iconst 0, 1) := by decide +kernel
theorem dX5_changesByTurning_68 : decode cX5_changesByTurning 68 = .ok (.ireturn, 1) := by decide +kernel
theorem dJ9_max_7cf53_0 : decode cJ9_max_7cf53 0 = .ok (.iload_n 0, 1) := by decide +kernel
theorem dJ9_max_7cf53_1 : decode cJ9_max_7cf53 1 = .ok (.iload_n 1, 1) := by decide +kernel
theorem dJ9_max_7cf53_2 : decode cJ9_max_7cf53 2 = .ok (.if_icmp .lt 7, 3) := by decide +kernel
theorem dJ9_max_7cf53_5 : decode cJ9_max_7cf53 5 = .ok (.iload_n 0, 1) := by decide +kernel
theorem dJ9_max_7cf53_6 : decode cJ9_max_7cf53 6 = .ok (.goto 4, 3) := by decide +kernel
theorem dJ9_max_7cf53_9 : decode cJ9_max_7cf53 9 = .ok (.iload_n 1, 1) := by decide +kernel
theorem dJ9_max_7cf53_10 : decode cJ9_max_7cf53 10 = .ok (.ireturn, 1) := by decide +kernel
theorem dJ9_min_7cf53_0 : decode cJ9_min_7cf53 0 = .ok (.iload_n 0, 1) := by decide +kernel
theorem dJ9_min_7cf53_1 : decode cJ9_min_7cf53 1 = .ok (.iload_n 1, 1) := by decide +kernel
theorem dJ9_min_7cf53_2 : decode cJ9_min_7cf53 2 = .ok (.if_icmp .gt 7, 3) := by decide +kernel
theorem dJ9_min_7cf53_5 : decode cJ9_min_7cf53 5 = .ok (.iload_n 0, 1) := by decide +kernel
theorem dJ9_min_7cf53_6 : decode cJ9_min_7cf53 6 = .ok (.goto 4, 3) := by decide +kernel
theorem dJ9_min_7cf53_9 : decode cJ9_min_7cf53 9 = .ok (.iload_n 1, 1) := by decide +kernel
theorem dJ9_min_7cf53_10 : decode cJ9_min_7cf53 10 = .ok (.ireturn, 1) := by decide +kernel
theorem dJ9_min_f86c9_0 : decode cJ9_min_f86c9 0 = .ok (.lload_n 0, 1) := by decide +kernel
theorem dJ9_min_f86c9_1 : decode cJ9_min_f86c9 1 = .ok (.lload_n 2, 1) := by decide +kernel
theorem dJ9_min_f86c9_2 : decode cJ9_min_f86c9 2 = .ok (.lcmp, 1) := by decide +kernel
theorem dJ9_min_f86c9_3 : decode cJ9_min_f86c9 3 = .ok (.ifCond .gt 7, 3) := by decide +kernel
theorem dJ9_min_f86c9_6 : decode cJ9_min_f86c9 6 = .ok (.lload_n 0, 1) := by decide +kernel
theorem dJ9_min_f86c9_7 : decode cJ9_min_f86c9 7 = .ok (.goto 4, 3) := by decide +kernel
theorem dJ9_min_f86c9_10 : decode cJ9_min_f86c9 10 = .ok (.lload_n 2, 1) := by decide +kernel
theorem dJ9_min_f86c9_11 : decode cJ9_min_f86c9 11 = .ok (.lreturn, 1) := by decide +kernel
end
section
theorem dX6_init_0 : decode cX6_init 0 = .ok (.aload_n 0, 1) := by decide +kernel
theorem dX6_init_1 : decode cX6_init 1 = .ok (.invokespecial 1, 3) := by decide +kernel
theorem dX6_init_4 : decode cX6_init 4 = .ok (.aload_n 0, 1) := by decide +kernel
theorem dX6_init_5 : decode cX6_init 5 = .ok (.bipush 8, 2) := by decide +kernel
theorem dX6_init_7 : decode cX6_init 7 = .ok (.newarray .int, 2) := by decide +kernel
theorem dX6_init_9 : decode cX6_init 9 = .ok (.putfield 9, 3) := by decide +kernel
theorem dX6_init_12 : decode cX6_init 12 = .ok (.aload_n 0, 1) := by decide +kernel
theorem dX6_init_13 : decode cX6_init 13 = .ok (.bipush 8, 2) := by decide +kernel
theorem dX6_init_15 : decode cX6_init 15 = .ok (.newarray .int, 2) := by decide +kernel
theorem dX6_init_17 : decode cX6_init 17 = .ok (.putfield 13, 3) := by decide +kernel
theorem dX6_init_20 : decode cX6_init 20 = .ok (.aload_n 0, 1) := by decide +kernel
theorem dX6_init_21 : decode cX6_init 21 = .ok (.bipush 32, 2) := by decide +kernel
theorem dX6_init_23 : decode cX6_init 23 = .ok (.newarray .int, 2) := by decide +kernel
theorem dX6_init_25 : decode cX6_init 25 = .ok (.putfield 16, 3) := by decide +kernel
theorem dX6_init_28 : decode cX6_init 28 = .ok (.aload_n 0, 1) := by decide +kernel
theorem dX6_init_29 : decode cX6_init 29 = .ok (.bipush 8, 2) := by decide +kernel
theorem dX6_init_31 : decode cX6_init 31 = .ok (.newarray .int, 2) := by decide +kernel
theorem dX6_init_33 : decode cX6_init 33 = .ok (.putfield 19, 3) := by decide +kernel
theorem dX6_init_36 : decode cX6_init 36 = .ok (.aload_n 0, 1) := by decide +kernel
theorem dX6_init_37 : decode cX6_init 37 = .ok (.bipush 8, 2) := by decide +kernel
theorem dX6_init_39 : decode cX6_init 39 = .ok (.newarray .int, 2) := by decide +kernel
theorem dX6_init_41 : decode cX6_init 41 = .ok (.putfield 22, 3) := by decide +kernel
theorem dX6_init_44 : decode cX6_init 44 = .ok (.aload_n 0, 1) := by decide +kernel
theorem dX6_init_45 : decode cX6_init 45 = .ok (.bipush 8, 2) := by decide +kernel
theorem dX6_init_47 : decode cX6_init 47 = .ok (.newarray .int, 2) := by decide +kernel
theorem dX6_init_49 : decode cX6_init 49 = .ok (.putfield 25, 3) := by decide +kernel
theorem dX6_init_52 : decode cX6_init 52 = .ok (.aload_n 0, 1) := by decide +kernel
theorem dX6_init_53 : decode cX6_init 53 = .ok (.bipush 8, 2) := by decide +kernel
theorem dX6_init_55 : decode cX6_init 55 = .ok (.newarray .boolean, 2) := by decide +kernel
theorem dX6_init_57 : decode cX6_init 57 = .ok (.putfield 28, 3) := by decide +kernel
theorem dX6_init_60 : decode cX6_init 60 = .ok (.aload_n 0, 1) := by decide +kernel
theorem dX6_init_61 : decode cX6_init 61 = .ok (.bipush 8, 2) := by decide +kernel
theorem dX6_init_63 : decode cX6_init 63 = .ok (.newarray .boolean, 2) := by decide +kernel
theorem dX6_init_65 : decode cX6_init 65 = .ok (.putfield 32, 3) := by decide +kernel
theorem dX6_init_68 : decode cX6_init 68 = .ok (.aload_n 0, 1) := by decide +kernel
theorem dX6_init_69 : decode cX6_init 69 = .ok (.bipush 8, 2) := by decide +kernel
theorem dX6_init_71 : decode cX6_init 71 = .ok (.newarray .int, 2) := by decide +kernel
theorem dX6_init_73 : decode cX6_init 73 = .ok (.putfield 35, 3) := by decide +kernel
theorem dX6_init_76 : decode cX6_init 76 = .ok (.aload_n 0, 1) := by decide +kernel
theorem dX6_init_77 : decode cX6_init 77 = .ok (.bipush 8, 2) := by decide +kernel
theorem dX6_init_79 : decode cX6_init 79 = .ok (.newarray .int, 2) := by decide +kernel
theorem dX6_init_81 : decode cX6_init 81 = .ok (.putfield 38, 3) := by decide +kernel
theorem dX6_init_84 : decode cX6_init 84 = .ok (.aload_n 0, 1) := by decide +kernel
theorem dX6_init_85 : decode cX6_init 85 = .ok (.bipush 8, 2) := by decide +kernel
theorem dX6_init_87 : decode cX6_init 87 = .ok (.newarray .int, 2) := by decide +kernel
theorem dX6_init_89 : decode cX6_init 89 = .ok (.putfield 41, 3) := by decide +kernel
theorem dX6_init_92 : decode cX6_init 92 = .ok (.aload_n 0, 1) := by decide +kernel
theorem dX6_init_93 : decode cX6_init 93 = .ok (.bipush 8, 2) := by decide +kernel
theorem dX6_init_95 : decode cX6_init 95 = .ok (.newarray .int, 2) := by decide +kernel
theorem dX6_init_97 : decode cX6_init 97 = .ok (.putfield 44, 3) := by decide +kernel
theorem dX6_init_100 : decode cX6_init 100 = .ok (.aload_n 0, 1) := by decide +kernel
theorem dX6_init_101 : decode cX6_init 101 = .ok (.bipush 8, 2) := by decide +kernel
theorem dX6_init_103 : decode cX6_init 103 = .ok (.newarray .int, 2) := by decide +kernel
theorem dX6_init_105 : decode cX6_init 105 = .ok (.putfield 47, 3) := by decide +kernel
theorem dX6_init_108 : decode cX6_init 108 = .ok (.aload_n 0, 1) := by decide +kernel
theorem dX6_init_109 : decode cX6_init 109 = .ok (.bipush 8, 2) := by decide +kernel
theorem dX6_init_111 : decode cX6_init 111 = .ok (.newarray .int, 2) := by decide +kernel
theorem dX6_init_113 : decode cX6_init 113 = .ok (.putfield 50, 3) := by decide +kernel
theorem dX6_init_116 : decode cX6_init 116 = .ok (.aload_n 0, 1) := by decide +kernel
theorem dX6_init_117 : decode cX6_init 117 = .ok (.bipush 40, 2) := by decide +kernel
theorem dX6_init_119 : decode cX6_init 119 = .ok (.newarray .int, 2) := by decide +kernel
theorem dX6_init_121 : decode cX6_init 121 = .ok (.putfield 53, 3) := by decide +kernel
theorem dX6_init_124 : decode cX6_init 124 = .ok (.aload_n 0, 1) := by decide +kernel
theorem dX6_init_125 : decode cX6_init 125 = .ok (.bipush 40, 2) := by decide +kernel
theorem dX6_init_127 : decode cX6_init 127 = .ok (.newarray .int, 2) := by decide +kernel
theorem dX6_init_129 : decode cX6_init 129 = .ok (.putfield 56, 3) := by decide +kernel
theorem dX6_init_132 : decode cX6_init 132 = .ok (.aload_n 0, 1) := by decide +kernel
theorem dX6_init_133 : decode cX6_init 133 = .ok (.bipush 40, 2) := by decide +kernel
theorem dX6_init_135 : decode cX6_init 135 = .ok (.newarray .int, 2) := by decide +kernel
theorem dX6_init_137 : decode cX6_init 137 = .ok (.putfield 59, 3) := by decide +kernel
theorem dX6_init_140 : decode cX6_init 140 = .ok (.aload_n 0, 1) := by decide +kernel
theorem dX6_init_141 : decode cX6_init 141 = .ok (.bipush 40, 2) := by decide +kernel
theorem dX6_init_143 : decode cX6_init 143 = .ok (.newarray .int, 2) := by decide +kernel
theorem dX6_init_145 : decode cX6_init 145 = .ok (.putfield 62, 3) := by decide +kernel
theorem dX6_init_148 : decode cX6_init 148 = .ok (.aload_n 0, 1) := by decide +kernel
theorem dX6_init_149 : decode cX6_init 149 = .ok (.bipush 100, 2) := by decide +kernel
theorem dX6_init_151 : decode cX6_init 151 = .ok (.newarray .int, 2) := by decide +kernel
theorem dX6_init_153 : decode cX6_init 153 = .ok (.putfield 65, 3) := by decide +kernel
theorem dX6_init_156 : decode cX6_init 156 = .ok (.aload_n 0, 1) := by decide +kernel
theorem dX6_init_157 : decode cX6_init 157 = .ok (.bipush 100, 2) := by decide +kernel
theorem dX6_init_159 : decode cX6_init 159 = .ok (.newarray .int, 2) := by decide +kernel
theorem dX6_init_161 : decode cX6_init 161 = .ok (.putfield 68, 3) := by decide +kernel
theorem dX6_init_164 : decode cX6_init 164 = .ok (.aload_n 0, 1) := by decide +kernel
theorem dX6_init_165 : decode cX6_init 165 = .ok (.bipush 100, 2) := by decide +kernel
theorem dX6_init_167 : decode cX6_init 167 = .ok (.newarray .int, 2) := by decide +kernel
theorem dX6_init_169 : decode cX6_init 169 = .ok (.putfield 71, 3) := by decide +kernel
theorem dX6_init_172 : decode cX6_init 172 = .ok (.aload_n 0, 1) := by decide +kernel
theorem dX6_init_173 : decode cX6_init 173 = .ok (.bipush 100, 2) := by decide +kernel
theorem dX6_init_175 : decode cX6_init 175 = .ok (.newarray .int, 2) := by decide +kernel
theorem dX6_init_177 : decode cX6_init 177 = .ok (.putfield 74, 3) := by decide +kernel
theorem dX6_init_180 : decode cX6_init 180 = .ok (.aload_n 0, 1) := by decide +kernel
theorem dX6_init_181 : decode cX6_init 181 = .ok (.bipush 100, 2) := by decide +kernel
theorem dX6_init_183 : decode cX6_init 183 = .ok (.newarray .boolean, 2) := by decide +kernel
theorem dX6_init_185 : decode cX6_init 185 = .ok (.putfield 77, 3) := by decide +kernel
theorem dX6_init_188 : decode cX6_init 188 = .ok (.return_, 1) := by decide +kernel
theorem dX6_thrown_0 : decode cX6_thrown 0 = .ok (.aload_n 0, 1) := by decide +kernel
theorem dX6_thrown_1 : decode cX6_thrown 1 = .ok (.getfield 80, 3) := by decide +kernel
theorem dX6_thrown_4 : decode cX6_thrown 4 = .ok (.ireturn, 1) := by decide +kernel
theorem dX6_no_0 : decode cX6_no 0 = .ok (.aload_n 0, 1) := by decide +kernel
theorem dX6_no_1 : decode cX6_no 1 = .ok (.iload_n 1, 1) := by decide +kernel
theorem dX6_no_2 : decode cX6_no 2 = .ok (.putfield 80, 3) := by decide +kernel
theorem dX6_no_5 : decode cX6_no 5 = .ok (.iconst 0, 1) := by decide +kernel
theorem dX6_no_6 : decode cX6_no 6 = .ok (.ireturn, 1) := by decide +kernel
theorem dX6_isNot_0 : decode cX6_isNot 0 = .ok (.aload_n 0, 1) := by decide +kernel
theorem dX6_isNot_1 : decode cX6_isNot 1 = .ok (.iload_n 1, 1) := by decide +kernel
theorem dX6_isNot_2 : decode cX6_isNot 2 = .ok (.putfield 80, 3) := by decide +kernel
theorem dX6_isNot_5 : decode cX6_isNot 5 = .ok (.iconst 0, 1) := by decide +kernel
theorem dX6_isNot_6 : decode cX6_isNot 6 = .ok (.ireturn, 1) := by decide +kernel
theorem dX6_ok_0 : decode cX6_ok 0 = .ok (.aload_n 0, 1) := by decide +kernel
theorem dX6_ok_1 : decode cX6_ok 1 = .ok (.iconst 0, 1) := by decide +kernel
theorem dX6_ok_2 : decode cX6_ok 2 = .ok (.putfield 80, 3) := by decide +kernel
theorem dX6_ok_5 : decode cX6_ok 5 = .ok (.iload_n 1, 1) := by decide +kernel
theorem dX6_ok_6 : decode cX6_ok 6 = .ok (.ireturn, 1) := by decide +kernel
theorem dX6_isIn_0 : decode cX6_isIn 0 = .ok (.iload_n 0, 1) := by decide +kernel
theorem dX6_isIn_1 : decode cX6_isIn 1 = .ok (.iload_n 1, 1) := by decide +kernel
theorem dX6_isIn_2 : decode cX6_isIn 2 = .ok (.if_icmp .lt 12, 3) := by decide +kernel
theorem dX6_isIn_5 : decode cX6_isIn 5 = .ok (.iload_n 0, 1) := by decide +kernel
theorem dX6_isIn_6 : decode cX6_isIn 6 = .ok (.iload_n 2, 1) := by decide +kernel
theorem dX6_isIn_7 : decode cX6_isIn 7 = .ok (.if_icmp .gt 7, 3) := by decide +kernel
theorem dX6_isIn_10 : decode cX6_isIn 10 = .ok (.iconst 1, 1) := by decide +kernel
theorem dX6_isIn_11 : decode cX6_isIn 11 = .ok (.goto 4, 3) := by decide +kernel
theorem dX6_isIn_14 : decode cX6_isIn 14 = .ok (.iconst 0, 1) := by decide +kernel
theorem dX6_isIn_15 : decode cX6_isIn 15 = .ok (.ireturn, 1) := by decide +kernel
theorem dX6_isSwitch_0 : decode cX6_isSwitch 0 = .ok (.iload_n 1, 1) := by decide +kernel
theorem dX6_isSwitch_1 : decode cX6_isSwitch 1 = .ok (.iconst 0, 1) := by decide +kernel
theorem dX6_isSwitch_2 : decode cX6_isSwitch 2 = .ok (.aload_n 0, 1) := by decide +kernel
theorem dX6_isSwitch_3 : decode cX6_isSwitch 3 = .ok (.getfield 84, 3) := by decide +kernel
theorem dX6_isSwitch_6 : decode cX6_isSwitch 6 = .ok (.iconst 1, 1) := by decide +kernel
theorem dX6_isSwitch_7 : decode cX6_isSwitch 7 = .ok (.isub, 1) := by decide +kernel
theorem dX6_isSwitch_8 : decode cX6_isSwitch 8 = .ok (.invokestatic 87, 3) := by decide +kernel
theorem dX6_isSwitch_11 : decode cX6_isSwitch 11 = .ok (.ireturn, 1) := by decide +kernel
theorem dX6_isVariant_0 : decode cX6_isVariant 0 = .ok (.aload_n 0, 1) := by decide +kernel
theorem dX6_isVariant_1 : decode cX6_isVariant 1 = .ok (.iload_n 1, 1) := by decide +kernel
theorem dX6_isVariant_2 : decode cX6_isVariant 2 = .ok (.invokevirtual 91, 3) := by decide +kernel
theorem dX6_isVariant_5 : decode cX6_isVariant 5 = .ok (.ifCond .eq 23, 3) := by decide +kernel
theorem dX6_isVariant_8 : decode cX6_isVariant 8 = .ok (.iload_n 2, 1) := by decide +kernel
theorem dX6_isVariant_9 : decode cX6_isVariant 9 = .ok (.iconst 0, 1) := by decide +kernel
theorem dX6_isVariant_10 : decode cX6_isVariant 10 = .ok (.aload_n 0, 1) := by decide +kernel
theorem dX6_isVariant_11 : decode cX6_isVariant 11 = .ok (.getfield 13, 3) := by decide +kernel
theorem dX6_isVariant_14 : decode cX6_isVariant 14 = .ok (.iload_n 1, 1) := by decide +kernel
theorem dX6_isVariant_15 : decode cX6_isVariant 15 = .ok (.iaload, 1) := by decide +kernel
theorem dX6_isVariant_16 : decode cX6_isVariant 16 = .ok (.iconst 1, 1) := by decide +kernel
theorem dX6_isVariant_17 : decode cX6_isVariant 17 = .ok (.isub, 1) := by decide +kernel
theorem dX6_isVariant_18 : decode cX6_isVariant 18 = .ok (.invokestatic 87, 3) := by decide +kernel
theorem dX6_isVariant_21 : decode cX6_isVariant 21 = .ok (.ifCond .eq 7, 3) := by decide +kernel
theorem dX6_isVariant_24 : decode cX6_isVariant 24 = .ok (.iconst 1, 1) := by decide +kernel
theorem dX6_isVariant_25 : decode cX6_isVariant 25 = .ok (.goto 4, 3) := by decide +kernel
theorem dX6_isVariant_28 : decode cX6_isVariant 28 = .ok (.iconst 0, 1) := by decide +kernel
theorem dX6_isVariant_29 : decode cX6_isVariant 29 = .ok (.ireturn, 1) := by decide +kernel
theorem dX6_isUser_0 : decode cX6_isUser 0 = .ok (.iload_n 0, 1) := by decide +kernel
theorem dX6_isUser_1 : decode cX6_isUser 1 = .ok (.iconst 0, 1) := by decide +kernel
theorem dX6_isUser_2 : decode cX6_isUser 2 = .ok (.sipush 9999, 3) := by decide +kernel
theorem dX6_isUser_5 : decode cX6_isUser 5 = .ok (.invokestatic 87, 3) := by decide +kernel
theorem dX6_isUser_8 : decode cX6_isUser 8 = .ok (.ireturn, 1) := by decide +kernel
theorem dX6_add_0 : decode cX6_add 0 = .ok (.aload_n 0, 1) := by decide +kernel
theorem dX6_add_1 : decode cX6_add 1 = .ok (.iconst 0, 1) := by decide +kernel
theorem dX6_add_2 : decode cX6_add 2 = .ok (.putfield 80, 3) := by decide +kernel
theorem dX6_add_5 : decode cX6_add 5 = .ok (.iload_n 1, 1) := by decide +kernel
theorem dX6_add_6 : decode cX6_add 6 = .ok (.iconst 0, 1) := by decide +kernel
theorem dX6_add_7 : decode cX6_add 7 = .ok (.sipush 498, 3) := by decide +kernel
theorem dX6_add_10 : decode cX6_add 10 = .ok (.invokestatic 87, 3) := by decide +kernel
theorem dX6_add_13 : decode cX6_add 13 = .ok (.ifCond .eq 12, 3) := by decide +kernel
theorem dX6_add_16 : decode cX6_add 16 = .ok (.iload_n 2, 1) := by decide +kernel
theorem dX6_add_17 : decode cX6_add 17 = .ok (.iconst 2, 1) := by decide +kernel
theorem dX6_add_18 : decode cX6_add 18 = .ok (.iconst 4, 1) := by decide +kernel
theorem dX6_add_19 : decode cX6_add 19 = .ok (.invokestatic 87, 3) := by decide +kernel
theorem dX6_add_22 : decode cX6_add 22 = .ok (.ifCond .ne 9, 3) := by decide +kernel
theorem dX6_add_25 : decode cX6_add 25 = .ok (.aload_n 0, 1) := by decide +kernel
theorem dX6_add_26 : decode cX6_add 26 = .ok (.iconst 1, 1) := by decide +kernel
theorem dX6_add_27 : decode cX6_add 27 = .ok (.invokevirtual 95, 3) := by decide +kernel
theorem dX6_add_30 : decode cX6_add 30 = .ok (.ireturn, 1) := by decide +kernel
theorem dX6_add_31 : decode cX6_add 31 = .ok (.aload_n 0, 1) := by decide +kernel
theorem dX6_add_32 : decode cX6_add 32 = .ok (.getfield 84, 3) := by decide +kernel
theorem dX6_add_35 : decode cX6_add 35 = .ok (.bipush 8, 2) := by decide +kernel
theorem dX6_add_37 : decode cX6_add 37 = .ok (.if_icmp .ne 9, 3) := by decide +kernel
theorem dX6_add_40 : decode cX6_add 40 = .ok (.aload_n 0, 1) := by decide +kernel
theorem dX6_add_41 : decode cX6_add 41 = .ok (.iconst 2, 1) := by decide +kernel
theorem dX6_add_42 : decode cX6_add 42 = .ok (.invokevirtual 95, 3) := by decide +kernel
theorem dX6_add_45 : decode cX6_add 45 = .ok (.ireturn, 1) := by decide +kernel
theorem dX6_add_46 : decode cX6_add 46 = .ok (.aload_n 0, 1) := by decide +kernel
theorem dX6_add_47 : decode cX6_add 47 = .ok (.getfield 9, 3) := by decide +kernel
theorem dX6_add_50 : decode cX6_add 50 = .ok (.aload_n 0, 1) := by decide +kernel
theorem dX6_add_51 : decode cX6_add 51 = .ok (.getfield 84, 3) := by decide +kernel
theorem dX6_add_54 : decode cX6_add 54 = .ok (.iload_n 1, 1) := by decide +kernel
theorem dX6_add_55 : decode cX6_add 55 = .ok (.iastore, 1) := by decide +kernel
theorem dX6_add_56 : decode cX6_add 56 = .ok (.aload_n 0, 1) := by decide +kernel
theorem dX6_add_57 : decode cX6_add 57 = .ok (.getfield 13, 3) := by decide +kernel
theorem dX6_add_60 : decode cX6_add 60 = .ok (.aload_n 0, 1) := by decide +kernel
theorem dX6_add_61 : decode cX6_add 61 = .ok (.getfield 84, 3) := by decide +kernel
theorem dX6_add_64 : decode cX6_add 64 = .ok (.iload_n 2, 1) := by decide +kernel
theorem dX6_add_65 : decode cX6_add 65 = .ok (.iastore, 1) := by decide +kernel
theorem dX6_add_66 : decode cX6_add 66 = .ok (.aload_n 0, 1) := by decide +kernel
theorem dX6_add_67 : decode cX6_add 67 = .ok (.getfield 16, 3) := by decide +kernel
theorem dX6_add_70 : decode cX6_add 70 = .ok (.aload_n 0, 1) := by decide +kernel
theorem dX6_add_71 : decode cX6_add 71 = .ok (.getfield 84, 3) := by decide +kernel
theorem dX6_add_74 : decode cX6_add 74 = .ok (.iconst 4, 1) := by decide +kernel
theorem dX6_add_75 : decode cX6_add 75 = .ok (.imul, 1) := by decide +kernel
theorem dX6_add_76 : decode cX6_add 76 = .ok (.sipush 1000, 3) := by decide +kernel
theorem dX6_add_79 : decode cX6_add 79 = .ok (.iastore, 1) := by decide +kernel
theorem dX6_add_80 : decode cX6_add 80 = .ok (.aload_n 0, 1) := by decide +kernel
theorem dX6_add_81 : decode cX6_add 81 = .ok (.getfield 19, 3) := by decide +kernel
theorem dX6_add_84 : decode cX6_add 84 = .ok (.aload_n 0, 1) := by decide +kernel
theorem dX6_add_85 : decode cX6_add 85 = .ok (.getfield 84, 3) := by decide +kernel
theorem dX6_add_88 : decode cX6_add 88 = .ok (.sipush 1000, 3) := by decide +kernel
theorem dX6_add_91 : decode cX6_add 91 = .ok (.iastore, 1) := by decide +kernel
theorem dX6_add_92 : decode cX6_add 92 = .ok (.aload_n 0, 1) := by decide +kernel
theorem dX6_add_93 : decode cX6_add 93 = .ok (.getfield 25, 3) := by decide +kernel
theorem dX6_add_96 : decode cX6_add 96 = .ok (.aload_n 0, 1) := by decide +kernel
theorem dX6_add_97 : decode cX6_add 97 = .ok (.getfield 84, 3) := by decide +kernel
theorem dX6_add_100 : decode cX6_add 100 = .ok (.aload_n 0, 1) := by decide +kernel
theorem dX6_add_101 : decode cX6_add 101 = .ok (.getfield 99, 3) := by decide +kernel
theorem dX6_add_104 : decode cX6_add 104 = .ok (.iastore, 1) := by decide +kernel
theorem dX6_add_105 : decode cX6_add 105 = .ok (.aload_n 0, 1) := by decide +kernel
theorem dX6_add_106 : decode cX6_add 106 = .ok (.getfield 28, 3) := by decide +kernel
theorem dX6_add_109 : decode cX6_add 109 = .ok (.aload_n 0, 1) := by decide +kernel
theorem dX6_add_110 : decode cX6_add 110 = .ok (.getfield 84, 3) := by decide +kernel
theorem dX6_add_113 : decode cX6_add 113 = .ok (.iload_n 3, 1) := by decide +kernel
theorem dX6_add_114 : decode cX6_add 114 = .ok (.bastore, 1) := by decide +kernel
theorem dX6_add_115 : decode cX6_add 115 = .ok (.aload_n 0, 1) := by decide +kernel
theorem dX6_add_116 : decode cX6_add 116 = .ok (.getfield 35, 3) := by decide +kernel
theorem dX6_add_119 : decode cX6_add 119 = .ok (.aload_n 0, 1) := by decide +kernel
theorem dX6_add_120 : decode cX6_add 120 = .ok (.getfield 84, 3) := by decide +kernel
theorem dX6_add_123 : decode cX6_add 123 = .ok (.iconst (-1), 1) := by decide +kernel
theorem dX6_add_124 : decode cX6_add 124 = .ok (.iastore, 1) := by decide +kernel
theorem dX6_add_125 : decode cX6_add 125 = .ok (.aload_n 0, 1) := by decide +kernel
theorem dX6_add_126 : decode cX6_add 126 = .ok (.getfield 44, 3) := by decide +kernel
theorem dX6_add_129 : decode cX6_add 129 = .ok (.aload_n 0, 1) := by decide +kernel
theorem dX6_add_130 : decode cX6_add 130 = .ok (.getfield 84, 3) := by decide +kernel
theorem dX6_add_133 : decode cX6_add 133 = .ok (.iconst (-1), 1) := by decide +kernel
theorem dX6_add_134 : decode cX6_add 134 = .ok (.iastore, 1) := by decide +kernel
theorem dX6_add_135 : decode cX6_add 135 = .ok (.aload_n 0, 1) := by decide +kernel
theorem dX6_add_136 : decode cX6_add 136 = .ok (.dup, 1) := by decide +kernel
theorem dX6_add_137 : decode cX6_add 137 = .ok (.getfield 84, 3) := by decide +kernel
theorem dX6_add_140 : decode cX6_add 140 = .ok (.dup_x1, 1) := by decide +kernel
theorem dX6_add_141 : decode cX6_add 141 = .ok (.iconst 1, 1) := by decide +kernel
theorem dX6_add_142 : decode cX6_add 142 = .ok (.iadd, 1) := by decide +kernel
theorem dX6_add_143 : decode cX6_add 143 = .ok (.putfield 84, 3) := by decide +kernel
theorem dX6_add_146 : decode cX6_add 146 = .ok (.ireturn, 1) := by decide +kernel
theorem dX6_weigh_0 : decode cX6_weigh 0 = .ok (.aload_n 0, 1) := by decide +kernel
theorem dX6_weigh_1 : decode cX6_weigh 1 = .ok (.iconst 0, 1) := by decide +kernel
theorem dX6_weigh_2 : decode cX6_weigh 2 = .ok (.putfield 80, 3) := by decide +kernel
theorem dX6_weigh_5 : decode cX6_weigh 5 = .ok (.aload_n 0, 1) := by decide +kernel
theorem dX6_weigh_6 : decode cX6_weigh 6 = .ok (.iload_n 1, 1) := by decide +kernel
theorem dX6_weigh_7 : decode cX6_weigh 7 = .ok (.iload_n 2, 1) := by decide +kernel
theorem dX6_weigh_8 : decode cX6_weigh 8 = .ok (.invokevirtual 102, 3) := by decide +kernel
theorem dX6_weigh_11 : decode cX6_weigh 11 = .ok (.ifCond .ne 9, 3) := by decide +kernel
theorem dX6_weigh_14 : decode cX6_weigh 14 = .ok (.aload_n 0, 1) := by decide +kernel
theorem dX6_weigh_15 : decode cX6_weigh 15 = .ok (.iconst 1, 1) := by decide +kernel
theorem dX6_weigh_16 : decode cX6_weigh 16 = .ok (.invokevirtual 95, 3) := by decide +kernel
theorem dX6_weigh_19 : decode cX6_weigh 19 = .ok (.ireturn, 1) := by decide +kernel
theorem dX6_weigh_20 : decode cX6_weigh 20 = .ok (.iload_n 1, 1) := by decide +kernel
theorem dX6_weigh_21 : decode cX6_weigh 21 = .ok (.iconst 4, 1) := by decide +kernel
theorem dX6_weigh_22 : decode cX6_weigh 22 = .ok (.imul, 1) := by decide +kernel
theorem dX6_weigh_23 : decode cX6_weigh 23 = .ok (.istore 4, 2) := by decide +kernel
theorem dX6_weigh_25 : decode cX6_weigh 25 = .ok (.iload_n 2, 1) := by decide +kernel
theorem dX6_weigh_26 : decode cX6_weigh 26 = .ok (.ifCond .eq 35, 3) := by decide +kernel
theorem dX6_weigh_29 : decode cX6_weigh 29 = .ok (.iload_n 3, 1) := by decide +kernel
theorem dX6_weigh_30 : decode cX6_weigh 30 = .ok (.iconst 0, 1) := by decide +kernel
theorem dX6_weigh_31 : decode cX6_weigh 31 = .ok (.sipush 1000, 3) := by decide +kernel
theorem dX6_weigh_34 : decode cX6_weigh 34 = .ok (.invokestatic 87, 3) := by decide +kernel
theorem dX6_weigh_37 : decode cX6_weigh 37 = .ok (.ifCond .eq 24, 3) := by decide +kernel
theorem dX6_weigh_40 : decode cX6_weigh 40 = .ok (.aload_n 0, 1) := by decide +kernel
theorem dX6_weigh_41 : decode cX6_weigh 41 = .ok (.getfield 16, 3) := by decide +kernel
theorem dX6_weigh_44 : decode cX6_weigh 44 = .ok (.iload 4, 2) := by decide +kernel
theorem dX6_weigh_46 : decode cX6_weigh 46 = .ok (.iaload, 1) := by decide +kernel
theorem dX6_weigh_47 : decode cX6_weigh 47 = .ok (.aload_n 0, 1) := by decide +kernel
theorem dX6_weigh_48 : decode cX6_weigh 48 = .ok (.getfield 16, 3) := by decide +kernel
theorem dX6_weigh_51 : decode cX6_weigh 51 = .ok (.iload 4, 2) := by decide +kernel
theorem dX6_weigh_53 : decode cX6_weigh 53 = .ok (.iload_n 2, 1) := by decide +kernel
theorem dX6_weigh_54 : decode cX6_weigh 54 = .ok (.iadd, 1) := by decide +kernel
theorem dX6_weigh_55 : decode cX6_weigh 55 = .ok (.iaload, 1) := by decide +kernel
theorem dX6_weigh_56 : decode cX6_weigh 56 = .ok (.iadd, 1) := by decide +kernel
theorem dX6_weigh_57 : decode cX6_weigh 57 = .ok (.iload_n 3, 1) := by decide +kernel
theorem dX6_weigh_58 : decode cX6_weigh 58 = .ok (.if_icmp .ge 9, 3) := by decide +kernel
theorem dX6_weigh_61 : decode cX6_weigh 61 = .ok (.aload_n 0, 1) := by decide +kernel
theorem dX6_weigh_62 : decode cX6_weigh 62 = .ok (.iconst 2, 1) := by decide +kernel
theorem dX6_weigh_63 : decode cX6_weigh 63 = .ok (.invokevirtual 95, 3) := by decide +kernel
theorem dX6_weigh_66 : decode cX6_weigh 66 = .ok (.ireturn, 1) := by decide +kernel
theorem dX6_weigh_67 : decode cX6_weigh 67 = .ok (.aload_n 0, 1) := by decide +kernel
theorem dX6_weigh_68 : decode cX6_weigh 68 = .ok (.getfield 16, 3) := by decide +kernel
theorem dX6_weigh_71 : decode cX6_weigh 71 = .ok (.iload 4, 2) := by decide +kernel
theorem dX6_weigh_73 : decode cX6_weigh 73 = .ok (.dup2, 1) := by decide +kernel
theorem dX6_weigh_74 : decode cX6_weigh 74 = .ok (.iaload, 1) := by decide +kernel
theorem dX6_weigh_75 : decode cX6_weigh 75 = .ok (.aload_n 0, 1) := by decide +kernel
theorem dX6_weigh_76 : decode cX6_weigh 76 = .ok (.getfield 16, 3) := by decide +kernel
theorem dX6_weigh_79 : decode cX6_weigh 79 = .ok (.iload 4, 2) := by decide +kernel
theorem dX6_weigh_81 : decode cX6_weigh 81 = .ok (.iload_n 2, 1) := by decide +kernel
theorem dX6_weigh_82 : decode cX6_weigh 82 = .ok (.iadd, 1) := by decide +kernel
theorem dX6_weigh_83 : decode cX6_weigh 83 = .ok (.iaload, 1) := by decide +kernel
theorem dX6_weigh_84 : decode cX6_weigh 84 = .ok (.iload_n 3, 1) := by decide +kernel
theorem dX6_weigh_85 : decode cX6_weigh 85 = .ok (.isub, 1) := by decide +kernel
theorem dX6_weigh_86 : decode cX6_weigh 86 = .ok (.iadd, 1) := by decide +kernel
theorem dX6_weigh_87 : decode cX6_weigh 87 = .ok (.iastore, 1) := by decide +kernel
theorem dX6_weigh_88 : decode cX6_weigh 88 = .ok (.aload_n 0, 1) := by decide +kernel
theorem dX6_weigh_89 : decode cX6_weigh 89 = .ok (.getfield 16, 3) := by decide +kernel
theorem dX6_weigh_92 : decode cX6_weigh 92 = .ok (.iload 4, 2) := by decide +kernel
theorem dX6_weigh_94 : decode cX6_weigh 94 = .ok (.iload_n 2, 1) := by decide +kernel
theorem dX6_weigh_95 : decode cX6_weigh 95 = .ok (.iadd, 1) := by decide +kernel
theorem dX6_weigh_96 : decode cX6_weigh 96 = .ok (.iload_n 3, 1) := by decide +kernel
theorem dX6_weigh_97 : decode cX6_weigh 97 = .ok (.iastore, 1) := by decide +kernel
theorem dX6_weigh_98 : decode cX6_weigh 98 = .ok (.aload_n 0, 1) := by decide +kernel
theorem dX6_weigh_99 : decode cX6_weigh 99 = .ok (.getfield 16, 3) := by decide +kernel
theorem dX6_weigh_102 : decode cX6_weigh 102 = .ok (.iload 4, 2) := by decide +kernel
theorem dX6_weigh_104 : decode cX6_weigh 104 = .ok (.iaload, 1) := by decide +kernel
theorem dX6_weigh_105 : decode cX6_weigh 105 = .ok (.ireturn, 1) := by decide +kernel
theorem dX6_turn_0 : decode cX6_turn 0 = .ok (.aload_n 0, 1) := by decide +kernel
theorem dX6_turn_1 : decode cX6_turn 1 = .ok (.iconst 0, 1) := by decide +kernel
theorem dX6_turn_2 : decode cX6_turn 2 = .ok (.putfield 80, 3) := by decide +kernel
theorem dX6_turn_5 : decode cX6_turn 5 = .ok (.aload_n 0, 1) := by decide +kernel
theorem dX6_turn_6 : decode cX6_turn 6 = .ok (.iload_n 1, 1) := by decide +kernel
theorem dX6_turn_7 : decode cX6_turn 7 = .ok (.invokevirtual 91, 3) := by decide +kernel
theorem dX6_turn_10 : decode cX6_turn 10 = .ok (.ifCond .ne 9, 3) := by decide +kernel
theorem dX6_turn_13 : decode cX6_turn 13 = .ok (.aload_n 0, 1) := by decide +kernel
theorem dX6_turn_14 : decode cX6_turn 14 = .ok (.iconst 1, 1) := by decide +kernel
theorem dX6_turn_15 : decode cX6_turn 15 = .ok (.invokevirtual 106, 3) := by decide +kernel
theorem dX6_turn_18 : decode cX6_turn 18 = .ok (.ireturn, 1) := by decide +kernel
theorem dX6_turn_19 : decode cX6_turn 19 = .ok (.aload_n 0, 1) := by decide +kernel
theorem dX6_turn_20 : decode cX6_turn 20 = .ok (.getfield 32, 3) := by decide +kernel
theorem dX6_turn_23 : decode cX6_turn 23 = .ok (.iload_n 1, 1) := by decide +kernel
theorem dX6_turn_24 : decode cX6_turn 24 = .ok (.baload, 1) := by decide +kernel
theorem dX6_turn_25 : decode cX6_turn 25 = .ok (.istore_n 3, 1) := by decide +kernel
theorem dX6_turn_26 : decode cX6_turn 26 = .ok (.aload_n 0, 1) := by decide +kernel
theorem dX6_turn_27 : decode cX6_turn 27 = .ok (.getfield 32, 3) := by decide +kernel
theorem dX6_turn_30 : decode cX6_turn 30 = .ok (.iload_n 1, 1) := by decide +kernel
theorem dX6_turn_31 : decode cX6_turn 31 = .ok (.iload_n 2, 1) := by decide +kernel
theorem dX6_turn_32 : decode cX6_turn 32 = .ok (.bastore, 1) := by decide +kernel
theorem dX6_turn_33 : decode cX6_turn 33 = .ok (.iload_n 3, 1) := by decide +kernel
theorem dX6_turn_34 : decode cX6_turn 34 = .ok (.ireturn, 1) := by decide +kernel
theorem dX6_farIn_0 : decode cX6_farIn 0 = .ok (.ldc2_w 109, 3) := by decide +kernel
theorem dX6_farIn_3 : decode cX6_farIn 3 = .ok (.aload_n 0, 1) := by decide +kernel
theorem dX6_farIn_4 : decode cX6_farIn 4 = .ok (.getfield 19, 3) := by decide +kernel
theorem dX6_farIn_7 : decode cX6_farIn 7 = .ok (.iload_n 1, 1) := by decide +kernel
theorem dX6_farIn_8 : decode cX6_farIn 8 = .ok (.iaload, 1) := by decide +kernel
theorem dX6_farIn_9 : decode cX6_farIn 9 = .ok (.i2l, 1) := by decide +kernel
theorem dX6_farIn_10 : decode cX6_farIn 10 = .ok (.aload_n 0, 1) := by decide +kernel
theorem dX6_farIn_11 : decode cX6_farIn 11 = .ok (.getfield 22, 3) := by decide +kernel
theorem dX6_farIn_14 : decode cX6_farIn 14 = .ok (.iload_n 1, 1) := by decide +kernel
theorem dX6_farIn_15 : decode cX6_farIn 15 = .ok (.iaload, 1) := by decide +kernel
theorem dX6_farIn_16 : decode cX6_farIn 16 = .ok (.i2l, 1) := by decide +kernel
theorem dX6_farIn_17 : decode cX6_farIn 17 = .ok (.aload_n 0, 1) := by decide +kernel
theorem dX6_farIn_18 : decode cX6_farIn 18 = .ok (.getfield 99, 3) := by decide +kernel
theorem dX6_farIn_21 : decode cX6_farIn 21 = .ok (.iload_n 2, 1) := by decide +kernel
theorem dX6_farIn_22 : decode cX6_farIn 22 = .ok (.iadd, 1) := by decide +kernel
theorem dX6_farIn_23 : decode cX6_farIn 23 = .ok (.aload_n 0, 1) := by decide +kernel
theorem dX6_farIn_24 : decode cX6_farIn 24 = .ok (.getfield 25, 3) := by decide +kernel
theorem dX6_farIn_27 : decode cX6_farIn 27 = .ok (.iload_n 1, 1) := by decide +kernel
theorem dX6_farIn_28 : decode cX6_farIn 28 = .ok (.iaload, 1) := by decide +kernel
theorem dX6_farIn_29 : decode cX6_farIn 29 = .ok (.isub, 1) := by decide +kernel
theorem dX6_farIn_30 : decode cX6_farIn 30 = .ok (.i2l, 1) := by decide +kernel
theorem dX6_farIn_31 : decode cX6_farIn 31 = .ok (.lmul, 1) := by decide +kernel
theorem dX6_farIn_32 : decode cX6_farIn 32 = .ok (.ladd, 1) := by decide +kernel
theorem dX6_farIn_33 : decode cX6_farIn 33 = .ok (.invokestatic 111, 3) := by decide +kernel
theorem dX6_farIn_36 : decode cX6_farIn 36 = .ok (.l2i, 1) := by decide +kernel
theorem dX6_farIn_37 : decode cX6_farIn 37 = .ok (.ireturn, 1) := by decide +kernel
theorem dX6_ramp_0 : decode cX6_ramp 0 = .ok (.aload_n 0, 1) := by decide +kernel
theorem dX6_ramp_1 : decode cX6_ramp 1 = .ok (.iconst 0, 1) := by decide +kernel
theorem dX6_ramp_2 : decode cX6_ramp 2 = .ok (.putfield 80, 3) := by decide +kernel
theorem dX6_ramp_5 : decode cX6_ramp 5 = .ok (.aload_n 0, 1) := by decide +kernel
theorem dX6_ramp_6 : decode cX6_ramp 6 = .ok (.iload_n 1, 1) := by decide +kernel
theorem dX6_ramp_7 : decode cX6_ramp 7 = .ok (.invokevirtual 91, 3) := by decide +kernel
theorem dX6_ramp_10 : decode cX6_ramp 10 = .ok (.ifCond .ne 9, 3) := by decide +kernel
theorem dX6_ramp_13 : decode cX6_ramp 13 = .ok (.aload_n 0, 1) := by decide +kernel
theorem dX6_ramp_14 : decode cX6_ramp 14 = .ok (.iconst 1, 1) := by decide +kernel
theorem dX6_ramp_15 : decode cX6_ramp 15 = .ok (.invokevirtual 95, 3) := by decide +kernel
theorem dX6_ramp_18 : decode cX6_ramp 18 = .ok (.ireturn, 1) := by decide +kernel
theorem dX6_ramp_19 : decode cX6_ramp 19 = .ok (.iload_n 2, 1) := by decide +kernel
theorem dX6_ramp_20 : decode cX6_ramp 20 = .ok (.iconst 0, 1) := by decide +kernel
theorem dX6_ramp_21 : decode cX6_ramp 21 = .ok (.sipush 1000, 3) := by decide +kernel
theorem dX6_ramp_24 : decode cX6_ramp 24 = .ok (.invokestatic 87, 3) := by decide +kernel
theorem dX6_ramp_27 : decode cX6_ramp 27 = .ok (.ifCond .eq 14, 3) := by decide +kernel
theorem dX6_ramp_30 : decode cX6_ramp 30 = .ok (.iload_n 3, 1) := by decide +kernel
theorem dX6_ramp_31 : decode cX6_ramp 31 = .ok (.iconst 0, 1) := by decide +kernel
theorem dX6_ramp_32 : decode cX6_ramp 32 = .ok (.sipush 1000, 3) := by decide +kernel
theorem dX6_ramp_35 : decode cX6_ramp 35 = .ok (.invokestatic 87, 3) := by decide +kernel
theorem dX6_ramp_38 : decode cX6_ramp 38 = .ok (.ifCond .ne 9, 3) := by decide +kernel
theorem dX6_ramp_41 : decode cX6_ramp 41 = .ok (.aload_n 0, 1) := by decide +kernel
theorem dX6_ramp_42 : decode cX6_ramp 42 = .ok (.iconst 2, 1) := by decide +kernel
theorem dX6_ramp_43 : decode cX6_ramp 43 = .ok (.invokevirtual 95, 3) := by decide +kernel
theorem dX6_ramp_46 : decode cX6_ramp 46 = .ok (.ireturn, 1) := by decide +kernel
theorem dX6_ramp_47 : decode cX6_ramp 47 = .ok (.aload_n 0, 1) := by decide +kernel
theorem dX6_ramp_48 : decode cX6_ramp 48 = .ok (.iload_n 1, 1) := by decide +kernel
theorem dX6_ramp_49 : decode cX6_ramp 49 = .ok (.iconst 0, 1) := by decide +kernel
theorem dX6_ramp_50 : decode cX6_ramp 50 = .ok (.invokevirtual 117, 3) := by decide +kernel
theorem dX6_ramp_53 : decode cX6_ramp 53 = .ok (.istore 4, 2) := by decide +kernel
theorem dX6_ramp_55 : decode cX6_ramp 55 = .ok (.aload_n 0, 1) := by decide +kernel
theorem dX6_ramp_56 : decode cX6_ramp 56 = .ok (.getfield 19, 3) := by decide +kernel
theorem dX6_ramp_59 : decode cX6_ramp 59 = .ok (.iload_n 1, 1) := by decide +kernel
theorem dX6_ramp_60 : decode cX6_ramp 60 = .ok (.iload_n 2, 1) := by decide +kernel
theorem dX6_ramp_61 : decode cX6_ramp 61 = .ok (.iastore, 1) := by decide +kernel
theorem dX6_ramp_62 : decode cX6_ramp 62 = .ok (.aload_n 0, 1) := by decide +kernel
theorem dX6_ramp_63 : decode cX6_ramp 63 = .ok (.getfield 22, 3) := by decide +kernel
theorem dX6_ramp_66 : decode cX6_ramp 66 = .ok (.iload_n 1, 1) := by decide +kernel
theorem dX6_ramp_67 : decode cX6_ramp 67 = .ok (.iload_n 3, 1) := by decide +kernel
theorem dX6_ramp_68 : decode cX6_ramp 68 = .ok (.iastore, 1) := by decide +kernel
theorem dX6_ramp_69 : decode cX6_ramp 69 = .ok (.aload_n 0, 1) := by decide +kernel
theorem dX6_ramp_70 : decode cX6_ramp 70 = .ok (.getfield 25, 3) := by decide +kernel
theorem dX6_ramp_73 : decode cX6_ramp 73 = .ok (.iload_n 1, 1) := by decide +kernel
theorem dX6_ramp_74 : decode cX6_ramp 74 = .ok (.aload_n 0, 1) := by decide +kernel
theorem dX6_ramp_75 : decode cX6_ramp 75 = .ok (.getfield 99, 3) := by decide +kernel
theorem dX6_ramp_78 : decode cX6_ramp 78 = .ok (.iastore, 1) := by decide +kernel
theorem dX6_ramp_79 : decode cX6_ramp 79 = .ok (.iload 4, 2) := by decide +kernel
theorem dX6_ramp_81 : decode cX6_ramp 81 = .ok (.ireturn, 1) := by decide +kernel
theorem dX6_place_0 : decode cX6_place 0 = .ok (.aload_n 0, 1) := by decide +kernel
theorem dX6_place_1 : decode cX6_place 1 = .ok (.iconst 0, 1) := by decide +kernel
theorem dX6_place_2 : decode cX6_place 2 = .ok (.putfield 80, 3) := by decide +kernel
theorem dX6_place_5 : decode cX6_place 5 = .ok (.aload_n 0, 1) := by decide +kernel
theorem dX6_place_6 : decode cX6_place 6 = .ok (.iload_n 1, 1) := by decide +kernel
theorem dX6_place_7 : decode cX6_place 7 = .ok (.invokevirtual 91, 3) := by decide +kernel
theorem dX6_place_10 : decode cX6_place 10 = .ok (.ifCond .ne 9, 3) := by decide +kernel
theorem dX6_place_13 : decode cX6_place 13 = .ok (.aload_n 0, 1) := by decide +kernel
theorem dX6_place_14 : decode cX6_place 14 = .ok (.iconst 1, 1) := by decide +kernel
theorem dX6_place_15 : decode cX6_place 15 = .ok (.invokevirtual 95, 3) := by decide +kernel
theorem dX6_place_18 : decode cX6_place 18 = .ok (.ireturn, 1) := by decide +kernel
theorem dX6_place_19 : decode cX6_place 19 = .ok (.iload_n 2, 1) := by decide +kernel
theorem dX6_place_20 : decode cX6_place 20 = .ok (.iconst (-1), 1) := by decide +kernel
theorem dX6_place_21 : decode cX6_place 21 = .ok (.iconst 2, 1) := by decide +kernel
theorem dX6_place_22 : decode cX6_place 22 = .ok (.invokestatic 87, 3) := by decide +kernel
theorem dX6_place_25 : decode cX6_place 25 = .ok (.ifCond .eq 26, 3) := by decide +kernel
theorem dX6_place_28 : decode cX6_place 28 = .ok (.iload_n 2, 1) := by decide +kernel
theorem dX6_place_29 : decode cX6_place 29 = .ok (.iconst (-1), 1) := by decide +kernel
theorem dX6_place_30 : decode cX6_place 30 = .ok (.if_icmp .eq 27, 3) := by decide +kernel
theorem dX6_place_33 : decode cX6_place 33 = .ok (.iload_n 3, 1) := by decide +kernel
theorem dX6_place_34 : decode cX6_place 34 = .ok (.ifCond .lt 17, 3) := by decide +kernel
theorem dX6_place_37 : decode cX6_place 37 = .ok (.iload_n 3, 1) := by decide +kernel
theorem dX6_place_38 : decode cX6_place 38 = .ok (.iload 4, 2) := by decide +kernel
theorem dX6_place_40 : decode cX6_place 40 = .ok (.if_icmp .gt 11, 3) := by decide +kernel
theorem dX6_place_43 : decode cX6_place 43 = .ok (.iload 4, 2) := by decide +kernel
theorem dX6_place_45 : decode cX6_place 45 = .ok (.sipush 1000, 3) := by decide +kernel
theorem dX6_place_48 : decode cX6_place 48 = .ok (.if_icmp .le 9, 3) := by decide +kernel
theorem dX6_place_51 : decode cX6_place 51 = .ok (.aload_n 0, 1) := by decide +kernel
theorem dX6_place_52 : decode cX6_place 52 = .ok (.iconst 2, 1) := by decide +kernel
theorem dX6_place_53 : decode cX6_place 53 = .ok (.invokevirtual 95, 3) := by decide +kernel
theorem dX6_place_56 : decode cX6_place 56 = .ok (.ireturn, 1) := by decide +kernel
theorem dX6_place_57 : decode cX6_place 57 = .ok (.iconst 0, 1) := by decide +kernel
theorem dX6_place_58 : decode cX6_place 58 = .ok (.istore 5, 2) := by decide +kernel
theorem dX6_place_60 : decode cX6_place 60 = .ok (.iload 5, 2) := by decide +kernel
theorem dX6_place_62 : decode cX6_place 62 = .ok (.aload_n 0, 1) := by decide +kernel
theorem dX6_place_63 : decode cX6_place 63 = .ok (.getfield 84, 3) := by decide +kernel
theorem dX6_place_66 : decode cX6_place 66 = .ok (.if_icmp .ge 63, 3) := by decide +kernel
theorem dX6_place_69 : decode cX6_place 69 = .ok (.iload_n 2, 1) := by decide +kernel
theorem dX6_place_70 : decode cX6_place 70 = .ok (.iconst (-1), 1) := by decide +kernel
theorem dX6_place_71 : decode cX6_place 71 = .ok (.if_icmp .eq 58, 3) := by decide +kernel
theorem dX6_place_74 : decode cX6_place 74 = .ok (.iload 5, 2) := by decide +kernel
theorem dX6_place_76 : decode cX6_place 76 = .ok (.iload_n 1, 1) := by decide +kernel
theorem dX6_place_77 : decode cX6_place 77 = .ok (.if_icmp .eq 46, 3) := by decide +kernel
theorem dX6_place_80 : decode cX6_place 80 = .ok (.aload_n 0, 1) := by decide +kernel
theorem dX6_place_81 : decode cX6_place 81 = .ok (.getfield 35, 3) := by decide +kernel
theorem dX6_place_84 : decode cX6_place 84 = .ok (.iload 5, 2) := by decide +kernel
theorem dX6_place_86 : decode cX6_place 86 = .ok (.iaload, 1) := by decide +kernel
theorem dX6_place_87 : decode cX6_place 87 = .ok (.iload_n 2, 1) := by decide +kernel
theorem dX6_place_88 : decode cX6_place 88 = .ok (.if_icmp .ne 35, 3) := by decide +kernel
theorem dX6_place_91 : decode cX6_place 91 = .ok (.iload_n 3, 1) := by decide +kernel
theorem dX6_place_92 : decode cX6_place 92 = .ok (.aload_n 0, 1) := by decide +kernel
theorem dX6_place_93 : decode cX6_place 93 = .ok (.getfield 38, 3) := by decide +kernel
theorem dX6_place_96 : decode cX6_place 96 = .ok (.iload 5, 2) := by decide +kernel
theorem dX6_place_98 : decode cX6_place 98 = .ok (.iaload, 1) := by decide +kernel
theorem dX6_place_99 : decode cX6_place 99 = .ok (.invokestatic 121, 3) := by decide +kernel
theorem dX6_place_102 : decode cX6_place 102 = .ok (.iload 4, 2) := by decide +kernel
theorem dX6_place_104 : decode cX6_place 104 = .ok (.aload_n 0, 1) := by decide +kernel
theorem dX6_place_105 : decode cX6_place 105 = .ok (.getfield 41, 3) := by decide +kernel
theorem dX6_place_108 : decode cX6_place 108 = .ok (.iload 5, 2) := by decide +kernel
theorem dX6_place_110 : decode cX6_place 110 = .ok (.iaload, 1) := by decide +kernel
theorem dX6_place_111 : decode cX6_place 111 = .ok (.invokestatic 124, 3) := by decide +kernel
theorem dX6_place_114 : decode cX6_place 114 = .ok (.if_icmp .ge 9, 3) := by decide +kernel
theorem dX6_place_117 : decode cX6_place 117 = .ok (.aload_n 0, 1) := by decide +kernel
theorem dX6_place_118 : decode cX6_place 118 = .ok (.iconst 3, 1) := by decide +kernel
theorem dX6_place_119 : decode cX6_place 119 = .ok (.invokevirtual 95, 3) := by decide +kernel
theorem dX6_place_122 : decode cX6_place 122 = .ok (.ireturn, 1) := by decide +kernel
theorem dX6_place_123 : decode cX6_place 123 = .ok (.iinc 5 1, 3) := by decide +kernel
theorem dX6_place_126 : decode cX6_place 126 = .ok (.goto (-66), 3) := by decide +kernel
theorem dX6_place_129 : decode cX6_place 129 = .ok (.aload_n 0, 1) := by decide +kernel
theorem dX6_place_130 : decode cX6_place 130 = .ok (.getfield 35, 3) := by decide +kernel
theorem dX6_place_133 : decode cX6_place 133 = .ok (.iload_n 1, 1) := by decide +kernel
theorem dX6_place_134 : decode cX6_place 134 = .ok (.iaload, 1) := by decide +kernel
theorem dX6_place_135 : decode cX6_place 135 = .ok (.istore 5, 2) := by decide +kernel
theorem dX6_place_137 : decode cX6_place 137 = .ok (.aload_n 0, 1) := by decide +kernel
theorem dX6_place_138 : decode cX6_place 138 = .ok (.getfield 35, 3) := by decide +kernel
theorem dX6_place_141 : decode cX6_place 141 = .ok (.iload_n 1, 1) := by decide +kernel
theorem dX6_place_142 : decode cX6_place 142 = .ok (.iload_n 2, 1) := by decide +kernel
theorem dX6_place_143 : decode cX6_place 143 = .ok (.iastore, 1) := by decide +kernel
theorem dX6_place_144 : decode cX6_place 144 = .ok (.aload_n 0, 1) := by decide +kernel
theorem dX6_place_145 : decode cX6_place 145 = .ok (.getfield 38, 3) := by decide +kernel
theorem dX6_place_148 : decode cX6_place 148 = .ok (.iload_n 1, 1) := by decide +kernel
theorem dX6_place_149 : decode cX6_place 149 = .ok (.iload_n 2, 1) := by decide +kernel
theorem dX6_place_150 : decode cX6_place 150 = .ok (.iconst (-1), 1) := by decide +kernel
theorem dX6_place_151 : decode cX6_place 151 = .ok (.if_icmp .ne 7, 3) := by decide +kernel
theorem dX6_place_154 : decode cX6_place 154 = .ok (.iconst 0, 1) := by decide +kernel
theorem dX6_place_155 : decode cX6_place 155 = .ok (.goto 4, 3) := by decide +kernel
theorem dX6_place_158 : decode cX6_place 158 = .ok (.iload_n 3, 1) := by decide +kernel
theorem dX6_place_159 : decode cX6_place 159 = .ok (.iastore, 1) := by decide +kernel
theorem dX6_place_160 : decode cX6_place 160 = .ok (.aload_n 0, 1) := by decide +kernel
theorem dX6_place_161 : decode cX6_place 161 = .ok (.getfield 41, 3) := by decide +kernel
theorem dX6_place_164 : decode cX6_place 164 = .ok (.iload_n 1, 1) := by decide +kernel
theorem dX6_place_165 : decode cX6_place 165 = .ok (.iload_n 2, 1) := by decide +kernel
theorem dX6_place_166 : decode cX6_place 166 = .ok (.iconst (-1), 1) := by decide +kernel
theorem dX6_place_167 : decode cX6_place 167 = .ok (.if_icmp .ne 7, 3) := by decide +kernel
theorem dX6_place_170 : decode cX6_place 170 = .ok (.iconst 0, 1) := by decide +kernel
theorem dX6_place_171 : decode cX6_place 171 = .ok (.goto 5, 3) := by decide +kernel
theorem dX6_place_174 : decode cX6_place 174 = .ok (.iload 4, 2) := by decide +kernel
theorem dX6_place_176 : decode cX6_place 176 = .ok (.iastore, 1) := by decide +kernel
theorem dX6_place_177 : decode cX6_place 177 = .ok (.iload 5, 2) := by decide +kernel
theorem dX6_place_179 : decode cX6_place 179 = .ok (.ireturn, 1) := by decide +kernel
theorem dX6_need_0 : decode cX6_need 0 = .ok (.aload_n 0, 1) := by decide +kernel
theorem dX6_need_1 : decode cX6_need 1 = .ok (.iconst 0, 1) := by decide +kernel
theorem dX6_need_2 : decode cX6_need 2 = .ok (.putfield 80, 3) := by decide +kernel
theorem dX6_need_5 : decode cX6_need 5 = .ok (.aload_n 0, 1) := by decide +kernel
theorem dX6_need_6 : decode cX6_need 6 = .ok (.iload_n 1, 1) := by decide +kernel
theorem dX6_need_7 : decode cX6_need 7 = .ok (.invokevirtual 91, 3) := by decide +kernel
theorem dX6_need_10 : decode cX6_need 10 = .ok (.ifCond .eq 17, 3) := by decide +kernel
theorem dX6_need_13 : decode cX6_need 13 = .ok (.iload_n 2, 1) := by decide +kernel
theorem dX6_need_14 : decode cX6_need 14 = .ok (.iconst (-1), 1) := by decide +kernel
theorem dX6_need_15 : decode cX6_need 15 = .ok (.if_icmp .eq 18, 3) := by decide +kernel
theorem dX6_need_18 : decode cX6_need 18 = .ok (.aload_n 0, 1) := by decide +kernel
theorem dX6_need_19 : decode cX6_need 19 = .ok (.iload_n 2, 1) := by decide +kernel
theorem dX6_need_20 : decode cX6_need 20 = .ok (.iload_n 3, 1) := by decide +kernel
theorem dX6_need_21 : decode cX6_need 21 = .ok (.invokevirtual 102, 3) := by decide +kernel
theorem dX6_need_24 : decode cX6_need 24 = .ok (.ifCond .ne 9, 3) := by decide +kernel
theorem dX6_need_27 : decode cX6_need 27 = .ok (.aload_n 0, 1) := by decide +kernel
theorem dX6_need_28 : decode cX6_need 28 = .ok (.iconst 1, 1) := by decide +kernel
theorem dX6_need_29 : decode cX6_need 29 = .ok (.invokevirtual 95, 3) := by decide +kernel
theorem dX6_need_32 : decode cX6_need 32 = .ok (.ireturn, 1) := by decide +kernel
theorem dX6_need_33 : decode cX6_need 33 = .ok (.iload_n 2, 1) := by decide +kernel
theorem dX6_need_34 : decode cX6_need 34 = .ok (.iload_n 1, 1) := by decide +kernel
theorem dX6_need_35 : decode cX6_need 35 = .ok (.if_icmp .lt 9, 3) := by decide +kernel
theorem dX6_need_38 : decode cX6_need 38 = .ok (.aload_n 0, 1) := by decide +kernel
theorem dX6_need_39 : decode cX6_need 39 = .ok (.iconst 2, 1) := by decide +kernel
theorem dX6_need_40 : decode cX6_need 40 = .ok (.invokevirtual 95, 3) := by decide +kernel
theorem dX6_need_43 : decode cX6_need 43 = .ok (.ireturn, 1) := by decide +kernel
theorem dX6_need_44 : decode cX6_need 44 = .ok (.aload_n 0, 1) := by decide +kernel
theorem dX6_need_45 : decode cX6_need 45 = .ok (.getfield 44, 3) := by decide +kernel
theorem dX6_need_48 : decode cX6_need 48 = .ok (.iload_n 1, 1) := by decide +kernel
theorem dX6_need_49 : decode cX6_need 49 = .ok (.iaload, 1) := by decide +kernel
theorem dX6_need_50 : decode cX6_need 50 = .ok (.istore 4, 2) := by decide +kernel
theorem dX6_need_52 : decode cX6_need 52 = .ok (.aload_n 0, 1) := by decide +kernel
theorem dX6_need_53 : decode cX6_need 53 = .ok (.getfield 44, 3) := by decide +kernel
theorem dX6_need_56 : decode cX6_need 56 = .ok (.iload_n 1, 1) := by decide +kernel
theorem dX6_need_57 : decode cX6_need 57 = .ok (.iload_n 2, 1) := by decide +kernel
theorem dX6_need_58 : decode cX6_need 58 = .ok (.iastore, 1) := by decide +kernel
theorem dX6_need_59 : decode cX6_need 59 = .ok (.aload_n 0, 1) := by decide +kernel
theorem dX6_need_60 : decode cX6_need 60 = .ok (.getfield 47, 3) := by decide +kernel
theorem dX6_need_63 : decode cX6_need 63 = .ok (.iload_n 1, 1) := by decide +kernel
theorem dX6_need_64 : decode cX6_need 64 = .ok (.iload_n 3, 1) := by decide +kernel
theorem dX6_need_65 : decode cX6_need 65 = .ok (.iastore, 1) := by decide +kernel
theorem dX6_need_66 : decode cX6_need 66 = .ok (.iload 4, 2) := by decide +kernel
theorem dX6_need_68 : decode cX6_need 68 = .ok (.ireturn, 1) := by decide +kernel
theorem dX6_rule_0 : decode cX6_rule 0 = .ok (.aload_n 0, 1) := by decide +kernel
theorem dX6_rule_1 : decode cX6_rule 1 = .ok (.iconst 0, 1) := by decide +kernel
theorem dX6_rule_2 : decode cX6_rule 2 = .ok (.putfield 80, 3) := by decide +kernel
theorem dX6_rule_5 : decode cX6_rule 5 = .ok (.aload_n 0, 1) := by decide +kernel
theorem dX6_rule_6 : decode cX6_rule 6 = .ok (.iload_n 1, 1) := by decide +kernel
theorem dX6_rule_7 : decode cX6_rule 7 = .ok (.invokevirtual 91, 3) := by decide +kernel
theorem dX6_rule_10 : decode cX6_rule 10 = .ok (.ifCond .eq 19, 3) := by decide +kernel
theorem dX6_rule_13 : decode cX6_rule 13 = .ok (.iload 5, 2) := by decide +kernel
theorem dX6_rule_15 : decode cX6_rule 15 = .ok (.iconst (-1), 1) := by decide +kernel
theorem dX6_rule_16 : decode cX6_rule 16 = .ok (.if_icmp .eq 19, 3) := by decide +kernel
theorem dX6_rule_19 : decode cX6_rule 19 = .ok (.aload_n 0, 1) := by decide +kernel
theorem dX6_rule_20 : decode cX6_rule 20 = .ok (.iload_n 1, 1) := by decide +kernel
theorem dX6_rule_21 : decode cX6_rule 21 = .ok (.iload 5, 2) := by decide +kernel
theorem dX6_rule_23 : decode cX6_rule 23 = .ok (.invokevirtual 102, 3) := by decide +kernel
theorem dX6_rule_26 : decode cX6_rule 26 = .ok (.ifCond .ne 9, 3) := by decide +kernel
theorem dX6_rule_29 : decode cX6_rule 29 = .ok (.aload_n 0, 1) := by decide +kernel
theorem dX6_rule_30 : decode cX6_rule 30 = .ok (.iconst 1, 1) := by decide +kernel
theorem dX6_rule_31 : decode cX6_rule 31 = .ok (.invokevirtual 95, 3) := by decide +kernel
theorem dX6_rule_34 : decode cX6_rule 34 = .ok (.ireturn, 1) := by decide +kernel
theorem dX6_rule_35 : decode cX6_rule 35 = .ok (.iload_n 2, 1) := by decide +kernel
theorem dX6_rule_36 : decode cX6_rule 36 = .ok (.iconst 0, 1) := by decide +kernel
theorem dX6_rule_37 : decode cX6_rule 37 = .ok (.iconst 1, 1) := by decide +kernel
theorem dX6_rule_38 : decode cX6_rule 38 = .ok (.invokestatic 87, 3) := by decide +kernel
theorem dX6_rule_41 : decode cX6_rule 41 = .ok (.ifCond .eq 23, 3) := by decide +kernel
theorem dX6_rule_44 : decode cX6_rule 44 = .ok (.iload_n 3, 1) := by decide +kernel
theorem dX6_rule_45 : decode cX6_rule 45 = .ok (.iconst 1, 1) := by decide +kernel
theorem dX6_rule_46 : decode cX6_rule 46 = .ok (.iconst 3, 1) := by decide +kernel
theorem dX6_rule_47 : decode cX6_rule 47 = .ok (.invokestatic 87, 3) := by decide +kernel
theorem dX6_rule_50 : decode cX6_rule 50 = .ok (.ifCond .eq 14, 3) := by decide +kernel
theorem dX6_rule_53 : decode cX6_rule 53 = .ok (.iload 4, 2) := by decide +kernel
theorem dX6_rule_55 : decode cX6_rule 55 = .ok (.iconst 0, 1) := by decide +kernel
theorem dX6_rule_56 : decode cX6_rule 56 = .ok (.bipush 9, 2) := by decide +kernel
theorem dX6_rule_58 : decode cX6_rule 58 = .ok (.invokestatic 87, 3) := by decide +kernel
theorem dX6_rule_61 : decode cX6_rule 61 = .ok (.ifCond .ne 9, 3) := by decide +kernel
theorem dX6_rule_64 : decode cX6_rule 64 = .ok (.aload_n 0, 1) := by decide +kernel
theorem dX6_rule_65 : decode cX6_rule 65 = .ok (.iconst 2, 1) := by decide +kernel
theorem dX6_rule_66 : decode cX6_rule 66 = .ok (.invokevirtual 95, 3) := by decide +kernel
theorem dX6_rule_69 : decode cX6_rule 69 = .ok (.ireturn, 1) := by decide +kernel
theorem dX6_rule_70 : decode cX6_rule 70 = .ok (.aload_n 0, 1) := by decide +kernel
theorem dX6_rule_71 : decode cX6_rule 71 = .ok (.getfield 50, 3) := by decide +kernel
theorem dX6_rule_74 : decode cX6_rule 74 = .ok (.iload_n 1, 1) := by decide +kernel
theorem dX6_rule_75 : decode cX6_rule 75 = .ok (.iaload, 1) := by decide +kernel
theorem dX6_rule_76 : decode cX6_rule 76 = .ok (.iconst 5, 1) := by decide +kernel
theorem dX6_rule_77 : decode cX6_rule 77 = .ok (.if_icmp .ne 9, 3) := by decide +kernel
theorem dX6_rule_80 : decode cX6_rule 80 = .ok (.aload_n 0, 1) := by decide +kernel
theorem dX6_rule_81 : decode cX6_rule 81 = .ok (.iconst 3, 1) := by decide +kernel
theorem dX6_rule_82 : decode cX6_rule 82 = .ok (.invokevirtual 95, 3) := by decide +kernel
theorem dX6_rule_85 : decode cX6_rule 85 = .ok (.ireturn, 1) := by decide +kernel
theorem dX6_rule_86 : decode cX6_rule 86 = .ok (.iload_n 1, 1) := by decide +kernel
theorem dX6_rule_87 : decode cX6_rule 87 = .ok (.iconst 5, 1) := by decide +kernel
theorem dX6_rule_88 : decode cX6_rule 88 = .ok (.imul, 1) := by decide +kernel
theorem dX6_rule_89 : decode cX6_rule 89 = .ok (.aload_n 0, 1) := by decide +kernel
theorem dX6_rule_90 : decode cX6_rule 90 = .ok (.getfield 50, 3) := by decide +kernel
theorem dX6_rule_93 : decode cX6_rule 93 = .ok (.iload_n 1, 1) := by decide +kernel
theorem dX6_rule_94 : decode cX6_rule 94 = .ok (.iaload, 1) := by decide +kernel
theorem dX6_rule_95 : decode cX6_rule 95 = .ok (.iadd, 1) := by decide +kernel
theorem dX6_rule_96 : decode cX6_rule 96 = .ok (.istore 6, 2) := by decide +kernel
theorem dX6_rule_98 : decode cX6_rule 98 = .ok (.aload_n 0, 1) := by decide +kernel
theorem dX6_rule_99 : decode cX6_rule 99 = .ok (.getfield 53, 3) := by decide +kernel
theorem dX6_rule_102 : decode cX6_rule 102 = .ok (.iload 6, 2) := by decide +kernel
theorem dX6_rule_104 : decode cX6_rule 104 = .ok (.iload_n 2, 1) := by decide +kernel
theorem dX6_rule_105 : decode cX6_rule 105 = .ok (.iastore, 1) := by decide +kernel
theorem dX6_rule_106 : decode cX6_rule 106 = .ok (.aload_n 0, 1) := by decide +kernel
theorem dX6_rule_107 : decode cX6_rule 107 = .ok (.getfield 56, 3) := by decide +kernel
theorem dX6_rule_110 : decode cX6_rule 110 = .ok (.iload 6, 2) := by decide +kernel
theorem dX6_rule_112 : decode cX6_rule 112 = .ok (.iload_n 3, 1) := by decide +kernel
theorem dX6_rule_113 : decode cX6_rule 113 = .ok (.iastore, 1) := by decide +kernel
theorem dX6_rule_114 : decode cX6_rule 114 = .ok (.aload_n 0, 1) := by decide +kernel
theorem dX6_rule_115 : decode cX6_rule 115 = .ok (.getfield 59, 3) := by decide +kernel
theorem dX6_rule_118 : decode cX6_rule 118 = .ok (.iload 6, 2) := by decide +kernel
theorem dX6_rule_120 : decode cX6_rule 120 = .ok (.iload 4, 2) := by decide +kernel
theorem dX6_rule_122 : decode cX6_rule 122 = .ok (.iastore, 1) := by decide +kernel
theorem dX6_rule_123 : decode cX6_rule 123 = .ok (.aload_n 0, 1) := by decide +kernel
theorem dX6_rule_124 : decode cX6_rule 124 = .ok (.getfield 62, 3) := by decide +kernel
theorem dX6_rule_127 : decode cX6_rule 127 = .ok (.iload 6, 2) := by decide +kernel
theorem dX6_rule_129 : decode cX6_rule 129 = .ok (.iload 5, 2) := by decide +kernel
theorem dX6_rule_131 : decode cX6_rule 131 = .ok (.iastore, 1) := by decide +kernel
theorem dX6_rule_132 : decode cX6_rule 132 = .ok (.aload_n 0, 1) := by decide +kernel
theorem dX6_rule_133 : decode cX6_rule 133 = .ok (.getfield 50, 3) := by decide +kernel
theorem dX6_rule_136 : decode cX6_rule 136 = .ok (.iload_n 1, 1) := by decide +kernel
theorem dX6_rule_137 : decode cX6_rule 137 = .ok (.dup2, 1) := by decide +kernel
theorem dX6_rule_138 : decode cX6_rule 138 = .ok (.iaload, 1) := by decide +kernel
theorem dX6_rule_139 : decode cX6_rule 139 = .ok (.iconst 1, 1) := by decide +kernel
theorem dX6_rule_140 : decode cX6_rule 140 = .ok (.iadd, 1) := by decide +kernel
theorem dX6_rule_141 : decode cX6_rule 141 = .ok (.dup_x2, 1) := by decide +kernel
theorem dX6_rule_142 : decode cX6_rule 142 = .ok (.iastore, 1) := by decide +kernel
theorem dX6_rule_143 : decode cX6_rule 143 = .ok (.ireturn, 1) := by decide +kernel
theorem dX6_moveUp_0 : decode cX6_moveUp 0 = .ok (.aload_n 0, 1) := by decide +kernel
theorem dX6_moveUp_1 : decode cX6_moveUp 1 = .ok (.iload_n 1, 1) := by decide +kernel
theorem dX6_moveUp_2 : decode cX6_moveUp 2 = .ok (.iconst 1, 1) := by decide +kernel
theorem dX6_moveUp_3 : decode cX6_moveUp 3 = .ok (.iadd, 1) := by decide +kernel
theorem dX6_moveUp_4 : decode cX6_moveUp 4 = .ok (.aload_n 0, 1) := by decide +kernel
theorem dX6_moveUp_5 : decode cX6_moveUp 5 = .ok (.iload_n 1, 1) := by decide +kernel
theorem dX6_moveUp_6 : decode cX6_moveUp 6 = .ok (.iload_n 2, 1) := by decide +kernel
theorem dX6_moveUp_7 : decode cX6_moveUp 7 = .ok (.iload_n 1, 1) := by decide +kernel
theorem dX6_moveUp_8 : decode cX6_moveUp 8 = .ok (.isub, 1) := by decide +kernel
theorem dX6_moveUp_9 : decode cX6_moveUp 9 = .ok (.iconst 1, 1) := by decide +kernel
theorem dX6_moveUp_10 : decode cX6_moveUp 10 = .ok (.isub, 1) := by decide +kernel
theorem dX6_moveUp_11 : decode cX6_moveUp 11 = .ok (.invokestatic 126, 3) := by decide +kernel
theorem dX6_moveUp_14 : decode cX6_moveUp 14 = .ok (.return_, 1) := by decide +kernel
theorem dX6_unrule_0 : decode cX6_unrule 0 = .ok (.aload_n 0, 1) := by decide +kernel
theorem dX6_unrule_1 : decode cX6_unrule 1 = .ok (.iconst 0, 1) := by decide +kernel
theorem dX6_unrule_2 : decode cX6_unrule 2 = .ok (.putfield 80, 3) := by decide +kernel
theorem dX6_unrule_5 : decode cX6_unrule 5 = .ok (.aload_n 0, 1) := by decide +kernel
theorem dX6_unrule_6 : decode cX6_unrule 6 = .ok (.iload_n 1, 1) := by decide +kernel
theorem dX6_unrule_7 : decode cX6_unrule 7 = .ok (.invokevirtual 91, 3) := by decide +kernel
theorem dX6_unrule_10 : decode cX6_unrule 10 = .ok (.ifCond .eq 19, 3) := by decide +kernel
theorem dX6_unrule_13 : decode cX6_unrule 13 = .ok (.iload_n 2, 1) := by decide +kernel
theorem dX6_unrule_14 : decode cX6_unrule 14 = .ok (.iconst 0, 1) := by decide +kernel
theorem dX6_unrule_15 : decode cX6_unrule 15 = .ok (.aload_n 0, 1) := by decide +kernel
theorem dX6_unrule_16 : decode cX6_unrule 16 = .ok (.getfield 50, 3) := by decide +kernel
theorem dX6_unrule_19 : decode cX6_unrule 19 = .ok (.iload_n 1, 1) := by decide +kernel
theorem dX6_unrule_20 : decode cX6_unrule 20 = .ok (.iaload, 1) := by decide +kernel
theorem dX6_unrule_21 : decode cX6_unrule 21 = .ok (.iconst 1, 1) := by decide +kernel
theorem dX6_unrule_22 : decode cX6_unrule 22 = .ok (.isub, 1) := by decide +kernel
theorem dX6_unrule_23 : decode cX6_unrule 23 = .ok (.invokestatic 87, 3) := by decide +kernel
theorem dX6_unrule_26 : decode cX6_unrule 26 = .ok (.ifCond .ne 9, 3) := by decide +kernel
theorem dX6_unrule_29 : decode cX6_unrule 29 = .ok (.aload_n 0, 1) := by decide +kernel
theorem dX6_unrule_30 : decode cX6_unrule 30 = .ok (.iconst 1, 1) := by decide +kernel
theorem dX6_unrule_31 : decode cX6_unrule 31 = .ok (.invokevirtual 95, 3) := by decide +kernel
theorem dX6_unrule_34 : decode cX6_unrule 34 = .ok (.ireturn, 1) := by decide +kernel
theorem dX6_unrule_35 : decode cX6_unrule 35 = .ok (.iload_n 1, 1) := by decide +kernel
theorem dX6_unrule_36 : decode cX6_unrule 36 = .ok (.iconst 5, 1) := by decide +kernel
theorem dX6_unrule_37 : decode cX6_unrule 37 = .ok (.imul, 1) := by decide +kernel
theorem dX6_unrule_38 : decode cX6_unrule 38 = .ok (.iload_n 2, 1) := by decide +kernel
theorem dX6_unrule_39 : decode cX6_unrule 39 = .ok (.iadd, 1) := by decide +kernel
theorem dX6_unrule_40 : decode cX6_unrule 40 = .ok (.istore_n 3, 1) := by decide +kernel
theorem dX6_unrule_41 : decode cX6_unrule 41 = .ok (.iload_n 1, 1) := by decide +kernel
theorem dX6_unrule_42 : decode cX6_unrule 42 = .ok (.iconst 5, 1) := by decide +kernel
theorem dX6_unrule_43 : decode cX6_unrule 43 = .ok (.imul, 1) := by decide +kernel
theorem dX6_unrule_44 : decode cX6_unrule 44 = .ok (.aload_n 0, 1) := by decide +kernel
theorem dX6_unrule_45 : decode cX6_unrule 45 = .ok (.getfield 50, 3) := by decide +kernel
theorem dX6_unrule_48 : decode cX6_unrule 48 = .ok (.iload_n 1, 1) := by decide +kernel
theorem dX6_unrule_49 : decode cX6_unrule 49 = .ok (.iaload, 1) := by decide +kernel
theorem dX6_unrule_50 : decode cX6_unrule 50 = .ok (.iadd, 1) := by decide +kernel
theorem dX6_unrule_51 : decode cX6_unrule 51 = .ok (.istore 4, 2) := by decide +kernel
theorem dX6_unrule_53 : decode cX6_unrule 53 = .ok (.aload_n 0, 1) := by decide +kernel
theorem dX6_unrule_54 : decode cX6_unrule 54 = .ok (.getfield 53, 3) := by decide +kernel
theorem dX6_unrule_57 : decode cX6_unrule 57 = .ok (.iload_n 3, 1) := by decide +kernel
theorem dX6_unrule_58 : decode cX6_unrule 58 = .ok (.iload 4, 2) := by decide +kernel
theorem dX6_unrule_60 : decode cX6_unrule 60 = .ok (.invokestatic 132, 3) := by decide +kernel
theorem dX6_unrule_63 : decode cX6_unrule 63 = .ok (.aload_n 0, 1) := by decide +kernel
theorem dX6_unrule_64 : decode cX6_unrule 64 = .ok (.getfield 56, 3) := by decide +kernel
theorem dX6_unrule_67 : decode cX6_unrule 67 = .ok (.iload_n 3, 1) := by decide +kernel
theorem dX6_unrule_68 : decode cX6_unrule 68 = .ok (.iload 4, 2) := by decide +kernel
theorem dX6_unrule_70 : decode cX6_unrule 70 = .ok (.invokestatic 132, 3) := by decide +kernel
theorem dX6_unrule_73 : decode cX6_unrule 73 = .ok (.aload_n 0, 1) := by decide +kernel
theorem dX6_unrule_74 : decode cX6_unrule 74 = .ok (.getfield 59, 3) := by decide +kernel
theorem dX6_unrule_77 : decode cX6_unrule 77 = .ok (.iload_n 3, 1) := by decide +kernel
theorem dX6_unrule_78 : decode cX6_unrule 78 = .ok (.iload 4, 2) := by decide +kernel
theorem dX6_unrule_80 : decode cX6_unrule 80 = .ok (.invokestatic 132, 3) := by decide +kernel
theorem dX6_unrule_83 : decode cX6_unrule 83 = .ok (.aload_n 0, 1) := by decide +kernel
theorem dX6_unrule_84 : decode cX6_unrule 84 = .ok (.getfield 62, 3) := by decide +kernel
theorem dX6_unrule_87 : decode cX6_unrule 87 = .ok (.iload_n 3, 1) := by decide +kernel
theorem dX6_unrule_88 : decode cX6_unrule 88 = .ok (.iload 4, 2) := by decide +kernel
theorem dX6_unrule_90 : decode cX6_unrule 90 = .ok (.invokestatic 132, 3) := by decide +kernel
theorem dX6_unrule_93 : decode cX6_unrule 93 = .ok (.aload_n 0, 1) := by decide +kernel
theorem dX6_unrule_94 : decode cX6_unrule 94 = .ok (.getfield 50, 3) := by decide +kernel
theorem dX6_unrule_97 : decode cX6_unrule 97 = .ok (.iload_n 1, 1) := by decide +kernel
theorem dX6_unrule_98 : decode cX6_unrule 98 = .ok (.dup2, 1) := by decide +kernel
theorem dX6_unrule_99 : decode cX6_unrule 99 = .ok (.iaload, 1) := by decide +kernel
theorem dX6_unrule_100 : decode cX6_unrule 100 = .ok (.iconst 1, 1) := by decide +kernel
theorem dX6_unrule_101 : decode cX6_unrule 101 = .ok (.isub, 1) := by decide +kernel
theorem dX6_unrule_102 : decode cX6_unrule 102 = .ok (.dup_x2, 1) := by decide +kernel
theorem dX6_unrule_103 : decode cX6_unrule 103 = .ok (.iastore, 1) := by decide +kernel
theorem dX6_unrule_104 : decode cX6_unrule 104 = .ok (.ireturn, 1) := by decide +kernel
theorem dX6_hold_0 : decode cX6_hold 0 = .ok (.aload_n 0, 1) := by decide +kernel
theorem dX6_hold_1 : decode cX6_hold 1 = .ok (.iconst 0, 1) := by decide +kernel
theorem dX6_hold_2 : decode cX6_hold 2 = .ok (.putfield 80, 3) := by decide +kernel
theorem dX6_hold_5 : decode cX6_hold 5 = .ok (.iload_n 1, 1) := by decide +kernel
theorem dX6_hold_6 : decode cX6_hold 6 = .ok (.iconst 0, 1) := by decide +kernel
theorem dX6_hold_7 : decode cX6_hold 7 = .ok (.sipush 1000, 3) := by decide +kernel
theorem dX6_hold_10 : decode cX6_hold 10 = .ok (.invokestatic 87, 3) := by decide +kernel
theorem dX6_hold_13 : decode cX6_hold 13 = .ok (.ifCond .ne 9, 3) := by decide +kernel
theorem dX6_hold_16 : decode cX6_hold 16 = .ok (.aload_n 0, 1) := by decide +kernel
theorem dX6_hold_17 : decode cX6_hold 17 = .ok (.iconst 1, 1) := by decide +kernel
theorem dX6_hold_18 : decode cX6_hold 18 = .ok (.invokevirtual 95, 3) := by decide +kernel
theorem dX6_hold_21 : decode cX6_hold 21 = .ok (.ireturn, 1) := by decide +kernel
theorem dX6_hold_22 : decode cX6_hold 22 = .ok (.aload_n 0, 1) := by decide +kernel
theorem dX6_hold_23 : decode cX6_hold 23 = .ok (.getfield 136, 3) := by decide +kernel
theorem dX6_hold_26 : decode cX6_hold 26 = .ok (.istore_n 2, 1) := by decide +kernel
theorem dX6_hold_27 : decode cX6_hold 27 = .ok (.aload_n 0, 1) := by decide +kernel
theorem dX6_hold_28 : decode cX6_hold 28 = .ok (.iload_n 1, 1) := by decide +kernel
theorem dX6_hold_29 : decode cX6_hold 29 = .ok (.putfield 136, 3) := by decide +kernel
theorem dX6_hold_32 : decode cX6_hold 32 = .ok (.iload_n 2, 1) := by decide +kernel
theorem dX6_hold_33 : decode cX6_hold 33 = .ok (.ireturn, 1) := by decide +kernel
theorem dX6_goOn_0 : decode cX6_goOn 0 = .ok (.aload_n 0, 1) := by decide +kernel
theorem dX6_goOn_1 : decode cX6_goOn 1 = .ok (.iconst 0, 1) := by decide +kernel
theorem dX6_goOn_2 : decode cX6_goOn 2 = .ok (.putfield 80, 3) := by decide +kernel
theorem dX6_goOn_5 : decode cX6_goOn 5 = .ok (.iload_n 1, 1) := by decide +kernel
theorem dX6_goOn_6 : decode cX6_goOn 6 = .ok (.iconst 1, 1) := by decide +kernel
theorem dX6_goOn_7 : decode cX6_goOn 7 = .ok (.bipush 100, 2) := by decide +kernel
theorem dX6_goOn_9 : decode cX6_goOn 9 = .ok (.invokestatic 87, 3) := by decide +kernel
theorem dX6_goOn_12 : decode cX6_goOn 12 = .ok (.ifCond .ne 9, 3) := by decide +kernel
theorem dX6_goOn_15 : decode cX6_goOn 15 = .ok (.aload_n 0, 1) := by decide +kernel
theorem dX6_goOn_16 : decode cX6_goOn 16 = .ok (.iconst 1, 1) := by decide +kernel
theorem dX6_goOn_17 : decode cX6_goOn 17 = .ok (.invokevirtual 95, 3) := by decide +kernel
theorem dX6_goOn_20 : decode cX6_goOn 20 = .ok (.ireturn, 1) := by decide +kernel
theorem dX6_goOn_21 : decode cX6_goOn 21 = .ok (.aload_n 0, 1) := by decide +kernel
theorem dX6_goOn_22 : decode cX6_goOn 22 = .ok (.dup, 1) := by decide +kernel
theorem dX6_goOn_23 : decode cX6_goOn 23 = .ok (.getfield 99, 3) := by decide +kernel
theorem dX6_goOn_26 : decode cX6_goOn 26 = .ok (.iload_n 1, 1) := by decide +kernel
theorem dX6_goOn_27 : decode cX6_goOn 27 = .ok (.iadd, 1) := by decide +kernel
theorem dX6_goOn_28 : decode cX6_goOn 28 = .ok (.putfield 99, 3) := by decide +kernel
theorem dX6_goOn_31 : decode cX6_goOn 31 = .ok (.aload_n 0, 1) := by decide +kernel
theorem dX6_goOn_32 : decode cX6_goOn 32 = .ok (.getfield 99, 3) := by decide +kernel
theorem dX6_goOn_35 : decode cX6_goOn 35 = .ok (.ireturn, 1) := by decide +kernel
theorem dX6_switches_0 : decode cX6_switches 0 = .ok (.aload_n 0, 1) := by decide +kernel
theorem dX6_switches_1 : decode cX6_switches 1 = .ok (.aload_n 0, 1) := by decide +kernel
theorem dX6_switches_2 : decode cX6_switches 2 = .ok (.getfield 84, 3) := by decide +kernel
theorem dX6_switches_5 : decode cX6_switches 5 = .ok (.invokevirtual 139, 3) := by decide +kernel
theorem dX6_switches_8 : decode cX6_switches 8 = .ok (.ireturn, 1) := by decide +kernel
theorem dX6_weight_0 : decode cX6_weight 0 = .ok (.aload_n 0, 1) := by decide +kernel
theorem dX6_weight_1 : decode cX6_weight 1 = .ok (.iconst 0, 1) := by decide +kernel
theorem dX6_weight_2 : decode cX6_weight 2 = .ok (.putfield 80, 3) := by decide +kernel
theorem dX6_weight_5 : decode cX6_weight 5 = .ok (.aload_n 0, 1) := by decide +kernel
theorem dX6_weight_6 : decode cX6_weight 6 = .ok (.iload_n 1, 1) := by decide +kernel
theorem dX6_weight_7 : decode cX6_weight 7 = .ok (.iload_n 2, 1) := by decide +kernel
theorem dX6_weight_8 : decode cX6_weight 8 = .ok (.invokevirtual 102, 3) := by decide +kernel
theorem dX6_weight_11 : decode cX6_weight 11 = .ok (.ifCond .eq 16, 3) := by decide +kernel
theorem dX6_weight_14 : decode cX6_weight 14 = .ok (.aload_n 0, 1) := by decide +kernel
theorem dX6_weight_15 : decode cX6_weight 15 = .ok (.getfield 16, 3) := by decide +kernel
theorem dX6_weight_18 : decode cX6_weight 18 = .ok (.iload_n 1, 1) := by decide +kernel
theorem dX6_weight_19 : decode cX6_weight 19 = .ok (.iconst 4, 1) := by decide +kernel
theorem dX6_weight_20 : decode cX6_weight 20 = .ok (.imul, 1) := by decide +kernel
theorem dX6_weight_21 : decode cX6_weight 21 = .ok (.iload_n 2, 1) := by decide +kernel
theorem dX6_weight_22 : decode cX6_weight 22 = .ok (.iadd, 1) := by decide +kernel
theorem dX6_weight_23 : decode cX6_weight 23 = .ok (.iaload, 1) := by decide +kernel
theorem dX6_weight_24 : decode cX6_weight 24 = .ok (.goto 8, 3) := by decide +kernel
theorem dX6_weight_27 : decode cX6_weight 27 = .ok (.aload_n 0, 1) := by decide +kernel
theorem dX6_weight_28 : decode cX6_weight 28 = .ok (.iconst 1, 1) := by decide +kernel
theorem dX6_weight_29 : decode cX6_weight 29 = .ok (.invokevirtual 95, 3) := by decide +kernel
theorem dX6_weight_32 : decode cX6_weight 32 = .ok (.ireturn, 1) := by decide +kernel
theorem dX6_share_0 : decode cX6_share 0 = .ok (.aload_n 0, 1) := by decide +kernel
theorem dX6_share_1 : decode cX6_share 1 = .ok (.iconst 0, 1) := by decide +kernel
theorem dX6_share_2 : decode cX6_share 2 = .ok (.putfield 80, 3) := by decide +kernel
theorem dX6_share_5 : decode cX6_share 5 = .ok (.aload_n 0, 1) := by decide +kernel
theorem dX6_share_6 : decode cX6_share 6 = .ok (.iload_n 1, 1) := by decide +kernel
theorem dX6_share_7 : decode cX6_share 7 = .ok (.invokevirtual 91, 3) := by decide +kernel
theorem dX6_share_10 : decode cX6_share 10 = .ok (.ifCond .eq 12, 3) := by decide +kernel
theorem dX6_share_13 : decode cX6_share 13 = .ok (.aload_n 0, 1) := by decide +kernel
theorem dX6_share_14 : decode cX6_share 14 = .ok (.iload_n 1, 1) := by decide +kernel
theorem dX6_share_15 : decode cX6_share 15 = .ok (.iconst 0, 1) := by decide +kernel
theorem dX6_share_16 : decode cX6_share 16 = .ok (.invokevirtual 117, 3) := by decide +kernel
theorem dX6_share_19 : decode cX6_share 19 = .ok (.goto 8, 3) := by decide +kernel
theorem dX6_share_22 : decode cX6_share 22 = .ok (.aload_n 0, 1) := by decide +kernel
theorem dX6_share_23 : decode cX6_share 23 = .ok (.iconst 1, 1) := by decide +kernel
theorem dX6_share_24 : decode cX6_share 24 = .ok (.invokevirtual 95, 3) := by decide +kernel
theorem dX6_share_27 : decode cX6_share 27 = .ok (.ireturn, 1) := by decide +kernel
theorem dX6_leftIn_0 : decode cX6_leftIn 0 = .ok (.sipush 1000, 3) := by decide +kernel
theorem dX6_leftIn_3 : decode cX6_leftIn 3 = .ok (.istore_n 2, 1) := by decide +kernel
theorem dX6_leftIn_4 : decode cX6_leftIn 4 = .ok (.iconst 0, 1) := by decide +kernel
theorem dX6_leftIn_5 : decode cX6_leftIn 5 = .ok (.istore_n 3, 1) := by decide +kernel
theorem dX6_leftIn_6 : decode cX6_leftIn 6 = .ok (.iload_n 3, 1) := by decide +kernel
theorem dX6_leftIn_7 : decode cX6_leftIn 7 = .ok (.aload_n 0, 1) := by decide +kernel
theorem dX6_leftIn_8 : decode cX6_leftIn 8 = .ok (.getfield 84, 3) := by decide +kernel
theorem dX6_leftIn_11 : decode cX6_leftIn 11 = .ok (.if_icmp .ge 39, 3) := by decide +kernel
theorem dX6_leftIn_14 : decode cX6_leftIn 14 = .ok (.iload_n 2, 1) := by decide +kernel
theorem dX6_leftIn_15 : decode cX6_leftIn 15 = .ok (.aload_n 0, 1) := by decide +kernel
theorem dX6_leftIn_16 : decode cX6_leftIn 16 = .ok (.getfield 35, 3) := by decide +kernel
theorem dX6_leftIn_19 : decode cX6_leftIn 19 = .ok (.iload_n 3, 1) := by decide +kernel
theorem dX6_leftIn_20 : decode cX6_leftIn 20 = .ok (.iaload, 1) := by decide +kernel
theorem dX6_leftIn_21 : decode cX6_leftIn 21 = .ok (.iload_n 1, 1) := by decide +kernel
theorem dX6_leftIn_22 : decode cX6_leftIn 22 = .ok (.if_icmp .ne 19, 3) := by decide +kernel
theorem dX6_leftIn_25 : decode cX6_leftIn 25 = .ok (.aload_n 0, 1) := by decide +kernel
theorem dX6_leftIn_26 : decode cX6_leftIn 26 = .ok (.getfield 41, 3) := by decide +kernel
theorem dX6_leftIn_29 : decode cX6_leftIn 29 = .ok (.iload_n 3, 1) := by decide +kernel
theorem dX6_leftIn_30 : decode cX6_leftIn 30 = .ok (.iaload, 1) := by decide +kernel
theorem dX6_leftIn_31 : decode cX6_leftIn 31 = .ok (.aload_n 0, 1) := by decide +kernel
theorem dX6_leftIn_32 : decode cX6_leftIn 32 = .ok (.getfield 38, 3) := by decide +kernel
theorem dX6_leftIn_35 : decode cX6_leftIn 35 = .ok (.iload_n 3, 1) := by decide +kernel
theorem dX6_leftIn_36 : decode cX6_leftIn 36 = .ok (.iaload, 1) := by decide +kernel
theorem dX6_leftIn_37 : decode cX6_leftIn 37 = .ok (.isub, 1) := by decide +kernel
theorem dX6_leftIn_38 : decode cX6_leftIn 38 = .ok (.goto 4, 3) := by decide +kernel
theorem dX6_leftIn_41 : decode cX6_leftIn 41 = .ok (.iconst 0, 1) := by decide +kernel
theorem dX6_leftIn_42 : decode cX6_leftIn 42 = .ok (.isub, 1) := by decide +kernel
theorem dX6_leftIn_43 : decode cX6_leftIn 43 = .ok (.istore_n 2, 1) := by decide +kernel
theorem dX6_leftIn_44 : decode cX6_leftIn 44 = .ok (.iinc 3 1, 3) := by decide +kernel
theorem dX6_leftIn_47 : decode cX6_leftIn 47 = .ok (.goto (-41), 3) := by decide +kernel
theorem dX6_leftIn_50 : decode cX6_leftIn 50 = .ok (.iload_n 2, 1) := by decide +kernel
theorem dX6_leftIn_51 : decode cX6_leftIn 51 = .ok (.ireturn, 1) := by decide +kernel
theorem dX6_left_0 : decode cX6_left 0 = .ok (.aload_n 0, 1) := by decide +kernel
theorem dX6_left_1 : decode cX6_left 1 = .ok (.iconst 0, 1) := by decide +kernel
theorem dX6_left_2 : decode cX6_left 2 = .ok (.putfield 80, 3) := by decide +kernel
theorem dX6_left_5 : decode cX6_left 5 = .ok (.iload_n 1, 1) := by decide +kernel
theorem dX6_left_6 : decode cX6_left 6 = .ok (.iconst 0, 1) := by decide +kernel
theorem dX6_left_7 : decode cX6_left 7 = .ok (.iconst 2, 1) := by decide +kernel
theorem dX6_left_8 : decode cX6_left 8 = .ok (.invokestatic 87, 3) := by decide +kernel
theorem dX6_left_11 : decode cX6_left 11 = .ok (.ifCond .eq 11, 3) := by decide +kernel
theorem dX6_left_14 : decode cX6_left 14 = .ok (.aload_n 0, 1) := by decide +kernel
theorem dX6_left_15 : decode cX6_left 15 = .ok (.iload_n 1, 1) := by decide +kernel
theorem dX6_left_16 : decode cX6_left 16 = .ok (.invokevirtual 142, 3) := by decide +kernel
theorem dX6_left_19 : decode cX6_left 19 = .ok (.goto 8, 3) := by decide +kernel
theorem dX6_left_22 : decode cX6_left 22 = .ok (.aload_n 0, 1) := by decide +kernel
theorem dX6_left_23 : decode cX6_left 23 = .ok (.iconst 1, 1) := by decide +kernel
theorem dX6_left_24 : decode cX6_left 24 = .ok (.invokevirtual 95, 3) := by decide +kernel
theorem dX6_left_27 : decode cX6_left 27 = .ok (.ireturn, 1) := by decide +kernel
theorem dX6_bucketOf_0 : decode cX6_bucketOf 0 = .ok (.iload_n 0, 1) := by decide +kernel
theorem dX6_bucketOf_1 : decode cX6_bucketOf 1 = .ok (.sipush 7919, 3) := by decide +kernel
theorem dX6_bucketOf_4 : decode cX6_bucketOf 4 = .ok (.imul, 1) := by decide +kernel
theorem dX6_bucketOf_5 : decode cX6_bucketOf 5 = .ok (.iload_n 1, 1) := by decide +kernel
theorem dX6_bucketOf_6 : decode cX6_bucketOf 6 = .ok (.bipush 31, 2) := by decide +kernel
theorem dX6_bucketOf_8 : decode cX6_bucketOf 8 = .ok (.imul, 1) := by decide +kernel
theorem dX6_bucketOf_9 : decode cX6_bucketOf 9 = .ok (.iadd, 1) := by decide +kernel
theorem dX6_bucketOf_10 : decode cX6_bucketOf 10 = .ok (.bipush 17, 2) := by decide +kernel
theorem dX6_bucketOf_12 : decode cX6_bucketOf 12 = .ok (.iadd, 1) := by decide +kernel
theorem dX6_bucketOf_13 : decode cX6_bucketOf 13 = .ok (.sipush 10007, 3) := by decide +kernel
theorem dX6_bucketOf_16 : decode cX6_bucketOf 16 = .ok (.irem, 1) := by decide +kernel
theorem dX6_bucketOf_17 : decode cX6_bucketOf 17 = .ok (.istore_n 2, 1) := by decide +kernel
theorem dX6_bucketOf_18 : decode cX6_bucketOf 18 = .ok (.iload_n 2, 1) := by decide +kernel
theorem dX6_bucketOf_19 : decode cX6_bucketOf 19 = .ok (.iload_n 2, 1) := by decide +kernel
theorem dX6_bucketOf_20 : decode cX6_bucketOf 20 = .ok (.imul, 1) := by decide +kernel
theorem dX6_bucketOf_21 : decode cX6_bucketOf 21 = .ok (.iload_n 0, 1) := by decide +kernel
theorem dX6_bucketOf_22 : decode cX6_bucketOf 22 = .ok (.iadd, 1) := by decide +kernel
theorem dX6_bucketOf_23 : decode cX6_bucketOf 23 = .ok (.iconst 3, 1) := by decide +kernel
theorem dX6_bucketOf_24 : decode cX6_bucketOf 24 = .ok (.iload_n 1, 1) := by decide +kernel
theorem dX6_bucketOf_25 : decode cX6_bucketOf 25 = .ok (.imul, 1) := by decide +kernel
theorem dX6_bucketOf_26 : decode cX6_bucketOf 26 = .ok (.iadd, 1) := by decide +kernel
theorem dX6_bucketOf_27 : decode cX6_bucketOf 27 = .ok (.sipush 10007, 3) := by decide +kernel
theorem dX6_bucketOf_30 : decode cX6_bucketOf 30 = .ok (.irem, 1) := by decide +kernel
theorem dX6_bucketOf_31 : decode cX6_bucketOf 31 = .ok (.sipush 1000, 3) := by decide +kernel
theorem dX6_bucketOf_34 : decode cX6_bucketOf 34 = .ok (.irem, 1) := by decide +kernel
theorem dX6_bucketOf_35 : decode cX6_bucketOf 35 = .ok (.ireturn, 1) := by decide +kernel
theorem dX6_bucket_0 : decode cX6_bucket 0 = .ok (.aload_n 0, 1) := by decide +kernel
theorem dX6_bucket_1 : decode cX6_bucket 1 = .ok (.iconst 0, 1) := by decide +kernel
theorem dX6_bucket_2 : decode cX6_bucket 2 = .ok (.putfield 80, 3) := by decide +kernel
theorem dX6_bucket_5 : decode cX6_bucket 5 = .ok (.iload_n 1, 1) := by decide +kernel
theorem dX6_bucket_6 : decode cX6_bucket 6 = .ok (.iconst 0, 1) := by decide +kernel
theorem dX6_bucket_7 : decode cX6_bucket 7 = .ok (.sipush 999, 3) := by decide +kernel
theorem dX6_bucket_10 : decode cX6_bucket 10 = .ok (.invokestatic 87, 3) := by decide +kernel
theorem dX6_bucket_13 : decode cX6_bucket 13 = .ok (.ifCond .eq 18, 3) := by decide +kernel
theorem dX6_bucket_16 : decode cX6_bucket 16 = .ok (.iload_n 2, 1) := by decide +kernel
theorem dX6_bucket_17 : decode cX6_bucket 17 = .ok (.invokestatic 145, 3) := by decide +kernel
theorem dX6_bucket_20 : decode cX6_bucket 20 = .ok (.ifCond .eq 11, 3) := by decide +kernel
theorem dX6_bucket_23 : decode cX6_bucket 23 = .ok (.iload_n 1, 1) := by decide +kernel
theorem dX6_bucket_24 : decode cX6_bucket 24 = .ok (.iload_n 2, 1) := by decide +kernel
theorem dX6_bucket_25 : decode cX6_bucket 25 = .ok (.invokestatic 148, 3) := by decide +kernel
theorem dX6_bucket_28 : decode cX6_bucket 28 = .ok (.goto 8, 3) := by decide +kernel
theorem dX6_bucket_31 : decode cX6_bucket 31 = .ok (.aload_n 0, 1) := by decide +kernel
theorem dX6_bucket_32 : decode cX6_bucket 32 = .ok (.iconst 1, 1) := by decide +kernel
theorem dX6_bucket_33 : decode cX6_bucket 33 = .ok (.invokevirtual 95, 3) := by decide +kernel
theorem dX6_bucket_36 : decode cX6_bucket 36 = .ok (.ireturn, 1) := by decide +kernel
theorem dX6_armAt_0 : decode cX6_armAt 0 = .ok (.iconst 0, 1) := by decide +kernel
theorem dX6_armAt_1 : decode cX6_armAt 1 = .ok (.istore_n 3, 1) := by decide +kernel
theorem dX6_armAt_2 : decode cX6_armAt 2 = .ok (.iload_n 3, 1) := by decide +kernel
theorem dX6_armAt_3 : decode cX6_armAt 3 = .ok (.aload_n 0, 1) := by decide +kernel
theorem dX6_armAt_4 : decode cX6_armAt 4 = .ok (.getfield 151, 3) := by decide +kernel
theorem dX6_armAt_7 : decode cX6_armAt 7 = .ok (.if_icmp .ge 31, 3) := by decide +kernel
theorem dX6_armAt_10 : decode cX6_armAt 10 = .ok (.aload_n 0, 1) := by decide +kernel
theorem dX6_armAt_11 : decode cX6_armAt 11 = .ok (.getfield 65, 3) := by decide +kernel
theorem dX6_armAt_14 : decode cX6_armAt 14 = .ok (.iload_n 3, 1) := by decide +kernel
theorem dX6_armAt_15 : decode cX6_armAt 15 = .ok (.iaload, 1) := by decide +kernel
theorem dX6_armAt_16 : decode cX6_armAt 16 = .ok (.iload_n 1, 1) := by decide +kernel
theorem dX6_armAt_17 : decode cX6_armAt 17 = .ok (.if_icmp .ne 15, 3) := by decide +kernel
theorem dX6_armAt_20 : decode cX6_armAt 20 = .ok (.aload_n 0, 1) := by decide +kernel
theorem dX6_armAt_21 : decode cX6_armAt 21 = .ok (.getfield 68, 3) := by decide +kernel
theorem dX6_armAt_24 : decode cX6_armAt 24 = .ok (.iload_n 3, 1) := by decide +kernel
theorem dX6_armAt_25 : decode cX6_armAt 25 = .ok (.iaload, 1) := by decide +kernel
theorem dX6_armAt_26 : decode cX6_armAt 26 = .ok (.iload_n 2, 1) := by decide +kernel
theorem dX6_armAt_27 : decode cX6_armAt 27 = .ok (.if_icmp .ne 5, 3) := by decide +kernel
theorem dX6_armAt_30 : decode cX6_armAt 30 = .ok (.iload_n 3, 1) := by decide +kernel
theorem dX6_armAt_31 : decode cX6_armAt 31 = .ok (.ireturn, 1) := by decide +kernel
theorem dX6_armAt_32 : decode cX6_armAt 32 = .ok (.iinc 3 1, 3) := by decide +kernel
theorem dX6_armAt_35 : decode cX6_armAt 35 = .ok (.goto (-33), 3) := by decide +kernel
theorem dX6_armAt_38 : decode cX6_armAt 38 = .ok (.iconst (-1), 1) := by decide +kernel
theorem dX6_armAt_39 : decode cX6_armAt 39 = .ok (.ireturn, 1) := by decide +kernel
theorem dX6_holdsNow_0 : decode cX6_holdsNow 0 = .ok (.iload_n 1, 1) := by decide +kernel
theorem dX6_holdsNow_1 : decode cX6_holdsNow 1 = .ok (.iconst 5, 1) := by decide +kernel
theorem dX6_holdsNow_2 : decode cX6_holdsNow 2 = .ok (.imul, 1) := by decide +kernel
theorem dX6_holdsNow_3 : decode cX6_holdsNow 3 = .ok (.istore 4, 2) := by decide +kernel
theorem dX6_holdsNow_5 : decode cX6_holdsNow 5 = .ok (.iload 4, 2) := by decide +kernel
theorem dX6_holdsNow_7 : decode cX6_holdsNow 7 = .ok (.iload_n 1, 1) := by decide +kernel
theorem dX6_holdsNow_8 : decode cX6_holdsNow 8 = .ok (.iconst 5, 1) := by decide +kernel
theorem dX6_holdsNow_9 : decode cX6_holdsNow 9 = .ok (.imul, 1) := by decide +kernel
theorem dX6_holdsNow_10 : decode cX6_holdsNow 10 = .ok (.aload_n 0, 1) := by decide +kernel
theorem dX6_holdsNow_11 : decode cX6_holdsNow 11 = .ok (.getfield 50, 3) := by decide +kernel
theorem dX6_holdsNow_14 : decode cX6_holdsNow 14 = .ok (.iload_n 1, 1) := by decide +kernel
theorem dX6_holdsNow_15 : decode cX6_holdsNow 15 = .ok (.iaload, 1) := by decide +kernel
theorem dX6_holdsNow_16 : decode cX6_holdsNow 16 = .ok (.iadd, 1) := by decide +kernel
theorem dX6_holdsNow_17 : decode cX6_holdsNow 17 = .ok (.if_icmp .ge 97, 3) := by decide +kernel
theorem dX6_holdsNow_20 : decode cX6_holdsNow 20 = .ok (.aload_n 0, 1) := by decide +kernel
theorem dX6_holdsNow_21 : decode cX6_holdsNow 21 = .ok (.getfield 53, 3) := by decide +kernel
theorem dX6_holdsNow_24 : decode cX6_holdsNow 24 = .ok (.iload 4, 2) := by decide +kernel
theorem dX6_holdsNow_26 : decode cX6_holdsNow 26 = .ok (.iaload, 1) := by decide +kernel
theorem dX6_holdsNow_27 : decode cX6_holdsNow 27 = .ok (.ifCond .ne 7, 3) := by decide +kernel
theorem dX6_holdsNow_30 : decode cX6_holdsNow 30 = .ok (.iload_n 2, 1) := by decide +kernel
theorem dX6_holdsNow_31 : decode cX6_holdsNow 31 = .ok (.goto 4, 3) := by decide +kernel
theorem dX6_holdsNow_34 : decode cX6_holdsNow 34 = .ok (.iload_n 3, 1) := by decide +kernel
theorem dX6_holdsNow_35 : decode cX6_holdsNow 35 = .ok (.istore 5, 2) := by decide +kernel
theorem dX6_holdsNow_37 : decode cX6_holdsNow 37 = .ok (.aload_n 0, 1) := by decide +kernel
theorem dX6_holdsNow_38 : decode cX6_holdsNow 38 = .ok (.getfield 56, 3) := by decide +kernel
theorem dX6_holdsNow_41 : decode cX6_holdsNow 41 = .ok (.iload 4, 2) := by decide +kernel
theorem dX6_holdsNow_43 : decode cX6_holdsNow 43 = .ok (.iaload, 1) := by decide +kernel
theorem dX6_holdsNow_44 : decode cX6_holdsNow 44 = .ok (.iconst 1, 1) := by decide +kernel
theorem dX6_holdsNow_45 : decode cX6_holdsNow 45 = .ok (.if_icmp .ne 18, 3) := by decide +kernel
theorem dX6_holdsNow_48 : decode cX6_holdsNow 48 = .ok (.iload 5, 2) := by decide +kernel
theorem dX6_holdsNow_50 : decode cX6_holdsNow 50 = .ok (.aload_n 0, 1) := by decide +kernel
theorem dX6_holdsNow_51 : decode cX6_holdsNow 51 = .ok (.getfield 59, 3) := by decide +kernel
theorem dX6_holdsNow_54 : decode cX6_holdsNow 54 = .ok (.iload 4, 2) := by decide +kernel
theorem dX6_holdsNow_56 : decode cX6_holdsNow 56 = .ok (.iaload, 1) := by decide +kernel
theorem dX6_holdsNow_57 : decode cX6_holdsNow 57 = .ok (.if_icmp .ge 51, 3) := by decide +kernel
theorem dX6_holdsNow_60 : decode cX6_holdsNow 60 = .ok (.goto 41, 3) := by decide +kernel
theorem dX6_holdsNow_63 : decode cX6_holdsNow 63 = .ok (.aload_n 0, 1) := by decide +kernel
theorem dX6_holdsNow_64 : decode cX6_holdsNow 64 = .ok (.getfield 56, 3) := by decide +kernel
theorem dX6_holdsNow_67 : decode cX6_holdsNow 67 = .ok (.iload 4, 2) := by decide +kernel
theorem dX6_holdsNow_69 : decode cX6_holdsNow 69 = .ok (.iaload, 1) := by decide +kernel
theorem dX6_holdsNow_70 : decode cX6_holdsNow 70 = .ok (.iconst 2, 1) := by decide +kernel
theorem dX6_holdsNow_71 : decode cX6_holdsNow 71 = .ok (.if_icmp .ne 18, 3) := by decide +kernel
theorem dX6_holdsNow_74 : decode cX6_holdsNow 74 = .ok (.iload 5, 2) := by decide +kernel
theorem dX6_holdsNow_76 : decode cX6_holdsNow 76 = .ok (.aload_n 0, 1) := by decide +kernel
theorem dX6_holdsNow_77 : decode cX6_holdsNow 77 = .ok (.getfield 59, 3) := by decide +kernel
theorem dX6_holdsNow_80 : decode cX6_holdsNow 80 = .ok (.iload 4, 2) := by decide +kernel
theorem dX6_holdsNow_82 : decode cX6_holdsNow 82 = .ok (.iaload, 1) := by decide +kernel
theorem dX6_holdsNow_83 : decode cX6_holdsNow 83 = .ok (.if_icmp .ne 25, 3) := by decide +kernel
theorem dX6_holdsNow_86 : decode cX6_holdsNow 86 = .ok (.goto 15, 3) := by decide +kernel
theorem dX6_holdsNow_89 : decode cX6_holdsNow 89 = .ok (.iload 5, 2) := by decide +kernel
theorem dX6_holdsNow_91 : decode cX6_holdsNow 91 = .ok (.aload_n 0, 1) := by decide +kernel
theorem dX6_holdsNow_92 : decode cX6_holdsNow 92 = .ok (.getfield 59, 3) := by decide +kernel
theorem dX6_holdsNow_95 : decode cX6_holdsNow 95 = .ok (.iload 4, 2) := by decide +kernel
theorem dX6_holdsNow_97 : decode cX6_holdsNow 97 = .ok (.iaload, 1) := by decide +kernel
theorem dX6_holdsNow_98 : decode cX6_holdsNow 98 = .ok (.if_icmp .le 10, 3) := by decide +kernel
theorem dX6_holdsNow_101 : decode cX6_holdsNow 101 = .ok (.iload 4, 2) := by decide +kernel
theorem dX6_holdsNow_103 : decode cX6_holdsNow 103 = .ok (.iload_n 1, 1) := by decide +kernel
theorem dX6_holdsNow_104 : decode cX6_holdsNow 104 = .ok (.iconst 5, 1) := by decide +kernel
theorem dX6_holdsNow_105 : decode cX6_holdsNow 105 = .ok (.imul, 1) := by decide +kernel
theorem dX6_holdsNow_106 : decode cX6_holdsNow 106 = .ok (.isub, 1) := by decide +kernel
theorem dX6_holdsNow_107 : decode cX6_holdsNow 107 = .ok (.ireturn, 1) := by decide +kernel
theorem dX6_holdsNow_108 : decode cX6_holdsNow 108 = .ok (.iinc 4 1, 3) := by decide +kernel
theorem dX6_holdsNow_111 : decode cX6_holdsNow 111 = .ok (.goto (-106), 3) := by decide +kernel
theorem dX6_holdsNow_114 : decode cX6_holdsNow 114 = .ok (.iconst (-1), 1) := by decide +kernel
theorem dX6_holdsNow_115 : decode cX6_holdsNow 115 = .ok (.ireturn, 1) := by decide +kernel
theorem dX6_split_0 : decode cX6_split 0 = .ok (.aload_n 0, 1) := by decide +kernel
theorem dX6_split_1 : decode cX6_split 1 = .ok (.getfield 9, 3) := by decide +kernel
theorem dX6_split_4 : decode cX6_split 4 = .ok (.iload_n 1, 1) := by decide +kernel
theorem dX6_split_5 : decode cX6_split 5 = .ok (.iaload, 1) := by decide +kernel
theorem dX6_split_6 : decode cX6_split 6 = .ok (.iload_n 2, 1) := by decide +kernel
theorem dX6_split_7 : decode cX6_split 7 = .ok (.invokestatic 148, 3) := by decide +kernel
theorem dX6_split_10 : decode cX6_split 10 = .ok (.istore_n 3, 1) := by decide +kernel
theorem dX6_split_11 : decode cX6_split 11 = .ok (.iconst 0, 1) := by decide +kernel
theorem dX6_split_12 : decode cX6_split 12 = .ok (.istore 4, 2) := by decide +kernel
theorem dX6_split_14 : decode cX6_split 14 = .ok (.aload_n 0, 1) := by decide +kernel
theorem dX6_split_15 : decode cX6_split 15 = .ok (.getfield 16, 3) := by decide +kernel
theorem dX6_split_18 : decode cX6_split 18 = .ok (.iload_n 1, 1) := by decide +kernel
theorem dX6_split_19 : decode cX6_split 19 = .ok (.iconst 4, 1) := by decide +kernel
theorem dX6_split_20 : decode cX6_split 20 = .ok (.imul, 1) := by decide +kernel
theorem dX6_split_21 : decode cX6_split 21 = .ok (.iaload, 1) := by decide +kernel
theorem dX6_split_22 : decode cX6_split 22 = .ok (.istore 5, 2) := by decide +kernel
theorem dX6_split_24 : decode cX6_split 24 = .ok (.iload_n 3, 1) := by decide +kernel
theorem dX6_split_25 : decode cX6_split 25 = .ok (.iload 5, 2) := by decide +kernel
theorem dX6_split_27 : decode cX6_split 27 = .ok (.if_icmp .lt 25, 3) := by decide +kernel
theorem dX6_split_30 : decode cX6_split 30 = .ok (.iinc 4 1, 3) := by decide +kernel
theorem dX6_split_33 : decode cX6_split 33 = .ok (.iload 5, 2) := by decide +kernel
theorem dX6_split_35 : decode cX6_split 35 = .ok (.aload_n 0, 1) := by decide +kernel
theorem dX6_split_36 : decode cX6_split 36 = .ok (.getfield 16, 3) := by decide +kernel
theorem dX6_split_39 : decode cX6_split 39 = .ok (.iload_n 1, 1) := by decide +kernel
theorem dX6_split_40 : decode cX6_split 40 = .ok (.iconst 4, 1) := by decide +kernel
theorem dX6_split_41 : decode cX6_split 41 = .ok (.imul, 1) := by decide +kernel
theorem dX6_split_42 : decode cX6_split 42 = .ok (.iload 4, 2) := by decide +kernel
theorem dX6_split_44 : decode cX6_split 44 = .ok (.iadd, 1) := by decide +kernel
theorem dX6_split_45 : decode cX6_split 45 = .ok (.iaload, 1) := by decide +kernel
theorem dX6_split_46 : decode cX6_split 46 = .ok (.iadd, 1) := by decide +kernel
theorem dX6_split_47 : decode cX6_split 47 = .ok (.istore 5, 2) := by decide +kernel
theorem dX6_split_49 : decode cX6_split 49 = .ok (.goto (-25), 3) := by decide +kernel
theorem dX6_split_52 : decode cX6_split 52 = .ok (.iload 4, 2) := by decide +kernel
theorem dX6_split_54 : decode cX6_split 54 = .ok (.ireturn, 1) := by decide +kernel
theorem dX6_getsNow_0 : decode cX6_getsNow 0 = .ok (.aload_n 0, 1) := by decide +kernel
theorem dX6_getsNow_1 : decode cX6_getsNow 1 = .ok (.getfield 32, 3) := by decide +kernel
theorem dX6_getsNow_4 : decode cX6_getsNow 4 = .ok (.iload_n 1, 1) := by decide +kernel
theorem dX6_getsNow_5 : decode cX6_getsNow 5 = .ok (.baload, 1) := by decide +kernel
theorem dX6_getsNow_6 : decode cX6_getsNow 6 = .ok (.ifCond .eq 40, 3) := by decide +kernel
theorem dX6_getsNow_9 : decode cX6_getsNow 9 = .ok (.aload_n 0, 1) := by decide +kernel
theorem dX6_getsNow_10 : decode cX6_getsNow 10 = .ok (.getfield 44, 3) := by decide +kernel
theorem dX6_getsNow_13 : decode cX6_getsNow 13 = .ok (.iload_n 1, 1) := by decide +kernel
theorem dX6_getsNow_14 : decode cX6_getsNow 14 = .ok (.iaload, 1) := by decide +kernel
theorem dX6_getsNow_15 : decode cX6_getsNow 15 = .ok (.iconst (-1), 1) := by decide +kernel
theorem dX6_getsNow_16 : decode cX6_getsNow 16 = .ok (.if_icmp .eq 30, 3) := by decide +kernel
theorem dX6_getsNow_19 : decode cX6_getsNow 19 = .ok (.aload_n 0, 1) := by decide +kernel
theorem dX6_getsNow_20 : decode cX6_getsNow 20 = .ok (.aload_n 0, 1) := by decide +kernel
theorem dX6_getsNow_21 : decode cX6_getsNow 21 = .ok (.getfield 44, 3) := by decide +kernel
theorem dX6_getsNow_24 : decode cX6_getsNow 24 = .ok (.iload_n 1, 1) := by decide +kernel
theorem dX6_getsNow_25 : decode cX6_getsNow 25 = .ok (.iaload, 1) := by decide +kernel
theorem dX6_getsNow_26 : decode cX6_getsNow 26 = .ok (.iload_n 2, 1) := by decide +kernel
theorem dX6_getsNow_27 : decode cX6_getsNow 27 = .ok (.iload_n 3, 1) := by decide +kernel
theorem dX6_getsNow_28 : decode cX6_getsNow 28 = .ok (.iload 4, 2) := by decide +kernel
theorem dX6_getsNow_30 : decode cX6_getsNow 30 = .ok (.invokevirtual 154, 3) := by decide +kernel
theorem dX6_getsNow_33 : decode cX6_getsNow 33 = .ok (.aload_n 0, 1) := by decide +kernel
theorem dX6_getsNow_34 : decode cX6_getsNow 34 = .ok (.getfield 47, 3) := by decide +kernel
theorem dX6_getsNow_37 : decode cX6_getsNow 37 = .ok (.iload_n 1, 1) := by decide +kernel
theorem dX6_getsNow_38 : decode cX6_getsNow 38 = .ok (.iaload, 1) := by decide +kernel
theorem dX6_getsNow_39 : decode cX6_getsNow 39 = .ok (.if_icmp .eq 7, 3) := by decide +kernel
theorem dX6_getsNow_42 : decode cX6_getsNow 42 = .ok (.iconst 1, 1) := by decide +kernel
theorem dX6_getsNow_43 : decode cX6_getsNow 43 = .ok (.goto 4, 3) := by decide +kernel
theorem dX6_getsNow_46 : decode cX6_getsNow 46 = .ok (.iconst 0, 1) := by decide +kernel
theorem dX6_getsNow_47 : decode cX6_getsNow 47 = .ok (.istore 6, 2) := by decide +kernel
theorem dX6_getsNow_49 : decode cX6_getsNow 49 = .ok (.aload_n 0, 1) := by decide +kernel
theorem dX6_getsNow_50 : decode cX6_getsNow 50 = .ok (.iload_n 1, 1) := by decide +kernel
theorem dX6_getsNow_51 : decode cX6_getsNow 51 = .ok (.iload_n 2, 1) := by decide +kernel
theorem dX6_getsNow_52 : decode cX6_getsNow 52 = .ok (.invokevirtual 158, 3) := by decide +kernel
theorem dX6_getsNow_55 : decode cX6_getsNow 55 = .ok (.istore 7, 2) := by decide +kernel
theorem dX6_getsNow_57 : decode cX6_getsNow 57 = .ok (.aload_n 0, 1) := by decide +kernel
theorem dX6_getsNow_58 : decode cX6_getsNow 58 = .ok (.iload_n 1, 1) := by decide +kernel
theorem dX6_getsNow_59 : decode cX6_getsNow 59 = .ok (.iload_n 3, 1) := by decide +kernel
theorem dX6_getsNow_60 : decode cX6_getsNow 60 = .ok (.iload 4, 2) := by decide +kernel
theorem dX6_getsNow_62 : decode cX6_getsNow 62 = .ok (.invokevirtual 161, 3) := by decide +kernel
theorem dX6_getsNow_65 : decode cX6_getsNow 65 = .ok (.istore 8, 2) := by decide +kernel
theorem dX6_getsNow_67 : decode cX6_getsNow 67 = .ok (.aload_n 0, 1) := by decide +kernel
theorem dX6_getsNow_68 : decode cX6_getsNow 68 = .ok (.bipush 8, 2) := by decide +kernel
theorem dX6_getsNow_70 : decode cX6_getsNow 70 = .ok (.putfield 165, 3) := by decide +kernel
theorem dX6_getsNow_73 : decode cX6_getsNow 73 = .ok (.aload_n 0, 1) := by decide +kernel
theorem dX6_getsNow_74 : decode cX6_getsNow 74 = .ok (.getfield 32, 3) := by decide +kernel
theorem dX6_getsNow_77 : decode cX6_getsNow 77 = .ok (.iload_n 1, 1) := by decide +kernel
theorem dX6_getsNow_78 : decode cX6_getsNow 78 = .ok (.baload, 1) := by decide +kernel
theorem dX6_getsNow_79 : decode cX6_getsNow 79 = .ok (.ifCond .ne 11, 3) := by decide +kernel
theorem dX6_getsNow_82 : decode cX6_getsNow 82 = .ok (.aload_n 0, 1) := by decide +kernel
theorem dX6_getsNow_83 : decode cX6_getsNow 83 = .ok (.iconst 0, 1) := by decide +kernel
theorem dX6_getsNow_84 : decode cX6_getsNow 84 = .ok (.putfield 165, 3) := by decide +kernel
theorem dX6_getsNow_87 : decode cX6_getsNow 87 = .ok (.goto 203, 3) := by decide +kernel
theorem dX6_getsNow_90 : decode cX6_getsNow 90 = .ok (.iload 6, 2) := by decide +kernel
theorem dX6_getsNow_92 : decode cX6_getsNow 92 = .ok (.ifCond .eq 11, 3) := by decide +kernel
theorem dX6_getsNow_95 : decode cX6_getsNow 95 = .ok (.aload_n 0, 1) := by decide +kernel
theorem dX6_getsNow_96 : decode cX6_getsNow 96 = .ok (.iconst 1, 1) := by decide +kernel
theorem dX6_getsNow_97 : decode cX6_getsNow 97 = .ok (.putfield 165, 3) := by decide +kernel
theorem dX6_getsNow_100 : decode cX6_getsNow 100 = .ok (.goto 190, 3) := by decide +kernel
theorem dX6_getsNow_103 : decode cX6_getsNow 103 = .ok (.aload_n 0, 1) := by decide +kernel
theorem dX6_getsNow_104 : decode cX6_getsNow 104 = .ok (.getfield 28, 3) := by decide +kernel
theorem dX6_getsNow_107 : decode cX6_getsNow 107 = .ok (.iload_n 1, 1) := by decide +kernel
theorem dX6_getsNow_108 : decode cX6_getsNow 108 = .ok (.baload, 1) := by decide +kernel
theorem dX6_getsNow_109 : decode cX6_getsNow 109 = .ok (.ifCond .eq 22, 3) := by decide +kernel
theorem dX6_getsNow_112 : decode cX6_getsNow 112 = .ok (.iload 7, 2) := by decide +kernel
theorem dX6_getsNow_114 : decode cX6_getsNow 114 = .ok (.iconst (-1), 1) := by decide +kernel
theorem dX6_getsNow_115 : decode cX6_getsNow 115 = .ok (.if_icmp .eq 16, 3) := by decide +kernel
theorem dX6_getsNow_118 : decode cX6_getsNow 118 = .ok (.aload_n 0, 1) := by decide +kernel
theorem dX6_getsNow_119 : decode cX6_getsNow 119 = .ok (.iconst 2, 1) := by decide +kernel
theorem dX6_getsNow_120 : decode cX6_getsNow 120 = .ok (.putfield 165, 3) := by decide +kernel
theorem dX6_getsNow_123 : decode cX6_getsNow 123 = .ok (.aload_n 0, 1) := by decide +kernel
theorem dX6_getsNow_124 : decode cX6_getsNow 124 = .ok (.getfield 71, 3) := by decide +kernel
theorem dX6_getsNow_127 : decode cX6_getsNow 127 = .ok (.iload 7, 2) := by decide +kernel
theorem dX6_getsNow_129 : decode cX6_getsNow 129 = .ok (.iaload, 1) := by decide +kernel
theorem dX6_getsNow_130 : decode cX6_getsNow 130 = .ok (.ireturn, 1) := by decide +kernel
theorem dX6_getsNow_131 : decode cX6_getsNow 131 = .ok (.iload 8, 2) := by decide +kernel
theorem dX6_getsNow_133 : decode cX6_getsNow 133 = .ok (.iconst (-1), 1) := by decide +kernel
theorem dX6_getsNow_134 : decode cX6_getsNow 134 = .ok (.if_icmp .eq 35, 3) := by decide +kernel
theorem dX6_getsNow_137 : decode cX6_getsNow 137 = .ok (.aload_n 0, 1) := by decide +kernel
theorem dX6_getsNow_138 : decode cX6_getsNow 138 = .ok (.getfield 62, 3) := by decide +kernel
theorem dX6_getsNow_141 : decode cX6_getsNow 141 = .ok (.iload_n 1, 1) := by decide +kernel
theorem dX6_getsNow_142 : decode cX6_getsNow 142 = .ok (.iconst 5, 1) := by decide +kernel
theorem dX6_getsNow_143 : decode cX6_getsNow 143 = .ok (.imul, 1) := by decide +kernel
theorem dX6_getsNow_144 : decode cX6_getsNow 144 = .ok (.iload 8, 2) := by decide +kernel
theorem dX6_getsNow_146 : decode cX6_getsNow 146 = .ok (.iadd, 1) := by decide +kernel
theorem dX6_getsNow_147 : decode cX6_getsNow 147 = .ok (.iaload, 1) := by decide +kernel
theorem dX6_getsNow_148 : decode cX6_getsNow 148 = .ok (.iconst (-1), 1) := by decide +kernel
theorem dX6_getsNow_149 : decode cX6_getsNow 149 = .ok (.if_icmp .eq 20, 3) := by decide +kernel
theorem dX6_getsNow_152 : decode cX6_getsNow 152 = .ok (.aload_n 0, 1) := by decide +kernel
theorem dX6_getsNow_153 : decode cX6_getsNow 153 = .ok (.iconst 3, 1) := by decide +kernel
theorem dX6_getsNow_154 : decode cX6_getsNow 154 = .ok (.putfield 165, 3) := by decide +kernel
theorem dX6_getsNow_157 : decode cX6_getsNow 157 = .ok (.aload_n 0, 1) := by decide +kernel
theorem dX6_getsNow_158 : decode cX6_getsNow 158 = .ok (.getfield 62, 3) := by decide +kernel
theorem dX6_getsNow_161 : decode cX6_getsNow 161 = .ok (.iload_n 1, 1) := by decide +kernel
theorem dX6_getsNow_162 : decode cX6_getsNow 162 = .ok (.iconst 5, 1) := by decide +kernel
theorem dX6_getsNow_163 : decode cX6_getsNow 163 = .ok (.imul, 1) := by decide +kernel
theorem dX6_getsNow_164 : decode cX6_getsNow 164 = .ok (.iload 8, 2) := by decide +kernel
theorem dX6_getsNow_166 : decode cX6_getsNow 166 = .ok (.iadd, 1) := by decide +kernel
theorem dX6_getsNow_167 : decode cX6_getsNow 167 = .ok (.iaload, 1) := by decide +kernel
theorem dX6_getsNow_168 : decode cX6_getsNow 168 = .ok (.ireturn, 1) := by decide +kernel
theorem dX6_getsNow_169 : decode cX6_getsNow 169 = .ok (.sipush 999, 3) := by decide +kernel
theorem dX6_getsNow_172 : decode cX6_getsNow 172 = .ok (.iload_n 2, 1) := by decide +kernel
theorem dX6_getsNow_173 : decode cX6_getsNow 173 = .ok (.invokestatic 148, 3) := by decide +kernel
theorem dX6_getsNow_176 : decode cX6_getsNow 176 = .ok (.aload_n 0, 1) := by decide +kernel
theorem dX6_getsNow_177 : decode cX6_getsNow 177 = .ok (.getfield 136, 3) := by decide +kernel
theorem dX6_getsNow_180 : decode cX6_getsNow 180 = .ok (.if_icmp .ge 11, 3) := by decide +kernel
theorem dX6_getsNow_183 : decode cX6_getsNow 183 = .ok (.aload_n 0, 1) := by decide +kernel
theorem dX6_getsNow_184 : decode cX6_getsNow 184 = .ok (.iconst 4, 1) := by decide +kernel
theorem dX6_getsNow_185 : decode cX6_getsNow 185 = .ok (.putfield 165, 3) := by decide +kernel
theorem dX6_getsNow_188 : decode cX6_getsNow 188 = .ok (.goto 102, 3) := by decide +kernel
theorem dX6_getsNow_191 : decode cX6_getsNow 191 = .ok (.aload_n 0, 1) := by decide +kernel
theorem dX6_getsNow_192 : decode cX6_getsNow 192 = .ok (.getfield 35, 3) := by decide +kernel
theorem dX6_getsNow_195 : decode cX6_getsNow 195 = .ok (.iload_n 1, 1) := by decide +kernel
theorem dX6_getsNow_196 : decode cX6_getsNow 196 = .ok (.iaload, 1) := by decide +kernel
theorem dX6_getsNow_197 : decode cX6_getsNow 197 = .ok (.iconst (-1), 1) := by decide +kernel
theorem dX6_getsNow_198 : decode cX6_getsNow 198 = .ok (.if_icmp .eq 45, 3) := by decide +kernel
theorem dX6_getsNow_201 : decode cX6_getsNow 201 = .ok (.sipush 500, 3) := by decide +kernel
theorem dX6_getsNow_204 : decode cX6_getsNow 204 = .ok (.aload_n 0, 1) := by decide +kernel
theorem dX6_getsNow_205 : decode cX6_getsNow 205 = .ok (.getfield 35, 3) := by decide +kernel
theorem dX6_getsNow_208 : decode cX6_getsNow 208 = .ok (.iload_n 1, 1) := by decide +kernel
theorem dX6_getsNow_209 : decode cX6_getsNow 209 = .ok (.iaload, 1) := by decide +kernel
theorem dX6_getsNow_210 : decode cX6_getsNow 210 = .ok (.iadd, 1) := by decide +kernel
theorem dX6_getsNow_211 : decode cX6_getsNow 211 = .ok (.iload_n 2, 1) := by decide +kernel
theorem dX6_getsNow_212 : decode cX6_getsNow 212 = .ok (.invokestatic 148, 3) := by decide +kernel
theorem dX6_getsNow_215 : decode cX6_getsNow 215 = .ok (.aload_n 0, 1) := by decide +kernel
theorem dX6_getsNow_216 : decode cX6_getsNow 216 = .ok (.getfield 38, 3) := by decide +kernel
theorem dX6_getsNow_219 : decode cX6_getsNow 219 = .ok (.iload_n 1, 1) := by decide +kernel
theorem dX6_getsNow_220 : decode cX6_getsNow 220 = .ok (.iaload, 1) := by decide +kernel
theorem dX6_getsNow_221 : decode cX6_getsNow 221 = .ok (.aload_n 0, 1) := by decide +kernel
theorem dX6_getsNow_222 : decode cX6_getsNow 222 = .ok (.getfield 41, 3) := by decide +kernel
theorem dX6_getsNow_225 : decode cX6_getsNow 225 = .ok (.iload_n 1, 1) := by decide +kernel
theorem dX6_getsNow_226 : decode cX6_getsNow 226 = .ok (.iaload, 1) := by decide +kernel
theorem dX6_getsNow_227 : decode cX6_getsNow 227 = .ok (.iconst 1, 1) := by decide +kernel
theorem dX6_getsNow_228 : decode cX6_getsNow 228 = .ok (.isub, 1) := by decide +kernel
theorem dX6_getsNow_229 : decode cX6_getsNow 229 = .ok (.invokestatic 87, 3) := by decide +kernel
theorem dX6_getsNow_232 : decode cX6_getsNow 232 = .ok (.ifCond .ne 11, 3) := by decide +kernel
theorem dX6_getsNow_235 : decode cX6_getsNow 235 = .ok (.aload_n 0, 1) := by decide +kernel
theorem dX6_getsNow_236 : decode cX6_getsNow 236 = .ok (.iconst 5, 1) := by decide +kernel
theorem dX6_getsNow_237 : decode cX6_getsNow 237 = .ok (.putfield 165, 3) := by decide +kernel
theorem dX6_getsNow_240 : decode cX6_getsNow 240 = .ok (.goto 50, 3) := by decide +kernel
theorem dX6_getsNow_243 : decode cX6_getsNow 243 = .ok (.aload_n 0, 1) := by decide +kernel
theorem dX6_getsNow_244 : decode cX6_getsNow 244 = .ok (.getfield 9, 3) := by decide +kernel
theorem dX6_getsNow_247 : decode cX6_getsNow 247 = .ok (.iload_n 1, 1) := by decide +kernel
theorem dX6_getsNow_248 : decode cX6_getsNow 248 = .ok (.iaload, 1) := by decide +kernel
theorem dX6_getsNow_249 : decode cX6_getsNow 249 = .ok (.iconst 1, 1) := by decide +kernel
theorem dX6_getsNow_250 : decode cX6_getsNow 250 = .ok (.iadd, 1) := by decide +kernel
theorem dX6_getsNow_251 : decode cX6_getsNow 251 = .ok (.iload_n 2, 1) := by decide +kernel
theorem dX6_getsNow_252 : decode cX6_getsNow 252 = .ok (.invokestatic 148, 3) := by decide +kernel
theorem dX6_getsNow_255 : decode cX6_getsNow 255 = .ok (.iload 5, 2) := by decide +kernel
theorem dX6_getsNow_257 : decode cX6_getsNow 257 = .ok (.if_icmp .lt 12, 3) := by decide +kernel
theorem dX6_getsNow_260 : decode cX6_getsNow 260 = .ok (.aload_n 0, 1) := by decide +kernel
theorem dX6_getsNow_261 : decode cX6_getsNow 261 = .ok (.bipush 6, 2) := by decide +kernel
theorem dX6_getsNow_263 : decode cX6_getsNow 263 = .ok (.putfield 165, 3) := by decide +kernel
theorem dX6_getsNow_266 : decode cX6_getsNow 266 = .ok (.goto 24, 3) := by decide +kernel
theorem dX6_getsNow_269 : decode cX6_getsNow 269 = .ok (.aload_n 0, 1) := by decide +kernel
theorem dX6_getsNow_270 : decode cX6_getsNow 270 = .ok (.getfield 50, 3) := by decide +kernel
theorem dX6_getsNow_273 : decode cX6_getsNow 273 = .ok (.iload_n 1, 1) := by decide +kernel
theorem dX6_getsNow_274 : decode cX6_getsNow 274 = .ok (.iaload, 1) := by decide +kernel
theorem dX6_getsNow_275 : decode cX6_getsNow 275 = .ok (.ifCond .le 15, 3) := by decide +kernel
theorem dX6_getsNow_278 : decode cX6_getsNow 278 = .ok (.iload 8, 2) := by decide +kernel
theorem dX6_getsNow_280 : decode cX6_getsNow 280 = .ok (.iconst (-1), 1) := by decide +kernel
theorem dX6_getsNow_281 : decode cX6_getsNow 281 = .ok (.if_icmp .ne 9, 3) := by decide +kernel
theorem dX6_getsNow_284 : decode cX6_getsNow 284 = .ok (.aload_n 0, 1) := by decide +kernel
theorem dX6_getsNow_285 : decode cX6_getsNow 285 = .ok (.bipush 7, 2) := by decide +kernel
theorem dX6_getsNow_287 : decode cX6_getsNow 287 = .ok (.putfield 165, 3) := by decide +kernel
theorem dX6_getsNow_290 : decode cX6_getsNow 290 = .ok (.aload_n 0, 1) := by decide +kernel
theorem dX6_getsNow_291 : decode cX6_getsNow 291 = .ok (.getfield 165, 3) := by decide +kernel
theorem dX6_getsNow_294 : decode cX6_getsNow 294 = .ok (.bipush 8, 2) := by decide +kernel
theorem dX6_getsNow_296 : decode cX6_getsNow 296 = .ok (.if_icmp .ne 12, 3) := by decide +kernel
theorem dX6_getsNow_299 : decode cX6_getsNow 299 = .ok (.aload_n 0, 1) := by decide +kernel
theorem dX6_getsNow_300 : decode cX6_getsNow 300 = .ok (.iload_n 1, 1) := by decide +kernel
theorem dX6_getsNow_301 : decode cX6_getsNow 301 = .ok (.iload_n 2, 1) := by decide +kernel
theorem dX6_getsNow_302 : decode cX6_getsNow 302 = .ok (.invokevirtual 168, 3) := by decide +kernel
theorem dX6_getsNow_305 : decode cX6_getsNow 305 = .ok (.goto 4, 3) := by decide +kernel
theorem dX6_getsNow_308 : decode cX6_getsNow 308 = .ok (.iconst 0, 1) := by decide +kernel
theorem dX6_getsNow_309 : decode cX6_getsNow 309 = .ok (.ireturn, 1) := by decide +kernel
theorem dX6_getsOf_0 : decode cX6_getsOf 0 = .ok (.aload_n 0, 1) := by decide +kernel
theorem dX6_getsOf_1 : decode cX6_getsOf 1 = .ok (.iload_n 1, 1) := by decide +kernel
theorem dX6_getsOf_2 : decode cX6_getsOf 2 = .ok (.iload_n 2, 1) := by decide +kernel
theorem dX6_getsOf_3 : decode cX6_getsOf 3 = .ok (.iload_n 3, 1) := by decide +kernel
theorem dX6_getsOf_4 : decode cX6_getsOf 4 = .ok (.iload 4, 2) := by decide +kernel
theorem dX6_getsOf_6 : decode cX6_getsOf 6 = .ok (.aload_n 0, 1) := by decide +kernel
theorem dX6_getsOf_7 : decode cX6_getsOf 7 = .ok (.iload_n 1, 1) := by decide +kernel
theorem dX6_getsOf_8 : decode cX6_getsOf 8 = .ok (.iconst 0, 1) := by decide +kernel
theorem dX6_getsOf_9 : decode cX6_getsOf 9 = .ok (.invokevirtual 117, 3) := by decide +kernel
theorem dX6_getsOf_12 : decode cX6_getsOf 12 = .ok (.invokevirtual 171, 3) := by decide +kernel
theorem dX6_getsOf_15 : decode cX6_getsOf 15 = .ok (.ireturn, 1) := by decide +kernel
theorem dX6_isAsked_0 : decode cX6_isAsked 0 = .ok (.aload_n 0, 1) := by decide +kernel
theorem dX6_isAsked_1 : decode cX6_isAsked 1 = .ok (.aload_n 0, 1) := by decide +kernel
theorem dX6_isAsked_2 : decode cX6_isAsked 2 = .ok (.iload_n 1, 1) := by decide +kernel
theorem dX6_isAsked_3 : decode cX6_isAsked 3 = .ok (.invokevirtual 91, 3) := by decide +kernel
theorem dX6_isAsked_6 : decode cX6_isAsked 6 = .ok (.ifCond .ne 7, 3) := by decide +kernel
theorem dX6_isAsked_9 : decode cX6_isAsked 9 = .ok (.iconst 1, 1) := by decide +kernel
theorem dX6_isAsked_10 : decode cX6_isAsked 10 = .ok (.goto 36, 3) := by decide +kernel
theorem dX6_isAsked_13 : decode cX6_isAsked 13 = .ok (.iload_n 2, 1) := by decide +kernel
theorem dX6_isAsked_14 : decode cX6_isAsked 14 = .ok (.invokestatic 145, 3) := by decide +kernel
theorem dX6_isAsked_17 : decode cX6_isAsked 17 = .ok (.ifCond .eq 28, 3) := by decide +kernel
theorem dX6_isAsked_20 : decode cX6_isAsked 20 = .ok (.iload_n 3, 1) := by decide +kernel
theorem dX6_isAsked_21 : decode cX6_isAsked 21 = .ok (.iconst 0, 1) := by decide +kernel
theorem dX6_isAsked_22 : decode cX6_isAsked 22 = .ok (.bipush 9, 2) := by decide +kernel
theorem dX6_isAsked_24 : decode cX6_isAsked 24 = .ok (.invokestatic 87, 3) := by decide +kernel
theorem dX6_isAsked_27 : decode cX6_isAsked 27 = .ok (.ifCond .eq 18, 3) := by decide +kernel
theorem dX6_isAsked_30 : decode cX6_isAsked 30 = .ok (.iload 4, 2) := by decide +kernel
theorem dX6_isAsked_32 : decode cX6_isAsked 32 = .ok (.iconst 0, 1) := by decide +kernel
theorem dX6_isAsked_33 : decode cX6_isAsked 33 = .ok (.bipush 9, 2) := by decide +kernel
theorem dX6_isAsked_35 : decode cX6_isAsked 35 = .ok (.invokestatic 87, 3) := by decide +kernel
theorem dX6_isAsked_38 : decode cX6_isAsked 38 = .ok (.ifCond .eq 7, 3) := by decide +kernel
theorem dX6_isAsked_41 : decode cX6_isAsked 41 = .ok (.iconst 0, 1) := by decide +kernel
theorem dX6_isAsked_42 : decode cX6_isAsked 42 = .ok (.goto 4, 3) := by decide +kernel
theorem dX6_isAsked_45 : decode cX6_isAsked 45 = .ok (.iconst 2, 1) := by decide +kernel
theorem dX6_isAsked_46 : decode cX6_isAsked 46 = .ok (.putfield 80, 3) := by decide +kernel
theorem dX6_isAsked_49 : decode cX6_isAsked 49 = .ok (.aload_n 0, 1) := by decide +kernel
theorem dX6_isAsked_50 : decode cX6_isAsked 50 = .ok (.getfield 80, 3) := by decide +kernel
theorem dX6_isAsked_53 : decode cX6_isAsked 53 = .ok (.ifCond .ne 7, 3) := by decide +kernel
theorem dX6_isAsked_56 : decode cX6_isAsked 56 = .ok (.iconst 1, 1) := by decide +kernel
theorem dX6_isAsked_57 : decode cX6_isAsked 57 = .ok (.goto 4, 3) := by decide +kernel
theorem dX6_isAsked_60 : decode cX6_isAsked 60 = .ok (.iconst 0, 1) := by decide +kernel
theorem dX6_isAsked_61 : decode cX6_isAsked 61 = .ok (.ireturn, 1) := by decide +kernel
theorem dX6_gets_0 : decode cX6_gets 0 = .ok (.aload_n 0, 1) := by decide +kernel
theorem dX6_gets_1 : decode cX6_gets 1 = .ok (.iload_n 1, 1) := by decide +kernel
theorem dX6_gets_2 : decode cX6_gets 2 = .ok (.iload_n 2, 1) := by decide +kernel
theorem dX6_gets_3 : decode cX6_gets 3 = .ok (.iload_n 3, 1) := by decide +kernel
theorem dX6_gets_4 : decode cX6_gets 4 = .ok (.iload 4, 2) := by decide +kernel
theorem dX6_gets_6 : decode cX6_gets 6 = .ok (.invokevirtual 175, 3) := by decide +kernel
theorem dX6_gets_9 : decode cX6_gets 9 = .ok (.ifCond .eq 15, 3) := by decide +kernel
theorem dX6_gets_12 : decode cX6_gets 12 = .ok (.aload_n 0, 1) := by decide +kernel
theorem dX6_gets_13 : decode cX6_gets 13 = .ok (.iload_n 1, 1) := by decide +kernel
theorem dX6_gets_14 : decode cX6_gets 14 = .ok (.iload_n 2, 1) := by decide +kernel
theorem dX6_gets_15 : decode cX6_gets 15 = .ok (.iload_n 3, 1) := by decide +kernel
theorem dX6_gets_16 : decode cX6_gets 16 = .ok (.iload 4, 2) := by decide +kernel
theorem dX6_gets_18 : decode cX6_gets 18 = .ok (.invokevirtual 154, 3) := by decide +kernel
theorem dX6_gets_21 : decode cX6_gets 21 = .ok (.goto 4, 3) := by decide +kernel
theorem dX6_gets_24 : decode cX6_gets 24 = .ok (.iconst 0, 1) := by decide +kernel
theorem dX6_gets_25 : decode cX6_gets 25 = .ok (.ireturn, 1) := by decide +kernel
theorem dX6_why_0 : decode cX6_why 0 = .ok (.aload_n 0, 1) := by decide +kernel
theorem dX6_why_1 : decode cX6_why 1 = .ok (.iload_n 1, 1) := by decide +kernel
theorem dX6_why_2 : decode cX6_why 2 = .ok (.iload_n 2, 1) := by decide +kernel
theorem dX6_why_3 : decode cX6_why 3 = .ok (.iload_n 3, 1) := by decide +kernel
theorem dX6_why_4 : decode cX6_why 4 = .ok (.iload 4, 2) := by decide +kernel
theorem dX6_why_6 : decode cX6_why 6 = .ok (.invokevirtual 175, 3) := by decide +kernel
theorem dX6_why_9 : decode cX6_why 9 = .ok (.ifCond .ne 5, 3) := by decide +kernel
theorem dX6_why_12 : decode cX6_why 12 = .ok (.iconst 0, 1) := by decide +kernel
theorem dX6_why_13 : decode cX6_why 13 = .ok (.ireturn, 1) := by decide +kernel
theorem dX6_why_14 : decode cX6_why 14 = .ok (.aload_n 0, 1) := by decide +kernel
theorem dX6_why_15 : decode cX6_why 15 = .ok (.iload_n 1, 1) := by decide +kernel
theorem dX6_why_16 : decode cX6_why 16 = .ok (.iload_n 2, 1) := by decide +kernel
theorem dX6_why_17 : decode cX6_why 17 = .ok (.iload_n 3, 1) := by decide +kernel
theorem dX6_why_18 : decode cX6_why 18 = .ok (.iload 4, 2) := by decide +kernel
theorem dX6_why_20 : decode cX6_why 20 = .ok (.invokevirtual 154, 3) := by decide +kernel
theorem dX6_why_23 : decode cX6_why 23 = .ok (.pop, 1) := by decide +kernel
theorem dX6_why_24 : decode cX6_why 24 = .ok (.aload_n 0, 1) := by decide +kernel
theorem dX6_why_25 : decode cX6_why 25 = .ok (.getfield 165, 3) := by decide +kernel
theorem dX6_why_28 : decode cX6_why 28 = .ok (.ireturn, 1) := by decide +kernel
theorem dX6_holds_0 : decode cX6_holds 0 = .ok (.aload_n 0, 1) := by decide +kernel
theorem dX6_holds_1 : decode cX6_holds 1 = .ok (.iload_n 1, 1) := by decide +kernel
theorem dX6_holds_2 : decode cX6_holds 2 = .ok (.iload_n 2, 1) := by decide +kernel
theorem dX6_holds_3 : decode cX6_holds 3 = .ok (.iload_n 3, 1) := by decide +kernel
theorem dX6_holds_4 : decode cX6_holds 4 = .ok (.iload 4, 2) := by decide +kernel
theorem dX6_holds_6 : decode cX6_holds 6 = .ok (.invokevirtual 175, 3) := by decide +kernel
theorem dX6_holds_9 : decode cX6_holds 9 = .ok (.ifCond .eq 14, 3) := by decide +kernel
theorem dX6_holds_12 : decode cX6_holds 12 = .ok (.aload_n 0, 1) := by decide +kernel
theorem dX6_holds_13 : decode cX6_holds 13 = .ok (.iload_n 1, 1) := by decide +kernel
theorem dX6_holds_14 : decode cX6_holds 14 = .ok (.iload_n 3, 1) := by decide +kernel
theorem dX6_holds_15 : decode cX6_holds 15 = .ok (.iload 4, 2) := by decide +kernel
theorem dX6_holds_17 : decode cX6_holds 17 = .ok (.invokevirtual 161, 3) := by decide +kernel
theorem dX6_holds_20 : decode cX6_holds 20 = .ok (.goto 4, 3) := by decide +kernel
theorem dX6_holds_23 : decode cX6_holds 23 = .ok (.iconst 0, 1) := by decide +kernel
theorem dX6_holds_24 : decode cX6_holds 24 = .ok (.ireturn, 1) := by decide +kernel
theorem dX6_ask_0 : decode cX6_ask 0 = .ok (.aload_n 0, 1) := by decide +kernel
theorem dX6_ask_1 : decode cX6_ask 1 = .ok (.iload_n 1, 1) := by decide +kernel
theorem dX6_ask_2 : decode cX6_ask 2 = .ok (.iload_n 2, 1) := by decide +kernel
theorem dX6_ask_3 : decode cX6_ask 3 = .ok (.iload_n 3, 1) := by decide +kernel
theorem dX6_ask_4 : decode cX6_ask 4 = .ok (.iload 4, 2) := by decide +kernel
theorem dX6_ask_6 : decode cX6_ask 6 = .ok (.invokevirtual 175, 3) := by decide +kernel
theorem dX6_ask_9 : decode cX6_ask 9 = .ok (.ifCond .ne 5, 3) := by decide +kernel
theorem dX6_ask_12 : decode cX6_ask 12 = .ok (.iconst 0, 1) := by decide +kernel
theorem dX6_ask_13 : decode cX6_ask 13 = .ok (.ireturn, 1) := by decide +kernel
theorem dX6_ask_14 : decode cX6_ask 14 = .ok (.aload_n 0, 1) := by decide +kernel
theorem dX6_ask_15 : decode cX6_ask 15 = .ok (.iload_n 1, 1) := by decide +kernel
theorem dX6_ask_16 : decode cX6_ask 16 = .ok (.iload_n 2, 1) := by decide +kernel
theorem dX6_ask_17 : decode cX6_ask 17 = .ok (.iload_n 3, 1) := by decide +kernel
theorem dX6_ask_18 : decode cX6_ask 18 = .ok (.iload 4, 2) := by decide +kernel
theorem dX6_ask_20 : decode cX6_ask 20 = .ok (.invokevirtual 154, 3) := by decide +kernel
theorem dX6_ask_23 : decode cX6_ask 23 = .ok (.istore 5, 2) := by decide +kernel
theorem dX6_ask_25 : decode cX6_ask 25 = .ok (.aload_n 0, 1) := by decide +kernel
theorem dX6_ask_26 : decode cX6_ask 26 = .ok (.getfield 165, 3) := by decide +kernel
theorem dX6_ask_29 : decode cX6_ask 29 = .ok (.bipush 8, 2) := by decide +kernel
theorem dX6_ask_31 : decode cX6_ask 31 = .ok (.if_icmp .ne 60, 3) := by decide +kernel
theorem dX6_ask_34 : decode cX6_ask 34 = .ok (.aload_n 0, 1) := by decide +kernel
theorem dX6_ask_35 : decode cX6_ask 35 = .ok (.getfield 151, 3) := by decide +kernel
theorem dX6_ask_38 : decode cX6_ask 38 = .ok (.bipush 100, 2) := by decide +kernel
theorem dX6_ask_40 : decode cX6_ask 40 = .ok (.if_icmp .ge 51, 3) := by decide +kernel
theorem dX6_ask_43 : decode cX6_ask 43 = .ok (.aload_n 0, 1) := by decide +kernel
theorem dX6_ask_44 : decode cX6_ask 44 = .ok (.iload_n 1, 1) := by decide +kernel
theorem dX6_ask_45 : decode cX6_ask 45 = .ok (.iload_n 2, 1) := by decide +kernel
theorem dX6_ask_46 : decode cX6_ask 46 = .ok (.invokevirtual 158, 3) := by decide +kernel
theorem dX6_ask_49 : decode cX6_ask 49 = .ok (.iconst (-1), 1) := by decide +kernel
theorem dX6_ask_50 : decode cX6_ask 50 = .ok (.if_icmp .ne 41, 3) := by decide +kernel
theorem dX6_ask_53 : decode cX6_ask 53 = .ok (.aload_n 0, 1) := by decide +kernel
theorem dX6_ask_54 : decode cX6_ask 54 = .ok (.getfield 65, 3) := by decide +kernel
theorem dX6_ask_57 : decode cX6_ask 57 = .ok (.aload_n 0, 1) := by decide +kernel
theorem dX6_ask_58 : decode cX6_ask 58 = .ok (.getfield 151, 3) := by decide +kernel
theorem dX6_ask_61 : decode cX6_ask 61 = .ok (.iload_n 1, 1) := by decide +kernel
theorem dX6_ask_62 : decode cX6_ask 62 = .ok (.iastore, 1) := by decide +kernel
theorem dX6_ask_63 : decode cX6_ask 63 = .ok (.aload_n 0, 1) := by decide +kernel
theorem dX6_ask_64 : decode cX6_ask 64 = .ok (.getfield 68, 3) := by decide +kernel
theorem dX6_ask_67 : decode cX6_ask 67 = .ok (.aload_n 0, 1) := by decide +kernel
theorem dX6_ask_68 : decode cX6_ask 68 = .ok (.getfield 151, 3) := by decide +kernel
theorem dX6_ask_71 : decode cX6_ask 71 = .ok (.iload_n 2, 1) := by decide +kernel
theorem dX6_ask_72 : decode cX6_ask 72 = .ok (.iastore, 1) := by decide +kernel
theorem dX6_ask_73 : decode cX6_ask 73 = .ok (.aload_n 0, 1) := by decide +kernel
theorem dX6_ask_74 : decode cX6_ask 74 = .ok (.getfield 71, 3) := by decide +kernel
theorem dX6_ask_77 : decode cX6_ask 77 = .ok (.aload_n 0, 1) := by decide +kernel
theorem dX6_ask_78 : decode cX6_ask 78 = .ok (.dup, 1) := by decide +kernel
theorem dX6_ask_79 : decode cX6_ask 79 = .ok (.getfield 151, 3) := by decide +kernel
theorem dX6_ask_82 : decode cX6_ask 82 = .ok (.dup_x1, 1) := by decide +kernel
theorem dX6_ask_83 : decode cX6_ask 83 = .ok (.iconst 1, 1) := by decide +kernel
theorem dX6_ask_84 : decode cX6_ask 84 = .ok (.iadd, 1) := by decide +kernel
theorem dX6_ask_85 : decode cX6_ask 85 = .ok (.putfield 151, 3) := by decide +kernel
theorem dX6_ask_88 : decode cX6_ask 88 = .ok (.iload 5, 2) := by decide +kernel
theorem dX6_ask_90 : decode cX6_ask 90 = .ok (.iastore, 1) := by decide +kernel
theorem dX6_ask_91 : decode cX6_ask 91 = .ok (.iload 5, 2) := by decide +kernel
theorem dX6_ask_93 : decode cX6_ask 93 = .ok (.ireturn, 1) := by decide +kernel
theorem dX6_act_0 : decode cX6_act 0 = .ok (.aload_n 0, 1) := by decide +kernel
theorem dX6_act_1 : decode cX6_act 1 = .ok (.iconst 0, 1) := by decide +kernel
theorem dX6_act_2 : decode cX6_act 2 = .ok (.putfield 80, 3) := by decide +kernel
theorem dX6_act_5 : decode cX6_act 5 = .ok (.iload_n 1, 1) := by decide +kernel
theorem dX6_act_6 : decode cX6_act 6 = .ok (.invokestatic 145, 3) := by decide +kernel
theorem dX6_act_9 : decode cX6_act 9 = .ok (.ifCond .eq 13, 3) := by decide +kernel
theorem dX6_act_12 : decode cX6_act 12 = .ok (.iload_n 2, 1) := by decide +kernel
theorem dX6_act_13 : decode cX6_act 13 = .ok (.iconst 0, 1) := by decide +kernel
theorem dX6_act_14 : decode cX6_act 14 = .ok (.bipush 100, 2) := by decide +kernel
theorem dX6_act_16 : decode cX6_act 16 = .ok (.invokestatic 87, 3) := by decide +kernel
theorem dX6_act_19 : decode cX6_act 19 = .ok (.ifCond .ne 9, 3) := by decide +kernel
theorem dX6_act_22 : decode cX6_act 22 = .ok (.aload_n 0, 1) := by decide +kernel
theorem dX6_act_23 : decode cX6_act 23 = .ok (.iconst 1, 1) := by decide +kernel
theorem dX6_act_24 : decode cX6_act 24 = .ok (.invokevirtual 95, 3) := by decide +kernel
theorem dX6_act_27 : decode cX6_act 27 = .ok (.ireturn, 1) := by decide +kernel
theorem dX6_act_28 : decode cX6_act 28 = .ok (.iconst 0, 1) := by decide +kernel
theorem dX6_act_29 : decode cX6_act 29 = .ok (.istore_n 3, 1) := by decide +kernel
theorem dX6_act_30 : decode cX6_act 30 = .ok (.iconst 0, 1) := by decide +kernel
theorem dX6_act_31 : decode cX6_act 31 = .ok (.istore 4, 2) := by decide +kernel
theorem dX6_act_33 : decode cX6_act 33 = .ok (.iload 4, 2) := by decide +kernel
theorem dX6_act_35 : decode cX6_act 35 = .ok (.aload_n 0, 1) := by decide +kernel
theorem dX6_act_36 : decode cX6_act 36 = .ok (.getfield 151, 3) := by decide +kernel
theorem dX6_act_39 : decode cX6_act 39 = .ok (.if_icmp .ge 45, 3) := by decide +kernel
theorem dX6_act_42 : decode cX6_act 42 = .ok (.aload_n 0, 1) := by decide +kernel
theorem dX6_act_43 : decode cX6_act 43 = .ok (.getfield 68, 3) := by decide +kernel
theorem dX6_act_46 : decode cX6_act 46 = .ok (.iload 4, 2) := by decide +kernel
theorem dX6_act_48 : decode cX6_act 48 = .ok (.iaload, 1) := by decide +kernel
theorem dX6_act_49 : decode cX6_act 49 = .ok (.iload_n 1, 1) := by decide +kernel
theorem dX6_act_50 : decode cX6_act 50 = .ok (.if_icmp .eq 6, 3) := by decide +kernel
theorem dX6_act_53 : decode cX6_act 53 = .ok (.goto 25, 3) := by decide +kernel
theorem dX6_act_56 : decode cX6_act 56 = .ok (.aload_n 0, 1) := by decide +kernel
theorem dX6_act_57 : decode cX6_act 57 = .ok (.getfield 74, 3) := by decide +kernel
theorem dX6_act_60 : decode cX6_act 60 = .ok (.iload 4, 2) := by decide +kernel
theorem dX6_act_62 : decode cX6_act 62 = .ok (.dup2, 1) := by decide +kernel
theorem dX6_act_63 : decode cX6_act 63 = .ok (.iaload, 1) := by decide +kernel
theorem dX6_act_64 : decode cX6_act 64 = .ok (.iload_n 2, 1) := by decide +kernel
theorem dX6_act_65 : decode cX6_act 65 = .ok (.iadd, 1) := by decide +kernel
theorem dX6_act_66 : decode cX6_act 66 = .ok (.iastore, 1) := by decide +kernel
theorem dX6_act_67 : decode cX6_act 67 = .ok (.aload_n 0, 1) := by decide +kernel
theorem dX6_act_68 : decode cX6_act 68 = .ok (.getfield 77, 3) := by decide +kernel
theorem dX6_act_71 : decode cX6_act 71 = .ok (.iload 4, 2) := by decide +kernel
theorem dX6_act_73 : decode cX6_act 73 = .ok (.iconst 1, 1) := by decide +kernel
theorem dX6_act_74 : decode cX6_act 74 = .ok (.bastore, 1) := by decide +kernel
theorem dX6_act_75 : decode cX6_act 75 = .ok (.iinc 3 1, 3) := by decide +kernel
theorem dX6_act_78 : decode cX6_act 78 = .ok (.iinc 4 1, 3) := by decide +kernel
theorem dX6_act_81 : decode cX6_act 81 = .ok (.goto (-48), 3) := by decide +kernel
theorem dX6_act_84 : decode cX6_act 84 = .ok (.iload_n 3, 1) := by decide +kernel
theorem dX6_act_85 : decode cX6_act 85 = .ok (.ireturn, 1) := by decide +kernel
theorem dX6_armNow_0 : decode cX6_armNow 0 = .ok (.aload_n 0, 1) := by decide +kernel
theorem dX6_armNow_1 : decode cX6_armNow 1 = .ok (.iload_n 1, 1) := by decide +kernel
theorem dX6_armNow_2 : decode cX6_armNow 2 = .ok (.iload_n 2, 1) := by decide +kernel
theorem dX6_armNow_3 : decode cX6_armNow 3 = .ok (.invokevirtual 158, 3) := by decide +kernel
theorem dX6_armNow_6 : decode cX6_armNow 6 = .ok (.istore_n 3, 1) := by decide +kernel
theorem dX6_armNow_7 : decode cX6_armNow 7 = .ok (.iload_n 3, 1) := by decide +kernel
theorem dX6_armNow_8 : decode cX6_armNow 8 = .ok (.iconst (-1), 1) := by decide +kernel
theorem dX6_armNow_9 : decode cX6_armNow 9 = .ok (.if_icmp .ne 7, 3) := by decide +kernel
theorem dX6_armNow_12 : decode cX6_armNow 12 = .ok (.iconst (-1), 1) := by decide +kernel
theorem dX6_armNow_13 : decode cX6_armNow 13 = .ok (.goto 9, 3) := by decide +kernel
theorem dX6_armNow_16 : decode cX6_armNow 16 = .ok (.aload_n 0, 1) := by decide +kernel
theorem dX6_armNow_17 : decode cX6_armNow 17 = .ok (.getfield 71, 3) := by decide +kernel
theorem dX6_armNow_20 : decode cX6_armNow 20 = .ok (.iload_n 3, 1) := by decide +kernel
theorem dX6_armNow_21 : decode cX6_armNow 21 = .ok (.iaload, 1) := by decide +kernel
theorem dX6_armNow_22 : decode cX6_armNow 22 = .ok (.ireturn, 1) := by decide +kernel
theorem dX6_arm_0 : decode cX6_arm 0 = .ok (.aload_n 0, 1) := by decide +kernel
theorem dX6_arm_1 : decode cX6_arm 1 = .ok (.iconst 0, 1) := by decide +kernel
theorem dX6_arm_2 : decode cX6_arm 2 = .ok (.putfield 80, 3) := by decide +kernel
theorem dX6_arm_5 : decode cX6_arm 5 = .ok (.aload_n 0, 1) := by decide +kernel
theorem dX6_arm_6 : decode cX6_arm 6 = .ok (.iload_n 1, 1) := by decide +kernel
theorem dX6_arm_7 : decode cX6_arm 7 = .ok (.invokevirtual 91, 3) := by decide +kernel
theorem dX6_arm_10 : decode cX6_arm 10 = .ok (.ifCond .ne 9, 3) := by decide +kernel
theorem dX6_arm_13 : decode cX6_arm 13 = .ok (.aload_n 0, 1) := by decide +kernel
theorem dX6_arm_14 : decode cX6_arm 14 = .ok (.iconst 1, 1) := by decide +kernel
theorem dX6_arm_15 : decode cX6_arm 15 = .ok (.invokevirtual 95, 3) := by decide +kernel
theorem dX6_arm_18 : decode cX6_arm 18 = .ok (.ireturn, 1) := by decide +kernel
theorem dX6_arm_19 : decode cX6_arm 19 = .ok (.iload_n 2, 1) := by decide +kernel
theorem dX6_arm_20 : decode cX6_arm 20 = .ok (.invokestatic 145, 3) := by decide +kernel
theorem dX6_arm_23 : decode cX6_arm 23 = .ok (.ifCond .eq 12, 3) := by decide +kernel
theorem dX6_arm_26 : decode cX6_arm 26 = .ok (.aload_n 0, 1) := by decide +kernel
theorem dX6_arm_27 : decode cX6_arm 27 = .ok (.iload_n 1, 1) := by decide +kernel
theorem dX6_arm_28 : decode cX6_arm 28 = .ok (.iload_n 2, 1) := by decide +kernel
theorem dX6_arm_29 : decode cX6_arm 29 = .ok (.invokevirtual 179, 3) := by decide +kernel
theorem dX6_arm_32 : decode cX6_arm 32 = .ok (.goto 8, 3) := by decide +kernel
theorem dX6_arm_35 : decode cX6_arm 35 = .ok (.aload_n 0, 1) := by decide +kernel
theorem dX6_arm_36 : decode cX6_arm 36 = .ok (.iconst 2, 1) := by decide +kernel
theorem dX6_arm_37 : decode cX6_arm 37 = .ok (.invokevirtual 95, 3) := by decide +kernel
theorem dX6_arm_40 : decode cX6_arm 40 = .ok (.ireturn, 1) := by decide +kernel
theorem dX6_arms_0 : decode cX6_arms 0 = .ok (.aload_n 0, 1) := by decide +kernel
theorem dX6_arms_1 : decode cX6_arms 1 = .ok (.aload_n 0, 1) := by decide +kernel
theorem dX6_arms_2 : decode cX6_arms 2 = .ok (.getfield 151, 3) := by decide +kernel
theorem dX6_arms_5 : decode cX6_arms 5 = .ok (.invokevirtual 139, 3) := by decide +kernel
theorem dX6_arms_8 : decode cX6_arms 8 = .ok (.ireturn, 1) := by decide +kernel
theorem dX6_toldNow_0 : decode cX6_toldNow 0 = .ok (.iconst 0, 1) := by decide +kernel
theorem dX6_toldNow_1 : decode cX6_toldNow 1 = .ok (.istore 4, 2) := by decide +kernel
theorem dX6_toldNow_3 : decode cX6_toldNow 3 = .ok (.iconst 0, 1) := by decide +kernel
theorem dX6_toldNow_4 : decode cX6_toldNow 4 = .ok (.istore 5, 2) := by decide +kernel
theorem dX6_toldNow_6 : decode cX6_toldNow 6 = .ok (.iload 5, 2) := by decide +kernel
theorem dX6_toldNow_8 : decode cX6_toldNow 8 = .ok (.aload_n 0, 1) := by decide +kernel
theorem dX6_toldNow_9 : decode cX6_toldNow 9 = .ok (.getfield 151, 3) := by decide +kernel
theorem dX6_toldNow_12 : decode cX6_toldNow 12 = .ok (.if_icmp .ge 100, 3) := by decide +kernel
theorem dX6_toldNow_15 : decode cX6_toldNow 15 = .ok (.aload_n 0, 1) := by decide +kernel
theorem dX6_toldNow_16 : decode cX6_toldNow 16 = .ok (.getfield 65, 3) := by decide +kernel
theorem dX6_toldNow_19 : decode cX6_toldNow 19 = .ok (.iload 5, 2) := by decide +kernel
theorem dX6_toldNow_21 : decode cX6_toldNow 21 = .ok (.iaload, 1) := by decide +kernel
theorem dX6_toldNow_22 : decode cX6_toldNow 22 = .ok (.iload_n 1, 1) := by decide +kernel
theorem dX6_toldNow_23 : decode cX6_toldNow 23 = .ok (.if_icmp .ne 83, 3) := by decide +kernel
theorem dX6_toldNow_26 : decode cX6_toldNow 26 = .ok (.aload_n 0, 1) := by decide +kernel
theorem dX6_toldNow_27 : decode cX6_toldNow 27 = .ok (.getfield 71, 3) := by decide +kernel
theorem dX6_toldNow_30 : decode cX6_toldNow 30 = .ok (.iload 5, 2) := by decide +kernel
theorem dX6_toldNow_32 : decode cX6_toldNow 32 = .ok (.iaload, 1) := by decide +kernel
theorem dX6_toldNow_33 : decode cX6_toldNow 33 = .ok (.iload_n 2, 1) := by decide +kernel
theorem dX6_toldNow_34 : decode cX6_toldNow 34 = .ok (.if_icmp .eq 6, 3) := by decide +kernel
theorem dX6_toldNow_37 : decode cX6_toldNow 37 = .ok (.goto 69, 3) := by decide +kernel
theorem dX6_toldNow_40 : decode cX6_toldNow 40 = .ok (.iload 4, 2) := by decide +kernel
theorem dX6_toldNow_42 : decode cX6_toldNow 42 = .ok (.iload_n 3, 1) := by decide +kernel
theorem dX6_toldNow_43 : decode cX6_toldNow 43 = .ok (.ifCond .ne 7, 3) := by decide +kernel
theorem dX6_toldNow_46 : decode cX6_toldNow 46 = .ok (.iconst 1, 1) := by decide +kernel
theorem dX6_toldNow_47 : decode cX6_toldNow 47 = .ok (.goto 56, 3) := by decide +kernel
theorem dX6_toldNow_50 : decode cX6_toldNow 50 = .ok (.iload_n 3, 1) := by decide +kernel
theorem dX6_toldNow_51 : decode cX6_toldNow 51 = .ok (.iconst 1, 1) := by decide +kernel
theorem dX6_toldNow_52 : decode cX6_toldNow 52 = .ok (.if_icmp .ne 21, 3) := by decide +kernel
theorem dX6_toldNow_55 : decode cX6_toldNow 55 = .ok (.aload_n 0, 1) := by decide +kernel
theorem dX6_toldNow_56 : decode cX6_toldNow 56 = .ok (.getfield 77, 3) := by decide +kernel
theorem dX6_toldNow_59 : decode cX6_toldNow 59 = .ok (.iload 5, 2) := by decide +kernel
theorem dX6_toldNow_61 : decode cX6_toldNow 61 = .ok (.baload, 1) := by decide +kernel
theorem dX6_toldNow_62 : decode cX6_toldNow 62 = .ok (.ifCond .eq 7, 3) := by decide +kernel
theorem dX6_toldNow_65 : decode cX6_toldNow 65 = .ok (.iconst 1, 1) := by decide +kernel
theorem dX6_toldNow_66 : decode cX6_toldNow 66 = .ok (.goto 37, 3) := by decide +kernel
theorem dX6_toldNow_69 : decode cX6_toldNow 69 = .ok (.iconst 0, 1) := by decide +kernel
theorem dX6_toldNow_70 : decode cX6_toldNow 70 = .ok (.goto 33, 3) := by decide +kernel
theorem dX6_toldNow_73 : decode cX6_toldNow 73 = .ok (.iload_n 3, 1) := by decide +kernel
theorem dX6_toldNow_74 : decode cX6_toldNow 74 = .ok (.iconst 2, 1) := by decide +kernel
theorem dX6_toldNow_75 : decode cX6_toldNow 75 = .ok (.if_icmp .ne 13, 3) := by decide +kernel
theorem dX6_toldNow_78 : decode cX6_toldNow 78 = .ok (.aload_n 0, 1) := by decide +kernel
theorem dX6_toldNow_79 : decode cX6_toldNow 79 = .ok (.getfield 74, 3) := by decide +kernel
theorem dX6_toldNow_82 : decode cX6_toldNow 82 = .ok (.iload 5, 2) := by decide +kernel
theorem dX6_toldNow_84 : decode cX6_toldNow 84 = .ok (.iaload, 1) := by decide +kernel
theorem dX6_toldNow_85 : decode cX6_toldNow 85 = .ok (.goto 18, 3) := by decide +kernel
theorem dX6_toldNow_88 : decode cX6_toldNow 88 = .ok (.aload_n 0, 1) := by decide +kernel
theorem dX6_toldNow_89 : decode cX6_toldNow 89 = .ok (.getfield 74, 3) := by decide +kernel
theorem dX6_toldNow_92 : decode cX6_toldNow 92 = .ok (.iload 5, 2) := by decide +kernel
theorem dX6_toldNow_94 : decode cX6_toldNow 94 = .ok (.iaload, 1) := by decide +kernel
theorem dX6_toldNow_95 : decode cX6_toldNow 95 = .ok (.aload_n 0, 1) := by decide +kernel
theorem dX6_toldNow_96 : decode cX6_toldNow 96 = .ok (.getfield 74, 3) := by decide +kernel
theorem dX6_toldNow_99 : decode cX6_toldNow 99 = .ok (.iload 5, 2) := by decide +kernel
theorem dX6_toldNow_101 : decode cX6_toldNow 101 = .ok (.iaload, 1) := by decide +kernel
theorem dX6_toldNow_102 : decode cX6_toldNow 102 = .ok (.imul, 1) := by decide +kernel
theorem dX6_toldNow_103 : decode cX6_toldNow 103 = .ok (.iadd, 1) := by decide +kernel
theorem dX6_toldNow_104 : decode cX6_toldNow 104 = .ok (.istore 4, 2) := by decide +kernel
theorem dX6_toldNow_106 : decode cX6_toldNow 106 = .ok (.iinc 5 1, 3) := by decide +kernel
theorem dX6_toldNow_109 : decode cX6_toldNow 109 = .ok (.goto (-103), 3) := by decide +kernel
theorem dX6_toldNow_112 : decode cX6_toldNow 112 = .ok (.iload 4, 2) := by decide +kernel
theorem dX6_toldNow_114 : decode cX6_toldNow 114 = .ok (.ireturn, 1) := by decide +kernel
theorem dX6_told_0 : decode cX6_told 0 = .ok (.aload_n 0, 1) := by decide +kernel
theorem dX6_told_1 : decode cX6_told 1 = .ok (.iconst 0, 1) := by decide +kernel
theorem dX6_told_2 : decode cX6_told 2 = .ok (.putfield 80, 3) := by decide +kernel
theorem dX6_told_5 : decode cX6_told 5 = .ok (.aload_n 0, 1) := by decide +kernel
theorem dX6_told_6 : decode cX6_told 6 = .ok (.iload_n 1, 1) := by decide +kernel
theorem dX6_told_7 : decode cX6_told 7 = .ok (.iload_n 2, 1) := by decide +kernel
theorem dX6_told_8 : decode cX6_told 8 = .ok (.invokevirtual 102, 3) := by decide +kernel
theorem dX6_told_11 : decode cX6_told 11 = .ok (.ifCond .ne 9, 3) := by decide +kernel
theorem dX6_told_14 : decode cX6_told 14 = .ok (.aload_n 0, 1) := by decide +kernel
theorem dX6_told_15 : decode cX6_told 15 = .ok (.iconst 1, 1) := by decide +kernel
theorem dX6_told_16 : decode cX6_told 16 = .ok (.invokevirtual 95, 3) := by decide +kernel
theorem dX6_told_19 : decode cX6_told 19 = .ok (.ireturn, 1) := by decide +kernel
theorem dX6_told_20 : decode cX6_told 20 = .ok (.iload_n 3, 1) := by decide +kernel
theorem dX6_told_21 : decode cX6_told 21 = .ok (.iconst 0, 1) := by decide +kernel
theorem dX6_told_22 : decode cX6_told 22 = .ok (.iconst 3, 1) := by decide +kernel
theorem dX6_told_23 : decode cX6_told 23 = .ok (.invokestatic 87, 3) := by decide +kernel
theorem dX6_told_26 : decode cX6_told 26 = .ok (.ifCond .eq 13, 3) := by decide +kernel
theorem dX6_told_29 : decode cX6_told 29 = .ok (.aload_n 0, 1) := by decide +kernel
theorem dX6_told_30 : decode cX6_told 30 = .ok (.iload_n 1, 1) := by decide +kernel
theorem dX6_told_31 : decode cX6_told 31 = .ok (.iload_n 2, 1) := by decide +kernel
theorem dX6_told_32 : decode cX6_told 32 = .ok (.iload_n 3, 1) := by decide +kernel
theorem dX6_told_33 : decode cX6_told 33 = .ok (.invokevirtual 182, 3) := by decide +kernel
theorem dX6_told_36 : decode cX6_told 36 = .ok (.goto 8, 3) := by decide +kernel
theorem dX6_told_39 : decode cX6_told 39 = .ok (.aload_n 0, 1) := by decide +kernel
theorem dX6_told_40 : decode cX6_told 40 = .ok (.iconst 2, 1) := by decide +kernel
theorem dX6_told_41 : decode cX6_told 41 = .ok (.invokevirtual 95, 3) := by decide +kernel
theorem dX6_told_44 : decode cX6_told 44 = .ok (.ireturn, 1) := by decide +kernel
theorem dX6_meanNow_0 : decode cX6_meanNow 0 = .ok (.aload_n 0, 1) := by decide +kernel
theorem dX6_meanNow_1 : decode cX6_meanNow 1 = .ok (.iload_n 1, 1) := by decide +kernel
theorem dX6_meanNow_2 : decode cX6_meanNow 2 = .ok (.iload_n 2, 1) := by decide +kernel
theorem dX6_meanNow_3 : decode cX6_meanNow 3 = .ok (.iconst 0, 1) := by decide +kernel
theorem dX6_meanNow_4 : decode cX6_meanNow 4 = .ok (.invokevirtual 182, 3) := by decide +kernel
theorem dX6_meanNow_7 : decode cX6_meanNow 7 = .ok (.istore_n 3, 1) := by decide +kernel
theorem dX6_meanNow_8 : decode cX6_meanNow 8 = .ok (.iload_n 3, 1) := by decide +kernel
theorem dX6_meanNow_9 : decode cX6_meanNow 9 = .ok (.ifCond .ne 7, 3) := by decide +kernel
theorem dX6_meanNow_12 : decode cX6_meanNow 12 = .ok (.dconst 0, 1) := by decide +kernel
theorem dX6_meanNow_13 : decode cX6_meanNow 13 = .ok (.goto 14, 3) := by decide +kernel
theorem dX6_meanNow_16 : decode cX6_meanNow 16 = .ok (.aload_n 0, 1) := by decide +kernel
theorem dX6_meanNow_17 : decode cX6_meanNow 17 = .ok (.iload_n 1, 1) := by decide +kernel
theorem dX6_meanNow_18 : decode cX6_meanNow 18 = .ok (.iload_n 2, 1) := by decide +kernel
theorem dX6_meanNow_19 : decode cX6_meanNow 19 = .ok (.iconst 2, 1) := by decide +kernel
theorem dX6_meanNow_20 : decode cX6_meanNow 20 = .ok (.invokevirtual 182, 3) := by decide +kernel
theorem dX6_meanNow_23 : decode cX6_meanNow 23 = .ok (.i2d, 1) := by decide +kernel
theorem dX6_meanNow_24 : decode cX6_meanNow 24 = .ok (.iload_n 3, 1) := by decide +kernel
theorem dX6_meanNow_25 : decode cX6_meanNow 25 = .ok (.i2d, 1) := by decide +kernel
theorem dX6_meanNow_26 : decode cX6_meanNow 26 = .ok (.ddiv, 1) := by decide +kernel
theorem dX6_meanNow_27 : decode cX6_meanNow 27 = .ok (.dreturn, 1) := by decide +kernel
theorem dX6_spread_0 : decode cX6_spread 0 = .ok (.aload_n 0, 1) := by decide +kernel
theorem dX6_spread_1 : decode cX6_spread 1 = .ok (.iload_n 1, 1) := by decide +kernel
theorem dX6_spread_2 : decode cX6_spread 2 = .ok (.iload_n 2, 1) := by decide +kernel
theorem dX6_spread_3 : decode cX6_spread 3 = .ok (.iconst 0, 1) := by decide +kernel
theorem dX6_spread_4 : decode cX6_spread 4 = .ok (.invokevirtual 182, 3) := by decide +kernel
theorem dX6_spread_7 : decode cX6_spread 7 = .ok (.istore_n 3, 1) := by decide +kernel
theorem dX6_spread_8 : decode cX6_spread 8 = .ok (.aload_n 0, 1) := by decide +kernel
theorem dX6_spread_9 : decode cX6_spread 9 = .ok (.iload_n 1, 1) := by decide +kernel
theorem dX6_spread_10 : decode cX6_spread 10 = .ok (.iload_n 2, 1) := by decide +kernel
theorem dX6_spread_11 : decode cX6_spread 11 = .ok (.invokevirtual 185, 3) := by decide +kernel
theorem dX6_spread_14 : decode cX6_spread 14 = .ok (.dstore 4, 2) := by decide +kernel
theorem dX6_spread_16 : decode cX6_spread 16 = .ok (.iload_n 3, 1) := by decide +kernel
theorem dX6_spread_17 : decode cX6_spread 17 = .ok (.ifCond .ne 7, 3) := by decide +kernel
theorem dX6_spread_20 : decode cX6_spread 20 = .ok (.dconst 0, 1) := by decide +kernel
theorem dX6_spread_21 : decode cX6_spread 21 = .ok (.goto 20, 3) := by decide +kernel
theorem dX6_spread_24 : decode cX6_spread 24 = .ok (.aload_n 0, 1) := by decide +kernel
theorem dX6_spread_25 : decode cX6_spread 25 = .ok (.iload_n 1, 1) := by decide +kernel
theorem dX6_spread_26 : decode cX6_spread 26 = .ok (.iload_n 2, 1) := by decide +kernel
theorem dX6_spread_27 : decode cX6_spread 27 = .ok (.iconst 3, 1) := by decide +kernel
theorem dX6_spread_28 : decode cX6_spread 28 = .ok (.invokevirtual 182, 3) := by decide +kernel
theorem dX6_spread_31 : decode cX6_spread 31 = .ok (.i2d, 1) := by decide +kernel
theorem dX6_spread_32 : decode cX6_spread 32 = .ok (.iload_n 3, 1) := by decide +kernel
theorem dX6_spread_33 : decode cX6_spread 33 = .ok (.i2d, 1) := by decide +kernel
theorem dX6_spread_34 : decode cX6_spread 34 = .ok (.ddiv, 1) := by decide +kernel
theorem dX6_spread_35 : decode cX6_spread 35 = .ok (.dload 4, 2) := by decide +kernel
theorem dX6_spread_37 : decode cX6_spread 37 = .ok (.dload 4, 2) := by decide +kernel
theorem dX6_spread_39 : decode cX6_spread 39 = .ok (.dmul, 1) := by decide +kernel
theorem dX6_spread_40 : decode cX6_spread 40 = .ok (.dsub, 1) := by decide +kernel
theorem dX6_spread_41 : decode cX6_spread 41 = .ok (.dreturn, 1) := by decide +kernel
theorem dX6_mean_0 : decode cX6_mean 0 = .ok (.aload_n 0, 1) := by decide +kernel
theorem dX6_mean_1 : decode cX6_mean 1 = .ok (.aload_n 0, 1) := by decide +kernel
theorem dX6_mean_2 : decode cX6_mean 2 = .ok (.iload_n 1, 1) := by decide +kernel
theorem dX6_mean_3 : decode cX6_mean 3 = .ok (.iload_n 2, 1) := by decide +kernel
theorem dX6_mean_4 : decode cX6_mean 4 = .ok (.invokevirtual 102, 3) := by decide +kernel
theorem dX6_mean_7 : decode cX6_mean 7 = .ok (.ifCond .eq 7, 3) := by decide +kernel
theorem dX6_mean_10 : decode cX6_mean 10 = .ok (.iconst 0, 1) := by decide +kernel
theorem dX6_mean_11 : decode cX6_mean 11 = .ok (.goto 4, 3) := by decide +kernel
theorem dX6_mean_14 : decode cX6_mean 14 = .ok (.iconst 1, 1) := by decide +kernel
theorem dX6_mean_15 : decode cX6_mean 15 = .ok (.putfield 80, 3) := by decide +kernel
theorem dX6_mean_18 : decode cX6_mean 18 = .ok (.aload_n 0, 1) := by decide +kernel
theorem dX6_mean_19 : decode cX6_mean 19 = .ok (.getfield 80, 3) := by decide +kernel
theorem dX6_mean_22 : decode cX6_mean 22 = .ok (.ifCond .ne 12, 3) := by decide +kernel
theorem dX6_mean_25 : decode cX6_mean 25 = .ok (.aload_n 0, 1) := by decide +kernel
theorem dX6_mean_26 : decode cX6_mean 26 = .ok (.iload_n 1, 1) := by decide +kernel
theorem dX6_mean_27 : decode cX6_mean 27 = .ok (.iload_n 2, 1) := by decide +kernel
theorem dX6_mean_28 : decode cX6_mean 28 = .ok (.invokevirtual 185, 3) := by decide +kernel
theorem dX6_mean_31 : decode cX6_mean 31 = .ok (.goto 4, 3) := by decide +kernel
theorem dX6_mean_34 : decode cX6_mean 34 = .ok (.dconst 0, 1) := by decide +kernel
theorem dX6_mean_35 : decode cX6_mean 35 = .ok (.dreturn, 1) := by decide +kernel
theorem dX6_lift_0 : decode cX6_lift 0 = .ok (.aload_n 0, 1) := by decide +kernel
theorem dX6_lift_1 : decode cX6_lift 1 = .ok (.aload_n 0, 1) := by decide +kernel
theorem dX6_lift_2 : decode cX6_lift 2 = .ok (.iload_n 1, 1) := by decide +kernel
theorem dX6_lift_3 : decode cX6_lift 3 = .ok (.iload_n 2, 1) := by decide +kernel
theorem dX6_lift_4 : decode cX6_lift 4 = .ok (.invokevirtual 102, 3) := by decide +kernel
theorem dX6_lift_7 : decode cX6_lift 7 = .ok (.ifCond .eq 7, 3) := by decide +kernel
theorem dX6_lift_10 : decode cX6_lift 10 = .ok (.iconst 0, 1) := by decide +kernel
theorem dX6_lift_11 : decode cX6_lift 11 = .ok (.goto 4, 3) := by decide +kernel
theorem dX6_lift_14 : decode cX6_lift 14 = .ok (.iconst 1, 1) := by decide +kernel
theorem dX6_lift_15 : decode cX6_lift 15 = .ok (.putfield 80, 3) := by decide +kernel
theorem dX6_lift_18 : decode cX6_lift 18 = .ok (.aload_n 0, 1) := by decide +kernel
theorem dX6_lift_19 : decode cX6_lift 19 = .ok (.getfield 80, 3) := by decide +kernel
theorem dX6_lift_22 : decode cX6_lift 22 = .ok (.ifCond .ne 19, 3) := by decide +kernel
theorem dX6_lift_25 : decode cX6_lift 25 = .ok (.aload_n 0, 1) := by decide +kernel
theorem dX6_lift_26 : decode cX6_lift 26 = .ok (.iload_n 1, 1) := by decide +kernel
theorem dX6_lift_27 : decode cX6_lift 27 = .ok (.iload_n 2, 1) := by decide +kernel
theorem dX6_lift_28 : decode cX6_lift 28 = .ok (.invokevirtual 185, 3) := by decide +kernel
theorem dX6_lift_31 : decode cX6_lift 31 = .ok (.aload_n 0, 1) := by decide +kernel
theorem dX6_lift_32 : decode cX6_lift 32 = .ok (.iload_n 1, 1) := by decide +kernel
theorem dX6_lift_33 : decode cX6_lift 33 = .ok (.iconst 0, 1) := by decide +kernel
theorem dX6_lift_34 : decode cX6_lift 34 = .ok (.invokevirtual 185, 3) := by decide +kernel
theorem dX6_lift_37 : decode cX6_lift 37 = .ok (.dsub, 1) := by decide +kernel
theorem dX6_lift_38 : decode cX6_lift 38 = .ok (.goto 4, 3) := by decide +kernel
theorem dX6_lift_41 : decode cX6_lift 41 = .ok (.dconst 0, 1) := by decide +kernel
theorem dX6_lift_42 : decode cX6_lift 42 = .ok (.dreturn, 1) := by decide +kernel
theorem dX6_sure_0 : decode cX6_sure 0 = .ok (.aload_n 0, 1) := by decide +kernel
theorem dX6_sure_1 : decode cX6_sure 1 = .ok (.aload_n 0, 1) := by decide +kernel
theorem dX6_sure_2 : decode cX6_sure 2 = .ok (.iload_n 1, 1) := by decide +kernel
theorem dX6_sure_3 : decode cX6_sure 3 = .ok (.iload_n 2, 1) := by decide +kernel
theorem dX6_sure_4 : decode cX6_sure 4 = .ok (.invokevirtual 102, 3) := by decide +kernel
theorem dX6_sure_7 : decode cX6_sure 7 = .ok (.ifCond .eq 7, 3) := by decide +kernel
theorem dX6_sure_10 : decode cX6_sure 10 = .ok (.iconst 0, 1) := by decide +kernel
theorem dX6_sure_11 : decode cX6_sure 11 = .ok (.goto 4, 3) := by decide +kernel
theorem dX6_sure_14 : decode cX6_sure 14 = .ok (.iconst 1, 1) := by decide +kernel
theorem dX6_sure_15 : decode cX6_sure 15 = .ok (.putfield 80, 3) := by decide +kernel
theorem dX6_sure_18 : decode cX6_sure 18 = .ok (.aload_n 0, 1) := by decide +kernel
theorem dX6_sure_19 : decode cX6_sure 19 = .ok (.getfield 80, 3) := by decide +kernel
theorem dX6_sure_22 : decode cX6_sure 22 = .ok (.ifCond .eq 5, 3) := by decide +kernel
theorem dX6_sure_25 : decode cX6_sure 25 = .ok (.dconst 0, 1) := by decide +kernel
theorem dX6_sure_26 : decode cX6_sure 26 = .ok (.dreturn, 1) := by decide +kernel
theorem dX6_sure_27 : decode cX6_sure 27 = .ok (.aload_n 0, 1) := by decide +kernel
theorem dX6_sure_28 : decode cX6_sure 28 = .ok (.iload_n 1, 1) := by decide +kernel
theorem dX6_sure_29 : decode cX6_sure 29 = .ok (.iload_n 2, 1) := by decide +kernel
theorem dX6_sure_30 : decode cX6_sure 30 = .ok (.iconst 0, 1) := by decide +kernel
theorem dX6_sure_31 : decode cX6_sure 31 = .ok (.invokevirtual 182, 3) := by decide +kernel
theorem dX6_sure_34 : decode cX6_sure 34 = .ok (.istore_n 3, 1) := by decide +kernel
theorem dX6_sure_35 : decode cX6_sure 35 = .ok (.aload_n 0, 1) := by decide +kernel
theorem dX6_sure_36 : decode cX6_sure 36 = .ok (.iload_n 1, 1) := by decide +kernel
theorem dX6_sure_37 : decode cX6_sure 37 = .ok (.iconst 0, 1) := by decide +kernel
theorem dX6_sure_38 : decode cX6_sure 38 = .ok (.iconst 0, 1) := by decide +kernel
theorem dX6_sure_39 : decode cX6_sure 39 = .ok (.invokevirtual 182, 3) := by decide +kernel
theorem dX6_sure_42 : decode cX6_sure 42 = .ok (.istore 4, 2) := by decide +kernel
theorem dX6_sure_44 : decode cX6_sure 44 = .ok (.iload_n 3, 1) := by decide +kernel
theorem dX6_sure_45 : decode cX6_sure 45 = .ok (.ifCond .eq 8, 3) := by decide +kernel
theorem dX6_sure_48 : decode cX6_sure 48 = .ok (.iload 4, 2) := by decide +kernel
theorem dX6_sure_50 : decode cX6_sure 50 = .ok (.ifCond .ne 5, 3) := by decide +kernel
theorem dX6_sure_53 : decode cX6_sure 53 = .ok (.dconst 0, 1) := by decide +kernel
theorem dX6_sure_54 : decode cX6_sure 54 = .ok (.dreturn, 1) := by decide +kernel
theorem dX6_sure_55 : decode cX6_sure 55 = .ok (.aload_n 0, 1) := by decide +kernel
theorem dX6_sure_56 : decode cX6_sure 56 = .ok (.iload_n 1, 1) := by decide +kernel
theorem dX6_sure_57 : decode cX6_sure 57 = .ok (.iload_n 2, 1) := by decide +kernel
theorem dX6_sure_58 : decode cX6_sure 58 = .ok (.invokevirtual 189, 3) := by decide +kernel
theorem dX6_sure_61 : decode cX6_sure 61 = .ok (.iload_n 3, 1) := by decide +kernel
theorem dX6_sure_62 : decode cX6_sure 62 = .ok (.i2d, 1) := by decide +kernel
theorem dX6_sure_63 : decode cX6_sure 63 = .ok (.ddiv, 1) := by decide +kernel
theorem dX6_sure_64 : decode cX6_sure 64 = .ok (.aload_n 0, 1) := by decide +kernel
theorem dX6_sure_65 : decode cX6_sure 65 = .ok (.iload_n 1, 1) := by decide +kernel
theorem dX6_sure_66 : decode cX6_sure 66 = .ok (.iconst 0, 1) := by decide +kernel
theorem dX6_sure_67 : decode cX6_sure 67 = .ok (.invokevirtual 189, 3) := by decide +kernel
theorem dX6_sure_70 : decode cX6_sure 70 = .ok (.iload 4, 2) := by decide +kernel
theorem dX6_sure_72 : decode cX6_sure 72 = .ok (.i2d, 1) := by decide +kernel
theorem dX6_sure_73 : decode cX6_sure 73 = .ok (.ddiv, 1) := by decide +kernel
theorem dX6_sure_74 : decode cX6_sure 74 = .ok (.dadd, 1) := by decide +kernel
theorem dX6_sure_75 : decode cX6_sure 75 = .ok (.dstore 5, 2) := by decide +kernel
theorem dX6_sure_77 : decode cX6_sure 77 = .ok (.aload_n 0, 1) := by decide +kernel
theorem dX6_sure_78 : decode cX6_sure 78 = .ok (.iload_n 1, 1) := by decide +kernel
theorem dX6_sure_79 : decode cX6_sure 79 = .ok (.iload_n 2, 1) := by decide +kernel
theorem dX6_sure_80 : decode cX6_sure 80 = .ok (.invokevirtual 185, 3) := by decide +kernel
theorem dX6_sure_83 : decode cX6_sure 83 = .ok (.aload_n 0, 1) := by decide +kernel
theorem dX6_sure_84 : decode cX6_sure 84 = .ok (.iload_n 1, 1) := by decide +kernel
theorem dX6_sure_85 : decode cX6_sure 85 = .ok (.iconst 0, 1) := by decide +kernel
theorem dX6_sure_86 : decode cX6_sure 86 = .ok (.invokevirtual 185, 3) := by decide +kernel
theorem dX6_sure_89 : decode cX6_sure 89 = .ok (.dsub, 1) := by decide +kernel
theorem dX6_sure_90 : decode cX6_sure 90 = .ok (.dstore 7, 2) := by decide +kernel
theorem dX6_sure_92 : decode cX6_sure 92 = .ok (.dload 5, 2) := by decide +kernel
theorem dX6_sure_94 : decode cX6_sure 94 = .ok (.dconst 0, 1) := by decide +kernel
theorem dX6_sure_95 : decode cX6_sure 95 = .ok (.dcmp .l, 1) := by decide +kernel
theorem dX6_sure_96 : decode cX6_sure 96 = .ok (.ifCond .ne 7, 3) := by decide +kernel
theorem dX6_sure_99 : decode cX6_sure 99 = .ok (.dconst 0, 1) := by decide +kernel
theorem dX6_sure_100 : decode cX6_sure 100 = .ok (.goto 11, 3) := by decide +kernel
theorem dX6_sure_103 : decode cX6_sure 103 = .ok (.dload 7, 2) := by decide +kernel
theorem dX6_sure_105 : decode cX6_sure 105 = .ok (.dload 7, 2) := by decide +kernel
theorem dX6_sure_107 : decode cX6_sure 107 = .ok (.dmul, 1) := by decide +kernel
theorem dX6_sure_108 : decode cX6_sure 108 = .ok (.dload 5, 2) := by decide +kernel
theorem dX6_sure_110 : decode cX6_sure 110 = .ok (.ddiv, 1) := by decide +kernel
theorem dX6_sure_111 : decode cX6_sure 111 = .ok (.dreturn, 1) := by decide +kernel
theorem dX6_badNow_0 : decode cX6_badNow 0 = .ok (.iconst 0, 1) := by decide +kernel
theorem dX6_badNow_1 : decode cX6_badNow 1 = .ok (.istore_n 2, 1) := by decide +kernel
theorem dX6_badNow_2 : decode cX6_badNow 2 = .ok (.iconst 0, 1) := by decide +kernel
theorem dX6_badNow_3 : decode cX6_badNow 3 = .ok (.istore_n 3, 1) := by decide +kernel
theorem dX6_badNow_4 : decode cX6_badNow 4 = .ok (.iload_n 3, 1) := by decide +kernel
theorem dX6_badNow_5 : decode cX6_badNow 5 = .ok (.aload_n 0, 1) := by decide +kernel
theorem dX6_badNow_6 : decode cX6_badNow 6 = .ok (.getfield 13, 3) := by decide +kernel
theorem dX6_badNow_9 : decode cX6_badNow 9 = .ok (.iload_n 1, 1) := by decide +kernel
theorem dX6_badNow_10 : decode cX6_badNow 10 = .ok (.iaload, 1) := by decide +kernel
theorem dX6_badNow_11 : decode cX6_badNow 11 = .ok (.if_icmp .ge 19, 3) := by decide +kernel
theorem dX6_badNow_14 : decode cX6_badNow 14 = .ok (.iload_n 2, 1) := by decide +kernel
theorem dX6_badNow_15 : decode cX6_badNow 15 = .ok (.aload_n 0, 1) := by decide +kernel
theorem dX6_badNow_16 : decode cX6_badNow 16 = .ok (.iload_n 1, 1) := by decide +kernel
theorem dX6_badNow_17 : decode cX6_badNow 17 = .ok (.iload_n 3, 1) := by decide +kernel
theorem dX6_badNow_18 : decode cX6_badNow 18 = .ok (.iconst 0, 1) := by decide +kernel
theorem dX6_badNow_19 : decode cX6_badNow 19 = .ok (.invokevirtual 182, 3) := by decide +kernel
theorem dX6_badNow_22 : decode cX6_badNow 22 = .ok (.iadd, 1) := by decide +kernel
theorem dX6_badNow_23 : decode cX6_badNow 23 = .ok (.istore_n 2, 1) := by decide +kernel
theorem dX6_badNow_24 : decode cX6_badNow 24 = .ok (.iinc 3 1, 3) := by decide +kernel
theorem dX6_badNow_27 : decode cX6_badNow 27 = .ok (.goto (-23), 3) := by decide +kernel
theorem dX6_badNow_30 : decode cX6_badNow 30 = .ok (.lconst 0, 1) := by decide +kernel
theorem dX6_badNow_31 : decode cX6_badNow 31 = .ok (.lstore_n 3, 1) := by decide +kernel
theorem dX6_badNow_32 : decode cX6_badNow 32 = .ok (.iconst 0, 1) := by decide +kernel
theorem dX6_badNow_33 : decode cX6_badNow 33 = .ok (.istore 5, 2) := by decide +kernel
theorem dX6_badNow_35 : decode cX6_badNow 35 = .ok (.iload 5, 2) := by decide +kernel
theorem dX6_badNow_37 : decode cX6_badNow 37 = .ok (.aload_n 0, 1) := by decide +kernel
theorem dX6_badNow_38 : decode cX6_badNow 38 = .ok (.getfield 13, 3) := by decide +kernel
theorem dX6_badNow_41 : decode cX6_badNow 41 = .ok (.iload_n 1, 1) := by decide +kernel
theorem dX6_badNow_42 : decode cX6_badNow 42 = .ok (.iaload, 1) := by decide +kernel
theorem dX6_badNow_43 : decode cX6_badNow 43 = .ok (.if_icmp .ge 73, 3) := by decide +kernel
theorem dX6_badNow_46 : decode cX6_badNow 46 = .ok (.iload_n 2, 1) := by decide +kernel
theorem dX6_badNow_47 : decode cX6_badNow 47 = .ok (.ifCond .le 69, 3) := by decide +kernel
theorem dX6_badNow_50 : decode cX6_badNow 50 = .ok (.aload_n 0, 1) := by decide +kernel
theorem dX6_badNow_51 : decode cX6_badNow 51 = .ok (.getfield 16, 3) := by decide +kernel
theorem dX6_badNow_54 : decode cX6_badNow 54 = .ok (.iload_n 1, 1) := by decide +kernel
theorem dX6_badNow_55 : decode cX6_badNow 55 = .ok (.iconst 4, 1) := by decide +kernel
theorem dX6_badNow_56 : decode cX6_badNow 56 = .ok (.imul, 1) := by decide +kernel
theorem dX6_badNow_57 : decode cX6_badNow 57 = .ok (.iload 5, 2) := by decide +kernel
theorem dX6_badNow_59 : decode cX6_badNow 59 = .ok (.iadd, 1) := by decide +kernel
theorem dX6_badNow_60 : decode cX6_badNow 60 = .ok (.iaload, 1) := by decide +kernel
theorem dX6_badNow_61 : decode cX6_badNow 61 = .ok (.i2l, 1) := by decide +kernel
theorem dX6_badNow_62 : decode cX6_badNow 62 = .ok (.lstore 6, 2) := by decide +kernel
theorem dX6_badNow_64 : decode cX6_badNow 64 = .ok (.aload_n 0, 1) := by decide +kernel
theorem dX6_badNow_65 : decode cX6_badNow 65 = .ok (.iload_n 1, 1) := by decide +kernel
theorem dX6_badNow_66 : decode cX6_badNow 66 = .ok (.iload 5, 2) := by decide +kernel
theorem dX6_badNow_68 : decode cX6_badNow 68 = .ok (.iconst 0, 1) := by decide +kernel
theorem dX6_badNow_69 : decode cX6_badNow 69 = .ok (.invokevirtual 182, 3) := by decide +kernel
theorem dX6_badNow_72 : decode cX6_badNow 72 = .ok (.i2l, 1) := by decide +kernel
theorem dX6_badNow_73 : decode cX6_badNow 73 = .ok (.ldc2_w 109, 3) := by decide +kernel
theorem dX6_badNow_76 : decode cX6_badNow 76 = .ok (.lmul, 1) := by decide +kernel
theorem dX6_badNow_77 : decode cX6_badNow 77 = .ok (.iload_n 2, 1) := by decide +kernel
theorem dX6_badNow_78 : decode cX6_badNow 78 = .ok (.i2l, 1) := by decide +kernel
theorem dX6_badNow_79 : decode cX6_badNow 79 = .ok (.lload 6, 2) := by decide +kernel
theorem dX6_badNow_81 : decode cX6_badNow 81 = .ok (.lmul, 1) := by decide +kernel
theorem dX6_badNow_82 : decode cX6_badNow 82 = .ok (.lsub, 1) := by decide +kernel
theorem dX6_badNow_83 : decode cX6_badNow 83 = .ok (.lstore 8, 2) := by decide +kernel
theorem dX6_badNow_85 : decode cX6_badNow 85 = .ok (.lload 6, 2) := by decide +kernel
theorem dX6_badNow_87 : decode cX6_badNow 87 = .ok (.lconst 0, 1) := by decide +kernel
theorem dX6_badNow_88 : decode cX6_badNow 88 = .ok (.lcmp, 1) := by decide +kernel
theorem dX6_badNow_89 : decode cX6_badNow 89 = .ok (.ifCond .le 21, 3) := by decide +kernel
theorem dX6_badNow_92 : decode cX6_badNow 92 = .ok (.lload_n 3, 1) := by decide +kernel
theorem dX6_badNow_93 : decode cX6_badNow 93 = .ok (.lload 8, 2) := by decide +kernel
theorem dX6_badNow_95 : decode cX6_badNow 95 = .ok (.lload 8, 2) := by decide +kernel
theorem dX6_badNow_97 : decode cX6_badNow 97 = .ok (.lmul, 1) := by decide +kernel
theorem dX6_badNow_98 : decode cX6_badNow 98 = .ok (.iload_n 2, 1) := by decide +kernel
theorem dX6_badNow_99 : decode cX6_badNow 99 = .ok (.i2l, 1) := by decide +kernel
theorem dX6_badNow_100 : decode cX6_badNow 100 = .ok (.lload 6, 2) := by decide +kernel
theorem dX6_badNow_102 : decode cX6_badNow 102 = .ok (.lmul, 1) := by decide +kernel
theorem dX6_badNow_103 : decode cX6_badNow 103 = .ok (.ldc2_w 192, 3) := by decide +kernel
theorem dX6_badNow_106 : decode cX6_badNow 106 = .ok (.lmul, 1) := by decide +kernel
theorem dX6_badNow_107 : decode cX6_badNow 107 = .ok (.ldiv, 1) := by decide +kernel
theorem dX6_badNow_108 : decode cX6_badNow 108 = .ok (.ladd, 1) := by decide +kernel
theorem dX6_badNow_109 : decode cX6_badNow 109 = .ok (.lstore_n 3, 1) := by decide +kernel
theorem dX6_badNow_110 : decode cX6_badNow 110 = .ok (.iinc 5 1, 3) := by decide +kernel
theorem dX6_badNow_113 : decode cX6_badNow 113 = .ok (.goto (-78), 3) := by decide +kernel
theorem dX6_badNow_116 : decode cX6_badNow 116 = .ok (.lload_n 3, 1) := by decide +kernel
theorem dX6_badNow_117 : decode cX6_badNow 117 = .ok (.l2i, 1) := by decide +kernel
theorem dX6_badNow_118 : decode cX6_badNow 118 = .ok (.ireturn, 1) := by decide +kernel
theorem dX6_bad_0 : decode cX6_bad 0 = .ok (.aload_n 0, 1) := by decide +kernel
theorem dX6_bad_1 : decode cX6_bad 1 = .ok (.iconst 0, 1) := by decide +kernel
theorem dX6_bad_2 : decode cX6_bad 2 = .ok (.putfield 80, 3) := by decide +kernel
theorem dX6_bad_5 : decode cX6_bad 5 = .ok (.aload_n 0, 1) := by decide +kernel
theorem dX6_bad_6 : decode cX6_bad 6 = .ok (.iload_n 1, 1) := by decide +kernel
theorem dX6_bad_7 : decode cX6_bad 7 = .ok (.invokevirtual 91, 3) := by decide +kernel
theorem dX6_bad_10 : decode cX6_bad 10 = .ok (.ifCond .eq 11, 3) := by decide +kernel
theorem dX6_bad_13 : decode cX6_bad 13 = .ok (.aload_n 0, 1) := by decide +kernel
theorem dX6_bad_14 : decode cX6_bad 14 = .ok (.iload_n 1, 1) := by decide +kernel
theorem dX6_bad_15 : decode cX6_bad 15 = .ok (.invokevirtual 194, 3) := by decide +kernel
theorem dX6_bad_18 : decode cX6_bad 18 = .ok (.goto 8, 3) := by decide +kernel
theorem dX6_bad_21 : decode cX6_bad 21 = .ok (.aload_n 0, 1) := by decide +kernel
theorem dX6_bad_22 : decode cX6_bad 22 = .ok (.iconst 1, 1) := by decide +kernel
theorem dX6_bad_23 : decode cX6_bad 23 = .ok (.invokevirtual 95, 3) := by decide +kernel
theorem dX6_bad_26 : decode cX6_bad 26 = .ok (.ireturn, 1) := by decide +kernel
theorem dX6_isTrustedNow_0 : decode cX6_isTrustedNow 0 = .ok (.iconst 0, 1) := by decide +kernel
theorem dX6_isTrustedNow_1 : decode cX6_isTrustedNow 1 = .ok (.istore_n 2, 1) := by decide +kernel
theorem dX6_isTrustedNow_2 : decode cX6_isTrustedNow 2 = .ok (.iconst 0, 1) := by decide +kernel
theorem dX6_isTrustedNow_3 : decode cX6_isTrustedNow 3 = .ok (.istore_n 3, 1) := by decide +kernel
theorem dX6_isTrustedNow_4 : decode cX6_isTrustedNow 4 = .ok (.iload_n 3, 1) := by decide +kernel
theorem dX6_isTrustedNow_5 : decode cX6_isTrustedNow 5 = .ok (.aload_n 0, 1) := by decide +kernel
theorem dX6_isTrustedNow_6 : decode cX6_isTrustedNow 6 = .ok (.getfield 13, 3) := by decide +kernel
theorem dX6_isTrustedNow_9 : decode cX6_isTrustedNow 9 = .ok (.iload_n 1, 1) := by decide +kernel
theorem dX6_isTrustedNow_10 : decode cX6_isTrustedNow 10 = .ok (.iaload, 1) := by decide +kernel
theorem dX6_isTrustedNow_11 : decode cX6_isTrustedNow 11 = .ok (.if_icmp .ge 55, 3) := by decide +kernel
theorem dX6_isTrustedNow_14 : decode cX6_isTrustedNow 14 = .ok (.iload_n 2, 1) := by decide +kernel
theorem dX6_isTrustedNow_15 : decode cX6_isTrustedNow 15 = .ok (.aload_n 0, 1) := by decide +kernel
theorem dX6_isTrustedNow_16 : decode cX6_isTrustedNow 16 = .ok (.getfield 16, 3) := by decide +kernel
theorem dX6_isTrustedNow_19 : decode cX6_isTrustedNow 19 = .ok (.iload_n 1, 1) := by decide +kernel
theorem dX6_isTrustedNow_20 : decode cX6_isTrustedNow 20 = .ok (.iconst 4, 1) := by decide +kernel
theorem dX6_isTrustedNow_21 : decode cX6_isTrustedNow 21 = .ok (.imul, 1) := by decide +kernel
theorem dX6_isTrustedNow_22 : decode cX6_isTrustedNow 22 = .ok (.iload_n 3, 1) := by decide +kernel
theorem dX6_isTrustedNow_23 : decode cX6_isTrustedNow 23 = .ok (.iadd, 1) := by decide +kernel
theorem dX6_isTrustedNow_24 : decode cX6_isTrustedNow 24 = .ok (.iaload, 1) := by decide +kernel
theorem dX6_isTrustedNow_25 : decode cX6_isTrustedNow 25 = .ok (.ifCond .le 7, 3) := by decide +kernel
theorem dX6_isTrustedNow_28 : decode cX6_isTrustedNow 28 = .ok (.iconst 1, 1) := by decide +kernel
theorem dX6_isTrustedNow_29 : decode cX6_isTrustedNow 29 = .ok (.goto 4, 3) := by decide +kernel
theorem dX6_isTrustedNow_32 : decode cX6_isTrustedNow 32 = .ok (.iconst 0, 1) := by decide +kernel
theorem dX6_isTrustedNow_33 : decode cX6_isTrustedNow 33 = .ok (.iadd, 1) := by decide +kernel
theorem dX6_isTrustedNow_34 : decode cX6_isTrustedNow 34 = .ok (.istore_n 2, 1) := by decide +kernel
theorem dX6_isTrustedNow_35 : decode cX6_isTrustedNow 35 = .ok (.aload_n 0, 1) := by decide +kernel
theorem dX6_isTrustedNow_36 : decode cX6_isTrustedNow 36 = .ok (.getfield 16, 3) := by decide +kernel
theorem dX6_isTrustedNow_39 : decode cX6_isTrustedNow 39 = .ok (.iload_n 1, 1) := by decide +kernel
theorem dX6_isTrustedNow_40 : decode cX6_isTrustedNow 40 = .ok (.iconst 4, 1) := by decide +kernel
theorem dX6_isTrustedNow_41 : decode cX6_isTrustedNow 41 = .ok (.imul, 1) := by decide +kernel
theorem dX6_isTrustedNow_42 : decode cX6_isTrustedNow 42 = .ok (.iload_n 3, 1) := by decide +kernel
theorem dX6_isTrustedNow_43 : decode cX6_isTrustedNow 43 = .ok (.iadd, 1) := by decide +kernel
theorem dX6_isTrustedNow_44 : decode cX6_isTrustedNow 44 = .ok (.iaload, 1) := by decide +kernel
theorem dX6_isTrustedNow_45 : decode cX6_isTrustedNow 45 = .ok (.ifCond .ne 15, 3) := by decide +kernel
theorem dX6_isTrustedNow_48 : decode cX6_isTrustedNow 48 = .ok (.aload_n 0, 1) := by decide +kernel
theorem dX6_isTrustedNow_49 : decode cX6_isTrustedNow 49 = .ok (.iload_n 1, 1) := by decide +kernel
theorem dX6_isTrustedNow_50 : decode cX6_isTrustedNow 50 = .ok (.iload_n 3, 1) := by decide +kernel
theorem dX6_isTrustedNow_51 : decode cX6_isTrustedNow 51 = .ok (.iconst 0, 1) := by decide +kernel
theorem dX6_isTrustedNow_52 : decode cX6_isTrustedNow 52 = .ok (.invokevirtual 182, 3) := by decide +kernel
theorem dX6_isTrustedNow_55 : decode cX6_isTrustedNow 55 = .ok (.ifCond .le 5, 3) := by decide +kernel
theorem dX6_isTrustedNow_58 : decode cX6_isTrustedNow 58 = .ok (.iconst 0, 1) := by decide +kernel
theorem dX6_isTrustedNow_59 : decode cX6_isTrustedNow 59 = .ok (.ireturn, 1) := by decide +kernel
theorem dX6_isTrustedNow_60 : decode cX6_isTrustedNow 60 = .ok (.iinc 3 1, 3) := by decide +kernel
theorem dX6_isTrustedNow_63 : decode cX6_isTrustedNow 63 = .ok (.goto (-59), 3) := by decide +kernel
theorem dX6_isTrustedNow_66 : decode cX6_isTrustedNow 66 = .ok (.iload_n 2, 1) := by decide +kernel
theorem dX6_isTrustedNow_67 : decode cX6_isTrustedNow 67 = .ok (.iconst 1, 1) := by decide +kernel
theorem dX6_isTrustedNow_68 : decode cX6_isTrustedNow 68 = .ok (.if_icmp .eq 36, 3) := by decide +kernel
theorem dX6_isTrustedNow_71 : decode cX6_isTrustedNow 71 = .ok (.aload_n 0, 1) := by decide +kernel
theorem dX6_isTrustedNow_72 : decode cX6_isTrustedNow 72 = .ok (.iload_n 1, 1) := by decide +kernel
theorem dX6_isTrustedNow_73 : decode cX6_isTrustedNow 73 = .ok (.invokevirtual 194, 3) := by decide +kernel
theorem dX6_isTrustedNow_76 : decode cX6_isTrustedNow 76 = .ok (.iload_n 2, 1) := by decide +kernel
theorem dX6_isTrustedNow_77 : decode cX6_isTrustedNow 77 = .ok (.iconst 2, 1) := by decide +kernel
theorem dX6_isTrustedNow_78 : decode cX6_isTrustedNow 78 = .ok (.if_icmp .ne 9, 3) := by decide +kernel
theorem dX6_isTrustedNow_81 : decode cX6_isTrustedNow 81 = .ok (.sipush 384, 3) := by decide +kernel
theorem dX6_isTrustedNow_84 : decode cX6_isTrustedNow 84 = .ok (.goto 17, 3) := by decide +kernel
theorem dX6_isTrustedNow_87 : decode cX6_isTrustedNow 87 = .ok (.iload_n 2, 1) := by decide +kernel
theorem dX6_isTrustedNow_88 : decode cX6_isTrustedNow 88 = .ok (.iconst 3, 1) := by decide +kernel
theorem dX6_isTrustedNow_89 : decode cX6_isTrustedNow 89 = .ok (.if_icmp .ne 9, 3) := by decide +kernel
theorem dX6_isTrustedNow_92 : decode cX6_isTrustedNow 92 = .ok (.sipush 599, 3) := by decide +kernel
theorem dX6_isTrustedNow_95 : decode cX6_isTrustedNow 95 = .ok (.goto 6, 3) := by decide +kernel
theorem dX6_isTrustedNow_98 : decode cX6_isTrustedNow 98 = .ok (.sipush 781, 3) := by decide +kernel
theorem dX6_isTrustedNow_101 : decode cX6_isTrustedNow 101 = .ok (.if_icmp .gt 7, 3) := by decide +kernel
theorem dX6_isTrustedNow_104 : decode cX6_isTrustedNow 104 = .ok (.iconst 1, 1) := by decide +kernel
theorem dX6_isTrustedNow_105 : decode cX6_isTrustedNow 105 = .ok (.goto 4, 3) := by decide +kernel
theorem dX6_isTrustedNow_108 : decode cX6_isTrustedNow 108 = .ok (.iconst 0, 1) := by decide +kernel
theorem dX6_isTrustedNow_109 : decode cX6_isTrustedNow 109 = .ok (.ireturn, 1) := by decide +kernel
theorem dX6_isTrusted_0 : decode cX6_isTrusted 0 = .ok (.aload_n 0, 1) := by decide +kernel
theorem dX6_isTrusted_1 : decode cX6_isTrusted 1 = .ok (.iconst 0, 1) := by decide +kernel
theorem dX6_isTrusted_2 : decode cX6_isTrusted 2 = .ok (.putfield 80, 3) := by decide +kernel
theorem dX6_isTrusted_5 : decode cX6_isTrusted 5 = .ok (.aload_n 0, 1) := by decide +kernel
theorem dX6_isTrusted_6 : decode cX6_isTrusted 6 = .ok (.iload_n 1, 1) := by decide +kernel
theorem dX6_isTrusted_7 : decode cX6_isTrusted 7 = .ok (.invokevirtual 91, 3) := by decide +kernel
theorem dX6_isTrusted_10 : decode cX6_isTrusted 10 = .ok (.ifCond .eq 11, 3) := by decide +kernel
theorem dX6_isTrusted_13 : decode cX6_isTrusted 13 = .ok (.aload_n 0, 1) := by decide +kernel
theorem dX6_isTrusted_14 : decode cX6_isTrusted 14 = .ok (.iload_n 1, 1) := by decide +kernel
theorem dX6_isTrusted_15 : decode cX6_isTrusted 15 = .ok (.invokevirtual 197, 3) := by decide +kernel
theorem dX6_isTrusted_18 : decode cX6_isTrusted 18 = .ok (.goto 8, 3) := by decide +kernel
theorem dX6_isTrusted_21 : decode cX6_isTrusted 21 = .ok (.aload_n 0, 1) := by decide +kernel
theorem dX6_isTrusted_22 : decode cX6_isTrusted 22 = .ok (.iconst 1, 1) := by decide +kernel
theorem dX6_isTrusted_23 : decode cX6_isTrusted 23 = .ok (.invokevirtual 106, 3) := by decide +kernel
theorem dX6_isTrusted_26 : decode cX6_isTrusted 26 = .ok (.ireturn, 1) := by decide +kernel
theorem dX6_bestNow_0 : decode cX6_bestNow 0 = .ok (.iconst (-1), 1) := by decide +kernel
theorem dX6_bestNow_1 : decode cX6_bestNow 1 = .ok (.istore_n 2, 1) := by decide +kernel
theorem dX6_bestNow_2 : decode cX6_bestNow 2 = .ok (.iconst 0, 1) := by decide +kernel
theorem dX6_bestNow_3 : decode cX6_bestNow 3 = .ok (.istore_n 3, 1) := by decide +kernel
theorem dX6_bestNow_4 : decode cX6_bestNow 4 = .ok (.iload_n 3, 1) := by decide +kernel
theorem dX6_bestNow_5 : decode cX6_bestNow 5 = .ok (.aload_n 0, 1) := by decide +kernel
theorem dX6_bestNow_6 : decode cX6_bestNow 6 = .ok (.getfield 13, 3) := by decide +kernel
theorem dX6_bestNow_9 : decode cX6_bestNow 9 = .ok (.iload_n 1, 1) := by decide +kernel
theorem dX6_bestNow_10 : decode cX6_bestNow 10 = .ok (.iaload, 1) := by decide +kernel
theorem dX6_bestNow_11 : decode cX6_bestNow 11 = .ok (.if_icmp .ge 42, 3) := by decide +kernel
theorem dX6_bestNow_14 : decode cX6_bestNow 14 = .ok (.aload_n 0, 1) := by decide +kernel
theorem dX6_bestNow_15 : decode cX6_bestNow 15 = .ok (.iload_n 1, 1) := by decide +kernel
theorem dX6_bestNow_16 : decode cX6_bestNow 16 = .ok (.iload_n 3, 1) := by decide +kernel
theorem dX6_bestNow_17 : decode cX6_bestNow 17 = .ok (.iconst 0, 1) := by decide +kernel
theorem dX6_bestNow_18 : decode cX6_bestNow 18 = .ok (.invokevirtual 182, 3) := by decide +kernel
theorem dX6_bestNow_21 : decode cX6_bestNow 21 = .ok (.ifCond .le 26, 3) := by decide +kernel
theorem dX6_bestNow_24 : decode cX6_bestNow 24 = .ok (.iload_n 2, 1) := by decide +kernel
theorem dX6_bestNow_25 : decode cX6_bestNow 25 = .ok (.iconst (-1), 1) := by decide +kernel
theorem dX6_bestNow_26 : decode cX6_bestNow 26 = .ok (.if_icmp .eq 19, 3) := by decide +kernel
theorem dX6_bestNow_29 : decode cX6_bestNow 29 = .ok (.aload_n 0, 1) := by decide +kernel
theorem dX6_bestNow_30 : decode cX6_bestNow 30 = .ok (.iload_n 1, 1) := by decide +kernel
theorem dX6_bestNow_31 : decode cX6_bestNow 31 = .ok (.iload_n 3, 1) := by decide +kernel
theorem dX6_bestNow_32 : decode cX6_bestNow 32 = .ok (.invokevirtual 185, 3) := by decide +kernel
theorem dX6_bestNow_35 : decode cX6_bestNow 35 = .ok (.aload_n 0, 1) := by decide +kernel
theorem dX6_bestNow_36 : decode cX6_bestNow 36 = .ok (.iload_n 1, 1) := by decide +kernel
theorem dX6_bestNow_37 : decode cX6_bestNow 37 = .ok (.iload_n 2, 1) := by decide +kernel
theorem dX6_bestNow_38 : decode cX6_bestNow 38 = .ok (.invokevirtual 185, 3) := by decide +kernel
theorem dX6_bestNow_41 : decode cX6_bestNow 41 = .ok (.dcmp .l, 1) := by decide +kernel
theorem dX6_bestNow_42 : decode cX6_bestNow 42 = .ok (.ifCond .le 5, 3) := by decide +kernel
theorem dX6_bestNow_45 : decode cX6_bestNow 45 = .ok (.iload_n 3, 1) := by decide +kernel
theorem dX6_bestNow_46 : decode cX6_bestNow 46 = .ok (.istore_n 2, 1) := by decide +kernel
theorem dX6_bestNow_47 : decode cX6_bestNow 47 = .ok (.iinc 3 1, 3) := by decide +kernel
theorem dX6_bestNow_50 : decode cX6_bestNow 50 = .ok (.goto (-46), 3) := by decide +kernel
theorem dX6_bestNow_53 : decode cX6_bestNow 53 = .ok (.iload_n 2, 1) := by decide +kernel
theorem dX6_bestNow_54 : decode cX6_bestNow 54 = .ok (.ireturn, 1) := by decide +kernel
theorem dX6_best_0 : decode cX6_best 0 = .ok (.aload_n 0, 1) := by decide +kernel
theorem dX6_best_1 : decode cX6_best 1 = .ok (.iconst 0, 1) := by decide +kernel
theorem dX6_best_2 : decode cX6_best 2 = .ok (.putfield 80, 3) := by decide +kernel
theorem dX6_best_5 : decode cX6_best 5 = .ok (.aload_n 0, 1) := by decide +kernel
theorem dX6_best_6 : decode cX6_best 6 = .ok (.iload_n 1, 1) := by decide +kernel
theorem dX6_best_7 : decode cX6_best 7 = .ok (.invokevirtual 91, 3) := by decide +kernel
theorem dX6_best_10 : decode cX6_best 10 = .ok (.ifCond .eq 11, 3) := by decide +kernel
theorem dX6_best_13 : decode cX6_best 13 = .ok (.aload_n 0, 1) := by decide +kernel
theorem dX6_best_14 : decode cX6_best 14 = .ok (.iload_n 1, 1) := by decide +kernel
theorem dX6_best_15 : decode cX6_best 15 = .ok (.invokevirtual 200, 3) := by decide +kernel
theorem dX6_best_18 : decode cX6_best 18 = .ok (.goto 8, 3) := by decide +kernel
theorem dX6_best_21 : decode cX6_best 21 = .ok (.aload_n 0, 1) := by decide +kernel
theorem dX6_best_22 : decode cX6_best 22 = .ok (.iconst 1, 1) := by decide +kernel
theorem dX6_best_23 : decode cX6_best 23 = .ok (.invokevirtual 95, 3) := by decide +kernel
theorem dX6_best_26 : decode cX6_best 26 = .ok (.ireturn, 1) := by decide +kernel
theorem dX6_getsBy_0 : decode cX6_getsBy 0 = .ok (.aload_n 0, 1) := by decide +kernel
theorem dX6_getsBy_1 : decode cX6_getsBy 1 = .ok (.iload_n 1, 1) := by decide +kernel
theorem dX6_getsBy_2 : decode cX6_getsBy 2 = .ok (.iload_n 2, 1) := by decide +kernel
theorem dX6_getsBy_3 : decode cX6_getsBy 3 = .ok (.iload_n 2, 1) := by decide +kernel
theorem dX6_getsBy_4 : decode cX6_getsBy 4 = .ok (.bipush 10, 2) := by decide +kernel
theorem dX6_getsBy_6 : decode cX6_getsBy 6 = .ok (.irem, 1) := by decide +kernel
theorem dX6_getsBy_7 : decode cX6_getsBy 7 = .ok (.iload_n 2, 1) := by decide +kernel
theorem dX6_getsBy_8 : decode cX6_getsBy 8 = .ok (.bipush 10, 2) := by decide +kernel
theorem dX6_getsBy_10 : decode cX6_getsBy 10 = .ok (.idiv, 1) := by decide +kernel
theorem dX6_getsBy_11 : decode cX6_getsBy 11 = .ok (.bipush 10, 2) := by decide +kernel
theorem dX6_getsBy_13 : decode cX6_getsBy 13 = .ok (.irem, 1) := by decide +kernel
theorem dX6_getsBy_14 : decode cX6_getsBy 14 = .ok (.invokevirtual 154, 3) := by decide +kernel
theorem dX6_getsBy_17 : decode cX6_getsBy 17 = .ok (.ireturn, 1) := by decide +kernel
theorem dX6_reachNow_0 : decode cX6_reachNow 0 = .ok (.iconst 0, 1) := by decide +kernel
theorem dX6_reachNow_1 : decode cX6_reachNow 1 = .ok (.istore 4, 2) := by decide +kernel
theorem dX6_reachNow_3 : decode cX6_reachNow 3 = .ok (.iconst 0, 1) := by decide +kernel
theorem dX6_reachNow_4 : decode cX6_reachNow 4 = .ok (.istore 5, 2) := by decide +kernel
theorem dX6_reachNow_6 : decode cX6_reachNow 6 = .ok (.iload 5, 2) := by decide +kernel
theorem dX6_reachNow_8 : decode cX6_reachNow 8 = .ok (.iload_n 3, 1) := by decide +kernel
theorem dX6_reachNow_9 : decode cX6_reachNow 9 = .ok (.if_icmp .ge 30, 3) := by decide +kernel
theorem dX6_reachNow_12 : decode cX6_reachNow 12 = .ok (.iload 4, 2) := by decide +kernel
theorem dX6_reachNow_14 : decode cX6_reachNow 14 = .ok (.aload_n 0, 1) := by decide +kernel
theorem dX6_reachNow_15 : decode cX6_reachNow 15 = .ok (.iload_n 1, 1) := by decide +kernel
theorem dX6_reachNow_16 : decode cX6_reachNow 16 = .ok (.iload 5, 2) := by decide +kernel
theorem dX6_reachNow_18 : decode cX6_reachNow 18 = .ok (.invokevirtual 203, 3) := by decide +kernel
theorem dX6_reachNow_21 : decode cX6_reachNow 21 = .ok (.iload_n 2, 1) := by decide +kernel
theorem dX6_reachNow_22 : decode cX6_reachNow 22 = .ok (.if_icmp .ne 7, 3) := by decide +kernel
theorem dX6_reachNow_25 : decode cX6_reachNow 25 = .ok (.iconst 1, 1) := by decide +kernel
theorem dX6_reachNow_26 : decode cX6_reachNow 26 = .ok (.goto 4, 3) := by decide +kernel
theorem dX6_reachNow_29 : decode cX6_reachNow 29 = .ok (.iconst 0, 1) := by decide +kernel
theorem dX6_reachNow_30 : decode cX6_reachNow 30 = .ok (.iadd, 1) := by decide +kernel
theorem dX6_reachNow_31 : decode cX6_reachNow 31 = .ok (.istore 4, 2) := by decide +kernel
theorem dX6_reachNow_33 : decode cX6_reachNow 33 = .ok (.iinc 5 1, 3) := by decide +kernel
theorem dX6_reachNow_36 : decode cX6_reachNow 36 = .ok (.goto (-30), 3) := by decide +kernel
theorem dX6_reachNow_39 : decode cX6_reachNow 39 = .ok (.iload 4, 2) := by decide +kernel
theorem dX6_reachNow_41 : decode cX6_reachNow 41 = .ok (.ireturn, 1) := by decide +kernel
theorem dX6_reach_0 : decode cX6_reach 0 = .ok (.aload_n 0, 1) := by decide +kernel
theorem dX6_reach_1 : decode cX6_reach 1 = .ok (.iconst 0, 1) := by decide +kernel
theorem dX6_reach_2 : decode cX6_reach 2 = .ok (.putfield 80, 3) := by decide +kernel
theorem dX6_reach_5 : decode cX6_reach 5 = .ok (.aload_n 0, 1) := by decide +kernel
theorem dX6_reach_6 : decode cX6_reach 6 = .ok (.iload_n 1, 1) := by decide +kernel
theorem dX6_reach_7 : decode cX6_reach 7 = .ok (.iload_n 2, 1) := by decide +kernel
theorem dX6_reach_8 : decode cX6_reach 8 = .ok (.invokevirtual 102, 3) := by decide +kernel
theorem dX6_reach_11 : decode cX6_reach 11 = .ok (.ifCond .ne 9, 3) := by decide +kernel
theorem dX6_reach_14 : decode cX6_reach 14 = .ok (.aload_n 0, 1) := by decide +kernel
theorem dX6_reach_15 : decode cX6_reach 15 = .ok (.iconst 1, 1) := by decide +kernel
theorem dX6_reach_16 : decode cX6_reach 16 = .ok (.invokevirtual 95, 3) := by decide +kernel
theorem dX6_reach_19 : decode cX6_reach 19 = .ok (.ireturn, 1) := by decide +kernel
theorem dX6_reach_20 : decode cX6_reach 20 = .ok (.iload_n 3, 1) := by decide +kernel
theorem dX6_reach_21 : decode cX6_reach 21 = .ok (.iconst 1, 1) := by decide +kernel
theorem dX6_reach_22 : decode cX6_reach 22 = .ok (.sipush 200, 3) := by decide +kernel
theorem dX6_reach_25 : decode cX6_reach 25 = .ok (.invokestatic 87, 3) := by decide +kernel
theorem dX6_reach_28 : decode cX6_reach 28 = .ok (.ifCond .eq 13, 3) := by decide +kernel
theorem dX6_reach_31 : decode cX6_reach 31 = .ok (.aload_n 0, 1) := by decide +kernel
theorem dX6_reach_32 : decode cX6_reach 32 = .ok (.iload_n 1, 1) := by decide +kernel
theorem dX6_reach_33 : decode cX6_reach 33 = .ok (.iload_n 2, 1) := by decide +kernel
theorem dX6_reach_34 : decode cX6_reach 34 = .ok (.iload_n 3, 1) := by decide +kernel
theorem dX6_reach_35 : decode cX6_reach 35 = .ok (.invokevirtual 206, 3) := by decide +kernel
theorem dX6_reach_38 : decode cX6_reach 38 = .ok (.goto 8, 3) := by decide +kernel
theorem dX6_reach_41 : decode cX6_reach 41 = .ok (.aload_n 0, 1) := by decide +kernel
theorem dX6_reach_42 : decode cX6_reach 42 = .ok (.iconst 2, 1) := by decide +kernel
theorem dX6_reach_43 : decode cX6_reach 43 = .ok (.invokevirtual 95, 3) := by decide +kernel
theorem dX6_reach_46 : decode cX6_reach 46 = .ok (.ireturn, 1) := by decide +kernel
theorem dX6_isSplit_0 : decode cX6_isSplit 0 = .ok (.aload_n 0, 1) := by decide +kernel
theorem dX6_isSplit_1 : decode cX6_isSplit 1 = .ok (.iload_n 1, 1) := by decide +kernel
theorem dX6_isSplit_2 : decode cX6_isSplit 2 = .ok (.iload_n 2, 1) := by decide +kernel
theorem dX6_isSplit_3 : decode cX6_isSplit 3 = .ok (.invokevirtual 203, 3) := by decide +kernel
theorem dX6_isSplit_6 : decode cX6_isSplit 6 = .ok (.pop, 1) := by decide +kernel
theorem dX6_isSplit_7 : decode cX6_isSplit 7 = .ok (.aload_n 0, 1) := by decide +kernel
theorem dX6_isSplit_8 : decode cX6_isSplit 8 = .ok (.getfield 165, 3) := by decide +kernel
theorem dX6_isSplit_11 : decode cX6_isSplit 11 = .ok (.bipush 8, 2) := by decide +kernel
theorem dX6_isSplit_13 : decode cX6_isSplit 13 = .ok (.if_icmp .ne 7, 3) := by decide +kernel
theorem dX6_isSplit_16 : decode cX6_isSplit 16 = .ok (.iconst 1, 1) := by decide +kernel
theorem dX6_isSplit_17 : decode cX6_isSplit 17 = .ok (.goto 4, 3) := by decide +kernel
theorem dX6_isSplit_20 : decode cX6_isSplit 20 = .ok (.iconst 0, 1) := by decide +kernel
theorem dX6_isSplit_21 : decode cX6_isSplit 21 = .ok (.ireturn, 1) := by decide +kernel
theorem dX6_both_0 : decode cX6_both 0 = .ok (.aload_n 0, 1) := by decide +kernel
theorem dX6_both_1 : decode cX6_both 1 = .ok (.iconst 0, 1) := by decide +kernel
theorem dX6_both_2 : decode cX6_both 2 = .ok (.putfield 80, 3) := by decide +kernel
theorem dX6_both_5 : decode cX6_both 5 = .ok (.aload_n 0, 1) := by decide +kernel
theorem dX6_both_6 : decode cX6_both 6 = .ok (.iload_n 1, 1) := by decide +kernel
theorem dX6_both_7 : decode cX6_both 7 = .ok (.invokevirtual 91, 3) := by decide +kernel
theorem dX6_both_10 : decode cX6_both 10 = .ok (.ifCond .eq 11, 3) := by decide +kernel
theorem dX6_both_13 : decode cX6_both 13 = .ok (.aload_n 0, 1) := by decide +kernel
theorem dX6_both_14 : decode cX6_both 14 = .ok (.iload_n 2, 1) := by decide +kernel
theorem dX6_both_15 : decode cX6_both 15 = .ok (.invokevirtual 91, 3) := by decide +kernel
theorem dX6_both_18 : decode cX6_both 18 = .ok (.ifCond .ne 9, 3) := by decide +kernel
theorem dX6_both_21 : decode cX6_both 21 = .ok (.aload_n 0, 1) := by decide +kernel
theorem dX6_both_22 : decode cX6_both 22 = .ok (.iconst 1, 1) := by decide +kernel
theorem dX6_both_23 : decode cX6_both 23 = .ok (.invokevirtual 95, 3) := by decide +kernel
theorem dX6_both_26 : decode cX6_both 26 = .ok (.ireturn, 1) := by decide +kernel
theorem dX6_both_27 : decode cX6_both 27 = .ok (.iload_n 3, 1) := by decide +kernel
theorem dX6_both_28 : decode cX6_both 28 = .ok (.iconst 1, 1) := by decide +kernel
theorem dX6_both_29 : decode cX6_both 29 = .ok (.sipush 200, 3) := by decide +kernel
theorem dX6_both_32 : decode cX6_both 32 = .ok (.invokestatic 87, 3) := by decide +kernel
theorem dX6_both_35 : decode cX6_both 35 = .ok (.ifCond .ne 9, 3) := by decide +kernel
theorem dX6_both_38 : decode cX6_both 38 = .ok (.aload_n 0, 1) := by decide +kernel
theorem dX6_both_39 : decode cX6_both 39 = .ok (.iconst 2, 1) := by decide +kernel
theorem dX6_both_40 : decode cX6_both 40 = .ok (.invokevirtual 95, 3) := by decide +kernel
theorem dX6_both_43 : decode cX6_both 43 = .ok (.ireturn, 1) := by decide +kernel
theorem dX6_both_44 : decode cX6_both 44 = .ok (.iconst 0, 1) := by decide +kernel
theorem dX6_both_45 : decode cX6_both 45 = .ok (.istore 4, 2) := by decide +kernel
theorem dX6_both_47 : decode cX6_both 47 = .ok (.iconst 0, 1) := by decide +kernel
theorem dX6_both_48 : decode cX6_both 48 = .ok (.istore 5, 2) := by decide +kernel
theorem dX6_both_50 : decode cX6_both 50 = .ok (.iload 5, 2) := by decide +kernel
theorem dX6_both_52 : decode cX6_both 52 = .ok (.iload_n 3, 1) := by decide +kernel
theorem dX6_both_53 : decode cX6_both 53 = .ok (.if_icmp .ge 39, 3) := by decide +kernel
theorem dX6_both_56 : decode cX6_both 56 = .ok (.iload 4, 2) := by decide +kernel
theorem dX6_both_58 : decode cX6_both 58 = .ok (.aload_n 0, 1) := by decide +kernel
theorem dX6_both_59 : decode cX6_both 59 = .ok (.iload_n 1, 1) := by decide +kernel
theorem dX6_both_60 : decode cX6_both 60 = .ok (.iload 5, 2) := by decide +kernel
theorem dX6_both_62 : decode cX6_both 62 = .ok (.invokevirtual 209, 3) := by decide +kernel
theorem dX6_both_65 : decode cX6_both 65 = .ok (.ifCond .eq 17, 3) := by decide +kernel
theorem dX6_both_68 : decode cX6_both 68 = .ok (.aload_n 0, 1) := by decide +kernel
theorem dX6_both_69 : decode cX6_both 69 = .ok (.iload_n 2, 1) := by decide +kernel
theorem dX6_both_70 : decode cX6_both 70 = .ok (.iload 5, 2) := by decide +kernel
theorem dX6_both_72 : decode cX6_both 72 = .ok (.invokevirtual 209, 3) := by decide +kernel
theorem dX6_both_75 : decode cX6_both 75 = .ok (.ifCond .eq 7, 3) := by decide +kernel
theorem dX6_both_78 : decode cX6_both 78 = .ok (.iconst 1, 1) := by decide +kernel
theorem dX6_both_79 : decode cX6_both 79 = .ok (.goto 4, 3) := by decide +kernel
theorem dX6_both_82 : decode cX6_both 82 = .ok (.iconst 0, 1) := by decide +kernel
theorem dX6_both_83 : decode cX6_both 83 = .ok (.iadd, 1) := by decide +kernel
theorem dX6_both_84 : decode cX6_both 84 = .ok (.istore 4, 2) := by decide +kernel
theorem dX6_both_86 : decode cX6_both 86 = .ok (.iinc 5 1, 3) := by decide +kernel
theorem dX6_both_89 : decode cX6_both 89 = .ok (.goto (-39), 3) := by decide +kernel
theorem dX6_both_92 : decode cX6_both 92 = .ok (.iload 4, 2) := by decide +kernel
theorem dX6_both_94 : decode cX6_both 94 = .ok (.ireturn, 1) := by decide +kernel
theorem dX6_wouldChange_0 : decode cX6_wouldChange 0 = .ok (.aload_n 0, 1) := by decide +kernel
theorem dX6_wouldChange_1 : decode cX6_wouldChange 1 = .ok (.iconst 0, 1) := by decide +kernel
theorem dX6_wouldChange_2 : decode cX6_wouldChange 2 = .ok (.putfield 80, 3) := by decide +kernel
theorem dX6_wouldChange_5 : decode cX6_wouldChange 5 = .ok (.aload_n 0, 1) := by decide +kernel
theorem dX6_wouldChange_6 : decode cX6_wouldChange 6 = .ok (.iload_n 1, 1) := by decide +kernel
theorem dX6_wouldChange_7 : decode cX6_wouldChange 7 = .ok (.invokevirtual 91, 3) := by decide +kernel
theorem dX6_wouldChange_10 : decode cX6_wouldChange 10 = .ok (.ifCond .ne 9, 3) := by decide +kernel
theorem dX6_wouldChange_13 : decode cX6_wouldChange 13 = .ok (.aload_n 0, 1) := by decide +kernel
theorem dX6_wouldChange_14 : decode cX6_wouldChange 14 = .ok (.iconst 1, 1) := by decide +kernel
theorem dX6_wouldChange_15 : decode cX6_wouldChange 15 = .ok (.invokevirtual 95, 3) := by decide +kernel
theorem dX6_wouldChange_18 : decode cX6_wouldChange 18 = .ok (.ireturn, 1) := by decide +kernel
theorem dX6_wouldChange_19 : decode cX6_wouldChange 19 = .ok (.iload_n 2, 1) := by decide +kernel
theorem dX6_wouldChange_20 : decode cX6_wouldChange 20 = .ok (.iconst 0, 1) := by decide +kernel
theorem dX6_wouldChange_21 : decode cX6_wouldChange 21 = .ok (.sipush 1000, 3) := by decide +kernel
theorem dX6_wouldChange_24 : decode cX6_wouldChange 24 = .ok (.invokestatic 87, 3) := by decide +kernel
theorem dX6_wouldChange_27 : decode cX6_wouldChange 27 = .ok (.ifCond .eq 14, 3) := by decide +kernel
theorem dX6_wouldChange_30 : decode cX6_wouldChange 30 = .ok (.iload_n 3, 1) := by decide +kernel
theorem dX6_wouldChange_31 : decode cX6_wouldChange 31 = .ok (.iconst 1, 1) := by decide +kernel
theorem dX6_wouldChange_32 : decode cX6_wouldChange 32 = .ok (.sipush 200, 3) := by decide +kernel
theorem dX6_wouldChange_35 : decode cX6_wouldChange 35 = .ok (.invokestatic 87, 3) := by decide +kernel
theorem dX6_wouldChange_38 : decode cX6_wouldChange 38 = .ok (.ifCond .ne 9, 3) := by decide +kernel
theorem dX6_wouldChange_41 : decode cX6_wouldChange 41 = .ok (.aload_n 0, 1) := by decide +kernel
theorem dX6_wouldChange_42 : decode cX6_wouldChange 42 = .ok (.iconst 2, 1) := by decide +kernel
theorem dX6_wouldChange_43 : decode cX6_wouldChange 43 = .ok (.invokevirtual 95, 3) := by decide +kernel
theorem dX6_wouldChange_46 : decode cX6_wouldChange 46 = .ok (.ireturn, 1) := by decide +kernel
theorem dX6_wouldChange_47 : decode cX6_wouldChange 47 = .ok (.iconst 0, 1) := by decide +kernel
theorem dX6_wouldChange_48 : decode cX6_wouldChange 48 = .ok (.istore 4, 2) := by decide +kernel
theorem dX6_wouldChange_50 : decode cX6_wouldChange 50 = .ok (.iconst 0, 1) := by decide +kernel
theorem dX6_wouldChange_51 : decode cX6_wouldChange 51 = .ok (.istore 5, 2) := by decide +kernel
theorem dX6_wouldChange_53 : decode cX6_wouldChange 53 = .ok (.iload 5, 2) := by decide +kernel
theorem dX6_wouldChange_55 : decode cX6_wouldChange 55 = .ok (.iload_n 3, 1) := by decide +kernel
theorem dX6_wouldChange_56 : decode cX6_wouldChange 56 = .ok (.if_icmp .ge 50, 3) := by decide +kernel
theorem dX6_wouldChange_59 : decode cX6_wouldChange 59 = .ok (.iload 4, 2) := by decide +kernel
theorem dX6_wouldChange_61 : decode cX6_wouldChange 61 = .ok (.aload_n 0, 1) := by decide +kernel
theorem dX6_wouldChange_62 : decode cX6_wouldChange 62 = .ok (.iload_n 1, 1) := by decide +kernel
theorem dX6_wouldChange_63 : decode cX6_wouldChange 63 = .ok (.iload 5, 2) := by decide +kernel
theorem dX6_wouldChange_65 : decode cX6_wouldChange 65 = .ok (.iload 5, 2) := by decide +kernel
theorem dX6_wouldChange_67 : decode cX6_wouldChange 67 = .ok (.bipush 10, 2) := by decide +kernel
theorem dX6_wouldChange_69 : decode cX6_wouldChange 69 = .ok (.irem, 1) := by decide +kernel
theorem dX6_wouldChange_70 : decode cX6_wouldChange 70 = .ok (.iload 5, 2) := by decide +kernel
theorem dX6_wouldChange_72 : decode cX6_wouldChange 72 = .ok (.bipush 10, 2) := by decide +kernel
theorem dX6_wouldChange_74 : decode cX6_wouldChange 74 = .ok (.idiv, 1) := by decide +kernel
theorem dX6_wouldChange_75 : decode cX6_wouldChange 75 = .ok (.bipush 10, 2) := by decide +kernel
theorem dX6_wouldChange_77 : decode cX6_wouldChange 77 = .ok (.irem, 1) := by decide +kernel
theorem dX6_wouldChange_78 : decode cX6_wouldChange 78 = .ok (.iload_n 2, 1) := by decide +kernel
theorem dX6_wouldChange_79 : decode cX6_wouldChange 79 = .ok (.invokevirtual 171, 3) := by decide +kernel
theorem dX6_wouldChange_82 : decode cX6_wouldChange 82 = .ok (.aload_n 0, 1) := by decide +kernel
theorem dX6_wouldChange_83 : decode cX6_wouldChange 83 = .ok (.iload_n 1, 1) := by decide +kernel
theorem dX6_wouldChange_84 : decode cX6_wouldChange 84 = .ok (.iload 5, 2) := by decide +kernel
theorem dX6_wouldChange_86 : decode cX6_wouldChange 86 = .ok (.invokevirtual 203, 3) := by decide +kernel
theorem dX6_wouldChange_89 : decode cX6_wouldChange 89 = .ok (.if_icmp .ne 7, 3) := by decide +kernel
theorem dX6_wouldChange_92 : decode cX6_wouldChange 92 = .ok (.iconst 0, 1) := by decide +kernel
theorem dX6_wouldChange_93 : decode cX6_wouldChange 93 = .ok (.goto 4, 3) := by decide +kernel
theorem dX6_wouldChange_96 : decode cX6_wouldChange 96 = .ok (.iconst 1, 1) := by decide +kernel
theorem dX6_wouldChange_97 : decode cX6_wouldChange 97 = .ok (.iadd, 1) := by decide +kernel
theorem dX6_wouldChange_98 : decode cX6_wouldChange 98 = .ok (.istore 4, 2) := by decide +kernel
theorem dX6_wouldChange_100 : decode cX6_wouldChange 100 = .ok (.iinc 5 1, 3) := by decide +kernel
theorem dX6_wouldChange_103 : decode cX6_wouldChange 103 = .ok (.goto (-50), 3) := by decide +kernel
theorem dX6_wouldChange_106 : decode cX6_wouldChange 106 = .ok (.iload 4, 2) := by decide +kernel
theorem dX6_wouldChange_108 : decode cX6_wouldChange 108 = .ok (.ireturn, 1) := by decide +kernel
theorem dX6_all_0 : decode cX6_all 0 = .ok (.iconst 0, 1) := by decide +kernel
theorem dX6_all_1 : decode cX6_all 1 = .ok (.istore_n 2, 1) := by decide +kernel
theorem dX6_all_2 : decode cX6_all 2 = .ok (.iconst 0, 1) := by decide +kernel
theorem dX6_all_3 : decode cX6_all 3 = .ok (.istore_n 3, 1) := by decide +kernel
theorem dX6_all_4 : decode cX6_all 4 = .ok (.iload_n 3, 1) := by decide +kernel
theorem dX6_all_5 : decode cX6_all 5 = .ok (.aload_n 0, 1) := by decide +kernel
theorem dX6_all_6 : decode cX6_all 6 = .ok (.getfield 84, 3) := by decide +kernel
theorem dX6_all_9 : decode cX6_all 9 = .ok (.if_icmp .ge 20, 3) := by decide +kernel
theorem dX6_all_12 : decode cX6_all 12 = .ok (.iload_n 2, 1) := by decide +kernel
theorem dX6_all_13 : decode cX6_all 13 = .ok (.iconst 4, 1) := by decide +kernel
theorem dX6_all_14 : decode cX6_all 14 = .ok (.imul, 1) := by decide +kernel
theorem dX6_all_15 : decode cX6_all 15 = .ok (.aload_n 0, 1) := by decide +kernel
theorem dX6_all_16 : decode cX6_all 16 = .ok (.iload_n 3, 1) := by decide +kernel
theorem dX6_all_17 : decode cX6_all 17 = .ok (.iload_n 1, 1) := by decide +kernel
theorem dX6_all_18 : decode cX6_all 18 = .ok (.invokevirtual 203, 3) := by decide +kernel
theorem dX6_all_21 : decode cX6_all 21 = .ok (.iadd, 1) := by decide +kernel
theorem dX6_all_22 : decode cX6_all 22 = .ok (.istore_n 2, 1) := by decide +kernel
theorem dX6_all_23 : decode cX6_all 23 = .ok (.iinc 3 1, 3) := by decide +kernel
theorem dX6_all_26 : decode cX6_all 26 = .ok (.goto (-22), 3) := by decide +kernel
theorem dX6_all_29 : decode cX6_all 29 = .ok (.iload_n 2, 1) := by decide +kernel
theorem dX6_all_30 : decode cX6_all 30 = .ok (.ireturn, 1) := by decide +kernel
theorem dX6_wouldTurn_0 : decode cX6_wouldTurn 0 = .ok (.aload_n 0, 1) := by decide +kernel
theorem dX6_wouldTurn_1 : decode cX6_wouldTurn 1 = .ok (.iconst 0, 1) := by decide +kernel
theorem dX6_wouldTurn_2 : decode cX6_wouldTurn 2 = .ok (.putfield 80, 3) := by decide +kernel
theorem dX6_wouldTurn_5 : decode cX6_wouldTurn 5 = .ok (.aload_n 0, 1) := by decide +kernel
theorem dX6_wouldTurn_6 : decode cX6_wouldTurn 6 = .ok (.iload_n 1, 1) := by decide +kernel
theorem dX6_wouldTurn_7 : decode cX6_wouldTurn 7 = .ok (.invokevirtual 91, 3) := by decide +kernel
theorem dX6_wouldTurn_10 : decode cX6_wouldTurn 10 = .ok (.ifCond .ne 9, 3) := by decide +kernel
theorem dX6_wouldTurn_13 : decode cX6_wouldTurn 13 = .ok (.aload_n 0, 1) := by decide +kernel
theorem dX6_wouldTurn_14 : decode cX6_wouldTurn 14 = .ok (.iconst 1, 1) := by decide +kernel
theorem dX6_wouldTurn_15 : decode cX6_wouldTurn 15 = .ok (.invokevirtual 95, 3) := by decide +kernel
theorem dX6_wouldTurn_18 : decode cX6_wouldTurn 18 = .ok (.ireturn, 1) := by decide +kernel
theorem dX6_wouldTurn_19 : decode cX6_wouldTurn 19 = .ok (.iload_n 2, 1) := by decide +kernel
theorem dX6_wouldTurn_20 : decode cX6_wouldTurn 20 = .ok (.iconst 1, 1) := by decide +kernel
theorem dX6_wouldTurn_21 : decode cX6_wouldTurn 21 = .ok (.sipush 200, 3) := by decide +kernel
theorem dX6_wouldTurn_24 : decode cX6_wouldTurn 24 = .ok (.invokestatic 87, 3) := by decide +kernel
theorem dX6_wouldTurn_27 : decode cX6_wouldTurn 27 = .ok (.ifCond .ne 9, 3) := by decide +kernel
theorem dX6_wouldTurn_30 : decode cX6_wouldTurn 30 = .ok (.aload_n 0, 1) := by decide +kernel
theorem dX6_wouldTurn_31 : decode cX6_wouldTurn 31 = .ok (.iconst 2, 1) := by decide +kernel
theorem dX6_wouldTurn_32 : decode cX6_wouldTurn 32 = .ok (.invokevirtual 95, 3) := by decide +kernel
theorem dX6_wouldTurn_35 : decode cX6_wouldTurn 35 = .ok (.ireturn, 1) := by decide +kernel
theorem dX6_wouldTurn_36 : decode cX6_wouldTurn 36 = .ok (.iload_n 2, 1) := by decide +kernel
theorem dX6_wouldTurn_37 : decode cX6_wouldTurn 37 = .ok (.newarray .int, 2) := by decide +kernel
theorem dX6_wouldTurn_39 : decode cX6_wouldTurn 39 = .ok (.astore_n 3, 1) := by decide +kernel
theorem dX6_wouldTurn_40 : decode cX6_wouldTurn 40 = .ok (.iconst 0, 1) := by decide +kernel
theorem dX6_wouldTurn_41 : decode cX6_wouldTurn 41 = .ok (.istore 4, 2) := by decide +kernel
theorem dX6_wouldTurn_43 : decode cX6_wouldTurn 43 = .ok (.iload 4, 2) := by decide +kernel
theorem dX6_wouldTurn_45 : decode cX6_wouldTurn 45 = .ok (.iload_n 2, 1) := by decide +kernel
theorem dX6_wouldTurn_46 : decode cX6_wouldTurn 46 = .ok (.if_icmp .ge 19, 3) := by decide +kernel
theorem dX6_wouldTurn_49 : decode cX6_wouldTurn 49 = .ok (.aload_n 3, 1) := by decide +kernel
theorem dX6_wouldTurn_50 : decode cX6_wouldTurn 50 = .ok (.iload 4, 2) := by decide +kernel
theorem dX6_wouldTurn_52 : decode cX6_wouldTurn 52 = .ok (.aload_n 0, 1) := by decide +kernel
theorem dX6_wouldTurn_53 : decode cX6_wouldTurn 53 = .ok (.iload 4, 2) := by decide +kernel
theorem dX6_wouldTurn_55 : decode cX6_wouldTurn 55 = .ok (.invokevirtual 212, 3) := by decide +kernel
theorem dX6_wouldTurn_58 : decode cX6_wouldTurn 58 = .ok (.iastore, 1) := by decide +kernel
theorem dX6_wouldTurn_59 : decode cX6_wouldTurn 59 = .ok (.iinc 4 1, 3) := by decide +kernel
theorem dX6_wouldTurn_62 : decode cX6_wouldTurn 62 = .ok (.goto (-19), 3) := by decide +kernel
theorem dX6_wouldTurn_65 : decode cX6_wouldTurn 65 = .ok (.aload_n 0, 1) := by decide +kernel
theorem dX6_wouldTurn_66 : decode cX6_wouldTurn 66 = .ok (.getfield 32, 3) := by decide +kernel
theorem dX6_wouldTurn_69 : decode cX6_wouldTurn 69 = .ok (.iload_n 1, 1) := by decide +kernel
theorem dX6_wouldTurn_70 : decode cX6_wouldTurn 70 = .ok (.aload_n 0, 1) := by decide +kernel
theorem dX6_wouldTurn_71 : decode cX6_wouldTurn 71 = .ok (.getfield 32, 3) := by decide +kernel
theorem dX6_wouldTurn_74 : decode cX6_wouldTurn 74 = .ok (.iload_n 1, 1) := by decide +kernel
theorem dX6_wouldTurn_75 : decode cX6_wouldTurn 75 = .ok (.baload, 1) := by decide +kernel
theorem dX6_wouldTurn_76 : decode cX6_wouldTurn 76 = .ok (.ifCond .ne 7, 3) := by decide +kernel
theorem dX6_wouldTurn_79 : decode cX6_wouldTurn 79 = .ok (.iconst 1, 1) := by decide +kernel
theorem dX6_wouldTurn_80 : decode cX6_wouldTurn 80 = .ok (.goto 4, 3) := by decide +kernel
theorem dX6_wouldTurn_83 : decode cX6_wouldTurn 83 = .ok (.iconst 0, 1) := by decide +kernel
theorem dX6_wouldTurn_84 : decode cX6_wouldTurn 84 = .ok (.bastore, 1) := by decide +kernel
theorem dX6_wouldTurn_85 : decode cX6_wouldTurn 85 = .ok (.iconst 0, 1) := by decide +kernel
theorem dX6_wouldTurn_86 : decode cX6_wouldTurn 86 = .ok (.istore 4, 2) := by decide +kernel
theorem dX6_wouldTurn_88 : decode cX6_wouldTurn 88 = .ok (.iconst 0, 1) := by decide +kernel
theorem dX6_wouldTurn_89 : decode cX6_wouldTurn 89 = .ok (.istore 5, 2) := by decide +kernel
theorem dX6_wouldTurn_91 : decode cX6_wouldTurn 91 = .ok (.iload 5, 2) := by decide +kernel
theorem dX6_wouldTurn_93 : decode cX6_wouldTurn 93 = .ok (.iload_n 2, 1) := by decide +kernel
theorem dX6_wouldTurn_94 : decode cX6_wouldTurn 94 = .ok (.if_icmp .ge 32, 3) := by decide +kernel
theorem dX6_wouldTurn_97 : decode cX6_wouldTurn 97 = .ok (.iload 4, 2) := by decide +kernel
theorem dX6_wouldTurn_99 : decode cX6_wouldTurn 99 = .ok (.aload_n 0, 1) := by decide +kernel
theorem dX6_wouldTurn_100 : decode cX6_wouldTurn 100 = .ok (.iload 5, 2) := by decide +kernel
theorem dX6_wouldTurn_102 : decode cX6_wouldTurn 102 = .ok (.invokevirtual 212, 3) := by decide +kernel
theorem dX6_wouldTurn_105 : decode cX6_wouldTurn 105 = .ok (.aload_n 3, 1) := by decide +kernel
theorem dX6_wouldTurn_106 : decode cX6_wouldTurn 106 = .ok (.iload 5, 2) := by decide +kernel
theorem dX6_wouldTurn_108 : decode cX6_wouldTurn 108 = .ok (.iaload, 1) := by decide +kernel
theorem dX6_wouldTurn_109 : decode cX6_wouldTurn 109 = .ok (.if_icmp .ne 7, 3) := by decide +kernel
theorem dX6_wouldTurn_112 : decode cX6_wouldTurn 112 = .ok (.iconst 0, 1) := by decide +kernel
theorem dX6_wouldTurn_113 : decode cX6_wouldTurn 113 = .ok (.goto 4, 3) := by decide +kernel
theorem dX6_wouldTurn_116 : decode cX6_wouldTurn 116 = .ok (.iconst 1, 1) := by decide +kernel
theorem dX6_wouldTurn_117 : decode cX6_wouldTurn 117 = .ok (.iadd, 1) := by decide +kernel
theorem dX6_wouldTurn_118 : decode cX6_wouldTurn 118 = .ok (.istore 4, 2) := by decide +kernel
theorem dX6_wouldTurn_120 : decode cX6_wouldTurn 120 = .ok (.iinc 5 1, 3) := by decide +kernel
theorem dX6_wouldTurn_123 : decode cX6_wouldTurn 123 = .ok (.goto (-32), 3) := by decide +kernel
theorem dX6_wouldTurn_126 : decode cX6_wouldTurn 126 = .ok (.aload_n 0, 1) := by decide +kernel
theorem dX6_wouldTurn_127 : decode cX6_wouldTurn 127 = .ok (.getfield 32, 3) := by decide +kernel
theorem dX6_wouldTurn_130 : decode cX6_wouldTurn 130 = .ok (.iload_n 1, 1) := by decide +kernel
theorem dX6_wouldTurn_131 : decode cX6_wouldTurn 131 = .ok (.aload_n 0, 1) := by decide +kernel
theorem dX6_wouldTurn_132 : decode cX6_wouldTurn 132 = .ok (.getfield 32, 3) := by decide +kernel
theorem dX6_wouldTurn_135 : decode cX6_wouldTurn 135 = .ok (.iload_n 1, 1) := by decide +kernel
theorem dX6_wouldTurn_136 : decode cX6_wouldTurn 136 = .ok (.baload, 1) := by decide +kernel
theorem dX6_wouldTurn_137 : decode cX6_wouldTurn 137 = .ok (.ifCond .ne 7, 3) := by decide +kernel
theorem dX6_wouldTurn_140 : decode cX6_wouldTurn 140 = .ok (.iconst 1, 1) := by decide +kernel
theorem dX6_wouldTurn_141 : decode cX6_wouldTurn 141 = .ok (.goto 4, 3) := by decide +kernel
theorem dX6_wouldTurn_144 : decode cX6_wouldTurn 144 = .ok (.iconst 0, 1) := by decide +kernel
theorem dX6_wouldTurn_145 : decode cX6_wouldTurn 145 = .ok (.bastore, 1) := by decide +kernel
theorem dX6_wouldTurn_146 : decode cX6_wouldTurn 146 = .ok (.iload 4, 2) := by decide +kernel
theorem dX6_wouldTurn_148 : decode cX6_wouldTurn 148 = .ok (.ireturn, 1) := by decide +kernel
theorem dX6_shareIn_0 : decode cX6_shareIn 0 = .ok (.aload_n 0, 1) := by decide +kernel
theorem dX6_shareIn_1 : decode cX6_shareIn 1 = .ok (.iconst 0, 1) := by decide +kernel
theorem dX6_shareIn_2 : decode cX6_shareIn 2 = .ok (.putfield 80, 3) := by decide +kernel
theorem dX6_shareIn_5 : decode cX6_shareIn 5 = .ok (.aload_n 0, 1) := by decide +kernel
theorem dX6_shareIn_6 : decode cX6_shareIn 6 = .ok (.iload_n 1, 1) := by decide +kernel
theorem dX6_shareIn_7 : decode cX6_shareIn 7 = .ok (.invokevirtual 91, 3) := by decide +kernel
theorem dX6_shareIn_10 : decode cX6_shareIn 10 = .ok (.ifCond .ne 9, 3) := by decide +kernel
theorem dX6_shareIn_13 : decode cX6_shareIn 13 = .ok (.aload_n 0, 1) := by decide +kernel
theorem dX6_shareIn_14 : decode cX6_shareIn 14 = .ok (.iconst 1, 1) := by decide +kernel
theorem dX6_shareIn_15 : decode cX6_shareIn 15 = .ok (.invokevirtual 95, 3) := by decide +kernel
theorem dX6_shareIn_18 : decode cX6_shareIn 18 = .ok (.ireturn, 1) := by decide +kernel
theorem dX6_shareIn_19 : decode cX6_shareIn 19 = .ok (.iload_n 2, 1) := by decide +kernel
theorem dX6_shareIn_20 : decode cX6_shareIn 20 = .ok (.iconst 0, 1) := by decide +kernel
theorem dX6_shareIn_21 : decode cX6_shareIn 21 = .ok (.sipush 1000, 3) := by decide +kernel
theorem dX6_shareIn_24 : decode cX6_shareIn 24 = .ok (.invokestatic 87, 3) := by decide +kernel
theorem dX6_shareIn_27 : decode cX6_shareIn 27 = .ok (.ifCond .eq 12, 3) := by decide +kernel
theorem dX6_shareIn_30 : decode cX6_shareIn 30 = .ok (.aload_n 0, 1) := by decide +kernel
theorem dX6_shareIn_31 : decode cX6_shareIn 31 = .ok (.iload_n 1, 1) := by decide +kernel
theorem dX6_shareIn_32 : decode cX6_shareIn 32 = .ok (.iload_n 2, 1) := by decide +kernel
theorem dX6_shareIn_33 : decode cX6_shareIn 33 = .ok (.invokevirtual 117, 3) := by decide +kernel
theorem dX6_shareIn_36 : decode cX6_shareIn 36 = .ok (.goto 8, 3) := by decide +kernel
theorem dX6_shareIn_39 : decode cX6_shareIn 39 = .ok (.aload_n 0, 1) := by decide +kernel
theorem dX6_shareIn_40 : decode cX6_shareIn 40 = .ok (.iconst 2, 1) := by decide +kernel
theorem dX6_shareIn_41 : decode cX6_shareIn 41 = .ok (.invokevirtual 95, 3) := by decide +kernel
theorem dX6_shareIn_44 : decode cX6_shareIn 44 = .ok (.ireturn, 1) := by decide +kernel
theorem dX6_digest_0 : decode cX6_digest 0 = .ok (.aload_n 0, 1) := by decide +kernel
theorem dX6_digest_1 : decode cX6_digest 1 = .ok (.iconst 0, 1) := by decide +kernel
theorem dX6_digest_2 : decode cX6_digest 2 = .ok (.putfield 80, 3) := by decide +kernel
theorem dX6_digest_5 : decode cX6_digest 5 = .ok (.ldc2_w 215, 3) := by decide +kernel
theorem dX6_digest_8 : decode cX6_digest 8 = .ok (.aload_n 0, 1) := by decide +kernel
theorem dX6_digest_9 : decode cX6_digest 9 = .ok (.getfield 84, 3) := by decide +kernel
theorem dX6_digest_12 : decode cX6_digest 12 = .ok (.i2l, 1) := by decide +kernel
theorem dX6_digest_13 : decode cX6_digest 13 = .ok (.ladd, 1) := by decide +kernel
theorem dX6_digest_14 : decode cX6_digest 14 = .ok (.ldc2_w 217, 3) := by decide +kernel
theorem dX6_digest_17 : decode cX6_digest 17 = .ok (.lmul, 1) := by decide +kernel
theorem dX6_digest_18 : decode cX6_digest 18 = .ok (.aload_n 0, 1) := by decide +kernel
theorem dX6_digest_19 : decode cX6_digest 19 = .ok (.getfield 151, 3) := by decide +kernel
theorem dX6_digest_22 : decode cX6_digest 22 = .ok (.i2l, 1) := by decide +kernel
theorem dX6_digest_23 : decode cX6_digest 23 = .ok (.ladd, 1) := by decide +kernel
theorem dX6_digest_24 : decode cX6_digest 24 = .ok (.lstore_n 1, 1) := by decide +kernel
theorem dX6_digest_25 : decode cX6_digest 25 = .ok (.iconst 0, 1) := by decide +kernel
theorem dX6_digest_26 : decode cX6_digest 26 = .ok (.istore_n 3, 1) := by decide +kernel
theorem dX6_digest_27 : decode cX6_digest 27 = .ok (.iload_n 3, 1) := by decide +kernel
theorem dX6_digest_28 : decode cX6_digest 28 = .ok (.iconst 3, 1) := by decide +kernel
theorem dX6_digest_29 : decode cX6_digest 29 = .ok (.if_icmp .ge 22, 3) := by decide +kernel
theorem dX6_digest_32 : decode cX6_digest 32 = .ok (.lload_n 1, 1) := by decide +kernel
theorem dX6_digest_33 : decode cX6_digest 33 = .ok (.ldc2_w 217, 3) := by decide +kernel
theorem dX6_digest_36 : decode cX6_digest 36 = .ok (.lmul, 1) := by decide +kernel
theorem dX6_digest_37 : decode cX6_digest 37 = .ok (.aload_n 0, 1) := by decide +kernel
theorem dX6_digest_38 : decode cX6_digest 38 = .ok (.iload_n 3, 1) := by decide +kernel
theorem dX6_digest_39 : decode cX6_digest 39 = .ok (.invokevirtual 142, 3) := by decide +kernel
theorem dX6_digest_42 : decode cX6_digest 42 = .ok (.i2l, 1) := by decide +kernel
theorem dX6_digest_43 : decode cX6_digest 43 = .ok (.ladd, 1) := by decide +kernel
theorem dX6_digest_44 : decode cX6_digest 44 = .ok (.lstore_n 1, 1) := by decide +kernel
theorem dX6_digest_45 : decode cX6_digest 45 = .ok (.iinc 3 1, 3) := by decide +kernel
theorem dX6_digest_48 : decode cX6_digest 48 = .ok (.goto (-21), 3) := by decide +kernel
theorem dX6_digest_51 : decode cX6_digest 51 = .ok (.iconst 0, 1) := by decide +kernel
theorem dX6_digest_52 : decode cX6_digest 52 = .ok (.istore_n 3, 1) := by decide +kernel
theorem dX6_digest_53 : decode cX6_digest 53 = .ok (.iload_n 3, 1) := by decide +kernel
theorem dX6_digest_54 : decode cX6_digest 54 = .ok (.aload_n 0, 1) := by decide +kernel
theorem dX6_digest_55 : decode cX6_digest 55 = .ok (.getfield 84, 3) := by decide +kernel
theorem dX6_digest_58 : decode cX6_digest 58 = .ok (.if_icmp .ge 152, 3) := by decide +kernel
theorem dX6_digest_61 : decode cX6_digest 61 = .ok (.lload_n 1, 1) := by decide +kernel
theorem dX6_digest_62 : decode cX6_digest 62 = .ok (.ldc2_w 217, 3) := by decide +kernel
theorem dX6_digest_65 : decode cX6_digest 65 = .ok (.lmul, 1) := by decide +kernel
theorem dX6_digest_66 : decode cX6_digest 66 = .ok (.aload_n 0, 1) := by decide +kernel
theorem dX6_digest_67 : decode cX6_digest 67 = .ok (.iload_n 3, 1) := by decide +kernel
theorem dX6_digest_68 : decode cX6_digest 68 = .ok (.iconst 0, 1) := by decide +kernel
theorem dX6_digest_69 : decode cX6_digest 69 = .ok (.invokevirtual 117, 3) := by decide +kernel
theorem dX6_digest_72 : decode cX6_digest 72 = .ok (.i2l, 1) := by decide +kernel
theorem dX6_digest_73 : decode cX6_digest 73 = .ok (.ladd, 1) := by decide +kernel
theorem dX6_digest_74 : decode cX6_digest 74 = .ok (.ldc2_w 217, 3) := by decide +kernel
theorem dX6_digest_77 : decode cX6_digest 77 = .ok (.lmul, 1) := by decide +kernel
theorem dX6_digest_78 : decode cX6_digest 78 = .ok (.aload_n 0, 1) := by decide +kernel
theorem dX6_digest_79 : decode cX6_digest 79 = .ok (.iload_n 3, 1) := by decide +kernel
theorem dX6_digest_80 : decode cX6_digest 80 = .ok (.invokevirtual 194, 3) := by decide +kernel
theorem dX6_digest_83 : decode cX6_digest 83 = .ok (.i2l, 1) := by decide +kernel
theorem dX6_digest_84 : decode cX6_digest 84 = .ok (.ladd, 1) := by decide +kernel
theorem dX6_digest_85 : decode cX6_digest 85 = .ok (.ldc2_w 217, 3) := by decide +kernel
theorem dX6_digest_88 : decode cX6_digest 88 = .ok (.lmul, 1) := by decide +kernel
theorem dX6_digest_89 : decode cX6_digest 89 = .ok (.aload_n 0, 1) := by decide +kernel
theorem dX6_digest_90 : decode cX6_digest 90 = .ok (.iload_n 3, 1) := by decide +kernel
theorem dX6_digest_91 : decode cX6_digest 91 = .ok (.invokevirtual 197, 3) := by decide +kernel
theorem dX6_digest_94 : decode cX6_digest 94 = .ok (.ifCond .eq 7, 3) := by decide +kernel
theorem dX6_digest_97 : decode cX6_digest 97 = .ok (.iconst 1, 1) := by decide +kernel
theorem dX6_digest_98 : decode cX6_digest 98 = .ok (.goto 4, 3) := by decide +kernel
theorem dX6_digest_101 : decode cX6_digest 101 = .ok (.iconst 0, 1) := by decide +kernel
theorem dX6_digest_102 : decode cX6_digest 102 = .ok (.i2l, 1) := by decide +kernel
theorem dX6_digest_103 : decode cX6_digest 103 = .ok (.ladd, 1) := by decide +kernel
theorem dX6_digest_104 : decode cX6_digest 104 = .ok (.ldc2_w 217, 3) := by decide +kernel
theorem dX6_digest_107 : decode cX6_digest 107 = .ok (.lmul, 1) := by decide +kernel
theorem dX6_digest_108 : decode cX6_digest 108 = .ok (.aload_n 0, 1) := by decide +kernel
theorem dX6_digest_109 : decode cX6_digest 109 = .ok (.iload_n 3, 1) := by decide +kernel
theorem dX6_digest_110 : decode cX6_digest 110 = .ok (.invokevirtual 200, 3) := by decide +kernel
theorem dX6_digest_113 : decode cX6_digest 113 = .ok (.i2l, 1) := by decide +kernel
theorem dX6_digest_114 : decode cX6_digest 114 = .ok (.ladd, 1) := by decide +kernel
theorem dX6_digest_115 : decode cX6_digest 115 = .ok (.lstore_n 1, 1) := by decide +kernel
theorem dX6_digest_116 : decode cX6_digest 116 = .ok (.iconst 0, 1) := by decide +kernel
theorem dX6_digest_117 : decode cX6_digest 117 = .ok (.istore 4, 2) := by decide +kernel
theorem dX6_digest_119 : decode cX6_digest 119 = .ok (.iload 4, 2) := by decide +kernel
theorem dX6_digest_121 : decode cX6_digest 121 = .ok (.aload_n 0, 1) := by decide +kernel
theorem dX6_digest_122 : decode cX6_digest 122 = .ok (.getfield 13, 3) := by decide +kernel
theorem dX6_digest_125 : decode cX6_digest 125 = .ok (.iload_n 3, 1) := by decide +kernel
theorem dX6_digest_126 : decode cX6_digest 126 = .ok (.iaload, 1) := by decide +kernel
theorem dX6_digest_127 : decode cX6_digest 127 = .ok (.if_icmp .ge 77, 3) := by decide +kernel
theorem dX6_digest_130 : decode cX6_digest 130 = .ok (.lload_n 1, 1) := by decide +kernel
theorem dX6_digest_131 : decode cX6_digest 131 = .ok (.ldc2_w 217, 3) := by decide +kernel
theorem dX6_digest_134 : decode cX6_digest 134 = .ok (.lmul, 1) := by decide +kernel
theorem dX6_digest_135 : decode cX6_digest 135 = .ok (.aload_n 0, 1) := by decide +kernel
theorem dX6_digest_136 : decode cX6_digest 136 = .ok (.getfield 16, 3) := by decide +kernel
theorem dX6_digest_139 : decode cX6_digest 139 = .ok (.iload_n 3, 1) := by decide +kernel
theorem dX6_digest_140 : decode cX6_digest 140 = .ok (.iconst 4, 1) := by decide +kernel
theorem dX6_digest_141 : decode cX6_digest 141 = .ok (.imul, 1) := by decide +kernel
theorem dX6_digest_142 : decode cX6_digest 142 = .ok (.iload 4, 2) := by decide +kernel
theorem dX6_digest_144 : decode cX6_digest 144 = .ok (.iadd, 1) := by decide +kernel
theorem dX6_digest_145 : decode cX6_digest 145 = .ok (.iaload, 1) := by decide +kernel
theorem dX6_digest_146 : decode cX6_digest 146 = .ok (.i2l, 1) := by decide +kernel
theorem dX6_digest_147 : decode cX6_digest 147 = .ok (.ladd, 1) := by decide +kernel
theorem dX6_digest_148 : decode cX6_digest 148 = .ok (.lstore_n 1, 1) := by decide +kernel
theorem dX6_digest_149 : decode cX6_digest 149 = .ok (.iconst 0, 1) := by decide +kernel
theorem dX6_digest_150 : decode cX6_digest 150 = .ok (.istore 5, 2) := by decide +kernel
theorem dX6_digest_152 : decode cX6_digest 152 = .ok (.iload 5, 2) := by decide +kernel
theorem dX6_digest_154 : decode cX6_digest 154 = .ok (.iconst 4, 1) := by decide +kernel
theorem dX6_digest_155 : decode cX6_digest 155 = .ok (.if_icmp .ge 26, 3) := by decide +kernel
theorem dX6_digest_158 : decode cX6_digest 158 = .ok (.lload_n 1, 1) := by decide +kernel
theorem dX6_digest_159 : decode cX6_digest 159 = .ok (.ldc2_w 217, 3) := by decide +kernel
theorem dX6_digest_162 : decode cX6_digest 162 = .ok (.lmul, 1) := by decide +kernel
theorem dX6_digest_163 : decode cX6_digest 163 = .ok (.aload_n 0, 1) := by decide +kernel
theorem dX6_digest_164 : decode cX6_digest 164 = .ok (.iload_n 3, 1) := by decide +kernel
theorem dX6_digest_165 : decode cX6_digest 165 = .ok (.iload 4, 2) := by decide +kernel
theorem dX6_digest_167 : decode cX6_digest 167 = .ok (.iload 5, 2) := by decide +kernel
theorem dX6_digest_169 : decode cX6_digest 169 = .ok (.invokevirtual 182, 3) := by decide +kernel
theorem dX6_digest_172 : decode cX6_digest 172 = .ok (.i2l, 1) := by decide +kernel
theorem dX6_digest_173 : decode cX6_digest 173 = .ok (.ladd, 1) := by decide +kernel
theorem dX6_digest_174 : decode cX6_digest 174 = .ok (.lstore_n 1, 1) := by decide +kernel
theorem dX6_digest_175 : decode cX6_digest 175 = .ok (.iinc 5 1, 3) := by decide +kernel
theorem dX6_digest_178 : decode cX6_digest 178 = .ok (.goto (-26), 3) := by decide +kernel
theorem dX6_digest_181 : decode cX6_digest 181 = .ok (.lload_n 1, 1) := by decide +kernel
theorem dX6_digest_182 : decode cX6_digest 182 = .ok (.ldc2_w 217, 3) := by decide +kernel
theorem dX6_digest_185 : decode cX6_digest 185 = .ok (.lmul, 1) := by decide +kernel
theorem dX6_digest_186 : decode cX6_digest 186 = .ok (.aload_n 0, 1) := by decide +kernel
theorem dX6_digest_187 : decode cX6_digest 187 = .ok (.iload_n 3, 1) := by decide +kernel
theorem dX6_digest_188 : decode cX6_digest 188 = .ok (.iload 4, 2) := by decide +kernel
theorem dX6_digest_190 : decode cX6_digest 190 = .ok (.bipush 20, 2) := by decide +kernel
theorem dX6_digest_192 : decode cX6_digest 192 = .ok (.invokevirtual 206, 3) := by decide +kernel
theorem dX6_digest_195 : decode cX6_digest 195 = .ok (.i2l, 1) := by decide +kernel
theorem dX6_digest_196 : decode cX6_digest 196 = .ok (.ladd, 1) := by decide +kernel
theorem dX6_digest_197 : decode cX6_digest 197 = .ok (.lstore_n 1, 1) := by decide +kernel
theorem dX6_digest_198 : decode cX6_digest 198 = .ok (.iinc 4 1, 3) := by decide +kernel
theorem dX6_digest_201 : decode cX6_digest 201 = .ok (.goto (-82), 3) := by decide +kernel
theorem dX6_digest_204 : decode cX6_digest 204 = .ok (.iinc 3 1, 3) := by decide +kernel
theorem dX6_digest_207 : decode cX6_digest 207 = .ok (.goto (-154), 3) := by decide +kernel
theorem dX6_digest_210 : decode cX6_digest 210 = .ok (.iconst 0, 1) := by decide +kernel
theorem dX6_digest_211 : decode cX6_digest 211 = .ok (.istore_n 3, 1) := by decide +kernel
theorem dX6_digest_212 : decode cX6_digest 212 = .ok (.iload_n 3, 1) := by decide +kernel
theorem dX6_digest_213 : decode cX6_digest 213 = .ok (.bipush 10, 2) := by decide +kernel
theorem dX6_digest_215 : decode cX6_digest 215 = .ok (.if_icmp .ge 72, 3) := by decide +kernel
theorem dX6_digest_218 : decode cX6_digest 218 = .ok (.iconst 0, 1) := by decide +kernel
theorem dX6_digest_219 : decode cX6_digest 219 = .ok (.istore 4, 2) := by decide +kernel
theorem dX6_digest_221 : decode cX6_digest 221 = .ok (.iload 4, 2) := by decide +kernel
theorem dX6_digest_223 : decode cX6_digest 223 = .ok (.aload_n 0, 1) := by decide +kernel
theorem dX6_digest_224 : decode cX6_digest 224 = .ok (.getfield 84, 3) := by decide +kernel
theorem dX6_digest_227 : decode cX6_digest 227 = .ok (.if_icmp .ge 54, 3) := by decide +kernel
theorem dX6_digest_230 : decode cX6_digest 230 = .ok (.lload_n 1, 1) := by decide +kernel
theorem dX6_digest_231 : decode cX6_digest 231 = .ok (.ldc2_w 217, 3) := by decide +kernel
theorem dX6_digest_234 : decode cX6_digest 234 = .ok (.lmul, 1) := by decide +kernel
theorem dX6_digest_235 : decode cX6_digest 235 = .ok (.aload_n 0, 1) := by decide +kernel
theorem dX6_digest_236 : decode cX6_digest 236 = .ok (.iload 4, 2) := by decide +kernel
theorem dX6_digest_238 : decode cX6_digest 238 = .ok (.iload_n 3, 1) := by decide +kernel
theorem dX6_digest_239 : decode cX6_digest 239 = .ok (.iload_n 3, 1) := by decide +kernel
theorem dX6_digest_240 : decode cX6_digest 240 = .ok (.bipush 9, 2) := by decide +kernel
theorem dX6_digest_242 : decode cX6_digest 242 = .ok (.iload_n 3, 1) := by decide +kernel
theorem dX6_digest_243 : decode cX6_digest 243 = .ok (.isub, 1) := by decide +kernel
theorem dX6_digest_244 : decode cX6_digest 244 = .ok (.invokevirtual 154, 3) := by decide +kernel
theorem dX6_digest_247 : decode cX6_digest 247 = .ok (.i2l, 1) := by decide +kernel
theorem dX6_digest_248 : decode cX6_digest 248 = .ok (.ladd, 1) := by decide +kernel
theorem dX6_digest_249 : decode cX6_digest 249 = .ok (.lstore_n 1, 1) := by decide +kernel
theorem dX6_digest_250 : decode cX6_digest 250 = .ok (.lload_n 1, 1) := by decide +kernel
theorem dX6_digest_251 : decode cX6_digest 251 = .ok (.ldc2_w 217, 3) := by decide +kernel
theorem dX6_digest_254 : decode cX6_digest 254 = .ok (.lmul, 1) := by decide +kernel
theorem dX6_digest_255 : decode cX6_digest 255 = .ok (.aload_n 0, 1) := by decide +kernel
theorem dX6_digest_256 : decode cX6_digest 256 = .ok (.getfield 165, 3) := by decide +kernel
theorem dX6_digest_259 : decode cX6_digest 259 = .ok (.i2l, 1) := by decide +kernel
theorem dX6_digest_260 : decode cX6_digest 260 = .ok (.ladd, 1) := by decide +kernel
theorem dX6_digest_261 : decode cX6_digest 261 = .ok (.ldc2_w 217, 3) := by decide +kernel
theorem dX6_digest_264 : decode cX6_digest 264 = .ok (.lmul, 1) := by decide +kernel
theorem dX6_digest_265 : decode cX6_digest 265 = .ok (.aload_n 0, 1) := by decide +kernel
theorem dX6_digest_266 : decode cX6_digest 266 = .ok (.iload 4, 2) := by decide +kernel
theorem dX6_digest_268 : decode cX6_digest 268 = .ok (.iload_n 3, 1) := by decide +kernel
theorem dX6_digest_269 : decode cX6_digest 269 = .ok (.invokevirtual 179, 3) := by decide +kernel
theorem dX6_digest_272 : decode cX6_digest 272 = .ok (.i2l, 1) := by decide +kernel
theorem dX6_digest_273 : decode cX6_digest 273 = .ok (.ladd, 1) := by decide +kernel
theorem dX6_digest_274 : decode cX6_digest 274 = .ok (.lstore_n 1, 1) := by decide +kernel
theorem dX6_digest_275 : decode cX6_digest 275 = .ok (.iinc 4 1, 3) := by decide +kernel
theorem dX6_digest_278 : decode cX6_digest 278 = .ok (.goto (-57), 3) := by decide +kernel
theorem dX6_digest_281 : decode cX6_digest 281 = .ok (.iinc 3 1, 3) := by decide +kernel
theorem dX6_digest_284 : decode cX6_digest 284 = .ok (.goto (-72), 3) := by decide +kernel
theorem dX6_digest_287 : decode cX6_digest 287 = .ok (.lload_n 1, 1) := by decide +kernel
theorem dX6_digest_288 : decode cX6_digest 288 = .ok (.lreturn, 1) := by decide +kernel
end
section
/-! THE POOL: all cells of the class under proof, by their addresses: their kinds (0 Arm, 1 Asker, 2 Rule, 3 Switch, 4 Tally, 5 DaybreakFlags; 6 to 19 rows of ints, 20 rows of longs, 21 rows of Rules, 22 rows of Switches), lengths, numbers, references, and what the rows hold -/
abbrev Pool : Type := List Nat × (Nat → Nat) × (Nat → Nat) × (Nat → Nat → Int32) × (Nat → Nat → Option Nat) × (Nat → Nat → Int32) × (Nat → Nat → Int64) × (Nat → Nat → Option Nat)
abbrev gL (S : Pool) : List Nat := S.1
abbrev gK (S : Pool) : Nat → Nat := S.2.1
abbrev gN (S : Pool) : Nat → Nat := S.2.2.1
abbrev gI (S : Pool) : Nat → Nat → Int32 := S.2.2.2.1
abbrev gQ (S : Pool) : Nat → Nat → Option Nat := S.2.2.2.2.1
abbrev gR (S : Pool) : Nat → Nat → Int32 := S.2.2.2.2.2.1
abbrev gJ (S : Pool) : Nat → Nat → Int64 := S.2.2.2.2.2.2.1
abbrev gP (S : Pool) : Nat → Nat → Option Nat := S.2.2.2.2.2.2.2
def u2 {α : Type} (f : Nat → Nat → α) (a k : Nat) (v : α) : Nat → Nat → α := fun b j => if b = a ∧ j = k then v else f b j
def u1 {α : Type} (f : Nat → Nat → α) (a : Nat) (g : Nat → α) : Nat → Nat → α := fun b j => if b = a then g j else f b j
theorem u2_s {α : Type} {f : Nat → Nat → α} {a k : Nat} {v : α} : u2 f a k v a k = v := by simp [u2]
theorem u2_a {α : Type} {f : Nat → Nat → α} {a k b j : Nat} {v : α} (h : b ≠ a) : u2 f a k v b j = f b j := by simp [u2, h]
theorem u2_k {α : Type} {f : Nat → Nat → α} {a k b j : Nat} {v : α} (h : j ≠ k) : u2 f a k v b j = f b j := by simp [u2, h]
theorem u1_s {α : Type} {f : Nat → Nat → α} {a j : Nat} {g : Nat → α} : u1 f a g a j = g j := by simp [u1]
theorem u1_a {α : Type} {f : Nat → Nat → α} {a b j : Nat} {g : Nat → α} (h : b ≠ a) : u1 f a g b j = f b j := by simp [u1, h]
abbrev pI (S : Pool) (a k : Nat) (v : Int32) : Pool := (gL S, gK S, gN S, u2 (gI S) a k v, gQ S, gR S, gJ S, gP S)
abbrev pQ (S : Pool) (a k : Nat) (v : Option Nat) : Pool := (gL S, gK S, gN S, gI S, u2 (gQ S) a k v, gR S, gJ S, gP S)
abbrev pR (S : Pool) (a k : Nat) (v : Int32) : Pool := (gL S, gK S, gN S, gI S, gQ S, u2 (gR S) a k v, gJ S, gP S)
abbrev pJ (S : Pool) (a k : Nat) (v : Int64) : Pool := (gL S, gK S, gN S, gI S, gQ S, gR S, u2 (gJ S) a k v, gP S)
abbrev pP (S : Pool) (a k : Nat) (v : Option Nat) : Pool := (gL S, gK S, gN S, gI S, gQ S, gR S, gJ S, u2 (gP S) a k v)
/-- a new object (or row) of a kind at q, all of it 0 or null -/
abbrev pW (S : Pool) (q ki n : Nat) : Pool := (gL S ++ [q], va_up (gK S) q ki, va_up (gN S) q n, u1 (gI S) q (fun _ => 0), u1 (gQ S) q (fun _ => none), u1 (gR S) q (fun _ => 0), u1 (gJ S) q (fun _ => 0), u1 (gP S) q (fun _ => none))
def nf : Nat → Nat
  | 0 => 5
  | 1 => 6
  | 2 => 4
  | 3 => 18
  | 4 => 5
  | _ => 6
def isR : Nat → Nat → Bool
  | 0, 2 => true
  | 3, 4 => true
  | 3, 5 => true
  | 3, 6 => true
  | 3, 7 => true
  | 4, 0 => true
  | 4, 1 => true
  | 4, 2 => true
  | 4, 3 => true
  | 5, 0 => true
  | 5, 1 => true
  | _, _ => false
def pv (S : Pool) (ci a k : Nat) : Value := if isR ci k = true then va_rf (gQ S a k) else .int (gI S a k)
def pcell (cA : Nat → ClassId) (S : Pool) (a : Nat) : va_E :=
  if gK S a < 6 then .inr (gK S a, (List.range (nf (gK S a))).map (pv S (gK S a) a))
  else if gK S a < 20 then .inl (cA 0, gN S a, .inl (gR S a))
  else if gK S a = 20 then .inl (cA 1, gN S a, .inr (.inl (gJ S a)))
  else if gK S a = 21 then .inl (cA 4, gN S a, .inr (.inr (.inr (.inr (gP S a)))))
  else .inl (cA 5, gN S a, .inr (.inr (.inr (.inr (gP S a)))))
abbrev PW (cA : Nat → ClassId) (S : Pool) : va_W := va_pl (gL S) (pcell cA S)
abbrev ty6 (cA : Nat → ClassId) : List (ClassId × FieldType) := [(cA 0, .int), (cA 1, .long), (cA 2, .boolean), (cA 3, .double), (cA 4, .object RX2), (cA 5, .object RX3)]
/-- an object of a kind lies at a -/
abbrev isO (S : Pool) (a ki : Nat) : Prop := a ∈ gL S ∧ gK S a = ki
/-- a row of a kind and of n places lies at a -/
abbrev isA (S : Pool) (a ki n : Nat) : Prop := a ∈ gL S ∧ gK S a = ki ∧ gN S a = n
theorem pcell_o {cA : Nat → ClassId} {S : Pool} {a ci : Nat} (h : gK S a = ci) (hc : ci < 6) : pcell cA S a = .inr (ci, (List.range (nf ci)).map (pv S ci a)) := by
  unfold pcell
  rw [h, if_pos hc]
theorem pcell_i {cA : Nat → ClassId} {S : Pool} {a ci : Nat} (h : gK S a = ci) (h6 : 6 ≤ ci) (h20 : ci < 20) : pcell cA S a = .inl (cA 0, gN S a, .inl (gR S a)) := by
  unfold pcell
  rw [h, if_neg (by omega), if_pos h20]
theorem pcell_j {cA : Nat → ClassId} {S : Pool} {a : Nat} (h : gK S a = 20) : pcell cA S a = .inl (cA 1, gN S a, .inr (.inl (gJ S a))) := by
  unfold pcell
  rw [h, if_neg (by omega), if_neg (by omega), if_pos rfl]
theorem pcell_r {cA : Nat → ClassId} {S : Pool} {a : Nat} (h : gK S a = 21) : pcell cA S a = .inl (cA 4, gN S a, .inr (.inr (.inr (.inr (gP S a))))) := by
  unfold pcell
  rw [h, if_neg (by omega), if_neg (by omega), if_neg (by omega), if_pos rfl]
theorem pcell_s {cA : Nat → ClassId} {S : Pool} {a : Nat} (h : gK S a = 22) : pcell cA S a = .inl (cA 5, gN S a, .inr (.inr (.inr (.inr (gP S a))))) := by
  unfold pcell
  rw [h, if_neg (by omega), if_neg (by omega), if_neg (by omega), if_neg (by omega)]
theorem map_set {α : Type} {n k : Nat} {g g' : Nat → α} {v : α} (h1 : k < n → g' k = v) (h2 : ∀ j, j ≠ k → g' j = g j) : ((List.range n).map g).set k v = (List.range n).map g' := by
  apply List.ext_getElem?
  intro j
  rw [List.getElem?_set]
  by_cases hj : k = j
  · subst hj
    by_cases hn : k < n
    · simp [hn, h1 hn]
    · simp [hn]
  · rw [if_neg hj]
    by_cases hn : j < n
    · simp [hn, h2 j (fun e => hj e.symm)]
    · simp [hn]
theorem pw_get {cA : Nat → ClassId} {S : Pool} {a : Nat} (h : a ∈ gL S) : ∃ k : Nat, (PW cA S)[k]? = some (a, pcell cA S a) := va_pl_get (X := []) h
theorem pw_set {cA : Nat → ClassId} {S : Pool} {A : Nat → Prop} {a k : Nat} {e : va_E} {g : Nat → va_E} (hD : va_D A (PW cA S)) (h : a ∈ gL S) (hk : (PW cA S)[k]? = some (a, pcell cA S a)) (ha : g a = e) (hb : ∀ b, b ≠ a → g b = pcell cA S b) : (PW cA S).set k (a, e) = va_pl (gL S) g := by
  have h1 := va_pl_set (X := []) (e := e) hD h hk
  refine (show (PW cA S).set k (a, e) = va_pl (gL S) (va_up (pcell cA S) a e) from h1).trans (va_pl_congr fun b => ?_)
  by_cases hba : b = a
  · subst hba
    rw [ha]; simp [va_up]
  · rw [hb b hba]; simp [va_up, hba]
theorem pw_new {cA : Nat → ClassId} {S : Pool} {A : Nat → Prop} {q : Nat} {e : va_E} {g : Nat → va_E} (hD : va_D A (PW cA S ++ [(q, e)])) (ha : g q = e) (hb : ∀ b, b ≠ q → g b = pcell cA S b) : q ∉ gL S ∧ PW cA S ++ [(q, e)] = va_pl (gL S ++ [q]) g := by
  have hq : q ∉ gL S := by
    intro hm
    obtain ⟨k, hk⟩ := pw_get (cA := cA) (S := S) hm
    have hlt : k < (PW cA S).length := (List.getElem?_eq_some_iff.mp hk).1
    have h1 : (PW cA S ++ [(q, e)])[k]? = some (q, pcell cA S q) := by rw [List.getElem?_append_left hlt]; exact hk
    have h2 : (PW cA S ++ [(q, e)])[(PW cA S).length]? = some (q, e) := by simp
    have := hD.1 _ _ _ _ h1 h2 rfl
    omega
  refine ⟨hq, ?_⟩
  refine (va_pl_push hq).trans (va_pl_congr fun b => ?_)
  by_cases hba : b = q
  · subst hba
    rw [ha]; simp [va_up]
  · rw [hb b hba]; simp [va_up, hba]
theorem pcell_ne {cA : Nat → ClassId} {S S' : Pool} {b : Nat} (hK : gK S' b = gK S b) (hN : gN S' b = gN S b) (hI : gI S' b = gI S b) (hQ : gQ S' b = gQ S b) (hR : gR S' b = gR S b) (hJ : gJ S' b = gJ S b) (hP : gP S' b = gP S b) : pcell cA S' b = pcell cA S b := by
  unfold pcell
  have h : pv S' (gK S b) b = pv S (gK S b) b := by
    funext k
    unfold pv
    rw [hI, hQ]
  rw [hK, hN, hR, hJ, hP, h]
theorem u2_row {α : Type} {f : Nat → Nat → α} {a k b : Nat} {v : α} (h : b ≠ a) : u2 f a k v b = f b := by funext j; exact u2_a h
theorem u1_row {α : Type} {f : Nat → Nat → α} {a b : Nat} {g : Nat → α} (h : b ≠ a) : u1 f a g b = f b := by funext j; exact u1_a h
theorem u2_upd {f : Nat → Nat → Int32} {a k : Nat} {v : Int32} : u2 f a k v a = upd (f a) k v := by funext j; simp [u2, upd]
theorem u2_updL {f : Nat → Nat → Int64} {a k : Nat} {v : Int64} : u2 f a k v a = vp_updL (f a) k v := by funext j; simp [u2, vp_updL]
theorem u2_updP {f : Nat → Nat → Option Nat} {a k : Nat} {v : Option Nat} : u2 f a k v a = va_up (f a) k v := by funext j; simp [u2, va_up]
theorem up_ne {f : Nat → Nat} {q b v : Nat} (h : b ≠ q) : va_up f q v b = f b := by simp [va_up, h]
theorem up_s {f : Nat → Nat} {q v : Nat} : va_up f q v q = v := by simp [va_up]
theorem ne_new {S : Pool} {q b : Nat} (hb : b ∈ gL S) (hq : q ∉ gL S) : b ≠ q := by
  intro e
  subst e
  exact hq hb
theorem isO_new {S : Pool} {q ki n b kb : Nat} (h : isO S b kb) (hq : q ∉ gL S) : isO (pW S q ki n) b kb := ⟨List.mem_append_left _ h.1, show va_up (gK S) q ki b = kb from (up_ne (ne_new h.1 hq)).trans h.2⟩
theorem isA_new {S : Pool} {q ki n b kb nb : Nat} (h : isA S b kb nb) (hq : q ∉ gL S) : isA (pW S q ki n) b kb nb := ⟨List.mem_append_left _ h.1, show va_up (gK S) q ki b = kb from (up_ne (ne_new h.1 hq)).trans h.2.1, show va_up (gN S) q n b = nb from (up_ne (ne_new h.1 hq)).trans h.2.2⟩
theorem isO_q {S : Pool} {q ki n : Nat} : isO (pW S q ki n) q ki := ⟨List.mem_append_right _ (List.mem_singleton.mpr rfl), show va_up (gK S) q ki q = ki from up_s⟩
theorem isA_q {S : Pool} {q ki n : Nat} : isA (pW S q ki n) q ki n := ⟨List.mem_append_right _ (List.mem_singleton.mpr rfl), show va_up (gK S) q ki q = ki from up_s, show va_up (gN S) q n q = n from up_s⟩
theorem gI_new {S : Pool} {q ki n b k : Nat} (hb : b ∈ gL S) (hq : q ∉ gL S) : gI (pW S q ki n) b k = gI S b k := show u1 (gI S) q (fun _ => 0) b k = gI S b k from u1_a (ne_new hb hq)
theorem gI_q {S : Pool} {q ki n k : Nat} : gI (pW S q ki n) q k = 0 := show u1 (gI S) q (fun _ => 0) q k = 0 from u1_s
theorem gQ_new {S : Pool} {q ki n b k : Nat} (hb : b ∈ gL S) (hq : q ∉ gL S) : gQ (pW S q ki n) b k = gQ S b k := show u1 (gQ S) q (fun _ => none) b k = gQ S b k from u1_a (ne_new hb hq)
theorem gQ_q {S : Pool} {q ki n k : Nat} : gQ (pW S q ki n) q k = none := show u1 (gQ S) q (fun _ => none) q k = none from u1_s
theorem gR_new {S : Pool} {q ki n b k : Nat} (hb : b ∈ gL S) (hq : q ∉ gL S) : gR (pW S q ki n) b k = gR S b k := show u1 (gR S) q (fun _ => 0) b k = gR S b k from u1_a (ne_new hb hq)
theorem gR_q {S : Pool} {q ki n k : Nat} : gR (pW S q ki n) q k = 0 := show u1 (gR S) q (fun _ => 0) q k = 0 from u1_s
theorem gJ_new {S : Pool} {q ki n b k : Nat} (hb : b ∈ gL S) (hq : q ∉ gL S) : gJ (pW S q ki n) b k = gJ S b k := show u1 (gJ S) q (fun _ => 0) b k = gJ S b k from u1_a (ne_new hb hq)
theorem gJ_q {S : Pool} {q ki n k : Nat} : gJ (pW S q ki n) q k = 0 := show u1 (gJ S) q (fun _ => 0) q k = 0 from u1_s
theorem gP_new {S : Pool} {q ki n b k : Nat} (hb : b ∈ gL S) (hq : q ∉ gL S) : gP (pW S q ki n) b k = gP S b k := show u1 (gP S) q (fun _ => none) b k = gP S b k from u1_a (ne_new hb hq)
theorem gP_q {S : Pool} {q ki n k : Nat} : gP (pW S q ki n) q k = none := show u1 (gP S) q (fun _ => none) q k = none from u1_s
theorem kz_b {x : Int32} (h : x = 0 ∨ x = 1) : narrow .boolean (.int x) = .int x ∧ fits .boolean (.int x) = true := by rcases h with rfl | rfl <;> decide
theorem ne_of_kind {S : Pool} {a b i j : Nat} (ha : gK S a = i) (hb : gK S b = j) (h : i ≠ j) : a ≠ b := by
  intro e
  subst e
  exact h (ha.symm.trans hb)
end
section
/-! rows over the pool -/
section KX
variable {p : Program} {l : Launch} {e : Env} {R : Room} {s : State} {m : MethodId} {args : Array Value} {below : List Frame} {meth : Method} {c : Code} {H : Heap} {locs : List Loc} {cells slots : Nat} {Q : State → Prop}
variable {cc : ByteArray} {pc : Nat} {ls : Array Slot} {rest : List Value} {D : va_G} {A : Nat → Prop} {a : Nat} {H0 : Heap} {cA : Nat → ClassId} {S : Pool}
theorem kx_geti (hexec : p.tables.exec = Jvm.exec) (hb : c.code = cc) {own C : String} {T : u_T} {N ci index : Nat} {Ts : List Cond} (hts : ∀ w ∈ Ts, w.before args s = true) (hin : ∀ w ∈ u_ws C T N, w ∈ Ts) (hown : s.vm.findClass own = some m.cls) (hK : va_K D vwCl (ty6 cA) s) (hP : va_P D vwCl (PW cA S) H) (ho : isO S a ci) (hci : ci < 6) (hc : vwCl[ci]? = some (C, T, N)) (k : Nat) (hk : k < N) (hk2 : k < nf ci) (hi : isR ci k = false) (hlink : (Cond.fieldLink own index (T k).1 (T k).2.1 (T k).2.2.1).before args s = true) (hdg : decode cc pc = .ok (.getfield index, 3))
    (kk : W p l e R s m args below meth c H locs cells slots Q (F0 m (pc + 3) ls (.int (gI S a k) :: rest))) : W p l e R s m args below meth c H locs cells slots Q (F0 m pc ls (.ref a :: rest)) := by
  obtain ⟨q0, h0⟩ := pw_get (cA := cA) ho.1
  rw [pcell_o ho.2 hci] at h0
  refine va_get hexec hb hts hin hown hK hP q0 h0 hc k hk hlink (fun _ h9 => h9) (v := .int (gI S a k)) ?_ hdg kk
  simp [hk2, pv, hi]
theorem kx_getr (hexec : p.tables.exec = Jvm.exec) (hb : c.code = cc) {own C : String} {T : u_T} {N ci index : Nat} {Ts : List Cond} (hts : ∀ w ∈ Ts, w.before args s = true) (hin : ∀ w ∈ u_ws C T N, w ∈ Ts) (hown : s.vm.findClass own = some m.cls) (hK : va_K D vwCl (ty6 cA) s) (hP : va_P D vwCl (PW cA S) H) (ho : isO S a ci) (hci : ci < 6) (hc : vwCl[ci]? = some (C, T, N)) (k : Nat) (hk : k < N) (hk2 : k < nf ci) (hi : isR ci k = true) {r : Option Nat} (hr : gQ S a k = r) (hlink : (Cond.fieldLink own index (T k).1 (T k).2.1 (T k).2.2.1).before args s = true) (hdg : decode cc pc = .ok (.getfield index, 3))
    (kk : W p l e R s m args below meth c H locs cells slots Q (F0 m (pc + 3) ls (va_rf r :: rest))) : W p l e R s m args below meth c H locs cells slots Q (F0 m pc ls (.ref a :: rest)) := by
  obtain ⟨q0, h0⟩ := pw_get (cA := cA) ho.1
  rw [pcell_o ho.2 hci] at h0
  refine va_get hexec hb hts hin hown hK hP q0 h0 hc k hk hlink (fun _ h9 => h9) (v := va_rf r) ?_ hdg kk
  simp [hk2, pv, hi, ← hr]
theorem kx_puti (hexec : p.tables.exec = Jvm.exec) (hb : c.code = cc) {own C : String} {T : u_T} {N ci index : Nat} {Ts : List Cond} (hts : ∀ w ∈ Ts, w.before args s = true) (hin : ∀ w ∈ u_ws C T N, w ∈ Ts) (ty0 : Nat → FieldType) (hty : ∀ k, k < N → parseFieldDescriptor (T k).2.2.1 = some (ty0 k)) (hnm : ∀ a, a < N → ∀ b, b < N → a ≠ b → (T a).2.1 ≠ (T b).2.1) (hown : s.vm.findClass own = some m.cls) (hK : va_K D vwCl (ty6 cA) s) (hP : va_P D vwCl (PW cA S) H) (hD : va_D A (PW cA S)) (hS : va_S A H0 H locs) (ho : isO S a ci) (hci : ci < 6) (hc : vwCl[ci]? = some (C, T, N)) (k : Nat) (hk : k < N) (hk2 : k < nf ci) (hi : isR ci k = false) (hlink : (Cond.fieldLink own index (T k).1 (T k).2.1 (T k).2.2.1).before args s = true) (hfin : (T k).2.2.2 = false) {ty : FieldType} {x : Int32} (hd : parseFieldDescriptor (T k).2.2.1 = some ty) (hn : narrow ty (.int x) = .int x) (hfit : fits ty (.int x) = true) (hdg : decode cc pc = .ok (.putfield index, 3))
    (kk : ∀ (H1 : Heap) (locs1 : List Loc), va_P D vwCl (PW cA (pI S a k x)) H1 → va_D A (PW cA (pI S a k x)) → va_S A H0 H1 locs1 → W p l e R s m args below meth c H1 locs1 cells slots Q (F0 m (pc + 3) ls rest)) : W p l e R s m args below meth c H locs cells slots Q (F0 m pc ls (.int x :: .ref a :: rest)) := by
  obtain ⟨q0, h0⟩ := pw_get (cA := cA) ho.1
  have h1 : (PW cA S)[q0]? = some (a, .inr (ci, (List.range (nf ci)).map (pv S ci a))) := by rw [h0, pcell_o ho.2 hci]
  have hw : (PW cA S).set q0 (a, .inr (ci, ((List.range (nf ci)).map (pv S ci a)).set k (.int x))) = PW cA (pI S a k x) := by
    refine pw_set hD ho.1 h0 ?_ ?_
    · rw [pcell_o (S := pI S a k x) ho.2 hci]
      rw [map_set (g' := pv (pI S a k x) ci a)]
      · intro _; show (if isR ci k = true then va_rf (gQ S a k) else Value.int (u2 (gI S) a k x a k)) = _; rw [hi, u2_s]; rfl
      · intro j hj
        unfold pv
        rw [show gI (pI S a k x) a j = gI S a j from u2_k hj]
    · intro b hb
      exact pcell_ne (S' := pI S a k x) rfl rfl (u2_row hb) rfl rfl rfl rfl
  refine va_put hexec hb hts hin ty0 hty hnm hown hK hP hD hS q0 h1 hc k hk hlink (fun _ h9 => h9) hfin hd hn hfit (by simp [hk2]) hdg (fun H1 locs1 a1 a2 a3 => ?_)
  rw [hw] at a1 a2
  exact kk H1 locs1 a1 a2 a3
theorem kx_putr (hexec : p.tables.exec = Jvm.exec) (hb : c.code = cc) {own C : String} {T : u_T} {N ci index : Nat} {Ts : List Cond} (hts : ∀ w ∈ Ts, w.before args s = true) (hin : ∀ w ∈ u_ws C T N, w ∈ Ts) (ty0 : Nat → FieldType) (hty : ∀ k, k < N → parseFieldDescriptor (T k).2.2.1 = some (ty0 k)) (hnm : ∀ a, a < N → ∀ b, b < N → a ≠ b → (T a).2.1 ≠ (T b).2.1) (hown : s.vm.findClass own = some m.cls) (hK : va_K D vwCl (ty6 cA) s) (hP : va_P D vwCl (PW cA S) H) (hD : va_D A (PW cA S)) (hS : va_S A H0 H locs) (ho : isO S a ci) (hci : ci < 6) (hc : vwCl[ci]? = some (C, T, N)) (k : Nat) (hk : k < N) (hk2 : k < nf ci) (hi : isR ci k = true) (hlink : (Cond.fieldLink own index (T k).1 (T k).2.1 (T k).2.2.1).before args s = true) (hfin : (T k).2.2.2 = false) {ty : FieldType} {r : Option Nat} (hd : parseFieldDescriptor (T k).2.2.1 = some ty) (hn : narrow ty (va_rf r) = va_rf r) (hfit : fits ty (va_rf r) = true) (hdg : decode cc pc = .ok (.putfield index, 3))
    (kk : ∀ (H1 : Heap) (locs1 : List Loc), va_P D vwCl (PW cA (pQ S a k r)) H1 → va_D A (PW cA (pQ S a k r)) → va_S A H0 H1 locs1 → W p l e R s m args below meth c H1 locs1 cells slots Q (F0 m (pc + 3) ls rest)) : W p l e R s m args below meth c H locs cells slots Q (F0 m pc ls (va_rf r :: .ref a :: rest)) := by
  obtain ⟨q0, h0⟩ := pw_get (cA := cA) ho.1
  have h1 : (PW cA S)[q0]? = some (a, .inr (ci, (List.range (nf ci)).map (pv S ci a))) := by rw [h0, pcell_o ho.2 hci]
  have hw : (PW cA S).set q0 (a, .inr (ci, ((List.range (nf ci)).map (pv S ci a)).set k (va_rf r))) = PW cA (pQ S a k r) := by
    refine pw_set hD ho.1 h0 ?_ ?_
    · rw [pcell_o (S := pQ S a k r) ho.2 hci]
      rw [map_set (g' := pv (pQ S a k r) ci a)]
      · intro _; show (if isR ci k = true then va_rf (u2 (gQ S) a k r a k) else Value.int (gI S a k)) = _; rw [hi, u2_s]; rfl
      · intro j hj
        unfold pv
        rw [show gQ (pQ S a k r) a j = gQ S a j from u2_k hj]
    · intro b hb
      exact pcell_ne (S' := pQ S a k r) rfl rfl rfl (u2_row hb) rfl rfl rfl
  refine va_put hexec hb hts hin ty0 hty hnm hown hK hP hD hS q0 h1 hc k hk hlink (fun _ h9 => h9) hfin hd hn hfit (by simp [hk2]) hdg (fun H1 locs1 a1 a2 a3 => ?_)
  rw [hw] at a1 a2
  exact kk H1 locs1 a1 a2 a3
theorem kx_putiF (hexec : p.tables.exec = Jvm.exec) (hb : c.code = cc) {own C : String} {T : u_T} {N ci index : Nat} {Ts : List Cond} (hts : ∀ w ∈ Ts, w.before args s = true) (hin : ∀ w ∈ u_ws C T N, w ∈ Ts) (ty0 : Nat → FieldType) (hty : ∀ k, k < N → parseFieldDescriptor (T k).2.2.1 = some (ty0 k)) (hnm : ∀ a, a < N → ∀ b, b < N → a ≠ b → (T a).2.1 ≠ (T b).2.1) (hown : s.vm.findClass own = some m.cls) (hK : va_K D vwCl (ty6 cA) s) (hP : va_P D vwCl (PW cA S) H) (hD : va_D A (PW cA S)) (hS : va_S A H0 H locs) (ho : isO S a ci) (hci : ci < 6) (hc : vwCl[ci]? = some (C, T, N)) (k : Nat) (hk : k < N) (hk2 : k < nf ci) (hi : isR ci k = false) (hlink : (Cond.fieldLink own index (T k).1 (T k).2.1 (T k).2.2.1).before args s = true) (hfin : (T k).2.2.2 = true) (hin2 : meth.name = "<init>") (hdecl : (T k).1 = own) {ty : FieldType} {x : Int32} (hd : parseFieldDescriptor (T k).2.2.1 = some ty) (hn : narrow ty (.int x) = .int x) (hfit : fits ty (.int x) = true) (hdg : decode cc pc = .ok (.putfield index, 3))
    (kk : ∀ (H1 : Heap) (locs1 : List Loc), va_P D vwCl (PW cA (pI S a k x)) H1 → va_D A (PW cA (pI S a k x)) → va_S A H0 H1 locs1 → W p l e R s m args below meth c H1 locs1 cells slots Q (F0 m (pc + 3) ls rest)) : W p l e R s m args below meth c H locs cells slots Q (F0 m pc ls (.int x :: .ref a :: rest)) := by
  obtain ⟨q0, h0⟩ := pw_get (cA := cA) ho.1
  have h1 : (PW cA S)[q0]? = some (a, .inr (ci, (List.range (nf ci)).map (pv S ci a))) := by rw [h0, pcell_o ho.2 hci]
  have hw : (PW cA S).set q0 (a, .inr (ci, ((List.range (nf ci)).map (pv S ci a)).set k (.int x))) = PW cA (pI S a k x) := by
    refine pw_set hD ho.1 h0 ?_ ?_
    · rw [pcell_o (S := pI S a k x) ho.2 hci]
      rw [map_set (g' := pv (pI S a k x) ci a)]
      · intro _; show (if isR ci k = true then va_rf (gQ S a k) else Value.int (u2 (gI S) a k x a k)) = _; rw [hi, u2_s]; rfl
      · intro j hj
        unfold pv
        rw [show gI (pI S a k x) a j = gI S a j from u2_k hj]
    · intro b hb
      exact pcell_ne (S' := pI S a k x) rfl rfl (u2_row hb) rfl rfl rfl rfl
  refine va_putF hexec hb hts hin ty0 hty hnm hown hK hP hD hS q0 h1 hc k hk hlink (fun _ h9 => h9) hfin hin2 hdecl hd hn hfit (by simp [hk2]) hdg (fun H1 locs1 a1 a2 a3 => ?_)
  rw [hw] at a1 a2
  exact kk H1 locs1 a1 a2 a3
theorem kx_putrF (hexec : p.tables.exec = Jvm.exec) (hb : c.code = cc) {own C : String} {T : u_T} {N ci index : Nat} {Ts : List Cond} (hts : ∀ w ∈ Ts, w.before args s = true) (hin : ∀ w ∈ u_ws C T N, w ∈ Ts) (ty0 : Nat → FieldType) (hty : ∀ k, k < N → parseFieldDescriptor (T k).2.2.1 = some (ty0 k)) (hnm : ∀ a, a < N → ∀ b, b < N → a ≠ b → (T a).2.1 ≠ (T b).2.1) (hown : s.vm.findClass own = some m.cls) (hK : va_K D vwCl (ty6 cA) s) (hP : va_P D vwCl (PW cA S) H) (hD : va_D A (PW cA S)) (hS : va_S A H0 H locs) (ho : isO S a ci) (hci : ci < 6) (hc : vwCl[ci]? = some (C, T, N)) (k : Nat) (hk : k < N) (hk2 : k < nf ci) (hi : isR ci k = true) (hlink : (Cond.fieldLink own index (T k).1 (T k).2.1 (T k).2.2.1).before args s = true) (hfin : (T k).2.2.2 = true) (hin2 : meth.name = "<init>") (hdecl : (T k).1 = own) {ty : FieldType} {r : Option Nat} (hd : parseFieldDescriptor (T k).2.2.1 = some ty) (hn : narrow ty (va_rf r) = va_rf r) (hfit : fits ty (va_rf r) = true) (hdg : decode cc pc = .ok (.putfield index, 3))
    (kk : ∀ (H1 : Heap) (locs1 : List Loc), va_P D vwCl (PW cA (pQ S a k r)) H1 → va_D A (PW cA (pQ S a k r)) → va_S A H0 H1 locs1 → W p l e R s m args below meth c H1 locs1 cells slots Q (F0 m (pc + 3) ls rest)) : W p l e R s m args below meth c H locs cells slots Q (F0 m pc ls (va_rf r :: .ref a :: rest)) := by
  obtain ⟨q0, h0⟩ := pw_get (cA := cA) ho.1
  have h1 : (PW cA S)[q0]? = some (a, .inr (ci, (List.range (nf ci)).map (pv S ci a))) := by rw [h0, pcell_o ho.2 hci]
  have hw : (PW cA S).set q0 (a, .inr (ci, ((List.range (nf ci)).map (pv S ci a)).set k (va_rf r))) = PW cA (pQ S a k r) := by
    refine pw_set hD ho.1 h0 ?_ ?_
    · rw [pcell_o (S := pQ S a k r) ho.2 hci]
      rw [map_set (g' := pv (pQ S a k r) ci a)]
      · intro _; show (if isR ci k = true then va_rf (u2 (gQ S) a k r a k) else Value.int (gI S a k)) = _; rw [hi, u2_s]; rfl
      · intro j hj
        unfold pv
        rw [show gQ (pQ S a k r) a j = gQ S a j from u2_k hj]
    · intro b hb
      exact pcell_ne (S' := pQ S a k r) rfl rfl rfl (u2_row hb) rfl rfl rfl
  refine va_putF hexec hb hts hin ty0 hty hnm hown hK hP hD hS q0 h1 hc k hk hlink (fun _ h9 => h9) hfin hin2 hdecl hd hn hfit (by simp [hk2]) hdg (fun H1 locs1 a1 a2 a3 => ?_)
  rw [hw] at a1 a2
  exact kk H1 locs1 a1 a2 a3
/-- rows of ints -/
theorem kx_iald (hexec : p.tables.exec = Jvm.exec) (hb : c.code = cc) (hK : va_K D vwCl (ty6 cA) s) (hP : va_P D vwCl (PW cA S) H) {ki n : Nat} (ho : isA S a ki n) (h6 : 6 ≤ ki) (h20 : ki < 20) {i : Int32} (hin : vp_in i n) (hdg : decode cc pc = .ok (.iaload, 1))
    (kk : W p l e R s m args below meth c H locs cells slots Q (F0 m (pc + 1) ls (.int (gR S a i.toNatClampNeg) :: rest))) : W p l e R s m args below meth c H locs cells slots Q (F0 m pc ls (.int i :: .ref a :: rest)) := by
  obtain ⟨q0, h0⟩ := pw_get (cA := cA) ho.1
  rw [pcell_i ho.2.1 h6 h20] at h0
  exact va_iald hexec hb hK hP q0 0 h0 rfl (by rw [ho.2.2]; exact hin) hdg kk
theorem kx_iast (hexec : p.tables.exec = Jvm.exec) (hb : c.code = cc) (hK : va_K D vwCl (ty6 cA) s) (hP : va_P D vwCl (PW cA S) H) (hD : va_D A (PW cA S)) (hS : va_S A H0 H locs) {ki n : Nat} (ho : isA S a ki n) (h6 : 6 ≤ ki) (h20 : ki < 20) {i x : Int32} (hin : vp_in i n) (hdg : decode cc pc = .ok (.iastore, 1))
    (kk : ∀ (H1 : Heap) (locs1 : List Loc), va_P D vwCl (PW cA (pR S a i.toNatClampNeg x)) H1 → va_D A (PW cA (pR S a i.toNatClampNeg x)) → va_S A H0 H1 locs1 → W p l e R s m args below meth c H1 locs1 cells slots Q (F0 m (pc + 1) ls rest)) : W p l e R s m args below meth c H locs cells slots Q (F0 m pc ls (.int x :: .int i :: .ref a :: rest)) := by
  obtain ⟨q0, h0⟩ := pw_get (cA := cA) ho.1
  have h1 : (PW cA S)[q0]? = some (a, .inl (cA 0, gN S a, .inl (gR S a))) := by rw [h0, pcell_i ho.2.1 h6 h20]
  have hw : (PW cA S).set q0 (a, .inl (cA 0, gN S a, .inl (upd (gR S a) i.toNatClampNeg x))) = PW cA (pR S a i.toNatClampNeg x) := by
    refine pw_set hD ho.1 h0 ?_ ?_
    · rw [pcell_i (S := pR S a i.toNatClampNeg x) ho.2.1 h6 h20, show gR (pR S a i.toNatClampNeg x) a = upd (gR S a) i.toNatClampNeg x from u2_upd]
    · intro b hb
      exact pcell_ne (S' := pR S a i.toNatClampNeg x) rfl rfl rfl rfl (u2_row hb) rfl rfl
  refine va_iast hexec hb hK hP hD hS q0 0 h1 rfl (by rw [ho.2.2]; exact hin) hdg (fun H1 locs1 a1 a2 a3 => ?_)
  rw [hw] at a1 a2
  exact kk H1 locs1 a1 a2 a3
theorem kx_lald (hexec : p.tables.exec = Jvm.exec) (hb : c.code = cc) (hK : va_K D vwCl (ty6 cA) s) (hP : va_P D vwCl (PW cA S) H) {n : Nat} (ho : isA S a 20 n) {i : Int32} (hin : vp_in i n) (hdg : decode cc pc = .ok (.laload, 1))
    (kk : W p l e R s m args below meth c H locs cells slots Q (F0 m (pc + 1) ls (.long (gJ S a i.toNatClampNeg) :: rest))) : W p l e R s m args below meth c H locs cells slots Q (F0 m pc ls (.int i :: .ref a :: rest)) := by
  obtain ⟨q0, h0⟩ := pw_get (cA := cA) ho.1
  rw [pcell_j ho.2.1] at h0
  exact va_lald hexec hb hK hP q0 1 h0 rfl (by rw [ho.2.2]; exact hin) hdg kk
theorem kx_last (hexec : p.tables.exec = Jvm.exec) (hb : c.code = cc) (hK : va_K D vwCl (ty6 cA) s) (hP : va_P D vwCl (PW cA S) H) (hD : va_D A (PW cA S)) (hS : va_S A H0 H locs) {n : Nat} (ho : isA S a 20 n) {i : Int32} {x : Int64} (hin : vp_in i n) (hdg : decode cc pc = .ok (.lastore, 1))
    (kk : ∀ (H1 : Heap) (locs1 : List Loc), va_P D vwCl (PW cA (pJ S a i.toNatClampNeg x)) H1 → va_D A (PW cA (pJ S a i.toNatClampNeg x)) → va_S A H0 H1 locs1 → W p l e R s m args below meth c H1 locs1 cells slots Q (F0 m (pc + 1) ls rest)) : W p l e R s m args below meth c H locs cells slots Q (F0 m pc ls (.long x :: .int i :: .ref a :: rest)) := by
  obtain ⟨q0, h0⟩ := pw_get (cA := cA) ho.1
  have h1 : (PW cA S)[q0]? = some (a, .inl (cA 1, gN S a, .inr (.inl (gJ S a)))) := by rw [h0, pcell_j ho.2.1]
  have hw : (PW cA S).set q0 (a, .inl (cA 1, gN S a, .inr (.inl (vp_updL (gJ S a) i.toNatClampNeg x)))) = PW cA (pJ S a i.toNatClampNeg x) := by
    refine pw_set hD ho.1 h0 ?_ ?_
    · rw [pcell_j (S := pJ S a i.toNatClampNeg x) ho.2.1, show gJ (pJ S a i.toNatClampNeg x) a = vp_updL (gJ S a) i.toNatClampNeg x from u2_updL]
    · intro b hb
      exact pcell_ne (S' := pJ S a i.toNatClampNeg x) rfl rfl rfl rfl rfl (u2_row hb) rfl
  refine va_last hexec hb hK hP hD hS q0 1 h1 rfl (by rw [ho.2.2]; exact hin) hdg (fun H1 locs1 a1 a2 a3 => ?_)
  rw [hw] at a1 a2
  exact kk H1 locs1 a1 a2 a3
/-- rows of Rules (kind 21), of Switches (kind 22) -/
theorem kx_aldr (hexec : p.tables.exec = Jvm.exec) (hb : c.code = cc) (hK : va_K D vwCl (ty6 cA) s) (hP : va_P D vwCl (PW cA S) H) {n : Nat} (ho : isA S a 21 n) {i : Int32} (hin : vp_in i n) {r : Option Nat} (hr : gP S a i.toNatClampNeg = r) (hdg : decode cc pc = .ok (.aaload, 1))
    (kk : W p l e R s m args below meth c H locs cells slots Q (F0 m (pc + 1) ls (va_rf r :: rest))) : W p l e R s m args below meth c H locs cells slots Q (F0 m pc ls (.int i :: .ref a :: rest)) := by
  obtain ⟨q0, h0⟩ := pw_get (cA := cA) ho.1
  rw [pcell_r ho.2.1] at h0
  subst hr
  exact va_aldq hexec hb hK hP q0 4 h0 rfl (by rw [ho.2.2]; exact hin) hdg kk
theorem kx_alds (hexec : p.tables.exec = Jvm.exec) (hb : c.code = cc) (hK : va_K D vwCl (ty6 cA) s) (hP : va_P D vwCl (PW cA S) H) {n : Nat} (ho : isA S a 22 n) {i : Int32} (hin : vp_in i n) {r : Option Nat} (hr : gP S a i.toNatClampNeg = r) (hdg : decode cc pc = .ok (.aaload, 1))
    (kk : W p l e R s m args below meth c H locs cells slots Q (F0 m (pc + 1) ls (va_rf r :: rest))) : W p l e R s m args below meth c H locs cells slots Q (F0 m pc ls (.int i :: .ref a :: rest)) := by
  obtain ⟨q0, h0⟩ := pw_get (cA := cA) ho.1
  rw [pcell_s ho.2.1] at h0
  subst hr
  exact va_aldq hexec hb hK hP q0 5 h0 rfl (by rw [ho.2.2]; exact hin) hdg kk
theorem kx_alen (hexec : p.tables.exec = Jvm.exec) (hb : c.code = cc) (hK : va_K D vwCl (ty6 cA) s) (hP : va_P D vwCl (PW cA S) H) {ki n : Nat} (ho : isA S a ki n) (h6 : 6 ≤ ki) (h20 : ki < 23) {v : Int32} (hv : nI n = v) (hdg : decode cc pc = .ok (.arraylength, 1))
    (kk : W p l e R s m args below meth c H locs cells slots Q (F0 m (pc + 1) ls (.int v :: rest))) : W p l e R s m args below meth c H locs cells slots Q (F0 m pc ls (.ref a :: rest)) := by
  obtain ⟨q0, h0⟩ := pw_get (cA := cA) ho.1
  by_cases h1 : ki < 20
  · rw [pcell_i ho.2.1 h6 h1] at h0
    exact va_alen hexec hb hK hP q0 0 h0 rfl (by rw [← hv]; show Int32.ofNat (gN S a) = _; rw [ho.2.2]; rfl) hdg kk
  · by_cases h2 : ki = 20
    · subst h2
      rw [pcell_j ho.2.1] at h0
      exact va_alen hexec hb hK hP q0 1 h0 rfl (by rw [← hv]; show Int32.ofNat (gN S a) = _; rw [ho.2.2]; rfl) hdg kk
    · by_cases h3 : ki = 21
      · subst h3
        rw [pcell_r ho.2.1] at h0
        exact va_alen hexec hb hK hP q0 4 h0 rfl (by rw [← hv]; show Int32.ofNat (gN S a) = _; rw [ho.2.2]; rfl) hdg kk
      · have h4 : ki = 22 := by omega
        subst h4
        rw [pcell_s ho.2.1] at h0
        exact va_alen hexec hb hK hP q0 5 h0 rfl (by rw [← hv]; show Int32.ofNat (gN S a) = _; rw [ho.2.2]; rfl) hdg kk
theorem kx_astr (hexec : p.tables.exec = Jvm.exec) (hb : c.code = cc) (hK : va_K D vwCl (ty6 cA) s) (hP : va_P D vwCl (PW cA S) H) (hD : va_D A (PW cA S)) (hS : va_S A H0 H locs) {n v : Nat} (ho : isA S a 21 n) (hv : isO S v 2) {i : Int32} (hin : vp_in i n) (hdg : decode cc pc = .ok (.aastore, 1))
    (kk : ∀ (H1 : Heap) (locs1 : List Loc), va_P D vwCl (PW cA (pP S a i.toNatClampNeg (some v))) H1 → va_D A (PW cA (pP S a i.toNatClampNeg (some v))) → va_S A H0 H1 locs1 → W p l e R s m args below meth c H1 locs1 cells slots Q (F0 m (pc + 1) ls rest)) : W p l e R s m args below meth c H locs cells slots Q (F0 m pc ls (.ref v :: .int i :: .ref a :: rest)) := by
  obtain ⟨q0, h0⟩ := pw_get (cA := cA) ho.1
  obtain ⟨qk, h2⟩ := pw_get (cA := cA) hv.1
  rw [pcell_o hv.2 (by omega)] at h2
  have h1 : (PW cA S)[q0]? = some (a, .inl (cA 4, gN S a, .inr (.inr (.inr (.inr (gP S a)))))) := by rw [h0, pcell_r ho.2.1]
  have hw : (PW cA S).set q0 (a, .inl (cA 4, gN S a, .inr (.inr (.inr (.inr (va_up (gP S a) i.toNatClampNeg (some v))))))) = PW cA (pP S a i.toNatClampNeg (some v)) := by
    refine pw_set hD ho.1 h0 ?_ ?_
    · rw [pcell_r (S := pP S a i.toNatClampNeg (some v)) ho.2.1, show gP (pP S a i.toNatClampNeg (some v)) a = va_up (gP S a) i.toNatClampNeg (some v) from u2_updP]
    · intro b hb
      exact pcell_ne (S' := pP S a i.toNatClampNeg (some v)) rfl rfl rfl rfl rfl rfl (u2_row hb)
  refine va_astq hexec hb hK hP hD hS q0 4 qk 2 h1 rfl h2 (r := (RX2, TX2, 4)) rfl (by rw [ho.2.2]; exact hin) hdg (fun H1 locs1 a1 a2 a3 => ?_)
  rw [hw] at a1 a2
  exact kk H1 locs1 a1 a2 a3
theorem kx_astrN (hexec : p.tables.exec = Jvm.exec) (hb : c.code = cc) (hK : va_K D vwCl (ty6 cA) s) (hP : va_P D vwCl (PW cA S) H) (hD : va_D A (PW cA S)) (hS : va_S A H0 H locs) {n : Nat} (ho : isA S a 21 n) {i : Int32} (hin : vp_in i n) (hdg : decode cc pc = .ok (.aastore, 1))
    (kk : ∀ (H1 : Heap) (locs1 : List Loc), va_P D vwCl (PW cA (pP S a i.toNatClampNeg none)) H1 → va_D A (PW cA (pP S a i.toNatClampNeg none)) → va_S A H0 H1 locs1 → W p l e R s m args below meth c H1 locs1 cells slots Q (F0 m (pc + 1) ls rest)) : W p l e R s m args below meth c H locs cells slots Q (F0 m pc ls (.null :: .int i :: .ref a :: rest)) := by
  obtain ⟨q0, h0⟩ := pw_get (cA := cA) ho.1
  have h1 : (PW cA S)[q0]? = some (a, .inl (cA 4, gN S a, .inr (.inr (.inr (.inr (gP S a)))))) := by rw [h0, pcell_r ho.2.1]
  have hw : (PW cA S).set q0 (a, .inl (cA 4, gN S a, .inr (.inr (.inr (.inr (va_up (gP S a) i.toNatClampNeg none)))))) = PW cA (pP S a i.toNatClampNeg none) := by
    refine pw_set hD ho.1 h0 ?_ ?_
    · rw [pcell_r (S := pP S a i.toNatClampNeg none) ho.2.1, show gP (pP S a i.toNatClampNeg none) a = va_up (gP S a) i.toNatClampNeg none from u2_updP]
    · intro b hb
      exact pcell_ne (S' := pP S a i.toNatClampNeg none) rfl rfl rfl rfl rfl rfl (u2_row hb)
  refine va_astqN hexec hb hK hP hD hS q0 4 h1 (C := RX2) rfl (by rw [ho.2.2]; exact hin) hdg (fun H1 locs1 a1 a2 a3 => ?_)
  rw [hw] at a1 a2
  exact kk H1 locs1 a1 a2 a3
theorem kx_asts (hexec : p.tables.exec = Jvm.exec) (hb : c.code = cc) (hK : va_K D vwCl (ty6 cA) s) (hP : va_P D vwCl (PW cA S) H) (hD : va_D A (PW cA S)) (hS : va_S A H0 H locs) {n v : Nat} (ho : isA S a 22 n) (hv : isO S v 3) {i : Int32} (hin : vp_in i n) (hdg : decode cc pc = .ok (.aastore, 1))
    (kk : ∀ (H1 : Heap) (locs1 : List Loc), va_P D vwCl (PW cA (pP S a i.toNatClampNeg (some v))) H1 → va_D A (PW cA (pP S a i.toNatClampNeg (some v))) → va_S A H0 H1 locs1 → W p l e R s m args below meth c H1 locs1 cells slots Q (F0 m (pc + 1) ls rest)) : W p l e R s m args below meth c H locs cells slots Q (F0 m pc ls (.ref v :: .int i :: .ref a :: rest)) := by
  obtain ⟨q0, h0⟩ := pw_get (cA := cA) ho.1
  obtain ⟨qk, h2⟩ := pw_get (cA := cA) hv.1
  rw [pcell_o hv.2 (by omega)] at h2
  have h1 : (PW cA S)[q0]? = some (a, .inl (cA 5, gN S a, .inr (.inr (.inr (.inr (gP S a)))))) := by rw [h0, pcell_s ho.2.1]
  have hw : (PW cA S).set q0 (a, .inl (cA 5, gN S a, .inr (.inr (.inr (.inr (va_up (gP S a) i.toNatClampNeg (some v))))))) = PW cA (pP S a i.toNatClampNeg (some v)) := by
    refine pw_set hD ho.1 h0 ?_ ?_
    · rw [pcell_s (S := pP S a i.toNatClampNeg (some v)) ho.2.1, show gP (pP S a i.toNatClampNeg (some v)) a = va_up (gP S a) i.toNatClampNeg (some v) from u2_updP]
    · intro b hb
      exact pcell_ne (S' := pP S a i.toNatClampNeg (some v)) rfl rfl rfl rfl rfl rfl (u2_row hb)
  refine va_astq hexec hb hK hP hD hS q0 5 qk 3 h1 rfl h2 (r := (RX3, TX3, 18)) rfl (by rw [ho.2.2]; exact hin) hdg (fun H1 locs1 a1 a2 a3 => ?_)
  rw [hw] at a1 a2
  exact kk H1 locs1 a1 a2 a3
/-- a new object: all its numbers 0, its references null -/
theorem kx_new (hexec : p.tables.exec = Jvm.exec) (hb : c.code = cc) {own C : String} {T : u_T} {N ci index : Nat} {Ts : List Cond} (hts : ∀ w ∈ Ts, w.before args s = true) (hin : ∀ w ∈ u_ws C T N, w ∈ Ts) (ty : Nat → FieldType) (hty : ∀ k, k < N → parseFieldDescriptor (T k).2.2.1 = some (ty k)) (hown : s.vm.findClass own = some m.cls) (hcl : (Cond.classLink own index C).before args s = true) (hinst : (Cond.instantiable C N).before args s = true) (hini : (Cond.initialized C).before args s = true)
    (hK : va_K D vwCl (ty6 cA) s) (hP : va_P D vwCl (PW cA S) H) (hD : va_D A (PW cA S)) (hS : va_S A H0 H locs) (hA : ∀ q, H0.size ≤ q → A q) (hci : ci < 6) (hc : vwCl[ci]? = some (C, T, N)) (hnf : nf ci = N) (hfs : ∀ j, j < N → defaultValue (ty j) = if isR ci j = true then .null else .int 0) (hcells : cells + 1 ≤ R.cells) (hslots : slots + N ≤ R.slots) (hdg : decode cc pc = .ok (.new index, 3))
    (kk : ∀ (q : Nat) (H1 : Heap), q ∉ gL S → va_P D vwCl (PW cA (pW S q ci 0)) H1 → va_D A (PW cA (pW S q ci 0)) → va_S A H0 H1 locs →
      W p l e R s m args below meth c H1 locs (cells + 1) (slots + N) Q (F0 m (pc + 3) ls (.ref q :: rest))) : W p l e R s m args below meth c H locs cells slots Q (F0 m pc ls rest) := by
  subst hnf
  refine va_new hexec hb hts hin ty hty hown hcl hinst hini hK hP hD hS hA hc (fs := (List.range (nf ci)).map (fun j => if isR ci j = true then Value.null else .int 0)) ?_ hcells hslots hdg (fun q H1 a1 a2 a3 => ?_)
  · intro j hj
    rw [hfs j hj]
    simp [vp_V, hj]
  · have hg : pcell cA (pW S q ci 0) q = .inr (ci, (List.range (nf ci)).map (fun j => if isR ci j = true then Value.null else .int 0)) := by
      rw [pcell_o (S := pW S q ci 0) (ci := ci) up_s hci]
      refine congrArg (fun z => Sum.inr (ci, z)) ?_
      refine List.map_congr_left fun j _ => ?_
      show (if isR ci j = true then va_rf (u1 (gQ S) q (fun _ => none) q j) else Value.int (u1 (gI S) q (fun _ => 0) q j)) = _
      rw [u1_s, u1_s]; rfl
    obtain ⟨h1, h2⟩ := pw_new (g := pcell cA (pW S q ci 0)) a2 hg (fun b hb => pcell_ne (S' := pW S q ci 0) (up_ne hb) (up_ne hb) (u1_row hb) (u1_row hb) (u1_row hb) (u1_row hb) (u1_row hb))
    rw [h2] at a1 a2
    exact kk q H1 h1 a1 a2 a3
theorem kx_arrI {cI cJ : ClassId} {ty : FieldType} (h1 : va_RA s cI ty) (h2 : va_RA s cJ ty) : cI = cJ := by
  cases ty with
  | object C =>
    obtain ⟨_, _, _, _, _, e1⟩ := h1
    obtain ⟨_, _, _, _, _, e2⟩ := h2
    exact Option.some.inj (e1.symm.trans e2)
  | _ => exact Option.some.inj ((show _ = some cI from h1).symm.trans (show _ = some cJ from h2))
theorem kx_newi (hexec : p.tables.exec = Jvm.exec) (hb : c.code = cc) (harr : (Cond.arrayClass .int).before args s = true) (hK : va_K D vwCl (ty6 cA) s) (hP : va_P D vwCl (PW cA S) H) (hD : va_D A (PW cA S)) (hS : va_S A H0 H locs) (hA : ∀ q, H0.size ≤ q → A q)
    (ki : Nat) (h6 : 6 ≤ ki) (h20 : ki < 20) {n : Int32} {N' : Nat} (hn : ¬ n < 0) (hN : n.toNatClampNeg = N') (hbytes : N' * 4 ≤ 536870912) (hcells : cells + 1 ≤ R.cells) (hslots : slots + N' ≤ R.slots) (hdg : decode cc pc = .ok (.newarray .int, 2))
    (kk : ∀ (q : Nat) (H1 : Heap), q ∉ gL S → va_P D vwCl (PW cA (pW S q ki N')) H1 → va_D A (PW cA (pW S q ki N')) → va_S A H0 H1 locs →
      W p l e R s m args below meth c H1 locs (cells + 1) (slots + N') Q (F0 m (pc + 2) ls (.ref q :: rest))) : W p l e R s m args below meth c H locs cells slots Q (F0 m pc ls (.int n :: rest)) := by
  refine va_newa (atype := .int) (ty := .int) hexec hb harr rfl hK hP hD hS hA (a0 := (N', .inl (fun _ => 0))) (fun _ => rfl) hn hN hbytes hcells hslots hdg (fun q c1 H1 b0 a1 a2 a3 => ?_)
  have e : c1 = cA 0 := kx_arrI (b0.2 6 _ rfl).2 (hK.2 0 _ rfl).2
  subst e
  have hg : pcell cA (pW S q ki N') q = .inl (cA 0, N', .inl (fun _ => 0)) := by
    rw [pcell_i (S := pW S q ki N') (ci := ki) up_s h6 h20]
    rw [show gN (pW S q ki N') q = N' from up_s]
    rw [show gR (pW S q ki N') q = fun _ => 0 from by funext j; exact (show u1 (gR S) q (fun _ => 0) q j = 0 from u1_s)]
  obtain ⟨h1, h2⟩ := pw_new (g := pcell cA (pW S q ki N')) a2 hg (fun b hb => pcell_ne (S' := pW S q ki N') (up_ne hb) (up_ne hb) (u1_row hb) (u1_row hb) (u1_row hb) (u1_row hb) (u1_row hb))
  rw [h2] at a1 a2
  exact kk q H1 h1 a1 a2 a3
theorem kx_newj (hexec : p.tables.exec = Jvm.exec) (hb : c.code = cc) (harr : (Cond.arrayClass .long).before args s = true) (hK : va_K D vwCl (ty6 cA) s) (hP : va_P D vwCl (PW cA S) H) (hD : va_D A (PW cA S)) (hS : va_S A H0 H locs) (hA : ∀ q, H0.size ≤ q → A q)
    {n : Int32} {N' : Nat} (hn : ¬ n < 0) (hN : n.toNatClampNeg = N') (hbytes : N' * 8 ≤ 536870912) (hcells : cells + 1 ≤ R.cells) (hslots : slots + N' ≤ R.slots) (hdg : decode cc pc = .ok (.newarray .long, 2))
    (kk : ∀ (q : Nat) (H1 : Heap), q ∉ gL S → va_P D vwCl (PW cA (pW S q 20 N')) H1 → va_D A (PW cA (pW S q 20 N')) → va_S A H0 H1 locs →
      W p l e R s m args below meth c H1 locs (cells + 1) (slots + N') Q (F0 m (pc + 2) ls (.ref q :: rest))) : W p l e R s m args below meth c H locs cells slots Q (F0 m pc ls (.int n :: rest)) := by
  refine va_newa (atype := .long) (ty := .long) hexec hb harr rfl hK hP hD hS hA (a0 := (N', .inr (.inl (fun _ => 0)))) (fun _ => rfl) hn hN hbytes hcells hslots hdg (fun q c1 H1 b0 a1 a2 a3 => ?_)
  have e : c1 = cA 1 := kx_arrI (b0.2 6 _ rfl).2 (hK.2 1 _ rfl).2
  subst e
  have hg : pcell cA (pW S q 20 N') q = .inl (cA 1, N', .inr (.inl (fun _ => 0))) := by
    rw [pcell_j (S := pW S q 20 N') up_s]
    rw [show gN (pW S q 20 N') q = N' from up_s]
    rw [show gJ (pW S q 20 N') q = fun _ => 0 from by funext j; exact (show u1 (gJ S) q (fun _ => 0) q j = 0 from u1_s)]
  obtain ⟨h1, h2⟩ := pw_new (g := pcell cA (pW S q 20 N')) a2 hg (fun b hb => pcell_ne (S' := pW S q 20 N') (up_ne hb) (up_ne hb) (u1_row hb) (u1_row hb) (u1_row hb) (u1_row hb) (u1_row hb))
  rw [h2] at a1 a2
  exact kk q H1 h1 a1 a2 a3
theorem kx_newr (hexec : p.tables.exec = Jvm.exec) (hb : c.code = cc) {own : String} {index : Nat} (hown : s.vm.findClass own = some m.cls) (hclink : (Cond.classLink own index RX2).before args s = true) (hover : va_AO RX2 s) (hK : va_K D vwCl (ty6 cA) s) (hP : va_P D vwCl (PW cA S) H) (hD : va_D A (PW cA S)) (hS : va_S A H0 H locs) (hA : ∀ q, H0.size ≤ q → A q)
    {n : Int32} {N' : Nat} (hn : ¬ n < 0) (hN : n.toNatClampNeg = N') (hbytes : N' * 4 ≤ 536870912) (hcells : cells + 1 ≤ R.cells) (hslots : slots + N' ≤ R.slots) (hdg : decode cc pc = .ok (.anewarray index, 3))
    (kk : ∀ (q : Nat) (H1 : Heap), q ∉ gL S → va_P D vwCl (PW cA (pW S q 21 N')) H1 → va_D A (PW cA (pW S q 21 N')) → va_S A H0 H1 locs →
      W p l e R s m args below meth c H1 locs (cells + 1) (slots + N') Q (F0 m (pc + 3) ls (.ref q :: rest))) : W p l e R s m args below meth c H locs cells slots Q (F0 m pc ls (.int n :: rest)) := by
  refine va_newq (C := RX2) hexec hb hown hclink hover hK hP hD hS hA hn hN hbytes hcells hslots hdg (fun q c1 H1 b0 a1 a2 a3 => ?_)
  have e : c1 = cA 4 := kx_arrI (b0.2 6 _ rfl).2 (hK.2 4 _ rfl).2
  subst e
  have hg : pcell cA (pW S q 21 N') q = .inl (cA 4, N', .inr (.inr (.inr (.inr (fun _ => none))))) := by
    rw [pcell_r (S := pW S q 21 N') up_s]
    rw [show gN (pW S q 21 N') q = N' from up_s]
    rw [show gP (pW S q 21 N') q = fun _ => none from by funext j; exact (show u1 (gP S) q (fun _ => none) q j = none from u1_s)]
  obtain ⟨h1, h2⟩ := pw_new (g := pcell cA (pW S q 21 N')) a2 hg (fun b hb => pcell_ne (S' := pW S q 21 N') (up_ne hb) (up_ne hb) (u1_row hb) (u1_row hb) (u1_row hb) (u1_row hb) (u1_row hb))
  rw [h2] at a1 a2
  exact kk q H1 h1 a1 a2 a3
theorem kx_news (hexec : p.tables.exec = Jvm.exec) (hb : c.code = cc) {own : String} {index : Nat} (hown : s.vm.findClass own = some m.cls) (hclink : (Cond.classLink own index RX3).before args s = true) (hover : va_AO RX3 s) (hK : va_K D vwCl (ty6 cA) s) (hP : va_P D vwCl (PW cA S) H) (hD : va_D A (PW cA S)) (hS : va_S A H0 H locs) (hA : ∀ q, H0.size ≤ q → A q)
    {n : Int32} {N' : Nat} (hn : ¬ n < 0) (hN : n.toNatClampNeg = N') (hbytes : N' * 4 ≤ 536870912) (hcells : cells + 1 ≤ R.cells) (hslots : slots + N' ≤ R.slots) (hdg : decode cc pc = .ok (.anewarray index, 3))
    (kk : ∀ (q : Nat) (H1 : Heap), q ∉ gL S → va_P D vwCl (PW cA (pW S q 22 N')) H1 → va_D A (PW cA (pW S q 22 N')) → va_S A H0 H1 locs →
      W p l e R s m args below meth c H1 locs (cells + 1) (slots + N') Q (F0 m (pc + 3) ls (.ref q :: rest))) : W p l e R s m args below meth c H locs cells slots Q (F0 m pc ls (.int n :: rest)) := by
  refine va_newq (C := RX3) hexec hb hown hclink hover hK hP hD hS hA hn hN hbytes hcells hslots hdg (fun q c1 H1 b0 a1 a2 a3 => ?_)
  have e : c1 = cA 5 := kx_arrI (b0.2 6 _ rfl).2 (hK.2 5 _ rfl).2
  subst e
  have hg : pcell cA (pW S q 22 N') q = .inl (cA 5, N', .inr (.inr (.inr (.inr (fun _ => none))))) := by
    rw [pcell_s (S := pW S q 22 N') up_s]
    rw [show gN (pW S q 22 N') q = N' from up_s]
    rw [show gP (pW S q 22 N') q = fun _ => none from by funext j; exact (show u1 (gP S) q (fun _ => none) q j = none from u1_s)]
  obtain ⟨h1, h2⟩ := pw_new (g := pcell cA (pW S q 22 N')) a2 hg (fun b hb => pcell_ne (S' := pW S q 22 N') (up_ne hb) (up_ne hb) (u1_row hb) (u1_row hb) (u1_row hb) (u1_row hb) (u1_row hb))
  rw [h2] at a1 a2
  exact kk q H1 h1 a1 a2 a3
theorem kx_getiN (hexec : p.tables.exec = Jvm.exec) (hb : c.code = cc) {own C : String} {T : u_T} {N ci index : Nat} {Ts : List Cond} (hts : ∀ w ∈ Ts, w.before args s = true) (hin : ∀ w ∈ u_ws C T N, w ∈ Ts) (hown : s.vm.findClass own = some m.cls) (hK : va_K D vwCl (ty6 cA) s) (hP : va_P D vwCl (PW cA S) H) (ho : isO S a ci) (hci : ci < 6) (hc : vwCl[ci]? = some (C, T, N)) (k : Nat) (hk : k < N) (hk2 : k < nf ci) (hi : isR ci k = false) (hlink : (Cond.fieldLinkNest own index (T k).1 (T k).2.1 (T k).2.2.1 RX5).before args s = true) (hdg : decode cc pc = .ok (.getfield index, 3))
    (kk : W p l e R s m args below meth c H locs cells slots Q (F0 m (pc + 3) ls (.int (gI S a k) :: rest))) : W p l e R s m args below meth c H locs cells slots Q (F0 m pc ls (.ref a :: rest)) := by
  obtain ⟨q0, h0⟩ := pw_get (cA := cA) ho.1
  rw [pcell_o ho.2 hci] at h0
  refine va_getN hexec hb hts hin hown hK hP q0 h0 hc k hk hlink (fun _ h9 => h9) (v := .int (gI S a k)) ?_ hdg kk
  simp [hk2, pv, hi]
theorem kx_getrN (hexec : p.tables.exec = Jvm.exec) (hb : c.code = cc) {own C : String} {T : u_T} {N ci index : Nat} {Ts : List Cond} (hts : ∀ w ∈ Ts, w.before args s = true) (hin : ∀ w ∈ u_ws C T N, w ∈ Ts) (hown : s.vm.findClass own = some m.cls) (hK : va_K D vwCl (ty6 cA) s) (hP : va_P D vwCl (PW cA S) H) (ho : isO S a ci) (hci : ci < 6) (hc : vwCl[ci]? = some (C, T, N)) (k : Nat) (hk : k < N) (hk2 : k < nf ci) (hi : isR ci k = true) {r : Option Nat} (hr : gQ S a k = r) (hlink : (Cond.fieldLinkNest own index (T k).1 (T k).2.1 (T k).2.2.1 RX5).before args s = true) (hdg : decode cc pc = .ok (.getfield index, 3))
    (kk : W p l e R s m args below meth c H locs cells slots Q (F0 m (pc + 3) ls (va_rf r :: rest))) : W p l e R s m args below meth c H locs cells slots Q (F0 m pc ls (.ref a :: rest)) := by
  obtain ⟨q0, h0⟩ := pw_get (cA := cA) ho.1
  rw [pcell_o ho.2 hci] at h0
  refine va_getN hexec hb hts hin hown hK hP q0 h0 hc k hk hlink (fun _ h9 => h9) (v := va_rf r) ?_ hdg kk
  simp [hk2, pv, hi, ← hr]
theorem kx_putiN (hexec : p.tables.exec = Jvm.exec) (hb : c.code = cc) {own C : String} {T : u_T} {N ci index : Nat} {Ts : List Cond} (hts : ∀ w ∈ Ts, w.before args s = true) (hin : ∀ w ∈ u_ws C T N, w ∈ Ts) (ty0 : Nat → FieldType) (hty : ∀ k, k < N → parseFieldDescriptor (T k).2.2.1 = some (ty0 k)) (hnm : ∀ a, a < N → ∀ b, b < N → a ≠ b → (T a).2.1 ≠ (T b).2.1) (hown : s.vm.findClass own = some m.cls) (hK : va_K D vwCl (ty6 cA) s) (hP : va_P D vwCl (PW cA S) H) (hD : va_D A (PW cA S)) (hS : va_S A H0 H locs) (ho : isO S a ci) (hci : ci < 6) (hc : vwCl[ci]? = some (C, T, N)) (k : Nat) (hk : k < N) (hk2 : k < nf ci) (hi : isR ci k = false) (hlink : (Cond.fieldLinkNest own index (T k).1 (T k).2.1 (T k).2.2.1 RX5).before args s = true) (hfin : (T k).2.2.2 = false) {ty : FieldType} {x : Int32} (hd : parseFieldDescriptor (T k).2.2.1 = some ty) (hn : narrow ty (.int x) = .int x) (hfit : fits ty (.int x) = true) (hdg : decode cc pc = .ok (.putfield index, 3))
    (kk : ∀ (H1 : Heap) (locs1 : List Loc), va_P D vwCl (PW cA (pI S a k x)) H1 → va_D A (PW cA (pI S a k x)) → va_S A H0 H1 locs1 → W p l e R s m args below meth c H1 locs1 cells slots Q (F0 m (pc + 3) ls rest)) : W p l e R s m args below meth c H locs cells slots Q (F0 m pc ls (.int x :: .ref a :: rest)) := by
  obtain ⟨q0, h0⟩ := pw_get (cA := cA) ho.1
  have h1 : (PW cA S)[q0]? = some (a, .inr (ci, (List.range (nf ci)).map (pv S ci a))) := by rw [h0, pcell_o ho.2 hci]
  have hw : (PW cA S).set q0 (a, .inr (ci, ((List.range (nf ci)).map (pv S ci a)).set k (.int x))) = PW cA (pI S a k x) := by
    refine pw_set hD ho.1 h0 ?_ ?_
    · rw [pcell_o (S := pI S a k x) ho.2 hci]
      rw [map_set (g' := pv (pI S a k x) ci a)]
      · intro _; show (if isR ci k = true then va_rf (gQ S a k) else Value.int (u2 (gI S) a k x a k)) = _; rw [hi, u2_s]; rfl
      · intro j hj
        unfold pv
        rw [show gI (pI S a k x) a j = gI S a j from u2_k hj]
    · intro b hb
      exact pcell_ne (S' := pI S a k x) rfl rfl (u2_row hb) rfl rfl rfl rfl
  refine va_putN hexec hb hts hin ty0 hty hnm hown hK hP hD hS q0 h1 hc k hk hlink (fun _ h9 => h9) hfin hd hn hfit (by simp [hk2]) hdg (fun H1 locs1 a1 a2 a3 => ?_)
  rw [hw] at a1 a2
  exact kk H1 locs1 a1 a2 a3
theorem kx_putrN (hexec : p.tables.exec = Jvm.exec) (hb : c.code = cc) {own C : String} {T : u_T} {N ci index : Nat} {Ts : List Cond} (hts : ∀ w ∈ Ts, w.before args s = true) (hin : ∀ w ∈ u_ws C T N, w ∈ Ts) (ty0 : Nat → FieldType) (hty : ∀ k, k < N → parseFieldDescriptor (T k).2.2.1 = some (ty0 k)) (hnm : ∀ a, a < N → ∀ b, b < N → a ≠ b → (T a).2.1 ≠ (T b).2.1) (hown : s.vm.findClass own = some m.cls) (hK : va_K D vwCl (ty6 cA) s) (hP : va_P D vwCl (PW cA S) H) (hD : va_D A (PW cA S)) (hS : va_S A H0 H locs) (ho : isO S a ci) (hci : ci < 6) (hc : vwCl[ci]? = some (C, T, N)) (k : Nat) (hk : k < N) (hk2 : k < nf ci) (hi : isR ci k = true) (hlink : (Cond.fieldLinkNest own index (T k).1 (T k).2.1 (T k).2.2.1 RX5).before args s = true) (hfin : (T k).2.2.2 = false) {ty : FieldType} {r : Option Nat} (hd : parseFieldDescriptor (T k).2.2.1 = some ty) (hn : narrow ty (va_rf r) = va_rf r) (hfit : fits ty (va_rf r) = true) (hdg : decode cc pc = .ok (.putfield index, 3))
    (kk : ∀ (H1 : Heap) (locs1 : List Loc), va_P D vwCl (PW cA (pQ S a k r)) H1 → va_D A (PW cA (pQ S a k r)) → va_S A H0 H1 locs1 → W p l e R s m args below meth c H1 locs1 cells slots Q (F0 m (pc + 3) ls rest)) : W p l e R s m args below meth c H locs cells slots Q (F0 m pc ls (va_rf r :: .ref a :: rest)) := by
  obtain ⟨q0, h0⟩ := pw_get (cA := cA) ho.1
  have h1 : (PW cA S)[q0]? = some (a, .inr (ci, (List.range (nf ci)).map (pv S ci a))) := by rw [h0, pcell_o ho.2 hci]
  have hw : (PW cA S).set q0 (a, .inr (ci, ((List.range (nf ci)).map (pv S ci a)).set k (va_rf r))) = PW cA (pQ S a k r) := by
    refine pw_set hD ho.1 h0 ?_ ?_
    · rw [pcell_o (S := pQ S a k r) ho.2 hci]
      rw [map_set (g' := pv (pQ S a k r) ci a)]
      · intro _; show (if isR ci k = true then va_rf (u2 (gQ S) a k r a k) else Value.int (gI S a k)) = _; rw [hi, u2_s]; rfl
      · intro j hj
        unfold pv
        rw [show gQ (pQ S a k r) a j = gQ S a j from u2_k hj]
    · intro b hb
      exact pcell_ne (S' := pQ S a k r) rfl rfl rfl (u2_row hb) rfl rfl rfl
  refine va_putN hexec hb hts hin ty0 hty hnm hown hK hP hD hS q0 h1 hc k hk hlink (fun _ h9 => h9) hfin hd hn hfit (by simp [hk2]) hdg (fun H1 locs1 a1 a2 a3 => ?_)
  rw [hw] at a1 a2
  exact kk H1 locs1 a1 a2 a3
theorem kx_getiv (hexec : p.tables.exec = Jvm.exec) (hb : c.code = cc) {own C : String} {T : u_T} {N ci index : Nat} {Ts : List Cond} (hts : ∀ w ∈ Ts, w.before args s = true) (hin : ∀ w ∈ u_ws C T N, w ∈ Ts) (hown : s.vm.findClass own = some m.cls) (hK : va_K D vwCl (ty6 cA) s) (hP : va_P D vwCl (PW cA S) H) (ho : isO S a ci) (hci : ci < 6) (hc : vwCl[ci]? = some (C, T, N)) (k : Nat) (hk : k < N) (hk2 : k < nf ci) (hi : isR ci k = false) (hlink : (Cond.fieldLink own index (T k).1 (T k).2.1 (T k).2.2.1).before args s = true) {x : Int32} (hx9 : gI S a k = x) (hdg : decode cc pc = .ok (.getfield index, 3))
    (kk : W p l e R s m args below meth c H locs cells slots Q (F0 m (pc + 3) ls (.int x :: rest))) : W p l e R s m args below meth c H locs cells slots Q (F0 m pc ls (.ref a :: rest)) := by
  subst hx9
  exact kx_geti hexec hb hts hin hown hK hP ho hci hc k hk hk2 hi hlink hdg kk
theorem kx_getiNv (hexec : p.tables.exec = Jvm.exec) (hb : c.code = cc) {own C : String} {T : u_T} {N ci index : Nat} {Ts : List Cond} (hts : ∀ w ∈ Ts, w.before args s = true) (hin : ∀ w ∈ u_ws C T N, w ∈ Ts) (hown : s.vm.findClass own = some m.cls) (hK : va_K D vwCl (ty6 cA) s) (hP : va_P D vwCl (PW cA S) H) (ho : isO S a ci) (hci : ci < 6) (hc : vwCl[ci]? = some (C, T, N)) (k : Nat) (hk : k < N) (hk2 : k < nf ci) (hi : isR ci k = false) (hlink : (Cond.fieldLinkNest own index (T k).1 (T k).2.1 (T k).2.2.1 RX5).before args s = true) {x : Int32} (hx9 : gI S a k = x) (hdg : decode cc pc = .ok (.getfield index, 3))
    (kk : W p l e R s m args below meth c H locs cells slots Q (F0 m (pc + 3) ls (.int x :: rest))) : W p l e R s m args below meth c H locs cells slots Q (F0 m pc ls (.ref a :: rest)) := by
  subst hx9
  exact kx_getiN hexec hb hts hin hown hK hP ho hci hc k hk hk2 hi hlink hdg kk
theorem kx_gets (hexec : p.tables.exec = Jvm.exec) (hb : c.code = cc) {own C : String} {T : u_T} {N ci index : Nat} {Ts : List Cond} (hts : ∀ w ∈ Ts, w.before args s = true) (hin : ∀ w ∈ u_ws C T N, w ∈ Ts) (hown : s.vm.findClass own = some m.cls) (hK : va_K D vwCl (ty6 cA) s) (hP : va_P D vwCl (PW cA S) H) (ho : isO S a ci) (hci : ci < 6) (hc : vwCl[ci]? = some (C, T, N)) (k : Nat) (hk : k < N) (hk2 : k < nf ci) (hi : isR ci k = true) {r : Nat} (hr : gQ S a k = some r) (hlink : (Cond.fieldLink own index (T k).1 (T k).2.1 (T k).2.2.1).before args s = true) (hdg : decode cc pc = .ok (.getfield index, 3))
    (kk : W p l e R s m args below meth c H locs cells slots Q (F0 m (pc + 3) ls (.ref r :: rest))) : W p l e R s m args below meth c H locs cells slots Q (F0 m pc ls (.ref a :: rest)) := kx_getr hexec hb hts hin hown hK hP ho hci hc k hk hk2 hi hr hlink hdg kk
theorem kx_getz (hexec : p.tables.exec = Jvm.exec) (hb : c.code = cc) {own C : String} {T : u_T} {N ci index : Nat} {Ts : List Cond} (hts : ∀ w ∈ Ts, w.before args s = true) (hin : ∀ w ∈ u_ws C T N, w ∈ Ts) (hown : s.vm.findClass own = some m.cls) (hK : va_K D vwCl (ty6 cA) s) (hP : va_P D vwCl (PW cA S) H) (ho : isO S a ci) (hci : ci < 6) (hc : vwCl[ci]? = some (C, T, N)) (k : Nat) (hk : k < N) (hk2 : k < nf ci) (hi : isR ci k = true) (hr : gQ S a k = none) (hlink : (Cond.fieldLink own index (T k).1 (T k).2.1 (T k).2.2.1).before args s = true) (hdg : decode cc pc = .ok (.getfield index, 3))
    (kk : W p l e R s m args below meth c H locs cells slots Q (F0 m (pc + 3) ls (.null :: rest))) : W p l e R s m args below meth c H locs cells slots Q (F0 m pc ls (.ref a :: rest)) := kx_getr hexec hb hts hin hown hK hP ho hci hc k hk hk2 hi hr hlink hdg kk
theorem kx_getsN (hexec : p.tables.exec = Jvm.exec) (hb : c.code = cc) {own C : String} {T : u_T} {N ci index : Nat} {Ts : List Cond} (hts : ∀ w ∈ Ts, w.before args s = true) (hin : ∀ w ∈ u_ws C T N, w ∈ Ts) (hown : s.vm.findClass own = some m.cls) (hK : va_K D vwCl (ty6 cA) s) (hP : va_P D vwCl (PW cA S) H) (ho : isO S a ci) (hci : ci < 6) (hc : vwCl[ci]? = some (C, T, N)) (k : Nat) (hk : k < N) (hk2 : k < nf ci) (hi : isR ci k = true) {r : Nat} (hr : gQ S a k = some r) (hlink : (Cond.fieldLinkNest own index (T k).1 (T k).2.1 (T k).2.2.1 RX5).before args s = true) (hdg : decode cc pc = .ok (.getfield index, 3))
    (kk : W p l e R s m args below meth c H locs cells slots Q (F0 m (pc + 3) ls (.ref r :: rest))) : W p l e R s m args below meth c H locs cells slots Q (F0 m pc ls (.ref a :: rest)) := kx_getrN hexec hb hts hin hown hK hP ho hci hc k hk hk2 hi hr hlink hdg kk
theorem kx_getzN (hexec : p.tables.exec = Jvm.exec) (hb : c.code = cc) {own C : String} {T : u_T} {N ci index : Nat} {Ts : List Cond} (hts : ∀ w ∈ Ts, w.before args s = true) (hin : ∀ w ∈ u_ws C T N, w ∈ Ts) (hown : s.vm.findClass own = some m.cls) (hK : va_K D vwCl (ty6 cA) s) (hP : va_P D vwCl (PW cA S) H) (ho : isO S a ci) (hci : ci < 6) (hc : vwCl[ci]? = some (C, T, N)) (k : Nat) (hk : k < N) (hk2 : k < nf ci) (hi : isR ci k = true) (hr : gQ S a k = none) (hlink : (Cond.fieldLinkNest own index (T k).1 (T k).2.1 (T k).2.2.1 RX5).before args s = true) (hdg : decode cc pc = .ok (.getfield index, 3))
    (kk : W p l e R s m args below meth c H locs cells slots Q (F0 m (pc + 3) ls (.null :: rest))) : W p l e R s m args below meth c H locs cells slots Q (F0 m pc ls (.ref a :: rest)) := kx_getrN hexec hb hts hin hown hK hP ho hci hc k hk hk2 hi hr hlink hdg kk
end KX
end
section
/-! what a method over the pool finds, what it leaves, and calls of such methods -/
def TBok (U : State) : Prop := (∀ w ∈ TB, va_Nw w U) ∧ va_AO RX2 U ∧ va_AO RX3 U
def tbk (w : Cond) : Bool := match w with
  | .castable _ _ => true
  | .declares _ => true
  | .fieldLinkNest _ _ _ _ _ _ => true
  | .methodLinkNest _ _ _ _ => true
  | _ => false
theorem tb_k : ∀ w ∈ TB, tbk w = true := fun w h => List.all_eq_true.mp (show TB.all tbk = true from by decide +kernel) w h
theorem TBok.warm {s U : State} (hW : s.WarmedH U.vm) (h : TBok s) : TBok U := by
  refine ⟨?_, va_AO.moved hW.alike h.2.1, va_AO.moved hW.alike h.2.2⟩
  intro w hw
  have hk := tb_k w hw
  have h1 := h.1 w hw
  cases w <;> first
    | exact va_Nw.warmC hW h1
    | exact va_Nw.warmD hW h1
    | exact va_Nw.warmF hW h1
    | exact va_Nw.warmM hW h1
    | exact absurd hk (by decide)
    | simp [tbk] at hk
theorem TBok.same {u U : State} (h : u.vm = U.vm) (ha : u.vm.Alike U.vm) (hZ : TBok u) : TBok U := ⟨fun w hw => va_Nw.same (tb_ot w hw) h (hZ.1 w hw), va_AO.moved ha hZ.2.1, va_AO.moved ha hZ.2.2⟩
theorem TBok.use {s : State} {args : Array Value} (h : TBok s) {w : Cond} (hw : w ∈ TB) : w.before args s = true := va_Nw.use (tb_ot w hw) (h.1 w hw)
/-- what a throw needs of the world around it -/
def TXok (A : Nat → Prop) (U : State) : Prop := vx_Zq Bundle.tN "UNASSIGNED_STACK" Bundle.steD A U U.heap ∧ vx_Zq Bundle.tN "SUPPRESSED_SENTINEL" Bundle.listD A U U.heap ∧ ∀ q ∈ kStr, ∃ a, vk_R RX5 q.1 q.2 a U
theorem TXok.at {s U : State} {A A' : Nat → Prop} {H : Heap} {locs : List Loc} (h : TXok A s) (hS : va_S A s.heap H locs) (hA : ∀ q, A' q → A q) (hU : U.heap = H) (hW : s.WarmedH U.vm) : TXok A' U := by
  subst hU
  refine ⟨((h.1.kept hS.2.1).moved hW.alike).narrow hA, ((h.2.1.kept hS.2.1).moved hW.alike).narrow hA, fun q hq => ?_⟩
  obtain ⟨a, ha⟩ := h.2.2 q hq
  exact ⟨a, vk_R.warm hW ha⟩
theorem TXok.call {A : Nat → Prop} {U : State} {g : JFrame} {mk : MethodId} {a : Array Value} (h : TXok A U) : TXok A (U.calling g mk a) := by
  refine ⟨vx_Zq.moved (u := U) (U := U.calling g mk a) (Vm.Alike.refl U.vm) h.1, vx_Zq.moved (u := U) (U := U.calling g mk a) (Vm.Alike.refl U.vm) h.2.1, fun q hq => ?_⟩
  obtain ⟨z, hz⟩ := h.2.2 q hq
  exact ⟨z, vk_R.same (u := U) rfl hz⟩
abbrev kPre (D : va_G) (cA : Nat → ClassId) (ws : va_W) (sz : Nat) (U : State) : Prop := U.heap.size = sz ∧ va_P D vwCl ws U.heap ∧ va_K D vwCl (ty6 cA) U ∧ va_D (fun _ => True) ws ∧ TBok U
abbrev kPreX (D : va_G) (cA : Nat → ClassId) (ws : va_W) (sz : Nat) (U : State) : Prop := kPre D cA ws sz U ∧ TXok (va_A ws sz) U
abbrev kB (D : va_G) (cA : Nat → ClassId) (A : Nat → Prop) (ws : va_W) (t : State) : Prop := va_P D vwCl ws t.heap ∧ va_K D vwCl (ty6 cA) t ∧ va_D A ws
theorem kPre.call {D : va_G} {cA : Nat → ClassId} {ws : va_W} {sz : Nat} {U : State} {g : JFrame} {mk : MethodId} {a : Array Value} (h : kPre D cA ws sz U) : kPre D cA ws sz (U.calling g mk a) := ⟨h.1, h.2.1, va_K.moved (u := U) (U := U.calling g mk a) (Vm.Alike.refl U.vm) h.2.2.1, h.2.2.2.1, TBok.same (u := U) (U := U.calling g mk a) rfl (Vm.Alike.refl U.vm) h.2.2.2.2⟩
theorem kPre.blind {D : va_G} {cA : Nat → ClassId} {ws : va_W} {sz : Nat} {av : List Value} : FrameBlind (va_Pc av (kPre D cA ws sz)) := fun _ _ _ _ q => ⟨q.1, q.2.call⟩
theorem kPreX.blind {D : va_G} {cA : Nat → ClassId} {ws : va_W} {sz : Nat} {av : List Value} : FrameBlind (va_Pc av (kPreX D cA ws sz)) := fun _ _ _ _ q => ⟨q.1, q.2.1.call, q.2.2.call⟩
section KC
variable {p : Program} {l : Launch} {e : Env} {R : Room} {s : State} {m : MethodId} {args : Array Value} {below : List Frame} {meth : Method} {c : Code} {H : Heap} {locs : List Loc} {cells slots mc ms : Nat} {Q : State → Prop}
variable {cc : ByteArray} {pc : Nat} {ls : Array Slot} {st0 rest : List Value} {D : va_G} {A : Nat → Prop} {a b : Nat} {H0 : Heap} {cA : Nat → ClassId} {ws : va_W} {As : List Value} {as : Array Value}
theorem kp_at (hK : va_K D vwCl (ty6 cA) s) (hP : va_P D vwCl ws H) (hD : va_D A ws) (hTB : TBok s) {U : State} (hU : U.heap = H) (hW : s.WarmedH U.vm) : kPre D cA ws H.size U := by
  subst hU
  exact ⟨rfl, hP, va_K.moved hW.alike hK, hD.weaken (fun _ _ _ _ => trivial), hTB.warm hW⟩
theorem kp_A (hD : va_D A ws) (hS : va_S A H0 H locs) (hA : ∀ q, H0.size ≤ q → A q) : ∀ q, va_A ws H.size q → A q := fun q h => h.elim (fun ⟨k, e, hk⟩ => hD.2 k _ hk) (fun h => hA q (Nat.le_trans hS.1 h))
theorem kp_rc {S : Pool} (hK : va_K D vwCl (ty6 cA) s) (hP : va_P D vwCl (PW cA S) H) {ci N : Nat} {C : String} {T : u_T} (ho : isO S b ci) (hci : ci < 6) (hc : vwCl[ci]? = some (C, T, N)) : ∃ cell : Cell, H[b]? = some cell ∧ cell.vm.isStatics = false ∧ s.vm.findClass C = some cell.cls := by
  obtain ⟨q0, h0⟩ := pw_get (cA := cA) ho.1
  rw [pcell_o ho.2 hci] at h0
  exact va_recv hK hP hc h0
theorem kp_V (hK : va_K D vwCl (ty6 cA) s) (hP : va_P D vwCl ws H) (hD : va_D A ws) (hTB : TBok s) {C : String} (hrc : ∃ cell : Cell, H[b]? = some cell ∧ cell.vm.isStatics = false ∧ s.vm.findClass C = some cell.cls) : PreV s H C b (va_Pc (.ref b :: As) (kPre D cA ws H.size)) As :=
  ⟨kPre.blind, hrc, fun _ hU hW => ⟨rfl, kp_at hK hP hD hTB hU hW⟩⟩
theorem kp_S (hK : va_K D vwCl (ty6 cA) s) (hP : va_P D vwCl ws H) (hD : va_D A ws) (hTB : TBok s) : PreS s H (va_Pc As (kPre D cA ws H.size)) As :=
  ⟨kPre.blind, fun _ hU hW => ⟨rfl, kp_at hK hP hD hTB hU hW⟩⟩
theorem kp_VX (hK : va_K D vwCl (ty6 cA) s) (hP : va_P D vwCl ws H) (hD : va_D A ws) (hTB : TBok s) (hTX : TXok A s) (hS : va_S A s.heap H locs) (hA : ∀ q, s.heap.size ≤ q → A q) {C : String} (hrc : ∃ cell : Cell, H[b]? = some cell ∧ cell.vm.isStatics = false ∧ s.vm.findClass C = some cell.cls) : PreV s H C b (va_Pc (.ref b :: As) (kPreX D cA ws H.size)) As :=
  ⟨kPreX.blind, hrc, fun _ hU hW => ⟨rfl, kp_at hK hP hD hTB hU hW, hTX.at hS (kp_A hD hS hA) hU hW⟩⟩
theorem kp_SX (hK : va_K D vwCl (ty6 cA) s) (hP : va_P D vwCl ws H) (hD : va_D A ws) (hTB : TBok s) (hTX : TXok A s) (hS : va_S A s.heap H locs) (hA : ∀ q, s.heap.size ≤ q → A q) : PreS s H (va_Pc As (kPreX D cA ws H.size)) As :=
  ⟨kPreX.blind, fun _ hU hW => ⟨rfl, kp_at hK hP hD hTB hU hW, hTX.at hS (kp_A hD hS hA) hU hW⟩⟩
/-- a call that answers an int -/
theorem kc_i {X : Type} {w : X → va_W} {φ : Int32 → X → Prop} (hr : va_Run p l e R s m args below meth c H locs cells slots mc ms (F0 m pc ls st0) rest (va_Qi φ (fun x => kB D cA (va_A ws H.size) (w x)) (va_A ws H.size) as) (va_A ws H.size)) (hD : va_D A ws) (hS : va_S A H0 H locs) (hA : ∀ q, H0.size ≤ q → A q)
    (kk : ∀ (r : Int32) (x : X) (H1 : Heap) (locs1 : List Loc), φ r x → va_P D vwCl (w x) H1 → va_D A (w x) → va_S A H0 H1 locs1 → W p l e R s m args below meth c H1 locs1 (cells + mc) (slots + ms) Q (F0 m (pc + 3) ls (.int r :: rest))) : W p l e R s m args below meth c H locs cells slots Q (F0 m pc ls st0) := by
  have hF := kp_A hD hS hA
  refine va_calli hr hS (fun q _ h => hF q h) hF (fun r u t H1 locs1 ht hvm hw hB hz1 hk1 hS1 => ?_)
  obtain ⟨b1, b2, b3⟩ := hB
  rw [ht] at b1
  exact kk r u H1 locs1 hw b1 (b3.weaken (fun _ _ _ h => hF _ h)) hS1
theorem kc_l {X : Type} {w : X → va_W} {φ : Int64 → X → Prop} (hr : va_Run p l e R s m args below meth c H locs cells slots mc ms (F0 m pc ls st0) rest (va_Ql φ (fun x => kB D cA (va_A ws H.size) (w x)) (va_A ws H.size) as) (va_A ws H.size)) (hD : va_D A ws) (hS : va_S A H0 H locs) (hA : ∀ q, H0.size ≤ q → A q)
    (kk : ∀ (r : Int64) (x : X) (H1 : Heap) (locs1 : List Loc), φ r x → va_P D vwCl (w x) H1 → va_D A (w x) → va_S A H0 H1 locs1 → W p l e R s m args below meth c H1 locs1 (cells + mc) (slots + ms) Q (F0 m (pc + 3) ls (.long r :: rest))) : W p l e R s m args below meth c H locs cells slots Q (F0 m pc ls st0) := by
  have hF := kp_A hD hS hA
  refine va_calll hr hS (fun q _ h => hF q h) hF (fun r u t H1 locs1 ht hvm hw hB hz1 hk1 hS1 => ?_)
  obtain ⟨b1, b2, b3⟩ := hB
  rw [ht] at b1
  exact kk r u H1 locs1 hw b1 (b3.weaken (fun _ _ _ h => hF _ h)) hS1
theorem kc_v {X : Type} {w : X → va_W} {φ : X → Prop} (hr : va_Run p l e R s m args below meth c H locs cells slots mc ms (F0 m pc ls st0) rest (va_Qv φ (fun x => kB D cA (va_A ws H.size) (w x)) (va_A ws H.size) as) (va_A ws H.size)) (hD : va_D A ws) (hS : va_S A H0 H locs) (hA : ∀ q, H0.size ≤ q → A q)
    (kk : ∀ (x : X) (H1 : Heap) (locs1 : List Loc), φ x → va_P D vwCl (w x) H1 → va_D A (w x) → va_S A H0 H1 locs1 → W p l e R s m args below meth c H1 locs1 (cells + mc) (slots + ms) Q (F0 m (pc + 3) ls rest)) : W p l e R s m args below meth c H locs cells slots Q (F0 m pc ls st0) := by
  have hF := kp_A hD hS hA
  refine va_callv hr hS (fun q _ h => hF q h) hF (fun u t H1 locs1 ht hvm hw hB hz1 hk1 hS1 => ?_)
  obtain ⟨b1, b2, b3⟩ := hB
  rw [ht] at b1
  exact kk u H1 locs1 hw b1 (b3.weaken (fun _ _ _ h => hF _ h)) hS1
theorem kc_q {X : Type} {w : X → va_W} {φ : Option Nat → X → Prop} (hr : va_Run p l e R s m args below meth c H locs cells slots mc ms (F0 m pc ls st0) rest (va_Qq φ (fun x => kB D cA (va_A ws H.size) (w x)) (va_A ws H.size) as) (va_A ws H.size)) (hD : va_D A ws) (hS : va_S A H0 H locs) (hA : ∀ q, H0.size ≤ q → A q)
    (kk : ∀ (r : Option Nat) (x : X) (H1 : Heap) (locs1 : List Loc), φ r x → va_P D vwCl (w x) H1 → va_D A (w x) → va_S A H0 H1 locs1 → W p l e R s m args below meth c H1 locs1 (cells + mc) (slots + ms) Q (F0 m (pc + 3) ls (va_rf r :: rest))) : W p l e R s m args below meth c H locs cells slots Q (F0 m pc ls st0) := by
  have hF := kp_A hD hS hA
  refine va_callq hr hS (fun q _ h => hF q h) hF (fun r u t H1 locs1 ht hvm hw hB hz1 hk1 hS1 => ?_)
  obtain ⟨b1, b2, b3⟩ := hB
  rw [ht] at b1
  exact kk r u H1 locs1 hw b1 (b3.weaken (fun _ _ _ h => hF _ h)) hS1
/-- the world where a method has thrown E0, nothing changed -/
def kXC (D : va_G) (cA : Nat → ClassId) (ws : va_W) (E0 : String) (A : Nat → Prop) : String → State → State → Prop := vx_X (fun _ : Unit => True) (fun E _ t => E = E0 ∧ kB D cA A ws t) A
abbrev kNo : Array Value → State → Outcome → State → Prop := fun _ _ _ _ => False
/-- a call of a method that throws, here in any case -/
theorem kt_call {E0 : String} (hr : vx_Run p l e R s m args below meth c H locs cells slots mc ms (F0 m pc ls st0) rest (kNo as) (kXC D cA ws E0 (va_A ws H.size)) (va_A ws H.size)) (hD : va_D A ws) (hS : va_S A H0 H locs) (hA : ∀ q, H0.size ≤ q → A q)
    (kk : ∀ (ce : Cell) (q9 : Addr) (H1 : Heap) (locs1 : List Loc), va_P D vwCl ws H1 → va_D A ws → va_S A H0 H1 locs1 → H1[q9]? = some ce → ce.vm = .none → s.vm.findClass E0 = some ce.cls → vx_W p l e R s m args below meth c H1 locs1 (cells + mc) (slots + ms) Q (F0 m pc ls rest) q9) : W p l e R s m args below meth c H locs cells slots Q (F0 m pc ls st0) := by
  have hF := kp_A hD hS hA
  intro T hT X
  rcases hr T hT X with ⟨v, st₀, t, T', L, h0, X', hL, e1, e2, hno, st⟩ | ⟨q, st₀, t, T', L, E, ce, h0, X', hL, e1, e2, ⟨u, hp, ⟨rfl, b1, b2, b3⟩, hFr⟩, hce, hcv, hcl, st⟩
  · exact hno.elim
  · obtain ⟨k1, k2, k3⟩ := vx_keep h0 e1 hS (fun q _ h => hF q h) hF hL hFr
    obtain ⟨t2, a1, z1⟩ := kk ce q T'.heap (locs ++ L) (by rw [e1]; exact b1) (b3.weaken (fun _ _ _ h => hF _ h)) k3 (by rw [e1]; exact hce) hcv hcl T' rfl X'
    exact ⟨t2, st.trans a1, z1⟩
/-- it leaves this method too -/
theorem kt_out {E0 : String} {ce : Cell} {q : Addr} {Qc : Array Value → State → Outcome → State → Prop} (hTab : ∀ x ∈ c.exceptionTable.toList, False) (hlocks : meth.locks = false) (hK : va_K D vwCl (ty6 cA) s) (hP : va_P D vwCl ws H) (hD : va_D A ws) (hS : va_S A s.heap H locs) (hce : H[q]? = some ce) (hcv : ce.vm = .none) (hcl : s.vm.findClass E0 = some ce.cls) (hc : cells ≤ mc) (hs : slots ≤ ms) :
    vx_W p l e R s m args below meth c H locs cells slots (vx_MQ below Qc (kXC D cA ws E0 A) args s mc ms A) (F0 m pc ls rest) q :=
  vx_out (fun x hx => (hTab x hx).elim) hlocks hce hcv hcl (fun t ht ha => ⟨(), trivial, ⟨rfl, by rw [ht]; exact hP, va_K.moved ha hK, hD⟩, hS.F ht⟩) hS.2.2 hc hs
/-- throw new E(text) -/
theorem kt_new {Qc : Array Value → State → Outcome → State → Prop} {E0 text : String} {ik is ic : Nat} (hexec : p.tables.exec = Jvm.exec) (hb : c.code = cc) (hl : l.stackTraces = false) (hown : s.vm.findClass RX5 = some m.cls)
    (hE : E0 = "java/lang/IllegalArgumentException" ∨ E0 = "java/lang/IllegalStateException" ∨ E0 = "java/lang/IndexOutOfBoundsException") (hk : (Cond.classLink RX5 ik E0).before args s = true) (hini : (Cond.initialized E0).before args s = true) (hst : (is, text) ∈ kStr)
    (hat : ∀ w ∈ (vx_atS RX5 ic E0 ["java/lang/RuntimeException", "java/lang/Exception"]).filter goodWord, w.before args s = true) (han : ∀ w ∈ (vx_atS RX5 ic E0 ["java/lang/RuntimeException", "java/lang/Exception"]).filter (fun w => !goodWord w), w ∈ TB)
    (hgood : ∀ w ∈ Cond.classLink RX5 ik E0 :: Cond.initialized E0 :: vx_atS RX5 ic E0 ["java/lang/RuntimeException", "java/lang/Exception"], vx_ot w = true)
    (hTB : TBok s) (hTX : TXok A s) (hK : va_K D vwCl (ty6 cA) s) (hP : va_P D vwCl ws H) (hD : va_D A ws) (hS : va_S A s.heap H locs) (hsize : ls.size = c.maxLocals)
    (d0 : decode cc pc = .ok (.new ik, 3)) (d3 : decode cc (pc + 3) = .ok (.dup, 1)) (d4 : decode cc (pc + 4) = .ok (.ldc is, 2)) (d6 : decode cc (pc + 6) = .ok (.invokespecial ic, 3)) (d9 : decode cc (pc + 9) = .ok (.athrow, 1))
    (hTab : ∀ x ∈ c.exceptionTable.toList, False) (hRf : 5 < R.frames) (hRl : (rest.map fun v => v.category).sum + 82 ≤ R.locals) (hRc : cells + 1 ≤ R.cells) (hRs : slots + 6 ≤ R.slots) (hlocks : meth.locks = false) (hc : cells + 1 ≤ mc) (hs : slots + 6 ≤ ms) :
    W p l e R s m args below meth c H locs cells slots (vx_MQ below Qc (kXC D cA ws E0 A) args s mc ms A) (F0 m pc ls rest) := by
  obtain ⟨sa, hsa⟩ := hTX.2.2 _ hst
  have hfit : Bundle.fit E0 = true := by rcases hE with rfl | rfl | rfl <;> decide +kernel
  refine vx_throwS (own := RX5) (names := ["java/lang/RuntimeException", "java/lang/Exception"]) (A := A) hexec hb hl hown hfit (by decide +kernel) hk hini hsa (vx_hat hat han (fun w hw => hTB.use hw)) hgood hTX.1 hTX.2.1 hS hsize d0 d3 d4 d6 d9 (fun x hx => (hTab x hx).elim) hRf hRl hRc hRs hlocks (fun t ha hz hq => ?_) hS.2.2 hc hs
  refine ⟨(), trivial, ⟨rfl, hP.kept (fun k q hk => hq q.1 ((hP k q hk).lt)), va_K.moved ha hK, hD⟩, Nat.le_trans hS.1 hz, fun q h1 h2 => (hq q (Nat.lt_of_lt_of_le h1 hS.1)).trans (hS.2.1 q h1 h2)⟩
/-- the same, the text by a wide index -/
theorem kt_newW {Qc : Array Value → State → Outcome → State → Prop} {E0 text : String} {ik is ic : Nat} (hexec : p.tables.exec = Jvm.exec) (hb : c.code = cc) (hl : l.stackTraces = false) (hown : s.vm.findClass RX5 = some m.cls)
    (hE : E0 = "java/lang/IllegalArgumentException" ∨ E0 = "java/lang/IllegalStateException" ∨ E0 = "java/lang/IndexOutOfBoundsException") (hk : (Cond.classLink RX5 ik E0).before args s = true) (hini : (Cond.initialized E0).before args s = true) (hst : (is, text) ∈ kStr)
    (hat : ∀ w ∈ (vx_atS RX5 ic E0 ["java/lang/RuntimeException", "java/lang/Exception"]).filter goodWord, w.before args s = true) (han : ∀ w ∈ (vx_atS RX5 ic E0 ["java/lang/RuntimeException", "java/lang/Exception"]).filter (fun w => !goodWord w), w ∈ TB)
    (hgood : ∀ w ∈ Cond.classLink RX5 ik E0 :: Cond.initialized E0 :: vx_atS RX5 ic E0 ["java/lang/RuntimeException", "java/lang/Exception"], vx_ot w = true)
    (hTB : TBok s) (hTX : TXok A s) (hK : va_K D vwCl (ty6 cA) s) (hP : va_P D vwCl ws H) (hD : va_D A ws) (hS : va_S A s.heap H locs) (hsize : ls.size = c.maxLocals)
    (d0 : decode cc pc = .ok (.new ik, 3)) (d3 : decode cc (pc + 3) = .ok (.dup, 1)) (d4 : decode cc (pc + 4) = .ok (.ldc_w is, 3)) (d7 : decode cc (pc + 7) = .ok (.invokespecial ic, 3)) (d10 : decode cc (pc + 10) = .ok (.athrow, 1))
    (hTab : ∀ x ∈ c.exceptionTable.toList, False) (hRf : 5 < R.frames) (hRl : (rest.map fun v => v.category).sum + 82 ≤ R.locals) (hRc : cells + 1 ≤ R.cells) (hRs : slots + 6 ≤ R.slots) (hlocks : meth.locks = false) (hc : cells + 1 ≤ mc) (hs : slots + 6 ≤ ms) :
    W p l e R s m args below meth c H locs cells slots (vx_MQ below Qc (kXC D cA ws E0 A) args s mc ms A) (F0 m pc ls rest) := by
  obtain ⟨sa, hsa⟩ := hTX.2.2 _ hst
  have hfit : Bundle.fit E0 = true := by rcases hE with rfl | rfl | rfl <;> decide +kernel
  refine vx_throwSW (own := RX5) (names := ["java/lang/RuntimeException", "java/lang/Exception"]) (A := A) hexec hb hl hown hfit (by decide +kernel) hk hini hsa (vx_hat hat han (fun w hw => hTB.use hw)) hgood hTX.1 hTX.2.1 hS hsize d0 d3 d4 d7 d10 (fun x hx => (hTab x hx).elim) hRf hRl hRc hRs hlocks (fun t ha hz hq => ?_) hS.2.2 hc hs
  refine ⟨(), trivial, ⟨rfl, hP.kept (fun k q hk => hq q.1 ((hP k q hk).lt)), va_K.moved ha hK, hD⟩, Nat.le_trans hS.1 hz, fun q h1 h2 => (hq q (Nat.lt_of_lt_of_le h1 hS.1)).trans (hS.2.1 q h1 h2)⟩
end KC
end
section
/-! THE REFERENCE'S CELLS: its object at am, its rows at r 4 .. (by the place of their field); the numbers Sx, the rows Rx -/
abbrev MSt : Type := (Nat → Int32) × (Nat → Nat → Int32)
def isRm (k : Nat) : Bool := (4 ≤ k && k ≤ 21) || (23 ≤ k && k ≤ 27)
def isZm (k : Nat) : Bool := k == 10 || k == 11 || k == 27
def mLen (k : Nat) : Nat := if k = 6 then 32 else if 18 ≤ k ∧ k ≤ 21 then 40 else if 23 ≤ k then 100 else 8
def mKeys : List Nat := [4, 5, 6, 7, 8, 9, 10, 11, 12, 13, 14, 15, 16, 17, 18, 19, 20, 21, 23, 24, 25, 26, 27]
def mPos (k : Nat) : Nat := if k < 22 then k - 3 else k - 4
def mv (r : Nat → Nat) (Sx : Nat → Int32) (k : Nat) : Value := if isRm k = true then .ref (r k) else .int (Sx k)
def mrow (cA : Nat → ClassId) (Rx : Nat → Nat → Int32) (k : Nat) : va_E := .inl (if isZm k = true then cA 2 else cA 0, mLen k, .inl (Rx k))
def wM (cA : Nat → ClassId) (am : Nat) (r : Nat → Nat) (M : MSt) : va_W := (am, .inr (6, (List.range 29).map (mv r M.1))) :: mKeys.map (fun k => (r k, mrow cA M.2 k))
abbrev mS (M : MSt) (k : Nat) (v : Int32) : MSt := (va_up M.1 k v, M.2)
abbrev mR (M : MSt) (k i : Nat) (v : Int32) : MSt := (M.1, va_up M.2 k (upd (M.2 k) i v))
theorem mk_pos {k : Nat} (h : isRm k = true) : mKeys[mPos k - 1]? = some k ∧ 1 ≤ mPos k := by
  have h1 : ∀ k, k < 28 → isRm k = true → mKeys[mPos k - 1]? = some k ∧ 1 ≤ mPos k := by decide +kernel
  refine h1 k ?_ h
  rcases Nat.lt_or_ge k 28 with q | q
  · exact q
  · simp [isRm] at h; omega
theorem wM_0 {cA : Nat → ClassId} {am : Nat} {r : Nat → Nat} {M : MSt} : (wM cA am r M)[0]? = some (am, .inr (6, (List.range 29).map (mv r M.1))) := rfl
theorem wM_k {cA : Nat → ClassId} {am : Nat} {r : Nat → Nat} {M : MSt} {k : Nat} (h : isRm k = true) : (wM cA am r M)[mPos k]? = some (r k, mrow cA M.2 k) := by
  obtain ⟨h1, h2⟩ := mk_pos h
  unfold wM
  obtain ⟨n, hn⟩ : ∃ n, mPos k = n + 1 := ⟨mPos k - 1, by omega⟩
  rw [hn, List.getElem?_cons_succ, List.getElem?_map]
  rw [hn] at h1
  rw [show mKeys[n]? = some k from h1]
  rfl
theorem mk_inj : ∀ (i j : Nat), ∀ k, mKeys[i]? = some k → mKeys[j]? = some k → i = j := by
  have h : ∀ i, i < 23 → ∀ j, j < 23 → mKeys[i]? = mKeys[j]? → i = j := by decide +kernel
  intro i j k hi hj
  have h1 : i < 23 := (List.getElem?_eq_some_iff.mp hi).1
  have h2 : j < 23 := (List.getElem?_eq_some_iff.mp hj).1
  exact h i h1 j h2 (hi.trans hj.symm)
theorem wM_set0 {cA : Nat → ClassId} {am : Nat} {r : Nat → Nat} {M : MSt} {k : Nat} {v : Int32} (h : isRm k = false) : (wM cA am r M).set 0 (am, .inr (6, ((List.range 29).map (mv r M.1)).set k (.int v))) = wM cA am r (mS M k v) := by
  unfold wM
  rw [List.set_cons_zero, map_set (g' := mv r (va_up M.1 k v))]
  · intro _; simp [mv, h, va_up]
  · intro j hj; simp [mv, va_up, hj]
theorem wM_setk {cA : Nat → ClassId} {am : Nat} {r : Nat → Nat} {M : MSt} {k : Nat} {f : Nat → Int32} (h : isRm k = true) : (wM cA am r M).set (mPos k) (r k, .inl (if isZm k = true then cA 2 else cA 0, mLen k, .inl f)) = wM cA am r (M.1, va_up M.2 k f) := by
  obtain ⟨h1, h2⟩ := mk_pos h
  unfold wM
  obtain ⟨n, hn⟩ : ∃ n, mPos k = n + 1 := ⟨mPos k - 1, by omega⟩
  rw [hn] at h1
  have h3 : mKeys[n]? = some k := h1
  rw [hn, List.set_cons_succ]
  refine congrArg (fun z => (am, _) :: z) ?_
  apply List.ext_getElem?
  intro j
  rw [List.getElem?_set, List.getElem?_map, List.getElem?_map]
  by_cases hj : n = j
  · subst hj
    have h4 : n < mKeys.length := (List.getElem?_eq_some_iff.mp h3).1
    rw [if_pos rfl, if_pos (by rw [List.length_map]; exact h4), h3]
    simp [mrow, va_up]
  · rw [if_neg hj]
    cases hq : mKeys[j]? with
    | none => rfl
    | some q =>
      have : q ≠ k := fun e => hj (mk_inj n j k h3 (by rw [hq, e]))
      simp [mrow, va_up, this]
section KM
variable {p : Program} {l : Launch} {e : Env} {R : Room} {s : State} {m : MethodId} {args : Array Value} {below : List Frame} {meth : Method} {c : Code} {H : Heap} {locs : List Loc} {cells slots : Nat} {Q : State → Prop}
variable {cc : ByteArray} {pc : Nat} {ls : Array Slot} {rest : List Value} {D : va_G} {A : Nat → Prop} {am : Nat} {r : Nat → Nat} {H0 : Heap} {cA : Nat → ClassId} {M : MSt}
theorem km_rc (hK : va_K D vwCl (ty6 cA) s) (hP : va_P D vwCl (wM cA am r M) H) : ∃ cell : Cell, H[am]? = some cell ∧ cell.vm.isStatics = false ∧ s.vm.findClass RX6 = some cell.cls := va_recv hK hP (ci := 6) (q := (RX6, TX6, 29)) rfl wM_0
theorem km_geti (hexec : p.tables.exec = Jvm.exec) (hb : c.code = cc) (htT : ∀ w ∈ TT, w.before args s = true) (hown : s.vm.findClass RX6 = some m.cls) (hK : va_K D vwCl (ty6 cA) s) (hP : va_P D vwCl (wM cA am r M) H) {index : Nat} (k : Nat) (hk : k < 29) (hi : isRm k = false) (hlink : (Cond.fieldLink RX6 index (TX6 k).1 (TX6 k).2.1 (TX6 k).2.2.1).before args s = true) (hdg : decode cc pc = .ok (.getfield index, 3))
    (kk : W p l e R s m args below meth c H locs cells slots Q (F0 m (pc + 3) ls (.int (M.1 k) :: rest))) : W p l e R s m args below meth c H locs cells slots Q (F0 m pc ls (.ref am :: rest)) := by
  refine va_get hexec hb htT m_u_X6 hown hK hP 0 wM_0 rfl k hk hlink (fun _ h9 => h9) (v := .int (M.1 k)) ?_ hdg kk
  simp [hk, mv, hi]
theorem km_getr (hexec : p.tables.exec = Jvm.exec) (hb : c.code = cc) (htT : ∀ w ∈ TT, w.before args s = true) (hown : s.vm.findClass RX6 = some m.cls) (hK : va_K D vwCl (ty6 cA) s) (hP : va_P D vwCl (wM cA am r M) H) {index : Nat} (k : Nat) (hk : k < 29) (hi : isRm k = true) (hlink : (Cond.fieldLink RX6 index (TX6 k).1 (TX6 k).2.1 (TX6 k).2.2.1).before args s = true) (hdg : decode cc pc = .ok (.getfield index, 3))
    (kk : W p l e R s m args below meth c H locs cells slots Q (F0 m (pc + 3) ls (.ref (r k) :: rest))) : W p l e R s m args below meth c H locs cells slots Q (F0 m pc ls (.ref am :: rest)) := by
  refine va_get hexec hb htT m_u_X6 hown hK hP 0 wM_0 rfl k hk hlink (fun _ h9 => h9) (v := .ref (r k)) ?_ hdg kk
  simp [hk, mv, hi]
theorem km_puti (hexec : p.tables.exec = Jvm.exec) (hb : c.code = cc) (htT : ∀ w ∈ TT, w.before args s = true) (hown : s.vm.findClass RX6 = some m.cls) (hK : va_K D vwCl (ty6 cA) s) (hP : va_P D vwCl (wM cA am r M) H) (hD : va_D A (wM cA am r M)) (hS : va_S A H0 H locs) {index : Nat} (k : Nat) (hk : k < 29) (hi : isRm k = false) (hlink : (Cond.fieldLink RX6 index (TX6 k).1 (TX6 k).2.1 (TX6 k).2.2.1).before args s = true) (hfin : (TX6 k).2.2.2 = false) (hd : parseFieldDescriptor (TX6 k).2.2.1 = some .int) {x : Int32} (hdg : decode cc pc = .ok (.putfield index, 3))
    (kk : ∀ (H1 : Heap) (locs1 : List Loc), va_P D vwCl (wM cA am r (mS M k x)) H1 → va_D A (wM cA am r (mS M k x)) → va_S A H0 H1 locs1 → W p l e R s m args below meth c H1 locs1 cells slots Q (F0 m (pc + 3) ls rest)) : W p l e R s m args below meth c H locs cells slots Q (F0 m pc ls (.int x :: .ref am :: rest)) := by
  refine va_put hexec hb htT m_u_X6 tyX6 tyX6_ok nmX6 hown hK hP hD hS 0 wM_0 rfl k hk hlink (fun _ h9 => h9) hfin hd rfl rfl (by simp [hk]) hdg (fun H1 locs1 a1 a2 a3 => ?_)
  rw [wM_set0 hi] at a1 a2
  exact kk H1 locs1 a1 a2 a3
theorem km_iald (hexec : p.tables.exec = Jvm.exec) (hb : c.code = cc) (hK : va_K D vwCl (ty6 cA) s) (hP : va_P D vwCl (wM cA am r M) H) (k : Nat) (hk : isRm k = true) (hz : isZm k = false) {i : Int32} (hin : vp_in i (mLen k)) (hdg : decode cc pc = .ok (.iaload, 1))
    (kk : W p l e R s m args below meth c H locs cells slots Q (F0 m (pc + 1) ls (.int (M.2 k i.toNatClampNeg) :: rest))) : W p l e R s m args below meth c H locs cells slots Q (F0 m pc ls (.int i :: .ref (r k) :: rest)) := by
  have h := wM_k (cA := cA) (am := am) (r := r) (M := M) hk
  unfold mrow at h
  rw [hz] at h
  exact va_iald hexec hb hK hP (mPos k) 0 h rfl hin hdg kk
theorem km_zald (hexec : p.tables.exec = Jvm.exec) (hb : c.code = cc) (hK : va_K D vwCl (ty6 cA) s) (hP : va_P D vwCl (wM cA am r M) H) (k : Nat) (hk : isRm k = true) (hz : isZm k = true) {i : Int32} (hin : vp_in i (mLen k)) (hdg : decode cc pc = .ok (.baload, 1))
    (kk : W p l e R s m args below meth c H locs cells slots Q (F0 m (pc + 1) ls (.int (M.2 k i.toNatClampNeg) :: rest))) : W p l e R s m args below meth c H locs cells slots Q (F0 m pc ls (.int i :: .ref (r k) :: rest)) := by
  have h := wM_k (cA := cA) (am := am) (r := r) (M := M) hk
  unfold mrow at h
  rw [hz] at h
  exact va_zald hexec hb hK hP (mPos k) 2 h rfl hin hdg kk
theorem km_iast (hexec : p.tables.exec = Jvm.exec) (hb : c.code = cc) (hK : va_K D vwCl (ty6 cA) s) (hP : va_P D vwCl (wM cA am r M) H) (hD : va_D A (wM cA am r M)) (hS : va_S A H0 H locs) (k : Nat) (hk : isRm k = true) (hz : isZm k = false) {i x : Int32} (hin : vp_in i (mLen k)) (hdg : decode cc pc = .ok (.iastore, 1))
    (kk : ∀ (H1 : Heap) (locs1 : List Loc), va_P D vwCl (wM cA am r (mR M k i.toNatClampNeg x)) H1 → va_D A (wM cA am r (mR M k i.toNatClampNeg x)) → va_S A H0 H1 locs1 → W p l e R s m args below meth c H1 locs1 cells slots Q (F0 m (pc + 1) ls rest)) : W p l e R s m args below meth c H locs cells slots Q (F0 m pc ls (.int x :: .int i :: .ref (r k) :: rest)) := by
  have h := wM_k (cA := cA) (am := am) (r := r) (M := M) hk
  unfold mrow at h
  rw [hz] at h
  have h2 := wM_setk (cA := cA) (am := am) (r := r) (M := M) (f := upd (M.2 k) i.toNatClampNeg x) hk
  rw [hz] at h2
  refine va_iast hexec hb hK hP hD hS (mPos k) 0 h rfl hin hdg (fun H1 locs1 a1 a2 a3 => ?_)
  exact kk H1 locs1 (h2 ▸ a1) (h2 ▸ a2) a3
theorem km_zast (hexec : p.tables.exec = Jvm.exec) (hb : c.code = cc) (hK : va_K D vwCl (ty6 cA) s) (hP : va_P D vwCl (wM cA am r M) H) (hD : va_D A (wM cA am r M)) (hS : va_S A H0 H locs) (k : Nat) (hk : isRm k = true) (hz : isZm k = true) {i x : Int32} (hx : x = 0 ∨ x = 1) (hin : vp_in i (mLen k)) (hdg : decode cc pc = .ok (.bastore, 1))
    (kk : ∀ (H1 : Heap) (locs1 : List Loc), va_P D vwCl (wM cA am r (mR M k i.toNatClampNeg x)) H1 → va_D A (wM cA am r (mR M k i.toNatClampNeg x)) → va_S A H0 H1 locs1 → W p l e R s m args below meth c H1 locs1 cells slots Q (F0 m (pc + 1) ls rest)) : W p l e R s m args below meth c H locs cells slots Q (F0 m pc ls (.int x :: .int i :: .ref (r k) :: rest)) := by
  have h := wM_k (cA := cA) (am := am) (r := r) (M := M) hk
  unfold mrow at h
  rw [hz] at h
  have h2 := wM_setk (cA := cA) (am := am) (r := r) (M := M) (f := upd (M.2 k) i.toNatClampNeg x) hk
  rw [hz] at h2
  have hv : vp_nar .boolean x = x := by rcases hx with rfl | rfl <;> decide
  refine va_zast hexec hb hK hP hD hS (mPos k) 2 h rfl hin hdg (fun H1 locs1 a1 a2 a3 => ?_)
  rw [hv] at a1 a2
  exact kk H1 locs1 (h2 ▸ a1) (h2 ▸ a2) a3
theorem km_getiv (hexec : p.tables.exec = Jvm.exec) (hb : c.code = cc) (htT : ∀ w ∈ TT, w.before args s = true) (hown : s.vm.findClass RX6 = some m.cls) (hK : va_K D vwCl (ty6 cA) s) (hP : va_P D vwCl (wM cA am r M) H) {index : Nat} (k : Nat) (hk : k < 29) (hi : isRm k = false) (hlink : (Cond.fieldLink RX6 index (TX6 k).1 (TX6 k).2.1 (TX6 k).2.2.1).before args s = true) {x : Int32} (hx9 : M.1 k = x) (hdg : decode cc pc = .ok (.getfield index, 3))
    (kk : W p l e R s m args below meth c H locs cells slots Q (F0 m (pc + 3) ls (.int x :: rest))) : W p l e R s m args below meth c H locs cells slots Q (F0 m pc ls (.ref am :: rest)) := by
  subst hx9
  exact km_geti hexec hb htT hown hK hP k hk hi hlink hdg kk
theorem km_ialdv (hexec : p.tables.exec = Jvm.exec) (hb : c.code = cc) (hK : va_K D vwCl (ty6 cA) s) (hP : va_P D vwCl (wM cA am r M) H) (k : Nat) (hk : isRm k = true) (hz : isZm k = false) {i : Int32} (hin : vp_in i (mLen k)) {x : Int32} (hx9 : M.2 k i.toNatClampNeg = x) (hdg : decode cc pc = .ok (.iaload, 1))
    (kk : W p l e R s m args below meth c H locs cells slots Q (F0 m (pc + 1) ls (.int x :: rest))) : W p l e R s m args below meth c H locs cells slots Q (F0 m pc ls (.int i :: .ref (r k) :: rest)) := by
  subst hx9
  exact km_iald hexec hb hK hP k hk hz hin hdg kk
theorem km_zaldv (hexec : p.tables.exec = Jvm.exec) (hb : c.code = cc) (hK : va_K D vwCl (ty6 cA) s) (hP : va_P D vwCl (wM cA am r M) H) (k : Nat) (hk : isRm k = true) (hz : isZm k = true) {i : Int32} (hin : vp_in i (mLen k)) {x : Int32} (hx9 : M.2 k i.toNatClampNeg = x) (hdg : decode cc pc = .ok (.baload, 1))
    (kk : W p l e R s m args below meth c H locs cells slots Q (F0 m (pc + 1) ls (.int x :: rest))) : W p l e R s m args below meth c H locs cells slots Q (F0 m pc ls (.int i :: .ref (r k) :: rest)) := by
  subst hx9
  exact km_zald hexec hb hK hP k hk hz hin hdg kk
end KM
end
section
/-! calls of a method whose world is a part of this one's -/
theorem kj_mem {D : va_G} {ws : va_W} {H : Heap} : va_P D vwCl ws H ↔ ∀ q ∈ ws, va_at D vwCl q H := by
  constructor
  · intro h q hq
    obtain ⟨k, hk⟩ := List.getElem?_of_mem hq
    exact h k q hk
  · intro h k q hk
    exact h q (List.mem_of_getElem? hk)
theorem kj_dis {A : Nat → Prop} {ws : va_W} : va_D A ws ↔ (ws.map Prod.fst).Nodup ∧ ∀ q ∈ ws, A q.1 := by
  constructor
  · intro h
    refine ⟨?_, fun q hq => ?_⟩
    · rw [List.nodup_iff_pairwise_ne, List.pairwise_iff_getElem]
      intro i j hi hj hij he
      rw [List.length_map] at hi hj
      have h1 : ws[i]? = some ws[i] := List.getElem?_eq_getElem hi
      have h2 : ws[j]? = some ws[j] := List.getElem?_eq_getElem hj
      rw [List.getElem_map, List.getElem_map] at he
      have := h.1 i j _ _ h1 h2 he
      omega
    · obtain ⟨k, hk⟩ := List.getElem?_of_mem hq
      exact h.2 k q hk
  · intro h
    refine ⟨fun i j p q hi hj he => ?_, fun k q hk => h.2 q (List.mem_of_getElem? hk)⟩
    have hn := h.1
    rw [List.nodup_iff_pairwise_ne, List.pairwise_iff_getElem] at hn
    have hi' : i < ws.length := (List.getElem?_eq_some_iff.mp hi).1
    have hj' : j < ws.length := (List.getElem?_eq_some_iff.mp hj).1
    have ei : ws[i] = p := (List.getElem?_eq_some_iff.mp hi).2
    have ej : ws[j] = q := (List.getElem?_eq_some_iff.mp hj).2
    rcases Nat.lt_trichotomy i j with h1 | h1 | h1
    · exact absurd (by rw [List.getElem_map, List.getElem_map, ei, ej]; exact he) (hn i j (by rw [List.length_map]; exact hi') (by rw [List.length_map]; exact hj') h1)
    · exact h1
    · exact absurd (by rw [List.getElem_map, List.getElem_map, ei, ej]; exact he.symm) (hn j i (by rw [List.length_map]; exact hj') (by rw [List.length_map]; exact hi') h1)
theorem kj_P {D : va_G} {ws ws' : va_W} {H : Heap} (h : ws.Perm ws') (hP : va_P D vwCl ws H) : va_P D vwCl ws' H := kj_mem.mpr fun q hq => kj_mem.mp hP q (h.mem_iff.mpr hq)
theorem kj_D {A : Nat → Prop} {ws ws' : va_W} (h : ws.Perm ws') (hD : va_D A ws) : va_D A ws' := by
  have h1 := kj_dis.mp hD
  exact kj_dis.mpr ⟨((h.map Prod.fst).nodup_iff).mp h1.1, fun q hq => h1.2 q (h.mem_iff.mpr hq)⟩
/-- what came back, beside the rest -/
theorem kj_join {D : va_G} {A : Nat → Prop} {wa wb w1 : va_W} {H H1 : Heap} (hP : va_P D vwCl (wa ++ wb) H) (hD : va_D A (wa ++ wb)) (hk : ∀ q : Nat, q < H.size → ¬ va_A wa H.size q → H1[q]? = H[q]?) (h1 : va_P D vwCl w1 H1) (d1 : va_D (va_A wa H.size) w1) (hA : ∀ q, va_A wa H.size q → A q) : va_P D vwCl (w1 ++ wb) H1 ∧ va_D A (w1 ++ wb) := by
  have hPm := kj_mem.mp hP
  have hDm := kj_dis.mp hD
  have hsz : ∀ q ∈ wb, q.1 < H.size := fun q hq => (hPm q (List.mem_append_right _ hq)).lt
  have hnd := hDm.1
  rw [List.map_append, List.nodup_append] at hnd
  have hno : ∀ q ∈ wb, ¬ va_A wa H.size q.1 := by
    intro q hq h
    rcases h with ⟨k, e, he⟩ | h
    · exact hnd.2.2 q.1 (List.mem_map.mpr ⟨(q.1, e), List.mem_of_getElem? he, rfl⟩) q.1 (List.mem_map.mpr ⟨q, hq, rfl⟩) rfl
    · exact absurd (hsz q hq) (Nat.not_lt.mpr h)
  have hPb : va_P D vwCl wb H1 := kj_mem.mpr fun q hq => (hPm q (List.mem_append_right _ hq)).kept (hk q.1 (hsz q hq) (hno q hq))
  refine ⟨h1.app hPb, ?_⟩
  have d1m := kj_dis.mp d1
  refine kj_dis.mpr ⟨?_, fun q hq => ?_⟩
  · rw [List.map_append, List.nodup_append]
    refine ⟨d1m.1, hnd.2.1, fun a ha b hb e => ?_⟩
    obtain ⟨qa, ha1, rfl⟩ := List.mem_map.mp ha
    obtain ⟨qb, hb1, rfl⟩ := List.mem_map.mp hb
    exact hno qb hb1 (e ▸ d1m.2 qa ha1)
  · rcases List.mem_append.mp hq with h | h
    · exact hA _ (d1m.2 q h)
    · exact hDm.2 q (List.mem_append_right _ h)
section KJ
variable {p : Program} {l : Launch} {e : Env} {R : Room} {s : State} {m : MethodId} {args : Array Value} {below : List Frame} {meth : Method} {c : Code} {H : Heap} {locs : List Loc} {cells slots mc ms : Nat} {Q : State → Prop}
variable {cc : ByteArray} {pc : Nat} {ls : Array Slot} {st0 rest : List Value} {D : va_G} {A : Nat → Prop} {a b : Nat} {H0 : Heap} {cA : Nat → ClassId} {ws wa wb : va_W} {As : List Value} {as : Array Value} {X : Type} {w : X → va_W}
theorem kj_i {φ : Int32 → X → Prop} (hpm : ws.Perm (wa ++ wb)) (hr : va_Run p l e R s m args below meth c H locs cells slots mc ms (F0 m pc ls st0) rest (va_Qi φ (fun x => kB D cA (va_A wa H.size) (w x)) (va_A wa H.size) as) (va_A wa H.size)) (hP : va_P D vwCl ws H) (hD : va_D A ws) (hS : va_S A H0 H locs) (hA : ∀ q, H0.size ≤ q → A q)
    (kk : ∀ (r : Int32) (x : X) (H1 : Heap) (locs1 : List Loc), φ r x → va_P D vwCl (w x ++ wb) H1 → va_D A (w x ++ wb) → va_S A H0 H1 locs1 → W p l e R s m args below meth c H1 locs1 (cells + mc) (slots + ms) Q (F0 m (pc + 3) ls (.int r :: rest))) : W p l e R s m args below meth c H locs cells slots Q (F0 m pc ls st0) := by
  have hP' := kj_P hpm hP
  have hD' := kj_D hpm hD
  have hDa : va_D A wa := ⟨fun i j p q hi hj => hD'.1 i j p q (by rw [List.getElem?_append_left (List.getElem?_eq_some_iff.mp hi).1]; exact hi) (by rw [List.getElem?_append_left (List.getElem?_eq_some_iff.mp hj).1]; exact hj), fun k q hk => hD'.2 k q (by rw [List.getElem?_append_left (List.getElem?_eq_some_iff.mp hk).1]; exact hk)⟩
  have hF := kp_A hDa hS hA
  refine va_calli hr hS (fun q _ h => hF q h) hF (fun r u t H1 locs1 ht hvm hw hB hz1 hk1 hS1 => ?_)
  obtain ⟨b1, b2, b3⟩ := hB
  rw [ht] at b1
  obtain ⟨j1, j2⟩ := kj_join hP' hD' hk1 b1 b3 hF
  exact kk r u H1 locs1 hw j1 j2 hS1
theorem kj_l {φ : Int64 → X → Prop} (hpm : ws.Perm (wa ++ wb)) (hr : va_Run p l e R s m args below meth c H locs cells slots mc ms (F0 m pc ls st0) rest (va_Ql φ (fun x => kB D cA (va_A wa H.size) (w x)) (va_A wa H.size) as) (va_A wa H.size)) (hP : va_P D vwCl ws H) (hD : va_D A ws) (hS : va_S A H0 H locs) (hA : ∀ q, H0.size ≤ q → A q)
    (kk : ∀ (r : Int64) (x : X) (H1 : Heap) (locs1 : List Loc), φ r x → va_P D vwCl (w x ++ wb) H1 → va_D A (w x ++ wb) → va_S A H0 H1 locs1 → W p l e R s m args below meth c H1 locs1 (cells + mc) (slots + ms) Q (F0 m (pc + 3) ls (.long r :: rest))) : W p l e R s m args below meth c H locs cells slots Q (F0 m pc ls st0) := by
  have hP' := kj_P hpm hP
  have hD' := kj_D hpm hD
  have hDa : va_D A wa := ⟨fun i j p q hi hj => hD'.1 i j p q (by rw [List.getElem?_append_left (List.getElem?_eq_some_iff.mp hi).1]; exact hi) (by rw [List.getElem?_append_left (List.getElem?_eq_some_iff.mp hj).1]; exact hj), fun k q hk => hD'.2 k q (by rw [List.getElem?_append_left (List.getElem?_eq_some_iff.mp hk).1]; exact hk)⟩
  have hF := kp_A hDa hS hA
  refine va_calll hr hS (fun q _ h => hF q h) hF (fun r u t H1 locs1 ht hvm hw hB hz1 hk1 hS1 => ?_)
  obtain ⟨b1, b2, b3⟩ := hB
  rw [ht] at b1
  obtain ⟨j1, j2⟩ := kj_join hP' hD' hk1 b1 b3 hF
  exact kk r u H1 locs1 hw j1 j2 hS1
theorem kj_d {φ : UInt64 → X → Prop} (hpm : ws.Perm (wa ++ wb)) (hr : va_Run p l e R s m args below meth c H locs cells slots mc ms (F0 m pc ls st0) rest (va_Qd φ (fun x => kB D cA (va_A wa H.size) (w x)) (va_A wa H.size) as) (va_A wa H.size)) (hP : va_P D vwCl ws H) (hD : va_D A ws) (hS : va_S A H0 H locs) (hA : ∀ q, H0.size ≤ q → A q)
    (kk : ∀ (r : UInt64) (x : X) (H1 : Heap) (locs1 : List Loc), φ r x → va_P D vwCl (w x ++ wb) H1 → va_D A (w x ++ wb) → va_S A H0 H1 locs1 → W p l e R s m args below meth c H1 locs1 (cells + mc) (slots + ms) Q (F0 m (pc + 3) ls (.double r :: rest))) : W p l e R s m args below meth c H locs cells slots Q (F0 m pc ls st0) := by
  have hP' := kj_P hpm hP
  have hD' := kj_D hpm hD
  have hDa : va_D A wa := ⟨fun i j p q hi hj => hD'.1 i j p q (by rw [List.getElem?_append_left (List.getElem?_eq_some_iff.mp hi).1]; exact hi) (by rw [List.getElem?_append_left (List.getElem?_eq_some_iff.mp hj).1]; exact hj), fun k q hk => hD'.2 k q (by rw [List.getElem?_append_left (List.getElem?_eq_some_iff.mp hk).1]; exact hk)⟩
  have hF := kp_A hDa hS hA
  refine va_calld hr hS (fun q _ h => hF q h) hF (fun r u t H1 locs1 ht hvm hw hB hz1 hk1 hS1 => ?_)
  obtain ⟨b1, b2, b3⟩ := hB
  rw [ht] at b1
  obtain ⟨j1, j2⟩ := kj_join hP' hD' hk1 b1 b3 hF
  exact kk r u H1 locs1 hw j1 j2 hS1
theorem kj_v {φ : X → Prop} (hpm : ws.Perm (wa ++ wb)) (hr : va_Run p l e R s m args below meth c H locs cells slots mc ms (F0 m pc ls st0) rest (va_Qv φ (fun x => kB D cA (va_A wa H.size) (w x)) (va_A wa H.size) as) (va_A wa H.size)) (hP : va_P D vwCl ws H) (hD : va_D A ws) (hS : va_S A H0 H locs) (hA : ∀ q, H0.size ≤ q → A q)
    (kk : ∀ (x : X) (H1 : Heap) (locs1 : List Loc), φ x → va_P D vwCl (w x ++ wb) H1 → va_D A (w x ++ wb) → va_S A H0 H1 locs1 → W p l e R s m args below meth c H1 locs1 (cells + mc) (slots + ms) Q (F0 m (pc + 3) ls rest)) : W p l e R s m args below meth c H locs cells slots Q (F0 m pc ls st0) := by
  have hP' := kj_P hpm hP
  have hD' := kj_D hpm hD
  have hDa : va_D A wa := ⟨fun i j p q hi hj => hD'.1 i j p q (by rw [List.getElem?_append_left (List.getElem?_eq_some_iff.mp hi).1]; exact hi) (by rw [List.getElem?_append_left (List.getElem?_eq_some_iff.mp hj).1]; exact hj), fun k q hk => hD'.2 k q (by rw [List.getElem?_append_left (List.getElem?_eq_some_iff.mp hk).1]; exact hk)⟩
  have hF := kp_A hDa hS hA
  refine va_callv hr hS (fun q _ h => hF q h) hF (fun u t H1 locs1 ht hvm hw hB hz1 hk1 hS1 => ?_)
  obtain ⟨b1, b2, b3⟩ := hB
  rw [ht] at b1
  obtain ⟨j1, j2⟩ := kj_join hP' hD' hk1 b1 b3 hF
  exact kk u H1 locs1 hw j1 j2 hS1
/-- a call that throws in any case, of a part of this world -/
theorem kj_t {E0 : String} (hpm : ws.Perm (wa ++ wb)) (hr : vx_Run p l e R s m args below meth c H locs cells slots mc ms (F0 m pc ls st0) rest (kNo as) (kXC D cA wa E0 (va_A wa H.size)) (va_A wa H.size)) (hP : va_P D vwCl ws H) (hD : va_D A ws) (hS : va_S A H0 H locs) (hA : ∀ q, H0.size ≤ q → A q)
    (kk : ∀ (ce : Cell) (q9 : Addr) (H1 : Heap) (locs1 : List Loc), va_P D vwCl (wa ++ wb) H1 → va_D A (wa ++ wb) → va_S A H0 H1 locs1 → H1[q9]? = some ce → ce.vm = .none → s.vm.findClass E0 = some ce.cls → vx_W p l e R s m args below meth c H1 locs1 (cells + mc) (slots + ms) Q (F0 m pc ls rest) q9) : W p l e R s m args below meth c H locs cells slots Q (F0 m pc ls st0) := by
  have hP' := kj_P hpm hP
  have hD' := kj_D hpm hD
  have hDa : va_D A wa := ⟨fun i j p q hi hj => hD'.1 i j p q (by rw [List.getElem?_append_left (List.getElem?_eq_some_iff.mp hi).1]; exact hi) (by rw [List.getElem?_append_left (List.getElem?_eq_some_iff.mp hj).1]; exact hj), fun k q hk => hD'.2 k q (by rw [List.getElem?_append_left (List.getElem?_eq_some_iff.mp hk).1]; exact hk)⟩
  have hF := kp_A hDa hS hA
  intro T hT Y
  rcases hr T hT Y with ⟨v, st₀, t, T', L, h0, X', hL, e1, e2, hno, st⟩ | ⟨q, st₀, t, T', L, E, ce, h0, X', hL, e1, e2, ⟨u, hp, ⟨rfl, b1, b2, b3⟩, hFr⟩, hce, hcv, hcl, st⟩
  · exact hno.elim
  · obtain ⟨k1, k2, k3⟩ := vx_keep h0 e1 hS (fun q _ h => hF q h) hF hL hFr
    have b1' : va_P D vwCl wa T'.heap := by rw [e1]; exact b1
    obtain ⟨j1, j2⟩ := kj_join hP' hD' k2 b1' b3 hF
    obtain ⟨t2, a1, z1⟩ := kk ce q T'.heap (locs ++ L) j1 j2 k3 (by rw [e1]; exact hce) hcv hcl T' rfl X'
    exact ⟨t2, st.trans a1, z1⟩
/-- the part of the world that a callee finds -/
theorem kj_at (hpm : ws.Perm (wa ++ wb)) (hK : va_K D vwCl (ty6 cA) s) (hP : va_P D vwCl ws H) (hD : va_D A ws) (hTB : TBok s) {U : State} (hU : U.heap = H) (hW : s.WarmedH U.vm) : kPre D cA wa H.size U := by
  have hP' := kj_P hpm hP
  have hD' := kj_D hpm hD
  refine kp_at (A := A) hK (fun k q hk => hP' k q (by rw [List.getElem?_append_left (List.getElem?_eq_some_iff.mp hk).1]; exact hk)) ⟨fun i j p q hi hj => hD'.1 i j p q (by rw [List.getElem?_append_left (List.getElem?_eq_some_iff.mp hi).1]; exact hi) (by rw [List.getElem?_append_left (List.getElem?_eq_some_iff.mp hj).1]; exact hj), fun k q hk => hD'.2 k q (by rw [List.getElem?_append_left (List.getElem?_eq_some_iff.mp hk).1]; exact hk)⟩ hTB hU hW
theorem kj_FA (hpm : ws.Perm (wa ++ wb)) (hD : va_D A ws) (hS : va_S A H0 H locs) (hA : ∀ q, H0.size ≤ q → A q) : ∀ q, va_A wa H.size q → A q := by
  have hD' := kj_D hpm hD
  exact kp_A ⟨fun i j p q hi hj => hD'.1 i j p q (by rw [List.getElem?_append_left (List.getElem?_eq_some_iff.mp hi).1]; exact hi) (by rw [List.getElem?_append_left (List.getElem?_eq_some_iff.mp hj).1]; exact hj), fun k q hk => hD'.2 k q (by rw [List.getElem?_append_left (List.getElem?_eq_some_iff.mp hk).1]; exact hk)⟩ hS hA
theorem kj_V (hpm : ws.Perm (wa ++ wb)) (hK : va_K D vwCl (ty6 cA) s) (hP : va_P D vwCl ws H) (hD : va_D A ws) (hTB : TBok s) {C : String} (hrc : ∃ cell : Cell, H[b]? = some cell ∧ cell.vm.isStatics = false ∧ s.vm.findClass C = some cell.cls) : PreV s H C b (va_Pc (.ref b :: As) (kPre D cA wa H.size)) As :=
  ⟨kPre.blind, hrc, fun _ hU hW => ⟨rfl, kj_at hpm hK hP hD hTB hU hW⟩⟩
theorem kj_VX (hpm : ws.Perm (wa ++ wb)) (hK : va_K D vwCl (ty6 cA) s) (hP : va_P D vwCl ws H) (hD : va_D A ws) (hTB : TBok s) (hTX : TXok A s) (hS : va_S A s.heap H locs) (hA : ∀ q, s.heap.size ≤ q → A q) {C : String} (hrc : ∃ cell : Cell, H[b]? = some cell ∧ cell.vm.isStatics = false ∧ s.vm.findClass C = some cell.cls) : PreV s H C b (va_Pc (.ref b :: As) (kPreX D cA wa H.size)) As :=
  ⟨kPreX.blind, hrc, fun _ hU hW => ⟨rfl, kj_at hpm hK hP hD hTB hU hW, hTX.at hS (kj_FA hpm hD hS hA) hU hW⟩⟩
theorem kj_SX (hpm : ws.Perm (wa ++ wb)) (hK : va_K D vwCl (ty6 cA) s) (hP : va_P D vwCl ws H) (hD : va_D A ws) (hTB : TBok s) (hTX : TXok A s) (hS : va_S A s.heap H locs) (hA : ∀ q, s.heap.size ≤ q → A q) : PreS s H (va_Pc As (kPreX D cA wa H.size)) As :=
  ⟨kPreX.blind, fun _ hU hW => ⟨rfl, kj_at hpm hK hP hD hTB hU hW, hTX.at hS (kj_FA hpm hD hS hA) hU hW⟩⟩
theorem kj_S (hpm : ws.Perm (wa ++ wb)) (hK : va_K D vwCl (ty6 cA) s) (hP : va_P D vwCl ws H) (hD : va_D A ws) (hTB : TBok s) : PreS s H (va_Pc As (kPre D cA wa H.size)) As :=
  ⟨kPre.blind, fun _ hU hW => ⟨rfl, kj_at hpm hK hP hD hTB hU hW⟩⟩
end KJ
end
section
/-! what the methods answer, in the code's own words -/
def kOut (v lo hi : Int32) : Int32 := if v < lo then 1 else if v ≤ hi then 0 else 1
theorem kOut_01 (v lo hi : Int32) : kOut v lo hi = 0 ∨ kOut v lo hi = 1 := by
  unfold kOut; split
  · exact Or.inr rfl
  · split
    · exact Or.inl rfl
    · exact Or.inr rfl
def kSw (S : Pool) (ar : Nat) (one : Int32) : Option Nat := if one < 0 then none else if one < 8 then gP S ar one.toNatClampNeg else none
theorem kz_rf (r : Option Nat) : va_rf r = .null ∨ ∃ a, va_rf r = .ref a := by
  cases r with
  | none => exact Or.inl rfl
  | some a => exact Or.inr ⟨a, rfl⟩
theorem kz_in {x : Int32} {n : Nat} (hn : n < 2 ^ 31) (h0 : ¬ x < 0) (h1 : x < nI n) : vp_in x n := by
  rcases pk_ix x hn with h | h | ⟨j, hj, rfl⟩
  · exact absurd h h0
  · exact absurd h1 (Int32.not_lt.mpr h)
  · exact vp_in_nI hj hn
def kBkt (salt user : Int32) : Int32 :=
  let h := (salt * 7919 + user * 31 + 17) - (salt * 7919 + user * 31 + 17) / 10007 * 10007
  let k := (h * h + salt + 3 * user) - (h * h + salt + 3 * user) / 10007 * 10007
  k - k / 1000 * 1000
set_option maxRecDepth 100000 in
set_option maxHeartbeats 4000000 in
/-- is a number outside a range -/
theorem c_isOutside (l : Launch) (D : va_G) (cA : Nat → ClassId) (sz : Nat) (S : Pool) (v lo hi : Int32) : Met l yX5_isOutside (Cond.code yX5_isOutside cX5_isOutside 3 (some .boolean) :: TT) ({ frames := 0, cells := 0, slots := 0, locals := 0 }) (va_Pc [.int v, .int lo, .int hi] (kPre D cA (PW cA S) sz)) (va_Qi (fun (r_ : Int32) (x_ : Pool) => r_ = kOut v lo hi ∧ x_ = S) (fun x_ => kB D cA (va_A (PW cA S) sz) (PW cA x_)) (va_A (PW cA S) sz)) 0 0 (va_A (PW cA S) sz) := by
  refine Met.ofW (cc := cX5_isOutside) (maxL := 3) (ret := (some .boolean)) (by decide) rfl ?_
  intro p e s m args below meth c s₁ B hml hv
  obtain ⟨rfl, hsz, hP, hK, hD0, hTB⟩ := hv
  have hx := B.exec
  have hb := B.bytes
  have hr := B.returns
  have hts := atoms_spec (ws := Cond.code yX5_isOutside cX5_isOutside 3 (some .boolean) :: TT) B.pre
  have htT : ∀ w ∈ TT, w.before _ s = true := fun w h => hts w (List.mem_cons_of_mem _ h)
  have hown : s.vm.findClass RX5 = some m.cls := findClass_of_methodNamed B.named
  have hlocks := B.notSynchronized
  subst hsz
  have hD := hD0.self (sz := s.heap.size)
  generalize hAe : va_A (PW cA S) s.heap.size = A at hD ⊢
  have hA : ∀ q : Nat, s.heap.size ≤ q → A q := fun q h => by rw [← hAe]; exact Or.inr h
  have hS : va_S A s.heap s.heap [] := va_S.rf
  have hl := lv_entry ([.int v, .int lo, .int hi]) (n := 3) (Nat.le_of_ble_eq_true rfl)
  rw [lg_entry_eq]
  generalize (lg_sl ([.int v, .int lo, .int hi]) ++ List.replicate (3 - (lg_sl ([.int v, .int lo, .int hi])).length) Slot.unset).toArray = ls at hl ⊢
  have hl : lv_has ls 3 [(0, .int v), (1, .int lo), (2, .int hi)] := hl
  refine lv_iload_n hx hb dX5_isOutside_0 rfl (lv_at hl 0 rfl) ?_
  refine lv_iload_n hx hb dX5_isOutside_1 rfl (lv_at hl 1 rfl) ?_
  refine lv_icmp_lt (tgt := 10) hx hb dX5_isOutside_2 (by decide) (fun c_1 => ?_) (fun c_1 => ?_)
  · refine lv_iconst (v := 1) hx hb dX5_isOutside_10 (by decide) ?_
    refine lv_goto (tgt := 15) hx hb dX5_isOutside_11 (by decide) ?_
    exact W.zret (v := 1) hx hb hr (rfl) (fun t ht hW => ⟨⟨1, S, rfl, ⟨by simp [kOut, c_1], rfl⟩, by rw [ht]; exact hP, va_K.moved hW.alike hK, hD⟩, hS.F ht⟩) hS.2.2 dX5_isOutside_15
  · refine lv_iload_n hx hb dX5_isOutside_5 rfl (lv_at hl 0 rfl) ?_
    refine lv_iload_n hx hb dX5_isOutside_6 rfl (lv_at hl 2 rfl) ?_
    refine lv_icmp_le (tgt := 14) hx hb dX5_isOutside_7 (by decide) (fun c_2 => ?_) (fun c_2 => ?_)
    · refine lv_iconst (v := 0) hx hb dX5_isOutside_14 (by decide) ?_
      exact W.zret (v := 0) hx hb hr (rfl) (fun t ht hW => ⟨⟨0, S, rfl, ⟨by simp [kOut, c_1, c_2], rfl⟩, by rw [ht]; exact hP, va_K.moved hW.alike hK, hD⟩, hS.F ht⟩) hS.2.2 dX5_isOutside_15
    · refine lv_iconst (v := 1) hx hb dX5_isOutside_10 (by decide) ?_
      refine lv_goto (tgt := 15) hx hb dX5_isOutside_11 (by decide) ?_
      exact W.zret (v := 1) hx hb hr (rfl) (fun t ht hW => ⟨⟨1, S, rfl, ⟨by simp [kOut, c_1, c_2], rfl⟩, by rw [ht]; exact hP, va_K.moved hW.alike hK, hD⟩, hS.F ht⟩) hS.2.2 dX5_isOutside_15

set_option maxRecDepth 100000 in
set_option maxHeartbeats 4000000 in
/-- the switch of a number -/
theorem c_switchAt (l : Launch) (D : va_G) (cA : Nat → ClassId) (sz : Nat) (S : Pool) (x : Nat) (ho : isO S x 5) (ar : Nat) (hq0 : gQ S x 0 = some ar) (har : isA S ar 22 8) (one : Int32) : Met l yX5_switchAt (Cond.code yX5_switchAt cX5_switchAt 2 (some (.object "DaybreakFlags$Switch")) :: TT) ({ frames := 0, cells := 0, slots := 0, locals := 0 }) (va_Pc [.ref x, .int one] (kPre D cA (PW cA S) sz)) (va_Qq (fun (r_ : Option Nat) (x_ : Pool) => r_ = kSw S ar one ∧ x_ = S) (fun x_ => kB D cA (va_A (PW cA S) sz) (PW cA x_)) (va_A (PW cA S) sz)) 0 0 (va_A (PW cA S) sz) := by
  refine Met.ofW (cc := cX5_switchAt) (maxL := 2) (ret := (some (.object "DaybreakFlags$Switch"))) (by decide) rfl ?_
  intro p e s m args below meth c s₁ B hml hv
  obtain ⟨rfl, hsz, hP, hK, hD0, hTB⟩ := hv
  have hx := B.exec
  have hb := B.bytes
  have hr := B.returns
  have hts := atoms_spec (ws := Cond.code yX5_switchAt cX5_switchAt 2 (some (.object "DaybreakFlags$Switch")) :: TT) B.pre
  have htT : ∀ w ∈ TT, w.before _ s = true := fun w h => hts w (List.mem_cons_of_mem _ h)
  have hown : s.vm.findClass RX5 = some m.cls := findClass_of_methodNamed B.named
  have hlocks := B.notSynchronized
  subst hsz
  have hD := hD0.self (sz := s.heap.size)
  generalize hAe : va_A (PW cA S) s.heap.size = A at hD ⊢
  have hA : ∀ q : Nat, s.heap.size ≤ q → A q := fun q h => by rw [← hAe]; exact Or.inr h
  have hS : va_S A s.heap s.heap [] := va_S.rf
  have hl := lv_entry ([.ref x, .int one]) (n := 2) (Nat.le_of_ble_eq_true rfl)
  rw [lg_entry_eq]
  generalize (lg_sl ([.ref x, .int one]) ++ List.replicate (2 - (lg_sl ([.ref x, .int one])).length) Slot.unset).toArray = ls at hl ⊢
  have hl : lv_has ls 2 [(0, .ref x), (1, .int one)] := hl
  refine lv_iload_n hx hb dX5_switchAt_0 rfl (lv_at hl 1 rfl) ?_
  refine lv_if_lt (tgt := 13) hx hb dX5_switchAt_1 (by decide) (fun c_1 => ?_) (fun c_1 => ?_)
  · refine lv_null hx hb dX5_switchAt_13 ?_
    refine lv_goto (tgt := 23) hx hb dX5_switchAt_14 (by decide) ?_
    exact W.aret (v := va_rf none) hx hb hr (Or.inl ⟨_, rfl⟩) (kz_rf _) (fun t ht hW => ⟨⟨none, S, rfl, ⟨by simp [kSw, c_1], rfl⟩, by rw [ht]; exact hP, va_K.moved hW.alike hK, hD⟩, hS.F ht⟩) hS.2.2 dX5_switchAt_23
  · refine lv_iload_n hx hb dX5_switchAt_4 rfl (lv_at hl 1 rfl) ?_
    refine lv_aload_n hx hb dX5_switchAt_5 rfl (lv_at hl 0 rfl) ?_
    refine kx_gets hx hb htT m_u_X5 hown hK hP ho (Nat.le_of_ble_eq_true rfl) rfl 0 (by decide) (by decide) rfl hq0 (htT _ m_fl_X5_11) dX5_switchAt_6 ?_
    refine kx_alen (v := 8) hx hb hK hP har (Nat.le_of_ble_eq_true rfl) (Nat.le_of_ble_eq_true rfl) rfl dX5_switchAt_9 ?_
    refine lv_icmp_lt (tgt := 17) hx hb dX5_switchAt_10 (by decide) (fun c_2 => ?_) (fun c_2 => ?_)
    · refine lv_aload_n hx hb dX5_switchAt_17 rfl (lv_at hl 0 rfl) ?_
      refine kx_gets hx hb htT m_u_X5 hown hK hP ho (Nat.le_of_ble_eq_true rfl) rfl 0 (by decide) (by decide) rfl hq0 (htT _ m_fl_X5_11) dX5_switchAt_18 ?_
      refine lv_iload_n hx hb dX5_switchAt_21 rfl (lv_at hl 1 rfl) ?_
      refine kx_alds hx hb hK hP har (kz_in (by decide) c_1 c_2) rfl dX5_switchAt_22 ?_
      exact W.aret (v := va_rf (gP S ar one.toNatClampNeg)) hx hb hr (Or.inl ⟨_, rfl⟩) (kz_rf _) (fun t ht hW => ⟨⟨(gP S ar one.toNatClampNeg), S, rfl, ⟨by simp [kSw, c_1, c_2], rfl⟩, by rw [ht]; exact hP, va_K.moved hW.alike hK, hD⟩, hS.F ht⟩) hS.2.2 dX5_switchAt_23
    · refine lv_null hx hb dX5_switchAt_13 ?_
      refine lv_goto (tgt := 23) hx hb dX5_switchAt_14 (by decide) ?_
      exact W.aret (v := va_rf none) hx hb hr (Or.inl ⟨_, rfl⟩) (kz_rf _) (fun t ht hW => ⟨⟨none, S, rfl, ⟨by simp [kSw, c_1, c_2], rfl⟩, by rw [ht]; exact hP, va_K.moved hW.alike hK, hD⟩, hS.F ht⟩) hS.2.2 dX5_switchAt_23

set_option maxRecDepth 100000 in
set_option maxHeartbeats 4000000 in
/-- no such switch -/
theorem c_known_t (l : Launch) (hst : l.stackTraces = false) (D : va_G) (cA : Nat → ClassId) (sz : Nat) (S : Pool) (x : Nat) (ho : isO S x 5) (ar : Nat) (hq0 : gQ S x 0 = some ar) (har : isA S ar 22 8) (one : Int32) (hsw : kSw S ar one = none) : vx_Met l yX5_known (Cond.code yX5_known cX5_known 3 (some (.object "DaybreakFlags$Switch")) :: TT) ({ frames := 6, cells := 1, slots := 6, locals := 82 }) (va_Pc [.ref x, .int one] (kPreX D cA (PW cA S) sz)) kNo (kXC D cA (PW cA S) "java/lang/IndexOutOfBoundsException" (va_A (PW cA S) sz)) 1 6 (va_A (PW cA S) sz) := by
  refine vx_ofW (cc := cX5_known) (maxL := 3) (ret := (some (.object "DaybreakFlags$Switch"))) (by decide) rfl ?_
  intro p e s m args below meth c s₁ B hml hTab hv
  obtain ⟨rfl, ⟨hsz, hP, hK, hD0, hTB⟩, hTX⟩ := hv
  have hx := B.exec
  have hb := B.bytes
  have hr := B.returns
  have hts := atoms_spec (ws := Cond.code yX5_known cX5_known 3 (some (.object "DaybreakFlags$Switch")) :: TT) B.pre
  have htT : ∀ w ∈ TT, w.before _ s = true := fun w h => hts w (List.mem_cons_of_mem _ h)
  have hown : s.vm.findClass RX5 = some m.cls := findClass_of_methodNamed B.named
  have hlocks := B.notSynchronized
  subst hsz
  have hD := hD0.self (sz := s.heap.size)
  generalize hAe : va_A (PW cA S) s.heap.size = A at hD hTX ⊢
  have hA : ∀ q : Nat, s.heap.size ≤ q → A q := fun q h => by rw [← hAe]; exact Or.inr h
  have hS : va_S A s.heap s.heap [] := va_S.rf
  have hl := lv_entry ([.ref x, .int one]) (n := 3) (Nat.le_of_ble_eq_true rfl)
  rw [lg_entry_eq]
  generalize (lg_sl ([.ref x, .int one]) ++ List.replicate (3 - (lg_sl ([.ref x, .int one])).length) Slot.unset).toArray = ls at hl ⊢
  have hl : lv_has ls 3 [(0, .ref x), (1, .int one)] := hl
  refine lv_aload_n hx hb dX5_known_0 rfl (lv_at hl 0 rfl) ?_
  refine lv_iload_n hx hb dX5_known_1 rfl (lv_at hl 1 rfl) ?_
  refine kc_q (va_runV (As := [.int one]) (rest := []) ⟨hx, hb, hml, hown, htT⟩ (c_switchAt l D cA _ S x ho ar hq0 har one) (cwV 1 htT (kg_V m_ml_X5_301 m_im_X5_switchAt m_sl_X5_switchAt m_in_X5 m_cd_X5_switchAt) rfl rfl rfl (by decide +kernel) ⟨Nat.le_of_ble_eq_true rfl, Nat.le_of_ble_eq_true rfl⟩) (kp_V hK hP hD hTB (kp_rc hK hP ho (Nat.le_of_ble_eq_true rfl) rfl)) rfl rfl hl.1 rfl (lv_room (Nat.le_of_ble_eq_true rfl)) dX5_known_2 ⟨Nat.le_of_ble_eq_true rfl, Nat.le_of_ble_eq_true rfl⟩) hD hS hA (fun r_1 x_1 H locs hq_1 hP hD hS => ?_)
  rw [hq_1.1]
  rw [hq_1.2] at hP hD
  rw [hsw]
  refine lv_astore_nN (lv' := [(2, .null), (0, .ref x), (1, .int one)]) hx hb dX5_known_5 rfl hl (by decide) rfl (fun ls hl => ?_)
  refine lv_aload_nN hx hb dX5_known_6 rfl (lv_at hl 0 rfl) ?_
  refine lv_ifnonnullN hx hb dX5_known_7 ?_
  exact kt_newW (text := "no such switch") hx hb hst hown (Or.inr (Or.inr rfl)) (htT _ m_cl_X5_121) (htT _ m_in_IndexOutOfBoundsException) (by decide +kernel) (fun w h => htT w (at_IOE w h)) an_IOE (ag_IOE 121) hTB hTX hK hP hD hS (hl.1.trans hml.symm) dX5_known_10 dX5_known_13 dX5_known_14 dX5_known_17 dX5_known_20 hTab (Nat.le_of_ble_eq_true rfl) (Nat.le_of_ble_eq_true rfl) (Nat.le_of_ble_eq_true rfl) (Nat.le_of_ble_eq_true rfl) hlocks (Nat.le_of_ble_eq_true rfl) (Nat.le_of_ble_eq_true rfl)

set_option maxRecDepth 100000 in
set_option maxHeartbeats 4000000 in
/-- weigh: no such switch -/
theorem c_weigh_t (l : Launch) (hst : l.stackTraces = false) (D : va_G) (cA : Nat → ClassId) (sz : Nat) (S : Pool) (x : Nat) (ho : isO S x 5) (ar : Nat) (hq0 : gQ S x 0 = some ar) (har : isA S ar 22 8) (p0 p1 p2 : Int32) (hsw : kSw S ar p0 = none) : vx_Met l yX5_weigh (Cond.code yX5_weigh cX5_weigh 6 (some .int) :: TT) ({ frames := 7, cells := 1, slots := 6, locals := 104 }) (va_Pc [.ref x, .int p0, .int p1, .int p2] (kPreX D cA (PW cA S) sz)) kNo (kXC D cA (PW cA S) "java/lang/IndexOutOfBoundsException" (va_A (PW cA S) sz)) 1 6 (va_A (PW cA S) sz) := by
  refine vx_ofW (cc := cX5_weigh) (maxL := 6) (ret := (some .int)) (by decide) rfl ?_
  intro p e s m args below meth c s₁ B hml hTab hv
  obtain ⟨rfl, ⟨hsz, hP, hK, hD0, hTB⟩, hTX⟩ := hv
  have hx := B.exec
  have hb := B.bytes
  have hr := B.returns
  have hts := atoms_spec (ws := Cond.code yX5_weigh cX5_weigh 6 (some .int) :: TT) B.pre
  have htT : ∀ w ∈ TT, w.before _ s = true := fun w h => hts w (List.mem_cons_of_mem _ h)
  have hown : s.vm.findClass RX5 = some m.cls := findClass_of_methodNamed B.named
  have hlocks := B.notSynchronized
  subst hsz
  have hD := hD0.self (sz := s.heap.size)
  generalize hAe : va_A (PW cA S) s.heap.size = A at hD hTX ⊢
  have hA : ∀ q : Nat, s.heap.size ≤ q → A q := fun q h => by rw [← hAe]; exact Or.inr h
  have hS : va_S A s.heap s.heap [] := va_S.rf
  have hl := lv_entry ([.ref x, .int p0, .int p1, .int p2]) (n := 6) (Nat.le_of_ble_eq_true rfl)
  rw [lg_entry_eq]
  generalize (lg_sl ([.ref x, .int p0, .int p1, .int p2]) ++ List.replicate (6 - (lg_sl ([.ref x, .int p0, .int p1, .int p2])).length) Slot.unset).toArray = ls at hl ⊢
  have hl : lv_has ls 6 [(0, .ref x), (1, .int p0), (2, .int p1), (3, .int p2)] := hl
  refine lv_aload_n hx hb dX5_weigh_0 rfl (lv_at hl 0 rfl) ?_
  refine lv_iload_n hx hb dX5_weigh_1 rfl (lv_at hl 1 rfl) ?_
  refine kt_call (vx_runV (As := [.int p0]) (rest := []) ⟨hx, hb, hml, hown, htT⟩ (c_known_t l hst D cA _ S x ho ar hq0 har p0 hsw) (cwV 1 htT (kg_V m_ml_X5_45 m_im_X5_known m_sl_X5_known m_in_X5 m_cd_X5_known) rfl rfl rfl (by decide +kernel) ⟨Nat.le_of_ble_eq_true rfl, Nat.le_of_ble_eq_true rfl⟩) (kp_VX hK hP hD hTB hTX hS hA (kp_rc hK hP ho (Nat.le_of_ble_eq_true rfl) rfl)) rfl rfl hl.1 rfl (lv_room (Nat.le_of_ble_eq_true rfl)) dX5_weigh_2 ⟨Nat.le_of_ble_eq_true rfl, Nat.le_of_ble_eq_true rfl⟩) hD hS hA (fun ce q9 H locs hP hD hS hce hcv hcl => ?_)
  exact kt_out hTab hlocks hK hP hD hS hce hcv hcl (Nat.le_of_ble_eq_true rfl) (Nat.le_of_ble_eq_true rfl)

set_option maxRecDepth 100000 in
set_option maxHeartbeats 4000000 in
/-- turn: no such switch -/
theorem c_turn_t (l : Launch) (hst : l.stackTraces = false) (D : va_G) (cA : Nat → ClassId) (sz : Nat) (S : Pool) (x : Nat) (ho : isO S x 5) (ar : Nat) (hq0 : gQ S x 0 = some ar) (har : isA S ar 22 8) (p0 p1 : Int32) (hsw : kSw S ar p0 = none) : vx_Met l yX5_turn (Cond.code yX5_turn cX5_turn 5 (some .boolean) :: TT) ({ frames := 7, cells := 1, slots := 6, locals := 104 }) (va_Pc [.ref x, .int p0, .int p1] (kPreX D cA (PW cA S) sz)) kNo (kXC D cA (PW cA S) "java/lang/IndexOutOfBoundsException" (va_A (PW cA S) sz)) 1 6 (va_A (PW cA S) sz) := by
  refine vx_ofW (cc := cX5_turn) (maxL := 5) (ret := (some .boolean)) (by decide) rfl ?_
  intro p e s m args below meth c s₁ B hml hTab hv
  obtain ⟨rfl, ⟨hsz, hP, hK, hD0, hTB⟩, hTX⟩ := hv
  have hx := B.exec
  have hb := B.bytes
  have hr := B.returns
  have hts := atoms_spec (ws := Cond.code yX5_turn cX5_turn 5 (some .boolean) :: TT) B.pre
  have htT : ∀ w ∈ TT, w.before _ s = true := fun w h => hts w (List.mem_cons_of_mem _ h)
  have hown : s.vm.findClass RX5 = some m.cls := findClass_of_methodNamed B.named
  have hlocks := B.notSynchronized
  subst hsz
  have hD := hD0.self (sz := s.heap.size)
  generalize hAe : va_A (PW cA S) s.heap.size = A at hD hTX ⊢
  have hA : ∀ q : Nat, s.heap.size ≤ q → A q := fun q h => by rw [← hAe]; exact Or.inr h
  have hS : va_S A s.heap s.heap [] := va_S.rf
  have hl := lv_entry ([.ref x, .int p0, .int p1]) (n := 5) (Nat.le_of_ble_eq_true rfl)
  rw [lg_entry_eq]
  generalize (lg_sl ([.ref x, .int p0, .int p1]) ++ List.replicate (5 - (lg_sl ([.ref x, .int p0, .int p1])).length) Slot.unset).toArray = ls at hl ⊢
  have hl : lv_has ls 5 [(0, .ref x), (1, .int p0), (2, .int p1)] := hl
  refine lv_aload_n hx hb dX5_turn_0 rfl (lv_at hl 0 rfl) ?_
  refine lv_iload_n hx hb dX5_turn_1 rfl (lv_at hl 1 rfl) ?_
  refine kt_call (vx_runV (As := [.int p0]) (rest := []) ⟨hx, hb, hml, hown, htT⟩ (c_known_t l hst D cA _ S x ho ar hq0 har p0 hsw) (cwV 1 htT (kg_V m_ml_X5_45 m_im_X5_known m_sl_X5_known m_in_X5 m_cd_X5_known) rfl rfl rfl (by decide +kernel) ⟨Nat.le_of_ble_eq_true rfl, Nat.le_of_ble_eq_true rfl⟩) (kp_VX hK hP hD hTB hTX hS hA (kp_rc hK hP ho (Nat.le_of_ble_eq_true rfl) rfl)) rfl rfl hl.1 rfl (lv_room (Nat.le_of_ble_eq_true rfl)) dX5_turn_2 ⟨Nat.le_of_ble_eq_true rfl, Nat.le_of_ble_eq_true rfl⟩) hD hS hA (fun ce q9 H locs hP hD hS hce hcv hcl => ?_)
  exact kt_out hTab hlocks hK hP hD hS hce hcv hcl (Nat.le_of_ble_eq_true rfl) (Nat.le_of_ble_eq_true rfl)

set_option maxRecDepth 100000 in
set_option maxHeartbeats 4000000 in
/-- ramp: no such switch -/
theorem c_ramp_t (l : Launch) (hst : l.stackTraces = false) (D : va_G) (cA : Nat → ClassId) (sz : Nat) (S : Pool) (x : Nat) (ho : isO S x 5) (ar : Nat) (hq0 : gQ S x 0 = some ar) (har : isA S ar 22 8) (p0 p1 p2 : Int32) (hsw : kSw S ar p0 = none) : vx_Met l yX5_ramp (Cond.code yX5_ramp cX5_ramp 6 (some .int) :: TT) ({ frames := 7, cells := 1, slots := 6, locals := 104 }) (va_Pc [.ref x, .int p0, .int p1, .int p2] (kPreX D cA (PW cA S) sz)) kNo (kXC D cA (PW cA S) "java/lang/IndexOutOfBoundsException" (va_A (PW cA S) sz)) 1 6 (va_A (PW cA S) sz) := by
  refine vx_ofW (cc := cX5_ramp) (maxL := 6) (ret := (some .int)) (by decide) rfl ?_
  intro p e s m args below meth c s₁ B hml hTab hv
  obtain ⟨rfl, ⟨hsz, hP, hK, hD0, hTB⟩, hTX⟩ := hv
  have hx := B.exec
  have hb := B.bytes
  have hr := B.returns
  have hts := atoms_spec (ws := Cond.code yX5_ramp cX5_ramp 6 (some .int) :: TT) B.pre
  have htT : ∀ w ∈ TT, w.before _ s = true := fun w h => hts w (List.mem_cons_of_mem _ h)
  have hown : s.vm.findClass RX5 = some m.cls := findClass_of_methodNamed B.named
  have hlocks := B.notSynchronized
  subst hsz
  have hD := hD0.self (sz := s.heap.size)
  generalize hAe : va_A (PW cA S) s.heap.size = A at hD hTX ⊢
  have hA : ∀ q : Nat, s.heap.size ≤ q → A q := fun q h => by rw [← hAe]; exact Or.inr h
  have hS : va_S A s.heap s.heap [] := va_S.rf
  have hl := lv_entry ([.ref x, .int p0, .int p1, .int p2]) (n := 6) (Nat.le_of_ble_eq_true rfl)
  rw [lg_entry_eq]
  generalize (lg_sl ([.ref x, .int p0, .int p1, .int p2]) ++ List.replicate (6 - (lg_sl ([.ref x, .int p0, .int p1, .int p2])).length) Slot.unset).toArray = ls at hl ⊢
  have hl : lv_has ls 6 [(0, .ref x), (1, .int p0), (2, .int p1), (3, .int p2)] := hl
  refine lv_aload_n hx hb dX5_ramp_0 rfl (lv_at hl 0 rfl) ?_
  refine lv_iload_n hx hb dX5_ramp_1 rfl (lv_at hl 1 rfl) ?_
  refine kt_call (vx_runV (As := [.int p0]) (rest := []) ⟨hx, hb, hml, hown, htT⟩ (c_known_t l hst D cA _ S x ho ar hq0 har p0 hsw) (cwV 1 htT (kg_V m_ml_X5_45 m_im_X5_known m_sl_X5_known m_in_X5 m_cd_X5_known) rfl rfl rfl (by decide +kernel) ⟨Nat.le_of_ble_eq_true rfl, Nat.le_of_ble_eq_true rfl⟩) (kp_VX hK hP hD hTB hTX hS hA (kp_rc hK hP ho (Nat.le_of_ble_eq_true rfl) rfl)) rfl rfl hl.1 rfl (lv_room (Nat.le_of_ble_eq_true rfl)) dX5_ramp_2 ⟨Nat.le_of_ble_eq_true rfl, Nat.le_of_ble_eq_true rfl⟩) hD hS hA (fun ce q9 H locs hP hD hS hce hcv hcl => ?_)
  exact kt_out hTab hlocks hK hP hD hS hce hcv hcl (Nat.le_of_ble_eq_true rfl) (Nat.le_of_ble_eq_true rfl)

set_option maxRecDepth 100000 in
set_option maxHeartbeats 4000000 in
/-- place: no such switch -/
theorem c_place_t (l : Launch) (hst : l.stackTraces = false) (D : va_G) (cA : Nat → ClassId) (sz : Nat) (S : Pool) (x : Nat) (ho : isO S x 5) (ar : Nat) (hq0 : gQ S x 0 = some ar) (har : isA S ar 22 8) (p0 p1 p2 p3 : Int32) (hsw : kSw S ar p0 = none) : vx_Met l yX5_place (Cond.code yX5_place cX5_place 7 (some .int) :: TT) ({ frames := 7, cells := 1, slots := 6, locals := 104 }) (va_Pc [.ref x, .int p0, .int p1, .int p2, .int p3] (kPreX D cA (PW cA S) sz)) kNo (kXC D cA (PW cA S) "java/lang/IndexOutOfBoundsException" (va_A (PW cA S) sz)) 1 6 (va_A (PW cA S) sz) := by
  refine vx_ofW (cc := cX5_place) (maxL := 7) (ret := (some .int)) (by decide) rfl ?_
  intro p e s m args below meth c s₁ B hml hTab hv
  obtain ⟨rfl, ⟨hsz, hP, hK, hD0, hTB⟩, hTX⟩ := hv
  have hx := B.exec
  have hb := B.bytes
  have hr := B.returns
  have hts := atoms_spec (ws := Cond.code yX5_place cX5_place 7 (some .int) :: TT) B.pre
  have htT : ∀ w ∈ TT, w.before _ s = true := fun w h => hts w (List.mem_cons_of_mem _ h)
  have hown : s.vm.findClass RX5 = some m.cls := findClass_of_methodNamed B.named
  have hlocks := B.notSynchronized
  subst hsz
  have hD := hD0.self (sz := s.heap.size)
  generalize hAe : va_A (PW cA S) s.heap.size = A at hD hTX ⊢
  have hA : ∀ q : Nat, s.heap.size ≤ q → A q := fun q h => by rw [← hAe]; exact Or.inr h
  have hS : va_S A s.heap s.heap [] := va_S.rf
  have hl := lv_entry ([.ref x, .int p0, .int p1, .int p2, .int p3]) (n := 7) (Nat.le_of_ble_eq_true rfl)
  rw [lg_entry_eq]
  generalize (lg_sl ([.ref x, .int p0, .int p1, .int p2, .int p3]) ++ List.replicate (7 - (lg_sl ([.ref x, .int p0, .int p1, .int p2, .int p3])).length) Slot.unset).toArray = ls at hl ⊢
  have hl : lv_has ls 7 [(0, .ref x), (1, .int p0), (2, .int p1), (3, .int p2), (4, .int p3)] := hl
  refine lv_aload_n hx hb dX5_place_0 rfl (lv_at hl 0 rfl) ?_
  refine lv_iload_n hx hb dX5_place_1 rfl (lv_at hl 1 rfl) ?_
  refine kt_call (vx_runV (As := [.int p0]) (rest := []) ⟨hx, hb, hml, hown, htT⟩ (c_known_t l hst D cA _ S x ho ar hq0 har p0 hsw) (cwV 1 htT (kg_V m_ml_X5_45 m_im_X5_known m_sl_X5_known m_in_X5 m_cd_X5_known) rfl rfl rfl (by decide +kernel) ⟨Nat.le_of_ble_eq_true rfl, Nat.le_of_ble_eq_true rfl⟩) (kp_VX hK hP hD hTB hTX hS hA (kp_rc hK hP ho (Nat.le_of_ble_eq_true rfl) rfl)) rfl rfl hl.1 rfl (lv_room (Nat.le_of_ble_eq_true rfl)) dX5_place_2 ⟨Nat.le_of_ble_eq_true rfl, Nat.le_of_ble_eq_true rfl⟩) hD hS hA (fun ce q9 H locs hP hD hS hce hcv hcl => ?_)
  exact kt_out hTab hlocks hK hP hD hS hce hcv hcl (Nat.le_of_ble_eq_true rfl) (Nat.le_of_ble_eq_true rfl)

set_option maxRecDepth 100000 in
set_option maxHeartbeats 4000000 in
/-- need: no such switch -/
theorem c_need_t (l : Launch) (hst : l.stackTraces = false) (D : va_G) (cA : Nat → ClassId) (sz : Nat) (S : Pool) (x : Nat) (ho : isO S x 5) (ar : Nat) (hq0 : gQ S x 0 = some ar) (har : isA S ar 22 8) (p0 p1 p2 : Int32) (hsw : kSw S ar p0 = none) : vx_Met l yX5_need (Cond.code yX5_need cX5_need 6 (some .int) :: TT) ({ frames := 7, cells := 1, slots := 6, locals := 104 }) (va_Pc [.ref x, .int p0, .int p1, .int p2] (kPreX D cA (PW cA S) sz)) kNo (kXC D cA (PW cA S) "java/lang/IndexOutOfBoundsException" (va_A (PW cA S) sz)) 1 6 (va_A (PW cA S) sz) := by
  refine vx_ofW (cc := cX5_need) (maxL := 6) (ret := (some .int)) (by decide) rfl ?_
  intro p e s m args below meth c s₁ B hml hTab hv
  obtain ⟨rfl, ⟨hsz, hP, hK, hD0, hTB⟩, hTX⟩ := hv
  have hx := B.exec
  have hb := B.bytes
  have hr := B.returns
  have hts := atoms_spec (ws := Cond.code yX5_need cX5_need 6 (some .int) :: TT) B.pre
  have htT : ∀ w ∈ TT, w.before _ s = true := fun w h => hts w (List.mem_cons_of_mem _ h)
  have hown : s.vm.findClass RX5 = some m.cls := findClass_of_methodNamed B.named
  have hlocks := B.notSynchronized
  subst hsz
  have hD := hD0.self (sz := s.heap.size)
  generalize hAe : va_A (PW cA S) s.heap.size = A at hD hTX ⊢
  have hA : ∀ q : Nat, s.heap.size ≤ q → A q := fun q h => by rw [← hAe]; exact Or.inr h
  have hS : va_S A s.heap s.heap [] := va_S.rf
  have hl := lv_entry ([.ref x, .int p0, .int p1, .int p2]) (n := 6) (Nat.le_of_ble_eq_true rfl)
  rw [lg_entry_eq]
  generalize (lg_sl ([.ref x, .int p0, .int p1, .int p2]) ++ List.replicate (6 - (lg_sl ([.ref x, .int p0, .int p1, .int p2])).length) Slot.unset).toArray = ls at hl ⊢
  have hl : lv_has ls 6 [(0, .ref x), (1, .int p0), (2, .int p1), (3, .int p2)] := hl
  refine lv_aload_n hx hb dX5_need_0 rfl (lv_at hl 0 rfl) ?_
  refine lv_iload_n hx hb dX5_need_1 rfl (lv_at hl 1 rfl) ?_
  refine kt_call (vx_runV (As := [.int p0]) (rest := []) ⟨hx, hb, hml, hown, htT⟩ (c_known_t l hst D cA _ S x ho ar hq0 har p0 hsw) (cwV 1 htT (kg_V m_ml_X5_45 m_im_X5_known m_sl_X5_known m_in_X5 m_cd_X5_known) rfl rfl rfl (by decide +kernel) ⟨Nat.le_of_ble_eq_true rfl, Nat.le_of_ble_eq_true rfl⟩) (kp_VX hK hP hD hTB hTX hS hA (kp_rc hK hP ho (Nat.le_of_ble_eq_true rfl) rfl)) rfl rfl hl.1 rfl (lv_room (Nat.le_of_ble_eq_true rfl)) dX5_need_2 ⟨Nat.le_of_ble_eq_true rfl, Nat.le_of_ble_eq_true rfl⟩) hD hS hA (fun ce q9 H locs hP hD hS hce hcv hcl => ?_)
  exact kt_out hTab hlocks hK hP hD hS hce hcv hcl (Nat.le_of_ble_eq_true rfl) (Nat.le_of_ble_eq_true rfl)

set_option maxRecDepth 100000 in
set_option maxHeartbeats 4000000 in
/-- rule: no such switch -/
theorem c_rule_t (l : Launch) (hst : l.stackTraces = false) (D : va_G) (cA : Nat → ClassId) (sz : Nat) (S : Pool) (x : Nat) (ho : isO S x 5) (ar : Nat) (hq0 : gQ S x 0 = some ar) (har : isA S ar 22 8) (p0 p1 p2 p3 p4 : Int32) (hsw : kSw S ar p0 = none) : vx_Met l yX5_rule (Cond.code yX5_rule cX5_rule 7 (some .int) :: TT) ({ frames := 7, cells := 1, slots := 6, locals := 104 }) (va_Pc [.ref x, .int p0, .int p1, .int p2, .int p3, .int p4] (kPreX D cA (PW cA S) sz)) kNo (kXC D cA (PW cA S) "java/lang/IndexOutOfBoundsException" (va_A (PW cA S) sz)) 1 6 (va_A (PW cA S) sz) := by
  refine vx_ofW (cc := cX5_rule) (maxL := 7) (ret := (some .int)) (by decide) rfl ?_
  intro p e s m args below meth c s₁ B hml hTab hv
  obtain ⟨rfl, ⟨hsz, hP, hK, hD0, hTB⟩, hTX⟩ := hv
  have hx := B.exec
  have hb := B.bytes
  have hr := B.returns
  have hts := atoms_spec (ws := Cond.code yX5_rule cX5_rule 7 (some .int) :: TT) B.pre
  have htT : ∀ w ∈ TT, w.before _ s = true := fun w h => hts w (List.mem_cons_of_mem _ h)
  have hown : s.vm.findClass RX5 = some m.cls := findClass_of_methodNamed B.named
  have hlocks := B.notSynchronized
  subst hsz
  have hD := hD0.self (sz := s.heap.size)
  generalize hAe : va_A (PW cA S) s.heap.size = A at hD hTX ⊢
  have hA : ∀ q : Nat, s.heap.size ≤ q → A q := fun q h => by rw [← hAe]; exact Or.inr h
  have hS : va_S A s.heap s.heap [] := va_S.rf
  have hl := lv_entry ([.ref x, .int p0, .int p1, .int p2, .int p3, .int p4]) (n := 7) (Nat.le_of_ble_eq_true rfl)
  rw [lg_entry_eq]
  generalize (lg_sl ([.ref x, .int p0, .int p1, .int p2, .int p3, .int p4]) ++ List.replicate (7 - (lg_sl ([.ref x, .int p0, .int p1, .int p2, .int p3, .int p4])).length) Slot.unset).toArray = ls at hl ⊢
  have hl : lv_has ls 7 [(0, .ref x), (1, .int p0), (2, .int p1), (3, .int p2), (4, .int p3), (5, .int p4)] := hl
  refine lv_aload_n hx hb dX5_rule_0 rfl (lv_at hl 0 rfl) ?_
  refine lv_iload_n hx hb dX5_rule_1 rfl (lv_at hl 1 rfl) ?_
  refine kt_call (vx_runV (As := [.int p0]) (rest := []) ⟨hx, hb, hml, hown, htT⟩ (c_known_t l hst D cA _ S x ho ar hq0 har p0 hsw) (cwV 1 htT (kg_V m_ml_X5_45 m_im_X5_known m_sl_X5_known m_in_X5 m_cd_X5_known) rfl rfl rfl (by decide +kernel) ⟨Nat.le_of_ble_eq_true rfl, Nat.le_of_ble_eq_true rfl⟩) (kp_VX hK hP hD hTB hTX hS hA (kp_rc hK hP ho (Nat.le_of_ble_eq_true rfl) rfl)) rfl rfl hl.1 rfl (lv_room (Nat.le_of_ble_eq_true rfl)) dX5_rule_2 ⟨Nat.le_of_ble_eq_true rfl, Nat.le_of_ble_eq_true rfl⟩) hD hS hA (fun ce q9 H locs hP hD hS hce hcv hcl => ?_)
  exact kt_out hTab hlocks hK hP hD hS hce hcv hcl (Nat.le_of_ble_eq_true rfl) (Nat.le_of_ble_eq_true rfl)

set_option maxRecDepth 100000 in
set_option maxHeartbeats 4000000 in
/-- unrule: no such switch -/
theorem c_unrule_t (l : Launch) (hst : l.stackTraces = false) (D : va_G) (cA : Nat → ClassId) (sz : Nat) (S : Pool) (x : Nat) (ho : isO S x 5) (ar : Nat) (hq0 : gQ S x 0 = some ar) (har : isA S ar 22 8) (p0 p1 : Int32) (hsw : kSw S ar p0 = none) : vx_Met l yX5_unrule (Cond.code yX5_unrule cX5_unrule 4 (some .int) :: TT) ({ frames := 7, cells := 1, slots := 6, locals := 104 }) (va_Pc [.ref x, .int p0, .int p1] (kPreX D cA (PW cA S) sz)) kNo (kXC D cA (PW cA S) "java/lang/IndexOutOfBoundsException" (va_A (PW cA S) sz)) 1 6 (va_A (PW cA S) sz) := by
  refine vx_ofW (cc := cX5_unrule) (maxL := 4) (ret := (some .int)) (by decide) rfl ?_
  intro p e s m args below meth c s₁ B hml hTab hv
  obtain ⟨rfl, ⟨hsz, hP, hK, hD0, hTB⟩, hTX⟩ := hv
  have hx := B.exec
  have hb := B.bytes
  have hr := B.returns
  have hts := atoms_spec (ws := Cond.code yX5_unrule cX5_unrule 4 (some .int) :: TT) B.pre
  have htT : ∀ w ∈ TT, w.before _ s = true := fun w h => hts w (List.mem_cons_of_mem _ h)
  have hown : s.vm.findClass RX5 = some m.cls := findClass_of_methodNamed B.named
  have hlocks := B.notSynchronized
  subst hsz
  have hD := hD0.self (sz := s.heap.size)
  generalize hAe : va_A (PW cA S) s.heap.size = A at hD hTX ⊢
  have hA : ∀ q : Nat, s.heap.size ≤ q → A q := fun q h => by rw [← hAe]; exact Or.inr h
  have hS : va_S A s.heap s.heap [] := va_S.rf
  have hl := lv_entry ([.ref x, .int p0, .int p1]) (n := 4) (Nat.le_of_ble_eq_true rfl)
  rw [lg_entry_eq]
  generalize (lg_sl ([.ref x, .int p0, .int p1]) ++ List.replicate (4 - (lg_sl ([.ref x, .int p0, .int p1])).length) Slot.unset).toArray = ls at hl ⊢
  have hl : lv_has ls 4 [(0, .ref x), (1, .int p0), (2, .int p1)] := hl
  refine lv_aload_n hx hb dX5_unrule_0 rfl (lv_at hl 0 rfl) ?_
  refine lv_iload_n hx hb dX5_unrule_1 rfl (lv_at hl 1 rfl) ?_
  refine kt_call (vx_runV (As := [.int p0]) (rest := []) ⟨hx, hb, hml, hown, htT⟩ (c_known_t l hst D cA _ S x ho ar hq0 har p0 hsw) (cwV 1 htT (kg_V m_ml_X5_45 m_im_X5_known m_sl_X5_known m_in_X5 m_cd_X5_known) rfl rfl rfl (by decide +kernel) ⟨Nat.le_of_ble_eq_true rfl, Nat.le_of_ble_eq_true rfl⟩) (kp_VX hK hP hD hTB hTX hS hA (kp_rc hK hP ho (Nat.le_of_ble_eq_true rfl) rfl)) rfl rfl hl.1 rfl (lv_room (Nat.le_of_ble_eq_true rfl)) dX5_unrule_2 ⟨Nat.le_of_ble_eq_true rfl, Nat.le_of_ble_eq_true rfl⟩) hD hS hA (fun ce q9 H locs hP hD hS hce hcv hcl => ?_)
  exact kt_out hTab hlocks hK hP hD hS hce hcv hcl (Nat.le_of_ble_eq_true rfl) (Nat.le_of_ble_eq_true rfl)

set_option maxRecDepth 100000 in
set_option maxHeartbeats 4000000 in
/-- weight: no such switch -/
theorem c_weight_t (l : Launch) (hst : l.stackTraces = false) (D : va_G) (cA : Nat → ClassId) (sz : Nat) (S : Pool) (x : Nat) (ho : isO S x 5) (ar : Nat) (hq0 : gQ S x 0 = some ar) (har : isA S ar 22 8) (p0 p1 : Int32) (hsw : kSw S ar p0 = none) : vx_Met l yX5_weight (Cond.code yX5_weight cX5_weight 4 (some .int) :: TT) ({ frames := 7, cells := 1, slots := 6, locals := 104 }) (va_Pc [.ref x, .int p0, .int p1] (kPreX D cA (PW cA S) sz)) kNo (kXC D cA (PW cA S) "java/lang/IndexOutOfBoundsException" (va_A (PW cA S) sz)) 1 6 (va_A (PW cA S) sz) := by
  refine vx_ofW (cc := cX5_weight) (maxL := 4) (ret := (some .int)) (by decide) rfl ?_
  intro p e s m args below meth c s₁ B hml hTab hv
  obtain ⟨rfl, ⟨hsz, hP, hK, hD0, hTB⟩, hTX⟩ := hv
  have hx := B.exec
  have hb := B.bytes
  have hr := B.returns
  have hts := atoms_spec (ws := Cond.code yX5_weight cX5_weight 4 (some .int) :: TT) B.pre
  have htT : ∀ w ∈ TT, w.before _ s = true := fun w h => hts w (List.mem_cons_of_mem _ h)
  have hown : s.vm.findClass RX5 = some m.cls := findClass_of_methodNamed B.named
  have hlocks := B.notSynchronized
  subst hsz
  have hD := hD0.self (sz := s.heap.size)
  generalize hAe : va_A (PW cA S) s.heap.size = A at hD hTX ⊢
  have hA : ∀ q : Nat, s.heap.size ≤ q → A q := fun q h => by rw [← hAe]; exact Or.inr h
  have hS : va_S A s.heap s.heap [] := va_S.rf
  have hl := lv_entry ([.ref x, .int p0, .int p1]) (n := 4) (Nat.le_of_ble_eq_true rfl)
  rw [lg_entry_eq]
  generalize (lg_sl ([.ref x, .int p0, .int p1]) ++ List.replicate (4 - (lg_sl ([.ref x, .int p0, .int p1])).length) Slot.unset).toArray = ls at hl ⊢
  have hl : lv_has ls 4 [(0, .ref x), (1, .int p0), (2, .int p1)] := hl
  refine lv_aload_n hx hb dX5_weight_0 rfl (lv_at hl 0 rfl) ?_
  refine lv_iload_n hx hb dX5_weight_1 rfl (lv_at hl 1 rfl) ?_
  refine kt_call (vx_runV (As := [.int p0]) (rest := []) ⟨hx, hb, hml, hown, htT⟩ (c_known_t l hst D cA _ S x ho ar hq0 har p0 hsw) (cwV 1 htT (kg_V m_ml_X5_45 m_im_X5_known m_sl_X5_known m_in_X5 m_cd_X5_known) rfl rfl rfl (by decide +kernel) ⟨Nat.le_of_ble_eq_true rfl, Nat.le_of_ble_eq_true rfl⟩) (kp_VX hK hP hD hTB hTX hS hA (kp_rc hK hP ho (Nat.le_of_ble_eq_true rfl) rfl)) rfl rfl hl.1 rfl (lv_room (Nat.le_of_ble_eq_true rfl)) dX5_weight_2 ⟨Nat.le_of_ble_eq_true rfl, Nat.le_of_ble_eq_true rfl⟩) hD hS hA (fun ce q9 H locs hP hD hS hce hcv hcl => ?_)
  exact kt_out hTab hlocks hK hP hD hS hce hcv hcl (Nat.le_of_ble_eq_true rfl) (Nat.le_of_ble_eq_true rfl)

set_option maxRecDepth 100000 in
set_option maxHeartbeats 4000000 in
/-- share: no such switch -/
theorem c_share_t (l : Launch) (hst : l.stackTraces = false) (D : va_G) (cA : Nat → ClassId) (sz : Nat) (S : Pool) (x : Nat) (ho : isO S x 5) (ar : Nat) (hq0 : gQ S x 0 = some ar) (har : isA S ar 22 8) (p0 : Int32) (hsw : kSw S ar p0 = none) : vx_Met l yX5_share (Cond.code yX5_share cX5_share 2 (some .int) :: TT) ({ frames := 7, cells := 1, slots := 6, locals := 104 }) (va_Pc [.ref x, .int p0] (kPreX D cA (PW cA S) sz)) kNo (kXC D cA (PW cA S) "java/lang/IndexOutOfBoundsException" (va_A (PW cA S) sz)) 1 6 (va_A (PW cA S) sz) := by
  refine vx_ofW (cc := cX5_share) (maxL := 2) (ret := (some .int)) (by decide) rfl ?_
  intro p e s m args below meth c s₁ B hml hTab hv
  obtain ⟨rfl, ⟨hsz, hP, hK, hD0, hTB⟩, hTX⟩ := hv
  have hx := B.exec
  have hb := B.bytes
  have hr := B.returns
  have hts := atoms_spec (ws := Cond.code yX5_share cX5_share 2 (some .int) :: TT) B.pre
  have htT : ∀ w ∈ TT, w.before _ s = true := fun w h => hts w (List.mem_cons_of_mem _ h)
  have hown : s.vm.findClass RX5 = some m.cls := findClass_of_methodNamed B.named
  have hlocks := B.notSynchronized
  subst hsz
  have hD := hD0.self (sz := s.heap.size)
  generalize hAe : va_A (PW cA S) s.heap.size = A at hD hTX ⊢
  have hA : ∀ q : Nat, s.heap.size ≤ q → A q := fun q h => by rw [← hAe]; exact Or.inr h
  have hS : va_S A s.heap s.heap [] := va_S.rf
  have hl := lv_entry ([.ref x, .int p0]) (n := 2) (Nat.le_of_ble_eq_true rfl)
  rw [lg_entry_eq]
  generalize (lg_sl ([.ref x, .int p0]) ++ List.replicate (2 - (lg_sl ([.ref x, .int p0])).length) Slot.unset).toArray = ls at hl ⊢
  have hl : lv_has ls 2 [(0, .ref x), (1, .int p0)] := hl
  refine lv_aload_n hx hb dX5_share_0 rfl (lv_at hl 0 rfl) ?_
  refine lv_iload_n hx hb dX5_share_1 rfl (lv_at hl 1 rfl) ?_
  refine kt_call (vx_runV (As := [.int p0]) (rest := []) ⟨hx, hb, hml, hown, htT⟩ (c_known_t l hst D cA _ S x ho ar hq0 har p0 hsw) (cwV 1 htT (kg_V m_ml_X5_45 m_im_X5_known m_sl_X5_known m_in_X5 m_cd_X5_known) rfl rfl rfl (by decide +kernel) ⟨Nat.le_of_ble_eq_true rfl, Nat.le_of_ble_eq_true rfl⟩) (kp_VX hK hP hD hTB hTX hS hA (kp_rc hK hP ho (Nat.le_of_ble_eq_true rfl) rfl)) rfl rfl hl.1 rfl (lv_room (Nat.le_of_ble_eq_true rfl)) dX5_share_2 ⟨Nat.le_of_ble_eq_true rfl, Nat.le_of_ble_eq_true rfl⟩) hD hS hA (fun ce q9 H locs hP hD hS hce hcv hcl => ?_)
  exact kt_out hTab hlocks hK hP hD hS hce hcv hcl (Nat.le_of_ble_eq_true rfl) (Nat.le_of_ble_eq_true rfl)

set_option maxRecDepth 100000 in
set_option maxHeartbeats 4000000 in
/-- gets: no such switch -/
theorem c_gets_t (l : Launch) (hst : l.stackTraces = false) (D : va_G) (cA : Nat → ClassId) (sz : Nat) (S : Pool) (x : Nat) (ho : isO S x 5) (ar : Nat) (hq0 : gQ S x 0 = some ar) (har : isA S ar 22 8) (p0 p1 p2 p3 : Int32) (hsw : kSw S ar p0 = none) : vx_Met l yX5_gets (Cond.code yX5_gets cX5_gets 6 (some .int) :: TT) ({ frames := 7, cells := 1, slots := 6, locals := 104 }) (va_Pc [.ref x, .int p0, .int p1, .int p2, .int p3] (kPreX D cA (PW cA S) sz)) kNo (kXC D cA (PW cA S) "java/lang/IndexOutOfBoundsException" (va_A (PW cA S) sz)) 1 6 (va_A (PW cA S) sz) := by
  refine vx_ofW (cc := cX5_gets) (maxL := 6) (ret := (some .int)) (by decide) rfl ?_
  intro p e s m args below meth c s₁ B hml hTab hv
  obtain ⟨rfl, ⟨hsz, hP, hK, hD0, hTB⟩, hTX⟩ := hv
  have hx := B.exec
  have hb := B.bytes
  have hr := B.returns
  have hts := atoms_spec (ws := Cond.code yX5_gets cX5_gets 6 (some .int) :: TT) B.pre
  have htT : ∀ w ∈ TT, w.before _ s = true := fun w h => hts w (List.mem_cons_of_mem _ h)
  have hown : s.vm.findClass RX5 = some m.cls := findClass_of_methodNamed B.named
  have hlocks := B.notSynchronized
  subst hsz
  have hD := hD0.self (sz := s.heap.size)
  generalize hAe : va_A (PW cA S) s.heap.size = A at hD hTX ⊢
  have hA : ∀ q : Nat, s.heap.size ≤ q → A q := fun q h => by rw [← hAe]; exact Or.inr h
  have hS : va_S A s.heap s.heap [] := va_S.rf
  have hl := lv_entry ([.ref x, .int p0, .int p1, .int p2, .int p3]) (n := 6) (Nat.le_of_ble_eq_true rfl)
  rw [lg_entry_eq]
  generalize (lg_sl ([.ref x, .int p0, .int p1, .int p2, .int p3]) ++ List.replicate (6 - (lg_sl ([.ref x, .int p0, .int p1, .int p2, .int p3])).length) Slot.unset).toArray = ls at hl ⊢
  have hl : lv_has ls 6 [(0, .ref x), (1, .int p0), (2, .int p1), (3, .int p2), (4, .int p3)] := hl
  refine lv_aload_n hx hb dX5_gets_0 rfl (lv_at hl 0 rfl) ?_
  refine lv_iload_n hx hb dX5_gets_1 rfl (lv_at hl 1 rfl) ?_
  refine kt_call (vx_runV (As := [.int p0]) (rest := []) ⟨hx, hb, hml, hown, htT⟩ (c_known_t l hst D cA _ S x ho ar hq0 har p0 hsw) (cwV 1 htT (kg_V m_ml_X5_45 m_im_X5_known m_sl_X5_known m_in_X5 m_cd_X5_known) rfl rfl rfl (by decide +kernel) ⟨Nat.le_of_ble_eq_true rfl, Nat.le_of_ble_eq_true rfl⟩) (kp_VX hK hP hD hTB hTX hS hA (kp_rc hK hP ho (Nat.le_of_ble_eq_true rfl) rfl)) rfl rfl hl.1 rfl (lv_room (Nat.le_of_ble_eq_true rfl)) dX5_gets_2 ⟨Nat.le_of_ble_eq_true rfl, Nat.le_of_ble_eq_true rfl⟩) hD hS hA (fun ce q9 H locs hP hD hS hce hcv hcl => ?_)
  exact kt_out hTab hlocks hK hP hD hS hce hcv hcl (Nat.le_of_ble_eq_true rfl) (Nat.le_of_ble_eq_true rfl)

set_option maxRecDepth 100000 in
set_option maxHeartbeats 4000000 in
/-- why: no such switch -/
theorem c_why_t (l : Launch) (hst : l.stackTraces = false) (D : va_G) (cA : Nat → ClassId) (sz : Nat) (S : Pool) (x : Nat) (ho : isO S x 5) (ar : Nat) (hq0 : gQ S x 0 = some ar) (har : isA S ar 22 8) (p0 p1 p2 p3 : Int32) (hsw : kSw S ar p0 = none) : vx_Met l yX5_why (Cond.code yX5_why cX5_why 6 (some .int) :: TT) ({ frames := 7, cells := 1, slots := 6, locals := 104 }) (va_Pc [.ref x, .int p0, .int p1, .int p2, .int p3] (kPreX D cA (PW cA S) sz)) kNo (kXC D cA (PW cA S) "java/lang/IndexOutOfBoundsException" (va_A (PW cA S) sz)) 1 6 (va_A (PW cA S) sz) := by
  refine vx_ofW (cc := cX5_why) (maxL := 6) (ret := (some .int)) (by decide) rfl ?_
  intro p e s m args below meth c s₁ B hml hTab hv
  obtain ⟨rfl, ⟨hsz, hP, hK, hD0, hTB⟩, hTX⟩ := hv
  have hx := B.exec
  have hb := B.bytes
  have hr := B.returns
  have hts := atoms_spec (ws := Cond.code yX5_why cX5_why 6 (some .int) :: TT) B.pre
  have htT : ∀ w ∈ TT, w.before _ s = true := fun w h => hts w (List.mem_cons_of_mem _ h)
  have hown : s.vm.findClass RX5 = some m.cls := findClass_of_methodNamed B.named
  have hlocks := B.notSynchronized
  subst hsz
  have hD := hD0.self (sz := s.heap.size)
  generalize hAe : va_A (PW cA S) s.heap.size = A at hD hTX ⊢
  have hA : ∀ q : Nat, s.heap.size ≤ q → A q := fun q h => by rw [← hAe]; exact Or.inr h
  have hS : va_S A s.heap s.heap [] := va_S.rf
  have hl := lv_entry ([.ref x, .int p0, .int p1, .int p2, .int p3]) (n := 6) (Nat.le_of_ble_eq_true rfl)
  rw [lg_entry_eq]
  generalize (lg_sl ([.ref x, .int p0, .int p1, .int p2, .int p3]) ++ List.replicate (6 - (lg_sl ([.ref x, .int p0, .int p1, .int p2, .int p3])).length) Slot.unset).toArray = ls at hl ⊢
  have hl : lv_has ls 6 [(0, .ref x), (1, .int p0), (2, .int p1), (3, .int p2), (4, .int p3)] := hl
  refine lv_aload_n hx hb dX5_why_0 rfl (lv_at hl 0 rfl) ?_
  refine lv_iload_n hx hb dX5_why_1 rfl (lv_at hl 1 rfl) ?_
  refine kt_call (vx_runV (As := [.int p0]) (rest := []) ⟨hx, hb, hml, hown, htT⟩ (c_known_t l hst D cA _ S x ho ar hq0 har p0 hsw) (cwV 1 htT (kg_V m_ml_X5_45 m_im_X5_known m_sl_X5_known m_in_X5 m_cd_X5_known) rfl rfl rfl (by decide +kernel) ⟨Nat.le_of_ble_eq_true rfl, Nat.le_of_ble_eq_true rfl⟩) (kp_VX hK hP hD hTB hTX hS hA (kp_rc hK hP ho (Nat.le_of_ble_eq_true rfl) rfl)) rfl rfl hl.1 rfl (lv_room (Nat.le_of_ble_eq_true rfl)) dX5_why_2 ⟨Nat.le_of_ble_eq_true rfl, Nat.le_of_ble_eq_true rfl⟩) hD hS hA (fun ce q9 H locs hP hD hS hce hcv hcl => ?_)
  exact kt_out hTab hlocks hK hP hD hS hce hcv hcl (Nat.le_of_ble_eq_true rfl) (Nat.le_of_ble_eq_true rfl)

set_option maxRecDepth 100000 in
set_option maxHeartbeats 4000000 in
/-- holds: no such switch -/
theorem c_holds_t (l : Launch) (hst : l.stackTraces = false) (D : va_G) (cA : Nat → ClassId) (sz : Nat) (S : Pool) (x : Nat) (ho : isO S x 5) (ar : Nat) (hq0 : gQ S x 0 = some ar) (har : isA S ar 22 8) (p0 p1 p2 p3 : Int32) (hsw : kSw S ar p0 = none) : vx_Met l yX5_holds (Cond.code yX5_holds cX5_holds 6 (some .int) :: TT) ({ frames := 7, cells := 1, slots := 6, locals := 104 }) (va_Pc [.ref x, .int p0, .int p1, .int p2, .int p3] (kPreX D cA (PW cA S) sz)) kNo (kXC D cA (PW cA S) "java/lang/IndexOutOfBoundsException" (va_A (PW cA S) sz)) 1 6 (va_A (PW cA S) sz) := by
  refine vx_ofW (cc := cX5_holds) (maxL := 6) (ret := (some .int)) (by decide) rfl ?_
  intro p e s m args below meth c s₁ B hml hTab hv
  obtain ⟨rfl, ⟨hsz, hP, hK, hD0, hTB⟩, hTX⟩ := hv
  have hx := B.exec
  have hb := B.bytes
  have hr := B.returns
  have hts := atoms_spec (ws := Cond.code yX5_holds cX5_holds 6 (some .int) :: TT) B.pre
  have htT : ∀ w ∈ TT, w.before _ s = true := fun w h => hts w (List.mem_cons_of_mem _ h)
  have hown : s.vm.findClass RX5 = some m.cls := findClass_of_methodNamed B.named
  have hlocks := B.notSynchronized
  subst hsz
  have hD := hD0.self (sz := s.heap.size)
  generalize hAe : va_A (PW cA S) s.heap.size = A at hD hTX ⊢
  have hA : ∀ q : Nat, s.heap.size ≤ q → A q := fun q h => by rw [← hAe]; exact Or.inr h
  have hS : va_S A s.heap s.heap [] := va_S.rf
  have hl := lv_entry ([.ref x, .int p0, .int p1, .int p2, .int p3]) (n := 6) (Nat.le_of_ble_eq_true rfl)
  rw [lg_entry_eq]
  generalize (lg_sl ([.ref x, .int p0, .int p1, .int p2, .int p3]) ++ List.replicate (6 - (lg_sl ([.ref x, .int p0, .int p1, .int p2, .int p3])).length) Slot.unset).toArray = ls at hl ⊢
  have hl : lv_has ls 6 [(0, .ref x), (1, .int p0), (2, .int p1), (3, .int p2), (4, .int p3)] := hl
  refine lv_aload_n hx hb dX5_holds_0 rfl (lv_at hl 0 rfl) ?_
  refine lv_iload_n hx hb dX5_holds_1 rfl (lv_at hl 1 rfl) ?_
  refine kt_call (vx_runV (As := [.int p0]) (rest := []) ⟨hx, hb, hml, hown, htT⟩ (c_known_t l hst D cA _ S x ho ar hq0 har p0 hsw) (cwV 1 htT (kg_V m_ml_X5_45 m_im_X5_known m_sl_X5_known m_in_X5 m_cd_X5_known) rfl rfl rfl (by decide +kernel) ⟨Nat.le_of_ble_eq_true rfl, Nat.le_of_ble_eq_true rfl⟩) (kp_VX hK hP hD hTB hTX hS hA (kp_rc hK hP ho (Nat.le_of_ble_eq_true rfl) rfl)) rfl rfl hl.1 rfl (lv_room (Nat.le_of_ble_eq_true rfl)) dX5_holds_2 ⟨Nat.le_of_ble_eq_true rfl, Nat.le_of_ble_eq_true rfl⟩) hD hS hA (fun ce q9 H locs hP hD hS hce hcv hcl => ?_)
  exact kt_out hTab hlocks hK hP hD hS hce hcv hcl (Nat.le_of_ble_eq_true rfl) (Nat.le_of_ble_eq_true rfl)

set_option maxRecDepth 100000 in
set_option maxHeartbeats 4000000 in
/-- ask: no such switch -/
theorem c_ask_t (l : Launch) (hst : l.stackTraces = false) (D : va_G) (cA : Nat → ClassId) (sz : Nat) (S : Pool) (x : Nat) (ho : isO S x 5) (ar : Nat) (hq0 : gQ S x 0 = some ar) (har : isA S ar 22 8) (p0 p1 p2 p3 : Int32) (hsw : kSw S ar p0 = none) : vx_Met l yX5_ask (Cond.code yX5_ask cX5_ask 8 (some .int) :: TT) ({ frames := 7, cells := 1, slots := 6, locals := 104 }) (va_Pc [.ref x, .int p0, .int p1, .int p2, .int p3] (kPreX D cA (PW cA S) sz)) kNo (kXC D cA (PW cA S) "java/lang/IndexOutOfBoundsException" (va_A (PW cA S) sz)) 1 6 (va_A (PW cA S) sz) := by
  refine vx_ofW (cc := cX5_ask) (maxL := 8) (ret := (some .int)) (by decide) rfl ?_
  intro p e s m args below meth c s₁ B hml hTab hv
  obtain ⟨rfl, ⟨hsz, hP, hK, hD0, hTB⟩, hTX⟩ := hv
  have hx := B.exec
  have hb := B.bytes
  have hr := B.returns
  have hts := atoms_spec (ws := Cond.code yX5_ask cX5_ask 8 (some .int) :: TT) B.pre
  have htT : ∀ w ∈ TT, w.before _ s = true := fun w h => hts w (List.mem_cons_of_mem _ h)
  have hown : s.vm.findClass RX5 = some m.cls := findClass_of_methodNamed B.named
  have hlocks := B.notSynchronized
  subst hsz
  have hD := hD0.self (sz := s.heap.size)
  generalize hAe : va_A (PW cA S) s.heap.size = A at hD hTX ⊢
  have hA : ∀ q : Nat, s.heap.size ≤ q → A q := fun q h => by rw [← hAe]; exact Or.inr h
  have hS : va_S A s.heap s.heap [] := va_S.rf
  have hl := lv_entry ([.ref x, .int p0, .int p1, .int p2, .int p3]) (n := 8) (Nat.le_of_ble_eq_true rfl)
  rw [lg_entry_eq]
  generalize (lg_sl ([.ref x, .int p0, .int p1, .int p2, .int p3]) ++ List.replicate (8 - (lg_sl ([.ref x, .int p0, .int p1, .int p2, .int p3])).length) Slot.unset).toArray = ls at hl ⊢
  have hl : lv_has ls 8 [(0, .ref x), (1, .int p0), (2, .int p1), (3, .int p2), (4, .int p3)] := hl
  refine lv_aload_n hx hb dX5_ask_0 rfl (lv_at hl 0 rfl) ?_
  refine lv_iload_n hx hb dX5_ask_1 rfl (lv_at hl 1 rfl) ?_
  refine kt_call (vx_runV (As := [.int p0]) (rest := []) ⟨hx, hb, hml, hown, htT⟩ (c_known_t l hst D cA _ S x ho ar hq0 har p0 hsw) (cwV 1 htT (kg_V m_ml_X5_45 m_im_X5_known m_sl_X5_known m_in_X5 m_cd_X5_known) rfl rfl rfl (by decide +kernel) ⟨Nat.le_of_ble_eq_true rfl, Nat.le_of_ble_eq_true rfl⟩) (kp_VX hK hP hD hTB hTX hS hA (kp_rc hK hP ho (Nat.le_of_ble_eq_true rfl) rfl)) rfl rfl hl.1 rfl (lv_room (Nat.le_of_ble_eq_true rfl)) dX5_ask_2 ⟨Nat.le_of_ble_eq_true rfl, Nat.le_of_ble_eq_true rfl⟩) hD hS hA (fun ce q9 H locs hP hD hS hce hcv hcl => ?_)
  exact kt_out hTab hlocks hK hP hD hS hce hcv hcl (Nat.le_of_ble_eq_true rfl) (Nat.le_of_ble_eq_true rfl)

set_option maxRecDepth 100000 in
set_option maxHeartbeats 4000000 in
/-- arm: no such switch -/
theorem c_arm_t (l : Launch) (hst : l.stackTraces = false) (D : va_G) (cA : Nat → ClassId) (sz : Nat) (S : Pool) (x : Nat) (ho : isO S x 5) (ar : Nat) (hq0 : gQ S x 0 = some ar) (har : isA S ar 22 8) (p0 p1 : Int32) (hsw : kSw S ar p0 = none) : vx_Met l yX5_arm (Cond.code yX5_arm cX5_arm 5 (some .int) :: TT) ({ frames := 7, cells := 1, slots := 6, locals := 104 }) (va_Pc [.ref x, .int p0, .int p1] (kPreX D cA (PW cA S) sz)) kNo (kXC D cA (PW cA S) "java/lang/IndexOutOfBoundsException" (va_A (PW cA S) sz)) 1 6 (va_A (PW cA S) sz) := by
  refine vx_ofW (cc := cX5_arm) (maxL := 5) (ret := (some .int)) (by decide) rfl ?_
  intro p e s m args below meth c s₁ B hml hTab hv
  obtain ⟨rfl, ⟨hsz, hP, hK, hD0, hTB⟩, hTX⟩ := hv
  have hx := B.exec
  have hb := B.bytes
  have hr := B.returns
  have hts := atoms_spec (ws := Cond.code yX5_arm cX5_arm 5 (some .int) :: TT) B.pre
  have htT : ∀ w ∈ TT, w.before _ s = true := fun w h => hts w (List.mem_cons_of_mem _ h)
  have hown : s.vm.findClass RX5 = some m.cls := findClass_of_methodNamed B.named
  have hlocks := B.notSynchronized
  subst hsz
  have hD := hD0.self (sz := s.heap.size)
  generalize hAe : va_A (PW cA S) s.heap.size = A at hD hTX ⊢
  have hA : ∀ q : Nat, s.heap.size ≤ q → A q := fun q h => by rw [← hAe]; exact Or.inr h
  have hS : va_S A s.heap s.heap [] := va_S.rf
  have hl := lv_entry ([.ref x, .int p0, .int p1]) (n := 5) (Nat.le_of_ble_eq_true rfl)
  rw [lg_entry_eq]
  generalize (lg_sl ([.ref x, .int p0, .int p1]) ++ List.replicate (5 - (lg_sl ([.ref x, .int p0, .int p1])).length) Slot.unset).toArray = ls at hl ⊢
  have hl : lv_has ls 5 [(0, .ref x), (1, .int p0), (2, .int p1)] := hl
  refine lv_aload_n hx hb dX5_arm_0 rfl (lv_at hl 0 rfl) ?_
  refine lv_iload_n hx hb dX5_arm_1 rfl (lv_at hl 1 rfl) ?_
  refine kt_call (vx_runV (As := [.int p0]) (rest := []) ⟨hx, hb, hml, hown, htT⟩ (c_known_t l hst D cA _ S x ho ar hq0 har p0 hsw) (cwV 1 htT (kg_V m_ml_X5_45 m_im_X5_known m_sl_X5_known m_in_X5 m_cd_X5_known) rfl rfl rfl (by decide +kernel) ⟨Nat.le_of_ble_eq_true rfl, Nat.le_of_ble_eq_true rfl⟩) (kp_VX hK hP hD hTB hTX hS hA (kp_rc hK hP ho (Nat.le_of_ble_eq_true rfl) rfl)) rfl rfl hl.1 rfl (lv_room (Nat.le_of_ble_eq_true rfl)) dX5_arm_2 ⟨Nat.le_of_ble_eq_true rfl, Nat.le_of_ble_eq_true rfl⟩) hD hS hA (fun ce q9 H locs hP hD hS hce hcv hcl => ?_)
  exact kt_out hTab hlocks hK hP hD hS hce hcv hcl (Nat.le_of_ble_eq_true rfl) (Nat.le_of_ble_eq_true rfl)

set_option maxRecDepth 100000 in
set_option maxHeartbeats 4000000 in
/-- told: no such switch -/
theorem c_told_t (l : Launch) (hst : l.stackTraces = false) (D : va_G) (cA : Nat → ClassId) (sz : Nat) (S : Pool) (x : Nat) (ho : isO S x 5) (ar : Nat) (hq0 : gQ S x 0 = some ar) (har : isA S ar 22 8) (p0 p1 p2 : Int32) (hsw : kSw S ar p0 = none) : vx_Met l yX5_told (Cond.code yX5_told cX5_told 5 (some .int) :: TT) ({ frames := 7, cells := 1, slots := 6, locals := 104 }) (va_Pc [.ref x, .int p0, .int p1, .int p2] (kPreX D cA (PW cA S) sz)) kNo (kXC D cA (PW cA S) "java/lang/IndexOutOfBoundsException" (va_A (PW cA S) sz)) 1 6 (va_A (PW cA S) sz) := by
  refine vx_ofW (cc := cX5_told) (maxL := 5) (ret := (some .int)) (by decide) rfl ?_
  intro p e s m args below meth c s₁ B hml hTab hv
  obtain ⟨rfl, ⟨hsz, hP, hK, hD0, hTB⟩, hTX⟩ := hv
  have hx := B.exec
  have hb := B.bytes
  have hr := B.returns
  have hts := atoms_spec (ws := Cond.code yX5_told cX5_told 5 (some .int) :: TT) B.pre
  have htT : ∀ w ∈ TT, w.before _ s = true := fun w h => hts w (List.mem_cons_of_mem _ h)
  have hown : s.vm.findClass RX5 = some m.cls := findClass_of_methodNamed B.named
  have hlocks := B.notSynchronized
  subst hsz
  have hD := hD0.self (sz := s.heap.size)
  generalize hAe : va_A (PW cA S) s.heap.size = A at hD hTX ⊢
  have hA : ∀ q : Nat, s.heap.size ≤ q → A q := fun q h => by rw [← hAe]; exact Or.inr h
  have hS : va_S A s.heap s.heap [] := va_S.rf
  have hl := lv_entry ([.ref x, .int p0, .int p1, .int p2]) (n := 5) (Nat.le_of_ble_eq_true rfl)
  rw [lg_entry_eq]
  generalize (lg_sl ([.ref x, .int p0, .int p1, .int p2]) ++ List.replicate (5 - (lg_sl ([.ref x, .int p0, .int p1, .int p2])).length) Slot.unset).toArray = ls at hl ⊢
  have hl : lv_has ls 5 [(0, .ref x), (1, .int p0), (2, .int p1), (3, .int p2)] := hl
  refine lv_aload_n hx hb dX5_told_0 rfl (lv_at hl 0 rfl) ?_
  refine lv_iload_n hx hb dX5_told_1 rfl (lv_at hl 1 rfl) ?_
  refine kt_call (vx_runV (As := [.int p0]) (rest := []) ⟨hx, hb, hml, hown, htT⟩ (c_known_t l hst D cA _ S x ho ar hq0 har p0 hsw) (cwV 1 htT (kg_V m_ml_X5_45 m_im_X5_known m_sl_X5_known m_in_X5 m_cd_X5_known) rfl rfl rfl (by decide +kernel) ⟨Nat.le_of_ble_eq_true rfl, Nat.le_of_ble_eq_true rfl⟩) (kp_VX hK hP hD hTB hTX hS hA (kp_rc hK hP ho (Nat.le_of_ble_eq_true rfl) rfl)) rfl rfl hl.1 rfl (lv_room (Nat.le_of_ble_eq_true rfl)) dX5_told_2 ⟨Nat.le_of_ble_eq_true rfl, Nat.le_of_ble_eq_true rfl⟩) hD hS hA (fun ce q9 H locs hP hD hS hce hcv hcl => ?_)
  exact kt_out hTab hlocks hK hP hD hS hce hcv hcl (Nat.le_of_ble_eq_true rfl) (Nat.le_of_ble_eq_true rfl)

set_option maxRecDepth 100000 in
set_option maxHeartbeats 4000000 in
/-- mean: no such switch -/
theorem c_mean_t (l : Launch) (hst : l.stackTraces = false) (D : va_G) (cA : Nat → ClassId) (sz : Nat) (S : Pool) (x : Nat) (ho : isO S x 5) (ar : Nat) (hq0 : gQ S x 0 = some ar) (har : isA S ar 22 8) (p0 p1 : Int32) (hsw : kSw S ar p0 = none) : vx_Met l yX5_mean (Cond.code yX5_mean cX5_mean 4 (some .double) :: TT) ({ frames := 7, cells := 1, slots := 6, locals := 104 }) (va_Pc [.ref x, .int p0, .int p1] (kPreX D cA (PW cA S) sz)) kNo (kXC D cA (PW cA S) "java/lang/IndexOutOfBoundsException" (va_A (PW cA S) sz)) 1 6 (va_A (PW cA S) sz) := by
  refine vx_ofW (cc := cX5_mean) (maxL := 4) (ret := (some .double)) (by decide) rfl ?_
  intro p e s m args below meth c s₁ B hml hTab hv
  obtain ⟨rfl, ⟨hsz, hP, hK, hD0, hTB⟩, hTX⟩ := hv
  have hx := B.exec
  have hb := B.bytes
  have hr := B.returns
  have hts := atoms_spec (ws := Cond.code yX5_mean cX5_mean 4 (some .double) :: TT) B.pre
  have htT : ∀ w ∈ TT, w.before _ s = true := fun w h => hts w (List.mem_cons_of_mem _ h)
  have hown : s.vm.findClass RX5 = some m.cls := findClass_of_methodNamed B.named
  have hlocks := B.notSynchronized
  subst hsz
  have hD := hD0.self (sz := s.heap.size)
  generalize hAe : va_A (PW cA S) s.heap.size = A at hD hTX ⊢
  have hA : ∀ q : Nat, s.heap.size ≤ q → A q := fun q h => by rw [← hAe]; exact Or.inr h
  have hS : va_S A s.heap s.heap [] := va_S.rf
  have hl := lv_entry ([.ref x, .int p0, .int p1]) (n := 4) (Nat.le_of_ble_eq_true rfl)
  rw [lg_entry_eq]
  generalize (lg_sl ([.ref x, .int p0, .int p1]) ++ List.replicate (4 - (lg_sl ([.ref x, .int p0, .int p1])).length) Slot.unset).toArray = ls at hl ⊢
  have hl : lv_has ls 4 [(0, .ref x), (1, .int p0), (2, .int p1)] := hl
  refine lv_aload_n hx hb dX5_mean_0 rfl (lv_at hl 0 rfl) ?_
  refine lv_iload_n hx hb dX5_mean_1 rfl (lv_at hl 1 rfl) ?_
  refine kt_call (vx_runV (As := [.int p0]) (rest := []) ⟨hx, hb, hml, hown, htT⟩ (c_known_t l hst D cA _ S x ho ar hq0 har p0 hsw) (cwV 1 htT (kg_V m_ml_X5_45 m_im_X5_known m_sl_X5_known m_in_X5 m_cd_X5_known) rfl rfl rfl (by decide +kernel) ⟨Nat.le_of_ble_eq_true rfl, Nat.le_of_ble_eq_true rfl⟩) (kp_VX hK hP hD hTB hTX hS hA (kp_rc hK hP ho (Nat.le_of_ble_eq_true rfl) rfl)) rfl rfl hl.1 rfl (lv_room (Nat.le_of_ble_eq_true rfl)) dX5_mean_2 ⟨Nat.le_of_ble_eq_true rfl, Nat.le_of_ble_eq_true rfl⟩) hD hS hA (fun ce q9 H locs hP hD hS hce hcv hcl => ?_)
  exact kt_out hTab hlocks hK hP hD hS hce hcv hcl (Nat.le_of_ble_eq_true rfl) (Nat.le_of_ble_eq_true rfl)

set_option maxRecDepth 100000 in
set_option maxHeartbeats 4000000 in
/-- lift: no such switch -/
theorem c_lift_t (l : Launch) (hst : l.stackTraces = false) (D : va_G) (cA : Nat → ClassId) (sz : Nat) (S : Pool) (x : Nat) (ho : isO S x 5) (ar : Nat) (hq0 : gQ S x 0 = some ar) (har : isA S ar 22 8) (p0 p1 : Int32) (hsw : kSw S ar p0 = none) : vx_Met l yX5_lift (Cond.code yX5_lift cX5_lift 4 (some .double) :: TT) ({ frames := 7, cells := 1, slots := 6, locals := 104 }) (va_Pc [.ref x, .int p0, .int p1] (kPreX D cA (PW cA S) sz)) kNo (kXC D cA (PW cA S) "java/lang/IndexOutOfBoundsException" (va_A (PW cA S) sz)) 1 6 (va_A (PW cA S) sz) := by
  refine vx_ofW (cc := cX5_lift) (maxL := 4) (ret := (some .double)) (by decide) rfl ?_
  intro p e s m args below meth c s₁ B hml hTab hv
  obtain ⟨rfl, ⟨hsz, hP, hK, hD0, hTB⟩, hTX⟩ := hv
  have hx := B.exec
  have hb := B.bytes
  have hr := B.returns
  have hts := atoms_spec (ws := Cond.code yX5_lift cX5_lift 4 (some .double) :: TT) B.pre
  have htT : ∀ w ∈ TT, w.before _ s = true := fun w h => hts w (List.mem_cons_of_mem _ h)
  have hown : s.vm.findClass RX5 = some m.cls := findClass_of_methodNamed B.named
  have hlocks := B.notSynchronized
  subst hsz
  have hD := hD0.self (sz := s.heap.size)
  generalize hAe : va_A (PW cA S) s.heap.size = A at hD hTX ⊢
  have hA : ∀ q : Nat, s.heap.size ≤ q → A q := fun q h => by rw [← hAe]; exact Or.inr h
  have hS : va_S A s.heap s.heap [] := va_S.rf
  have hl := lv_entry ([.ref x, .int p0, .int p1]) (n := 4) (Nat.le_of_ble_eq_true rfl)
  rw [lg_entry_eq]
  generalize (lg_sl ([.ref x, .int p0, .int p1]) ++ List.replicate (4 - (lg_sl ([.ref x, .int p0, .int p1])).length) Slot.unset).toArray = ls at hl ⊢
  have hl : lv_has ls 4 [(0, .ref x), (1, .int p0), (2, .int p1)] := hl
  refine lv_aload_n hx hb dX5_lift_0 rfl (lv_at hl 0 rfl) ?_
  refine lv_iload_n hx hb dX5_lift_1 rfl (lv_at hl 1 rfl) ?_
  refine kt_call (vx_runV (As := [.int p0]) (rest := []) ⟨hx, hb, hml, hown, htT⟩ (c_known_t l hst D cA _ S x ho ar hq0 har p0 hsw) (cwV 1 htT (kg_V m_ml_X5_45 m_im_X5_known m_sl_X5_known m_in_X5 m_cd_X5_known) rfl rfl rfl (by decide +kernel) ⟨Nat.le_of_ble_eq_true rfl, Nat.le_of_ble_eq_true rfl⟩) (kp_VX hK hP hD hTB hTX hS hA (kp_rc hK hP ho (Nat.le_of_ble_eq_true rfl) rfl)) rfl rfl hl.1 rfl (lv_room (Nat.le_of_ble_eq_true rfl)) dX5_lift_2 ⟨Nat.le_of_ble_eq_true rfl, Nat.le_of_ble_eq_true rfl⟩) hD hS hA (fun ce q9 H locs hP hD hS hce hcv hcl => ?_)
  exact kt_out hTab hlocks hK hP hD hS hce hcv hcl (Nat.le_of_ble_eq_true rfl) (Nat.le_of_ble_eq_true rfl)

set_option maxRecDepth 100000 in
set_option maxHeartbeats 4000000 in
/-- sure: no such switch -/
theorem c_sure_t (l : Launch) (hst : l.stackTraces = false) (D : va_G) (cA : Nat → ClassId) (sz : Nat) (S : Pool) (x : Nat) (ho : isO S x 5) (ar : Nat) (hq0 : gQ S x 0 = some ar) (har : isA S ar 22 8) (p0 p1 : Int32) (hsw : kSw S ar p0 = none) : vx_Met l yX5_sure (Cond.code yX5_sure cX5_sure 4 (some .double) :: TT) ({ frames := 7, cells := 1, slots := 6, locals := 104 }) (va_Pc [.ref x, .int p0, .int p1] (kPreX D cA (PW cA S) sz)) kNo (kXC D cA (PW cA S) "java/lang/IndexOutOfBoundsException" (va_A (PW cA S) sz)) 1 6 (va_A (PW cA S) sz) := by
  refine vx_ofW (cc := cX5_sure) (maxL := 4) (ret := (some .double)) (by decide) rfl ?_
  intro p e s m args below meth c s₁ B hml hTab hv
  obtain ⟨rfl, ⟨hsz, hP, hK, hD0, hTB⟩, hTX⟩ := hv
  have hx := B.exec
  have hb := B.bytes
  have hr := B.returns
  have hts := atoms_spec (ws := Cond.code yX5_sure cX5_sure 4 (some .double) :: TT) B.pre
  have htT : ∀ w ∈ TT, w.before _ s = true := fun w h => hts w (List.mem_cons_of_mem _ h)
  have hown : s.vm.findClass RX5 = some m.cls := findClass_of_methodNamed B.named
  have hlocks := B.notSynchronized
  subst hsz
  have hD := hD0.self (sz := s.heap.size)
  generalize hAe : va_A (PW cA S) s.heap.size = A at hD hTX ⊢
  have hA : ∀ q : Nat, s.heap.size ≤ q → A q := fun q h => by rw [← hAe]; exact Or.inr h
  have hS : va_S A s.heap s.heap [] := va_S.rf
  have hl := lv_entry ([.ref x, .int p0, .int p1]) (n := 4) (Nat.le_of_ble_eq_true rfl)
  rw [lg_entry_eq]
  generalize (lg_sl ([.ref x, .int p0, .int p1]) ++ List.replicate (4 - (lg_sl ([.ref x, .int p0, .int p1])).length) Slot.unset).toArray = ls at hl ⊢
  have hl : lv_has ls 4 [(0, .ref x), (1, .int p0), (2, .int p1)] := hl
  refine lv_aload_n hx hb dX5_sure_0 rfl (lv_at hl 0 rfl) ?_
  refine lv_iload_n hx hb dX5_sure_1 rfl (lv_at hl 1 rfl) ?_
  refine kt_call (vx_runV (As := [.int p0]) (rest := []) ⟨hx, hb, hml, hown, htT⟩ (c_known_t l hst D cA _ S x ho ar hq0 har p0 hsw) (cwV 1 htT (kg_V m_ml_X5_45 m_im_X5_known m_sl_X5_known m_in_X5 m_cd_X5_known) rfl rfl rfl (by decide +kernel) ⟨Nat.le_of_ble_eq_true rfl, Nat.le_of_ble_eq_true rfl⟩) (kp_VX hK hP hD hTB hTX hS hA (kp_rc hK hP ho (Nat.le_of_ble_eq_true rfl) rfl)) rfl rfl hl.1 rfl (lv_room (Nat.le_of_ble_eq_true rfl)) dX5_sure_2 ⟨Nat.le_of_ble_eq_true rfl, Nat.le_of_ble_eq_true rfl⟩) hD hS hA (fun ce q9 H locs hP hD hS hce hcv hcl => ?_)
  exact kt_out hTab hlocks hK hP hD hS hce hcv hcl (Nat.le_of_ble_eq_true rfl) (Nat.le_of_ble_eq_true rfl)

set_option maxRecDepth 100000 in
set_option maxHeartbeats 4000000 in
/-- bad: no such switch -/
theorem c_bad_t (l : Launch) (hst : l.stackTraces = false) (D : va_G) (cA : Nat → ClassId) (sz : Nat) (S : Pool) (x : Nat) (ho : isO S x 5) (ar : Nat) (hq0 : gQ S x 0 = some ar) (har : isA S ar 22 8) (p0 : Int32) (hsw : kSw S ar p0 = none) : vx_Met l yX5_bad (Cond.code yX5_bad cX5_bad 2 (some .int) :: TT) ({ frames := 7, cells := 1, slots := 6, locals := 104 }) (va_Pc [.ref x, .int p0] (kPreX D cA (PW cA S) sz)) kNo (kXC D cA (PW cA S) "java/lang/IndexOutOfBoundsException" (va_A (PW cA S) sz)) 1 6 (va_A (PW cA S) sz) := by
  refine vx_ofW (cc := cX5_bad) (maxL := 2) (ret := (some .int)) (by decide) rfl ?_
  intro p e s m args below meth c s₁ B hml hTab hv
  obtain ⟨rfl, ⟨hsz, hP, hK, hD0, hTB⟩, hTX⟩ := hv
  have hx := B.exec
  have hb := B.bytes
  have hr := B.returns
  have hts := atoms_spec (ws := Cond.code yX5_bad cX5_bad 2 (some .int) :: TT) B.pre
  have htT : ∀ w ∈ TT, w.before _ s = true := fun w h => hts w (List.mem_cons_of_mem _ h)
  have hown : s.vm.findClass RX5 = some m.cls := findClass_of_methodNamed B.named
  have hlocks := B.notSynchronized
  subst hsz
  have hD := hD0.self (sz := s.heap.size)
  generalize hAe : va_A (PW cA S) s.heap.size = A at hD hTX ⊢
  have hA : ∀ q : Nat, s.heap.size ≤ q → A q := fun q h => by rw [← hAe]; exact Or.inr h
  have hS : va_S A s.heap s.heap [] := va_S.rf
  have hl := lv_entry ([.ref x, .int p0]) (n := 2) (Nat.le_of_ble_eq_true rfl)
  rw [lg_entry_eq]
  generalize (lg_sl ([.ref x, .int p0]) ++ List.replicate (2 - (lg_sl ([.ref x, .int p0])).length) Slot.unset).toArray = ls at hl ⊢
  have hl : lv_has ls 2 [(0, .ref x), (1, .int p0)] := hl
  refine lv_aload_n hx hb dX5_bad_0 rfl (lv_at hl 0 rfl) ?_
  refine lv_iload_n hx hb dX5_bad_1 rfl (lv_at hl 1 rfl) ?_
  refine kt_call (vx_runV (As := [.int p0]) (rest := []) ⟨hx, hb, hml, hown, htT⟩ (c_known_t l hst D cA _ S x ho ar hq0 har p0 hsw) (cwV 1 htT (kg_V m_ml_X5_45 m_im_X5_known m_sl_X5_known m_in_X5 m_cd_X5_known) rfl rfl rfl (by decide +kernel) ⟨Nat.le_of_ble_eq_true rfl, Nat.le_of_ble_eq_true rfl⟩) (kp_VX hK hP hD hTB hTX hS hA (kp_rc hK hP ho (Nat.le_of_ble_eq_true rfl) rfl)) rfl rfl hl.1 rfl (lv_room (Nat.le_of_ble_eq_true rfl)) dX5_bad_2 ⟨Nat.le_of_ble_eq_true rfl, Nat.le_of_ble_eq_true rfl⟩) hD hS hA (fun ce q9 H locs hP hD hS hce hcv hcl => ?_)
  exact kt_out hTab hlocks hK hP hD hS hce hcv hcl (Nat.le_of_ble_eq_true rfl) (Nat.le_of_ble_eq_true rfl)

set_option maxRecDepth 100000 in
set_option maxHeartbeats 4000000 in
/-- isTrusted: no such switch -/
theorem c_isTrusted_t (l : Launch) (hst : l.stackTraces = false) (D : va_G) (cA : Nat → ClassId) (sz : Nat) (S : Pool) (x : Nat) (ho : isO S x 5) (ar : Nat) (hq0 : gQ S x 0 = some ar) (har : isA S ar 22 8) (p0 : Int32) (hsw : kSw S ar p0 = none) : vx_Met l yX5_isTrusted (Cond.code yX5_isTrusted cX5_isTrusted 2 (some .boolean) :: TT) ({ frames := 7, cells := 1, slots := 6, locals := 104 }) (va_Pc [.ref x, .int p0] (kPreX D cA (PW cA S) sz)) kNo (kXC D cA (PW cA S) "java/lang/IndexOutOfBoundsException" (va_A (PW cA S) sz)) 1 6 (va_A (PW cA S) sz) := by
  refine vx_ofW (cc := cX5_isTrusted) (maxL := 2) (ret := (some .boolean)) (by decide) rfl ?_
  intro p e s m args below meth c s₁ B hml hTab hv
  obtain ⟨rfl, ⟨hsz, hP, hK, hD0, hTB⟩, hTX⟩ := hv
  have hx := B.exec
  have hb := B.bytes
  have hr := B.returns
  have hts := atoms_spec (ws := Cond.code yX5_isTrusted cX5_isTrusted 2 (some .boolean) :: TT) B.pre
  have htT : ∀ w ∈ TT, w.before _ s = true := fun w h => hts w (List.mem_cons_of_mem _ h)
  have hown : s.vm.findClass RX5 = some m.cls := findClass_of_methodNamed B.named
  have hlocks := B.notSynchronized
  subst hsz
  have hD := hD0.self (sz := s.heap.size)
  generalize hAe : va_A (PW cA S) s.heap.size = A at hD hTX ⊢
  have hA : ∀ q : Nat, s.heap.size ≤ q → A q := fun q h => by rw [← hAe]; exact Or.inr h
  have hS : va_S A s.heap s.heap [] := va_S.rf
  have hl := lv_entry ([.ref x, .int p0]) (n := 2) (Nat.le_of_ble_eq_true rfl)
  rw [lg_entry_eq]
  generalize (lg_sl ([.ref x, .int p0]) ++ List.replicate (2 - (lg_sl ([.ref x, .int p0])).length) Slot.unset).toArray = ls at hl ⊢
  have hl : lv_has ls 2 [(0, .ref x), (1, .int p0)] := hl
  refine lv_aload_n hx hb dX5_isTrusted_0 rfl (lv_at hl 0 rfl) ?_
  refine lv_iload_n hx hb dX5_isTrusted_1 rfl (lv_at hl 1 rfl) ?_
  refine kt_call (vx_runV (As := [.int p0]) (rest := []) ⟨hx, hb, hml, hown, htT⟩ (c_known_t l hst D cA _ S x ho ar hq0 har p0 hsw) (cwV 1 htT (kg_V m_ml_X5_45 m_im_X5_known m_sl_X5_known m_in_X5 m_cd_X5_known) rfl rfl rfl (by decide +kernel) ⟨Nat.le_of_ble_eq_true rfl, Nat.le_of_ble_eq_true rfl⟩) (kp_VX hK hP hD hTB hTX hS hA (kp_rc hK hP ho (Nat.le_of_ble_eq_true rfl) rfl)) rfl rfl hl.1 rfl (lv_room (Nat.le_of_ble_eq_true rfl)) dX5_isTrusted_2 ⟨Nat.le_of_ble_eq_true rfl, Nat.le_of_ble_eq_true rfl⟩) hD hS hA (fun ce q9 H locs hP hD hS hce hcv hcl => ?_)
  exact kt_out hTab hlocks hK hP hD hS hce hcv hcl (Nat.le_of_ble_eq_true rfl) (Nat.le_of_ble_eq_true rfl)

set_option maxRecDepth 100000 in
set_option maxHeartbeats 4000000 in
/-- best: no such switch -/
theorem c_best_t (l : Launch) (hst : l.stackTraces = false) (D : va_G) (cA : Nat → ClassId) (sz : Nat) (S : Pool) (x : Nat) (ho : isO S x 5) (ar : Nat) (hq0 : gQ S x 0 = some ar) (har : isA S ar 22 8) (p0 : Int32) (hsw : kSw S ar p0 = none) : vx_Met l yX5_best (Cond.code yX5_best cX5_best 2 (some .int) :: TT) ({ frames := 7, cells := 1, slots := 6, locals := 104 }) (va_Pc [.ref x, .int p0] (kPreX D cA (PW cA S) sz)) kNo (kXC D cA (PW cA S) "java/lang/IndexOutOfBoundsException" (va_A (PW cA S) sz)) 1 6 (va_A (PW cA S) sz) := by
  refine vx_ofW (cc := cX5_best) (maxL := 2) (ret := (some .int)) (by decide) rfl ?_
  intro p e s m args below meth c s₁ B hml hTab hv
  obtain ⟨rfl, ⟨hsz, hP, hK, hD0, hTB⟩, hTX⟩ := hv
  have hx := B.exec
  have hb := B.bytes
  have hr := B.returns
  have hts := atoms_spec (ws := Cond.code yX5_best cX5_best 2 (some .int) :: TT) B.pre
  have htT : ∀ w ∈ TT, w.before _ s = true := fun w h => hts w (List.mem_cons_of_mem _ h)
  have hown : s.vm.findClass RX5 = some m.cls := findClass_of_methodNamed B.named
  have hlocks := B.notSynchronized
  subst hsz
  have hD := hD0.self (sz := s.heap.size)
  generalize hAe : va_A (PW cA S) s.heap.size = A at hD hTX ⊢
  have hA : ∀ q : Nat, s.heap.size ≤ q → A q := fun q h => by rw [← hAe]; exact Or.inr h
  have hS : va_S A s.heap s.heap [] := va_S.rf
  have hl := lv_entry ([.ref x, .int p0]) (n := 2) (Nat.le_of_ble_eq_true rfl)
  rw [lg_entry_eq]
  generalize (lg_sl ([.ref x, .int p0]) ++ List.replicate (2 - (lg_sl ([.ref x, .int p0])).length) Slot.unset).toArray = ls at hl ⊢
  have hl : lv_has ls 2 [(0, .ref x), (1, .int p0)] := hl
  refine lv_aload_n hx hb dX5_best_0 rfl (lv_at hl 0 rfl) ?_
  refine lv_iload_n hx hb dX5_best_1 rfl (lv_at hl 1 rfl) ?_
  refine kt_call (vx_runV (As := [.int p0]) (rest := []) ⟨hx, hb, hml, hown, htT⟩ (c_known_t l hst D cA _ S x ho ar hq0 har p0 hsw) (cwV 1 htT (kg_V m_ml_X5_45 m_im_X5_known m_sl_X5_known m_in_X5 m_cd_X5_known) rfl rfl rfl (by decide +kernel) ⟨Nat.le_of_ble_eq_true rfl, Nat.le_of_ble_eq_true rfl⟩) (kp_VX hK hP hD hTB hTX hS hA (kp_rc hK hP ho (Nat.le_of_ble_eq_true rfl) rfl)) rfl rfl hl.1 rfl (lv_room (Nat.le_of_ble_eq_true rfl)) dX5_best_2 ⟨Nat.le_of_ble_eq_true rfl, Nat.le_of_ble_eq_true rfl⟩) hD hS hA (fun ce q9 H locs hP hD hS hce hcv hcl => ?_)
  exact kt_out hTab hlocks hK hP hD hS hce hcv hcl (Nat.le_of_ble_eq_true rfl) (Nat.le_of_ble_eq_true rfl)

set_option maxRecDepth 100000 in
set_option maxHeartbeats 4000000 in
/-- reach: no such switch -/
theorem c_reach_t (l : Launch) (hst : l.stackTraces = false) (D : va_G) (cA : Nat → ClassId) (sz : Nat) (S : Pool) (x : Nat) (ho : isO S x 5) (ar : Nat) (hq0 : gQ S x 0 = some ar) (har : isA S ar 22 8) (p0 p1 p2 : Int32) (hsw : kSw S ar p0 = none) : vx_Met l yX5_reach (Cond.code yX5_reach cX5_reach 7 (some .int) :: TT) ({ frames := 7, cells := 1, slots := 6, locals := 104 }) (va_Pc [.ref x, .int p0, .int p1, .int p2] (kPreX D cA (PW cA S) sz)) kNo (kXC D cA (PW cA S) "java/lang/IndexOutOfBoundsException" (va_A (PW cA S) sz)) 1 6 (va_A (PW cA S) sz) := by
  refine vx_ofW (cc := cX5_reach) (maxL := 7) (ret := (some .int)) (by decide) rfl ?_
  intro p e s m args below meth c s₁ B hml hTab hv
  obtain ⟨rfl, ⟨hsz, hP, hK, hD0, hTB⟩, hTX⟩ := hv
  have hx := B.exec
  have hb := B.bytes
  have hr := B.returns
  have hts := atoms_spec (ws := Cond.code yX5_reach cX5_reach 7 (some .int) :: TT) B.pre
  have htT : ∀ w ∈ TT, w.before _ s = true := fun w h => hts w (List.mem_cons_of_mem _ h)
  have hown : s.vm.findClass RX5 = some m.cls := findClass_of_methodNamed B.named
  have hlocks := B.notSynchronized
  subst hsz
  have hD := hD0.self (sz := s.heap.size)
  generalize hAe : va_A (PW cA S) s.heap.size = A at hD hTX ⊢
  have hA : ∀ q : Nat, s.heap.size ≤ q → A q := fun q h => by rw [← hAe]; exact Or.inr h
  have hS : va_S A s.heap s.heap [] := va_S.rf
  have hl := lv_entry ([.ref x, .int p0, .int p1, .int p2]) (n := 7) (Nat.le_of_ble_eq_true rfl)
  rw [lg_entry_eq]
  generalize (lg_sl ([.ref x, .int p0, .int p1, .int p2]) ++ List.replicate (7 - (lg_sl ([.ref x, .int p0, .int p1, .int p2])).length) Slot.unset).toArray = ls at hl ⊢
  have hl : lv_has ls 7 [(0, .ref x), (1, .int p0), (2, .int p1), (3, .int p2)] := hl
  refine lv_aload_n hx hb dX5_reach_0 rfl (lv_at hl 0 rfl) ?_
  refine lv_iload_n hx hb dX5_reach_1 rfl (lv_at hl 1 rfl) ?_
  refine kt_call (vx_runV (As := [.int p0]) (rest := []) ⟨hx, hb, hml, hown, htT⟩ (c_known_t l hst D cA _ S x ho ar hq0 har p0 hsw) (cwV 1 htT (kg_V m_ml_X5_45 m_im_X5_known m_sl_X5_known m_in_X5 m_cd_X5_known) rfl rfl rfl (by decide +kernel) ⟨Nat.le_of_ble_eq_true rfl, Nat.le_of_ble_eq_true rfl⟩) (kp_VX hK hP hD hTB hTX hS hA (kp_rc hK hP ho (Nat.le_of_ble_eq_true rfl) rfl)) rfl rfl hl.1 rfl (lv_room (Nat.le_of_ble_eq_true rfl)) dX5_reach_2 ⟨Nat.le_of_ble_eq_true rfl, Nat.le_of_ble_eq_true rfl⟩) hD hS hA (fun ce q9 H locs hP hD hS hce hcv hcl => ?_)
  exact kt_out hTab hlocks hK hP hD hS hce hcv hcl (Nat.le_of_ble_eq_true rfl) (Nat.le_of_ble_eq_true rfl)

set_option maxRecDepth 100000 in
set_option maxHeartbeats 4000000 in
/-- both: no such switch -/
theorem c_both_t (l : Launch) (hst : l.stackTraces = false) (D : va_G) (cA : Nat → ClassId) (sz : Nat) (S : Pool) (x : Nat) (ho : isO S x 5) (ar : Nat) (hq0 : gQ S x 0 = some ar) (har : isA S ar 22 8) (p0 p1 p2 : Int32) (hsw : kSw S ar p0 = none) : vx_Met l yX5_both (Cond.code yX5_both cX5_both 8 (some .int) :: TT) ({ frames := 7, cells := 1, slots := 6, locals := 104 }) (va_Pc [.ref x, .int p0, .int p1, .int p2] (kPreX D cA (PW cA S) sz)) kNo (kXC D cA (PW cA S) "java/lang/IndexOutOfBoundsException" (va_A (PW cA S) sz)) 1 6 (va_A (PW cA S) sz) := by
  refine vx_ofW (cc := cX5_both) (maxL := 8) (ret := (some .int)) (by decide) rfl ?_
  intro p e s m args below meth c s₁ B hml hTab hv
  obtain ⟨rfl, ⟨hsz, hP, hK, hD0, hTB⟩, hTX⟩ := hv
  have hx := B.exec
  have hb := B.bytes
  have hr := B.returns
  have hts := atoms_spec (ws := Cond.code yX5_both cX5_both 8 (some .int) :: TT) B.pre
  have htT : ∀ w ∈ TT, w.before _ s = true := fun w h => hts w (List.mem_cons_of_mem _ h)
  have hown : s.vm.findClass RX5 = some m.cls := findClass_of_methodNamed B.named
  have hlocks := B.notSynchronized
  subst hsz
  have hD := hD0.self (sz := s.heap.size)
  generalize hAe : va_A (PW cA S) s.heap.size = A at hD hTX ⊢
  have hA : ∀ q : Nat, s.heap.size ≤ q → A q := fun q h => by rw [← hAe]; exact Or.inr h
  have hS : va_S A s.heap s.heap [] := va_S.rf
  have hl := lv_entry ([.ref x, .int p0, .int p1, .int p2]) (n := 8) (Nat.le_of_ble_eq_true rfl)
  rw [lg_entry_eq]
  generalize (lg_sl ([.ref x, .int p0, .int p1, .int p2]) ++ List.replicate (8 - (lg_sl ([.ref x, .int p0, .int p1, .int p2])).length) Slot.unset).toArray = ls at hl ⊢
  have hl : lv_has ls 8 [(0, .ref x), (1, .int p0), (2, .int p1), (3, .int p2)] := hl
  refine lv_aload_n hx hb dX5_both_0 rfl (lv_at hl 0 rfl) ?_
  refine lv_iload_n hx hb dX5_both_1 rfl (lv_at hl 1 rfl) ?_
  refine kt_call (vx_runV (As := [.int p0]) (rest := []) ⟨hx, hb, hml, hown, htT⟩ (c_known_t l hst D cA _ S x ho ar hq0 har p0 hsw) (cwV 1 htT (kg_V m_ml_X5_45 m_im_X5_known m_sl_X5_known m_in_X5 m_cd_X5_known) rfl rfl rfl (by decide +kernel) ⟨Nat.le_of_ble_eq_true rfl, Nat.le_of_ble_eq_true rfl⟩) (kp_VX hK hP hD hTB hTX hS hA (kp_rc hK hP ho (Nat.le_of_ble_eq_true rfl) rfl)) rfl rfl hl.1 rfl (lv_room (Nat.le_of_ble_eq_true rfl)) dX5_both_2 ⟨Nat.le_of_ble_eq_true rfl, Nat.le_of_ble_eq_true rfl⟩) hD hS hA (fun ce q9 H locs hP hD hS hce hcv hcl => ?_)
  exact kt_out hTab hlocks hK hP hD hS hce hcv hcl (Nat.le_of_ble_eq_true rfl) (Nat.le_of_ble_eq_true rfl)

set_option maxRecDepth 100000 in
set_option maxHeartbeats 4000000 in
/-- wouldChange: no such switch -/
theorem c_wouldChange_t (l : Launch) (hst : l.stackTraces = false) (D : va_G) (cA : Nat → ClassId) (sz : Nat) (S : Pool) (x : Nat) (ho : isO S x 5) (ar : Nat) (hq0 : gQ S x 0 = some ar) (har : isA S ar 22 8) (p0 p1 p2 : Int32) (hsw : kSw S ar p0 = none) : vx_Met l yX5_wouldChange (Cond.code yX5_wouldChange cX5_wouldChange 8 (some .int) :: TT) ({ frames := 7, cells := 1, slots := 6, locals := 104 }) (va_Pc [.ref x, .int p0, .int p1, .int p2] (kPreX D cA (PW cA S) sz)) kNo (kXC D cA (PW cA S) "java/lang/IndexOutOfBoundsException" (va_A (PW cA S) sz)) 1 6 (va_A (PW cA S) sz) := by
  refine vx_ofW (cc := cX5_wouldChange) (maxL := 8) (ret := (some .int)) (by decide) rfl ?_
  intro p e s m args below meth c s₁ B hml hTab hv
  obtain ⟨rfl, ⟨hsz, hP, hK, hD0, hTB⟩, hTX⟩ := hv
  have hx := B.exec
  have hb := B.bytes
  have hr := B.returns
  have hts := atoms_spec (ws := Cond.code yX5_wouldChange cX5_wouldChange 8 (some .int) :: TT) B.pre
  have htT : ∀ w ∈ TT, w.before _ s = true := fun w h => hts w (List.mem_cons_of_mem _ h)
  have hown : s.vm.findClass RX5 = some m.cls := findClass_of_methodNamed B.named
  have hlocks := B.notSynchronized
  subst hsz
  have hD := hD0.self (sz := s.heap.size)
  generalize hAe : va_A (PW cA S) s.heap.size = A at hD hTX ⊢
  have hA : ∀ q : Nat, s.heap.size ≤ q → A q := fun q h => by rw [← hAe]; exact Or.inr h
  have hS : va_S A s.heap s.heap [] := va_S.rf
  have hl := lv_entry ([.ref x, .int p0, .int p1, .int p2]) (n := 8) (Nat.le_of_ble_eq_true rfl)
  rw [lg_entry_eq]
  generalize (lg_sl ([.ref x, .int p0, .int p1, .int p2]) ++ List.replicate (8 - (lg_sl ([.ref x, .int p0, .int p1, .int p2])).length) Slot.unset).toArray = ls at hl ⊢
  have hl : lv_has ls 8 [(0, .ref x), (1, .int p0), (2, .int p1), (3, .int p2)] := hl
  refine lv_aload_n hx hb dX5_wouldChange_0 rfl (lv_at hl 0 rfl) ?_
  refine lv_iload_n hx hb dX5_wouldChange_1 rfl (lv_at hl 1 rfl) ?_
  refine kt_call (vx_runV (As := [.int p0]) (rest := []) ⟨hx, hb, hml, hown, htT⟩ (c_known_t l hst D cA _ S x ho ar hq0 har p0 hsw) (cwV 1 htT (kg_V m_ml_X5_45 m_im_X5_known m_sl_X5_known m_in_X5 m_cd_X5_known) rfl rfl rfl (by decide +kernel) ⟨Nat.le_of_ble_eq_true rfl, Nat.le_of_ble_eq_true rfl⟩) (kp_VX hK hP hD hTB hTX hS hA (kp_rc hK hP ho (Nat.le_of_ble_eq_true rfl) rfl)) rfl rfl hl.1 rfl (lv_room (Nat.le_of_ble_eq_true rfl)) dX5_wouldChange_2 ⟨Nat.le_of_ble_eq_true rfl, Nat.le_of_ble_eq_true rfl⟩) hD hS hA (fun ce q9 H locs hP hD hS hce hcv hcl => ?_)
  exact kt_out hTab hlocks hK hP hD hS hce hcv hcl (Nat.le_of_ble_eq_true rfl) (Nat.le_of_ble_eq_true rfl)

set_option maxRecDepth 100000 in
set_option maxHeartbeats 4000000 in
/-- wouldTurn: no such switch -/
theorem c_wouldTurn_t (l : Launch) (hst : l.stackTraces = false) (D : va_G) (cA : Nat → ClassId) (sz : Nat) (S : Pool) (x : Nat) (ho : isO S x 5) (ar : Nat) (hq0 : gQ S x 0 = some ar) (har : isA S ar 22 8) (p0 p1 : Int32) (hsw : kSw S ar p0 = none) : vx_Met l yX5_wouldTurn (Cond.code yX5_wouldTurn cX5_wouldTurn 5 (some .int) :: TT) ({ frames := 7, cells := 1, slots := 6, locals := 104 }) (va_Pc [.ref x, .int p0, .int p1] (kPreX D cA (PW cA S) sz)) kNo (kXC D cA (PW cA S) "java/lang/IndexOutOfBoundsException" (va_A (PW cA S) sz)) 1 6 (va_A (PW cA S) sz) := by
  refine vx_ofW (cc := cX5_wouldTurn) (maxL := 5) (ret := (some .int)) (by decide) rfl ?_
  intro p e s m args below meth c s₁ B hml hTab hv
  obtain ⟨rfl, ⟨hsz, hP, hK, hD0, hTB⟩, hTX⟩ := hv
  have hx := B.exec
  have hb := B.bytes
  have hr := B.returns
  have hts := atoms_spec (ws := Cond.code yX5_wouldTurn cX5_wouldTurn 5 (some .int) :: TT) B.pre
  have htT : ∀ w ∈ TT, w.before _ s = true := fun w h => hts w (List.mem_cons_of_mem _ h)
  have hown : s.vm.findClass RX5 = some m.cls := findClass_of_methodNamed B.named
  have hlocks := B.notSynchronized
  subst hsz
  have hD := hD0.self (sz := s.heap.size)
  generalize hAe : va_A (PW cA S) s.heap.size = A at hD hTX ⊢
  have hA : ∀ q : Nat, s.heap.size ≤ q → A q := fun q h => by rw [← hAe]; exact Or.inr h
  have hS : va_S A s.heap s.heap [] := va_S.rf
  have hl := lv_entry ([.ref x, .int p0, .int p1]) (n := 5) (Nat.le_of_ble_eq_true rfl)
  rw [lg_entry_eq]
  generalize (lg_sl ([.ref x, .int p0, .int p1]) ++ List.replicate (5 - (lg_sl ([.ref x, .int p0, .int p1])).length) Slot.unset).toArray = ls at hl ⊢
  have hl : lv_has ls 5 [(0, .ref x), (1, .int p0), (2, .int p1)] := hl
  refine lv_aload_n hx hb dX5_wouldTurn_0 rfl (lv_at hl 0 rfl) ?_
  refine lv_iload_n hx hb dX5_wouldTurn_1 rfl (lv_at hl 1 rfl) ?_
  refine kt_call (vx_runV (As := [.int p0]) (rest := []) ⟨hx, hb, hml, hown, htT⟩ (c_known_t l hst D cA _ S x ho ar hq0 har p0 hsw) (cwV 1 htT (kg_V m_ml_X5_45 m_im_X5_known m_sl_X5_known m_in_X5 m_cd_X5_known) rfl rfl rfl (by decide +kernel) ⟨Nat.le_of_ble_eq_true rfl, Nat.le_of_ble_eq_true rfl⟩) (kp_VX hK hP hD hTB hTX hS hA (kp_rc hK hP ho (Nat.le_of_ble_eq_true rfl) rfl)) rfl rfl hl.1 rfl (lv_room (Nat.le_of_ble_eq_true rfl)) dX5_wouldTurn_2 ⟨Nat.le_of_ble_eq_true rfl, Nat.le_of_ble_eq_true rfl⟩) hD hS hA (fun ce q9 H locs hP hD hS hce hcv hcl => ?_)
  exact kt_out hTab hlocks hK hP hD hS hce hcv hcl (Nat.le_of_ble_eq_true rfl) (Nat.le_of_ble_eq_true rfl)

set_option maxRecDepth 100000 in
set_option maxHeartbeats 4000000 in
/-- shareIn: no such switch -/
theorem c_shareIn_t (l : Launch) (hst : l.stackTraces = false) (D : va_G) (cA : Nat → ClassId) (sz : Nat) (S : Pool) (x : Nat) (ho : isO S x 5) (ar : Nat) (hq0 : gQ S x 0 = some ar) (har : isA S ar 22 8) (p0 p1 : Int32) (hsw : kSw S ar p0 = none) : vx_Met l yX5_shareIn (Cond.code yX5_shareIn cX5_shareIn 4 (some .int) :: TT) ({ frames := 7, cells := 1, slots := 6, locals := 104 }) (va_Pc [.ref x, .int p0, .int p1] (kPreX D cA (PW cA S) sz)) kNo (kXC D cA (PW cA S) "java/lang/IndexOutOfBoundsException" (va_A (PW cA S) sz)) 1 6 (va_A (PW cA S) sz) := by
  refine vx_ofW (cc := cX5_shareIn) (maxL := 4) (ret := (some .int)) (by decide) rfl ?_
  intro p e s m args below meth c s₁ B hml hTab hv
  obtain ⟨rfl, ⟨hsz, hP, hK, hD0, hTB⟩, hTX⟩ := hv
  have hx := B.exec
  have hb := B.bytes
  have hr := B.returns
  have hts := atoms_spec (ws := Cond.code yX5_shareIn cX5_shareIn 4 (some .int) :: TT) B.pre
  have htT : ∀ w ∈ TT, w.before _ s = true := fun w h => hts w (List.mem_cons_of_mem _ h)
  have hown : s.vm.findClass RX5 = some m.cls := findClass_of_methodNamed B.named
  have hlocks := B.notSynchronized
  subst hsz
  have hD := hD0.self (sz := s.heap.size)
  generalize hAe : va_A (PW cA S) s.heap.size = A at hD hTX ⊢
  have hA : ∀ q : Nat, s.heap.size ≤ q → A q := fun q h => by rw [← hAe]; exact Or.inr h
  have hS : va_S A s.heap s.heap [] := va_S.rf
  have hl := lv_entry ([.ref x, .int p0, .int p1]) (n := 4) (Nat.le_of_ble_eq_true rfl)
  rw [lg_entry_eq]
  generalize (lg_sl ([.ref x, .int p0, .int p1]) ++ List.replicate (4 - (lg_sl ([.ref x, .int p0, .int p1])).length) Slot.unset).toArray = ls at hl ⊢
  have hl : lv_has ls 4 [(0, .ref x), (1, .int p0), (2, .int p1)] := hl
  refine lv_aload_n hx hb dX5_shareIn_0 rfl (lv_at hl 0 rfl) ?_
  refine lv_iload_n hx hb dX5_shareIn_1 rfl (lv_at hl 1 rfl) ?_
  refine kt_call (vx_runV (As := [.int p0]) (rest := []) ⟨hx, hb, hml, hown, htT⟩ (c_known_t l hst D cA _ S x ho ar hq0 har p0 hsw) (cwV 1 htT (kg_V m_ml_X5_45 m_im_X5_known m_sl_X5_known m_in_X5 m_cd_X5_known) rfl rfl rfl (by decide +kernel) ⟨Nat.le_of_ble_eq_true rfl, Nat.le_of_ble_eq_true rfl⟩) (kp_VX hK hP hD hTB hTX hS hA (kp_rc hK hP ho (Nat.le_of_ble_eq_true rfl) rfl)) rfl rfl hl.1 rfl (lv_room (Nat.le_of_ble_eq_true rfl)) dX5_shareIn_2 ⟨Nat.le_of_ble_eq_true rfl, Nat.le_of_ble_eq_true rfl⟩) hD hS hA (fun ce q9 H locs hP hD hS hce hcv hcl => ?_)
  exact kt_out hTab hlocks hK hP hD hS hce hcv hcl (Nat.le_of_ble_eq_true rfl) (Nat.le_of_ble_eq_true rfl)

set_option maxRecDepth 100000 in
set_option maxHeartbeats 4000000 in
theorem c_hold_t (l : Launch) (hst : l.stackTraces = false) (D : va_G) (cA : Nat → ClassId) (sz : Nat) (S : Pool) (x : Nat) (ho : isO S x 5) (p0 : Int32) (h1 : kOut p0 0 1000 = 1) : vx_Met l yX5_hold (Cond.code yX5_hold cX5_hold 3 (some .int) :: TT) ({ frames := 6, cells := 1, slots := 6, locals := 82 }) (va_Pc [.ref x, .int p0] (kPreX D cA (PW cA S) sz)) kNo (kXC D cA (PW cA S) "java/lang/IllegalArgumentException" (va_A (PW cA S) sz)) 1 6 (va_A (PW cA S) sz) := by
  refine vx_ofW (cc := cX5_hold) (maxL := 3) (ret := (some .int)) (by decide) rfl ?_
  intro p e s m args below meth c s₁ B hml hTab hv
  obtain ⟨rfl, ⟨hsz, hP, hK, hD0, hTB⟩, hTX⟩ := hv
  have hx := B.exec
  have hb := B.bytes
  have hr := B.returns
  have hts := atoms_spec (ws := Cond.code yX5_hold cX5_hold 3 (some .int) :: TT) B.pre
  have htT : ∀ w ∈ TT, w.before _ s = true := fun w h => hts w (List.mem_cons_of_mem _ h)
  have hown : s.vm.findClass RX5 = some m.cls := findClass_of_methodNamed B.named
  have hlocks := B.notSynchronized
  subst hsz
  have hD := hD0.self (sz := s.heap.size)
  generalize hAe : va_A (PW cA S) s.heap.size = A at hD hTX ⊢
  have hA : ∀ q : Nat, s.heap.size ≤ q → A q := fun q h => by rw [← hAe]; exact Or.inr h
  have hS : va_S A s.heap s.heap [] := va_S.rf
  have hl := lv_entry ([.ref x, .int p0]) (n := 3) (Nat.le_of_ble_eq_true rfl)
  rw [lg_entry_eq]
  generalize (lg_sl ([.ref x, .int p0]) ++ List.replicate (3 - (lg_sl ([.ref x, .int p0])).length) Slot.unset).toArray = ls at hl ⊢
  have hl : lv_has ls 3 [(0, .ref x), (1, .int p0)] := hl
  refine lv_iload_n hx hb dX5_hold_0 rfl (lv_at hl 1 rfl) ?_
  refine lv_iconst (v := 0) hx hb dX5_hold_1 (by decide) ?_
  refine lv_sipush (v := 1000) hx hb dX5_hold_2 (by decide) ?_
  refine kc_i (va_runS (As := [.int p0, .int 0, .int 1000]) (rest := []) ⟨hx, hb, hml, hown, htT⟩ (c_isOutside l D cA _ S p0 0 1000) (cwS 3 htT (kg_S m_ml_X5_22 m_st_X5_isOutside m_in_X5 m_cd_X5_isOutside) rfl rfl rfl (by decide +kernel) ⟨Nat.le_of_ble_eq_true rfl, Nat.le_of_ble_eq_true rfl⟩) (kp_S hK hP hD hTB) rfl rfl hl.1 rfl (lv_room (Nat.le_of_ble_eq_true rfl)) dX5_hold_5 ⟨Nat.le_of_ble_eq_true rfl, Nat.le_of_ble_eq_true rfl⟩) hD hS hA (fun r_1 x_1 H locs hq_1 hP hD hS => ?_)
  rw [hq_1.1]
  rw [hq_1.2] at hP hD
  rw [h1]
  refine lv_if_eq (tgt := 21) hx hb dX5_hold_8 (by decide) (fun c_2 => absurd c_2 (by decide)) (fun _ => ?_)
  exact kt_new (text := "held out of range") hx hb hst hown (Or.inl rfl) (htT _ m_cl_X5_26) (htT _ m_in_IllegalArgumentException) (by decide +kernel) (fun w h => htT w (at_IAE w h)) an_IAE (ag_IAE 26) hTB hTX hK hP hD hS (hl.1.trans hml.symm) dX5_hold_11 dX5_hold_14 dX5_hold_15 dX5_hold_17 dX5_hold_20 hTab (Nat.le_of_ble_eq_true rfl) (Nat.le_of_ble_eq_true rfl) (Nat.le_of_ble_eq_true rfl) (Nat.le_of_ble_eq_true rfl) hlocks (Nat.le_of_ble_eq_true rfl) (Nat.le_of_ble_eq_true rfl)

set_option maxRecDepth 100000 in
set_option maxHeartbeats 4000000 in
theorem c_hold (l : Launch) (D : va_G) (cA : Nat → ClassId) (sz : Nat) (S : Pool) (x : Nat) (ho : isO S x 5) (p0 : Int32) (h1 : kOut p0 0 1000 = 0) : Met l yX5_hold (Cond.code yX5_hold cX5_hold 3 (some .int) :: TT) ({ frames := 1, cells := 0, slots := 0, locals := 22 }) (va_Pc [.ref x, .int p0] (kPre D cA (PW cA S) sz)) (va_Qi (fun (r_ : Int32) (x_ : Pool) => r_ = gI S x 4 ∧ x_ = pI S x 4 p0) (fun x_ => kB D cA (va_A (PW cA S) sz) (PW cA x_)) (va_A (PW cA S) sz)) 0 0 (va_A (PW cA S) sz) := by
  refine Met.ofW (cc := cX5_hold) (maxL := 3) (ret := (some .int)) (by decide) rfl ?_
  intro p e s m args below meth c s₁ B hml hv
  obtain ⟨rfl, hsz, hP, hK, hD0, hTB⟩ := hv
  have hx := B.exec
  have hb := B.bytes
  have hr := B.returns
  have hts := atoms_spec (ws := Cond.code yX5_hold cX5_hold 3 (some .int) :: TT) B.pre
  have htT : ∀ w ∈ TT, w.before _ s = true := fun w h => hts w (List.mem_cons_of_mem _ h)
  have hown : s.vm.findClass RX5 = some m.cls := findClass_of_methodNamed B.named
  have hlocks := B.notSynchronized
  subst hsz
  have hD := hD0.self (sz := s.heap.size)
  generalize hAe : va_A (PW cA S) s.heap.size = A at hD ⊢
  have hA : ∀ q : Nat, s.heap.size ≤ q → A q := fun q h => by rw [← hAe]; exact Or.inr h
  have hS : va_S A s.heap s.heap [] := va_S.rf
  have hl := lv_entry ([.ref x, .int p0]) (n := 3) (Nat.le_of_ble_eq_true rfl)
  rw [lg_entry_eq]
  generalize (lg_sl ([.ref x, .int p0]) ++ List.replicate (3 - (lg_sl ([.ref x, .int p0])).length) Slot.unset).toArray = ls at hl ⊢
  have hl : lv_has ls 3 [(0, .ref x), (1, .int p0)] := hl
  refine lv_iload_n hx hb dX5_hold_0 rfl (lv_at hl 1 rfl) ?_
  refine lv_iconst (v := 0) hx hb dX5_hold_1 (by decide) ?_
  refine lv_sipush (v := 1000) hx hb dX5_hold_2 (by decide) ?_
  refine kc_i (va_runS (As := [.int p0, .int 0, .int 1000]) (rest := []) ⟨hx, hb, hml, hown, htT⟩ (c_isOutside l D cA _ S p0 0 1000) (cwS 3 htT (kg_S m_ml_X5_22 m_st_X5_isOutside m_in_X5 m_cd_X5_isOutside) rfl rfl rfl (by decide +kernel) ⟨Nat.le_of_ble_eq_true rfl, Nat.le_of_ble_eq_true rfl⟩) (kp_S hK hP hD hTB) rfl rfl hl.1 rfl (lv_room (Nat.le_of_ble_eq_true rfl)) dX5_hold_5 ⟨Nat.le_of_ble_eq_true rfl, Nat.le_of_ble_eq_true rfl⟩) hD hS hA (fun r_1 x_1 H locs hq_1 hP hD hS => ?_)
  rw [hq_1.1]
  rw [hq_1.2] at hP hD
  rw [h1]
  refine lv_if_eq (tgt := 21) hx hb dX5_hold_8 (by decide) (fun _ => ?_) (fun c_2 => absurd (by decide) c_2)
  refine lv_aload_n hx hb dX5_hold_21 rfl (lv_at hl 0 rfl) ?_
  refine kx_geti hx hb htT m_u_X5 hown hK hP ho (Nat.le_of_ble_eq_true rfl) rfl 4 (by decide) (by decide) rfl (htT _ m_fl_X5_132) dX5_hold_22 ?_
  refine lv_istore_n (lv' := [(2, .int (gI S x 4)), (0, .ref x), (1, .int p0)]) hx hb dX5_hold_25 rfl hl (by decide) rfl (fun ls hl => ?_)
  refine lv_aload_n hx hb dX5_hold_26 rfl (lv_at hl 1 rfl) ?_
  refine lv_iload_n hx hb dX5_hold_27 rfl (lv_at hl 2 rfl) ?_
  refine kx_puti (ty := .int) hx hb htT m_u_X5 tyX5 tyX5_ok nmX5 hown hK hP hD hS ho (Nat.le_of_ble_eq_true rfl) rfl 4 (by decide) (by decide) rfl (htT _ m_fl_X5_132) rfl (by decide +kernel) rfl rfl dX5_hold_28 (fun H locs hP hD hS => ?_)
  refine lv_iload_n hx hb dX5_hold_31 rfl (lv_at hl 0 rfl) ?_
  exact W.iret (v := gI S x 4) hx hb hr (fun t ht hW => ⟨⟨gI S x 4, pI S x 4 p0, rfl, ⟨rfl, rfl⟩, by rw [ht]; exact hP, va_K.moved hW.alike hK, hD⟩, hS.F ht⟩) hS.2.2 dX5_hold_32

set_option maxRecDepth 100000 in
set_option maxHeartbeats 4000000 in
theorem c_goOn_t (l : Launch) (hst : l.stackTraces = false) (D : va_G) (cA : Nat → ClassId) (sz : Nat) (S : Pool) (x : Nat) (ho : isO S x 5) (p0 : Int32) (h1 : kOut p0 1 100 = 1) : vx_Met l yX5_goOn (Cond.code yX5_goOn cX5_goOn 2 (some .int) :: TT) ({ frames := 6, cells := 1, slots := 6, locals := 82 }) (va_Pc [.ref x, .int p0] (kPreX D cA (PW cA S) sz)) kNo (kXC D cA (PW cA S) "java/lang/IllegalArgumentException" (va_A (PW cA S) sz)) 1 6 (va_A (PW cA S) sz) := by
  refine vx_ofW (cc := cX5_goOn) (maxL := 2) (ret := (some .int)) (by decide) rfl ?_
  intro p e s m args below meth c s₁ B hml hTab hv
  obtain ⟨rfl, ⟨hsz, hP, hK, hD0, hTB⟩, hTX⟩ := hv
  have hx := B.exec
  have hb := B.bytes
  have hr := B.returns
  have hts := atoms_spec (ws := Cond.code yX5_goOn cX5_goOn 2 (some .int) :: TT) B.pre
  have htT : ∀ w ∈ TT, w.before _ s = true := fun w h => hts w (List.mem_cons_of_mem _ h)
  have hown : s.vm.findClass RX5 = some m.cls := findClass_of_methodNamed B.named
  have hlocks := B.notSynchronized
  subst hsz
  have hD := hD0.self (sz := s.heap.size)
  generalize hAe : va_A (PW cA S) s.heap.size = A at hD hTX ⊢
  have hA : ∀ q : Nat, s.heap.size ≤ q → A q := fun q h => by rw [← hAe]; exact Or.inr h
  have hS : va_S A s.heap s.heap [] := va_S.rf
  have hl := lv_entry ([.ref x, .int p0]) (n := 2) (Nat.le_of_ble_eq_true rfl)
  rw [lg_entry_eq]
  generalize (lg_sl ([.ref x, .int p0]) ++ List.replicate (2 - (lg_sl ([.ref x, .int p0])).length) Slot.unset).toArray = ls at hl ⊢
  have hl : lv_has ls 2 [(0, .ref x), (1, .int p0)] := hl
  refine lv_iload_n hx hb dX5_goOn_0 rfl (lv_at hl 1 rfl) ?_
  refine lv_iconst (v := 1) hx hb dX5_goOn_1 (by decide) ?_
  refine lv_bipush (v := 100) hx hb dX5_goOn_2 (by decide) ?_
  refine kc_i (va_runS (As := [.int p0, .int 1, .int 100]) (rest := []) ⟨hx, hb, hml, hown, htT⟩ (c_isOutside l D cA _ S p0 1 100) (cwS 3 htT (kg_S m_ml_X5_22 m_st_X5_isOutside m_in_X5 m_cd_X5_isOutside) rfl rfl rfl (by decide +kernel) ⟨Nat.le_of_ble_eq_true rfl, Nat.le_of_ble_eq_true rfl⟩) (kp_S hK hP hD hTB) rfl rfl hl.1 rfl (lv_room (Nat.le_of_ble_eq_true rfl)) dX5_goOn_4 ⟨Nat.le_of_ble_eq_true rfl, Nat.le_of_ble_eq_true rfl⟩) hD hS hA (fun r_1 x_1 H locs hq_1 hP hD hS => ?_)
  rw [hq_1.1]
  rw [hq_1.2] at hP hD
  rw [h1]
  refine lv_if_eq (tgt := 20) hx hb dX5_goOn_7 (by decide) (fun c_2 => absurd c_2 (by decide)) (fun _ => ?_)
  exact kt_new (text := "ticks out of range") hx hb hst hown (Or.inl rfl) (htT _ m_cl_X5_26) (htT _ m_in_IllegalArgumentException) (by decide +kernel) (fun w h => htT w (at_IAE w h)) an_IAE (ag_IAE 26) hTB hTX hK hP hD hS (hl.1.trans hml.symm) dX5_goOn_10 dX5_goOn_13 dX5_goOn_14 dX5_goOn_16 dX5_goOn_19 hTab (Nat.le_of_ble_eq_true rfl) (Nat.le_of_ble_eq_true rfl) (Nat.le_of_ble_eq_true rfl) (Nat.le_of_ble_eq_true rfl) hlocks (Nat.le_of_ble_eq_true rfl) (Nat.le_of_ble_eq_true rfl)

set_option maxRecDepth 100000 in
set_option maxHeartbeats 4000000 in
theorem c_goOn (l : Launch) (D : va_G) (cA : Nat → ClassId) (sz : Nat) (S : Pool) (x : Nat) (ho : isO S x 5) (p0 : Int32) (h1 : kOut p0 1 100 = 0) : Met l yX5_goOn (Cond.code yX5_goOn cX5_goOn 2 (some .int) :: TT) ({ frames := 1, cells := 0, slots := 0, locals := 22 }) (va_Pc [.ref x, .int p0] (kPre D cA (PW cA S) sz)) (va_Qi (fun (r_ : Int32) (x_ : Pool) => r_ = gI S x 5 + p0 ∧ x_ = pI S x 5 (gI S x 5 + p0)) (fun x_ => kB D cA (va_A (PW cA S) sz) (PW cA x_)) (va_A (PW cA S) sz)) 0 0 (va_A (PW cA S) sz) := by
  refine Met.ofW (cc := cX5_goOn) (maxL := 2) (ret := (some .int)) (by decide) rfl ?_
  intro p e s m args below meth c s₁ B hml hv
  obtain ⟨rfl, hsz, hP, hK, hD0, hTB⟩ := hv
  have hx := B.exec
  have hb := B.bytes
  have hr := B.returns
  have hts := atoms_spec (ws := Cond.code yX5_goOn cX5_goOn 2 (some .int) :: TT) B.pre
  have htT : ∀ w ∈ TT, w.before _ s = true := fun w h => hts w (List.mem_cons_of_mem _ h)
  have hown : s.vm.findClass RX5 = some m.cls := findClass_of_methodNamed B.named
  have hlocks := B.notSynchronized
  subst hsz
  have hD := hD0.self (sz := s.heap.size)
  generalize hAe : va_A (PW cA S) s.heap.size = A at hD ⊢
  have hA : ∀ q : Nat, s.heap.size ≤ q → A q := fun q h => by rw [← hAe]; exact Or.inr h
  have hS : va_S A s.heap s.heap [] := va_S.rf
  have hl := lv_entry ([.ref x, .int p0]) (n := 2) (Nat.le_of_ble_eq_true rfl)
  rw [lg_entry_eq]
  generalize (lg_sl ([.ref x, .int p0]) ++ List.replicate (2 - (lg_sl ([.ref x, .int p0])).length) Slot.unset).toArray = ls at hl ⊢
  have hl : lv_has ls 2 [(0, .ref x), (1, .int p0)] := hl
  refine lv_iload_n hx hb dX5_goOn_0 rfl (lv_at hl 1 rfl) ?_
  refine lv_iconst (v := 1) hx hb dX5_goOn_1 (by decide) ?_
  refine lv_bipush (v := 100) hx hb dX5_goOn_2 (by decide) ?_
  refine kc_i (va_runS (As := [.int p0, .int 1, .int 100]) (rest := []) ⟨hx, hb, hml, hown, htT⟩ (c_isOutside l D cA _ S p0 1 100) (cwS 3 htT (kg_S m_ml_X5_22 m_st_X5_isOutside m_in_X5 m_cd_X5_isOutside) rfl rfl rfl (by decide +kernel) ⟨Nat.le_of_ble_eq_true rfl, Nat.le_of_ble_eq_true rfl⟩) (kp_S hK hP hD hTB) rfl rfl hl.1 rfl (lv_room (Nat.le_of_ble_eq_true rfl)) dX5_goOn_4 ⟨Nat.le_of_ble_eq_true rfl, Nat.le_of_ble_eq_true rfl⟩) hD hS hA (fun r_1 x_1 H locs hq_1 hP hD hS => ?_)
  rw [hq_1.1]
  rw [hq_1.2] at hP hD
  rw [h1]
  refine lv_if_eq (tgt := 20) hx hb dX5_goOn_7 (by decide) (fun _ => ?_) (fun c_2 => absurd (by decide) c_2)
  refine lv_aload_n hx hb dX5_goOn_20 rfl (lv_at hl 0 rfl) ?_
  refine lv_dup hx hb dX5_goOn_21 rfl ?_
  refine kx_geti hx hb htT m_u_X5 hown hK hP ho (Nat.le_of_ble_eq_true rfl) rfl 5 (by decide) (by decide) rfl (htT _ m_fl_X5_69) dX5_goOn_22 ?_
  refine lv_iload_n hx hb dX5_goOn_25 rfl (lv_at hl 1 rfl) ?_
  refine lv_iadd hx hb dX5_goOn_26 ?_
  refine kx_puti (ty := .int) hx hb htT m_u_X5 tyX5 tyX5_ok nmX5 hown hK hP hD hS ho (Nat.le_of_ble_eq_true rfl) rfl 5 (by decide) (by decide) rfl (htT _ m_fl_X5_69) rfl (by decide +kernel) rfl rfl dX5_goOn_27 (fun H locs hP hD hS => ?_)
  refine lv_aload_n hx hb dX5_goOn_30 rfl (lv_at hl 0 rfl) ?_
  refine kx_getiv hx hb htT m_u_X5 hown hK hP ho (Nat.le_of_ble_eq_true rfl) rfl 5 (by decide) (by decide) rfl (htT _ m_fl_X5_69) u2_s dX5_goOn_31 ?_
  exact W.iret (v := (gI S x 5) + p0) hx hb hr (fun t ht hW => ⟨⟨(gI S x 5) + p0, pI S x 5 (gI S x 5 + p0), rfl, ⟨rfl, rfl⟩, by rw [ht]; exact hP, va_K.moved hW.alike hK, hD⟩, hS.F ht⟩) hS.2.2 dX5_goOn_34

set_option maxRecDepth 100000 in
set_option maxHeartbeats 4000000 in
theorem c_switches (l : Launch) (D : va_G) (cA : Nat → ClassId) (sz : Nat) (S : Pool) (x : Nat) (ho : isO S x 5) : Met l yX5_switches (Cond.code yX5_switches cX5_switches 1 (some .int) :: TT) ({ frames := 0, cells := 0, slots := 0, locals := 0 }) (va_Pc [.ref x] (kPre D cA (PW cA S) sz)) (va_Qi (fun (r_ : Int32) (x_ : Pool) => r_ = gI S x 2 ∧ x_ = S) (fun x_ => kB D cA (va_A (PW cA S) sz) (PW cA x_)) (va_A (PW cA S) sz)) 0 0 (va_A (PW cA S) sz) := by
  refine Met.ofW (cc := cX5_switches) (maxL := 1) (ret := (some .int)) (by decide) rfl ?_
  intro p e s m args below meth c s₁ B hml hv
  obtain ⟨rfl, hsz, hP, hK, hD0, hTB⟩ := hv
  have hx := B.exec
  have hb := B.bytes
  have hr := B.returns
  have hts := atoms_spec (ws := Cond.code yX5_switches cX5_switches 1 (some .int) :: TT) B.pre
  have htT : ∀ w ∈ TT, w.before _ s = true := fun w h => hts w (List.mem_cons_of_mem _ h)
  have hown : s.vm.findClass RX5 = some m.cls := findClass_of_methodNamed B.named
  have hlocks := B.notSynchronized
  subst hsz
  have hD := hD0.self (sz := s.heap.size)
  generalize hAe : va_A (PW cA S) s.heap.size = A at hD ⊢
  have hA : ∀ q : Nat, s.heap.size ≤ q → A q := fun q h => by rw [← hAe]; exact Or.inr h
  have hS : va_S A s.heap s.heap [] := va_S.rf
  have hl := lv_entry ([.ref x]) (n := 1) (Nat.le_of_ble_eq_true rfl)
  rw [lg_entry_eq]
  generalize (lg_sl ([.ref x]) ++ List.replicate (1 - (lg_sl ([.ref x])).length) Slot.unset).toArray = ls at hl ⊢
  have hl : lv_has ls 1 [(0, .ref x)] := hl
  refine lv_aload_n hx hb dX5_switches_0 rfl (lv_at hl 0 rfl) ?_
  refine kx_geti hx hb htT m_u_X5 hown hK hP ho (Nat.le_of_ble_eq_true rfl) rfl 2 (by decide) (by decide) rfl (htT _ m_fl_X5_33) dX5_switches_1 ?_
  exact W.iret (v := gI S x 2) hx hb hr (fun t ht hW => ⟨⟨gI S x 2, S, rfl, ⟨rfl, rfl⟩, by rw [ht]; exact hP, va_K.moved hW.alike hK, hD⟩, hS.F ht⟩) hS.2.2 dX5_switches_4

set_option maxRecDepth 100000 in
set_option maxHeartbeats 4000000 in
theorem c_arms (l : Launch) (D : va_G) (cA : Nat → ClassId) (sz : Nat) (S : Pool) (x : Nat) (ho : isO S x 5) : Met l yX5_arms (Cond.code yX5_arms cX5_arms 1 (some .int) :: TT) ({ frames := 0, cells := 0, slots := 0, locals := 0 }) (va_Pc [.ref x] (kPre D cA (PW cA S) sz)) (va_Qi (fun (r_ : Int32) (x_ : Pool) => r_ = gI S x 3 ∧ x_ = S) (fun x_ => kB D cA (va_A (PW cA S) sz) (PW cA x_)) (va_A (PW cA S) sz)) 0 0 (va_A (PW cA S) sz) := by
  refine Met.ofW (cc := cX5_arms) (maxL := 1) (ret := (some .int)) (by decide) rfl ?_
  intro p e s m args below meth c s₁ B hml hv
  obtain ⟨rfl, hsz, hP, hK, hD0, hTB⟩ := hv
  have hx := B.exec
  have hb := B.bytes
  have hr := B.returns
  have hts := atoms_spec (ws := Cond.code yX5_arms cX5_arms 1 (some .int) :: TT) B.pre
  have htT : ∀ w ∈ TT, w.before _ s = true := fun w h => hts w (List.mem_cons_of_mem _ h)
  have hown : s.vm.findClass RX5 = some m.cls := findClass_of_methodNamed B.named
  have hlocks := B.notSynchronized
  subst hsz
  have hD := hD0.self (sz := s.heap.size)
  generalize hAe : va_A (PW cA S) s.heap.size = A at hD ⊢
  have hA : ∀ q : Nat, s.heap.size ≤ q → A q := fun q h => by rw [← hAe]; exact Or.inr h
  have hS : va_S A s.heap s.heap [] := va_S.rf
  have hl := lv_entry ([.ref x]) (n := 1) (Nat.le_of_ble_eq_true rfl)
  rw [lg_entry_eq]
  generalize (lg_sl ([.ref x]) ++ List.replicate (1 - (lg_sl ([.ref x])).length) Slot.unset).toArray = ls at hl ⊢
  have hl : lv_has ls 1 [(0, .ref x)] := hl
  refine lv_aload_n hx hb dX5_arms_0 rfl (lv_at hl 0 rfl) ?_
  refine kx_geti hx hb htT m_u_X5 hown hK hP ho (Nat.le_of_ble_eq_true rfl) rfl 3 (by decide) (by decide) rfl (htT _ m_fl_X5_165) dX5_arms_1 ?_
  exact W.iret (v := gI S x 3) hx hb hr (fun t ht hW => ⟨⟨gI S x 3, S, rfl, ⟨rfl, rfl⟩, by rw [ht]; exact hP, va_K.moved hW.alike hK, hD⟩, hS.F ht⟩) hS.2.2 dX5_arms_4

set_option maxRecDepth 100000 in
set_option maxHeartbeats 4000000 in
theorem c_bucketOf (l : Launch) (D : va_G) (cA : Nat → ClassId) (sz : Nat) (S : Pool) (p0 p1 : Int32) : Met l yX5_bucketOf (Cond.code yX5_bucketOf cX5_bucketOf 4 (some .int) :: TT) ({ frames := 0, cells := 0, slots := 0, locals := 0 }) (va_Pc [.int p0, .int p1] (kPre D cA (PW cA S) sz)) (va_Qi (fun (r_ : Int32) (x_ : Pool) => r_ = kBkt p0 p1 ∧ x_ = S) (fun x_ => kB D cA (va_A (PW cA S) sz) (PW cA x_)) (va_A (PW cA S) sz)) 0 0 (va_A (PW cA S) sz) := by
  refine Met.ofW (cc := cX5_bucketOf) (maxL := 4) (ret := (some .int)) (by decide) rfl ?_
  intro p e s m args below meth c s₁ B hml hv
  obtain ⟨rfl, hsz, hP, hK, hD0, hTB⟩ := hv
  have hx := B.exec
  have hb := B.bytes
  have hr := B.returns
  have hts := atoms_spec (ws := Cond.code yX5_bucketOf cX5_bucketOf 4 (some .int) :: TT) B.pre
  have htT : ∀ w ∈ TT, w.before _ s = true := fun w h => hts w (List.mem_cons_of_mem _ h)
  have hown : s.vm.findClass RX5 = some m.cls := findClass_of_methodNamed B.named
  have hlocks := B.notSynchronized
  subst hsz
  have hD := hD0.self (sz := s.heap.size)
  generalize hAe : va_A (PW cA S) s.heap.size = A at hD ⊢
  have hA : ∀ q : Nat, s.heap.size ≤ q → A q := fun q h => by rw [← hAe]; exact Or.inr h
  have hS : va_S A s.heap s.heap [] := va_S.rf
  have hl := lv_entry ([.int p0, .int p1]) (n := 4) (Nat.le_of_ble_eq_true rfl)
  rw [lg_entry_eq]
  generalize (lg_sl ([.int p0, .int p1]) ++ List.replicate (4 - (lg_sl ([.int p0, .int p1])).length) Slot.unset).toArray = ls at hl ⊢
  have hl : lv_has ls 4 [(0, .int p0), (1, .int p1)] := hl
  refine lv_iload_n hx hb dX5_bucketOf_0 rfl (lv_at hl 0 rfl) ?_
  refine lv_sipush (v := 7919) hx hb dX5_bucketOf_1 (by decide) ?_
  refine lv_imul hx hb dX5_bucketOf_4 ?_
  refine lv_iload_n hx hb dX5_bucketOf_5 rfl (lv_at hl 1 rfl) ?_
  refine lv_bipush (v := 31) hx hb dX5_bucketOf_6 (by decide) ?_
  refine lv_imul hx hb dX5_bucketOf_8 ?_
  refine lv_iadd hx hb dX5_bucketOf_9 ?_
  refine lv_bipush (v := 17) hx hb dX5_bucketOf_10 (by decide) ?_
  refine lv_iadd hx hb dX5_bucketOf_12 ?_
  refine lv_sipush (v := 10007) hx hb dX5_bucketOf_13 (by decide) ?_
  refine lv_irem hx hb dX5_bucketOf_16 (by decide) ?_
  refine lv_istore_n (lv' := [(2, .int ((((p0 * 7919) + (p1 * 31)) + 17) - (((p0 * 7919) + (p1 * 31)) + 17) / 10007 * 10007)), (0, .int p0), (1, .int p1)]) hx hb dX5_bucketOf_17 rfl hl (by decide) rfl (fun ls hl => ?_)
  refine lv_iload_n hx hb dX5_bucketOf_18 rfl (lv_at hl 0 rfl) ?_
  refine lv_iload_n hx hb dX5_bucketOf_19 rfl (lv_at hl 0 rfl) ?_
  refine lv_imul hx hb dX5_bucketOf_20 ?_
  refine lv_iload_n hx hb dX5_bucketOf_21 rfl (lv_at hl 1 rfl) ?_
  refine lv_iadd hx hb dX5_bucketOf_22 ?_
  refine lv_iconst (v := 3) hx hb dX5_bucketOf_23 (by decide) ?_
  refine lv_iload_n hx hb dX5_bucketOf_24 rfl (lv_at hl 2 rfl) ?_
  refine lv_imul hx hb dX5_bucketOf_25 ?_
  refine lv_iadd hx hb dX5_bucketOf_26 ?_
  refine lv_sipush (v := 10007) hx hb dX5_bucketOf_27 (by decide) ?_
  refine lv_irem hx hb dX5_bucketOf_30 (by decide) ?_
  refine lv_istore_n (lv' := [(3, .int ((((((((p0 * 7919) + (p1 * 31)) + 17) - (((p0 * 7919) + (p1 * 31)) + 17) / 10007 * 10007) * ((((p0 * 7919) + (p1 * 31)) + 17) - (((p0 * 7919) + (p1 * 31)) + 17) / 10007 * 10007)) + p0) + (3 * p1)) - (((((((p0 * 7919) + (p1 * 31)) + 17) - (((p0 * 7919) + (p1 * 31)) + 17) / 10007 * 10007) * ((((p0 * 7919) + (p1 * 31)) + 17) - (((p0 * 7919) + (p1 * 31)) + 17) / 10007 * 10007)) + p0) + (3 * p1)) / 10007 * 10007)), (2, .int ((((p0 * 7919) + (p1 * 31)) + 17) - (((p0 * 7919) + (p1 * 31)) + 17) / 10007 * 10007)), (0, .int p0), (1, .int p1)]) hx hb dX5_bucketOf_31 rfl hl (by decide) rfl (fun ls hl => ?_)
  refine lv_iload_n hx hb dX5_bucketOf_32 rfl (lv_at hl 0 rfl) ?_
  refine lv_sipush (v := 1000) hx hb dX5_bucketOf_33 (by decide) ?_
  refine lv_irem hx hb dX5_bucketOf_36 (by decide) ?_
  exact W.iret (v := ((((((((p0 * 7919) + (p1 * 31)) + 17) - (((p0 * 7919) + (p1 * 31)) + 17) / 10007 * 10007) * ((((p0 * 7919) + (p1 * 31)) + 17) - (((p0 * 7919) + (p1 * 31)) + 17) / 10007 * 10007)) + p0) + (3 * p1)) - (((((((p0 * 7919) + (p1 * 31)) + 17) - (((p0 * 7919) + (p1 * 31)) + 17) / 10007 * 10007) * ((((p0 * 7919) + (p1 * 31)) + 17) - (((p0 * 7919) + (p1 * 31)) + 17) / 10007 * 10007)) + p0) + (3 * p1)) / 10007 * 10007) - ((((((((p0 * 7919) + (p1 * 31)) + 17) - (((p0 * 7919) + (p1 * 31)) + 17) / 10007 * 10007) * ((((p0 * 7919) + (p1 * 31)) + 17) - (((p0 * 7919) + (p1 * 31)) + 17) / 10007 * 10007)) + p0) + (3 * p1)) - (((((((p0 * 7919) + (p1 * 31)) + 17) - (((p0 * 7919) + (p1 * 31)) + 17) / 10007 * 10007) * ((((p0 * 7919) + (p1 * 31)) + 17) - (((p0 * 7919) + (p1 * 31)) + 17) / 10007 * 10007)) + p0) + (3 * p1)) / 10007 * 10007) / 1000 * 1000) hx hb hr (fun t ht hW => ⟨⟨((((((((p0 * 7919) + (p1 * 31)) + 17) - (((p0 * 7919) + (p1 * 31)) + 17) / 10007 * 10007) * ((((p0 * 7919) + (p1 * 31)) + 17) - (((p0 * 7919) + (p1 * 31)) + 17) / 10007 * 10007)) + p0) + (3 * p1)) - (((((((p0 * 7919) + (p1 * 31)) + 17) - (((p0 * 7919) + (p1 * 31)) + 17) / 10007 * 10007) * ((((p0 * 7919) + (p1 * 31)) + 17) - (((p0 * 7919) + (p1 * 31)) + 17) / 10007 * 10007)) + p0) + (3 * p1)) / 10007 * 10007) - ((((((((p0 * 7919) + (p1 * 31)) + 17) - (((p0 * 7919) + (p1 * 31)) + 17) / 10007 * 10007) * ((((p0 * 7919) + (p1 * 31)) + 17) - (((p0 * 7919) + (p1 * 31)) + 17) / 10007 * 10007)) + p0) + (3 * p1)) - (((((((p0 * 7919) + (p1 * 31)) + 17) - (((p0 * 7919) + (p1 * 31)) + 17) / 10007 * 10007) * ((((p0 * 7919) + (p1 * 31)) + 17) - (((p0 * 7919) + (p1 * 31)) + 17) / 10007 * 10007)) + p0) + (3 * p1)) / 10007 * 10007) / 1000 * 1000, S, rfl, ⟨rfl, rfl⟩, by rw [ht]; exact hP, va_K.moved hW.alike hK, hD⟩, hS.F ht⟩) hS.2.2 dX5_bucketOf_37

set_option maxRecDepth 100000 in
set_option maxHeartbeats 4000000 in
theorem c_bucket_t1 (l : Launch) (hst : l.stackTraces = false) (D : va_G) (cA : Nat → ClassId) (sz : Nat) (S : Pool) (x : Nat) (ho : isO S x 5) (p0 p1 : Int32) (h1 : kOut p0 0 999 = 1) : vx_Met l yX5_bucket (Cond.code yX5_bucket cX5_bucket 3 (some .int) :: TT) ({ frames := 6, cells := 1, slots := 6, locals := 82 }) (va_Pc [.ref x, .int p0, .int p1] (kPreX D cA (PW cA S) sz)) kNo (kXC D cA (PW cA S) "java/lang/IllegalArgumentException" (va_A (PW cA S) sz)) 1 6 (va_A (PW cA S) sz) := by
  refine vx_ofW (cc := cX5_bucket) (maxL := 3) (ret := (some .int)) (by decide) rfl ?_
  intro p e s m args below meth c s₁ B hml hTab hv
  obtain ⟨rfl, ⟨hsz, hP, hK, hD0, hTB⟩, hTX⟩ := hv
  have hx := B.exec
  have hb := B.bytes
  have hr := B.returns
  have hts := atoms_spec (ws := Cond.code yX5_bucket cX5_bucket 3 (some .int) :: TT) B.pre
  have htT : ∀ w ∈ TT, w.before _ s = true := fun w h => hts w (List.mem_cons_of_mem _ h)
  have hown : s.vm.findClass RX5 = some m.cls := findClass_of_methodNamed B.named
  have hlocks := B.notSynchronized
  subst hsz
  have hD := hD0.self (sz := s.heap.size)
  generalize hAe : va_A (PW cA S) s.heap.size = A at hD hTX ⊢
  have hA : ∀ q : Nat, s.heap.size ≤ q → A q := fun q h => by rw [← hAe]; exact Or.inr h
  have hS : va_S A s.heap s.heap [] := va_S.rf
  have hl := lv_entry ([.ref x, .int p0, .int p1]) (n := 3) (Nat.le_of_ble_eq_true rfl)
  rw [lg_entry_eq]
  generalize (lg_sl ([.ref x, .int p0, .int p1]) ++ List.replicate (3 - (lg_sl ([.ref x, .int p0, .int p1])).length) Slot.unset).toArray = ls at hl ⊢
  have hl : lv_has ls 3 [(0, .ref x), (1, .int p0), (2, .int p1)] := hl
  refine lv_iload_n hx hb dX5_bucket_0 rfl (lv_at hl 1 rfl) ?_
  refine lv_iconst (v := 0) hx hb dX5_bucket_1 (by decide) ?_
  refine lv_sipush (v := 999) hx hb dX5_bucket_2 (by decide) ?_
  refine kc_i (va_runS (As := [.int p0, .int 0, .int 999]) (rest := []) ⟨hx, hb, hml, hown, htT⟩ (c_isOutside l D cA _ S p0 0 999) (cwS 3 htT (kg_S m_ml_X5_22 m_st_X5_isOutside m_in_X5 m_cd_X5_isOutside) rfl rfl rfl (by decide +kernel) ⟨Nat.le_of_ble_eq_true rfl, Nat.le_of_ble_eq_true rfl⟩) (kp_S hK hP hD hTB) rfl rfl hl.1 rfl (lv_room (Nat.le_of_ble_eq_true rfl)) dX5_bucket_5 ⟨Nat.le_of_ble_eq_true rfl, Nat.le_of_ble_eq_true rfl⟩) hD hS hA (fun r_1 x_1 H locs hq_1 hP hD hS => ?_)
  rw [hq_1.1]
  rw [hq_1.2] at hP hD
  rw [h1]
  refine lv_if_ne (tgt := 22) hx hb dX5_bucket_8 (by decide) (fun _ => ?_) (fun c_2 => absurd (by decide) c_2)
  exact kt_new (text := "salt or user out of range") hx hb hst hown (Or.inl rfl) (htT _ m_cl_X5_26) (htT _ m_in_IllegalArgumentException) (by decide +kernel) (fun w h => htT w (at_IAE w h)) an_IAE (ag_IAE 26) hTB hTX hK hP hD hS (hl.1.trans hml.symm) dX5_bucket_22 dX5_bucket_25 dX5_bucket_26 dX5_bucket_28 dX5_bucket_31 hTab (Nat.le_of_ble_eq_true rfl) (Nat.le_of_ble_eq_true rfl) (Nat.le_of_ble_eq_true rfl) (Nat.le_of_ble_eq_true rfl) hlocks (Nat.le_of_ble_eq_true rfl) (Nat.le_of_ble_eq_true rfl)

set_option maxRecDepth 100000 in
set_option maxHeartbeats 4000000 in
theorem c_bucket_t2 (l : Launch) (hst : l.stackTraces = false) (D : va_G) (cA : Nat → ClassId) (sz : Nat) (S : Pool) (x : Nat) (ho : isO S x 5) (p0 p1 : Int32) (h1 : kOut p0 0 999 = 0) (h2 : kOut p1 0 9999 = 1) : vx_Met l yX5_bucket (Cond.code yX5_bucket cX5_bucket 3 (some .int) :: TT) ({ frames := 6, cells := 1, slots := 6, locals := 82 }) (va_Pc [.ref x, .int p0, .int p1] (kPreX D cA (PW cA S) sz)) kNo (kXC D cA (PW cA S) "java/lang/IllegalArgumentException" (va_A (PW cA S) sz)) 1 6 (va_A (PW cA S) sz) := by
  refine vx_ofW (cc := cX5_bucket) (maxL := 3) (ret := (some .int)) (by decide) rfl ?_
  intro p e s m args below meth c s₁ B hml hTab hv
  obtain ⟨rfl, ⟨hsz, hP, hK, hD0, hTB⟩, hTX⟩ := hv
  have hx := B.exec
  have hb := B.bytes
  have hr := B.returns
  have hts := atoms_spec (ws := Cond.code yX5_bucket cX5_bucket 3 (some .int) :: TT) B.pre
  have htT : ∀ w ∈ TT, w.before _ s = true := fun w h => hts w (List.mem_cons_of_mem _ h)
  have hown : s.vm.findClass RX5 = some m.cls := findClass_of_methodNamed B.named
  have hlocks := B.notSynchronized
  subst hsz
  have hD := hD0.self (sz := s.heap.size)
  generalize hAe : va_A (PW cA S) s.heap.size = A at hD hTX ⊢
  have hA : ∀ q : Nat, s.heap.size ≤ q → A q := fun q h => by rw [← hAe]; exact Or.inr h
  have hS : va_S A s.heap s.heap [] := va_S.rf
  have hl := lv_entry ([.ref x, .int p0, .int p1]) (n := 3) (Nat.le_of_ble_eq_true rfl)
  rw [lg_entry_eq]
  generalize (lg_sl ([.ref x, .int p0, .int p1]) ++ List.replicate (3 - (lg_sl ([.ref x, .int p0, .int p1])).length) Slot.unset).toArray = ls at hl ⊢
  have hl : lv_has ls 3 [(0, .ref x), (1, .int p0), (2, .int p1)] := hl
  refine lv_iload_n hx hb dX5_bucket_0 rfl (lv_at hl 1 rfl) ?_
  refine lv_iconst (v := 0) hx hb dX5_bucket_1 (by decide) ?_
  refine lv_sipush (v := 999) hx hb dX5_bucket_2 (by decide) ?_
  refine kc_i (va_runS (As := [.int p0, .int 0, .int 999]) (rest := []) ⟨hx, hb, hml, hown, htT⟩ (c_isOutside l D cA _ S p0 0 999) (cwS 3 htT (kg_S m_ml_X5_22 m_st_X5_isOutside m_in_X5 m_cd_X5_isOutside) rfl rfl rfl (by decide +kernel) ⟨Nat.le_of_ble_eq_true rfl, Nat.le_of_ble_eq_true rfl⟩) (kp_S hK hP hD hTB) rfl rfl hl.1 rfl (lv_room (Nat.le_of_ble_eq_true rfl)) dX5_bucket_5 ⟨Nat.le_of_ble_eq_true rfl, Nat.le_of_ble_eq_true rfl⟩) hD hS hA (fun r_1 x_1 H locs hq_1 hP hD hS => ?_)
  rw [hq_1.1]
  rw [hq_1.2] at hP hD
  rw [h1]
  refine lv_if_ne (tgt := 22) hx hb dX5_bucket_8 (by decide) (fun c_2 => absurd c_2 (by decide)) (fun _ => ?_)
  refine lv_iload_n hx hb dX5_bucket_11 rfl (lv_at hl 2 rfl) ?_
  refine lv_iconst (v := 0) hx hb dX5_bucket_12 (by decide) ?_
  refine lv_sipush (v := 9999) hx hb dX5_bucket_13 (by decide) ?_
  refine kc_i (va_runS (As := [.int p1, .int 0, .int 9999]) (rest := []) ⟨hx, hb, hml, hown, htT⟩ (c_isOutside l D cA _ S p1 0 9999) (cwS 3 htT (kg_S m_ml_X5_22 m_st_X5_isOutside m_in_X5 m_cd_X5_isOutside) rfl rfl rfl (by decide +kernel) ⟨Nat.le_of_ble_eq_true rfl, Nat.le_of_ble_eq_true rfl⟩) (kp_S hK hP hD hTB) rfl rfl hl.1 rfl (lv_room (Nat.le_of_ble_eq_true rfl)) dX5_bucket_16 ⟨Nat.le_of_ble_eq_true rfl, Nat.le_of_ble_eq_true rfl⟩) hD hS hA (fun r_3 x_3 H locs hq_3 hP hD hS => ?_)
  rw [hq_3.1]
  rw [hq_3.2] at hP hD
  rw [h2]
  refine lv_if_eq (tgt := 32) hx hb dX5_bucket_19 (by decide) (fun c_4 => absurd c_4 (by decide)) (fun _ => ?_)
  exact kt_new (text := "salt or user out of range") hx hb hst hown (Or.inl rfl) (htT _ m_cl_X5_26) (htT _ m_in_IllegalArgumentException) (by decide +kernel) (fun w h => htT w (at_IAE w h)) an_IAE (ag_IAE 26) hTB hTX hK hP hD hS (hl.1.trans hml.symm) dX5_bucket_22 dX5_bucket_25 dX5_bucket_26 dX5_bucket_28 dX5_bucket_31 hTab (Nat.le_of_ble_eq_true rfl) (Nat.le_of_ble_eq_true rfl) (Nat.le_of_ble_eq_true rfl) (Nat.le_of_ble_eq_true rfl) hlocks (Nat.le_of_ble_eq_true rfl) (Nat.le_of_ble_eq_true rfl)

set_option maxRecDepth 100000 in
set_option maxHeartbeats 4000000 in
theorem c_bucket (l : Launch) (D : va_G) (cA : Nat → ClassId) (sz : Nat) (S : Pool) (x : Nat) (ho : isO S x 5) (p0 p1 : Int32) (h1 : kOut p0 0 999 = 0) (h2 : kOut p1 0 9999 = 0) : Met l yX5_bucket (Cond.code yX5_bucket cX5_bucket 3 (some .int) :: TT) ({ frames := 1, cells := 0, slots := 0, locals := 23 }) (va_Pc [.ref x, .int p0, .int p1] (kPre D cA (PW cA S) sz)) (va_Qi (fun (r_ : Int32) (x_ : Pool) => r_ = kBkt p0 p1 ∧ x_ = S) (fun x_ => kB D cA (va_A (PW cA S) sz) (PW cA x_)) (va_A (PW cA S) sz)) 0 0 (va_A (PW cA S) sz) := by
  refine Met.ofW (cc := cX5_bucket) (maxL := 3) (ret := (some .int)) (by decide) rfl ?_
  intro p e s m args below meth c s₁ B hml hv
  obtain ⟨rfl, hsz, hP, hK, hD0, hTB⟩ := hv
  have hx := B.exec
  have hb := B.bytes
  have hr := B.returns
  have hts := atoms_spec (ws := Cond.code yX5_bucket cX5_bucket 3 (some .int) :: TT) B.pre
  have htT : ∀ w ∈ TT, w.before _ s = true := fun w h => hts w (List.mem_cons_of_mem _ h)
  have hown : s.vm.findClass RX5 = some m.cls := findClass_of_methodNamed B.named
  have hlocks := B.notSynchronized
  subst hsz
  have hD := hD0.self (sz := s.heap.size)
  generalize hAe : va_A (PW cA S) s.heap.size = A at hD ⊢
  have hA : ∀ q : Nat, s.heap.size ≤ q → A q := fun q h => by rw [← hAe]; exact Or.inr h
  have hS : va_S A s.heap s.heap [] := va_S.rf
  have hl := lv_entry ([.ref x, .int p0, .int p1]) (n := 3) (Nat.le_of_ble_eq_true rfl)
  rw [lg_entry_eq]
  generalize (lg_sl ([.ref x, .int p0, .int p1]) ++ List.replicate (3 - (lg_sl ([.ref x, .int p0, .int p1])).length) Slot.unset).toArray = ls at hl ⊢
  have hl : lv_has ls 3 [(0, .ref x), (1, .int p0), (2, .int p1)] := hl
  refine lv_iload_n hx hb dX5_bucket_0 rfl (lv_at hl 1 rfl) ?_
  refine lv_iconst (v := 0) hx hb dX5_bucket_1 (by decide) ?_
  refine lv_sipush (v := 999) hx hb dX5_bucket_2 (by decide) ?_
  refine kc_i (va_runS (As := [.int p0, .int 0, .int 999]) (rest := []) ⟨hx, hb, hml, hown, htT⟩ (c_isOutside l D cA _ S p0 0 999) (cwS 3 htT (kg_S m_ml_X5_22 m_st_X5_isOutside m_in_X5 m_cd_X5_isOutside) rfl rfl rfl (by decide +kernel) ⟨Nat.le_of_ble_eq_true rfl, Nat.le_of_ble_eq_true rfl⟩) (kp_S hK hP hD hTB) rfl rfl hl.1 rfl (lv_room (Nat.le_of_ble_eq_true rfl)) dX5_bucket_5 ⟨Nat.le_of_ble_eq_true rfl, Nat.le_of_ble_eq_true rfl⟩) hD hS hA (fun r_1 x_1 H locs hq_1 hP hD hS => ?_)
  rw [hq_1.1]
  rw [hq_1.2] at hP hD
  rw [h1]
  refine lv_if_ne (tgt := 22) hx hb dX5_bucket_8 (by decide) (fun c_2 => absurd c_2 (by decide)) (fun _ => ?_)
  refine lv_iload_n hx hb dX5_bucket_11 rfl (lv_at hl 2 rfl) ?_
  refine lv_iconst (v := 0) hx hb dX5_bucket_12 (by decide) ?_
  refine lv_sipush (v := 9999) hx hb dX5_bucket_13 (by decide) ?_
  refine kc_i (va_runS (As := [.int p1, .int 0, .int 9999]) (rest := []) ⟨hx, hb, hml, hown, htT⟩ (c_isOutside l D cA _ S p1 0 9999) (cwS 3 htT (kg_S m_ml_X5_22 m_st_X5_isOutside m_in_X5 m_cd_X5_isOutside) rfl rfl rfl (by decide +kernel) ⟨Nat.le_of_ble_eq_true rfl, Nat.le_of_ble_eq_true rfl⟩) (kp_S hK hP hD hTB) rfl rfl hl.1 rfl (lv_room (Nat.le_of_ble_eq_true rfl)) dX5_bucket_16 ⟨Nat.le_of_ble_eq_true rfl, Nat.le_of_ble_eq_true rfl⟩) hD hS hA (fun r_3 x_3 H locs hq_3 hP hD hS => ?_)
  rw [hq_3.1]
  rw [hq_3.2] at hP hD
  rw [h2]
  refine lv_if_eq (tgt := 32) hx hb dX5_bucket_19 (by decide) (fun _ => ?_) (fun c_4 => absurd (by decide) c_4)
  refine lv_iload_n hx hb dX5_bucket_32 rfl (lv_at hl 1 rfl) ?_
  refine lv_iload_n hx hb dX5_bucket_33 rfl (lv_at hl 2 rfl) ?_
  refine kc_i (va_runS (As := [.int p0, .int p1]) (rest := []) ⟨hx, hb, hml, hown, htT⟩ (c_bucketOf l D cA _ S p0 p1) (cwS 2 htT (kg_S m_ml_X5_141 m_st_X5_bucketOf m_in_X5 m_cd_X5_bucketOf) rfl rfl rfl (by decide +kernel) ⟨Nat.le_of_ble_eq_true rfl, Nat.le_of_ble_eq_true rfl⟩) (kp_S hK hP hD hTB) rfl rfl hl.1 rfl (lv_room (Nat.le_of_ble_eq_true rfl)) dX5_bucket_34 ⟨Nat.le_of_ble_eq_true rfl, Nat.le_of_ble_eq_true rfl⟩) hD hS hA (fun r_5 x_5 H locs hq_5 hP hD hS => ?_)
  rw [hq_5.1]
  rw [hq_5.2] at hP hD
  exact W.iret (v := kBkt p0 p1) hx hb hr (fun t ht hW => ⟨⟨kBkt p0 p1, S, rfl, ⟨rfl, rfl⟩, by rw [ht]; exact hP, va_K.moved hW.alike hK, hD⟩, hS.F ht⟩) hS.2.2 dX5_bucket_37

set_option maxRecDepth 100000 in
set_option maxHeartbeats 4000000 in
theorem c_left_t (l : Launch) (hst : l.stackTraces = false) (D : va_G) (cA : Nat → ClassId) (sz : Nat) (S : Pool) (x : Nat) (ho : isO S x 5) (p0 : Int32) (h1 : kOut p0 0 2 = 1) : vx_Met l yX5_left (Cond.code yX5_left cX5_left 7 (some .int) :: TT) ({ frames := 6, cells := 1, slots := 6, locals := 82 }) (va_Pc [.ref x, .int p0] (kPreX D cA (PW cA S) sz)) kNo (kXC D cA (PW cA S) "java/lang/IndexOutOfBoundsException" (va_A (PW cA S) sz)) 1 6 (va_A (PW cA S) sz) := by
  refine vx_ofW (cc := cX5_left) (maxL := 7) (ret := (some .int)) (by decide) rfl ?_
  intro p e s m args below meth c s₁ B hml hTab hv
  obtain ⟨rfl, ⟨hsz, hP, hK, hD0, hTB⟩, hTX⟩ := hv
  have hx := B.exec
  have hb := B.bytes
  have hr := B.returns
  have hts := atoms_spec (ws := Cond.code yX5_left cX5_left 7 (some .int) :: TT) B.pre
  have htT : ∀ w ∈ TT, w.before _ s = true := fun w h => hts w (List.mem_cons_of_mem _ h)
  have hown : s.vm.findClass RX5 = some m.cls := findClass_of_methodNamed B.named
  have hlocks := B.notSynchronized
  subst hsz
  have hD := hD0.self (sz := s.heap.size)
  generalize hAe : va_A (PW cA S) s.heap.size = A at hD hTX ⊢
  have hA : ∀ q : Nat, s.heap.size ≤ q → A q := fun q h => by rw [← hAe]; exact Or.inr h
  have hS : va_S A s.heap s.heap [] := va_S.rf
  have hl := lv_entry ([.ref x, .int p0]) (n := 7) (Nat.le_of_ble_eq_true rfl)
  rw [lg_entry_eq]
  generalize (lg_sl ([.ref x, .int p0]) ++ List.replicate (7 - (lg_sl ([.ref x, .int p0])).length) Slot.unset).toArray = ls at hl ⊢
  have hl : lv_has ls 7 [(0, .ref x), (1, .int p0)] := hl
  refine lv_iload_n hx hb dX5_left_0 rfl (lv_at hl 1 rfl) ?_
  refine lv_iconst (v := 0) hx hb dX5_left_1 (by decide) ?_
  refine lv_iconst (v := 2) hx hb dX5_left_2 (by decide) ?_
  refine kc_i (va_runS (As := [.int p0, .int 0, .int 2]) (rest := []) ⟨hx, hb, hml, hown, htT⟩ (c_isOutside l D cA _ S p0 0 2) (cwS 3 htT (kg_S m_ml_X5_22 m_st_X5_isOutside m_in_X5 m_cd_X5_isOutside) rfl rfl rfl (by decide +kernel) ⟨Nat.le_of_ble_eq_true rfl, Nat.le_of_ble_eq_true rfl⟩) (kp_S hK hP hD hTB) rfl rfl hl.1 rfl (lv_room (Nat.le_of_ble_eq_true rfl)) dX5_left_3 ⟨Nat.le_of_ble_eq_true rfl, Nat.le_of_ble_eq_true rfl⟩) hD hS hA (fun r_1 x_1 H locs hq_1 hP hD hS => ?_)
  rw [hq_1.1]
  rw [hq_1.2] at hP hD
  rw [h1]
  refine lv_if_eq (tgt := 19) hx hb dX5_left_6 (by decide) (fun c_2 => absurd c_2 (by decide)) (fun _ => ?_)
  exact kt_new (text := "no such layer") hx hb hst hown (Or.inr (Or.inr rfl)) (htT _ m_cl_X5_121) (htT _ m_in_IndexOutOfBoundsException) (by decide +kernel) (fun w h => htT w (at_IOE w h)) an_IOE (ag_IOE 121) hTB hTX hK hP hD hS (hl.1.trans hml.symm) dX5_left_9 dX5_left_12 dX5_left_13 dX5_left_15 dX5_left_18 hTab (Nat.le_of_ble_eq_true rfl) (Nat.le_of_ble_eq_true rfl) (Nat.le_of_ble_eq_true rfl) (Nat.le_of_ble_eq_true rfl) hlocks (Nat.le_of_ble_eq_true rfl) (Nat.le_of_ble_eq_true rfl)

set_option maxRecDepth 100000 in
set_option maxHeartbeats 4000000 in
/-- left, without switches -/
theorem c_left_0 (l : Launch) (D : va_G) (cA : Nat → ClassId) (sz : Nat) (S : Pool) (x : Nat) (ho : isO S x 5) (ar : Nat) (hq0 : gQ S x 0 = some ar) (har : isA S ar 22 8) (hn : ∀ j, j < 8 → gP S ar j = none) (p0 : Int32) (h1 : kOut p0 0 2 = 0) : Met l yX5_left (Cond.code yX5_left cX5_left 7 (some .int) :: TT) ({ frames := 1, cells := 0, slots := 0, locals := 22 }) (va_Pc [.ref x, .int p0] (kPre D cA (PW cA S) sz)) (va_Qi (fun (r_ : Int32) (x_ : Pool) => r_ = 1000 ∧ x_ = S) (fun x_ => kB D cA (va_A (PW cA S) sz) (PW cA x_)) (va_A (PW cA S) sz)) 0 0 (va_A (PW cA S) sz) := by
  refine Met.ofW (cc := cX5_left) (maxL := 7) (ret := (some .int)) (by decide) rfl ?_
  intro p e s m args below meth c s₁ B hml hv
  obtain ⟨rfl, hsz, hP, hK, hD0, hTB⟩ := hv
  have hx := B.exec
  have hb := B.bytes
  have hr := B.returns
  have hts := atoms_spec (ws := Cond.code yX5_left cX5_left 7 (some .int) :: TT) B.pre
  have htT : ∀ w ∈ TT, w.before _ s = true := fun w h => hts w (List.mem_cons_of_mem _ h)
  have hown : s.vm.findClass RX5 = some m.cls := findClass_of_methodNamed B.named
  have hlocks := B.notSynchronized
  subst hsz
  have hD := hD0.self (sz := s.heap.size)
  generalize hAe : va_A (PW cA S) s.heap.size = A at hD ⊢
  have hA : ∀ q : Nat, s.heap.size ≤ q → A q := fun q h => by rw [← hAe]; exact Or.inr h
  have hS : va_S A s.heap s.heap [] := va_S.rf
  have hl := lv_entry ([.ref x, .int p0]) (n := 7) (Nat.le_of_ble_eq_true rfl)
  rw [lg_entry_eq]
  generalize (lg_sl ([.ref x, .int p0]) ++ List.replicate (7 - (lg_sl ([.ref x, .int p0])).length) Slot.unset).toArray = ls at hl ⊢
  have hl : lv_has ls 7 [(0, .ref x), (1, .int p0)] := hl
  refine lv_iload_n hx hb dX5_left_0 rfl (lv_at hl 1 rfl) ?_
  refine lv_iconst (v := 0) hx hb dX5_left_1 (by decide) ?_
  refine lv_iconst (v := 2) hx hb dX5_left_2 (by decide) ?_
  refine kc_i (va_runS (As := [.int p0, .int 0, .int 2]) (rest := []) ⟨hx, hb, hml, hown, htT⟩ (c_isOutside l D cA _ S p0 0 2) (cwS 3 htT (kg_S m_ml_X5_22 m_st_X5_isOutside m_in_X5 m_cd_X5_isOutside) rfl rfl rfl (by decide +kernel) ⟨Nat.le_of_ble_eq_true rfl, Nat.le_of_ble_eq_true rfl⟩) (kp_S hK hP hD hTB) rfl rfl hl.1 rfl (lv_room (Nat.le_of_ble_eq_true rfl)) dX5_left_3 ⟨Nat.le_of_ble_eq_true rfl, Nat.le_of_ble_eq_true rfl⟩) hD hS hA (fun r_1 x_1 H locs hq_1 hP hD hS => ?_)
  rw [hq_1.1]
  rw [hq_1.2] at hP hD
  rw [h1]
  refine lv_if_eq (tgt := 19) hx hb dX5_left_6 (by decide) (fun _ => ?_) (fun c_2 => absurd (by decide) c_2)
  refine lv_sipush (v := 1000) hx hb dX5_left_19 (by decide) ?_
  refine lv_istore_n (lv' := [(2, .int 1000), (0, .ref x), (1, .int p0)]) hx hb dX5_left_22 rfl hl (by decide) rfl (fun ls hl => ?_)
  refine lv_aload_n hx hb dX5_left_23 rfl (lv_at hl 1 rfl) ?_
  refine kx_gets hx hb htT m_u_X5 hown hK hP ho (Nat.le_of_ble_eq_true rfl) rfl 0 (by decide) (by decide) rfl hq0 (htT _ m_fl_X5_11) dX5_left_24 ?_
  refine lv_astore_n (lv' := [(3, .ref ar), (2, .int 1000), (0, .ref x), (1, .int p0)]) hx hb dX5_left_27 rfl hl (by decide) rfl (fun ls hl => ?_)
  refine lv_aload_n hx hb dX5_left_28 rfl (lv_at hl 0 rfl) ?_
  refine kx_alen (v := 8) hx hb hK hP har (Nat.le_of_ble_eq_true rfl) (Nat.le_of_ble_eq_true rfl) rfl dX5_left_29 ?_
  refine lv_istore (lv' := [(4, .int 8), (3, .ref ar), (2, .int 1000), (0, .ref x), (1, .int p0)]) hx hb dX5_left_30 hl (by decide) rfl (fun ls hl => ?_)
  refine lv_iconst (v := 0) hx hb dX5_left_32 (by decide) ?_
  refine lv_istore (lv' := [(5, .int 0), (4, .int 8), (3, .ref ar), (2, .int 1000), (0, .ref x), (1, .int p0)]) hx hb dX5_left_33 hl (by decide) rfl (fun ls hl => ?_)
  refine lv_iload hx hb dX5_left_35 (lv_at hl 0 rfl) ?_
  refine lv_iload hx hb dX5_left_37 (lv_at hl 1 rfl) ?_
  refine lv_icmp_ge (tgt := 82) hx hb dX5_left_39 (by decide) (fun c_3 => absurd c_3 (by decide)) (fun _ => ?_)
  refine lv_aload_n hx hb dX5_left_42 rfl (lv_at hl 2 rfl) ?_
  refine lv_iload hx hb dX5_left_43 (lv_at hl 0 rfl) ?_
  refine kx_alds (r := none) hx hb hK hP har (vp_in_iff.mpr (by decide)) (hn _ (by decide)) dX5_left_45 ?_
  refine lv_astoreN (lv' := [(6, .null), (5, .int 0), (4, .int 8), (3, .ref ar), (2, .int 1000), (0, .ref x), (1, .int p0)]) hx hb dX5_left_46 hl (by decide) rfl (fun ls hl => ?_)
  refine lv_aloadN hx hb dX5_left_48 (lv_at hl 0 rfl) ?_
  refine lv_ifnullN (tgt := 76) hx hb dX5_left_50 (by decide) ?_
  refine lv_iinc (v := 1) (lv' := [(5, .int 1), (6, .null), (4, .int 8), (3, .ref ar), (2, .int 1000), (0, .ref x), (1, .int p0)]) hx hb dX5_left_76 hl (k := 1) rfl (by decide) (by decide) rfl (fun ls hl => ?_)
  refine lv_goto (tgt := 35) hx hb dX5_left_79 (by decide) ?_
  refine lv_iload hx hb dX5_left_35 (lv_at hl 0 rfl) ?_
  refine lv_iload hx hb dX5_left_37 (lv_at hl 2 rfl) ?_
  refine lv_icmp_ge (tgt := 82) hx hb dX5_left_39 (by decide) (fun c_4 => absurd c_4 (by decide)) (fun _ => ?_)
  refine lv_aload_n hx hb dX5_left_42 rfl (lv_at hl 3 rfl) ?_
  refine lv_iload hx hb dX5_left_43 (lv_at hl 0 rfl) ?_
  refine kx_alds (r := none) hx hb hK hP har (vp_in_iff.mpr (by decide)) (hn _ (by decide)) dX5_left_45 ?_
  refine lv_astoreN (lv' := [(6, .null), (5, .int 1), (4, .int 8), (3, .ref ar), (2, .int 1000), (0, .ref x), (1, .int p0)]) hx hb dX5_left_46 hl (by decide) rfl (fun ls hl => ?_)
  refine lv_aloadN hx hb dX5_left_48 (lv_at hl 0 rfl) ?_
  refine lv_ifnullN (tgt := 76) hx hb dX5_left_50 (by decide) ?_
  refine lv_iinc (v := 2) (lv' := [(5, .int 2), (6, .null), (4, .int 8), (3, .ref ar), (2, .int 1000), (0, .ref x), (1, .int p0)]) hx hb dX5_left_76 hl (k := 1) rfl (by decide) (by decide) rfl (fun ls hl => ?_)
  refine lv_goto (tgt := 35) hx hb dX5_left_79 (by decide) ?_
  refine lv_iload hx hb dX5_left_35 (lv_at hl 0 rfl) ?_
  refine lv_iload hx hb dX5_left_37 (lv_at hl 2 rfl) ?_
  refine lv_icmp_ge (tgt := 82) hx hb dX5_left_39 (by decide) (fun c_5 => absurd c_5 (by decide)) (fun _ => ?_)
  refine lv_aload_n hx hb dX5_left_42 rfl (lv_at hl 3 rfl) ?_
  refine lv_iload hx hb dX5_left_43 (lv_at hl 0 rfl) ?_
  refine kx_alds (r := none) hx hb hK hP har (vp_in_iff.mpr (by decide)) (hn _ (by decide)) dX5_left_45 ?_
  refine lv_astoreN (lv' := [(6, .null), (5, .int 2), (4, .int 8), (3, .ref ar), (2, .int 1000), (0, .ref x), (1, .int p0)]) hx hb dX5_left_46 hl (by decide) rfl (fun ls hl => ?_)
  refine lv_aloadN hx hb dX5_left_48 (lv_at hl 0 rfl) ?_
  refine lv_ifnullN (tgt := 76) hx hb dX5_left_50 (by decide) ?_
  refine lv_iinc (v := 3) (lv' := [(5, .int 3), (6, .null), (4, .int 8), (3, .ref ar), (2, .int 1000), (0, .ref x), (1, .int p0)]) hx hb dX5_left_76 hl (k := 1) rfl (by decide) (by decide) rfl (fun ls hl => ?_)
  refine lv_goto (tgt := 35) hx hb dX5_left_79 (by decide) ?_
  refine lv_iload hx hb dX5_left_35 (lv_at hl 0 rfl) ?_
  refine lv_iload hx hb dX5_left_37 (lv_at hl 2 rfl) ?_
  refine lv_icmp_ge (tgt := 82) hx hb dX5_left_39 (by decide) (fun c_6 => absurd c_6 (by decide)) (fun _ => ?_)
  refine lv_aload_n hx hb dX5_left_42 rfl (lv_at hl 3 rfl) ?_
  refine lv_iload hx hb dX5_left_43 (lv_at hl 0 rfl) ?_
  refine kx_alds (r := none) hx hb hK hP har (vp_in_iff.mpr (by decide)) (hn _ (by decide)) dX5_left_45 ?_
  refine lv_astoreN (lv' := [(6, .null), (5, .int 3), (4, .int 8), (3, .ref ar), (2, .int 1000), (0, .ref x), (1, .int p0)]) hx hb dX5_left_46 hl (by decide) rfl (fun ls hl => ?_)
  refine lv_aloadN hx hb dX5_left_48 (lv_at hl 0 rfl) ?_
  refine lv_ifnullN (tgt := 76) hx hb dX5_left_50 (by decide) ?_
  refine lv_iinc (v := 4) (lv' := [(5, .int 4), (6, .null), (4, .int 8), (3, .ref ar), (2, .int 1000), (0, .ref x), (1, .int p0)]) hx hb dX5_left_76 hl (k := 1) rfl (by decide) (by decide) rfl (fun ls hl => ?_)
  refine lv_goto (tgt := 35) hx hb dX5_left_79 (by decide) ?_
  refine lv_iload hx hb dX5_left_35 (lv_at hl 0 rfl) ?_
  refine lv_iload hx hb dX5_left_37 (lv_at hl 2 rfl) ?_
  refine lv_icmp_ge (tgt := 82) hx hb dX5_left_39 (by decide) (fun c_7 => absurd c_7 (by decide)) (fun _ => ?_)
  refine lv_aload_n hx hb dX5_left_42 rfl (lv_at hl 3 rfl) ?_
  refine lv_iload hx hb dX5_left_43 (lv_at hl 0 rfl) ?_
  refine kx_alds (r := none) hx hb hK hP har (vp_in_iff.mpr (by decide)) (hn _ (by decide)) dX5_left_45 ?_
  refine lv_astoreN (lv' := [(6, .null), (5, .int 4), (4, .int 8), (3, .ref ar), (2, .int 1000), (0, .ref x), (1, .int p0)]) hx hb dX5_left_46 hl (by decide) rfl (fun ls hl => ?_)
  refine lv_aloadN hx hb dX5_left_48 (lv_at hl 0 rfl) ?_
  refine lv_ifnullN (tgt := 76) hx hb dX5_left_50 (by decide) ?_
  refine lv_iinc (v := 5) (lv' := [(5, .int 5), (6, .null), (4, .int 8), (3, .ref ar), (2, .int 1000), (0, .ref x), (1, .int p0)]) hx hb dX5_left_76 hl (k := 1) rfl (by decide) (by decide) rfl (fun ls hl => ?_)
  refine lv_goto (tgt := 35) hx hb dX5_left_79 (by decide) ?_
  refine lv_iload hx hb dX5_left_35 (lv_at hl 0 rfl) ?_
  refine lv_iload hx hb dX5_left_37 (lv_at hl 2 rfl) ?_
  refine lv_icmp_ge (tgt := 82) hx hb dX5_left_39 (by decide) (fun c_8 => absurd c_8 (by decide)) (fun _ => ?_)
  refine lv_aload_n hx hb dX5_left_42 rfl (lv_at hl 3 rfl) ?_
  refine lv_iload hx hb dX5_left_43 (lv_at hl 0 rfl) ?_
  refine kx_alds (r := none) hx hb hK hP har (vp_in_iff.mpr (by decide)) (hn _ (by decide)) dX5_left_45 ?_
  refine lv_astoreN (lv' := [(6, .null), (5, .int 5), (4, .int 8), (3, .ref ar), (2, .int 1000), (0, .ref x), (1, .int p0)]) hx hb dX5_left_46 hl (by decide) rfl (fun ls hl => ?_)
  refine lv_aloadN hx hb dX5_left_48 (lv_at hl 0 rfl) ?_
  refine lv_ifnullN (tgt := 76) hx hb dX5_left_50 (by decide) ?_
  refine lv_iinc (v := 6) (lv' := [(5, .int 6), (6, .null), (4, .int 8), (3, .ref ar), (2, .int 1000), (0, .ref x), (1, .int p0)]) hx hb dX5_left_76 hl (k := 1) rfl (by decide) (by decide) rfl (fun ls hl => ?_)
  refine lv_goto (tgt := 35) hx hb dX5_left_79 (by decide) ?_
  refine lv_iload hx hb dX5_left_35 (lv_at hl 0 rfl) ?_
  refine lv_iload hx hb dX5_left_37 (lv_at hl 2 rfl) ?_
  refine lv_icmp_ge (tgt := 82) hx hb dX5_left_39 (by decide) (fun c_9 => absurd c_9 (by decide)) (fun _ => ?_)
  refine lv_aload_n hx hb dX5_left_42 rfl (lv_at hl 3 rfl) ?_
  refine lv_iload hx hb dX5_left_43 (lv_at hl 0 rfl) ?_
  refine kx_alds (r := none) hx hb hK hP har (vp_in_iff.mpr (by decide)) (hn _ (by decide)) dX5_left_45 ?_
  refine lv_astoreN (lv' := [(6, .null), (5, .int 6), (4, .int 8), (3, .ref ar), (2, .int 1000), (0, .ref x), (1, .int p0)]) hx hb dX5_left_46 hl (by decide) rfl (fun ls hl => ?_)
  refine lv_aloadN hx hb dX5_left_48 (lv_at hl 0 rfl) ?_
  refine lv_ifnullN (tgt := 76) hx hb dX5_left_50 (by decide) ?_
  refine lv_iinc (v := 7) (lv' := [(5, .int 7), (6, .null), (4, .int 8), (3, .ref ar), (2, .int 1000), (0, .ref x), (1, .int p0)]) hx hb dX5_left_76 hl (k := 1) rfl (by decide) (by decide) rfl (fun ls hl => ?_)
  refine lv_goto (tgt := 35) hx hb dX5_left_79 (by decide) ?_
  refine lv_iload hx hb dX5_left_35 (lv_at hl 0 rfl) ?_
  refine lv_iload hx hb dX5_left_37 (lv_at hl 2 rfl) ?_
  refine lv_icmp_ge (tgt := 82) hx hb dX5_left_39 (by decide) (fun c_10 => absurd c_10 (by decide)) (fun _ => ?_)
  refine lv_aload_n hx hb dX5_left_42 rfl (lv_at hl 3 rfl) ?_
  refine lv_iload hx hb dX5_left_43 (lv_at hl 0 rfl) ?_
  refine kx_alds (r := none) hx hb hK hP har (vp_in_iff.mpr (by decide)) (hn _ (by decide)) dX5_left_45 ?_
  refine lv_astoreN (lv' := [(6, .null), (5, .int 7), (4, .int 8), (3, .ref ar), (2, .int 1000), (0, .ref x), (1, .int p0)]) hx hb dX5_left_46 hl (by decide) rfl (fun ls hl => ?_)
  refine lv_aloadN hx hb dX5_left_48 (lv_at hl 0 rfl) ?_
  refine lv_ifnullN (tgt := 76) hx hb dX5_left_50 (by decide) ?_
  refine lv_iinc (v := 8) (lv' := [(5, .int 8), (6, .null), (4, .int 8), (3, .ref ar), (2, .int 1000), (0, .ref x), (1, .int p0)]) hx hb dX5_left_76 hl (k := 1) rfl (by decide) (by decide) rfl (fun ls hl => ?_)
  refine lv_goto (tgt := 35) hx hb dX5_left_79 (by decide) ?_
  refine lv_iload hx hb dX5_left_35 (lv_at hl 0 rfl) ?_
  refine lv_iload hx hb dX5_left_37 (lv_at hl 2 rfl) ?_
  refine lv_icmp_ge (tgt := 82) hx hb dX5_left_39 (by decide) (fun _ => ?_) (fun c_11 => absurd (by decide) c_11)
  refine lv_iload_n hx hb dX5_left_82 rfl (lv_at hl 4 rfl) ?_
  exact W.iret (v := 1000) hx hb hr (fun t ht hW => ⟨⟨1000, S, rfl, ⟨rfl, rfl⟩, by rw [ht]; exact hP, va_K.moved hW.alike hK, hD⟩, hS.F ht⟩) hS.2.2 dX5_left_83

set_option maxRecDepth 100000 in
set_option maxHeartbeats 4000000 in
theorem c_act_t1 (l : Launch) (hst : l.stackTraces = false) (D : va_G) (cA : Nat → ClassId) (sz : Nat) (S : Pool) (x : Nat) (ho : isO S x 5) (p0 p1 : Int32) (h1 : kOut p0 0 9999 = 1) : vx_Met l yX5_act (Cond.code yX5_act cX5_act 8 (some .int) :: TT) ({ frames := 6, cells := 1, slots := 6, locals := 82 }) (va_Pc [.ref x, .int p0, .int p1] (kPreX D cA (PW cA S) sz)) kNo (kXC D cA (PW cA S) "java/lang/IllegalArgumentException" (va_A (PW cA S) sz)) 1 6 (va_A (PW cA S) sz) := by
  refine vx_ofW (cc := cX5_act) (maxL := 8) (ret := (some .int)) (by decide) rfl ?_
  intro p e s m args below meth c s₁ B hml hTab hv
  obtain ⟨rfl, ⟨hsz, hP, hK, hD0, hTB⟩, hTX⟩ := hv
  have hx := B.exec
  have hb := B.bytes
  have hr := B.returns
  have hts := atoms_spec (ws := Cond.code yX5_act cX5_act 8 (some .int) :: TT) B.pre
  have htT : ∀ w ∈ TT, w.before _ s = true := fun w h => hts w (List.mem_cons_of_mem _ h)
  have hown : s.vm.findClass RX5 = some m.cls := findClass_of_methodNamed B.named
  have hlocks := B.notSynchronized
  subst hsz
  have hD := hD0.self (sz := s.heap.size)
  generalize hAe : va_A (PW cA S) s.heap.size = A at hD hTX ⊢
  have hA : ∀ q : Nat, s.heap.size ≤ q → A q := fun q h => by rw [← hAe]; exact Or.inr h
  have hS : va_S A s.heap s.heap [] := va_S.rf
  have hl := lv_entry ([.ref x, .int p0, .int p1]) (n := 8) (Nat.le_of_ble_eq_true rfl)
  rw [lg_entry_eq]
  generalize (lg_sl ([.ref x, .int p0, .int p1]) ++ List.replicate (8 - (lg_sl ([.ref x, .int p0, .int p1])).length) Slot.unset).toArray = ls at hl ⊢
  have hl : lv_has ls 8 [(0, .ref x), (1, .int p0), (2, .int p1)] := hl
  refine lv_iload_n hx hb dX5_act_0 rfl (lv_at hl 1 rfl) ?_
  refine lv_iconst (v := 0) hx hb dX5_act_1 (by decide) ?_
  refine lv_sipush (v := 9999) hx hb dX5_act_2 (by decide) ?_
  refine kc_i (va_runS (As := [.int p0, .int 0, .int 9999]) (rest := []) ⟨hx, hb, hml, hown, htT⟩ (c_isOutside l D cA _ S p0 0 9999) (cwS 3 htT (kg_S m_ml_X5_22 m_st_X5_isOutside m_in_X5 m_cd_X5_isOutside) rfl rfl rfl (by decide +kernel) ⟨Nat.le_of_ble_eq_true rfl, Nat.le_of_ble_eq_true rfl⟩) (kp_S hK hP hD hTB) rfl rfl hl.1 rfl (lv_room (Nat.le_of_ble_eq_true rfl)) dX5_act_5 ⟨Nat.le_of_ble_eq_true rfl, Nat.le_of_ble_eq_true rfl⟩) hD hS hA (fun r_1 x_1 H locs hq_1 hP hD hS => ?_)
  rw [hq_1.1]
  rw [hq_1.2] at hP hD
  rw [h1]
  refine lv_if_ne (tgt := 21) hx hb dX5_act_8 (by decide) (fun _ => ?_) (fun c_2 => absurd (by decide) c_2)
  exact kt_new (text := "user or worth out of range") hx hb hst hown (Or.inl rfl) (htT _ m_cl_X5_26) (htT _ m_in_IllegalArgumentException) (by decide +kernel) (fun w h => htT w (at_IAE w h)) an_IAE (ag_IAE 26) hTB hTX hK hP hD hS (hl.1.trans hml.symm) dX5_act_21 dX5_act_24 dX5_act_25 dX5_act_27 dX5_act_30 hTab (Nat.le_of_ble_eq_true rfl) (Nat.le_of_ble_eq_true rfl) (Nat.le_of_ble_eq_true rfl) (Nat.le_of_ble_eq_true rfl) hlocks (Nat.le_of_ble_eq_true rfl) (Nat.le_of_ble_eq_true rfl)

set_option maxRecDepth 100000 in
set_option maxHeartbeats 4000000 in
theorem c_act_t2 (l : Launch) (hst : l.stackTraces = false) (D : va_G) (cA : Nat → ClassId) (sz : Nat) (S : Pool) (x : Nat) (ho : isO S x 5) (p0 p1 : Int32) (h1 : kOut p0 0 9999 = 0) (h2 : kOut p1 0 100 = 1) : vx_Met l yX5_act (Cond.code yX5_act cX5_act 8 (some .int) :: TT) ({ frames := 6, cells := 1, slots := 6, locals := 82 }) (va_Pc [.ref x, .int p0, .int p1] (kPreX D cA (PW cA S) sz)) kNo (kXC D cA (PW cA S) "java/lang/IllegalArgumentException" (va_A (PW cA S) sz)) 1 6 (va_A (PW cA S) sz) := by
  refine vx_ofW (cc := cX5_act) (maxL := 8) (ret := (some .int)) (by decide) rfl ?_
  intro p e s m args below meth c s₁ B hml hTab hv
  obtain ⟨rfl, ⟨hsz, hP, hK, hD0, hTB⟩, hTX⟩ := hv
  have hx := B.exec
  have hb := B.bytes
  have hr := B.returns
  have hts := atoms_spec (ws := Cond.code yX5_act cX5_act 8 (some .int) :: TT) B.pre
  have htT : ∀ w ∈ TT, w.before _ s = true := fun w h => hts w (List.mem_cons_of_mem _ h)
  have hown : s.vm.findClass RX5 = some m.cls := findClass_of_methodNamed B.named
  have hlocks := B.notSynchronized
  subst hsz
  have hD := hD0.self (sz := s.heap.size)
  generalize hAe : va_A (PW cA S) s.heap.size = A at hD hTX ⊢
  have hA : ∀ q : Nat, s.heap.size ≤ q → A q := fun q h => by rw [← hAe]; exact Or.inr h
  have hS : va_S A s.heap s.heap [] := va_S.rf
  have hl := lv_entry ([.ref x, .int p0, .int p1]) (n := 8) (Nat.le_of_ble_eq_true rfl)
  rw [lg_entry_eq]
  generalize (lg_sl ([.ref x, .int p0, .int p1]) ++ List.replicate (8 - (lg_sl ([.ref x, .int p0, .int p1])).length) Slot.unset).toArray = ls at hl ⊢
  have hl : lv_has ls 8 [(0, .ref x), (1, .int p0), (2, .int p1)] := hl
  refine lv_iload_n hx hb dX5_act_0 rfl (lv_at hl 1 rfl) ?_
  refine lv_iconst (v := 0) hx hb dX5_act_1 (by decide) ?_
  refine lv_sipush (v := 9999) hx hb dX5_act_2 (by decide) ?_
  refine kc_i (va_runS (As := [.int p0, .int 0, .int 9999]) (rest := []) ⟨hx, hb, hml, hown, htT⟩ (c_isOutside l D cA _ S p0 0 9999) (cwS 3 htT (kg_S m_ml_X5_22 m_st_X5_isOutside m_in_X5 m_cd_X5_isOutside) rfl rfl rfl (by decide +kernel) ⟨Nat.le_of_ble_eq_true rfl, Nat.le_of_ble_eq_true rfl⟩) (kp_S hK hP hD hTB) rfl rfl hl.1 rfl (lv_room (Nat.le_of_ble_eq_true rfl)) dX5_act_5 ⟨Nat.le_of_ble_eq_true rfl, Nat.le_of_ble_eq_true rfl⟩) hD hS hA (fun r_1 x_1 H locs hq_1 hP hD hS => ?_)
  rw [hq_1.1]
  rw [hq_1.2] at hP hD
  rw [h1]
  refine lv_if_ne (tgt := 21) hx hb dX5_act_8 (by decide) (fun c_2 => absurd c_2 (by decide)) (fun _ => ?_)
  refine lv_iload_n hx hb dX5_act_11 rfl (lv_at hl 2 rfl) ?_
  refine lv_iconst (v := 0) hx hb dX5_act_12 (by decide) ?_
  refine lv_bipush (v := 100) hx hb dX5_act_13 (by decide) ?_
  refine kc_i (va_runS (As := [.int p1, .int 0, .int 100]) (rest := []) ⟨hx, hb, hml, hown, htT⟩ (c_isOutside l D cA _ S p1 0 100) (cwS 3 htT (kg_S m_ml_X5_22 m_st_X5_isOutside m_in_X5 m_cd_X5_isOutside) rfl rfl rfl (by decide +kernel) ⟨Nat.le_of_ble_eq_true rfl, Nat.le_of_ble_eq_true rfl⟩) (kp_S hK hP hD hTB) rfl rfl hl.1 rfl (lv_room (Nat.le_of_ble_eq_true rfl)) dX5_act_15 ⟨Nat.le_of_ble_eq_true rfl, Nat.le_of_ble_eq_true rfl⟩) hD hS hA (fun r_3 x_3 H locs hq_3 hP hD hS => ?_)
  rw [hq_3.1]
  rw [hq_3.2] at hP hD
  rw [h2]
  refine lv_if_eq (tgt := 31) hx hb dX5_act_18 (by decide) (fun c_4 => absurd c_4 (by decide)) (fun _ => ?_)
  exact kt_new (text := "user or worth out of range") hx hb hst hown (Or.inl rfl) (htT _ m_cl_X5_26) (htT _ m_in_IllegalArgumentException) (by decide +kernel) (fun w h => htT w (at_IAE w h)) an_IAE (ag_IAE 26) hTB hTX hK hP hD hS (hl.1.trans hml.symm) dX5_act_21 dX5_act_24 dX5_act_25 dX5_act_27 dX5_act_30 hTab (Nat.le_of_ble_eq_true rfl) (Nat.le_of_ble_eq_true rfl) (Nat.le_of_ble_eq_true rfl) (Nat.le_of_ble_eq_true rfl) hlocks (Nat.le_of_ble_eq_true rfl) (Nat.le_of_ble_eq_true rfl)

set_option maxRecDepth 100000 in
set_option maxHeartbeats 4000000 in
theorem c_act_0 (l : Launch) (D : va_G) (cA : Nat → ClassId) (sz : Nat) (S : Pool) (x : Nat) (ho : isO S x 5) (ar : Nat) (hq0 : gQ S x 0 = some ar) (har : isA S ar 22 8) (hn : ∀ j, j < 8 → gP S ar j = none) (p0 p1 : Int32) (h1 : kOut p0 0 9999 = 0) (h2 : kOut p1 0 100 = 0) : Met l yX5_act (Cond.code yX5_act cX5_act 8 (some .int) :: TT) ({ frames := 1, cells := 0, slots := 0, locals := 22 }) (va_Pc [.ref x, .int p0, .int p1] (kPre D cA (PW cA S) sz)) (va_Qi (fun (r_ : Int32) (x_ : Pool) => r_ = 0 ∧ x_ = S) (fun x_ => kB D cA (va_A (PW cA S) sz) (PW cA x_)) (va_A (PW cA S) sz)) 0 0 (va_A (PW cA S) sz) := by
  refine Met.ofW (cc := cX5_act) (maxL := 8) (ret := (some .int)) (by decide) rfl ?_
  intro p e s m args below meth c s₁ B hml hv
  obtain ⟨rfl, hsz, hP, hK, hD0, hTB⟩ := hv
  have hx := B.exec
  have hb := B.bytes
  have hr := B.returns
  have hts := atoms_spec (ws := Cond.code yX5_act cX5_act 8 (some .int) :: TT) B.pre
  have htT : ∀ w ∈ TT, w.before _ s = true := fun w h => hts w (List.mem_cons_of_mem _ h)
  have hown : s.vm.findClass RX5 = some m.cls := findClass_of_methodNamed B.named
  have hlocks := B.notSynchronized
  subst hsz
  have hD := hD0.self (sz := s.heap.size)
  generalize hAe : va_A (PW cA S) s.heap.size = A at hD ⊢
  have hA : ∀ q : Nat, s.heap.size ≤ q → A q := fun q h => by rw [← hAe]; exact Or.inr h
  have hS : va_S A s.heap s.heap [] := va_S.rf
  have hl := lv_entry ([.ref x, .int p0, .int p1]) (n := 8) (Nat.le_of_ble_eq_true rfl)
  rw [lg_entry_eq]
  generalize (lg_sl ([.ref x, .int p0, .int p1]) ++ List.replicate (8 - (lg_sl ([.ref x, .int p0, .int p1])).length) Slot.unset).toArray = ls at hl ⊢
  have hl : lv_has ls 8 [(0, .ref x), (1, .int p0), (2, .int p1)] := hl
  refine lv_iload_n hx hb dX5_act_0 rfl (lv_at hl 1 rfl) ?_
  refine lv_iconst (v := 0) hx hb dX5_act_1 (by decide) ?_
  refine lv_sipush (v := 9999) hx hb dX5_act_2 (by decide) ?_
  refine kc_i (va_runS (As := [.int p0, .int 0, .int 9999]) (rest := []) ⟨hx, hb, hml, hown, htT⟩ (c_isOutside l D cA _ S p0 0 9999) (cwS 3 htT (kg_S m_ml_X5_22 m_st_X5_isOutside m_in_X5 m_cd_X5_isOutside) rfl rfl rfl (by decide +kernel) ⟨Nat.le_of_ble_eq_true rfl, Nat.le_of_ble_eq_true rfl⟩) (kp_S hK hP hD hTB) rfl rfl hl.1 rfl (lv_room (Nat.le_of_ble_eq_true rfl)) dX5_act_5 ⟨Nat.le_of_ble_eq_true rfl, Nat.le_of_ble_eq_true rfl⟩) hD hS hA (fun r_1 x_1 H locs hq_1 hP hD hS => ?_)
  rw [hq_1.1]
  rw [hq_1.2] at hP hD
  rw [h1]
  refine lv_if_ne (tgt := 21) hx hb dX5_act_8 (by decide) (fun c_2 => absurd c_2 (by decide)) (fun _ => ?_)
  refine lv_iload_n hx hb dX5_act_11 rfl (lv_at hl 2 rfl) ?_
  refine lv_iconst (v := 0) hx hb dX5_act_12 (by decide) ?_
  refine lv_bipush (v := 100) hx hb dX5_act_13 (by decide) ?_
  refine kc_i (va_runS (As := [.int p1, .int 0, .int 100]) (rest := []) ⟨hx, hb, hml, hown, htT⟩ (c_isOutside l D cA _ S p1 0 100) (cwS 3 htT (kg_S m_ml_X5_22 m_st_X5_isOutside m_in_X5 m_cd_X5_isOutside) rfl rfl rfl (by decide +kernel) ⟨Nat.le_of_ble_eq_true rfl, Nat.le_of_ble_eq_true rfl⟩) (kp_S hK hP hD hTB) rfl rfl hl.1 rfl (lv_room (Nat.le_of_ble_eq_true rfl)) dX5_act_15 ⟨Nat.le_of_ble_eq_true rfl, Nat.le_of_ble_eq_true rfl⟩) hD hS hA (fun r_3 x_3 H locs hq_3 hP hD hS => ?_)
  rw [hq_3.1]
  rw [hq_3.2] at hP hD
  rw [h2]
  refine lv_if_eq (tgt := 31) hx hb dX5_act_18 (by decide) (fun _ => ?_) (fun c_4 => absurd (by decide) c_4)
  refine lv_iconst (v := 0) hx hb dX5_act_31 (by decide) ?_
  refine lv_istore_n (lv' := [(3, .int 0), (0, .ref x), (1, .int p0), (2, .int p1)]) hx hb dX5_act_32 rfl hl (by decide) rfl (fun ls hl => ?_)
  refine lv_aload_n hx hb dX5_act_33 rfl (lv_at hl 1 rfl) ?_
  refine kx_gets hx hb htT m_u_X5 hown hK hP ho (Nat.le_of_ble_eq_true rfl) rfl 0 (by decide) (by decide) rfl hq0 (htT _ m_fl_X5_11) dX5_act_34 ?_
  refine lv_astore (lv' := [(4, .ref ar), (3, .int 0), (0, .ref x), (1, .int p0), (2, .int p1)]) hx hb dX5_act_37 hl (by decide) rfl (fun ls hl => ?_)
  refine lv_aload hx hb dX5_act_39 (lv_at hl 0 rfl) ?_
  refine kx_alen (v := 8) hx hb hK hP har (Nat.le_of_ble_eq_true rfl) (Nat.le_of_ble_eq_true rfl) rfl dX5_act_41 ?_
  refine lv_istore (lv' := [(5, .int 8), (4, .ref ar), (3, .int 0), (0, .ref x), (1, .int p0), (2, .int p1)]) hx hb dX5_act_42 hl (by decide) rfl (fun ls hl => ?_)
  refine lv_iconst (v := 0) hx hb dX5_act_44 (by decide) ?_
  refine lv_istore (lv' := [(6, .int 0), (5, .int 8), (4, .ref ar), (3, .int 0), (0, .ref x), (1, .int p0), (2, .int p1)]) hx hb dX5_act_45 hl (by decide) rfl (fun ls hl => ?_)
  refine lv_iload hx hb dX5_act_47 (lv_at hl 0 rfl) ?_
  refine lv_iload hx hb dX5_act_49 (lv_at hl 1 rfl) ?_
  refine lv_icmp_ge (tgt := 85) hx hb dX5_act_51 (by decide) (fun c_5 => absurd c_5 (by decide)) (fun _ => ?_)
  refine lv_aload hx hb dX5_act_54 (lv_at hl 2 rfl) ?_
  refine lv_iload hx hb dX5_act_56 (lv_at hl 0 rfl) ?_
  refine kx_alds (r := none) hx hb hK hP har (vp_in_iff.mpr (by decide)) (hn _ (by decide)) dX5_act_58 ?_
  refine lv_astoreN (lv' := [(7, .null), (6, .int 0), (5, .int 8), (4, .ref ar), (3, .int 0), (0, .ref x), (1, .int p0), (2, .int p1)]) hx hb dX5_act_59 hl (by decide) rfl (fun ls hl => ?_)
  refine lv_aloadN hx hb dX5_act_61 (lv_at hl 0 rfl) ?_
  refine lv_ifnullN (tgt := 79) hx hb dX5_act_63 (by decide) ?_
  refine lv_iinc (v := 1) (lv' := [(6, .int 1), (7, .null), (5, .int 8), (4, .ref ar), (3, .int 0), (0, .ref x), (1, .int p0), (2, .int p1)]) hx hb dX5_act_79 hl (k := 1) rfl (by decide) (by decide) rfl (fun ls hl => ?_)
  refine lv_goto (tgt := 47) hx hb dX5_act_82 (by decide) ?_
  refine lv_iload hx hb dX5_act_47 (lv_at hl 0 rfl) ?_
  refine lv_iload hx hb dX5_act_49 (lv_at hl 2 rfl) ?_
  refine lv_icmp_ge (tgt := 85) hx hb dX5_act_51 (by decide) (fun c_6 => absurd c_6 (by decide)) (fun _ => ?_)
  refine lv_aload hx hb dX5_act_54 (lv_at hl 3 rfl) ?_
  refine lv_iload hx hb dX5_act_56 (lv_at hl 0 rfl) ?_
  refine kx_alds (r := none) hx hb hK hP har (vp_in_iff.mpr (by decide)) (hn _ (by decide)) dX5_act_58 ?_
  refine lv_astoreN (lv' := [(7, .null), (6, .int 1), (5, .int 8), (4, .ref ar), (3, .int 0), (0, .ref x), (1, .int p0), (2, .int p1)]) hx hb dX5_act_59 hl (by decide) rfl (fun ls hl => ?_)
  refine lv_aloadN hx hb dX5_act_61 (lv_at hl 0 rfl) ?_
  refine lv_ifnullN (tgt := 79) hx hb dX5_act_63 (by decide) ?_
  refine lv_iinc (v := 2) (lv' := [(6, .int 2), (7, .null), (5, .int 8), (4, .ref ar), (3, .int 0), (0, .ref x), (1, .int p0), (2, .int p1)]) hx hb dX5_act_79 hl (k := 1) rfl (by decide) (by decide) rfl (fun ls hl => ?_)
  refine lv_goto (tgt := 47) hx hb dX5_act_82 (by decide) ?_
  refine lv_iload hx hb dX5_act_47 (lv_at hl 0 rfl) ?_
  refine lv_iload hx hb dX5_act_49 (lv_at hl 2 rfl) ?_
  refine lv_icmp_ge (tgt := 85) hx hb dX5_act_51 (by decide) (fun c_7 => absurd c_7 (by decide)) (fun _ => ?_)
  refine lv_aload hx hb dX5_act_54 (lv_at hl 3 rfl) ?_
  refine lv_iload hx hb dX5_act_56 (lv_at hl 0 rfl) ?_
  refine kx_alds (r := none) hx hb hK hP har (vp_in_iff.mpr (by decide)) (hn _ (by decide)) dX5_act_58 ?_
  refine lv_astoreN (lv' := [(7, .null), (6, .int 2), (5, .int 8), (4, .ref ar), (3, .int 0), (0, .ref x), (1, .int p0), (2, .int p1)]) hx hb dX5_act_59 hl (by decide) rfl (fun ls hl => ?_)
  refine lv_aloadN hx hb dX5_act_61 (lv_at hl 0 rfl) ?_
  refine lv_ifnullN (tgt := 79) hx hb dX5_act_63 (by decide) ?_
  refine lv_iinc (v := 3) (lv' := [(6, .int 3), (7, .null), (5, .int 8), (4, .ref ar), (3, .int 0), (0, .ref x), (1, .int p0), (2, .int p1)]) hx hb dX5_act_79 hl (k := 1) rfl (by decide) (by decide) rfl (fun ls hl => ?_)
  refine lv_goto (tgt := 47) hx hb dX5_act_82 (by decide) ?_
  refine lv_iload hx hb dX5_act_47 (lv_at hl 0 rfl) ?_
  refine lv_iload hx hb dX5_act_49 (lv_at hl 2 rfl) ?_
  refine lv_icmp_ge (tgt := 85) hx hb dX5_act_51 (by decide) (fun c_8 => absurd c_8 (by decide)) (fun _ => ?_)
  refine lv_aload hx hb dX5_act_54 (lv_at hl 3 rfl) ?_
  refine lv_iload hx hb dX5_act_56 (lv_at hl 0 rfl) ?_
  refine kx_alds (r := none) hx hb hK hP har (vp_in_iff.mpr (by decide)) (hn _ (by decide)) dX5_act_58 ?_
  refine lv_astoreN (lv' := [(7, .null), (6, .int 3), (5, .int 8), (4, .ref ar), (3, .int 0), (0, .ref x), (1, .int p0), (2, .int p1)]) hx hb dX5_act_59 hl (by decide) rfl (fun ls hl => ?_)
  refine lv_aloadN hx hb dX5_act_61 (lv_at hl 0 rfl) ?_
  refine lv_ifnullN (tgt := 79) hx hb dX5_act_63 (by decide) ?_
  refine lv_iinc (v := 4) (lv' := [(6, .int 4), (7, .null), (5, .int 8), (4, .ref ar), (3, .int 0), (0, .ref x), (1, .int p0), (2, .int p1)]) hx hb dX5_act_79 hl (k := 1) rfl (by decide) (by decide) rfl (fun ls hl => ?_)
  refine lv_goto (tgt := 47) hx hb dX5_act_82 (by decide) ?_
  refine lv_iload hx hb dX5_act_47 (lv_at hl 0 rfl) ?_
  refine lv_iload hx hb dX5_act_49 (lv_at hl 2 rfl) ?_
  refine lv_icmp_ge (tgt := 85) hx hb dX5_act_51 (by decide) (fun c_9 => absurd c_9 (by decide)) (fun _ => ?_)
  refine lv_aload hx hb dX5_act_54 (lv_at hl 3 rfl) ?_
  refine lv_iload hx hb dX5_act_56 (lv_at hl 0 rfl) ?_
  refine kx_alds (r := none) hx hb hK hP har (vp_in_iff.mpr (by decide)) (hn _ (by decide)) dX5_act_58 ?_
  refine lv_astoreN (lv' := [(7, .null), (6, .int 4), (5, .int 8), (4, .ref ar), (3, .int 0), (0, .ref x), (1, .int p0), (2, .int p1)]) hx hb dX5_act_59 hl (by decide) rfl (fun ls hl => ?_)
  refine lv_aloadN hx hb dX5_act_61 (lv_at hl 0 rfl) ?_
  refine lv_ifnullN (tgt := 79) hx hb dX5_act_63 (by decide) ?_
  refine lv_iinc (v := 5) (lv' := [(6, .int 5), (7, .null), (5, .int 8), (4, .ref ar), (3, .int 0), (0, .ref x), (1, .int p0), (2, .int p1)]) hx hb dX5_act_79 hl (k := 1) rfl (by decide) (by decide) rfl (fun ls hl => ?_)
  refine lv_goto (tgt := 47) hx hb dX5_act_82 (by decide) ?_
  refine lv_iload hx hb dX5_act_47 (lv_at hl 0 rfl) ?_
  refine lv_iload hx hb dX5_act_49 (lv_at hl 2 rfl) ?_
  refine lv_icmp_ge (tgt := 85) hx hb dX5_act_51 (by decide) (fun c_10 => absurd c_10 (by decide)) (fun _ => ?_)
  refine lv_aload hx hb dX5_act_54 (lv_at hl 3 rfl) ?_
  refine lv_iload hx hb dX5_act_56 (lv_at hl 0 rfl) ?_
  refine kx_alds (r := none) hx hb hK hP har (vp_in_iff.mpr (by decide)) (hn _ (by decide)) dX5_act_58 ?_
  refine lv_astoreN (lv' := [(7, .null), (6, .int 5), (5, .int 8), (4, .ref ar), (3, .int 0), (0, .ref x), (1, .int p0), (2, .int p1)]) hx hb dX5_act_59 hl (by decide) rfl (fun ls hl => ?_)
  refine lv_aloadN hx hb dX5_act_61 (lv_at hl 0 rfl) ?_
  refine lv_ifnullN (tgt := 79) hx hb dX5_act_63 (by decide) ?_
  refine lv_iinc (v := 6) (lv' := [(6, .int 6), (7, .null), (5, .int 8), (4, .ref ar), (3, .int 0), (0, .ref x), (1, .int p0), (2, .int p1)]) hx hb dX5_act_79 hl (k := 1) rfl (by decide) (by decide) rfl (fun ls hl => ?_)
  refine lv_goto (tgt := 47) hx hb dX5_act_82 (by decide) ?_
  refine lv_iload hx hb dX5_act_47 (lv_at hl 0 rfl) ?_
  refine lv_iload hx hb dX5_act_49 (lv_at hl 2 rfl) ?_
  refine lv_icmp_ge (tgt := 85) hx hb dX5_act_51 (by decide) (fun c_11 => absurd c_11 (by decide)) (fun _ => ?_)
  refine lv_aload hx hb dX5_act_54 (lv_at hl 3 rfl) ?_
  refine lv_iload hx hb dX5_act_56 (lv_at hl 0 rfl) ?_
  refine kx_alds (r := none) hx hb hK hP har (vp_in_iff.mpr (by decide)) (hn _ (by decide)) dX5_act_58 ?_
  refine lv_astoreN (lv' := [(7, .null), (6, .int 6), (5, .int 8), (4, .ref ar), (3, .int 0), (0, .ref x), (1, .int p0), (2, .int p1)]) hx hb dX5_act_59 hl (by decide) rfl (fun ls hl => ?_)
  refine lv_aloadN hx hb dX5_act_61 (lv_at hl 0 rfl) ?_
  refine lv_ifnullN (tgt := 79) hx hb dX5_act_63 (by decide) ?_
  refine lv_iinc (v := 7) (lv' := [(6, .int 7), (7, .null), (5, .int 8), (4, .ref ar), (3, .int 0), (0, .ref x), (1, .int p0), (2, .int p1)]) hx hb dX5_act_79 hl (k := 1) rfl (by decide) (by decide) rfl (fun ls hl => ?_)
  refine lv_goto (tgt := 47) hx hb dX5_act_82 (by decide) ?_
  refine lv_iload hx hb dX5_act_47 (lv_at hl 0 rfl) ?_
  refine lv_iload hx hb dX5_act_49 (lv_at hl 2 rfl) ?_
  refine lv_icmp_ge (tgt := 85) hx hb dX5_act_51 (by decide) (fun c_12 => absurd c_12 (by decide)) (fun _ => ?_)
  refine lv_aload hx hb dX5_act_54 (lv_at hl 3 rfl) ?_
  refine lv_iload hx hb dX5_act_56 (lv_at hl 0 rfl) ?_
  refine kx_alds (r := none) hx hb hK hP har (vp_in_iff.mpr (by decide)) (hn _ (by decide)) dX5_act_58 ?_
  refine lv_astoreN (lv' := [(7, .null), (6, .int 7), (5, .int 8), (4, .ref ar), (3, .int 0), (0, .ref x), (1, .int p0), (2, .int p1)]) hx hb dX5_act_59 hl (by decide) rfl (fun ls hl => ?_)
  refine lv_aloadN hx hb dX5_act_61 (lv_at hl 0 rfl) ?_
  refine lv_ifnullN (tgt := 79) hx hb dX5_act_63 (by decide) ?_
  refine lv_iinc (v := 8) (lv' := [(6, .int 8), (7, .null), (5, .int 8), (4, .ref ar), (3, .int 0), (0, .ref x), (1, .int p0), (2, .int p1)]) hx hb dX5_act_79 hl (k := 1) rfl (by decide) (by decide) rfl (fun ls hl => ?_)
  refine lv_goto (tgt := 47) hx hb dX5_act_82 (by decide) ?_
  refine lv_iload hx hb dX5_act_47 (lv_at hl 0 rfl) ?_
  refine lv_iload hx hb dX5_act_49 (lv_at hl 2 rfl) ?_
  refine lv_icmp_ge (tgt := 85) hx hb dX5_act_51 (by decide) (fun _ => ?_) (fun c_13 => absurd (by decide) c_13)
  refine lv_iload_n hx hb dX5_act_85 rfl (lv_at hl 4 rfl) ?_
  exact W.iret (v := 0) hx hb hr (fun t ht hW => ⟨⟨0, S, rfl, ⟨rfl, rfl⟩, by rw [ht]; exact hP, va_K.moved hW.alike hK, hD⟩, hS.F ht⟩) hS.2.2 dX5_act_86
end
