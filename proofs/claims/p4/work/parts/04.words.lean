/-- the words of the tables that hold wherever a method begins -/
def TT : List Cond := lw_tbl.filter goodWord
theorem tt_m {w : Cond} (i : Nat) (h : lw_tbl[i]? = some w) (hg : goodWord w = true) : w ∈ TT := List.mem_filter.mpr ⟨List.mem_of_getElem? h, hg⟩
theorem tt_good {w : Cond} (h : w ∈ TT) : (w.onTables && w.keeps) = true ∨ ∃ ty, w = .arrayClass ty := good_of_word (List.mem_filter.mp h).2
theorem tt_in {w : Cond} (h : w ∈ TT) : w ∈ lw_tbl := (List.mem_filter.mp h).1
theorem tt_l {ws : List Cond} (ps : List Nat) (h : ws = ps.filterMap (fun i => lw_tbl[i]?)) (hg : ws.all goodWord = true) : ∀ w ∈ ws, w ∈ TT := fun w hw => by
  have h1 := List.all_eq_true.mp hg w hw
  rw [h] at hw
  obtain ⟨i, -, hi⟩ := List.mem_filterMap.mp hw
  exact tt_m i hi h1
theorem tt_m0 {w : Cond} (i : Nat) (h : (k2_sels lw_privs)[i]? = some w) (hg : goodWord w = true) : w ∈ TT := List.mem_filter.mpr ⟨List.mem_append_left _ (List.mem_of_getElem? h), hg⟩
theorem tt_m1 {w : Cond} (i : Nat) (h : tables_1_1[i]? = some w) (hg : goodWord w = true) : w ∈ TT := List.mem_filter.mpr ⟨List.mem_append_right _ (show w ∈ tables_1 from List.mem_append_left _ (List.mem_of_getElem? h)), hg⟩
theorem tt_m2 {w : Cond} (i : Nat) (h : tables_1_2[i]? = some w) (hg : goodWord w = true) : w ∈ TT := List.mem_filter.mpr ⟨List.mem_append_right _ (show w ∈ tables_1 from List.mem_append_right _ (List.mem_append_left _ (List.mem_of_getElem? h))), hg⟩
theorem tt_m3 {w : Cond} (i : Nat) (h : tables_1_3[i]? = some w) (hg : goodWord w = true) : w ∈ TT := List.mem_filter.mpr ⟨List.mem_append_right _ (show w ∈ tables_1 from List.mem_append_right _ (List.mem_append_right _ (List.mem_append_left _ (List.mem_of_getElem? h)))), hg⟩
theorem tt_m4 {w : Cond} (i : Nat) (h : tables_1_4[i]? = some w) (hg : goodWord w = true) : w ∈ TT := List.mem_filter.mpr ⟨List.mem_append_right _ (show w ∈ tables_1 from List.mem_append_right _ (List.mem_append_right _ (List.mem_append_right _ (List.mem_append_left _ (List.mem_of_getElem? h))))), hg⟩
theorem tt_m5 {w : Cond} (i : Nat) (h : tables_1_5[i]? = some w) (hg : goodWord w = true) : w ∈ TT := List.mem_filter.mpr ⟨List.mem_append_right _ (show w ∈ tables_1 from List.mem_append_right _ (List.mem_append_right _ (List.mem_append_right _ (List.mem_append_right _ (List.mem_of_getElem? h))))), hg⟩
theorem mG_1_0 : ([(0, Cond.initialized RL), (1, Cond.initialized RX5), (2, Cond.initialized RX1), (3, Cond.initialized RX6), (4, Cond.initialized "java/lang/Throwable"), (5, Cond.initialized "java/lang/Exception"), (6, Cond.initialized "java/lang/RuntimeException"), (7, Cond.initialized "java/lang/IllegalArgumentException"), (8, Cond.initialized "java/lang/IllegalStateException"), (9, Cond.initialized RX3), (10, Cond.initialized RX4), (11, Cond.initialized "java/lang/IndexOutOfBoundsException"), (12, Cond.initialized "java/lang/Math"), (13, Cond.initialized RX2), (14, Cond.initialized "java/lang/System"), (15, Cond.initialized RX0), (16, Cond.classLink RL 8 RX5), (17, Cond.instantiable RX5 6), (18, Cond.methodLink RL 120 yX5_init), (19, Cond.instanceMethod yX5_init), (20, Cond.code yX5_init cX5_init 1 none), (21, Cond.methodLink RX5 1 ⟨"java/lang/Object", "<init>", "()V"⟩), (22, Cond.instanceMethod objectInit), (24, Cond.classLink RX5 9 RX3), (26, Cond.classLink RX5 15 RX1), (27, Cond.instantiable RX1 6), (29, Cond.instanceMethod yX1_init), (30, Cond.code yX1_init cX1_init 1 none), (31, Cond.methodLink RX1 3 ⟨"java/lang/Object", "<init>", "()V"⟩), (32, Cond.fieldLink RX1 18 "DaybreakFlags$Asker" "user" "I"), (34, Cond.fieldLink RX1 21 "DaybreakFlags$Asker" "first" "I"), (36, Cond.fieldLink RX1 24 "DaybreakFlags$Asker" "second" "I"), (38, Cond.fieldLink RX1 9 "DaybreakFlags$Asker" "turned" "I"), (39, Cond.fieldLink RX1 15 "DaybreakFlags$Asker" "ramped" "I"), (40, Cond.fieldLink RX1 31 "DaybreakFlags$Asker" "rampedTo" "I"), (54, Cond.fieldLink RX5 11 "DaybreakFlags" "row" "[LDaybreakFlags$Switch;"), (55, Cond.fieldLink RX5 18 "DaybreakFlags" "asker" "LDaybreakFlags$Asker;"), (56, Cond.fieldLink RX5 33 "DaybreakFlags" "switchCount" "I"), (57, Cond.fieldLink RX5 165 "DaybreakFlags" "armCount" "I"), (58, Cond.fieldLink RX5 132 "DaybreakFlags" "holdout" "I"), (59, Cond.fieldLink RX5 69 "DaybreakFlags" "clock" "I"), (73, Cond.methodLink RL 167 yX5_switches), (74, Cond.instanceMethod yX5_switches), (75, Cond.selects RX5 yX5_switches yX5_switches), (76, Cond.code yX5_switches cX5_switches 1 (some .int)), (77, Cond.methodLink RL 201 yX5_arms), (78, Cond.instanceMethod yX5_arms), (79, Cond.selects RX5 yX5_arms yX5_arms), (80, Cond.code yX5_arms cX5_arms 1 (some .int)), (81, Cond.methodLink RL 242 yX5_digest), (82, Cond.instanceMethod yX5_digest), (83, Cond.selects RX5 yX5_digest yX5_digest), (84, Cond.code yX5_digest cX5_digest 5 (some .long)), (85, Cond.constantLong RX5 244 (2687)), (86, Cond.methodLink RX5 246 yX5_switches), (87, Cond.methodLink RX5 249 yX5_withNext), (88, Cond.static yX5_withNext), (89, Cond.code yX5_withNext cX5_withNext 4 (some .long)), (90, Cond.constantLong RX5 299 (31)), (91, Cond.methodLink RX5 253 yX5_arms)] : List (Nat × Cond)).all (fun q => decide (tables_1_1[q.1]? = some q.2) && goodWord q.2) = true := by decide +kernel
theorem m_in_L : Cond.initialized RL ∈ TT := by
  have h := Bool.and_eq_true_iff.mp (List.all_eq_true.mp mG_1_0 (0, Cond.initialized RL) (List.mem_of_getElem? (i := 0) rfl))
  exact tt_m1 0 (of_decide_eq_true h.1) h.2
theorem m_in_X5 : Cond.initialized RX5 ∈ TT := by
  have h := Bool.and_eq_true_iff.mp (List.all_eq_true.mp mG_1_0 (1, Cond.initialized RX5) (List.mem_of_getElem? (i := 1) rfl))
  exact tt_m1 1 (of_decide_eq_true h.1) h.2
theorem m_in_X1 : Cond.initialized RX1 ∈ TT := by
  have h := Bool.and_eq_true_iff.mp (List.all_eq_true.mp mG_1_0 (2, Cond.initialized RX1) (List.mem_of_getElem? (i := 2) rfl))
  exact tt_m1 2 (of_decide_eq_true h.1) h.2
theorem m_in_X6 : Cond.initialized RX6 ∈ TT := by
  have h := Bool.and_eq_true_iff.mp (List.all_eq_true.mp mG_1_0 (3, Cond.initialized RX6) (List.mem_of_getElem? (i := 3) rfl))
  exact tt_m1 3 (of_decide_eq_true h.1) h.2
theorem m_in_Throwable : Cond.initialized "java/lang/Throwable" ∈ TT := by
  have h := Bool.and_eq_true_iff.mp (List.all_eq_true.mp mG_1_0 (4, Cond.initialized "java/lang/Throwable") (List.mem_of_getElem? (i := 4) rfl))
  exact tt_m1 4 (of_decide_eq_true h.1) h.2
theorem m_in_Exception : Cond.initialized "java/lang/Exception" ∈ TT := by
  have h := Bool.and_eq_true_iff.mp (List.all_eq_true.mp mG_1_0 (5, Cond.initialized "java/lang/Exception") (List.mem_of_getElem? (i := 5) rfl))
  exact tt_m1 5 (of_decide_eq_true h.1) h.2
theorem m_in_RuntimeException : Cond.initialized "java/lang/RuntimeException" ∈ TT := by
  have h := Bool.and_eq_true_iff.mp (List.all_eq_true.mp mG_1_0 (6, Cond.initialized "java/lang/RuntimeException") (List.mem_of_getElem? (i := 6) rfl))
  exact tt_m1 6 (of_decide_eq_true h.1) h.2
theorem m_in_IllegalArgumentException : Cond.initialized "java/lang/IllegalArgumentException" ∈ TT := by
  have h := Bool.and_eq_true_iff.mp (List.all_eq_true.mp mG_1_0 (7, Cond.initialized "java/lang/IllegalArgumentException") (List.mem_of_getElem? (i := 7) rfl))
  exact tt_m1 7 (of_decide_eq_true h.1) h.2
theorem m_in_IllegalStateException : Cond.initialized "java/lang/IllegalStateException" ∈ TT := by
  have h := Bool.and_eq_true_iff.mp (List.all_eq_true.mp mG_1_0 (8, Cond.initialized "java/lang/IllegalStateException") (List.mem_of_getElem? (i := 8) rfl))
  exact tt_m1 8 (of_decide_eq_true h.1) h.2
theorem m_in_X3 : Cond.initialized RX3 ∈ TT := by
  have h := Bool.and_eq_true_iff.mp (List.all_eq_true.mp mG_1_0 (9, Cond.initialized RX3) (List.mem_of_getElem? (i := 9) rfl))
  exact tt_m1 9 (of_decide_eq_true h.1) h.2
theorem m_in_X4 : Cond.initialized RX4 ∈ TT := by
  have h := Bool.and_eq_true_iff.mp (List.all_eq_true.mp mG_1_0 (10, Cond.initialized RX4) (List.mem_of_getElem? (i := 10) rfl))
  exact tt_m1 10 (of_decide_eq_true h.1) h.2
theorem m_in_IndexOutOfBoundsException : Cond.initialized "java/lang/IndexOutOfBoundsException" ∈ TT := by
  have h := Bool.and_eq_true_iff.mp (List.all_eq_true.mp mG_1_0 (11, Cond.initialized "java/lang/IndexOutOfBoundsException") (List.mem_of_getElem? (i := 11) rfl))
  exact tt_m1 11 (of_decide_eq_true h.1) h.2
theorem m_in_Math : Cond.initialized "java/lang/Math" ∈ TT := by
  have h := Bool.and_eq_true_iff.mp (List.all_eq_true.mp mG_1_0 (12, Cond.initialized "java/lang/Math") (List.mem_of_getElem? (i := 12) rfl))
  exact tt_m1 12 (of_decide_eq_true h.1) h.2
theorem m_in_X2 : Cond.initialized RX2 ∈ TT := by
  have h := Bool.and_eq_true_iff.mp (List.all_eq_true.mp mG_1_0 (13, Cond.initialized RX2) (List.mem_of_getElem? (i := 13) rfl))
  exact tt_m1 13 (of_decide_eq_true h.1) h.2
theorem m_in_System : Cond.initialized "java/lang/System" ∈ TT := by
  have h := Bool.and_eq_true_iff.mp (List.all_eq_true.mp mG_1_0 (14, Cond.initialized "java/lang/System") (List.mem_of_getElem? (i := 14) rfl))
  exact tt_m1 14 (of_decide_eq_true h.1) h.2
theorem m_in_X0 : Cond.initialized RX0 ∈ TT := by
  have h := Bool.and_eq_true_iff.mp (List.all_eq_true.mp mG_1_0 (15, Cond.initialized RX0) (List.mem_of_getElem? (i := 15) rfl))
  exact tt_m1 15 (of_decide_eq_true h.1) h.2
theorem m_cl_L_8 : Cond.classLink RL 8 RX5 ∈ TT := by
  have h := Bool.and_eq_true_iff.mp (List.all_eq_true.mp mG_1_0 (16, Cond.classLink RL 8 RX5) (List.mem_of_getElem? (i := 16) rfl))
  exact tt_m1 16 (of_decide_eq_true h.1) h.2
theorem m_nw_X5 : Cond.instantiable RX5 6 ∈ TT := by
  have h := Bool.and_eq_true_iff.mp (List.all_eq_true.mp mG_1_0 (17, Cond.instantiable RX5 6) (List.mem_of_getElem? (i := 17) rfl))
  exact tt_m1 17 (of_decide_eq_true h.1) h.2
theorem m_ml_L_120 : Cond.methodLink RL 120 yX5_init ∈ TT := by
  have h := Bool.and_eq_true_iff.mp (List.all_eq_true.mp mG_1_0 (18, Cond.methodLink RL 120 yX5_init) (List.mem_of_getElem? (i := 18) rfl))
  exact tt_m1 18 (of_decide_eq_true h.1) h.2
theorem m_im_X5_init : Cond.instanceMethod yX5_init ∈ TT := by
  have h := Bool.and_eq_true_iff.mp (List.all_eq_true.mp mG_1_0 (19, Cond.instanceMethod yX5_init) (List.mem_of_getElem? (i := 19) rfl))
  exact tt_m1 19 (of_decide_eq_true h.1) h.2
theorem m_cd_X5_init : Cond.code yX5_init cX5_init 1 none ∈ TT := by
  have h := Bool.and_eq_true_iff.mp (List.all_eq_true.mp mG_1_0 (20, Cond.code yX5_init cX5_init 1 none) (List.mem_of_getElem? (i := 20) rfl))
  exact tt_m1 20 (of_decide_eq_true h.1) h.2
theorem m_ml_X5_1 : Cond.methodLink RX5 1 ⟨"java/lang/Object", "<init>", "()V"⟩ ∈ TT := by
  have h := Bool.and_eq_true_iff.mp (List.all_eq_true.mp mG_1_0 (21, Cond.methodLink RX5 1 ⟨"java/lang/Object", "<init>", "()V"⟩) (List.mem_of_getElem? (i := 21) rfl))
  exact tt_m1 21 (of_decide_eq_true h.1) h.2
theorem m_im_objectInit : Cond.instanceMethod objectInit ∈ TT := by
  have h := Bool.and_eq_true_iff.mp (List.all_eq_true.mp mG_1_0 (22, Cond.instanceMethod objectInit) (List.mem_of_getElem? (i := 22) rfl))
  exact tt_m1 22 (of_decide_eq_true h.1) h.2
theorem m_cl_X5_9 : Cond.classLink RX5 9 RX3 ∈ TT := by
  have h := Bool.and_eq_true_iff.mp (List.all_eq_true.mp mG_1_0 (24, Cond.classLink RX5 9 RX3) (List.mem_of_getElem? (i := 23) rfl))
  exact tt_m1 24 (of_decide_eq_true h.1) h.2
theorem m_cl_X5_15 : Cond.classLink RX5 15 RX1 ∈ TT := by
  have h := Bool.and_eq_true_iff.mp (List.all_eq_true.mp mG_1_0 (26, Cond.classLink RX5 15 RX1) (List.mem_of_getElem? (i := 24) rfl))
  exact tt_m1 26 (of_decide_eq_true h.1) h.2
theorem m_nw_X1 : Cond.instantiable RX1 6 ∈ TT := by
  have h := Bool.and_eq_true_iff.mp (List.all_eq_true.mp mG_1_0 (27, Cond.instantiable RX1 6) (List.mem_of_getElem? (i := 25) rfl))
  exact tt_m1 27 (of_decide_eq_true h.1) h.2
theorem m_im_X1_init : Cond.instanceMethod yX1_init ∈ TT := by
  have h := Bool.and_eq_true_iff.mp (List.all_eq_true.mp mG_1_0 (29, Cond.instanceMethod yX1_init) (List.mem_of_getElem? (i := 26) rfl))
  exact tt_m1 29 (of_decide_eq_true h.1) h.2
theorem m_cd_X1_init : Cond.code yX1_init cX1_init 1 none ∈ TT := by
  have h := Bool.and_eq_true_iff.mp (List.all_eq_true.mp mG_1_0 (30, Cond.code yX1_init cX1_init 1 none) (List.mem_of_getElem? (i := 27) rfl))
  exact tt_m1 30 (of_decide_eq_true h.1) h.2
theorem m_ml_X1_3 : Cond.methodLink RX1 3 ⟨"java/lang/Object", "<init>", "()V"⟩ ∈ TT := by
  have h := Bool.and_eq_true_iff.mp (List.all_eq_true.mp mG_1_0 (31, Cond.methodLink RX1 3 ⟨"java/lang/Object", "<init>", "()V"⟩) (List.mem_of_getElem? (i := 28) rfl))
  exact tt_m1 31 (of_decide_eq_true h.1) h.2
theorem m_fl_X1_18 : Cond.fieldLink RX1 18 "DaybreakFlags$Asker" "user" "I" ∈ TT := by
  have h := Bool.and_eq_true_iff.mp (List.all_eq_true.mp mG_1_0 (32, Cond.fieldLink RX1 18 "DaybreakFlags$Asker" "user" "I") (List.mem_of_getElem? (i := 29) rfl))
  exact tt_m1 32 (of_decide_eq_true h.1) h.2
theorem m_fl_X1_21 : Cond.fieldLink RX1 21 "DaybreakFlags$Asker" "first" "I" ∈ TT := by
  have h := Bool.and_eq_true_iff.mp (List.all_eq_true.mp mG_1_0 (34, Cond.fieldLink RX1 21 "DaybreakFlags$Asker" "first" "I") (List.mem_of_getElem? (i := 30) rfl))
  exact tt_m1 34 (of_decide_eq_true h.1) h.2
theorem m_fl_X1_24 : Cond.fieldLink RX1 24 "DaybreakFlags$Asker" "second" "I" ∈ TT := by
  have h := Bool.and_eq_true_iff.mp (List.all_eq_true.mp mG_1_0 (36, Cond.fieldLink RX1 24 "DaybreakFlags$Asker" "second" "I") (List.mem_of_getElem? (i := 31) rfl))
  exact tt_m1 36 (of_decide_eq_true h.1) h.2
theorem m_fl_X1_9 : Cond.fieldLink RX1 9 "DaybreakFlags$Asker" "turned" "I" ∈ TT := by
  have h := Bool.and_eq_true_iff.mp (List.all_eq_true.mp mG_1_0 (38, Cond.fieldLink RX1 9 "DaybreakFlags$Asker" "turned" "I") (List.mem_of_getElem? (i := 32) rfl))
  exact tt_m1 38 (of_decide_eq_true h.1) h.2
theorem m_fl_X1_15 : Cond.fieldLink RX1 15 "DaybreakFlags$Asker" "ramped" "I" ∈ TT := by
  have h := Bool.and_eq_true_iff.mp (List.all_eq_true.mp mG_1_0 (39, Cond.fieldLink RX1 15 "DaybreakFlags$Asker" "ramped" "I") (List.mem_of_getElem? (i := 33) rfl))
  exact tt_m1 39 (of_decide_eq_true h.1) h.2
theorem m_fl_X1_31 : Cond.fieldLink RX1 31 "DaybreakFlags$Asker" "rampedTo" "I" ∈ TT := by
  have h := Bool.and_eq_true_iff.mp (List.all_eq_true.mp mG_1_0 (40, Cond.fieldLink RX1 31 "DaybreakFlags$Asker" "rampedTo" "I") (List.mem_of_getElem? (i := 34) rfl))
  exact tt_m1 40 (of_decide_eq_true h.1) h.2
theorem m_fl_X5_11 : Cond.fieldLink RX5 11 "DaybreakFlags" "row" "[LDaybreakFlags$Switch;" ∈ TT := by
  have h := Bool.and_eq_true_iff.mp (List.all_eq_true.mp mG_1_0 (54, Cond.fieldLink RX5 11 "DaybreakFlags" "row" "[LDaybreakFlags$Switch;") (List.mem_of_getElem? (i := 35) rfl))
  exact tt_m1 54 (of_decide_eq_true h.1) h.2
theorem m_fl_X5_18 : Cond.fieldLink RX5 18 "DaybreakFlags" "asker" "LDaybreakFlags$Asker;" ∈ TT := by
  have h := Bool.and_eq_true_iff.mp (List.all_eq_true.mp mG_1_0 (55, Cond.fieldLink RX5 18 "DaybreakFlags" "asker" "LDaybreakFlags$Asker;") (List.mem_of_getElem? (i := 36) rfl))
  exact tt_m1 55 (of_decide_eq_true h.1) h.2
theorem m_fl_X5_33 : Cond.fieldLink RX5 33 "DaybreakFlags" "switchCount" "I" ∈ TT := by
  have h := Bool.and_eq_true_iff.mp (List.all_eq_true.mp mG_1_0 (56, Cond.fieldLink RX5 33 "DaybreakFlags" "switchCount" "I") (List.mem_of_getElem? (i := 37) rfl))
  exact tt_m1 56 (of_decide_eq_true h.1) h.2
theorem m_fl_X5_165 : Cond.fieldLink RX5 165 "DaybreakFlags" "armCount" "I" ∈ TT := by
  have h := Bool.and_eq_true_iff.mp (List.all_eq_true.mp mG_1_0 (57, Cond.fieldLink RX5 165 "DaybreakFlags" "armCount" "I") (List.mem_of_getElem? (i := 38) rfl))
  exact tt_m1 57 (of_decide_eq_true h.1) h.2
theorem m_fl_X5_132 : Cond.fieldLink RX5 132 "DaybreakFlags" "holdout" "I" ∈ TT := by
  have h := Bool.and_eq_true_iff.mp (List.all_eq_true.mp mG_1_0 (58, Cond.fieldLink RX5 132 "DaybreakFlags" "holdout" "I") (List.mem_of_getElem? (i := 39) rfl))
  exact tt_m1 58 (of_decide_eq_true h.1) h.2
theorem m_fl_X5_69 : Cond.fieldLink RX5 69 "DaybreakFlags" "clock" "I" ∈ TT := by
  have h := Bool.and_eq_true_iff.mp (List.all_eq_true.mp mG_1_0 (59, Cond.fieldLink RX5 69 "DaybreakFlags" "clock" "I") (List.mem_of_getElem? (i := 40) rfl))
  exact tt_m1 59 (of_decide_eq_true h.1) h.2
theorem m_ml_L_167 : Cond.methodLink RL 167 yX5_switches ∈ TT := by
  have h := Bool.and_eq_true_iff.mp (List.all_eq_true.mp mG_1_0 (73, Cond.methodLink RL 167 yX5_switches) (List.mem_of_getElem? (i := 41) rfl))
  exact tt_m1 73 (of_decide_eq_true h.1) h.2
theorem m_im_X5_switches : Cond.instanceMethod yX5_switches ∈ TT := by
  have h := Bool.and_eq_true_iff.mp (List.all_eq_true.mp mG_1_0 (74, Cond.instanceMethod yX5_switches) (List.mem_of_getElem? (i := 42) rfl))
  exact tt_m1 74 (of_decide_eq_true h.1) h.2
theorem m_sl_X5_switches : Cond.selects RX5 yX5_switches yX5_switches ∈ TT := by
  have h := Bool.and_eq_true_iff.mp (List.all_eq_true.mp mG_1_0 (75, Cond.selects RX5 yX5_switches yX5_switches) (List.mem_of_getElem? (i := 43) rfl))
  exact tt_m1 75 (of_decide_eq_true h.1) h.2
theorem m_cd_X5_switches : Cond.code yX5_switches cX5_switches 1 (some .int) ∈ TT := by
  have h := Bool.and_eq_true_iff.mp (List.all_eq_true.mp mG_1_0 (76, Cond.code yX5_switches cX5_switches 1 (some .int)) (List.mem_of_getElem? (i := 44) rfl))
  exact tt_m1 76 (of_decide_eq_true h.1) h.2
theorem m_ml_L_201 : Cond.methodLink RL 201 yX5_arms ∈ TT := by
  have h := Bool.and_eq_true_iff.mp (List.all_eq_true.mp mG_1_0 (77, Cond.methodLink RL 201 yX5_arms) (List.mem_of_getElem? (i := 45) rfl))
  exact tt_m1 77 (of_decide_eq_true h.1) h.2
theorem m_im_X5_arms : Cond.instanceMethod yX5_arms ∈ TT := by
  have h := Bool.and_eq_true_iff.mp (List.all_eq_true.mp mG_1_0 (78, Cond.instanceMethod yX5_arms) (List.mem_of_getElem? (i := 46) rfl))
  exact tt_m1 78 (of_decide_eq_true h.1) h.2
theorem m_sl_X5_arms : Cond.selects RX5 yX5_arms yX5_arms ∈ TT := by
  have h := Bool.and_eq_true_iff.mp (List.all_eq_true.mp mG_1_0 (79, Cond.selects RX5 yX5_arms yX5_arms) (List.mem_of_getElem? (i := 47) rfl))
  exact tt_m1 79 (of_decide_eq_true h.1) h.2
theorem m_cd_X5_arms : Cond.code yX5_arms cX5_arms 1 (some .int) ∈ TT := by
  have h := Bool.and_eq_true_iff.mp (List.all_eq_true.mp mG_1_0 (80, Cond.code yX5_arms cX5_arms 1 (some .int)) (List.mem_of_getElem? (i := 48) rfl))
  exact tt_m1 80 (of_decide_eq_true h.1) h.2
theorem m_ml_L_242 : Cond.methodLink RL 242 yX5_digest ∈ TT := by
  have h := Bool.and_eq_true_iff.mp (List.all_eq_true.mp mG_1_0 (81, Cond.methodLink RL 242 yX5_digest) (List.mem_of_getElem? (i := 49) rfl))
  exact tt_m1 81 (of_decide_eq_true h.1) h.2
theorem m_im_X5_digest : Cond.instanceMethod yX5_digest ∈ TT := by
  have h := Bool.and_eq_true_iff.mp (List.all_eq_true.mp mG_1_0 (82, Cond.instanceMethod yX5_digest) (List.mem_of_getElem? (i := 50) rfl))
  exact tt_m1 82 (of_decide_eq_true h.1) h.2
theorem m_sl_X5_digest : Cond.selects RX5 yX5_digest yX5_digest ∈ TT := by
  have h := Bool.and_eq_true_iff.mp (List.all_eq_true.mp mG_1_0 (83, Cond.selects RX5 yX5_digest yX5_digest) (List.mem_of_getElem? (i := 51) rfl))
  exact tt_m1 83 (of_decide_eq_true h.1) h.2
theorem m_cd_X5_digest : Cond.code yX5_digest cX5_digest 5 (some .long) ∈ TT := by
  have h := Bool.and_eq_true_iff.mp (List.all_eq_true.mp mG_1_0 (84, Cond.code yX5_digest cX5_digest 5 (some .long)) (List.mem_of_getElem? (i := 52) rfl))
  exact tt_m1 84 (of_decide_eq_true h.1) h.2
theorem m_lc_X5_244 : Cond.constantLong RX5 244 (2687) ∈ TT := by
  have h := Bool.and_eq_true_iff.mp (List.all_eq_true.mp mG_1_0 (85, Cond.constantLong RX5 244 (2687)) (List.mem_of_getElem? (i := 53) rfl))
  exact tt_m1 85 (of_decide_eq_true h.1) h.2
theorem m_ml_X5_246 : Cond.methodLink RX5 246 yX5_switches ∈ TT := by
  have h := Bool.and_eq_true_iff.mp (List.all_eq_true.mp mG_1_0 (86, Cond.methodLink RX5 246 yX5_switches) (List.mem_of_getElem? (i := 54) rfl))
  exact tt_m1 86 (of_decide_eq_true h.1) h.2
theorem m_ml_X5_249 : Cond.methodLink RX5 249 yX5_withNext ∈ TT := by
  have h := Bool.and_eq_true_iff.mp (List.all_eq_true.mp mG_1_0 (87, Cond.methodLink RX5 249 yX5_withNext) (List.mem_of_getElem? (i := 55) rfl))
  exact tt_m1 87 (of_decide_eq_true h.1) h.2
theorem m_st_X5_withNext : Cond.static yX5_withNext ∈ TT := by
  have h := Bool.and_eq_true_iff.mp (List.all_eq_true.mp mG_1_0 (88, Cond.static yX5_withNext) (List.mem_of_getElem? (i := 56) rfl))
  exact tt_m1 88 (of_decide_eq_true h.1) h.2
theorem m_cd_X5_withNext : Cond.code yX5_withNext cX5_withNext 4 (some .long) ∈ TT := by
  have h := Bool.and_eq_true_iff.mp (List.all_eq_true.mp mG_1_0 (89, Cond.code yX5_withNext cX5_withNext 4 (some .long)) (List.mem_of_getElem? (i := 57) rfl))
  exact tt_m1 89 (of_decide_eq_true h.1) h.2
theorem m_lc_X5_299 : Cond.constantLong RX5 299 (31) ∈ TT := by
  have h := Bool.and_eq_true_iff.mp (List.all_eq_true.mp mG_1_0 (90, Cond.constantLong RX5 299 (31)) (List.mem_of_getElem? (i := 58) rfl))
  exact tt_m1 90 (of_decide_eq_true h.1) h.2
theorem m_ml_X5_253 : Cond.methodLink RX5 253 yX5_arms ∈ TT := by
  have h := Bool.and_eq_true_iff.mp (List.all_eq_true.mp mG_1_0 (91, Cond.methodLink RX5 253 yX5_arms) (List.mem_of_getElem? (i := 59) rfl))
  exact tt_m1 91 (of_decide_eq_true h.1) h.2
theorem mG_1_60 : ([(92, Cond.methodLink RX5 256 yX5_left), (93, Cond.instanceMethod yX5_left), (94, Cond.selects RX5 yX5_left yX5_left), (95, Cond.code yX5_left cX5_left 7 (some .int)), (96, Cond.methodLink RX5 22 yX5_isOutside), (97, Cond.static yX5_isOutside), (98, Cond.code yX5_isOutside cX5_isOutside 3 (some .boolean)), (99, Cond.classLink RX5 121 "java/lang/IndexOutOfBoundsException"), (141, Cond.methodLink RX5 125 ⟨"java/lang/IndexOutOfBoundsException", "<init>", "(Ljava/lang/String;)V"⟩), (166, Cond.arrayClass .byte), (167, Cond.methodLink RX5 259 yX5_withSwitch), (169, Cond.instanceMethod yX5_withSwitch), (170, Cond.code yX5_withSwitch cX5_withSwitch 9 (some .long)), (171, Cond.methodLink RX5 273 yX5_share), (172, Cond.instanceMethod yX5_share), (173, Cond.selects RX5 yX5_share yX5_share), (174, Cond.code yX5_share cX5_share 2 (some .int)), (175, Cond.methodLink RX5 45 yX5_known), (177, Cond.instanceMethod yX5_known), (178, Cond.code yX5_known cX5_known 3 (some (.object "DaybreakFlags$Switch"))), (179, Cond.methodLink RX5 301 yX5_switchAt), (181, Cond.instanceMethod yX5_switchAt), (182, Cond.code yX5_switchAt cX5_switchAt 2 (some (.object "DaybreakFlags$Switch"))), (184, Cond.methodLink RX5 72 yX3_farAt), (185, Cond.instanceMethod yX3_farAt), (186, Cond.selects RX3 yX3_farAt yX3_farAt), (187, Cond.code yX3_farAt cX3_farAt 4 (some .int)), (188, Cond.constantLong RX3 57 (1000)), (189, Cond.methodLink RX5 276 yX5_bad), (190, Cond.instanceMethod yX5_bad), (191, Cond.selects RX5 yX5_bad yX5_bad), (192, Cond.code yX5_bad cX5_bad 2 (some .int)), (193, Cond.methodLink RX5 219 yX3_badness), (194, Cond.instanceMethod yX3_badness), (195, Cond.selects RX3 yX3_badness yX3_badness), (196, Cond.code yX3_badness cX3_badness 10 (some .int)), (197, Cond.methodLink RX3 124 yX4_countOf), (198, Cond.instanceMethod yX4_countOf), (199, Cond.selects RX4 yX4_countOf yX4_countOf), (200, Cond.code yX4_countOf cX4_countOf 2 (some .int)), (201, Cond.methodLink RX4 25 yX4_isKept), (202, Cond.static yX4_isKept), (203, Cond.code yX4_isKept cX4_isKept 1 (some .boolean)), (204, Cond.constantLong RX3 128 (10)), (205, Cond.methodLink RX5 279 yX5_isTrusted), (206, Cond.instanceMethod yX5_isTrusted), (207, Cond.selects RX5 yX5_isTrusted yX5_isTrusted), (208, Cond.code yX5_isTrusted cX5_isTrusted 2 (some .boolean)), (209, Cond.methodLink RX5 223 yX3_canBeTrusted), (210, Cond.instanceMethod yX3_canBeTrusted), (211, Cond.selects RX3 yX3_canBeTrusted yX3_canBeTrusted), (212, Cond.code yX3_canBeTrusted cX3_canBeTrusted 3 (some .boolean)), (213, Cond.methodLink RX3 130 yX3_badness), (214, Cond.methodLink RX3 134 yX3_mostBadness), (215, Cond.static yX3_mostBadness), (216, Cond.code yX3_mostBadness cX3_mostBadness 1 (some .int)), (217, Cond.methodLink RX5 283 yX5_best), (218, Cond.instanceMethod yX5_best), (219, Cond.selects RX5 yX5_best yX5_best), (220, Cond.code yX5_best cX5_best 2 (some .int))] : List (Nat × Cond)).all (fun q => decide (tables_1_1[q.1]? = some q.2) && goodWord q.2) = true := by decide +kernel
theorem m_ml_X5_256 : Cond.methodLink RX5 256 yX5_left ∈ TT := by
  have h := Bool.and_eq_true_iff.mp (List.all_eq_true.mp mG_1_60 (92, Cond.methodLink RX5 256 yX5_left) (List.mem_of_getElem? (i := 0) rfl))
  exact tt_m1 92 (of_decide_eq_true h.1) h.2
theorem m_im_X5_left : Cond.instanceMethod yX5_left ∈ TT := by
  have h := Bool.and_eq_true_iff.mp (List.all_eq_true.mp mG_1_60 (93, Cond.instanceMethod yX5_left) (List.mem_of_getElem? (i := 1) rfl))
  exact tt_m1 93 (of_decide_eq_true h.1) h.2
theorem m_sl_X5_left : Cond.selects RX5 yX5_left yX5_left ∈ TT := by
  have h := Bool.and_eq_true_iff.mp (List.all_eq_true.mp mG_1_60 (94, Cond.selects RX5 yX5_left yX5_left) (List.mem_of_getElem? (i := 2) rfl))
  exact tt_m1 94 (of_decide_eq_true h.1) h.2
theorem m_cd_X5_left : Cond.code yX5_left cX5_left 7 (some .int) ∈ TT := by
  have h := Bool.and_eq_true_iff.mp (List.all_eq_true.mp mG_1_60 (95, Cond.code yX5_left cX5_left 7 (some .int)) (List.mem_of_getElem? (i := 3) rfl))
  exact tt_m1 95 (of_decide_eq_true h.1) h.2
theorem m_ml_X5_22 : Cond.methodLink RX5 22 yX5_isOutside ∈ TT := by
  have h := Bool.and_eq_true_iff.mp (List.all_eq_true.mp mG_1_60 (96, Cond.methodLink RX5 22 yX5_isOutside) (List.mem_of_getElem? (i := 4) rfl))
  exact tt_m1 96 (of_decide_eq_true h.1) h.2
theorem m_st_X5_isOutside : Cond.static yX5_isOutside ∈ TT := by
  have h := Bool.and_eq_true_iff.mp (List.all_eq_true.mp mG_1_60 (97, Cond.static yX5_isOutside) (List.mem_of_getElem? (i := 5) rfl))
  exact tt_m1 97 (of_decide_eq_true h.1) h.2
theorem m_cd_X5_isOutside : Cond.code yX5_isOutside cX5_isOutside 3 (some .boolean) ∈ TT := by
  have h := Bool.and_eq_true_iff.mp (List.all_eq_true.mp mG_1_60 (98, Cond.code yX5_isOutside cX5_isOutside 3 (some .boolean)) (List.mem_of_getElem? (i := 6) rfl))
  exact tt_m1 98 (of_decide_eq_true h.1) h.2
theorem m_cl_X5_121 : Cond.classLink RX5 121 "java/lang/IndexOutOfBoundsException" ∈ TT := by
  have h := Bool.and_eq_true_iff.mp (List.all_eq_true.mp mG_1_60 (99, Cond.classLink RX5 121 "java/lang/IndexOutOfBoundsException") (List.mem_of_getElem? (i := 7) rfl))
  exact tt_m1 99 (of_decide_eq_true h.1) h.2
theorem m_ml_X5_125 : Cond.methodLink RX5 125 ⟨"java/lang/IndexOutOfBoundsException", "<init>", "(Ljava/lang/String;)V"⟩ ∈ TT := by
  have h := Bool.and_eq_true_iff.mp (List.all_eq_true.mp mG_1_60 (141, Cond.methodLink RX5 125 ⟨"java/lang/IndexOutOfBoundsException", "<init>", "(Ljava/lang/String;)V"⟩) (List.mem_of_getElem? (i := 8) rfl))
  exact tt_m1 141 (of_decide_eq_true h.1) h.2
theorem m_ar_byte : Cond.arrayClass .byte ∈ TT := by
  have h := Bool.and_eq_true_iff.mp (List.all_eq_true.mp mG_1_60 (166, Cond.arrayClass .byte) (List.mem_of_getElem? (i := 9) rfl))
  exact tt_m1 166 (of_decide_eq_true h.1) h.2
theorem m_ml_X5_259 : Cond.methodLink RX5 259 yX5_withSwitch ∈ TT := by
  have h := Bool.and_eq_true_iff.mp (List.all_eq_true.mp mG_1_60 (167, Cond.methodLink RX5 259 yX5_withSwitch) (List.mem_of_getElem? (i := 10) rfl))
  exact tt_m1 167 (of_decide_eq_true h.1) h.2
theorem m_im_X5_withSwitch : Cond.instanceMethod yX5_withSwitch ∈ TT := by
  have h := Bool.and_eq_true_iff.mp (List.all_eq_true.mp mG_1_60 (169, Cond.instanceMethod yX5_withSwitch) (List.mem_of_getElem? (i := 11) rfl))
  exact tt_m1 169 (of_decide_eq_true h.1) h.2
theorem m_cd_X5_withSwitch : Cond.code yX5_withSwitch cX5_withSwitch 9 (some .long) ∈ TT := by
  have h := Bool.and_eq_true_iff.mp (List.all_eq_true.mp mG_1_60 (170, Cond.code yX5_withSwitch cX5_withSwitch 9 (some .long)) (List.mem_of_getElem? (i := 12) rfl))
  exact tt_m1 170 (of_decide_eq_true h.1) h.2
theorem m_ml_X5_273 : Cond.methodLink RX5 273 yX5_share ∈ TT := by
  have h := Bool.and_eq_true_iff.mp (List.all_eq_true.mp mG_1_60 (171, Cond.methodLink RX5 273 yX5_share) (List.mem_of_getElem? (i := 13) rfl))
  exact tt_m1 171 (of_decide_eq_true h.1) h.2
theorem m_im_X5_share : Cond.instanceMethod yX5_share ∈ TT := by
  have h := Bool.and_eq_true_iff.mp (List.all_eq_true.mp mG_1_60 (172, Cond.instanceMethod yX5_share) (List.mem_of_getElem? (i := 14) rfl))
  exact tt_m1 172 (of_decide_eq_true h.1) h.2
theorem m_sl_X5_share : Cond.selects RX5 yX5_share yX5_share ∈ TT := by
  have h := Bool.and_eq_true_iff.mp (List.all_eq_true.mp mG_1_60 (173, Cond.selects RX5 yX5_share yX5_share) (List.mem_of_getElem? (i := 15) rfl))
  exact tt_m1 173 (of_decide_eq_true h.1) h.2
theorem m_cd_X5_share : Cond.code yX5_share cX5_share 2 (some .int) ∈ TT := by
  have h := Bool.and_eq_true_iff.mp (List.all_eq_true.mp mG_1_60 (174, Cond.code yX5_share cX5_share 2 (some .int)) (List.mem_of_getElem? (i := 16) rfl))
  exact tt_m1 174 (of_decide_eq_true h.1) h.2
theorem m_ml_X5_45 : Cond.methodLink RX5 45 yX5_known ∈ TT := by
  have h := Bool.and_eq_true_iff.mp (List.all_eq_true.mp mG_1_60 (175, Cond.methodLink RX5 45 yX5_known) (List.mem_of_getElem? (i := 17) rfl))
  exact tt_m1 175 (of_decide_eq_true h.1) h.2
theorem m_im_X5_known : Cond.instanceMethod yX5_known ∈ TT := by
  have h := Bool.and_eq_true_iff.mp (List.all_eq_true.mp mG_1_60 (177, Cond.instanceMethod yX5_known) (List.mem_of_getElem? (i := 18) rfl))
  exact tt_m1 177 (of_decide_eq_true h.1) h.2
theorem m_cd_X5_known : Cond.code yX5_known cX5_known 3 (some (.object "DaybreakFlags$Switch")) ∈ TT := by
  have h := Bool.and_eq_true_iff.mp (List.all_eq_true.mp mG_1_60 (178, Cond.code yX5_known cX5_known 3 (some (.object "DaybreakFlags$Switch"))) (List.mem_of_getElem? (i := 19) rfl))
  exact tt_m1 178 (of_decide_eq_true h.1) h.2
theorem m_ml_X5_301 : Cond.methodLink RX5 301 yX5_switchAt ∈ TT := by
  have h := Bool.and_eq_true_iff.mp (List.all_eq_true.mp mG_1_60 (179, Cond.methodLink RX5 301 yX5_switchAt) (List.mem_of_getElem? (i := 20) rfl))
  exact tt_m1 179 (of_decide_eq_true h.1) h.2
theorem m_im_X5_switchAt : Cond.instanceMethod yX5_switchAt ∈ TT := by
  have h := Bool.and_eq_true_iff.mp (List.all_eq_true.mp mG_1_60 (181, Cond.instanceMethod yX5_switchAt) (List.mem_of_getElem? (i := 21) rfl))
  exact tt_m1 181 (of_decide_eq_true h.1) h.2
theorem m_cd_X5_switchAt : Cond.code yX5_switchAt cX5_switchAt 2 (some (.object "DaybreakFlags$Switch")) ∈ TT := by
  have h := Bool.and_eq_true_iff.mp (List.all_eq_true.mp mG_1_60 (182, Cond.code yX5_switchAt cX5_switchAt 2 (some (.object "DaybreakFlags$Switch"))) (List.mem_of_getElem? (i := 22) rfl))
  exact tt_m1 182 (of_decide_eq_true h.1) h.2
theorem m_ml_X5_72 : Cond.methodLink RX5 72 yX3_farAt ∈ TT := by
  have h := Bool.and_eq_true_iff.mp (List.all_eq_true.mp mG_1_60 (184, Cond.methodLink RX5 72 yX3_farAt) (List.mem_of_getElem? (i := 23) rfl))
  exact tt_m1 184 (of_decide_eq_true h.1) h.2
theorem m_im_X3_farAt : Cond.instanceMethod yX3_farAt ∈ TT := by
  have h := Bool.and_eq_true_iff.mp (List.all_eq_true.mp mG_1_60 (185, Cond.instanceMethod yX3_farAt) (List.mem_of_getElem? (i := 24) rfl))
  exact tt_m1 185 (of_decide_eq_true h.1) h.2
theorem m_sl_X3_farAt : Cond.selects RX3 yX3_farAt yX3_farAt ∈ TT := by
  have h := Bool.and_eq_true_iff.mp (List.all_eq_true.mp mG_1_60 (186, Cond.selects RX3 yX3_farAt yX3_farAt) (List.mem_of_getElem? (i := 25) rfl))
  exact tt_m1 186 (of_decide_eq_true h.1) h.2
theorem m_cd_X3_farAt : Cond.code yX3_farAt cX3_farAt 4 (some .int) ∈ TT := by
  have h := Bool.and_eq_true_iff.mp (List.all_eq_true.mp mG_1_60 (187, Cond.code yX3_farAt cX3_farAt 4 (some .int)) (List.mem_of_getElem? (i := 26) rfl))
  exact tt_m1 187 (of_decide_eq_true h.1) h.2
theorem m_lc_X3_57 : Cond.constantLong RX3 57 (1000) ∈ TT := by
  have h := Bool.and_eq_true_iff.mp (List.all_eq_true.mp mG_1_60 (188, Cond.constantLong RX3 57 (1000)) (List.mem_of_getElem? (i := 27) rfl))
  exact tt_m1 188 (of_decide_eq_true h.1) h.2
theorem m_ml_X5_276 : Cond.methodLink RX5 276 yX5_bad ∈ TT := by
  have h := Bool.and_eq_true_iff.mp (List.all_eq_true.mp mG_1_60 (189, Cond.methodLink RX5 276 yX5_bad) (List.mem_of_getElem? (i := 28) rfl))
  exact tt_m1 189 (of_decide_eq_true h.1) h.2
theorem m_im_X5_bad : Cond.instanceMethod yX5_bad ∈ TT := by
  have h := Bool.and_eq_true_iff.mp (List.all_eq_true.mp mG_1_60 (190, Cond.instanceMethod yX5_bad) (List.mem_of_getElem? (i := 29) rfl))
  exact tt_m1 190 (of_decide_eq_true h.1) h.2
theorem m_sl_X5_bad : Cond.selects RX5 yX5_bad yX5_bad ∈ TT := by
  have h := Bool.and_eq_true_iff.mp (List.all_eq_true.mp mG_1_60 (191, Cond.selects RX5 yX5_bad yX5_bad) (List.mem_of_getElem? (i := 30) rfl))
  exact tt_m1 191 (of_decide_eq_true h.1) h.2
theorem m_cd_X5_bad : Cond.code yX5_bad cX5_bad 2 (some .int) ∈ TT := by
  have h := Bool.and_eq_true_iff.mp (List.all_eq_true.mp mG_1_60 (192, Cond.code yX5_bad cX5_bad 2 (some .int)) (List.mem_of_getElem? (i := 31) rfl))
  exact tt_m1 192 (of_decide_eq_true h.1) h.2
theorem m_ml_X5_219 : Cond.methodLink RX5 219 yX3_badness ∈ TT := by
  have h := Bool.and_eq_true_iff.mp (List.all_eq_true.mp mG_1_60 (193, Cond.methodLink RX5 219 yX3_badness) (List.mem_of_getElem? (i := 32) rfl))
  exact tt_m1 193 (of_decide_eq_true h.1) h.2
theorem m_im_X3_badness : Cond.instanceMethod yX3_badness ∈ TT := by
  have h := Bool.and_eq_true_iff.mp (List.all_eq_true.mp mG_1_60 (194, Cond.instanceMethod yX3_badness) (List.mem_of_getElem? (i := 33) rfl))
  exact tt_m1 194 (of_decide_eq_true h.1) h.2
theorem m_sl_X3_badness : Cond.selects RX3 yX3_badness yX3_badness ∈ TT := by
  have h := Bool.and_eq_true_iff.mp (List.all_eq_true.mp mG_1_60 (195, Cond.selects RX3 yX3_badness yX3_badness) (List.mem_of_getElem? (i := 34) rfl))
  exact tt_m1 195 (of_decide_eq_true h.1) h.2
theorem m_cd_X3_badness : Cond.code yX3_badness cX3_badness 10 (some .int) ∈ TT := by
  have h := Bool.and_eq_true_iff.mp (List.all_eq_true.mp mG_1_60 (196, Cond.code yX3_badness cX3_badness 10 (some .int)) (List.mem_of_getElem? (i := 35) rfl))
  exact tt_m1 196 (of_decide_eq_true h.1) h.2
theorem m_ml_X3_124 : Cond.methodLink RX3 124 yX4_countOf ∈ TT := by
  have h := Bool.and_eq_true_iff.mp (List.all_eq_true.mp mG_1_60 (197, Cond.methodLink RX3 124 yX4_countOf) (List.mem_of_getElem? (i := 36) rfl))
  exact tt_m1 197 (of_decide_eq_true h.1) h.2
theorem m_im_X4_countOf : Cond.instanceMethod yX4_countOf ∈ TT := by
  have h := Bool.and_eq_true_iff.mp (List.all_eq_true.mp mG_1_60 (198, Cond.instanceMethod yX4_countOf) (List.mem_of_getElem? (i := 37) rfl))
  exact tt_m1 198 (of_decide_eq_true h.1) h.2
theorem m_sl_X4_countOf : Cond.selects RX4 yX4_countOf yX4_countOf ∈ TT := by
  have h := Bool.and_eq_true_iff.mp (List.all_eq_true.mp mG_1_60 (199, Cond.selects RX4 yX4_countOf yX4_countOf) (List.mem_of_getElem? (i := 38) rfl))
  exact tt_m1 199 (of_decide_eq_true h.1) h.2
theorem m_cd_X4_countOf : Cond.code yX4_countOf cX4_countOf 2 (some .int) ∈ TT := by
  have h := Bool.and_eq_true_iff.mp (List.all_eq_true.mp mG_1_60 (200, Cond.code yX4_countOf cX4_countOf 2 (some .int)) (List.mem_of_getElem? (i := 39) rfl))
  exact tt_m1 200 (of_decide_eq_true h.1) h.2
theorem m_ml_X4_25 : Cond.methodLink RX4 25 yX4_isKept ∈ TT := by
  have h := Bool.and_eq_true_iff.mp (List.all_eq_true.mp mG_1_60 (201, Cond.methodLink RX4 25 yX4_isKept) (List.mem_of_getElem? (i := 40) rfl))
  exact tt_m1 201 (of_decide_eq_true h.1) h.2
theorem m_st_X4_isKept : Cond.static yX4_isKept ∈ TT := by
  have h := Bool.and_eq_true_iff.mp (List.all_eq_true.mp mG_1_60 (202, Cond.static yX4_isKept) (List.mem_of_getElem? (i := 41) rfl))
  exact tt_m1 202 (of_decide_eq_true h.1) h.2
theorem m_cd_X4_isKept : Cond.code yX4_isKept cX4_isKept 1 (some .boolean) ∈ TT := by
  have h := Bool.and_eq_true_iff.mp (List.all_eq_true.mp mG_1_60 (203, Cond.code yX4_isKept cX4_isKept 1 (some .boolean)) (List.mem_of_getElem? (i := 42) rfl))
  exact tt_m1 203 (of_decide_eq_true h.1) h.2
theorem m_lc_X3_128 : Cond.constantLong RX3 128 (10) ∈ TT := by
  have h := Bool.and_eq_true_iff.mp (List.all_eq_true.mp mG_1_60 (204, Cond.constantLong RX3 128 (10)) (List.mem_of_getElem? (i := 43) rfl))
  exact tt_m1 204 (of_decide_eq_true h.1) h.2
theorem m_ml_X5_279 : Cond.methodLink RX5 279 yX5_isTrusted ∈ TT := by
  have h := Bool.and_eq_true_iff.mp (List.all_eq_true.mp mG_1_60 (205, Cond.methodLink RX5 279 yX5_isTrusted) (List.mem_of_getElem? (i := 44) rfl))
  exact tt_m1 205 (of_decide_eq_true h.1) h.2
theorem m_im_X5_isTrusted : Cond.instanceMethod yX5_isTrusted ∈ TT := by
  have h := Bool.and_eq_true_iff.mp (List.all_eq_true.mp mG_1_60 (206, Cond.instanceMethod yX5_isTrusted) (List.mem_of_getElem? (i := 45) rfl))
  exact tt_m1 206 (of_decide_eq_true h.1) h.2
theorem m_sl_X5_isTrusted : Cond.selects RX5 yX5_isTrusted yX5_isTrusted ∈ TT := by
  have h := Bool.and_eq_true_iff.mp (List.all_eq_true.mp mG_1_60 (207, Cond.selects RX5 yX5_isTrusted yX5_isTrusted) (List.mem_of_getElem? (i := 46) rfl))
  exact tt_m1 207 (of_decide_eq_true h.1) h.2
theorem m_cd_X5_isTrusted : Cond.code yX5_isTrusted cX5_isTrusted 2 (some .boolean) ∈ TT := by
  have h := Bool.and_eq_true_iff.mp (List.all_eq_true.mp mG_1_60 (208, Cond.code yX5_isTrusted cX5_isTrusted 2 (some .boolean)) (List.mem_of_getElem? (i := 47) rfl))
  exact tt_m1 208 (of_decide_eq_true h.1) h.2
theorem m_ml_X5_223 : Cond.methodLink RX5 223 yX3_canBeTrusted ∈ TT := by
  have h := Bool.and_eq_true_iff.mp (List.all_eq_true.mp mG_1_60 (209, Cond.methodLink RX5 223 yX3_canBeTrusted) (List.mem_of_getElem? (i := 48) rfl))
  exact tt_m1 209 (of_decide_eq_true h.1) h.2
theorem m_im_X3_canBeTrusted : Cond.instanceMethod yX3_canBeTrusted ∈ TT := by
  have h := Bool.and_eq_true_iff.mp (List.all_eq_true.mp mG_1_60 (210, Cond.instanceMethod yX3_canBeTrusted) (List.mem_of_getElem? (i := 49) rfl))
  exact tt_m1 210 (of_decide_eq_true h.1) h.2
theorem m_sl_X3_canBeTrusted : Cond.selects RX3 yX3_canBeTrusted yX3_canBeTrusted ∈ TT := by
  have h := Bool.and_eq_true_iff.mp (List.all_eq_true.mp mG_1_60 (211, Cond.selects RX3 yX3_canBeTrusted yX3_canBeTrusted) (List.mem_of_getElem? (i := 50) rfl))
  exact tt_m1 211 (of_decide_eq_true h.1) h.2
theorem m_cd_X3_canBeTrusted : Cond.code yX3_canBeTrusted cX3_canBeTrusted 3 (some .boolean) ∈ TT := by
  have h := Bool.and_eq_true_iff.mp (List.all_eq_true.mp mG_1_60 (212, Cond.code yX3_canBeTrusted cX3_canBeTrusted 3 (some .boolean)) (List.mem_of_getElem? (i := 51) rfl))
  exact tt_m1 212 (of_decide_eq_true h.1) h.2
theorem m_ml_X3_130 : Cond.methodLink RX3 130 yX3_badness ∈ TT := by
  have h := Bool.and_eq_true_iff.mp (List.all_eq_true.mp mG_1_60 (213, Cond.methodLink RX3 130 yX3_badness) (List.mem_of_getElem? (i := 52) rfl))
  exact tt_m1 213 (of_decide_eq_true h.1) h.2
theorem m_ml_X3_134 : Cond.methodLink RX3 134 yX3_mostBadness ∈ TT := by
  have h := Bool.and_eq_true_iff.mp (List.all_eq_true.mp mG_1_60 (214, Cond.methodLink RX3 134 yX3_mostBadness) (List.mem_of_getElem? (i := 53) rfl))
  exact tt_m1 214 (of_decide_eq_true h.1) h.2
theorem m_st_X3_mostBadness : Cond.static yX3_mostBadness ∈ TT := by
  have h := Bool.and_eq_true_iff.mp (List.all_eq_true.mp mG_1_60 (215, Cond.static yX3_mostBadness) (List.mem_of_getElem? (i := 54) rfl))
  exact tt_m1 215 (of_decide_eq_true h.1) h.2
theorem m_cd_X3_mostBadness : Cond.code yX3_mostBadness cX3_mostBadness 1 (some .int) ∈ TT := by
  have h := Bool.and_eq_true_iff.mp (List.all_eq_true.mp mG_1_60 (216, Cond.code yX3_mostBadness cX3_mostBadness 1 (some .int)) (List.mem_of_getElem? (i := 55) rfl))
  exact tt_m1 216 (of_decide_eq_true h.1) h.2
theorem m_ml_X5_283 : Cond.methodLink RX5 283 yX5_best ∈ TT := by
  have h := Bool.and_eq_true_iff.mp (List.all_eq_true.mp mG_1_60 (217, Cond.methodLink RX5 283 yX5_best) (List.mem_of_getElem? (i := 56) rfl))
  exact tt_m1 217 (of_decide_eq_true h.1) h.2
theorem m_im_X5_best : Cond.instanceMethod yX5_best ∈ TT := by
  have h := Bool.and_eq_true_iff.mp (List.all_eq_true.mp mG_1_60 (218, Cond.instanceMethod yX5_best) (List.mem_of_getElem? (i := 57) rfl))
  exact tt_m1 218 (of_decide_eq_true h.1) h.2
theorem m_sl_X5_best : Cond.selects RX5 yX5_best yX5_best ∈ TT := by
  have h := Bool.and_eq_true_iff.mp (List.all_eq_true.mp mG_1_60 (219, Cond.selects RX5 yX5_best yX5_best) (List.mem_of_getElem? (i := 58) rfl))
  exact tt_m1 219 (of_decide_eq_true h.1) h.2
theorem m_cd_X5_best : Cond.code yX5_best cX5_best 2 (some .int) ∈ TT := by
  have h := Bool.and_eq_true_iff.mp (List.all_eq_true.mp mG_1_60 (220, Cond.code yX5_best cX5_best 2 (some .int)) (List.mem_of_getElem? (i := 59) rfl))
  exact tt_m1 220 (of_decide_eq_true h.1) h.2
theorem mG_1_120 : ([(221, Cond.methodLink RX5 227 yX4_bestVariant), (222, Cond.instanceMethod yX4_bestVariant), (223, Cond.selects RX4 yX4_bestVariant yX4_bestVariant), (224, Cond.code yX4_bestVariant cX4_bestVariant 3 (some .int)), (225, Cond.methodLink RX4 33 yX4_countOf), (226, Cond.methodLink RX4 40 yX4_meanOf), (227, Cond.instanceMethod yX4_meanOf), (228, Cond.selects RX4 yX4_meanOf yX4_meanOf), (229, Cond.code yX4_meanOf cX4_meanOf 3 (some .double)), (230, Cond.methodLink RX4 37 yX4_sumOf), (231, Cond.instanceMethod yX4_sumOf), (232, Cond.selects RX4 yX4_sumOf yX4_sumOf), (233, Cond.code yX4_sumOf cX4_sumOf 2 (some .int)), (234, Cond.methodLink RX5 289 yX5_weight), (235, Cond.instanceMethod yX5_weight), (236, Cond.selects RX5 yX5_weight yX5_weight), (237, Cond.code yX5_weight cX5_weight 4 (some .int)), (238, Cond.methodLink RX5 49 yX5_checkVariant), (239, Cond.static yX5_checkVariant), (23, Cond.code objectInit ⟨#[0xb1]⟩ 1 none)] : List (Nat × Cond)).all (fun q => decide (tables_1_1[q.1]? = some q.2) && goodWord q.2) = true := by decide +kernel
theorem m_ml_X5_227 : Cond.methodLink RX5 227 yX4_bestVariant ∈ TT := by
  have h := Bool.and_eq_true_iff.mp (List.all_eq_true.mp mG_1_120 (221, Cond.methodLink RX5 227 yX4_bestVariant) (List.mem_of_getElem? (i := 0) rfl))
  exact tt_m1 221 (of_decide_eq_true h.1) h.2
theorem m_im_X4_bestVariant : Cond.instanceMethod yX4_bestVariant ∈ TT := by
  have h := Bool.and_eq_true_iff.mp (List.all_eq_true.mp mG_1_120 (222, Cond.instanceMethod yX4_bestVariant) (List.mem_of_getElem? (i := 1) rfl))
  exact tt_m1 222 (of_decide_eq_true h.1) h.2
theorem m_sl_X4_bestVariant : Cond.selects RX4 yX4_bestVariant yX4_bestVariant ∈ TT := by
  have h := Bool.and_eq_true_iff.mp (List.all_eq_true.mp mG_1_120 (223, Cond.selects RX4 yX4_bestVariant yX4_bestVariant) (List.mem_of_getElem? (i := 2) rfl))
  exact tt_m1 223 (of_decide_eq_true h.1) h.2
theorem m_cd_X4_bestVariant : Cond.code yX4_bestVariant cX4_bestVariant 3 (some .int) ∈ TT := by
  have h := Bool.and_eq_true_iff.mp (List.all_eq_true.mp mG_1_120 (224, Cond.code yX4_bestVariant cX4_bestVariant 3 (some .int)) (List.mem_of_getElem? (i := 3) rfl))
  exact tt_m1 224 (of_decide_eq_true h.1) h.2
theorem m_ml_X4_33 : Cond.methodLink RX4 33 yX4_countOf ∈ TT := by
  have h := Bool.and_eq_true_iff.mp (List.all_eq_true.mp mG_1_120 (225, Cond.methodLink RX4 33 yX4_countOf) (List.mem_of_getElem? (i := 4) rfl))
  exact tt_m1 225 (of_decide_eq_true h.1) h.2
theorem m_ml_X4_40 : Cond.methodLink RX4 40 yX4_meanOf ∈ TT := by
  have h := Bool.and_eq_true_iff.mp (List.all_eq_true.mp mG_1_120 (226, Cond.methodLink RX4 40 yX4_meanOf) (List.mem_of_getElem? (i := 5) rfl))
  exact tt_m1 226 (of_decide_eq_true h.1) h.2
theorem m_im_X4_meanOf : Cond.instanceMethod yX4_meanOf ∈ TT := by
  have h := Bool.and_eq_true_iff.mp (List.all_eq_true.mp mG_1_120 (227, Cond.instanceMethod yX4_meanOf) (List.mem_of_getElem? (i := 6) rfl))
  exact tt_m1 227 (of_decide_eq_true h.1) h.2
theorem m_sl_X4_meanOf : Cond.selects RX4 yX4_meanOf yX4_meanOf ∈ TT := by
  have h := Bool.and_eq_true_iff.mp (List.all_eq_true.mp mG_1_120 (228, Cond.selects RX4 yX4_meanOf yX4_meanOf) (List.mem_of_getElem? (i := 7) rfl))
  exact tt_m1 228 (of_decide_eq_true h.1) h.2
theorem m_cd_X4_meanOf : Cond.code yX4_meanOf cX4_meanOf 3 (some .double) ∈ TT := by
  have h := Bool.and_eq_true_iff.mp (List.all_eq_true.mp mG_1_120 (229, Cond.code yX4_meanOf cX4_meanOf 3 (some .double)) (List.mem_of_getElem? (i := 8) rfl))
  exact tt_m1 229 (of_decide_eq_true h.1) h.2
theorem m_ml_X4_37 : Cond.methodLink RX4 37 yX4_sumOf ∈ TT := by
  have h := Bool.and_eq_true_iff.mp (List.all_eq_true.mp mG_1_120 (230, Cond.methodLink RX4 37 yX4_sumOf) (List.mem_of_getElem? (i := 9) rfl))
  exact tt_m1 230 (of_decide_eq_true h.1) h.2
theorem m_im_X4_sumOf : Cond.instanceMethod yX4_sumOf ∈ TT := by
  have h := Bool.and_eq_true_iff.mp (List.all_eq_true.mp mG_1_120 (231, Cond.instanceMethod yX4_sumOf) (List.mem_of_getElem? (i := 10) rfl))
  exact tt_m1 231 (of_decide_eq_true h.1) h.2
theorem m_sl_X4_sumOf : Cond.selects RX4 yX4_sumOf yX4_sumOf ∈ TT := by
  have h := Bool.and_eq_true_iff.mp (List.all_eq_true.mp mG_1_120 (232, Cond.selects RX4 yX4_sumOf yX4_sumOf) (List.mem_of_getElem? (i := 11) rfl))
  exact tt_m1 232 (of_decide_eq_true h.1) h.2
theorem m_cd_X4_sumOf : Cond.code yX4_sumOf cX4_sumOf 2 (some .int) ∈ TT := by
  have h := Bool.and_eq_true_iff.mp (List.all_eq_true.mp mG_1_120 (233, Cond.code yX4_sumOf cX4_sumOf 2 (some .int)) (List.mem_of_getElem? (i := 12) rfl))
  exact tt_m1 233 (of_decide_eq_true h.1) h.2
theorem m_ml_X5_289 : Cond.methodLink RX5 289 yX5_weight ∈ TT := by
  have h := Bool.and_eq_true_iff.mp (List.all_eq_true.mp mG_1_120 (234, Cond.methodLink RX5 289 yX5_weight) (List.mem_of_getElem? (i := 13) rfl))
  exact tt_m1 234 (of_decide_eq_true h.1) h.2
theorem m_im_X5_weight : Cond.instanceMethod yX5_weight ∈ TT := by
  have h := Bool.and_eq_true_iff.mp (List.all_eq_true.mp mG_1_120 (235, Cond.instanceMethod yX5_weight) (List.mem_of_getElem? (i := 14) rfl))
  exact tt_m1 235 (of_decide_eq_true h.1) h.2
theorem m_sl_X5_weight : Cond.selects RX5 yX5_weight yX5_weight ∈ TT := by
  have h := Bool.and_eq_true_iff.mp (List.all_eq_true.mp mG_1_120 (236, Cond.selects RX5 yX5_weight yX5_weight) (List.mem_of_getElem? (i := 15) rfl))
  exact tt_m1 236 (of_decide_eq_true h.1) h.2
theorem m_cd_X5_weight : Cond.code yX5_weight cX5_weight 4 (some .int) ∈ TT := by
  have h := Bool.and_eq_true_iff.mp (List.all_eq_true.mp mG_1_120 (237, Cond.code yX5_weight cX5_weight 4 (some .int)) (List.mem_of_getElem? (i := 16) rfl))
  exact tt_m1 237 (of_decide_eq_true h.1) h.2
theorem m_ml_X5_49 : Cond.methodLink RX5 49 yX5_checkVariant ∈ TT := by
  have h := Bool.and_eq_true_iff.mp (List.all_eq_true.mp mG_1_120 (238, Cond.methodLink RX5 49 yX5_checkVariant) (List.mem_of_getElem? (i := 17) rfl))
  exact tt_m1 238 (of_decide_eq_true h.1) h.2
theorem m_st_X5_checkVariant : Cond.static yX5_checkVariant ∈ TT := by
  have h := Bool.and_eq_true_iff.mp (List.all_eq_true.mp mG_1_120 (239, Cond.static yX5_checkVariant) (List.mem_of_getElem? (i := 18) rfl))
  exact tt_m1 239 (of_decide_eq_true h.1) h.2
theorem m_cd_objectInit : Cond.code objectInit ⟨#[0xb1]⟩ 1 none ∈ TT := by
  have h := Bool.and_eq_true_iff.mp (List.all_eq_true.mp mG_1_120 (23, Cond.code objectInit ⟨#[0xb1]⟩ 1 none) (List.mem_of_getElem? (i := 19) rfl))
  exact tt_m1 23 (of_decide_eq_true h.1) h.2
theorem mG_2_0 : ([(0, Cond.code yX5_checkVariant cX5_checkVariant 2 none), (2, Cond.methodLink RX5 53 yX3_weightOf), (3, Cond.instanceMethod yX3_weightOf), (4, Cond.selects RX3 yX3_weightOf yX3_weightOf), (5, Cond.code yX3_weightOf cX3_weightOf 2 (some .int)), (6, Cond.methodLink RX5 292 yX5_told), (7, Cond.instanceMethod yX5_told), (8, Cond.selects RX5 yX5_told yX5_told), (9, Cond.code yX5_told cX5_told 5 (some .int)), (10, Cond.methodLink RX5 192 yX4_countOf), (11, Cond.methodLink RX5 197 yX4_actedOf), (12, Cond.instanceMethod yX4_actedOf), (13, Cond.selects RX4 yX4_actedOf yX4_actedOf), (14, Cond.code yX4_actedOf cX4_actedOf 2 (some .int)), (15, Cond.methodLink RX5 200 yX4_sumOf), (16, Cond.methodLink RX5 203 yX4_squaresOf), (17, Cond.instanceMethod yX4_squaresOf), (18, Cond.selects RX4 yX4_squaresOf yX4_squaresOf), (19, Cond.code yX4_squaresOf cX4_squaresOf 2 (some .long)), (20, Cond.classLink RX5 26 "java/lang/IllegalArgumentException"), (30, Cond.methodLink RX5 30 ⟨"java/lang/IllegalArgumentException", "<init>", "(Ljava/lang/String;)V"⟩), (36, Cond.methodLink RX5 296 yX5_reach), (37, Cond.instanceMethod yX5_reach), (38, Cond.selects RX5 yX5_reach yX5_reach), (39, Cond.code yX5_reach cX5_reach 7 (some .int)), (40, Cond.methodLink RX5 230 yX5_checkMany), (41, Cond.static yX5_checkMany), (42, Cond.code yX5_checkMany cX5_checkMany 1 none), (44, Cond.methodLink RX5 233 yX1_becomeCounted), (45, Cond.instanceMethod yX1_becomeCounted), (46, Cond.selects RX1 yX1_becomeCounted yX1_becomeCounted), (47, Cond.code yX1_becomeCounted cX1_becomeCounted 2 none), (48, Cond.methodLink RX1 27 yX1_become), (49, Cond.instanceMethod yX1_become), (50, Cond.selects RX1 yX1_become yX1_become), (51, Cond.code yX1_become cX1_become 4 none), (52, Cond.methodLink RX5 151 yX5_variantOf), (54, Cond.instanceMethod yX5_variantOf), (55, Cond.code yX5_variantOf cX5_variantOf 2 (some .int)), (56, Cond.methodLink RX5 155 yX5_reasonOf), (58, Cond.instanceMethod yX5_reasonOf), (59, Cond.code yX5_reasonOf cX5_reasonOf 3 (some .int)), (60, Cond.methodLink RX5 340 yX1_findsOn), (61, Cond.instanceMethod yX1_findsOn), (62, Cond.selects RX1 yX1_findsOn yX1_findsOn), (63, Cond.code yX1_findsOn cX1_findsOn 2 (some .boolean)), (64, Cond.methodLink RX5 344 yX5_hasNeed), (66, Cond.instanceMethod yX5_hasNeed), (67, Cond.code yX5_hasNeed cX5_hasNeed 3 (some .boolean)), (68, Cond.methodLink RX5 168 yX3_armOf), (69, Cond.instanceMethod yX3_armOf), (70, Cond.selects RX3 yX3_armOf yX3_armOf), (71, Cond.code yX3_armOf cX3_armOf 3 (some (.object "DaybreakFlags$Arm"))), (72, Cond.methodLink RX5 158 yX3_firstRuleFor), (73, Cond.instanceMethod yX3_firstRuleFor), (74, Cond.selects RX3 yX3_firstRuleFor yX3_firstRuleFor), (75, Cond.code yX3_firstRuleFor cX3_firstRuleFor 5 (some .int)), (76, Cond.methodLink RX3 81 yX2_isMetBy), (77, Cond.instanceMethod yX2_isMetBy), (78, Cond.selects RX2 yX2_isMetBy yX2_isMetBy)] : List (Nat × Cond)).all (fun q => decide (tables_1_2[q.1]? = some q.2) && goodWord q.2) = true := by decide +kernel
theorem m_cd_X5_checkVariant : Cond.code yX5_checkVariant cX5_checkVariant 2 none ∈ TT := by
  have h := Bool.and_eq_true_iff.mp (List.all_eq_true.mp mG_2_0 (0, Cond.code yX5_checkVariant cX5_checkVariant 2 none) (List.mem_of_getElem? (i := 0) rfl))
  exact tt_m2 0 (of_decide_eq_true h.1) h.2
theorem m_ml_X5_53 : Cond.methodLink RX5 53 yX3_weightOf ∈ TT := by
  have h := Bool.and_eq_true_iff.mp (List.all_eq_true.mp mG_2_0 (2, Cond.methodLink RX5 53 yX3_weightOf) (List.mem_of_getElem? (i := 1) rfl))
  exact tt_m2 2 (of_decide_eq_true h.1) h.2
theorem m_im_X3_weightOf : Cond.instanceMethod yX3_weightOf ∈ TT := by
  have h := Bool.and_eq_true_iff.mp (List.all_eq_true.mp mG_2_0 (3, Cond.instanceMethod yX3_weightOf) (List.mem_of_getElem? (i := 2) rfl))
  exact tt_m2 3 (of_decide_eq_true h.1) h.2
theorem m_sl_X3_weightOf : Cond.selects RX3 yX3_weightOf yX3_weightOf ∈ TT := by
  have h := Bool.and_eq_true_iff.mp (List.all_eq_true.mp mG_2_0 (4, Cond.selects RX3 yX3_weightOf yX3_weightOf) (List.mem_of_getElem? (i := 3) rfl))
  exact tt_m2 4 (of_decide_eq_true h.1) h.2
theorem m_cd_X3_weightOf : Cond.code yX3_weightOf cX3_weightOf 2 (some .int) ∈ TT := by
  have h := Bool.and_eq_true_iff.mp (List.all_eq_true.mp mG_2_0 (5, Cond.code yX3_weightOf cX3_weightOf 2 (some .int)) (List.mem_of_getElem? (i := 4) rfl))
  exact tt_m2 5 (of_decide_eq_true h.1) h.2
theorem m_ml_X5_292 : Cond.methodLink RX5 292 yX5_told ∈ TT := by
  have h := Bool.and_eq_true_iff.mp (List.all_eq_true.mp mG_2_0 (6, Cond.methodLink RX5 292 yX5_told) (List.mem_of_getElem? (i := 5) rfl))
  exact tt_m2 6 (of_decide_eq_true h.1) h.2
theorem m_im_X5_told : Cond.instanceMethod yX5_told ∈ TT := by
  have h := Bool.and_eq_true_iff.mp (List.all_eq_true.mp mG_2_0 (7, Cond.instanceMethod yX5_told) (List.mem_of_getElem? (i := 6) rfl))
  exact tt_m2 7 (of_decide_eq_true h.1) h.2
theorem m_sl_X5_told : Cond.selects RX5 yX5_told yX5_told ∈ TT := by
  have h := Bool.and_eq_true_iff.mp (List.all_eq_true.mp mG_2_0 (8, Cond.selects RX5 yX5_told yX5_told) (List.mem_of_getElem? (i := 7) rfl))
  exact tt_m2 8 (of_decide_eq_true h.1) h.2
theorem m_cd_X5_told : Cond.code yX5_told cX5_told 5 (some .int) ∈ TT := by
  have h := Bool.and_eq_true_iff.mp (List.all_eq_true.mp mG_2_0 (9, Cond.code yX5_told cX5_told 5 (some .int)) (List.mem_of_getElem? (i := 8) rfl))
  exact tt_m2 9 (of_decide_eq_true h.1) h.2
theorem m_ml_X5_192 : Cond.methodLink RX5 192 yX4_countOf ∈ TT := by
  have h := Bool.and_eq_true_iff.mp (List.all_eq_true.mp mG_2_0 (10, Cond.methodLink RX5 192 yX4_countOf) (List.mem_of_getElem? (i := 9) rfl))
  exact tt_m2 10 (of_decide_eq_true h.1) h.2
theorem m_ml_X5_197 : Cond.methodLink RX5 197 yX4_actedOf ∈ TT := by
  have h := Bool.and_eq_true_iff.mp (List.all_eq_true.mp mG_2_0 (11, Cond.methodLink RX5 197 yX4_actedOf) (List.mem_of_getElem? (i := 10) rfl))
  exact tt_m2 11 (of_decide_eq_true h.1) h.2
theorem m_im_X4_actedOf : Cond.instanceMethod yX4_actedOf ∈ TT := by
  have h := Bool.and_eq_true_iff.mp (List.all_eq_true.mp mG_2_0 (12, Cond.instanceMethod yX4_actedOf) (List.mem_of_getElem? (i := 11) rfl))
  exact tt_m2 12 (of_decide_eq_true h.1) h.2
theorem m_sl_X4_actedOf : Cond.selects RX4 yX4_actedOf yX4_actedOf ∈ TT := by
  have h := Bool.and_eq_true_iff.mp (List.all_eq_true.mp mG_2_0 (13, Cond.selects RX4 yX4_actedOf yX4_actedOf) (List.mem_of_getElem? (i := 12) rfl))
  exact tt_m2 13 (of_decide_eq_true h.1) h.2
theorem m_cd_X4_actedOf : Cond.code yX4_actedOf cX4_actedOf 2 (some .int) ∈ TT := by
  have h := Bool.and_eq_true_iff.mp (List.all_eq_true.mp mG_2_0 (14, Cond.code yX4_actedOf cX4_actedOf 2 (some .int)) (List.mem_of_getElem? (i := 13) rfl))
  exact tt_m2 14 (of_decide_eq_true h.1) h.2
theorem m_ml_X5_200 : Cond.methodLink RX5 200 yX4_sumOf ∈ TT := by
  have h := Bool.and_eq_true_iff.mp (List.all_eq_true.mp mG_2_0 (15, Cond.methodLink RX5 200 yX4_sumOf) (List.mem_of_getElem? (i := 14) rfl))
  exact tt_m2 15 (of_decide_eq_true h.1) h.2
theorem m_ml_X5_203 : Cond.methodLink RX5 203 yX4_squaresOf ∈ TT := by
  have h := Bool.and_eq_true_iff.mp (List.all_eq_true.mp mG_2_0 (16, Cond.methodLink RX5 203 yX4_squaresOf) (List.mem_of_getElem? (i := 15) rfl))
  exact tt_m2 16 (of_decide_eq_true h.1) h.2
theorem m_im_X4_squaresOf : Cond.instanceMethod yX4_squaresOf ∈ TT := by
  have h := Bool.and_eq_true_iff.mp (List.all_eq_true.mp mG_2_0 (17, Cond.instanceMethod yX4_squaresOf) (List.mem_of_getElem? (i := 16) rfl))
  exact tt_m2 17 (of_decide_eq_true h.1) h.2
theorem m_sl_X4_squaresOf : Cond.selects RX4 yX4_squaresOf yX4_squaresOf ∈ TT := by
  have h := Bool.and_eq_true_iff.mp (List.all_eq_true.mp mG_2_0 (18, Cond.selects RX4 yX4_squaresOf yX4_squaresOf) (List.mem_of_getElem? (i := 17) rfl))
  exact tt_m2 18 (of_decide_eq_true h.1) h.2
theorem m_cd_X4_squaresOf : Cond.code yX4_squaresOf cX4_squaresOf 2 (some .long) ∈ TT := by
  have h := Bool.and_eq_true_iff.mp (List.all_eq_true.mp mG_2_0 (19, Cond.code yX4_squaresOf cX4_squaresOf 2 (some .long)) (List.mem_of_getElem? (i := 18) rfl))
  exact tt_m2 19 (of_decide_eq_true h.1) h.2
theorem m_cl_X5_26 : Cond.classLink RX5 26 "java/lang/IllegalArgumentException" ∈ TT := by
  have h := Bool.and_eq_true_iff.mp (List.all_eq_true.mp mG_2_0 (20, Cond.classLink RX5 26 "java/lang/IllegalArgumentException") (List.mem_of_getElem? (i := 19) rfl))
  exact tt_m2 20 (of_decide_eq_true h.1) h.2
theorem m_ml_X5_30 : Cond.methodLink RX5 30 ⟨"java/lang/IllegalArgumentException", "<init>", "(Ljava/lang/String;)V"⟩ ∈ TT := by
  have h := Bool.and_eq_true_iff.mp (List.all_eq_true.mp mG_2_0 (30, Cond.methodLink RX5 30 ⟨"java/lang/IllegalArgumentException", "<init>", "(Ljava/lang/String;)V"⟩) (List.mem_of_getElem? (i := 20) rfl))
  exact tt_m2 30 (of_decide_eq_true h.1) h.2
theorem m_ml_X5_296 : Cond.methodLink RX5 296 yX5_reach ∈ TT := by
  have h := Bool.and_eq_true_iff.mp (List.all_eq_true.mp mG_2_0 (36, Cond.methodLink RX5 296 yX5_reach) (List.mem_of_getElem? (i := 21) rfl))
  exact tt_m2 36 (of_decide_eq_true h.1) h.2
theorem m_im_X5_reach : Cond.instanceMethod yX5_reach ∈ TT := by
  have h := Bool.and_eq_true_iff.mp (List.all_eq_true.mp mG_2_0 (37, Cond.instanceMethod yX5_reach) (List.mem_of_getElem? (i := 22) rfl))
  exact tt_m2 37 (of_decide_eq_true h.1) h.2
theorem m_sl_X5_reach : Cond.selects RX5 yX5_reach yX5_reach ∈ TT := by
  have h := Bool.and_eq_true_iff.mp (List.all_eq_true.mp mG_2_0 (38, Cond.selects RX5 yX5_reach yX5_reach) (List.mem_of_getElem? (i := 23) rfl))
  exact tt_m2 38 (of_decide_eq_true h.1) h.2
theorem m_cd_X5_reach : Cond.code yX5_reach cX5_reach 7 (some .int) ∈ TT := by
  have h := Bool.and_eq_true_iff.mp (List.all_eq_true.mp mG_2_0 (39, Cond.code yX5_reach cX5_reach 7 (some .int)) (List.mem_of_getElem? (i := 24) rfl))
  exact tt_m2 39 (of_decide_eq_true h.1) h.2
theorem m_ml_X5_230 : Cond.methodLink RX5 230 yX5_checkMany ∈ TT := by
  have h := Bool.and_eq_true_iff.mp (List.all_eq_true.mp mG_2_0 (40, Cond.methodLink RX5 230 yX5_checkMany) (List.mem_of_getElem? (i := 25) rfl))
  exact tt_m2 40 (of_decide_eq_true h.1) h.2
theorem m_st_X5_checkMany : Cond.static yX5_checkMany ∈ TT := by
  have h := Bool.and_eq_true_iff.mp (List.all_eq_true.mp mG_2_0 (41, Cond.static yX5_checkMany) (List.mem_of_getElem? (i := 26) rfl))
  exact tt_m2 41 (of_decide_eq_true h.1) h.2
theorem m_cd_X5_checkMany : Cond.code yX5_checkMany cX5_checkMany 1 none ∈ TT := by
  have h := Bool.and_eq_true_iff.mp (List.all_eq_true.mp mG_2_0 (42, Cond.code yX5_checkMany cX5_checkMany 1 none) (List.mem_of_getElem? (i := 27) rfl))
  exact tt_m2 42 (of_decide_eq_true h.1) h.2
theorem m_ml_X5_233 : Cond.methodLink RX5 233 yX1_becomeCounted ∈ TT := by
  have h := Bool.and_eq_true_iff.mp (List.all_eq_true.mp mG_2_0 (44, Cond.methodLink RX5 233 yX1_becomeCounted) (List.mem_of_getElem? (i := 28) rfl))
  exact tt_m2 44 (of_decide_eq_true h.1) h.2
theorem m_im_X1_becomeCounted : Cond.instanceMethod yX1_becomeCounted ∈ TT := by
  have h := Bool.and_eq_true_iff.mp (List.all_eq_true.mp mG_2_0 (45, Cond.instanceMethod yX1_becomeCounted) (List.mem_of_getElem? (i := 29) rfl))
  exact tt_m2 45 (of_decide_eq_true h.1) h.2
theorem m_sl_X1_becomeCounted : Cond.selects RX1 yX1_becomeCounted yX1_becomeCounted ∈ TT := by
  have h := Bool.and_eq_true_iff.mp (List.all_eq_true.mp mG_2_0 (46, Cond.selects RX1 yX1_becomeCounted yX1_becomeCounted) (List.mem_of_getElem? (i := 30) rfl))
  exact tt_m2 46 (of_decide_eq_true h.1) h.2
theorem m_cd_X1_becomeCounted : Cond.code yX1_becomeCounted cX1_becomeCounted 2 none ∈ TT := by
  have h := Bool.and_eq_true_iff.mp (List.all_eq_true.mp mG_2_0 (47, Cond.code yX1_becomeCounted cX1_becomeCounted 2 none) (List.mem_of_getElem? (i := 31) rfl))
  exact tt_m2 47 (of_decide_eq_true h.1) h.2
theorem m_ml_X1_27 : Cond.methodLink RX1 27 yX1_become ∈ TT := by
  have h := Bool.and_eq_true_iff.mp (List.all_eq_true.mp mG_2_0 (48, Cond.methodLink RX1 27 yX1_become) (List.mem_of_getElem? (i := 32) rfl))
  exact tt_m2 48 (of_decide_eq_true h.1) h.2
theorem m_im_X1_become : Cond.instanceMethod yX1_become ∈ TT := by
  have h := Bool.and_eq_true_iff.mp (List.all_eq_true.mp mG_2_0 (49, Cond.instanceMethod yX1_become) (List.mem_of_getElem? (i := 33) rfl))
  exact tt_m2 49 (of_decide_eq_true h.1) h.2
theorem m_sl_X1_become : Cond.selects RX1 yX1_become yX1_become ∈ TT := by
  have h := Bool.and_eq_true_iff.mp (List.all_eq_true.mp mG_2_0 (50, Cond.selects RX1 yX1_become yX1_become) (List.mem_of_getElem? (i := 34) rfl))
  exact tt_m2 50 (of_decide_eq_true h.1) h.2
theorem m_cd_X1_become : Cond.code yX1_become cX1_become 4 none ∈ TT := by
  have h := Bool.and_eq_true_iff.mp (List.all_eq_true.mp mG_2_0 (51, Cond.code yX1_become cX1_become 4 none) (List.mem_of_getElem? (i := 35) rfl))
  exact tt_m2 51 (of_decide_eq_true h.1) h.2
theorem m_ml_X5_151 : Cond.methodLink RX5 151 yX5_variantOf ∈ TT := by
  have h := Bool.and_eq_true_iff.mp (List.all_eq_true.mp mG_2_0 (52, Cond.methodLink RX5 151 yX5_variantOf) (List.mem_of_getElem? (i := 36) rfl))
  exact tt_m2 52 (of_decide_eq_true h.1) h.2
theorem m_im_X5_variantOf : Cond.instanceMethod yX5_variantOf ∈ TT := by
  have h := Bool.and_eq_true_iff.mp (List.all_eq_true.mp mG_2_0 (54, Cond.instanceMethod yX5_variantOf) (List.mem_of_getElem? (i := 37) rfl))
  exact tt_m2 54 (of_decide_eq_true h.1) h.2
theorem m_cd_X5_variantOf : Cond.code yX5_variantOf cX5_variantOf 2 (some .int) ∈ TT := by
  have h := Bool.and_eq_true_iff.mp (List.all_eq_true.mp mG_2_0 (55, Cond.code yX5_variantOf cX5_variantOf 2 (some .int)) (List.mem_of_getElem? (i := 38) rfl))
  exact tt_m2 55 (of_decide_eq_true h.1) h.2
theorem m_ml_X5_155 : Cond.methodLink RX5 155 yX5_reasonOf ∈ TT := by
  have h := Bool.and_eq_true_iff.mp (List.all_eq_true.mp mG_2_0 (56, Cond.methodLink RX5 155 yX5_reasonOf) (List.mem_of_getElem? (i := 39) rfl))
  exact tt_m2 56 (of_decide_eq_true h.1) h.2
theorem m_im_X5_reasonOf : Cond.instanceMethod yX5_reasonOf ∈ TT := by
  have h := Bool.and_eq_true_iff.mp (List.all_eq_true.mp mG_2_0 (58, Cond.instanceMethod yX5_reasonOf) (List.mem_of_getElem? (i := 40) rfl))
  exact tt_m2 58 (of_decide_eq_true h.1) h.2
theorem m_cd_X5_reasonOf : Cond.code yX5_reasonOf cX5_reasonOf 3 (some .int) ∈ TT := by
  have h := Bool.and_eq_true_iff.mp (List.all_eq_true.mp mG_2_0 (59, Cond.code yX5_reasonOf cX5_reasonOf 3 (some .int)) (List.mem_of_getElem? (i := 41) rfl))
  exact tt_m2 59 (of_decide_eq_true h.1) h.2
theorem m_ml_X5_340 : Cond.methodLink RX5 340 yX1_findsOn ∈ TT := by
  have h := Bool.and_eq_true_iff.mp (List.all_eq_true.mp mG_2_0 (60, Cond.methodLink RX5 340 yX1_findsOn) (List.mem_of_getElem? (i := 42) rfl))
  exact tt_m2 60 (of_decide_eq_true h.1) h.2
theorem m_im_X1_findsOn : Cond.instanceMethod yX1_findsOn ∈ TT := by
  have h := Bool.and_eq_true_iff.mp (List.all_eq_true.mp mG_2_0 (61, Cond.instanceMethod yX1_findsOn) (List.mem_of_getElem? (i := 43) rfl))
  exact tt_m2 61 (of_decide_eq_true h.1) h.2
theorem m_sl_X1_findsOn : Cond.selects RX1 yX1_findsOn yX1_findsOn ∈ TT := by
  have h := Bool.and_eq_true_iff.mp (List.all_eq_true.mp mG_2_0 (62, Cond.selects RX1 yX1_findsOn yX1_findsOn) (List.mem_of_getElem? (i := 44) rfl))
  exact tt_m2 62 (of_decide_eq_true h.1) h.2
theorem m_cd_X1_findsOn : Cond.code yX1_findsOn cX1_findsOn 2 (some .boolean) ∈ TT := by
  have h := Bool.and_eq_true_iff.mp (List.all_eq_true.mp mG_2_0 (63, Cond.code yX1_findsOn cX1_findsOn 2 (some .boolean)) (List.mem_of_getElem? (i := 45) rfl))
  exact tt_m2 63 (of_decide_eq_true h.1) h.2
theorem m_ml_X5_344 : Cond.methodLink RX5 344 yX5_hasNeed ∈ TT := by
  have h := Bool.and_eq_true_iff.mp (List.all_eq_true.mp mG_2_0 (64, Cond.methodLink RX5 344 yX5_hasNeed) (List.mem_of_getElem? (i := 46) rfl))
  exact tt_m2 64 (of_decide_eq_true h.1) h.2
theorem m_im_X5_hasNeed : Cond.instanceMethod yX5_hasNeed ∈ TT := by
  have h := Bool.and_eq_true_iff.mp (List.all_eq_true.mp mG_2_0 (66, Cond.instanceMethod yX5_hasNeed) (List.mem_of_getElem? (i := 47) rfl))
  exact tt_m2 66 (of_decide_eq_true h.1) h.2
theorem m_cd_X5_hasNeed : Cond.code yX5_hasNeed cX5_hasNeed 3 (some .boolean) ∈ TT := by
  have h := Bool.and_eq_true_iff.mp (List.all_eq_true.mp mG_2_0 (67, Cond.code yX5_hasNeed cX5_hasNeed 3 (some .boolean)) (List.mem_of_getElem? (i := 48) rfl))
  exact tt_m2 67 (of_decide_eq_true h.1) h.2
theorem m_ml_X5_168 : Cond.methodLink RX5 168 yX3_armOf ∈ TT := by
  have h := Bool.and_eq_true_iff.mp (List.all_eq_true.mp mG_2_0 (68, Cond.methodLink RX5 168 yX3_armOf) (List.mem_of_getElem? (i := 49) rfl))
  exact tt_m2 68 (of_decide_eq_true h.1) h.2
theorem m_im_X3_armOf : Cond.instanceMethod yX3_armOf ∈ TT := by
  have h := Bool.and_eq_true_iff.mp (List.all_eq_true.mp mG_2_0 (69, Cond.instanceMethod yX3_armOf) (List.mem_of_getElem? (i := 50) rfl))
  exact tt_m2 69 (of_decide_eq_true h.1) h.2
theorem m_sl_X3_armOf : Cond.selects RX3 yX3_armOf yX3_armOf ∈ TT := by
  have h := Bool.and_eq_true_iff.mp (List.all_eq_true.mp mG_2_0 (70, Cond.selects RX3 yX3_armOf yX3_armOf) (List.mem_of_getElem? (i := 51) rfl))
  exact tt_m2 70 (of_decide_eq_true h.1) h.2
theorem m_cd_X3_armOf : Cond.code yX3_armOf cX3_armOf 3 (some (.object "DaybreakFlags$Arm")) ∈ TT := by
  have h := Bool.and_eq_true_iff.mp (List.all_eq_true.mp mG_2_0 (71, Cond.code yX3_armOf cX3_armOf 3 (some (.object "DaybreakFlags$Arm"))) (List.mem_of_getElem? (i := 52) rfl))
  exact tt_m2 71 (of_decide_eq_true h.1) h.2
theorem m_ml_X5_158 : Cond.methodLink RX5 158 yX3_firstRuleFor ∈ TT := by
  have h := Bool.and_eq_true_iff.mp (List.all_eq_true.mp mG_2_0 (72, Cond.methodLink RX5 158 yX3_firstRuleFor) (List.mem_of_getElem? (i := 53) rfl))
  exact tt_m2 72 (of_decide_eq_true h.1) h.2
theorem m_im_X3_firstRuleFor : Cond.instanceMethod yX3_firstRuleFor ∈ TT := by
  have h := Bool.and_eq_true_iff.mp (List.all_eq_true.mp mG_2_0 (73, Cond.instanceMethod yX3_firstRuleFor) (List.mem_of_getElem? (i := 54) rfl))
  exact tt_m2 73 (of_decide_eq_true h.1) h.2
theorem m_sl_X3_firstRuleFor : Cond.selects RX3 yX3_firstRuleFor yX3_firstRuleFor ∈ TT := by
  have h := Bool.and_eq_true_iff.mp (List.all_eq_true.mp mG_2_0 (74, Cond.selects RX3 yX3_firstRuleFor yX3_firstRuleFor) (List.mem_of_getElem? (i := 55) rfl))
  exact tt_m2 74 (of_decide_eq_true h.1) h.2
theorem m_cd_X3_firstRuleFor : Cond.code yX3_firstRuleFor cX3_firstRuleFor 5 (some .int) ∈ TT := by
  have h := Bool.and_eq_true_iff.mp (List.all_eq_true.mp mG_2_0 (75, Cond.code yX3_firstRuleFor cX3_firstRuleFor 5 (some .int)) (List.mem_of_getElem? (i := 56) rfl))
  exact tt_m2 75 (of_decide_eq_true h.1) h.2
theorem m_ml_X3_81 : Cond.methodLink RX3 81 yX2_isMetBy ∈ TT := by
  have h := Bool.and_eq_true_iff.mp (List.all_eq_true.mp mG_2_0 (76, Cond.methodLink RX3 81 yX2_isMetBy) (List.mem_of_getElem? (i := 57) rfl))
  exact tt_m2 76 (of_decide_eq_true h.1) h.2
theorem m_im_X2_isMetBy : Cond.instanceMethod yX2_isMetBy ∈ TT := by
  have h := Bool.and_eq_true_iff.mp (List.all_eq_true.mp mG_2_0 (77, Cond.instanceMethod yX2_isMetBy) (List.mem_of_getElem? (i := 58) rfl))
  exact tt_m2 77 (of_decide_eq_true h.1) h.2
theorem m_sl_X2_isMetBy : Cond.selects RX2 yX2_isMetBy yX2_isMetBy ∈ TT := by
  have h := Bool.and_eq_true_iff.mp (List.all_eq_true.mp mG_2_0 (78, Cond.selects RX2 yX2_isMetBy yX2_isMetBy) (List.mem_of_getElem? (i := 59) rfl))
  exact tt_m2 78 (of_decide_eq_true h.1) h.2
theorem mG_2_60 : ([(79, Cond.code yX2_isMetBy cX2_isMetBy 4 (some .boolean)), (80, Cond.methodLink RX5 329 yX3_ruleAt), (81, Cond.instanceMethod yX3_ruleAt), (82, Cond.selects RX3 yX3_ruleAt yX3_ruleAt), (83, Cond.code yX3_ruleAt cX3_ruleAt 2 (some (.object "DaybreakFlags$Rule"))), (84, Cond.methodLink RX5 141 yX5_bucketOf), (85, Cond.static yX5_bucketOf), (86, Cond.code yX5_bucketOf cX5_bucketOf 4 (some .int)), (87, Cond.methodLink RX5 350 yX5_isInLayer), (89, Cond.instanceMethod yX5_isInLayer), (90, Cond.code yX5_isInLayer cX5_isInLayer 3 (some .boolean)), (91, Cond.methodLink RX5 353 yX1_findsFar), (92, Cond.instanceMethod yX1_findsFar), (93, Cond.selects RX1 yX1_findsFar yX1_findsFar), (94, Cond.code yX1_findsFar cX1_findsFar 3 (some .int)), (95, Cond.methodLink RX1 43 yX3_farAt), (96, Cond.methodLink RX5 161 yX5_variantBy), (98, Cond.instanceMethod yX5_variantBy), (99, Cond.code yX5_variantBy cX5_variantBy 5 (some .int)), (100, Cond.methodLink RX5 337 yX3_splitBy), (101, Cond.instanceMethod yX3_splitBy), (102, Cond.selects RX3 yX3_splitBy yX3_splitBy), (103, Cond.code yX3_splitBy cX3_splitBy 4 (some .int)), (104, Cond.methodLink RX5 263 yX5_gets), (105, Cond.instanceMethod yX5_gets), (106, Cond.selects RX5 yX5_gets yX5_gets), (107, Cond.code yX5_gets cX5_gets 6 (some .int)), (108, Cond.methodLink RX5 145 yX5_checkAsker), (109, Cond.static yX5_checkAsker), (110, Cond.code yX5_checkAsker cX5_checkAsker 3 none), (112, Cond.methodLink RX5 148 yX1_become), (113, Cond.methodLink RX5 267 yX5_why), (114, Cond.instanceMethod yX5_why), (115, Cond.selects RX5 yX5_why yX5_why), (116, Cond.code yX5_why cX5_why 6 (some .int)), (117, Cond.methodLink RX5 270 yX5_arm), (118, Cond.instanceMethod yX5_arm), (119, Cond.selects RX5 yX5_arm yX5_arm), (120, Cond.code yX5_arm cX5_arm 5 (some .int)), (122, Cond.methodLink RL 124 yL_add), (123, Cond.static yL_add), (124, Cond.codeWith yL_add cL_add 6 (some .int) [(0, 12, 15, 13), (0, 12, 19, 15)]), (125, Cond.classLink RL 13 "java/lang/IllegalArgumentException"), (126, Cond.classLink RL 15 "java/lang/IllegalStateException"), (127, Cond.methodLink RL 7 yX5_add), (128, Cond.instanceMethod yX5_add), (129, Cond.selects RX5 yX5_add yX5_add), (130, Cond.code yX5_add cX5_add 5 (some .int)), (132, Cond.classLink RX5 37 "java/lang/IllegalStateException"), (142, Cond.methodLink RX5 41 ⟨"java/lang/IllegalStateException", "<init>", "(Ljava/lang/String;)V"⟩), (148, Cond.instantiable RX3 18), (149, Cond.methodLink RX5 42 yX3_init), (150, Cond.instanceMethod yX3_init), (151, Cond.code yX3_init cX3_init 5 none), (152, Cond.methodLink RX3 3 ⟨"java/lang/Object", "<init>", "()V"⟩), (153, Cond.classLink RX3 15 RX2), (155, Cond.classLink RX3 21 RX4), (156, Cond.instantiable RX4 5), (158, Cond.instanceMethod yX4_init), (159, Cond.code yX4_init cX4_init 1 none)] : List (Nat × Cond)).all (fun q => decide (tables_1_2[q.1]? = some q.2) && goodWord q.2) = true := by decide +kernel
theorem m_cd_X2_isMetBy : Cond.code yX2_isMetBy cX2_isMetBy 4 (some .boolean) ∈ TT := by
  have h := Bool.and_eq_true_iff.mp (List.all_eq_true.mp mG_2_60 (79, Cond.code yX2_isMetBy cX2_isMetBy 4 (some .boolean)) (List.mem_of_getElem? (i := 0) rfl))
  exact tt_m2 79 (of_decide_eq_true h.1) h.2
theorem m_ml_X5_329 : Cond.methodLink RX5 329 yX3_ruleAt ∈ TT := by
  have h := Bool.and_eq_true_iff.mp (List.all_eq_true.mp mG_2_60 (80, Cond.methodLink RX5 329 yX3_ruleAt) (List.mem_of_getElem? (i := 1) rfl))
  exact tt_m2 80 (of_decide_eq_true h.1) h.2
theorem m_im_X3_ruleAt : Cond.instanceMethod yX3_ruleAt ∈ TT := by
  have h := Bool.and_eq_true_iff.mp (List.all_eq_true.mp mG_2_60 (81, Cond.instanceMethod yX3_ruleAt) (List.mem_of_getElem? (i := 2) rfl))
  exact tt_m2 81 (of_decide_eq_true h.1) h.2
theorem m_sl_X3_ruleAt : Cond.selects RX3 yX3_ruleAt yX3_ruleAt ∈ TT := by
  have h := Bool.and_eq_true_iff.mp (List.all_eq_true.mp mG_2_60 (82, Cond.selects RX3 yX3_ruleAt yX3_ruleAt) (List.mem_of_getElem? (i := 3) rfl))
  exact tt_m2 82 (of_decide_eq_true h.1) h.2
theorem m_cd_X3_ruleAt : Cond.code yX3_ruleAt cX3_ruleAt 2 (some (.object "DaybreakFlags$Rule")) ∈ TT := by
  have h := Bool.and_eq_true_iff.mp (List.all_eq_true.mp mG_2_60 (83, Cond.code yX3_ruleAt cX3_ruleAt 2 (some (.object "DaybreakFlags$Rule"))) (List.mem_of_getElem? (i := 4) rfl))
  exact tt_m2 83 (of_decide_eq_true h.1) h.2
theorem m_ml_X5_141 : Cond.methodLink RX5 141 yX5_bucketOf ∈ TT := by
  have h := Bool.and_eq_true_iff.mp (List.all_eq_true.mp mG_2_60 (84, Cond.methodLink RX5 141 yX5_bucketOf) (List.mem_of_getElem? (i := 5) rfl))
  exact tt_m2 84 (of_decide_eq_true h.1) h.2
theorem m_st_X5_bucketOf : Cond.static yX5_bucketOf ∈ TT := by
  have h := Bool.and_eq_true_iff.mp (List.all_eq_true.mp mG_2_60 (85, Cond.static yX5_bucketOf) (List.mem_of_getElem? (i := 6) rfl))
  exact tt_m2 85 (of_decide_eq_true h.1) h.2
theorem m_cd_X5_bucketOf : Cond.code yX5_bucketOf cX5_bucketOf 4 (some .int) ∈ TT := by
  have h := Bool.and_eq_true_iff.mp (List.all_eq_true.mp mG_2_60 (86, Cond.code yX5_bucketOf cX5_bucketOf 4 (some .int)) (List.mem_of_getElem? (i := 7) rfl))
  exact tt_m2 86 (of_decide_eq_true h.1) h.2
theorem m_ml_X5_350 : Cond.methodLink RX5 350 yX5_isInLayer ∈ TT := by
  have h := Bool.and_eq_true_iff.mp (List.all_eq_true.mp mG_2_60 (87, Cond.methodLink RX5 350 yX5_isInLayer) (List.mem_of_getElem? (i := 8) rfl))
  exact tt_m2 87 (of_decide_eq_true h.1) h.2
theorem m_im_X5_isInLayer : Cond.instanceMethod yX5_isInLayer ∈ TT := by
  have h := Bool.and_eq_true_iff.mp (List.all_eq_true.mp mG_2_60 (89, Cond.instanceMethod yX5_isInLayer) (List.mem_of_getElem? (i := 9) rfl))
  exact tt_m2 89 (of_decide_eq_true h.1) h.2
theorem m_cd_X5_isInLayer : Cond.code yX5_isInLayer cX5_isInLayer 3 (some .boolean) ∈ TT := by
  have h := Bool.and_eq_true_iff.mp (List.all_eq_true.mp mG_2_60 (90, Cond.code yX5_isInLayer cX5_isInLayer 3 (some .boolean)) (List.mem_of_getElem? (i := 10) rfl))
  exact tt_m2 90 (of_decide_eq_true h.1) h.2
theorem m_ml_X5_353 : Cond.methodLink RX5 353 yX1_findsFar ∈ TT := by
  have h := Bool.and_eq_true_iff.mp (List.all_eq_true.mp mG_2_60 (91, Cond.methodLink RX5 353 yX1_findsFar) (List.mem_of_getElem? (i := 11) rfl))
  exact tt_m2 91 (of_decide_eq_true h.1) h.2
theorem m_im_X1_findsFar : Cond.instanceMethod yX1_findsFar ∈ TT := by
  have h := Bool.and_eq_true_iff.mp (List.all_eq_true.mp mG_2_60 (92, Cond.instanceMethod yX1_findsFar) (List.mem_of_getElem? (i := 12) rfl))
  exact tt_m2 92 (of_decide_eq_true h.1) h.2
theorem m_sl_X1_findsFar : Cond.selects RX1 yX1_findsFar yX1_findsFar ∈ TT := by
  have h := Bool.and_eq_true_iff.mp (List.all_eq_true.mp mG_2_60 (93, Cond.selects RX1 yX1_findsFar yX1_findsFar) (List.mem_of_getElem? (i := 13) rfl))
  exact tt_m2 93 (of_decide_eq_true h.1) h.2
theorem m_cd_X1_findsFar : Cond.code yX1_findsFar cX1_findsFar 3 (some .int) ∈ TT := by
  have h := Bool.and_eq_true_iff.mp (List.all_eq_true.mp mG_2_60 (94, Cond.code yX1_findsFar cX1_findsFar 3 (some .int)) (List.mem_of_getElem? (i := 14) rfl))
  exact tt_m2 94 (of_decide_eq_true h.1) h.2
theorem m_ml_X1_43 : Cond.methodLink RX1 43 yX3_farAt ∈ TT := by
  have h := Bool.and_eq_true_iff.mp (List.all_eq_true.mp mG_2_60 (95, Cond.methodLink RX1 43 yX3_farAt) (List.mem_of_getElem? (i := 15) rfl))
  exact tt_m2 95 (of_decide_eq_true h.1) h.2
theorem m_ml_X5_161 : Cond.methodLink RX5 161 yX5_variantBy ∈ TT := by
  have h := Bool.and_eq_true_iff.mp (List.all_eq_true.mp mG_2_60 (96, Cond.methodLink RX5 161 yX5_variantBy) (List.mem_of_getElem? (i := 16) rfl))
  exact tt_m2 96 (of_decide_eq_true h.1) h.2
theorem m_im_X5_variantBy : Cond.instanceMethod yX5_variantBy ∈ TT := by
  have h := Bool.and_eq_true_iff.mp (List.all_eq_true.mp mG_2_60 (98, Cond.instanceMethod yX5_variantBy) (List.mem_of_getElem? (i := 17) rfl))
  exact tt_m2 98 (of_decide_eq_true h.1) h.2
theorem m_cd_X5_variantBy : Cond.code yX5_variantBy cX5_variantBy 5 (some .int) ∈ TT := by
  have h := Bool.and_eq_true_iff.mp (List.all_eq_true.mp mG_2_60 (99, Cond.code yX5_variantBy cX5_variantBy 5 (some .int)) (List.mem_of_getElem? (i := 18) rfl))
  exact tt_m2 99 (of_decide_eq_true h.1) h.2
theorem m_ml_X5_337 : Cond.methodLink RX5 337 yX3_splitBy ∈ TT := by
  have h := Bool.and_eq_true_iff.mp (List.all_eq_true.mp mG_2_60 (100, Cond.methodLink RX5 337 yX3_splitBy) (List.mem_of_getElem? (i := 19) rfl))
  exact tt_m2 100 (of_decide_eq_true h.1) h.2
theorem m_im_X3_splitBy : Cond.instanceMethod yX3_splitBy ∈ TT := by
  have h := Bool.and_eq_true_iff.mp (List.all_eq_true.mp mG_2_60 (101, Cond.instanceMethod yX3_splitBy) (List.mem_of_getElem? (i := 20) rfl))
  exact tt_m2 101 (of_decide_eq_true h.1) h.2
theorem m_sl_X3_splitBy : Cond.selects RX3 yX3_splitBy yX3_splitBy ∈ TT := by
  have h := Bool.and_eq_true_iff.mp (List.all_eq_true.mp mG_2_60 (102, Cond.selects RX3 yX3_splitBy yX3_splitBy) (List.mem_of_getElem? (i := 21) rfl))
  exact tt_m2 102 (of_decide_eq_true h.1) h.2
theorem m_cd_X3_splitBy : Cond.code yX3_splitBy cX3_splitBy 4 (some .int) ∈ TT := by
  have h := Bool.and_eq_true_iff.mp (List.all_eq_true.mp mG_2_60 (103, Cond.code yX3_splitBy cX3_splitBy 4 (some .int)) (List.mem_of_getElem? (i := 22) rfl))
  exact tt_m2 103 (of_decide_eq_true h.1) h.2
theorem m_ml_X5_263 : Cond.methodLink RX5 263 yX5_gets ∈ TT := by
  have h := Bool.and_eq_true_iff.mp (List.all_eq_true.mp mG_2_60 (104, Cond.methodLink RX5 263 yX5_gets) (List.mem_of_getElem? (i := 23) rfl))
  exact tt_m2 104 (of_decide_eq_true h.1) h.2
theorem m_im_X5_gets : Cond.instanceMethod yX5_gets ∈ TT := by
  have h := Bool.and_eq_true_iff.mp (List.all_eq_true.mp mG_2_60 (105, Cond.instanceMethod yX5_gets) (List.mem_of_getElem? (i := 24) rfl))
  exact tt_m2 105 (of_decide_eq_true h.1) h.2
theorem m_sl_X5_gets : Cond.selects RX5 yX5_gets yX5_gets ∈ TT := by
  have h := Bool.and_eq_true_iff.mp (List.all_eq_true.mp mG_2_60 (106, Cond.selects RX5 yX5_gets yX5_gets) (List.mem_of_getElem? (i := 25) rfl))
  exact tt_m2 106 (of_decide_eq_true h.1) h.2
theorem m_cd_X5_gets : Cond.code yX5_gets cX5_gets 6 (some .int) ∈ TT := by
  have h := Bool.and_eq_true_iff.mp (List.all_eq_true.mp mG_2_60 (107, Cond.code yX5_gets cX5_gets 6 (some .int)) (List.mem_of_getElem? (i := 26) rfl))
  exact tt_m2 107 (of_decide_eq_true h.1) h.2
theorem m_ml_X5_145 : Cond.methodLink RX5 145 yX5_checkAsker ∈ TT := by
  have h := Bool.and_eq_true_iff.mp (List.all_eq_true.mp mG_2_60 (108, Cond.methodLink RX5 145 yX5_checkAsker) (List.mem_of_getElem? (i := 27) rfl))
  exact tt_m2 108 (of_decide_eq_true h.1) h.2
theorem m_st_X5_checkAsker : Cond.static yX5_checkAsker ∈ TT := by
  have h := Bool.and_eq_true_iff.mp (List.all_eq_true.mp mG_2_60 (109, Cond.static yX5_checkAsker) (List.mem_of_getElem? (i := 28) rfl))
  exact tt_m2 109 (of_decide_eq_true h.1) h.2
theorem m_cd_X5_checkAsker : Cond.code yX5_checkAsker cX5_checkAsker 3 none ∈ TT := by
  have h := Bool.and_eq_true_iff.mp (List.all_eq_true.mp mG_2_60 (110, Cond.code yX5_checkAsker cX5_checkAsker 3 none) (List.mem_of_getElem? (i := 29) rfl))
  exact tt_m2 110 (of_decide_eq_true h.1) h.2
theorem m_ml_X5_148 : Cond.methodLink RX5 148 yX1_become ∈ TT := by
  have h := Bool.and_eq_true_iff.mp (List.all_eq_true.mp mG_2_60 (112, Cond.methodLink RX5 148 yX1_become) (List.mem_of_getElem? (i := 30) rfl))
  exact tt_m2 112 (of_decide_eq_true h.1) h.2
theorem m_ml_X5_267 : Cond.methodLink RX5 267 yX5_why ∈ TT := by
  have h := Bool.and_eq_true_iff.mp (List.all_eq_true.mp mG_2_60 (113, Cond.methodLink RX5 267 yX5_why) (List.mem_of_getElem? (i := 31) rfl))
  exact tt_m2 113 (of_decide_eq_true h.1) h.2
theorem m_im_X5_why : Cond.instanceMethod yX5_why ∈ TT := by
  have h := Bool.and_eq_true_iff.mp (List.all_eq_true.mp mG_2_60 (114, Cond.instanceMethod yX5_why) (List.mem_of_getElem? (i := 32) rfl))
  exact tt_m2 114 (of_decide_eq_true h.1) h.2
theorem m_sl_X5_why : Cond.selects RX5 yX5_why yX5_why ∈ TT := by
  have h := Bool.and_eq_true_iff.mp (List.all_eq_true.mp mG_2_60 (115, Cond.selects RX5 yX5_why yX5_why) (List.mem_of_getElem? (i := 33) rfl))
  exact tt_m2 115 (of_decide_eq_true h.1) h.2
theorem m_cd_X5_why : Cond.code yX5_why cX5_why 6 (some .int) ∈ TT := by
  have h := Bool.and_eq_true_iff.mp (List.all_eq_true.mp mG_2_60 (116, Cond.code yX5_why cX5_why 6 (some .int)) (List.mem_of_getElem? (i := 34) rfl))
  exact tt_m2 116 (of_decide_eq_true h.1) h.2
theorem m_ml_X5_270 : Cond.methodLink RX5 270 yX5_arm ∈ TT := by
  have h := Bool.and_eq_true_iff.mp (List.all_eq_true.mp mG_2_60 (117, Cond.methodLink RX5 270 yX5_arm) (List.mem_of_getElem? (i := 35) rfl))
  exact tt_m2 117 (of_decide_eq_true h.1) h.2
theorem m_im_X5_arm : Cond.instanceMethod yX5_arm ∈ TT := by
  have h := Bool.and_eq_true_iff.mp (List.all_eq_true.mp mG_2_60 (118, Cond.instanceMethod yX5_arm) (List.mem_of_getElem? (i := 36) rfl))
  exact tt_m2 118 (of_decide_eq_true h.1) h.2
theorem m_sl_X5_arm : Cond.selects RX5 yX5_arm yX5_arm ∈ TT := by
  have h := Bool.and_eq_true_iff.mp (List.all_eq_true.mp mG_2_60 (119, Cond.selects RX5 yX5_arm yX5_arm) (List.mem_of_getElem? (i := 37) rfl))
  exact tt_m2 119 (of_decide_eq_true h.1) h.2
theorem m_cd_X5_arm : Cond.code yX5_arm cX5_arm 5 (some .int) ∈ TT := by
  have h := Bool.and_eq_true_iff.mp (List.all_eq_true.mp mG_2_60 (120, Cond.code yX5_arm cX5_arm 5 (some .int)) (List.mem_of_getElem? (i := 38) rfl))
  exact tt_m2 120 (of_decide_eq_true h.1) h.2
theorem m_ml_L_124 : Cond.methodLink RL 124 yL_add ∈ TT := by
  have h := Bool.and_eq_true_iff.mp (List.all_eq_true.mp mG_2_60 (122, Cond.methodLink RL 124 yL_add) (List.mem_of_getElem? (i := 39) rfl))
  exact tt_m2 122 (of_decide_eq_true h.1) h.2
theorem m_st_L_add : Cond.static yL_add ∈ TT := by
  have h := Bool.and_eq_true_iff.mp (List.all_eq_true.mp mG_2_60 (123, Cond.static yL_add) (List.mem_of_getElem? (i := 40) rfl))
  exact tt_m2 123 (of_decide_eq_true h.1) h.2
theorem m_cd_L_add : Cond.codeWith yL_add cL_add 6 (some .int) [(0, 12, 15, 13), (0, 12, 19, 15)] ∈ TT := by
  have h := Bool.and_eq_true_iff.mp (List.all_eq_true.mp mG_2_60 (124, Cond.codeWith yL_add cL_add 6 (some .int) [(0, 12, 15, 13), (0, 12, 19, 15)]) (List.mem_of_getElem? (i := 41) rfl))
  exact tt_m2 124 (of_decide_eq_true h.1) h.2
theorem m_cl_L_13 : Cond.classLink RL 13 "java/lang/IllegalArgumentException" ∈ TT := by
  have h := Bool.and_eq_true_iff.mp (List.all_eq_true.mp mG_2_60 (125, Cond.classLink RL 13 "java/lang/IllegalArgumentException") (List.mem_of_getElem? (i := 42) rfl))
  exact tt_m2 125 (of_decide_eq_true h.1) h.2
theorem m_cl_L_15 : Cond.classLink RL 15 "java/lang/IllegalStateException" ∈ TT := by
  have h := Bool.and_eq_true_iff.mp (List.all_eq_true.mp mG_2_60 (126, Cond.classLink RL 15 "java/lang/IllegalStateException") (List.mem_of_getElem? (i := 43) rfl))
  exact tt_m2 126 (of_decide_eq_true h.1) h.2
theorem m_ml_L_7 : Cond.methodLink RL 7 yX5_add ∈ TT := by
  have h := Bool.and_eq_true_iff.mp (List.all_eq_true.mp mG_2_60 (127, Cond.methodLink RL 7 yX5_add) (List.mem_of_getElem? (i := 44) rfl))
  exact tt_m2 127 (of_decide_eq_true h.1) h.2
theorem m_im_X5_add : Cond.instanceMethod yX5_add ∈ TT := by
  have h := Bool.and_eq_true_iff.mp (List.all_eq_true.mp mG_2_60 (128, Cond.instanceMethod yX5_add) (List.mem_of_getElem? (i := 45) rfl))
  exact tt_m2 128 (of_decide_eq_true h.1) h.2
theorem m_sl_X5_add : Cond.selects RX5 yX5_add yX5_add ∈ TT := by
  have h := Bool.and_eq_true_iff.mp (List.all_eq_true.mp mG_2_60 (129, Cond.selects RX5 yX5_add yX5_add) (List.mem_of_getElem? (i := 46) rfl))
  exact tt_m2 129 (of_decide_eq_true h.1) h.2
theorem m_cd_X5_add : Cond.code yX5_add cX5_add 5 (some .int) ∈ TT := by
  have h := Bool.and_eq_true_iff.mp (List.all_eq_true.mp mG_2_60 (130, Cond.code yX5_add cX5_add 5 (some .int)) (List.mem_of_getElem? (i := 47) rfl))
  exact tt_m2 130 (of_decide_eq_true h.1) h.2
theorem m_cl_X5_37 : Cond.classLink RX5 37 "java/lang/IllegalStateException" ∈ TT := by
  have h := Bool.and_eq_true_iff.mp (List.all_eq_true.mp mG_2_60 (132, Cond.classLink RX5 37 "java/lang/IllegalStateException") (List.mem_of_getElem? (i := 48) rfl))
  exact tt_m2 132 (of_decide_eq_true h.1) h.2
theorem m_ml_X5_41 : Cond.methodLink RX5 41 ⟨"java/lang/IllegalStateException", "<init>", "(Ljava/lang/String;)V"⟩ ∈ TT := by
  have h := Bool.and_eq_true_iff.mp (List.all_eq_true.mp mG_2_60 (142, Cond.methodLink RX5 41 ⟨"java/lang/IllegalStateException", "<init>", "(Ljava/lang/String;)V"⟩) (List.mem_of_getElem? (i := 49) rfl))
  exact tt_m2 142 (of_decide_eq_true h.1) h.2
theorem m_nw_X3 : Cond.instantiable RX3 18 ∈ TT := by
  have h := Bool.and_eq_true_iff.mp (List.all_eq_true.mp mG_2_60 (148, Cond.instantiable RX3 18) (List.mem_of_getElem? (i := 50) rfl))
  exact tt_m2 148 (of_decide_eq_true h.1) h.2
theorem m_ml_X5_42 : Cond.methodLink RX5 42 yX3_init ∈ TT := by
  have h := Bool.and_eq_true_iff.mp (List.all_eq_true.mp mG_2_60 (149, Cond.methodLink RX5 42 yX3_init) (List.mem_of_getElem? (i := 51) rfl))
  exact tt_m2 149 (of_decide_eq_true h.1) h.2
theorem m_im_X3_init : Cond.instanceMethod yX3_init ∈ TT := by
  have h := Bool.and_eq_true_iff.mp (List.all_eq_true.mp mG_2_60 (150, Cond.instanceMethod yX3_init) (List.mem_of_getElem? (i := 52) rfl))
  exact tt_m2 150 (of_decide_eq_true h.1) h.2
theorem m_cd_X3_init : Cond.code yX3_init cX3_init 5 none ∈ TT := by
  have h := Bool.and_eq_true_iff.mp (List.all_eq_true.mp mG_2_60 (151, Cond.code yX3_init cX3_init 5 none) (List.mem_of_getElem? (i := 53) rfl))
  exact tt_m2 151 (of_decide_eq_true h.1) h.2
theorem m_ml_X3_3 : Cond.methodLink RX3 3 ⟨"java/lang/Object", "<init>", "()V"⟩ ∈ TT := by
  have h := Bool.and_eq_true_iff.mp (List.all_eq_true.mp mG_2_60 (152, Cond.methodLink RX3 3 ⟨"java/lang/Object", "<init>", "()V"⟩) (List.mem_of_getElem? (i := 54) rfl))
  exact tt_m2 152 (of_decide_eq_true h.1) h.2
theorem m_cl_X3_15 : Cond.classLink RX3 15 RX2 ∈ TT := by
  have h := Bool.and_eq_true_iff.mp (List.all_eq_true.mp mG_2_60 (153, Cond.classLink RX3 15 RX2) (List.mem_of_getElem? (i := 55) rfl))
  exact tt_m2 153 (of_decide_eq_true h.1) h.2
theorem m_cl_X3_21 : Cond.classLink RX3 21 RX4 ∈ TT := by
  have h := Bool.and_eq_true_iff.mp (List.all_eq_true.mp mG_2_60 (155, Cond.classLink RX3 21 RX4) (List.mem_of_getElem? (i := 56) rfl))
  exact tt_m2 155 (of_decide_eq_true h.1) h.2
theorem m_nw_X4 : Cond.instantiable RX4 5 ∈ TT := by
  have h := Bool.and_eq_true_iff.mp (List.all_eq_true.mp mG_2_60 (156, Cond.instantiable RX4 5) (List.mem_of_getElem? (i := 57) rfl))
  exact tt_m2 156 (of_decide_eq_true h.1) h.2
theorem m_im_X4_init : Cond.instanceMethod yX4_init ∈ TT := by
  have h := Bool.and_eq_true_iff.mp (List.all_eq_true.mp mG_2_60 (158, Cond.instanceMethod yX4_init) (List.mem_of_getElem? (i := 58) rfl))
  exact tt_m2 158 (of_decide_eq_true h.1) h.2
theorem m_cd_X4_init : Cond.code yX4_init cX4_init 1 none ∈ TT := by
  have h := Bool.and_eq_true_iff.mp (List.all_eq_true.mp mG_2_60 (159, Cond.code yX4_init cX4_init 1 none) (List.mem_of_getElem? (i := 59) rfl))
  exact tt_m2 159 (of_decide_eq_true h.1) h.2
theorem mG_2_120 : ([(160, Cond.methodLink RX4 3 ⟨"java/lang/Object", "<init>", "()V"⟩), (161, Cond.fieldLink RX4 9 "DaybreakFlags$Tally" "counts" "[I"), (162, Cond.fieldLink RX4 15 "DaybreakFlags$Tally" "acted" "[I"), (163, Cond.fieldLink RX4 18 "DaybreakFlags$Tally" "sums" "[I"), (164, Cond.fieldLink RX4 21 "DaybreakFlags$Tally" "squares" "[J"), (165, Cond.fieldLink RX4 29 "DaybreakFlags$Tally" "total" "I"), (178, Cond.arrayClass .int), (179, Cond.arrayClass .long), (180, Cond.fieldLink RX3 38 "DaybreakFlags$Switch" "number" "I"), (183, Cond.fieldLink RX3 41 "DaybreakFlags$Switch" "salt" "I"), (185, Cond.fieldLink RX3 44 "DaybreakFlags$Switch" "variantCount" "I"), (187, Cond.fieldLink RX3 47 "DaybreakFlags$Switch" "isSticky" "Z"), (189, Cond.fieldLink RX3 9 "DaybreakFlags$Switch" "weights" "[I"), (190, Cond.fieldLink RX3 17 "DaybreakFlags$Switch" "rules" "[LDaybreakFlags$Rule;"), (191, Cond.fieldLink RX3 24 "DaybreakFlags$Switch" "tally" "LDaybreakFlags$Tally;"), (193, Cond.fieldLink RX3 85 "DaybreakFlags$Switch" "newest" "LDaybreakFlags$Arm;"), (195, Cond.fieldLink RX3 74 "DaybreakFlags$Switch" "ruleCount" "I"), (198, Cond.fieldLink RX3 28 "DaybreakFlags$Switch" "startShare" "I"), (199, Cond.fieldLink RX3 51 "DaybreakFlags$Switch" "step" "I"), (200, Cond.fieldLink RX3 54 "DaybreakFlags$Switch" "rampedAt" "I"), (201, Cond.fieldLink RX3 32 "DaybreakFlags$Switch" "layer" "I"), (204, Cond.fieldLink RX3 59 "DaybreakFlags$Switch" "from" "I"), (206, Cond.fieldLink RX3 68 "DaybreakFlags$Switch" "to" "I"), (207, Cond.fieldLink RX3 35 "DaybreakFlags$Switch" "needed" "I")] : List (Nat × Cond)).all (fun q => decide (tables_1_2[q.1]? = some q.2) && goodWord q.2) = true := by decide +kernel
theorem m_ml_X4_3 : Cond.methodLink RX4 3 ⟨"java/lang/Object", "<init>", "()V"⟩ ∈ TT := by
  have h := Bool.and_eq_true_iff.mp (List.all_eq_true.mp mG_2_120 (160, Cond.methodLink RX4 3 ⟨"java/lang/Object", "<init>", "()V"⟩) (List.mem_of_getElem? (i := 0) rfl))
  exact tt_m2 160 (of_decide_eq_true h.1) h.2
theorem m_fl_X4_9 : Cond.fieldLink RX4 9 "DaybreakFlags$Tally" "counts" "[I" ∈ TT := by
  have h := Bool.and_eq_true_iff.mp (List.all_eq_true.mp mG_2_120 (161, Cond.fieldLink RX4 9 "DaybreakFlags$Tally" "counts" "[I") (List.mem_of_getElem? (i := 1) rfl))
  exact tt_m2 161 (of_decide_eq_true h.1) h.2
theorem m_fl_X4_15 : Cond.fieldLink RX4 15 "DaybreakFlags$Tally" "acted" "[I" ∈ TT := by
  have h := Bool.and_eq_true_iff.mp (List.all_eq_true.mp mG_2_120 (162, Cond.fieldLink RX4 15 "DaybreakFlags$Tally" "acted" "[I") (List.mem_of_getElem? (i := 2) rfl))
  exact tt_m2 162 (of_decide_eq_true h.1) h.2
theorem m_fl_X4_18 : Cond.fieldLink RX4 18 "DaybreakFlags$Tally" "sums" "[I" ∈ TT := by
  have h := Bool.and_eq_true_iff.mp (List.all_eq_true.mp mG_2_120 (163, Cond.fieldLink RX4 18 "DaybreakFlags$Tally" "sums" "[I") (List.mem_of_getElem? (i := 3) rfl))
  exact tt_m2 163 (of_decide_eq_true h.1) h.2
theorem m_fl_X4_21 : Cond.fieldLink RX4 21 "DaybreakFlags$Tally" "squares" "[J" ∈ TT := by
  have h := Bool.and_eq_true_iff.mp (List.all_eq_true.mp mG_2_120 (164, Cond.fieldLink RX4 21 "DaybreakFlags$Tally" "squares" "[J") (List.mem_of_getElem? (i := 4) rfl))
  exact tt_m2 164 (of_decide_eq_true h.1) h.2
theorem m_fl_X4_29 : Cond.fieldLink RX4 29 "DaybreakFlags$Tally" "total" "I" ∈ TT := by
  have h := Bool.and_eq_true_iff.mp (List.all_eq_true.mp mG_2_120 (165, Cond.fieldLink RX4 29 "DaybreakFlags$Tally" "total" "I") (List.mem_of_getElem? (i := 5) rfl))
  exact tt_m2 165 (of_decide_eq_true h.1) h.2
theorem m_ar_int : Cond.arrayClass .int ∈ TT := by
  have h := Bool.and_eq_true_iff.mp (List.all_eq_true.mp mG_2_120 (178, Cond.arrayClass .int) (List.mem_of_getElem? (i := 6) rfl))
  exact tt_m2 178 (of_decide_eq_true h.1) h.2
theorem m_ar_long : Cond.arrayClass .long ∈ TT := by
  have h := Bool.and_eq_true_iff.mp (List.all_eq_true.mp mG_2_120 (179, Cond.arrayClass .long) (List.mem_of_getElem? (i := 7) rfl))
  exact tt_m2 179 (of_decide_eq_true h.1) h.2
theorem m_fl_X3_38 : Cond.fieldLink RX3 38 "DaybreakFlags$Switch" "number" "I" ∈ TT := by
  have h := Bool.and_eq_true_iff.mp (List.all_eq_true.mp mG_2_120 (180, Cond.fieldLink RX3 38 "DaybreakFlags$Switch" "number" "I") (List.mem_of_getElem? (i := 8) rfl))
  exact tt_m2 180 (of_decide_eq_true h.1) h.2
theorem m_fl_X3_41 : Cond.fieldLink RX3 41 "DaybreakFlags$Switch" "salt" "I" ∈ TT := by
  have h := Bool.and_eq_true_iff.mp (List.all_eq_true.mp mG_2_120 (183, Cond.fieldLink RX3 41 "DaybreakFlags$Switch" "salt" "I") (List.mem_of_getElem? (i := 9) rfl))
  exact tt_m2 183 (of_decide_eq_true h.1) h.2
theorem m_fl_X3_44 : Cond.fieldLink RX3 44 "DaybreakFlags$Switch" "variantCount" "I" ∈ TT := by
  have h := Bool.and_eq_true_iff.mp (List.all_eq_true.mp mG_2_120 (185, Cond.fieldLink RX3 44 "DaybreakFlags$Switch" "variantCount" "I") (List.mem_of_getElem? (i := 10) rfl))
  exact tt_m2 185 (of_decide_eq_true h.1) h.2
theorem m_fl_X3_47 : Cond.fieldLink RX3 47 "DaybreakFlags$Switch" "isSticky" "Z" ∈ TT := by
  have h := Bool.and_eq_true_iff.mp (List.all_eq_true.mp mG_2_120 (187, Cond.fieldLink RX3 47 "DaybreakFlags$Switch" "isSticky" "Z") (List.mem_of_getElem? (i := 11) rfl))
  exact tt_m2 187 (of_decide_eq_true h.1) h.2
theorem m_fl_X3_9 : Cond.fieldLink RX3 9 "DaybreakFlags$Switch" "weights" "[I" ∈ TT := by
  have h := Bool.and_eq_true_iff.mp (List.all_eq_true.mp mG_2_120 (189, Cond.fieldLink RX3 9 "DaybreakFlags$Switch" "weights" "[I") (List.mem_of_getElem? (i := 12) rfl))
  exact tt_m2 189 (of_decide_eq_true h.1) h.2
theorem m_fl_X3_17 : Cond.fieldLink RX3 17 "DaybreakFlags$Switch" "rules" "[LDaybreakFlags$Rule;" ∈ TT := by
  have h := Bool.and_eq_true_iff.mp (List.all_eq_true.mp mG_2_120 (190, Cond.fieldLink RX3 17 "DaybreakFlags$Switch" "rules" "[LDaybreakFlags$Rule;") (List.mem_of_getElem? (i := 13) rfl))
  exact tt_m2 190 (of_decide_eq_true h.1) h.2
theorem m_fl_X3_24 : Cond.fieldLink RX3 24 "DaybreakFlags$Switch" "tally" "LDaybreakFlags$Tally;" ∈ TT := by
  have h := Bool.and_eq_true_iff.mp (List.all_eq_true.mp mG_2_120 (191, Cond.fieldLink RX3 24 "DaybreakFlags$Switch" "tally" "LDaybreakFlags$Tally;") (List.mem_of_getElem? (i := 14) rfl))
  exact tt_m2 191 (of_decide_eq_true h.1) h.2
theorem m_fl_X3_85 : Cond.fieldLink RX3 85 "DaybreakFlags$Switch" "newest" "LDaybreakFlags$Arm;" ∈ TT := by
  have h := Bool.and_eq_true_iff.mp (List.all_eq_true.mp mG_2_120 (193, Cond.fieldLink RX3 85 "DaybreakFlags$Switch" "newest" "LDaybreakFlags$Arm;") (List.mem_of_getElem? (i := 15) rfl))
  exact tt_m2 193 (of_decide_eq_true h.1) h.2
theorem m_fl_X3_74 : Cond.fieldLink RX3 74 "DaybreakFlags$Switch" "ruleCount" "I" ∈ TT := by
  have h := Bool.and_eq_true_iff.mp (List.all_eq_true.mp mG_2_120 (195, Cond.fieldLink RX3 74 "DaybreakFlags$Switch" "ruleCount" "I") (List.mem_of_getElem? (i := 16) rfl))
  exact tt_m2 195 (of_decide_eq_true h.1) h.2
theorem m_fl_X3_28 : Cond.fieldLink RX3 28 "DaybreakFlags$Switch" "startShare" "I" ∈ TT := by
  have h := Bool.and_eq_true_iff.mp (List.all_eq_true.mp mG_2_120 (198, Cond.fieldLink RX3 28 "DaybreakFlags$Switch" "startShare" "I") (List.mem_of_getElem? (i := 17) rfl))
  exact tt_m2 198 (of_decide_eq_true h.1) h.2
theorem m_fl_X3_51 : Cond.fieldLink RX3 51 "DaybreakFlags$Switch" "step" "I" ∈ TT := by
  have h := Bool.and_eq_true_iff.mp (List.all_eq_true.mp mG_2_120 (199, Cond.fieldLink RX3 51 "DaybreakFlags$Switch" "step" "I") (List.mem_of_getElem? (i := 18) rfl))
  exact tt_m2 199 (of_decide_eq_true h.1) h.2
theorem m_fl_X3_54 : Cond.fieldLink RX3 54 "DaybreakFlags$Switch" "rampedAt" "I" ∈ TT := by
  have h := Bool.and_eq_true_iff.mp (List.all_eq_true.mp mG_2_120 (200, Cond.fieldLink RX3 54 "DaybreakFlags$Switch" "rampedAt" "I") (List.mem_of_getElem? (i := 19) rfl))
  exact tt_m2 200 (of_decide_eq_true h.1) h.2
theorem m_fl_X3_32 : Cond.fieldLink RX3 32 "DaybreakFlags$Switch" "layer" "I" ∈ TT := by
  have h := Bool.and_eq_true_iff.mp (List.all_eq_true.mp mG_2_120 (201, Cond.fieldLink RX3 32 "DaybreakFlags$Switch" "layer" "I") (List.mem_of_getElem? (i := 20) rfl))
  exact tt_m2 201 (of_decide_eq_true h.1) h.2
theorem m_fl_X3_59 : Cond.fieldLink RX3 59 "DaybreakFlags$Switch" "from" "I" ∈ TT := by
  have h := Bool.and_eq_true_iff.mp (List.all_eq_true.mp mG_2_120 (204, Cond.fieldLink RX3 59 "DaybreakFlags$Switch" "from" "I") (List.mem_of_getElem? (i := 21) rfl))
  exact tt_m2 204 (of_decide_eq_true h.1) h.2
theorem m_fl_X3_68 : Cond.fieldLink RX3 68 "DaybreakFlags$Switch" "to" "I" ∈ TT := by
  have h := Bool.and_eq_true_iff.mp (List.all_eq_true.mp mG_2_120 (206, Cond.fieldLink RX3 68 "DaybreakFlags$Switch" "to" "I") (List.mem_of_getElem? (i := 22) rfl))
  exact tt_m2 206 (of_decide_eq_true h.1) h.2
theorem m_fl_X3_35 : Cond.fieldLink RX3 35 "DaybreakFlags$Switch" "needed" "I" ∈ TT := by
  have h := Bool.and_eq_true_iff.mp (List.all_eq_true.mp mG_2_120 (207, Cond.fieldLink RX3 35 "DaybreakFlags$Switch" "needed" "I") (List.mem_of_getElem? (i := 23) rfl))
  exact tt_m2 207 (of_decide_eq_true h.1) h.2
theorem mG_3_0 : ([(7, Cond.methodLink RL 130 yL_weigh), (8, Cond.static yL_weigh), (9, Cond.codeWith yL_weigh cL_weigh 6 (some .int) [(0, 12, 15, 21), (0, 12, 19, 13)]), (10, Cond.classLink RL 21 "java/lang/IndexOutOfBoundsException"), (11, Cond.methodLink RL 17 yX5_weigh), (12, Cond.instanceMethod yX5_weigh), (13, Cond.selects RX5 yX5_weigh yX5_weigh), (14, Cond.code yX5_weigh cX5_weigh 6 (some .int)), (16, Cond.methodLink RX5 59 yX3_setWeight), (17, Cond.instanceMethod yX3_setWeight), (18, Cond.selects RX3 yX3_setWeight yX3_setWeight), (19, Cond.code yX3_setWeight cX3_setWeight 3 none), (20, Cond.methodLink RL 134 yL_turn), (21, Cond.static yL_turn), (22, Cond.codeWith yL_turn cL_turn 5 (some .int) [(0, 17, 20, 21)]), (23, Cond.methodLink RL 23 yX5_turn), (24, Cond.instanceMethod yX5_turn), (25, Cond.selects RX5 yX5_turn yX5_turn), (26, Cond.code yX5_turn cX5_turn 5 (some .boolean)), (27, Cond.methodLink RL 142 yL_ramp), (28, Cond.static yL_ramp), (29, Cond.codeWith yL_ramp cL_ramp 6 (some .int) [(0, 12, 15, 21), (0, 12, 19, 13)]), (30, Cond.methodLink RL 27 yX5_ramp), (31, Cond.instanceMethod yX5_ramp), (32, Cond.selects RX5 yX5_ramp yX5_ramp), (33, Cond.code yX5_ramp cX5_ramp 6 (some .int)), (35, Cond.methodLink RX5 75 yX3_setRamp), (36, Cond.instanceMethod yX3_setRamp), (37, Cond.selects RX3 yX3_setRamp yX3_setRamp), (38, Cond.code yX3_setRamp cX3_setRamp 4 none), (39, Cond.methodLink RL 145 yL_place), (40, Cond.static yL_place), (41, Cond.codeWith yL_place cL_place 7 (some .int) [(0, 14, 17, 21), (0, 14, 21, 13), (0, 14, 25, 15)]), (42, Cond.methodLink RL 30 yX5_place), (43, Cond.instanceMethod yX5_place), (44, Cond.selects RX5 yX5_place yX5_place), (45, Cond.code yX5_place cX5_place 7 (some .int)), (46, Cond.methodLink RX5 79 yX5_checkRange), (47, Cond.static yX5_checkRange), (48, Cond.code yX5_checkRange cX5_checkRange 3 none), (50, Cond.methodLink RX5 82 yX5_isTaken), (52, Cond.instanceMethod yX5_isTaken), (53, Cond.code yX5_isTaken cX5_isTaken 9 (some .boolean)), (54, Cond.methodLink RX5 317 yX3_sharesRange), (55, Cond.instanceMethod yX3_sharesRange), (56, Cond.selects RX3 yX3_sharesRange yX3_sharesRange), (57, Cond.code yX3_sharesRange cX3_sharesRange 3 (some .boolean)), (58, Cond.methodLink RX3 62 yJ9_max_7cf53), (59, Cond.static yJ9_max_7cf53), (60, Cond.code yJ9_max_7cf53 cJ9_max_7cf53 2 (some .int)), (61, Cond.methodLink RX3 71 yJ9_min_7cf53), (62, Cond.static yJ9_min_7cf53), (63, Cond.code yJ9_min_7cf53 cJ9_min_7cf53 2 (some .int)), (65, Cond.methodLink RL 149 yL_need), (66, Cond.static yL_need), (67, Cond.codeWith yL_need cL_need 6 (some .int) [(0, 12, 15, 21), (0, 12, 19, 13)]), (68, Cond.methodLink RL 34 yX5_need), (69, Cond.instanceMethod yX5_need), (70, Cond.selects RX5 yX5_need yX5_need), (71, Cond.code yX5_need cX5_need 6 (some .int))] : List (Nat × Cond)).all (fun q => decide (tables_1_3[q.1]? = some q.2) && goodWord q.2) = true := by decide +kernel
theorem m_ml_L_130 : Cond.methodLink RL 130 yL_weigh ∈ TT := by
  have h := Bool.and_eq_true_iff.mp (List.all_eq_true.mp mG_3_0 (7, Cond.methodLink RL 130 yL_weigh) (List.mem_of_getElem? (i := 0) rfl))
  exact tt_m3 7 (of_decide_eq_true h.1) h.2
theorem m_st_L_weigh : Cond.static yL_weigh ∈ TT := by
  have h := Bool.and_eq_true_iff.mp (List.all_eq_true.mp mG_3_0 (8, Cond.static yL_weigh) (List.mem_of_getElem? (i := 1) rfl))
  exact tt_m3 8 (of_decide_eq_true h.1) h.2
theorem m_cd_L_weigh : Cond.codeWith yL_weigh cL_weigh 6 (some .int) [(0, 12, 15, 21), (0, 12, 19, 13)] ∈ TT := by
  have h := Bool.and_eq_true_iff.mp (List.all_eq_true.mp mG_3_0 (9, Cond.codeWith yL_weigh cL_weigh 6 (some .int) [(0, 12, 15, 21), (0, 12, 19, 13)]) (List.mem_of_getElem? (i := 2) rfl))
  exact tt_m3 9 (of_decide_eq_true h.1) h.2
theorem m_cl_L_21 : Cond.classLink RL 21 "java/lang/IndexOutOfBoundsException" ∈ TT := by
  have h := Bool.and_eq_true_iff.mp (List.all_eq_true.mp mG_3_0 (10, Cond.classLink RL 21 "java/lang/IndexOutOfBoundsException") (List.mem_of_getElem? (i := 3) rfl))
  exact tt_m3 10 (of_decide_eq_true h.1) h.2
theorem m_ml_L_17 : Cond.methodLink RL 17 yX5_weigh ∈ TT := by
  have h := Bool.and_eq_true_iff.mp (List.all_eq_true.mp mG_3_0 (11, Cond.methodLink RL 17 yX5_weigh) (List.mem_of_getElem? (i := 4) rfl))
  exact tt_m3 11 (of_decide_eq_true h.1) h.2
theorem m_im_X5_weigh : Cond.instanceMethod yX5_weigh ∈ TT := by
  have h := Bool.and_eq_true_iff.mp (List.all_eq_true.mp mG_3_0 (12, Cond.instanceMethod yX5_weigh) (List.mem_of_getElem? (i := 5) rfl))
  exact tt_m3 12 (of_decide_eq_true h.1) h.2
theorem m_sl_X5_weigh : Cond.selects RX5 yX5_weigh yX5_weigh ∈ TT := by
  have h := Bool.and_eq_true_iff.mp (List.all_eq_true.mp mG_3_0 (13, Cond.selects RX5 yX5_weigh yX5_weigh) (List.mem_of_getElem? (i := 6) rfl))
  exact tt_m3 13 (of_decide_eq_true h.1) h.2
theorem m_cd_X5_weigh : Cond.code yX5_weigh cX5_weigh 6 (some .int) ∈ TT := by
  have h := Bool.and_eq_true_iff.mp (List.all_eq_true.mp mG_3_0 (14, Cond.code yX5_weigh cX5_weigh 6 (some .int)) (List.mem_of_getElem? (i := 7) rfl))
  exact tt_m3 14 (of_decide_eq_true h.1) h.2
theorem m_ml_X5_59 : Cond.methodLink RX5 59 yX3_setWeight ∈ TT := by
  have h := Bool.and_eq_true_iff.mp (List.all_eq_true.mp mG_3_0 (16, Cond.methodLink RX5 59 yX3_setWeight) (List.mem_of_getElem? (i := 8) rfl))
  exact tt_m3 16 (of_decide_eq_true h.1) h.2
theorem m_im_X3_setWeight : Cond.instanceMethod yX3_setWeight ∈ TT := by
  have h := Bool.and_eq_true_iff.mp (List.all_eq_true.mp mG_3_0 (17, Cond.instanceMethod yX3_setWeight) (List.mem_of_getElem? (i := 9) rfl))
  exact tt_m3 17 (of_decide_eq_true h.1) h.2
theorem m_sl_X3_setWeight : Cond.selects RX3 yX3_setWeight yX3_setWeight ∈ TT := by
  have h := Bool.and_eq_true_iff.mp (List.all_eq_true.mp mG_3_0 (18, Cond.selects RX3 yX3_setWeight yX3_setWeight) (List.mem_of_getElem? (i := 10) rfl))
  exact tt_m3 18 (of_decide_eq_true h.1) h.2
theorem m_cd_X3_setWeight : Cond.code yX3_setWeight cX3_setWeight 3 none ∈ TT := by
  have h := Bool.and_eq_true_iff.mp (List.all_eq_true.mp mG_3_0 (19, Cond.code yX3_setWeight cX3_setWeight 3 none) (List.mem_of_getElem? (i := 11) rfl))
  exact tt_m3 19 (of_decide_eq_true h.1) h.2
theorem m_ml_L_134 : Cond.methodLink RL 134 yL_turn ∈ TT := by
  have h := Bool.and_eq_true_iff.mp (List.all_eq_true.mp mG_3_0 (20, Cond.methodLink RL 134 yL_turn) (List.mem_of_getElem? (i := 12) rfl))
  exact tt_m3 20 (of_decide_eq_true h.1) h.2
theorem m_st_L_turn : Cond.static yL_turn ∈ TT := by
  have h := Bool.and_eq_true_iff.mp (List.all_eq_true.mp mG_3_0 (21, Cond.static yL_turn) (List.mem_of_getElem? (i := 13) rfl))
  exact tt_m3 21 (of_decide_eq_true h.1) h.2
theorem m_cd_L_turn : Cond.codeWith yL_turn cL_turn 5 (some .int) [(0, 17, 20, 21)] ∈ TT := by
  have h := Bool.and_eq_true_iff.mp (List.all_eq_true.mp mG_3_0 (22, Cond.codeWith yL_turn cL_turn 5 (some .int) [(0, 17, 20, 21)]) (List.mem_of_getElem? (i := 14) rfl))
  exact tt_m3 22 (of_decide_eq_true h.1) h.2
theorem m_ml_L_23 : Cond.methodLink RL 23 yX5_turn ∈ TT := by
  have h := Bool.and_eq_true_iff.mp (List.all_eq_true.mp mG_3_0 (23, Cond.methodLink RL 23 yX5_turn) (List.mem_of_getElem? (i := 15) rfl))
  exact tt_m3 23 (of_decide_eq_true h.1) h.2
theorem m_im_X5_turn : Cond.instanceMethod yX5_turn ∈ TT := by
  have h := Bool.and_eq_true_iff.mp (List.all_eq_true.mp mG_3_0 (24, Cond.instanceMethod yX5_turn) (List.mem_of_getElem? (i := 16) rfl))
  exact tt_m3 24 (of_decide_eq_true h.1) h.2
theorem m_sl_X5_turn : Cond.selects RX5 yX5_turn yX5_turn ∈ TT := by
  have h := Bool.and_eq_true_iff.mp (List.all_eq_true.mp mG_3_0 (25, Cond.selects RX5 yX5_turn yX5_turn) (List.mem_of_getElem? (i := 17) rfl))
  exact tt_m3 25 (of_decide_eq_true h.1) h.2
theorem m_cd_X5_turn : Cond.code yX5_turn cX5_turn 5 (some .boolean) ∈ TT := by
  have h := Bool.and_eq_true_iff.mp (List.all_eq_true.mp mG_3_0 (26, Cond.code yX5_turn cX5_turn 5 (some .boolean)) (List.mem_of_getElem? (i := 18) rfl))
  exact tt_m3 26 (of_decide_eq_true h.1) h.2
theorem m_ml_L_142 : Cond.methodLink RL 142 yL_ramp ∈ TT := by
  have h := Bool.and_eq_true_iff.mp (List.all_eq_true.mp mG_3_0 (27, Cond.methodLink RL 142 yL_ramp) (List.mem_of_getElem? (i := 19) rfl))
  exact tt_m3 27 (of_decide_eq_true h.1) h.2
theorem m_st_L_ramp : Cond.static yL_ramp ∈ TT := by
  have h := Bool.and_eq_true_iff.mp (List.all_eq_true.mp mG_3_0 (28, Cond.static yL_ramp) (List.mem_of_getElem? (i := 20) rfl))
  exact tt_m3 28 (of_decide_eq_true h.1) h.2
theorem m_cd_L_ramp : Cond.codeWith yL_ramp cL_ramp 6 (some .int) [(0, 12, 15, 21), (0, 12, 19, 13)] ∈ TT := by
  have h := Bool.and_eq_true_iff.mp (List.all_eq_true.mp mG_3_0 (29, Cond.codeWith yL_ramp cL_ramp 6 (some .int) [(0, 12, 15, 21), (0, 12, 19, 13)]) (List.mem_of_getElem? (i := 21) rfl))
  exact tt_m3 29 (of_decide_eq_true h.1) h.2
theorem m_ml_L_27 : Cond.methodLink RL 27 yX5_ramp ∈ TT := by
  have h := Bool.and_eq_true_iff.mp (List.all_eq_true.mp mG_3_0 (30, Cond.methodLink RL 27 yX5_ramp) (List.mem_of_getElem? (i := 22) rfl))
  exact tt_m3 30 (of_decide_eq_true h.1) h.2
theorem m_im_X5_ramp : Cond.instanceMethod yX5_ramp ∈ TT := by
  have h := Bool.and_eq_true_iff.mp (List.all_eq_true.mp mG_3_0 (31, Cond.instanceMethod yX5_ramp) (List.mem_of_getElem? (i := 23) rfl))
  exact tt_m3 31 (of_decide_eq_true h.1) h.2
theorem m_sl_X5_ramp : Cond.selects RX5 yX5_ramp yX5_ramp ∈ TT := by
  have h := Bool.and_eq_true_iff.mp (List.all_eq_true.mp mG_3_0 (32, Cond.selects RX5 yX5_ramp yX5_ramp) (List.mem_of_getElem? (i := 24) rfl))
  exact tt_m3 32 (of_decide_eq_true h.1) h.2
theorem m_cd_X5_ramp : Cond.code yX5_ramp cX5_ramp 6 (some .int) ∈ TT := by
  have h := Bool.and_eq_true_iff.mp (List.all_eq_true.mp mG_3_0 (33, Cond.code yX5_ramp cX5_ramp 6 (some .int)) (List.mem_of_getElem? (i := 25) rfl))
  exact tt_m3 33 (of_decide_eq_true h.1) h.2
theorem m_ml_X5_75 : Cond.methodLink RX5 75 yX3_setRamp ∈ TT := by
  have h := Bool.and_eq_true_iff.mp (List.all_eq_true.mp mG_3_0 (35, Cond.methodLink RX5 75 yX3_setRamp) (List.mem_of_getElem? (i := 26) rfl))
  exact tt_m3 35 (of_decide_eq_true h.1) h.2
theorem m_im_X3_setRamp : Cond.instanceMethod yX3_setRamp ∈ TT := by
  have h := Bool.and_eq_true_iff.mp (List.all_eq_true.mp mG_3_0 (36, Cond.instanceMethod yX3_setRamp) (List.mem_of_getElem? (i := 27) rfl))
  exact tt_m3 36 (of_decide_eq_true h.1) h.2
theorem m_sl_X3_setRamp : Cond.selects RX3 yX3_setRamp yX3_setRamp ∈ TT := by
  have h := Bool.and_eq_true_iff.mp (List.all_eq_true.mp mG_3_0 (37, Cond.selects RX3 yX3_setRamp yX3_setRamp) (List.mem_of_getElem? (i := 28) rfl))
  exact tt_m3 37 (of_decide_eq_true h.1) h.2
theorem m_cd_X3_setRamp : Cond.code yX3_setRamp cX3_setRamp 4 none ∈ TT := by
  have h := Bool.and_eq_true_iff.mp (List.all_eq_true.mp mG_3_0 (38, Cond.code yX3_setRamp cX3_setRamp 4 none) (List.mem_of_getElem? (i := 29) rfl))
  exact tt_m3 38 (of_decide_eq_true h.1) h.2
theorem m_ml_L_145 : Cond.methodLink RL 145 yL_place ∈ TT := by
  have h := Bool.and_eq_true_iff.mp (List.all_eq_true.mp mG_3_0 (39, Cond.methodLink RL 145 yL_place) (List.mem_of_getElem? (i := 30) rfl))
  exact tt_m3 39 (of_decide_eq_true h.1) h.2
theorem m_st_L_place : Cond.static yL_place ∈ TT := by
  have h := Bool.and_eq_true_iff.mp (List.all_eq_true.mp mG_3_0 (40, Cond.static yL_place) (List.mem_of_getElem? (i := 31) rfl))
  exact tt_m3 40 (of_decide_eq_true h.1) h.2
theorem m_cd_L_place : Cond.codeWith yL_place cL_place 7 (some .int) [(0, 14, 17, 21), (0, 14, 21, 13), (0, 14, 25, 15)] ∈ TT := by
  have h := Bool.and_eq_true_iff.mp (List.all_eq_true.mp mG_3_0 (41, Cond.codeWith yL_place cL_place 7 (some .int) [(0, 14, 17, 21), (0, 14, 21, 13), (0, 14, 25, 15)]) (List.mem_of_getElem? (i := 32) rfl))
  exact tt_m3 41 (of_decide_eq_true h.1) h.2
theorem m_ml_L_30 : Cond.methodLink RL 30 yX5_place ∈ TT := by
  have h := Bool.and_eq_true_iff.mp (List.all_eq_true.mp mG_3_0 (42, Cond.methodLink RL 30 yX5_place) (List.mem_of_getElem? (i := 33) rfl))
  exact tt_m3 42 (of_decide_eq_true h.1) h.2
theorem m_im_X5_place : Cond.instanceMethod yX5_place ∈ TT := by
  have h := Bool.and_eq_true_iff.mp (List.all_eq_true.mp mG_3_0 (43, Cond.instanceMethod yX5_place) (List.mem_of_getElem? (i := 34) rfl))
  exact tt_m3 43 (of_decide_eq_true h.1) h.2
theorem m_sl_X5_place : Cond.selects RX5 yX5_place yX5_place ∈ TT := by
  have h := Bool.and_eq_true_iff.mp (List.all_eq_true.mp mG_3_0 (44, Cond.selects RX5 yX5_place yX5_place) (List.mem_of_getElem? (i := 35) rfl))
  exact tt_m3 44 (of_decide_eq_true h.1) h.2
theorem m_cd_X5_place : Cond.code yX5_place cX5_place 7 (some .int) ∈ TT := by
  have h := Bool.and_eq_true_iff.mp (List.all_eq_true.mp mG_3_0 (45, Cond.code yX5_place cX5_place 7 (some .int)) (List.mem_of_getElem? (i := 36) rfl))
  exact tt_m3 45 (of_decide_eq_true h.1) h.2
theorem m_ml_X5_79 : Cond.methodLink RX5 79 yX5_checkRange ∈ TT := by
  have h := Bool.and_eq_true_iff.mp (List.all_eq_true.mp mG_3_0 (46, Cond.methodLink RX5 79 yX5_checkRange) (List.mem_of_getElem? (i := 37) rfl))
  exact tt_m3 46 (of_decide_eq_true h.1) h.2
theorem m_st_X5_checkRange : Cond.static yX5_checkRange ∈ TT := by
  have h := Bool.and_eq_true_iff.mp (List.all_eq_true.mp mG_3_0 (47, Cond.static yX5_checkRange) (List.mem_of_getElem? (i := 38) rfl))
  exact tt_m3 47 (of_decide_eq_true h.1) h.2
theorem m_cd_X5_checkRange : Cond.code yX5_checkRange cX5_checkRange 3 none ∈ TT := by
  have h := Bool.and_eq_true_iff.mp (List.all_eq_true.mp mG_3_0 (48, Cond.code yX5_checkRange cX5_checkRange 3 none) (List.mem_of_getElem? (i := 39) rfl))
  exact tt_m3 48 (of_decide_eq_true h.1) h.2
theorem m_ml_X5_82 : Cond.methodLink RX5 82 yX5_isTaken ∈ TT := by
  have h := Bool.and_eq_true_iff.mp (List.all_eq_true.mp mG_3_0 (50, Cond.methodLink RX5 82 yX5_isTaken) (List.mem_of_getElem? (i := 40) rfl))
  exact tt_m3 50 (of_decide_eq_true h.1) h.2
theorem m_im_X5_isTaken : Cond.instanceMethod yX5_isTaken ∈ TT := by
  have h := Bool.and_eq_true_iff.mp (List.all_eq_true.mp mG_3_0 (52, Cond.instanceMethod yX5_isTaken) (List.mem_of_getElem? (i := 41) rfl))
  exact tt_m3 52 (of_decide_eq_true h.1) h.2
theorem m_cd_X5_isTaken : Cond.code yX5_isTaken cX5_isTaken 9 (some .boolean) ∈ TT := by
  have h := Bool.and_eq_true_iff.mp (List.all_eq_true.mp mG_3_0 (53, Cond.code yX5_isTaken cX5_isTaken 9 (some .boolean)) (List.mem_of_getElem? (i := 42) rfl))
  exact tt_m3 53 (of_decide_eq_true h.1) h.2
theorem m_ml_X5_317 : Cond.methodLink RX5 317 yX3_sharesRange ∈ TT := by
  have h := Bool.and_eq_true_iff.mp (List.all_eq_true.mp mG_3_0 (54, Cond.methodLink RX5 317 yX3_sharesRange) (List.mem_of_getElem? (i := 43) rfl))
  exact tt_m3 54 (of_decide_eq_true h.1) h.2
theorem m_im_X3_sharesRange : Cond.instanceMethod yX3_sharesRange ∈ TT := by
  have h := Bool.and_eq_true_iff.mp (List.all_eq_true.mp mG_3_0 (55, Cond.instanceMethod yX3_sharesRange) (List.mem_of_getElem? (i := 44) rfl))
  exact tt_m3 55 (of_decide_eq_true h.1) h.2
theorem m_sl_X3_sharesRange : Cond.selects RX3 yX3_sharesRange yX3_sharesRange ∈ TT := by
  have h := Bool.and_eq_true_iff.mp (List.all_eq_true.mp mG_3_0 (56, Cond.selects RX3 yX3_sharesRange yX3_sharesRange) (List.mem_of_getElem? (i := 45) rfl))
  exact tt_m3 56 (of_decide_eq_true h.1) h.2
theorem m_cd_X3_sharesRange : Cond.code yX3_sharesRange cX3_sharesRange 3 (some .boolean) ∈ TT := by
  have h := Bool.and_eq_true_iff.mp (List.all_eq_true.mp mG_3_0 (57, Cond.code yX3_sharesRange cX3_sharesRange 3 (some .boolean)) (List.mem_of_getElem? (i := 46) rfl))
  exact tt_m3 57 (of_decide_eq_true h.1) h.2
theorem m_ml_X3_62 : Cond.methodLink RX3 62 yJ9_max_7cf53 ∈ TT := by
  have h := Bool.and_eq_true_iff.mp (List.all_eq_true.mp mG_3_0 (58, Cond.methodLink RX3 62 yJ9_max_7cf53) (List.mem_of_getElem? (i := 47) rfl))
  exact tt_m3 58 (of_decide_eq_true h.1) h.2
theorem m_st_J9_max_7cf53 : Cond.static yJ9_max_7cf53 ∈ TT := by
  have h := Bool.and_eq_true_iff.mp (List.all_eq_true.mp mG_3_0 (59, Cond.static yJ9_max_7cf53) (List.mem_of_getElem? (i := 48) rfl))
  exact tt_m3 59 (of_decide_eq_true h.1) h.2
theorem m_cd_J9_max_7cf53 : Cond.code yJ9_max_7cf53 cJ9_max_7cf53 2 (some .int) ∈ TT := by
  have h := Bool.and_eq_true_iff.mp (List.all_eq_true.mp mG_3_0 (60, Cond.code yJ9_max_7cf53 cJ9_max_7cf53 2 (some .int)) (List.mem_of_getElem? (i := 49) rfl))
  exact tt_m3 60 (of_decide_eq_true h.1) h.2
theorem m_ml_X3_71 : Cond.methodLink RX3 71 yJ9_min_7cf53 ∈ TT := by
  have h := Bool.and_eq_true_iff.mp (List.all_eq_true.mp mG_3_0 (61, Cond.methodLink RX3 71 yJ9_min_7cf53) (List.mem_of_getElem? (i := 50) rfl))
  exact tt_m3 61 (of_decide_eq_true h.1) h.2
theorem m_st_J9_min_7cf53 : Cond.static yJ9_min_7cf53 ∈ TT := by
  have h := Bool.and_eq_true_iff.mp (List.all_eq_true.mp mG_3_0 (62, Cond.static yJ9_min_7cf53) (List.mem_of_getElem? (i := 51) rfl))
  exact tt_m3 62 (of_decide_eq_true h.1) h.2
theorem m_cd_J9_min_7cf53 : Cond.code yJ9_min_7cf53 cJ9_min_7cf53 2 (some .int) ∈ TT := by
  have h := Bool.and_eq_true_iff.mp (List.all_eq_true.mp mG_3_0 (63, Cond.code yJ9_min_7cf53 cJ9_min_7cf53 2 (some .int)) (List.mem_of_getElem? (i := 52) rfl))
  exact tt_m3 63 (of_decide_eq_true h.1) h.2
theorem m_ml_L_149 : Cond.methodLink RL 149 yL_need ∈ TT := by
  have h := Bool.and_eq_true_iff.mp (List.all_eq_true.mp mG_3_0 (65, Cond.methodLink RL 149 yL_need) (List.mem_of_getElem? (i := 53) rfl))
  exact tt_m3 65 (of_decide_eq_true h.1) h.2
theorem m_st_L_need : Cond.static yL_need ∈ TT := by
  have h := Bool.and_eq_true_iff.mp (List.all_eq_true.mp mG_3_0 (66, Cond.static yL_need) (List.mem_of_getElem? (i := 54) rfl))
  exact tt_m3 66 (of_decide_eq_true h.1) h.2
theorem m_cd_L_need : Cond.codeWith yL_need cL_need 6 (some .int) [(0, 12, 15, 21), (0, 12, 19, 13)] ∈ TT := by
  have h := Bool.and_eq_true_iff.mp (List.all_eq_true.mp mG_3_0 (67, Cond.codeWith yL_need cL_need 6 (some .int) [(0, 12, 15, 21), (0, 12, 19, 13)]) (List.mem_of_getElem? (i := 55) rfl))
  exact tt_m3 67 (of_decide_eq_true h.1) h.2
theorem m_ml_L_34 : Cond.methodLink RL 34 yX5_need ∈ TT := by
  have h := Bool.and_eq_true_iff.mp (List.all_eq_true.mp mG_3_0 (68, Cond.methodLink RL 34 yX5_need) (List.mem_of_getElem? (i := 56) rfl))
  exact tt_m3 68 (of_decide_eq_true h.1) h.2
theorem m_im_X5_need : Cond.instanceMethod yX5_need ∈ TT := by
  have h := Bool.and_eq_true_iff.mp (List.all_eq_true.mp mG_3_0 (69, Cond.instanceMethod yX5_need) (List.mem_of_getElem? (i := 57) rfl))
  exact tt_m3 69 (of_decide_eq_true h.1) h.2
theorem m_sl_X5_need : Cond.selects RX5 yX5_need yX5_need ∈ TT := by
  have h := Bool.and_eq_true_iff.mp (List.all_eq_true.mp mG_3_0 (70, Cond.selects RX5 yX5_need yX5_need) (List.mem_of_getElem? (i := 58) rfl))
  exact tt_m3 70 (of_decide_eq_true h.1) h.2
theorem m_cd_X5_need : Cond.code yX5_need cX5_need 6 (some .int) ∈ TT := by
  have h := Bool.and_eq_true_iff.mp (List.all_eq_true.mp mG_3_0 (71, Cond.code yX5_need cX5_need 6 (some .int)) (List.mem_of_getElem? (i := 59) rfl))
  exact tt_m3 71 (of_decide_eq_true h.1) h.2
theorem mG_3_60 : ([(73, Cond.methodLink RL 152 yL_rule), (74, Cond.static yL_rule), (75, Cond.codeWith yL_rule cL_rule 8 (some .int) [(0, 16, 19, 21), (0, 16, 23, 13), (0, 16, 27, 15)]), (76, Cond.methodLink RL 37 yX5_rule), (77, Cond.instanceMethod yX5_rule), (78, Cond.selects RX5 yX5_rule yX5_rule), (79, Cond.code yX5_rule cX5_rule 7 (some .int)), (82, Cond.classLink RX5 112 RX2), (83, Cond.instantiable RX2 4), (84, Cond.methodLink RX5 114 yX2_init), (85, Cond.instanceMethod yX2_init), (86, Cond.code yX2_init cX2_init 5 none), (87, Cond.methodLink RX2 3 ⟨"java/lang/Object", "<init>", "()V"⟩), (88, Cond.fieldLink RX2 9 "DaybreakFlags$Rule" "mark" "I"), (89, Cond.fieldLink RX2 15 "DaybreakFlags$Rule" "how" "I"), (90, Cond.fieldLink RX2 18 "DaybreakFlags$Rule" "n" "I"), (91, Cond.fieldLink RX2 21 "DaybreakFlags$Rule" "variant" "I"), (102, Cond.methodLink RX5 117 yX3_addRule), (103, Cond.instanceMethod yX3_addRule), (104, Cond.selects RX3 yX3_addRule yX3_addRule), (105, Cond.code yX3_addRule cX3_addRule 2 none), (106, Cond.methodLink RL 156 yL_unrule), (107, Cond.static yL_unrule), (108, Cond.codeWith yL_unrule cL_unrule 5 (some .int) [(0, 10, 13, 21)]), (109, Cond.methodLink RL 41 yX5_unrule), (110, Cond.instanceMethod yX5_unrule), (111, Cond.selects RX5 yX5_unrule yX5_unrule), (112, Cond.code yX5_unrule cX5_unrule 4 (some .int)), (114, Cond.methodLink RX5 126 yX3_removeRule), (115, Cond.instanceMethod yX3_removeRule), (116, Cond.selects RX3 yX3_removeRule yX3_removeRule), (117, Cond.code yX3_removeRule cX3_removeRule 3 none), (118, Cond.methodLink RX3 77 yX3_ruleAt), (119, Cond.methodLink RL 160 yL_hold), (120, Cond.static yL_hold), (121, Cond.codeWith yL_hold cL_hold 4 (some .int) [(0, 9, 12, 13)]), (122, Cond.methodLink RL 45 yX5_hold), (123, Cond.instanceMethod yX5_hold), (124, Cond.selects RX5 yX5_hold yX5_hold), (125, Cond.code yX5_hold cX5_hold 3 (some .int)), (127, Cond.methodLink RL 164 yL_goOn), (128, Cond.static yL_goOn), (129, Cond.codeWith yL_goOn cL_goOn 4 (some .int) [(0, 9, 12, 13)]), (130, Cond.methodLink RL 49 yX5_goOn), (131, Cond.instanceMethod yX5_goOn), (132, Cond.selects RX5 yX5_goOn yX5_goOn), (133, Cond.code yX5_goOn cX5_goOn 2 (some .int)), (135, Cond.methodLink RL 171 yL_weight), (136, Cond.static yL_weight), (137, Cond.codeWith yL_weight cL_weight 5 (some .int) [(0, 10, 13, 21)]), (138, Cond.methodLink RL 52 yX5_weight), (139, Cond.methodLink RL 174 yL_share), (140, Cond.static yL_share), (141, Cond.codeWith yL_share cL_share 4 (some .int) [(0, 9, 12, 21)]), (142, Cond.methodLink RL 55 yX5_share), (143, Cond.methodLink RL 177 yL_left), (144, Cond.static yL_left), (145, Cond.codeWith yL_left cL_left 4 (some .int) [(0, 9, 12, 21)]), (146, Cond.methodLink RL 58 yX5_left), (147, Cond.methodLink RL 180 yL_bucket)] : List (Nat × Cond)).all (fun q => decide (tables_1_3[q.1]? = some q.2) && goodWord q.2) = true := by decide +kernel
theorem m_ml_L_152 : Cond.methodLink RL 152 yL_rule ∈ TT := by
  have h := Bool.and_eq_true_iff.mp (List.all_eq_true.mp mG_3_60 (73, Cond.methodLink RL 152 yL_rule) (List.mem_of_getElem? (i := 0) rfl))
  exact tt_m3 73 (of_decide_eq_true h.1) h.2
theorem m_st_L_rule : Cond.static yL_rule ∈ TT := by
  have h := Bool.and_eq_true_iff.mp (List.all_eq_true.mp mG_3_60 (74, Cond.static yL_rule) (List.mem_of_getElem? (i := 1) rfl))
  exact tt_m3 74 (of_decide_eq_true h.1) h.2
theorem m_cd_L_rule : Cond.codeWith yL_rule cL_rule 8 (some .int) [(0, 16, 19, 21), (0, 16, 23, 13), (0, 16, 27, 15)] ∈ TT := by
  have h := Bool.and_eq_true_iff.mp (List.all_eq_true.mp mG_3_60 (75, Cond.codeWith yL_rule cL_rule 8 (some .int) [(0, 16, 19, 21), (0, 16, 23, 13), (0, 16, 27, 15)]) (List.mem_of_getElem? (i := 2) rfl))
  exact tt_m3 75 (of_decide_eq_true h.1) h.2
theorem m_ml_L_37 : Cond.methodLink RL 37 yX5_rule ∈ TT := by
  have h := Bool.and_eq_true_iff.mp (List.all_eq_true.mp mG_3_60 (76, Cond.methodLink RL 37 yX5_rule) (List.mem_of_getElem? (i := 3) rfl))
  exact tt_m3 76 (of_decide_eq_true h.1) h.2
theorem m_im_X5_rule : Cond.instanceMethod yX5_rule ∈ TT := by
  have h := Bool.and_eq_true_iff.mp (List.all_eq_true.mp mG_3_60 (77, Cond.instanceMethod yX5_rule) (List.mem_of_getElem? (i := 4) rfl))
  exact tt_m3 77 (of_decide_eq_true h.1) h.2
theorem m_sl_X5_rule : Cond.selects RX5 yX5_rule yX5_rule ∈ TT := by
  have h := Bool.and_eq_true_iff.mp (List.all_eq_true.mp mG_3_60 (78, Cond.selects RX5 yX5_rule yX5_rule) (List.mem_of_getElem? (i := 5) rfl))
  exact tt_m3 78 (of_decide_eq_true h.1) h.2
theorem m_cd_X5_rule : Cond.code yX5_rule cX5_rule 7 (some .int) ∈ TT := by
  have h := Bool.and_eq_true_iff.mp (List.all_eq_true.mp mG_3_60 (79, Cond.code yX5_rule cX5_rule 7 (some .int)) (List.mem_of_getElem? (i := 6) rfl))
  exact tt_m3 79 (of_decide_eq_true h.1) h.2
theorem m_cl_X5_112 : Cond.classLink RX5 112 RX2 ∈ TT := by
  have h := Bool.and_eq_true_iff.mp (List.all_eq_true.mp mG_3_60 (82, Cond.classLink RX5 112 RX2) (List.mem_of_getElem? (i := 7) rfl))
  exact tt_m3 82 (of_decide_eq_true h.1) h.2
theorem m_nw_X2 : Cond.instantiable RX2 4 ∈ TT := by
  have h := Bool.and_eq_true_iff.mp (List.all_eq_true.mp mG_3_60 (83, Cond.instantiable RX2 4) (List.mem_of_getElem? (i := 8) rfl))
  exact tt_m3 83 (of_decide_eq_true h.1) h.2
theorem m_ml_X5_114 : Cond.methodLink RX5 114 yX2_init ∈ TT := by
  have h := Bool.and_eq_true_iff.mp (List.all_eq_true.mp mG_3_60 (84, Cond.methodLink RX5 114 yX2_init) (List.mem_of_getElem? (i := 9) rfl))
  exact tt_m3 84 (of_decide_eq_true h.1) h.2
theorem m_im_X2_init : Cond.instanceMethod yX2_init ∈ TT := by
  have h := Bool.and_eq_true_iff.mp (List.all_eq_true.mp mG_3_60 (85, Cond.instanceMethod yX2_init) (List.mem_of_getElem? (i := 10) rfl))
  exact tt_m3 85 (of_decide_eq_true h.1) h.2
theorem m_cd_X2_init : Cond.code yX2_init cX2_init 5 none ∈ TT := by
  have h := Bool.and_eq_true_iff.mp (List.all_eq_true.mp mG_3_60 (86, Cond.code yX2_init cX2_init 5 none) (List.mem_of_getElem? (i := 11) rfl))
  exact tt_m3 86 (of_decide_eq_true h.1) h.2
theorem m_ml_X2_3 : Cond.methodLink RX2 3 ⟨"java/lang/Object", "<init>", "()V"⟩ ∈ TT := by
  have h := Bool.and_eq_true_iff.mp (List.all_eq_true.mp mG_3_60 (87, Cond.methodLink RX2 3 ⟨"java/lang/Object", "<init>", "()V"⟩) (List.mem_of_getElem? (i := 12) rfl))
  exact tt_m3 87 (of_decide_eq_true h.1) h.2
theorem m_fl_X2_9 : Cond.fieldLink RX2 9 "DaybreakFlags$Rule" "mark" "I" ∈ TT := by
  have h := Bool.and_eq_true_iff.mp (List.all_eq_true.mp mG_3_60 (88, Cond.fieldLink RX2 9 "DaybreakFlags$Rule" "mark" "I") (List.mem_of_getElem? (i := 13) rfl))
  exact tt_m3 88 (of_decide_eq_true h.1) h.2
theorem m_fl_X2_15 : Cond.fieldLink RX2 15 "DaybreakFlags$Rule" "how" "I" ∈ TT := by
  have h := Bool.and_eq_true_iff.mp (List.all_eq_true.mp mG_3_60 (89, Cond.fieldLink RX2 15 "DaybreakFlags$Rule" "how" "I") (List.mem_of_getElem? (i := 14) rfl))
  exact tt_m3 89 (of_decide_eq_true h.1) h.2
theorem m_fl_X2_18 : Cond.fieldLink RX2 18 "DaybreakFlags$Rule" "n" "I" ∈ TT := by
  have h := Bool.and_eq_true_iff.mp (List.all_eq_true.mp mG_3_60 (90, Cond.fieldLink RX2 18 "DaybreakFlags$Rule" "n" "I") (List.mem_of_getElem? (i := 15) rfl))
  exact tt_m3 90 (of_decide_eq_true h.1) h.2
theorem m_fl_X2_21 : Cond.fieldLink RX2 21 "DaybreakFlags$Rule" "variant" "I" ∈ TT := by
  have h := Bool.and_eq_true_iff.mp (List.all_eq_true.mp mG_3_60 (91, Cond.fieldLink RX2 21 "DaybreakFlags$Rule" "variant" "I") (List.mem_of_getElem? (i := 16) rfl))
  exact tt_m3 91 (of_decide_eq_true h.1) h.2
theorem m_ml_X5_117 : Cond.methodLink RX5 117 yX3_addRule ∈ TT := by
  have h := Bool.and_eq_true_iff.mp (List.all_eq_true.mp mG_3_60 (102, Cond.methodLink RX5 117 yX3_addRule) (List.mem_of_getElem? (i := 17) rfl))
  exact tt_m3 102 (of_decide_eq_true h.1) h.2
theorem m_im_X3_addRule : Cond.instanceMethod yX3_addRule ∈ TT := by
  have h := Bool.and_eq_true_iff.mp (List.all_eq_true.mp mG_3_60 (103, Cond.instanceMethod yX3_addRule) (List.mem_of_getElem? (i := 18) rfl))
  exact tt_m3 103 (of_decide_eq_true h.1) h.2
theorem m_sl_X3_addRule : Cond.selects RX3 yX3_addRule yX3_addRule ∈ TT := by
  have h := Bool.and_eq_true_iff.mp (List.all_eq_true.mp mG_3_60 (104, Cond.selects RX3 yX3_addRule yX3_addRule) (List.mem_of_getElem? (i := 19) rfl))
  exact tt_m3 104 (of_decide_eq_true h.1) h.2
theorem m_cd_X3_addRule : Cond.code yX3_addRule cX3_addRule 2 none ∈ TT := by
  have h := Bool.and_eq_true_iff.mp (List.all_eq_true.mp mG_3_60 (105, Cond.code yX3_addRule cX3_addRule 2 none) (List.mem_of_getElem? (i := 20) rfl))
  exact tt_m3 105 (of_decide_eq_true h.1) h.2
theorem m_ml_L_156 : Cond.methodLink RL 156 yL_unrule ∈ TT := by
  have h := Bool.and_eq_true_iff.mp (List.all_eq_true.mp mG_3_60 (106, Cond.methodLink RL 156 yL_unrule) (List.mem_of_getElem? (i := 21) rfl))
  exact tt_m3 106 (of_decide_eq_true h.1) h.2
theorem m_st_L_unrule : Cond.static yL_unrule ∈ TT := by
  have h := Bool.and_eq_true_iff.mp (List.all_eq_true.mp mG_3_60 (107, Cond.static yL_unrule) (List.mem_of_getElem? (i := 22) rfl))
  exact tt_m3 107 (of_decide_eq_true h.1) h.2
theorem m_cd_L_unrule : Cond.codeWith yL_unrule cL_unrule 5 (some .int) [(0, 10, 13, 21)] ∈ TT := by
  have h := Bool.and_eq_true_iff.mp (List.all_eq_true.mp mG_3_60 (108, Cond.codeWith yL_unrule cL_unrule 5 (some .int) [(0, 10, 13, 21)]) (List.mem_of_getElem? (i := 23) rfl))
  exact tt_m3 108 (of_decide_eq_true h.1) h.2
theorem m_ml_L_41 : Cond.methodLink RL 41 yX5_unrule ∈ TT := by
  have h := Bool.and_eq_true_iff.mp (List.all_eq_true.mp mG_3_60 (109, Cond.methodLink RL 41 yX5_unrule) (List.mem_of_getElem? (i := 24) rfl))
  exact tt_m3 109 (of_decide_eq_true h.1) h.2
theorem m_im_X5_unrule : Cond.instanceMethod yX5_unrule ∈ TT := by
  have h := Bool.and_eq_true_iff.mp (List.all_eq_true.mp mG_3_60 (110, Cond.instanceMethod yX5_unrule) (List.mem_of_getElem? (i := 25) rfl))
  exact tt_m3 110 (of_decide_eq_true h.1) h.2
theorem m_sl_X5_unrule : Cond.selects RX5 yX5_unrule yX5_unrule ∈ TT := by
  have h := Bool.and_eq_true_iff.mp (List.all_eq_true.mp mG_3_60 (111, Cond.selects RX5 yX5_unrule yX5_unrule) (List.mem_of_getElem? (i := 26) rfl))
  exact tt_m3 111 (of_decide_eq_true h.1) h.2
theorem m_cd_X5_unrule : Cond.code yX5_unrule cX5_unrule 4 (some .int) ∈ TT := by
  have h := Bool.and_eq_true_iff.mp (List.all_eq_true.mp mG_3_60 (112, Cond.code yX5_unrule cX5_unrule 4 (some .int)) (List.mem_of_getElem? (i := 27) rfl))
  exact tt_m3 112 (of_decide_eq_true h.1) h.2
theorem m_ml_X5_126 : Cond.methodLink RX5 126 yX3_removeRule ∈ TT := by
  have h := Bool.and_eq_true_iff.mp (List.all_eq_true.mp mG_3_60 (114, Cond.methodLink RX5 126 yX3_removeRule) (List.mem_of_getElem? (i := 28) rfl))
  exact tt_m3 114 (of_decide_eq_true h.1) h.2
theorem m_im_X3_removeRule : Cond.instanceMethod yX3_removeRule ∈ TT := by
  have h := Bool.and_eq_true_iff.mp (List.all_eq_true.mp mG_3_60 (115, Cond.instanceMethod yX3_removeRule) (List.mem_of_getElem? (i := 29) rfl))
  exact tt_m3 115 (of_decide_eq_true h.1) h.2
theorem m_sl_X3_removeRule : Cond.selects RX3 yX3_removeRule yX3_removeRule ∈ TT := by
  have h := Bool.and_eq_true_iff.mp (List.all_eq_true.mp mG_3_60 (116, Cond.selects RX3 yX3_removeRule yX3_removeRule) (List.mem_of_getElem? (i := 30) rfl))
  exact tt_m3 116 (of_decide_eq_true h.1) h.2
theorem m_cd_X3_removeRule : Cond.code yX3_removeRule cX3_removeRule 3 none ∈ TT := by
  have h := Bool.and_eq_true_iff.mp (List.all_eq_true.mp mG_3_60 (117, Cond.code yX3_removeRule cX3_removeRule 3 none) (List.mem_of_getElem? (i := 31) rfl))
  exact tt_m3 117 (of_decide_eq_true h.1) h.2
theorem m_ml_X3_77 : Cond.methodLink RX3 77 yX3_ruleAt ∈ TT := by
  have h := Bool.and_eq_true_iff.mp (List.all_eq_true.mp mG_3_60 (118, Cond.methodLink RX3 77 yX3_ruleAt) (List.mem_of_getElem? (i := 32) rfl))
  exact tt_m3 118 (of_decide_eq_true h.1) h.2
theorem m_ml_L_160 : Cond.methodLink RL 160 yL_hold ∈ TT := by
  have h := Bool.and_eq_true_iff.mp (List.all_eq_true.mp mG_3_60 (119, Cond.methodLink RL 160 yL_hold) (List.mem_of_getElem? (i := 33) rfl))
  exact tt_m3 119 (of_decide_eq_true h.1) h.2
theorem m_st_L_hold : Cond.static yL_hold ∈ TT := by
  have h := Bool.and_eq_true_iff.mp (List.all_eq_true.mp mG_3_60 (120, Cond.static yL_hold) (List.mem_of_getElem? (i := 34) rfl))
  exact tt_m3 120 (of_decide_eq_true h.1) h.2
theorem m_cd_L_hold : Cond.codeWith yL_hold cL_hold 4 (some .int) [(0, 9, 12, 13)] ∈ TT := by
  have h := Bool.and_eq_true_iff.mp (List.all_eq_true.mp mG_3_60 (121, Cond.codeWith yL_hold cL_hold 4 (some .int) [(0, 9, 12, 13)]) (List.mem_of_getElem? (i := 35) rfl))
  exact tt_m3 121 (of_decide_eq_true h.1) h.2
theorem m_ml_L_45 : Cond.methodLink RL 45 yX5_hold ∈ TT := by
  have h := Bool.and_eq_true_iff.mp (List.all_eq_true.mp mG_3_60 (122, Cond.methodLink RL 45 yX5_hold) (List.mem_of_getElem? (i := 36) rfl))
  exact tt_m3 122 (of_decide_eq_true h.1) h.2
theorem m_im_X5_hold : Cond.instanceMethod yX5_hold ∈ TT := by
  have h := Bool.and_eq_true_iff.mp (List.all_eq_true.mp mG_3_60 (123, Cond.instanceMethod yX5_hold) (List.mem_of_getElem? (i := 37) rfl))
  exact tt_m3 123 (of_decide_eq_true h.1) h.2
theorem m_sl_X5_hold : Cond.selects RX5 yX5_hold yX5_hold ∈ TT := by
  have h := Bool.and_eq_true_iff.mp (List.all_eq_true.mp mG_3_60 (124, Cond.selects RX5 yX5_hold yX5_hold) (List.mem_of_getElem? (i := 38) rfl))
  exact tt_m3 124 (of_decide_eq_true h.1) h.2
theorem m_cd_X5_hold : Cond.code yX5_hold cX5_hold 3 (some .int) ∈ TT := by
  have h := Bool.and_eq_true_iff.mp (List.all_eq_true.mp mG_3_60 (125, Cond.code yX5_hold cX5_hold 3 (some .int)) (List.mem_of_getElem? (i := 39) rfl))
  exact tt_m3 125 (of_decide_eq_true h.1) h.2
theorem m_ml_L_164 : Cond.methodLink RL 164 yL_goOn ∈ TT := by
  have h := Bool.and_eq_true_iff.mp (List.all_eq_true.mp mG_3_60 (127, Cond.methodLink RL 164 yL_goOn) (List.mem_of_getElem? (i := 40) rfl))
  exact tt_m3 127 (of_decide_eq_true h.1) h.2
theorem m_st_L_goOn : Cond.static yL_goOn ∈ TT := by
  have h := Bool.and_eq_true_iff.mp (List.all_eq_true.mp mG_3_60 (128, Cond.static yL_goOn) (List.mem_of_getElem? (i := 41) rfl))
  exact tt_m3 128 (of_decide_eq_true h.1) h.2
theorem m_cd_L_goOn : Cond.codeWith yL_goOn cL_goOn 4 (some .int) [(0, 9, 12, 13)] ∈ TT := by
  have h := Bool.and_eq_true_iff.mp (List.all_eq_true.mp mG_3_60 (129, Cond.codeWith yL_goOn cL_goOn 4 (some .int) [(0, 9, 12, 13)]) (List.mem_of_getElem? (i := 42) rfl))
  exact tt_m3 129 (of_decide_eq_true h.1) h.2
theorem m_ml_L_49 : Cond.methodLink RL 49 yX5_goOn ∈ TT := by
  have h := Bool.and_eq_true_iff.mp (List.all_eq_true.mp mG_3_60 (130, Cond.methodLink RL 49 yX5_goOn) (List.mem_of_getElem? (i := 43) rfl))
  exact tt_m3 130 (of_decide_eq_true h.1) h.2
theorem m_im_X5_goOn : Cond.instanceMethod yX5_goOn ∈ TT := by
  have h := Bool.and_eq_true_iff.mp (List.all_eq_true.mp mG_3_60 (131, Cond.instanceMethod yX5_goOn) (List.mem_of_getElem? (i := 44) rfl))
  exact tt_m3 131 (of_decide_eq_true h.1) h.2
theorem m_sl_X5_goOn : Cond.selects RX5 yX5_goOn yX5_goOn ∈ TT := by
  have h := Bool.and_eq_true_iff.mp (List.all_eq_true.mp mG_3_60 (132, Cond.selects RX5 yX5_goOn yX5_goOn) (List.mem_of_getElem? (i := 45) rfl))
  exact tt_m3 132 (of_decide_eq_true h.1) h.2
theorem m_cd_X5_goOn : Cond.code yX5_goOn cX5_goOn 2 (some .int) ∈ TT := by
  have h := Bool.and_eq_true_iff.mp (List.all_eq_true.mp mG_3_60 (133, Cond.code yX5_goOn cX5_goOn 2 (some .int)) (List.mem_of_getElem? (i := 46) rfl))
  exact tt_m3 133 (of_decide_eq_true h.1) h.2
theorem m_ml_L_171 : Cond.methodLink RL 171 yL_weight ∈ TT := by
  have h := Bool.and_eq_true_iff.mp (List.all_eq_true.mp mG_3_60 (135, Cond.methodLink RL 171 yL_weight) (List.mem_of_getElem? (i := 47) rfl))
  exact tt_m3 135 (of_decide_eq_true h.1) h.2
theorem m_st_L_weight : Cond.static yL_weight ∈ TT := by
  have h := Bool.and_eq_true_iff.mp (List.all_eq_true.mp mG_3_60 (136, Cond.static yL_weight) (List.mem_of_getElem? (i := 48) rfl))
  exact tt_m3 136 (of_decide_eq_true h.1) h.2
theorem m_cd_L_weight : Cond.codeWith yL_weight cL_weight 5 (some .int) [(0, 10, 13, 21)] ∈ TT := by
  have h := Bool.and_eq_true_iff.mp (List.all_eq_true.mp mG_3_60 (137, Cond.codeWith yL_weight cL_weight 5 (some .int) [(0, 10, 13, 21)]) (List.mem_of_getElem? (i := 49) rfl))
  exact tt_m3 137 (of_decide_eq_true h.1) h.2
theorem m_ml_L_52 : Cond.methodLink RL 52 yX5_weight ∈ TT := by
  have h := Bool.and_eq_true_iff.mp (List.all_eq_true.mp mG_3_60 (138, Cond.methodLink RL 52 yX5_weight) (List.mem_of_getElem? (i := 50) rfl))
  exact tt_m3 138 (of_decide_eq_true h.1) h.2
theorem m_ml_L_174 : Cond.methodLink RL 174 yL_share ∈ TT := by
  have h := Bool.and_eq_true_iff.mp (List.all_eq_true.mp mG_3_60 (139, Cond.methodLink RL 174 yL_share) (List.mem_of_getElem? (i := 51) rfl))
  exact tt_m3 139 (of_decide_eq_true h.1) h.2
theorem m_st_L_share : Cond.static yL_share ∈ TT := by
  have h := Bool.and_eq_true_iff.mp (List.all_eq_true.mp mG_3_60 (140, Cond.static yL_share) (List.mem_of_getElem? (i := 52) rfl))
  exact tt_m3 140 (of_decide_eq_true h.1) h.2
theorem m_cd_L_share : Cond.codeWith yL_share cL_share 4 (some .int) [(0, 9, 12, 21)] ∈ TT := by
  have h := Bool.and_eq_true_iff.mp (List.all_eq_true.mp mG_3_60 (141, Cond.codeWith yL_share cL_share 4 (some .int) [(0, 9, 12, 21)]) (List.mem_of_getElem? (i := 53) rfl))
  exact tt_m3 141 (of_decide_eq_true h.1) h.2
theorem m_ml_L_55 : Cond.methodLink RL 55 yX5_share ∈ TT := by
  have h := Bool.and_eq_true_iff.mp (List.all_eq_true.mp mG_3_60 (142, Cond.methodLink RL 55 yX5_share) (List.mem_of_getElem? (i := 54) rfl))
  exact tt_m3 142 (of_decide_eq_true h.1) h.2
theorem m_ml_L_177 : Cond.methodLink RL 177 yL_left ∈ TT := by
  have h := Bool.and_eq_true_iff.mp (List.all_eq_true.mp mG_3_60 (143, Cond.methodLink RL 177 yL_left) (List.mem_of_getElem? (i := 55) rfl))
  exact tt_m3 143 (of_decide_eq_true h.1) h.2
theorem m_st_L_left : Cond.static yL_left ∈ TT := by
  have h := Bool.and_eq_true_iff.mp (List.all_eq_true.mp mG_3_60 (144, Cond.static yL_left) (List.mem_of_getElem? (i := 56) rfl))
  exact tt_m3 144 (of_decide_eq_true h.1) h.2
theorem m_cd_L_left : Cond.codeWith yL_left cL_left 4 (some .int) [(0, 9, 12, 21)] ∈ TT := by
  have h := Bool.and_eq_true_iff.mp (List.all_eq_true.mp mG_3_60 (145, Cond.codeWith yL_left cL_left 4 (some .int) [(0, 9, 12, 21)]) (List.mem_of_getElem? (i := 57) rfl))
  exact tt_m3 145 (of_decide_eq_true h.1) h.2
theorem m_ml_L_58 : Cond.methodLink RL 58 yX5_left ∈ TT := by
  have h := Bool.and_eq_true_iff.mp (List.all_eq_true.mp mG_3_60 (146, Cond.methodLink RL 58 yX5_left) (List.mem_of_getElem? (i := 58) rfl))
  exact tt_m3 146 (of_decide_eq_true h.1) h.2
theorem m_ml_L_180 : Cond.methodLink RL 180 yL_bucket ∈ TT := by
  have h := Bool.and_eq_true_iff.mp (List.all_eq_true.mp mG_3_60 (147, Cond.methodLink RL 180 yL_bucket) (List.mem_of_getElem? (i := 59) rfl))
  exact tt_m3 147 (of_decide_eq_true h.1) h.2
theorem mG_3_120 : ([(148, Cond.static yL_bucket), (149, Cond.codeWith yL_bucket cL_bucket 5 (some .int) [(0, 10, 13, 13)]), (150, Cond.methodLink RL 61 yX5_bucket), (151, Cond.instanceMethod yX5_bucket), (152, Cond.selects RX5 yX5_bucket yX5_bucket), (153, Cond.code yX5_bucket cX5_bucket 3 (some .int)), (155, Cond.methodLink RL 183 yL_gets), (156, Cond.static yL_gets), (157, Cond.codeWith yL_gets cL_gets 7 (some .int) [(0, 14, 17, 21), (0, 14, 21, 13)]), (158, Cond.methodLink RL 64 yX5_gets), (159, Cond.methodLink RL 186 yL_why), (160, Cond.static yL_why), (161, Cond.codeWith yL_why cL_why 7 (some .int) [(0, 14, 17, 21), (0, 14, 21, 13)]), (162, Cond.methodLink RL 67 yX5_why), (163, Cond.methodLink RL 189 yL_holds), (164, Cond.static yL_holds), (165, Cond.codeWith yL_holds cL_holds 7 (some .int) [(0, 14, 17, 21), (0, 14, 21, 13)]), (166, Cond.methodLink RL 70 yX5_holds), (167, Cond.instanceMethod yX5_holds), (168, Cond.selects RX5 yX5_holds yX5_holds), (169, Cond.code yX5_holds cX5_holds 6 (some .int)), (170, Cond.methodLink RL 192 yL_ask), (171, Cond.static yL_ask), (172, Cond.codeWith yL_ask cL_ask 7 (some .int) [(0, 14, 17, 21), (0, 14, 21, 13)]), (173, Cond.methodLink RL 73 yX5_ask), (174, Cond.instanceMethod yX5_ask), (175, Cond.selects RX5 yX5_ask yX5_ask), (176, Cond.code yX5_ask cX5_ask 8 (some .int)), (177, Cond.methodLink RX5 172 yX3_addArm), (178, Cond.instanceMethod yX3_addArm), (179, Cond.selects RX3 yX3_addArm yX3_addArm), (180, Cond.code yX3_addArm cX3_addArm 3 none), (181, Cond.classLink RX3 90 RX0), (182, Cond.instantiable RX0 5), (183, Cond.methodLink RX3 97 yX0_init), (184, Cond.instanceMethod yX0_init), (185, Cond.code yX0_init cX0_init 4 none), (186, Cond.methodLink RX0 1 ⟨"java/lang/Object", "<init>", "()V"⟩), (187, Cond.fieldLink RX0 7 "DaybreakFlags$Arm" "user" "I"), (189, Cond.fieldLink RX0 13 "DaybreakFlags$Arm" "variant" "I"), (192, Cond.fieldLink RX0 16 "DaybreakFlags$Arm" "older" "LDaybreakFlags$Arm;"), (207, Cond.methodLink RX3 100 yX4_countArm), (208, Cond.instanceMethod yX4_countArm), (209, Cond.selects RX4 yX4_countArm yX4_countArm), (210, Cond.code yX4_countArm cX4_countArm 2 none), (211, Cond.methodLink RL 195 yL_act), (212, Cond.static yL_act), (213, Cond.codeWith yL_act cL_act 5 (some .int) [(0, 10, 13, 13)]), (214, Cond.methodLink RL 76 yX5_act), (215, Cond.instanceMethod yX5_act), (216, Cond.selects RX5 yX5_act yX5_act), (217, Cond.code yX5_act cX5_act 8 (some .int)), (219, Cond.methodLink RX5 177 yX3_addWorth), (220, Cond.instanceMethod yX3_addWorth), (221, Cond.selects RX3 yX3_addWorth yX3_addWorth), (222, Cond.code yX3_addWorth cX3_addWorth 4 (some .boolean)), (223, Cond.methodLink RX3 104 yX3_armOf), (224, Cond.methodLink RX3 117 yX4_countAct), (225, Cond.instanceMethod yX4_countAct), (226, Cond.selects RX4 yX4_countAct yX4_countAct)] : List (Nat × Cond)).all (fun q => decide (tables_1_3[q.1]? = some q.2) && goodWord q.2) = true := by decide +kernel
theorem m_st_L_bucket : Cond.static yL_bucket ∈ TT := by
  have h := Bool.and_eq_true_iff.mp (List.all_eq_true.mp mG_3_120 (148, Cond.static yL_bucket) (List.mem_of_getElem? (i := 0) rfl))
  exact tt_m3 148 (of_decide_eq_true h.1) h.2
theorem m_cd_L_bucket : Cond.codeWith yL_bucket cL_bucket 5 (some .int) [(0, 10, 13, 13)] ∈ TT := by
  have h := Bool.and_eq_true_iff.mp (List.all_eq_true.mp mG_3_120 (149, Cond.codeWith yL_bucket cL_bucket 5 (some .int) [(0, 10, 13, 13)]) (List.mem_of_getElem? (i := 1) rfl))
  exact tt_m3 149 (of_decide_eq_true h.1) h.2
theorem m_ml_L_61 : Cond.methodLink RL 61 yX5_bucket ∈ TT := by
  have h := Bool.and_eq_true_iff.mp (List.all_eq_true.mp mG_3_120 (150, Cond.methodLink RL 61 yX5_bucket) (List.mem_of_getElem? (i := 2) rfl))
  exact tt_m3 150 (of_decide_eq_true h.1) h.2
theorem m_im_X5_bucket : Cond.instanceMethod yX5_bucket ∈ TT := by
  have h := Bool.and_eq_true_iff.mp (List.all_eq_true.mp mG_3_120 (151, Cond.instanceMethod yX5_bucket) (List.mem_of_getElem? (i := 3) rfl))
  exact tt_m3 151 (of_decide_eq_true h.1) h.2
theorem m_sl_X5_bucket : Cond.selects RX5 yX5_bucket yX5_bucket ∈ TT := by
  have h := Bool.and_eq_true_iff.mp (List.all_eq_true.mp mG_3_120 (152, Cond.selects RX5 yX5_bucket yX5_bucket) (List.mem_of_getElem? (i := 4) rfl))
  exact tt_m3 152 (of_decide_eq_true h.1) h.2
theorem m_cd_X5_bucket : Cond.code yX5_bucket cX5_bucket 3 (some .int) ∈ TT := by
  have h := Bool.and_eq_true_iff.mp (List.all_eq_true.mp mG_3_120 (153, Cond.code yX5_bucket cX5_bucket 3 (some .int)) (List.mem_of_getElem? (i := 5) rfl))
  exact tt_m3 153 (of_decide_eq_true h.1) h.2
theorem m_ml_L_183 : Cond.methodLink RL 183 yL_gets ∈ TT := by
  have h := Bool.and_eq_true_iff.mp (List.all_eq_true.mp mG_3_120 (155, Cond.methodLink RL 183 yL_gets) (List.mem_of_getElem? (i := 6) rfl))
  exact tt_m3 155 (of_decide_eq_true h.1) h.2
theorem m_st_L_gets : Cond.static yL_gets ∈ TT := by
  have h := Bool.and_eq_true_iff.mp (List.all_eq_true.mp mG_3_120 (156, Cond.static yL_gets) (List.mem_of_getElem? (i := 7) rfl))
  exact tt_m3 156 (of_decide_eq_true h.1) h.2
theorem m_cd_L_gets : Cond.codeWith yL_gets cL_gets 7 (some .int) [(0, 14, 17, 21), (0, 14, 21, 13)] ∈ TT := by
  have h := Bool.and_eq_true_iff.mp (List.all_eq_true.mp mG_3_120 (157, Cond.codeWith yL_gets cL_gets 7 (some .int) [(0, 14, 17, 21), (0, 14, 21, 13)]) (List.mem_of_getElem? (i := 8) rfl))
  exact tt_m3 157 (of_decide_eq_true h.1) h.2
theorem m_ml_L_64 : Cond.methodLink RL 64 yX5_gets ∈ TT := by
  have h := Bool.and_eq_true_iff.mp (List.all_eq_true.mp mG_3_120 (158, Cond.methodLink RL 64 yX5_gets) (List.mem_of_getElem? (i := 9) rfl))
  exact tt_m3 158 (of_decide_eq_true h.1) h.2
theorem m_ml_L_186 : Cond.methodLink RL 186 yL_why ∈ TT := by
  have h := Bool.and_eq_true_iff.mp (List.all_eq_true.mp mG_3_120 (159, Cond.methodLink RL 186 yL_why) (List.mem_of_getElem? (i := 10) rfl))
  exact tt_m3 159 (of_decide_eq_true h.1) h.2
theorem m_st_L_why : Cond.static yL_why ∈ TT := by
  have h := Bool.and_eq_true_iff.mp (List.all_eq_true.mp mG_3_120 (160, Cond.static yL_why) (List.mem_of_getElem? (i := 11) rfl))
  exact tt_m3 160 (of_decide_eq_true h.1) h.2
theorem m_cd_L_why : Cond.codeWith yL_why cL_why 7 (some .int) [(0, 14, 17, 21), (0, 14, 21, 13)] ∈ TT := by
  have h := Bool.and_eq_true_iff.mp (List.all_eq_true.mp mG_3_120 (161, Cond.codeWith yL_why cL_why 7 (some .int) [(0, 14, 17, 21), (0, 14, 21, 13)]) (List.mem_of_getElem? (i := 12) rfl))
  exact tt_m3 161 (of_decide_eq_true h.1) h.2
theorem m_ml_L_67 : Cond.methodLink RL 67 yX5_why ∈ TT := by
  have h := Bool.and_eq_true_iff.mp (List.all_eq_true.mp mG_3_120 (162, Cond.methodLink RL 67 yX5_why) (List.mem_of_getElem? (i := 13) rfl))
  exact tt_m3 162 (of_decide_eq_true h.1) h.2
theorem m_ml_L_189 : Cond.methodLink RL 189 yL_holds ∈ TT := by
  have h := Bool.and_eq_true_iff.mp (List.all_eq_true.mp mG_3_120 (163, Cond.methodLink RL 189 yL_holds) (List.mem_of_getElem? (i := 14) rfl))
  exact tt_m3 163 (of_decide_eq_true h.1) h.2
theorem m_st_L_holds : Cond.static yL_holds ∈ TT := by
  have h := Bool.and_eq_true_iff.mp (List.all_eq_true.mp mG_3_120 (164, Cond.static yL_holds) (List.mem_of_getElem? (i := 15) rfl))
  exact tt_m3 164 (of_decide_eq_true h.1) h.2
theorem m_cd_L_holds : Cond.codeWith yL_holds cL_holds 7 (some .int) [(0, 14, 17, 21), (0, 14, 21, 13)] ∈ TT := by
  have h := Bool.and_eq_true_iff.mp (List.all_eq_true.mp mG_3_120 (165, Cond.codeWith yL_holds cL_holds 7 (some .int) [(0, 14, 17, 21), (0, 14, 21, 13)]) (List.mem_of_getElem? (i := 16) rfl))
  exact tt_m3 165 (of_decide_eq_true h.1) h.2
theorem m_ml_L_70 : Cond.methodLink RL 70 yX5_holds ∈ TT := by
  have h := Bool.and_eq_true_iff.mp (List.all_eq_true.mp mG_3_120 (166, Cond.methodLink RL 70 yX5_holds) (List.mem_of_getElem? (i := 17) rfl))
  exact tt_m3 166 (of_decide_eq_true h.1) h.2
theorem m_im_X5_holds : Cond.instanceMethod yX5_holds ∈ TT := by
  have h := Bool.and_eq_true_iff.mp (List.all_eq_true.mp mG_3_120 (167, Cond.instanceMethod yX5_holds) (List.mem_of_getElem? (i := 18) rfl))
  exact tt_m3 167 (of_decide_eq_true h.1) h.2
theorem m_sl_X5_holds : Cond.selects RX5 yX5_holds yX5_holds ∈ TT := by
  have h := Bool.and_eq_true_iff.mp (List.all_eq_true.mp mG_3_120 (168, Cond.selects RX5 yX5_holds yX5_holds) (List.mem_of_getElem? (i := 19) rfl))
  exact tt_m3 168 (of_decide_eq_true h.1) h.2
theorem m_cd_X5_holds : Cond.code yX5_holds cX5_holds 6 (some .int) ∈ TT := by
  have h := Bool.and_eq_true_iff.mp (List.all_eq_true.mp mG_3_120 (169, Cond.code yX5_holds cX5_holds 6 (some .int)) (List.mem_of_getElem? (i := 20) rfl))
  exact tt_m3 169 (of_decide_eq_true h.1) h.2
theorem m_ml_L_192 : Cond.methodLink RL 192 yL_ask ∈ TT := by
  have h := Bool.and_eq_true_iff.mp (List.all_eq_true.mp mG_3_120 (170, Cond.methodLink RL 192 yL_ask) (List.mem_of_getElem? (i := 21) rfl))
  exact tt_m3 170 (of_decide_eq_true h.1) h.2
theorem m_st_L_ask : Cond.static yL_ask ∈ TT := by
  have h := Bool.and_eq_true_iff.mp (List.all_eq_true.mp mG_3_120 (171, Cond.static yL_ask) (List.mem_of_getElem? (i := 22) rfl))
  exact tt_m3 171 (of_decide_eq_true h.1) h.2
theorem m_cd_L_ask : Cond.codeWith yL_ask cL_ask 7 (some .int) [(0, 14, 17, 21), (0, 14, 21, 13)] ∈ TT := by
  have h := Bool.and_eq_true_iff.mp (List.all_eq_true.mp mG_3_120 (172, Cond.codeWith yL_ask cL_ask 7 (some .int) [(0, 14, 17, 21), (0, 14, 21, 13)]) (List.mem_of_getElem? (i := 23) rfl))
  exact tt_m3 172 (of_decide_eq_true h.1) h.2
theorem m_ml_L_73 : Cond.methodLink RL 73 yX5_ask ∈ TT := by
  have h := Bool.and_eq_true_iff.mp (List.all_eq_true.mp mG_3_120 (173, Cond.methodLink RL 73 yX5_ask) (List.mem_of_getElem? (i := 24) rfl))
  exact tt_m3 173 (of_decide_eq_true h.1) h.2
theorem m_im_X5_ask : Cond.instanceMethod yX5_ask ∈ TT := by
  have h := Bool.and_eq_true_iff.mp (List.all_eq_true.mp mG_3_120 (174, Cond.instanceMethod yX5_ask) (List.mem_of_getElem? (i := 25) rfl))
  exact tt_m3 174 (of_decide_eq_true h.1) h.2
theorem m_sl_X5_ask : Cond.selects RX5 yX5_ask yX5_ask ∈ TT := by
  have h := Bool.and_eq_true_iff.mp (List.all_eq_true.mp mG_3_120 (175, Cond.selects RX5 yX5_ask yX5_ask) (List.mem_of_getElem? (i := 26) rfl))
  exact tt_m3 175 (of_decide_eq_true h.1) h.2
theorem m_cd_X5_ask : Cond.code yX5_ask cX5_ask 8 (some .int) ∈ TT := by
  have h := Bool.and_eq_true_iff.mp (List.all_eq_true.mp mG_3_120 (176, Cond.code yX5_ask cX5_ask 8 (some .int)) (List.mem_of_getElem? (i := 27) rfl))
  exact tt_m3 176 (of_decide_eq_true h.1) h.2
theorem m_ml_X5_172 : Cond.methodLink RX5 172 yX3_addArm ∈ TT := by
  have h := Bool.and_eq_true_iff.mp (List.all_eq_true.mp mG_3_120 (177, Cond.methodLink RX5 172 yX3_addArm) (List.mem_of_getElem? (i := 28) rfl))
  exact tt_m3 177 (of_decide_eq_true h.1) h.2
theorem m_im_X3_addArm : Cond.instanceMethod yX3_addArm ∈ TT := by
  have h := Bool.and_eq_true_iff.mp (List.all_eq_true.mp mG_3_120 (178, Cond.instanceMethod yX3_addArm) (List.mem_of_getElem? (i := 29) rfl))
  exact tt_m3 178 (of_decide_eq_true h.1) h.2
theorem m_sl_X3_addArm : Cond.selects RX3 yX3_addArm yX3_addArm ∈ TT := by
  have h := Bool.and_eq_true_iff.mp (List.all_eq_true.mp mG_3_120 (179, Cond.selects RX3 yX3_addArm yX3_addArm) (List.mem_of_getElem? (i := 30) rfl))
  exact tt_m3 179 (of_decide_eq_true h.1) h.2
theorem m_cd_X3_addArm : Cond.code yX3_addArm cX3_addArm 3 none ∈ TT := by
  have h := Bool.and_eq_true_iff.mp (List.all_eq_true.mp mG_3_120 (180, Cond.code yX3_addArm cX3_addArm 3 none) (List.mem_of_getElem? (i := 31) rfl))
  exact tt_m3 180 (of_decide_eq_true h.1) h.2
theorem m_cl_X3_90 : Cond.classLink RX3 90 RX0 ∈ TT := by
  have h := Bool.and_eq_true_iff.mp (List.all_eq_true.mp mG_3_120 (181, Cond.classLink RX3 90 RX0) (List.mem_of_getElem? (i := 32) rfl))
  exact tt_m3 181 (of_decide_eq_true h.1) h.2
theorem m_nw_X0 : Cond.instantiable RX0 5 ∈ TT := by
  have h := Bool.and_eq_true_iff.mp (List.all_eq_true.mp mG_3_120 (182, Cond.instantiable RX0 5) (List.mem_of_getElem? (i := 33) rfl))
  exact tt_m3 182 (of_decide_eq_true h.1) h.2
theorem m_ml_X3_97 : Cond.methodLink RX3 97 yX0_init ∈ TT := by
  have h := Bool.and_eq_true_iff.mp (List.all_eq_true.mp mG_3_120 (183, Cond.methodLink RX3 97 yX0_init) (List.mem_of_getElem? (i := 34) rfl))
  exact tt_m3 183 (of_decide_eq_true h.1) h.2
theorem m_im_X0_init : Cond.instanceMethod yX0_init ∈ TT := by
  have h := Bool.and_eq_true_iff.mp (List.all_eq_true.mp mG_3_120 (184, Cond.instanceMethod yX0_init) (List.mem_of_getElem? (i := 35) rfl))
  exact tt_m3 184 (of_decide_eq_true h.1) h.2
theorem m_cd_X0_init : Cond.code yX0_init cX0_init 4 none ∈ TT := by
  have h := Bool.and_eq_true_iff.mp (List.all_eq_true.mp mG_3_120 (185, Cond.code yX0_init cX0_init 4 none) (List.mem_of_getElem? (i := 36) rfl))
  exact tt_m3 185 (of_decide_eq_true h.1) h.2
theorem m_ml_X0_1 : Cond.methodLink RX0 1 ⟨"java/lang/Object", "<init>", "()V"⟩ ∈ TT := by
  have h := Bool.and_eq_true_iff.mp (List.all_eq_true.mp mG_3_120 (186, Cond.methodLink RX0 1 ⟨"java/lang/Object", "<init>", "()V"⟩) (List.mem_of_getElem? (i := 37) rfl))
  exact tt_m3 186 (of_decide_eq_true h.1) h.2
theorem m_fl_X0_7 : Cond.fieldLink RX0 7 "DaybreakFlags$Arm" "user" "I" ∈ TT := by
  have h := Bool.and_eq_true_iff.mp (List.all_eq_true.mp mG_3_120 (187, Cond.fieldLink RX0 7 "DaybreakFlags$Arm" "user" "I") (List.mem_of_getElem? (i := 38) rfl))
  exact tt_m3 187 (of_decide_eq_true h.1) h.2
theorem m_fl_X0_13 : Cond.fieldLink RX0 13 "DaybreakFlags$Arm" "variant" "I" ∈ TT := by
  have h := Bool.and_eq_true_iff.mp (List.all_eq_true.mp mG_3_120 (189, Cond.fieldLink RX0 13 "DaybreakFlags$Arm" "variant" "I") (List.mem_of_getElem? (i := 39) rfl))
  exact tt_m3 189 (of_decide_eq_true h.1) h.2
theorem m_fl_X0_16 : Cond.fieldLink RX0 16 "DaybreakFlags$Arm" "older" "LDaybreakFlags$Arm;" ∈ TT := by
  have h := Bool.and_eq_true_iff.mp (List.all_eq_true.mp mG_3_120 (192, Cond.fieldLink RX0 16 "DaybreakFlags$Arm" "older" "LDaybreakFlags$Arm;") (List.mem_of_getElem? (i := 40) rfl))
  exact tt_m3 192 (of_decide_eq_true h.1) h.2
theorem m_ml_X3_100 : Cond.methodLink RX3 100 yX4_countArm ∈ TT := by
  have h := Bool.and_eq_true_iff.mp (List.all_eq_true.mp mG_3_120 (207, Cond.methodLink RX3 100 yX4_countArm) (List.mem_of_getElem? (i := 41) rfl))
  exact tt_m3 207 (of_decide_eq_true h.1) h.2
theorem m_im_X4_countArm : Cond.instanceMethod yX4_countArm ∈ TT := by
  have h := Bool.and_eq_true_iff.mp (List.all_eq_true.mp mG_3_120 (208, Cond.instanceMethod yX4_countArm) (List.mem_of_getElem? (i := 42) rfl))
  exact tt_m3 208 (of_decide_eq_true h.1) h.2
theorem m_sl_X4_countArm : Cond.selects RX4 yX4_countArm yX4_countArm ∈ TT := by
  have h := Bool.and_eq_true_iff.mp (List.all_eq_true.mp mG_3_120 (209, Cond.selects RX4 yX4_countArm yX4_countArm) (List.mem_of_getElem? (i := 43) rfl))
  exact tt_m3 209 (of_decide_eq_true h.1) h.2
theorem m_cd_X4_countArm : Cond.code yX4_countArm cX4_countArm 2 none ∈ TT := by
  have h := Bool.and_eq_true_iff.mp (List.all_eq_true.mp mG_3_120 (210, Cond.code yX4_countArm cX4_countArm 2 none) (List.mem_of_getElem? (i := 44) rfl))
  exact tt_m3 210 (of_decide_eq_true h.1) h.2
theorem m_ml_L_195 : Cond.methodLink RL 195 yL_act ∈ TT := by
  have h := Bool.and_eq_true_iff.mp (List.all_eq_true.mp mG_3_120 (211, Cond.methodLink RL 195 yL_act) (List.mem_of_getElem? (i := 45) rfl))
  exact tt_m3 211 (of_decide_eq_true h.1) h.2
theorem m_st_L_act : Cond.static yL_act ∈ TT := by
  have h := Bool.and_eq_true_iff.mp (List.all_eq_true.mp mG_3_120 (212, Cond.static yL_act) (List.mem_of_getElem? (i := 46) rfl))
  exact tt_m3 212 (of_decide_eq_true h.1) h.2
theorem m_cd_L_act : Cond.codeWith yL_act cL_act 5 (some .int) [(0, 10, 13, 13)] ∈ TT := by
  have h := Bool.and_eq_true_iff.mp (List.all_eq_true.mp mG_3_120 (213, Cond.codeWith yL_act cL_act 5 (some .int) [(0, 10, 13, 13)]) (List.mem_of_getElem? (i := 47) rfl))
  exact tt_m3 213 (of_decide_eq_true h.1) h.2
theorem m_ml_L_76 : Cond.methodLink RL 76 yX5_act ∈ TT := by
  have h := Bool.and_eq_true_iff.mp (List.all_eq_true.mp mG_3_120 (214, Cond.methodLink RL 76 yX5_act) (List.mem_of_getElem? (i := 48) rfl))
  exact tt_m3 214 (of_decide_eq_true h.1) h.2
theorem m_im_X5_act : Cond.instanceMethod yX5_act ∈ TT := by
  have h := Bool.and_eq_true_iff.mp (List.all_eq_true.mp mG_3_120 (215, Cond.instanceMethod yX5_act) (List.mem_of_getElem? (i := 49) rfl))
  exact tt_m3 215 (of_decide_eq_true h.1) h.2
theorem m_sl_X5_act : Cond.selects RX5 yX5_act yX5_act ∈ TT := by
  have h := Bool.and_eq_true_iff.mp (List.all_eq_true.mp mG_3_120 (216, Cond.selects RX5 yX5_act yX5_act) (List.mem_of_getElem? (i := 50) rfl))
  exact tt_m3 216 (of_decide_eq_true h.1) h.2
theorem m_cd_X5_act : Cond.code yX5_act cX5_act 8 (some .int) ∈ TT := by
  have h := Bool.and_eq_true_iff.mp (List.all_eq_true.mp mG_3_120 (217, Cond.code yX5_act cX5_act 8 (some .int)) (List.mem_of_getElem? (i := 51) rfl))
  exact tt_m3 217 (of_decide_eq_true h.1) h.2
theorem m_ml_X5_177 : Cond.methodLink RX5 177 yX3_addWorth ∈ TT := by
  have h := Bool.and_eq_true_iff.mp (List.all_eq_true.mp mG_3_120 (219, Cond.methodLink RX5 177 yX3_addWorth) (List.mem_of_getElem? (i := 52) rfl))
  exact tt_m3 219 (of_decide_eq_true h.1) h.2
theorem m_im_X3_addWorth : Cond.instanceMethod yX3_addWorth ∈ TT := by
  have h := Bool.and_eq_true_iff.mp (List.all_eq_true.mp mG_3_120 (220, Cond.instanceMethod yX3_addWorth) (List.mem_of_getElem? (i := 53) rfl))
  exact tt_m3 220 (of_decide_eq_true h.1) h.2
theorem m_sl_X3_addWorth : Cond.selects RX3 yX3_addWorth yX3_addWorth ∈ TT := by
  have h := Bool.and_eq_true_iff.mp (List.all_eq_true.mp mG_3_120 (221, Cond.selects RX3 yX3_addWorth yX3_addWorth) (List.mem_of_getElem? (i := 54) rfl))
  exact tt_m3 221 (of_decide_eq_true h.1) h.2
theorem m_cd_X3_addWorth : Cond.code yX3_addWorth cX3_addWorth 4 (some .boolean) ∈ TT := by
  have h := Bool.and_eq_true_iff.mp (List.all_eq_true.mp mG_3_120 (222, Cond.code yX3_addWorth cX3_addWorth 4 (some .boolean)) (List.mem_of_getElem? (i := 55) rfl))
  exact tt_m3 222 (of_decide_eq_true h.1) h.2
theorem m_ml_X3_104 : Cond.methodLink RX3 104 yX3_armOf ∈ TT := by
  have h := Bool.and_eq_true_iff.mp (List.all_eq_true.mp mG_3_120 (223, Cond.methodLink RX3 104 yX3_armOf) (List.mem_of_getElem? (i := 56) rfl))
  exact tt_m3 223 (of_decide_eq_true h.1) h.2
theorem m_ml_X3_117 : Cond.methodLink RX3 117 yX4_countAct ∈ TT := by
  have h := Bool.and_eq_true_iff.mp (List.all_eq_true.mp mG_3_120 (224, Cond.methodLink RX3 117 yX4_countAct) (List.mem_of_getElem? (i := 57) rfl))
  exact tt_m3 224 (of_decide_eq_true h.1) h.2
theorem m_im_X4_countAct : Cond.instanceMethod yX4_countAct ∈ TT := by
  have h := Bool.and_eq_true_iff.mp (List.all_eq_true.mp mG_3_120 (225, Cond.instanceMethod yX4_countAct) (List.mem_of_getElem? (i := 58) rfl))
  exact tt_m3 225 (of_decide_eq_true h.1) h.2
theorem m_sl_X4_countAct : Cond.selects RX4 yX4_countAct yX4_countAct ∈ TT := by
  have h := Bool.and_eq_true_iff.mp (List.all_eq_true.mp mG_3_120 (226, Cond.selects RX4 yX4_countAct yX4_countAct) (List.mem_of_getElem? (i := 59) rfl))
  exact tt_m3 226 (of_decide_eq_true h.1) h.2
theorem mG_3_180 : ([(227, Cond.code yX4_countAct cX4_countAct 8 none), (228, Cond.methodLink RL 198 yL_arm), (229, Cond.static yL_arm), (230, Cond.codeWith yL_arm cL_arm 5 (some .int) [(0, 10, 13, 21), (0, 10, 17, 13)]), (231, Cond.methodLink RL 79 yX5_arm), (232, Cond.methodLink RL 205 yL_told), (233, Cond.static yL_told), (234, Cond.codeWith yL_told cL_told 6 (some .int) [(0, 12, 15, 21), (0, 12, 19, 13)]), (235, Cond.methodLink RL 82 yX5_told), (236, Cond.methodLink RL 208 yL_mean), (237, Cond.static yL_mean), (238, Cond.codeWith yL_mean cL_mean 5 (some .int) [(0, 9, 12, 21)]), (239, Cond.methodLink RL 85 yX5_mean)] : List (Nat × Cond)).all (fun q => decide (tables_1_3[q.1]? = some q.2) && goodWord q.2) = true := by decide +kernel
theorem m_cd_X4_countAct : Cond.code yX4_countAct cX4_countAct 8 none ∈ TT := by
  have h := Bool.and_eq_true_iff.mp (List.all_eq_true.mp mG_3_180 (227, Cond.code yX4_countAct cX4_countAct 8 none) (List.mem_of_getElem? (i := 0) rfl))
  exact tt_m3 227 (of_decide_eq_true h.1) h.2
theorem m_ml_L_198 : Cond.methodLink RL 198 yL_arm ∈ TT := by
  have h := Bool.and_eq_true_iff.mp (List.all_eq_true.mp mG_3_180 (228, Cond.methodLink RL 198 yL_arm) (List.mem_of_getElem? (i := 1) rfl))
  exact tt_m3 228 (of_decide_eq_true h.1) h.2
theorem m_st_L_arm : Cond.static yL_arm ∈ TT := by
  have h := Bool.and_eq_true_iff.mp (List.all_eq_true.mp mG_3_180 (229, Cond.static yL_arm) (List.mem_of_getElem? (i := 2) rfl))
  exact tt_m3 229 (of_decide_eq_true h.1) h.2
theorem m_cd_L_arm : Cond.codeWith yL_arm cL_arm 5 (some .int) [(0, 10, 13, 21), (0, 10, 17, 13)] ∈ TT := by
  have h := Bool.and_eq_true_iff.mp (List.all_eq_true.mp mG_3_180 (230, Cond.codeWith yL_arm cL_arm 5 (some .int) [(0, 10, 13, 21), (0, 10, 17, 13)]) (List.mem_of_getElem? (i := 3) rfl))
  exact tt_m3 230 (of_decide_eq_true h.1) h.2
theorem m_ml_L_79 : Cond.methodLink RL 79 yX5_arm ∈ TT := by
  have h := Bool.and_eq_true_iff.mp (List.all_eq_true.mp mG_3_180 (231, Cond.methodLink RL 79 yX5_arm) (List.mem_of_getElem? (i := 4) rfl))
  exact tt_m3 231 (of_decide_eq_true h.1) h.2
theorem m_ml_L_205 : Cond.methodLink RL 205 yL_told ∈ TT := by
  have h := Bool.and_eq_true_iff.mp (List.all_eq_true.mp mG_3_180 (232, Cond.methodLink RL 205 yL_told) (List.mem_of_getElem? (i := 5) rfl))
  exact tt_m3 232 (of_decide_eq_true h.1) h.2
theorem m_st_L_told : Cond.static yL_told ∈ TT := by
  have h := Bool.and_eq_true_iff.mp (List.all_eq_true.mp mG_3_180 (233, Cond.static yL_told) (List.mem_of_getElem? (i := 6) rfl))
  exact tt_m3 233 (of_decide_eq_true h.1) h.2
theorem m_cd_L_told : Cond.codeWith yL_told cL_told 6 (some .int) [(0, 12, 15, 21), (0, 12, 19, 13)] ∈ TT := by
  have h := Bool.and_eq_true_iff.mp (List.all_eq_true.mp mG_3_180 (234, Cond.codeWith yL_told cL_told 6 (some .int) [(0, 12, 15, 21), (0, 12, 19, 13)]) (List.mem_of_getElem? (i := 7) rfl))
  exact tt_m3 234 (of_decide_eq_true h.1) h.2
theorem m_ml_L_82 : Cond.methodLink RL 82 yX5_told ∈ TT := by
  have h := Bool.and_eq_true_iff.mp (List.all_eq_true.mp mG_3_180 (235, Cond.methodLink RL 82 yX5_told) (List.mem_of_getElem? (i := 8) rfl))
  exact tt_m3 235 (of_decide_eq_true h.1) h.2
theorem m_ml_L_208 : Cond.methodLink RL 208 yL_mean ∈ TT := by
  have h := Bool.and_eq_true_iff.mp (List.all_eq_true.mp mG_3_180 (236, Cond.methodLink RL 208 yL_mean) (List.mem_of_getElem? (i := 9) rfl))
  exact tt_m3 236 (of_decide_eq_true h.1) h.2
theorem m_st_L_mean : Cond.static yL_mean ∈ TT := by
  have h := Bool.and_eq_true_iff.mp (List.all_eq_true.mp mG_3_180 (237, Cond.static yL_mean) (List.mem_of_getElem? (i := 10) rfl))
  exact tt_m3 237 (of_decide_eq_true h.1) h.2
theorem m_cd_L_mean : Cond.codeWith yL_mean cL_mean 5 (some .int) [(0, 9, 12, 21)] ∈ TT := by
  have h := Bool.and_eq_true_iff.mp (List.all_eq_true.mp mG_3_180 (238, Cond.codeWith yL_mean cL_mean 5 (some .int) [(0, 9, 12, 21)]) (List.mem_of_getElem? (i := 11) rfl))
  exact tt_m3 238 (of_decide_eq_true h.1) h.2
theorem m_ml_L_85 : Cond.methodLink RL 85 yX5_mean ∈ TT := by
  have h := Bool.and_eq_true_iff.mp (List.all_eq_true.mp mG_3_180 (239, Cond.methodLink RL 85 yX5_mean) (List.mem_of_getElem? (i := 12) rfl))
  exact tt_m3 239 (of_decide_eq_true h.1) h.2
theorem mG_4_0 : ([(0, Cond.instanceMethod yX5_mean), (1, Cond.selects RX5 yX5_mean yX5_mean), (2, Cond.code yX5_mean cX5_mean 4 (some .double)), (3, Cond.methodLink RX5 209 yX4_meanOf), (4, Cond.methodLink RL 212 yL_lift), (5, Cond.static yL_lift), (6, Cond.codeWith yL_lift cL_lift 5 (some .int) [(0, 9, 12, 21)]), (7, Cond.methodLink RL 89 yX5_lift), (8, Cond.instanceMethod yX5_lift), (9, Cond.selects RX5 yX5_lift yX5_lift), (10, Cond.code yX5_lift cX5_lift 4 (some .double)), (11, Cond.methodLink RX5 213 yX4_liftOf), (12, Cond.instanceMethod yX4_liftOf), (13, Cond.selects RX4 yX4_liftOf yX4_liftOf), (14, Cond.code yX4_liftOf cX4_liftOf 2 (some .double)), (15, Cond.methodLink RL 215 yL_sure), (16, Cond.static yL_sure), (17, Cond.codeWith yL_sure cL_sure 5 (some .int) [(0, 9, 12, 21)]), (18, Cond.methodLink RL 92 yX5_sure), (19, Cond.instanceMethod yX5_sure), (20, Cond.selects RX5 yX5_sure yX5_sure), (21, Cond.code yX5_sure cX5_sure 4 (some .double)), (22, Cond.methodLink RX5 216 yX4_surenessOf), (23, Cond.instanceMethod yX4_surenessOf), (24, Cond.selects RX4 yX4_surenessOf yX4_surenessOf), (25, Cond.code yX4_surenessOf cX4_surenessOf 6 (some .double)), (26, Cond.methodLink RX4 44 yX4_spreadByCount), (28, Cond.instanceMethod yX4_spreadByCount), (29, Cond.code yX4_spreadByCount cX4_spreadByCount 7 (some .double)), (30, Cond.methodLink RX4 50 yX4_squaresOf), (31, Cond.methodLink RX4 47 yX4_liftOf), (32, Cond.methodLink RL 218 yL_bad), (33, Cond.static yL_bad), (34, Cond.codeWith yL_bad cL_bad 4 (some .int) [(0, 9, 12, 21)]), (35, Cond.methodLink RL 95 yX5_bad), (36, Cond.methodLink RL 221 yL_isTrusted), (37, Cond.static yL_isTrusted), (38, Cond.codeWith yL_isTrusted cL_isTrusted 4 (some .int) [(0, 16, 19, 21)]), (39, Cond.methodLink RL 98 yX5_isTrusted), (40, Cond.methodLink RL 224 yL_best), (41, Cond.static yL_best), (42, Cond.codeWith yL_best cL_best 4 (some .int) [(0, 9, 12, 21)]), (43, Cond.methodLink RL 102 yX5_best), (44, Cond.methodLink RL 227 yL_reach), (45, Cond.static yL_reach), (46, Cond.codeWith yL_reach cL_reach 6 (some .int) [(0, 12, 15, 21), (0, 12, 19, 13)]), (47, Cond.methodLink RL 105 yX5_reach), (48, Cond.methodLink RL 230 yL_both), (49, Cond.static yL_both), (50, Cond.codeWith yL_both cL_both 6 (some .int) [(0, 12, 15, 21), (0, 12, 19, 13)]), (51, Cond.methodLink RL 108 yX5_both), (52, Cond.instanceMethod yX5_both), (53, Cond.selects RX5 yX5_both yX5_both), (54, Cond.code yX5_both cX5_both 8 (some .int)), (55, Cond.methodLink RL 233 yL_wouldChange), (56, Cond.static yL_wouldChange), (57, Cond.codeWith yL_wouldChange cL_wouldChange 6 (some .int) [(0, 12, 15, 21), (0, 12, 19, 13)]), (58, Cond.methodLink RL 111 yX5_wouldChange), (59, Cond.instanceMethod yX5_wouldChange), (60, Cond.selects RX5 yX5_wouldChange yX5_wouldChange)] : List (Nat × Cond)).all (fun q => decide (tables_1_4[q.1]? = some q.2) && goodWord q.2) = true := by decide +kernel
theorem m_im_X5_mean : Cond.instanceMethod yX5_mean ∈ TT := by
  have h := Bool.and_eq_true_iff.mp (List.all_eq_true.mp mG_4_0 (0, Cond.instanceMethod yX5_mean) (List.mem_of_getElem? (i := 0) rfl))
  exact tt_m4 0 (of_decide_eq_true h.1) h.2
theorem m_sl_X5_mean : Cond.selects RX5 yX5_mean yX5_mean ∈ TT := by
  have h := Bool.and_eq_true_iff.mp (List.all_eq_true.mp mG_4_0 (1, Cond.selects RX5 yX5_mean yX5_mean) (List.mem_of_getElem? (i := 1) rfl))
  exact tt_m4 1 (of_decide_eq_true h.1) h.2
theorem m_cd_X5_mean : Cond.code yX5_mean cX5_mean 4 (some .double) ∈ TT := by
  have h := Bool.and_eq_true_iff.mp (List.all_eq_true.mp mG_4_0 (2, Cond.code yX5_mean cX5_mean 4 (some .double)) (List.mem_of_getElem? (i := 2) rfl))
  exact tt_m4 2 (of_decide_eq_true h.1) h.2
theorem m_ml_X5_209 : Cond.methodLink RX5 209 yX4_meanOf ∈ TT := by
  have h := Bool.and_eq_true_iff.mp (List.all_eq_true.mp mG_4_0 (3, Cond.methodLink RX5 209 yX4_meanOf) (List.mem_of_getElem? (i := 3) rfl))
  exact tt_m4 3 (of_decide_eq_true h.1) h.2
theorem m_ml_L_212 : Cond.methodLink RL 212 yL_lift ∈ TT := by
  have h := Bool.and_eq_true_iff.mp (List.all_eq_true.mp mG_4_0 (4, Cond.methodLink RL 212 yL_lift) (List.mem_of_getElem? (i := 4) rfl))
  exact tt_m4 4 (of_decide_eq_true h.1) h.2
theorem m_st_L_lift : Cond.static yL_lift ∈ TT := by
  have h := Bool.and_eq_true_iff.mp (List.all_eq_true.mp mG_4_0 (5, Cond.static yL_lift) (List.mem_of_getElem? (i := 5) rfl))
  exact tt_m4 5 (of_decide_eq_true h.1) h.2
theorem m_cd_L_lift : Cond.codeWith yL_lift cL_lift 5 (some .int) [(0, 9, 12, 21)] ∈ TT := by
  have h := Bool.and_eq_true_iff.mp (List.all_eq_true.mp mG_4_0 (6, Cond.codeWith yL_lift cL_lift 5 (some .int) [(0, 9, 12, 21)]) (List.mem_of_getElem? (i := 6) rfl))
  exact tt_m4 6 (of_decide_eq_true h.1) h.2
theorem m_ml_L_89 : Cond.methodLink RL 89 yX5_lift ∈ TT := by
  have h := Bool.and_eq_true_iff.mp (List.all_eq_true.mp mG_4_0 (7, Cond.methodLink RL 89 yX5_lift) (List.mem_of_getElem? (i := 7) rfl))
  exact tt_m4 7 (of_decide_eq_true h.1) h.2
theorem m_im_X5_lift : Cond.instanceMethod yX5_lift ∈ TT := by
  have h := Bool.and_eq_true_iff.mp (List.all_eq_true.mp mG_4_0 (8, Cond.instanceMethod yX5_lift) (List.mem_of_getElem? (i := 8) rfl))
  exact tt_m4 8 (of_decide_eq_true h.1) h.2
theorem m_sl_X5_lift : Cond.selects RX5 yX5_lift yX5_lift ∈ TT := by
  have h := Bool.and_eq_true_iff.mp (List.all_eq_true.mp mG_4_0 (9, Cond.selects RX5 yX5_lift yX5_lift) (List.mem_of_getElem? (i := 9) rfl))
  exact tt_m4 9 (of_decide_eq_true h.1) h.2
theorem m_cd_X5_lift : Cond.code yX5_lift cX5_lift 4 (some .double) ∈ TT := by
  have h := Bool.and_eq_true_iff.mp (List.all_eq_true.mp mG_4_0 (10, Cond.code yX5_lift cX5_lift 4 (some .double)) (List.mem_of_getElem? (i := 10) rfl))
  exact tt_m4 10 (of_decide_eq_true h.1) h.2
theorem m_ml_X5_213 : Cond.methodLink RX5 213 yX4_liftOf ∈ TT := by
  have h := Bool.and_eq_true_iff.mp (List.all_eq_true.mp mG_4_0 (11, Cond.methodLink RX5 213 yX4_liftOf) (List.mem_of_getElem? (i := 11) rfl))
  exact tt_m4 11 (of_decide_eq_true h.1) h.2
theorem m_im_X4_liftOf : Cond.instanceMethod yX4_liftOf ∈ TT := by
  have h := Bool.and_eq_true_iff.mp (List.all_eq_true.mp mG_4_0 (12, Cond.instanceMethod yX4_liftOf) (List.mem_of_getElem? (i := 12) rfl))
  exact tt_m4 12 (of_decide_eq_true h.1) h.2
theorem m_sl_X4_liftOf : Cond.selects RX4 yX4_liftOf yX4_liftOf ∈ TT := by
  have h := Bool.and_eq_true_iff.mp (List.all_eq_true.mp mG_4_0 (13, Cond.selects RX4 yX4_liftOf yX4_liftOf) (List.mem_of_getElem? (i := 13) rfl))
  exact tt_m4 13 (of_decide_eq_true h.1) h.2
theorem m_cd_X4_liftOf : Cond.code yX4_liftOf cX4_liftOf 2 (some .double) ∈ TT := by
  have h := Bool.and_eq_true_iff.mp (List.all_eq_true.mp mG_4_0 (14, Cond.code yX4_liftOf cX4_liftOf 2 (some .double)) (List.mem_of_getElem? (i := 14) rfl))
  exact tt_m4 14 (of_decide_eq_true h.1) h.2
theorem m_ml_L_215 : Cond.methodLink RL 215 yL_sure ∈ TT := by
  have h := Bool.and_eq_true_iff.mp (List.all_eq_true.mp mG_4_0 (15, Cond.methodLink RL 215 yL_sure) (List.mem_of_getElem? (i := 15) rfl))
  exact tt_m4 15 (of_decide_eq_true h.1) h.2
theorem m_st_L_sure : Cond.static yL_sure ∈ TT := by
  have h := Bool.and_eq_true_iff.mp (List.all_eq_true.mp mG_4_0 (16, Cond.static yL_sure) (List.mem_of_getElem? (i := 16) rfl))
  exact tt_m4 16 (of_decide_eq_true h.1) h.2
theorem m_cd_L_sure : Cond.codeWith yL_sure cL_sure 5 (some .int) [(0, 9, 12, 21)] ∈ TT := by
  have h := Bool.and_eq_true_iff.mp (List.all_eq_true.mp mG_4_0 (17, Cond.codeWith yL_sure cL_sure 5 (some .int) [(0, 9, 12, 21)]) (List.mem_of_getElem? (i := 17) rfl))
  exact tt_m4 17 (of_decide_eq_true h.1) h.2
theorem m_ml_L_92 : Cond.methodLink RL 92 yX5_sure ∈ TT := by
  have h := Bool.and_eq_true_iff.mp (List.all_eq_true.mp mG_4_0 (18, Cond.methodLink RL 92 yX5_sure) (List.mem_of_getElem? (i := 18) rfl))
  exact tt_m4 18 (of_decide_eq_true h.1) h.2
theorem m_im_X5_sure : Cond.instanceMethod yX5_sure ∈ TT := by
  have h := Bool.and_eq_true_iff.mp (List.all_eq_true.mp mG_4_0 (19, Cond.instanceMethod yX5_sure) (List.mem_of_getElem? (i := 19) rfl))
  exact tt_m4 19 (of_decide_eq_true h.1) h.2
theorem m_sl_X5_sure : Cond.selects RX5 yX5_sure yX5_sure ∈ TT := by
  have h := Bool.and_eq_true_iff.mp (List.all_eq_true.mp mG_4_0 (20, Cond.selects RX5 yX5_sure yX5_sure) (List.mem_of_getElem? (i := 20) rfl))
  exact tt_m4 20 (of_decide_eq_true h.1) h.2
theorem m_cd_X5_sure : Cond.code yX5_sure cX5_sure 4 (some .double) ∈ TT := by
  have h := Bool.and_eq_true_iff.mp (List.all_eq_true.mp mG_4_0 (21, Cond.code yX5_sure cX5_sure 4 (some .double)) (List.mem_of_getElem? (i := 21) rfl))
  exact tt_m4 21 (of_decide_eq_true h.1) h.2
theorem m_ml_X5_216 : Cond.methodLink RX5 216 yX4_surenessOf ∈ TT := by
  have h := Bool.and_eq_true_iff.mp (List.all_eq_true.mp mG_4_0 (22, Cond.methodLink RX5 216 yX4_surenessOf) (List.mem_of_getElem? (i := 22) rfl))
  exact tt_m4 22 (of_decide_eq_true h.1) h.2
theorem m_im_X4_surenessOf : Cond.instanceMethod yX4_surenessOf ∈ TT := by
  have h := Bool.and_eq_true_iff.mp (List.all_eq_true.mp mG_4_0 (23, Cond.instanceMethod yX4_surenessOf) (List.mem_of_getElem? (i := 23) rfl))
  exact tt_m4 23 (of_decide_eq_true h.1) h.2
theorem m_sl_X4_surenessOf : Cond.selects RX4 yX4_surenessOf yX4_surenessOf ∈ TT := by
  have h := Bool.and_eq_true_iff.mp (List.all_eq_true.mp mG_4_0 (24, Cond.selects RX4 yX4_surenessOf yX4_surenessOf) (List.mem_of_getElem? (i := 24) rfl))
  exact tt_m4 24 (of_decide_eq_true h.1) h.2
theorem m_cd_X4_surenessOf : Cond.code yX4_surenessOf cX4_surenessOf 6 (some .double) ∈ TT := by
  have h := Bool.and_eq_true_iff.mp (List.all_eq_true.mp mG_4_0 (25, Cond.code yX4_surenessOf cX4_surenessOf 6 (some .double)) (List.mem_of_getElem? (i := 25) rfl))
  exact tt_m4 25 (of_decide_eq_true h.1) h.2
theorem m_ml_X4_44 : Cond.methodLink RX4 44 yX4_spreadByCount ∈ TT := by
  have h := Bool.and_eq_true_iff.mp (List.all_eq_true.mp mG_4_0 (26, Cond.methodLink RX4 44 yX4_spreadByCount) (List.mem_of_getElem? (i := 26) rfl))
  exact tt_m4 26 (of_decide_eq_true h.1) h.2
theorem m_im_X4_spreadByCount : Cond.instanceMethod yX4_spreadByCount ∈ TT := by
  have h := Bool.and_eq_true_iff.mp (List.all_eq_true.mp mG_4_0 (28, Cond.instanceMethod yX4_spreadByCount) (List.mem_of_getElem? (i := 27) rfl))
  exact tt_m4 28 (of_decide_eq_true h.1) h.2
theorem m_cd_X4_spreadByCount : Cond.code yX4_spreadByCount cX4_spreadByCount 7 (some .double) ∈ TT := by
  have h := Bool.and_eq_true_iff.mp (List.all_eq_true.mp mG_4_0 (29, Cond.code yX4_spreadByCount cX4_spreadByCount 7 (some .double)) (List.mem_of_getElem? (i := 28) rfl))
  exact tt_m4 29 (of_decide_eq_true h.1) h.2
theorem m_ml_X4_50 : Cond.methodLink RX4 50 yX4_squaresOf ∈ TT := by
  have h := Bool.and_eq_true_iff.mp (List.all_eq_true.mp mG_4_0 (30, Cond.methodLink RX4 50 yX4_squaresOf) (List.mem_of_getElem? (i := 29) rfl))
  exact tt_m4 30 (of_decide_eq_true h.1) h.2
theorem m_ml_X4_47 : Cond.methodLink RX4 47 yX4_liftOf ∈ TT := by
  have h := Bool.and_eq_true_iff.mp (List.all_eq_true.mp mG_4_0 (31, Cond.methodLink RX4 47 yX4_liftOf) (List.mem_of_getElem? (i := 30) rfl))
  exact tt_m4 31 (of_decide_eq_true h.1) h.2
theorem m_ml_L_218 : Cond.methodLink RL 218 yL_bad ∈ TT := by
  have h := Bool.and_eq_true_iff.mp (List.all_eq_true.mp mG_4_0 (32, Cond.methodLink RL 218 yL_bad) (List.mem_of_getElem? (i := 31) rfl))
  exact tt_m4 32 (of_decide_eq_true h.1) h.2
theorem m_st_L_bad : Cond.static yL_bad ∈ TT := by
  have h := Bool.and_eq_true_iff.mp (List.all_eq_true.mp mG_4_0 (33, Cond.static yL_bad) (List.mem_of_getElem? (i := 32) rfl))
  exact tt_m4 33 (of_decide_eq_true h.1) h.2
theorem m_cd_L_bad : Cond.codeWith yL_bad cL_bad 4 (some .int) [(0, 9, 12, 21)] ∈ TT := by
  have h := Bool.and_eq_true_iff.mp (List.all_eq_true.mp mG_4_0 (34, Cond.codeWith yL_bad cL_bad 4 (some .int) [(0, 9, 12, 21)]) (List.mem_of_getElem? (i := 33) rfl))
  exact tt_m4 34 (of_decide_eq_true h.1) h.2
theorem m_ml_L_95 : Cond.methodLink RL 95 yX5_bad ∈ TT := by
  have h := Bool.and_eq_true_iff.mp (List.all_eq_true.mp mG_4_0 (35, Cond.methodLink RL 95 yX5_bad) (List.mem_of_getElem? (i := 34) rfl))
  exact tt_m4 35 (of_decide_eq_true h.1) h.2
theorem m_ml_L_221 : Cond.methodLink RL 221 yL_isTrusted ∈ TT := by
  have h := Bool.and_eq_true_iff.mp (List.all_eq_true.mp mG_4_0 (36, Cond.methodLink RL 221 yL_isTrusted) (List.mem_of_getElem? (i := 35) rfl))
  exact tt_m4 36 (of_decide_eq_true h.1) h.2
theorem m_st_L_isTrusted : Cond.static yL_isTrusted ∈ TT := by
  have h := Bool.and_eq_true_iff.mp (List.all_eq_true.mp mG_4_0 (37, Cond.static yL_isTrusted) (List.mem_of_getElem? (i := 36) rfl))
  exact tt_m4 37 (of_decide_eq_true h.1) h.2
theorem m_cd_L_isTrusted : Cond.codeWith yL_isTrusted cL_isTrusted 4 (some .int) [(0, 16, 19, 21)] ∈ TT := by
  have h := Bool.and_eq_true_iff.mp (List.all_eq_true.mp mG_4_0 (38, Cond.codeWith yL_isTrusted cL_isTrusted 4 (some .int) [(0, 16, 19, 21)]) (List.mem_of_getElem? (i := 37) rfl))
  exact tt_m4 38 (of_decide_eq_true h.1) h.2
theorem m_ml_L_98 : Cond.methodLink RL 98 yX5_isTrusted ∈ TT := by
  have h := Bool.and_eq_true_iff.mp (List.all_eq_true.mp mG_4_0 (39, Cond.methodLink RL 98 yX5_isTrusted) (List.mem_of_getElem? (i := 38) rfl))
  exact tt_m4 39 (of_decide_eq_true h.1) h.2
theorem m_ml_L_224 : Cond.methodLink RL 224 yL_best ∈ TT := by
  have h := Bool.and_eq_true_iff.mp (List.all_eq_true.mp mG_4_0 (40, Cond.methodLink RL 224 yL_best) (List.mem_of_getElem? (i := 39) rfl))
  exact tt_m4 40 (of_decide_eq_true h.1) h.2
theorem m_st_L_best : Cond.static yL_best ∈ TT := by
  have h := Bool.and_eq_true_iff.mp (List.all_eq_true.mp mG_4_0 (41, Cond.static yL_best) (List.mem_of_getElem? (i := 40) rfl))
  exact tt_m4 41 (of_decide_eq_true h.1) h.2
theorem m_cd_L_best : Cond.codeWith yL_best cL_best 4 (some .int) [(0, 9, 12, 21)] ∈ TT := by
  have h := Bool.and_eq_true_iff.mp (List.all_eq_true.mp mG_4_0 (42, Cond.codeWith yL_best cL_best 4 (some .int) [(0, 9, 12, 21)]) (List.mem_of_getElem? (i := 41) rfl))
  exact tt_m4 42 (of_decide_eq_true h.1) h.2
theorem m_ml_L_102 : Cond.methodLink RL 102 yX5_best ∈ TT := by
  have h := Bool.and_eq_true_iff.mp (List.all_eq_true.mp mG_4_0 (43, Cond.methodLink RL 102 yX5_best) (List.mem_of_getElem? (i := 42) rfl))
  exact tt_m4 43 (of_decide_eq_true h.1) h.2
theorem m_ml_L_227 : Cond.methodLink RL 227 yL_reach ∈ TT := by
  have h := Bool.and_eq_true_iff.mp (List.all_eq_true.mp mG_4_0 (44, Cond.methodLink RL 227 yL_reach) (List.mem_of_getElem? (i := 43) rfl))
  exact tt_m4 44 (of_decide_eq_true h.1) h.2
theorem m_st_L_reach : Cond.static yL_reach ∈ TT := by
  have h := Bool.and_eq_true_iff.mp (List.all_eq_true.mp mG_4_0 (45, Cond.static yL_reach) (List.mem_of_getElem? (i := 44) rfl))
  exact tt_m4 45 (of_decide_eq_true h.1) h.2
theorem m_cd_L_reach : Cond.codeWith yL_reach cL_reach 6 (some .int) [(0, 12, 15, 21), (0, 12, 19, 13)] ∈ TT := by
  have h := Bool.and_eq_true_iff.mp (List.all_eq_true.mp mG_4_0 (46, Cond.codeWith yL_reach cL_reach 6 (some .int) [(0, 12, 15, 21), (0, 12, 19, 13)]) (List.mem_of_getElem? (i := 45) rfl))
  exact tt_m4 46 (of_decide_eq_true h.1) h.2
theorem m_ml_L_105 : Cond.methodLink RL 105 yX5_reach ∈ TT := by
  have h := Bool.and_eq_true_iff.mp (List.all_eq_true.mp mG_4_0 (47, Cond.methodLink RL 105 yX5_reach) (List.mem_of_getElem? (i := 46) rfl))
  exact tt_m4 47 (of_decide_eq_true h.1) h.2
theorem m_ml_L_230 : Cond.methodLink RL 230 yL_both ∈ TT := by
  have h := Bool.and_eq_true_iff.mp (List.all_eq_true.mp mG_4_0 (48, Cond.methodLink RL 230 yL_both) (List.mem_of_getElem? (i := 47) rfl))
  exact tt_m4 48 (of_decide_eq_true h.1) h.2
theorem m_st_L_both : Cond.static yL_both ∈ TT := by
  have h := Bool.and_eq_true_iff.mp (List.all_eq_true.mp mG_4_0 (49, Cond.static yL_both) (List.mem_of_getElem? (i := 48) rfl))
  exact tt_m4 49 (of_decide_eq_true h.1) h.2
theorem m_cd_L_both : Cond.codeWith yL_both cL_both 6 (some .int) [(0, 12, 15, 21), (0, 12, 19, 13)] ∈ TT := by
  have h := Bool.and_eq_true_iff.mp (List.all_eq_true.mp mG_4_0 (50, Cond.codeWith yL_both cL_both 6 (some .int) [(0, 12, 15, 21), (0, 12, 19, 13)]) (List.mem_of_getElem? (i := 49) rfl))
  exact tt_m4 50 (of_decide_eq_true h.1) h.2
theorem m_ml_L_108 : Cond.methodLink RL 108 yX5_both ∈ TT := by
  have h := Bool.and_eq_true_iff.mp (List.all_eq_true.mp mG_4_0 (51, Cond.methodLink RL 108 yX5_both) (List.mem_of_getElem? (i := 50) rfl))
  exact tt_m4 51 (of_decide_eq_true h.1) h.2
theorem m_im_X5_both : Cond.instanceMethod yX5_both ∈ TT := by
  have h := Bool.and_eq_true_iff.mp (List.all_eq_true.mp mG_4_0 (52, Cond.instanceMethod yX5_both) (List.mem_of_getElem? (i := 51) rfl))
  exact tt_m4 52 (of_decide_eq_true h.1) h.2
theorem m_sl_X5_both : Cond.selects RX5 yX5_both yX5_both ∈ TT := by
  have h := Bool.and_eq_true_iff.mp (List.all_eq_true.mp mG_4_0 (53, Cond.selects RX5 yX5_both yX5_both) (List.mem_of_getElem? (i := 52) rfl))
  exact tt_m4 53 (of_decide_eq_true h.1) h.2
theorem m_cd_X5_both : Cond.code yX5_both cX5_both 8 (some .int) ∈ TT := by
  have h := Bool.and_eq_true_iff.mp (List.all_eq_true.mp mG_4_0 (54, Cond.code yX5_both cX5_both 8 (some .int)) (List.mem_of_getElem? (i := 53) rfl))
  exact tt_m4 54 (of_decide_eq_true h.1) h.2
theorem m_ml_L_233 : Cond.methodLink RL 233 yL_wouldChange ∈ TT := by
  have h := Bool.and_eq_true_iff.mp (List.all_eq_true.mp mG_4_0 (55, Cond.methodLink RL 233 yL_wouldChange) (List.mem_of_getElem? (i := 54) rfl))
  exact tt_m4 55 (of_decide_eq_true h.1) h.2
theorem m_st_L_wouldChange : Cond.static yL_wouldChange ∈ TT := by
  have h := Bool.and_eq_true_iff.mp (List.all_eq_true.mp mG_4_0 (56, Cond.static yL_wouldChange) (List.mem_of_getElem? (i := 55) rfl))
  exact tt_m4 56 (of_decide_eq_true h.1) h.2
theorem m_cd_L_wouldChange : Cond.codeWith yL_wouldChange cL_wouldChange 6 (some .int) [(0, 12, 15, 21), (0, 12, 19, 13)] ∈ TT := by
  have h := Bool.and_eq_true_iff.mp (List.all_eq_true.mp mG_4_0 (57, Cond.codeWith yL_wouldChange cL_wouldChange 6 (some .int) [(0, 12, 15, 21), (0, 12, 19, 13)]) (List.mem_of_getElem? (i := 56) rfl))
  exact tt_m4 57 (of_decide_eq_true h.1) h.2
theorem m_ml_L_111 : Cond.methodLink RL 111 yX5_wouldChange ∈ TT := by
  have h := Bool.and_eq_true_iff.mp (List.all_eq_true.mp mG_4_0 (58, Cond.methodLink RL 111 yX5_wouldChange) (List.mem_of_getElem? (i := 57) rfl))
  exact tt_m4 58 (of_decide_eq_true h.1) h.2
theorem m_im_X5_wouldChange : Cond.instanceMethod yX5_wouldChange ∈ TT := by
  have h := Bool.and_eq_true_iff.mp (List.all_eq_true.mp mG_4_0 (59, Cond.instanceMethod yX5_wouldChange) (List.mem_of_getElem? (i := 58) rfl))
  exact tt_m4 59 (of_decide_eq_true h.1) h.2
theorem m_sl_X5_wouldChange : Cond.selects RX5 yX5_wouldChange yX5_wouldChange ∈ TT := by
  have h := Bool.and_eq_true_iff.mp (List.all_eq_true.mp mG_4_0 (60, Cond.selects RX5 yX5_wouldChange yX5_wouldChange) (List.mem_of_getElem? (i := 59) rfl))
  exact tt_m4 60 (of_decide_eq_true h.1) h.2
theorem mG_4_60 : ([(61, Cond.code yX5_wouldChange cX5_wouldChange 8 (some .int)), (63, Cond.methodLink RX5 238 yX1_supposeRamp), (64, Cond.instanceMethod yX1_supposeRamp), (65, Cond.selects RX1 yX1_supposeRamp yX1_supposeRamp), (66, Cond.code yX1_supposeRamp cX1_supposeRamp 3 none), (67, Cond.methodLink RL 236 yL_wouldTurn), (68, Cond.static yL_wouldTurn), (69, Cond.codeWith yL_wouldTurn cL_wouldTurn 5 (some .int) [(0, 10, 13, 21), (0, 10, 17, 13)]), (70, Cond.methodLink RL 114 yX5_wouldTurn), (71, Cond.instanceMethod yX5_wouldTurn), (72, Cond.selects RX5 yX5_wouldTurn yX5_wouldTurn), (73, Cond.code yX5_wouldTurn cX5_wouldTurn 5 (some .int)), (74, Cond.methodLink RX5 241 yX5_changesByTurning), (76, Cond.instanceMethod yX5_changesByTurning), (77, Cond.code yX5_changesByTurning cX5_changesByTurning 6 (some .boolean)), (78, Cond.methodLink RX5 356 yX1_supposeTurned), (79, Cond.instanceMethod yX1_supposeTurned), (80, Cond.selects RX1 yX1_supposeTurned yX1_supposeTurned), (81, Cond.code yX1_supposeTurned cX1_supposeTurned 2 none), (82, Cond.methodLink RL 239 yL_shareIn), (83, Cond.static yL_shareIn), (84, Cond.codeWith yL_shareIn cL_shareIn 5 (some .int) [(0, 10, 13, 21), (0, 10, 17, 13)]), (85, Cond.methodLink RL 117 yX5_shareIn), (86, Cond.instanceMethod yX5_shareIn), (87, Cond.selects RX5 yX5_shareIn yX5_shareIn), (88, Cond.code yX5_shareIn cX5_shareIn 4 (some .int)), (89, Cond.classLink RL 121 RX6), (90, Cond.instantiable RX6 29), (91, Cond.methodLink RL 123 yX6_init), (92, Cond.instanceMethod yX6_init), (93, Cond.code yX6_init cX6_init 1 none), (94, Cond.methodLink RX6 1 ⟨"java/lang/Object", "<init>", "()V"⟩), (95, Cond.fieldLink RX6 80 "DaybreakFlagsModel" "thrown" "I"), (96, Cond.fieldLink RX6 99 "DaybreakFlagsModel" "clock" "I"), (97, Cond.fieldLink RX6 136 "DaybreakFlagsModel" "holdout" "I"), (98, Cond.fieldLink RX6 84 "DaybreakFlagsModel" "switches" "I"), (99, Cond.fieldLink RX6 9 "DaybreakFlagsModel" "salt" "[I"), (100, Cond.fieldLink RX6 13 "DaybreakFlagsModel" "variants" "[I"), (101, Cond.fieldLink RX6 16 "DaybreakFlagsModel" "weight" "[I"), (102, Cond.fieldLink RX6 19 "DaybreakFlagsModel" "share" "[I"), (103, Cond.fieldLink RX6 22 "DaybreakFlagsModel" "step" "[I"), (104, Cond.fieldLink RX6 25 "DaybreakFlagsModel" "since" "[I"), (105, Cond.fieldLink RX6 28 "DaybreakFlagsModel" "isSticky" "[Z"), (106, Cond.fieldLink RX6 32 "DaybreakFlagsModel" "isOn" "[Z"), (107, Cond.fieldLink RX6 35 "DaybreakFlagsModel" "layer" "[I"), (108, Cond.fieldLink RX6 38 "DaybreakFlagsModel" "from" "[I"), (109, Cond.fieldLink RX6 41 "DaybreakFlagsModel" "to" "[I"), (110, Cond.fieldLink RX6 44 "DaybreakFlagsModel" "needs" "[I"), (111, Cond.fieldLink RX6 47 "DaybreakFlagsModel" "needed" "[I"), (112, Cond.fieldLink RX6 50 "DaybreakFlagsModel" "rules" "[I"), (113, Cond.fieldLink RX6 53 "DaybreakFlagsModel" "mark" "[I"), (114, Cond.fieldLink RX6 56 "DaybreakFlagsModel" "how" "[I"), (115, Cond.fieldLink RX6 59 "DaybreakFlagsModel" "limit" "[I"), (116, Cond.fieldLink RX6 62 "DaybreakFlagsModel" "comes" "[I"), (117, Cond.fieldLink RX6 151 "DaybreakFlagsModel" "arms" "I"), (118, Cond.fieldLink RX6 65 "DaybreakFlagsModel" "armOf" "[I"), (119, Cond.fieldLink RX6 68 "DaybreakFlagsModel" "armUser" "[I"), (120, Cond.fieldLink RX6 71 "DaybreakFlagsModel" "armVariant" "[I"), (121, Cond.fieldLink RX6 74 "DaybreakFlagsModel" "armSum" "[I"), (122, Cond.fieldLink RX6 77 "DaybreakFlagsModel" "hasActed" "[Z")] : List (Nat × Cond)).all (fun q => decide (tables_1_4[q.1]? = some q.2) && goodWord q.2) = true := by decide +kernel
theorem m_cd_X5_wouldChange : Cond.code yX5_wouldChange cX5_wouldChange 8 (some .int) ∈ TT := by
  have h := Bool.and_eq_true_iff.mp (List.all_eq_true.mp mG_4_60 (61, Cond.code yX5_wouldChange cX5_wouldChange 8 (some .int)) (List.mem_of_getElem? (i := 0) rfl))
  exact tt_m4 61 (of_decide_eq_true h.1) h.2
theorem m_ml_X5_238 : Cond.methodLink RX5 238 yX1_supposeRamp ∈ TT := by
  have h := Bool.and_eq_true_iff.mp (List.all_eq_true.mp mG_4_60 (63, Cond.methodLink RX5 238 yX1_supposeRamp) (List.mem_of_getElem? (i := 1) rfl))
  exact tt_m4 63 (of_decide_eq_true h.1) h.2
theorem m_im_X1_supposeRamp : Cond.instanceMethod yX1_supposeRamp ∈ TT := by
  have h := Bool.and_eq_true_iff.mp (List.all_eq_true.mp mG_4_60 (64, Cond.instanceMethod yX1_supposeRamp) (List.mem_of_getElem? (i := 2) rfl))
  exact tt_m4 64 (of_decide_eq_true h.1) h.2
theorem m_sl_X1_supposeRamp : Cond.selects RX1 yX1_supposeRamp yX1_supposeRamp ∈ TT := by
  have h := Bool.and_eq_true_iff.mp (List.all_eq_true.mp mG_4_60 (65, Cond.selects RX1 yX1_supposeRamp yX1_supposeRamp) (List.mem_of_getElem? (i := 3) rfl))
  exact tt_m4 65 (of_decide_eq_true h.1) h.2
theorem m_cd_X1_supposeRamp : Cond.code yX1_supposeRamp cX1_supposeRamp 3 none ∈ TT := by
  have h := Bool.and_eq_true_iff.mp (List.all_eq_true.mp mG_4_60 (66, Cond.code yX1_supposeRamp cX1_supposeRamp 3 none) (List.mem_of_getElem? (i := 4) rfl))
  exact tt_m4 66 (of_decide_eq_true h.1) h.2
theorem m_ml_L_236 : Cond.methodLink RL 236 yL_wouldTurn ∈ TT := by
  have h := Bool.and_eq_true_iff.mp (List.all_eq_true.mp mG_4_60 (67, Cond.methodLink RL 236 yL_wouldTurn) (List.mem_of_getElem? (i := 5) rfl))
  exact tt_m4 67 (of_decide_eq_true h.1) h.2
theorem m_st_L_wouldTurn : Cond.static yL_wouldTurn ∈ TT := by
  have h := Bool.and_eq_true_iff.mp (List.all_eq_true.mp mG_4_60 (68, Cond.static yL_wouldTurn) (List.mem_of_getElem? (i := 6) rfl))
  exact tt_m4 68 (of_decide_eq_true h.1) h.2
theorem m_cd_L_wouldTurn : Cond.codeWith yL_wouldTurn cL_wouldTurn 5 (some .int) [(0, 10, 13, 21), (0, 10, 17, 13)] ∈ TT := by
  have h := Bool.and_eq_true_iff.mp (List.all_eq_true.mp mG_4_60 (69, Cond.codeWith yL_wouldTurn cL_wouldTurn 5 (some .int) [(0, 10, 13, 21), (0, 10, 17, 13)]) (List.mem_of_getElem? (i := 7) rfl))
  exact tt_m4 69 (of_decide_eq_true h.1) h.2
theorem m_ml_L_114 : Cond.methodLink RL 114 yX5_wouldTurn ∈ TT := by
  have h := Bool.and_eq_true_iff.mp (List.all_eq_true.mp mG_4_60 (70, Cond.methodLink RL 114 yX5_wouldTurn) (List.mem_of_getElem? (i := 8) rfl))
  exact tt_m4 70 (of_decide_eq_true h.1) h.2
theorem m_im_X5_wouldTurn : Cond.instanceMethod yX5_wouldTurn ∈ TT := by
  have h := Bool.and_eq_true_iff.mp (List.all_eq_true.mp mG_4_60 (71, Cond.instanceMethod yX5_wouldTurn) (List.mem_of_getElem? (i := 9) rfl))
  exact tt_m4 71 (of_decide_eq_true h.1) h.2
theorem m_sl_X5_wouldTurn : Cond.selects RX5 yX5_wouldTurn yX5_wouldTurn ∈ TT := by
  have h := Bool.and_eq_true_iff.mp (List.all_eq_true.mp mG_4_60 (72, Cond.selects RX5 yX5_wouldTurn yX5_wouldTurn) (List.mem_of_getElem? (i := 10) rfl))
  exact tt_m4 72 (of_decide_eq_true h.1) h.2
theorem m_cd_X5_wouldTurn : Cond.code yX5_wouldTurn cX5_wouldTurn 5 (some .int) ∈ TT := by
  have h := Bool.and_eq_true_iff.mp (List.all_eq_true.mp mG_4_60 (73, Cond.code yX5_wouldTurn cX5_wouldTurn 5 (some .int)) (List.mem_of_getElem? (i := 11) rfl))
  exact tt_m4 73 (of_decide_eq_true h.1) h.2
theorem m_ml_X5_241 : Cond.methodLink RX5 241 yX5_changesByTurning ∈ TT := by
  have h := Bool.and_eq_true_iff.mp (List.all_eq_true.mp mG_4_60 (74, Cond.methodLink RX5 241 yX5_changesByTurning) (List.mem_of_getElem? (i := 12) rfl))
  exact tt_m4 74 (of_decide_eq_true h.1) h.2
theorem m_im_X5_changesByTurning : Cond.instanceMethod yX5_changesByTurning ∈ TT := by
  have h := Bool.and_eq_true_iff.mp (List.all_eq_true.mp mG_4_60 (76, Cond.instanceMethod yX5_changesByTurning) (List.mem_of_getElem? (i := 13) rfl))
  exact tt_m4 76 (of_decide_eq_true h.1) h.2
theorem m_cd_X5_changesByTurning : Cond.code yX5_changesByTurning cX5_changesByTurning 6 (some .boolean) ∈ TT := by
  have h := Bool.and_eq_true_iff.mp (List.all_eq_true.mp mG_4_60 (77, Cond.code yX5_changesByTurning cX5_changesByTurning 6 (some .boolean)) (List.mem_of_getElem? (i := 14) rfl))
  exact tt_m4 77 (of_decide_eq_true h.1) h.2
theorem m_ml_X5_356 : Cond.methodLink RX5 356 yX1_supposeTurned ∈ TT := by
  have h := Bool.and_eq_true_iff.mp (List.all_eq_true.mp mG_4_60 (78, Cond.methodLink RX5 356 yX1_supposeTurned) (List.mem_of_getElem? (i := 15) rfl))
  exact tt_m4 78 (of_decide_eq_true h.1) h.2
theorem m_im_X1_supposeTurned : Cond.instanceMethod yX1_supposeTurned ∈ TT := by
  have h := Bool.and_eq_true_iff.mp (List.all_eq_true.mp mG_4_60 (79, Cond.instanceMethod yX1_supposeTurned) (List.mem_of_getElem? (i := 16) rfl))
  exact tt_m4 79 (of_decide_eq_true h.1) h.2
theorem m_sl_X1_supposeTurned : Cond.selects RX1 yX1_supposeTurned yX1_supposeTurned ∈ TT := by
  have h := Bool.and_eq_true_iff.mp (List.all_eq_true.mp mG_4_60 (80, Cond.selects RX1 yX1_supposeTurned yX1_supposeTurned) (List.mem_of_getElem? (i := 17) rfl))
  exact tt_m4 80 (of_decide_eq_true h.1) h.2
theorem m_cd_X1_supposeTurned : Cond.code yX1_supposeTurned cX1_supposeTurned 2 none ∈ TT := by
  have h := Bool.and_eq_true_iff.mp (List.all_eq_true.mp mG_4_60 (81, Cond.code yX1_supposeTurned cX1_supposeTurned 2 none) (List.mem_of_getElem? (i := 18) rfl))
  exact tt_m4 81 (of_decide_eq_true h.1) h.2
theorem m_ml_L_239 : Cond.methodLink RL 239 yL_shareIn ∈ TT := by
  have h := Bool.and_eq_true_iff.mp (List.all_eq_true.mp mG_4_60 (82, Cond.methodLink RL 239 yL_shareIn) (List.mem_of_getElem? (i := 19) rfl))
  exact tt_m4 82 (of_decide_eq_true h.1) h.2
theorem m_st_L_shareIn : Cond.static yL_shareIn ∈ TT := by
  have h := Bool.and_eq_true_iff.mp (List.all_eq_true.mp mG_4_60 (83, Cond.static yL_shareIn) (List.mem_of_getElem? (i := 20) rfl))
  exact tt_m4 83 (of_decide_eq_true h.1) h.2
theorem m_cd_L_shareIn : Cond.codeWith yL_shareIn cL_shareIn 5 (some .int) [(0, 10, 13, 21), (0, 10, 17, 13)] ∈ TT := by
  have h := Bool.and_eq_true_iff.mp (List.all_eq_true.mp mG_4_60 (84, Cond.codeWith yL_shareIn cL_shareIn 5 (some .int) [(0, 10, 13, 21), (0, 10, 17, 13)]) (List.mem_of_getElem? (i := 21) rfl))
  exact tt_m4 84 (of_decide_eq_true h.1) h.2
theorem m_ml_L_117 : Cond.methodLink RL 117 yX5_shareIn ∈ TT := by
  have h := Bool.and_eq_true_iff.mp (List.all_eq_true.mp mG_4_60 (85, Cond.methodLink RL 117 yX5_shareIn) (List.mem_of_getElem? (i := 22) rfl))
  exact tt_m4 85 (of_decide_eq_true h.1) h.2
theorem m_im_X5_shareIn : Cond.instanceMethod yX5_shareIn ∈ TT := by
  have h := Bool.and_eq_true_iff.mp (List.all_eq_true.mp mG_4_60 (86, Cond.instanceMethod yX5_shareIn) (List.mem_of_getElem? (i := 23) rfl))
  exact tt_m4 86 (of_decide_eq_true h.1) h.2
theorem m_sl_X5_shareIn : Cond.selects RX5 yX5_shareIn yX5_shareIn ∈ TT := by
  have h := Bool.and_eq_true_iff.mp (List.all_eq_true.mp mG_4_60 (87, Cond.selects RX5 yX5_shareIn yX5_shareIn) (List.mem_of_getElem? (i := 24) rfl))
  exact tt_m4 87 (of_decide_eq_true h.1) h.2
theorem m_cd_X5_shareIn : Cond.code yX5_shareIn cX5_shareIn 4 (some .int) ∈ TT := by
  have h := Bool.and_eq_true_iff.mp (List.all_eq_true.mp mG_4_60 (88, Cond.code yX5_shareIn cX5_shareIn 4 (some .int)) (List.mem_of_getElem? (i := 25) rfl))
  exact tt_m4 88 (of_decide_eq_true h.1) h.2
theorem m_cl_L_121 : Cond.classLink RL 121 RX6 ∈ TT := by
  have h := Bool.and_eq_true_iff.mp (List.all_eq_true.mp mG_4_60 (89, Cond.classLink RL 121 RX6) (List.mem_of_getElem? (i := 26) rfl))
  exact tt_m4 89 (of_decide_eq_true h.1) h.2
theorem m_nw_X6 : Cond.instantiable RX6 29 ∈ TT := by
  have h := Bool.and_eq_true_iff.mp (List.all_eq_true.mp mG_4_60 (90, Cond.instantiable RX6 29) (List.mem_of_getElem? (i := 27) rfl))
  exact tt_m4 90 (of_decide_eq_true h.1) h.2
theorem m_ml_L_123 : Cond.methodLink RL 123 yX6_init ∈ TT := by
  have h := Bool.and_eq_true_iff.mp (List.all_eq_true.mp mG_4_60 (91, Cond.methodLink RL 123 yX6_init) (List.mem_of_getElem? (i := 28) rfl))
  exact tt_m4 91 (of_decide_eq_true h.1) h.2
theorem m_im_X6_init : Cond.instanceMethod yX6_init ∈ TT := by
  have h := Bool.and_eq_true_iff.mp (List.all_eq_true.mp mG_4_60 (92, Cond.instanceMethod yX6_init) (List.mem_of_getElem? (i := 29) rfl))
  exact tt_m4 92 (of_decide_eq_true h.1) h.2
theorem m_cd_X6_init : Cond.code yX6_init cX6_init 1 none ∈ TT := by
  have h := Bool.and_eq_true_iff.mp (List.all_eq_true.mp mG_4_60 (93, Cond.code yX6_init cX6_init 1 none) (List.mem_of_getElem? (i := 30) rfl))
  exact tt_m4 93 (of_decide_eq_true h.1) h.2
theorem m_ml_X6_1 : Cond.methodLink RX6 1 ⟨"java/lang/Object", "<init>", "()V"⟩ ∈ TT := by
  have h := Bool.and_eq_true_iff.mp (List.all_eq_true.mp mG_4_60 (94, Cond.methodLink RX6 1 ⟨"java/lang/Object", "<init>", "()V"⟩) (List.mem_of_getElem? (i := 31) rfl))
  exact tt_m4 94 (of_decide_eq_true h.1) h.2
theorem m_fl_X6_80 : Cond.fieldLink RX6 80 "DaybreakFlagsModel" "thrown" "I" ∈ TT := by
  have h := Bool.and_eq_true_iff.mp (List.all_eq_true.mp mG_4_60 (95, Cond.fieldLink RX6 80 "DaybreakFlagsModel" "thrown" "I") (List.mem_of_getElem? (i := 32) rfl))
  exact tt_m4 95 (of_decide_eq_true h.1) h.2
theorem m_fl_X6_99 : Cond.fieldLink RX6 99 "DaybreakFlagsModel" "clock" "I" ∈ TT := by
  have h := Bool.and_eq_true_iff.mp (List.all_eq_true.mp mG_4_60 (96, Cond.fieldLink RX6 99 "DaybreakFlagsModel" "clock" "I") (List.mem_of_getElem? (i := 33) rfl))
  exact tt_m4 96 (of_decide_eq_true h.1) h.2
theorem m_fl_X6_136 : Cond.fieldLink RX6 136 "DaybreakFlagsModel" "holdout" "I" ∈ TT := by
  have h := Bool.and_eq_true_iff.mp (List.all_eq_true.mp mG_4_60 (97, Cond.fieldLink RX6 136 "DaybreakFlagsModel" "holdout" "I") (List.mem_of_getElem? (i := 34) rfl))
  exact tt_m4 97 (of_decide_eq_true h.1) h.2
theorem m_fl_X6_84 : Cond.fieldLink RX6 84 "DaybreakFlagsModel" "switches" "I" ∈ TT := by
  have h := Bool.and_eq_true_iff.mp (List.all_eq_true.mp mG_4_60 (98, Cond.fieldLink RX6 84 "DaybreakFlagsModel" "switches" "I") (List.mem_of_getElem? (i := 35) rfl))
  exact tt_m4 98 (of_decide_eq_true h.1) h.2
theorem m_fl_X6_9 : Cond.fieldLink RX6 9 "DaybreakFlagsModel" "salt" "[I" ∈ TT := by
  have h := Bool.and_eq_true_iff.mp (List.all_eq_true.mp mG_4_60 (99, Cond.fieldLink RX6 9 "DaybreakFlagsModel" "salt" "[I") (List.mem_of_getElem? (i := 36) rfl))
  exact tt_m4 99 (of_decide_eq_true h.1) h.2
theorem m_fl_X6_13 : Cond.fieldLink RX6 13 "DaybreakFlagsModel" "variants" "[I" ∈ TT := by
  have h := Bool.and_eq_true_iff.mp (List.all_eq_true.mp mG_4_60 (100, Cond.fieldLink RX6 13 "DaybreakFlagsModel" "variants" "[I") (List.mem_of_getElem? (i := 37) rfl))
  exact tt_m4 100 (of_decide_eq_true h.1) h.2
theorem m_fl_X6_16 : Cond.fieldLink RX6 16 "DaybreakFlagsModel" "weight" "[I" ∈ TT := by
  have h := Bool.and_eq_true_iff.mp (List.all_eq_true.mp mG_4_60 (101, Cond.fieldLink RX6 16 "DaybreakFlagsModel" "weight" "[I") (List.mem_of_getElem? (i := 38) rfl))
  exact tt_m4 101 (of_decide_eq_true h.1) h.2
theorem m_fl_X6_19 : Cond.fieldLink RX6 19 "DaybreakFlagsModel" "share" "[I" ∈ TT := by
  have h := Bool.and_eq_true_iff.mp (List.all_eq_true.mp mG_4_60 (102, Cond.fieldLink RX6 19 "DaybreakFlagsModel" "share" "[I") (List.mem_of_getElem? (i := 39) rfl))
  exact tt_m4 102 (of_decide_eq_true h.1) h.2
theorem m_fl_X6_22 : Cond.fieldLink RX6 22 "DaybreakFlagsModel" "step" "[I" ∈ TT := by
  have h := Bool.and_eq_true_iff.mp (List.all_eq_true.mp mG_4_60 (103, Cond.fieldLink RX6 22 "DaybreakFlagsModel" "step" "[I") (List.mem_of_getElem? (i := 40) rfl))
  exact tt_m4 103 (of_decide_eq_true h.1) h.2
theorem m_fl_X6_25 : Cond.fieldLink RX6 25 "DaybreakFlagsModel" "since" "[I" ∈ TT := by
  have h := Bool.and_eq_true_iff.mp (List.all_eq_true.mp mG_4_60 (104, Cond.fieldLink RX6 25 "DaybreakFlagsModel" "since" "[I") (List.mem_of_getElem? (i := 41) rfl))
  exact tt_m4 104 (of_decide_eq_true h.1) h.2
theorem m_fl_X6_28 : Cond.fieldLink RX6 28 "DaybreakFlagsModel" "isSticky" "[Z" ∈ TT := by
  have h := Bool.and_eq_true_iff.mp (List.all_eq_true.mp mG_4_60 (105, Cond.fieldLink RX6 28 "DaybreakFlagsModel" "isSticky" "[Z") (List.mem_of_getElem? (i := 42) rfl))
  exact tt_m4 105 (of_decide_eq_true h.1) h.2
theorem m_fl_X6_32 : Cond.fieldLink RX6 32 "DaybreakFlagsModel" "isOn" "[Z" ∈ TT := by
  have h := Bool.and_eq_true_iff.mp (List.all_eq_true.mp mG_4_60 (106, Cond.fieldLink RX6 32 "DaybreakFlagsModel" "isOn" "[Z") (List.mem_of_getElem? (i := 43) rfl))
  exact tt_m4 106 (of_decide_eq_true h.1) h.2
theorem m_fl_X6_35 : Cond.fieldLink RX6 35 "DaybreakFlagsModel" "layer" "[I" ∈ TT := by
  have h := Bool.and_eq_true_iff.mp (List.all_eq_true.mp mG_4_60 (107, Cond.fieldLink RX6 35 "DaybreakFlagsModel" "layer" "[I") (List.mem_of_getElem? (i := 44) rfl))
  exact tt_m4 107 (of_decide_eq_true h.1) h.2
theorem m_fl_X6_38 : Cond.fieldLink RX6 38 "DaybreakFlagsModel" "from" "[I" ∈ TT := by
  have h := Bool.and_eq_true_iff.mp (List.all_eq_true.mp mG_4_60 (108, Cond.fieldLink RX6 38 "DaybreakFlagsModel" "from" "[I") (List.mem_of_getElem? (i := 45) rfl))
  exact tt_m4 108 (of_decide_eq_true h.1) h.2
theorem m_fl_X6_41 : Cond.fieldLink RX6 41 "DaybreakFlagsModel" "to" "[I" ∈ TT := by
  have h := Bool.and_eq_true_iff.mp (List.all_eq_true.mp mG_4_60 (109, Cond.fieldLink RX6 41 "DaybreakFlagsModel" "to" "[I") (List.mem_of_getElem? (i := 46) rfl))
  exact tt_m4 109 (of_decide_eq_true h.1) h.2
theorem m_fl_X6_44 : Cond.fieldLink RX6 44 "DaybreakFlagsModel" "needs" "[I" ∈ TT := by
  have h := Bool.and_eq_true_iff.mp (List.all_eq_true.mp mG_4_60 (110, Cond.fieldLink RX6 44 "DaybreakFlagsModel" "needs" "[I") (List.mem_of_getElem? (i := 47) rfl))
  exact tt_m4 110 (of_decide_eq_true h.1) h.2
theorem m_fl_X6_47 : Cond.fieldLink RX6 47 "DaybreakFlagsModel" "needed" "[I" ∈ TT := by
  have h := Bool.and_eq_true_iff.mp (List.all_eq_true.mp mG_4_60 (111, Cond.fieldLink RX6 47 "DaybreakFlagsModel" "needed" "[I") (List.mem_of_getElem? (i := 48) rfl))
  exact tt_m4 111 (of_decide_eq_true h.1) h.2
theorem m_fl_X6_50 : Cond.fieldLink RX6 50 "DaybreakFlagsModel" "rules" "[I" ∈ TT := by
  have h := Bool.and_eq_true_iff.mp (List.all_eq_true.mp mG_4_60 (112, Cond.fieldLink RX6 50 "DaybreakFlagsModel" "rules" "[I") (List.mem_of_getElem? (i := 49) rfl))
  exact tt_m4 112 (of_decide_eq_true h.1) h.2
theorem m_fl_X6_53 : Cond.fieldLink RX6 53 "DaybreakFlagsModel" "mark" "[I" ∈ TT := by
  have h := Bool.and_eq_true_iff.mp (List.all_eq_true.mp mG_4_60 (113, Cond.fieldLink RX6 53 "DaybreakFlagsModel" "mark" "[I") (List.mem_of_getElem? (i := 50) rfl))
  exact tt_m4 113 (of_decide_eq_true h.1) h.2
theorem m_fl_X6_56 : Cond.fieldLink RX6 56 "DaybreakFlagsModel" "how" "[I" ∈ TT := by
  have h := Bool.and_eq_true_iff.mp (List.all_eq_true.mp mG_4_60 (114, Cond.fieldLink RX6 56 "DaybreakFlagsModel" "how" "[I") (List.mem_of_getElem? (i := 51) rfl))
  exact tt_m4 114 (of_decide_eq_true h.1) h.2
theorem m_fl_X6_59 : Cond.fieldLink RX6 59 "DaybreakFlagsModel" "limit" "[I" ∈ TT := by
  have h := Bool.and_eq_true_iff.mp (List.all_eq_true.mp mG_4_60 (115, Cond.fieldLink RX6 59 "DaybreakFlagsModel" "limit" "[I") (List.mem_of_getElem? (i := 52) rfl))
  exact tt_m4 115 (of_decide_eq_true h.1) h.2
theorem m_fl_X6_62 : Cond.fieldLink RX6 62 "DaybreakFlagsModel" "comes" "[I" ∈ TT := by
  have h := Bool.and_eq_true_iff.mp (List.all_eq_true.mp mG_4_60 (116, Cond.fieldLink RX6 62 "DaybreakFlagsModel" "comes" "[I") (List.mem_of_getElem? (i := 53) rfl))
  exact tt_m4 116 (of_decide_eq_true h.1) h.2
theorem m_fl_X6_151 : Cond.fieldLink RX6 151 "DaybreakFlagsModel" "arms" "I" ∈ TT := by
  have h := Bool.and_eq_true_iff.mp (List.all_eq_true.mp mG_4_60 (117, Cond.fieldLink RX6 151 "DaybreakFlagsModel" "arms" "I") (List.mem_of_getElem? (i := 54) rfl))
  exact tt_m4 117 (of_decide_eq_true h.1) h.2
theorem m_fl_X6_65 : Cond.fieldLink RX6 65 "DaybreakFlagsModel" "armOf" "[I" ∈ TT := by
  have h := Bool.and_eq_true_iff.mp (List.all_eq_true.mp mG_4_60 (118, Cond.fieldLink RX6 65 "DaybreakFlagsModel" "armOf" "[I") (List.mem_of_getElem? (i := 55) rfl))
  exact tt_m4 118 (of_decide_eq_true h.1) h.2
theorem m_fl_X6_68 : Cond.fieldLink RX6 68 "DaybreakFlagsModel" "armUser" "[I" ∈ TT := by
  have h := Bool.and_eq_true_iff.mp (List.all_eq_true.mp mG_4_60 (119, Cond.fieldLink RX6 68 "DaybreakFlagsModel" "armUser" "[I") (List.mem_of_getElem? (i := 56) rfl))
  exact tt_m4 119 (of_decide_eq_true h.1) h.2
theorem m_fl_X6_71 : Cond.fieldLink RX6 71 "DaybreakFlagsModel" "armVariant" "[I" ∈ TT := by
  have h := Bool.and_eq_true_iff.mp (List.all_eq_true.mp mG_4_60 (120, Cond.fieldLink RX6 71 "DaybreakFlagsModel" "armVariant" "[I") (List.mem_of_getElem? (i := 57) rfl))
  exact tt_m4 120 (of_decide_eq_true h.1) h.2
theorem m_fl_X6_74 : Cond.fieldLink RX6 74 "DaybreakFlagsModel" "armSum" "[I" ∈ TT := by
  have h := Bool.and_eq_true_iff.mp (List.all_eq_true.mp mG_4_60 (121, Cond.fieldLink RX6 74 "DaybreakFlagsModel" "armSum" "[I") (List.mem_of_getElem? (i := 58) rfl))
  exact tt_m4 121 (of_decide_eq_true h.1) h.2
theorem m_fl_X6_77 : Cond.fieldLink RX6 77 "DaybreakFlagsModel" "hasActed" "[Z" ∈ TT := by
  have h := Bool.and_eq_true_iff.mp (List.all_eq_true.mp mG_4_60 (122, Cond.fieldLink RX6 77 "DaybreakFlagsModel" "hasActed" "[Z") (List.mem_of_getElem? (i := 59) rfl))
  exact tt_m4 122 (of_decide_eq_true h.1) h.2
theorem mG_4_120 : ([(123, Cond.fieldLink RX6 165 "DaybreakFlagsModel" "reason" "I"), (183, Cond.arrayClass .boolean), (184, Cond.methodLink RL 138 yX6_thrown), (185, Cond.instanceMethod yX6_thrown), (186, Cond.selects RX6 yX6_thrown yX6_thrown), (187, Cond.code yX6_thrown cX6_thrown 1 (some .int)), (188, Cond.methodLink RL 129 yX6_add), (189, Cond.instanceMethod yX6_add), (190, Cond.selects RX6 yX6_add yX6_add), (191, Cond.code yX6_add cX6_add 4 (some .int)), (192, Cond.methodLink RX6 87 yX6_isIn), (193, Cond.static yX6_isIn), (194, Cond.code yX6_isIn cX6_isIn 3 (some .boolean)), (195, Cond.methodLink RX6 95 yX6_no), (197, Cond.instanceMethod yX6_no), (198, Cond.code yX6_no cX6_no 2 (some .int)), (199, Cond.methodLink RL 133 yX6_weigh), (200, Cond.instanceMethod yX6_weigh), (201, Cond.selects RX6 yX6_weigh yX6_weigh), (202, Cond.code yX6_weigh cX6_weigh 5 (some .int)), (203, Cond.methodLink RX6 102 yX6_isVariant), (205, Cond.instanceMethod yX6_isVariant), (206, Cond.code yX6_isVariant cX6_isVariant 3 (some .boolean)), (207, Cond.methodLink RX6 91 yX6_isSwitch), (209, Cond.instanceMethod yX6_isSwitch), (210, Cond.code yX6_isSwitch cX6_isSwitch 2 (some .boolean)), (211, Cond.methodLink RL 137 yX6_turn), (212, Cond.instanceMethod yX6_turn), (213, Cond.selects RX6 yX6_turn yX6_turn), (214, Cond.code yX6_turn cX6_turn 4 (some .boolean)), (215, Cond.methodLink RX6 106 yX6_isNot), (217, Cond.instanceMethod yX6_isNot), (218, Cond.code yX6_isNot cX6_isNot 2 (some .boolean)), (219, Cond.methodLink RL 144 yX6_ramp), (220, Cond.instanceMethod yX6_ramp), (221, Cond.selects RX6 yX6_ramp yX6_ramp), (222, Cond.code yX6_ramp cX6_ramp 5 (some .int)), (223, Cond.methodLink RX6 117 yX6_farIn), (225, Cond.instanceMethod yX6_farIn), (226, Cond.code yX6_farIn cX6_farIn 3 (some .int)), (227, Cond.constantLong RX6 109 (1000)), (228, Cond.methodLink RX6 111 yJ9_min_f86c9), (229, Cond.static yJ9_min_f86c9), (230, Cond.code yJ9_min_f86c9 cJ9_min_f86c9 4 (some .long)), (231, Cond.methodLink RL 148 yX6_place), (232, Cond.instanceMethod yX6_place), (233, Cond.selects RX6 yX6_place yX6_place), (234, Cond.code yX6_place cX6_place 6 (some .int)), (235, Cond.methodLink RX6 121 yJ9_max_7cf53), (236, Cond.methodLink RX6 124 yJ9_min_7cf53), (237, Cond.methodLink RL 151 yX6_need), (238, Cond.instanceMethod yX6_need), (239, Cond.selects RX6 yX6_need yX6_need)] : List (Nat × Cond)).all (fun q => decide (tables_1_4[q.1]? = some q.2) && goodWord q.2) = true := by decide +kernel
theorem m_fl_X6_165 : Cond.fieldLink RX6 165 "DaybreakFlagsModel" "reason" "I" ∈ TT := by
  have h := Bool.and_eq_true_iff.mp (List.all_eq_true.mp mG_4_120 (123, Cond.fieldLink RX6 165 "DaybreakFlagsModel" "reason" "I") (List.mem_of_getElem? (i := 0) rfl))
  exact tt_m4 123 (of_decide_eq_true h.1) h.2
theorem m_ar_boolean : Cond.arrayClass .boolean ∈ TT := by
  have h := Bool.and_eq_true_iff.mp (List.all_eq_true.mp mG_4_120 (183, Cond.arrayClass .boolean) (List.mem_of_getElem? (i := 1) rfl))
  exact tt_m4 183 (of_decide_eq_true h.1) h.2
theorem m_ml_L_138 : Cond.methodLink RL 138 yX6_thrown ∈ TT := by
  have h := Bool.and_eq_true_iff.mp (List.all_eq_true.mp mG_4_120 (184, Cond.methodLink RL 138 yX6_thrown) (List.mem_of_getElem? (i := 2) rfl))
  exact tt_m4 184 (of_decide_eq_true h.1) h.2
theorem m_im_X6_thrown : Cond.instanceMethod yX6_thrown ∈ TT := by
  have h := Bool.and_eq_true_iff.mp (List.all_eq_true.mp mG_4_120 (185, Cond.instanceMethod yX6_thrown) (List.mem_of_getElem? (i := 3) rfl))
  exact tt_m4 185 (of_decide_eq_true h.1) h.2
theorem m_sl_X6_thrown : Cond.selects RX6 yX6_thrown yX6_thrown ∈ TT := by
  have h := Bool.and_eq_true_iff.mp (List.all_eq_true.mp mG_4_120 (186, Cond.selects RX6 yX6_thrown yX6_thrown) (List.mem_of_getElem? (i := 4) rfl))
  exact tt_m4 186 (of_decide_eq_true h.1) h.2
theorem m_cd_X6_thrown : Cond.code yX6_thrown cX6_thrown 1 (some .int) ∈ TT := by
  have h := Bool.and_eq_true_iff.mp (List.all_eq_true.mp mG_4_120 (187, Cond.code yX6_thrown cX6_thrown 1 (some .int)) (List.mem_of_getElem? (i := 5) rfl))
  exact tt_m4 187 (of_decide_eq_true h.1) h.2
theorem m_ml_L_129 : Cond.methodLink RL 129 yX6_add ∈ TT := by
  have h := Bool.and_eq_true_iff.mp (List.all_eq_true.mp mG_4_120 (188, Cond.methodLink RL 129 yX6_add) (List.mem_of_getElem? (i := 6) rfl))
  exact tt_m4 188 (of_decide_eq_true h.1) h.2
theorem m_im_X6_add : Cond.instanceMethod yX6_add ∈ TT := by
  have h := Bool.and_eq_true_iff.mp (List.all_eq_true.mp mG_4_120 (189, Cond.instanceMethod yX6_add) (List.mem_of_getElem? (i := 7) rfl))
  exact tt_m4 189 (of_decide_eq_true h.1) h.2
theorem m_sl_X6_add : Cond.selects RX6 yX6_add yX6_add ∈ TT := by
  have h := Bool.and_eq_true_iff.mp (List.all_eq_true.mp mG_4_120 (190, Cond.selects RX6 yX6_add yX6_add) (List.mem_of_getElem? (i := 8) rfl))
  exact tt_m4 190 (of_decide_eq_true h.1) h.2
theorem m_cd_X6_add : Cond.code yX6_add cX6_add 4 (some .int) ∈ TT := by
  have h := Bool.and_eq_true_iff.mp (List.all_eq_true.mp mG_4_120 (191, Cond.code yX6_add cX6_add 4 (some .int)) (List.mem_of_getElem? (i := 9) rfl))
  exact tt_m4 191 (of_decide_eq_true h.1) h.2
theorem m_ml_X6_87 : Cond.methodLink RX6 87 yX6_isIn ∈ TT := by
  have h := Bool.and_eq_true_iff.mp (List.all_eq_true.mp mG_4_120 (192, Cond.methodLink RX6 87 yX6_isIn) (List.mem_of_getElem? (i := 10) rfl))
  exact tt_m4 192 (of_decide_eq_true h.1) h.2
theorem m_st_X6_isIn : Cond.static yX6_isIn ∈ TT := by
  have h := Bool.and_eq_true_iff.mp (List.all_eq_true.mp mG_4_120 (193, Cond.static yX6_isIn) (List.mem_of_getElem? (i := 11) rfl))
  exact tt_m4 193 (of_decide_eq_true h.1) h.2
theorem m_cd_X6_isIn : Cond.code yX6_isIn cX6_isIn 3 (some .boolean) ∈ TT := by
  have h := Bool.and_eq_true_iff.mp (List.all_eq_true.mp mG_4_120 (194, Cond.code yX6_isIn cX6_isIn 3 (some .boolean)) (List.mem_of_getElem? (i := 12) rfl))
  exact tt_m4 194 (of_decide_eq_true h.1) h.2
theorem m_ml_X6_95 : Cond.methodLink RX6 95 yX6_no ∈ TT := by
  have h := Bool.and_eq_true_iff.mp (List.all_eq_true.mp mG_4_120 (195, Cond.methodLink RX6 95 yX6_no) (List.mem_of_getElem? (i := 13) rfl))
  exact tt_m4 195 (of_decide_eq_true h.1) h.2
theorem m_im_X6_no : Cond.instanceMethod yX6_no ∈ TT := by
  have h := Bool.and_eq_true_iff.mp (List.all_eq_true.mp mG_4_120 (197, Cond.instanceMethod yX6_no) (List.mem_of_getElem? (i := 14) rfl))
  exact tt_m4 197 (of_decide_eq_true h.1) h.2
theorem m_cd_X6_no : Cond.code yX6_no cX6_no 2 (some .int) ∈ TT := by
  have h := Bool.and_eq_true_iff.mp (List.all_eq_true.mp mG_4_120 (198, Cond.code yX6_no cX6_no 2 (some .int)) (List.mem_of_getElem? (i := 15) rfl))
  exact tt_m4 198 (of_decide_eq_true h.1) h.2
theorem m_ml_L_133 : Cond.methodLink RL 133 yX6_weigh ∈ TT := by
  have h := Bool.and_eq_true_iff.mp (List.all_eq_true.mp mG_4_120 (199, Cond.methodLink RL 133 yX6_weigh) (List.mem_of_getElem? (i := 16) rfl))
  exact tt_m4 199 (of_decide_eq_true h.1) h.2
theorem m_im_X6_weigh : Cond.instanceMethod yX6_weigh ∈ TT := by
  have h := Bool.and_eq_true_iff.mp (List.all_eq_true.mp mG_4_120 (200, Cond.instanceMethod yX6_weigh) (List.mem_of_getElem? (i := 17) rfl))
  exact tt_m4 200 (of_decide_eq_true h.1) h.2
theorem m_sl_X6_weigh : Cond.selects RX6 yX6_weigh yX6_weigh ∈ TT := by
  have h := Bool.and_eq_true_iff.mp (List.all_eq_true.mp mG_4_120 (201, Cond.selects RX6 yX6_weigh yX6_weigh) (List.mem_of_getElem? (i := 18) rfl))
  exact tt_m4 201 (of_decide_eq_true h.1) h.2
theorem m_cd_X6_weigh : Cond.code yX6_weigh cX6_weigh 5 (some .int) ∈ TT := by
  have h := Bool.and_eq_true_iff.mp (List.all_eq_true.mp mG_4_120 (202, Cond.code yX6_weigh cX6_weigh 5 (some .int)) (List.mem_of_getElem? (i := 19) rfl))
  exact tt_m4 202 (of_decide_eq_true h.1) h.2
theorem m_ml_X6_102 : Cond.methodLink RX6 102 yX6_isVariant ∈ TT := by
  have h := Bool.and_eq_true_iff.mp (List.all_eq_true.mp mG_4_120 (203, Cond.methodLink RX6 102 yX6_isVariant) (List.mem_of_getElem? (i := 20) rfl))
  exact tt_m4 203 (of_decide_eq_true h.1) h.2
theorem m_im_X6_isVariant : Cond.instanceMethod yX6_isVariant ∈ TT := by
  have h := Bool.and_eq_true_iff.mp (List.all_eq_true.mp mG_4_120 (205, Cond.instanceMethod yX6_isVariant) (List.mem_of_getElem? (i := 21) rfl))
  exact tt_m4 205 (of_decide_eq_true h.1) h.2
theorem m_cd_X6_isVariant : Cond.code yX6_isVariant cX6_isVariant 3 (some .boolean) ∈ TT := by
  have h := Bool.and_eq_true_iff.mp (List.all_eq_true.mp mG_4_120 (206, Cond.code yX6_isVariant cX6_isVariant 3 (some .boolean)) (List.mem_of_getElem? (i := 22) rfl))
  exact tt_m4 206 (of_decide_eq_true h.1) h.2
theorem m_ml_X6_91 : Cond.methodLink RX6 91 yX6_isSwitch ∈ TT := by
  have h := Bool.and_eq_true_iff.mp (List.all_eq_true.mp mG_4_120 (207, Cond.methodLink RX6 91 yX6_isSwitch) (List.mem_of_getElem? (i := 23) rfl))
  exact tt_m4 207 (of_decide_eq_true h.1) h.2
theorem m_im_X6_isSwitch : Cond.instanceMethod yX6_isSwitch ∈ TT := by
  have h := Bool.and_eq_true_iff.mp (List.all_eq_true.mp mG_4_120 (209, Cond.instanceMethod yX6_isSwitch) (List.mem_of_getElem? (i := 24) rfl))
  exact tt_m4 209 (of_decide_eq_true h.1) h.2
theorem m_cd_X6_isSwitch : Cond.code yX6_isSwitch cX6_isSwitch 2 (some .boolean) ∈ TT := by
  have h := Bool.and_eq_true_iff.mp (List.all_eq_true.mp mG_4_120 (210, Cond.code yX6_isSwitch cX6_isSwitch 2 (some .boolean)) (List.mem_of_getElem? (i := 25) rfl))
  exact tt_m4 210 (of_decide_eq_true h.1) h.2
theorem m_ml_L_137 : Cond.methodLink RL 137 yX6_turn ∈ TT := by
  have h := Bool.and_eq_true_iff.mp (List.all_eq_true.mp mG_4_120 (211, Cond.methodLink RL 137 yX6_turn) (List.mem_of_getElem? (i := 26) rfl))
  exact tt_m4 211 (of_decide_eq_true h.1) h.2
theorem m_im_X6_turn : Cond.instanceMethod yX6_turn ∈ TT := by
  have h := Bool.and_eq_true_iff.mp (List.all_eq_true.mp mG_4_120 (212, Cond.instanceMethod yX6_turn) (List.mem_of_getElem? (i := 27) rfl))
  exact tt_m4 212 (of_decide_eq_true h.1) h.2
theorem m_sl_X6_turn : Cond.selects RX6 yX6_turn yX6_turn ∈ TT := by
  have h := Bool.and_eq_true_iff.mp (List.all_eq_true.mp mG_4_120 (213, Cond.selects RX6 yX6_turn yX6_turn) (List.mem_of_getElem? (i := 28) rfl))
  exact tt_m4 213 (of_decide_eq_true h.1) h.2
theorem m_cd_X6_turn : Cond.code yX6_turn cX6_turn 4 (some .boolean) ∈ TT := by
  have h := Bool.and_eq_true_iff.mp (List.all_eq_true.mp mG_4_120 (214, Cond.code yX6_turn cX6_turn 4 (some .boolean)) (List.mem_of_getElem? (i := 29) rfl))
  exact tt_m4 214 (of_decide_eq_true h.1) h.2
theorem m_ml_X6_106 : Cond.methodLink RX6 106 yX6_isNot ∈ TT := by
  have h := Bool.and_eq_true_iff.mp (List.all_eq_true.mp mG_4_120 (215, Cond.methodLink RX6 106 yX6_isNot) (List.mem_of_getElem? (i := 30) rfl))
  exact tt_m4 215 (of_decide_eq_true h.1) h.2
theorem m_im_X6_isNot : Cond.instanceMethod yX6_isNot ∈ TT := by
  have h := Bool.and_eq_true_iff.mp (List.all_eq_true.mp mG_4_120 (217, Cond.instanceMethod yX6_isNot) (List.mem_of_getElem? (i := 31) rfl))
  exact tt_m4 217 (of_decide_eq_true h.1) h.2
theorem m_cd_X6_isNot : Cond.code yX6_isNot cX6_isNot 2 (some .boolean) ∈ TT := by
  have h := Bool.and_eq_true_iff.mp (List.all_eq_true.mp mG_4_120 (218, Cond.code yX6_isNot cX6_isNot 2 (some .boolean)) (List.mem_of_getElem? (i := 32) rfl))
  exact tt_m4 218 (of_decide_eq_true h.1) h.2
theorem m_ml_L_144 : Cond.methodLink RL 144 yX6_ramp ∈ TT := by
  have h := Bool.and_eq_true_iff.mp (List.all_eq_true.mp mG_4_120 (219, Cond.methodLink RL 144 yX6_ramp) (List.mem_of_getElem? (i := 33) rfl))
  exact tt_m4 219 (of_decide_eq_true h.1) h.2
theorem m_im_X6_ramp : Cond.instanceMethod yX6_ramp ∈ TT := by
  have h := Bool.and_eq_true_iff.mp (List.all_eq_true.mp mG_4_120 (220, Cond.instanceMethod yX6_ramp) (List.mem_of_getElem? (i := 34) rfl))
  exact tt_m4 220 (of_decide_eq_true h.1) h.2
theorem m_sl_X6_ramp : Cond.selects RX6 yX6_ramp yX6_ramp ∈ TT := by
  have h := Bool.and_eq_true_iff.mp (List.all_eq_true.mp mG_4_120 (221, Cond.selects RX6 yX6_ramp yX6_ramp) (List.mem_of_getElem? (i := 35) rfl))
  exact tt_m4 221 (of_decide_eq_true h.1) h.2
theorem m_cd_X6_ramp : Cond.code yX6_ramp cX6_ramp 5 (some .int) ∈ TT := by
  have h := Bool.and_eq_true_iff.mp (List.all_eq_true.mp mG_4_120 (222, Cond.code yX6_ramp cX6_ramp 5 (some .int)) (List.mem_of_getElem? (i := 36) rfl))
  exact tt_m4 222 (of_decide_eq_true h.1) h.2
theorem m_ml_X6_117 : Cond.methodLink RX6 117 yX6_farIn ∈ TT := by
  have h := Bool.and_eq_true_iff.mp (List.all_eq_true.mp mG_4_120 (223, Cond.methodLink RX6 117 yX6_farIn) (List.mem_of_getElem? (i := 37) rfl))
  exact tt_m4 223 (of_decide_eq_true h.1) h.2
theorem m_im_X6_farIn : Cond.instanceMethod yX6_farIn ∈ TT := by
  have h := Bool.and_eq_true_iff.mp (List.all_eq_true.mp mG_4_120 (225, Cond.instanceMethod yX6_farIn) (List.mem_of_getElem? (i := 38) rfl))
  exact tt_m4 225 (of_decide_eq_true h.1) h.2
theorem m_cd_X6_farIn : Cond.code yX6_farIn cX6_farIn 3 (some .int) ∈ TT := by
  have h := Bool.and_eq_true_iff.mp (List.all_eq_true.mp mG_4_120 (226, Cond.code yX6_farIn cX6_farIn 3 (some .int)) (List.mem_of_getElem? (i := 39) rfl))
  exact tt_m4 226 (of_decide_eq_true h.1) h.2
theorem m_lc_X6_109 : Cond.constantLong RX6 109 (1000) ∈ TT := by
  have h := Bool.and_eq_true_iff.mp (List.all_eq_true.mp mG_4_120 (227, Cond.constantLong RX6 109 (1000)) (List.mem_of_getElem? (i := 40) rfl))
  exact tt_m4 227 (of_decide_eq_true h.1) h.2
theorem m_ml_X6_111 : Cond.methodLink RX6 111 yJ9_min_f86c9 ∈ TT := by
  have h := Bool.and_eq_true_iff.mp (List.all_eq_true.mp mG_4_120 (228, Cond.methodLink RX6 111 yJ9_min_f86c9) (List.mem_of_getElem? (i := 41) rfl))
  exact tt_m4 228 (of_decide_eq_true h.1) h.2
theorem m_st_J9_min_f86c9 : Cond.static yJ9_min_f86c9 ∈ TT := by
  have h := Bool.and_eq_true_iff.mp (List.all_eq_true.mp mG_4_120 (229, Cond.static yJ9_min_f86c9) (List.mem_of_getElem? (i := 42) rfl))
  exact tt_m4 229 (of_decide_eq_true h.1) h.2
theorem m_cd_J9_min_f86c9 : Cond.code yJ9_min_f86c9 cJ9_min_f86c9 4 (some .long) ∈ TT := by
  have h := Bool.and_eq_true_iff.mp (List.all_eq_true.mp mG_4_120 (230, Cond.code yJ9_min_f86c9 cJ9_min_f86c9 4 (some .long)) (List.mem_of_getElem? (i := 43) rfl))
  exact tt_m4 230 (of_decide_eq_true h.1) h.2
theorem m_ml_L_148 : Cond.methodLink RL 148 yX6_place ∈ TT := by
  have h := Bool.and_eq_true_iff.mp (List.all_eq_true.mp mG_4_120 (231, Cond.methodLink RL 148 yX6_place) (List.mem_of_getElem? (i := 44) rfl))
  exact tt_m4 231 (of_decide_eq_true h.1) h.2
theorem m_im_X6_place : Cond.instanceMethod yX6_place ∈ TT := by
  have h := Bool.and_eq_true_iff.mp (List.all_eq_true.mp mG_4_120 (232, Cond.instanceMethod yX6_place) (List.mem_of_getElem? (i := 45) rfl))
  exact tt_m4 232 (of_decide_eq_true h.1) h.2
theorem m_sl_X6_place : Cond.selects RX6 yX6_place yX6_place ∈ TT := by
  have h := Bool.and_eq_true_iff.mp (List.all_eq_true.mp mG_4_120 (233, Cond.selects RX6 yX6_place yX6_place) (List.mem_of_getElem? (i := 46) rfl))
  exact tt_m4 233 (of_decide_eq_true h.1) h.2
theorem m_cd_X6_place : Cond.code yX6_place cX6_place 6 (some .int) ∈ TT := by
  have h := Bool.and_eq_true_iff.mp (List.all_eq_true.mp mG_4_120 (234, Cond.code yX6_place cX6_place 6 (some .int)) (List.mem_of_getElem? (i := 47) rfl))
  exact tt_m4 234 (of_decide_eq_true h.1) h.2
theorem m_ml_X6_121 : Cond.methodLink RX6 121 yJ9_max_7cf53 ∈ TT := by
  have h := Bool.and_eq_true_iff.mp (List.all_eq_true.mp mG_4_120 (235, Cond.methodLink RX6 121 yJ9_max_7cf53) (List.mem_of_getElem? (i := 48) rfl))
  exact tt_m4 235 (of_decide_eq_true h.1) h.2
theorem m_ml_X6_124 : Cond.methodLink RX6 124 yJ9_min_7cf53 ∈ TT := by
  have h := Bool.and_eq_true_iff.mp (List.all_eq_true.mp mG_4_120 (236, Cond.methodLink RX6 124 yJ9_min_7cf53) (List.mem_of_getElem? (i := 49) rfl))
  exact tt_m4 236 (of_decide_eq_true h.1) h.2
theorem m_ml_L_151 : Cond.methodLink RL 151 yX6_need ∈ TT := by
  have h := Bool.and_eq_true_iff.mp (List.all_eq_true.mp mG_4_120 (237, Cond.methodLink RL 151 yX6_need) (List.mem_of_getElem? (i := 50) rfl))
  exact tt_m4 237 (of_decide_eq_true h.1) h.2
theorem m_im_X6_need : Cond.instanceMethod yX6_need ∈ TT := by
  have h := Bool.and_eq_true_iff.mp (List.all_eq_true.mp mG_4_120 (238, Cond.instanceMethod yX6_need) (List.mem_of_getElem? (i := 51) rfl))
  exact tt_m4 238 (of_decide_eq_true h.1) h.2
theorem m_sl_X6_need : Cond.selects RX6 yX6_need yX6_need ∈ TT := by
  have h := Bool.and_eq_true_iff.mp (List.all_eq_true.mp mG_4_120 (239, Cond.selects RX6 yX6_need yX6_need) (List.mem_of_getElem? (i := 52) rfl))
  exact tt_m4 239 (of_decide_eq_true h.1) h.2
theorem mG_5_0 : ([(0, Cond.code yX6_need cX6_need 5 (some .int)), (1, Cond.methodLink RL 155 yX6_rule), (2, Cond.instanceMethod yX6_rule), (3, Cond.selects RX6 yX6_rule yX6_rule), (4, Cond.code yX6_rule cX6_rule 7 (some .int)), (5, Cond.methodLink RL 159 yX6_unrule), (6, Cond.instanceMethod yX6_unrule), (7, Cond.selects RX6 yX6_unrule yX6_unrule), (8, Cond.code yX6_unrule cX6_unrule 5 (some .int)), (9, Cond.methodLink RX6 132 yX6_moveUp), (10, Cond.static yX6_moveUp), (11, Cond.code yX6_moveUp cX6_moveUp 3 none), (12, Cond.methodLink RX6 126 ⟨"java/lang/System", "arraycopy", "(Ljava/lang/Object;ILjava/lang/Object;II)V"⟩), (15, Cond.methodLink RL 163 yX6_hold), (16, Cond.instanceMethod yX6_hold), (17, Cond.selects RX6 yX6_hold yX6_hold), (18, Cond.code yX6_hold cX6_hold 3 (some .int)), (19, Cond.methodLink RL 166 yX6_goOn), (20, Cond.instanceMethod yX6_goOn), (21, Cond.selects RX6 yX6_goOn yX6_goOn), (22, Cond.code yX6_goOn cX6_goOn 2 (some .int)), (23, Cond.methodLink RL 170 yX6_switches), (24, Cond.instanceMethod yX6_switches), (25, Cond.selects RX6 yX6_switches yX6_switches), (26, Cond.code yX6_switches cX6_switches 1 (some .int)), (27, Cond.methodLink RX6 139 yX6_ok), (29, Cond.instanceMethod yX6_ok), (30, Cond.code yX6_ok cX6_ok 2 (some .int)), (31, Cond.methodLink RL 173 yX6_weight), (32, Cond.instanceMethod yX6_weight), (33, Cond.selects RX6 yX6_weight yX6_weight), (34, Cond.code yX6_weight cX6_weight 3 (some .int)), (35, Cond.methodLink RL 176 yX6_share), (36, Cond.instanceMethod yX6_share), (37, Cond.selects RX6 yX6_share yX6_share), (38, Cond.code yX6_share cX6_share 2 (some .int)), (39, Cond.methodLink RL 179 yX6_left), (40, Cond.instanceMethod yX6_left), (41, Cond.selects RX6 yX6_left yX6_left), (42, Cond.code yX6_left cX6_left 2 (some .int)), (43, Cond.methodLink RX6 142 yX6_leftIn), (45, Cond.instanceMethod yX6_leftIn), (46, Cond.code yX6_leftIn cX6_leftIn 4 (some .int)), (47, Cond.methodLink RL 182 yX6_bucket), (48, Cond.instanceMethod yX6_bucket), (49, Cond.selects RX6 yX6_bucket yX6_bucket), (50, Cond.code yX6_bucket cX6_bucket 3 (some .int)), (51, Cond.methodLink RX6 145 yX6_isUser), (52, Cond.static yX6_isUser), (53, Cond.code yX6_isUser cX6_isUser 1 (some .boolean)), (54, Cond.methodLink RX6 148 yX6_bucketOf), (55, Cond.static yX6_bucketOf), (56, Cond.code yX6_bucketOf cX6_bucketOf 3 (some .int)), (57, Cond.methodLink RL 185 yX6_gets), (58, Cond.instanceMethod yX6_gets), (59, Cond.selects RX6 yX6_gets yX6_gets), (60, Cond.code yX6_gets cX6_gets 5 (some .int)), (61, Cond.methodLink RX6 175 yX6_isAsked), (63, Cond.instanceMethod yX6_isAsked), (64, Cond.code yX6_isAsked cX6_isAsked 5 (some .boolean))] : List (Nat × Cond)).all (fun q => decide (tables_1_5[q.1]? = some q.2) && goodWord q.2) = true := by decide +kernel
theorem m_cd_X6_need : Cond.code yX6_need cX6_need 5 (some .int) ∈ TT := by
  have h := Bool.and_eq_true_iff.mp (List.all_eq_true.mp mG_5_0 (0, Cond.code yX6_need cX6_need 5 (some .int)) (List.mem_of_getElem? (i := 0) rfl))
  exact tt_m5 0 (of_decide_eq_true h.1) h.2
theorem m_ml_L_155 : Cond.methodLink RL 155 yX6_rule ∈ TT := by
  have h := Bool.and_eq_true_iff.mp (List.all_eq_true.mp mG_5_0 (1, Cond.methodLink RL 155 yX6_rule) (List.mem_of_getElem? (i := 1) rfl))
  exact tt_m5 1 (of_decide_eq_true h.1) h.2
theorem m_im_X6_rule : Cond.instanceMethod yX6_rule ∈ TT := by
  have h := Bool.and_eq_true_iff.mp (List.all_eq_true.mp mG_5_0 (2, Cond.instanceMethod yX6_rule) (List.mem_of_getElem? (i := 2) rfl))
  exact tt_m5 2 (of_decide_eq_true h.1) h.2
theorem m_sl_X6_rule : Cond.selects RX6 yX6_rule yX6_rule ∈ TT := by
  have h := Bool.and_eq_true_iff.mp (List.all_eq_true.mp mG_5_0 (3, Cond.selects RX6 yX6_rule yX6_rule) (List.mem_of_getElem? (i := 3) rfl))
  exact tt_m5 3 (of_decide_eq_true h.1) h.2
theorem m_cd_X6_rule : Cond.code yX6_rule cX6_rule 7 (some .int) ∈ TT := by
  have h := Bool.and_eq_true_iff.mp (List.all_eq_true.mp mG_5_0 (4, Cond.code yX6_rule cX6_rule 7 (some .int)) (List.mem_of_getElem? (i := 4) rfl))
  exact tt_m5 4 (of_decide_eq_true h.1) h.2
theorem m_ml_L_159 : Cond.methodLink RL 159 yX6_unrule ∈ TT := by
  have h := Bool.and_eq_true_iff.mp (List.all_eq_true.mp mG_5_0 (5, Cond.methodLink RL 159 yX6_unrule) (List.mem_of_getElem? (i := 5) rfl))
  exact tt_m5 5 (of_decide_eq_true h.1) h.2
theorem m_im_X6_unrule : Cond.instanceMethod yX6_unrule ∈ TT := by
  have h := Bool.and_eq_true_iff.mp (List.all_eq_true.mp mG_5_0 (6, Cond.instanceMethod yX6_unrule) (List.mem_of_getElem? (i := 6) rfl))
  exact tt_m5 6 (of_decide_eq_true h.1) h.2
theorem m_sl_X6_unrule : Cond.selects RX6 yX6_unrule yX6_unrule ∈ TT := by
  have h := Bool.and_eq_true_iff.mp (List.all_eq_true.mp mG_5_0 (7, Cond.selects RX6 yX6_unrule yX6_unrule) (List.mem_of_getElem? (i := 7) rfl))
  exact tt_m5 7 (of_decide_eq_true h.1) h.2
theorem m_cd_X6_unrule : Cond.code yX6_unrule cX6_unrule 5 (some .int) ∈ TT := by
  have h := Bool.and_eq_true_iff.mp (List.all_eq_true.mp mG_5_0 (8, Cond.code yX6_unrule cX6_unrule 5 (some .int)) (List.mem_of_getElem? (i := 8) rfl))
  exact tt_m5 8 (of_decide_eq_true h.1) h.2
theorem m_ml_X6_132 : Cond.methodLink RX6 132 yX6_moveUp ∈ TT := by
  have h := Bool.and_eq_true_iff.mp (List.all_eq_true.mp mG_5_0 (9, Cond.methodLink RX6 132 yX6_moveUp) (List.mem_of_getElem? (i := 9) rfl))
  exact tt_m5 9 (of_decide_eq_true h.1) h.2
theorem m_st_X6_moveUp : Cond.static yX6_moveUp ∈ TT := by
  have h := Bool.and_eq_true_iff.mp (List.all_eq_true.mp mG_5_0 (10, Cond.static yX6_moveUp) (List.mem_of_getElem? (i := 10) rfl))
  exact tt_m5 10 (of_decide_eq_true h.1) h.2
theorem m_cd_X6_moveUp : Cond.code yX6_moveUp cX6_moveUp 3 none ∈ TT := by
  have h := Bool.and_eq_true_iff.mp (List.all_eq_true.mp mG_5_0 (11, Cond.code yX6_moveUp cX6_moveUp 3 none) (List.mem_of_getElem? (i := 11) rfl))
  exact tt_m5 11 (of_decide_eq_true h.1) h.2
theorem m_ml_X6_126 : Cond.methodLink RX6 126 ⟨"java/lang/System", "arraycopy", "(Ljava/lang/Object;ILjava/lang/Object;II)V"⟩ ∈ TT := by
  have h := Bool.and_eq_true_iff.mp (List.all_eq_true.mp mG_5_0 (12, Cond.methodLink RX6 126 ⟨"java/lang/System", "arraycopy", "(Ljava/lang/Object;ILjava/lang/Object;II)V"⟩) (List.mem_of_getElem? (i := 12) rfl))
  exact tt_m5 12 (of_decide_eq_true h.1) h.2
theorem m_ml_L_163 : Cond.methodLink RL 163 yX6_hold ∈ TT := by
  have h := Bool.and_eq_true_iff.mp (List.all_eq_true.mp mG_5_0 (15, Cond.methodLink RL 163 yX6_hold) (List.mem_of_getElem? (i := 13) rfl))
  exact tt_m5 15 (of_decide_eq_true h.1) h.2
theorem m_im_X6_hold : Cond.instanceMethod yX6_hold ∈ TT := by
  have h := Bool.and_eq_true_iff.mp (List.all_eq_true.mp mG_5_0 (16, Cond.instanceMethod yX6_hold) (List.mem_of_getElem? (i := 14) rfl))
  exact tt_m5 16 (of_decide_eq_true h.1) h.2
theorem m_sl_X6_hold : Cond.selects RX6 yX6_hold yX6_hold ∈ TT := by
  have h := Bool.and_eq_true_iff.mp (List.all_eq_true.mp mG_5_0 (17, Cond.selects RX6 yX6_hold yX6_hold) (List.mem_of_getElem? (i := 15) rfl))
  exact tt_m5 17 (of_decide_eq_true h.1) h.2
theorem m_cd_X6_hold : Cond.code yX6_hold cX6_hold 3 (some .int) ∈ TT := by
  have h := Bool.and_eq_true_iff.mp (List.all_eq_true.mp mG_5_0 (18, Cond.code yX6_hold cX6_hold 3 (some .int)) (List.mem_of_getElem? (i := 16) rfl))
  exact tt_m5 18 (of_decide_eq_true h.1) h.2
theorem m_ml_L_166 : Cond.methodLink RL 166 yX6_goOn ∈ TT := by
  have h := Bool.and_eq_true_iff.mp (List.all_eq_true.mp mG_5_0 (19, Cond.methodLink RL 166 yX6_goOn) (List.mem_of_getElem? (i := 17) rfl))
  exact tt_m5 19 (of_decide_eq_true h.1) h.2
theorem m_im_X6_goOn : Cond.instanceMethod yX6_goOn ∈ TT := by
  have h := Bool.and_eq_true_iff.mp (List.all_eq_true.mp mG_5_0 (20, Cond.instanceMethod yX6_goOn) (List.mem_of_getElem? (i := 18) rfl))
  exact tt_m5 20 (of_decide_eq_true h.1) h.2
theorem m_sl_X6_goOn : Cond.selects RX6 yX6_goOn yX6_goOn ∈ TT := by
  have h := Bool.and_eq_true_iff.mp (List.all_eq_true.mp mG_5_0 (21, Cond.selects RX6 yX6_goOn yX6_goOn) (List.mem_of_getElem? (i := 19) rfl))
  exact tt_m5 21 (of_decide_eq_true h.1) h.2
theorem m_cd_X6_goOn : Cond.code yX6_goOn cX6_goOn 2 (some .int) ∈ TT := by
  have h := Bool.and_eq_true_iff.mp (List.all_eq_true.mp mG_5_0 (22, Cond.code yX6_goOn cX6_goOn 2 (some .int)) (List.mem_of_getElem? (i := 20) rfl))
  exact tt_m5 22 (of_decide_eq_true h.1) h.2
theorem m_ml_L_170 : Cond.methodLink RL 170 yX6_switches ∈ TT := by
  have h := Bool.and_eq_true_iff.mp (List.all_eq_true.mp mG_5_0 (23, Cond.methodLink RL 170 yX6_switches) (List.mem_of_getElem? (i := 21) rfl))
  exact tt_m5 23 (of_decide_eq_true h.1) h.2
theorem m_im_X6_switches : Cond.instanceMethod yX6_switches ∈ TT := by
  have h := Bool.and_eq_true_iff.mp (List.all_eq_true.mp mG_5_0 (24, Cond.instanceMethod yX6_switches) (List.mem_of_getElem? (i := 22) rfl))
  exact tt_m5 24 (of_decide_eq_true h.1) h.2
theorem m_sl_X6_switches : Cond.selects RX6 yX6_switches yX6_switches ∈ TT := by
  have h := Bool.and_eq_true_iff.mp (List.all_eq_true.mp mG_5_0 (25, Cond.selects RX6 yX6_switches yX6_switches) (List.mem_of_getElem? (i := 23) rfl))
  exact tt_m5 25 (of_decide_eq_true h.1) h.2
theorem m_cd_X6_switches : Cond.code yX6_switches cX6_switches 1 (some .int) ∈ TT := by
  have h := Bool.and_eq_true_iff.mp (List.all_eq_true.mp mG_5_0 (26, Cond.code yX6_switches cX6_switches 1 (some .int)) (List.mem_of_getElem? (i := 24) rfl))
  exact tt_m5 26 (of_decide_eq_true h.1) h.2
theorem m_ml_X6_139 : Cond.methodLink RX6 139 yX6_ok ∈ TT := by
  have h := Bool.and_eq_true_iff.mp (List.all_eq_true.mp mG_5_0 (27, Cond.methodLink RX6 139 yX6_ok) (List.mem_of_getElem? (i := 25) rfl))
  exact tt_m5 27 (of_decide_eq_true h.1) h.2
theorem m_im_X6_ok : Cond.instanceMethod yX6_ok ∈ TT := by
  have h := Bool.and_eq_true_iff.mp (List.all_eq_true.mp mG_5_0 (29, Cond.instanceMethod yX6_ok) (List.mem_of_getElem? (i := 26) rfl))
  exact tt_m5 29 (of_decide_eq_true h.1) h.2
theorem m_cd_X6_ok : Cond.code yX6_ok cX6_ok 2 (some .int) ∈ TT := by
  have h := Bool.and_eq_true_iff.mp (List.all_eq_true.mp mG_5_0 (30, Cond.code yX6_ok cX6_ok 2 (some .int)) (List.mem_of_getElem? (i := 27) rfl))
  exact tt_m5 30 (of_decide_eq_true h.1) h.2
theorem m_ml_L_173 : Cond.methodLink RL 173 yX6_weight ∈ TT := by
  have h := Bool.and_eq_true_iff.mp (List.all_eq_true.mp mG_5_0 (31, Cond.methodLink RL 173 yX6_weight) (List.mem_of_getElem? (i := 28) rfl))
  exact tt_m5 31 (of_decide_eq_true h.1) h.2
theorem m_im_X6_weight : Cond.instanceMethod yX6_weight ∈ TT := by
  have h := Bool.and_eq_true_iff.mp (List.all_eq_true.mp mG_5_0 (32, Cond.instanceMethod yX6_weight) (List.mem_of_getElem? (i := 29) rfl))
  exact tt_m5 32 (of_decide_eq_true h.1) h.2
theorem m_sl_X6_weight : Cond.selects RX6 yX6_weight yX6_weight ∈ TT := by
  have h := Bool.and_eq_true_iff.mp (List.all_eq_true.mp mG_5_0 (33, Cond.selects RX6 yX6_weight yX6_weight) (List.mem_of_getElem? (i := 30) rfl))
  exact tt_m5 33 (of_decide_eq_true h.1) h.2
theorem m_cd_X6_weight : Cond.code yX6_weight cX6_weight 3 (some .int) ∈ TT := by
  have h := Bool.and_eq_true_iff.mp (List.all_eq_true.mp mG_5_0 (34, Cond.code yX6_weight cX6_weight 3 (some .int)) (List.mem_of_getElem? (i := 31) rfl))
  exact tt_m5 34 (of_decide_eq_true h.1) h.2
theorem m_ml_L_176 : Cond.methodLink RL 176 yX6_share ∈ TT := by
  have h := Bool.and_eq_true_iff.mp (List.all_eq_true.mp mG_5_0 (35, Cond.methodLink RL 176 yX6_share) (List.mem_of_getElem? (i := 32) rfl))
  exact tt_m5 35 (of_decide_eq_true h.1) h.2
theorem m_im_X6_share : Cond.instanceMethod yX6_share ∈ TT := by
  have h := Bool.and_eq_true_iff.mp (List.all_eq_true.mp mG_5_0 (36, Cond.instanceMethod yX6_share) (List.mem_of_getElem? (i := 33) rfl))
  exact tt_m5 36 (of_decide_eq_true h.1) h.2
theorem m_sl_X6_share : Cond.selects RX6 yX6_share yX6_share ∈ TT := by
  have h := Bool.and_eq_true_iff.mp (List.all_eq_true.mp mG_5_0 (37, Cond.selects RX6 yX6_share yX6_share) (List.mem_of_getElem? (i := 34) rfl))
  exact tt_m5 37 (of_decide_eq_true h.1) h.2
theorem m_cd_X6_share : Cond.code yX6_share cX6_share 2 (some .int) ∈ TT := by
  have h := Bool.and_eq_true_iff.mp (List.all_eq_true.mp mG_5_0 (38, Cond.code yX6_share cX6_share 2 (some .int)) (List.mem_of_getElem? (i := 35) rfl))
  exact tt_m5 38 (of_decide_eq_true h.1) h.2
theorem m_ml_L_179 : Cond.methodLink RL 179 yX6_left ∈ TT := by
  have h := Bool.and_eq_true_iff.mp (List.all_eq_true.mp mG_5_0 (39, Cond.methodLink RL 179 yX6_left) (List.mem_of_getElem? (i := 36) rfl))
  exact tt_m5 39 (of_decide_eq_true h.1) h.2
theorem m_im_X6_left : Cond.instanceMethod yX6_left ∈ TT := by
  have h := Bool.and_eq_true_iff.mp (List.all_eq_true.mp mG_5_0 (40, Cond.instanceMethod yX6_left) (List.mem_of_getElem? (i := 37) rfl))
  exact tt_m5 40 (of_decide_eq_true h.1) h.2
theorem m_sl_X6_left : Cond.selects RX6 yX6_left yX6_left ∈ TT := by
  have h := Bool.and_eq_true_iff.mp (List.all_eq_true.mp mG_5_0 (41, Cond.selects RX6 yX6_left yX6_left) (List.mem_of_getElem? (i := 38) rfl))
  exact tt_m5 41 (of_decide_eq_true h.1) h.2
theorem m_cd_X6_left : Cond.code yX6_left cX6_left 2 (some .int) ∈ TT := by
  have h := Bool.and_eq_true_iff.mp (List.all_eq_true.mp mG_5_0 (42, Cond.code yX6_left cX6_left 2 (some .int)) (List.mem_of_getElem? (i := 39) rfl))
  exact tt_m5 42 (of_decide_eq_true h.1) h.2
theorem m_ml_X6_142 : Cond.methodLink RX6 142 yX6_leftIn ∈ TT := by
  have h := Bool.and_eq_true_iff.mp (List.all_eq_true.mp mG_5_0 (43, Cond.methodLink RX6 142 yX6_leftIn) (List.mem_of_getElem? (i := 40) rfl))
  exact tt_m5 43 (of_decide_eq_true h.1) h.2
theorem m_im_X6_leftIn : Cond.instanceMethod yX6_leftIn ∈ TT := by
  have h := Bool.and_eq_true_iff.mp (List.all_eq_true.mp mG_5_0 (45, Cond.instanceMethod yX6_leftIn) (List.mem_of_getElem? (i := 41) rfl))
  exact tt_m5 45 (of_decide_eq_true h.1) h.2
theorem m_cd_X6_leftIn : Cond.code yX6_leftIn cX6_leftIn 4 (some .int) ∈ TT := by
  have h := Bool.and_eq_true_iff.mp (List.all_eq_true.mp mG_5_0 (46, Cond.code yX6_leftIn cX6_leftIn 4 (some .int)) (List.mem_of_getElem? (i := 42) rfl))
  exact tt_m5 46 (of_decide_eq_true h.1) h.2
theorem m_ml_L_182 : Cond.methodLink RL 182 yX6_bucket ∈ TT := by
  have h := Bool.and_eq_true_iff.mp (List.all_eq_true.mp mG_5_0 (47, Cond.methodLink RL 182 yX6_bucket) (List.mem_of_getElem? (i := 43) rfl))
  exact tt_m5 47 (of_decide_eq_true h.1) h.2
theorem m_im_X6_bucket : Cond.instanceMethod yX6_bucket ∈ TT := by
  have h := Bool.and_eq_true_iff.mp (List.all_eq_true.mp mG_5_0 (48, Cond.instanceMethod yX6_bucket) (List.mem_of_getElem? (i := 44) rfl))
  exact tt_m5 48 (of_decide_eq_true h.1) h.2
theorem m_sl_X6_bucket : Cond.selects RX6 yX6_bucket yX6_bucket ∈ TT := by
  have h := Bool.and_eq_true_iff.mp (List.all_eq_true.mp mG_5_0 (49, Cond.selects RX6 yX6_bucket yX6_bucket) (List.mem_of_getElem? (i := 45) rfl))
  exact tt_m5 49 (of_decide_eq_true h.1) h.2
theorem m_cd_X6_bucket : Cond.code yX6_bucket cX6_bucket 3 (some .int) ∈ TT := by
  have h := Bool.and_eq_true_iff.mp (List.all_eq_true.mp mG_5_0 (50, Cond.code yX6_bucket cX6_bucket 3 (some .int)) (List.mem_of_getElem? (i := 46) rfl))
  exact tt_m5 50 (of_decide_eq_true h.1) h.2
theorem m_ml_X6_145 : Cond.methodLink RX6 145 yX6_isUser ∈ TT := by
  have h := Bool.and_eq_true_iff.mp (List.all_eq_true.mp mG_5_0 (51, Cond.methodLink RX6 145 yX6_isUser) (List.mem_of_getElem? (i := 47) rfl))
  exact tt_m5 51 (of_decide_eq_true h.1) h.2
theorem m_st_X6_isUser : Cond.static yX6_isUser ∈ TT := by
  have h := Bool.and_eq_true_iff.mp (List.all_eq_true.mp mG_5_0 (52, Cond.static yX6_isUser) (List.mem_of_getElem? (i := 48) rfl))
  exact tt_m5 52 (of_decide_eq_true h.1) h.2
theorem m_cd_X6_isUser : Cond.code yX6_isUser cX6_isUser 1 (some .boolean) ∈ TT := by
  have h := Bool.and_eq_true_iff.mp (List.all_eq_true.mp mG_5_0 (53, Cond.code yX6_isUser cX6_isUser 1 (some .boolean)) (List.mem_of_getElem? (i := 49) rfl))
  exact tt_m5 53 (of_decide_eq_true h.1) h.2
theorem m_ml_X6_148 : Cond.methodLink RX6 148 yX6_bucketOf ∈ TT := by
  have h := Bool.and_eq_true_iff.mp (List.all_eq_true.mp mG_5_0 (54, Cond.methodLink RX6 148 yX6_bucketOf) (List.mem_of_getElem? (i := 50) rfl))
  exact tt_m5 54 (of_decide_eq_true h.1) h.2
theorem m_st_X6_bucketOf : Cond.static yX6_bucketOf ∈ TT := by
  have h := Bool.and_eq_true_iff.mp (List.all_eq_true.mp mG_5_0 (55, Cond.static yX6_bucketOf) (List.mem_of_getElem? (i := 51) rfl))
  exact tt_m5 55 (of_decide_eq_true h.1) h.2
theorem m_cd_X6_bucketOf : Cond.code yX6_bucketOf cX6_bucketOf 3 (some .int) ∈ TT := by
  have h := Bool.and_eq_true_iff.mp (List.all_eq_true.mp mG_5_0 (56, Cond.code yX6_bucketOf cX6_bucketOf 3 (some .int)) (List.mem_of_getElem? (i := 52) rfl))
  exact tt_m5 56 (of_decide_eq_true h.1) h.2
theorem m_ml_L_185 : Cond.methodLink RL 185 yX6_gets ∈ TT := by
  have h := Bool.and_eq_true_iff.mp (List.all_eq_true.mp mG_5_0 (57, Cond.methodLink RL 185 yX6_gets) (List.mem_of_getElem? (i := 53) rfl))
  exact tt_m5 57 (of_decide_eq_true h.1) h.2
theorem m_im_X6_gets : Cond.instanceMethod yX6_gets ∈ TT := by
  have h := Bool.and_eq_true_iff.mp (List.all_eq_true.mp mG_5_0 (58, Cond.instanceMethod yX6_gets) (List.mem_of_getElem? (i := 54) rfl))
  exact tt_m5 58 (of_decide_eq_true h.1) h.2
theorem m_sl_X6_gets : Cond.selects RX6 yX6_gets yX6_gets ∈ TT := by
  have h := Bool.and_eq_true_iff.mp (List.all_eq_true.mp mG_5_0 (59, Cond.selects RX6 yX6_gets yX6_gets) (List.mem_of_getElem? (i := 55) rfl))
  exact tt_m5 59 (of_decide_eq_true h.1) h.2
theorem m_cd_X6_gets : Cond.code yX6_gets cX6_gets 5 (some .int) ∈ TT := by
  have h := Bool.and_eq_true_iff.mp (List.all_eq_true.mp mG_5_0 (60, Cond.code yX6_gets cX6_gets 5 (some .int)) (List.mem_of_getElem? (i := 56) rfl))
  exact tt_m5 60 (of_decide_eq_true h.1) h.2
theorem m_ml_X6_175 : Cond.methodLink RX6 175 yX6_isAsked ∈ TT := by
  have h := Bool.and_eq_true_iff.mp (List.all_eq_true.mp mG_5_0 (61, Cond.methodLink RX6 175 yX6_isAsked) (List.mem_of_getElem? (i := 57) rfl))
  exact tt_m5 61 (of_decide_eq_true h.1) h.2
theorem m_im_X6_isAsked : Cond.instanceMethod yX6_isAsked ∈ TT := by
  have h := Bool.and_eq_true_iff.mp (List.all_eq_true.mp mG_5_0 (63, Cond.instanceMethod yX6_isAsked) (List.mem_of_getElem? (i := 58) rfl))
  exact tt_m5 63 (of_decide_eq_true h.1) h.2
theorem m_cd_X6_isAsked : Cond.code yX6_isAsked cX6_isAsked 5 (some .boolean) ∈ TT := by
  have h := Bool.and_eq_true_iff.mp (List.all_eq_true.mp mG_5_0 (64, Cond.code yX6_isAsked cX6_isAsked 5 (some .boolean)) (List.mem_of_getElem? (i := 59) rfl))
  exact tt_m5 64 (of_decide_eq_true h.1) h.2
theorem mG_5_60 : ([(65, Cond.methodLink RX6 154 yX6_getsOf), (67, Cond.instanceMethod yX6_getsOf), (68, Cond.code yX6_getsOf cX6_getsOf 5 (some .int)), (69, Cond.methodLink RX6 171 yX6_getsNow), (71, Cond.instanceMethod yX6_getsNow), (72, Cond.code yX6_getsNow cX6_getsNow 9 (some .int)), (73, Cond.methodLink RX6 158 yX6_armAt), (75, Cond.instanceMethod yX6_armAt), (76, Cond.code yX6_armAt cX6_armAt 4 (some .int)), (77, Cond.methodLink RX6 161 yX6_holdsNow), (79, Cond.instanceMethod yX6_holdsNow), (80, Cond.code yX6_holdsNow cX6_holdsNow 6 (some .int)), (81, Cond.methodLink RX6 168 yX6_split), (83, Cond.instanceMethod yX6_split), (84, Cond.code yX6_split cX6_split 6 (some .int)), (85, Cond.methodLink RL 188 yX6_why), (86, Cond.instanceMethod yX6_why), (87, Cond.selects RX6 yX6_why yX6_why), (88, Cond.code yX6_why cX6_why 5 (some .int)), (89, Cond.methodLink RL 191 yX6_holds), (90, Cond.instanceMethod yX6_holds), (91, Cond.selects RX6 yX6_holds yX6_holds), (92, Cond.code yX6_holds cX6_holds 5 (some .int)), (93, Cond.methodLink RL 194 yX6_ask), (94, Cond.instanceMethod yX6_ask), (95, Cond.selects RX6 yX6_ask yX6_ask), (96, Cond.code yX6_ask cX6_ask 6 (some .int)), (97, Cond.methodLink RL 197 yX6_act), (98, Cond.instanceMethod yX6_act), (99, Cond.selects RX6 yX6_act yX6_act), (100, Cond.code yX6_act cX6_act 5 (some .int)), (101, Cond.methodLink RL 200 yX6_arm), (102, Cond.instanceMethod yX6_arm), (103, Cond.selects RX6 yX6_arm yX6_arm), (104, Cond.code yX6_arm cX6_arm 3 (some .int)), (105, Cond.methodLink RX6 179 yX6_armNow), (107, Cond.instanceMethod yX6_armNow), (108, Cond.code yX6_armNow cX6_armNow 4 (some .int)), (109, Cond.methodLink RL 204 yX6_arms), (110, Cond.instanceMethod yX6_arms), (111, Cond.selects RX6 yX6_arms yX6_arms), (112, Cond.code yX6_arms cX6_arms 1 (some .int)), (113, Cond.methodLink RL 207 yX6_told), (114, Cond.instanceMethod yX6_told), (115, Cond.selects RX6 yX6_told yX6_told), (116, Cond.code yX6_told cX6_told 4 (some .int)), (117, Cond.methodLink RX6 182 yX6_toldNow), (119, Cond.instanceMethod yX6_toldNow), (120, Cond.code yX6_toldNow cX6_toldNow 6 (some .int)), (121, Cond.methodLink RL 211 yX6_mean), (122, Cond.instanceMethod yX6_mean), (123, Cond.selects RX6 yX6_mean yX6_mean), (124, Cond.code yX6_mean cX6_mean 3 (some .double)), (125, Cond.methodLink RX6 185 yX6_meanNow), (127, Cond.instanceMethod yX6_meanNow), (128, Cond.code yX6_meanNow cX6_meanNow 4 (some .double)), (129, Cond.methodLink RL 214 yX6_lift), (130, Cond.instanceMethod yX6_lift), (131, Cond.selects RX6 yX6_lift yX6_lift), (132, Cond.code yX6_lift cX6_lift 3 (some .double))] : List (Nat × Cond)).all (fun q => decide (tables_1_5[q.1]? = some q.2) && goodWord q.2) = true := by decide +kernel
theorem m_ml_X6_154 : Cond.methodLink RX6 154 yX6_getsOf ∈ TT := by
  have h := Bool.and_eq_true_iff.mp (List.all_eq_true.mp mG_5_60 (65, Cond.methodLink RX6 154 yX6_getsOf) (List.mem_of_getElem? (i := 0) rfl))
  exact tt_m5 65 (of_decide_eq_true h.1) h.2
theorem m_im_X6_getsOf : Cond.instanceMethod yX6_getsOf ∈ TT := by
  have h := Bool.and_eq_true_iff.mp (List.all_eq_true.mp mG_5_60 (67, Cond.instanceMethod yX6_getsOf) (List.mem_of_getElem? (i := 1) rfl))
  exact tt_m5 67 (of_decide_eq_true h.1) h.2
theorem m_cd_X6_getsOf : Cond.code yX6_getsOf cX6_getsOf 5 (some .int) ∈ TT := by
  have h := Bool.and_eq_true_iff.mp (List.all_eq_true.mp mG_5_60 (68, Cond.code yX6_getsOf cX6_getsOf 5 (some .int)) (List.mem_of_getElem? (i := 2) rfl))
  exact tt_m5 68 (of_decide_eq_true h.1) h.2
theorem m_ml_X6_171 : Cond.methodLink RX6 171 yX6_getsNow ∈ TT := by
  have h := Bool.and_eq_true_iff.mp (List.all_eq_true.mp mG_5_60 (69, Cond.methodLink RX6 171 yX6_getsNow) (List.mem_of_getElem? (i := 3) rfl))
  exact tt_m5 69 (of_decide_eq_true h.1) h.2
theorem m_im_X6_getsNow : Cond.instanceMethod yX6_getsNow ∈ TT := by
  have h := Bool.and_eq_true_iff.mp (List.all_eq_true.mp mG_5_60 (71, Cond.instanceMethod yX6_getsNow) (List.mem_of_getElem? (i := 4) rfl))
  exact tt_m5 71 (of_decide_eq_true h.1) h.2
theorem m_cd_X6_getsNow : Cond.code yX6_getsNow cX6_getsNow 9 (some .int) ∈ TT := by
  have h := Bool.and_eq_true_iff.mp (List.all_eq_true.mp mG_5_60 (72, Cond.code yX6_getsNow cX6_getsNow 9 (some .int)) (List.mem_of_getElem? (i := 5) rfl))
  exact tt_m5 72 (of_decide_eq_true h.1) h.2
theorem m_ml_X6_158 : Cond.methodLink RX6 158 yX6_armAt ∈ TT := by
  have h := Bool.and_eq_true_iff.mp (List.all_eq_true.mp mG_5_60 (73, Cond.methodLink RX6 158 yX6_armAt) (List.mem_of_getElem? (i := 6) rfl))
  exact tt_m5 73 (of_decide_eq_true h.1) h.2
theorem m_im_X6_armAt : Cond.instanceMethod yX6_armAt ∈ TT := by
  have h := Bool.and_eq_true_iff.mp (List.all_eq_true.mp mG_5_60 (75, Cond.instanceMethod yX6_armAt) (List.mem_of_getElem? (i := 7) rfl))
  exact tt_m5 75 (of_decide_eq_true h.1) h.2
theorem m_cd_X6_armAt : Cond.code yX6_armAt cX6_armAt 4 (some .int) ∈ TT := by
  have h := Bool.and_eq_true_iff.mp (List.all_eq_true.mp mG_5_60 (76, Cond.code yX6_armAt cX6_armAt 4 (some .int)) (List.mem_of_getElem? (i := 8) rfl))
  exact tt_m5 76 (of_decide_eq_true h.1) h.2
theorem m_ml_X6_161 : Cond.methodLink RX6 161 yX6_holdsNow ∈ TT := by
  have h := Bool.and_eq_true_iff.mp (List.all_eq_true.mp mG_5_60 (77, Cond.methodLink RX6 161 yX6_holdsNow) (List.mem_of_getElem? (i := 9) rfl))
  exact tt_m5 77 (of_decide_eq_true h.1) h.2
theorem m_im_X6_holdsNow : Cond.instanceMethod yX6_holdsNow ∈ TT := by
  have h := Bool.and_eq_true_iff.mp (List.all_eq_true.mp mG_5_60 (79, Cond.instanceMethod yX6_holdsNow) (List.mem_of_getElem? (i := 10) rfl))
  exact tt_m5 79 (of_decide_eq_true h.1) h.2
theorem m_cd_X6_holdsNow : Cond.code yX6_holdsNow cX6_holdsNow 6 (some .int) ∈ TT := by
  have h := Bool.and_eq_true_iff.mp (List.all_eq_true.mp mG_5_60 (80, Cond.code yX6_holdsNow cX6_holdsNow 6 (some .int)) (List.mem_of_getElem? (i := 11) rfl))
  exact tt_m5 80 (of_decide_eq_true h.1) h.2
theorem m_ml_X6_168 : Cond.methodLink RX6 168 yX6_split ∈ TT := by
  have h := Bool.and_eq_true_iff.mp (List.all_eq_true.mp mG_5_60 (81, Cond.methodLink RX6 168 yX6_split) (List.mem_of_getElem? (i := 12) rfl))
  exact tt_m5 81 (of_decide_eq_true h.1) h.2
theorem m_im_X6_split : Cond.instanceMethod yX6_split ∈ TT := by
  have h := Bool.and_eq_true_iff.mp (List.all_eq_true.mp mG_5_60 (83, Cond.instanceMethod yX6_split) (List.mem_of_getElem? (i := 13) rfl))
  exact tt_m5 83 (of_decide_eq_true h.1) h.2
theorem m_cd_X6_split : Cond.code yX6_split cX6_split 6 (some .int) ∈ TT := by
  have h := Bool.and_eq_true_iff.mp (List.all_eq_true.mp mG_5_60 (84, Cond.code yX6_split cX6_split 6 (some .int)) (List.mem_of_getElem? (i := 14) rfl))
  exact tt_m5 84 (of_decide_eq_true h.1) h.2
theorem m_ml_L_188 : Cond.methodLink RL 188 yX6_why ∈ TT := by
  have h := Bool.and_eq_true_iff.mp (List.all_eq_true.mp mG_5_60 (85, Cond.methodLink RL 188 yX6_why) (List.mem_of_getElem? (i := 15) rfl))
  exact tt_m5 85 (of_decide_eq_true h.1) h.2
theorem m_im_X6_why : Cond.instanceMethod yX6_why ∈ TT := by
  have h := Bool.and_eq_true_iff.mp (List.all_eq_true.mp mG_5_60 (86, Cond.instanceMethod yX6_why) (List.mem_of_getElem? (i := 16) rfl))
  exact tt_m5 86 (of_decide_eq_true h.1) h.2
theorem m_sl_X6_why : Cond.selects RX6 yX6_why yX6_why ∈ TT := by
  have h := Bool.and_eq_true_iff.mp (List.all_eq_true.mp mG_5_60 (87, Cond.selects RX6 yX6_why yX6_why) (List.mem_of_getElem? (i := 17) rfl))
  exact tt_m5 87 (of_decide_eq_true h.1) h.2
theorem m_cd_X6_why : Cond.code yX6_why cX6_why 5 (some .int) ∈ TT := by
  have h := Bool.and_eq_true_iff.mp (List.all_eq_true.mp mG_5_60 (88, Cond.code yX6_why cX6_why 5 (some .int)) (List.mem_of_getElem? (i := 18) rfl))
  exact tt_m5 88 (of_decide_eq_true h.1) h.2
theorem m_ml_L_191 : Cond.methodLink RL 191 yX6_holds ∈ TT := by
  have h := Bool.and_eq_true_iff.mp (List.all_eq_true.mp mG_5_60 (89, Cond.methodLink RL 191 yX6_holds) (List.mem_of_getElem? (i := 19) rfl))
  exact tt_m5 89 (of_decide_eq_true h.1) h.2
theorem m_im_X6_holds : Cond.instanceMethod yX6_holds ∈ TT := by
  have h := Bool.and_eq_true_iff.mp (List.all_eq_true.mp mG_5_60 (90, Cond.instanceMethod yX6_holds) (List.mem_of_getElem? (i := 20) rfl))
  exact tt_m5 90 (of_decide_eq_true h.1) h.2
theorem m_sl_X6_holds : Cond.selects RX6 yX6_holds yX6_holds ∈ TT := by
  have h := Bool.and_eq_true_iff.mp (List.all_eq_true.mp mG_5_60 (91, Cond.selects RX6 yX6_holds yX6_holds) (List.mem_of_getElem? (i := 21) rfl))
  exact tt_m5 91 (of_decide_eq_true h.1) h.2
theorem m_cd_X6_holds : Cond.code yX6_holds cX6_holds 5 (some .int) ∈ TT := by
  have h := Bool.and_eq_true_iff.mp (List.all_eq_true.mp mG_5_60 (92, Cond.code yX6_holds cX6_holds 5 (some .int)) (List.mem_of_getElem? (i := 22) rfl))
  exact tt_m5 92 (of_decide_eq_true h.1) h.2
theorem m_ml_L_194 : Cond.methodLink RL 194 yX6_ask ∈ TT := by
  have h := Bool.and_eq_true_iff.mp (List.all_eq_true.mp mG_5_60 (93, Cond.methodLink RL 194 yX6_ask) (List.mem_of_getElem? (i := 23) rfl))
  exact tt_m5 93 (of_decide_eq_true h.1) h.2
theorem m_im_X6_ask : Cond.instanceMethod yX6_ask ∈ TT := by
  have h := Bool.and_eq_true_iff.mp (List.all_eq_true.mp mG_5_60 (94, Cond.instanceMethod yX6_ask) (List.mem_of_getElem? (i := 24) rfl))
  exact tt_m5 94 (of_decide_eq_true h.1) h.2
theorem m_sl_X6_ask : Cond.selects RX6 yX6_ask yX6_ask ∈ TT := by
  have h := Bool.and_eq_true_iff.mp (List.all_eq_true.mp mG_5_60 (95, Cond.selects RX6 yX6_ask yX6_ask) (List.mem_of_getElem? (i := 25) rfl))
  exact tt_m5 95 (of_decide_eq_true h.1) h.2
theorem m_cd_X6_ask : Cond.code yX6_ask cX6_ask 6 (some .int) ∈ TT := by
  have h := Bool.and_eq_true_iff.mp (List.all_eq_true.mp mG_5_60 (96, Cond.code yX6_ask cX6_ask 6 (some .int)) (List.mem_of_getElem? (i := 26) rfl))
  exact tt_m5 96 (of_decide_eq_true h.1) h.2
theorem m_ml_L_197 : Cond.methodLink RL 197 yX6_act ∈ TT := by
  have h := Bool.and_eq_true_iff.mp (List.all_eq_true.mp mG_5_60 (97, Cond.methodLink RL 197 yX6_act) (List.mem_of_getElem? (i := 27) rfl))
  exact tt_m5 97 (of_decide_eq_true h.1) h.2
theorem m_im_X6_act : Cond.instanceMethod yX6_act ∈ TT := by
  have h := Bool.and_eq_true_iff.mp (List.all_eq_true.mp mG_5_60 (98, Cond.instanceMethod yX6_act) (List.mem_of_getElem? (i := 28) rfl))
  exact tt_m5 98 (of_decide_eq_true h.1) h.2
theorem m_sl_X6_act : Cond.selects RX6 yX6_act yX6_act ∈ TT := by
  have h := Bool.and_eq_true_iff.mp (List.all_eq_true.mp mG_5_60 (99, Cond.selects RX6 yX6_act yX6_act) (List.mem_of_getElem? (i := 29) rfl))
  exact tt_m5 99 (of_decide_eq_true h.1) h.2
theorem m_cd_X6_act : Cond.code yX6_act cX6_act 5 (some .int) ∈ TT := by
  have h := Bool.and_eq_true_iff.mp (List.all_eq_true.mp mG_5_60 (100, Cond.code yX6_act cX6_act 5 (some .int)) (List.mem_of_getElem? (i := 30) rfl))
  exact tt_m5 100 (of_decide_eq_true h.1) h.2
theorem m_ml_L_200 : Cond.methodLink RL 200 yX6_arm ∈ TT := by
  have h := Bool.and_eq_true_iff.mp (List.all_eq_true.mp mG_5_60 (101, Cond.methodLink RL 200 yX6_arm) (List.mem_of_getElem? (i := 31) rfl))
  exact tt_m5 101 (of_decide_eq_true h.1) h.2
theorem m_im_X6_arm : Cond.instanceMethod yX6_arm ∈ TT := by
  have h := Bool.and_eq_true_iff.mp (List.all_eq_true.mp mG_5_60 (102, Cond.instanceMethod yX6_arm) (List.mem_of_getElem? (i := 32) rfl))
  exact tt_m5 102 (of_decide_eq_true h.1) h.2
theorem m_sl_X6_arm : Cond.selects RX6 yX6_arm yX6_arm ∈ TT := by
  have h := Bool.and_eq_true_iff.mp (List.all_eq_true.mp mG_5_60 (103, Cond.selects RX6 yX6_arm yX6_arm) (List.mem_of_getElem? (i := 33) rfl))
  exact tt_m5 103 (of_decide_eq_true h.1) h.2
theorem m_cd_X6_arm : Cond.code yX6_arm cX6_arm 3 (some .int) ∈ TT := by
  have h := Bool.and_eq_true_iff.mp (List.all_eq_true.mp mG_5_60 (104, Cond.code yX6_arm cX6_arm 3 (some .int)) (List.mem_of_getElem? (i := 34) rfl))
  exact tt_m5 104 (of_decide_eq_true h.1) h.2
theorem m_ml_X6_179 : Cond.methodLink RX6 179 yX6_armNow ∈ TT := by
  have h := Bool.and_eq_true_iff.mp (List.all_eq_true.mp mG_5_60 (105, Cond.methodLink RX6 179 yX6_armNow) (List.mem_of_getElem? (i := 35) rfl))
  exact tt_m5 105 (of_decide_eq_true h.1) h.2
theorem m_im_X6_armNow : Cond.instanceMethod yX6_armNow ∈ TT := by
  have h := Bool.and_eq_true_iff.mp (List.all_eq_true.mp mG_5_60 (107, Cond.instanceMethod yX6_armNow) (List.mem_of_getElem? (i := 36) rfl))
  exact tt_m5 107 (of_decide_eq_true h.1) h.2
theorem m_cd_X6_armNow : Cond.code yX6_armNow cX6_armNow 4 (some .int) ∈ TT := by
  have h := Bool.and_eq_true_iff.mp (List.all_eq_true.mp mG_5_60 (108, Cond.code yX6_armNow cX6_armNow 4 (some .int)) (List.mem_of_getElem? (i := 37) rfl))
  exact tt_m5 108 (of_decide_eq_true h.1) h.2
theorem m_ml_L_204 : Cond.methodLink RL 204 yX6_arms ∈ TT := by
  have h := Bool.and_eq_true_iff.mp (List.all_eq_true.mp mG_5_60 (109, Cond.methodLink RL 204 yX6_arms) (List.mem_of_getElem? (i := 38) rfl))
  exact tt_m5 109 (of_decide_eq_true h.1) h.2
theorem m_im_X6_arms : Cond.instanceMethod yX6_arms ∈ TT := by
  have h := Bool.and_eq_true_iff.mp (List.all_eq_true.mp mG_5_60 (110, Cond.instanceMethod yX6_arms) (List.mem_of_getElem? (i := 39) rfl))
  exact tt_m5 110 (of_decide_eq_true h.1) h.2
theorem m_sl_X6_arms : Cond.selects RX6 yX6_arms yX6_arms ∈ TT := by
  have h := Bool.and_eq_true_iff.mp (List.all_eq_true.mp mG_5_60 (111, Cond.selects RX6 yX6_arms yX6_arms) (List.mem_of_getElem? (i := 40) rfl))
  exact tt_m5 111 (of_decide_eq_true h.1) h.2
theorem m_cd_X6_arms : Cond.code yX6_arms cX6_arms 1 (some .int) ∈ TT := by
  have h := Bool.and_eq_true_iff.mp (List.all_eq_true.mp mG_5_60 (112, Cond.code yX6_arms cX6_arms 1 (some .int)) (List.mem_of_getElem? (i := 41) rfl))
  exact tt_m5 112 (of_decide_eq_true h.1) h.2
theorem m_ml_L_207 : Cond.methodLink RL 207 yX6_told ∈ TT := by
  have h := Bool.and_eq_true_iff.mp (List.all_eq_true.mp mG_5_60 (113, Cond.methodLink RL 207 yX6_told) (List.mem_of_getElem? (i := 42) rfl))
  exact tt_m5 113 (of_decide_eq_true h.1) h.2
theorem m_im_X6_told : Cond.instanceMethod yX6_told ∈ TT := by
  have h := Bool.and_eq_true_iff.mp (List.all_eq_true.mp mG_5_60 (114, Cond.instanceMethod yX6_told) (List.mem_of_getElem? (i := 43) rfl))
  exact tt_m5 114 (of_decide_eq_true h.1) h.2
theorem m_sl_X6_told : Cond.selects RX6 yX6_told yX6_told ∈ TT := by
  have h := Bool.and_eq_true_iff.mp (List.all_eq_true.mp mG_5_60 (115, Cond.selects RX6 yX6_told yX6_told) (List.mem_of_getElem? (i := 44) rfl))
  exact tt_m5 115 (of_decide_eq_true h.1) h.2
theorem m_cd_X6_told : Cond.code yX6_told cX6_told 4 (some .int) ∈ TT := by
  have h := Bool.and_eq_true_iff.mp (List.all_eq_true.mp mG_5_60 (116, Cond.code yX6_told cX6_told 4 (some .int)) (List.mem_of_getElem? (i := 45) rfl))
  exact tt_m5 116 (of_decide_eq_true h.1) h.2
theorem m_ml_X6_182 : Cond.methodLink RX6 182 yX6_toldNow ∈ TT := by
  have h := Bool.and_eq_true_iff.mp (List.all_eq_true.mp mG_5_60 (117, Cond.methodLink RX6 182 yX6_toldNow) (List.mem_of_getElem? (i := 46) rfl))
  exact tt_m5 117 (of_decide_eq_true h.1) h.2
theorem m_im_X6_toldNow : Cond.instanceMethod yX6_toldNow ∈ TT := by
  have h := Bool.and_eq_true_iff.mp (List.all_eq_true.mp mG_5_60 (119, Cond.instanceMethod yX6_toldNow) (List.mem_of_getElem? (i := 47) rfl))
  exact tt_m5 119 (of_decide_eq_true h.1) h.2
theorem m_cd_X6_toldNow : Cond.code yX6_toldNow cX6_toldNow 6 (some .int) ∈ TT := by
  have h := Bool.and_eq_true_iff.mp (List.all_eq_true.mp mG_5_60 (120, Cond.code yX6_toldNow cX6_toldNow 6 (some .int)) (List.mem_of_getElem? (i := 48) rfl))
  exact tt_m5 120 (of_decide_eq_true h.1) h.2
theorem m_ml_L_211 : Cond.methodLink RL 211 yX6_mean ∈ TT := by
  have h := Bool.and_eq_true_iff.mp (List.all_eq_true.mp mG_5_60 (121, Cond.methodLink RL 211 yX6_mean) (List.mem_of_getElem? (i := 49) rfl))
  exact tt_m5 121 (of_decide_eq_true h.1) h.2
theorem m_im_X6_mean : Cond.instanceMethod yX6_mean ∈ TT := by
  have h := Bool.and_eq_true_iff.mp (List.all_eq_true.mp mG_5_60 (122, Cond.instanceMethod yX6_mean) (List.mem_of_getElem? (i := 50) rfl))
  exact tt_m5 122 (of_decide_eq_true h.1) h.2
theorem m_sl_X6_mean : Cond.selects RX6 yX6_mean yX6_mean ∈ TT := by
  have h := Bool.and_eq_true_iff.mp (List.all_eq_true.mp mG_5_60 (123, Cond.selects RX6 yX6_mean yX6_mean) (List.mem_of_getElem? (i := 51) rfl))
  exact tt_m5 123 (of_decide_eq_true h.1) h.2
theorem m_cd_X6_mean : Cond.code yX6_mean cX6_mean 3 (some .double) ∈ TT := by
  have h := Bool.and_eq_true_iff.mp (List.all_eq_true.mp mG_5_60 (124, Cond.code yX6_mean cX6_mean 3 (some .double)) (List.mem_of_getElem? (i := 52) rfl))
  exact tt_m5 124 (of_decide_eq_true h.1) h.2
theorem m_ml_X6_185 : Cond.methodLink RX6 185 yX6_meanNow ∈ TT := by
  have h := Bool.and_eq_true_iff.mp (List.all_eq_true.mp mG_5_60 (125, Cond.methodLink RX6 185 yX6_meanNow) (List.mem_of_getElem? (i := 53) rfl))
  exact tt_m5 125 (of_decide_eq_true h.1) h.2
theorem m_im_X6_meanNow : Cond.instanceMethod yX6_meanNow ∈ TT := by
  have h := Bool.and_eq_true_iff.mp (List.all_eq_true.mp mG_5_60 (127, Cond.instanceMethod yX6_meanNow) (List.mem_of_getElem? (i := 54) rfl))
  exact tt_m5 127 (of_decide_eq_true h.1) h.2
theorem m_cd_X6_meanNow : Cond.code yX6_meanNow cX6_meanNow 4 (some .double) ∈ TT := by
  have h := Bool.and_eq_true_iff.mp (List.all_eq_true.mp mG_5_60 (128, Cond.code yX6_meanNow cX6_meanNow 4 (some .double)) (List.mem_of_getElem? (i := 55) rfl))
  exact tt_m5 128 (of_decide_eq_true h.1) h.2
theorem m_ml_L_214 : Cond.methodLink RL 214 yX6_lift ∈ TT := by
  have h := Bool.and_eq_true_iff.mp (List.all_eq_true.mp mG_5_60 (129, Cond.methodLink RL 214 yX6_lift) (List.mem_of_getElem? (i := 56) rfl))
  exact tt_m5 129 (of_decide_eq_true h.1) h.2
theorem m_im_X6_lift : Cond.instanceMethod yX6_lift ∈ TT := by
  have h := Bool.and_eq_true_iff.mp (List.all_eq_true.mp mG_5_60 (130, Cond.instanceMethod yX6_lift) (List.mem_of_getElem? (i := 57) rfl))
  exact tt_m5 130 (of_decide_eq_true h.1) h.2
theorem m_sl_X6_lift : Cond.selects RX6 yX6_lift yX6_lift ∈ TT := by
  have h := Bool.and_eq_true_iff.mp (List.all_eq_true.mp mG_5_60 (131, Cond.selects RX6 yX6_lift yX6_lift) (List.mem_of_getElem? (i := 58) rfl))
  exact tt_m5 131 (of_decide_eq_true h.1) h.2
theorem m_cd_X6_lift : Cond.code yX6_lift cX6_lift 3 (some .double) ∈ TT := by
  have h := Bool.and_eq_true_iff.mp (List.all_eq_true.mp mG_5_60 (132, Cond.code yX6_lift cX6_lift 3 (some .double)) (List.mem_of_getElem? (i := 59) rfl))
  exact tt_m5 132 (of_decide_eq_true h.1) h.2
theorem mG_5_120 : ([(133, Cond.methodLink RL 217 yX6_sure), (134, Cond.instanceMethod yX6_sure), (135, Cond.selects RX6 yX6_sure yX6_sure), (136, Cond.code yX6_sure cX6_sure 9 (some .double)), (137, Cond.methodLink RX6 189 yX6_spread), (139, Cond.instanceMethod yX6_spread), (140, Cond.code yX6_spread cX6_spread 6 (some .double)), (141, Cond.methodLink RL 220 yX6_bad), (142, Cond.instanceMethod yX6_bad), (143, Cond.selects RX6 yX6_bad yX6_bad), (144, Cond.code yX6_bad cX6_bad 2 (some .int)), (145, Cond.methodLink RX6 194 yX6_badNow), (147, Cond.instanceMethod yX6_badNow), (148, Cond.code yX6_badNow cX6_badNow 10 (some .int)), (149, Cond.constantLong RX6 192 (10)), (150, Cond.methodLink RL 223 yX6_isTrusted), (151, Cond.instanceMethod yX6_isTrusted), (152, Cond.selects RX6 yX6_isTrusted yX6_isTrusted), (153, Cond.code yX6_isTrusted cX6_isTrusted 2 (some .boolean)), (154, Cond.methodLink RX6 197 yX6_isTrustedNow), (156, Cond.instanceMethod yX6_isTrustedNow), (157, Cond.code yX6_isTrustedNow cX6_isTrustedNow 4 (some .boolean)), (158, Cond.methodLink RL 226 yX6_best), (159, Cond.instanceMethod yX6_best), (160, Cond.selects RX6 yX6_best yX6_best), (161, Cond.code yX6_best cX6_best 2 (some .int)), (162, Cond.methodLink RX6 200 yX6_bestNow), (164, Cond.instanceMethod yX6_bestNow), (165, Cond.code yX6_bestNow cX6_bestNow 4 (some .int)), (166, Cond.methodLink RL 229 yX6_reach), (167, Cond.instanceMethod yX6_reach), (168, Cond.selects RX6 yX6_reach yX6_reach), (169, Cond.code yX6_reach cX6_reach 4 (some .int)), (170, Cond.methodLink RX6 206 yX6_reachNow), (172, Cond.instanceMethod yX6_reachNow), (173, Cond.code yX6_reachNow cX6_reachNow 6 (some .int)), (174, Cond.methodLink RX6 203 yX6_getsBy), (176, Cond.instanceMethod yX6_getsBy), (177, Cond.code yX6_getsBy cX6_getsBy 3 (some .int)), (178, Cond.methodLink RL 232 yX6_both), (179, Cond.instanceMethod yX6_both), (180, Cond.selects RX6 yX6_both yX6_both), (181, Cond.code yX6_both cX6_both 6 (some .int)), (182, Cond.methodLink RX6 209 yX6_isSplit), (184, Cond.instanceMethod yX6_isSplit), (185, Cond.code yX6_isSplit cX6_isSplit 3 (some .boolean)), (186, Cond.methodLink RL 235 yX6_wouldChange), (187, Cond.instanceMethod yX6_wouldChange), (188, Cond.selects RX6 yX6_wouldChange yX6_wouldChange), (189, Cond.code yX6_wouldChange cX6_wouldChange 6 (some .int)), (190, Cond.methodLink RL 238 yX6_wouldTurn), (191, Cond.instanceMethod yX6_wouldTurn), (192, Cond.selects RX6 yX6_wouldTurn yX6_wouldTurn), (193, Cond.code yX6_wouldTurn cX6_wouldTurn 6 (some .int)), (194, Cond.methodLink RX6 212 yX6_all), (196, Cond.instanceMethod yX6_all), (197, Cond.code yX6_all cX6_all 4 (some .int)), (198, Cond.methodLink RL 241 yX6_shareIn), (199, Cond.instanceMethod yX6_shareIn), (200, Cond.selects RX6 yX6_shareIn yX6_shareIn)] : List (Nat × Cond)).all (fun q => decide (tables_1_5[q.1]? = some q.2) && goodWord q.2) = true := by decide +kernel
theorem m_ml_L_217 : Cond.methodLink RL 217 yX6_sure ∈ TT := by
  have h := Bool.and_eq_true_iff.mp (List.all_eq_true.mp mG_5_120 (133, Cond.methodLink RL 217 yX6_sure) (List.mem_of_getElem? (i := 0) rfl))
  exact tt_m5 133 (of_decide_eq_true h.1) h.2
theorem m_im_X6_sure : Cond.instanceMethod yX6_sure ∈ TT := by
  have h := Bool.and_eq_true_iff.mp (List.all_eq_true.mp mG_5_120 (134, Cond.instanceMethod yX6_sure) (List.mem_of_getElem? (i := 1) rfl))
  exact tt_m5 134 (of_decide_eq_true h.1) h.2
theorem m_sl_X6_sure : Cond.selects RX6 yX6_sure yX6_sure ∈ TT := by
  have h := Bool.and_eq_true_iff.mp (List.all_eq_true.mp mG_5_120 (135, Cond.selects RX6 yX6_sure yX6_sure) (List.mem_of_getElem? (i := 2) rfl))
  exact tt_m5 135 (of_decide_eq_true h.1) h.2
theorem m_cd_X6_sure : Cond.code yX6_sure cX6_sure 9 (some .double) ∈ TT := by
  have h := Bool.and_eq_true_iff.mp (List.all_eq_true.mp mG_5_120 (136, Cond.code yX6_sure cX6_sure 9 (some .double)) (List.mem_of_getElem? (i := 3) rfl))
  exact tt_m5 136 (of_decide_eq_true h.1) h.2
theorem m_ml_X6_189 : Cond.methodLink RX6 189 yX6_spread ∈ TT := by
  have h := Bool.and_eq_true_iff.mp (List.all_eq_true.mp mG_5_120 (137, Cond.methodLink RX6 189 yX6_spread) (List.mem_of_getElem? (i := 4) rfl))
  exact tt_m5 137 (of_decide_eq_true h.1) h.2
theorem m_im_X6_spread : Cond.instanceMethod yX6_spread ∈ TT := by
  have h := Bool.and_eq_true_iff.mp (List.all_eq_true.mp mG_5_120 (139, Cond.instanceMethod yX6_spread) (List.mem_of_getElem? (i := 5) rfl))
  exact tt_m5 139 (of_decide_eq_true h.1) h.2
theorem m_cd_X6_spread : Cond.code yX6_spread cX6_spread 6 (some .double) ∈ TT := by
  have h := Bool.and_eq_true_iff.mp (List.all_eq_true.mp mG_5_120 (140, Cond.code yX6_spread cX6_spread 6 (some .double)) (List.mem_of_getElem? (i := 6) rfl))
  exact tt_m5 140 (of_decide_eq_true h.1) h.2
theorem m_ml_L_220 : Cond.methodLink RL 220 yX6_bad ∈ TT := by
  have h := Bool.and_eq_true_iff.mp (List.all_eq_true.mp mG_5_120 (141, Cond.methodLink RL 220 yX6_bad) (List.mem_of_getElem? (i := 7) rfl))
  exact tt_m5 141 (of_decide_eq_true h.1) h.2
theorem m_im_X6_bad : Cond.instanceMethod yX6_bad ∈ TT := by
  have h := Bool.and_eq_true_iff.mp (List.all_eq_true.mp mG_5_120 (142, Cond.instanceMethod yX6_bad) (List.mem_of_getElem? (i := 8) rfl))
  exact tt_m5 142 (of_decide_eq_true h.1) h.2
theorem m_sl_X6_bad : Cond.selects RX6 yX6_bad yX6_bad ∈ TT := by
  have h := Bool.and_eq_true_iff.mp (List.all_eq_true.mp mG_5_120 (143, Cond.selects RX6 yX6_bad yX6_bad) (List.mem_of_getElem? (i := 9) rfl))
  exact tt_m5 143 (of_decide_eq_true h.1) h.2
theorem m_cd_X6_bad : Cond.code yX6_bad cX6_bad 2 (some .int) ∈ TT := by
  have h := Bool.and_eq_true_iff.mp (List.all_eq_true.mp mG_5_120 (144, Cond.code yX6_bad cX6_bad 2 (some .int)) (List.mem_of_getElem? (i := 10) rfl))
  exact tt_m5 144 (of_decide_eq_true h.1) h.2
theorem m_ml_X6_194 : Cond.methodLink RX6 194 yX6_badNow ∈ TT := by
  have h := Bool.and_eq_true_iff.mp (List.all_eq_true.mp mG_5_120 (145, Cond.methodLink RX6 194 yX6_badNow) (List.mem_of_getElem? (i := 11) rfl))
  exact tt_m5 145 (of_decide_eq_true h.1) h.2
theorem m_im_X6_badNow : Cond.instanceMethod yX6_badNow ∈ TT := by
  have h := Bool.and_eq_true_iff.mp (List.all_eq_true.mp mG_5_120 (147, Cond.instanceMethod yX6_badNow) (List.mem_of_getElem? (i := 12) rfl))
  exact tt_m5 147 (of_decide_eq_true h.1) h.2
theorem m_cd_X6_badNow : Cond.code yX6_badNow cX6_badNow 10 (some .int) ∈ TT := by
  have h := Bool.and_eq_true_iff.mp (List.all_eq_true.mp mG_5_120 (148, Cond.code yX6_badNow cX6_badNow 10 (some .int)) (List.mem_of_getElem? (i := 13) rfl))
  exact tt_m5 148 (of_decide_eq_true h.1) h.2
theorem m_lc_X6_192 : Cond.constantLong RX6 192 (10) ∈ TT := by
  have h := Bool.and_eq_true_iff.mp (List.all_eq_true.mp mG_5_120 (149, Cond.constantLong RX6 192 (10)) (List.mem_of_getElem? (i := 14) rfl))
  exact tt_m5 149 (of_decide_eq_true h.1) h.2
theorem m_ml_L_223 : Cond.methodLink RL 223 yX6_isTrusted ∈ TT := by
  have h := Bool.and_eq_true_iff.mp (List.all_eq_true.mp mG_5_120 (150, Cond.methodLink RL 223 yX6_isTrusted) (List.mem_of_getElem? (i := 15) rfl))
  exact tt_m5 150 (of_decide_eq_true h.1) h.2
theorem m_im_X6_isTrusted : Cond.instanceMethod yX6_isTrusted ∈ TT := by
  have h := Bool.and_eq_true_iff.mp (List.all_eq_true.mp mG_5_120 (151, Cond.instanceMethod yX6_isTrusted) (List.mem_of_getElem? (i := 16) rfl))
  exact tt_m5 151 (of_decide_eq_true h.1) h.2
theorem m_sl_X6_isTrusted : Cond.selects RX6 yX6_isTrusted yX6_isTrusted ∈ TT := by
  have h := Bool.and_eq_true_iff.mp (List.all_eq_true.mp mG_5_120 (152, Cond.selects RX6 yX6_isTrusted yX6_isTrusted) (List.mem_of_getElem? (i := 17) rfl))
  exact tt_m5 152 (of_decide_eq_true h.1) h.2
theorem m_cd_X6_isTrusted : Cond.code yX6_isTrusted cX6_isTrusted 2 (some .boolean) ∈ TT := by
  have h := Bool.and_eq_true_iff.mp (List.all_eq_true.mp mG_5_120 (153, Cond.code yX6_isTrusted cX6_isTrusted 2 (some .boolean)) (List.mem_of_getElem? (i := 18) rfl))
  exact tt_m5 153 (of_decide_eq_true h.1) h.2
theorem m_ml_X6_197 : Cond.methodLink RX6 197 yX6_isTrustedNow ∈ TT := by
  have h := Bool.and_eq_true_iff.mp (List.all_eq_true.mp mG_5_120 (154, Cond.methodLink RX6 197 yX6_isTrustedNow) (List.mem_of_getElem? (i := 19) rfl))
  exact tt_m5 154 (of_decide_eq_true h.1) h.2
theorem m_im_X6_isTrustedNow : Cond.instanceMethod yX6_isTrustedNow ∈ TT := by
  have h := Bool.and_eq_true_iff.mp (List.all_eq_true.mp mG_5_120 (156, Cond.instanceMethod yX6_isTrustedNow) (List.mem_of_getElem? (i := 20) rfl))
  exact tt_m5 156 (of_decide_eq_true h.1) h.2
theorem m_cd_X6_isTrustedNow : Cond.code yX6_isTrustedNow cX6_isTrustedNow 4 (some .boolean) ∈ TT := by
  have h := Bool.and_eq_true_iff.mp (List.all_eq_true.mp mG_5_120 (157, Cond.code yX6_isTrustedNow cX6_isTrustedNow 4 (some .boolean)) (List.mem_of_getElem? (i := 21) rfl))
  exact tt_m5 157 (of_decide_eq_true h.1) h.2
theorem m_ml_L_226 : Cond.methodLink RL 226 yX6_best ∈ TT := by
  have h := Bool.and_eq_true_iff.mp (List.all_eq_true.mp mG_5_120 (158, Cond.methodLink RL 226 yX6_best) (List.mem_of_getElem? (i := 22) rfl))
  exact tt_m5 158 (of_decide_eq_true h.1) h.2
theorem m_im_X6_best : Cond.instanceMethod yX6_best ∈ TT := by
  have h := Bool.and_eq_true_iff.mp (List.all_eq_true.mp mG_5_120 (159, Cond.instanceMethod yX6_best) (List.mem_of_getElem? (i := 23) rfl))
  exact tt_m5 159 (of_decide_eq_true h.1) h.2
theorem m_sl_X6_best : Cond.selects RX6 yX6_best yX6_best ∈ TT := by
  have h := Bool.and_eq_true_iff.mp (List.all_eq_true.mp mG_5_120 (160, Cond.selects RX6 yX6_best yX6_best) (List.mem_of_getElem? (i := 24) rfl))
  exact tt_m5 160 (of_decide_eq_true h.1) h.2
theorem m_cd_X6_best : Cond.code yX6_best cX6_best 2 (some .int) ∈ TT := by
  have h := Bool.and_eq_true_iff.mp (List.all_eq_true.mp mG_5_120 (161, Cond.code yX6_best cX6_best 2 (some .int)) (List.mem_of_getElem? (i := 25) rfl))
  exact tt_m5 161 (of_decide_eq_true h.1) h.2
theorem m_ml_X6_200 : Cond.methodLink RX6 200 yX6_bestNow ∈ TT := by
  have h := Bool.and_eq_true_iff.mp (List.all_eq_true.mp mG_5_120 (162, Cond.methodLink RX6 200 yX6_bestNow) (List.mem_of_getElem? (i := 26) rfl))
  exact tt_m5 162 (of_decide_eq_true h.1) h.2
theorem m_im_X6_bestNow : Cond.instanceMethod yX6_bestNow ∈ TT := by
  have h := Bool.and_eq_true_iff.mp (List.all_eq_true.mp mG_5_120 (164, Cond.instanceMethod yX6_bestNow) (List.mem_of_getElem? (i := 27) rfl))
  exact tt_m5 164 (of_decide_eq_true h.1) h.2
theorem m_cd_X6_bestNow : Cond.code yX6_bestNow cX6_bestNow 4 (some .int) ∈ TT := by
  have h := Bool.and_eq_true_iff.mp (List.all_eq_true.mp mG_5_120 (165, Cond.code yX6_bestNow cX6_bestNow 4 (some .int)) (List.mem_of_getElem? (i := 28) rfl))
  exact tt_m5 165 (of_decide_eq_true h.1) h.2
theorem m_ml_L_229 : Cond.methodLink RL 229 yX6_reach ∈ TT := by
  have h := Bool.and_eq_true_iff.mp (List.all_eq_true.mp mG_5_120 (166, Cond.methodLink RL 229 yX6_reach) (List.mem_of_getElem? (i := 29) rfl))
  exact tt_m5 166 (of_decide_eq_true h.1) h.2
theorem m_im_X6_reach : Cond.instanceMethod yX6_reach ∈ TT := by
  have h := Bool.and_eq_true_iff.mp (List.all_eq_true.mp mG_5_120 (167, Cond.instanceMethod yX6_reach) (List.mem_of_getElem? (i := 30) rfl))
  exact tt_m5 167 (of_decide_eq_true h.1) h.2
theorem m_sl_X6_reach : Cond.selects RX6 yX6_reach yX6_reach ∈ TT := by
  have h := Bool.and_eq_true_iff.mp (List.all_eq_true.mp mG_5_120 (168, Cond.selects RX6 yX6_reach yX6_reach) (List.mem_of_getElem? (i := 31) rfl))
  exact tt_m5 168 (of_decide_eq_true h.1) h.2
theorem m_cd_X6_reach : Cond.code yX6_reach cX6_reach 4 (some .int) ∈ TT := by
  have h := Bool.and_eq_true_iff.mp (List.all_eq_true.mp mG_5_120 (169, Cond.code yX6_reach cX6_reach 4 (some .int)) (List.mem_of_getElem? (i := 32) rfl))
  exact tt_m5 169 (of_decide_eq_true h.1) h.2
theorem m_ml_X6_206 : Cond.methodLink RX6 206 yX6_reachNow ∈ TT := by
  have h := Bool.and_eq_true_iff.mp (List.all_eq_true.mp mG_5_120 (170, Cond.methodLink RX6 206 yX6_reachNow) (List.mem_of_getElem? (i := 33) rfl))
  exact tt_m5 170 (of_decide_eq_true h.1) h.2
theorem m_im_X6_reachNow : Cond.instanceMethod yX6_reachNow ∈ TT := by
  have h := Bool.and_eq_true_iff.mp (List.all_eq_true.mp mG_5_120 (172, Cond.instanceMethod yX6_reachNow) (List.mem_of_getElem? (i := 34) rfl))
  exact tt_m5 172 (of_decide_eq_true h.1) h.2
theorem m_cd_X6_reachNow : Cond.code yX6_reachNow cX6_reachNow 6 (some .int) ∈ TT := by
  have h := Bool.and_eq_true_iff.mp (List.all_eq_true.mp mG_5_120 (173, Cond.code yX6_reachNow cX6_reachNow 6 (some .int)) (List.mem_of_getElem? (i := 35) rfl))
  exact tt_m5 173 (of_decide_eq_true h.1) h.2
theorem m_ml_X6_203 : Cond.methodLink RX6 203 yX6_getsBy ∈ TT := by
  have h := Bool.and_eq_true_iff.mp (List.all_eq_true.mp mG_5_120 (174, Cond.methodLink RX6 203 yX6_getsBy) (List.mem_of_getElem? (i := 36) rfl))
  exact tt_m5 174 (of_decide_eq_true h.1) h.2
theorem m_im_X6_getsBy : Cond.instanceMethod yX6_getsBy ∈ TT := by
  have h := Bool.and_eq_true_iff.mp (List.all_eq_true.mp mG_5_120 (176, Cond.instanceMethod yX6_getsBy) (List.mem_of_getElem? (i := 37) rfl))
  exact tt_m5 176 (of_decide_eq_true h.1) h.2
theorem m_cd_X6_getsBy : Cond.code yX6_getsBy cX6_getsBy 3 (some .int) ∈ TT := by
  have h := Bool.and_eq_true_iff.mp (List.all_eq_true.mp mG_5_120 (177, Cond.code yX6_getsBy cX6_getsBy 3 (some .int)) (List.mem_of_getElem? (i := 38) rfl))
  exact tt_m5 177 (of_decide_eq_true h.1) h.2
theorem m_ml_L_232 : Cond.methodLink RL 232 yX6_both ∈ TT := by
  have h := Bool.and_eq_true_iff.mp (List.all_eq_true.mp mG_5_120 (178, Cond.methodLink RL 232 yX6_both) (List.mem_of_getElem? (i := 39) rfl))
  exact tt_m5 178 (of_decide_eq_true h.1) h.2
theorem m_im_X6_both : Cond.instanceMethod yX6_both ∈ TT := by
  have h := Bool.and_eq_true_iff.mp (List.all_eq_true.mp mG_5_120 (179, Cond.instanceMethod yX6_both) (List.mem_of_getElem? (i := 40) rfl))
  exact tt_m5 179 (of_decide_eq_true h.1) h.2
theorem m_sl_X6_both : Cond.selects RX6 yX6_both yX6_both ∈ TT := by
  have h := Bool.and_eq_true_iff.mp (List.all_eq_true.mp mG_5_120 (180, Cond.selects RX6 yX6_both yX6_both) (List.mem_of_getElem? (i := 41) rfl))
  exact tt_m5 180 (of_decide_eq_true h.1) h.2
theorem m_cd_X6_both : Cond.code yX6_both cX6_both 6 (some .int) ∈ TT := by
  have h := Bool.and_eq_true_iff.mp (List.all_eq_true.mp mG_5_120 (181, Cond.code yX6_both cX6_both 6 (some .int)) (List.mem_of_getElem? (i := 42) rfl))
  exact tt_m5 181 (of_decide_eq_true h.1) h.2
theorem m_ml_X6_209 : Cond.methodLink RX6 209 yX6_isSplit ∈ TT := by
  have h := Bool.and_eq_true_iff.mp (List.all_eq_true.mp mG_5_120 (182, Cond.methodLink RX6 209 yX6_isSplit) (List.mem_of_getElem? (i := 43) rfl))
  exact tt_m5 182 (of_decide_eq_true h.1) h.2
theorem m_im_X6_isSplit : Cond.instanceMethod yX6_isSplit ∈ TT := by
  have h := Bool.and_eq_true_iff.mp (List.all_eq_true.mp mG_5_120 (184, Cond.instanceMethod yX6_isSplit) (List.mem_of_getElem? (i := 44) rfl))
  exact tt_m5 184 (of_decide_eq_true h.1) h.2
theorem m_cd_X6_isSplit : Cond.code yX6_isSplit cX6_isSplit 3 (some .boolean) ∈ TT := by
  have h := Bool.and_eq_true_iff.mp (List.all_eq_true.mp mG_5_120 (185, Cond.code yX6_isSplit cX6_isSplit 3 (some .boolean)) (List.mem_of_getElem? (i := 45) rfl))
  exact tt_m5 185 (of_decide_eq_true h.1) h.2
theorem m_ml_L_235 : Cond.methodLink RL 235 yX6_wouldChange ∈ TT := by
  have h := Bool.and_eq_true_iff.mp (List.all_eq_true.mp mG_5_120 (186, Cond.methodLink RL 235 yX6_wouldChange) (List.mem_of_getElem? (i := 46) rfl))
  exact tt_m5 186 (of_decide_eq_true h.1) h.2
theorem m_im_X6_wouldChange : Cond.instanceMethod yX6_wouldChange ∈ TT := by
  have h := Bool.and_eq_true_iff.mp (List.all_eq_true.mp mG_5_120 (187, Cond.instanceMethod yX6_wouldChange) (List.mem_of_getElem? (i := 47) rfl))
  exact tt_m5 187 (of_decide_eq_true h.1) h.2
theorem m_sl_X6_wouldChange : Cond.selects RX6 yX6_wouldChange yX6_wouldChange ∈ TT := by
  have h := Bool.and_eq_true_iff.mp (List.all_eq_true.mp mG_5_120 (188, Cond.selects RX6 yX6_wouldChange yX6_wouldChange) (List.mem_of_getElem? (i := 48) rfl))
  exact tt_m5 188 (of_decide_eq_true h.1) h.2
theorem m_cd_X6_wouldChange : Cond.code yX6_wouldChange cX6_wouldChange 6 (some .int) ∈ TT := by
  have h := Bool.and_eq_true_iff.mp (List.all_eq_true.mp mG_5_120 (189, Cond.code yX6_wouldChange cX6_wouldChange 6 (some .int)) (List.mem_of_getElem? (i := 49) rfl))
  exact tt_m5 189 (of_decide_eq_true h.1) h.2
theorem m_ml_L_238 : Cond.methodLink RL 238 yX6_wouldTurn ∈ TT := by
  have h := Bool.and_eq_true_iff.mp (List.all_eq_true.mp mG_5_120 (190, Cond.methodLink RL 238 yX6_wouldTurn) (List.mem_of_getElem? (i := 50) rfl))
  exact tt_m5 190 (of_decide_eq_true h.1) h.2
theorem m_im_X6_wouldTurn : Cond.instanceMethod yX6_wouldTurn ∈ TT := by
  have h := Bool.and_eq_true_iff.mp (List.all_eq_true.mp mG_5_120 (191, Cond.instanceMethod yX6_wouldTurn) (List.mem_of_getElem? (i := 51) rfl))
  exact tt_m5 191 (of_decide_eq_true h.1) h.2
theorem m_sl_X6_wouldTurn : Cond.selects RX6 yX6_wouldTurn yX6_wouldTurn ∈ TT := by
  have h := Bool.and_eq_true_iff.mp (List.all_eq_true.mp mG_5_120 (192, Cond.selects RX6 yX6_wouldTurn yX6_wouldTurn) (List.mem_of_getElem? (i := 52) rfl))
  exact tt_m5 192 (of_decide_eq_true h.1) h.2
theorem m_cd_X6_wouldTurn : Cond.code yX6_wouldTurn cX6_wouldTurn 6 (some .int) ∈ TT := by
  have h := Bool.and_eq_true_iff.mp (List.all_eq_true.mp mG_5_120 (193, Cond.code yX6_wouldTurn cX6_wouldTurn 6 (some .int)) (List.mem_of_getElem? (i := 53) rfl))
  exact tt_m5 193 (of_decide_eq_true h.1) h.2
theorem m_ml_X6_212 : Cond.methodLink RX6 212 yX6_all ∈ TT := by
  have h := Bool.and_eq_true_iff.mp (List.all_eq_true.mp mG_5_120 (194, Cond.methodLink RX6 212 yX6_all) (List.mem_of_getElem? (i := 54) rfl))
  exact tt_m5 194 (of_decide_eq_true h.1) h.2
theorem m_im_X6_all : Cond.instanceMethod yX6_all ∈ TT := by
  have h := Bool.and_eq_true_iff.mp (List.all_eq_true.mp mG_5_120 (196, Cond.instanceMethod yX6_all) (List.mem_of_getElem? (i := 55) rfl))
  exact tt_m5 196 (of_decide_eq_true h.1) h.2
theorem m_cd_X6_all : Cond.code yX6_all cX6_all 4 (some .int) ∈ TT := by
  have h := Bool.and_eq_true_iff.mp (List.all_eq_true.mp mG_5_120 (197, Cond.code yX6_all cX6_all 4 (some .int)) (List.mem_of_getElem? (i := 56) rfl))
  exact tt_m5 197 (of_decide_eq_true h.1) h.2
theorem m_ml_L_241 : Cond.methodLink RL 241 yX6_shareIn ∈ TT := by
  have h := Bool.and_eq_true_iff.mp (List.all_eq_true.mp mG_5_120 (198, Cond.methodLink RL 241 yX6_shareIn) (List.mem_of_getElem? (i := 57) rfl))
  exact tt_m5 198 (of_decide_eq_true h.1) h.2
theorem m_im_X6_shareIn : Cond.instanceMethod yX6_shareIn ∈ TT := by
  have h := Bool.and_eq_true_iff.mp (List.all_eq_true.mp mG_5_120 (199, Cond.instanceMethod yX6_shareIn) (List.mem_of_getElem? (i := 58) rfl))
  exact tt_m5 199 (of_decide_eq_true h.1) h.2
theorem m_sl_X6_shareIn : Cond.selects RX6 yX6_shareIn yX6_shareIn ∈ TT := by
  have h := Bool.and_eq_true_iff.mp (List.all_eq_true.mp mG_5_120 (200, Cond.selects RX6 yX6_shareIn yX6_shareIn) (List.mem_of_getElem? (i := 59) rfl))
  exact tt_m5 200 (of_decide_eq_true h.1) h.2
theorem mG_5_180 : ([(201, Cond.code yX6_shareIn cX6_shareIn 3 (some .int)), (202, Cond.methodLink RL 246 yX6_digest), (203, Cond.instanceMethod yX6_digest), (204, Cond.selects RX6 yX6_digest yX6_digest), (205, Cond.code yX6_digest cX6_digest 6 (some .long)), (206, Cond.constantLong RX6 215 (83297)), (207, Cond.constantLong RX6 217 (31)), (208, Cond.arrayClass .double)] : List (Nat × Cond)).all (fun q => decide (tables_1_5[q.1]? = some q.2) && goodWord q.2) = true := by decide +kernel
theorem m_cd_X6_shareIn : Cond.code yX6_shareIn cX6_shareIn 3 (some .int) ∈ TT := by
  have h := Bool.and_eq_true_iff.mp (List.all_eq_true.mp mG_5_180 (201, Cond.code yX6_shareIn cX6_shareIn 3 (some .int)) (List.mem_of_getElem? (i := 0) rfl))
  exact tt_m5 201 (of_decide_eq_true h.1) h.2
theorem m_ml_L_246 : Cond.methodLink RL 246 yX6_digest ∈ TT := by
  have h := Bool.and_eq_true_iff.mp (List.all_eq_true.mp mG_5_180 (202, Cond.methodLink RL 246 yX6_digest) (List.mem_of_getElem? (i := 1) rfl))
  exact tt_m5 202 (of_decide_eq_true h.1) h.2
theorem m_im_X6_digest : Cond.instanceMethod yX6_digest ∈ TT := by
  have h := Bool.and_eq_true_iff.mp (List.all_eq_true.mp mG_5_180 (203, Cond.instanceMethod yX6_digest) (List.mem_of_getElem? (i := 2) rfl))
  exact tt_m5 203 (of_decide_eq_true h.1) h.2
theorem m_sl_X6_digest : Cond.selects RX6 yX6_digest yX6_digest ∈ TT := by
  have h := Bool.and_eq_true_iff.mp (List.all_eq_true.mp mG_5_180 (204, Cond.selects RX6 yX6_digest yX6_digest) (List.mem_of_getElem? (i := 3) rfl))
  exact tt_m5 204 (of_decide_eq_true h.1) h.2
theorem m_cd_X6_digest : Cond.code yX6_digest cX6_digest 6 (some .long) ∈ TT := by
  have h := Bool.and_eq_true_iff.mp (List.all_eq_true.mp mG_5_180 (205, Cond.code yX6_digest cX6_digest 6 (some .long)) (List.mem_of_getElem? (i := 4) rfl))
  exact tt_m5 205 (of_decide_eq_true h.1) h.2
theorem m_lc_X6_215 : Cond.constantLong RX6 215 (83297) ∈ TT := by
  have h := Bool.and_eq_true_iff.mp (List.all_eq_true.mp mG_5_180 (206, Cond.constantLong RX6 215 (83297)) (List.mem_of_getElem? (i := 5) rfl))
  exact tt_m5 206 (of_decide_eq_true h.1) h.2
theorem m_lc_X6_217 : Cond.constantLong RX6 217 (31) ∈ TT := by
  have h := Bool.and_eq_true_iff.mp (List.all_eq_true.mp mG_5_180 (207, Cond.constantLong RX6 217 (31)) (List.mem_of_getElem? (i := 6) rfl))
  exact tt_m5 207 (of_decide_eq_true h.1) h.2
theorem m_ar_double : Cond.arrayClass .double ∈ TT := by
  have h := Bool.and_eq_true_iff.mp (List.all_eq_true.mp mG_5_180 (208, Cond.arrayClass .double) (List.mem_of_getElem? (i := 7) rfl))
  exact tt_m5 208 (of_decide_eq_true h.1) h.2
theorem m_sl_X5_withSwitch : Cond.selects RX5 yX5_withSwitch yX5_withSwitch ∈ TT := tt_m0 1 (by decide +kernel) (by decide +kernel)
theorem m_sl_X5_known : Cond.selects RX5 yX5_known yX5_known ∈ TT := tt_m0 2 (by decide +kernel) (by decide +kernel)
theorem m_sl_X5_switchAt : Cond.selects RX5 yX5_switchAt yX5_switchAt ∈ TT := tt_m0 3 (by decide +kernel) (by decide +kernel)
theorem m_sl_X5_variantOf : Cond.selects RX5 yX5_variantOf yX5_variantOf ∈ TT := tt_m0 4 (by decide +kernel) (by decide +kernel)
theorem m_sl_X5_reasonOf : Cond.selects RX5 yX5_reasonOf yX5_reasonOf ∈ TT := tt_m0 5 (by decide +kernel) (by decide +kernel)
theorem m_sl_X5_hasNeed : Cond.selects RX5 yX5_hasNeed yX5_hasNeed ∈ TT := tt_m0 6 (by decide +kernel) (by decide +kernel)
theorem m_sl_X5_isInLayer : Cond.selects RX5 yX5_isInLayer yX5_isInLayer ∈ TT := tt_m0 7 (by decide +kernel) (by decide +kernel)
theorem m_sl_X5_variantBy : Cond.selects RX5 yX5_variantBy yX5_variantBy ∈ TT := tt_m0 8 (by decide +kernel) (by decide +kernel)
theorem m_sl_X5_isTaken : Cond.selects RX5 yX5_isTaken yX5_isTaken ∈ TT := tt_m0 9 (by decide +kernel) (by decide +kernel)
theorem m_sl_X4_spreadByCount : Cond.selects RX4 yX4_spreadByCount yX4_spreadByCount ∈ TT := tt_m0 10 (by decide +kernel) (by decide +kernel)
theorem m_sl_X5_changesByTurning : Cond.selects RX5 yX5_changesByTurning yX5_changesByTurning ∈ TT := tt_m0 11 (by decide +kernel) (by decide +kernel)
theorem m_sl_X6_no : Cond.selects RX6 yX6_no yX6_no ∈ TT := tt_m0 12 (by decide +kernel) (by decide +kernel)
theorem m_sl_X6_isVariant : Cond.selects RX6 yX6_isVariant yX6_isVariant ∈ TT := tt_m0 13 (by decide +kernel) (by decide +kernel)
theorem m_sl_X6_isSwitch : Cond.selects RX6 yX6_isSwitch yX6_isSwitch ∈ TT := tt_m0 14 (by decide +kernel) (by decide +kernel)
theorem m_sl_X6_isNot : Cond.selects RX6 yX6_isNot yX6_isNot ∈ TT := tt_m0 15 (by decide +kernel) (by decide +kernel)
theorem m_sl_X6_farIn : Cond.selects RX6 yX6_farIn yX6_farIn ∈ TT := tt_m0 16 (by decide +kernel) (by decide +kernel)
theorem m_sl_X6_ok : Cond.selects RX6 yX6_ok yX6_ok ∈ TT := tt_m0 17 (by decide +kernel) (by decide +kernel)
theorem m_sl_X6_leftIn : Cond.selects RX6 yX6_leftIn yX6_leftIn ∈ TT := tt_m0 18 (by decide +kernel) (by decide +kernel)
theorem m_sl_X6_isAsked : Cond.selects RX6 yX6_isAsked yX6_isAsked ∈ TT := tt_m0 19 (by decide +kernel) (by decide +kernel)
theorem m_sl_X6_getsOf : Cond.selects RX6 yX6_getsOf yX6_getsOf ∈ TT := tt_m0 20 (by decide +kernel) (by decide +kernel)
theorem m_sl_X6_getsNow : Cond.selects RX6 yX6_getsNow yX6_getsNow ∈ TT := tt_m0 21 (by decide +kernel) (by decide +kernel)
theorem m_sl_X6_armAt : Cond.selects RX6 yX6_armAt yX6_armAt ∈ TT := tt_m0 22 (by decide +kernel) (by decide +kernel)
theorem m_sl_X6_holdsNow : Cond.selects RX6 yX6_holdsNow yX6_holdsNow ∈ TT := tt_m0 23 (by decide +kernel) (by decide +kernel)
theorem m_sl_X6_split : Cond.selects RX6 yX6_split yX6_split ∈ TT := tt_m0 24 (by decide +kernel) (by decide +kernel)
theorem m_sl_X6_armNow : Cond.selects RX6 yX6_armNow yX6_armNow ∈ TT := tt_m0 25 (by decide +kernel) (by decide +kernel)
theorem m_sl_X6_toldNow : Cond.selects RX6 yX6_toldNow yX6_toldNow ∈ TT := tt_m0 26 (by decide +kernel) (by decide +kernel)
theorem m_sl_X6_meanNow : Cond.selects RX6 yX6_meanNow yX6_meanNow ∈ TT := tt_m0 27 (by decide +kernel) (by decide +kernel)
theorem m_sl_X6_spread : Cond.selects RX6 yX6_spread yX6_spread ∈ TT := tt_m0 28 (by decide +kernel) (by decide +kernel)
theorem m_sl_X6_badNow : Cond.selects RX6 yX6_badNow yX6_badNow ∈ TT := tt_m0 29 (by decide +kernel) (by decide +kernel)
theorem m_sl_X6_isTrustedNow : Cond.selects RX6 yX6_isTrustedNow yX6_isTrustedNow ∈ TT := tt_m0 30 (by decide +kernel) (by decide +kernel)
theorem m_sl_X6_bestNow : Cond.selects RX6 yX6_bestNow yX6_bestNow ∈ TT := tt_m0 31 (by decide +kernel) (by decide +kernel)
theorem m_sl_X6_reachNow : Cond.selects RX6 yX6_reachNow yX6_reachNow ∈ TT := tt_m0 32 (by decide +kernel) (by decide +kernel)
theorem m_sl_X6_getsBy : Cond.selects RX6 yX6_getsBy yX6_getsBy ∈ TT := tt_m0 33 (by decide +kernel) (by decide +kernel)
theorem m_sl_X6_isSplit : Cond.selects RX6 yX6_isSplit yX6_isSplit ∈ TT := tt_m0 34 (by decide +kernel) (by decide +kernel)
theorem m_sl_X6_all : Cond.selects RX6 yX6_all yX6_all ∈ TT := tt_m0 35 (by decide +kernel) (by decide +kernel)
theorem tb_l {ws : List Cond} (ps : List Nat) (h : ws = ps.filterMap (fun i => lw_tbl[i]?)) : ∀ w ∈ ws, w ∈ lw_tbl := fun w hw => by
  rw [h] at hw
  obtain ⟨i, -, hi⟩ := List.mem_filterMap.mp hw
  exact List.mem_of_getElem? hi
theorem m_u_X0 : ∀ w ∈ wsX00, w ∈ TT := tt_l [712, 714, 716, 718, 720] (by decide +kernel) (by decide +kernel)
theorem m_u_X1 : ∀ w ∈ wsX10, w ∈ TT := tt_l [77, 79, 81, 83, 85, 87] (by decide +kernel) (by decide +kernel)
theorem m_u_X2 : ∀ w ∈ wsX20, w ∈ TT := tt_l [609, 611, 613, 615] (by decide +kernel) (by decide +kernel)
theorem m_u_X3 : ∀ w ∈ wsX30, w ∈ TT := tt_l [486, 488, 490, 492, 494, 496, 498, 500, 502, 504, 506, 508, 510, 512, 514, 516, 518, 520] (by decide +kernel) (by decide +kernel)
theorem m_u_X4 : ∀ w ∈ wsX40, w ∈ TT := tt_l [443, 445, 447, 449, 451] (by decide +kernel) (by decide +kernel)
theorem m_u_X5 : ∀ w ∈ wsX50, w ∈ TT := tt_l [96, 98, 100, 102, 104, 106] (by decide +kernel) (by decide +kernel)
theorem m_u_X6 : ∀ w ∈ wsX60, w ∈ TT := tt_l [880, 882, 884, 886, 888, 890, 892, 894, 896, 898, 900, 902, 904, 906, 908, 910, 912, 914, 916, 918, 920, 922, 924, 926, 928, 930, 932, 934, 936] (by decide +kernel) (by decide +kernel)
/-- a call's words, out of the tables' words alone -/
theorem kg_V {own C : String} {idx : Nat} {y : MethodName} {w : Cond} (h1 : Cond.methodLink own idx y ∈ TT) (h2 : Cond.instanceMethod y ∈ TT) (h3 : Cond.selects C y y ∈ TT) (h4 : Cond.initialized C ∈ TT) (h5 : w ∈ TT) : GoodIn TT (wsV own idx C y (w :: TT)) := by
  intro z hz
  have : z ∈ TT := by
    simp only [wsV, List.cons_append, List.nil_append, List.mem_cons] at hz
    rcases hz with rfl | rfl | rfl | rfl | rfl | hz <;> assumption
  exact ⟨this, tt_good this⟩
theorem kg_S {own : String} {idx : Nat} {y : MethodName} {w : Cond} (h1 : Cond.methodLink own idx y ∈ TT) (h2 : Cond.static y ∈ TT) (h4 : Cond.initialized own ∈ TT) (h5 : w ∈ TT) : GoodIn TT (wsS own idx y (w :: TT)) := by
  intro z hz
  have : z ∈ TT := by
    simp only [wsS, List.cons_append, List.nil_append, List.mem_cons] at hz
    rcases hz with rfl | rfl | rfl | rfl | hz <;> assumption
  exact ⟨this, tt_good this⟩
theorem kg_I {w : Cond} (h5 : w ∈ TT) : GoodIn TT (w :: TT) := by
  intro z hz
  have : z ∈ TT := by
    rcases List.mem_cons.mp hz with rfl | hz <;> assumption
  exact ⟨this, tt_good this⟩
/-- the texts that the class throws -/
def kStr : List (Nat × String) := [(28, "salt or variants out of range"), (39, "no more switches"), (57, "no weight that can be moved"), (67, "share or step out of range"), (86, "another switch has some of the range"), (97, "only a switch with a smaller number can be needed"), (105, "mark, how or n out of range"), (110, "no more rules"), (123, "no such rule"), (130, "held out of range"), (135, "ticks out of range"), (137, "no such layer"), (139, "salt or user out of range"), (175, "user or worth out of range"), (181, "user out of range"), (207, "what out of range"), (236, "share out of range"), (304, "no such switch"), (306, "no such variant"), (308, "user or mark out of range"), (310, "many out of range"), (312, "layer or range out of range")]
/-- words of exceptions and of nest mates, that are on the tables, but no good words -/
def TB : List Cond := [Cond.castable "java/lang/IndexOutOfBoundsException" "java/lang/IndexOutOfBoundsException", Cond.castable "java/lang/IllegalArgumentException" "java/lang/IllegalArgumentException", Cond.castable "java/lang/IllegalStateException" "java/lang/IllegalStateException", Cond.declares ⟨"java/lang/RuntimeException", "<init>", "()V"⟩, Cond.declares ⟨"java/lang/RuntimeException", "<init>", "(Ljava/lang/String;)V"⟩, Cond.declares ⟨"java/lang/Exception", "<init>", "()V"⟩, Cond.declares ⟨"java/lang/Exception", "<init>", "(Ljava/lang/String;)V"⟩, Cond.declares ⟨"java/lang/Throwable", "<init>", "()V"⟩, Cond.declares ⟨"java/lang/Throwable", "<init>", "(Ljava/lang/String;)V"⟩, Cond.methodLinkNest RX5 17 yX1_init RX5, Cond.fieldLinkNest RX5 320 "DaybreakFlags$Asker" "user" "I" RX5, Cond.fieldLinkNest RX5 323 "DaybreakFlags$Asker" "first" "I" RX5, Cond.fieldLinkNest RX5 326 "DaybreakFlags$Asker" "second" "I" RX5, Cond.methodLinkNest RX3 23 yX4_init RX5, Cond.fieldLinkNest RX3 121 "DaybreakFlags$Tally" "total" "I" RX5, Cond.fieldLinkNest RX1 40 "DaybreakFlags$Switch" "number" "I" RX5, Cond.fieldLinkNest RX5 314 "DaybreakFlags$Switch" "number" "I" RX5, Cond.fieldLinkNest RX5 334 "DaybreakFlags$Switch" "salt" "I" RX5, Cond.fieldLinkNest RX5 286 "DaybreakFlags$Switch" "variantCount" "I" RX5, Cond.fieldLinkNest RX5 347 "DaybreakFlags$Switch" "isSticky" "Z" RX5, Cond.fieldLinkNest RX5 188 "DaybreakFlags$Switch" "tally" "LDaybreakFlags$Tally;" RX5, Cond.fieldLinkNest RX5 107 "DaybreakFlags$Switch" "ruleCount" "I" RX5, Cond.fieldLinkNest RX5 63 "DaybreakFlags$Switch" "isOn" "Z" RX5, Cond.fieldLinkNest RX1 34 "DaybreakFlags$Switch" "isOn" "Z" RX5, Cond.fieldLinkNest RX5 88 "DaybreakFlags$Switch" "layer" "I" RX5, Cond.fieldLinkNest RX5 91 "DaybreakFlags$Switch" "from" "I" RX5, Cond.fieldLinkNest RX5 94 "DaybreakFlags$Switch" "to" "I" RX5, Cond.fieldLinkNest RX5 99 "DaybreakFlags$Switch" "needed" "I" RX5, Cond.fieldLinkNest RX5 102 "DaybreakFlags$Switch" "neededVariant" "I" RX5, Cond.fieldLinkNest RX5 333 "DaybreakFlags$Rule" "variant" "I" RX5, Cond.fieldLinkNest RX3 89 "DaybreakFlags$Arm" "user" "I" RX5, Cond.fieldLinkNest RX3 108 "DaybreakFlags$Arm" "variant" "I" RX5, Cond.fieldLinkNest RX5 183 "DaybreakFlags$Arm" "variant" "I" RX5, Cond.fieldLinkNest RX3 94 "DaybreakFlags$Arm" "older" "LDaybreakFlags$Arm;" RX5, Cond.fieldLinkNest RX3 111 "DaybreakFlags$Arm" "sum" "I" RX5, Cond.fieldLinkNest RX3 114 "DaybreakFlags$Arm" "hasActed" "Z" RX5]
theorem m_ml_X5_17 : Cond.methodLinkNest RX5 17 yX1_init RX5 ∈ TB := List.mem_of_getElem? (i := 9) (by decide +kernel)
theorem m_fl_X5_320 : Cond.fieldLinkNest RX5 320 "DaybreakFlags$Asker" "user" "I" RX5 ∈ TB := List.mem_of_getElem? (i := 10) (by decide +kernel)
theorem m_fl_X5_323 : Cond.fieldLinkNest RX5 323 "DaybreakFlags$Asker" "first" "I" RX5 ∈ TB := List.mem_of_getElem? (i := 11) (by decide +kernel)
theorem m_fl_X5_326 : Cond.fieldLinkNest RX5 326 "DaybreakFlags$Asker" "second" "I" RX5 ∈ TB := List.mem_of_getElem? (i := 12) (by decide +kernel)
theorem m_ml_X3_23 : Cond.methodLinkNest RX3 23 yX4_init RX5 ∈ TB := List.mem_of_getElem? (i := 13) (by decide +kernel)
theorem m_fl_X3_121 : Cond.fieldLinkNest RX3 121 "DaybreakFlags$Tally" "total" "I" RX5 ∈ TB := List.mem_of_getElem? (i := 14) (by decide +kernel)
theorem m_fl_X1_40 : Cond.fieldLinkNest RX1 40 "DaybreakFlags$Switch" "number" "I" RX5 ∈ TB := List.mem_of_getElem? (i := 15) (by decide +kernel)
theorem m_fl_X5_314 : Cond.fieldLinkNest RX5 314 "DaybreakFlags$Switch" "number" "I" RX5 ∈ TB := List.mem_of_getElem? (i := 16) (by decide +kernel)
theorem m_fl_X5_334 : Cond.fieldLinkNest RX5 334 "DaybreakFlags$Switch" "salt" "I" RX5 ∈ TB := List.mem_of_getElem? (i := 17) (by decide +kernel)
theorem m_fl_X5_286 : Cond.fieldLinkNest RX5 286 "DaybreakFlags$Switch" "variantCount" "I" RX5 ∈ TB := List.mem_of_getElem? (i := 18) (by decide +kernel)
theorem m_fl_X5_347 : Cond.fieldLinkNest RX5 347 "DaybreakFlags$Switch" "isSticky" "Z" RX5 ∈ TB := List.mem_of_getElem? (i := 19) (by decide +kernel)
theorem m_fl_X5_188 : Cond.fieldLinkNest RX5 188 "DaybreakFlags$Switch" "tally" "LDaybreakFlags$Tally;" RX5 ∈ TB := List.mem_of_getElem? (i := 20) (by decide +kernel)
theorem m_fl_X5_107 : Cond.fieldLinkNest RX5 107 "DaybreakFlags$Switch" "ruleCount" "I" RX5 ∈ TB := List.mem_of_getElem? (i := 21) (by decide +kernel)
theorem m_fl_X5_63 : Cond.fieldLinkNest RX5 63 "DaybreakFlags$Switch" "isOn" "Z" RX5 ∈ TB := List.mem_of_getElem? (i := 22) (by decide +kernel)
theorem m_fl_X1_34 : Cond.fieldLinkNest RX1 34 "DaybreakFlags$Switch" "isOn" "Z" RX5 ∈ TB := List.mem_of_getElem? (i := 23) (by decide +kernel)
theorem m_fl_X5_88 : Cond.fieldLinkNest RX5 88 "DaybreakFlags$Switch" "layer" "I" RX5 ∈ TB := List.mem_of_getElem? (i := 24) (by decide +kernel)
theorem m_fl_X5_91 : Cond.fieldLinkNest RX5 91 "DaybreakFlags$Switch" "from" "I" RX5 ∈ TB := List.mem_of_getElem? (i := 25) (by decide +kernel)
theorem m_fl_X5_94 : Cond.fieldLinkNest RX5 94 "DaybreakFlags$Switch" "to" "I" RX5 ∈ TB := List.mem_of_getElem? (i := 26) (by decide +kernel)
theorem m_fl_X5_99 : Cond.fieldLinkNest RX5 99 "DaybreakFlags$Switch" "needed" "I" RX5 ∈ TB := List.mem_of_getElem? (i := 27) (by decide +kernel)
theorem m_fl_X5_102 : Cond.fieldLinkNest RX5 102 "DaybreakFlags$Switch" "neededVariant" "I" RX5 ∈ TB := List.mem_of_getElem? (i := 28) (by decide +kernel)
theorem m_fl_X5_333 : Cond.fieldLinkNest RX5 333 "DaybreakFlags$Rule" "variant" "I" RX5 ∈ TB := List.mem_of_getElem? (i := 29) (by decide +kernel)
theorem m_fl_X3_89 : Cond.fieldLinkNest RX3 89 "DaybreakFlags$Arm" "user" "I" RX5 ∈ TB := List.mem_of_getElem? (i := 30) (by decide +kernel)
theorem m_fl_X3_108 : Cond.fieldLinkNest RX3 108 "DaybreakFlags$Arm" "variant" "I" RX5 ∈ TB := List.mem_of_getElem? (i := 31) (by decide +kernel)
theorem m_fl_X5_183 : Cond.fieldLinkNest RX5 183 "DaybreakFlags$Arm" "variant" "I" RX5 ∈ TB := List.mem_of_getElem? (i := 32) (by decide +kernel)
theorem m_fl_X3_94 : Cond.fieldLinkNest RX3 94 "DaybreakFlags$Arm" "older" "LDaybreakFlags$Arm;" RX5 ∈ TB := List.mem_of_getElem? (i := 33) (by decide +kernel)
theorem m_fl_X3_111 : Cond.fieldLinkNest RX3 111 "DaybreakFlags$Arm" "sum" "I" RX5 ∈ TB := List.mem_of_getElem? (i := 34) (by decide +kernel)
theorem m_fl_X3_114 : Cond.fieldLinkNest RX3 114 "DaybreakFlags$Arm" "hasActed" "Z" RX5 ∈ TB := List.mem_of_getElem? (i := 35) (by decide +kernel)
theorem tb_ot : ∀ w ∈ TB, w.onTables = true := fun w h => List.all_eq_true.mp (show TB.all (fun w => w.onTables) = true from by decide +kernel) w h
theorem tb_in : ∀ w ∈ TB, w ∈ lw_tbl := tb_l [137, 298, 410, 138, 139, 140, 141, 142, 143, 64, 69, 71, 73, 433, 442, 457, 458, 460, 462, 464, 468, 470, 472, 473, 478, 479, 481, 484, 485, 608, 704, 706, 707, 709, 710, 711] (by decide +kernel)
theorem at_IAE : ∀ w ∈ (vx_atS RX5 30 "java/lang/IllegalArgumentException" ["java/lang/RuntimeException", "java/lang/Exception"]).filter goodWord, w ∈ TT := by
  intro w h
  exact List.mem_filter.mpr ⟨(show ∀ w ∈ (vx_atS RX5 30 "java/lang/IllegalArgumentException" ["java/lang/RuntimeException", "java/lang/Exception"]).filter goodWord, w ∈ lw_tbl from by decide +kernel) w h, (List.mem_filter.mp h).2⟩
theorem an_IAE : ∀ w ∈ (vx_atS RX5 30 "java/lang/IllegalArgumentException" ["java/lang/RuntimeException", "java/lang/Exception"]).filter (fun w => !goodWord w), w ∈ TB := by decide +kernel
theorem ag_IAE (ik : Nat) : ∀ w ∈ Cond.classLink RX5 ik "java/lang/IllegalArgumentException" :: Cond.initialized "java/lang/IllegalArgumentException" :: vx_atS RX5 30 "java/lang/IllegalArgumentException" ["java/lang/RuntimeException", "java/lang/Exception"], vx_ot w = true := by
  intro w h
  rcases List.mem_cons.mp h with rfl | h
  · rfl
  rcases List.mem_cons.mp h with rfl | h
  · rfl
  exact (show ∀ w ∈ vx_atS RX5 30 "java/lang/IllegalArgumentException" ["java/lang/RuntimeException", "java/lang/Exception"], vx_ot w = true from by decide +kernel) w h
theorem at_ISE : ∀ w ∈ (vx_atS RX5 41 "java/lang/IllegalStateException" ["java/lang/RuntimeException", "java/lang/Exception"]).filter goodWord, w ∈ TT := by
  intro w h
  exact List.mem_filter.mpr ⟨(show ∀ w ∈ (vx_atS RX5 41 "java/lang/IllegalStateException" ["java/lang/RuntimeException", "java/lang/Exception"]).filter goodWord, w ∈ lw_tbl from by decide +kernel) w h, (List.mem_filter.mp h).2⟩
theorem an_ISE : ∀ w ∈ (vx_atS RX5 41 "java/lang/IllegalStateException" ["java/lang/RuntimeException", "java/lang/Exception"]).filter (fun w => !goodWord w), w ∈ TB := by decide +kernel
theorem ag_ISE (ik : Nat) : ∀ w ∈ Cond.classLink RX5 ik "java/lang/IllegalStateException" :: Cond.initialized "java/lang/IllegalStateException" :: vx_atS RX5 41 "java/lang/IllegalStateException" ["java/lang/RuntimeException", "java/lang/Exception"], vx_ot w = true := by
  intro w h
  rcases List.mem_cons.mp h with rfl | h
  · rfl
  rcases List.mem_cons.mp h with rfl | h
  · rfl
  exact (show ∀ w ∈ vx_atS RX5 41 "java/lang/IllegalStateException" ["java/lang/RuntimeException", "java/lang/Exception"], vx_ot w = true from by decide +kernel) w h
theorem at_IOE : ∀ w ∈ (vx_atS RX5 125 "java/lang/IndexOutOfBoundsException" ["java/lang/RuntimeException", "java/lang/Exception"]).filter goodWord, w ∈ TT := by
  intro w h
  exact List.mem_filter.mpr ⟨(show ∀ w ∈ (vx_atS RX5 125 "java/lang/IndexOutOfBoundsException" ["java/lang/RuntimeException", "java/lang/Exception"]).filter goodWord, w ∈ lw_tbl from by decide +kernel) w h, (List.mem_filter.mp h).2⟩
theorem an_IOE : ∀ w ∈ (vx_atS RX5 125 "java/lang/IndexOutOfBoundsException" ["java/lang/RuntimeException", "java/lang/Exception"]).filter (fun w => !goodWord w), w ∈ TB := by decide +kernel
theorem ag_IOE (ik : Nat) : ∀ w ∈ Cond.classLink RX5 ik "java/lang/IndexOutOfBoundsException" :: Cond.initialized "java/lang/IndexOutOfBoundsException" :: vx_atS RX5 125 "java/lang/IndexOutOfBoundsException" ["java/lang/RuntimeException", "java/lang/Exception"], vx_ot w = true := by
  intro w h
  rcases List.mem_cons.mp h with rfl | h
  · rfl
  rcases List.mem_cons.mp h with rfl | h
  · rfl
  exact (show ∀ w ∈ vx_atS RX5 125 "java/lang/IndexOutOfBoundsException" ["java/lang/RuntimeException", "java/lang/Exception"], vx_ot w = true from by decide +kernel) w h
