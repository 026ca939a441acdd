/-- the words of the tables that hold wherever a method begins -/
def TT : List Cond := lw_tbl.filter goodWord
theorem tt_m {w : Cond} (i : Nat) (h : lw_tbl[i]? = some w) (hg : goodWord w = true) : w ∈ TT := List.mem_filter.mpr ⟨List.mem_of_getElem? h, hg⟩
theorem tt_good {w : Cond} (h : w ∈ TT) : (w.onTables && w.keeps) = true ∨ ∃ ty, w = .arrayClass ty := good_of_word (List.mem_filter.mp h).2
theorem tt_in {w : Cond} (h : w ∈ TT) : w ∈ lw_tbl := (List.mem_filter.mp h).1
theorem tt_l {ws : List Cond} (ps : List Nat) (h : ws = ps.filterMap (fun i => lw_tbl[i]?)) (hg : ws.all goodWord = true) : ∀ w ∈ ws, w ∈ TT := fun w hw => by
  have h1 := List.all_eq_true.mp hg w hw
  rw [h] at hw
  obtain ⟨i, -, hi⟩ := List.mem_filterMap.mp hw
  exact tt_m i hi h1
theorem tt_m0 {w : Cond} (i : Nat) (h : (k2_sels lw_privs)[i]? = some w) (hg : goodWord w = true) : w ∈ TT := List.mem_filter.mpr ⟨List.mem_append_left _ (List.mem_of_getElem? h), hg⟩
theorem tt_m1 {w : Cond} (i : Nat) (h : tables_1_1[i]? = some w) (hg : goodWord w = true) : w ∈ TT := List.mem_filter.mpr ⟨List.mem_append_right _ (show w ∈ tables_1 from List.mem_append_left _ (List.mem_of_getElem? h)), hg⟩
theorem tt_m2 {w : Cond} (i : Nat) (h : tables_1_2[i]? = some w) (hg : goodWord w = true) : w ∈ TT := List.mem_filter.mpr ⟨List.mem_append_right _ (show w ∈ tables_1 from List.mem_append_right _ (List.mem_append_left _ (List.mem_of_getElem? h))), hg⟩
theorem tt_m3 {w : Cond} (i : Nat) (h : tables_1_3[i]? = some w) (hg : goodWord w = true) : w ∈ TT := List.mem_filter.mpr ⟨List.mem_append_right _ (show w ∈ tables_1 from List.mem_append_right _ (List.mem_append_right _ (List.mem_append_left _ (List.mem_of_getElem? h)))), hg⟩
theorem tt_m4 {w : Cond} (i : Nat) (h : tables_1_4[i]? = some w) (hg : goodWord w = true) : w ∈ TT := List.mem_filter.mpr ⟨List.mem_append_right _ (show w ∈ tables_1 from List.mem_append_right _ (List.mem_append_right _ (List.mem_append_right _ (List.mem_append_left _ (List.mem_of_getElem? h))))), hg⟩
theorem tt_m5 {w : Cond} (i : Nat) (h : tables_1_5[i]? = some w) (hg : goodWord w = true) : w ∈ TT := List.mem_filter.mpr ⟨List.mem_append_right _ (show w ∈ tables_1 from List.mem_append_right _ (List.mem_append_right _ (List.mem_append_right _ (List.mem_append_right _ (List.mem_of_getElem? h))))), hg⟩
def gW_1_0 : List Cond := [Cond.initialized RL, Cond.initialized RX5, Cond.initialized RX1, Cond.initialized RX6, Cond.initialized "java/lang/Throwable", Cond.initialized "java/lang/Exception", Cond.initialized "java/lang/RuntimeException", Cond.initialized "java/lang/IllegalArgumentException", Cond.initialized "java/lang/IllegalStateException", Cond.initialized RX3, Cond.initialized RX4, Cond.initialized "java/lang/IndexOutOfBoundsException", Cond.initialized "java/lang/Math", Cond.initialized RX2, Cond.initialized "java/lang/System", Cond.initialized RX0, Cond.classLink RL 8 RX5, Cond.instantiable RX5 6, Cond.methodLink RL 120 yX5_init, Cond.instanceMethod yX5_init]
def gW_1_1 : List Cond := [Cond.code yX5_init cX5_init 1 none, Cond.methodLink RX5 1 ⟨"java/lang/Object", "<init>", "()V"⟩, Cond.instanceMethod objectInit, Cond.code objectInit ⟨#[0xb1]⟩ 1 none, Cond.classLink RX5 9 RX3, (Jvm.Cond.arrayOver (Jvm.ClassFile.FieldType.object "DaybreakFlags$Switch")), Cond.classLink RX5 15 RX1, Cond.instantiable RX1 6, (Jvm.Cond.methodLinkNest "DaybreakFlags" (17 : Nat) ({ cls := "DaybreakFlags$Asker", name := "<init>", desc := "()V" } : Jvm.MethodName) "DaybreakFlags"), Cond.instanceMethod yX1_init, Cond.code yX1_init cX1_init 1 none, Cond.methodLink RX1 3 ⟨"java/lang/Object", "<init>", "()V"⟩, Cond.fieldLink RX1 18 "DaybreakFlags$Asker" "user" "I", (Jvm.Cond.fieldLinkNest "DaybreakFlags" (320 : Nat) "DaybreakFlags$Asker" "user" "I" "DaybreakFlags"), Cond.fieldLink RX1 21 "DaybreakFlags$Asker" "first" "I", (Jvm.Cond.fieldLinkNest "DaybreakFlags" (323 : Nat) "DaybreakFlags$Asker" "first" "I" "DaybreakFlags"), Cond.fieldLink RX1 24 "DaybreakFlags$Asker" "second" "I", (Jvm.Cond.fieldLinkNest "DaybreakFlags" (326 : Nat) "DaybreakFlags$Asker" "second" "I" "DaybreakFlags"), Cond.fieldLink RX1 9 "DaybreakFlags$Asker" "turned" "I", Cond.fieldLink RX1 15 "DaybreakFlags$Asker" "ramped" "I"]
def gW_1_2 : List Cond := [Cond.fieldLink RX1 31 "DaybreakFlags$Asker" "rampedTo" "I", (Jvm.Cond.lays "DaybreakFlags$Asker" "DaybreakFlags$Asker" "user" "I"), (Jvm.Cond.soleField "DaybreakFlags$Asker" "user"), (Jvm.Cond.lays "DaybreakFlags$Asker" "DaybreakFlags$Asker" "first" "I"), (Jvm.Cond.soleField "DaybreakFlags$Asker" "first"), (Jvm.Cond.lays "DaybreakFlags$Asker" "DaybreakFlags$Asker" "second" "I"), (Jvm.Cond.soleField "DaybreakFlags$Asker" "second"), (Jvm.Cond.lays "DaybreakFlags$Asker" "DaybreakFlags$Asker" "turned" "I"), (Jvm.Cond.soleField "DaybreakFlags$Asker" "turned"), (Jvm.Cond.lays "DaybreakFlags$Asker" "DaybreakFlags$Asker" "ramped" "I"), (Jvm.Cond.soleField "DaybreakFlags$Asker" "ramped"), (Jvm.Cond.lays "DaybreakFlags$Asker" "DaybreakFlags$Asker" "rampedTo" "I"), (Jvm.Cond.soleField "DaybreakFlags$Asker" "rampedTo"), (Jvm.Cond.superclass "DaybreakFlags$Asker" "java/lang/Object"), Cond.fieldLink RX5 11 "DaybreakFlags" "row" "[LDaybreakFlags$Switch;", Cond.fieldLink RX5 18 "DaybreakFlags" "asker" "LDaybreakFlags$Asker;", Cond.fieldLink RX5 33 "DaybreakFlags" "switchCount" "I", Cond.fieldLink RX5 165 "DaybreakFlags" "armCount" "I", Cond.fieldLink RX5 132 "DaybreakFlags" "holdout" "I", Cond.fieldLink RX5 69 "DaybreakFlags" "clock" "I"]
def gW_1_3 : List Cond := [(Jvm.Cond.laysFinal "DaybreakFlags" "DaybreakFlags" "row" "[LDaybreakFlags$Switch;"), (Jvm.Cond.soleField "DaybreakFlags" "row"), (Jvm.Cond.laysFinal "DaybreakFlags" "DaybreakFlags" "asker" "LDaybreakFlags$Asker;"), (Jvm.Cond.soleField "DaybreakFlags" "asker"), (Jvm.Cond.lays "DaybreakFlags" "DaybreakFlags" "switchCount" "I"), (Jvm.Cond.soleField "DaybreakFlags" "switchCount"), (Jvm.Cond.lays "DaybreakFlags" "DaybreakFlags" "armCount" "I"), (Jvm.Cond.soleField "DaybreakFlags" "armCount"), (Jvm.Cond.lays "DaybreakFlags" "DaybreakFlags" "holdout" "I"), (Jvm.Cond.soleField "DaybreakFlags" "holdout"), (Jvm.Cond.lays "DaybreakFlags" "DaybreakFlags" "clock" "I"), (Jvm.Cond.soleField "DaybreakFlags" "clock"), (Jvm.Cond.superclass "DaybreakFlags" "java/lang/Object"), Cond.methodLink RL 163 yX5_switches, Cond.instanceMethod yX5_switches, Cond.selects RX5 yX5_switches yX5_switches, Cond.code yX5_switches cX5_switches 1 (some .int), Cond.methodLink RL 201 yX5_arms, Cond.instanceMethod yX5_arms, Cond.selects RX5 yX5_arms yX5_arms]
def gW_1_4 : List Cond := [Cond.code yX5_arms cX5_arms 1 (some .int), Cond.methodLink RL 242 yX5_digest, Cond.instanceMethod yX5_digest, Cond.selects RX5 yX5_digest yX5_digest, Cond.code yX5_digest cX5_digest 5 (some .long), Cond.constantLong RX5 244 (2687), Cond.methodLink RX5 246 yX5_switches, Cond.methodLink RX5 249 yX5_withNext, Cond.static yX5_withNext, Cond.code yX5_withNext cX5_withNext 4 (some .long), Cond.constantLong RX5 299 (31), Cond.methodLink RX5 253 yX5_arms, Cond.methodLink RX5 256 yX5_left, Cond.instanceMethod yX5_left, Cond.selects RX5 yX5_left yX5_left, Cond.code yX5_left cX5_left 7 (some .int), Cond.methodLink RX5 22 yX5_isOutside, Cond.static yX5_isOutside, Cond.code yX5_isOutside cX5_isOutside 3 (some .boolean), Cond.classLink RX5 121 "java/lang/IndexOutOfBoundsException"]
def gW_1_5 : List Cond := [(Jvm.Cond.instantiable "java/lang/IndexOutOfBoundsException" (6 : Nat)), (Jvm.Cond.castable "java/lang/IndexOutOfBoundsException" "java/lang/IndexOutOfBoundsException"), (Jvm.Cond.declares ({ cls := "java/lang/RuntimeException", name := "<init>", desc := "()V" } : Jvm.MethodName)), (Jvm.Cond.declares ({ cls := "java/lang/RuntimeException", name := "<init>", desc := "(Ljava/lang/String;)V" } : Jvm.MethodName)), (Jvm.Cond.declares ({ cls := "java/lang/Exception", name := "<init>", desc := "()V" } : Jvm.MethodName)), (Jvm.Cond.declares ({ cls := "java/lang/Exception", name := "<init>", desc := "(Ljava/lang/String;)V" } : Jvm.MethodName)), (Jvm.Cond.declares ({ cls := "java/lang/Throwable", name := "<init>", desc := "()V" } : Jvm.MethodName)), (Jvm.Cond.declares ({ cls := "java/lang/Throwable", name := "<init>", desc := "(Ljava/lang/String;)V" } : Jvm.MethodName)), (Jvm.Cond.selects "java/lang/IndexOutOfBoundsException" ({ cls := "java/lang/Throwable", name := "fillInStackTrace", desc := "(I)Ljava/lang/Throwable;" } : Jvm.MethodName) ({ cls := "java/lang/Throwable", name := "fillInStackTrace", desc := "(I)Ljava/lang/Throwable;" } : Jvm.MethodName)), (Jvm.Cond.selects "java/lang/IndexOutOfBoundsException" ({ cls := "java/lang/Throwable", name := "fillInStackTrace", desc := "()Ljava/lang/Throwable;" } : Jvm.MethodName) ({ cls := "java/lang/Throwable", name := "fillInStackTrace", desc := "()Ljava/lang/Throwable;" } : Jvm.MethodName)), (Jvm.Cond.lays "java/lang/IndexOutOfBoundsException" "java/lang/Throwable" "cause" "Ljava/lang/Throwable;"), (Jvm.Cond.lays "java/lang/Throwable" "java/lang/Throwable" "cause" "Ljava/lang/Throwable;"), (Jvm.Cond.lays "java/lang/IndexOutOfBoundsException" "java/lang/Throwable" "stackTrace" "[Ljava/lang/StackTraceElement;"), (Jvm.Cond.lays "java/lang/Throwable" "java/lang/Throwable" "stackTrace" "[Ljava/lang/StackTraceElement;"), (Jvm.Cond.lays "java/lang/IndexOutOfBoundsException" "java/lang/Throwable" "suppressedExceptions" "Ljava/util/List;"), (Jvm.Cond.lays "java/lang/Throwable" "java/lang/Throwable" "suppressedExceptions" "Ljava/util/List;"), (Jvm.Cond.lays "java/lang/IndexOutOfBoundsException" "java/lang/Throwable" "detailMessage" "Ljava/lang/String;"), (Jvm.Cond.lays "java/lang/Throwable" "java/lang/Throwable" "detailMessage" "Ljava/lang/String;"), (Jvm.Cond.lays "java/lang/IndexOutOfBoundsException" "java/lang/Throwable" "backtrace" "Ljava/lang/Object;"), (Jvm.Cond.lays "java/lang/Throwable" "java/lang/Throwable" "backtrace" "Ljava/lang/Object;")]
def gW_1_6 : List Cond := [(Jvm.Cond.fieldLink "java/lang/Throwable" (198 : Nat) "java/lang/Throwable" "backtrace" "Ljava/lang/Object;"), (Jvm.Cond.superclass "java/lang/Throwable" "java/lang/Object"), (Jvm.Cond.instanceMethod ({ cls := "java/lang/Throwable", name := "<init>", desc := "()V" } : Jvm.MethodName)), (Jvm.Cond.code ({ cls := "java/lang/Throwable", name := "<init>", desc := "()V" } : Jvm.MethodName) prog_17_method_1_code (1 : Nat) (Option.none : Option Jvm.ClassFile.FieldType)), (Jvm.Cond.methodLink "java/lang/Throwable" (1 : Nat) ({ cls := "java/lang/Object", name := "<init>", desc := "()V" } : Jvm.MethodName)), (Jvm.Cond.fieldLink "java/lang/Throwable" (13 : Nat) "java/lang/Throwable" "UNASSIGNED_STACK" "[Ljava/lang/StackTraceElement;"), (Jvm.Cond.laysStatic "java/lang/Throwable" "UNASSIGNED_STACK" "[Ljava/lang/StackTraceElement;"), (Jvm.Cond.fieldLink "java/lang/Throwable" (20 : Nat) "java/lang/Throwable" "SUPPRESSED_SENTINEL" "Ljava/util/List;"), (Jvm.Cond.laysStatic "java/lang/Throwable" "SUPPRESSED_SENTINEL" "Ljava/util/List;"), (Jvm.Cond.methodLink "java/lang/Throwable" (27 : Nat) ({ cls := "java/lang/Throwable", name := "fillInStackTrace", desc := "()Ljava/lang/Throwable;" } : Jvm.MethodName)), (Jvm.Cond.instanceMethod ({ cls := "java/lang/Throwable", name := "fillInStackTrace", desc := "()Ljava/lang/Throwable;" } : Jvm.MethodName)), (Jvm.Cond.sameMethod "java/lang/Throwable" "java/lang/Throwable" "fillInStackTrace" "()Ljava/lang/Throwable;"), (Jvm.Cond.selects "java/lang/IllegalArgumentException" ({ cls := "java/lang/Throwable", name := "fillInStackTrace", desc := "()Ljava/lang/Throwable;" } : Jvm.MethodName) ({ cls := "java/lang/Throwable", name := "fillInStackTrace", desc := "()Ljava/lang/Throwable;" } : Jvm.MethodName)), (Jvm.Cond.selects "java/lang/IllegalStateException" ({ cls := "java/lang/Throwable", name := "fillInStackTrace", desc := "()Ljava/lang/Throwable;" } : Jvm.MethodName) ({ cls := "java/lang/Throwable", name := "fillInStackTrace", desc := "()Ljava/lang/Throwable;" } : Jvm.MethodName)), (Jvm.Cond.codeSync ({ cls := "java/lang/Throwable", name := "fillInStackTrace", desc := "()Ljava/lang/Throwable;" } : Jvm.MethodName) prog_17_method_18_code (1 : Nat) (Option.some (Jvm.ClassFile.FieldType.object "java/lang/Throwable"))), (Jvm.Cond.methodLink "java/lang/Throwable" (202 : Nat) ({ cls := "java/lang/Throwable", name := "fillInStackTrace", desc := "(I)Ljava/lang/Throwable;" } : Jvm.MethodName)), (Jvm.Cond.privateMethod ({ cls := "java/lang/Throwable", name := "fillInStackTrace", desc := "(I)Ljava/lang/Throwable;" } : Jvm.MethodName)), (Jvm.Cond.instanceMethod ({ cls := "java/lang/Throwable", name := "fillInStackTrace", desc := "(I)Ljava/lang/Throwable;" } : Jvm.MethodName)), (Jvm.Cond.instantiable "java/lang/Throwable" (6 : Nat)), (Jvm.Cond.native ({ cls := "java/lang/Throwable", name := "fillInStackTrace", desc := "(I)Ljava/lang/Throwable;" } : Jvm.MethodName))]
def gW_1_7 : List Cond := [(Jvm.Cond.stringRef "DaybreakFlags" (137 : Nat) "no such layer"), Cond.methodLink RX5 125 ⟨"java/lang/IndexOutOfBoundsException", "<init>", "(Ljava/lang/String;)V"⟩, (Jvm.Cond.instanceMethod ({ cls := "java/lang/IndexOutOfBoundsException", name := "<init>", desc := "(Ljava/lang/String;)V" } : Jvm.MethodName)), (Jvm.Cond.code ({ cls := "java/lang/IndexOutOfBoundsException", name := "<init>", desc := "(Ljava/lang/String;)V" } : Jvm.MethodName) prog_12_method_2_code (2 : Nat) (Option.none : Option Jvm.ClassFile.FieldType)), (Jvm.Cond.methodLink "java/lang/IndexOutOfBoundsException" (7 : Nat) ({ cls := "java/lang/RuntimeException", name := "<init>", desc := "(Ljava/lang/String;)V" } : Jvm.MethodName)), (Jvm.Cond.instanceMethod ({ cls := "java/lang/RuntimeException", name := "<init>", desc := "(Ljava/lang/String;)V" } : Jvm.MethodName)), (Jvm.Cond.code ({ cls := "java/lang/RuntimeException", name := "<init>", desc := "(Ljava/lang/String;)V" } : Jvm.MethodName) prog_14_method_2_code (2 : Nat) (Option.none : Option Jvm.ClassFile.FieldType)), (Jvm.Cond.methodLink "java/lang/RuntimeException" (7 : Nat) ({ cls := "java/lang/Exception", name := "<init>", desc := "(Ljava/lang/String;)V" } : Jvm.MethodName)), (Jvm.Cond.instanceMethod ({ cls := "java/lang/Exception", name := "<init>", desc := "(Ljava/lang/String;)V" } : Jvm.MethodName)), (Jvm.Cond.code ({ cls := "java/lang/Exception", name := "<init>", desc := "(Ljava/lang/String;)V" } : Jvm.MethodName) prog_9_method_2_code (2 : Nat) (Option.none : Option Jvm.ClassFile.FieldType)), (Jvm.Cond.methodLink "java/lang/Exception" (7 : Nat) ({ cls := "java/lang/Throwable", name := "<init>", desc := "(Ljava/lang/String;)V" } : Jvm.MethodName)), (Jvm.Cond.instanceMethod ({ cls := "java/lang/Throwable", name := "<init>", desc := "(Ljava/lang/String;)V" } : Jvm.MethodName)), (Jvm.Cond.code ({ cls := "java/lang/Throwable", name := "<init>", desc := "(Ljava/lang/String;)V" } : Jvm.MethodName) prog_17_method_2_code (2 : Nat) (Option.none : Option Jvm.ClassFile.FieldType)), (Jvm.Cond.fieldLink "java/lang/Throwable" (198 : Nat) "java/lang/Throwable" "backtrace" "Ljava/lang/Object;"), (Jvm.Cond.fieldLink "java/lang/Throwable" (31 : Nat) "java/lang/Throwable" "detailMessage" "Ljava/lang/String;"), (Jvm.Cond.fieldLink "java/lang/Throwable" (7 : Nat) "java/lang/Throwable" "cause" "Ljava/lang/Throwable;"), (Jvm.Cond.fieldLink "java/lang/Throwable" (17 : Nat) "java/lang/Throwable" "stackTrace" "[Ljava/lang/StackTraceElement;"), (Jvm.Cond.fieldLink "java/lang/Throwable" (24 : Nat) "java/lang/Throwable" "suppressedExceptions" "Ljava/util/List;"), (Jvm.Cond.soleField "java/lang/Throwable" "backtrace"), (Jvm.Cond.soleField "java/lang/Throwable" "detailMessage")]
def gW_1_8 : List Cond := [(Jvm.Cond.soleField "java/lang/Throwable" "cause"), (Jvm.Cond.soleField "java/lang/Throwable" "stackTrace"), (Jvm.Cond.lays "java/lang/IndexOutOfBoundsException" "java/lang/Throwable" "depth" "I"), (Jvm.Cond.soleField "java/lang/Throwable" "depth"), (Jvm.Cond.soleField "java/lang/Throwable" "suppressedExceptions"), (Jvm.Cond.superclass "java/lang/IndexOutOfBoundsException" "java/lang/RuntimeException"), Cond.arrayClass .byte, Cond.methodLink RX5 259 yX5_withSwitch, (Jvm.Cond.privateMethod ({ cls := "DaybreakFlags", name := "withSwitch", desc := "(JI)J" } : Jvm.MethodName)), Cond.instanceMethod yX5_withSwitch, Cond.code yX5_withSwitch cX5_withSwitch 9 (some .long), Cond.methodLink RX5 273 yX5_share, Cond.instanceMethod yX5_share, Cond.selects RX5 yX5_share yX5_share, Cond.code yX5_share cX5_share 2 (some .int), Cond.methodLink RX5 45 yX5_known, (Jvm.Cond.privateMethod ({ cls := "DaybreakFlags", name := "known", desc := "(I)LDaybreakFlags$Switch;" } : Jvm.MethodName)), Cond.instanceMethod yX5_known, Cond.code yX5_known cX5_known 3 (some (.object "DaybreakFlags$Switch")), Cond.methodLink RX5 301 yX5_switchAt]
def gW_1_9 : List Cond := [(Jvm.Cond.privateMethod ({ cls := "DaybreakFlags", name := "switchAt", desc := "(I)LDaybreakFlags$Switch;" } : Jvm.MethodName)), Cond.instanceMethod yX5_switchAt, Cond.code yX5_switchAt cX5_switchAt 2 (some (.object "DaybreakFlags$Switch")), (Jvm.Cond.stringRef "DaybreakFlags" (304 : Nat) "no such switch"), Cond.methodLink RX5 72 yX3_farAt, Cond.instanceMethod yX3_farAt, Cond.selects RX3 yX3_farAt yX3_farAt, Cond.code yX3_farAt cX3_farAt 4 (some .int), Cond.constantLong RX3 57 (1000), Cond.methodLink RX5 276 yX5_bad, Cond.instanceMethod yX5_bad, Cond.selects RX5 yX5_bad yX5_bad, Cond.code yX5_bad cX5_bad 2 (some .int), Cond.methodLink RX5 219 yX3_badness, Cond.instanceMethod yX3_badness, Cond.selects RX3 yX3_badness yX3_badness, Cond.code yX3_badness cX3_badness 10 (some .int), Cond.methodLink RX3 124 yX4_countOf, Cond.instanceMethod yX4_countOf, Cond.selects RX4 yX4_countOf yX4_countOf]
def gW_1_10 : List Cond := [Cond.code yX4_countOf cX4_countOf 2 (some .int), Cond.methodLink RX4 25 yX4_isKept, Cond.static yX4_isKept, Cond.code yX4_isKept cX4_isKept 1 (some .boolean), Cond.constantLong RX3 128 (10), Cond.methodLink RX5 279 yX5_isTrusted, Cond.instanceMethod yX5_isTrusted, Cond.selects RX5 yX5_isTrusted yX5_isTrusted, Cond.code yX5_isTrusted cX5_isTrusted 2 (some .boolean), Cond.methodLink RX5 223 yX3_canBeTrusted, Cond.instanceMethod yX3_canBeTrusted, Cond.selects RX3 yX3_canBeTrusted yX3_canBeTrusted, Cond.code yX3_canBeTrusted cX3_canBeTrusted 3 (some .boolean), Cond.methodLink RX3 130 yX3_badness, Cond.methodLink RX3 134 yX3_mostBadness, Cond.static yX3_mostBadness, Cond.code yX3_mostBadness cX3_mostBadness 1 (some .int), Cond.methodLink RX5 283 yX5_best, Cond.instanceMethod yX5_best, Cond.selects RX5 yX5_best yX5_best]
def gW_1_11 : List Cond := [Cond.code yX5_best cX5_best 2 (some .int), Cond.methodLink RX5 227 yX4_bestVariant, Cond.instanceMethod yX4_bestVariant, Cond.selects RX4 yX4_bestVariant yX4_bestVariant, Cond.code yX4_bestVariant cX4_bestVariant 3 (some .int), Cond.methodLink RX4 33 yX4_countOf, Cond.methodLink RX4 40 yX4_meanOf, Cond.instanceMethod yX4_meanOf, Cond.selects RX4 yX4_meanOf yX4_meanOf, Cond.code yX4_meanOf cX4_meanOf 3 (some .double), Cond.methodLink RX4 37 yX4_sumOf, Cond.instanceMethod yX4_sumOf, Cond.selects RX4 yX4_sumOf yX4_sumOf, Cond.code yX4_sumOf cX4_sumOf 2 (some .int), Cond.methodLink RX5 289 yX5_weight, Cond.instanceMethod yX5_weight, Cond.selects RX5 yX5_weight yX5_weight, Cond.code yX5_weight cX5_weight 4 (some .int), Cond.methodLink RX5 49 yX5_checkVariant, Cond.static yX5_checkVariant]
set_option maxRecDepth 100000 in
theorem tb_1 : tables_1_1 = gW_1_0 ++ (gW_1_1 ++ (gW_1_2 ++ (gW_1_3 ++ (gW_1_4 ++ (gW_1_5 ++ (gW_1_6 ++ (gW_1_7 ++ (gW_1_8 ++ (gW_1_9 ++ (gW_1_10 ++ (gW_1_11))))))))))) := rfl
theorem tn_1 {w : Cond} (h : w ∈ tables_1_1) (hg : goodWord w = true) : w ∈ TT := List.mem_filter.mpr ⟨List.mem_append_right _ (show w ∈ tables_1 from List.mem_append_left _ h), hg⟩
theorem tg_1_0 {w : Cond} (h : w ∈ gW_1_0) (hg : goodWord w = true) : w ∈ TT := tn_1 (by rw [tb_1]; exact List.mem_append_left _ h) hg
theorem tg_1_1 {w : Cond} (h : w ∈ gW_1_1) (hg : goodWord w = true) : w ∈ TT := tn_1 (by rw [tb_1]; exact List.mem_append_right _ (List.mem_append_left _ h)) hg
theorem tg_1_2 {w : Cond} (h : w ∈ gW_1_2) (hg : goodWord w = true) : w ∈ TT := tn_1 (by rw [tb_1]; exact List.mem_append_right _ (List.mem_append_right _ (List.mem_append_left _ h))) hg
theorem tg_1_3 {w : Cond} (h : w ∈ gW_1_3) (hg : goodWord w = true) : w ∈ TT := tn_1 (by rw [tb_1]; exact List.mem_append_right _ (List.mem_append_right _ (List.mem_append_right _ (List.mem_append_left _ h)))) hg
theorem tg_1_4 {w : Cond} (h : w ∈ gW_1_4) (hg : goodWord w = true) : w ∈ TT := tn_1 (by rw [tb_1]; exact List.mem_append_right _ (List.mem_append_right _ (List.mem_append_right _ (List.mem_append_right _ (List.mem_append_left _ h))))) hg
theorem tg_1_5 {w : Cond} (h : w ∈ gW_1_5) (hg : goodWord w = true) : w ∈ TT := tn_1 (by rw [tb_1]; exact List.mem_append_right _ (List.mem_append_right _ (List.mem_append_right _ (List.mem_append_right _ (List.mem_append_right _ (List.mem_append_left _ h)))))) hg
theorem tg_1_6 {w : Cond} (h : w ∈ gW_1_6) (hg : goodWord w = true) : w ∈ TT := tn_1 (by rw [tb_1]; exact List.mem_append_right _ (List.mem_append_right _ (List.mem_append_right _ (List.mem_append_right _ (List.mem_append_right _ (List.mem_append_right _ (List.mem_append_left _ h))))))) hg
theorem tg_1_7 {w : Cond} (h : w ∈ gW_1_7) (hg : goodWord w = true) : w ∈ TT := tn_1 (by rw [tb_1]; exact List.mem_append_right _ (List.mem_append_right _ (List.mem_append_right _ (List.mem_append_right _ (List.mem_append_right _ (List.mem_append_right _ (List.mem_append_right _ (List.mem_append_left _ h)))))))) hg
theorem tg_1_8 {w : Cond} (h : w ∈ gW_1_8) (hg : goodWord w = true) : w ∈ TT := tn_1 (by rw [tb_1]; exact List.mem_append_right _ (List.mem_append_right _ (List.mem_append_right _ (List.mem_append_right _ (List.mem_append_right _ (List.mem_append_right _ (List.mem_append_right _ (List.mem_append_right _ (List.mem_append_left _ h))))))))) hg
theorem tg_1_9 {w : Cond} (h : w ∈ gW_1_9) (hg : goodWord w = true) : w ∈ TT := tn_1 (by rw [tb_1]; exact List.mem_append_right _ (List.mem_append_right _ (List.mem_append_right _ (List.mem_append_right _ (List.mem_append_right _ (List.mem_append_right _ (List.mem_append_right _ (List.mem_append_right _ (List.mem_append_right _ (List.mem_append_left _ h)))))))))) hg
theorem tg_1_10 {w : Cond} (h : w ∈ gW_1_10) (hg : goodWord w = true) : w ∈ TT := tn_1 (by rw [tb_1]; exact List.mem_append_right _ (List.mem_append_right _ (List.mem_append_right _ (List.mem_append_right _ (List.mem_append_right _ (List.mem_append_right _ (List.mem_append_right _ (List.mem_append_right _ (List.mem_append_right _ (List.mem_append_right _ (List.mem_append_left _ h))))))))))) hg
theorem tg_1_11 {w : Cond} (h : w ∈ gW_1_11) (hg : goodWord w = true) : w ∈ TT := tn_1 (by rw [tb_1]; exact List.mem_append_right _ (List.mem_append_right _ (List.mem_append_right _ (List.mem_append_right _ (List.mem_append_right _ (List.mem_append_right _ (List.mem_append_right _ (List.mem_append_right _ (List.mem_append_right _ (List.mem_append_right _ (List.mem_append_right _ (h)))))))))))) hg
def gW_2_0 : List Cond := [Cond.code yX5_checkVariant cX5_checkVariant 2 none, (Jvm.Cond.stringRef "DaybreakFlags" (306 : Nat) "no such variant"), Cond.methodLink RX5 53 yX3_weightOf, Cond.instanceMethod yX3_weightOf, Cond.selects RX3 yX3_weightOf yX3_weightOf, Cond.code yX3_weightOf cX3_weightOf 2 (some .int), Cond.methodLink RX5 292 yX5_told, Cond.instanceMethod yX5_told, Cond.selects RX5 yX5_told yX5_told, Cond.code yX5_told cX5_told 5 (some .int), Cond.methodLink RX5 192 yX4_countOf, Cond.methodLink RX5 197 yX4_actedOf, Cond.instanceMethod yX4_actedOf, Cond.selects RX4 yX4_actedOf yX4_actedOf, Cond.code yX4_actedOf cX4_actedOf 2 (some .int), Cond.methodLink RX5 200 yX4_sumOf, Cond.methodLink RX5 203 yX4_squaresOf, Cond.instanceMethod yX4_squaresOf, Cond.selects RX4 yX4_squaresOf yX4_squaresOf, Cond.code yX4_squaresOf cX4_squaresOf 2 (some .long)]
def gW_2_1 : List Cond := [Cond.classLink RX5 26 "java/lang/IllegalArgumentException", (Jvm.Cond.instantiable "java/lang/IllegalArgumentException" (6 : Nat)), (Jvm.Cond.castable "java/lang/IllegalArgumentException" "java/lang/IllegalArgumentException"), (Jvm.Cond.selects "java/lang/IllegalArgumentException" ({ cls := "java/lang/Throwable", name := "fillInStackTrace", desc := "(I)Ljava/lang/Throwable;" } : Jvm.MethodName) ({ cls := "java/lang/Throwable", name := "fillInStackTrace", desc := "(I)Ljava/lang/Throwable;" } : Jvm.MethodName)), (Jvm.Cond.lays "java/lang/IllegalArgumentException" "java/lang/Throwable" "cause" "Ljava/lang/Throwable;"), (Jvm.Cond.lays "java/lang/IllegalArgumentException" "java/lang/Throwable" "stackTrace" "[Ljava/lang/StackTraceElement;"), (Jvm.Cond.lays "java/lang/IllegalArgumentException" "java/lang/Throwable" "suppressedExceptions" "Ljava/util/List;"), (Jvm.Cond.lays "java/lang/IllegalArgumentException" "java/lang/Throwable" "detailMessage" "Ljava/lang/String;"), (Jvm.Cond.lays "java/lang/IllegalArgumentException" "java/lang/Throwable" "backtrace" "Ljava/lang/Object;"), (Jvm.Cond.stringRef "DaybreakFlags" (207 : Nat) "what out of range"), Cond.methodLink RX5 30 ⟨"java/lang/IllegalArgumentException", "<init>", "(Ljava/lang/String;)V"⟩, (Jvm.Cond.instanceMethod ({ cls := "java/lang/IllegalArgumentException", name := "<init>", desc := "(Ljava/lang/String;)V" } : Jvm.MethodName)), (Jvm.Cond.code ({ cls := "java/lang/IllegalArgumentException", name := "<init>", desc := "(Ljava/lang/String;)V" } : Jvm.MethodName) prog_10_method_2_code (2 : Nat) (Option.none : Option Jvm.ClassFile.FieldType)), (Jvm.Cond.methodLink "java/lang/IllegalArgumentException" (7 : Nat) ({ cls := "java/lang/RuntimeException", name := "<init>", desc := "(Ljava/lang/String;)V" } : Jvm.MethodName)), (Jvm.Cond.lays "java/lang/IllegalArgumentException" "java/lang/Throwable" "depth" "I"), (Jvm.Cond.superclass "java/lang/IllegalArgumentException" "java/lang/RuntimeException"), Cond.methodLink RX5 296 yX5_reach, Cond.instanceMethod yX5_reach, Cond.selects RX5 yX5_reach yX5_reach, Cond.code yX5_reach cX5_reach 7 (some .int)]
def gW_2_2 : List Cond := [Cond.methodLink RX5 230 yX5_checkMany, Cond.static yX5_checkMany, Cond.code yX5_checkMany cX5_checkMany 1 none, (Jvm.Cond.stringRef "DaybreakFlags" (310 : Nat) "many out of range"), Cond.methodLink RX5 233 yX1_becomeCounted, Cond.instanceMethod yX1_becomeCounted, Cond.selects RX1 yX1_becomeCounted yX1_becomeCounted, Cond.code yX1_becomeCounted cX1_becomeCounted 2 none, Cond.methodLink RX1 27 yX1_become, Cond.instanceMethod yX1_become, Cond.selects RX1 yX1_become yX1_become, Cond.code yX1_become cX1_become 4 none, Cond.methodLink RX5 151 yX5_variantOf, (Jvm.Cond.privateMethod ({ cls := "DaybreakFlags", name := "variantOf", desc := "(LDaybreakFlags$Switch;)I" } : Jvm.MethodName)), Cond.instanceMethod yX5_variantOf, Cond.code yX5_variantOf cX5_variantOf 2 (some .int), Cond.methodLink RX5 155 yX5_reasonOf, (Jvm.Cond.privateMethod ({ cls := "DaybreakFlags", name := "reasonOf", desc := "(LDaybreakFlags$Switch;)I" } : Jvm.MethodName)), Cond.instanceMethod yX5_reasonOf, Cond.code yX5_reasonOf cX5_reasonOf 3 (some .int)]
def gW_2_3 : List Cond := [Cond.methodLink RX5 340 yX1_findsOn, Cond.instanceMethod yX1_findsOn, Cond.selects RX1 yX1_findsOn yX1_findsOn, Cond.code yX1_findsOn cX1_findsOn 2 (some .boolean), Cond.methodLink RX5 344 yX5_hasNeed, (Jvm.Cond.privateMethod ({ cls := "DaybreakFlags", name := "hasNeed", desc := "(LDaybreakFlags$Switch;)Z" } : Jvm.MethodName)), Cond.instanceMethod yX5_hasNeed, Cond.code yX5_hasNeed cX5_hasNeed 3 (some .boolean), Cond.methodLink RX5 168 yX3_armOf, Cond.instanceMethod yX3_armOf, Cond.selects RX3 yX3_armOf yX3_armOf, Cond.code yX3_armOf cX3_armOf 3 (some (.object "DaybreakFlags$Arm")), Cond.methodLink RX5 158 yX3_firstRuleFor, Cond.instanceMethod yX3_firstRuleFor, Cond.selects RX3 yX3_firstRuleFor yX3_firstRuleFor, Cond.code yX3_firstRuleFor cX3_firstRuleFor 5 (some .int), Cond.methodLink RX3 81 yX2_isMetBy, Cond.instanceMethod yX2_isMetBy, Cond.selects RX2 yX2_isMetBy yX2_isMetBy, Cond.code yX2_isMetBy cX2_isMetBy 4 (some .boolean)]
def gW_2_4 : List Cond := [Cond.methodLink RX5 329 yX3_ruleAt, Cond.instanceMethod yX3_ruleAt, Cond.selects RX3 yX3_ruleAt yX3_ruleAt, Cond.code yX3_ruleAt cX3_ruleAt 2 (some (.object "DaybreakFlags$Rule")), Cond.methodLink RX5 141 yX5_bucketOf, Cond.static yX5_bucketOf, Cond.code yX5_bucketOf cX5_bucketOf 4 (some .int), Cond.methodLink RX5 350 yX5_isInLayer, (Jvm.Cond.privateMethod ({ cls := "DaybreakFlags", name := "isInLayer", desc := "(LDaybreakFlags$Switch;)Z" } : Jvm.MethodName)), Cond.instanceMethod yX5_isInLayer, Cond.code yX5_isInLayer cX5_isInLayer 3 (some .boolean), Cond.methodLink RX5 353 yX1_findsFar, Cond.instanceMethod yX1_findsFar, Cond.selects RX1 yX1_findsFar yX1_findsFar, Cond.code yX1_findsFar cX1_findsFar 3 (some .int), Cond.methodLink RX1 43 yX3_farAt, Cond.methodLink RX5 161 yX5_variantBy, (Jvm.Cond.privateMethod ({ cls := "DaybreakFlags", name := "variantBy", desc := "(LDaybreakFlags$Switch;I)I" } : Jvm.MethodName)), Cond.instanceMethod yX5_variantBy, Cond.code yX5_variantBy cX5_variantBy 5 (some .int)]
def gW_2_5 : List Cond := [Cond.methodLink RX5 337 yX3_splitBy, Cond.instanceMethod yX3_splitBy, Cond.selects RX3 yX3_splitBy yX3_splitBy, Cond.code yX3_splitBy cX3_splitBy 4 (some .int), Cond.methodLink RX5 263 yX5_gets, Cond.instanceMethod yX5_gets, Cond.selects RX5 yX5_gets yX5_gets, Cond.code yX5_gets cX5_gets 6 (some .int), Cond.methodLink RX5 145 yX5_checkAsker, Cond.static yX5_checkAsker, Cond.code yX5_checkAsker cX5_checkAsker 3 none, (Jvm.Cond.stringRef "DaybreakFlags" (308 : Nat) "user or mark out of range"), Cond.methodLink RX5 148 yX1_become, Cond.methodLink RX5 267 yX5_why, Cond.instanceMethod yX5_why, Cond.selects RX5 yX5_why yX5_why, Cond.code yX5_why cX5_why 6 (some .int), Cond.methodLink RX5 270 yX5_arm, Cond.instanceMethod yX5_arm, Cond.selects RX5 yX5_arm yX5_arm]
def gW_2_6 : List Cond := [Cond.code yX5_arm cX5_arm 5 (some .int), (Jvm.Cond.stringRef "DaybreakFlags" (181 : Nat) "user out of range"), Cond.methodLink RL 124 yL_add, Cond.static yL_add, Cond.codeWith yL_add cL_add 6 (some .int) [(0, 12, 15, 13), (0, 12, 19, 15)], Cond.classLink RL 13 "java/lang/IllegalArgumentException", Cond.classLink RL 15 "java/lang/IllegalStateException", Cond.methodLink RL 7 yX5_add, Cond.instanceMethod yX5_add, Cond.selects RX5 yX5_add yX5_add, Cond.code yX5_add cX5_add 5 (some .int), (Jvm.Cond.stringRef "DaybreakFlags" (28 : Nat) "salt or variants out of range"), Cond.classLink RX5 37 "java/lang/IllegalStateException", (Jvm.Cond.instantiable "java/lang/IllegalStateException" (6 : Nat)), (Jvm.Cond.castable "java/lang/IllegalStateException" "java/lang/IllegalStateException"), (Jvm.Cond.selects "java/lang/IllegalStateException" ({ cls := "java/lang/Throwable", name := "fillInStackTrace", desc := "(I)Ljava/lang/Throwable;" } : Jvm.MethodName) ({ cls := "java/lang/Throwable", name := "fillInStackTrace", desc := "(I)Ljava/lang/Throwable;" } : Jvm.MethodName)), (Jvm.Cond.lays "java/lang/IllegalStateException" "java/lang/Throwable" "cause" "Ljava/lang/Throwable;"), (Jvm.Cond.lays "java/lang/IllegalStateException" "java/lang/Throwable" "stackTrace" "[Ljava/lang/StackTraceElement;"), (Jvm.Cond.lays "java/lang/IllegalStateException" "java/lang/Throwable" "suppressedExceptions" "Ljava/util/List;"), (Jvm.Cond.lays "java/lang/IllegalStateException" "java/lang/Throwable" "detailMessage" "Ljava/lang/String;")]
def gW_2_7 : List Cond := [(Jvm.Cond.lays "java/lang/IllegalStateException" "java/lang/Throwable" "backtrace" "Ljava/lang/Object;"), (Jvm.Cond.stringRef "DaybreakFlags" (39 : Nat) "no more switches"), Cond.methodLink RX5 41 ⟨"java/lang/IllegalStateException", "<init>", "(Ljava/lang/String;)V"⟩, (Jvm.Cond.instanceMethod ({ cls := "java/lang/IllegalStateException", name := "<init>", desc := "(Ljava/lang/String;)V" } : Jvm.MethodName)), (Jvm.Cond.code ({ cls := "java/lang/IllegalStateException", name := "<init>", desc := "(Ljava/lang/String;)V" } : Jvm.MethodName) prog_11_method_2_code (2 : Nat) (Option.none : Option Jvm.ClassFile.FieldType)), (Jvm.Cond.methodLink "java/lang/IllegalStateException" (7 : Nat) ({ cls := "java/lang/RuntimeException", name := "<init>", desc := "(Ljava/lang/String;)V" } : Jvm.MethodName)), (Jvm.Cond.lays "java/lang/IllegalStateException" "java/lang/Throwable" "depth" "I"), (Jvm.Cond.superclass "java/lang/IllegalStateException" "java/lang/RuntimeException"), Cond.instantiable RX3 18, Cond.methodLink RX5 42 yX3_init, Cond.instanceMethod yX3_init, Cond.code yX3_init cX3_init 5 none, Cond.methodLink RX3 3 ⟨"java/lang/Object", "<init>", "()V"⟩, Cond.classLink RX3 15 RX2, (Jvm.Cond.arrayOver (Jvm.ClassFile.FieldType.object "DaybreakFlags$Rule")), Cond.classLink RX3 21 RX4, Cond.instantiable RX4 5, (Jvm.Cond.methodLinkNest "DaybreakFlags$Switch" (23 : Nat) ({ cls := "DaybreakFlags$Tally", name := "<init>", desc := "()V" } : Jvm.MethodName) "DaybreakFlags"), Cond.instanceMethod yX4_init, Cond.code yX4_init cX4_init 1 none]
def gW_2_8 : List Cond := [Cond.methodLink RX4 3 ⟨"java/lang/Object", "<init>", "()V"⟩, Cond.fieldLink RX4 9 "DaybreakFlags$Tally" "counts" "[I", Cond.fieldLink RX4 15 "DaybreakFlags$Tally" "acted" "[I", Cond.fieldLink RX4 18 "DaybreakFlags$Tally" "sums" "[I", Cond.fieldLink RX4 21 "DaybreakFlags$Tally" "squares" "[J", Cond.fieldLink RX4 29 "DaybreakFlags$Tally" "total" "I", (Jvm.Cond.fieldLinkNest "DaybreakFlags$Switch" (121 : Nat) "DaybreakFlags$Tally" "total" "I" "DaybreakFlags"), (Jvm.Cond.laysFinal "DaybreakFlags$Tally" "DaybreakFlags$Tally" "counts" "[I"), (Jvm.Cond.soleField "DaybreakFlags$Tally" "counts"), (Jvm.Cond.laysFinal "DaybreakFlags$Tally" "DaybreakFlags$Tally" "acted" "[I"), (Jvm.Cond.soleField "DaybreakFlags$Tally" "acted"), (Jvm.Cond.laysFinal "DaybreakFlags$Tally" "DaybreakFlags$Tally" "sums" "[I"), (Jvm.Cond.soleField "DaybreakFlags$Tally" "sums"), (Jvm.Cond.laysFinal "DaybreakFlags$Tally" "DaybreakFlags$Tally" "squares" "[J"), (Jvm.Cond.soleField "DaybreakFlags$Tally" "squares"), (Jvm.Cond.lays "DaybreakFlags$Tally" "DaybreakFlags$Tally" "total" "I"), (Jvm.Cond.soleField "DaybreakFlags$Tally" "total"), (Jvm.Cond.superclass "DaybreakFlags$Tally" "java/lang/Object"), Cond.arrayClass .int, Cond.arrayClass .long]
def gW_2_9 : List Cond := [Cond.fieldLink RX3 38 "DaybreakFlags$Switch" "number" "I", (Jvm.Cond.fieldLinkNest "DaybreakFlags$Asker" (40 : Nat) "DaybreakFlags$Switch" "number" "I" "DaybreakFlags"), (Jvm.Cond.fieldLinkNest "DaybreakFlags" (314 : Nat) "DaybreakFlags$Switch" "number" "I" "DaybreakFlags"), Cond.fieldLink RX3 41 "DaybreakFlags$Switch" "salt" "I", (Jvm.Cond.fieldLinkNest "DaybreakFlags" (334 : Nat) "DaybreakFlags$Switch" "salt" "I" "DaybreakFlags"), Cond.fieldLink RX3 44 "DaybreakFlags$Switch" "variantCount" "I", (Jvm.Cond.fieldLinkNest "DaybreakFlags" (286 : Nat) "DaybreakFlags$Switch" "variantCount" "I" "DaybreakFlags"), Cond.fieldLink RX3 47 "DaybreakFlags$Switch" "isSticky" "Z", (Jvm.Cond.fieldLinkNest "DaybreakFlags" (347 : Nat) "DaybreakFlags$Switch" "isSticky" "Z" "DaybreakFlags"), Cond.fieldLink RX3 9 "DaybreakFlags$Switch" "weights" "[I", Cond.fieldLink RX3 17 "DaybreakFlags$Switch" "rules" "[LDaybreakFlags$Rule;", Cond.fieldLink RX3 24 "DaybreakFlags$Switch" "tally" "LDaybreakFlags$Tally;", (Jvm.Cond.fieldLinkNest "DaybreakFlags" (188 : Nat) "DaybreakFlags$Switch" "tally" "LDaybreakFlags$Tally;" "DaybreakFlags"), Cond.fieldLink RX3 85 "DaybreakFlags$Switch" "newest" "LDaybreakFlags$Arm;", (Jvm.Cond.fieldLinkNest "DaybreakFlags" (107 : Nat) "DaybreakFlags$Switch" "ruleCount" "I" "DaybreakFlags"), Cond.fieldLink RX3 74 "DaybreakFlags$Switch" "ruleCount" "I", (Jvm.Cond.fieldLinkNest "DaybreakFlags" (63 : Nat) "DaybreakFlags$Switch" "isOn" "Z" "DaybreakFlags"), (Jvm.Cond.fieldLinkNest "DaybreakFlags$Asker" (34 : Nat) "DaybreakFlags$Switch" "isOn" "Z" "DaybreakFlags"), Cond.fieldLink RX3 28 "DaybreakFlags$Switch" "startShare" "I", Cond.fieldLink RX3 51 "DaybreakFlags$Switch" "step" "I"]
def gW_2_10 : List Cond := [Cond.fieldLink RX3 54 "DaybreakFlags$Switch" "rampedAt" "I", Cond.fieldLink RX3 32 "DaybreakFlags$Switch" "layer" "I", (Jvm.Cond.fieldLinkNest "DaybreakFlags" (88 : Nat) "DaybreakFlags$Switch" "layer" "I" "DaybreakFlags"), (Jvm.Cond.fieldLinkNest "DaybreakFlags" (91 : Nat) "DaybreakFlags$Switch" "from" "I" "DaybreakFlags"), Cond.fieldLink RX3 59 "DaybreakFlags$Switch" "from" "I", (Jvm.Cond.fieldLinkNest "DaybreakFlags" (94 : Nat) "DaybreakFlags$Switch" "to" "I" "DaybreakFlags"), Cond.fieldLink RX3 68 "DaybreakFlags$Switch" "to" "I", Cond.fieldLink RX3 35 "DaybreakFlags$Switch" "needed" "I", (Jvm.Cond.fieldLinkNest "DaybreakFlags" (99 : Nat) "DaybreakFlags$Switch" "needed" "I" "DaybreakFlags"), (Jvm.Cond.fieldLinkNest "DaybreakFlags" (102 : Nat) "DaybreakFlags$Switch" "neededVariant" "I" "DaybreakFlags"), (Jvm.Cond.laysFinal "DaybreakFlags$Switch" "DaybreakFlags$Switch" "number" "I"), (Jvm.Cond.soleField "DaybreakFlags$Switch" "number"), (Jvm.Cond.laysFinal "DaybreakFlags$Switch" "DaybreakFlags$Switch" "salt" "I"), (Jvm.Cond.soleField "DaybreakFlags$Switch" "salt"), (Jvm.Cond.laysFinal "DaybreakFlags$Switch" "DaybreakFlags$Switch" "variantCount" "I"), (Jvm.Cond.soleField "DaybreakFlags$Switch" "variantCount"), (Jvm.Cond.laysFinal "DaybreakFlags$Switch" "DaybreakFlags$Switch" "isSticky" "Z"), (Jvm.Cond.soleField "DaybreakFlags$Switch" "isSticky"), (Jvm.Cond.laysFinal "DaybreakFlags$Switch" "DaybreakFlags$Switch" "weights" "[I"), (Jvm.Cond.soleField "DaybreakFlags$Switch" "weights")]
def gW_2_11 : List Cond := [(Jvm.Cond.laysFinal "DaybreakFlags$Switch" "DaybreakFlags$Switch" "rules" "[LDaybreakFlags$Rule;"), (Jvm.Cond.soleField "DaybreakFlags$Switch" "rules"), (Jvm.Cond.laysFinal "DaybreakFlags$Switch" "DaybreakFlags$Switch" "tally" "LDaybreakFlags$Tally;"), (Jvm.Cond.soleField "DaybreakFlags$Switch" "tally"), (Jvm.Cond.lays "DaybreakFlags$Switch" "DaybreakFlags$Switch" "newest" "LDaybreakFlags$Arm;"), (Jvm.Cond.soleField "DaybreakFlags$Switch" "newest"), (Jvm.Cond.lays "DaybreakFlags$Switch" "DaybreakFlags$Switch" "ruleCount" "I"), (Jvm.Cond.soleField "DaybreakFlags$Switch" "ruleCount"), (Jvm.Cond.lays "DaybreakFlags$Switch" "DaybreakFlags$Switch" "isOn" "Z"), (Jvm.Cond.soleField "DaybreakFlags$Switch" "isOn"), (Jvm.Cond.lays "DaybreakFlags$Switch" "DaybreakFlags$Switch" "startShare" "I"), (Jvm.Cond.soleField "DaybreakFlags$Switch" "startShare"), (Jvm.Cond.lays "DaybreakFlags$Switch" "DaybreakFlags$Switch" "step" "I"), (Jvm.Cond.soleField "DaybreakFlags$Switch" "step"), (Jvm.Cond.lays "DaybreakFlags$Switch" "DaybreakFlags$Switch" "rampedAt" "I"), (Jvm.Cond.soleField "DaybreakFlags$Switch" "rampedAt"), (Jvm.Cond.lays "DaybreakFlags$Switch" "DaybreakFlags$Switch" "layer" "I"), (Jvm.Cond.soleField "DaybreakFlags$Switch" "layer"), (Jvm.Cond.lays "DaybreakFlags$Switch" "DaybreakFlags$Switch" "from" "I"), (Jvm.Cond.soleField "DaybreakFlags$Switch" "from")]
set_option maxRecDepth 100000 in
theorem tb_2 : tables_1_2 = gW_2_0 ++ (gW_2_1 ++ (gW_2_2 ++ (gW_2_3 ++ (gW_2_4 ++ (gW_2_5 ++ (gW_2_6 ++ (gW_2_7 ++ (gW_2_8 ++ (gW_2_9 ++ (gW_2_10 ++ (gW_2_11))))))))))) := rfl
theorem tn_2 {w : Cond} (h : w ∈ tables_1_2) (hg : goodWord w = true) : w ∈ TT := List.mem_filter.mpr ⟨List.mem_append_right _ (show w ∈ tables_1 from List.mem_append_right _ (List.mem_append_left _ h)), hg⟩
theorem tg_2_0 {w : Cond} (h : w ∈ gW_2_0) (hg : goodWord w = true) : w ∈ TT := tn_2 (by rw [tb_2]; exact List.mem_append_left _ h) hg
theorem tg_2_1 {w : Cond} (h : w ∈ gW_2_1) (hg : goodWord w = true) : w ∈ TT := tn_2 (by rw [tb_2]; exact List.mem_append_right _ (List.mem_append_left _ h)) hg
theorem tg_2_2 {w : Cond} (h : w ∈ gW_2_2) (hg : goodWord w = true) : w ∈ TT := tn_2 (by rw [tb_2]; exact List.mem_append_right _ (List.mem_append_right _ (List.mem_append_left _ h))) hg
theorem tg_2_3 {w : Cond} (h : w ∈ gW_2_3) (hg : goodWord w = true) : w ∈ TT := tn_2 (by rw [tb_2]; exact List.mem_append_right _ (List.mem_append_right _ (List.mem_append_right _ (List.mem_append_left _ h)))) hg
theorem tg_2_4 {w : Cond} (h : w ∈ gW_2_4) (hg : goodWord w = true) : w ∈ TT := tn_2 (by rw [tb_2]; exact List.mem_append_right _ (List.mem_append_right _ (List.mem_append_right _ (List.mem_append_right _ (List.mem_append_left _ h))))) hg
theorem tg_2_5 {w : Cond} (h : w ∈ gW_2_5) (hg : goodWord w = true) : w ∈ TT := tn_2 (by rw [tb_2]; exact List.mem_append_right _ (List.mem_append_right _ (List.mem_append_right _ (List.mem_append_right _ (List.mem_append_right _ (List.mem_append_left _ h)))))) hg
theorem tg_2_6 {w : Cond} (h : w ∈ gW_2_6) (hg : goodWord w = true) : w ∈ TT := tn_2 (by rw [tb_2]; exact List.mem_append_right _ (List.mem_append_right _ (List.mem_append_right _ (List.mem_append_right _ (List.mem_append_right _ (List.mem_append_right _ (List.mem_append_left _ h))))))) hg
theorem tg_2_7 {w : Cond} (h : w ∈ gW_2_7) (hg : goodWord w = true) : w ∈ TT := tn_2 (by rw [tb_2]; exact List.mem_append_right _ (List.mem_append_right _ (List.mem_append_right _ (List.mem_append_right _ (List.mem_append_right _ (List.mem_append_right _ (List.mem_append_right _ (List.mem_append_left _ h)))))))) hg
theorem tg_2_8 {w : Cond} (h : w ∈ gW_2_8) (hg : goodWord w = true) : w ∈ TT := tn_2 (by rw [tb_2]; exact List.mem_append_right _ (List.mem_append_right _ (List.mem_append_right _ (List.mem_append_right _ (List.mem_append_right _ (List.mem_append_right _ (List.mem_append_right _ (List.mem_append_right _ (List.mem_append_left _ h))))))))) hg
theorem tg_2_9 {w : Cond} (h : w ∈ gW_2_9) (hg : goodWord w = true) : w ∈ TT := tn_2 (by rw [tb_2]; exact List.mem_append_right _ (List.mem_append_right _ (List.mem_append_right _ (List.mem_append_right _ (List.mem_append_right _ (List.mem_append_right _ (List.mem_append_right _ (List.mem_append_right _ (List.mem_append_right _ (List.mem_append_left _ h)))))))))) hg
theorem tg_2_10 {w : Cond} (h : w ∈ gW_2_10) (hg : goodWord w = true) : w ∈ TT := tn_2 (by rw [tb_2]; exact List.mem_append_right _ (List.mem_append_right _ (List.mem_append_right _ (List.mem_append_right _ (List.mem_append_right _ (List.mem_append_right _ (List.mem_append_right _ (List.mem_append_right _ (List.mem_append_right _ (List.mem_append_right _ (List.mem_append_left _ h))))))))))) hg
theorem tg_2_11 {w : Cond} (h : w ∈ gW_2_11) (hg : goodWord w = true) : w ∈ TT := tn_2 (by rw [tb_2]; exact List.mem_append_right _ (List.mem_append_right _ (List.mem_append_right _ (List.mem_append_right _ (List.mem_append_right _ (List.mem_append_right _ (List.mem_append_right _ (List.mem_append_right _ (List.mem_append_right _ (List.mem_append_right _ (List.mem_append_right _ (h)))))))))))) hg
def gW_3_0 : List Cond := [(Jvm.Cond.lays "DaybreakFlags$Switch" "DaybreakFlags$Switch" "to" "I"), (Jvm.Cond.soleField "DaybreakFlags$Switch" "to"), (Jvm.Cond.lays "DaybreakFlags$Switch" "DaybreakFlags$Switch" "needed" "I"), (Jvm.Cond.soleField "DaybreakFlags$Switch" "needed"), (Jvm.Cond.lays "DaybreakFlags$Switch" "DaybreakFlags$Switch" "neededVariant" "I"), (Jvm.Cond.soleField "DaybreakFlags$Switch" "neededVariant"), (Jvm.Cond.superclass "DaybreakFlags$Switch" "java/lang/Object"), Cond.methodLink RL 130 yL_weigh, Cond.static yL_weigh, Cond.codeWith yL_weigh cL_weigh 6 (some .int) [(0, 12, 15, 21), (0, 12, 19, 13)], Cond.classLink RL 21 "java/lang/IndexOutOfBoundsException", Cond.methodLink RL 17 yX5_weigh, Cond.instanceMethod yX5_weigh, Cond.selects RX5 yX5_weigh yX5_weigh, Cond.code yX5_weigh cX5_weigh 6 (some .int), (Jvm.Cond.stringRef "DaybreakFlags" (57 : Nat) "no weight that can be moved"), Cond.methodLink RX5 59 yX3_setWeight, Cond.instanceMethod yX3_setWeight, Cond.selects RX3 yX3_setWeight yX3_setWeight, Cond.code yX3_setWeight cX3_setWeight 3 none]
def gW_3_1 : List Cond := [Cond.methodLink RL 134 yL_turn, Cond.static yL_turn, Cond.codeWith yL_turn cL_turn 5 (some .int) [(0, 17, 20, 21)], Cond.methodLink RL 23 yX5_turn, Cond.instanceMethod yX5_turn, Cond.selects RX5 yX5_turn yX5_turn, Cond.code yX5_turn cX5_turn 5 (some .boolean), Cond.methodLink RL 138 yL_ramp, Cond.static yL_ramp, Cond.codeWith yL_ramp cL_ramp 6 (some .int) [(0, 12, 15, 21), (0, 12, 19, 13)], Cond.methodLink RL 27 yX5_ramp, Cond.instanceMethod yX5_ramp, Cond.selects RX5 yX5_ramp yX5_ramp, Cond.code yX5_ramp cX5_ramp 6 (some .int), (Jvm.Cond.stringRef "DaybreakFlags" (67 : Nat) "share or step out of range"), Cond.methodLink RX5 75 yX3_setRamp, Cond.instanceMethod yX3_setRamp, Cond.selects RX3 yX3_setRamp yX3_setRamp, Cond.code yX3_setRamp cX3_setRamp 4 none, Cond.methodLink RL 141 yL_place]
def gW_3_2 : List Cond := [Cond.static yL_place, Cond.codeWith yL_place cL_place 7 (some .int) [(0, 14, 17, 21), (0, 14, 21, 13), (0, 14, 25, 15)], Cond.methodLink RL 30 yX5_place, Cond.instanceMethod yX5_place, Cond.selects RX5 yX5_place yX5_place, Cond.code yX5_place cX5_place 7 (some .int), Cond.methodLink RX5 79 yX5_checkRange, Cond.static yX5_checkRange, Cond.code yX5_checkRange cX5_checkRange 3 none, (Jvm.Cond.stringRef "DaybreakFlags" (312 : Nat) "layer or range out of range"), Cond.methodLink RX5 82 yX5_isTaken, (Jvm.Cond.privateMethod ({ cls := "DaybreakFlags", name := "isTaken", desc := "(IIII)Z" } : Jvm.MethodName)), Cond.instanceMethod yX5_isTaken, Cond.code yX5_isTaken cX5_isTaken 9 (some .boolean), Cond.methodLink RX5 317 yX3_sharesRange, Cond.instanceMethod yX3_sharesRange, Cond.selects RX3 yX3_sharesRange yX3_sharesRange, Cond.code yX3_sharesRange cX3_sharesRange 3 (some .boolean), Cond.methodLink RX3 62 yJ9_max_7cf53, Cond.static yJ9_max_7cf53]
def gW_3_3 : List Cond := [Cond.code yJ9_max_7cf53 cJ9_max_7cf53 2 (some .int), Cond.methodLink RX3 71 yJ9_min_7cf53, Cond.static yJ9_min_7cf53, Cond.code yJ9_min_7cf53 cJ9_min_7cf53 2 (some .int), (Jvm.Cond.stringRef "DaybreakFlags" (86 : Nat) "another switch has some of the range"), Cond.methodLink RL 145 yL_need, Cond.static yL_need, Cond.codeWith yL_need cL_need 6 (some .int) [(0, 12, 15, 21), (0, 12, 19, 13)], Cond.methodLink RL 34 yX5_need, Cond.instanceMethod yX5_need, Cond.selects RX5 yX5_need yX5_need, Cond.code yX5_need cX5_need 6 (some .int), (Jvm.Cond.stringRef "DaybreakFlags" (97 : Nat) "only a switch with a smaller number can be needed"), Cond.methodLink RL 148 yL_rule, Cond.static yL_rule, Cond.codeWith yL_rule cL_rule 8 (some .int) [(0, 16, 19, 21), (0, 16, 23, 13), (0, 16, 27, 15)], Cond.methodLink RL 37 yX5_rule, Cond.instanceMethod yX5_rule, Cond.selects RX5 yX5_rule yX5_rule, Cond.code yX5_rule cX5_rule 7 (some .int)]
def gW_3_4 : List Cond := [(Jvm.Cond.stringRef "DaybreakFlags" (105 : Nat) "mark, how or n out of range"), (Jvm.Cond.stringRef "DaybreakFlags" (110 : Nat) "no more rules"), Cond.classLink RX5 112 RX2, Cond.instantiable RX2 4, Cond.methodLink RX5 114 yX2_init, Cond.instanceMethod yX2_init, Cond.code yX2_init cX2_init 5 none, Cond.methodLink RX2 3 ⟨"java/lang/Object", "<init>", "()V"⟩, Cond.fieldLink RX2 9 "DaybreakFlags$Rule" "mark" "I", Cond.fieldLink RX2 15 "DaybreakFlags$Rule" "how" "I", Cond.fieldLink RX2 18 "DaybreakFlags$Rule" "n" "I", Cond.fieldLink RX2 21 "DaybreakFlags$Rule" "variant" "I", (Jvm.Cond.fieldLinkNest "DaybreakFlags" (333 : Nat) "DaybreakFlags$Rule" "variant" "I" "DaybreakFlags"), (Jvm.Cond.laysFinal "DaybreakFlags$Rule" "DaybreakFlags$Rule" "mark" "I"), (Jvm.Cond.soleField "DaybreakFlags$Rule" "mark"), (Jvm.Cond.laysFinal "DaybreakFlags$Rule" "DaybreakFlags$Rule" "how" "I"), (Jvm.Cond.soleField "DaybreakFlags$Rule" "how"), (Jvm.Cond.laysFinal "DaybreakFlags$Rule" "DaybreakFlags$Rule" "n" "I"), (Jvm.Cond.soleField "DaybreakFlags$Rule" "n"), (Jvm.Cond.laysFinal "DaybreakFlags$Rule" "DaybreakFlags$Rule" "variant" "I")]
def gW_3_5 : List Cond := [(Jvm.Cond.soleField "DaybreakFlags$Rule" "variant"), (Jvm.Cond.superclass "DaybreakFlags$Rule" "java/lang/Object"), Cond.methodLink RX5 117 yX3_addRule, Cond.instanceMethod yX3_addRule, Cond.selects RX3 yX3_addRule yX3_addRule, Cond.code yX3_addRule cX3_addRule 2 none, Cond.methodLink RL 152 yL_unrule, Cond.static yL_unrule, Cond.codeWith yL_unrule cL_unrule 5 (some .int) [(0, 10, 13, 21)], Cond.methodLink RL 41 yX5_unrule, Cond.instanceMethod yX5_unrule, Cond.selects RX5 yX5_unrule yX5_unrule, Cond.code yX5_unrule cX5_unrule 4 (some .int), (Jvm.Cond.stringRef "DaybreakFlags" (123 : Nat) "no such rule"), Cond.methodLink RX5 126 yX3_removeRule, Cond.instanceMethod yX3_removeRule, Cond.selects RX3 yX3_removeRule yX3_removeRule, Cond.code yX3_removeRule cX3_removeRule 3 none, Cond.methodLink RX3 77 yX3_ruleAt, Cond.methodLink RL 156 yL_hold]
def gW_3_6 : List Cond := [Cond.static yL_hold, Cond.codeWith yL_hold cL_hold 4 (some .int) [(0, 9, 12, 13)], Cond.methodLink RL 45 yX5_hold, Cond.instanceMethod yX5_hold, Cond.selects RX5 yX5_hold yX5_hold, Cond.code yX5_hold cX5_hold 3 (some .int), (Jvm.Cond.stringRef "DaybreakFlags" (130 : Nat) "held out of range"), Cond.methodLink RL 160 yL_goOn, Cond.static yL_goOn, Cond.codeWith yL_goOn cL_goOn 4 (some .int) [(0, 9, 12, 13)], Cond.methodLink RL 49 yX5_goOn, Cond.instanceMethod yX5_goOn, Cond.selects RX5 yX5_goOn yX5_goOn, Cond.code yX5_goOn cX5_goOn 2 (some .int), (Jvm.Cond.stringRef "DaybreakFlags" (135 : Nat) "ticks out of range"), Cond.methodLink RL 168 yL_weight, Cond.static yL_weight, Cond.codeWith yL_weight cL_weight 5 (some .int) [(0, 10, 13, 21)], Cond.methodLink RL 52 yX5_weight, Cond.methodLink RL 171 yL_share]
def gW_3_7 : List Cond := [Cond.static yL_share, Cond.codeWith yL_share cL_share 4 (some .int) [(0, 9, 12, 21)], Cond.methodLink RL 55 yX5_share, Cond.methodLink RL 174 yL_left, Cond.static yL_left, Cond.codeWith yL_left cL_left 4 (some .int) [(0, 9, 12, 21)], Cond.methodLink RL 58 yX5_left, Cond.methodLink RL 177 yL_bucket, Cond.static yL_bucket, Cond.codeWith yL_bucket cL_bucket 5 (some .int) [(0, 10, 13, 13)], Cond.methodLink RL 61 yX5_bucket, Cond.instanceMethod yX5_bucket, Cond.selects RX5 yX5_bucket yX5_bucket, Cond.code yX5_bucket cX5_bucket 3 (some .int), (Jvm.Cond.stringRef "DaybreakFlags" (139 : Nat) "salt or user out of range"), Cond.methodLink RL 180 yL_gets, Cond.static yL_gets, Cond.codeWith yL_gets cL_gets 7 (some .int) [(0, 14, 17, 21), (0, 14, 21, 13)], Cond.methodLink RL 64 yX5_gets, Cond.methodLink RL 183 yL_why]
def gW_3_8 : List Cond := [Cond.static yL_why, Cond.codeWith yL_why cL_why 7 (some .int) [(0, 14, 17, 21), (0, 14, 21, 13)], Cond.methodLink RL 67 yX5_why, Cond.methodLink RL 189 yL_holds, Cond.static yL_holds, Cond.codeWith yL_holds cL_holds 7 (some .int) [(0, 14, 17, 21), (0, 14, 21, 13)], Cond.methodLink RL 70 yX5_holds, Cond.instanceMethod yX5_holds, Cond.selects RX5 yX5_holds yX5_holds, Cond.code yX5_holds cX5_holds 6 (some .int), Cond.methodLink RL 192 yL_ask, Cond.static yL_ask, Cond.codeWith yL_ask cL_ask 7 (some .int) [(0, 14, 17, 21), (0, 14, 21, 13)], Cond.methodLink RL 73 yX5_ask, Cond.instanceMethod yX5_ask, Cond.selects RX5 yX5_ask yX5_ask, Cond.code yX5_ask cX5_ask 8 (some .int), Cond.methodLink RX5 172 yX3_addArm, Cond.instanceMethod yX3_addArm, Cond.selects RX3 yX3_addArm yX3_addArm]
def gW_3_9 : List Cond := [Cond.code yX3_addArm cX3_addArm 3 none, Cond.classLink RX3 90 RX0, Cond.instantiable RX0 5, Cond.methodLink RX3 97 yX0_init, Cond.instanceMethod yX0_init, Cond.code yX0_init cX0_init 4 none, Cond.methodLink RX0 1 ⟨"java/lang/Object", "<init>", "()V"⟩, Cond.fieldLink RX0 7 "DaybreakFlags$Arm" "user" "I", (Jvm.Cond.fieldLinkNest "DaybreakFlags$Switch" (89 : Nat) "DaybreakFlags$Arm" "user" "I" "DaybreakFlags"), Cond.fieldLink RX0 13 "DaybreakFlags$Arm" "variant" "I", (Jvm.Cond.fieldLinkNest "DaybreakFlags$Switch" (108 : Nat) "DaybreakFlags$Arm" "variant" "I" "DaybreakFlags"), (Jvm.Cond.fieldLinkNest "DaybreakFlags" (183 : Nat) "DaybreakFlags$Arm" "variant" "I" "DaybreakFlags"), Cond.fieldLink RX0 16 "DaybreakFlags$Arm" "older" "LDaybreakFlags$Arm;", (Jvm.Cond.fieldLinkNest "DaybreakFlags$Switch" (94 : Nat) "DaybreakFlags$Arm" "older" "LDaybreakFlags$Arm;" "DaybreakFlags"), (Jvm.Cond.fieldLinkNest "DaybreakFlags$Switch" (111 : Nat) "DaybreakFlags$Arm" "sum" "I" "DaybreakFlags"), (Jvm.Cond.fieldLinkNest "DaybreakFlags$Switch" (114 : Nat) "DaybreakFlags$Arm" "hasActed" "Z" "DaybreakFlags"), (Jvm.Cond.laysFinal "DaybreakFlags$Arm" "DaybreakFlags$Arm" "user" "I"), (Jvm.Cond.soleField "DaybreakFlags$Arm" "user"), (Jvm.Cond.laysFinal "DaybreakFlags$Arm" "DaybreakFlags$Arm" "variant" "I"), (Jvm.Cond.soleField "DaybreakFlags$Arm" "variant")]
def gW_3_10 : List Cond := [(Jvm.Cond.laysFinal "DaybreakFlags$Arm" "DaybreakFlags$Arm" "older" "LDaybreakFlags$Arm;"), (Jvm.Cond.soleField "DaybreakFlags$Arm" "older"), (Jvm.Cond.lays "DaybreakFlags$Arm" "DaybreakFlags$Arm" "sum" "I"), (Jvm.Cond.soleField "DaybreakFlags$Arm" "sum"), (Jvm.Cond.lays "DaybreakFlags$Arm" "DaybreakFlags$Arm" "hasActed" "Z"), (Jvm.Cond.soleField "DaybreakFlags$Arm" "hasActed"), (Jvm.Cond.superclass "DaybreakFlags$Arm" "java/lang/Object"), Cond.methodLink RX3 100 yX4_countArm, Cond.instanceMethod yX4_countArm, Cond.selects RX4 yX4_countArm yX4_countArm, Cond.code yX4_countArm cX4_countArm 2 none, Cond.methodLink RL 195 yL_act, Cond.static yL_act, Cond.codeWith yL_act cL_act 5 (some .int) [(0, 10, 13, 13)], Cond.methodLink RL 76 yX5_act, Cond.instanceMethod yX5_act, Cond.selects RX5 yX5_act yX5_act, Cond.code yX5_act cX5_act 8 (some .int), (Jvm.Cond.stringRef "DaybreakFlags" (175 : Nat) "user or worth out of range"), Cond.methodLink RX5 177 yX3_addWorth]
def gW_3_11 : List Cond := [Cond.instanceMethod yX3_addWorth, Cond.selects RX3 yX3_addWorth yX3_addWorth, Cond.code yX3_addWorth cX3_addWorth 4 (some .boolean), Cond.methodLink RX3 104 yX3_armOf, Cond.methodLink RX3 117 yX4_countAct, Cond.instanceMethod yX4_countAct, Cond.selects RX4 yX4_countAct yX4_countAct, Cond.code yX4_countAct cX4_countAct 8 none, Cond.methodLink RL 198 yL_arm, Cond.static yL_arm, Cond.codeWith yL_arm cL_arm 5 (some .int) [(0, 10, 13, 21), (0, 10, 17, 13)], Cond.methodLink RL 79 yX5_arm, Cond.methodLink RL 205 yL_told, Cond.static yL_told, Cond.codeWith yL_told cL_told 6 (some .int) [(0, 12, 15, 21), (0, 12, 19, 13)], Cond.methodLink RL 82 yX5_told, Cond.methodLink RL 208 yL_mean, Cond.static yL_mean, Cond.codeWith yL_mean cL_mean 5 (some .int) [(0, 9, 12, 21)], Cond.methodLink RL 85 yX5_mean]
set_option maxRecDepth 100000 in
theorem tb_3 : tables_1_3 = gW_3_0 ++ (gW_3_1 ++ (gW_3_2 ++ (gW_3_3 ++ (gW_3_4 ++ (gW_3_5 ++ (gW_3_6 ++ (gW_3_7 ++ (gW_3_8 ++ (gW_3_9 ++ (gW_3_10 ++ (gW_3_11))))))))))) := rfl
theorem tn_3 {w : Cond} (h : w ∈ tables_1_3) (hg : goodWord w = true) : w ∈ TT := List.mem_filter.mpr ⟨List.mem_append_right _ (show w ∈ tables_1 from List.mem_append_right _ (List.mem_append_right _ (List.mem_append_left _ h))), hg⟩
theorem tg_3_0 {w : Cond} (h : w ∈ gW_3_0) (hg : goodWord w = true) : w ∈ TT := tn_3 (by rw [tb_3]; exact List.mem_append_left _ h) hg
theorem tg_3_1 {w : Cond} (h : w ∈ gW_3_1) (hg : goodWord w = true) : w ∈ TT := tn_3 (by rw [tb_3]; exact List.mem_append_right _ (List.mem_append_left _ h)) hg
theorem tg_3_2 {w : Cond} (h : w ∈ gW_3_2) (hg : goodWord w = true) : w ∈ TT := tn_3 (by rw [tb_3]; exact List.mem_append_right _ (List.mem_append_right _ (List.mem_append_left _ h))) hg
theorem tg_3_3 {w : Cond} (h : w ∈ gW_3_3) (hg : goodWord w = true) : w ∈ TT := tn_3 (by rw [tb_3]; exact List.mem_append_right _ (List.mem_append_right _ (List.mem_append_right _ (List.mem_append_left _ h)))) hg
theorem tg_3_4 {w : Cond} (h : w ∈ gW_3_4) (hg : goodWord w = true) : w ∈ TT := tn_3 (by rw [tb_3]; exact List.mem_append_right _ (List.mem_append_right _ (List.mem_append_right _ (List.mem_append_right _ (List.mem_append_left _ h))))) hg
theorem tg_3_5 {w : Cond} (h : w ∈ gW_3_5) (hg : goodWord w = true) : w ∈ TT := tn_3 (by rw [tb_3]; exact List.mem_append_right _ (List.mem_append_right _ (List.mem_append_right _ (List.mem_append_right _ (List.mem_append_right _ (List.mem_append_left _ h)))))) hg
theorem tg_3_6 {w : Cond} (h : w ∈ gW_3_6) (hg : goodWord w = true) : w ∈ TT := tn_3 (by rw [tb_3]; exact List.mem_append_right _ (List.mem_append_right _ (List.mem_append_right _ (List.mem_append_right _ (List.mem_append_right _ (List.mem_append_right _ (List.mem_append_left _ h))))))) hg
theorem tg_3_7 {w : Cond} (h : w ∈ gW_3_7) (hg : goodWord w = true) : w ∈ TT := tn_3 (by rw [tb_3]; exact List.mem_append_right _ (List.mem_append_right _ (List.mem_append_right _ (List.mem_append_right _ (List.mem_append_right _ (List.mem_append_right _ (List.mem_append_right _ (List.mem_append_left _ h)))))))) hg
theorem tg_3_8 {w : Cond} (h : w ∈ gW_3_8) (hg : goodWord w = true) : w ∈ TT := tn_3 (by rw [tb_3]; exact List.mem_append_right _ (List.mem_append_right _ (List.mem_append_right _ (List.mem_append_right _ (List.mem_append_right _ (List.mem_append_right _ (List.mem_append_right _ (List.mem_append_right _ (List.mem_append_left _ h))))))))) hg
theorem tg_3_9 {w : Cond} (h : w ∈ gW_3_9) (hg : goodWord w = true) : w ∈ TT := tn_3 (by rw [tb_3]; exact List.mem_append_right _ (List.mem_append_right _ (List.mem_append_right _ (List.mem_append_right _ (List.mem_append_right _ (List.mem_append_right _ (List.mem_append_right _ (List.mem_append_right _ (List.mem_append_right _ (List.mem_append_left _ h)))))))))) hg
theorem tg_3_10 {w : Cond} (h : w ∈ gW_3_10) (hg : goodWord w = true) : w ∈ TT := tn_3 (by rw [tb_3]; exact List.mem_append_right _ (List.mem_append_right _ (List.mem_append_right _ (List.mem_append_right _ (List.mem_append_right _ (List.mem_append_right _ (List.mem_append_right _ (List.mem_append_right _ (List.mem_append_right _ (List.mem_append_right _ (List.mem_append_left _ h))))))))))) hg
theorem tg_3_11 {w : Cond} (h : w ∈ gW_3_11) (hg : goodWord w = true) : w ∈ TT := tn_3 (by rw [tb_3]; exact List.mem_append_right _ (List.mem_append_right _ (List.mem_append_right _ (List.mem_append_right _ (List.mem_append_right _ (List.mem_append_right _ (List.mem_append_right _ (List.mem_append_right _ (List.mem_append_right _ (List.mem_append_right _ (List.mem_append_right _ (h)))))))))))) hg
def gW_4_0 : List Cond := [Cond.instanceMethod yX5_mean, Cond.selects RX5 yX5_mean yX5_mean, Cond.code yX5_mean cX5_mean 4 (some .double), Cond.methodLink RX5 209 yX4_meanOf, Cond.methodLink RL 212 yL_lift, Cond.static yL_lift, Cond.codeWith yL_lift cL_lift 5 (some .int) [(0, 9, 12, 21)], Cond.methodLink RL 89 yX5_lift, Cond.instanceMethod yX5_lift, Cond.selects RX5 yX5_lift yX5_lift, Cond.code yX5_lift cX5_lift 4 (some .double), Cond.methodLink RX5 213 yX4_liftOf, Cond.instanceMethod yX4_liftOf, Cond.selects RX4 yX4_liftOf yX4_liftOf, Cond.code yX4_liftOf cX4_liftOf 2 (some .double), Cond.methodLink RL 215 yL_sure, Cond.static yL_sure, Cond.codeWith yL_sure cL_sure 5 (some .int) [(0, 9, 12, 21)], Cond.methodLink RL 92 yX5_sure, Cond.instanceMethod yX5_sure]
def gW_4_1 : List Cond := [Cond.selects RX5 yX5_sure yX5_sure, Cond.code yX5_sure cX5_sure 4 (some .double), Cond.methodLink RX5 216 yX4_surenessOf, Cond.instanceMethod yX4_surenessOf, Cond.selects RX4 yX4_surenessOf yX4_surenessOf, Cond.code yX4_surenessOf cX4_surenessOf 6 (some .double), Cond.methodLink RX4 44 yX4_spreadByCount, (Jvm.Cond.privateMethod ({ cls := "DaybreakFlags$Tally", name := "spreadByCount", desc := "(I)D" } : Jvm.MethodName)), Cond.instanceMethod yX4_spreadByCount, Cond.code yX4_spreadByCount cX4_spreadByCount 7 (some .double), Cond.methodLink RX4 50 yX4_squaresOf, Cond.methodLink RX4 47 yX4_liftOf, Cond.methodLink RL 218 yL_bad, Cond.static yL_bad, Cond.codeWith yL_bad cL_bad 4 (some .int) [(0, 9, 12, 21)], Cond.methodLink RL 95 yX5_bad, Cond.methodLink RL 221 yL_isTrusted, Cond.static yL_isTrusted, Cond.codeWith yL_isTrusted cL_isTrusted 4 (some .int) [(0, 16, 19, 21)], Cond.methodLink RL 98 yX5_isTrusted]
def gW_4_2 : List Cond := [Cond.methodLink RL 224 yL_best, Cond.static yL_best, Cond.codeWith yL_best cL_best 4 (some .int) [(0, 9, 12, 21)], Cond.methodLink RL 102 yX5_best, Cond.methodLink RL 227 yL_reach, Cond.static yL_reach, Cond.codeWith yL_reach cL_reach 6 (some .int) [(0, 12, 15, 21), (0, 12, 19, 13)], Cond.methodLink RL 105 yX5_reach, Cond.methodLink RL 230 yL_both, Cond.static yL_both, Cond.codeWith yL_both cL_both 6 (some .int) [(0, 12, 15, 21), (0, 12, 19, 13)], Cond.methodLink RL 108 yX5_both, Cond.instanceMethod yX5_both, Cond.selects RX5 yX5_both yX5_both, Cond.code yX5_both cX5_both 8 (some .int), Cond.methodLink RL 233 yL_wouldChange, Cond.static yL_wouldChange, Cond.codeWith yL_wouldChange cL_wouldChange 6 (some .int) [(0, 12, 15, 21), (0, 12, 19, 13)], Cond.methodLink RL 111 yX5_wouldChange, Cond.instanceMethod yX5_wouldChange]
def gW_4_3 : List Cond := [Cond.selects RX5 yX5_wouldChange yX5_wouldChange, Cond.code yX5_wouldChange cX5_wouldChange 8 (some .int), (Jvm.Cond.stringRef "DaybreakFlags" (236 : Nat) "share out of range"), Cond.methodLink RX5 238 yX1_supposeRamp, Cond.instanceMethod yX1_supposeRamp, Cond.selects RX1 yX1_supposeRamp yX1_supposeRamp, Cond.code yX1_supposeRamp cX1_supposeRamp 3 none, Cond.methodLink RL 236 yL_wouldTurn, Cond.static yL_wouldTurn, Cond.codeWith yL_wouldTurn cL_wouldTurn 5 (some .int) [(0, 10, 13, 21), (0, 10, 17, 13)], Cond.methodLink RL 114 yX5_wouldTurn, Cond.instanceMethod yX5_wouldTurn, Cond.selects RX5 yX5_wouldTurn yX5_wouldTurn, Cond.code yX5_wouldTurn cX5_wouldTurn 5 (some .int), Cond.methodLink RX5 241 yX5_changesByTurning, (Jvm.Cond.privateMethod ({ cls := "DaybreakFlags", name := "changesByTurning", desc := "(II)Z" } : Jvm.MethodName)), Cond.instanceMethod yX5_changesByTurning, Cond.code yX5_changesByTurning cX5_changesByTurning 6 (some .boolean), Cond.methodLink RX5 356 yX1_supposeTurned, Cond.instanceMethod yX1_supposeTurned]
def gW_4_4 : List Cond := [Cond.selects RX1 yX1_supposeTurned yX1_supposeTurned, Cond.code yX1_supposeTurned cX1_supposeTurned 2 none, Cond.methodLink RL 239 yL_shareIn, Cond.static yL_shareIn, Cond.codeWith yL_shareIn cL_shareIn 5 (some .int) [(0, 10, 13, 21), (0, 10, 17, 13)], Cond.methodLink RL 117 yX5_shareIn, Cond.instanceMethod yX5_shareIn, Cond.selects RX5 yX5_shareIn yX5_shareIn, Cond.code yX5_shareIn cX5_shareIn 4 (some .int), Cond.classLink RL 121 RX6, Cond.instantiable RX6 29, Cond.methodLink RL 123 yX6_init, Cond.instanceMethod yX6_init, Cond.code yX6_init cX6_init 1 none, Cond.methodLink RX6 1 ⟨"java/lang/Object", "<init>", "()V"⟩, Cond.fieldLink RX6 80 "DaybreakFlagsModel" "thrown" "I", Cond.fieldLink RX6 99 "DaybreakFlagsModel" "clock" "I", Cond.fieldLink RX6 136 "DaybreakFlagsModel" "holdout" "I", Cond.fieldLink RX6 84 "DaybreakFlagsModel" "switches" "I", Cond.fieldLink RX6 9 "DaybreakFlagsModel" "salt" "[I"]
def gW_4_5 : List Cond := [Cond.fieldLink RX6 13 "DaybreakFlagsModel" "variants" "[I", Cond.fieldLink RX6 16 "DaybreakFlagsModel" "weight" "[I", Cond.fieldLink RX6 19 "DaybreakFlagsModel" "share" "[I", Cond.fieldLink RX6 22 "DaybreakFlagsModel" "step" "[I", Cond.fieldLink RX6 25 "DaybreakFlagsModel" "since" "[I", Cond.fieldLink RX6 28 "DaybreakFlagsModel" "isSticky" "[Z", Cond.fieldLink RX6 32 "DaybreakFlagsModel" "isOn" "[Z", Cond.fieldLink RX6 35 "DaybreakFlagsModel" "layer" "[I", Cond.fieldLink RX6 38 "DaybreakFlagsModel" "from" "[I", Cond.fieldLink RX6 41 "DaybreakFlagsModel" "to" "[I", Cond.fieldLink RX6 44 "DaybreakFlagsModel" "needs" "[I", Cond.fieldLink RX6 47 "DaybreakFlagsModel" "needed" "[I", Cond.fieldLink RX6 50 "DaybreakFlagsModel" "rules" "[I", Cond.fieldLink RX6 53 "DaybreakFlagsModel" "mark" "[I", Cond.fieldLink RX6 56 "DaybreakFlagsModel" "how" "[I", Cond.fieldLink RX6 59 "DaybreakFlagsModel" "limit" "[I", Cond.fieldLink RX6 62 "DaybreakFlagsModel" "comes" "[I", Cond.fieldLink RX6 151 "DaybreakFlagsModel" "arms" "I", Cond.fieldLink RX6 65 "DaybreakFlagsModel" "armOf" "[I", Cond.fieldLink RX6 68 "DaybreakFlagsModel" "armUser" "[I"]
def gW_4_6 : List Cond := [Cond.fieldLink RX6 71 "DaybreakFlagsModel" "armVariant" "[I", Cond.fieldLink RX6 74 "DaybreakFlagsModel" "armSum" "[I", Cond.fieldLink RX6 77 "DaybreakFlagsModel" "hasActed" "[Z", Cond.fieldLink RX6 165 "DaybreakFlagsModel" "reason" "I", (Jvm.Cond.lays "DaybreakFlagsModel" "DaybreakFlagsModel" "thrown" "I"), (Jvm.Cond.soleField "DaybreakFlagsModel" "thrown"), (Jvm.Cond.lays "DaybreakFlagsModel" "DaybreakFlagsModel" "clock" "I"), (Jvm.Cond.soleField "DaybreakFlagsModel" "clock"), (Jvm.Cond.lays "DaybreakFlagsModel" "DaybreakFlagsModel" "holdout" "I"), (Jvm.Cond.soleField "DaybreakFlagsModel" "holdout"), (Jvm.Cond.lays "DaybreakFlagsModel" "DaybreakFlagsModel" "switches" "I"), (Jvm.Cond.soleField "DaybreakFlagsModel" "switches"), (Jvm.Cond.laysFinal "DaybreakFlagsModel" "DaybreakFlagsModel" "salt" "[I"), (Jvm.Cond.soleField "DaybreakFlagsModel" "salt"), (Jvm.Cond.laysFinal "DaybreakFlagsModel" "DaybreakFlagsModel" "variants" "[I"), (Jvm.Cond.soleField "DaybreakFlagsModel" "variants"), (Jvm.Cond.laysFinal "DaybreakFlagsModel" "DaybreakFlagsModel" "weight" "[I"), (Jvm.Cond.soleField "DaybreakFlagsModel" "weight"), (Jvm.Cond.laysFinal "DaybreakFlagsModel" "DaybreakFlagsModel" "share" "[I"), (Jvm.Cond.soleField "DaybreakFlagsModel" "share")]
def gW_4_7 : List Cond := [(Jvm.Cond.laysFinal "DaybreakFlagsModel" "DaybreakFlagsModel" "step" "[I"), (Jvm.Cond.soleField "DaybreakFlagsModel" "step"), (Jvm.Cond.laysFinal "DaybreakFlagsModel" "DaybreakFlagsModel" "since" "[I"), (Jvm.Cond.soleField "DaybreakFlagsModel" "since"), (Jvm.Cond.laysFinal "DaybreakFlagsModel" "DaybreakFlagsModel" "isSticky" "[Z"), (Jvm.Cond.soleField "DaybreakFlagsModel" "isSticky"), (Jvm.Cond.laysFinal "DaybreakFlagsModel" "DaybreakFlagsModel" "isOn" "[Z"), (Jvm.Cond.soleField "DaybreakFlagsModel" "isOn"), (Jvm.Cond.laysFinal "DaybreakFlagsModel" "DaybreakFlagsModel" "layer" "[I"), (Jvm.Cond.soleField "DaybreakFlagsModel" "layer"), (Jvm.Cond.laysFinal "DaybreakFlagsModel" "DaybreakFlagsModel" "from" "[I"), (Jvm.Cond.soleField "DaybreakFlagsModel" "from"), (Jvm.Cond.laysFinal "DaybreakFlagsModel" "DaybreakFlagsModel" "to" "[I"), (Jvm.Cond.soleField "DaybreakFlagsModel" "to"), (Jvm.Cond.laysFinal "DaybreakFlagsModel" "DaybreakFlagsModel" "needs" "[I"), (Jvm.Cond.soleField "DaybreakFlagsModel" "needs"), (Jvm.Cond.laysFinal "DaybreakFlagsModel" "DaybreakFlagsModel" "needed" "[I"), (Jvm.Cond.soleField "DaybreakFlagsModel" "needed"), (Jvm.Cond.laysFinal "DaybreakFlagsModel" "DaybreakFlagsModel" "rules" "[I"), (Jvm.Cond.soleField "DaybreakFlagsModel" "rules")]
def gW_4_8 : List Cond := [(Jvm.Cond.laysFinal "DaybreakFlagsModel" "DaybreakFlagsModel" "mark" "[I"), (Jvm.Cond.soleField "DaybreakFlagsModel" "mark"), (Jvm.Cond.laysFinal "DaybreakFlagsModel" "DaybreakFlagsModel" "how" "[I"), (Jvm.Cond.soleField "DaybreakFlagsModel" "how"), (Jvm.Cond.laysFinal "DaybreakFlagsModel" "DaybreakFlagsModel" "limit" "[I"), (Jvm.Cond.soleField "DaybreakFlagsModel" "limit"), (Jvm.Cond.laysFinal "DaybreakFlagsModel" "DaybreakFlagsModel" "comes" "[I"), (Jvm.Cond.soleField "DaybreakFlagsModel" "comes"), (Jvm.Cond.lays "DaybreakFlagsModel" "DaybreakFlagsModel" "arms" "I"), (Jvm.Cond.soleField "DaybreakFlagsModel" "arms"), (Jvm.Cond.laysFinal "DaybreakFlagsModel" "DaybreakFlagsModel" "armOf" "[I"), (Jvm.Cond.soleField "DaybreakFlagsModel" "armOf"), (Jvm.Cond.laysFinal "DaybreakFlagsModel" "DaybreakFlagsModel" "armUser" "[I"), (Jvm.Cond.soleField "DaybreakFlagsModel" "armUser"), (Jvm.Cond.laysFinal "DaybreakFlagsModel" "DaybreakFlagsModel" "armVariant" "[I"), (Jvm.Cond.soleField "DaybreakFlagsModel" "armVariant"), (Jvm.Cond.laysFinal "DaybreakFlagsModel" "DaybreakFlagsModel" "armSum" "[I"), (Jvm.Cond.soleField "DaybreakFlagsModel" "armSum"), (Jvm.Cond.laysFinal "DaybreakFlagsModel" "DaybreakFlagsModel" "hasActed" "[Z"), (Jvm.Cond.soleField "DaybreakFlagsModel" "hasActed")]
def gW_4_9 : List Cond := [(Jvm.Cond.lays "DaybreakFlagsModel" "DaybreakFlagsModel" "reason" "I"), (Jvm.Cond.soleField "DaybreakFlagsModel" "reason"), (Jvm.Cond.superclass "DaybreakFlagsModel" "java/lang/Object"), Cond.arrayClass .boolean, Cond.methodLink RL 186 yX6_thrown, Cond.instanceMethod yX6_thrown, Cond.selects RX6 yX6_thrown yX6_thrown, Cond.code yX6_thrown cX6_thrown 1 (some .int), Cond.methodLink RL 129 yX6_add, Cond.instanceMethod yX6_add, Cond.selects RX6 yX6_add yX6_add, Cond.code yX6_add cX6_add 4 (some .int), Cond.methodLink RX6 87 yX6_isIn, Cond.static yX6_isIn, Cond.code yX6_isIn cX6_isIn 3 (some .boolean), Cond.methodLink RX6 95 yX6_no, (Jvm.Cond.privateMethod ({ cls := "DaybreakFlagsModel", name := "no", desc := "(I)I" } : Jvm.MethodName)), Cond.instanceMethod yX6_no, Cond.code yX6_no cX6_no 2 (some .int), Cond.methodLink RL 133 yX6_weigh]
def gW_4_10 : List Cond := [Cond.instanceMethod yX6_weigh, Cond.selects RX6 yX6_weigh yX6_weigh, Cond.code yX6_weigh cX6_weigh 5 (some .int), Cond.methodLink RX6 102 yX6_isVariant, (Jvm.Cond.privateMethod ({ cls := "DaybreakFlagsModel", name := "isVariant", desc := "(II)Z" } : Jvm.MethodName)), Cond.instanceMethod yX6_isVariant, Cond.code yX6_isVariant cX6_isVariant 3 (some .boolean), Cond.methodLink RX6 91 yX6_isSwitch, (Jvm.Cond.privateMethod ({ cls := "DaybreakFlagsModel", name := "isSwitch", desc := "(I)Z" } : Jvm.MethodName)), Cond.instanceMethod yX6_isSwitch, Cond.code yX6_isSwitch cX6_isSwitch 2 (some .boolean), Cond.methodLink RL 137 yX6_turn, Cond.instanceMethod yX6_turn, Cond.selects RX6 yX6_turn yX6_turn, Cond.code yX6_turn cX6_turn 4 (some .boolean), Cond.methodLink RX6 106 yX6_isNot, (Jvm.Cond.privateMethod ({ cls := "DaybreakFlagsModel", name := "isNot", desc := "(I)Z" } : Jvm.MethodName)), Cond.instanceMethod yX6_isNot, Cond.code yX6_isNot cX6_isNot 2 (some .boolean), Cond.methodLink RL 140 yX6_ramp]
def gW_4_11 : List Cond := [Cond.instanceMethod yX6_ramp, Cond.selects RX6 yX6_ramp yX6_ramp, Cond.code yX6_ramp cX6_ramp 5 (some .int), Cond.methodLink RX6 117 yX6_farIn, (Jvm.Cond.privateMethod ({ cls := "DaybreakFlagsModel", name := "farIn", desc := "(II)I" } : Jvm.MethodName)), Cond.instanceMethod yX6_farIn, Cond.code yX6_farIn cX6_farIn 3 (some .int), Cond.constantLong RX6 109 (1000), Cond.methodLink RX6 111 yJ9_min_f86c9, Cond.static yJ9_min_f86c9, Cond.code yJ9_min_f86c9 cJ9_min_f86c9 4 (some .long), Cond.methodLink RL 144 yX6_place, Cond.instanceMethod yX6_place, Cond.selects RX6 yX6_place yX6_place, Cond.code yX6_place cX6_place 6 (some .int), Cond.methodLink RX6 121 yJ9_max_7cf53, Cond.methodLink RX6 124 yJ9_min_7cf53, Cond.methodLink RL 147 yX6_need, Cond.instanceMethod yX6_need, Cond.selects RX6 yX6_need yX6_need]
set_option maxRecDepth 100000 in
theorem tb_4 : tables_1_4 = gW_4_0 ++ (gW_4_1 ++ (gW_4_2 ++ (gW_4_3 ++ (gW_4_4 ++ (gW_4_5 ++ (gW_4_6 ++ (gW_4_7 ++ (gW_4_8 ++ (gW_4_9 ++ (gW_4_10 ++ (gW_4_11))))))))))) := rfl
theorem tn_4 {w : Cond} (h : w ∈ tables_1_4) (hg : goodWord w = true) : w ∈ TT := List.mem_filter.mpr ⟨List.mem_append_right _ (show w ∈ tables_1 from List.mem_append_right _ (List.mem_append_right _ (List.mem_append_right _ (List.mem_append_left _ h)))), hg⟩
theorem tg_4_0 {w : Cond} (h : w ∈ gW_4_0) (hg : goodWord w = true) : w ∈ TT := tn_4 (by rw [tb_4]; exact List.mem_append_left _ h) hg
theorem tg_4_1 {w : Cond} (h : w ∈ gW_4_1) (hg : goodWord w = true) : w ∈ TT := tn_4 (by rw [tb_4]; exact List.mem_append_right _ (List.mem_append_left _ h)) hg
theorem tg_4_2 {w : Cond} (h : w ∈ gW_4_2) (hg : goodWord w = true) : w ∈ TT := tn_4 (by rw [tb_4]; exact List.mem_append_right _ (List.mem_append_right _ (List.mem_append_left _ h))) hg
theorem tg_4_3 {w : Cond} (h : w ∈ gW_4_3) (hg : goodWord w = true) : w ∈ TT := tn_4 (by rw [tb_4]; exact List.mem_append_right _ (List.mem_append_right _ (List.mem_append_right _ (List.mem_append_left _ h)))) hg
theorem tg_4_4 {w : Cond} (h : w ∈ gW_4_4) (hg : goodWord w = true) : w ∈ TT := tn_4 (by rw [tb_4]; exact List.mem_append_right _ (List.mem_append_right _ (List.mem_append_right _ (List.mem_append_right _ (List.mem_append_left _ h))))) hg
theorem tg_4_5 {w : Cond} (h : w ∈ gW_4_5) (hg : goodWord w = true) : w ∈ TT := tn_4 (by rw [tb_4]; exact List.mem_append_right _ (List.mem_append_right _ (List.mem_append_right _ (List.mem_append_right _ (List.mem_append_right _ (List.mem_append_left _ h)))))) hg
theorem tg_4_6 {w : Cond} (h : w ∈ gW_4_6) (hg : goodWord w = true) : w ∈ TT := tn_4 (by rw [tb_4]; exact List.mem_append_right _ (List.mem_append_right _ (List.mem_append_right _ (List.mem_append_right _ (List.mem_append_right _ (List.mem_append_right _ (List.mem_append_left _ h))))))) hg
theorem tg_4_7 {w : Cond} (h : w ∈ gW_4_7) (hg : goodWord w = true) : w ∈ TT := tn_4 (by rw [tb_4]; exact List.mem_append_right _ (List.mem_append_right _ (List.mem_append_right _ (List.mem_append_right _ (List.mem_append_right _ (List.mem_append_right _ (List.mem_append_right _ (List.mem_append_left _ h)))))))) hg
theorem tg_4_8 {w : Cond} (h : w ∈ gW_4_8) (hg : goodWord w = true) : w ∈ TT := tn_4 (by rw [tb_4]; exact List.mem_append_right _ (List.mem_append_right _ (List.mem_append_right _ (List.mem_append_right _ (List.mem_append_right _ (List.mem_append_right _ (List.mem_append_right _ (List.mem_append_right _ (List.mem_append_left _ h))))))))) hg
theorem tg_4_9 {w : Cond} (h : w ∈ gW_4_9) (hg : goodWord w = true) : w ∈ TT := tn_4 (by rw [tb_4]; exact List.mem_append_right _ (List.mem_append_right _ (List.mem_append_right _ (List.mem_append_right _ (List.mem_append_right _ (List.mem_append_right _ (List.mem_append_right _ (List.mem_append_right _ (List.mem_append_right _ (List.mem_append_left _ h)))))))))) hg
theorem tg_4_10 {w : Cond} (h : w ∈ gW_4_10) (hg : goodWord w = true) : w ∈ TT := tn_4 (by rw [tb_4]; exact List.mem_append_right _ (List.mem_append_right _ (List.mem_append_right _ (List.mem_append_right _ (List.mem_append_right _ (List.mem_append_right _ (List.mem_append_right _ (List.mem_append_right _ (List.mem_append_right _ (List.mem_append_right _ (List.mem_append_left _ h))))))))))) hg
theorem tg_4_11 {w : Cond} (h : w ∈ gW_4_11) (hg : goodWord w = true) : w ∈ TT := tn_4 (by rw [tb_4]; exact List.mem_append_right _ (List.mem_append_right _ (List.mem_append_right _ (List.mem_append_right _ (List.mem_append_right _ (List.mem_append_right _ (List.mem_append_right _ (List.mem_append_right _ (List.mem_append_right _ (List.mem_append_right _ (List.mem_append_right _ (h)))))))))))) hg
def gW_5_0 : List Cond := [Cond.code yX6_need cX6_need 5 (some .int), Cond.methodLink RL 151 yX6_rule, Cond.instanceMethod yX6_rule, Cond.selects RX6 yX6_rule yX6_rule, Cond.code yX6_rule cX6_rule 7 (some .int), Cond.methodLink RL 155 yX6_unrule, Cond.instanceMethod yX6_unrule, Cond.selects RX6 yX6_unrule yX6_unrule, Cond.code yX6_unrule cX6_unrule 5 (some .int), Cond.methodLink RX6 132 yX6_moveUp, Cond.static yX6_moveUp, Cond.code yX6_moveUp cX6_moveUp 3 none, Cond.methodLink RX6 126 ⟨"java/lang/System", "arraycopy", "(Ljava/lang/Object;ILjava/lang/Object;II)V"⟩, (Jvm.Cond.static ({ cls := "java/lang/System", name := "arraycopy", desc := "(Ljava/lang/Object;ILjava/lang/Object;II)V" } : Jvm.MethodName)), (Jvm.Cond.native ({ cls := "java/lang/System", name := "arraycopy", desc := "(Ljava/lang/Object;ILjava/lang/Object;II)V" } : Jvm.MethodName)), Cond.methodLink RL 159 yX6_hold, Cond.instanceMethod yX6_hold, Cond.selects RX6 yX6_hold yX6_hold, Cond.code yX6_hold cX6_hold 3 (some .int), Cond.methodLink RL 162 yX6_goOn]
def gW_5_1 : List Cond := [Cond.instanceMethod yX6_goOn, Cond.selects RX6 yX6_goOn yX6_goOn, Cond.code yX6_goOn cX6_goOn 2 (some .int), Cond.methodLink RL 167 yX6_switches, Cond.instanceMethod yX6_switches, Cond.selects RX6 yX6_switches yX6_switches, Cond.code yX6_switches cX6_switches 1 (some .int), Cond.methodLink RX6 139 yX6_ok, (Jvm.Cond.privateMethod ({ cls := "DaybreakFlagsModel", name := "ok", desc := "(I)I" } : Jvm.MethodName)), Cond.instanceMethod yX6_ok, Cond.code yX6_ok cX6_ok 2 (some .int), Cond.methodLink RL 170 yX6_weight, Cond.instanceMethod yX6_weight, Cond.selects RX6 yX6_weight yX6_weight, Cond.code yX6_weight cX6_weight 3 (some .int), Cond.methodLink RL 173 yX6_share, Cond.instanceMethod yX6_share, Cond.selects RX6 yX6_share yX6_share, Cond.code yX6_share cX6_share 2 (some .int), Cond.methodLink RL 176 yX6_left]
def gW_5_2 : List Cond := [Cond.instanceMethod yX6_left, Cond.selects RX6 yX6_left yX6_left, Cond.code yX6_left cX6_left 2 (some .int), Cond.methodLink RX6 142 yX6_leftIn, (Jvm.Cond.privateMethod ({ cls := "DaybreakFlagsModel", name := "leftIn", desc := "(I)I" } : Jvm.MethodName)), Cond.instanceMethod yX6_leftIn, Cond.code yX6_leftIn cX6_leftIn 4 (some .int), Cond.methodLink RL 179 yX6_bucket, Cond.instanceMethod yX6_bucket, Cond.selects RX6 yX6_bucket yX6_bucket, Cond.code yX6_bucket cX6_bucket 3 (some .int), Cond.methodLink RX6 145 yX6_isUser, Cond.static yX6_isUser, Cond.code yX6_isUser cX6_isUser 1 (some .boolean), Cond.methodLink RX6 148 yX6_bucketOf, Cond.static yX6_bucketOf, Cond.code yX6_bucketOf cX6_bucketOf 3 (some .int), Cond.methodLink RL 182 yX6_gets, Cond.instanceMethod yX6_gets, Cond.selects RX6 yX6_gets yX6_gets]
def gW_5_3 : List Cond := [Cond.code yX6_gets cX6_gets 5 (some .int), Cond.methodLink RX6 175 yX6_isAsked, (Jvm.Cond.privateMethod ({ cls := "DaybreakFlagsModel", name := "isAsked", desc := "(IIII)Z" } : Jvm.MethodName)), Cond.instanceMethod yX6_isAsked, Cond.code yX6_isAsked cX6_isAsked 5 (some .boolean), Cond.methodLink RX6 154 yX6_getsOf, (Jvm.Cond.privateMethod ({ cls := "DaybreakFlagsModel", name := "getsOf", desc := "(IIII)I" } : Jvm.MethodName)), Cond.instanceMethod yX6_getsOf, Cond.code yX6_getsOf cX6_getsOf 5 (some .int), Cond.methodLink RX6 171 yX6_getsNow, (Jvm.Cond.privateMethod ({ cls := "DaybreakFlagsModel", name := "getsNow", desc := "(IIIII)I" } : Jvm.MethodName)), Cond.instanceMethod yX6_getsNow, Cond.code yX6_getsNow cX6_getsNow 9 (some .int), Cond.methodLink RX6 158 yX6_armAt, (Jvm.Cond.privateMethod ({ cls := "DaybreakFlagsModel", name := "armAt", desc := "(II)I" } : Jvm.MethodName)), Cond.instanceMethod yX6_armAt, Cond.code yX6_armAt cX6_armAt 4 (some .int), Cond.methodLink RX6 161 yX6_holdsNow, (Jvm.Cond.privateMethod ({ cls := "DaybreakFlagsModel", name := "holdsNow", desc := "(III)I" } : Jvm.MethodName)), Cond.instanceMethod yX6_holdsNow]
def gW_5_4 : List Cond := [Cond.code yX6_holdsNow cX6_holdsNow 6 (some .int), Cond.methodLink RX6 168 yX6_split, (Jvm.Cond.privateMethod ({ cls := "DaybreakFlagsModel", name := "split", desc := "(II)I" } : Jvm.MethodName)), Cond.instanceMethod yX6_split, Cond.code yX6_split cX6_split 6 (some .int), Cond.methodLink RL 185 yX6_why, Cond.instanceMethod yX6_why, Cond.selects RX6 yX6_why yX6_why, Cond.code yX6_why cX6_why 5 (some .int), Cond.methodLink RL 191 yX6_holds, Cond.instanceMethod yX6_holds, Cond.selects RX6 yX6_holds yX6_holds, Cond.code yX6_holds cX6_holds 5 (some .int), Cond.methodLink RL 194 yX6_ask, Cond.instanceMethod yX6_ask, Cond.selects RX6 yX6_ask yX6_ask, Cond.code yX6_ask cX6_ask 6 (some .int), Cond.methodLink RL 197 yX6_act, Cond.instanceMethod yX6_act, Cond.selects RX6 yX6_act yX6_act]
def gW_5_5 : List Cond := [Cond.code yX6_act cX6_act 5 (some .int), Cond.methodLink RL 200 yX6_arm, Cond.instanceMethod yX6_arm, Cond.selects RX6 yX6_arm yX6_arm, Cond.code yX6_arm cX6_arm 3 (some .int), Cond.methodLink RX6 179 yX6_armNow, (Jvm.Cond.privateMethod ({ cls := "DaybreakFlagsModel", name := "armNow", desc := "(II)I" } : Jvm.MethodName)), Cond.instanceMethod yX6_armNow, Cond.code yX6_armNow cX6_armNow 4 (some .int), Cond.methodLink RL 204 yX6_arms, Cond.instanceMethod yX6_arms, Cond.selects RX6 yX6_arms yX6_arms, Cond.code yX6_arms cX6_arms 1 (some .int), Cond.methodLink RL 207 yX6_told, Cond.instanceMethod yX6_told, Cond.selects RX6 yX6_told yX6_told, Cond.code yX6_told cX6_told 4 (some .int), Cond.methodLink RX6 182 yX6_toldNow, (Jvm.Cond.privateMethod ({ cls := "DaybreakFlagsModel", name := "toldNow", desc := "(III)I" } : Jvm.MethodName)), Cond.instanceMethod yX6_toldNow]
def gW_5_6 : List Cond := [Cond.code yX6_toldNow cX6_toldNow 6 (some .int), Cond.methodLink RL 211 yX6_mean, Cond.instanceMethod yX6_mean, Cond.selects RX6 yX6_mean yX6_mean, Cond.code yX6_mean cX6_mean 3 (some .double), Cond.methodLink RX6 185 yX6_meanNow, (Jvm.Cond.privateMethod ({ cls := "DaybreakFlagsModel", name := "meanNow", desc := "(II)D" } : Jvm.MethodName)), Cond.instanceMethod yX6_meanNow, Cond.code yX6_meanNow cX6_meanNow 4 (some .double), Cond.methodLink RL 214 yX6_lift, Cond.instanceMethod yX6_lift, Cond.selects RX6 yX6_lift yX6_lift, Cond.code yX6_lift cX6_lift 3 (some .double), Cond.methodLink RL 217 yX6_sure, Cond.instanceMethod yX6_sure, Cond.selects RX6 yX6_sure yX6_sure, Cond.code yX6_sure cX6_sure 9 (some .double), Cond.methodLink RX6 189 yX6_spread, (Jvm.Cond.privateMethod ({ cls := "DaybreakFlagsModel", name := "spread", desc := "(II)D" } : Jvm.MethodName)), Cond.instanceMethod yX6_spread]
def gW_5_7 : List Cond := [Cond.code yX6_spread cX6_spread 6 (some .double), Cond.methodLink RL 220 yX6_bad, Cond.instanceMethod yX6_bad, Cond.selects RX6 yX6_bad yX6_bad, Cond.code yX6_bad cX6_bad 2 (some .int), Cond.methodLink RX6 194 yX6_badNow, (Jvm.Cond.privateMethod ({ cls := "DaybreakFlagsModel", name := "badNow", desc := "(I)I" } : Jvm.MethodName)), Cond.instanceMethod yX6_badNow, Cond.code yX6_badNow cX6_badNow 10 (some .int), Cond.constantLong RX6 192 (10), Cond.methodLink RL 223 yX6_isTrusted, Cond.instanceMethod yX6_isTrusted, Cond.selects RX6 yX6_isTrusted yX6_isTrusted, Cond.code yX6_isTrusted cX6_isTrusted 2 (some .boolean), Cond.methodLink RX6 197 yX6_isTrustedNow, (Jvm.Cond.privateMethod ({ cls := "DaybreakFlagsModel", name := "isTrustedNow", desc := "(I)Z" } : Jvm.MethodName)), Cond.instanceMethod yX6_isTrustedNow, Cond.code yX6_isTrustedNow cX6_isTrustedNow 4 (some .boolean), Cond.methodLink RL 226 yX6_best, Cond.instanceMethod yX6_best]
def gW_5_8 : List Cond := [Cond.selects RX6 yX6_best yX6_best, Cond.code yX6_best cX6_best 2 (some .int), Cond.methodLink RX6 200 yX6_bestNow, (Jvm.Cond.privateMethod ({ cls := "DaybreakFlagsModel", name := "bestNow", desc := "(I)I" } : Jvm.MethodName)), Cond.instanceMethod yX6_bestNow, Cond.code yX6_bestNow cX6_bestNow 4 (some .int), Cond.methodLink RL 229 yX6_reach, Cond.instanceMethod yX6_reach, Cond.selects RX6 yX6_reach yX6_reach, Cond.code yX6_reach cX6_reach 4 (some .int), Cond.methodLink RX6 206 yX6_reachNow, (Jvm.Cond.privateMethod ({ cls := "DaybreakFlagsModel", name := "reachNow", desc := "(III)I" } : Jvm.MethodName)), Cond.instanceMethod yX6_reachNow, Cond.code yX6_reachNow cX6_reachNow 6 (some .int), Cond.methodLink RX6 203 yX6_getsBy, (Jvm.Cond.privateMethod ({ cls := "DaybreakFlagsModel", name := "getsBy", desc := "(II)I" } : Jvm.MethodName)), Cond.instanceMethod yX6_getsBy, Cond.code yX6_getsBy cX6_getsBy 3 (some .int), Cond.methodLink RL 232 yX6_both, Cond.instanceMethod yX6_both]
def gW_5_9 : List Cond := [Cond.selects RX6 yX6_both yX6_both, Cond.code yX6_both cX6_both 6 (some .int), Cond.methodLink RX6 209 yX6_isSplit, (Jvm.Cond.privateMethod ({ cls := "DaybreakFlagsModel", name := "isSplit", desc := "(II)Z" } : Jvm.MethodName)), Cond.instanceMethod yX6_isSplit, Cond.code yX6_isSplit cX6_isSplit 3 (some .boolean), Cond.methodLink RL 235 yX6_wouldChange, Cond.instanceMethod yX6_wouldChange, Cond.selects RX6 yX6_wouldChange yX6_wouldChange, Cond.code yX6_wouldChange cX6_wouldChange 6 (some .int), Cond.methodLink RL 238 yX6_wouldTurn, Cond.instanceMethod yX6_wouldTurn, Cond.selects RX6 yX6_wouldTurn yX6_wouldTurn, Cond.code yX6_wouldTurn cX6_wouldTurn 6 (some .int), Cond.methodLink RX6 212 yX6_all, (Jvm.Cond.privateMethod ({ cls := "DaybreakFlagsModel", name := "all", desc := "(I)I" } : Jvm.MethodName)), Cond.instanceMethod yX6_all, Cond.code yX6_all cX6_all 4 (some .int), Cond.methodLink RL 241 yX6_shareIn, Cond.instanceMethod yX6_shareIn]
def gW_5_10 : List Cond := [Cond.selects RX6 yX6_shareIn yX6_shareIn, Cond.code yX6_shareIn cX6_shareIn 3 (some .int), Cond.methodLink RL 246 yX6_digest, Cond.instanceMethod yX6_digest, Cond.selects RX6 yX6_digest yX6_digest, Cond.code yX6_digest cX6_digest 6 (some .long), Cond.constantLong RX6 215 (83297), Cond.constantLong RX6 217 (31), Cond.arrayClass .double, (Jvm.Cond.sameMethod "java/lang/Throwable" "java/lang/Throwable" "fillInStackTrace" "(I)Ljava/lang/Throwable;")]
set_option maxRecDepth 100000 in
theorem tb_5 : tables_1_5 = gW_5_0 ++ (gW_5_1 ++ (gW_5_2 ++ (gW_5_3 ++ (gW_5_4 ++ (gW_5_5 ++ (gW_5_6 ++ (gW_5_7 ++ (gW_5_8 ++ (gW_5_9 ++ (gW_5_10)))))))))) := rfl
theorem tn_5 {w : Cond} (h : w ∈ tables_1_5) (hg : goodWord w = true) : w ∈ TT := List.mem_filter.mpr ⟨List.mem_append_right _ (show w ∈ tables_1 from List.mem_append_right _ (List.mem_append_right _ (List.mem_append_right _ (List.mem_append_right _ (h))))), hg⟩
theorem tg_5_0 {w : Cond} (h : w ∈ gW_5_0) (hg : goodWord w = true) : w ∈ TT := tn_5 (by rw [tb_5]; exact List.mem_append_left _ h) hg
theorem tg_5_1 {w : Cond} (h : w ∈ gW_5_1) (hg : goodWord w = true) : w ∈ TT := tn_5 (by rw [tb_5]; exact List.mem_append_right _ (List.mem_append_left _ h)) hg
theorem tg_5_2 {w : Cond} (h : w ∈ gW_5_2) (hg : goodWord w = true) : w ∈ TT := tn_5 (by rw [tb_5]; exact List.mem_append_right _ (List.mem_append_right _ (List.mem_append_left _ h))) hg
theorem tg_5_3 {w : Cond} (h : w ∈ gW_5_3) (hg : goodWord w = true) : w ∈ TT := tn_5 (by rw [tb_5]; exact List.mem_append_right _ (List.mem_append_right _ (List.mem_append_right _ (List.mem_append_left _ h)))) hg
theorem tg_5_4 {w : Cond} (h : w ∈ gW_5_4) (hg : goodWord w = true) : w ∈ TT := tn_5 (by rw [tb_5]; exact List.mem_append_right _ (List.mem_append_right _ (List.mem_append_right _ (List.mem_append_right _ (List.mem_append_left _ h))))) hg
theorem tg_5_5 {w : Cond} (h : w ∈ gW_5_5) (hg : goodWord w = true) : w ∈ TT := tn_5 (by rw [tb_5]; exact List.mem_append_right _ (List.mem_append_right _ (List.mem_append_right _ (List.mem_append_right _ (List.mem_append_right _ (List.mem_append_left _ h)))))) hg
theorem tg_5_6 {w : Cond} (h : w ∈ gW_5_6) (hg : goodWord w = true) : w ∈ TT := tn_5 (by rw [tb_5]; exact List.mem_append_right _ (List.mem_append_right _ (List.mem_append_right _ (List.mem_append_right _ (List.mem_append_right _ (List.mem_append_right _ (List.mem_append_left _ h))))))) hg
theorem tg_5_7 {w : Cond} (h : w ∈ gW_5_7) (hg : goodWord w = true) : w ∈ TT := tn_5 (by rw [tb_5]; exact List.mem_append_right _ (List.mem_append_right _ (List.mem_append_right _ (List.mem_append_right _ (List.mem_append_right _ (List.mem_append_right _ (List.mem_append_right _ (List.mem_append_left _ h)))))))) hg
theorem tg_5_8 {w : Cond} (h : w ∈ gW_5_8) (hg : goodWord w = true) : w ∈ TT := tn_5 (by rw [tb_5]; exact List.mem_append_right _ (List.mem_append_right _ (List.mem_append_right _ (List.mem_append_right _ (List.mem_append_right _ (List.mem_append_right _ (List.mem_append_right _ (List.mem_append_right _ (List.mem_append_left _ h))))))))) hg
theorem tg_5_9 {w : Cond} (h : w ∈ gW_5_9) (hg : goodWord w = true) : w ∈ TT := tn_5 (by rw [tb_5]; exact List.mem_append_right _ (List.mem_append_right _ (List.mem_append_right _ (List.mem_append_right _ (List.mem_append_right _ (List.mem_append_right _ (List.mem_append_right _ (List.mem_append_right _ (List.mem_append_right _ (List.mem_append_left _ h)))))))))) hg
theorem tg_5_10 {w : Cond} (h : w ∈ gW_5_10) (hg : goodWord w = true) : w ∈ TT := tn_5 (by rw [tb_5]; exact List.mem_append_right _ (List.mem_append_right _ (List.mem_append_right _ (List.mem_append_right _ (List.mem_append_right _ (List.mem_append_right _ (List.mem_append_right _ (List.mem_append_right _ (List.mem_append_right _ (List.mem_append_right _ (h))))))))))) hg
theorem m_in_L : Cond.initialized RL ∈ TT := tg_1_0 (List.mem_of_getElem? (i := 0) rfl) rfl
theorem m_in_X5 : Cond.initialized RX5 ∈ TT := tg_1_0 (List.mem_of_getElem? (i := 1) rfl) rfl
theorem m_in_X1 : Cond.initialized RX1 ∈ TT := tg_1_0 (List.mem_of_getElem? (i := 2) rfl) rfl
theorem m_in_X6 : Cond.initialized RX6 ∈ TT := tg_1_0 (List.mem_of_getElem? (i := 3) rfl) rfl
theorem m_in_Throwable : Cond.initialized "java/lang/Throwable" ∈ TT := tg_1_0 (List.mem_of_getElem? (i := 4) rfl) rfl
theorem m_in_Exception : Cond.initialized "java/lang/Exception" ∈ TT := tg_1_0 (List.mem_of_getElem? (i := 5) rfl) rfl
theorem m_in_RuntimeException : Cond.initialized "java/lang/RuntimeException" ∈ TT := tg_1_0 (List.mem_of_getElem? (i := 6) rfl) rfl
theorem m_in_IllegalArgumentException : Cond.initialized "java/lang/IllegalArgumentException" ∈ TT := tg_1_0 (List.mem_of_getElem? (i := 7) rfl) rfl
theorem m_in_IllegalStateException : Cond.initialized "java/lang/IllegalStateException" ∈ TT := tg_1_0 (List.mem_of_getElem? (i := 8) rfl) rfl
theorem m_in_X3 : Cond.initialized RX3 ∈ TT := tg_1_0 (List.mem_of_getElem? (i := 9) rfl) rfl
theorem m_in_X4 : Cond.initialized RX4 ∈ TT := tg_1_0 (List.mem_of_getElem? (i := 10) rfl) rfl
theorem m_in_IndexOutOfBoundsException : Cond.initialized "java/lang/IndexOutOfBoundsException" ∈ TT := tg_1_0 (List.mem_of_getElem? (i := 11) rfl) rfl
theorem m_in_Math : Cond.initialized "java/lang/Math" ∈ TT := tg_1_0 (List.mem_of_getElem? (i := 12) rfl) rfl
theorem m_in_X2 : Cond.initialized RX2 ∈ TT := tg_1_0 (List.mem_of_getElem? (i := 13) rfl) rfl
theorem m_in_System : Cond.initialized "java/lang/System" ∈ TT := tg_1_0 (List.mem_of_getElem? (i := 14) rfl) rfl
theorem m_in_X0 : Cond.initialized RX0 ∈ TT := tg_1_0 (List.mem_of_getElem? (i := 15) rfl) rfl
theorem m_cl_L_8 : Cond.classLink RL 8 RX5 ∈ TT := tg_1_0 (List.mem_of_getElem? (i := 16) rfl) rfl
theorem m_nw_X5 : Cond.instantiable RX5 6 ∈ TT := tg_1_0 (List.mem_of_getElem? (i := 17) rfl) rfl
theorem m_ml_L_120 : Cond.methodLink RL 120 yX5_init ∈ TT := tg_1_0 (List.mem_of_getElem? (i := 18) rfl) rfl
theorem m_im_X5_init : Cond.instanceMethod yX5_init ∈ TT := tg_1_0 (List.mem_of_getElem? (i := 19) rfl) rfl
theorem m_cd_X5_init : Cond.code yX5_init cX5_init 1 none ∈ TT := tg_1_1 (List.mem_of_getElem? (i := 0) rfl) rfl
theorem m_ml_X5_1 : Cond.methodLink RX5 1 ⟨"java/lang/Object", "<init>", "()V"⟩ ∈ TT := tg_1_1 (List.mem_of_getElem? (i := 1) rfl) rfl
theorem m_im_objectInit : Cond.instanceMethod objectInit ∈ TT := tg_1_1 (List.mem_of_getElem? (i := 2) rfl) rfl
theorem m_cl_X5_9 : Cond.classLink RX5 9 RX3 ∈ TT := tg_1_1 (List.mem_of_getElem? (i := 4) rfl) rfl
theorem m_cl_X5_15 : Cond.classLink RX5 15 RX1 ∈ TT := tg_1_1 (List.mem_of_getElem? (i := 6) rfl) rfl
theorem m_nw_X1 : Cond.instantiable RX1 6 ∈ TT := tg_1_1 (List.mem_of_getElem? (i := 7) rfl) rfl
theorem m_im_X1_init : Cond.instanceMethod yX1_init ∈ TT := tg_1_1 (List.mem_of_getElem? (i := 9) rfl) rfl
theorem m_cd_X1_init : Cond.code yX1_init cX1_init 1 none ∈ TT := tg_1_1 (List.mem_of_getElem? (i := 10) rfl) rfl
theorem m_ml_X1_3 : Cond.methodLink RX1 3 ⟨"java/lang/Object", "<init>", "()V"⟩ ∈ TT := tg_1_1 (List.mem_of_getElem? (i := 11) rfl) rfl
theorem m_fl_X1_18 : Cond.fieldLink RX1 18 "DaybreakFlags$Asker" "user" "I" ∈ TT := tg_1_1 (List.mem_of_getElem? (i := 12) rfl) rfl
theorem m_fl_X1_21 : Cond.fieldLink RX1 21 "DaybreakFlags$Asker" "first" "I" ∈ TT := tg_1_1 (List.mem_of_getElem? (i := 14) rfl) rfl
theorem m_fl_X1_24 : Cond.fieldLink RX1 24 "DaybreakFlags$Asker" "second" "I" ∈ TT := tg_1_1 (List.mem_of_getElem? (i := 16) rfl) rfl
theorem m_fl_X1_9 : Cond.fieldLink RX1 9 "DaybreakFlags$Asker" "turned" "I" ∈ TT := tg_1_1 (List.mem_of_getElem? (i := 18) rfl) rfl
theorem m_fl_X1_15 : Cond.fieldLink RX1 15 "DaybreakFlags$Asker" "ramped" "I" ∈ TT := tg_1_1 (List.mem_of_getElem? (i := 19) rfl) rfl
theorem m_fl_X1_31 : Cond.fieldLink RX1 31 "DaybreakFlags$Asker" "rampedTo" "I" ∈ TT := tg_1_2 (List.mem_of_getElem? (i := 0) rfl) rfl
theorem m_fl_X5_11 : Cond.fieldLink RX5 11 "DaybreakFlags" "row" "[LDaybreakFlags$Switch;" ∈ TT := tg_1_2 (List.mem_of_getElem? (i := 14) rfl) rfl
theorem m_fl_X5_18 : Cond.fieldLink RX5 18 "DaybreakFlags" "asker" "LDaybreakFlags$Asker;" ∈ TT := tg_1_2 (List.mem_of_getElem? (i := 15) rfl) rfl
theorem m_fl_X5_33 : Cond.fieldLink RX5 33 "DaybreakFlags" "switchCount" "I" ∈ TT := tg_1_2 (List.mem_of_getElem? (i := 16) rfl) rfl
theorem m_fl_X5_165 : Cond.fieldLink RX5 165 "DaybreakFlags" "armCount" "I" ∈ TT := tg_1_2 (List.mem_of_getElem? (i := 17) rfl) rfl
theorem m_fl_X5_132 : Cond.fieldLink RX5 132 "DaybreakFlags" "holdout" "I" ∈ TT := tg_1_2 (List.mem_of_getElem? (i := 18) rfl) rfl
theorem m_fl_X5_69 : Cond.fieldLink RX5 69 "DaybreakFlags" "clock" "I" ∈ TT := tg_1_2 (List.mem_of_getElem? (i := 19) rfl) rfl
theorem m_ml_L_163 : Cond.methodLink RL 163 yX5_switches ∈ TT := tg_1_3 (List.mem_of_getElem? (i := 13) rfl) rfl
theorem m_im_X5_switches : Cond.instanceMethod yX5_switches ∈ TT := tg_1_3 (List.mem_of_getElem? (i := 14) rfl) rfl
theorem m_sl_X5_switches : Cond.selects RX5 yX5_switches yX5_switches ∈ TT := tg_1_3 (List.mem_of_getElem? (i := 15) rfl) rfl
theorem m_cd_X5_switches : Cond.code yX5_switches cX5_switches 1 (some .int) ∈ TT := tg_1_3 (List.mem_of_getElem? (i := 16) rfl) rfl
theorem m_ml_L_201 : Cond.methodLink RL 201 yX5_arms ∈ TT := tg_1_3 (List.mem_of_getElem? (i := 17) rfl) rfl
theorem m_im_X5_arms : Cond.instanceMethod yX5_arms ∈ TT := tg_1_3 (List.mem_of_getElem? (i := 18) rfl) rfl
theorem m_sl_X5_arms : Cond.selects RX5 yX5_arms yX5_arms ∈ TT := tg_1_3 (List.mem_of_getElem? (i := 19) rfl) rfl
theorem m_cd_X5_arms : Cond.code yX5_arms cX5_arms 1 (some .int) ∈ TT := tg_1_4 (List.mem_of_getElem? (i := 0) rfl) rfl
theorem m_ml_L_242 : Cond.methodLink RL 242 yX5_digest ∈ TT := tg_1_4 (List.mem_of_getElem? (i := 1) rfl) rfl
theorem m_im_X5_digest : Cond.instanceMethod yX5_digest ∈ TT := tg_1_4 (List.mem_of_getElem? (i := 2) rfl) rfl
theorem m_sl_X5_digest : Cond.selects RX5 yX5_digest yX5_digest ∈ TT := tg_1_4 (List.mem_of_getElem? (i := 3) rfl) rfl
theorem m_cd_X5_digest : Cond.code yX5_digest cX5_digest 5 (some .long) ∈ TT := tg_1_4 (List.mem_of_getElem? (i := 4) rfl) rfl
theorem m_lc_X5_244 : Cond.constantLong RX5 244 (2687) ∈ TT := tg_1_4 (List.mem_of_getElem? (i := 5) rfl) rfl
theorem m_ml_X5_246 : Cond.methodLink RX5 246 yX5_switches ∈ TT := tg_1_4 (List.mem_of_getElem? (i := 6) rfl) rfl
theorem m_ml_X5_249 : Cond.methodLink RX5 249 yX5_withNext ∈ TT := tg_1_4 (List.mem_of_getElem? (i := 7) rfl) rfl
theorem m_st_X5_withNext : Cond.static yX5_withNext ∈ TT := tg_1_4 (List.mem_of_getElem? (i := 8) rfl) rfl
theorem m_cd_X5_withNext : Cond.code yX5_withNext cX5_withNext 4 (some .long) ∈ TT := tg_1_4 (List.mem_of_getElem? (i := 9) rfl) rfl
theorem m_lc_X5_299 : Cond.constantLong RX5 299 (31) ∈ TT := tg_1_4 (List.mem_of_getElem? (i := 10) rfl) rfl
theorem m_ml_X5_253 : Cond.methodLink RX5 253 yX5_arms ∈ TT := tg_1_4 (List.mem_of_getElem? (i := 11) rfl) rfl
theorem m_ml_X5_256 : Cond.methodLink RX5 256 yX5_left ∈ TT := tg_1_4 (List.mem_of_getElem? (i := 12) rfl) rfl
theorem m_im_X5_left : Cond.instanceMethod yX5_left ∈ TT := tg_1_4 (List.mem_of_getElem? (i := 13) rfl) rfl
theorem m_sl_X5_left : Cond.selects RX5 yX5_left yX5_left ∈ TT := tg_1_4 (List.mem_of_getElem? (i := 14) rfl) rfl
theorem m_cd_X5_left : Cond.code yX5_left cX5_left 7 (some .int) ∈ TT := tg_1_4 (List.mem_of_getElem? (i := 15) rfl) rfl
theorem m_ml_X5_22 : Cond.methodLink RX5 22 yX5_isOutside ∈ TT := tg_1_4 (List.mem_of_getElem? (i := 16) rfl) rfl
theorem m_st_X5_isOutside : Cond.static yX5_isOutside ∈ TT := tg_1_4 (List.mem_of_getElem? (i := 17) rfl) rfl
theorem m_cd_X5_isOutside : Cond.code yX5_isOutside cX5_isOutside 3 (some .boolean) ∈ TT := tg_1_4 (List.mem_of_getElem? (i := 18) rfl) rfl
theorem m_cl_X5_121 : Cond.classLink RX5 121 "java/lang/IndexOutOfBoundsException" ∈ TT := tg_1_4 (List.mem_of_getElem? (i := 19) rfl) rfl
theorem m_ml_X5_125 : Cond.methodLink RX5 125 ⟨"java/lang/IndexOutOfBoundsException", "<init>", "(Ljava/lang/String;)V"⟩ ∈ TT := tg_1_7 (List.mem_of_getElem? (i := 1) rfl) rfl
theorem m_ar_byte : Cond.arrayClass .byte ∈ TT := tg_1_8 (List.mem_of_getElem? (i := 6) rfl) rfl
theorem m_ml_X5_259 : Cond.methodLink RX5 259 yX5_withSwitch ∈ TT := tg_1_8 (List.mem_of_getElem? (i := 7) rfl) rfl
theorem m_im_X5_withSwitch : Cond.instanceMethod yX5_withSwitch ∈ TT := tg_1_8 (List.mem_of_getElem? (i := 9) rfl) rfl
theorem m_cd_X5_withSwitch : Cond.code yX5_withSwitch cX5_withSwitch 9 (some .long) ∈ TT := tg_1_8 (List.mem_of_getElem? (i := 10) rfl) rfl
theorem m_ml_X5_273 : Cond.methodLink RX5 273 yX5_share ∈ TT := tg_1_8 (List.mem_of_getElem? (i := 11) rfl) rfl
theorem m_im_X5_share : Cond.instanceMethod yX5_share ∈ TT := tg_1_8 (List.mem_of_getElem? (i := 12) rfl) rfl
theorem m_sl_X5_share : Cond.selects RX5 yX5_share yX5_share ∈ TT := tg_1_8 (List.mem_of_getElem? (i := 13) rfl) rfl
theorem m_cd_X5_share : Cond.code yX5_share cX5_share 2 (some .int) ∈ TT := tg_1_8 (List.mem_of_getElem? (i := 14) rfl) rfl
theorem m_ml_X5_45 : Cond.methodLink RX5 45 yX5_known ∈ TT := tg_1_8 (List.mem_of_getElem? (i := 15) rfl) rfl
theorem m_im_X5_known : Cond.instanceMethod yX5_known ∈ TT := tg_1_8 (List.mem_of_getElem? (i := 17) rfl) rfl
theorem m_cd_X5_known : Cond.code yX5_known cX5_known 3 (some (.object "DaybreakFlags$Switch")) ∈ TT := tg_1_8 (List.mem_of_getElem? (i := 18) rfl) rfl
theorem m_ml_X5_301 : Cond.methodLink RX5 301 yX5_switchAt ∈ TT := tg_1_8 (List.mem_of_getElem? (i := 19) rfl) rfl
theorem m_im_X5_switchAt : Cond.instanceMethod yX5_switchAt ∈ TT := tg_1_9 (List.mem_of_getElem? (i := 1) rfl) rfl
theorem m_cd_X5_switchAt : Cond.code yX5_switchAt cX5_switchAt 2 (some (.object "DaybreakFlags$Switch")) ∈ TT := tg_1_9 (List.mem_of_getElem? (i := 2) rfl) rfl
theorem m_ml_X5_72 : Cond.methodLink RX5 72 yX3_farAt ∈ TT := tg_1_9 (List.mem_of_getElem? (i := 4) rfl) rfl
theorem m_im_X3_farAt : Cond.instanceMethod yX3_farAt ∈ TT := tg_1_9 (List.mem_of_getElem? (i := 5) rfl) rfl
theorem m_sl_X3_farAt : Cond.selects RX3 yX3_farAt yX3_farAt ∈ TT := tg_1_9 (List.mem_of_getElem? (i := 6) rfl) rfl
theorem m_cd_X3_farAt : Cond.code yX3_farAt cX3_farAt 4 (some .int) ∈ TT := tg_1_9 (List.mem_of_getElem? (i := 7) rfl) rfl
theorem m_lc_X3_57 : Cond.constantLong RX3 57 (1000) ∈ TT := tg_1_9 (List.mem_of_getElem? (i := 8) rfl) rfl
theorem m_ml_X5_276 : Cond.methodLink RX5 276 yX5_bad ∈ TT := tg_1_9 (List.mem_of_getElem? (i := 9) rfl) rfl
theorem m_im_X5_bad : Cond.instanceMethod yX5_bad ∈ TT := tg_1_9 (List.mem_of_getElem? (i := 10) rfl) rfl
theorem m_sl_X5_bad : Cond.selects RX5 yX5_bad yX5_bad ∈ TT := tg_1_9 (List.mem_of_getElem? (i := 11) rfl) rfl
theorem m_cd_X5_bad : Cond.code yX5_bad cX5_bad 2 (some .int) ∈ TT := tg_1_9 (List.mem_of_getElem? (i := 12) rfl) rfl
theorem m_ml_X5_219 : Cond.methodLink RX5 219 yX3_badness ∈ TT := tg_1_9 (List.mem_of_getElem? (i := 13) rfl) rfl
theorem m_im_X3_badness : Cond.instanceMethod yX3_badness ∈ TT := tg_1_9 (List.mem_of_getElem? (i := 14) rfl) rfl
theorem m_sl_X3_badness : Cond.selects RX3 yX3_badness yX3_badness ∈ TT := tg_1_9 (List.mem_of_getElem? (i := 15) rfl) rfl
theorem m_cd_X3_badness : Cond.code yX3_badness cX3_badness 10 (some .int) ∈ TT := tg_1_9 (List.mem_of_getElem? (i := 16) rfl) rfl
theorem m_ml_X3_124 : Cond.methodLink RX3 124 yX4_countOf ∈ TT := tg_1_9 (List.mem_of_getElem? (i := 17) rfl) rfl
theorem m_im_X4_countOf : Cond.instanceMethod yX4_countOf ∈ TT := tg_1_9 (List.mem_of_getElem? (i := 18) rfl) rfl
theorem m_sl_X4_countOf : Cond.selects RX4 yX4_countOf yX4_countOf ∈ TT := tg_1_9 (List.mem_of_getElem? (i := 19) rfl) rfl
theorem m_cd_X4_countOf : Cond.code yX4_countOf cX4_countOf 2 (some .int) ∈ TT := tg_1_10 (List.mem_of_getElem? (i := 0) rfl) rfl
theorem m_ml_X4_25 : Cond.methodLink RX4 25 yX4_isKept ∈ TT := tg_1_10 (List.mem_of_getElem? (i := 1) rfl) rfl
theorem m_st_X4_isKept : Cond.static yX4_isKept ∈ TT := tg_1_10 (List.mem_of_getElem? (i := 2) rfl) rfl
theorem m_cd_X4_isKept : Cond.code yX4_isKept cX4_isKept 1 (some .boolean) ∈ TT := tg_1_10 (List.mem_of_getElem? (i := 3) rfl) rfl
theorem m_lc_X3_128 : Cond.constantLong RX3 128 (10) ∈ TT := tg_1_10 (List.mem_of_getElem? (i := 4) rfl) rfl
theorem m_ml_X5_279 : Cond.methodLink RX5 279 yX5_isTrusted ∈ TT := tg_1_10 (List.mem_of_getElem? (i := 5) rfl) rfl
theorem m_im_X5_isTrusted : Cond.instanceMethod yX5_isTrusted ∈ TT := tg_1_10 (List.mem_of_getElem? (i := 6) rfl) rfl
theorem m_sl_X5_isTrusted : Cond.selects RX5 yX5_isTrusted yX5_isTrusted ∈ TT := tg_1_10 (List.mem_of_getElem? (i := 7) rfl) rfl
theorem m_cd_X5_isTrusted : Cond.code yX5_isTrusted cX5_isTrusted 2 (some .boolean) ∈ TT := tg_1_10 (List.mem_of_getElem? (i := 8) rfl) rfl
theorem m_ml_X5_223 : Cond.methodLink RX5 223 yX3_canBeTrusted ∈ TT := tg_1_10 (List.mem_of_getElem? (i := 9) rfl) rfl
theorem m_im_X3_canBeTrusted : Cond.instanceMethod yX3_canBeTrusted ∈ TT := tg_1_10 (List.mem_of_getElem? (i := 10) rfl) rfl
theorem m_sl_X3_canBeTrusted : Cond.selects RX3 yX3_canBeTrusted yX3_canBeTrusted ∈ TT := tg_1_10 (List.mem_of_getElem? (i := 11) rfl) rfl
theorem m_cd_X3_canBeTrusted : Cond.code yX3_canBeTrusted cX3_canBeTrusted 3 (some .boolean) ∈ TT := tg_1_10 (List.mem_of_getElem? (i := 12) rfl) rfl
theorem m_ml_X3_130 : Cond.methodLink RX3 130 yX3_badness ∈ TT := tg_1_10 (List.mem_of_getElem? (i := 13) rfl) rfl
theorem m_ml_X3_134 : Cond.methodLink RX3 134 yX3_mostBadness ∈ TT := tg_1_10 (List.mem_of_getElem? (i := 14) rfl) rfl
theorem m_st_X3_mostBadness : Cond.static yX3_mostBadness ∈ TT := tg_1_10 (List.mem_of_getElem? (i := 15) rfl) rfl
theorem m_cd_X3_mostBadness : Cond.code yX3_mostBadness cX3_mostBadness 1 (some .int) ∈ TT := tg_1_10 (List.mem_of_getElem? (i := 16) rfl) rfl
theorem m_ml_X5_283 : Cond.methodLink RX5 283 yX5_best ∈ TT := tg_1_10 (List.mem_of_getElem? (i := 17) rfl) rfl
theorem m_im_X5_best : Cond.instanceMethod yX5_best ∈ TT := tg_1_10 (List.mem_of_getElem? (i := 18) rfl) rfl
theorem m_sl_X5_best : Cond.selects RX5 yX5_best yX5_best ∈ TT := tg_1_10 (List.mem_of_getElem? (i := 19) rfl) rfl
theorem m_cd_X5_best : Cond.code yX5_best cX5_best 2 (some .int) ∈ TT := tg_1_11 (List.mem_of_getElem? (i := 0) rfl) rfl
theorem m_ml_X5_227 : Cond.methodLink RX5 227 yX4_bestVariant ∈ TT := tg_1_11 (List.mem_of_getElem? (i := 1) rfl) rfl
theorem m_im_X4_bestVariant : Cond.instanceMethod yX4_bestVariant ∈ TT := tg_1_11 (List.mem_of_getElem? (i := 2) rfl) rfl
theorem m_sl_X4_bestVariant : Cond.selects RX4 yX4_bestVariant yX4_bestVariant ∈ TT := tg_1_11 (List.mem_of_getElem? (i := 3) rfl) rfl
theorem m_cd_X4_bestVariant : Cond.code yX4_bestVariant cX4_bestVariant 3 (some .int) ∈ TT := tg_1_11 (List.mem_of_getElem? (i := 4) rfl) rfl
theorem m_ml_X4_33 : Cond.methodLink RX4 33 yX4_countOf ∈ TT := tg_1_11 (List.mem_of_getElem? (i := 5) rfl) rfl
theorem m_ml_X4_40 : Cond.methodLink RX4 40 yX4_meanOf ∈ TT := tg_1_11 (List.mem_of_getElem? (i := 6) rfl) rfl
theorem m_im_X4_meanOf : Cond.instanceMethod yX4_meanOf ∈ TT := tg_1_11 (List.mem_of_getElem? (i := 7) rfl) rfl
theorem m_sl_X4_meanOf : Cond.selects RX4 yX4_meanOf yX4_meanOf ∈ TT := tg_1_11 (List.mem_of_getElem? (i := 8) rfl) rfl
theorem m_cd_X4_meanOf : Cond.code yX4_meanOf cX4_meanOf 3 (some .double) ∈ TT := tg_1_11 (List.mem_of_getElem? (i := 9) rfl) rfl
theorem m_ml_X4_37 : Cond.methodLink RX4 37 yX4_sumOf ∈ TT := tg_1_11 (List.mem_of_getElem? (i := 10) rfl) rfl
theorem m_im_X4_sumOf : Cond.instanceMethod yX4_sumOf ∈ TT := tg_1_11 (List.mem_of_getElem? (i := 11) rfl) rfl
theorem m_sl_X4_sumOf : Cond.selects RX4 yX4_sumOf yX4_sumOf ∈ TT := tg_1_11 (List.mem_of_getElem? (i := 12) rfl) rfl
theorem m_cd_X4_sumOf : Cond.code yX4_sumOf cX4_sumOf 2 (some .int) ∈ TT := tg_1_11 (List.mem_of_getElem? (i := 13) rfl) rfl
theorem m_ml_X5_289 : Cond.methodLink RX5 289 yX5_weight ∈ TT := tg_1_11 (List.mem_of_getElem? (i := 14) rfl) rfl
theorem m_im_X5_weight : Cond.instanceMethod yX5_weight ∈ TT := tg_1_11 (List.mem_of_getElem? (i := 15) rfl) rfl
theorem m_sl_X5_weight : Cond.selects RX5 yX5_weight yX5_weight ∈ TT := tg_1_11 (List.mem_of_getElem? (i := 16) rfl) rfl
theorem m_cd_X5_weight : Cond.code yX5_weight cX5_weight 4 (some .int) ∈ TT := tg_1_11 (List.mem_of_getElem? (i := 17) rfl) rfl
theorem m_ml_X5_49 : Cond.methodLink RX5 49 yX5_checkVariant ∈ TT := tg_1_11 (List.mem_of_getElem? (i := 18) rfl) rfl
theorem m_st_X5_checkVariant : Cond.static yX5_checkVariant ∈ TT := tg_1_11 (List.mem_of_getElem? (i := 19) rfl) rfl
theorem m_cd_X5_checkVariant : Cond.code yX5_checkVariant cX5_checkVariant 2 none ∈ TT := tg_2_0 (List.mem_of_getElem? (i := 0) rfl) rfl
theorem m_ml_X5_53 : Cond.methodLink RX5 53 yX3_weightOf ∈ TT := tg_2_0 (List.mem_of_getElem? (i := 2) rfl) rfl
theorem m_im_X3_weightOf : Cond.instanceMethod yX3_weightOf ∈ TT := tg_2_0 (List.mem_of_getElem? (i := 3) rfl) rfl
theorem m_sl_X3_weightOf : Cond.selects RX3 yX3_weightOf yX3_weightOf ∈ TT := tg_2_0 (List.mem_of_getElem? (i := 4) rfl) rfl
theorem m_cd_X3_weightOf : Cond.code yX3_weightOf cX3_weightOf 2 (some .int) ∈ TT := tg_2_0 (List.mem_of_getElem? (i := 5) rfl) rfl
theorem m_ml_X5_292 : Cond.methodLink RX5 292 yX5_told ∈ TT := tg_2_0 (List.mem_of_getElem? (i := 6) rfl) rfl
theorem m_im_X5_told : Cond.instanceMethod yX5_told ∈ TT := tg_2_0 (List.mem_of_getElem? (i := 7) rfl) rfl
theorem m_sl_X5_told : Cond.selects RX5 yX5_told yX5_told ∈ TT := tg_2_0 (List.mem_of_getElem? (i := 8) rfl) rfl
theorem m_cd_X5_told : Cond.code yX5_told cX5_told 5 (some .int) ∈ TT := tg_2_0 (List.mem_of_getElem? (i := 9) rfl) rfl
theorem m_ml_X5_192 : Cond.methodLink RX5 192 yX4_countOf ∈ TT := tg_2_0 (List.mem_of_getElem? (i := 10) rfl) rfl
theorem m_ml_X5_197 : Cond.methodLink RX5 197 yX4_actedOf ∈ TT := tg_2_0 (List.mem_of_getElem? (i := 11) rfl) rfl
theorem m_im_X4_actedOf : Cond.instanceMethod yX4_actedOf ∈ TT := tg_2_0 (List.mem_of_getElem? (i := 12) rfl) rfl
theorem m_sl_X4_actedOf : Cond.selects RX4 yX4_actedOf yX4_actedOf ∈ TT := tg_2_0 (List.mem_of_getElem? (i := 13) rfl) rfl
theorem m_cd_X4_actedOf : Cond.code yX4_actedOf cX4_actedOf 2 (some .int) ∈ TT := tg_2_0 (List.mem_of_getElem? (i := 14) rfl) rfl
theorem m_ml_X5_200 : Cond.methodLink RX5 200 yX4_sumOf ∈ TT := tg_2_0 (List.mem_of_getElem? (i := 15) rfl) rfl
theorem m_ml_X5_203 : Cond.methodLink RX5 203 yX4_squaresOf ∈ TT := tg_2_0 (List.mem_of_getElem? (i := 16) rfl) rfl
theorem m_im_X4_squaresOf : Cond.instanceMethod yX4_squaresOf ∈ TT := tg_2_0 (List.mem_of_getElem? (i := 17) rfl) rfl
theorem m_sl_X4_squaresOf : Cond.selects RX4 yX4_squaresOf yX4_squaresOf ∈ TT := tg_2_0 (List.mem_of_getElem? (i := 18) rfl) rfl
theorem m_cd_X4_squaresOf : Cond.code yX4_squaresOf cX4_squaresOf 2 (some .long) ∈ TT := tg_2_0 (List.mem_of_getElem? (i := 19) rfl) rfl
theorem m_cl_X5_26 : Cond.classLink RX5 26 "java/lang/IllegalArgumentException" ∈ TT := tg_2_1 (List.mem_of_getElem? (i := 0) rfl) rfl
theorem m_ml_X5_30 : Cond.methodLink RX5 30 ⟨"java/lang/IllegalArgumentException", "<init>", "(Ljava/lang/String;)V"⟩ ∈ TT := tg_2_1 (List.mem_of_getElem? (i := 10) rfl) rfl
theorem m_ml_X5_296 : Cond.methodLink RX5 296 yX5_reach ∈ TT := tg_2_1 (List.mem_of_getElem? (i := 16) rfl) rfl
theorem m_im_X5_reach : Cond.instanceMethod yX5_reach ∈ TT := tg_2_1 (List.mem_of_getElem? (i := 17) rfl) rfl
theorem m_sl_X5_reach : Cond.selects RX5 yX5_reach yX5_reach ∈ TT := tg_2_1 (List.mem_of_getElem? (i := 18) rfl) rfl
theorem m_cd_X5_reach : Cond.code yX5_reach cX5_reach 7 (some .int) ∈ TT := tg_2_1 (List.mem_of_getElem? (i := 19) rfl) rfl
theorem m_ml_X5_230 : Cond.methodLink RX5 230 yX5_checkMany ∈ TT := tg_2_2 (List.mem_of_getElem? (i := 0) rfl) rfl
theorem m_st_X5_checkMany : Cond.static yX5_checkMany ∈ TT := tg_2_2 (List.mem_of_getElem? (i := 1) rfl) rfl
theorem m_cd_X5_checkMany : Cond.code yX5_checkMany cX5_checkMany 1 none ∈ TT := tg_2_2 (List.mem_of_getElem? (i := 2) rfl) rfl
theorem m_ml_X5_233 : Cond.methodLink RX5 233 yX1_becomeCounted ∈ TT := tg_2_2 (List.mem_of_getElem? (i := 4) rfl) rfl
theorem m_im_X1_becomeCounted : Cond.instanceMethod yX1_becomeCounted ∈ TT := tg_2_2 (List.mem_of_getElem? (i := 5) rfl) rfl
theorem m_sl_X1_becomeCounted : Cond.selects RX1 yX1_becomeCounted yX1_becomeCounted ∈ TT := tg_2_2 (List.mem_of_getElem? (i := 6) rfl) rfl
theorem m_cd_X1_becomeCounted : Cond.code yX1_becomeCounted cX1_becomeCounted 2 none ∈ TT := tg_2_2 (List.mem_of_getElem? (i := 7) rfl) rfl
theorem m_ml_X1_27 : Cond.methodLink RX1 27 yX1_become ∈ TT := tg_2_2 (List.mem_of_getElem? (i := 8) rfl) rfl
theorem m_im_X1_become : Cond.instanceMethod yX1_become ∈ TT := tg_2_2 (List.mem_of_getElem? (i := 9) rfl) rfl
theorem m_sl_X1_become : Cond.selects RX1 yX1_become yX1_become ∈ TT := tg_2_2 (List.mem_of_getElem? (i := 10) rfl) rfl
theorem m_cd_X1_become : Cond.code yX1_become cX1_become 4 none ∈ TT := tg_2_2 (List.mem_of_getElem? (i := 11) rfl) rfl
theorem m_ml_X5_151 : Cond.methodLink RX5 151 yX5_variantOf ∈ TT := tg_2_2 (List.mem_of_getElem? (i := 12) rfl) rfl
theorem m_im_X5_variantOf : Cond.instanceMethod yX5_variantOf ∈ TT := tg_2_2 (List.mem_of_getElem? (i := 14) rfl) rfl
theorem m_cd_X5_variantOf : Cond.code yX5_variantOf cX5_variantOf 2 (some .int) ∈ TT := tg_2_2 (List.mem_of_getElem? (i := 15) rfl) rfl
theorem m_ml_X5_155 : Cond.methodLink RX5 155 yX5_reasonOf ∈ TT := tg_2_2 (List.mem_of_getElem? (i := 16) rfl) rfl
theorem m_im_X5_reasonOf : Cond.instanceMethod yX5_reasonOf ∈ TT := tg_2_2 (List.mem_of_getElem? (i := 18) rfl) rfl
theorem m_cd_X5_reasonOf : Cond.code yX5_reasonOf cX5_reasonOf 3 (some .int) ∈ TT := tg_2_2 (List.mem_of_getElem? (i := 19) rfl) rfl
theorem m_ml_X5_340 : Cond.methodLink RX5 340 yX1_findsOn ∈ TT := tg_2_3 (List.mem_of_getElem? (i := 0) rfl) rfl
theorem m_im_X1_findsOn : Cond.instanceMethod yX1_findsOn ∈ TT := tg_2_3 (List.mem_of_getElem? (i := 1) rfl) rfl
theorem m_sl_X1_findsOn : Cond.selects RX1 yX1_findsOn yX1_findsOn ∈ TT := tg_2_3 (List.mem_of_getElem? (i := 2) rfl) rfl
theorem m_cd_X1_findsOn : Cond.code yX1_findsOn cX1_findsOn 2 (some .boolean) ∈ TT := tg_2_3 (List.mem_of_getElem? (i := 3) rfl) rfl
theorem m_ml_X5_344 : Cond.methodLink RX5 344 yX5_hasNeed ∈ TT := tg_2_3 (List.mem_of_getElem? (i := 4) rfl) rfl
theorem m_im_X5_hasNeed : Cond.instanceMethod yX5_hasNeed ∈ TT := tg_2_3 (List.mem_of_getElem? (i := 6) rfl) rfl
theorem m_cd_X5_hasNeed : Cond.code yX5_hasNeed cX5_hasNeed 3 (some .boolean) ∈ TT := tg_2_3 (List.mem_of_getElem? (i := 7) rfl) rfl
theorem m_ml_X5_168 : Cond.methodLink RX5 168 yX3_armOf ∈ TT := tg_2_3 (List.mem_of_getElem? (i := 8) rfl) rfl
theorem m_im_X3_armOf : Cond.instanceMethod yX3_armOf ∈ TT := tg_2_3 (List.mem_of_getElem? (i := 9) rfl) rfl
theorem m_sl_X3_armOf : Cond.selects RX3 yX3_armOf yX3_armOf ∈ TT := tg_2_3 (List.mem_of_getElem? (i := 10) rfl) rfl
theorem m_cd_X3_armOf : Cond.code yX3_armOf cX3_armOf 3 (some (.object "DaybreakFlags$Arm")) ∈ TT := tg_2_3 (List.mem_of_getElem? (i := 11) rfl) rfl
theorem m_ml_X5_158 : Cond.methodLink RX5 158 yX3_firstRuleFor ∈ TT := tg_2_3 (List.mem_of_getElem? (i := 12) rfl) rfl
theorem m_im_X3_firstRuleFor : Cond.instanceMethod yX3_firstRuleFor ∈ TT := tg_2_3 (List.mem_of_getElem? (i := 13) rfl) rfl
theorem m_sl_X3_firstRuleFor : Cond.selects RX3 yX3_firstRuleFor yX3_firstRuleFor ∈ TT := tg_2_3 (List.mem_of_getElem? (i := 14) rfl) rfl
theorem m_cd_X3_firstRuleFor : Cond.code yX3_firstRuleFor cX3_firstRuleFor 5 (some .int) ∈ TT := tg_2_3 (List.mem_of_getElem? (i := 15) rfl) rfl
theorem m_ml_X3_81 : Cond.methodLink RX3 81 yX2_isMetBy ∈ TT := tg_2_3 (List.mem_of_getElem? (i := 16) rfl) rfl
theorem m_im_X2_isMetBy : Cond.instanceMethod yX2_isMetBy ∈ TT := tg_2_3 (List.mem_of_getElem? (i := 17) rfl) rfl
theorem m_sl_X2_isMetBy : Cond.selects RX2 yX2_isMetBy yX2_isMetBy ∈ TT := tg_2_3 (List.mem_of_getElem? (i := 18) rfl) rfl
theorem m_cd_X2_isMetBy : Cond.code yX2_isMetBy cX2_isMetBy 4 (some .boolean) ∈ TT := tg_2_3 (List.mem_of_getElem? (i := 19) rfl) rfl
theorem m_ml_X5_329 : Cond.methodLink RX5 329 yX3_ruleAt ∈ TT := tg_2_4 (List.mem_of_getElem? (i := 0) rfl) rfl
theorem m_im_X3_ruleAt : Cond.instanceMethod yX3_ruleAt ∈ TT := tg_2_4 (List.mem_of_getElem? (i := 1) rfl) rfl
theorem m_sl_X3_ruleAt : Cond.selects RX3 yX3_ruleAt yX3_ruleAt ∈ TT := tg_2_4 (List.mem_of_getElem? (i := 2) rfl) rfl
theorem m_cd_X3_ruleAt : Cond.code yX3_ruleAt cX3_ruleAt 2 (some (.object "DaybreakFlags$Rule")) ∈ TT := tg_2_4 (List.mem_of_getElem? (i := 3) rfl) rfl
theorem m_ml_X5_141 : Cond.methodLink RX5 141 yX5_bucketOf ∈ TT := tg_2_4 (List.mem_of_getElem? (i := 4) rfl) rfl
theorem m_st_X5_bucketOf : Cond.static yX5_bucketOf ∈ TT := tg_2_4 (List.mem_of_getElem? (i := 5) rfl) rfl
theorem m_cd_X5_bucketOf : Cond.code yX5_bucketOf cX5_bucketOf 4 (some .int) ∈ TT := tg_2_4 (List.mem_of_getElem? (i := 6) rfl) rfl
theorem m_ml_X5_350 : Cond.methodLink RX5 350 yX5_isInLayer ∈ TT := tg_2_4 (List.mem_of_getElem? (i := 7) rfl) rfl
theorem m_im_X5_isInLayer : Cond.instanceMethod yX5_isInLayer ∈ TT := tg_2_4 (List.mem_of_getElem? (i := 9) rfl) rfl
theorem m_cd_X5_isInLayer : Cond.code yX5_isInLayer cX5_isInLayer 3 (some .boolean) ∈ TT := tg_2_4 (List.mem_of_getElem? (i := 10) rfl) rfl
theorem m_ml_X5_353 : Cond.methodLink RX5 353 yX1_findsFar ∈ TT := tg_2_4 (List.mem_of_getElem? (i := 11) rfl) rfl
theorem m_im_X1_findsFar : Cond.instanceMethod yX1_findsFar ∈ TT := tg_2_4 (List.mem_of_getElem? (i := 12) rfl) rfl
theorem m_sl_X1_findsFar : Cond.selects RX1 yX1_findsFar yX1_findsFar ∈ TT := tg_2_4 (List.mem_of_getElem? (i := 13) rfl) rfl
theorem m_cd_X1_findsFar : Cond.code yX1_findsFar cX1_findsFar 3 (some .int) ∈ TT := tg_2_4 (List.mem_of_getElem? (i := 14) rfl) rfl
theorem m_ml_X1_43 : Cond.methodLink RX1 43 yX3_farAt ∈ TT := tg_2_4 (List.mem_of_getElem? (i := 15) rfl) rfl
theorem m_ml_X5_161 : Cond.methodLink RX5 161 yX5_variantBy ∈ TT := tg_2_4 (List.mem_of_getElem? (i := 16) rfl) rfl
theorem m_im_X5_variantBy : Cond.instanceMethod yX5_variantBy ∈ TT := tg_2_4 (List.mem_of_getElem? (i := 18) rfl) rfl
theorem m_cd_X5_variantBy : Cond.code yX5_variantBy cX5_variantBy 5 (some .int) ∈ TT := tg_2_4 (List.mem_of_getElem? (i := 19) rfl) rfl
theorem m_ml_X5_337 : Cond.methodLink RX5 337 yX3_splitBy ∈ TT := tg_2_5 (List.mem_of_getElem? (i := 0) rfl) rfl
theorem m_im_X3_splitBy : Cond.instanceMethod yX3_splitBy ∈ TT := tg_2_5 (List.mem_of_getElem? (i := 1) rfl) rfl
theorem m_sl_X3_splitBy : Cond.selects RX3 yX3_splitBy yX3_splitBy ∈ TT := tg_2_5 (List.mem_of_getElem? (i := 2) rfl) rfl
theorem m_cd_X3_splitBy : Cond.code yX3_splitBy cX3_splitBy 4 (some .int) ∈ TT := tg_2_5 (List.mem_of_getElem? (i := 3) rfl) rfl
theorem m_ml_X5_263 : Cond.methodLink RX5 263 yX5_gets ∈ TT := tg_2_5 (List.mem_of_getElem? (i := 4) rfl) rfl
theorem m_im_X5_gets : Cond.instanceMethod yX5_gets ∈ TT := tg_2_5 (List.mem_of_getElem? (i := 5) rfl) rfl
theorem m_sl_X5_gets : Cond.selects RX5 yX5_gets yX5_gets ∈ TT := tg_2_5 (List.mem_of_getElem? (i := 6) rfl) rfl
theorem m_cd_X5_gets : Cond.code yX5_gets cX5_gets 6 (some .int) ∈ TT := tg_2_5 (List.mem_of_getElem? (i := 7) rfl) rfl
theorem m_ml_X5_145 : Cond.methodLink RX5 145 yX5_checkAsker ∈ TT := tg_2_5 (List.mem_of_getElem? (i := 8) rfl) rfl
theorem m_st_X5_checkAsker : Cond.static yX5_checkAsker ∈ TT := tg_2_5 (List.mem_of_getElem? (i := 9) rfl) rfl
theorem m_cd_X5_checkAsker : Cond.code yX5_checkAsker cX5_checkAsker 3 none ∈ TT := tg_2_5 (List.mem_of_getElem? (i := 10) rfl) rfl
theorem m_ml_X5_148 : Cond.methodLink RX5 148 yX1_become ∈ TT := tg_2_5 (List.mem_of_getElem? (i := 12) rfl) rfl
theorem m_ml_X5_267 : Cond.methodLink RX5 267 yX5_why ∈ TT := tg_2_5 (List.mem_of_getElem? (i := 13) rfl) rfl
theorem m_im_X5_why : Cond.instanceMethod yX5_why ∈ TT := tg_2_5 (List.mem_of_getElem? (i := 14) rfl) rfl
theorem m_sl_X5_why : Cond.selects RX5 yX5_why yX5_why ∈ TT := tg_2_5 (List.mem_of_getElem? (i := 15) rfl) rfl
theorem m_cd_X5_why : Cond.code yX5_why cX5_why 6 (some .int) ∈ TT := tg_2_5 (List.mem_of_getElem? (i := 16) rfl) rfl
theorem m_ml_X5_270 : Cond.methodLink RX5 270 yX5_arm ∈ TT := tg_2_5 (List.mem_of_getElem? (i := 17) rfl) rfl
theorem m_im_X5_arm : Cond.instanceMethod yX5_arm ∈ TT := tg_2_5 (List.mem_of_getElem? (i := 18) rfl) rfl
theorem m_sl_X5_arm : Cond.selects RX5 yX5_arm yX5_arm ∈ TT := tg_2_5 (List.mem_of_getElem? (i := 19) rfl) rfl
theorem m_cd_X5_arm : Cond.code yX5_arm cX5_arm 5 (some .int) ∈ TT := tg_2_6 (List.mem_of_getElem? (i := 0) rfl) rfl
theorem m_ml_L_124 : Cond.methodLink RL 124 yL_add ∈ TT := tg_2_6 (List.mem_of_getElem? (i := 2) rfl) rfl
theorem m_st_L_add : Cond.static yL_add ∈ TT := tg_2_6 (List.mem_of_getElem? (i := 3) rfl) rfl
theorem m_cd_L_add : Cond.codeWith yL_add cL_add 6 (some .int) [(0, 12, 15, 13), (0, 12, 19, 15)] ∈ TT := tg_2_6 (List.mem_of_getElem? (i := 4) rfl) rfl
theorem m_cl_L_13 : Cond.classLink RL 13 "java/lang/IllegalArgumentException" ∈ TT := tg_2_6 (List.mem_of_getElem? (i := 5) rfl) rfl
theorem m_cl_L_15 : Cond.classLink RL 15 "java/lang/IllegalStateException" ∈ TT := tg_2_6 (List.mem_of_getElem? (i := 6) rfl) rfl
theorem m_ml_L_7 : Cond.methodLink RL 7 yX5_add ∈ TT := tg_2_6 (List.mem_of_getElem? (i := 7) rfl) rfl
theorem m_im_X5_add : Cond.instanceMethod yX5_add ∈ TT := tg_2_6 (List.mem_of_getElem? (i := 8) rfl) rfl
theorem m_sl_X5_add : Cond.selects RX5 yX5_add yX5_add ∈ TT := tg_2_6 (List.mem_of_getElem? (i := 9) rfl) rfl
theorem m_cd_X5_add : Cond.code yX5_add cX5_add 5 (some .int) ∈ TT := tg_2_6 (List.mem_of_getElem? (i := 10) rfl) rfl
theorem m_cl_X5_37 : Cond.classLink RX5 37 "java/lang/IllegalStateException" ∈ TT := tg_2_6 (List.mem_of_getElem? (i := 12) rfl) rfl
theorem m_ml_X5_41 : Cond.methodLink RX5 41 ⟨"java/lang/IllegalStateException", "<init>", "(Ljava/lang/String;)V"⟩ ∈ TT := tg_2_7 (List.mem_of_getElem? (i := 2) rfl) rfl
theorem m_nw_X3 : Cond.instantiable RX3 18 ∈ TT := tg_2_7 (List.mem_of_getElem? (i := 8) rfl) rfl
theorem m_ml_X5_42 : Cond.methodLink RX5 42 yX3_init ∈ TT := tg_2_7 (List.mem_of_getElem? (i := 9) rfl) rfl
theorem m_im_X3_init : Cond.instanceMethod yX3_init ∈ TT := tg_2_7 (List.mem_of_getElem? (i := 10) rfl) rfl
theorem m_cd_X3_init : Cond.code yX3_init cX3_init 5 none ∈ TT := tg_2_7 (List.mem_of_getElem? (i := 11) rfl) rfl
theorem m_ml_X3_3 : Cond.methodLink RX3 3 ⟨"java/lang/Object", "<init>", "()V"⟩ ∈ TT := tg_2_7 (List.mem_of_getElem? (i := 12) rfl) rfl
theorem m_cl_X3_15 : Cond.classLink RX3 15 RX2 ∈ TT := tg_2_7 (List.mem_of_getElem? (i := 13) rfl) rfl
theorem m_cl_X3_21 : Cond.classLink RX3 21 RX4 ∈ TT := tg_2_7 (List.mem_of_getElem? (i := 15) rfl) rfl
theorem m_nw_X4 : Cond.instantiable RX4 5 ∈ TT := tg_2_7 (List.mem_of_getElem? (i := 16) rfl) rfl
theorem m_im_X4_init : Cond.instanceMethod yX4_init ∈ TT := tg_2_7 (List.mem_of_getElem? (i := 18) rfl) rfl
theorem m_cd_X4_init : Cond.code yX4_init cX4_init 1 none ∈ TT := tg_2_7 (List.mem_of_getElem? (i := 19) rfl) rfl
theorem m_ml_X4_3 : Cond.methodLink RX4 3 ⟨"java/lang/Object", "<init>", "()V"⟩ ∈ TT := tg_2_8 (List.mem_of_getElem? (i := 0) rfl) rfl
theorem m_fl_X4_9 : Cond.fieldLink RX4 9 "DaybreakFlags$Tally" "counts" "[I" ∈ TT := tg_2_8 (List.mem_of_getElem? (i := 1) rfl) rfl
theorem m_fl_X4_15 : Cond.fieldLink RX4 15 "DaybreakFlags$Tally" "acted" "[I" ∈ TT := tg_2_8 (List.mem_of_getElem? (i := 2) rfl) rfl
theorem m_fl_X4_18 : Cond.fieldLink RX4 18 "DaybreakFlags$Tally" "sums" "[I" ∈ TT := tg_2_8 (List.mem_of_getElem? (i := 3) rfl) rfl
theorem m_fl_X4_21 : Cond.fieldLink RX4 21 "DaybreakFlags$Tally" "squares" "[J" ∈ TT := tg_2_8 (List.mem_of_getElem? (i := 4) rfl) rfl
theorem m_fl_X4_29 : Cond.fieldLink RX4 29 "DaybreakFlags$Tally" "total" "I" ∈ TT := tg_2_8 (List.mem_of_getElem? (i := 5) rfl) rfl
theorem m_ar_int : Cond.arrayClass .int ∈ TT := tg_2_8 (List.mem_of_getElem? (i := 18) rfl) rfl
theorem m_ar_long : Cond.arrayClass .long ∈ TT := tg_2_8 (List.mem_of_getElem? (i := 19) rfl) rfl
theorem m_fl_X3_38 : Cond.fieldLink RX3 38 "DaybreakFlags$Switch" "number" "I" ∈ TT := tg_2_9 (List.mem_of_getElem? (i := 0) rfl) rfl
theorem m_fl_X3_41 : Cond.fieldLink RX3 41 "DaybreakFlags$Switch" "salt" "I" ∈ TT := tg_2_9 (List.mem_of_getElem? (i := 3) rfl) rfl
theorem m_fl_X3_44 : Cond.fieldLink RX3 44 "DaybreakFlags$Switch" "variantCount" "I" ∈ TT := tg_2_9 (List.mem_of_getElem? (i := 5) rfl) rfl
theorem m_fl_X3_47 : Cond.fieldLink RX3 47 "DaybreakFlags$Switch" "isSticky" "Z" ∈ TT := tg_2_9 (List.mem_of_getElem? (i := 7) rfl) rfl
theorem m_fl_X3_9 : Cond.fieldLink RX3 9 "DaybreakFlags$Switch" "weights" "[I" ∈ TT := tg_2_9 (List.mem_of_getElem? (i := 9) rfl) rfl
theorem m_fl_X3_17 : Cond.fieldLink RX3 17 "DaybreakFlags$Switch" "rules" "[LDaybreakFlags$Rule;" ∈ TT := tg_2_9 (List.mem_of_getElem? (i := 10) rfl) rfl
theorem m_fl_X3_24 : Cond.fieldLink RX3 24 "DaybreakFlags$Switch" "tally" "LDaybreakFlags$Tally;" ∈ TT := tg_2_9 (List.mem_of_getElem? (i := 11) rfl) rfl
theorem m_fl_X3_85 : Cond.fieldLink RX3 85 "DaybreakFlags$Switch" "newest" "LDaybreakFlags$Arm;" ∈ TT := tg_2_9 (List.mem_of_getElem? (i := 13) rfl) rfl
theorem m_fl_X3_74 : Cond.fieldLink RX3 74 "DaybreakFlags$Switch" "ruleCount" "I" ∈ TT := tg_2_9 (List.mem_of_getElem? (i := 15) rfl) rfl
theorem m_fl_X3_28 : Cond.fieldLink RX3 28 "DaybreakFlags$Switch" "startShare" "I" ∈ TT := tg_2_9 (List.mem_of_getElem? (i := 18) rfl) rfl
theorem m_fl_X3_51 : Cond.fieldLink RX3 51 "DaybreakFlags$Switch" "step" "I" ∈ TT := tg_2_9 (List.mem_of_getElem? (i := 19) rfl) rfl
theorem m_fl_X3_54 : Cond.fieldLink RX3 54 "DaybreakFlags$Switch" "rampedAt" "I" ∈ TT := tg_2_10 (List.mem_of_getElem? (i := 0) rfl) rfl
theorem m_fl_X3_32 : Cond.fieldLink RX3 32 "DaybreakFlags$Switch" "layer" "I" ∈ TT := tg_2_10 (List.mem_of_getElem? (i := 1) rfl) rfl
theorem m_fl_X3_59 : Cond.fieldLink RX3 59 "DaybreakFlags$Switch" "from" "I" ∈ TT := tg_2_10 (List.mem_of_getElem? (i := 4) rfl) rfl
theorem m_fl_X3_68 : Cond.fieldLink RX3 68 "DaybreakFlags$Switch" "to" "I" ∈ TT := tg_2_10 (List.mem_of_getElem? (i := 6) rfl) rfl
theorem m_fl_X3_35 : Cond.fieldLink RX3 35 "DaybreakFlags$Switch" "needed" "I" ∈ TT := tg_2_10 (List.mem_of_getElem? (i := 7) rfl) rfl
theorem m_ml_L_130 : Cond.methodLink RL 130 yL_weigh ∈ TT := tg_3_0 (List.mem_of_getElem? (i := 7) rfl) rfl
theorem m_st_L_weigh : Cond.static yL_weigh ∈ TT := tg_3_0 (List.mem_of_getElem? (i := 8) rfl) rfl
theorem m_cd_L_weigh : Cond.codeWith yL_weigh cL_weigh 6 (some .int) [(0, 12, 15, 21), (0, 12, 19, 13)] ∈ TT := tg_3_0 (List.mem_of_getElem? (i := 9) rfl) rfl
theorem m_cl_L_21 : Cond.classLink RL 21 "java/lang/IndexOutOfBoundsException" ∈ TT := tg_3_0 (List.mem_of_getElem? (i := 10) rfl) rfl
theorem m_ml_L_17 : Cond.methodLink RL 17 yX5_weigh ∈ TT := tg_3_0 (List.mem_of_getElem? (i := 11) rfl) rfl
theorem m_im_X5_weigh : Cond.instanceMethod yX5_weigh ∈ TT := tg_3_0 (List.mem_of_getElem? (i := 12) rfl) rfl
theorem m_sl_X5_weigh : Cond.selects RX5 yX5_weigh yX5_weigh ∈ TT := tg_3_0 (List.mem_of_getElem? (i := 13) rfl) rfl
theorem m_cd_X5_weigh : Cond.code yX5_weigh cX5_weigh 6 (some .int) ∈ TT := tg_3_0 (List.mem_of_getElem? (i := 14) rfl) rfl
theorem m_ml_X5_59 : Cond.methodLink RX5 59 yX3_setWeight ∈ TT := tg_3_0 (List.mem_of_getElem? (i := 16) rfl) rfl
theorem m_im_X3_setWeight : Cond.instanceMethod yX3_setWeight ∈ TT := tg_3_0 (List.mem_of_getElem? (i := 17) rfl) rfl
theorem m_sl_X3_setWeight : Cond.selects RX3 yX3_setWeight yX3_setWeight ∈ TT := tg_3_0 (List.mem_of_getElem? (i := 18) rfl) rfl
theorem m_cd_X3_setWeight : Cond.code yX3_setWeight cX3_setWeight 3 none ∈ TT := tg_3_0 (List.mem_of_getElem? (i := 19) rfl) rfl
theorem m_ml_L_134 : Cond.methodLink RL 134 yL_turn ∈ TT := tg_3_1 (List.mem_of_getElem? (i := 0) rfl) rfl
theorem m_st_L_turn : Cond.static yL_turn ∈ TT := tg_3_1 (List.mem_of_getElem? (i := 1) rfl) rfl
theorem m_cd_L_turn : Cond.codeWith yL_turn cL_turn 5 (some .int) [(0, 17, 20, 21)] ∈ TT := tg_3_1 (List.mem_of_getElem? (i := 2) rfl) rfl
theorem m_ml_L_23 : Cond.methodLink RL 23 yX5_turn ∈ TT := tg_3_1 (List.mem_of_getElem? (i := 3) rfl) rfl
theorem m_im_X5_turn : Cond.instanceMethod yX5_turn ∈ TT := tg_3_1 (List.mem_of_getElem? (i := 4) rfl) rfl
theorem m_sl_X5_turn : Cond.selects RX5 yX5_turn yX5_turn ∈ TT := tg_3_1 (List.mem_of_getElem? (i := 5) rfl) rfl
theorem m_cd_X5_turn : Cond.code yX5_turn cX5_turn 5 (some .boolean) ∈ TT := tg_3_1 (List.mem_of_getElem? (i := 6) rfl) rfl
theorem m_ml_L_138 : Cond.methodLink RL 138 yL_ramp ∈ TT := tg_3_1 (List.mem_of_getElem? (i := 7) rfl) rfl
theorem m_st_L_ramp : Cond.static yL_ramp ∈ TT := tg_3_1 (List.mem_of_getElem? (i := 8) rfl) rfl
theorem m_cd_L_ramp : Cond.codeWith yL_ramp cL_ramp 6 (some .int) [(0, 12, 15, 21), (0, 12, 19, 13)] ∈ TT := tg_3_1 (List.mem_of_getElem? (i := 9) rfl) rfl
theorem m_ml_L_27 : Cond.methodLink RL 27 yX5_ramp ∈ TT := tg_3_1 (List.mem_of_getElem? (i := 10) rfl) rfl
theorem m_im_X5_ramp : Cond.instanceMethod yX5_ramp ∈ TT := tg_3_1 (List.mem_of_getElem? (i := 11) rfl) rfl
theorem m_sl_X5_ramp : Cond.selects RX5 yX5_ramp yX5_ramp ∈ TT := tg_3_1 (List.mem_of_getElem? (i := 12) rfl) rfl
theorem m_cd_X5_ramp : Cond.code yX5_ramp cX5_ramp 6 (some .int) ∈ TT := tg_3_1 (List.mem_of_getElem? (i := 13) rfl) rfl
theorem m_ml_X5_75 : Cond.methodLink RX5 75 yX3_setRamp ∈ TT := tg_3_1 (List.mem_of_getElem? (i := 15) rfl) rfl
theorem m_im_X3_setRamp : Cond.instanceMethod yX3_setRamp ∈ TT := tg_3_1 (List.mem_of_getElem? (i := 16) rfl) rfl
theorem m_sl_X3_setRamp : Cond.selects RX3 yX3_setRamp yX3_setRamp ∈ TT := tg_3_1 (List.mem_of_getElem? (i := 17) rfl) rfl
theorem m_cd_X3_setRamp : Cond.code yX3_setRamp cX3_setRamp 4 none ∈ TT := tg_3_1 (List.mem_of_getElem? (i := 18) rfl) rfl
theorem m_ml_L_141 : Cond.methodLink RL 141 yL_place ∈ TT := tg_3_1 (List.mem_of_getElem? (i := 19) rfl) rfl
theorem m_st_L_place : Cond.static yL_place ∈ TT := tg_3_2 (List.mem_of_getElem? (i := 0) rfl) rfl
theorem m_cd_L_place : Cond.codeWith yL_place cL_place 7 (some .int) [(0, 14, 17, 21), (0, 14, 21, 13), (0, 14, 25, 15)] ∈ TT := tg_3_2 (List.mem_of_getElem? (i := 1) rfl) rfl
theorem m_ml_L_30 : Cond.methodLink RL 30 yX5_place ∈ TT := tg_3_2 (List.mem_of_getElem? (i := 2) rfl) rfl
theorem m_im_X5_place : Cond.instanceMethod yX5_place ∈ TT := tg_3_2 (List.mem_of_getElem? (i := 3) rfl) rfl
theorem m_sl_X5_place : Cond.selects RX5 yX5_place yX5_place ∈ TT := tg_3_2 (List.mem_of_getElem? (i := 4) rfl) rfl
theorem m_cd_X5_place : Cond.code yX5_place cX5_place 7 (some .int) ∈ TT := tg_3_2 (List.mem_of_getElem? (i := 5) rfl) rfl
theorem m_ml_X5_79 : Cond.methodLink RX5 79 yX5_checkRange ∈ TT := tg_3_2 (List.mem_of_getElem? (i := 6) rfl) rfl
theorem m_st_X5_checkRange : Cond.static yX5_checkRange ∈ TT := tg_3_2 (List.mem_of_getElem? (i := 7) rfl) rfl
theorem m_cd_X5_checkRange : Cond.code yX5_checkRange cX5_checkRange 3 none ∈ TT := tg_3_2 (List.mem_of_getElem? (i := 8) rfl) rfl
theorem m_ml_X5_82 : Cond.methodLink RX5 82 yX5_isTaken ∈ TT := tg_3_2 (List.mem_of_getElem? (i := 10) rfl) rfl
theorem m_im_X5_isTaken : Cond.instanceMethod yX5_isTaken ∈ TT := tg_3_2 (List.mem_of_getElem? (i := 12) rfl) rfl
theorem m_cd_X5_isTaken : Cond.code yX5_isTaken cX5_isTaken 9 (some .boolean) ∈ TT := tg_3_2 (List.mem_of_getElem? (i := 13) rfl) rfl
theorem m_ml_X5_317 : Cond.methodLink RX5 317 yX3_sharesRange ∈ TT := tg_3_2 (List.mem_of_getElem? (i := 14) rfl) rfl
theorem m_im_X3_sharesRange : Cond.instanceMethod yX3_sharesRange ∈ TT := tg_3_2 (List.mem_of_getElem? (i := 15) rfl) rfl
theorem m_sl_X3_sharesRange : Cond.selects RX3 yX3_sharesRange yX3_sharesRange ∈ TT := tg_3_2 (List.mem_of_getElem? (i := 16) rfl) rfl
theorem m_cd_X3_sharesRange : Cond.code yX3_sharesRange cX3_sharesRange 3 (some .boolean) ∈ TT := tg_3_2 (List.mem_of_getElem? (i := 17) rfl) rfl
theorem m_ml_X3_62 : Cond.methodLink RX3 62 yJ9_max_7cf53 ∈ TT := tg_3_2 (List.mem_of_getElem? (i := 18) rfl) rfl
theorem m_st_J9_max_7cf53 : Cond.static yJ9_max_7cf53 ∈ TT := tg_3_2 (List.mem_of_getElem? (i := 19) rfl) rfl
theorem m_cd_J9_max_7cf53 : Cond.code yJ9_max_7cf53 cJ9_max_7cf53 2 (some .int) ∈ TT := tg_3_3 (List.mem_of_getElem? (i := 0) rfl) rfl
theorem m_ml_X3_71 : Cond.methodLink RX3 71 yJ9_min_7cf53 ∈ TT := tg_3_3 (List.mem_of_getElem? (i := 1) rfl) rfl
theorem m_st_J9_min_7cf53 : Cond.static yJ9_min_7cf53 ∈ TT := tg_3_3 (List.mem_of_getElem? (i := 2) rfl) rfl
theorem m_cd_J9_min_7cf53 : Cond.code yJ9_min_7cf53 cJ9_min_7cf53 2 (some .int) ∈ TT := tg_3_3 (List.mem_of_getElem? (i := 3) rfl) rfl
theorem m_ml_L_145 : Cond.methodLink RL 145 yL_need ∈ TT := tg_3_3 (List.mem_of_getElem? (i := 5) rfl) rfl
theorem m_st_L_need : Cond.static yL_need ∈ TT := tg_3_3 (List.mem_of_getElem? (i := 6) rfl) rfl
theorem m_cd_L_need : Cond.codeWith yL_need cL_need 6 (some .int) [(0, 12, 15, 21), (0, 12, 19, 13)] ∈ TT := tg_3_3 (List.mem_of_getElem? (i := 7) rfl) rfl
theorem m_ml_L_34 : Cond.methodLink RL 34 yX5_need ∈ TT := tg_3_3 (List.mem_of_getElem? (i := 8) rfl) rfl
theorem m_im_X5_need : Cond.instanceMethod yX5_need ∈ TT := tg_3_3 (List.mem_of_getElem? (i := 9) rfl) rfl
theorem m_sl_X5_need : Cond.selects RX5 yX5_need yX5_need ∈ TT := tg_3_3 (List.mem_of_getElem? (i := 10) rfl) rfl
theorem m_cd_X5_need : Cond.code yX5_need cX5_need 6 (some .int) ∈ TT := tg_3_3 (List.mem_of_getElem? (i := 11) rfl) rfl
theorem m_ml_L_148 : Cond.methodLink RL 148 yL_rule ∈ TT := tg_3_3 (List.mem_of_getElem? (i := 13) rfl) rfl
theorem m_st_L_rule : Cond.static yL_rule ∈ TT := tg_3_3 (List.mem_of_getElem? (i := 14) rfl) rfl
theorem m_cd_L_rule : Cond.codeWith yL_rule cL_rule 8 (some .int) [(0, 16, 19, 21), (0, 16, 23, 13), (0, 16, 27, 15)] ∈ TT := tg_3_3 (List.mem_of_getElem? (i := 15) rfl) rfl
theorem m_ml_L_37 : Cond.methodLink RL 37 yX5_rule ∈ TT := tg_3_3 (List.mem_of_getElem? (i := 16) rfl) rfl
theorem m_im_X5_rule : Cond.instanceMethod yX5_rule ∈ TT := tg_3_3 (List.mem_of_getElem? (i := 17) rfl) rfl
theorem m_sl_X5_rule : Cond.selects RX5 yX5_rule yX5_rule ∈ TT := tg_3_3 (List.mem_of_getElem? (i := 18) rfl) rfl
theorem m_cd_X5_rule : Cond.code yX5_rule cX5_rule 7 (some .int) ∈ TT := tg_3_3 (List.mem_of_getElem? (i := 19) rfl) rfl
theorem m_cl_X5_112 : Cond.classLink RX5 112 RX2 ∈ TT := tg_3_4 (List.mem_of_getElem? (i := 2) rfl) rfl
theorem m_nw_X2 : Cond.instantiable RX2 4 ∈ TT := tg_3_4 (List.mem_of_getElem? (i := 3) rfl) rfl
theorem m_ml_X5_114 : Cond.methodLink RX5 114 yX2_init ∈ TT := tg_3_4 (List.mem_of_getElem? (i := 4) rfl) rfl
theorem m_im_X2_init : Cond.instanceMethod yX2_init ∈ TT := tg_3_4 (List.mem_of_getElem? (i := 5) rfl) rfl
theorem m_cd_X2_init : Cond.code yX2_init cX2_init 5 none ∈ TT := tg_3_4 (List.mem_of_getElem? (i := 6) rfl) rfl
theorem m_ml_X2_3 : Cond.methodLink RX2 3 ⟨"java/lang/Object", "<init>", "()V"⟩ ∈ TT := tg_3_4 (List.mem_of_getElem? (i := 7) rfl) rfl
theorem m_fl_X2_9 : Cond.fieldLink RX2 9 "DaybreakFlags$Rule" "mark" "I" ∈ TT := tg_3_4 (List.mem_of_getElem? (i := 8) rfl) rfl
theorem m_fl_X2_15 : Cond.fieldLink RX2 15 "DaybreakFlags$Rule" "how" "I" ∈ TT := tg_3_4 (List.mem_of_getElem? (i := 9) rfl) rfl
theorem m_fl_X2_18 : Cond.fieldLink RX2 18 "DaybreakFlags$Rule" "n" "I" ∈ TT := tg_3_4 (List.mem_of_getElem? (i := 10) rfl) rfl
theorem m_fl_X2_21 : Cond.fieldLink RX2 21 "DaybreakFlags$Rule" "variant" "I" ∈ TT := tg_3_4 (List.mem_of_getElem? (i := 11) rfl) rfl
theorem m_ml_X5_117 : Cond.methodLink RX5 117 yX3_addRule ∈ TT := tg_3_5 (List.mem_of_getElem? (i := 2) rfl) rfl
theorem m_im_X3_addRule : Cond.instanceMethod yX3_addRule ∈ TT := tg_3_5 (List.mem_of_getElem? (i := 3) rfl) rfl
theorem m_sl_X3_addRule : Cond.selects RX3 yX3_addRule yX3_addRule ∈ TT := tg_3_5 (List.mem_of_getElem? (i := 4) rfl) rfl
theorem m_cd_X3_addRule : Cond.code yX3_addRule cX3_addRule 2 none ∈ TT := tg_3_5 (List.mem_of_getElem? (i := 5) rfl) rfl
theorem m_ml_L_152 : Cond.methodLink RL 152 yL_unrule ∈ TT := tg_3_5 (List.mem_of_getElem? (i := 6) rfl) rfl
theorem m_st_L_unrule : Cond.static yL_unrule ∈ TT := tg_3_5 (List.mem_of_getElem? (i := 7) rfl) rfl
theorem m_cd_L_unrule : Cond.codeWith yL_unrule cL_unrule 5 (some .int) [(0, 10, 13, 21)] ∈ TT := tg_3_5 (List.mem_of_getElem? (i := 8) rfl) rfl
theorem m_ml_L_41 : Cond.methodLink RL 41 yX5_unrule ∈ TT := tg_3_5 (List.mem_of_getElem? (i := 9) rfl) rfl
theorem m_im_X5_unrule : Cond.instanceMethod yX5_unrule ∈ TT := tg_3_5 (List.mem_of_getElem? (i := 10) rfl) rfl
theorem m_sl_X5_unrule : Cond.selects RX5 yX5_unrule yX5_unrule ∈ TT := tg_3_5 (List.mem_of_getElem? (i := 11) rfl) rfl
theorem m_cd_X5_unrule : Cond.code yX5_unrule cX5_unrule 4 (some .int) ∈ TT := tg_3_5 (List.mem_of_getElem? (i := 12) rfl) rfl
theorem m_ml_X5_126 : Cond.methodLink RX5 126 yX3_removeRule ∈ TT := tg_3_5 (List.mem_of_getElem? (i := 14) rfl) rfl
theorem m_im_X3_removeRule : Cond.instanceMethod yX3_removeRule ∈ TT := tg_3_5 (List.mem_of_getElem? (i := 15) rfl) rfl
theorem m_sl_X3_removeRule : Cond.selects RX3 yX3_removeRule yX3_removeRule ∈ TT := tg_3_5 (List.mem_of_getElem? (i := 16) rfl) rfl
theorem m_cd_X3_removeRule : Cond.code yX3_removeRule cX3_removeRule 3 none ∈ TT := tg_3_5 (List.mem_of_getElem? (i := 17) rfl) rfl
theorem m_ml_X3_77 : Cond.methodLink RX3 77 yX3_ruleAt ∈ TT := tg_3_5 (List.mem_of_getElem? (i := 18) rfl) rfl
theorem m_ml_L_156 : Cond.methodLink RL 156 yL_hold ∈ TT := tg_3_5 (List.mem_of_getElem? (i := 19) rfl) rfl
theorem m_st_L_hold : Cond.static yL_hold ∈ TT := tg_3_6 (List.mem_of_getElem? (i := 0) rfl) rfl
theorem m_cd_L_hold : Cond.codeWith yL_hold cL_hold 4 (some .int) [(0, 9, 12, 13)] ∈ TT := tg_3_6 (List.mem_of_getElem? (i := 1) rfl) rfl
theorem m_ml_L_45 : Cond.methodLink RL 45 yX5_hold ∈ TT := tg_3_6 (List.mem_of_getElem? (i := 2) rfl) rfl
theorem m_im_X5_hold : Cond.instanceMethod yX5_hold ∈ TT := tg_3_6 (List.mem_of_getElem? (i := 3) rfl) rfl
theorem m_sl_X5_hold : Cond.selects RX5 yX5_hold yX5_hold ∈ TT := tg_3_6 (List.mem_of_getElem? (i := 4) rfl) rfl
theorem m_cd_X5_hold : Cond.code yX5_hold cX5_hold 3 (some .int) ∈ TT := tg_3_6 (List.mem_of_getElem? (i := 5) rfl) rfl
theorem m_ml_L_160 : Cond.methodLink RL 160 yL_goOn ∈ TT := tg_3_6 (List.mem_of_getElem? (i := 7) rfl) rfl
theorem m_st_L_goOn : Cond.static yL_goOn ∈ TT := tg_3_6 (List.mem_of_getElem? (i := 8) rfl) rfl
theorem m_cd_L_goOn : Cond.codeWith yL_goOn cL_goOn 4 (some .int) [(0, 9, 12, 13)] ∈ TT := tg_3_6 (List.mem_of_getElem? (i := 9) rfl) rfl
theorem m_ml_L_49 : Cond.methodLink RL 49 yX5_goOn ∈ TT := tg_3_6 (List.mem_of_getElem? (i := 10) rfl) rfl
theorem m_im_X5_goOn : Cond.instanceMethod yX5_goOn ∈ TT := tg_3_6 (List.mem_of_getElem? (i := 11) rfl) rfl
theorem m_sl_X5_goOn : Cond.selects RX5 yX5_goOn yX5_goOn ∈ TT := tg_3_6 (List.mem_of_getElem? (i := 12) rfl) rfl
theorem m_cd_X5_goOn : Cond.code yX5_goOn cX5_goOn 2 (some .int) ∈ TT := tg_3_6 (List.mem_of_getElem? (i := 13) rfl) rfl
theorem m_ml_L_168 : Cond.methodLink RL 168 yL_weight ∈ TT := tg_3_6 (List.mem_of_getElem? (i := 15) rfl) rfl
theorem m_st_L_weight : Cond.static yL_weight ∈ TT := tg_3_6 (List.mem_of_getElem? (i := 16) rfl) rfl
theorem m_cd_L_weight : Cond.codeWith yL_weight cL_weight 5 (some .int) [(0, 10, 13, 21)] ∈ TT := tg_3_6 (List.mem_of_getElem? (i := 17) rfl) rfl
theorem m_ml_L_52 : Cond.methodLink RL 52 yX5_weight ∈ TT := tg_3_6 (List.mem_of_getElem? (i := 18) rfl) rfl
theorem m_ml_L_171 : Cond.methodLink RL 171 yL_share ∈ TT := tg_3_6 (List.mem_of_getElem? (i := 19) rfl) rfl
theorem m_st_L_share : Cond.static yL_share ∈ TT := tg_3_7 (List.mem_of_getElem? (i := 0) rfl) rfl
theorem m_cd_L_share : Cond.codeWith yL_share cL_share 4 (some .int) [(0, 9, 12, 21)] ∈ TT := tg_3_7 (List.mem_of_getElem? (i := 1) rfl) rfl
theorem m_ml_L_55 : Cond.methodLink RL 55 yX5_share ∈ TT := tg_3_7 (List.mem_of_getElem? (i := 2) rfl) rfl
theorem m_ml_L_174 : Cond.methodLink RL 174 yL_left ∈ TT := tg_3_7 (List.mem_of_getElem? (i := 3) rfl) rfl
theorem m_st_L_left : Cond.static yL_left ∈ TT := tg_3_7 (List.mem_of_getElem? (i := 4) rfl) rfl
theorem m_cd_L_left : Cond.codeWith yL_left cL_left 4 (some .int) [(0, 9, 12, 21)] ∈ TT := tg_3_7 (List.mem_of_getElem? (i := 5) rfl) rfl
theorem m_ml_L_58 : Cond.methodLink RL 58 yX5_left ∈ TT := tg_3_7 (List.mem_of_getElem? (i := 6) rfl) rfl
theorem m_ml_L_177 : Cond.methodLink RL 177 yL_bucket ∈ TT := tg_3_7 (List.mem_of_getElem? (i := 7) rfl) rfl
theorem m_st_L_bucket : Cond.static yL_bucket ∈ TT := tg_3_7 (List.mem_of_getElem? (i := 8) rfl) rfl
theorem m_cd_L_bucket : Cond.codeWith yL_bucket cL_bucket 5 (some .int) [(0, 10, 13, 13)] ∈ TT := tg_3_7 (List.mem_of_getElem? (i := 9) rfl) rfl
theorem m_ml_L_61 : Cond.methodLink RL 61 yX5_bucket ∈ TT := tg_3_7 (List.mem_of_getElem? (i := 10) rfl) rfl
theorem m_im_X5_bucket : Cond.instanceMethod yX5_bucket ∈ TT := tg_3_7 (List.mem_of_getElem? (i := 11) rfl) rfl
theorem m_sl_X5_bucket : Cond.selects RX5 yX5_bucket yX5_bucket ∈ TT := tg_3_7 (List.mem_of_getElem? (i := 12) rfl) rfl
theorem m_cd_X5_bucket : Cond.code yX5_bucket cX5_bucket 3 (some .int) ∈ TT := tg_3_7 (List.mem_of_getElem? (i := 13) rfl) rfl
theorem m_ml_L_180 : Cond.methodLink RL 180 yL_gets ∈ TT := tg_3_7 (List.mem_of_getElem? (i := 15) rfl) rfl
theorem m_st_L_gets : Cond.static yL_gets ∈ TT := tg_3_7 (List.mem_of_getElem? (i := 16) rfl) rfl
theorem m_cd_L_gets : Cond.codeWith yL_gets cL_gets 7 (some .int) [(0, 14, 17, 21), (0, 14, 21, 13)] ∈ TT := tg_3_7 (List.mem_of_getElem? (i := 17) rfl) rfl
theorem m_ml_L_64 : Cond.methodLink RL 64 yX5_gets ∈ TT := tg_3_7 (List.mem_of_getElem? (i := 18) rfl) rfl
theorem m_ml_L_183 : Cond.methodLink RL 183 yL_why ∈ TT := tg_3_7 (List.mem_of_getElem? (i := 19) rfl) rfl
theorem m_st_L_why : Cond.static yL_why ∈ TT := tg_3_8 (List.mem_of_getElem? (i := 0) rfl) rfl
theorem m_cd_L_why : Cond.codeWith yL_why cL_why 7 (some .int) [(0, 14, 17, 21), (0, 14, 21, 13)] ∈ TT := tg_3_8 (List.mem_of_getElem? (i := 1) rfl) rfl
theorem m_ml_L_67 : Cond.methodLink RL 67 yX5_why ∈ TT := tg_3_8 (List.mem_of_getElem? (i := 2) rfl) rfl
theorem m_ml_L_189 : Cond.methodLink RL 189 yL_holds ∈ TT := tg_3_8 (List.mem_of_getElem? (i := 3) rfl) rfl
theorem m_st_L_holds : Cond.static yL_holds ∈ TT := tg_3_8 (List.mem_of_getElem? (i := 4) rfl) rfl
theorem m_cd_L_holds : Cond.codeWith yL_holds cL_holds 7 (some .int) [(0, 14, 17, 21), (0, 14, 21, 13)] ∈ TT := tg_3_8 (List.mem_of_getElem? (i := 5) rfl) rfl
theorem m_ml_L_70 : Cond.methodLink RL 70 yX5_holds ∈ TT := tg_3_8 (List.mem_of_getElem? (i := 6) rfl) rfl
theorem m_im_X5_holds : Cond.instanceMethod yX5_holds ∈ TT := tg_3_8 (List.mem_of_getElem? (i := 7) rfl) rfl
theorem m_sl_X5_holds : Cond.selects RX5 yX5_holds yX5_holds ∈ TT := tg_3_8 (List.mem_of_getElem? (i := 8) rfl) rfl
theorem m_cd_X5_holds : Cond.code yX5_holds cX5_holds 6 (some .int) ∈ TT := tg_3_8 (List.mem_of_getElem? (i := 9) rfl) rfl
theorem m_ml_L_192 : Cond.methodLink RL 192 yL_ask ∈ TT := tg_3_8 (List.mem_of_getElem? (i := 10) rfl) rfl
theorem m_st_L_ask : Cond.static yL_ask ∈ TT := tg_3_8 (List.mem_of_getElem? (i := 11) rfl) rfl
theorem m_cd_L_ask : Cond.codeWith yL_ask cL_ask 7 (some .int) [(0, 14, 17, 21), (0, 14, 21, 13)] ∈ TT := tg_3_8 (List.mem_of_getElem? (i := 12) rfl) rfl
theorem m_ml_L_73 : Cond.methodLink RL 73 yX5_ask ∈ TT := tg_3_8 (List.mem_of_getElem? (i := 13) rfl) rfl
theorem m_im_X5_ask : Cond.instanceMethod yX5_ask ∈ TT := tg_3_8 (List.mem_of_getElem? (i := 14) rfl) rfl
theorem m_sl_X5_ask : Cond.selects RX5 yX5_ask yX5_ask ∈ TT := tg_3_8 (List.mem_of_getElem? (i := 15) rfl) rfl
theorem m_cd_X5_ask : Cond.code yX5_ask cX5_ask 8 (some .int) ∈ TT := tg_3_8 (List.mem_of_getElem? (i := 16) rfl) rfl
theorem m_ml_X5_172 : Cond.methodLink RX5 172 yX3_addArm ∈ TT := tg_3_8 (List.mem_of_getElem? (i := 17) rfl) rfl
theorem m_im_X3_addArm : Cond.instanceMethod yX3_addArm ∈ TT := tg_3_8 (List.mem_of_getElem? (i := 18) rfl) rfl
theorem m_sl_X3_addArm : Cond.selects RX3 yX3_addArm yX3_addArm ∈ TT := tg_3_8 (List.mem_of_getElem? (i := 19) rfl) rfl
theorem m_cd_X3_addArm : Cond.code yX3_addArm cX3_addArm 3 none ∈ TT := tg_3_9 (List.mem_of_getElem? (i := 0) rfl) rfl
theorem m_cl_X3_90 : Cond.classLink RX3 90 RX0 ∈ TT := tg_3_9 (List.mem_of_getElem? (i := 1) rfl) rfl
theorem m_nw_X0 : Cond.instantiable RX0 5 ∈ TT := tg_3_9 (List.mem_of_getElem? (i := 2) rfl) rfl
theorem m_ml_X3_97 : Cond.methodLink RX3 97 yX0_init ∈ TT := tg_3_9 (List.mem_of_getElem? (i := 3) rfl) rfl
theorem m_im_X0_init : Cond.instanceMethod yX0_init ∈ TT := tg_3_9 (List.mem_of_getElem? (i := 4) rfl) rfl
theorem m_cd_X0_init : Cond.code yX0_init cX0_init 4 none ∈ TT := tg_3_9 (List.mem_of_getElem? (i := 5) rfl) rfl
theorem m_ml_X0_1 : Cond.methodLink RX0 1 ⟨"java/lang/Object", "<init>", "()V"⟩ ∈ TT := tg_3_9 (List.mem_of_getElem? (i := 6) rfl) rfl
theorem m_fl_X0_7 : Cond.fieldLink RX0 7 "DaybreakFlags$Arm" "user" "I" ∈ TT := tg_3_9 (List.mem_of_getElem? (i := 7) rfl) rfl
theorem m_fl_X0_13 : Cond.fieldLink RX0 13 "DaybreakFlags$Arm" "variant" "I" ∈ TT := tg_3_9 (List.mem_of_getElem? (i := 9) rfl) rfl
theorem m_fl_X0_16 : Cond.fieldLink RX0 16 "DaybreakFlags$Arm" "older" "LDaybreakFlags$Arm;" ∈ TT := tg_3_9 (List.mem_of_getElem? (i := 12) rfl) rfl
theorem m_ml_X3_100 : Cond.methodLink RX3 100 yX4_countArm ∈ TT := tg_3_10 (List.mem_of_getElem? (i := 7) rfl) rfl
theorem m_im_X4_countArm : Cond.instanceMethod yX4_countArm ∈ TT := tg_3_10 (List.mem_of_getElem? (i := 8) rfl) rfl
theorem m_sl_X4_countArm : Cond.selects RX4 yX4_countArm yX4_countArm ∈ TT := tg_3_10 (List.mem_of_getElem? (i := 9) rfl) rfl
theorem m_cd_X4_countArm : Cond.code yX4_countArm cX4_countArm 2 none ∈ TT := tg_3_10 (List.mem_of_getElem? (i := 10) rfl) rfl
theorem m_ml_L_195 : Cond.methodLink RL 195 yL_act ∈ TT := tg_3_10 (List.mem_of_getElem? (i := 11) rfl) rfl
theorem m_st_L_act : Cond.static yL_act ∈ TT := tg_3_10 (List.mem_of_getElem? (i := 12) rfl) rfl
theorem m_cd_L_act : Cond.codeWith yL_act cL_act 5 (some .int) [(0, 10, 13, 13)] ∈ TT := tg_3_10 (List.mem_of_getElem? (i := 13) rfl) rfl
theorem m_ml_L_76 : Cond.methodLink RL 76 yX5_act ∈ TT := tg_3_10 (List.mem_of_getElem? (i := 14) rfl) rfl
theorem m_im_X5_act : Cond.instanceMethod yX5_act ∈ TT := tg_3_10 (List.mem_of_getElem? (i := 15) rfl) rfl
theorem m_sl_X5_act : Cond.selects RX5 yX5_act yX5_act ∈ TT := tg_3_10 (List.mem_of_getElem? (i := 16) rfl) rfl
theorem m_cd_X5_act : Cond.code yX5_act cX5_act 8 (some .int) ∈ TT := tg_3_10 (List.mem_of_getElem? (i := 17) rfl) rfl
theorem m_ml_X5_177 : Cond.methodLink RX5 177 yX3_addWorth ∈ TT := tg_3_10 (List.mem_of_getElem? (i := 19) rfl) rfl
theorem m_im_X3_addWorth : Cond.instanceMethod yX3_addWorth ∈ TT := tg_3_11 (List.mem_of_getElem? (i := 0) rfl) rfl
theorem m_sl_X3_addWorth : Cond.selects RX3 yX3_addWorth yX3_addWorth ∈ TT := tg_3_11 (List.mem_of_getElem? (i := 1) rfl) rfl
theorem m_cd_X3_addWorth : Cond.code yX3_addWorth cX3_addWorth 4 (some .boolean) ∈ TT := tg_3_11 (List.mem_of_getElem? (i := 2) rfl) rfl
theorem m_ml_X3_104 : Cond.methodLink RX3 104 yX3_armOf ∈ TT := tg_3_11 (List.mem_of_getElem? (i := 3) rfl) rfl
theorem m_ml_X3_117 : Cond.methodLink RX3 117 yX4_countAct ∈ TT := tg_3_11 (List.mem_of_getElem? (i := 4) rfl) rfl
theorem m_im_X4_countAct : Cond.instanceMethod yX4_countAct ∈ TT := tg_3_11 (List.mem_of_getElem? (i := 5) rfl) rfl
theorem m_sl_X4_countAct : Cond.selects RX4 yX4_countAct yX4_countAct ∈ TT := tg_3_11 (List.mem_of_getElem? (i := 6) rfl) rfl
theorem m_cd_X4_countAct : Cond.code yX4_countAct cX4_countAct 8 none ∈ TT := tg_3_11 (List.mem_of_getElem? (i := 7) rfl) rfl
theorem m_ml_L_198 : Cond.methodLink RL 198 yL_arm ∈ TT := tg_3_11 (List.mem_of_getElem? (i := 8) rfl) rfl
theorem m_st_L_arm : Cond.static yL_arm ∈ TT := tg_3_11 (List.mem_of_getElem? (i := 9) rfl) rfl
theorem m_cd_L_arm : Cond.codeWith yL_arm cL_arm 5 (some .int) [(0, 10, 13, 21), (0, 10, 17, 13)] ∈ TT := tg_3_11 (List.mem_of_getElem? (i := 10) rfl) rfl
theorem m_ml_L_79 : Cond.methodLink RL 79 yX5_arm ∈ TT := tg_3_11 (List.mem_of_getElem? (i := 11) rfl) rfl
theorem m_ml_L_205 : Cond.methodLink RL 205 yL_told ∈ TT := tg_3_11 (List.mem_of_getElem? (i := 12) rfl) rfl
theorem m_st_L_told : Cond.static yL_told ∈ TT := tg_3_11 (List.mem_of_getElem? (i := 13) rfl) rfl
theorem m_cd_L_told : Cond.codeWith yL_told cL_told 6 (some .int) [(0, 12, 15, 21), (0, 12, 19, 13)] ∈ TT := tg_3_11 (List.mem_of_getElem? (i := 14) rfl) rfl
theorem m_ml_L_82 : Cond.methodLink RL 82 yX5_told ∈ TT := tg_3_11 (List.mem_of_getElem? (i := 15) rfl) rfl
theorem m_ml_L_208 : Cond.methodLink RL 208 yL_mean ∈ TT := tg_3_11 (List.mem_of_getElem? (i := 16) rfl) rfl
theorem m_st_L_mean : Cond.static yL_mean ∈ TT := tg_3_11 (List.mem_of_getElem? (i := 17) rfl) rfl
theorem m_cd_L_mean : Cond.codeWith yL_mean cL_mean 5 (some .int) [(0, 9, 12, 21)] ∈ TT := tg_3_11 (List.mem_of_getElem? (i := 18) rfl) rfl
theorem m_ml_L_85 : Cond.methodLink RL 85 yX5_mean ∈ TT := tg_3_11 (List.mem_of_getElem? (i := 19) rfl) rfl
theorem m_im_X5_mean : Cond.instanceMethod yX5_mean ∈ TT := tg_4_0 (List.mem_of_getElem? (i := 0) rfl) rfl
theorem m_sl_X5_mean : Cond.selects RX5 yX5_mean yX5_mean ∈ TT := tg_4_0 (List.mem_of_getElem? (i := 1) rfl) rfl
theorem m_cd_X5_mean : Cond.code yX5_mean cX5_mean 4 (some .double) ∈ TT := tg_4_0 (List.mem_of_getElem? (i := 2) rfl) rfl
theorem m_ml_X5_209 : Cond.methodLink RX5 209 yX4_meanOf ∈ TT := tg_4_0 (List.mem_of_getElem? (i := 3) rfl) rfl
theorem m_ml_L_212 : Cond.methodLink RL 212 yL_lift ∈ TT := tg_4_0 (List.mem_of_getElem? (i := 4) rfl) rfl
theorem m_st_L_lift : Cond.static yL_lift ∈ TT := tg_4_0 (List.mem_of_getElem? (i := 5) rfl) rfl
theorem m_cd_L_lift : Cond.codeWith yL_lift cL_lift 5 (some .int) [(0, 9, 12, 21)] ∈ TT := tg_4_0 (List.mem_of_getElem? (i := 6) rfl) rfl
theorem m_ml_L_89 : Cond.methodLink RL 89 yX5_lift ∈ TT := tg_4_0 (List.mem_of_getElem? (i := 7) rfl) rfl
theorem m_im_X5_lift : Cond.instanceMethod yX5_lift ∈ TT := tg_4_0 (List.mem_of_getElem? (i := 8) rfl) rfl
theorem m_sl_X5_lift : Cond.selects RX5 yX5_lift yX5_lift ∈ TT := tg_4_0 (List.mem_of_getElem? (i := 9) rfl) rfl
theorem m_cd_X5_lift : Cond.code yX5_lift cX5_lift 4 (some .double) ∈ TT := tg_4_0 (List.mem_of_getElem? (i := 10) rfl) rfl
theorem m_ml_X5_213 : Cond.methodLink RX5 213 yX4_liftOf ∈ TT := tg_4_0 (List.mem_of_getElem? (i := 11) rfl) rfl
theorem m_im_X4_liftOf : Cond.instanceMethod yX4_liftOf ∈ TT := tg_4_0 (List.mem_of_getElem? (i := 12) rfl) rfl
theorem m_sl_X4_liftOf : Cond.selects RX4 yX4_liftOf yX4_liftOf ∈ TT := tg_4_0 (List.mem_of_getElem? (i := 13) rfl) rfl
theorem m_cd_X4_liftOf : Cond.code yX4_liftOf cX4_liftOf 2 (some .double) ∈ TT := tg_4_0 (List.mem_of_getElem? (i := 14) rfl) rfl
theorem m_ml_L_215 : Cond.methodLink RL 215 yL_sure ∈ TT := tg_4_0 (List.mem_of_getElem? (i := 15) rfl) rfl
theorem m_st_L_sure : Cond.static yL_sure ∈ TT := tg_4_0 (List.mem_of_getElem? (i := 16) rfl) rfl
theorem m_cd_L_sure : Cond.codeWith yL_sure cL_sure 5 (some .int) [(0, 9, 12, 21)] ∈ TT := tg_4_0 (List.mem_of_getElem? (i := 17) rfl) rfl
theorem m_ml_L_92 : Cond.methodLink RL 92 yX5_sure ∈ TT := tg_4_0 (List.mem_of_getElem? (i := 18) rfl) rfl
theorem m_im_X5_sure : Cond.instanceMethod yX5_sure ∈ TT := tg_4_0 (List.mem_of_getElem? (i := 19) rfl) rfl
theorem m_sl_X5_sure : Cond.selects RX5 yX5_sure yX5_sure ∈ TT := tg_4_1 (List.mem_of_getElem? (i := 0) rfl) rfl
theorem m_cd_X5_sure : Cond.code yX5_sure cX5_sure 4 (some .double) ∈ TT := tg_4_1 (List.mem_of_getElem? (i := 1) rfl) rfl
theorem m_ml_X5_216 : Cond.methodLink RX5 216 yX4_surenessOf ∈ TT := tg_4_1 (List.mem_of_getElem? (i := 2) rfl) rfl
theorem m_im_X4_surenessOf : Cond.instanceMethod yX4_surenessOf ∈ TT := tg_4_1 (List.mem_of_getElem? (i := 3) rfl) rfl
theorem m_sl_X4_surenessOf : Cond.selects RX4 yX4_surenessOf yX4_surenessOf ∈ TT := tg_4_1 (List.mem_of_getElem? (i := 4) rfl) rfl
theorem m_cd_X4_surenessOf : Cond.code yX4_surenessOf cX4_surenessOf 6 (some .double) ∈ TT := tg_4_1 (List.mem_of_getElem? (i := 5) rfl) rfl
theorem m_ml_X4_44 : Cond.methodLink RX4 44 yX4_spreadByCount ∈ TT := tg_4_1 (List.mem_of_getElem? (i := 6) rfl) rfl
theorem m_im_X4_spreadByCount : Cond.instanceMethod yX4_spreadByCount ∈ TT := tg_4_1 (List.mem_of_getElem? (i := 8) rfl) rfl
theorem m_cd_X4_spreadByCount : Cond.code yX4_spreadByCount cX4_spreadByCount 7 (some .double) ∈ TT := tg_4_1 (List.mem_of_getElem? (i := 9) rfl) rfl
theorem m_ml_X4_50 : Cond.methodLink RX4 50 yX4_squaresOf ∈ TT := tg_4_1 (List.mem_of_getElem? (i := 10) rfl) rfl
theorem m_ml_X4_47 : Cond.methodLink RX4 47 yX4_liftOf ∈ TT := tg_4_1 (List.mem_of_getElem? (i := 11) rfl) rfl
theorem m_ml_L_218 : Cond.methodLink RL 218 yL_bad ∈ TT := tg_4_1 (List.mem_of_getElem? (i := 12) rfl) rfl
theorem m_st_L_bad : Cond.static yL_bad ∈ TT := tg_4_1 (List.mem_of_getElem? (i := 13) rfl) rfl
theorem m_cd_L_bad : Cond.codeWith yL_bad cL_bad 4 (some .int) [(0, 9, 12, 21)] ∈ TT := tg_4_1 (List.mem_of_getElem? (i := 14) rfl) rfl
theorem m_ml_L_95 : Cond.methodLink RL 95 yX5_bad ∈ TT := tg_4_1 (List.mem_of_getElem? (i := 15) rfl) rfl
theorem m_ml_L_221 : Cond.methodLink RL 221 yL_isTrusted ∈ TT := tg_4_1 (List.mem_of_getElem? (i := 16) rfl) rfl
theorem m_st_L_isTrusted : Cond.static yL_isTrusted ∈ TT := tg_4_1 (List.mem_of_getElem? (i := 17) rfl) rfl
theorem m_cd_L_isTrusted : Cond.codeWith yL_isTrusted cL_isTrusted 4 (some .int) [(0, 16, 19, 21)] ∈ TT := tg_4_1 (List.mem_of_getElem? (i := 18) rfl) rfl
theorem m_ml_L_98 : Cond.methodLink RL 98 yX5_isTrusted ∈ TT := tg_4_1 (List.mem_of_getElem? (i := 19) rfl) rfl
theorem m_ml_L_224 : Cond.methodLink RL 224 yL_best ∈ TT := tg_4_2 (List.mem_of_getElem? (i := 0) rfl) rfl
theorem m_st_L_best : Cond.static yL_best ∈ TT := tg_4_2 (List.mem_of_getElem? (i := 1) rfl) rfl
theorem m_cd_L_best : Cond.codeWith yL_best cL_best 4 (some .int) [(0, 9, 12, 21)] ∈ TT := tg_4_2 (List.mem_of_getElem? (i := 2) rfl) rfl
theorem m_ml_L_102 : Cond.methodLink RL 102 yX5_best ∈ TT := tg_4_2 (List.mem_of_getElem? (i := 3) rfl) rfl
theorem m_ml_L_227 : Cond.methodLink RL 227 yL_reach ∈ TT := tg_4_2 (List.mem_of_getElem? (i := 4) rfl) rfl
theorem m_st_L_reach : Cond.static yL_reach ∈ TT := tg_4_2 (List.mem_of_getElem? (i := 5) rfl) rfl
theorem m_cd_L_reach : Cond.codeWith yL_reach cL_reach 6 (some .int) [(0, 12, 15, 21), (0, 12, 19, 13)] ∈ TT := tg_4_2 (List.mem_of_getElem? (i := 6) rfl) rfl
theorem m_ml_L_105 : Cond.methodLink RL 105 yX5_reach ∈ TT := tg_4_2 (List.mem_of_getElem? (i := 7) rfl) rfl
theorem m_ml_L_230 : Cond.methodLink RL 230 yL_both ∈ TT := tg_4_2 (List.mem_of_getElem? (i := 8) rfl) rfl
theorem m_st_L_both : Cond.static yL_both ∈ TT := tg_4_2 (List.mem_of_getElem? (i := 9) rfl) rfl
theorem m_cd_L_both : Cond.codeWith yL_both cL_both 6 (some .int) [(0, 12, 15, 21), (0, 12, 19, 13)] ∈ TT := tg_4_2 (List.mem_of_getElem? (i := 10) rfl) rfl
theorem m_ml_L_108 : Cond.methodLink RL 108 yX5_both ∈ TT := tg_4_2 (List.mem_of_getElem? (i := 11) rfl) rfl
theorem m_im_X5_both : Cond.instanceMethod yX5_both ∈ TT := tg_4_2 (List.mem_of_getElem? (i := 12) rfl) rfl
theorem m_sl_X5_both : Cond.selects RX5 yX5_both yX5_both ∈ TT := tg_4_2 (List.mem_of_getElem? (i := 13) rfl) rfl
theorem m_cd_X5_both : Cond.code yX5_both cX5_both 8 (some .int) ∈ TT := tg_4_2 (List.mem_of_getElem? (i := 14) rfl) rfl
theorem m_ml_L_233 : Cond.methodLink RL 233 yL_wouldChange ∈ TT := tg_4_2 (List.mem_of_getElem? (i := 15) rfl) rfl
theorem m_st_L_wouldChange : Cond.static yL_wouldChange ∈ TT := tg_4_2 (List.mem_of_getElem? (i := 16) rfl) rfl
theorem m_cd_L_wouldChange : Cond.codeWith yL_wouldChange cL_wouldChange 6 (some .int) [(0, 12, 15, 21), (0, 12, 19, 13)] ∈ TT := tg_4_2 (List.mem_of_getElem? (i := 17) rfl) rfl
theorem m_ml_L_111 : Cond.methodLink RL 111 yX5_wouldChange ∈ TT := tg_4_2 (List.mem_of_getElem? (i := 18) rfl) rfl
theorem m_im_X5_wouldChange : Cond.instanceMethod yX5_wouldChange ∈ TT := tg_4_2 (List.mem_of_getElem? (i := 19) rfl) rfl
theorem m_sl_X5_wouldChange : Cond.selects RX5 yX5_wouldChange yX5_wouldChange ∈ TT := tg_4_3 (List.mem_of_getElem? (i := 0) rfl) rfl
theorem m_cd_X5_wouldChange : Cond.code yX5_wouldChange cX5_wouldChange 8 (some .int) ∈ TT := tg_4_3 (List.mem_of_getElem? (i := 1) rfl) rfl
theorem m_ml_X5_238 : Cond.methodLink RX5 238 yX1_supposeRamp ∈ TT := tg_4_3 (List.mem_of_getElem? (i := 3) rfl) rfl
theorem m_im_X1_supposeRamp : Cond.instanceMethod yX1_supposeRamp ∈ TT := tg_4_3 (List.mem_of_getElem? (i := 4) rfl) rfl
theorem m_sl_X1_supposeRamp : Cond.selects RX1 yX1_supposeRamp yX1_supposeRamp ∈ TT := tg_4_3 (List.mem_of_getElem? (i := 5) rfl) rfl
theorem m_cd_X1_supposeRamp : Cond.code yX1_supposeRamp cX1_supposeRamp 3 none ∈ TT := tg_4_3 (List.mem_of_getElem? (i := 6) rfl) rfl
theorem m_ml_L_236 : Cond.methodLink RL 236 yL_wouldTurn ∈ TT := tg_4_3 (List.mem_of_getElem? (i := 7) rfl) rfl
theorem m_st_L_wouldTurn : Cond.static yL_wouldTurn ∈ TT := tg_4_3 (List.mem_of_getElem? (i := 8) rfl) rfl
theorem m_cd_L_wouldTurn : Cond.codeWith yL_wouldTurn cL_wouldTurn 5 (some .int) [(0, 10, 13, 21), (0, 10, 17, 13)] ∈ TT := tg_4_3 (List.mem_of_getElem? (i := 9) rfl) rfl
theorem m_ml_L_114 : Cond.methodLink RL 114 yX5_wouldTurn ∈ TT := tg_4_3 (List.mem_of_getElem? (i := 10) rfl) rfl
theorem m_im_X5_wouldTurn : Cond.instanceMethod yX5_wouldTurn ∈ TT := tg_4_3 (List.mem_of_getElem? (i := 11) rfl) rfl
theorem m_sl_X5_wouldTurn : Cond.selects RX5 yX5_wouldTurn yX5_wouldTurn ∈ TT := tg_4_3 (List.mem_of_getElem? (i := 12) rfl) rfl
theorem m_cd_X5_wouldTurn : Cond.code yX5_wouldTurn cX5_wouldTurn 5 (some .int) ∈ TT := tg_4_3 (List.mem_of_getElem? (i := 13) rfl) rfl
theorem m_ml_X5_241 : Cond.methodLink RX5 241 yX5_changesByTurning ∈ TT := tg_4_3 (List.mem_of_getElem? (i := 14) rfl) rfl
theorem m_im_X5_changesByTurning : Cond.instanceMethod yX5_changesByTurning ∈ TT := tg_4_3 (List.mem_of_getElem? (i := 16) rfl) rfl
theorem m_cd_X5_changesByTurning : Cond.code yX5_changesByTurning cX5_changesByTurning 6 (some .boolean) ∈ TT := tg_4_3 (List.mem_of_getElem? (i := 17) rfl) rfl
theorem m_ml_X5_356 : Cond.methodLink RX5 356 yX1_supposeTurned ∈ TT := tg_4_3 (List.mem_of_getElem? (i := 18) rfl) rfl
theorem m_im_X1_supposeTurned : Cond.instanceMethod yX1_supposeTurned ∈ TT := tg_4_3 (List.mem_of_getElem? (i := 19) rfl) rfl
theorem m_sl_X1_supposeTurned : Cond.selects RX1 yX1_supposeTurned yX1_supposeTurned ∈ TT := tg_4_4 (List.mem_of_getElem? (i := 0) rfl) rfl
theorem m_cd_X1_supposeTurned : Cond.code yX1_supposeTurned cX1_supposeTurned 2 none ∈ TT := tg_4_4 (List.mem_of_getElem? (i := 1) rfl) rfl
theorem m_ml_L_239 : Cond.methodLink RL 239 yL_shareIn ∈ TT := tg_4_4 (List.mem_of_getElem? (i := 2) rfl) rfl
theorem m_st_L_shareIn : Cond.static yL_shareIn ∈ TT := tg_4_4 (List.mem_of_getElem? (i := 3) rfl) rfl
theorem m_cd_L_shareIn : Cond.codeWith yL_shareIn cL_shareIn 5 (some .int) [(0, 10, 13, 21), (0, 10, 17, 13)] ∈ TT := tg_4_4 (List.mem_of_getElem? (i := 4) rfl) rfl
theorem m_ml_L_117 : Cond.methodLink RL 117 yX5_shareIn ∈ TT := tg_4_4 (List.mem_of_getElem? (i := 5) rfl) rfl
theorem m_im_X5_shareIn : Cond.instanceMethod yX5_shareIn ∈ TT := tg_4_4 (List.mem_of_getElem? (i := 6) rfl) rfl
theorem m_sl_X5_shareIn : Cond.selects RX5 yX5_shareIn yX5_shareIn ∈ TT := tg_4_4 (List.mem_of_getElem? (i := 7) rfl) rfl
theorem m_cd_X5_shareIn : Cond.code yX5_shareIn cX5_shareIn 4 (some .int) ∈ TT := tg_4_4 (List.mem_of_getElem? (i := 8) rfl) rfl
theorem m_cl_L_121 : Cond.classLink RL 121 RX6 ∈ TT := tg_4_4 (List.mem_of_getElem? (i := 9) rfl) rfl
theorem m_nw_X6 : Cond.instantiable RX6 29 ∈ TT := tg_4_4 (List.mem_of_getElem? (i := 10) rfl) rfl
theorem m_ml_L_123 : Cond.methodLink RL 123 yX6_init ∈ TT := tg_4_4 (List.mem_of_getElem? (i := 11) rfl) rfl
theorem m_im_X6_init : Cond.instanceMethod yX6_init ∈ TT := tg_4_4 (List.mem_of_getElem? (i := 12) rfl) rfl
theorem m_cd_X6_init : Cond.code yX6_init cX6_init 1 none ∈ TT := tg_4_4 (List.mem_of_getElem? (i := 13) rfl) rfl
theorem m_ml_X6_1 : Cond.methodLink RX6 1 ⟨"java/lang/Object", "<init>", "()V"⟩ ∈ TT := tg_4_4 (List.mem_of_getElem? (i := 14) rfl) rfl
theorem m_fl_X6_80 : Cond.fieldLink RX6 80 "DaybreakFlagsModel" "thrown" "I" ∈ TT := tg_4_4 (List.mem_of_getElem? (i := 15) rfl) rfl
theorem m_fl_X6_99 : Cond.fieldLink RX6 99 "DaybreakFlagsModel" "clock" "I" ∈ TT := tg_4_4 (List.mem_of_getElem? (i := 16) rfl) rfl
theorem m_fl_X6_136 : Cond.fieldLink RX6 136 "DaybreakFlagsModel" "holdout" "I" ∈ TT := tg_4_4 (List.mem_of_getElem? (i := 17) rfl) rfl
theorem m_fl_X6_84 : Cond.fieldLink RX6 84 "DaybreakFlagsModel" "switches" "I" ∈ TT := tg_4_4 (List.mem_of_getElem? (i := 18) rfl) rfl
theorem m_fl_X6_9 : Cond.fieldLink RX6 9 "DaybreakFlagsModel" "salt" "[I" ∈ TT := tg_4_4 (List.mem_of_getElem? (i := 19) rfl) rfl
theorem m_fl_X6_13 : Cond.fieldLink RX6 13 "DaybreakFlagsModel" "variants" "[I" ∈ TT := tg_4_5 (List.mem_of_getElem? (i := 0) rfl) rfl
theorem m_fl_X6_16 : Cond.fieldLink RX6 16 "DaybreakFlagsModel" "weight" "[I" ∈ TT := tg_4_5 (List.mem_of_getElem? (i := 1) rfl) rfl
theorem m_fl_X6_19 : Cond.fieldLink RX6 19 "DaybreakFlagsModel" "share" "[I" ∈ TT := tg_4_5 (List.mem_of_getElem? (i := 2) rfl) rfl
theorem m_fl_X6_22 : Cond.fieldLink RX6 22 "DaybreakFlagsModel" "step" "[I" ∈ TT := tg_4_5 (List.mem_of_getElem? (i := 3) rfl) rfl
theorem m_fl_X6_25 : Cond.fieldLink RX6 25 "DaybreakFlagsModel" "since" "[I" ∈ TT := tg_4_5 (List.mem_of_getElem? (i := 4) rfl) rfl
theorem m_fl_X6_28 : Cond.fieldLink RX6 28 "DaybreakFlagsModel" "isSticky" "[Z" ∈ TT := tg_4_5 (List.mem_of_getElem? (i := 5) rfl) rfl
theorem m_fl_X6_32 : Cond.fieldLink RX6 32 "DaybreakFlagsModel" "isOn" "[Z" ∈ TT := tg_4_5 (List.mem_of_getElem? (i := 6) rfl) rfl
theorem m_fl_X6_35 : Cond.fieldLink RX6 35 "DaybreakFlagsModel" "layer" "[I" ∈ TT := tg_4_5 (List.mem_of_getElem? (i := 7) rfl) rfl
theorem m_fl_X6_38 : Cond.fieldLink RX6 38 "DaybreakFlagsModel" "from" "[I" ∈ TT := tg_4_5 (List.mem_of_getElem? (i := 8) rfl) rfl
theorem m_fl_X6_41 : Cond.fieldLink RX6 41 "DaybreakFlagsModel" "to" "[I" ∈ TT := tg_4_5 (List.mem_of_getElem? (i := 9) rfl) rfl
theorem m_fl_X6_44 : Cond.fieldLink RX6 44 "DaybreakFlagsModel" "needs" "[I" ∈ TT := tg_4_5 (List.mem_of_getElem? (i := 10) rfl) rfl
theorem m_fl_X6_47 : Cond.fieldLink RX6 47 "DaybreakFlagsModel" "needed" "[I" ∈ TT := tg_4_5 (List.mem_of_getElem? (i := 11) rfl) rfl
theorem m_fl_X6_50 : Cond.fieldLink RX6 50 "DaybreakFlagsModel" "rules" "[I" ∈ TT := tg_4_5 (List.mem_of_getElem? (i := 12) rfl) rfl
theorem m_fl_X6_53 : Cond.fieldLink RX6 53 "DaybreakFlagsModel" "mark" "[I" ∈ TT := tg_4_5 (List.mem_of_getElem? (i := 13) rfl) rfl
theorem m_fl_X6_56 : Cond.fieldLink RX6 56 "DaybreakFlagsModel" "how" "[I" ∈ TT := tg_4_5 (List.mem_of_getElem? (i := 14) rfl) rfl
theorem m_fl_X6_59 : Cond.fieldLink RX6 59 "DaybreakFlagsModel" "limit" "[I" ∈ TT := tg_4_5 (List.mem_of_getElem? (i := 15) rfl) rfl
theorem m_fl_X6_62 : Cond.fieldLink RX6 62 "DaybreakFlagsModel" "comes" "[I" ∈ TT := tg_4_5 (List.mem_of_getElem? (i := 16) rfl) rfl
theorem m_fl_X6_151 : Cond.fieldLink RX6 151 "DaybreakFlagsModel" "arms" "I" ∈ TT := tg_4_5 (List.mem_of_getElem? (i := 17) rfl) rfl
theorem m_fl_X6_65 : Cond.fieldLink RX6 65 "DaybreakFlagsModel" "armOf" "[I" ∈ TT := tg_4_5 (List.mem_of_getElem? (i := 18) rfl) rfl
theorem m_fl_X6_68 : Cond.fieldLink RX6 68 "DaybreakFlagsModel" "armUser" "[I" ∈ TT := tg_4_5 (List.mem_of_getElem? (i := 19) rfl) rfl
theorem m_fl_X6_71 : Cond.fieldLink RX6 71 "DaybreakFlagsModel" "armVariant" "[I" ∈ TT := tg_4_6 (List.mem_of_getElem? (i := 0) rfl) rfl
theorem m_fl_X6_74 : Cond.fieldLink RX6 74 "DaybreakFlagsModel" "armSum" "[I" ∈ TT := tg_4_6 (List.mem_of_getElem? (i := 1) rfl) rfl
theorem m_fl_X6_77 : Cond.fieldLink RX6 77 "DaybreakFlagsModel" "hasActed" "[Z" ∈ TT := tg_4_6 (List.mem_of_getElem? (i := 2) rfl) rfl
theorem m_fl_X6_165 : Cond.fieldLink RX6 165 "DaybreakFlagsModel" "reason" "I" ∈ TT := tg_4_6 (List.mem_of_getElem? (i := 3) rfl) rfl
theorem m_ar_boolean : Cond.arrayClass .boolean ∈ TT := tg_4_9 (List.mem_of_getElem? (i := 3) rfl) rfl
theorem m_ml_L_186 : Cond.methodLink RL 186 yX6_thrown ∈ TT := tg_4_9 (List.mem_of_getElem? (i := 4) rfl) rfl
theorem m_im_X6_thrown : Cond.instanceMethod yX6_thrown ∈ TT := tg_4_9 (List.mem_of_getElem? (i := 5) rfl) rfl
theorem m_sl_X6_thrown : Cond.selects RX6 yX6_thrown yX6_thrown ∈ TT := tg_4_9 (List.mem_of_getElem? (i := 6) rfl) rfl
theorem m_cd_X6_thrown : Cond.code yX6_thrown cX6_thrown 1 (some .int) ∈ TT := tg_4_9 (List.mem_of_getElem? (i := 7) rfl) rfl
theorem m_ml_L_129 : Cond.methodLink RL 129 yX6_add ∈ TT := tg_4_9 (List.mem_of_getElem? (i := 8) rfl) rfl
theorem m_im_X6_add : Cond.instanceMethod yX6_add ∈ TT := tg_4_9 (List.mem_of_getElem? (i := 9) rfl) rfl
theorem m_sl_X6_add : Cond.selects RX6 yX6_add yX6_add ∈ TT := tg_4_9 (List.mem_of_getElem? (i := 10) rfl) rfl
theorem m_cd_X6_add : Cond.code yX6_add cX6_add 4 (some .int) ∈ TT := tg_4_9 (List.mem_of_getElem? (i := 11) rfl) rfl
theorem m_ml_X6_87 : Cond.methodLink RX6 87 yX6_isIn ∈ TT := tg_4_9 (List.mem_of_getElem? (i := 12) rfl) rfl
theorem m_st_X6_isIn : Cond.static yX6_isIn ∈ TT := tg_4_9 (List.mem_of_getElem? (i := 13) rfl) rfl
theorem m_cd_X6_isIn : Cond.code yX6_isIn cX6_isIn 3 (some .boolean) ∈ TT := tg_4_9 (List.mem_of_getElem? (i := 14) rfl) rfl
theorem m_ml_X6_95 : Cond.methodLink RX6 95 yX6_no ∈ TT := tg_4_9 (List.mem_of_getElem? (i := 15) rfl) rfl
theorem m_im_X6_no : Cond.instanceMethod yX6_no ∈ TT := tg_4_9 (List.mem_of_getElem? (i := 17) rfl) rfl
theorem m_cd_X6_no : Cond.code yX6_no cX6_no 2 (some .int) ∈ TT := tg_4_9 (List.mem_of_getElem? (i := 18) rfl) rfl
theorem m_ml_L_133 : Cond.methodLink RL 133 yX6_weigh ∈ TT := tg_4_9 (List.mem_of_getElem? (i := 19) rfl) rfl
theorem m_im_X6_weigh : Cond.instanceMethod yX6_weigh ∈ TT := tg_4_10 (List.mem_of_getElem? (i := 0) rfl) rfl
theorem m_sl_X6_weigh : Cond.selects RX6 yX6_weigh yX6_weigh ∈ TT := tg_4_10 (List.mem_of_getElem? (i := 1) rfl) rfl
theorem m_cd_X6_weigh : Cond.code yX6_weigh cX6_weigh 5 (some .int) ∈ TT := tg_4_10 (List.mem_of_getElem? (i := 2) rfl) rfl
theorem m_ml_X6_102 : Cond.methodLink RX6 102 yX6_isVariant ∈ TT := tg_4_10 (List.mem_of_getElem? (i := 3) rfl) rfl
theorem m_im_X6_isVariant : Cond.instanceMethod yX6_isVariant ∈ TT := tg_4_10 (List.mem_of_getElem? (i := 5) rfl) rfl
theorem m_cd_X6_isVariant : Cond.code yX6_isVariant cX6_isVariant 3 (some .boolean) ∈ TT := tg_4_10 (List.mem_of_getElem? (i := 6) rfl) rfl
theorem m_ml_X6_91 : Cond.methodLink RX6 91 yX6_isSwitch ∈ TT := tg_4_10 (List.mem_of_getElem? (i := 7) rfl) rfl
theorem m_im_X6_isSwitch : Cond.instanceMethod yX6_isSwitch ∈ TT := tg_4_10 (List.mem_of_getElem? (i := 9) rfl) rfl
theorem m_cd_X6_isSwitch : Cond.code yX6_isSwitch cX6_isSwitch 2 (some .boolean) ∈ TT := tg_4_10 (List.mem_of_getElem? (i := 10) rfl) rfl
theorem m_ml_L_137 : Cond.methodLink RL 137 yX6_turn ∈ TT := tg_4_10 (List.mem_of_getElem? (i := 11) rfl) rfl
theorem m_im_X6_turn : Cond.instanceMethod yX6_turn ∈ TT := tg_4_10 (List.mem_of_getElem? (i := 12) rfl) rfl
theorem m_sl_X6_turn : Cond.selects RX6 yX6_turn yX6_turn ∈ TT := tg_4_10 (List.mem_of_getElem? (i := 13) rfl) rfl
theorem m_cd_X6_turn : Cond.code yX6_turn cX6_turn 4 (some .boolean) ∈ TT := tg_4_10 (List.mem_of_getElem? (i := 14) rfl) rfl
theorem m_ml_X6_106 : Cond.methodLink RX6 106 yX6_isNot ∈ TT := tg_4_10 (List.mem_of_getElem? (i := 15) rfl) rfl
theorem m_im_X6_isNot : Cond.instanceMethod yX6_isNot ∈ TT := tg_4_10 (List.mem_of_getElem? (i := 17) rfl) rfl
theorem m_cd_X6_isNot : Cond.code yX6_isNot cX6_isNot 2 (some .boolean) ∈ TT := tg_4_10 (List.mem_of_getElem? (i := 18) rfl) rfl
theorem m_ml_L_140 : Cond.methodLink RL 140 yX6_ramp ∈ TT := tg_4_10 (List.mem_of_getElem? (i := 19) rfl) rfl
theorem m_im_X6_ramp : Cond.instanceMethod yX6_ramp ∈ TT := tg_4_11 (List.mem_of_getElem? (i := 0) rfl) rfl
theorem m_sl_X6_ramp : Cond.selects RX6 yX6_ramp yX6_ramp ∈ TT := tg_4_11 (List.mem_of_getElem? (i := 1) rfl) rfl
theorem m_cd_X6_ramp : Cond.code yX6_ramp cX6_ramp 5 (some .int) ∈ TT := tg_4_11 (List.mem_of_getElem? (i := 2) rfl) rfl
theorem m_ml_X6_117 : Cond.methodLink RX6 117 yX6_farIn ∈ TT := tg_4_11 (List.mem_of_getElem? (i := 3) rfl) rfl
theorem m_im_X6_farIn : Cond.instanceMethod yX6_farIn ∈ TT := tg_4_11 (List.mem_of_getElem? (i := 5) rfl) rfl
theorem m_cd_X6_farIn : Cond.code yX6_farIn cX6_farIn 3 (some .int) ∈ TT := tg_4_11 (List.mem_of_getElem? (i := 6) rfl) rfl
theorem m_lc_X6_109 : Cond.constantLong RX6 109 (1000) ∈ TT := tg_4_11 (List.mem_of_getElem? (i := 7) rfl) rfl
theorem m_ml_X6_111 : Cond.methodLink RX6 111 yJ9_min_f86c9 ∈ TT := tg_4_11 (List.mem_of_getElem? (i := 8) rfl) rfl
theorem m_st_J9_min_f86c9 : Cond.static yJ9_min_f86c9 ∈ TT := tg_4_11 (List.mem_of_getElem? (i := 9) rfl) rfl
theorem m_cd_J9_min_f86c9 : Cond.code yJ9_min_f86c9 cJ9_min_f86c9 4 (some .long) ∈ TT := tg_4_11 (List.mem_of_getElem? (i := 10) rfl) rfl
theorem m_ml_L_144 : Cond.methodLink RL 144 yX6_place ∈ TT := tg_4_11 (List.mem_of_getElem? (i := 11) rfl) rfl
theorem m_im_X6_place : Cond.instanceMethod yX6_place ∈ TT := tg_4_11 (List.mem_of_getElem? (i := 12) rfl) rfl
theorem m_sl_X6_place : Cond.selects RX6 yX6_place yX6_place ∈ TT := tg_4_11 (List.mem_of_getElem? (i := 13) rfl) rfl
theorem m_cd_X6_place : Cond.code yX6_place cX6_place 6 (some .int) ∈ TT := tg_4_11 (List.mem_of_getElem? (i := 14) rfl) rfl
theorem m_ml_X6_121 : Cond.methodLink RX6 121 yJ9_max_7cf53 ∈ TT := tg_4_11 (List.mem_of_getElem? (i := 15) rfl) rfl
theorem m_ml_X6_124 : Cond.methodLink RX6 124 yJ9_min_7cf53 ∈ TT := tg_4_11 (List.mem_of_getElem? (i := 16) rfl) rfl
theorem m_ml_L_147 : Cond.methodLink RL 147 yX6_need ∈ TT := tg_4_11 (List.mem_of_getElem? (i := 17) rfl) rfl
theorem m_im_X6_need : Cond.instanceMethod yX6_need ∈ TT := tg_4_11 (List.mem_of_getElem? (i := 18) rfl) rfl
theorem m_sl_X6_need : Cond.selects RX6 yX6_need yX6_need ∈ TT := tg_4_11 (List.mem_of_getElem? (i := 19) rfl) rfl
theorem m_cd_X6_need : Cond.code yX6_need cX6_need 5 (some .int) ∈ TT := tg_5_0 (List.mem_of_getElem? (i := 0) rfl) rfl
theorem m_ml_L_151 : Cond.methodLink RL 151 yX6_rule ∈ TT := tg_5_0 (List.mem_of_getElem? (i := 1) rfl) rfl
theorem m_im_X6_rule : Cond.instanceMethod yX6_rule ∈ TT := tg_5_0 (List.mem_of_getElem? (i := 2) rfl) rfl
theorem m_sl_X6_rule : Cond.selects RX6 yX6_rule yX6_rule ∈ TT := tg_5_0 (List.mem_of_getElem? (i := 3) rfl) rfl
theorem m_cd_X6_rule : Cond.code yX6_rule cX6_rule 7 (some .int) ∈ TT := tg_5_0 (List.mem_of_getElem? (i := 4) rfl) rfl
theorem m_ml_L_155 : Cond.methodLink RL 155 yX6_unrule ∈ TT := tg_5_0 (List.mem_of_getElem? (i := 5) rfl) rfl
theorem m_im_X6_unrule : Cond.instanceMethod yX6_unrule ∈ TT := tg_5_0 (List.mem_of_getElem? (i := 6) rfl) rfl
theorem m_sl_X6_unrule : Cond.selects RX6 yX6_unrule yX6_unrule ∈ TT := tg_5_0 (List.mem_of_getElem? (i := 7) rfl) rfl
theorem m_cd_X6_unrule : Cond.code yX6_unrule cX6_unrule 5 (some .int) ∈ TT := tg_5_0 (List.mem_of_getElem? (i := 8) rfl) rfl
theorem m_ml_X6_132 : Cond.methodLink RX6 132 yX6_moveUp ∈ TT := tg_5_0 (List.mem_of_getElem? (i := 9) rfl) rfl
theorem m_st_X6_moveUp : Cond.static yX6_moveUp ∈ TT := tg_5_0 (List.mem_of_getElem? (i := 10) rfl) rfl
theorem m_cd_X6_moveUp : Cond.code yX6_moveUp cX6_moveUp 3 none ∈ TT := tg_5_0 (List.mem_of_getElem? (i := 11) rfl) rfl
theorem m_ml_X6_126 : Cond.methodLink RX6 126 ⟨"java/lang/System", "arraycopy", "(Ljava/lang/Object;ILjava/lang/Object;II)V"⟩ ∈ TT := tg_5_0 (List.mem_of_getElem? (i := 12) rfl) rfl
theorem m_ml_L_159 : Cond.methodLink RL 159 yX6_hold ∈ TT := tg_5_0 (List.mem_of_getElem? (i := 15) rfl) rfl
theorem m_im_X6_hold : Cond.instanceMethod yX6_hold ∈ TT := tg_5_0 (List.mem_of_getElem? (i := 16) rfl) rfl
theorem m_sl_X6_hold : Cond.selects RX6 yX6_hold yX6_hold ∈ TT := tg_5_0 (List.mem_of_getElem? (i := 17) rfl) rfl
theorem m_cd_X6_hold : Cond.code yX6_hold cX6_hold 3 (some .int) ∈ TT := tg_5_0 (List.mem_of_getElem? (i := 18) rfl) rfl
theorem m_ml_L_162 : Cond.methodLink RL 162 yX6_goOn ∈ TT := tg_5_0 (List.mem_of_getElem? (i := 19) rfl) rfl
theorem m_im_X6_goOn : Cond.instanceMethod yX6_goOn ∈ TT := tg_5_1 (List.mem_of_getElem? (i := 0) rfl) rfl
theorem m_sl_X6_goOn : Cond.selects RX6 yX6_goOn yX6_goOn ∈ TT := tg_5_1 (List.mem_of_getElem? (i := 1) rfl) rfl
theorem m_cd_X6_goOn : Cond.code yX6_goOn cX6_goOn 2 (some .int) ∈ TT := tg_5_1 (List.mem_of_getElem? (i := 2) rfl) rfl
theorem m_ml_L_167 : Cond.methodLink RL 167 yX6_switches ∈ TT := tg_5_1 (List.mem_of_getElem? (i := 3) rfl) rfl
theorem m_im_X6_switches : Cond.instanceMethod yX6_switches ∈ TT := tg_5_1 (List.mem_of_getElem? (i := 4) rfl) rfl
theorem m_sl_X6_switches : Cond.selects RX6 yX6_switches yX6_switches ∈ TT := tg_5_1 (List.mem_of_getElem? (i := 5) rfl) rfl
theorem m_cd_X6_switches : Cond.code yX6_switches cX6_switches 1 (some .int) ∈ TT := tg_5_1 (List.mem_of_getElem? (i := 6) rfl) rfl
theorem m_ml_X6_139 : Cond.methodLink RX6 139 yX6_ok ∈ TT := tg_5_1 (List.mem_of_getElem? (i := 7) rfl) rfl
theorem m_im_X6_ok : Cond.instanceMethod yX6_ok ∈ TT := tg_5_1 (List.mem_of_getElem? (i := 9) rfl) rfl
theorem m_cd_X6_ok : Cond.code yX6_ok cX6_ok 2 (some .int) ∈ TT := tg_5_1 (List.mem_of_getElem? (i := 10) rfl) rfl
theorem m_ml_L_170 : Cond.methodLink RL 170 yX6_weight ∈ TT := tg_5_1 (List.mem_of_getElem? (i := 11) rfl) rfl
theorem m_im_X6_weight : Cond.instanceMethod yX6_weight ∈ TT := tg_5_1 (List.mem_of_getElem? (i := 12) rfl) rfl
theorem m_sl_X6_weight : Cond.selects RX6 yX6_weight yX6_weight ∈ TT := tg_5_1 (List.mem_of_getElem? (i := 13) rfl) rfl
theorem m_cd_X6_weight : Cond.code yX6_weight cX6_weight 3 (some .int) ∈ TT := tg_5_1 (List.mem_of_getElem? (i := 14) rfl) rfl
theorem m_ml_L_173 : Cond.methodLink RL 173 yX6_share ∈ TT := tg_5_1 (List.mem_of_getElem? (i := 15) rfl) rfl
theorem m_im_X6_share : Cond.instanceMethod yX6_share ∈ TT := tg_5_1 (List.mem_of_getElem? (i := 16) rfl) rfl
theorem m_sl_X6_share : Cond.selects RX6 yX6_share yX6_share ∈ TT := tg_5_1 (List.mem_of_getElem? (i := 17) rfl) rfl
theorem m_cd_X6_share : Cond.code yX6_share cX6_share 2 (some .int) ∈ TT := tg_5_1 (List.mem_of_getElem? (i := 18) rfl) rfl
theorem m_ml_L_176 : Cond.methodLink RL 176 yX6_left ∈ TT := tg_5_1 (List.mem_of_getElem? (i := 19) rfl) rfl
theorem m_im_X6_left : Cond.instanceMethod yX6_left ∈ TT := tg_5_2 (List.mem_of_getElem? (i := 0) rfl) rfl
theorem m_sl_X6_left : Cond.selects RX6 yX6_left yX6_left ∈ TT := tg_5_2 (List.mem_of_getElem? (i := 1) rfl) rfl
theorem m_cd_X6_left : Cond.code yX6_left cX6_left 2 (some .int) ∈ TT := tg_5_2 (List.mem_of_getElem? (i := 2) rfl) rfl
theorem m_ml_X6_142 : Cond.methodLink RX6 142 yX6_leftIn ∈ TT := tg_5_2 (List.mem_of_getElem? (i := 3) rfl) rfl
theorem m_im_X6_leftIn : Cond.instanceMethod yX6_leftIn ∈ TT := tg_5_2 (List.mem_of_getElem? (i := 5) rfl) rfl
theorem m_cd_X6_leftIn : Cond.code yX6_leftIn cX6_leftIn 4 (some .int) ∈ TT := tg_5_2 (List.mem_of_getElem? (i := 6) rfl) rfl
theorem m_ml_L_179 : Cond.methodLink RL 179 yX6_bucket ∈ TT := tg_5_2 (List.mem_of_getElem? (i := 7) rfl) rfl
theorem m_im_X6_bucket : Cond.instanceMethod yX6_bucket ∈ TT := tg_5_2 (List.mem_of_getElem? (i := 8) rfl) rfl
theorem m_sl_X6_bucket : Cond.selects RX6 yX6_bucket yX6_bucket ∈ TT := tg_5_2 (List.mem_of_getElem? (i := 9) rfl) rfl
theorem m_cd_X6_bucket : Cond.code yX6_bucket cX6_bucket 3 (some .int) ∈ TT := tg_5_2 (List.mem_of_getElem? (i := 10) rfl) rfl
theorem m_ml_X6_145 : Cond.methodLink RX6 145 yX6_isUser ∈ TT := tg_5_2 (List.mem_of_getElem? (i := 11) rfl) rfl
theorem m_st_X6_isUser : Cond.static yX6_isUser ∈ TT := tg_5_2 (List.mem_of_getElem? (i := 12) rfl) rfl
theorem m_cd_X6_isUser : Cond.code yX6_isUser cX6_isUser 1 (some .boolean) ∈ TT := tg_5_2 (List.mem_of_getElem? (i := 13) rfl) rfl
theorem m_ml_X6_148 : Cond.methodLink RX6 148 yX6_bucketOf ∈ TT := tg_5_2 (List.mem_of_getElem? (i := 14) rfl) rfl
theorem m_st_X6_bucketOf : Cond.static yX6_bucketOf ∈ TT := tg_5_2 (List.mem_of_getElem? (i := 15) rfl) rfl
theorem m_cd_X6_bucketOf : Cond.code yX6_bucketOf cX6_bucketOf 3 (some .int) ∈ TT := tg_5_2 (List.mem_of_getElem? (i := 16) rfl) rfl
theorem m_ml_L_182 : Cond.methodLink RL 182 yX6_gets ∈ TT := tg_5_2 (List.mem_of_getElem? (i := 17) rfl) rfl
theorem m_im_X6_gets : Cond.instanceMethod yX6_gets ∈ TT := tg_5_2 (List.mem_of_getElem? (i := 18) rfl) rfl
theorem m_sl_X6_gets : Cond.selects RX6 yX6_gets yX6_gets ∈ TT := tg_5_2 (List.mem_of_getElem? (i := 19) rfl) rfl
theorem m_cd_X6_gets : Cond.code yX6_gets cX6_gets 5 (some .int) ∈ TT := tg_5_3 (List.mem_of_getElem? (i := 0) rfl) rfl
theorem m_ml_X6_175 : Cond.methodLink RX6 175 yX6_isAsked ∈ TT := tg_5_3 (List.mem_of_getElem? (i := 1) rfl) rfl
theorem m_im_X6_isAsked : Cond.instanceMethod yX6_isAsked ∈ TT := tg_5_3 (List.mem_of_getElem? (i := 3) rfl) rfl
theorem m_cd_X6_isAsked : Cond.code yX6_isAsked cX6_isAsked 5 (some .boolean) ∈ TT := tg_5_3 (List.mem_of_getElem? (i := 4) rfl) rfl
theorem m_ml_X6_154 : Cond.methodLink RX6 154 yX6_getsOf ∈ TT := tg_5_3 (List.mem_of_getElem? (i := 5) rfl) rfl
theorem m_im_X6_getsOf : Cond.instanceMethod yX6_getsOf ∈ TT := tg_5_3 (List.mem_of_getElem? (i := 7) rfl) rfl
theorem m_cd_X6_getsOf : Cond.code yX6_getsOf cX6_getsOf 5 (some .int) ∈ TT := tg_5_3 (List.mem_of_getElem? (i := 8) rfl) rfl
theorem m_ml_X6_171 : Cond.methodLink RX6 171 yX6_getsNow ∈ TT := tg_5_3 (List.mem_of_getElem? (i := 9) rfl) rfl
theorem m_im_X6_getsNow : Cond.instanceMethod yX6_getsNow ∈ TT := tg_5_3 (List.mem_of_getElem? (i := 11) rfl) rfl
theorem m_cd_X6_getsNow : Cond.code yX6_getsNow cX6_getsNow 9 (some .int) ∈ TT := tg_5_3 (List.mem_of_getElem? (i := 12) rfl) rfl
theorem m_ml_X6_158 : Cond.methodLink RX6 158 yX6_armAt ∈ TT := tg_5_3 (List.mem_of_getElem? (i := 13) rfl) rfl
theorem m_im_X6_armAt : Cond.instanceMethod yX6_armAt ∈ TT := tg_5_3 (List.mem_of_getElem? (i := 15) rfl) rfl
theorem m_cd_X6_armAt : Cond.code yX6_armAt cX6_armAt 4 (some .int) ∈ TT := tg_5_3 (List.mem_of_getElem? (i := 16) rfl) rfl
theorem m_ml_X6_161 : Cond.methodLink RX6 161 yX6_holdsNow ∈ TT := tg_5_3 (List.mem_of_getElem? (i := 17) rfl) rfl
theorem m_im_X6_holdsNow : Cond.instanceMethod yX6_holdsNow ∈ TT := tg_5_3 (List.mem_of_getElem? (i := 19) rfl) rfl
theorem m_cd_X6_holdsNow : Cond.code yX6_holdsNow cX6_holdsNow 6 (some .int) ∈ TT := tg_5_4 (List.mem_of_getElem? (i := 0) rfl) rfl
theorem m_ml_X6_168 : Cond.methodLink RX6 168 yX6_split ∈ TT := tg_5_4 (List.mem_of_getElem? (i := 1) rfl) rfl
theorem m_im_X6_split : Cond.instanceMethod yX6_split ∈ TT := tg_5_4 (List.mem_of_getElem? (i := 3) rfl) rfl
theorem m_cd_X6_split : Cond.code yX6_split cX6_split 6 (some .int) ∈ TT := tg_5_4 (List.mem_of_getElem? (i := 4) rfl) rfl
theorem m_ml_L_185 : Cond.methodLink RL 185 yX6_why ∈ TT := tg_5_4 (List.mem_of_getElem? (i := 5) rfl) rfl
theorem m_im_X6_why : Cond.instanceMethod yX6_why ∈ TT := tg_5_4 (List.mem_of_getElem? (i := 6) rfl) rfl
theorem m_sl_X6_why : Cond.selects RX6 yX6_why yX6_why ∈ TT := tg_5_4 (List.mem_of_getElem? (i := 7) rfl) rfl
theorem m_cd_X6_why : Cond.code yX6_why cX6_why 5 (some .int) ∈ TT := tg_5_4 (List.mem_of_getElem? (i := 8) rfl) rfl
theorem m_ml_L_191 : Cond.methodLink RL 191 yX6_holds ∈ TT := tg_5_4 (List.mem_of_getElem? (i := 9) rfl) rfl
theorem m_im_X6_holds : Cond.instanceMethod yX6_holds ∈ TT := tg_5_4 (List.mem_of_getElem? (i := 10) rfl) rfl
theorem m_sl_X6_holds : Cond.selects RX6 yX6_holds yX6_holds ∈ TT := tg_5_4 (List.mem_of_getElem? (i := 11) rfl) rfl
theorem m_cd_X6_holds : Cond.code yX6_holds cX6_holds 5 (some .int) ∈ TT := tg_5_4 (List.mem_of_getElem? (i := 12) rfl) rfl
theorem m_ml_L_194 : Cond.methodLink RL 194 yX6_ask ∈ TT := tg_5_4 (List.mem_of_getElem? (i := 13) rfl) rfl
theorem m_im_X6_ask : Cond.instanceMethod yX6_ask ∈ TT := tg_5_4 (List.mem_of_getElem? (i := 14) rfl) rfl
theorem m_sl_X6_ask : Cond.selects RX6 yX6_ask yX6_ask ∈ TT := tg_5_4 (List.mem_of_getElem? (i := 15) rfl) rfl
theorem m_cd_X6_ask : Cond.code yX6_ask cX6_ask 6 (some .int) ∈ TT := tg_5_4 (List.mem_of_getElem? (i := 16) rfl) rfl
theorem m_ml_L_197 : Cond.methodLink RL 197 yX6_act ∈ TT := tg_5_4 (List.mem_of_getElem? (i := 17) rfl) rfl
theorem m_im_X6_act : Cond.instanceMethod yX6_act ∈ TT := tg_5_4 (List.mem_of_getElem? (i := 18) rfl) rfl
theorem m_sl_X6_act : Cond.selects RX6 yX6_act yX6_act ∈ TT := tg_5_4 (List.mem_of_getElem? (i := 19) rfl) rfl
theorem m_cd_X6_act : Cond.code yX6_act cX6_act 5 (some .int) ∈ TT := tg_5_5 (List.mem_of_getElem? (i := 0) rfl) rfl
theorem m_ml_L_200 : Cond.methodLink RL 200 yX6_arm ∈ TT := tg_5_5 (List.mem_of_getElem? (i := 1) rfl) rfl
theorem m_im_X6_arm : Cond.instanceMethod yX6_arm ∈ TT := tg_5_5 (List.mem_of_getElem? (i := 2) rfl) rfl
theorem m_sl_X6_arm : Cond.selects RX6 yX6_arm yX6_arm ∈ TT := tg_5_5 (List.mem_of_getElem? (i := 3) rfl) rfl
theorem m_cd_X6_arm : Cond.code yX6_arm cX6_arm 3 (some .int) ∈ TT := tg_5_5 (List.mem_of_getElem? (i := 4) rfl) rfl
theorem m_ml_X6_179 : Cond.methodLink RX6 179 yX6_armNow ∈ TT := tg_5_5 (List.mem_of_getElem? (i := 5) rfl) rfl
theorem m_im_X6_armNow : Cond.instanceMethod yX6_armNow ∈ TT := tg_5_5 (List.mem_of_getElem? (i := 7) rfl) rfl
theorem m_cd_X6_armNow : Cond.code yX6_armNow cX6_armNow 4 (some .int) ∈ TT := tg_5_5 (List.mem_of_getElem? (i := 8) rfl) rfl
theorem m_ml_L_204 : Cond.methodLink RL 204 yX6_arms ∈ TT := tg_5_5 (List.mem_of_getElem? (i := 9) rfl) rfl
theorem m_im_X6_arms : Cond.instanceMethod yX6_arms ∈ TT := tg_5_5 (List.mem_of_getElem? (i := 10) rfl) rfl
theorem m_sl_X6_arms : Cond.selects RX6 yX6_arms yX6_arms ∈ TT := tg_5_5 (List.mem_of_getElem? (i := 11) rfl) rfl
theorem m_cd_X6_arms : Cond.code yX6_arms cX6_arms 1 (some .int) ∈ TT := tg_5_5 (List.mem_of_getElem? (i := 12) rfl) rfl
theorem m_ml_L_207 : Cond.methodLink RL 207 yX6_told ∈ TT := tg_5_5 (List.mem_of_getElem? (i := 13) rfl) rfl
theorem m_im_X6_told : Cond.instanceMethod yX6_told ∈ TT := tg_5_5 (List.mem_of_getElem? (i := 14) rfl) rfl
theorem m_sl_X6_told : Cond.selects RX6 yX6_told yX6_told ∈ TT := tg_5_5 (List.mem_of_getElem? (i := 15) rfl) rfl
theorem m_cd_X6_told : Cond.code yX6_told cX6_told 4 (some .int) ∈ TT := tg_5_5 (List.mem_of_getElem? (i := 16) rfl) rfl
theorem m_ml_X6_182 : Cond.methodLink RX6 182 yX6_toldNow ∈ TT := tg_5_5 (List.mem_of_getElem? (i := 17) rfl) rfl
theorem m_im_X6_toldNow : Cond.instanceMethod yX6_toldNow ∈ TT := tg_5_5 (List.mem_of_getElem? (i := 19) rfl) rfl
theorem m_cd_X6_toldNow : Cond.code yX6_toldNow cX6_toldNow 6 (some .int) ∈ TT := tg_5_6 (List.mem_of_getElem? (i := 0) rfl) rfl
theorem m_ml_L_211 : Cond.methodLink RL 211 yX6_mean ∈ TT := tg_5_6 (List.mem_of_getElem? (i := 1) rfl) rfl
theorem m_im_X6_mean : Cond.instanceMethod yX6_mean ∈ TT := tg_5_6 (List.mem_of_getElem? (i := 2) rfl) rfl
theorem m_sl_X6_mean : Cond.selects RX6 yX6_mean yX6_mean ∈ TT := tg_5_6 (List.mem_of_getElem? (i := 3) rfl) rfl
theorem m_cd_X6_mean : Cond.code yX6_mean cX6_mean 3 (some .double) ∈ TT := tg_5_6 (List.mem_of_getElem? (i := 4) rfl) rfl
theorem m_ml_X6_185 : Cond.methodLink RX6 185 yX6_meanNow ∈ TT := tg_5_6 (List.mem_of_getElem? (i := 5) rfl) rfl
theorem m_im_X6_meanNow : Cond.instanceMethod yX6_meanNow ∈ TT := tg_5_6 (List.mem_of_getElem? (i := 7) rfl) rfl
theorem m_cd_X6_meanNow : Cond.code yX6_meanNow cX6_meanNow 4 (some .double) ∈ TT := tg_5_6 (List.mem_of_getElem? (i := 8) rfl) rfl
theorem m_ml_L_214 : Cond.methodLink RL 214 yX6_lift ∈ TT := tg_5_6 (List.mem_of_getElem? (i := 9) rfl) rfl
theorem m_im_X6_lift : Cond.instanceMethod yX6_lift ∈ TT := tg_5_6 (List.mem_of_getElem? (i := 10) rfl) rfl
theorem m_sl_X6_lift : Cond.selects RX6 yX6_lift yX6_lift ∈ TT := tg_5_6 (List.mem_of_getElem? (i := 11) rfl) rfl
theorem m_cd_X6_lift : Cond.code yX6_lift cX6_lift 3 (some .double) ∈ TT := tg_5_6 (List.mem_of_getElem? (i := 12) rfl) rfl
theorem m_ml_L_217 : Cond.methodLink RL 217 yX6_sure ∈ TT := tg_5_6 (List.mem_of_getElem? (i := 13) rfl) rfl
theorem m_im_X6_sure : Cond.instanceMethod yX6_sure ∈ TT := tg_5_6 (List.mem_of_getElem? (i := 14) rfl) rfl
theorem m_sl_X6_sure : Cond.selects RX6 yX6_sure yX6_sure ∈ TT := tg_5_6 (List.mem_of_getElem? (i := 15) rfl) rfl
theorem m_cd_X6_sure : Cond.code yX6_sure cX6_sure 9 (some .double) ∈ TT := tg_5_6 (List.mem_of_getElem? (i := 16) rfl) rfl
theorem m_ml_X6_189 : Cond.methodLink RX6 189 yX6_spread ∈ TT := tg_5_6 (List.mem_of_getElem? (i := 17) rfl) rfl
theorem m_im_X6_spread : Cond.instanceMethod yX6_spread ∈ TT := tg_5_6 (List.mem_of_getElem? (i := 19) rfl) rfl
theorem m_cd_X6_spread : Cond.code yX6_spread cX6_spread 6 (some .double) ∈ TT := tg_5_7 (List.mem_of_getElem? (i := 0) rfl) rfl
theorem m_ml_L_220 : Cond.methodLink RL 220 yX6_bad ∈ TT := tg_5_7 (List.mem_of_getElem? (i := 1) rfl) rfl
theorem m_im_X6_bad : Cond.instanceMethod yX6_bad ∈ TT := tg_5_7 (List.mem_of_getElem? (i := 2) rfl) rfl
theorem m_sl_X6_bad : Cond.selects RX6 yX6_bad yX6_bad ∈ TT := tg_5_7 (List.mem_of_getElem? (i := 3) rfl) rfl
theorem m_cd_X6_bad : Cond.code yX6_bad cX6_bad 2 (some .int) ∈ TT := tg_5_7 (List.mem_of_getElem? (i := 4) rfl) rfl
theorem m_ml_X6_194 : Cond.methodLink RX6 194 yX6_badNow ∈ TT := tg_5_7 (List.mem_of_getElem? (i := 5) rfl) rfl
theorem m_im_X6_badNow : Cond.instanceMethod yX6_badNow ∈ TT := tg_5_7 (List.mem_of_getElem? (i := 7) rfl) rfl
theorem m_cd_X6_badNow : Cond.code yX6_badNow cX6_badNow 10 (some .int) ∈ TT := tg_5_7 (List.mem_of_getElem? (i := 8) rfl) rfl
theorem m_lc_X6_192 : Cond.constantLong RX6 192 (10) ∈ TT := tg_5_7 (List.mem_of_getElem? (i := 9) rfl) rfl
theorem m_ml_L_223 : Cond.methodLink RL 223 yX6_isTrusted ∈ TT := tg_5_7 (List.mem_of_getElem? (i := 10) rfl) rfl
theorem m_im_X6_isTrusted : Cond.instanceMethod yX6_isTrusted ∈ TT := tg_5_7 (List.mem_of_getElem? (i := 11) rfl) rfl
theorem m_sl_X6_isTrusted : Cond.selects RX6 yX6_isTrusted yX6_isTrusted ∈ TT := tg_5_7 (List.mem_of_getElem? (i := 12) rfl) rfl
theorem m_cd_X6_isTrusted : Cond.code yX6_isTrusted cX6_isTrusted 2 (some .boolean) ∈ TT := tg_5_7 (List.mem_of_getElem? (i := 13) rfl) rfl
theorem m_ml_X6_197 : Cond.methodLink RX6 197 yX6_isTrustedNow ∈ TT := tg_5_7 (List.mem_of_getElem? (i := 14) rfl) rfl
theorem m_im_X6_isTrustedNow : Cond.instanceMethod yX6_isTrustedNow ∈ TT := tg_5_7 (List.mem_of_getElem? (i := 16) rfl) rfl
theorem m_cd_X6_isTrustedNow : Cond.code yX6_isTrustedNow cX6_isTrustedNow 4 (some .boolean) ∈ TT := tg_5_7 (List.mem_of_getElem? (i := 17) rfl) rfl
theorem m_ml_L_226 : Cond.methodLink RL 226 yX6_best ∈ TT := tg_5_7 (List.mem_of_getElem? (i := 18) rfl) rfl
theorem m_im_X6_best : Cond.instanceMethod yX6_best ∈ TT := tg_5_7 (List.mem_of_getElem? (i := 19) rfl) rfl
theorem m_sl_X6_best : Cond.selects RX6 yX6_best yX6_best ∈ TT := tg_5_8 (List.mem_of_getElem? (i := 0) rfl) rfl
theorem m_cd_X6_best : Cond.code yX6_best cX6_best 2 (some .int) ∈ TT := tg_5_8 (List.mem_of_getElem? (i := 1) rfl) rfl
theorem m_ml_X6_200 : Cond.methodLink RX6 200 yX6_bestNow ∈ TT := tg_5_8 (List.mem_of_getElem? (i := 2) rfl) rfl
theorem m_im_X6_bestNow : Cond.instanceMethod yX6_bestNow ∈ TT := tg_5_8 (List.mem_of_getElem? (i := 4) rfl) rfl
theorem m_cd_X6_bestNow : Cond.code yX6_bestNow cX6_bestNow 4 (some .int) ∈ TT := tg_5_8 (List.mem_of_getElem? (i := 5) rfl) rfl
theorem m_ml_L_229 : Cond.methodLink RL 229 yX6_reach ∈ TT := tg_5_8 (List.mem_of_getElem? (i := 6) rfl) rfl
theorem m_im_X6_reach : Cond.instanceMethod yX6_reach ∈ TT := tg_5_8 (List.mem_of_getElem? (i := 7) rfl) rfl
theorem m_sl_X6_reach : Cond.selects RX6 yX6_reach yX6_reach ∈ TT := tg_5_8 (List.mem_of_getElem? (i := 8) rfl) rfl
theorem m_cd_X6_reach : Cond.code yX6_reach cX6_reach 4 (some .int) ∈ TT := tg_5_8 (List.mem_of_getElem? (i := 9) rfl) rfl
theorem m_ml_X6_206 : Cond.methodLink RX6 206 yX6_reachNow ∈ TT := tg_5_8 (List.mem_of_getElem? (i := 10) rfl) rfl
theorem m_im_X6_reachNow : Cond.instanceMethod yX6_reachNow ∈ TT := tg_5_8 (List.mem_of_getElem? (i := 12) rfl) rfl
theorem m_cd_X6_reachNow : Cond.code yX6_reachNow cX6_reachNow 6 (some .int) ∈ TT := tg_5_8 (List.mem_of_getElem? (i := 13) rfl) rfl
theorem m_ml_X6_203 : Cond.methodLink RX6 203 yX6_getsBy ∈ TT := tg_5_8 (List.mem_of_getElem? (i := 14) rfl) rfl
theorem m_im_X6_getsBy : Cond.instanceMethod yX6_getsBy ∈ TT := tg_5_8 (List.mem_of_getElem? (i := 16) rfl) rfl
theorem m_cd_X6_getsBy : Cond.code yX6_getsBy cX6_getsBy 3 (some .int) ∈ TT := tg_5_8 (List.mem_of_getElem? (i := 17) rfl) rfl
theorem m_ml_L_232 : Cond.methodLink RL 232 yX6_both ∈ TT := tg_5_8 (List.mem_of_getElem? (i := 18) rfl) rfl
theorem m_im_X6_both : Cond.instanceMethod yX6_both ∈ TT := tg_5_8 (List.mem_of_getElem? (i := 19) rfl) rfl
theorem m_sl_X6_both : Cond.selects RX6 yX6_both yX6_both ∈ TT := tg_5_9 (List.mem_of_getElem? (i := 0) rfl) rfl
theorem m_cd_X6_both : Cond.code yX6_both cX6_both 6 (some .int) ∈ TT := tg_5_9 (List.mem_of_getElem? (i := 1) rfl) rfl
theorem m_ml_X6_209 : Cond.methodLink RX6 209 yX6_isSplit ∈ TT := tg_5_9 (List.mem_of_getElem? (i := 2) rfl) rfl
theorem m_im_X6_isSplit : Cond.instanceMethod yX6_isSplit ∈ TT := tg_5_9 (List.mem_of_getElem? (i := 4) rfl) rfl
theorem m_cd_X6_isSplit : Cond.code yX6_isSplit cX6_isSplit 3 (some .boolean) ∈ TT := tg_5_9 (List.mem_of_getElem? (i := 5) rfl) rfl
theorem m_ml_L_235 : Cond.methodLink RL 235 yX6_wouldChange ∈ TT := tg_5_9 (List.mem_of_getElem? (i := 6) rfl) rfl
theorem m_im_X6_wouldChange : Cond.instanceMethod yX6_wouldChange ∈ TT := tg_5_9 (List.mem_of_getElem? (i := 7) rfl) rfl
theorem m_sl_X6_wouldChange : Cond.selects RX6 yX6_wouldChange yX6_wouldChange ∈ TT := tg_5_9 (List.mem_of_getElem? (i := 8) rfl) rfl
theorem m_cd_X6_wouldChange : Cond.code yX6_wouldChange cX6_wouldChange 6 (some .int) ∈ TT := tg_5_9 (List.mem_of_getElem? (i := 9) rfl) rfl
theorem m_ml_L_238 : Cond.methodLink RL 238 yX6_wouldTurn ∈ TT := tg_5_9 (List.mem_of_getElem? (i := 10) rfl) rfl
theorem m_im_X6_wouldTurn : Cond.instanceMethod yX6_wouldTurn ∈ TT := tg_5_9 (List.mem_of_getElem? (i := 11) rfl) rfl
theorem m_sl_X6_wouldTurn : Cond.selects RX6 yX6_wouldTurn yX6_wouldTurn ∈ TT := tg_5_9 (List.mem_of_getElem? (i := 12) rfl) rfl
theorem m_cd_X6_wouldTurn : Cond.code yX6_wouldTurn cX6_wouldTurn 6 (some .int) ∈ TT := tg_5_9 (List.mem_of_getElem? (i := 13) rfl) rfl
theorem m_ml_X6_212 : Cond.methodLink RX6 212 yX6_all ∈ TT := tg_5_9 (List.mem_of_getElem? (i := 14) rfl) rfl
theorem m_im_X6_all : Cond.instanceMethod yX6_all ∈ TT := tg_5_9 (List.mem_of_getElem? (i := 16) rfl) rfl
theorem m_cd_X6_all : Cond.code yX6_all cX6_all 4 (some .int) ∈ TT := tg_5_9 (List.mem_of_getElem? (i := 17) rfl) rfl
theorem m_ml_L_241 : Cond.methodLink RL 241 yX6_shareIn ∈ TT := tg_5_9 (List.mem_of_getElem? (i := 18) rfl) rfl
theorem m_im_X6_shareIn : Cond.instanceMethod yX6_shareIn ∈ TT := tg_5_9 (List.mem_of_getElem? (i := 19) rfl) rfl
theorem m_sl_X6_shareIn : Cond.selects RX6 yX6_shareIn yX6_shareIn ∈ TT := tg_5_10 (List.mem_of_getElem? (i := 0) rfl) rfl
theorem m_cd_X6_shareIn : Cond.code yX6_shareIn cX6_shareIn 3 (some .int) ∈ TT := tg_5_10 (List.mem_of_getElem? (i := 1) rfl) rfl
theorem m_ml_L_246 : Cond.methodLink RL 246 yX6_digest ∈ TT := tg_5_10 (List.mem_of_getElem? (i := 2) rfl) rfl
theorem m_im_X6_digest : Cond.instanceMethod yX6_digest ∈ TT := tg_5_10 (List.mem_of_getElem? (i := 3) rfl) rfl
theorem m_sl_X6_digest : Cond.selects RX6 yX6_digest yX6_digest ∈ TT := tg_5_10 (List.mem_of_getElem? (i := 4) rfl) rfl
theorem m_cd_X6_digest : Cond.code yX6_digest cX6_digest 6 (some .long) ∈ TT := tg_5_10 (List.mem_of_getElem? (i := 5) rfl) rfl
theorem m_lc_X6_215 : Cond.constantLong RX6 215 (83297) ∈ TT := tg_5_10 (List.mem_of_getElem? (i := 6) rfl) rfl
theorem m_lc_X6_217 : Cond.constantLong RX6 217 (31) ∈ TT := tg_5_10 (List.mem_of_getElem? (i := 7) rfl) rfl
theorem m_ar_double : Cond.arrayClass .double ∈ TT := tg_5_10 (List.mem_of_getElem? (i := 8) rfl) rfl
theorem m_sl_X5_withSwitch : Cond.selects RX5 yX5_withSwitch yX5_withSwitch ∈ TT := tt_m0 1 (by decide +kernel) (by decide +kernel)
theorem m_sl_X5_known : Cond.selects RX5 yX5_known yX5_known ∈ TT := tt_m0 2 (by decide +kernel) (by decide +kernel)
theorem m_sl_X5_switchAt : Cond.selects RX5 yX5_switchAt yX5_switchAt ∈ TT := tt_m0 3 (by decide +kernel) (by decide +kernel)
theorem m_sl_X5_variantOf : Cond.selects RX5 yX5_variantOf yX5_variantOf ∈ TT := tt_m0 4 (by decide +kernel) (by decide +kernel)
theorem m_sl_X5_reasonOf : Cond.selects RX5 yX5_reasonOf yX5_reasonOf ∈ TT := tt_m0 5 (by decide +kernel) (by decide +kernel)
theorem m_sl_X5_hasNeed : Cond.selects RX5 yX5_hasNeed yX5_hasNeed ∈ TT := tt_m0 6 (by decide +kernel) (by decide +kernel)
theorem m_sl_X5_isInLayer : Cond.selects RX5 yX5_isInLayer yX5_isInLayer ∈ TT := tt_m0 7 (by decide +kernel) (by decide +kernel)
theorem m_sl_X5_variantBy : Cond.selects RX5 yX5_variantBy yX5_variantBy ∈ TT := tt_m0 8 (by decide +kernel) (by decide +kernel)
theorem m_sl_X5_isTaken : Cond.selects RX5 yX5_isTaken yX5_isTaken ∈ TT := tt_m0 9 (by decide +kernel) (by decide +kernel)
theorem m_sl_X4_spreadByCount : Cond.selects RX4 yX4_spreadByCount yX4_spreadByCount ∈ TT := tt_m0 10 (by decide +kernel) (by decide +kernel)
theorem m_sl_X5_changesByTurning : Cond.selects RX5 yX5_changesByTurning yX5_changesByTurning ∈ TT := tt_m0 11 (by decide +kernel) (by decide +kernel)
theorem m_sl_X6_no : Cond.selects RX6 yX6_no yX6_no ∈ TT := tt_m0 12 (by decide +kernel) (by decide +kernel)
theorem m_sl_X6_isVariant : Cond.selects RX6 yX6_isVariant yX6_isVariant ∈ TT := tt_m0 13 (by decide +kernel) (by decide +kernel)
theorem m_sl_X6_isSwitch : Cond.selects RX6 yX6_isSwitch yX6_isSwitch ∈ TT := tt_m0 14 (by decide +kernel) (by decide +kernel)
theorem m_sl_X6_isNot : Cond.selects RX6 yX6_isNot yX6_isNot ∈ TT := tt_m0 15 (by decide +kernel) (by decide +kernel)
theorem m_sl_X6_farIn : Cond.selects RX6 yX6_farIn yX6_farIn ∈ TT := tt_m0 16 (by decide +kernel) (by decide +kernel)
theorem m_sl_X6_ok : Cond.selects RX6 yX6_ok yX6_ok ∈ TT := tt_m0 17 (by decide +kernel) (by decide +kernel)
theorem m_sl_X6_leftIn : Cond.selects RX6 yX6_leftIn yX6_leftIn ∈ TT := tt_m0 18 (by decide +kernel) (by decide +kernel)
theorem m_sl_X6_isAsked : Cond.selects RX6 yX6_isAsked yX6_isAsked ∈ TT := tt_m0 19 (by decide +kernel) (by decide +kernel)
theorem m_sl_X6_getsOf : Cond.selects RX6 yX6_getsOf yX6_getsOf ∈ TT := tt_m0 20 (by decide +kernel) (by decide +kernel)
theorem m_sl_X6_getsNow : Cond.selects RX6 yX6_getsNow yX6_getsNow ∈ TT := tt_m0 21 (by decide +kernel) (by decide +kernel)
theorem m_sl_X6_armAt : Cond.selects RX6 yX6_armAt yX6_armAt ∈ TT := tt_m0 22 (by decide +kernel) (by decide +kernel)
theorem m_sl_X6_holdsNow : Cond.selects RX6 yX6_holdsNow yX6_holdsNow ∈ TT := tt_m0 23 (by decide +kernel) (by decide +kernel)
theorem m_sl_X6_split : Cond.selects RX6 yX6_split yX6_split ∈ TT := tt_m0 24 (by decide +kernel) (by decide +kernel)
theorem m_sl_X6_armNow : Cond.selects RX6 yX6_armNow yX6_armNow ∈ TT := tt_m0 25 (by decide +kernel) (by decide +kernel)
theorem m_sl_X6_toldNow : Cond.selects RX6 yX6_toldNow yX6_toldNow ∈ TT := tt_m0 26 (by decide +kernel) (by decide +kernel)
theorem m_sl_X6_meanNow : Cond.selects RX6 yX6_meanNow yX6_meanNow ∈ TT := tt_m0 27 (by decide +kernel) (by decide +kernel)
theorem m_sl_X6_spread : Cond.selects RX6 yX6_spread yX6_spread ∈ TT := tt_m0 28 (by decide +kernel) (by decide +kernel)
theorem m_sl_X6_badNow : Cond.selects RX6 yX6_badNow yX6_badNow ∈ TT := tt_m0 29 (by decide +kernel) (by decide +kernel)
theorem m_sl_X6_isTrustedNow : Cond.selects RX6 yX6_isTrustedNow yX6_isTrustedNow ∈ TT := tt_m0 30 (by decide +kernel) (by decide +kernel)
theorem m_sl_X6_bestNow : Cond.selects RX6 yX6_bestNow yX6_bestNow ∈ TT := tt_m0 31 (by decide +kernel) (by decide +kernel)
theorem m_sl_X6_reachNow : Cond.selects RX6 yX6_reachNow yX6_reachNow ∈ TT := tt_m0 32 (by decide +kernel) (by decide +kernel)
theorem m_sl_X6_getsBy : Cond.selects RX6 yX6_getsBy yX6_getsBy ∈ TT := tt_m0 33 (by decide +kernel) (by decide +kernel)
theorem m_sl_X6_isSplit : Cond.selects RX6 yX6_isSplit yX6_isSplit ∈ TT := tt_m0 34 (by decide +kernel) (by decide +kernel)
theorem m_sl_X6_all : Cond.selects RX6 yX6_all yX6_all ∈ TT := tt_m0 35 (by decide +kernel) (by decide +kernel)
theorem m_cd_objectInit : Cond.code objectInit ⟨#[0xb1]⟩ 1 none ∈ TT := tg_1_1 (List.mem_of_getElem? (i := 3) rfl) rfl
theorem tb_l {ws : List Cond} (ps : List Nat) (h : ws = ps.filterMap (fun i => lw_tbl[i]?)) : ∀ w ∈ ws, w ∈ lw_tbl := fun w hw => by
  rw [h] at hw
  obtain ⟨i, -, hi⟩ := List.mem_filterMap.mp hw
  exact List.mem_of_getElem? hi
theorem m_u_X0 : ∀ w ∈ wsX00, w ∈ TT := tt_l [712, 714, 716, 718, 720] (by decide +kernel) (by decide +kernel)
theorem m_u_X1 : ∀ w ∈ wsX10, w ∈ TT := tt_l [77, 79, 81, 83, 85, 87] (by decide +kernel) (by decide +kernel)
theorem m_u_X2 : ∀ w ∈ wsX20, w ∈ TT := tt_l [609, 611, 613, 615] (by decide +kernel) (by decide +kernel)
theorem m_u_X3 : ∀ w ∈ wsX30, w ∈ TT := tt_l [486, 488, 490, 492, 494, 496, 498, 500, 502, 504, 506, 508, 510, 512, 514, 516, 518, 520] (by decide +kernel) (by decide +kernel)
theorem m_u_X4 : ∀ w ∈ wsX40, w ∈ TT := tt_l [443, 445, 447, 449, 451] (by decide +kernel) (by decide +kernel)
theorem m_u_X5 : ∀ w ∈ wsX50, w ∈ TT := tt_l [96, 98, 100, 102, 104, 106] (by decide +kernel) (by decide +kernel)
theorem m_u_X6 : ∀ w ∈ wsX60, w ∈ TT := tt_l [880, 882, 884, 886, 888, 890, 892, 894, 896, 898, 900, 902, 904, 906, 908, 910, 912, 914, 916, 918, 920, 922, 924, 926, 928, 930, 932, 934, 936] (by decide +kernel) (by decide +kernel)
/-- a call's words, out of the tables' words alone -/
theorem kg_V {own C : String} {idx : Nat} {y : MethodName} {w : Cond} (h1 : Cond.methodLink own idx y ∈ TT) (h2 : Cond.instanceMethod y ∈ TT) (h3 : Cond.selects C y y ∈ TT) (h4 : Cond.initialized C ∈ TT) (h5 : w ∈ TT) : GoodIn TT (wsV own idx C y (w :: TT)) := by
  intro z hz
  have : z ∈ TT := by
    simp only [wsV, List.cons_append, List.nil_append, List.mem_cons] at hz
    rcases hz with rfl | rfl | rfl | rfl | rfl | hz <;> assumption
  exact ⟨this, tt_good this⟩
theorem kg_S {own : String} {idx : Nat} {y : MethodName} {w : Cond} (h1 : Cond.methodLink own idx y ∈ TT) (h2 : Cond.static y ∈ TT) (h4 : Cond.initialized own ∈ TT) (h5 : w ∈ TT) : GoodIn TT (wsS own idx y (w :: TT)) := by
  intro z hz
  have : z ∈ TT := by
    simp only [wsS, List.cons_append, List.nil_append, List.mem_cons] at hz
    rcases hz with rfl | rfl | rfl | rfl | hz <;> assumption
  exact ⟨this, tt_good this⟩
theorem kg_I {w : Cond} (h5 : w ∈ TT) : GoodIn TT (w :: TT) := by
  intro z hz
  have : z ∈ TT := by
    rcases List.mem_cons.mp hz with rfl | hz <;> assumption
  exact ⟨this, tt_good this⟩
/-- the texts that the class throws -/
def kStr : List (Nat × String) := [(28, "salt or variants out of range"), (39, "no more switches"), (57, "no weight that can be moved"), (67, "share or step out of range"), (86, "another switch has some of the range"), (97, "only a switch with a smaller number can be needed"), (105, "mark, how or n out of range"), (110, "no more rules"), (123, "no such rule"), (130, "held out of range"), (135, "ticks out of range"), (137, "no such layer"), (139, "salt or user out of range"), (175, "user or worth out of range"), (181, "user out of range"), (207, "what out of range"), (236, "share out of range"), (304, "no such switch"), (306, "no such variant"), (308, "user or mark out of range"), (310, "many out of range"), (312, "layer or range out of range")]
/-- words of exceptions and of nest mates, that are on the tables, but no good words -/
def TB : List Cond := [Cond.castable "java/lang/IndexOutOfBoundsException" "java/lang/IndexOutOfBoundsException", Cond.castable "java/lang/IllegalArgumentException" "java/lang/IllegalArgumentException", Cond.castable "java/lang/IllegalStateException" "java/lang/IllegalStateException", Cond.declares ⟨"java/lang/RuntimeException", "<init>", "()V"⟩, Cond.declares ⟨"java/lang/RuntimeException", "<init>", "(Ljava/lang/String;)V"⟩, Cond.declares ⟨"java/lang/Exception", "<init>", "()V"⟩, Cond.declares ⟨"java/lang/Exception", "<init>", "(Ljava/lang/String;)V"⟩, Cond.declares ⟨"java/lang/Throwable", "<init>", "()V"⟩, Cond.declares ⟨"java/lang/Throwable", "<init>", "(Ljava/lang/String;)V"⟩, Cond.methodLinkNest RX5 17 yX1_init RX5, Cond.fieldLinkNest RX5 320 "DaybreakFlags$Asker" "user" "I" RX5, Cond.fieldLinkNest RX5 323 "DaybreakFlags$Asker" "first" "I" RX5, Cond.fieldLinkNest RX5 326 "DaybreakFlags$Asker" "second" "I" RX5, Cond.methodLinkNest RX3 23 yX4_init RX5, Cond.fieldLinkNest RX3 121 "DaybreakFlags$Tally" "total" "I" RX5, Cond.fieldLinkNest RX1 40 "DaybreakFlags$Switch" "number" "I" RX5, Cond.fieldLinkNest RX5 314 "DaybreakFlags$Switch" "number" "I" RX5, Cond.fieldLinkNest RX5 334 "DaybreakFlags$Switch" "salt" "I" RX5, Cond.fieldLinkNest RX5 286 "DaybreakFlags$Switch" "variantCount" "I" RX5, Cond.fieldLinkNest RX5 347 "DaybreakFlags$Switch" "isSticky" "Z" RX5, Cond.fieldLinkNest RX5 188 "DaybreakFlags$Switch" "tally" "LDaybreakFlags$Tally;" RX5, Cond.fieldLinkNest RX5 107 "DaybreakFlags$Switch" "ruleCount" "I" RX5, Cond.fieldLinkNest RX5 63 "DaybreakFlags$Switch" "isOn" "Z" RX5, Cond.fieldLinkNest RX1 34 "DaybreakFlags$Switch" "isOn" "Z" RX5, Cond.fieldLinkNest RX5 88 "DaybreakFlags$Switch" "layer" "I" RX5, Cond.fieldLinkNest RX5 91 "DaybreakFlags$Switch" "from" "I" RX5, Cond.fieldLinkNest RX5 94 "DaybreakFlags$Switch" "to" "I" RX5, Cond.fieldLinkNest RX5 99 "DaybreakFlags$Switch" "needed" "I" RX5, Cond.fieldLinkNest RX5 102 "DaybreakFlags$Switch" "neededVariant" "I" RX5, Cond.fieldLinkNest RX5 333 "DaybreakFlags$Rule" "variant" "I" RX5, Cond.fieldLinkNest RX3 89 "DaybreakFlags$Arm" "user" "I" RX5, Cond.fieldLinkNest RX3 108 "DaybreakFlags$Arm" "variant" "I" RX5, Cond.fieldLinkNest RX5 183 "DaybreakFlags$Arm" "variant" "I" RX5, Cond.fieldLinkNest RX3 94 "DaybreakFlags$Arm" "older" "LDaybreakFlags$Arm;" RX5, Cond.fieldLinkNest RX3 111 "DaybreakFlags$Arm" "sum" "I" RX5, Cond.fieldLinkNest RX3 114 "DaybreakFlags$Arm" "hasActed" "Z" RX5]
theorem m_ml_X5_17 : Cond.methodLinkNest RX5 17 yX1_init RX5 ∈ TB := List.mem_of_getElem? (i := 9) (by decide +kernel)
theorem m_fl_X5_320 : Cond.fieldLinkNest RX5 320 "DaybreakFlags$Asker" "user" "I" RX5 ∈ TB := List.mem_of_getElem? (i := 10) (by decide +kernel)
theorem m_fl_X5_323 : Cond.fieldLinkNest RX5 323 "DaybreakFlags$Asker" "first" "I" RX5 ∈ TB := List.mem_of_getElem? (i := 11) (by decide +kernel)
theorem m_fl_X5_326 : Cond.fieldLinkNest RX5 326 "DaybreakFlags$Asker" "second" "I" RX5 ∈ TB := List.mem_of_getElem? (i := 12) (by decide +kernel)
theorem m_ml_X3_23 : Cond.methodLinkNest RX3 23 yX4_init RX5 ∈ TB := List.mem_of_getElem? (i := 13) (by decide +kernel)
theorem m_fl_X3_121 : Cond.fieldLinkNest RX3 121 "DaybreakFlags$Tally" "total" "I" RX5 ∈ TB := List.mem_of_getElem? (i := 14) (by decide +kernel)
theorem m_fl_X1_40 : Cond.fieldLinkNest RX1 40 "DaybreakFlags$Switch" "number" "I" RX5 ∈ TB := List.mem_of_getElem? (i := 15) (by decide +kernel)
theorem m_fl_X5_314 : Cond.fieldLinkNest RX5 314 "DaybreakFlags$Switch" "number" "I" RX5 ∈ TB := List.mem_of_getElem? (i := 16) (by decide +kernel)
theorem m_fl_X5_334 : Cond.fieldLinkNest RX5 334 "DaybreakFlags$Switch" "salt" "I" RX5 ∈ TB := List.mem_of_getElem? (i := 17) (by decide +kernel)
theorem m_fl_X5_286 : Cond.fieldLinkNest RX5 286 "DaybreakFlags$Switch" "variantCount" "I" RX5 ∈ TB := List.mem_of_getElem? (i := 18) (by decide +kernel)
theorem m_fl_X5_347 : Cond.fieldLinkNest RX5 347 "DaybreakFlags$Switch" "isSticky" "Z" RX5 ∈ TB := List.mem_of_getElem? (i := 19) (by decide +kernel)
theorem m_fl_X5_188 : Cond.fieldLinkNest RX5 188 "DaybreakFlags$Switch" "tally" "LDaybreakFlags$Tally;" RX5 ∈ TB := List.mem_of_getElem? (i := 20) (by decide +kernel)
theorem m_fl_X5_107 : Cond.fieldLinkNest RX5 107 "DaybreakFlags$Switch" "ruleCount" "I" RX5 ∈ TB := List.mem_of_getElem? (i := 21) (by decide +kernel)
theorem m_fl_X5_63 : Cond.fieldLinkNest RX5 63 "DaybreakFlags$Switch" "isOn" "Z" RX5 ∈ TB := List.mem_of_getElem? (i := 22) (by decide +kernel)
theorem m_fl_X1_34 : Cond.fieldLinkNest RX1 34 "DaybreakFlags$Switch" "isOn" "Z" RX5 ∈ TB := List.mem_of_getElem? (i := 23) (by decide +kernel)
theorem m_fl_X5_88 : Cond.fieldLinkNest RX5 88 "DaybreakFlags$Switch" "layer" "I" RX5 ∈ TB := List.mem_of_getElem? (i := 24) (by decide +kernel)
theorem m_fl_X5_91 : Cond.fieldLinkNest RX5 91 "DaybreakFlags$Switch" "from" "I" RX5 ∈ TB := List.mem_of_getElem? (i := 25) (by decide +kernel)
theorem m_fl_X5_94 : Cond.fieldLinkNest RX5 94 "DaybreakFlags$Switch" "to" "I" RX5 ∈ TB := List.mem_of_getElem? (i := 26) (by decide +kernel)
theorem m_fl_X5_99 : Cond.fieldLinkNest RX5 99 "DaybreakFlags$Switch" "needed" "I" RX5 ∈ TB := List.mem_of_getElem? (i := 27) (by decide +kernel)
theorem m_fl_X5_102 : Cond.fieldLinkNest RX5 102 "DaybreakFlags$Switch" "neededVariant" "I" RX5 ∈ TB := List.mem_of_getElem? (i := 28) (by decide +kernel)
theorem m_fl_X5_333 : Cond.fieldLinkNest RX5 333 "DaybreakFlags$Rule" "variant" "I" RX5 ∈ TB := List.mem_of_getElem? (i := 29) (by decide +kernel)
theorem m_fl_X3_89 : Cond.fieldLinkNest RX3 89 "DaybreakFlags$Arm" "user" "I" RX5 ∈ TB := List.mem_of_getElem? (i := 30) (by decide +kernel)
theorem m_fl_X3_108 : Cond.fieldLinkNest RX3 108 "DaybreakFlags$Arm" "variant" "I" RX5 ∈ TB := List.mem_of_getElem? (i := 31) (by decide +kernel)
theorem m_fl_X5_183 : Cond.fieldLinkNest RX5 183 "DaybreakFlags$Arm" "variant" "I" RX5 ∈ TB := List.mem_of_getElem? (i := 32) (by decide +kernel)
theorem m_fl_X3_94 : Cond.fieldLinkNest RX3 94 "DaybreakFlags$Arm" "older" "LDaybreakFlags$Arm;" RX5 ∈ TB := List.mem_of_getElem? (i := 33) (by decide +kernel)
theorem m_fl_X3_111 : Cond.fieldLinkNest RX3 111 "DaybreakFlags$Arm" "sum" "I" RX5 ∈ TB := List.mem_of_getElem? (i := 34) (by decide +kernel)
theorem m_fl_X3_114 : Cond.fieldLinkNest RX3 114 "DaybreakFlags$Arm" "hasActed" "Z" RX5 ∈ TB := List.mem_of_getElem? (i := 35) (by decide +kernel)
theorem tb_ot : ∀ w ∈ TB, w.onTables = true := fun w h => List.all_eq_true.mp (show TB.all (fun w => w.onTables) = true from by decide +kernel) w h
theorem tb_in : ∀ w ∈ TB, w ∈ lw_tbl := tb_l [137, 298, 410, 138, 139, 140, 141, 142, 143, 64, 69, 71, 73, 433, 442, 457, 458, 460, 462, 464, 468, 470, 472, 473, 478, 479, 481, 484, 485, 608, 704, 706, 707, 709, 710, 711] (by decide +kernel)
theorem at_IAE : ∀ w ∈ (vx_atS RX5 30 "java/lang/IllegalArgumentException" ["java/lang/RuntimeException", "java/lang/Exception"]).filter goodWord, w ∈ TT := by
  intro w h
  exact List.mem_filter.mpr ⟨(show ∀ w ∈ (vx_atS RX5 30 "java/lang/IllegalArgumentException" ["java/lang/RuntimeException", "java/lang/Exception"]).filter goodWord, w ∈ lw_tbl from by decide +kernel) w h, (List.mem_filter.mp h).2⟩
theorem an_IAE : ∀ w ∈ (vx_atS RX5 30 "java/lang/IllegalArgumentException" ["java/lang/RuntimeException", "java/lang/Exception"]).filter (fun w => !goodWord w), w ∈ TB := by decide +kernel
theorem ag_IAE (ik : Nat) : ∀ w ∈ Cond.classLink RX5 ik "java/lang/IllegalArgumentException" :: Cond.initialized "java/lang/IllegalArgumentException" :: vx_atS RX5 30 "java/lang/IllegalArgumentException" ["java/lang/RuntimeException", "java/lang/Exception"], vx_ot w = true := by
  intro w h
  rcases List.mem_cons.mp h with rfl | h
  · rfl
  rcases List.mem_cons.mp h with rfl | h
  · rfl
  exact (show ∀ w ∈ vx_atS RX5 30 "java/lang/IllegalArgumentException" ["java/lang/RuntimeException", "java/lang/Exception"], vx_ot w = true from by decide +kernel) w h
theorem at_ISE : ∀ w ∈ (vx_atS RX5 41 "java/lang/IllegalStateException" ["java/lang/RuntimeException", "java/lang/Exception"]).filter goodWord, w ∈ TT := by
  intro w h
  exact List.mem_filter.mpr ⟨(show ∀ w ∈ (vx_atS RX5 41 "java/lang/IllegalStateException" ["java/lang/RuntimeException", "java/lang/Exception"]).filter goodWord, w ∈ lw_tbl from by decide +kernel) w h, (List.mem_filter.mp h).2⟩
theorem an_ISE : ∀ w ∈ (vx_atS RX5 41 "java/lang/IllegalStateException" ["java/lang/RuntimeException", "java/lang/Exception"]).filter (fun w => !goodWord w), w ∈ TB := by decide +kernel
theorem ag_ISE (ik : Nat) : ∀ w ∈ Cond.classLink RX5 ik "java/lang/IllegalStateException" :: Cond.initialized "java/lang/IllegalStateException" :: vx_atS RX5 41 "java/lang/IllegalStateException" ["java/lang/RuntimeException", "java/lang/Exception"], vx_ot w = true := by
  intro w h
  rcases List.mem_cons.mp h with rfl | h
  · rfl
  rcases List.mem_cons.mp h with rfl | h
  · rfl
  exact (show ∀ w ∈ vx_atS RX5 41 "java/lang/IllegalStateException" ["java/lang/RuntimeException", "java/lang/Exception"], vx_ot w = true from by decide +kernel) w h
theorem at_IOE : ∀ w ∈ (vx_atS RX5 125 "java/lang/IndexOutOfBoundsException" ["java/lang/RuntimeException", "java/lang/Exception"]).filter goodWord, w ∈ TT := by
  intro w h
  exact List.mem_filter.mpr ⟨(show ∀ w ∈ (vx_atS RX5 125 "java/lang/IndexOutOfBoundsException" ["java/lang/RuntimeException", "java/lang/Exception"]).filter goodWord, w ∈ lw_tbl from by decide +kernel) w h, (List.mem_filter.mp h).2⟩
theorem an_IOE : ∀ w ∈ (vx_atS RX5 125 "java/lang/IndexOutOfBoundsException" ["java/lang/RuntimeException", "java/lang/Exception"]).filter (fun w => !goodWord w), w ∈ TB := by decide +kernel
theorem ag_IOE (ik : Nat) : ∀ w ∈ Cond.classLink RX5 ik "java/lang/IndexOutOfBoundsException" :: Cond.initialized "java/lang/IndexOutOfBoundsException" :: vx_atS RX5 125 "java/lang/IndexOutOfBoundsException" ["java/lang/RuntimeException", "java/lang/Exception"], vx_ot w = true := by
  intro w h
  rcases List.mem_cons.mp h with rfl | h
  · rfl
  rcases List.mem_cons.mp h with rfl | h
  · rfl
  exact (show ∀ w ∈ vx_atS RX5 125 "java/lang/IndexOutOfBoundsException" ["java/lang/RuntimeException", "java/lang/Exception"], vx_ot w = true from by decide +kernel) w h
