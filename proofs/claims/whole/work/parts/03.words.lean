/-- the words that a call hands on: all good ones of the tables -/
def gw : List Cond := lw_tbl.filter goodWord
theorem gm {w : Cond} (h : w ∈ lw_tbl) (h2 : goodWord w = true) : w ∈ gw := List.mem_filter.mpr ⟨h, h2⟩
theorem gw_in : ∀ w ∈ gw, w ∈ lw_tbl := fun _ h => (List.mem_filter.mp h).1
theorem gw_good {y : MethodName} {cc : ByteArray} {n : Nat} {ret : Option FieldType} (h : Cond.code y cc n ret ∈ gw) : GoodIn gw (Cond.code y cc n ret :: gw) := by
  intro w hw
  rcases List.mem_cons.mp hw with rfl | hw
  · exact ⟨h, good_of_word (List.mem_filter.mp h).2⟩
  · exact ⟨hw, good_of_word (List.mem_filter.mp hw).2⟩
theorem tm0 {w : Cond} (h : w ∈ k2_sels lw_privs) : w ∈ lw_tbl := List.mem_append_left _ h
theorem tm1 {w : Cond} (h : w ∈ tables_1_1) : w ∈ lw_tbl := List.mem_append_right _ (List.mem_append_left _ h)
theorem tm2 {w : Cond} (h : w ∈ tables_1_2) : w ∈ lw_tbl := List.mem_append_right _ (List.mem_append_right _ (List.mem_append_left _ h))
theorem tm3 {w : Cond} (h : w ∈ tables_1_3) : w ∈ lw_tbl := List.mem_append_right _ (List.mem_append_right _ (List.mem_append_right _ (List.mem_append_left _ h)))
theorem tm4 {w : Cond} (h : w ∈ tables_1_4) : w ∈ lw_tbl := List.mem_append_right _ (List.mem_append_right _ (List.mem_append_right _ (List.mem_append_right _ h)))
theorem uin {C : String} {T : u_T} {N : Nat} (h : ∀ k, k < N → u_lay C T k ∈ gw) : ∀ w ∈ u_ws C T N, w ∈ gw := by
  intro w hw
  obtain ⟨k, hk, rfl⟩ := List.mem_map.mp hw
  exact h k (List.mem_range.mp hk)
theorem wg_0 : Jvm.Cond.initialized "HairLineLaw" ∈ gw := gm (tm1 (List.mem_of_getElem? (i := 0) rfl)) rfl
theorem wg_1 : Jvm.Cond.initialized "HairLine" ∈ gw := gm (tm1 (List.mem_of_getElem? (i := 1) rfl)) rfl
theorem wg_2 : Jvm.Cond.initialized "HairLine$Track" ∈ gw := gm (tm1 (List.mem_of_getElem? (i := 2) rfl)) rfl
theorem wg_3 : Jvm.Cond.initialized "HairLine$Runner" ∈ gw := gm (tm1 (List.mem_of_getElem? (i := 3) rfl)) rfl
theorem wg_4 : Jvm.Cond.initialized "HairLine$Ranking" ∈ gw := gm (tm1 (List.mem_of_getElem? (i := 4) rfl)) rfl
theorem wg_5 : Jvm.Cond.initialized "HairLine$Panel" ∈ gw := gm (tm1 (List.mem_of_getElem? (i := 5) rfl)) rfl
theorem wg_6 : Jvm.Cond.initialized "HairLine$Span" ∈ gw := gm (tm1 (List.mem_of_getElem? (i := 6) rfl)) rfl
theorem wg_7 : Jvm.Cond.initialized "HairLine$Signs" ∈ gw := gm (tm1 (List.mem_of_getElem? (i := 7) rfl)) rfl
theorem wg_8 : Jvm.Cond.initialized "HairLine$Lines" ∈ gw := gm (tm1 (List.mem_of_getElem? (i := 8) rfl)) rfl
theorem wg_9 : Jvm.Cond.initialized "HairLine$Rack" ∈ gw := gm (tm1 (List.mem_of_getElem? (i := 9) rfl)) rfl
theorem wg_10 : Jvm.Cond.initialized "HairLineModel" ∈ gw := gm (tm1 (List.mem_of_getElem? (i := 10) rfl)) rfl
theorem wg_11 : Jvm.Cond.initialized "java/lang/Math" ∈ gw := gm (tm1 (List.mem_of_getElem? (i := 11) rfl)) rfl
theorem wg_12 : Jvm.Cond.initialized "java/lang/Integer" ∈ gw := gm (tm1 (List.mem_of_getElem? (i := 12) rfl)) rfl
theorem wg_13 : Jvm.Cond.classLink "HairLineLaw" (7 : Nat) "HairLine" ∈ gw := gm (tm1 (List.mem_of_getElem? (i := 13) rfl)) rfl
theorem wg_14 : Jvm.Cond.instantiable "HairLine" (6 : Nat) ∈ gw := gm (tm1 (List.mem_of_getElem? (i := 14) rfl)) rfl
theorem wg_15 : Jvm.Cond.methodLink "HairLineLaw" (9 : Nat) ({ cls := "HairLine", name := "<init>", desc := "()V" } : Jvm.MethodName) ∈ gw := gm (tm1 (List.mem_of_getElem? (i := 15) rfl)) rfl
theorem wg_16 : Jvm.Cond.instanceMethod ({ cls := "HairLine", name := "<init>", desc := "()V" } : Jvm.MethodName) ∈ gw := gm (tm1 (List.mem_of_getElem? (i := 16) rfl)) rfl
theorem wg_17 : Jvm.Cond.code ({ cls := "HairLine", name := "<init>", desc := "()V" } : Jvm.MethodName) prog_1_method_1_code (1 : Nat) (Option.none : Option Jvm.ClassFile.FieldType) ∈ gw := gm (tm1 (List.mem_of_getElem? (i := 17) rfl)) rfl
theorem wg_18 : Jvm.Cond.methodLink "HairLine" (1 : Nat) ({ cls := "java/lang/Object", name := "<init>", desc := "()V" } : Jvm.MethodName) ∈ gw := gm (tm1 (List.mem_of_getElem? (i := 18) rfl)) rfl
theorem wg_19 : Jvm.Cond.instanceMethod ({ cls := "java/lang/Object", name := "<init>", desc := "()V" } : Jvm.MethodName) ∈ gw := gm (tm1 (List.mem_of_getElem? (i := 19) rfl)) rfl
theorem wg_20 : Jvm.Cond.code ({ cls := "java/lang/Object", name := "<init>", desc := "()V" } : Jvm.MethodName) object_method_1_code (1 : Nat) (Option.none : Option Jvm.ClassFile.FieldType) ∈ gw := gm (tm1 (List.mem_of_getElem? (i := 20) rfl)) rfl
theorem wg_21 : Jvm.Cond.classLink "HairLine" (7 : Nat) "HairLine$Track" ∈ gw := gm (tm1 (List.mem_of_getElem? (i := 21) rfl)) rfl
theorem wg_22 : Jvm.Cond.instantiable "HairLine$Track" (3 : Nat) ∈ gw := gm (tm1 (List.mem_of_getElem? (i := 22) rfl)) rfl
theorem wg_23 : Jvm.Cond.methodLink "HairLine" (9 : Nat) ({ cls := "HairLine$Track", name := "<init>", desc := "()V" } : Jvm.MethodName) ∈ gw := gm (tm1 (List.mem_of_getElem? (i := 23) rfl)) rfl
theorem wg_24 : Jvm.Cond.instanceMethod ({ cls := "HairLine$Track", name := "<init>", desc := "()V" } : Jvm.MethodName) ∈ gw := gm (tm1 (List.mem_of_getElem? (i := 24) rfl)) rfl
theorem wg_25 : Jvm.Cond.code ({ cls := "HairLine$Track", name := "<init>", desc := "()V" } : Jvm.MethodName) prog_9_method_1_code (2 : Nat) (Option.none : Option Jvm.ClassFile.FieldType) ∈ gw := gm (tm1 (List.mem_of_getElem? (i := 25) rfl)) rfl
theorem wg_26 : Jvm.Cond.methodLink "HairLine$Track" (3 : Nat) ({ cls := "java/lang/Object", name := "<init>", desc := "()V" } : Jvm.MethodName) ∈ gw := gm (tm1 (List.mem_of_getElem? (i := 26) rfl)) rfl
theorem wg_27 : Jvm.Cond.classLink "HairLine$Track" (9 : Nat) "HairLine$Runner" ∈ gw := gm (tm1 (List.mem_of_getElem? (i := 27) rfl)) rfl
theorem wm_28 : Jvm.Cond.arrayOver (Jvm.ClassFile.FieldType.object "HairLine$Runner") ∈ lw_tbl := tm1 (List.mem_of_getElem? (i := 28) rfl)
theorem wg_29 : Jvm.Cond.instantiable "HairLine$Runner" (5 : Nat) ∈ gw := gm (tm1 (List.mem_of_getElem? (i := 29) rfl)) rfl
theorem wg_30 : Jvm.Cond.methodLink "HairLine$Track" (21 : Nat) ({ cls := "HairLine$Runner", name := "<init>", desc := "()V" } : Jvm.MethodName) ∈ gw := gm (tm1 (List.mem_of_getElem? (i := 30) rfl)) rfl
theorem wg_31 : Jvm.Cond.instanceMethod ({ cls := "HairLine$Runner", name := "<init>", desc := "()V" } : Jvm.MethodName) ∈ gw := gm (tm1 (List.mem_of_getElem? (i := 31) rfl)) rfl
theorem wg_32 : Jvm.Cond.code ({ cls := "HairLine$Runner", name := "<init>", desc := "()V" } : Jvm.MethodName) prog_6_method_1_code (2 : Nat) (Option.none : Option Jvm.ClassFile.FieldType) ∈ gw := gm (tm1 (List.mem_of_getElem? (i := 32) rfl)) rfl
theorem wg_33 : Jvm.Cond.methodLink "HairLine$Runner" (3 : Nat) ({ cls := "java/lang/Object", name := "<init>", desc := "()V" } : Jvm.MethodName) ∈ gw := gm (tm1 (List.mem_of_getElem? (i := 33) rfl)) rfl
theorem wg_34 : Jvm.Cond.fieldLink "HairLine$Runner" (9 : Nat) "HairLine$Runner" "from" "[I" ∈ gw := gm (tm1 (List.mem_of_getElem? (i := 34) rfl)) rfl
theorem wg_35 : Jvm.Cond.fieldLink "HairLine$Runner" (15 : Nat) "HairLine$Runner" "to" "[I" ∈ gw := gm (tm1 (List.mem_of_getElem? (i := 35) rfl)) rfl
theorem wg_36 : Jvm.Cond.fieldLink "HairLine$Runner" (25 : Nat) "HairLine$Runner" "begin" "I" ∈ gw := gm (tm1 (List.mem_of_getElem? (i := 36) rfl)) rfl
theorem wm_37 : Jvm.Cond.fieldLinkNest "HairLine$Track" (30 : Nat) "HairLine$Runner" "begin" "I" "HairLine" ∈ lw_tbl := tm1 (List.mem_of_getElem? (i := 37) rfl)
theorem wg_38 : Jvm.Cond.fieldLink "HairLine$Runner" (18 : Nat) "HairLine$Runner" "speed" "I" ∈ gw := gm (tm1 (List.mem_of_getElem? (i := 38) rfl)) rfl
theorem wm_39 : Jvm.Cond.fieldLinkNest "HairLine$Track" (33 : Nat) "HairLine$Runner" "speed" "I" "HairLine" ∈ lw_tbl := tm1 (List.mem_of_getElem? (i := 39) rfl)
theorem wg_40 : Jvm.Cond.fieldLink "HairLine$Runner" (22 : Nat) "HairLine$Runner" "pushed" "I" ∈ gw := gm (tm1 (List.mem_of_getElem? (i := 40) rfl)) rfl
theorem wm_41 : Jvm.Cond.fieldLinkNest "HairLine$Track" (83 : Nat) "HairLine$Runner" "pushed" "I" "HairLine" ∈ lw_tbl := tm1 (List.mem_of_getElem? (i := 41) rfl)
theorem wm_42 : Jvm.Cond.fieldLinkNest "HairLine" (148 : Nat) "HairLine$Runner" "pushed" "I" "HairLine" ∈ lw_tbl := tm1 (List.mem_of_getElem? (i := 42) rfl)
theorem wg_43 : Jvm.Cond.laysFinal "HairLine$Runner" "HairLine$Runner" "from" "[I" ∈ gw := gm (tm1 (List.mem_of_getElem? (i := 43) rfl)) rfl
theorem wg_45 : Jvm.Cond.laysFinal "HairLine$Runner" "HairLine$Runner" "to" "[I" ∈ gw := gm (tm1 (List.mem_of_getElem? (i := 45) rfl)) rfl
theorem wg_47 : Jvm.Cond.lays "HairLine$Runner" "HairLine$Runner" "begin" "I" ∈ gw := gm (tm1 (List.mem_of_getElem? (i := 47) rfl)) rfl
theorem wg_49 : Jvm.Cond.lays "HairLine$Runner" "HairLine$Runner" "speed" "I" ∈ gw := gm (tm1 (List.mem_of_getElem? (i := 49) rfl)) rfl
theorem wg_51 : Jvm.Cond.lays "HairLine$Runner" "HairLine$Runner" "pushed" "I" ∈ gw := gm (tm1 (List.mem_of_getElem? (i := 51) rfl)) rfl
theorem wg_54 : Jvm.Cond.arrayClass Jvm.ClassFile.FieldType.int ∈ gw := gm (tm1 (List.mem_of_getElem? (i := 54) rfl)) rfl
theorem wg_55 : Jvm.Cond.fieldLink "HairLine$Track" (11 : Nat) "HairLine$Track" "runners" "[LHairLine$Runner;" ∈ gw := gm (tm1 (List.mem_of_getElem? (i := 55) rfl)) rfl
theorem wm_56 : Jvm.Cond.fieldLinkNest "HairLine" (66 : Nat) "HairLine$Track" "runners" "[LHairLine$Runner;" "HairLine" ∈ lw_tbl := tm1 (List.mem_of_getElem? (i := 56) rfl)
theorem wg_57 : Jvm.Cond.fieldLink "HairLine$Track" (17 : Nat) "HairLine$Track" "settings" "[I" ∈ gw := gm (tm1 (List.mem_of_getElem? (i := 57) rfl)) rfl
theorem wm_58 : Jvm.Cond.fieldLinkNest "HairLine" (83 : Nat) "HairLine$Track" "settings" "[I" "HairLine" ∈ lw_tbl := tm1 (List.mem_of_getElem? (i := 58) rfl)
theorem wg_59 : Jvm.Cond.fieldLink "HairLine$Track" (22 : Nat) "HairLine$Track" "count" "I" ∈ gw := gm (tm1 (List.mem_of_getElem? (i := 59) rfl)) rfl
theorem wm_60 : Jvm.Cond.fieldLinkNest "HairLine$Rack" (25 : Nat) "HairLine$Track" "count" "I" "HairLine" ∈ lw_tbl := tm1 (List.mem_of_getElem? (i := 60) rfl)
theorem wm_61 : Jvm.Cond.fieldLinkNest "HairLine" (118 : Nat) "HairLine$Track" "count" "I" "HairLine" ∈ lw_tbl := tm1 (List.mem_of_getElem? (i := 61) rfl)
theorem wg_62 : Jvm.Cond.laysFinal "HairLine$Track" "HairLine$Track" "runners" "[LHairLine$Runner;" ∈ gw := gm (tm1 (List.mem_of_getElem? (i := 62) rfl)) rfl
theorem wg_64 : Jvm.Cond.laysFinal "HairLine$Track" "HairLine$Track" "settings" "[I" ∈ gw := gm (tm1 (List.mem_of_getElem? (i := 64) rfl)) rfl
theorem wg_66 : Jvm.Cond.lays "HairLine$Track" "HairLine$Track" "count" "I" ∈ gw := gm (tm1 (List.mem_of_getElem? (i := 66) rfl)) rfl
theorem wg_69 : Jvm.Cond.classLink "HairLine" (16 : Nat) "HairLine$Ranking" ∈ gw := gm (tm1 (List.mem_of_getElem? (i := 69) rfl)) rfl
theorem wg_70 : Jvm.Cond.instantiable "HairLine$Ranking" (3 : Nat) ∈ gw := gm (tm1 (List.mem_of_getElem? (i := 70) rfl)) rfl
theorem wm_71 : Jvm.Cond.methodLinkNest "HairLine" (18 : Nat) ({ cls := "HairLine$Ranking", name := "<init>", desc := "()V" } : Jvm.MethodName) "HairLine" ∈ lw_tbl := tm1 (List.mem_of_getElem? (i := 71) rfl)
theorem wg_72 : Jvm.Cond.instanceMethod ({ cls := "HairLine$Ranking", name := "<init>", desc := "()V" } : Jvm.MethodName) ∈ gw := gm (tm1 (List.mem_of_getElem? (i := 72) rfl)) rfl
theorem wg_73 : Jvm.Cond.code ({ cls := "HairLine$Ranking", name := "<init>", desc := "()V" } : Jvm.MethodName) prog_5_method_1_code (1 : Nat) (Option.none : Option Jvm.ClassFile.FieldType) ∈ gw := gm (tm1 (List.mem_of_getElem? (i := 73) rfl)) rfl
theorem wg_74 : Jvm.Cond.methodLink "HairLine$Ranking" (3 : Nat) ({ cls := "java/lang/Object", name := "<init>", desc := "()V" } : Jvm.MethodName) ∈ gw := gm (tm1 (List.mem_of_getElem? (i := 74) rfl)) rfl
theorem wg_75 : Jvm.Cond.fieldLink "HairLine$Ranking" (9 : Nat) "HairLine$Ranking" "lanes" "[I" ∈ gw := gm (tm1 (List.mem_of_getElem? (i := 75) rfl)) rfl
theorem wg_76 : Jvm.Cond.fieldLink "HairLine$Ranking" (15 : Nat) "HairLine$Ranking" "keys" "[I" ∈ gw := gm (tm1 (List.mem_of_getElem? (i := 76) rfl)) rfl
theorem wg_77 : Jvm.Cond.fieldLink "HairLine$Ranking" (18 : Nat) "HairLine$Ranking" "size" "I" ∈ gw := gm (tm1 (List.mem_of_getElem? (i := 77) rfl)) rfl
theorem wm_78 : Jvm.Cond.fieldLinkNest "HairLine" (130 : Nat) "HairLine$Ranking" "size" "I" "HairLine" ∈ lw_tbl := tm1 (List.mem_of_getElem? (i := 78) rfl)
theorem wg_79 : Jvm.Cond.laysFinal "HairLine$Ranking" "HairLine$Ranking" "lanes" "[I" ∈ gw := gm (tm1 (List.mem_of_getElem? (i := 79) rfl)) rfl
theorem wg_81 : Jvm.Cond.laysFinal "HairLine$Ranking" "HairLine$Ranking" "keys" "[I" ∈ gw := gm (tm1 (List.mem_of_getElem? (i := 81) rfl)) rfl
theorem wg_83 : Jvm.Cond.lays "HairLine$Ranking" "HairLine$Ranking" "size" "I" ∈ gw := gm (tm1 (List.mem_of_getElem? (i := 83) rfl)) rfl
theorem wg_86 : Jvm.Cond.classLink "HairLine" (23 : Nat) "HairLine$Panel" ∈ gw := gm (tm1 (List.mem_of_getElem? (i := 86) rfl)) rfl
theorem wg_87 : Jvm.Cond.instantiable "HairLine$Panel" (3 : Nat) ∈ gw := gm (tm1 (List.mem_of_getElem? (i := 87) rfl)) rfl
theorem wg_88 : Jvm.Cond.methodLink "HairLine" (25 : Nat) ({ cls := "HairLine$Panel", name := "<init>", desc := "()V" } : Jvm.MethodName) ∈ gw := gm (tm1 (List.mem_of_getElem? (i := 88) rfl)) rfl
theorem wg_89 : Jvm.Cond.instanceMethod ({ cls := "HairLine$Panel", name := "<init>", desc := "()V" } : Jvm.MethodName) ∈ gw := gm (tm1 (List.mem_of_getElem? (i := 89) rfl)) rfl
theorem wg_90 : Jvm.Cond.code ({ cls := "HairLine$Panel", name := "<init>", desc := "()V" } : Jvm.MethodName) prog_3_method_1_code (2 : Nat) (Option.none : Option Jvm.ClassFile.FieldType) ∈ gw := gm (tm1 (List.mem_of_getElem? (i := 90) rfl)) rfl
theorem wg_91 : Jvm.Cond.methodLink "HairLine$Panel" (3 : Nat) ({ cls := "java/lang/Object", name := "<init>", desc := "()V" } : Jvm.MethodName) ∈ gw := gm (tm1 (List.mem_of_getElem? (i := 91) rfl)) rfl
theorem wg_92 : Jvm.Cond.classLink "HairLine$Panel" (9 : Nat) "HairLine$Span" ∈ gw := gm (tm1 (List.mem_of_getElem? (i := 92) rfl)) rfl
theorem wm_93 : Jvm.Cond.arrayOver (Jvm.ClassFile.FieldType.object "HairLine$Span") ∈ lw_tbl := tm1 (List.mem_of_getElem? (i := 93) rfl)
theorem wg_94 : Jvm.Cond.instantiable "HairLine$Span" (2 : Nat) ∈ gw := gm (tm1 (List.mem_of_getElem? (i := 94) rfl)) rfl
theorem wm_95 : Jvm.Cond.methodLinkNest "HairLine$Panel" (21 : Nat) ({ cls := "HairLine$Span", name := "<init>", desc := "()V" } : Jvm.MethodName) "HairLine" ∈ lw_tbl := tm1 (List.mem_of_getElem? (i := 95) rfl)
theorem wg_96 : Jvm.Cond.instanceMethod ({ cls := "HairLine$Span", name := "<init>", desc := "()V" } : Jvm.MethodName) ∈ gw := gm (tm1 (List.mem_of_getElem? (i := 96) rfl)) rfl
theorem wg_97 : Jvm.Cond.code ({ cls := "HairLine$Span", name := "<init>", desc := "()V" } : Jvm.MethodName) prog_8_method_1_code (1 : Nat) (Option.none : Option Jvm.ClassFile.FieldType) ∈ gw := gm (tm1 (List.mem_of_getElem? (i := 97) rfl)) rfl
theorem wg_98 : Jvm.Cond.methodLink "HairLine$Span" (1 : Nat) ({ cls := "java/lang/Object", name := "<init>", desc := "()V" } : Jvm.MethodName) ∈ gw := gm (tm1 (List.mem_of_getElem? (i := 98) rfl)) rfl
theorem wg_99 : Jvm.Cond.fieldLink "HairLine$Span" (7 : Nat) "HairLine$Span" "least" "I" ∈ gw := gm (tm1 (List.mem_of_getElem? (i := 99) rfl)) rfl
theorem wm_100 : Jvm.Cond.fieldLinkNest "HairLine$Panel" (36 : Nat) "HairLine$Span" "least" "I" "HairLine" ∈ lw_tbl := tm1 (List.mem_of_getElem? (i := 100) rfl)
theorem wm_101 : Jvm.Cond.fieldLinkNest "HairLine" (200 : Nat) "HairLine$Span" "least" "I" "HairLine" ∈ lw_tbl := tm1 (List.mem_of_getElem? (i := 101) rfl)
theorem wg_102 : Jvm.Cond.fieldLink "HairLine$Span" (13 : Nat) "HairLine$Span" "greatest" "I" ∈ gw := gm (tm1 (List.mem_of_getElem? (i := 102) rfl)) rfl
theorem wm_103 : Jvm.Cond.fieldLinkNest "HairLine$Panel" (32 : Nat) "HairLine$Span" "greatest" "I" "HairLine" ∈ lw_tbl := tm1 (List.mem_of_getElem? (i := 103) rfl)
theorem wm_104 : Jvm.Cond.fieldLinkNest "HairLine" (197 : Nat) "HairLine$Span" "greatest" "I" "HairLine" ∈ lw_tbl := tm1 (List.mem_of_getElem? (i := 104) rfl)
theorem wg_105 : Jvm.Cond.lays "HairLine$Span" "HairLine$Span" "least" "I" ∈ gw := gm (tm1 (List.mem_of_getElem? (i := 105) rfl)) rfl
theorem wg_107 : Jvm.Cond.lays "HairLine$Span" "HairLine$Span" "greatest" "I" ∈ gw := gm (tm1 (List.mem_of_getElem? (i := 107) rfl)) rfl
theorem wg_110 : Jvm.Cond.methodLink "HairLine$Panel" (26 : Nat) ({ cls := "HairLine$Span", name := "put", desc := "(II)V" } : Jvm.MethodName) ∈ gw := gm (tm1 (List.mem_of_getElem? (i := 110) rfl)) rfl
theorem wg_111 : Jvm.Cond.instanceMethod ({ cls := "HairLine$Span", name := "put", desc := "(II)V" } : Jvm.MethodName) ∈ gw := gm (tm1 (List.mem_of_getElem? (i := 111) rfl)) rfl
theorem wg_112 : Jvm.Cond.selects "HairLine$Span" ({ cls := "HairLine$Span", name := "put", desc := "(II)V" } : Jvm.MethodName) ({ cls := "HairLine$Span", name := "put", desc := "(II)V" } : Jvm.MethodName) ∈ gw := gm (tm1 (List.mem_of_getElem? (i := 112) rfl)) rfl
theorem wg_113 : Jvm.Cond.code ({ cls := "HairLine$Span", name := "put", desc := "(II)V" } : Jvm.MethodName) prog_8_method_2_code (3 : Nat) (Option.none : Option Jvm.ClassFile.FieldType) ∈ gw := gm (tm1 (List.mem_of_getElem? (i := 113) rfl)) rfl
theorem wg_114 : Jvm.Cond.fieldLink "HairLine$Panel" (11 : Nat) "HairLine$Panel" "spans" "[LHairLine$Span;" ∈ gw := gm (tm1 (List.mem_of_getElem? (i := 114) rfl)) rfl
theorem wm_115 : Jvm.Cond.fieldLinkNest "HairLine" (173 : Nat) "HairLine$Panel" "spans" "[LHairLine$Span;" "HairLine" ∈ lw_tbl := tm1 (List.mem_of_getElem? (i := 115) rfl)
theorem wg_116 : Jvm.Cond.fieldLink "HairLine$Panel" (17 : Nat) "HairLine$Panel" "said" "[I" ∈ gw := gm (tm1 (List.mem_of_getElem? (i := 116) rfl)) rfl
theorem wm_117 : Jvm.Cond.fieldLinkNest "HairLine" (185 : Nat) "HairLine$Panel" "said" "[I" "HairLine" ∈ lw_tbl := tm1 (List.mem_of_getElem? (i := 117) rfl)
theorem wg_118 : Jvm.Cond.fieldLink "HairLine$Panel" (22 : Nat) "HairLine$Panel" "truth" "LHairLine$Span;" ∈ gw := gm (tm1 (List.mem_of_getElem? (i := 118) rfl)) rfl
theorem wm_119 : Jvm.Cond.fieldLinkNest "HairLine" (193 : Nat) "HairLine$Panel" "truth" "LHairLine$Span;" "HairLine" ∈ lw_tbl := tm1 (List.mem_of_getElem? (i := 119) rfl)
theorem wg_120 : Jvm.Cond.laysFinal "HairLine$Panel" "HairLine$Panel" "spans" "[LHairLine$Span;" ∈ gw := gm (tm1 (List.mem_of_getElem? (i := 120) rfl)) rfl
theorem wg_122 : Jvm.Cond.laysFinal "HairLine$Panel" "HairLine$Panel" "said" "[I" ∈ gw := gm (tm1 (List.mem_of_getElem? (i := 122) rfl)) rfl
theorem wg_124 : Jvm.Cond.laysFinal "HairLine$Panel" "HairLine$Panel" "truth" "LHairLine$Span;" ∈ gw := gm (tm1 (List.mem_of_getElem? (i := 124) rfl)) rfl
theorem wg_127 : Jvm.Cond.classLink "HairLine" (30 : Nat) "HairLine$Signs" ∈ gw := gm (tm1 (List.mem_of_getElem? (i := 127) rfl)) rfl
theorem wg_128 : Jvm.Cond.instantiable "HairLine$Signs" (2 : Nat) ∈ gw := gm (tm1 (List.mem_of_getElem? (i := 128) rfl)) rfl
theorem wm_129 : Jvm.Cond.methodLinkNest "HairLine" (32 : Nat) ({ cls := "HairLine$Signs", name := "<init>", desc := "()V" } : Jvm.MethodName) "HairLine" ∈ lw_tbl := tm1 (List.mem_of_getElem? (i := 129) rfl)
theorem wg_130 : Jvm.Cond.instanceMethod ({ cls := "HairLine$Signs", name := "<init>", desc := "()V" } : Jvm.MethodName) ∈ gw := gm (tm1 (List.mem_of_getElem? (i := 130) rfl)) rfl
theorem wg_131 : Jvm.Cond.code ({ cls := "HairLine$Signs", name := "<init>", desc := "()V" } : Jvm.MethodName) prog_7_method_1_code (1 : Nat) (Option.none : Option Jvm.ClassFile.FieldType) ∈ gw := gm (tm1 (List.mem_of_getElem? (i := 131) rfl)) rfl
theorem wg_132 : Jvm.Cond.methodLink "HairLine$Signs" (3 : Nat) ({ cls := "java/lang/Object", name := "<init>", desc := "()V" } : Jvm.MethodName) ∈ gw := gm (tm1 (List.mem_of_getElem? (i := 132) rfl)) rfl
theorem wg_133 : Jvm.Cond.fieldLink "HairLine$Signs" (9 : Nat) "HairLine$Signs" "codes" "[I" ∈ gw := gm (tm1 (List.mem_of_getElem? (i := 133) rfl)) rfl
theorem wm_134 : Jvm.Cond.fieldLinkNest "HairLine$Lines" (31 : Nat) "HairLine$Signs" "codes" "[I" "HairLine" ∈ lw_tbl := tm1 (List.mem_of_getElem? (i := 134) rfl)
theorem wg_135 : Jvm.Cond.fieldLink "HairLine$Signs" (15 : Nat) "HairLine$Signs" "count" "I" ∈ gw := gm (tm1 (List.mem_of_getElem? (i := 135) rfl)) rfl
theorem wm_136 : Jvm.Cond.fieldLinkNest "HairLine$Lines" (28 : Nat) "HairLine$Signs" "count" "I" "HairLine" ∈ lw_tbl := tm1 (List.mem_of_getElem? (i := 136) rfl)
theorem wm_137 : Jvm.Cond.fieldLinkNest "HairLine" (206 : Nat) "HairLine$Signs" "count" "I" "HairLine" ∈ lw_tbl := tm1 (List.mem_of_getElem? (i := 137) rfl)
theorem wg_138 : Jvm.Cond.laysFinal "HairLine$Signs" "HairLine$Signs" "codes" "[I" ∈ gw := gm (tm1 (List.mem_of_getElem? (i := 138) rfl)) rfl
theorem wg_140 : Jvm.Cond.lays "HairLine$Signs" "HairLine$Signs" "count" "I" ∈ gw := gm (tm1 (List.mem_of_getElem? (i := 140) rfl)) rfl
theorem wg_143 : Jvm.Cond.classLink "HairLine" (37 : Nat) "HairLine$Lines" ∈ gw := gm (tm1 (List.mem_of_getElem? (i := 143) rfl)) rfl
theorem wg_144 : Jvm.Cond.instantiable "HairLine$Lines" (5 : Nat) ∈ gw := gm (tm1 (List.mem_of_getElem? (i := 144) rfl)) rfl
theorem wm_145 : Jvm.Cond.methodLinkNest "HairLine" (39 : Nat) ({ cls := "HairLine$Lines", name := "<init>", desc := "()V" } : Jvm.MethodName) "HairLine" ∈ lw_tbl := tm1 (List.mem_of_getElem? (i := 145) rfl)
theorem wg_146 : Jvm.Cond.instanceMethod ({ cls := "HairLine$Lines", name := "<init>", desc := "()V" } : Jvm.MethodName) ∈ gw := gm (tm1 (List.mem_of_getElem? (i := 146) rfl)) rfl
theorem wg_147 : Jvm.Cond.code ({ cls := "HairLine$Lines", name := "<init>", desc := "()V" } : Jvm.MethodName) prog_2_method_1_code (1 : Nat) (Option.none : Option Jvm.ClassFile.FieldType) ∈ gw := gm (tm1 (List.mem_of_getElem? (i := 147) rfl)) rfl
theorem wg_148 : Jvm.Cond.methodLink "HairLine$Lines" (3 : Nat) ({ cls := "java/lang/Object", name := "<init>", desc := "()V" } : Jvm.MethodName) ∈ gw := gm (tm1 (List.mem_of_getElem? (i := 148) rfl)) rfl
theorem wg_149 : Jvm.Cond.fieldLink "HairLine$Lines" (9 : Nat) "HairLine$Lines" "fact" "[I" ∈ gw := gm (tm1 (List.mem_of_getElem? (i := 149) rfl)) rfl
theorem wm_150 : Jvm.Cond.fieldLinkNest "HairLine" (218 : Nat) "HairLine$Lines" "fact" "[I" "HairLine" ∈ lw_tbl := tm1 (List.mem_of_getElem? (i := 150) rfl)
theorem wg_151 : Jvm.Cond.fieldLink "HairLine$Lines" (15 : Nat) "HairLine$Lines" "relation" "[I" ∈ gw := gm (tm1 (List.mem_of_getElem? (i := 151) rfl)) rfl
theorem wg_152 : Jvm.Cond.fieldLink "HairLine$Lines" (18 : Nat) "HairLine$Lines" "factor" "[I" ∈ gw := gm (tm1 (List.mem_of_getElem? (i := 152) rfl)) rfl
theorem wg_153 : Jvm.Cond.fieldLink "HairLine$Lines" (21 : Nat) "HairLine$Lines" "bound" "[I" ∈ gw := gm (tm1 (List.mem_of_getElem? (i := 153) rfl)) rfl
theorem wg_154 : Jvm.Cond.fieldLink "HairLine$Lines" (24 : Nat) "HairLine$Lines" "count" "I" ∈ gw := gm (tm1 (List.mem_of_getElem? (i := 154) rfl)) rfl
theorem wm_155 : Jvm.Cond.fieldLinkNest "HairLine" (214 : Nat) "HairLine$Lines" "count" "I" "HairLine" ∈ lw_tbl := tm1 (List.mem_of_getElem? (i := 155) rfl)
theorem wg_156 : Jvm.Cond.laysFinal "HairLine$Lines" "HairLine$Lines" "fact" "[I" ∈ gw := gm (tm1 (List.mem_of_getElem? (i := 156) rfl)) rfl
theorem wg_158 : Jvm.Cond.laysFinal "HairLine$Lines" "HairLine$Lines" "relation" "[I" ∈ gw := gm (tm1 (List.mem_of_getElem? (i := 158) rfl)) rfl
theorem wg_160 : Jvm.Cond.laysFinal "HairLine$Lines" "HairLine$Lines" "factor" "[I" ∈ gw := gm (tm1 (List.mem_of_getElem? (i := 160) rfl)) rfl
theorem wg_162 : Jvm.Cond.laysFinal "HairLine$Lines" "HairLine$Lines" "bound" "[I" ∈ gw := gm (tm1 (List.mem_of_getElem? (i := 162) rfl)) rfl
theorem wg_164 : Jvm.Cond.lays "HairLine$Lines" "HairLine$Lines" "count" "I" ∈ gw := gm (tm1 (List.mem_of_getElem? (i := 164) rfl)) rfl
theorem wg_167 : Jvm.Cond.classLink "HairLine" (44 : Nat) "HairLine$Rack" ∈ gw := gm (tm1 (List.mem_of_getElem? (i := 167) rfl)) rfl
theorem wg_168 : Jvm.Cond.instantiable "HairLine$Rack" (4 : Nat) ∈ gw := gm (tm1 (List.mem_of_getElem? (i := 168) rfl)) rfl
theorem wm_169 : Jvm.Cond.methodLinkNest "HairLine" (46 : Nat) ({ cls := "HairLine$Rack", name := "<init>", desc := "()V" } : Jvm.MethodName) "HairLine" ∈ lw_tbl := tm1 (List.mem_of_getElem? (i := 169) rfl)
theorem wg_170 : Jvm.Cond.instanceMethod ({ cls := "HairLine$Rack", name := "<init>", desc := "()V" } : Jvm.MethodName) ∈ gw := gm (tm1 (List.mem_of_getElem? (i := 170) rfl)) rfl
theorem wg_171 : Jvm.Cond.code ({ cls := "HairLine$Rack", name := "<init>", desc := "()V" } : Jvm.MethodName) prog_4_method_1_code (1 : Nat) (Option.none : Option Jvm.ClassFile.FieldType) ∈ gw := gm (tm1 (List.mem_of_getElem? (i := 171) rfl)) rfl
theorem wg_172 : Jvm.Cond.methodLink "HairLine$Rack" (3 : Nat) ({ cls := "java/lang/Object", name := "<init>", desc := "()V" } : Jvm.MethodName) ∈ gw := gm (tm1 (List.mem_of_getElem? (i := 172) rfl)) rfl
theorem wg_173 : Jvm.Cond.fieldLink "HairLine$Rack" (9 : Nat) "HairLine$Rack" "sides" "[I" ∈ gw := gm (tm1 (List.mem_of_getElem? (i := 173) rfl)) rfl
theorem wg_174 : Jvm.Cond.fieldLink "HairLine$Rack" (15 : Nat) "HairLine$Rack" "rows" "[I" ∈ gw := gm (tm1 (List.mem_of_getElem? (i := 174) rfl)) rfl
theorem wg_175 : Jvm.Cond.fieldLink "HairLine$Rack" (18 : Nat) "HairLine$Rack" "lanesSeen" "[I" ∈ gw := gm (tm1 (List.mem_of_getElem? (i := 175) rfl)) rfl
theorem wg_176 : Jvm.Cond.fieldLink "HairLine$Rack" (21 : Nat) "HairLine$Rack" "count" "I" ∈ gw := gm (tm1 (List.mem_of_getElem? (i := 176) rfl)) rfl
theorem wm_177 : Jvm.Cond.fieldLinkNest "HairLine" (230 : Nat) "HairLine$Rack" "count" "I" "HairLine" ∈ lw_tbl := tm1 (List.mem_of_getElem? (i := 177) rfl)
theorem wg_178 : Jvm.Cond.laysFinal "HairLine$Rack" "HairLine$Rack" "sides" "[I" ∈ gw := gm (tm1 (List.mem_of_getElem? (i := 178) rfl)) rfl
theorem wg_180 : Jvm.Cond.laysFinal "HairLine$Rack" "HairLine$Rack" "rows" "[I" ∈ gw := gm (tm1 (List.mem_of_getElem? (i := 180) rfl)) rfl
theorem wg_182 : Jvm.Cond.laysFinal "HairLine$Rack" "HairLine$Rack" "lanesSeen" "[I" ∈ gw := gm (tm1 (List.mem_of_getElem? (i := 182) rfl)) rfl
theorem wg_184 : Jvm.Cond.lays "HairLine$Rack" "HairLine$Rack" "count" "I" ∈ gw := gm (tm1 (List.mem_of_getElem? (i := 184) rfl)) rfl
theorem wg_187 : Jvm.Cond.fieldLink "HairLine" (10 : Nat) "HairLine" "track" "LHairLine$Track;" ∈ gw := gm (tm1 (List.mem_of_getElem? (i := 187) rfl)) rfl
theorem wg_188 : Jvm.Cond.fieldLink "HairLine" (19 : Nat) "HairLine" "ranking" "LHairLine$Ranking;" ∈ gw := gm (tm1 (List.mem_of_getElem? (i := 188) rfl)) rfl
theorem wg_189 : Jvm.Cond.fieldLink "HairLine" (26 : Nat) "HairLine" "panel" "LHairLine$Panel;" ∈ gw := gm (tm1 (List.mem_of_getElem? (i := 189) rfl)) rfl
theorem wg_190 : Jvm.Cond.fieldLink "HairLine" (33 : Nat) "HairLine" "signs" "LHairLine$Signs;" ∈ gw := gm (tm1 (List.mem_of_getElem? (i := 190) rfl)) rfl
theorem wg_191 : Jvm.Cond.fieldLink "HairLine" (40 : Nat) "HairLine" "lines" "LHairLine$Lines;" ∈ gw := gm (tm1 (List.mem_of_getElem? (i := 191) rfl)) rfl
theorem wg_192 : Jvm.Cond.fieldLink "HairLine" (47 : Nat) "HairLine" "rack" "LHairLine$Rack;" ∈ gw := gm (tm1 (List.mem_of_getElem? (i := 192) rfl)) rfl
theorem wg_193 : Jvm.Cond.laysFinal "HairLine" "HairLine" "track" "LHairLine$Track;" ∈ gw := gm (tm1 (List.mem_of_getElem? (i := 193) rfl)) rfl
theorem wg_195 : Jvm.Cond.laysFinal "HairLine" "HairLine" "ranking" "LHairLine$Ranking;" ∈ gw := gm (tm1 (List.mem_of_getElem? (i := 195) rfl)) rfl
theorem wg_197 : Jvm.Cond.laysFinal "HairLine" "HairLine" "panel" "LHairLine$Panel;" ∈ gw := gm (tm1 (List.mem_of_getElem? (i := 197) rfl)) rfl
theorem wg_199 : Jvm.Cond.laysFinal "HairLine" "HairLine" "signs" "LHairLine$Signs;" ∈ gw := gm (tm1 (List.mem_of_getElem? (i := 199) rfl)) rfl
theorem wg_201 : Jvm.Cond.laysFinal "HairLine" "HairLine" "lines" "LHairLine$Lines;" ∈ gw := gm (tm1 (List.mem_of_getElem? (i := 201) rfl)) rfl
theorem wg_203 : Jvm.Cond.laysFinal "HairLine" "HairLine" "rack" "LHairLine$Rack;" ∈ gw := gm (tm1 (List.mem_of_getElem? (i := 203) rfl)) rfl
theorem wg_206 : Jvm.Cond.methodLink "HairLineLaw" (13 : Nat) ({ cls := "HairLine", name := "runner", desc := "(II)I" } : Jvm.MethodName) ∈ gw := gm (tm1 (List.mem_of_getElem? (i := 206) rfl)) rfl
theorem wg_207 : Jvm.Cond.instanceMethod ({ cls := "HairLine", name := "runner", desc := "(II)I" } : Jvm.MethodName) ∈ gw := gm (tm1 (List.mem_of_getElem? (i := 207) rfl)) rfl
theorem wg_208 : Jvm.Cond.selects "HairLine" ({ cls := "HairLine", name := "runner", desc := "(II)I" } : Jvm.MethodName) ({ cls := "HairLine", name := "runner", desc := "(II)I" } : Jvm.MethodName) ∈ gw := gm (tm1 (List.mem_of_getElem? (i := 208) rfl)) rfl
theorem wg_209 : Jvm.Cond.code ({ cls := "HairLine", name := "runner", desc := "(II)I" } : Jvm.MethodName) prog_1_method_2_code (3 : Nat) (Option.some Jvm.ClassFile.FieldType.int) ∈ gw := gm (tm1 (List.mem_of_getElem? (i := 209) rfl)) rfl
theorem wg_210 : Jvm.Cond.methodLink "HairLine" (51 : Nat) ({ cls := "HairLine", name := "within", desc := "(III)Z" } : Jvm.MethodName) ∈ gw := gm (tm1 (List.mem_of_getElem? (i := 210) rfl)) rfl
theorem wg_211 : Jvm.Cond.static ({ cls := "HairLine", name := "within", desc := "(III)Z" } : Jvm.MethodName) ∈ gw := gm (tm1 (List.mem_of_getElem? (i := 211) rfl)) rfl
theorem wg_212 : Jvm.Cond.code ({ cls := "HairLine", name := "within", desc := "(III)Z" } : Jvm.MethodName) prog_1_method_29_code (3 : Nat) (Option.some Jvm.ClassFile.FieldType.boolean) ∈ gw := gm (tm1 (List.mem_of_getElem? (i := 212) rfl)) rfl
theorem wg_213 : Jvm.Cond.methodLink "HairLine" (55 : Nat) ({ cls := "HairLine$Track", name := "enter", desc := "(II)I" } : Jvm.MethodName) ∈ gw := gm (tm1 (List.mem_of_getElem? (i := 213) rfl)) rfl
theorem wg_214 : Jvm.Cond.instanceMethod ({ cls := "HairLine$Track", name := "enter", desc := "(II)I" } : Jvm.MethodName) ∈ gw := gm (tm1 (List.mem_of_getElem? (i := 214) rfl)) rfl
theorem wg_215 : Jvm.Cond.selects "HairLine$Track" ({ cls := "HairLine$Track", name := "enter", desc := "(II)I" } : Jvm.MethodName) ({ cls := "HairLine$Track", name := "enter", desc := "(II)I" } : Jvm.MethodName) ∈ gw := gm (tm1 (List.mem_of_getElem? (i := 215) rfl)) rfl
theorem wg_216 : Jvm.Cond.code ({ cls := "HairLine$Track", name := "enter", desc := "(II)I" } : Jvm.MethodName) prog_9_method_3_code (3 : Nat) (Option.some Jvm.ClassFile.FieldType.int) ∈ gw := gm (tm1 (List.mem_of_getElem? (i := 216) rfl)) rfl
theorem wg_217 : Jvm.Cond.methodLink "HairLineLaw" (18 : Nat) ({ cls := "HairLine", name := "shape", desc := "(IIIII)I" } : Jvm.MethodName) ∈ gw := gm (tm1 (List.mem_of_getElem? (i := 217) rfl)) rfl
theorem wg_218 : Jvm.Cond.instanceMethod ({ cls := "HairLine", name := "shape", desc := "(IIIII)I" } : Jvm.MethodName) ∈ gw := gm (tm1 (List.mem_of_getElem? (i := 218) rfl)) rfl
theorem wg_219 : Jvm.Cond.selects "HairLine" ({ cls := "HairLine", name := "shape", desc := "(IIIII)I" } : Jvm.MethodName) ({ cls := "HairLine", name := "shape", desc := "(IIIII)I" } : Jvm.MethodName) ∈ gw := gm (tm1 (List.mem_of_getElem? (i := 219) rfl)) rfl
theorem wg_220 : Jvm.Cond.code ({ cls := "HairLine", name := "shape", desc := "(IIIII)I" } : Jvm.MethodName) prog_1_method_3_code (6 : Nat) (Option.some Jvm.ClassFile.FieldType.int) ∈ gw := gm (tm1 (List.mem_of_getElem? (i := 220) rfl)) rfl
theorem wg_221 : Jvm.Cond.methodLink "HairLine" (59 : Nat) ({ cls := "HairLine$Track", name := "has", desc := "(I)Z" } : Jvm.MethodName) ∈ gw := gm (tm1 (List.mem_of_getElem? (i := 221) rfl)) rfl
theorem wg_222 : Jvm.Cond.instanceMethod ({ cls := "HairLine$Track", name := "has", desc := "(I)Z" } : Jvm.MethodName) ∈ gw := gm (tm1 (List.mem_of_getElem? (i := 222) rfl)) rfl
theorem wg_223 : Jvm.Cond.selects "HairLine$Track" ({ cls := "HairLine$Track", name := "has", desc := "(I)Z" } : Jvm.MethodName) ({ cls := "HairLine$Track", name := "has", desc := "(I)Z" } : Jvm.MethodName) ∈ gw := gm (tm1 (List.mem_of_getElem? (i := 223) rfl)) rfl
theorem wg_224 : Jvm.Cond.code ({ cls := "HairLine$Track", name := "has", desc := "(I)Z" } : Jvm.MethodName) prog_9_method_2_code (2 : Nat) (Option.some Jvm.ClassFile.FieldType.boolean) ∈ gw := gm (tm1 (List.mem_of_getElem? (i := 224) rfl)) rfl
theorem wm_225 : Jvm.Cond.methodLinkNest "HairLine$Track" (26 : Nat) ({ cls := "HairLine", name := "within", desc := "(III)Z" } : Jvm.MethodName) "HairLine" ∈ lw_tbl := tm1 (List.mem_of_getElem? (i := 225) rfl)
theorem wg_226 : Jvm.Cond.methodLink "HairLine" (63 : Nat) ({ cls := "HairLine", name := "isRow", desc := "(I)Z" } : Jvm.MethodName) ∈ gw := gm (tm1 (List.mem_of_getElem? (i := 226) rfl)) rfl
theorem wg_227 : Jvm.Cond.static ({ cls := "HairLine", name := "isRow", desc := "(I)Z" } : Jvm.MethodName) ∈ gw := gm (tm1 (List.mem_of_getElem? (i := 227) rfl)) rfl
theorem wg_228 : Jvm.Cond.code ({ cls := "HairLine", name := "isRow", desc := "(I)Z" } : Jvm.MethodName) prog_1_method_31_code (1 : Nat) (Option.some Jvm.ClassFile.FieldType.boolean) ∈ gw := gm (tm1 (List.mem_of_getElem? (i := 228) rfl)) rfl
theorem wg_229 : Jvm.Cond.methodLink "HairLine" (70 : Nat) ({ cls := "HairLine$Runner", name := "grow", desc := "(IIII)V" } : Jvm.MethodName) ∈ gw := gm (tm1 (List.mem_of_getElem? (i := 229) rfl)) rfl
theorem wg_230 : Jvm.Cond.instanceMethod ({ cls := "HairLine$Runner", name := "grow", desc := "(IIII)V" } : Jvm.MethodName) ∈ gw := gm (tm1 (List.mem_of_getElem? (i := 230) rfl)) rfl
theorem wg_231 : Jvm.Cond.selects "HairLine$Runner" ({ cls := "HairLine$Runner", name := "grow", desc := "(IIII)V" } : Jvm.MethodName) ({ cls := "HairLine$Runner", name := "grow", desc := "(IIII)V" } : Jvm.MethodName) ∈ gw := gm (tm1 (List.mem_of_getElem? (i := 231) rfl)) rfl
theorem wg_232 : Jvm.Cond.code ({ cls := "HairLine$Runner", name := "grow", desc := "(IIII)V" } : Jvm.MethodName) prog_6_method_2_code (6 : Nat) (Option.none : Option Jvm.ClassFile.FieldType) ∈ gw := gm (tm1 (List.mem_of_getElem? (i := 232) rfl)) rfl
theorem wg_233 : Jvm.Cond.methodLink "HairLineLaw" (23 : Nat) ({ cls := "HairLine", name := "set", desc := "(II)I" } : Jvm.MethodName) ∈ gw := gm (tm1 (List.mem_of_getElem? (i := 233) rfl)) rfl
theorem wg_234 : Jvm.Cond.instanceMethod ({ cls := "HairLine", name := "set", desc := "(II)I" } : Jvm.MethodName) ∈ gw := gm (tm1 (List.mem_of_getElem? (i := 234) rfl)) rfl
theorem wg_235 : Jvm.Cond.selects "HairLine" ({ cls := "HairLine", name := "set", desc := "(II)I" } : Jvm.MethodName) ({ cls := "HairLine", name := "set", desc := "(II)I" } : Jvm.MethodName) ∈ gw := gm (tm1 (List.mem_of_getElem? (i := 235) rfl)) rfl
theorem wg_236 : Jvm.Cond.code ({ cls := "HairLine", name := "set", desc := "(II)I" } : Jvm.MethodName) prog_1_method_4_code (4 : Nat) (Option.some Jvm.ClassFile.FieldType.int) ∈ gw := gm (tm1 (List.mem_of_getElem? (i := 236) rfl)) rfl
theorem wg_237 : Jvm.Cond.fieldLink "HairLine" (76 : Nat) "HairLine" "SETTING_LEAST" "[I" ∈ gw := gm (tm1 (List.mem_of_getElem? (i := 237) rfl)) rfl
theorem wm_238 : Jvm.Cond.laysStatic "HairLine" "SETTING_LEAST" "[I" ∈ lw_tbl := tm1 (List.mem_of_getElem? (i := 238) rfl)
theorem wg_239 : Jvm.Cond.fieldLink "HairLine" (80 : Nat) "HairLine" "SETTING_MOST" "[I" ∈ gw := gm (tm1 (List.mem_of_getElem? (i := 239) rfl)) rfl
theorem wm_240 : Jvm.Cond.laysStatic "HairLine" "SETTING_MOST" "[I" ∈ lw_tbl := tm2 (List.mem_of_getElem? (i := 0) rfl)
theorem wg_241 : Jvm.Cond.methodLink "HairLineLaw" (27 : Nat) ({ cls := "HairLine", name := "shows", desc := "(III)I" } : Jvm.MethodName) ∈ gw := gm (tm2 (List.mem_of_getElem? (i := 1) rfl)) rfl
theorem wg_242 : Jvm.Cond.instanceMethod ({ cls := "HairLine", name := "shows", desc := "(III)I" } : Jvm.MethodName) ∈ gw := gm (tm2 (List.mem_of_getElem? (i := 2) rfl)) rfl
theorem wg_243 : Jvm.Cond.selects "HairLine" ({ cls := "HairLine", name := "shows", desc := "(III)I" } : Jvm.MethodName) ({ cls := "HairLine", name := "shows", desc := "(III)I" } : Jvm.MethodName) ∈ gw := gm (tm2 (List.mem_of_getElem? (i := 3) rfl)) rfl
theorem wg_244 : Jvm.Cond.code ({ cls := "HairLine", name := "shows", desc := "(III)I" } : Jvm.MethodName) prog_1_method_5_code (4 : Nat) (Option.some Jvm.ClassFile.FieldType.int) ∈ gw := gm (tm2 (List.mem_of_getElem? (i := 4) rfl)) rfl
theorem wg_245 : Jvm.Cond.methodLink "HairLine" (86 : Nat) ({ cls := "HairLine", name := "isEither", desc := "(I)Z" } : Jvm.MethodName) ∈ gw := gm (tm2 (List.mem_of_getElem? (i := 5) rfl)) rfl
theorem wg_246 : Jvm.Cond.static ({ cls := "HairLine", name := "isEither", desc := "(I)Z" } : Jvm.MethodName) ∈ gw := gm (tm2 (List.mem_of_getElem? (i := 6) rfl)) rfl
theorem wg_247 : Jvm.Cond.code ({ cls := "HairLine", name := "isEither", desc := "(I)Z" } : Jvm.MethodName) prog_1_method_30_code (1 : Nat) (Option.some Jvm.ClassFile.FieldType.boolean) ∈ gw := gm (tm2 (List.mem_of_getElem? (i := 7) rfl)) rfl
theorem wg_248 : Jvm.Cond.methodLink "HairLine" (89 : Nat) ({ cls := "HairLine$Track", name := "film", desc := "(III)I" } : Jvm.MethodName) ∈ gw := gm (tm2 (List.mem_of_getElem? (i := 8) rfl)) rfl
theorem wg_249 : Jvm.Cond.instanceMethod ({ cls := "HairLine$Track", name := "film", desc := "(III)I" } : Jvm.MethodName) ∈ gw := gm (tm2 (List.mem_of_getElem? (i := 9) rfl)) rfl
theorem wg_250 : Jvm.Cond.selects "HairLine$Track" ({ cls := "HairLine$Track", name := "film", desc := "(III)I" } : Jvm.MethodName) ({ cls := "HairLine$Track", name := "film", desc := "(III)I" } : Jvm.MethodName) ∈ gw := gm (tm2 (List.mem_of_getElem? (i := 10) rfl)) rfl
theorem wg_251 : Jvm.Cond.code ({ cls := "HairLine$Track", name := "film", desc := "(III)I" } : Jvm.MethodName) prog_9_method_5_code (7 : Nat) (Option.some Jvm.ClassFile.FieldType.int) ∈ gw := gm (tm2 (List.mem_of_getElem? (i := 11) rfl)) rfl
theorem wg_252 : Jvm.Cond.methodLink "HairLine$Track" (36 : Nat) ({ cls := "HairLine$Track", name := "slitPlace", desc := "(I)I" } : Jvm.MethodName) ∈ gw := gm (tm2 (List.mem_of_getElem? (i := 12) rfl)) rfl
theorem wg_253 : Jvm.Cond.instanceMethod ({ cls := "HairLine$Track", name := "slitPlace", desc := "(I)I" } : Jvm.MethodName) ∈ gw := gm (tm2 (List.mem_of_getElem? (i := 13) rfl)) rfl
theorem wg_254 : Jvm.Cond.selects "HairLine$Track" ({ cls := "HairLine$Track", name := "slitPlace", desc := "(I)I" } : Jvm.MethodName) ({ cls := "HairLine$Track", name := "slitPlace", desc := "(I)I" } : Jvm.MethodName) ∈ gw := gm (tm2 (List.mem_of_getElem? (i := 14) rfl)) rfl
theorem wg_255 : Jvm.Cond.code ({ cls := "HairLine$Track", name := "slitPlace", desc := "(I)I" } : Jvm.MethodName) prog_9_method_4_code (2 : Nat) (Option.some Jvm.ClassFile.FieldType.int) ∈ gw := gm (tm2 (List.mem_of_getElem? (i := 15) rfl)) rfl
theorem wg_256 : Jvm.Cond.methodLink "HairLine$Track" (40 : Nat) ({ cls := "HairLine$Runner", name := "covers", desc := "(IIII)Z" } : Jvm.MethodName) ∈ gw := gm (tm2 (List.mem_of_getElem? (i := 16) rfl)) rfl
theorem wg_257 : Jvm.Cond.instanceMethod ({ cls := "HairLine$Runner", name := "covers", desc := "(IIII)Z" } : Jvm.MethodName) ∈ gw := gm (tm2 (List.mem_of_getElem? (i := 17) rfl)) rfl
theorem wg_258 : Jvm.Cond.selects "HairLine$Runner" ({ cls := "HairLine$Runner", name := "covers", desc := "(IIII)Z" } : Jvm.MethodName) ({ cls := "HairLine$Runner", name := "covers", desc := "(IIII)Z" } : Jvm.MethodName) ∈ gw := gm (tm2 (List.mem_of_getElem? (i := 18) rfl)) rfl
theorem wg_259 : Jvm.Cond.code ({ cls := "HairLine$Runner", name := "covers", desc := "(IIII)Z" } : Jvm.MethodName) prog_6_method_3_code (7 : Nat) (Option.some Jvm.ClassFile.FieldType.boolean) ∈ gw := gm (tm2 (List.mem_of_getElem? (i := 19) rfl)) rfl
theorem wm_260 : Jvm.Cond.methodLinkNest "HairLine$Track" (44 : Nat) ({ cls := "HairLine", name := "torsoMark", desc := "(I)I" } : Jvm.MethodName) "HairLine" ∈ lw_tbl := tm2 (List.mem_of_getElem? (i := 20) rfl)
theorem wg_261 : Jvm.Cond.static ({ cls := "HairLine", name := "torsoMark", desc := "(I)I" } : Jvm.MethodName) ∈ gw := gm (tm2 (List.mem_of_getElem? (i := 21) rfl)) rfl
theorem wg_262 : Jvm.Cond.code ({ cls := "HairLine", name := "torsoMark", desc := "(I)I" } : Jvm.MethodName) prog_1_method_35_code (1 : Nat) (Option.some Jvm.ClassFile.FieldType.int) ∈ gw := gm (tm2 (List.mem_of_getElem? (i := 22) rfl)) rfl
theorem wg_263 : Jvm.Cond.methodLink "HairLineLaw" (32 : Nat) ({ cls := "HairLine", name := "of", desc := "(II)I" } : Jvm.MethodName) ∈ gw := gm (tm2 (List.mem_of_getElem? (i := 23) rfl)) rfl
theorem wg_264 : Jvm.Cond.instanceMethod ({ cls := "HairLine", name := "of", desc := "(II)I" } : Jvm.MethodName) ∈ gw := gm (tm2 (List.mem_of_getElem? (i := 24) rfl)) rfl
theorem wg_265 : Jvm.Cond.selects "HairLine" ({ cls := "HairLine", name := "of", desc := "(II)I" } : Jvm.MethodName) ({ cls := "HairLine", name := "of", desc := "(II)I" } : Jvm.MethodName) ∈ gw := gm (tm2 (List.mem_of_getElem? (i := 25) rfl)) rfl
theorem wg_266 : Jvm.Cond.code ({ cls := "HairLine", name := "of", desc := "(II)I" } : Jvm.MethodName) prog_1_method_6_code (3 : Nat) (Option.some Jvm.ClassFile.FieldType.int) ∈ gw := gm (tm2 (List.mem_of_getElem? (i := 26) rfl)) rfl
theorem wg_267 : Jvm.Cond.methodLink "HairLine" (93 : Nat) ({ cls := "HairLine$Track", name := "hair", desc := "(II)I" } : Jvm.MethodName) ∈ gw := gm (tm2 (List.mem_of_getElem? (i := 27) rfl)) rfl
theorem wg_268 : Jvm.Cond.instanceMethod ({ cls := "HairLine$Track", name := "hair", desc := "(II)I" } : Jvm.MethodName) ∈ gw := gm (tm2 (List.mem_of_getElem? (i := 28) rfl)) rfl
theorem wg_269 : Jvm.Cond.selects "HairLine$Track" ({ cls := "HairLine$Track", name := "hair", desc := "(II)I" } : Jvm.MethodName) ({ cls := "HairLine$Track", name := "hair", desc := "(II)I" } : Jvm.MethodName) ∈ gw := gm (tm2 (List.mem_of_getElem? (i := 29) rfl)) rfl
theorem wg_270 : Jvm.Cond.code ({ cls := "HairLine$Track", name := "hair", desc := "(II)I" } : Jvm.MethodName) prog_9_method_6_code (5 : Nat) (Option.some Jvm.ClassFile.FieldType.int) ∈ gw := gm (tm2 (List.mem_of_getElem? (i := 30) rfl)) rfl
theorem wg_271 : Jvm.Cond.constant "HairLine$Track" (47 : Nat) (10000000 : Int32) ∈ gw := gm (tm2 (List.mem_of_getElem? (i := 31) rfl)) rfl
theorem wg_272 : Jvm.Cond.methodLink "HairLine$Track" (48 : Nat) ({ cls := "HairLine$Track", name := "firstShown", desc := "(III)I" } : Jvm.MethodName) ∈ gw := gm (tm2 (List.mem_of_getElem? (i := 32) rfl)) rfl
theorem wg_273 : Jvm.Cond.instanceMethod ({ cls := "HairLine$Track", name := "firstShown", desc := "(III)I" } : Jvm.MethodName) ∈ gw := gm (tm2 (List.mem_of_getElem? (i := 33) rfl)) rfl
theorem wg_274 : Jvm.Cond.selects "HairLine$Track" ({ cls := "HairLine$Track", name := "firstShown", desc := "(III)I" } : Jvm.MethodName) ({ cls := "HairLine$Track", name := "firstShown", desc := "(III)I" } : Jvm.MethodName) ∈ gw := gm (tm2 (List.mem_of_getElem? (i := 34) rfl)) rfl
theorem wg_275 : Jvm.Cond.code ({ cls := "HairLine$Track", name := "firstShown", desc := "(III)I" } : Jvm.MethodName) prog_9_method_7_code (7 : Nat) (Option.some Jvm.ClassFile.FieldType.int) ∈ gw := gm (tm2 (List.mem_of_getElem? (i := 35) rfl)) rfl
theorem wg_276 : Jvm.Cond.methodLink "HairLine$Track" (58 : Nat) ({ cls := "HairLine$Runner", name := "lastOver", desc := "(III)I" } : Jvm.MethodName) ∈ gw := gm (tm2 (List.mem_of_getElem? (i := 36) rfl)) rfl
theorem wg_277 : Jvm.Cond.instanceMethod ({ cls := "HairLine$Runner", name := "lastOver", desc := "(III)I" } : Jvm.MethodName) ∈ gw := gm (tm2 (List.mem_of_getElem? (i := 37) rfl)) rfl
theorem wg_278 : Jvm.Cond.selects "HairLine$Runner" ({ cls := "HairLine$Runner", name := "lastOver", desc := "(III)I" } : Jvm.MethodName) ({ cls := "HairLine$Runner", name := "lastOver", desc := "(III)I" } : Jvm.MethodName) ∈ gw := gm (tm2 (List.mem_of_getElem? (i := 38) rfl)) rfl
theorem wg_279 : Jvm.Cond.code ({ cls := "HairLine$Runner", name := "lastOver", desc := "(III)I" } : Jvm.MethodName) prog_6_method_6_code (4 : Nat) (Option.some Jvm.ClassFile.FieldType.int) ∈ gw := gm (tm2 (List.mem_of_getElem? (i := 39) rfl)) rfl
theorem wm_280 : Jvm.Cond.methodLinkNest "HairLine$Runner" (37 : Nat) ({ cls := "HairLine", name := "floorQuotient", desc := "(II)I" } : Jvm.MethodName) "HairLine" ∈ lw_tbl := tm2 (List.mem_of_getElem? (i := 40) rfl)
theorem wg_281 : Jvm.Cond.static ({ cls := "HairLine", name := "floorQuotient", desc := "(II)I" } : Jvm.MethodName) ∈ gw := gm (tm2 (List.mem_of_getElem? (i := 41) rfl)) rfl
theorem wg_282 : Jvm.Cond.code ({ cls := "HairLine", name := "floorQuotient", desc := "(II)I" } : Jvm.MethodName) prog_1_method_36_code (2 : Nat) (Option.some Jvm.ClassFile.FieldType.int) ∈ gw := gm (tm2 (List.mem_of_getElem? (i := 42) rfl)) rfl
theorem wg_283 : Jvm.Cond.methodLink "HairLine" (250 : Nat) ({ cls := "java/lang/Math", name := "floorDiv", desc := "(II)I" } : Jvm.MethodName) ∈ gw := gm (tm2 (List.mem_of_getElem? (i := 43) rfl)) rfl
theorem wg_284 : Jvm.Cond.static ({ cls := "java/lang/Math", name := "floorDiv", desc := "(II)I" } : Jvm.MethodName) ∈ gw := gm (tm2 (List.mem_of_getElem? (i := 44) rfl)) rfl
theorem wg_285 : Jvm.Cond.code ({ cls := "java/lang/Math", name := "floorDiv", desc := "(II)I" } : Jvm.MethodName) prog_13_method_47_code (3 : Nat) (Option.some Jvm.ClassFile.FieldType.int) ∈ gw := gm (tm2 (List.mem_of_getElem? (i := 45) rfl)) rfl
theorem wg_286 : Jvm.Cond.methodLink "HairLine$Runner" (40 : Nat) ({ cls := "java/lang/Math", name := "min", desc := "(II)I" } : Jvm.MethodName) ∈ gw := gm (tm2 (List.mem_of_getElem? (i := 46) rfl)) rfl
theorem wg_287 : Jvm.Cond.static ({ cls := "java/lang/Math", name := "min", desc := "(II)I" } : Jvm.MethodName) ∈ gw := gm (tm2 (List.mem_of_getElem? (i := 47) rfl)) rfl
theorem wg_288 : Jvm.Cond.code ({ cls := "java/lang/Math", name := "min", desc := "(II)I" } : Jvm.MethodName) prog_13_method_69_code (2 : Nat) (Option.some Jvm.ClassFile.FieldType.int) ∈ gw := gm (tm2 (List.mem_of_getElem? (i := 48) rfl)) rfl
theorem wg_289 : Jvm.Cond.methodLink "HairLine$Track" (61 : Nat) ({ cls := "HairLine$Runner", name := "firstOver", desc := "(III)I" } : Jvm.MethodName) ∈ gw := gm (tm2 (List.mem_of_getElem? (i := 49) rfl)) rfl
theorem wg_290 : Jvm.Cond.instanceMethod ({ cls := "HairLine$Runner", name := "firstOver", desc := "(III)I" } : Jvm.MethodName) ∈ gw := gm (tm2 (List.mem_of_getElem? (i := 50) rfl)) rfl
theorem wg_291 : Jvm.Cond.selects "HairLine$Runner" ({ cls := "HairLine$Runner", name := "firstOver", desc := "(III)I" } : Jvm.MethodName) ({ cls := "HairLine$Runner", name := "firstOver", desc := "(III)I" } : Jvm.MethodName) ∈ gw := gm (tm2 (List.mem_of_getElem? (i := 51) rfl)) rfl
theorem wg_292 : Jvm.Cond.code ({ cls := "HairLine$Runner", name := "firstOver", desc := "(III)I" } : Jvm.MethodName) prog_6_method_5_code (4 : Nat) (Option.some Jvm.ClassFile.FieldType.int) ∈ gw := gm (tm2 (List.mem_of_getElem? (i := 52) rfl)) rfl
theorem wm_293 : Jvm.Cond.methodLinkNest "HairLine$Runner" (28 : Nat) ({ cls := "HairLine", name := "ceilQuotient", desc := "(II)I" } : Jvm.MethodName) "HairLine" ∈ lw_tbl := tm2 (List.mem_of_getElem? (i := 53) rfl)
theorem wg_294 : Jvm.Cond.static ({ cls := "HairLine", name := "ceilQuotient", desc := "(II)I" } : Jvm.MethodName) ∈ gw := gm (tm2 (List.mem_of_getElem? (i := 54) rfl)) rfl
theorem wg_295 : Jvm.Cond.code ({ cls := "HairLine", name := "ceilQuotient", desc := "(II)I" } : Jvm.MethodName) prog_1_method_37_code (2 : Nat) (Option.some Jvm.ClassFile.FieldType.int) ∈ gw := gm (tm2 (List.mem_of_getElem? (i := 55) rfl)) rfl
theorem wg_296 : Jvm.Cond.methodLink "HairLine$Runner" (32 : Nat) ({ cls := "java/lang/Math", name := "max", desc := "(II)I" } : Jvm.MethodName) ∈ gw := gm (tm2 (List.mem_of_getElem? (i := 56) rfl)) rfl
theorem wg_297 : Jvm.Cond.static ({ cls := "java/lang/Math", name := "max", desc := "(II)I" } : Jvm.MethodName) ∈ gw := gm (tm2 (List.mem_of_getElem? (i := 57) rfl)) rfl
theorem wg_298 : Jvm.Cond.code ({ cls := "java/lang/Math", name := "max", desc := "(II)I" } : Jvm.MethodName) prog_13_method_65_code (2 : Nat) (Option.some Jvm.ClassFile.FieldType.int) ∈ gw := gm (tm2 (List.mem_of_getElem? (i := 58) rfl)) rfl
theorem wg_299 : Jvm.Cond.methodLink "HairLine$Track" (64 : Nat) ({ cls := "HairLine$Track", name := "film", desc := "(III)I" } : Jvm.MethodName) ∈ gw := gm (tm2 (List.mem_of_getElem? (i := 59) rfl)) rfl
theorem wg_300 : Jvm.Cond.methodLink "HairLine$Track" (52 : Nat) ({ cls := "java/lang/Math", name := "min", desc := "(II)I" } : Jvm.MethodName) ∈ gw := gm (tm2 (List.mem_of_getElem? (i := 60) rfl)) rfl
theorem wg_301 : Jvm.Cond.methodLink "HairLine" (96 : Nat) ({ cls := "HairLine", name := "orNone", desc := "(I)I" } : Jvm.MethodName) ∈ gw := gm (tm2 (List.mem_of_getElem? (i := 61) rfl)) rfl
theorem wg_302 : Jvm.Cond.static ({ cls := "HairLine", name := "orNone", desc := "(I)I" } : Jvm.MethodName) ∈ gw := gm (tm2 (List.mem_of_getElem? (i := 62) rfl)) rfl
theorem wg_303 : Jvm.Cond.code ({ cls := "HairLine", name := "orNone", desc := "(I)I" } : Jvm.MethodName) prog_1_method_34_code (1 : Nat) (Option.some Jvm.ClassFile.FieldType.int) ∈ gw := gm (tm2 (List.mem_of_getElem? (i := 63) rfl)) rfl
theorem wg_304 : Jvm.Cond.constant "HairLine" (249 : Nat) (10000000 : Int32) ∈ gw := gm (tm2 (List.mem_of_getElem? (i := 64) rfl)) rfl
theorem wg_305 : Jvm.Cond.methodLink "HairLine" (100 : Nat) ({ cls := "HairLine$Track", name := "joined", desc := "(I)I" } : Jvm.MethodName) ∈ gw := gm (tm2 (List.mem_of_getElem? (i := 65) rfl)) rfl
theorem wg_306 : Jvm.Cond.instanceMethod ({ cls := "HairLine$Track", name := "joined", desc := "(I)I" } : Jvm.MethodName) ∈ gw := gm (tm2 (List.mem_of_getElem? (i := 66) rfl)) rfl
theorem wg_307 : Jvm.Cond.selects "HairLine$Track" ({ cls := "HairLine$Track", name := "joined", desc := "(I)I" } : Jvm.MethodName) ({ cls := "HairLine$Track", name := "joined", desc := "(I)I" } : Jvm.MethodName) ∈ gw := gm (tm2 (List.mem_of_getElem? (i := 67) rfl)) rfl
theorem wg_308 : Jvm.Cond.code ({ cls := "HairLine$Track", name := "joined", desc := "(I)I" } : Jvm.MethodName) prog_9_method_8_code (2 : Nat) (Option.some Jvm.ClassFile.FieldType.int) ∈ gw := gm (tm2 (List.mem_of_getElem? (i := 68) rfl)) rfl
theorem wg_309 : Jvm.Cond.methodLink "HairLine$Track" (67 : Nat) ({ cls := "HairLine$Track", name := "hair", desc := "(II)I" } : Jvm.MethodName) ∈ gw := gm (tm2 (List.mem_of_getElem? (i := 69) rfl)) rfl
theorem wg_310 : Jvm.Cond.methodLink "HairLine" (103 : Nat) ({ cls := "HairLine$Runner", name := "crossing", desc := "(I)I" } : Jvm.MethodName) ∈ gw := gm (tm2 (List.mem_of_getElem? (i := 70) rfl)) rfl
theorem wg_311 : Jvm.Cond.instanceMethod ({ cls := "HairLine$Runner", name := "crossing", desc := "(I)I" } : Jvm.MethodName) ∈ gw := gm (tm2 (List.mem_of_getElem? (i := 71) rfl)) rfl
theorem wg_312 : Jvm.Cond.selects "HairLine$Runner" ({ cls := "HairLine$Runner", name := "crossing", desc := "(I)I" } : Jvm.MethodName) ({ cls := "HairLine$Runner", name := "crossing", desc := "(I)I" } : Jvm.MethodName) ∈ gw := gm (tm2 (List.mem_of_getElem? (i := 72) rfl)) rfl
theorem wg_313 : Jvm.Cond.code ({ cls := "HairLine$Runner", name := "crossing", desc := "(I)I" } : Jvm.MethodName) prog_6_method_8_code (4 : Nat) (Option.some Jvm.ClassFile.FieldType.int) ∈ gw := gm (tm2 (List.mem_of_getElem? (i := 73) rfl)) rfl
theorem wg_314 : Jvm.Cond.constant "HairLine$Runner" (50 : Nat) (10000000 : Int32) ∈ gw := gm (tm2 (List.mem_of_getElem? (i := 74) rfl)) rfl
theorem wg_315 : Jvm.Cond.methodLink "HairLine$Runner" (47 : Nat) ({ cls := "HairLine$Runner", name := "firstOver", desc := "(III)I" } : Jvm.MethodName) ∈ gw := gm (tm2 (List.mem_of_getElem? (i := 75) rfl)) rfl
theorem wg_316 : Jvm.Cond.methodLink "HairLine" (106 : Nat) ({ cls := "HairLine$Track", name := "leaned", desc := "(I)I" } : Jvm.MethodName) ∈ gw := gm (tm2 (List.mem_of_getElem? (i := 76) rfl)) rfl
theorem wg_317 : Jvm.Cond.instanceMethod ({ cls := "HairLine$Track", name := "leaned", desc := "(I)I" } : Jvm.MethodName) ∈ gw := gm (tm2 (List.mem_of_getElem? (i := 77) rfl)) rfl
theorem wg_318 : Jvm.Cond.selects "HairLine$Track" ({ cls := "HairLine$Track", name := "leaned", desc := "(I)I" } : Jvm.MethodName) ({ cls := "HairLine$Track", name := "leaned", desc := "(I)I" } : Jvm.MethodName) ∈ gw := gm (tm2 (List.mem_of_getElem? (i := 78) rfl)) rfl
theorem wg_319 : Jvm.Cond.code ({ cls := "HairLine$Track", name := "leaned", desc := "(I)I" } : Jvm.MethodName) prog_9_method_9_code (2 : Nat) (Option.some Jvm.ClassFile.FieldType.int) ∈ gw := gm (tm2 (List.mem_of_getElem? (i := 79) rfl)) rfl
theorem wg_320 : Jvm.Cond.methodLink "HairLine$Track" (70 : Nat) ({ cls := "HairLine$Runner", name := "crossing", desc := "(I)I" } : Jvm.MethodName) ∈ gw := gm (tm2 (List.mem_of_getElem? (i := 80) rfl)) rfl
theorem wg_321 : Jvm.Cond.methodLink "HairLine" (109 : Nat) ({ cls := "HairLine$Track", name := "isHidden", desc := "(I)Z" } : Jvm.MethodName) ∈ gw := gm (tm2 (List.mem_of_getElem? (i := 81) rfl)) rfl
theorem wg_322 : Jvm.Cond.instanceMethod ({ cls := "HairLine$Track", name := "isHidden", desc := "(I)Z" } : Jvm.MethodName) ∈ gw := gm (tm2 (List.mem_of_getElem? (i := 82) rfl)) rfl
theorem wg_323 : Jvm.Cond.selects "HairLine$Track" ({ cls := "HairLine$Track", name := "isHidden", desc := "(I)Z" } : Jvm.MethodName) ({ cls := "HairLine$Track", name := "isHidden", desc := "(I)Z" } : Jvm.MethodName) ∈ gw := gm (tm2 (List.mem_of_getElem? (i := 83) rfl)) rfl
theorem wg_324 : Jvm.Cond.code ({ cls := "HairLine$Track", name := "isHidden", desc := "(I)Z" } : Jvm.MethodName) prog_9_method_10_code (2 : Nat) (Option.some Jvm.ClassFile.FieldType.boolean) ∈ gw := gm (tm2 (List.mem_of_getElem? (i := 84) rfl)) rfl
theorem wg_325 : Jvm.Cond.methodLink "HairLine$Track" (73 : Nat) ({ cls := "HairLine$Runner", name := "hasTorso", desc := "()Z" } : Jvm.MethodName) ∈ gw := gm (tm2 (List.mem_of_getElem? (i := 85) rfl)) rfl
theorem wg_326 : Jvm.Cond.instanceMethod ({ cls := "HairLine$Runner", name := "hasTorso", desc := "()Z" } : Jvm.MethodName) ∈ gw := gm (tm2 (List.mem_of_getElem? (i := 86) rfl)) rfl
theorem wg_327 : Jvm.Cond.selects "HairLine$Runner" ({ cls := "HairLine$Runner", name := "hasTorso", desc := "()Z" } : Jvm.MethodName) ({ cls := "HairLine$Runner", name := "hasTorso", desc := "()Z" } : Jvm.MethodName) ∈ gw := gm (tm2 (List.mem_of_getElem? (i := 87) rfl)) rfl
theorem wg_328 : Jvm.Cond.code ({ cls := "HairLine$Runner", name := "hasTorso", desc := "()Z" } : Jvm.MethodName) prog_6_method_4_code (2 : Nat) (Option.some Jvm.ClassFile.FieldType.boolean) ∈ gw := gm (tm2 (List.mem_of_getElem? (i := 88) rfl)) rfl
theorem wg_329 : Jvm.Cond.methodLink "HairLine$Track" (77 : Nat) ({ cls := "HairLine$Track", name := "joined", desc := "(I)I" } : Jvm.MethodName) ∈ gw := gm (tm2 (List.mem_of_getElem? (i := 89) rfl)) rfl
theorem wg_330 : Jvm.Cond.methodLink "HairLine$Track" (80 : Nat) ({ cls := "HairLine$Track", name := "leaned", desc := "(I)I" } : Jvm.MethodName) ∈ gw := gm (tm2 (List.mem_of_getElem? (i := 90) rfl)) rfl
theorem wg_331 : Jvm.Cond.methodLink "HairLine" (112 : Nat) ({ cls := "HairLine$Track", name := "hears", desc := "(I)I" } : Jvm.MethodName) ∈ gw := gm (tm2 (List.mem_of_getElem? (i := 91) rfl)) rfl
theorem wg_332 : Jvm.Cond.instanceMethod ({ cls := "HairLine$Track", name := "hears", desc := "(I)I" } : Jvm.MethodName) ∈ gw := gm (tm2 (List.mem_of_getElem? (i := 92) rfl)) rfl
theorem wg_333 : Jvm.Cond.selects "HairLine$Track" ({ cls := "HairLine$Track", name := "hears", desc := "(I)I" } : Jvm.MethodName) ({ cls := "HairLine$Track", name := "hears", desc := "(I)I" } : Jvm.MethodName) ∈ gw := gm (tm2 (List.mem_of_getElem? (i := 93) rfl)) rfl
theorem wg_334 : Jvm.Cond.code ({ cls := "HairLine$Track", name := "hears", desc := "(I)I" } : Jvm.MethodName) prog_9_method_11_code (3 : Nat) (Option.some Jvm.ClassFile.FieldType.int) ∈ gw := gm (tm2 (List.mem_of_getElem? (i := 94) rfl)) rfl
theorem wg_335 : Jvm.Cond.methodLink "HairLine" (115 : Nat) ({ cls := "HairLine$Track", name := "early", desc := "(I)I" } : Jvm.MethodName) ∈ gw := gm (tm2 (List.mem_of_getElem? (i := 95) rfl)) rfl
theorem wg_336 : Jvm.Cond.instanceMethod ({ cls := "HairLine$Track", name := "early", desc := "(I)I" } : Jvm.MethodName) ∈ gw := gm (tm2 (List.mem_of_getElem? (i := 96) rfl)) rfl
theorem wg_337 : Jvm.Cond.selects "HairLine$Track" ({ cls := "HairLine$Track", name := "early", desc := "(I)I" } : Jvm.MethodName) ({ cls := "HairLine$Track", name := "early", desc := "(I)I" } : Jvm.MethodName) ∈ gw := gm (tm2 (List.mem_of_getElem? (i := 97) rfl)) rfl
theorem wg_338 : Jvm.Cond.code ({ cls := "HairLine$Track", name := "early", desc := "(I)I" } : Jvm.MethodName) prog_9_method_12_code (3 : Nat) (Option.some Jvm.ClassFile.FieldType.int) ∈ gw := gm (tm2 (List.mem_of_getElem? (i := 98) rfl)) rfl
theorem wg_339 : Jvm.Cond.methodLink "HairLine$Track" (86 : Nat) ({ cls := "HairLine$Track", name := "hears", desc := "(I)I" } : Jvm.MethodName) ∈ gw := gm (tm2 (List.mem_of_getElem? (i := 99) rfl)) rfl
theorem wg_340 : Jvm.Cond.methodLink "HairLineLaw" (36 : Nat) ({ cls := "HairLine", name := "moved", desc := "(I)I" } : Jvm.MethodName) ∈ gw := gm (tm2 (List.mem_of_getElem? (i := 100) rfl)) rfl
theorem wg_341 : Jvm.Cond.instanceMethod ({ cls := "HairLine", name := "moved", desc := "(I)I" } : Jvm.MethodName) ∈ gw := gm (tm2 (List.mem_of_getElem? (i := 101) rfl)) rfl
theorem wg_342 : Jvm.Cond.selects "HairLine" ({ cls := "HairLine", name := "moved", desc := "(I)I" } : Jvm.MethodName) ({ cls := "HairLine", name := "moved", desc := "(I)I" } : Jvm.MethodName) ∈ gw := gm (tm2 (List.mem_of_getElem? (i := 102) rfl)) rfl
theorem wg_343 : Jvm.Cond.code ({ cls := "HairLine", name := "moved", desc := "(I)I" } : Jvm.MethodName) prog_1_method_7_code (5 : Nat) (Option.some Jvm.ClassFile.FieldType.int) ∈ gw := gm (tm2 (List.mem_of_getElem? (i := 103) rfl)) rfl
theorem wg_344 : Jvm.Cond.methodLink "HairLine" (122 : Nat) ({ cls := "HairLine$Track", name := "areMoved", desc := "(II)Z" } : Jvm.MethodName) ∈ gw := gm (tm2 (List.mem_of_getElem? (i := 104) rfl)) rfl
theorem wg_345 : Jvm.Cond.instanceMethod ({ cls := "HairLine$Track", name := "areMoved", desc := "(II)Z" } : Jvm.MethodName) ∈ gw := gm (tm2 (List.mem_of_getElem? (i := 105) rfl)) rfl
theorem wg_346 : Jvm.Cond.selects "HairLine$Track" ({ cls := "HairLine$Track", name := "areMoved", desc := "(II)Z" } : Jvm.MethodName) ({ cls := "HairLine$Track", name := "areMoved", desc := "(II)Z" } : Jvm.MethodName) ∈ gw := gm (tm2 (List.mem_of_getElem? (i := 106) rfl)) rfl
theorem wg_347 : Jvm.Cond.code ({ cls := "HairLine$Track", name := "areMoved", desc := "(II)Z" } : Jvm.MethodName) prog_9_method_13_code (6 : Nat) (Option.some Jvm.ClassFile.FieldType.boolean) ∈ gw := gm (tm2 (List.mem_of_getElem? (i := 107) rfl)) rfl
theorem wg_348 : Jvm.Cond.methodLink "HairLine$Track" (89 : Nat) ({ cls := "java/lang/Integer", name := "compare", desc := "(II)I" } : Jvm.MethodName) ∈ gw := gm (tm2 (List.mem_of_getElem? (i := 108) rfl)) rfl
theorem wg_349 : Jvm.Cond.static ({ cls := "java/lang/Integer", name := "compare", desc := "(II)I" } : Jvm.MethodName) ∈ gw := gm (tm2 (List.mem_of_getElem? (i := 109) rfl)) rfl
theorem wg_350 : Jvm.Cond.code ({ cls := "java/lang/Integer", name := "compare", desc := "(II)I" } : Jvm.MethodName) prog_12_method_40_code (2 : Nat) (Option.some Jvm.ClassFile.FieldType.int) ∈ gw := gm (tm2 (List.mem_of_getElem? (i := 110) rfl)) rfl
theorem wg_351 : Jvm.Cond.methodLink "HairLineLaw" (41 : Nat) ({ cls := "HairLine", name := "order", desc := "(I)I" } : Jvm.MethodName) ∈ gw := gm (tm2 (List.mem_of_getElem? (i := 111) rfl)) rfl
theorem wg_352 : Jvm.Cond.instanceMethod ({ cls := "HairLine", name := "order", desc := "(I)I" } : Jvm.MethodName) ∈ gw := gm (tm2 (List.mem_of_getElem? (i := 112) rfl)) rfl
theorem wg_353 : Jvm.Cond.selects "HairLine" ({ cls := "HairLine", name := "order", desc := "(I)I" } : Jvm.MethodName) ({ cls := "HairLine", name := "order", desc := "(I)I" } : Jvm.MethodName) ∈ gw := gm (tm2 (List.mem_of_getElem? (i := 113) rfl)) rfl
theorem wg_354 : Jvm.Cond.code ({ cls := "HairLine", name := "order", desc := "(I)I" } : Jvm.MethodName) prog_1_method_8_code (2 : Nat) (Option.some Jvm.ClassFile.FieldType.int) ∈ gw := gm (tm2 (List.mem_of_getElem? (i := 114) rfl)) rfl
theorem wg_355 : Jvm.Cond.methodLink "HairLine" (126 : Nat) ({ cls := "HairLine", name := "rank", desc := "(Z)V" } : Jvm.MethodName) ∈ gw := gm (tm2 (List.mem_of_getElem? (i := 115) rfl)) rfl
theorem wg_357 : Jvm.Cond.instanceMethod ({ cls := "HairLine", name := "rank", desc := "(Z)V" } : Jvm.MethodName) ∈ gw := gm (tm2 (List.mem_of_getElem? (i := 117) rfl)) rfl
theorem wg_358 : Jvm.Cond.code ({ cls := "HairLine", name := "rank", desc := "(Z)V" } : Jvm.MethodName) prog_1_method_44_code (4 : Nat) (Option.none : Option Jvm.ClassFile.FieldType) ∈ gw := gm (tm2 (List.mem_of_getElem? (i := 118) rfl)) rfl
theorem wg_359 : Jvm.Cond.methodLink "HairLine" (262 : Nat) ({ cls := "HairLine$Ranking", name := "add", desc := "(II)V" } : Jvm.MethodName) ∈ gw := gm (tm2 (List.mem_of_getElem? (i := 119) rfl)) rfl
theorem wg_360 : Jvm.Cond.instanceMethod ({ cls := "HairLine$Ranking", name := "add", desc := "(II)V" } : Jvm.MethodName) ∈ gw := gm (tm2 (List.mem_of_getElem? (i := 120) rfl)) rfl
theorem wg_361 : Jvm.Cond.selects "HairLine$Ranking" ({ cls := "HairLine$Ranking", name := "add", desc := "(II)V" } : Jvm.MethodName) ({ cls := "HairLine$Ranking", name := "add", desc := "(II)V" } : Jvm.MethodName) ∈ gw := gm (tm2 (List.mem_of_getElem? (i := 121) rfl)) rfl
theorem wg_362 : Jvm.Cond.code ({ cls := "HairLine$Ranking", name := "add", desc := "(II)V" } : Jvm.MethodName) prog_5_method_2_code (4 : Nat) (Option.none : Option Jvm.ClassFile.FieldType) ∈ gw := gm (tm2 (List.mem_of_getElem? (i := 122) rfl)) rfl
theorem wg_363 : Jvm.Cond.methodLink "HairLine" (133 : Nat) ({ cls := "HairLine$Ranking", name := "at", desc := "(I)I" } : Jvm.MethodName) ∈ gw := gm (tm2 (List.mem_of_getElem? (i := 123) rfl)) rfl
theorem wg_364 : Jvm.Cond.instanceMethod ({ cls := "HairLine$Ranking", name := "at", desc := "(I)I" } : Jvm.MethodName) ∈ gw := gm (tm2 (List.mem_of_getElem? (i := 124) rfl)) rfl
theorem wg_365 : Jvm.Cond.selects "HairLine$Ranking" ({ cls := "HairLine$Ranking", name := "at", desc := "(I)I" } : Jvm.MethodName) ({ cls := "HairLine$Ranking", name := "at", desc := "(I)I" } : Jvm.MethodName) ∈ gw := gm (tm2 (List.mem_of_getElem? (i := 125) rfl)) rfl
theorem wg_366 : Jvm.Cond.code ({ cls := "HairLine$Ranking", name := "at", desc := "(I)I" } : Jvm.MethodName) prog_5_method_3_code (2 : Nat) (Option.some Jvm.ClassFile.FieldType.int) ∈ gw := gm (tm2 (List.mem_of_getElem? (i := 126) rfl)) rfl
theorem wm_367 : Jvm.Cond.methodLinkNest "HairLine$Ranking" (22 : Nat) ({ cls := "HairLine", name := "within", desc := "(III)Z" } : Jvm.MethodName) "HairLine" ∈ lw_tbl := tm2 (List.mem_of_getElem? (i := 127) rfl)
theorem wg_368 : Jvm.Cond.methodLink "HairLineLaw" (45 : Nat) ({ cls := "HairLine", name := "place", desc := "(II)I" } : Jvm.MethodName) ∈ gw := gm (tm2 (List.mem_of_getElem? (i := 128) rfl)) rfl
theorem wg_369 : Jvm.Cond.instanceMethod ({ cls := "HairLine", name := "place", desc := "(II)I" } : Jvm.MethodName) ∈ gw := gm (tm2 (List.mem_of_getElem? (i := 129) rfl)) rfl
theorem wg_370 : Jvm.Cond.selects "HairLine" ({ cls := "HairLine", name := "place", desc := "(II)I" } : Jvm.MethodName) ({ cls := "HairLine", name := "place", desc := "(II)I" } : Jvm.MethodName) ∈ gw := gm (tm2 (List.mem_of_getElem? (i := 130) rfl)) rfl
theorem wg_371 : Jvm.Cond.code ({ cls := "HairLine", name := "place", desc := "(II)I" } : Jvm.MethodName) prog_1_method_9_code (3 : Nat) (Option.some Jvm.ClassFile.FieldType.int) ∈ gw := gm (tm2 (List.mem_of_getElem? (i := 131) rfl)) rfl
theorem wg_372 : Jvm.Cond.methodLink "HairLine" (136 : Nat) ({ cls := "HairLine$Ranking", name := "placeOf", desc := "(III)I" } : Jvm.MethodName) ∈ gw := gm (tm2 (List.mem_of_getElem? (i := 132) rfl)) rfl
theorem wg_373 : Jvm.Cond.instanceMethod ({ cls := "HairLine$Ranking", name := "placeOf", desc := "(III)I" } : Jvm.MethodName) ∈ gw := gm (tm2 (List.mem_of_getElem? (i := 133) rfl)) rfl
theorem wg_374 : Jvm.Cond.selects "HairLine$Ranking" ({ cls := "HairLine$Ranking", name := "placeOf", desc := "(III)I" } : Jvm.MethodName) ({ cls := "HairLine$Ranking", name := "placeOf", desc := "(III)I" } : Jvm.MethodName) ∈ gw := gm (tm2 (List.mem_of_getElem? (i := 134) rfl)) rfl
theorem wg_375 : Jvm.Cond.code ({ cls := "HairLine$Ranking", name := "placeOf", desc := "(III)I" } : Jvm.MethodName) prog_5_method_4_code (7 : Nat) (Option.some Jvm.ClassFile.FieldType.int) ∈ gw := gm (tm2 (List.mem_of_getElem? (i := 135) rfl)) rfl
theorem wg_376 : Jvm.Cond.methodLink "HairLine$Ranking" (26 : Nat) ({ cls := "java/lang/Math", name := "max", desc := "(II)I" } : Jvm.MethodName) ∈ gw := gm (tm2 (List.mem_of_getElem? (i := 136) rfl)) rfl
theorem wg_377 : Jvm.Cond.methodLink "HairLineLaw" (49 : Nat) ({ cls := "HairLine", name := "stretch", desc := "(II)I" } : Jvm.MethodName) ∈ gw := gm (tm2 (List.mem_of_getElem? (i := 137) rfl)) rfl
theorem wg_378 : Jvm.Cond.instanceMethod ({ cls := "HairLine", name := "stretch", desc := "(II)I" } : Jvm.MethodName) ∈ gw := gm (tm2 (List.mem_of_getElem? (i := 138) rfl)) rfl
theorem wg_379 : Jvm.Cond.selects "HairLine" ({ cls := "HairLine", name := "stretch", desc := "(II)I" } : Jvm.MethodName) ({ cls := "HairLine", name := "stretch", desc := "(II)I" } : Jvm.MethodName) ∈ gw := gm (tm2 (List.mem_of_getElem? (i := 139) rfl)) rfl
theorem wg_380 : Jvm.Cond.code ({ cls := "HairLine", name := "stretch", desc := "(II)I" } : Jvm.MethodName) prog_1_method_10_code (3 : Nat) (Option.some Jvm.ClassFile.FieldType.int) ∈ gw := gm (tm2 (List.mem_of_getElem? (i := 140) rfl)) rfl
theorem wg_381 : Jvm.Cond.methodLink "HairLine" (139 : Nat) ({ cls := "HairLine$Track", name := "slitPlace", desc := "(I)I" } : Jvm.MethodName) ∈ gw := gm (tm2 (List.mem_of_getElem? (i := 141) rfl)) rfl
theorem wg_382 : Jvm.Cond.methodLink "HairLine" (142 : Nat) ({ cls := "HairLine$Runner", name := "columnsOver", desc := "(III)I" } : Jvm.MethodName) ∈ gw := gm (tm2 (List.mem_of_getElem? (i := 142) rfl)) rfl
theorem wg_383 : Jvm.Cond.instanceMethod ({ cls := "HairLine$Runner", name := "columnsOver", desc := "(III)I" } : Jvm.MethodName) ∈ gw := gm (tm2 (List.mem_of_getElem? (i := 143) rfl)) rfl
theorem wg_384 : Jvm.Cond.selects "HairLine$Runner" ({ cls := "HairLine$Runner", name := "columnsOver", desc := "(III)I" } : Jvm.MethodName) ({ cls := "HairLine$Runner", name := "columnsOver", desc := "(III)I" } : Jvm.MethodName) ∈ gw := gm (tm2 (List.mem_of_getElem? (i := 144) rfl)) rfl
theorem wg_385 : Jvm.Cond.code ({ cls := "HairLine$Runner", name := "columnsOver", desc := "(III)I" } : Jvm.MethodName) prog_6_method_7_code (4 : Nat) (Option.some Jvm.ClassFile.FieldType.int) ∈ gw := gm (tm2 (List.mem_of_getElem? (i := 145) rfl)) rfl
theorem wg_386 : Jvm.Cond.methodLink "HairLine$Runner" (43 : Nat) ({ cls := "HairLine$Runner", name := "lastOver", desc := "(III)I" } : Jvm.MethodName) ∈ gw := gm (tm2 (List.mem_of_getElem? (i := 146) rfl)) rfl
theorem wg_387 : Jvm.Cond.methodLink "HairLineLaw" (53 : Nat) ({ cls := "HairLine", name := "speeds", desc := "(III)I" } : Jvm.MethodName) ∈ gw := gm (tm2 (List.mem_of_getElem? (i := 147) rfl)) rfl
theorem wg_388 : Jvm.Cond.instanceMethod ({ cls := "HairLine", name := "speeds", desc := "(III)I" } : Jvm.MethodName) ∈ gw := gm (tm2 (List.mem_of_getElem? (i := 148) rfl)) rfl
theorem wg_389 : Jvm.Cond.selects "HairLine" ({ cls := "HairLine", name := "speeds", desc := "(III)I" } : Jvm.MethodName) ({ cls := "HairLine", name := "speeds", desc := "(III)I" } : Jvm.MethodName) ∈ gw := gm (tm2 (List.mem_of_getElem? (i := 149) rfl)) rfl
theorem wg_390 : Jvm.Cond.code ({ cls := "HairLine", name := "speeds", desc := "(III)I" } : Jvm.MethodName) prog_1_method_11_code (6 : Nat) (Option.some Jvm.ClassFile.FieldType.int) ∈ gw := gm (tm2 (List.mem_of_getElem? (i := 150) rfl)) rfl
theorem wg_391 : Jvm.Cond.methodLink "HairLine" (145 : Nat) ({ cls := "HairLine", name := "canStretch", desc := "(III)Z" } : Jvm.MethodName) ∈ gw := gm (tm2 (List.mem_of_getElem? (i := 151) rfl)) rfl
theorem wg_392 : Jvm.Cond.static ({ cls := "HairLine", name := "canStretch", desc := "(III)Z" } : Jvm.MethodName) ∈ gw := gm (tm2 (List.mem_of_getElem? (i := 152) rfl)) rfl
theorem wg_393 : Jvm.Cond.code ({ cls := "HairLine", name := "canStretch", desc := "(III)Z" } : Jvm.MethodName) prog_1_method_40_code (3 : Nat) (Option.some Jvm.ClassFile.FieldType.boolean) ∈ gw := gm (tm2 (List.mem_of_getElem? (i := 153) rfl)) rfl
theorem wg_394 : Jvm.Cond.methodLink "HairLine" (253 : Nat) ({ cls := "HairLine", name := "floorQuotient", desc := "(II)I" } : Jvm.MethodName) ∈ gw := gm (tm2 (List.mem_of_getElem? (i := 154) rfl)) rfl
theorem wg_395 : Jvm.Cond.methodLink "HairLine" (256 : Nat) ({ cls := "HairLine", name := "ceilQuotient", desc := "(II)I" } : Jvm.MethodName) ∈ gw := gm (tm2 (List.mem_of_getElem? (i := 155) rfl)) rfl
theorem wg_396 : Jvm.Cond.methodLink "HairLineLaw" (57 : Nat) ({ cls := "HairLine", name := "push", desc := "(II)I" } : Jvm.MethodName) ∈ gw := gm (tm2 (List.mem_of_getElem? (i := 156) rfl)) rfl
theorem wg_397 : Jvm.Cond.instanceMethod ({ cls := "HairLine", name := "push", desc := "(II)I" } : Jvm.MethodName) ∈ gw := gm (tm2 (List.mem_of_getElem? (i := 157) rfl)) rfl
theorem wg_398 : Jvm.Cond.selects "HairLine" ({ cls := "HairLine", name := "push", desc := "(II)I" } : Jvm.MethodName) ({ cls := "HairLine", name := "push", desc := "(II)I" } : Jvm.MethodName) ∈ gw := gm (tm2 (List.mem_of_getElem? (i := 158) rfl)) rfl
theorem wg_399 : Jvm.Cond.code ({ cls := "HairLine", name := "push", desc := "(II)I" } : Jvm.MethodName) prog_1_method_12_code (5 : Nat) (Option.some Jvm.ClassFile.FieldType.int) ∈ gw := gm (tm2 (List.mem_of_getElem? (i := 159) rfl)) rfl
theorem wg_400 : Jvm.Cond.methodLink "HairLineLaw" (61 : Nat) ({ cls := "HairLine", name := "mended", desc := "(I)I" } : Jvm.MethodName) ∈ gw := gm (tm2 (List.mem_of_getElem? (i := 160) rfl)) rfl
theorem wg_401 : Jvm.Cond.instanceMethod ({ cls := "HairLine", name := "mended", desc := "(I)I" } : Jvm.MethodName) ∈ gw := gm (tm2 (List.mem_of_getElem? (i := 161) rfl)) rfl
theorem wg_402 : Jvm.Cond.selects "HairLine" ({ cls := "HairLine", name := "mended", desc := "(I)I" } : Jvm.MethodName) ({ cls := "HairLine", name := "mended", desc := "(I)I" } : Jvm.MethodName) ∈ gw := gm (tm2 (List.mem_of_getElem? (i := 162) rfl)) rfl
theorem wg_403 : Jvm.Cond.code ({ cls := "HairLine", name := "mended", desc := "(I)I" } : Jvm.MethodName) prog_1_method_13_code (2 : Nat) (Option.some Jvm.ClassFile.FieldType.int) ∈ gw := gm (tm2 (List.mem_of_getElem? (i := 163) rfl)) rfl
theorem wg_404 : Jvm.Cond.methodLink "HairLineLaw" (65 : Nat) ({ cls := "HairLine", name := "wrong", desc := "(IIII)J" } : Jvm.MethodName) ∈ gw := gm (tm2 (List.mem_of_getElem? (i := 164) rfl)) rfl
theorem wg_405 : Jvm.Cond.instanceMethod ({ cls := "HairLine", name := "wrong", desc := "(IIII)J" } : Jvm.MethodName) ∈ gw := gm (tm2 (List.mem_of_getElem? (i := 165) rfl)) rfl
theorem wg_406 : Jvm.Cond.selects "HairLine" ({ cls := "HairLine", name := "wrong", desc := "(IIII)J" } : Jvm.MethodName) ({ cls := "HairLine", name := "wrong", desc := "(IIII)J" } : Jvm.MethodName) ∈ gw := gm (tm2 (List.mem_of_getElem? (i := 166) rfl)) rfl
theorem wg_407 : Jvm.Cond.code ({ cls := "HairLine", name := "wrong", desc := "(IIII)J" } : Jvm.MethodName) prog_1_method_14_code (15 : Nat) (Option.some Jvm.ClassFile.FieldType.long) ∈ gw := gm (tm2 (List.mem_of_getElem? (i := 167) rfl)) rfl
theorem wg_408 : Jvm.Cond.constantLong "HairLine" (151 : Nat) (-2 : Int64) ∈ gw := gm (tm2 (List.mem_of_getElem? (i := 168) rfl)) rfl
theorem wg_409 : Jvm.Cond.methodLink "HairLine" (153 : Nat) ({ cls := "java/lang/Math", name := "min", desc := "(II)I" } : Jvm.MethodName) ∈ gw := gm (tm2 (List.mem_of_getElem? (i := 169) rfl)) rfl
theorem wg_410 : Jvm.Cond.methodLink "HairLine" (158 : Nat) ({ cls := "java/lang/Math", name := "max", desc := "(II)I" } : Jvm.MethodName) ∈ gw := gm (tm2 (List.mem_of_getElem? (i := 170) rfl)) rfl
theorem wg_411 : Jvm.Cond.methodLink "HairLine" (161 : Nat) ({ cls := "HairLine", name := "power", desc := "(JI)J" } : Jvm.MethodName) ∈ gw := gm (tm2 (List.mem_of_getElem? (i := 171) rfl)) rfl
theorem wg_412 : Jvm.Cond.static ({ cls := "HairLine", name := "power", desc := "(JI)J" } : Jvm.MethodName) ∈ gw := gm (tm2 (List.mem_of_getElem? (i := 172) rfl)) rfl
theorem wg_413 : Jvm.Cond.code ({ cls := "HairLine", name := "power", desc := "(JI)J" } : Jvm.MethodName) prog_1_method_38_code (6 : Nat) (Option.some Jvm.ClassFile.FieldType.long) ∈ gw := gm (tm2 (List.mem_of_getElem? (i := 173) rfl)) rfl
theorem wg_414 : Jvm.Cond.methodLink "HairLine" (165 : Nat) ({ cls := "HairLine", name := "commonDivisor", desc := "(JJ)J" } : Jvm.MethodName) ∈ gw := gm (tm2 (List.mem_of_getElem? (i := 174) rfl)) rfl
theorem wg_415 : Jvm.Cond.static ({ cls := "HairLine", name := "commonDivisor", desc := "(JJ)J" } : Jvm.MethodName) ∈ gw := gm (tm2 (List.mem_of_getElem? (i := 175) rfl)) rfl
theorem wg_416 : Jvm.Cond.code ({ cls := "HairLine", name := "commonDivisor", desc := "(JJ)J" } : Jvm.MethodName) prog_1_method_39_code (11 : Nat) (Option.some Jvm.ClassFile.FieldType.long) ∈ gw := gm (tm2 (List.mem_of_getElem? (i := 176) rfl)) rfl
theorem wg_417 : Jvm.Cond.methodLink "HairLineLaw" (70 : Nat) ({ cls := "HairLine", name := "known", desc := "(III)I" } : Jvm.MethodName) ∈ gw := gm (tm2 (List.mem_of_getElem? (i := 177) rfl)) rfl
theorem wg_418 : Jvm.Cond.instanceMethod ({ cls := "HairLine", name := "known", desc := "(III)I" } : Jvm.MethodName) ∈ gw := gm (tm2 (List.mem_of_getElem? (i := 178) rfl)) rfl
theorem wg_419 : Jvm.Cond.selects "HairLine" ({ cls := "HairLine", name := "known", desc := "(III)I" } : Jvm.MethodName) ({ cls := "HairLine", name := "known", desc := "(III)I" } : Jvm.MethodName) ∈ gw := gm (tm2 (List.mem_of_getElem? (i := 179) rfl)) rfl
theorem wg_420 : Jvm.Cond.code ({ cls := "HairLine", name := "known", desc := "(III)I" } : Jvm.MethodName) prog_1_method_15_code (5 : Nat) (Option.some Jvm.ClassFile.FieldType.int) ∈ gw := gm (tm2 (List.mem_of_getElem? (i := 180) rfl)) rfl
theorem wg_421 : Jvm.Cond.methodLink "HairLine" (169 : Nat) ({ cls := "HairLine", name := "isJudge", desc := "(I)Z" } : Jvm.MethodName) ∈ gw := gm (tm2 (List.mem_of_getElem? (i := 181) rfl)) rfl
theorem wg_422 : Jvm.Cond.static ({ cls := "HairLine", name := "isJudge", desc := "(I)Z" } : Jvm.MethodName) ∈ gw := gm (tm2 (List.mem_of_getElem? (i := 182) rfl)) rfl
theorem wg_423 : Jvm.Cond.code ({ cls := "HairLine", name := "isJudge", desc := "(I)Z" } : Jvm.MethodName) prog_1_method_32_code (1 : Nat) (Option.some Jvm.ClassFile.FieldType.boolean) ∈ gw := gm (tm2 (List.mem_of_getElem? (i := 183) rfl)) rfl
theorem wg_424 : Jvm.Cond.constant "HairLine" (172 : Nat) (99999 : Int32) ∈ gw := gm (tm2 (List.mem_of_getElem? (i := 184) rfl)) rfl
theorem wg_425 : Jvm.Cond.methodLink "HairLine" (177 : Nat) ({ cls := "HairLine$Span", name := "narrow", desc := "(II)Z" } : Jvm.MethodName) ∈ gw := gm (tm2 (List.mem_of_getElem? (i := 185) rfl)) rfl
theorem wg_426 : Jvm.Cond.instanceMethod ({ cls := "HairLine$Span", name := "narrow", desc := "(II)Z" } : Jvm.MethodName) ∈ gw := gm (tm2 (List.mem_of_getElem? (i := 186) rfl)) rfl
theorem wg_427 : Jvm.Cond.selects "HairLine$Span" ({ cls := "HairLine$Span", name := "narrow", desc := "(II)Z" } : Jvm.MethodName) ({ cls := "HairLine$Span", name := "narrow", desc := "(II)Z" } : Jvm.MethodName) ∈ gw := gm (tm2 (List.mem_of_getElem? (i := 187) rfl)) rfl
theorem wg_428 : Jvm.Cond.code ({ cls := "HairLine$Span", name := "narrow", desc := "(II)Z" } : Jvm.MethodName) prog_8_method_3_code (5 : Nat) (Option.some Jvm.ClassFile.FieldType.boolean) ∈ gw := gm (tm2 (List.mem_of_getElem? (i := 188) rfl)) rfl
theorem wg_429 : Jvm.Cond.methodLink "HairLine$Span" (16 : Nat) ({ cls := "java/lang/Math", name := "max", desc := "(II)I" } : Jvm.MethodName) ∈ gw := gm (tm2 (List.mem_of_getElem? (i := 189) rfl)) rfl
theorem wg_430 : Jvm.Cond.methodLink "HairLine$Span" (22 : Nat) ({ cls := "java/lang/Math", name := "min", desc := "(II)I" } : Jvm.MethodName) ∈ gw := gm (tm2 (List.mem_of_getElem? (i := 190) rfl)) rfl
theorem wg_431 : Jvm.Cond.methodLink "HairLine$Span" (25 : Nat) ({ cls := "HairLine$Span", name := "put", desc := "(II)V" } : Jvm.MethodName) ∈ gw := gm (tm2 (List.mem_of_getElem? (i := 191) rfl)) rfl
theorem wg_432 : Jvm.Cond.methodLink "HairLineLaw" (74 : Nat) ({ cls := "HairLine", name := "late", desc := "(II)I" } : Jvm.MethodName) ∈ gw := gm (tm2 (List.mem_of_getElem? (i := 192) rfl)) rfl
theorem wg_433 : Jvm.Cond.instanceMethod ({ cls := "HairLine", name := "late", desc := "(II)I" } : Jvm.MethodName) ∈ gw := gm (tm2 (List.mem_of_getElem? (i := 193) rfl)) rfl
theorem wg_434 : Jvm.Cond.selects "HairLine" ({ cls := "HairLine", name := "late", desc := "(II)I" } : Jvm.MethodName) ({ cls := "HairLine", name := "late", desc := "(II)I" } : Jvm.MethodName) ∈ gw := gm (tm2 (List.mem_of_getElem? (i := 194) rfl)) rfl
theorem wg_435 : Jvm.Cond.code ({ cls := "HairLine", name := "late", desc := "(II)I" } : Jvm.MethodName) prog_1_method_16_code (3 : Nat) (Option.some Jvm.ClassFile.FieldType.int) ∈ gw := gm (tm2 (List.mem_of_getElem? (i := 195) rfl)) rfl
theorem wg_436 : Jvm.Cond.methodLink "HairLine" (182 : Nat) ({ cls := "HairLine$Span", name := "end", desc := "(I)I" } : Jvm.MethodName) ∈ gw := gm (tm2 (List.mem_of_getElem? (i := 196) rfl)) rfl
theorem wg_437 : Jvm.Cond.instanceMethod ({ cls := "HairLine$Span", name := "end", desc := "(I)I" } : Jvm.MethodName) ∈ gw := gm (tm2 (List.mem_of_getElem? (i := 197) rfl)) rfl
theorem wg_438 : Jvm.Cond.selects "HairLine$Span" ({ cls := "HairLine$Span", name := "end", desc := "(I)I" } : Jvm.MethodName) ({ cls := "HairLine$Span", name := "end", desc := "(I)I" } : Jvm.MethodName) ∈ gw := gm (tm2 (List.mem_of_getElem? (i := 198) rfl)) rfl
theorem wg_439 : Jvm.Cond.code ({ cls := "HairLine$Span", name := "end", desc := "(I)I" } : Jvm.MethodName) prog_8_method_4_code (2 : Nat) (Option.some Jvm.ClassFile.FieldType.int) ∈ gw := gm (tm2 (List.mem_of_getElem? (i := 199) rfl)) rfl
theorem wg_440 : Jvm.Cond.methodLink "HairLineLaw" (78 : Nat) ({ cls := "HairLine", name := "tell", desc := "(II)I" } : Jvm.MethodName) ∈ gw := gm (tm2 (List.mem_of_getElem? (i := 200) rfl)) rfl
theorem wg_441 : Jvm.Cond.instanceMethod ({ cls := "HairLine", name := "tell", desc := "(II)I" } : Jvm.MethodName) ∈ gw := gm (tm2 (List.mem_of_getElem? (i := 201) rfl)) rfl
theorem wg_442 : Jvm.Cond.selects "HairLine" ({ cls := "HairLine", name := "tell", desc := "(II)I" } : Jvm.MethodName) ({ cls := "HairLine", name := "tell", desc := "(II)I" } : Jvm.MethodName) ∈ gw := gm (tm2 (List.mem_of_getElem? (i := 202) rfl)) rfl
theorem wg_443 : Jvm.Cond.code ({ cls := "HairLine", name := "tell", desc := "(II)I" } : Jvm.MethodName) prog_1_method_17_code (4 : Nat) (Option.some Jvm.ClassFile.FieldType.int) ∈ gw := gm (tm2 (List.mem_of_getElem? (i := 203) rfl)) rfl
theorem wg_444 : Jvm.Cond.methodLink "HairLineLaw" (82 : Nat) ({ cls := "HairLine", name := "time", desc := "(I)I" } : Jvm.MethodName) ∈ gw := gm (tm2 (List.mem_of_getElem? (i := 204) rfl)) rfl
theorem wg_445 : Jvm.Cond.instanceMethod ({ cls := "HairLine", name := "time", desc := "(I)I" } : Jvm.MethodName) ∈ gw := gm (tm2 (List.mem_of_getElem? (i := 205) rfl)) rfl
theorem wg_446 : Jvm.Cond.selects "HairLine" ({ cls := "HairLine", name := "time", desc := "(I)I" } : Jvm.MethodName) ({ cls := "HairLine", name := "time", desc := "(I)I" } : Jvm.MethodName) ∈ gw := gm (tm2 (List.mem_of_getElem? (i := 206) rfl)) rfl
theorem wg_447 : Jvm.Cond.code ({ cls := "HairLine", name := "time", desc := "(I)I" } : Jvm.MethodName) prog_1_method_18_code (3 : Nat) (Option.some Jvm.ClassFile.FieldType.int) ∈ gw := gm (tm2 (List.mem_of_getElem? (i := 207) rfl)) rfl
theorem wg_448 : Jvm.Cond.methodLink "HairLine" (188 : Nat) ({ cls := "HairLine$Panel", name := "agree", desc := "()I" } : Jvm.MethodName) ∈ gw := gm (tm2 (List.mem_of_getElem? (i := 208) rfl)) rfl
theorem wg_449 : Jvm.Cond.instanceMethod ({ cls := "HairLine$Panel", name := "agree", desc := "()I" } : Jvm.MethodName) ∈ gw := gm (tm2 (List.mem_of_getElem? (i := 209) rfl)) rfl
theorem wg_450 : Jvm.Cond.selects "HairLine$Panel" ({ cls := "HairLine$Panel", name := "agree", desc := "()I" } : Jvm.MethodName) ({ cls := "HairLine$Panel", name := "agree", desc := "()I" } : Jvm.MethodName) ∈ gw := gm (tm2 (List.mem_of_getElem? (i := 210) rfl)) rfl
theorem wg_451 : Jvm.Cond.code ({ cls := "HairLine$Panel", name := "agree", desc := "()I" } : Jvm.MethodName) prog_3_method_2_code (4 : Nat) (Option.some Jvm.ClassFile.FieldType.int) ∈ gw := gm (tm2 (List.mem_of_getElem? (i := 211) rfl)) rfl
theorem wg_452 : Jvm.Cond.constant "HairLine$Panel" (30 : Nat) (-10000000 : Int32) ∈ gw := gm (tm2 (List.mem_of_getElem? (i := 212) rfl)) rfl
theorem wg_453 : Jvm.Cond.constant "HairLine$Panel" (31 : Nat) (10000000 : Int32) ∈ gw := gm (tm2 (List.mem_of_getElem? (i := 213) rfl)) rfl
theorem wg_454 : Jvm.Cond.methodLink "HairLine$Panel" (39 : Nat) ({ cls := "HairLine$Span", name := "narrow", desc := "(II)Z" } : Jvm.MethodName) ∈ gw := gm (tm2 (List.mem_of_getElem? (i := 214) rfl)) rfl
theorem wg_455 : Jvm.Cond.constant "HairLine" (192 : Nat) (1000000 : Int32) ∈ gw := gm (tm2 (List.mem_of_getElem? (i := 215) rfl)) rfl
theorem wg_456 : Jvm.Cond.methodLink "HairLineLaw" (86 : Nat) ({ cls := "HairLine", name := "old", desc := "(I)I" } : Jvm.MethodName) ∈ gw := gm (tm2 (List.mem_of_getElem? (i := 216) rfl)) rfl
theorem wg_457 : Jvm.Cond.instanceMethod ({ cls := "HairLine", name := "old", desc := "(I)I" } : Jvm.MethodName) ∈ gw := gm (tm2 (List.mem_of_getElem? (i := 217) rfl)) rfl
theorem wg_458 : Jvm.Cond.selects "HairLine" ({ cls := "HairLine", name := "old", desc := "(I)I" } : Jvm.MethodName) ({ cls := "HairLine", name := "old", desc := "(I)I" } : Jvm.MethodName) ∈ gw := gm (tm2 (List.mem_of_getElem? (i := 218) rfl)) rfl
theorem wg_459 : Jvm.Cond.code ({ cls := "HairLine", name := "old", desc := "(I)I" } : Jvm.MethodName) prog_1_method_19_code (3 : Nat) (Option.some Jvm.ClassFile.FieldType.int) ∈ gw := gm (tm2 (List.mem_of_getElem? (i := 219) rfl)) rfl
theorem wg_460 : Jvm.Cond.methodLink "HairLineLaw" (90 : Nat) ({ cls := "HairLine", name := "say", desc := "(I)I" } : Jvm.MethodName) ∈ gw := gm (tm2 (List.mem_of_getElem? (i := 220) rfl)) rfl
theorem wg_461 : Jvm.Cond.instanceMethod ({ cls := "HairLine", name := "say", desc := "(I)I" } : Jvm.MethodName) ∈ gw := gm (tm2 (List.mem_of_getElem? (i := 221) rfl)) rfl
theorem wg_462 : Jvm.Cond.selects "HairLine" ({ cls := "HairLine", name := "say", desc := "(I)I" } : Jvm.MethodName) ({ cls := "HairLine", name := "say", desc := "(I)I" } : Jvm.MethodName) ∈ gw := gm (tm2 (List.mem_of_getElem? (i := 222) rfl)) rfl
theorem wg_463 : Jvm.Cond.code ({ cls := "HairLine", name := "say", desc := "(I)I" } : Jvm.MethodName) prog_1_method_20_code (2 : Nat) (Option.some Jvm.ClassFile.FieldType.int) ∈ gw := gm (tm2 (List.mem_of_getElem? (i := 223) rfl)) rfl
theorem wg_464 : Jvm.Cond.methodLink "HairLine" (203 : Nat) ({ cls := "HairLine$Signs", name := "add", desc := "(I)I" } : Jvm.MethodName) ∈ gw := gm (tm2 (List.mem_of_getElem? (i := 224) rfl)) rfl
theorem wg_465 : Jvm.Cond.instanceMethod ({ cls := "HairLine$Signs", name := "add", desc := "(I)I" } : Jvm.MethodName) ∈ gw := gm (tm2 (List.mem_of_getElem? (i := 225) rfl)) rfl
theorem wg_466 : Jvm.Cond.selects "HairLine$Signs" ({ cls := "HairLine$Signs", name := "add", desc := "(I)I" } : Jvm.MethodName) ({ cls := "HairLine$Signs", name := "add", desc := "(I)I" } : Jvm.MethodName) ∈ gw := gm (tm2 (List.mem_of_getElem? (i := 226) rfl)) rfl
theorem wg_467 : Jvm.Cond.code ({ cls := "HairLine$Signs", name := "add", desc := "(I)I" } : Jvm.MethodName) prog_7_method_2_code (2 : Nat) (Option.some Jvm.ClassFile.FieldType.int) ∈ gw := gm (tm2 (List.mem_of_getElem? (i := 227) rfl)) rfl
theorem wg_468 : Jvm.Cond.methodLink "HairLineLaw" (94 : Nat) ({ cls := "HairLine", name := "wipe", desc := "()I" } : Jvm.MethodName) ∈ gw := gm (tm2 (List.mem_of_getElem? (i := 228) rfl)) rfl
theorem wg_469 : Jvm.Cond.instanceMethod ({ cls := "HairLine", name := "wipe", desc := "()I" } : Jvm.MethodName) ∈ gw := gm (tm2 (List.mem_of_getElem? (i := 229) rfl)) rfl
theorem wg_470 : Jvm.Cond.selects "HairLine" ({ cls := "HairLine", name := "wipe", desc := "()I" } : Jvm.MethodName) ({ cls := "HairLine", name := "wipe", desc := "()I" } : Jvm.MethodName) ∈ gw := gm (tm2 (List.mem_of_getElem? (i := 230) rfl)) rfl
theorem wg_471 : Jvm.Cond.code ({ cls := "HairLine", name := "wipe", desc := "()I" } : Jvm.MethodName) prog_1_method_21_code (2 : Nat) (Option.some Jvm.ClassFile.FieldType.int) ∈ gw := gm (tm2 (List.mem_of_getElem? (i := 231) rfl)) rfl
theorem wg_472 : Jvm.Cond.methodLink "HairLineLaw" (99 : Nat) ({ cls := "HairLine", name := "fault", desc := "()I" } : Jvm.MethodName) ∈ gw := gm (tm2 (List.mem_of_getElem? (i := 232) rfl)) rfl
theorem wg_473 : Jvm.Cond.instanceMethod ({ cls := "HairLine", name := "fault", desc := "()I" } : Jvm.MethodName) ∈ gw := gm (tm2 (List.mem_of_getElem? (i := 233) rfl)) rfl
theorem wg_474 : Jvm.Cond.selects "HairLine" ({ cls := "HairLine", name := "fault", desc := "()I" } : Jvm.MethodName) ({ cls := "HairLine", name := "fault", desc := "()I" } : Jvm.MethodName) ∈ gw := gm (tm2 (List.mem_of_getElem? (i := 234) rfl)) rfl
theorem wg_475 : Jvm.Cond.code ({ cls := "HairLine", name := "fault", desc := "()I" } : Jvm.MethodName) prog_1_method_22_code (1 : Nat) (Option.some Jvm.ClassFile.FieldType.int) ∈ gw := gm (tm2 (List.mem_of_getElem? (i := 235) rfl)) rfl
theorem wg_476 : Jvm.Cond.methodLink "HairLine" (207 : Nat) ({ cls := "HairLine$Signs", name := "firstFault", desc := "()I" } : Jvm.MethodName) ∈ gw := gm (tm2 (List.mem_of_getElem? (i := 236) rfl)) rfl
theorem wg_477 : Jvm.Cond.instanceMethod ({ cls := "HairLine$Signs", name := "firstFault", desc := "()I" } : Jvm.MethodName) ∈ gw := gm (tm2 (List.mem_of_getElem? (i := 237) rfl)) rfl
theorem wg_478 : Jvm.Cond.selects "HairLine$Signs" ({ cls := "HairLine$Signs", name := "firstFault", desc := "()I" } : Jvm.MethodName) ({ cls := "HairLine$Signs", name := "firstFault", desc := "()I" } : Jvm.MethodName) ∈ gw := gm (tm2 (List.mem_of_getElem? (i := 238) rfl)) rfl
theorem wg_479 : Jvm.Cond.code ({ cls := "HairLine$Signs", name := "firstFault", desc := "()I" } : Jvm.MethodName) prog_7_method_3_code (3 : Nat) (Option.some Jvm.ClassFile.FieldType.int) ∈ gw := gm (tm2 (List.mem_of_getElem? (i := 239) rfl)) rfl
theorem wg_480 : Jvm.Cond.methodLink "HairLine$Signs" (19 : Nat) ({ cls := "HairLine$Signs", name := "next", desc := "(II)I" } : Jvm.MethodName) ∈ gw := gm (tm3 (List.mem_of_getElem? (i := 0) rfl)) rfl
theorem wg_481 : Jvm.Cond.static ({ cls := "HairLine$Signs", name := "next", desc := "(II)I" } : Jvm.MethodName) ∈ gw := gm (tm3 (List.mem_of_getElem? (i := 1) rfl)) rfl
theorem wg_482 : Jvm.Cond.code ({ cls := "HairLine$Signs", name := "next", desc := "(II)I" } : Jvm.MethodName) prog_7_method_4_code (2 : Nat) (Option.some Jvm.ClassFile.FieldType.int) ∈ gw := gm (tm3 (List.mem_of_getElem? (i := 2) rfl)) rfl
theorem wg_483 : Jvm.Cond.methodLink "HairLine$Signs" (23 : Nat) ({ cls := "HairLine$Signs", name := "isFactSign", desc := "(I)Z" } : Jvm.MethodName) ∈ gw := gm (tm3 (List.mem_of_getElem? (i := 3) rfl)) rfl
theorem wg_484 : Jvm.Cond.static ({ cls := "HairLine$Signs", name := "isFactSign", desc := "(I)Z" } : Jvm.MethodName) ∈ gw := gm (tm3 (List.mem_of_getElem? (i := 4) rfl)) rfl
theorem wg_485 : Jvm.Cond.code ({ cls := "HairLine$Signs", name := "isFactSign", desc := "(I)Z" } : Jvm.MethodName) prog_7_method_6_code (1 : Nat) (Option.some Jvm.ClassFile.FieldType.boolean) ∈ gw := gm (tm3 (List.mem_of_getElem? (i := 5) rfl)) rfl
theorem wg_486 : Jvm.Cond.methodLink "HairLine$Signs" (27 : Nat) ({ cls := "HairLine$Signs", name := "isRelation", desc := "(I)Z" } : Jvm.MethodName) ∈ gw := gm (tm3 (List.mem_of_getElem? (i := 6) rfl)) rfl
theorem wg_487 : Jvm.Cond.static ({ cls := "HairLine$Signs", name := "isRelation", desc := "(I)Z" } : Jvm.MethodName) ∈ gw := gm (tm3 (List.mem_of_getElem? (i := 7) rfl)) rfl
theorem wg_488 : Jvm.Cond.code ({ cls := "HairLine$Signs", name := "isRelation", desc := "(I)Z" } : Jvm.MethodName) prog_7_method_7_code (1 : Nat) (Option.some Jvm.ClassFile.FieldType.boolean) ∈ gw := gm (tm3 (List.mem_of_getElem? (i := 8) rfl)) rfl
theorem wg_489 : Jvm.Cond.methodLink "HairLine$Signs" (30 : Nat) ({ cls := "HairLine$Signs", name := "isDigit", desc := "(I)Z" } : Jvm.MethodName) ∈ gw := gm (tm3 (List.mem_of_getElem? (i := 9) rfl)) rfl
theorem wg_490 : Jvm.Cond.static ({ cls := "HairLine$Signs", name := "isDigit", desc := "(I)Z" } : Jvm.MethodName) ∈ gw := gm (tm3 (List.mem_of_getElem? (i := 10) rfl)) rfl
theorem wg_491 : Jvm.Cond.code ({ cls := "HairLine$Signs", name := "isDigit", desc := "(I)Z" } : Jvm.MethodName) prog_7_method_8_code (1 : Nat) (Option.some Jvm.ClassFile.FieldType.boolean) ∈ gw := gm (tm3 (List.mem_of_getElem? (i := 11) rfl)) rfl
theorem wm_492 : Jvm.Cond.methodLinkNest "HairLine$Signs" (36 : Nat) ({ cls := "HairLine", name := "within", desc := "(III)Z" } : Jvm.MethodName) "HairLine" ∈ lw_tbl := tm3 (List.mem_of_getElem? (i := 12) rfl)
theorem wg_493 : Jvm.Cond.methodLink "HairLine$Signs" (33 : Nat) ({ cls := "HairLine$Signs", name := "afterDigit", desc := "(II)I" } : Jvm.MethodName) ∈ gw := gm (tm3 (List.mem_of_getElem? (i := 13) rfl)) rfl
theorem wg_494 : Jvm.Cond.static ({ cls := "HairLine$Signs", name := "afterDigit", desc := "(II)I" } : Jvm.MethodName) ∈ gw := gm (tm3 (List.mem_of_getElem? (i := 14) rfl)) rfl
theorem wg_495 : Jvm.Cond.code ({ cls := "HairLine$Signs", name := "afterDigit", desc := "(II)I" } : Jvm.MethodName) prog_7_method_5_code (2 : Nat) (Option.some Jvm.ClassFile.FieldType.int) ∈ gw := gm (tm3 (List.mem_of_getElem? (i := 15) rfl)) rfl
theorem wg_496 : Jvm.Cond.methodLink "HairLineLaw" (103 : Nat) ({ cls := "HairLine", name := "rule", desc := "()I" } : Jvm.MethodName) ∈ gw := gm (tm3 (List.mem_of_getElem? (i := 16) rfl)) rfl
theorem wg_497 : Jvm.Cond.instanceMethod ({ cls := "HairLine", name := "rule", desc := "()I" } : Jvm.MethodName) ∈ gw := gm (tm3 (List.mem_of_getElem? (i := 17) rfl)) rfl
theorem wg_498 : Jvm.Cond.selects "HairLine" ({ cls := "HairLine", name := "rule", desc := "()I" } : Jvm.MethodName) ({ cls := "HairLine", name := "rule", desc := "()I" } : Jvm.MethodName) ∈ gw := gm (tm3 (List.mem_of_getElem? (i := 18) rfl)) rfl
theorem wg_499 : Jvm.Cond.code ({ cls := "HairLine", name := "rule", desc := "()I" } : Jvm.MethodName) prog_1_method_23_code (1 : Nat) (Option.some Jvm.ClassFile.FieldType.int) ∈ gw := gm (tm3 (List.mem_of_getElem? (i := 19) rfl)) rfl
theorem wg_500 : Jvm.Cond.methodLink "HairLine" (210 : Nat) ({ cls := "HairLine$Lines", name := "read", desc := "(LHairLine$Signs;)V" } : Jvm.MethodName) ∈ gw := gm (tm3 (List.mem_of_getElem? (i := 20) rfl)) rfl
theorem wg_501 : Jvm.Cond.instanceMethod ({ cls := "HairLine$Lines", name := "read", desc := "(LHairLine$Signs;)V" } : Jvm.MethodName) ∈ gw := gm (tm3 (List.mem_of_getElem? (i := 21) rfl)) rfl
theorem wg_502 : Jvm.Cond.selects "HairLine$Lines" ({ cls := "HairLine$Lines", name := "read", desc := "(LHairLine$Signs;)V" } : Jvm.MethodName) ({ cls := "HairLine$Lines", name := "read", desc := "(LHairLine$Signs;)V" } : Jvm.MethodName) ∈ gw := gm (tm3 (List.mem_of_getElem? (i := 22) rfl)) rfl
theorem wg_503 : Jvm.Cond.code ({ cls := "HairLine$Lines", name := "read", desc := "(LHairLine$Signs;)V" } : Jvm.MethodName) prog_2_method_2_code (3 : Nat) (Option.none : Option Jvm.ClassFile.FieldType) ∈ gw := gm (tm3 (List.mem_of_getElem? (i := 23) rfl)) rfl
theorem wg_504 : Jvm.Cond.methodLink "HairLine$Lines" (34 : Nat) ({ cls := "HairLine$Lines", name := "take", desc := "(I)V" } : Jvm.MethodName) ∈ gw := gm (tm3 (List.mem_of_getElem? (i := 24) rfl)) rfl
theorem wg_505 : Jvm.Cond.instanceMethod ({ cls := "HairLine$Lines", name := "take", desc := "(I)V" } : Jvm.MethodName) ∈ gw := gm (tm3 (List.mem_of_getElem? (i := 25) rfl)) rfl
theorem wg_506 : Jvm.Cond.selects "HairLine$Lines" ({ cls := "HairLine$Lines", name := "take", desc := "(I)V" } : Jvm.MethodName) ({ cls := "HairLine$Lines", name := "take", desc := "(I)V" } : Jvm.MethodName) ∈ gw := gm (tm3 (List.mem_of_getElem? (i := 26) rfl)) rfl
theorem wg_507 : Jvm.Cond.code ({ cls := "HairLine$Lines", name := "take", desc := "(I)V" } : Jvm.MethodName) prog_2_method_3_code (3 : Nat) (Option.none : Option Jvm.ClassFile.FieldType) ∈ gw := gm (tm3 (List.mem_of_getElem? (i := 27) rfl)) rfl
theorem wg_508 : Jvm.Cond.methodLink "HairLine$Lines" (38 : Nat) ({ cls := "HairLine$Signs", name := "isFactSign", desc := "(I)Z" } : Jvm.MethodName) ∈ gw := gm (tm3 (List.mem_of_getElem? (i := 28) rfl)) rfl
theorem wg_509 : Jvm.Cond.methodLink "HairLine$Lines" (42 : Nat) ({ cls := "HairLine$Lines", name := "open", desc := "(I)V" } : Jvm.MethodName) ∈ gw := gm (tm3 (List.mem_of_getElem? (i := 29) rfl)) rfl
theorem wg_510 : Jvm.Cond.instanceMethod ({ cls := "HairLine$Lines", name := "open", desc := "(I)V" } : Jvm.MethodName) ∈ gw := gm (tm3 (List.mem_of_getElem? (i := 30) rfl)) rfl
theorem wg_511 : Jvm.Cond.selects "HairLine$Lines" ({ cls := "HairLine$Lines", name := "open", desc := "(I)V" } : Jvm.MethodName) ({ cls := "HairLine$Lines", name := "open", desc := "(I)V" } : Jvm.MethodName) ∈ gw := gm (tm3 (List.mem_of_getElem? (i := 31) rfl)) rfl
theorem wg_512 : Jvm.Cond.code ({ cls := "HairLine$Lines", name := "open", desc := "(I)V" } : Jvm.MethodName) prog_2_method_4_code (2 : Nat) (Option.none : Option Jvm.ClassFile.FieldType) ∈ gw := gm (tm3 (List.mem_of_getElem? (i := 32) rfl)) rfl
theorem wg_513 : Jvm.Cond.methodLink "HairLine$Lines" (45 : Nat) ({ cls := "HairLine$Signs", name := "isRelation", desc := "(I)Z" } : Jvm.MethodName) ∈ gw := gm (tm3 (List.mem_of_getElem? (i := 33) rfl)) rfl
theorem wg_514 : Jvm.Cond.methodLink "HairLine$Lines" (48 : Nat) ({ cls := "HairLine$Signs", name := "isDigit", desc := "(I)Z" } : Jvm.MethodName) ∈ gw := gm (tm3 (List.mem_of_getElem? (i := 34) rfl)) rfl
theorem wg_515 : Jvm.Cond.methodLink "HairLineLaw" (107 : Nat) ({ cls := "HairLine", name := "record", desc := "(IIII)I" } : Jvm.MethodName) ∈ gw := gm (tm3 (List.mem_of_getElem? (i := 35) rfl)) rfl
theorem wg_516 : Jvm.Cond.instanceMethod ({ cls := "HairLine", name := "record", desc := "(IIII)I" } : Jvm.MethodName) ∈ gw := gm (tm3 (List.mem_of_getElem? (i := 36) rfl)) rfl
theorem wg_517 : Jvm.Cond.selects "HairLine" ({ cls := "HairLine", name := "record", desc := "(IIII)I" } : Jvm.MethodName) ({ cls := "HairLine", name := "record", desc := "(IIII)I" } : Jvm.MethodName) ∈ gw := gm (tm3 (List.mem_of_getElem? (i := 37) rfl)) rfl
theorem wg_518 : Jvm.Cond.code ({ cls := "HairLine", name := "record", desc := "(IIII)I" } : Jvm.MethodName) prog_1_method_24_code (7 : Nat) (Option.some Jvm.ClassFile.FieldType.int) ∈ gw := gm (tm3 (List.mem_of_getElem? (i := 38) rfl)) rfl
theorem wg_519 : Jvm.Cond.methodLink "HairLine" (215 : Nat) ({ cls := "HairLine", name := "isFact", desc := "(I)Z" } : Jvm.MethodName) ∈ gw := gm (tm3 (List.mem_of_getElem? (i := 39) rfl)) rfl
theorem wg_520 : Jvm.Cond.static ({ cls := "HairLine", name := "isFact", desc := "(I)Z" } : Jvm.MethodName) ∈ gw := gm (tm3 (List.mem_of_getElem? (i := 40) rfl)) rfl
theorem wg_521 : Jvm.Cond.code ({ cls := "HairLine", name := "isFact", desc := "(I)Z" } : Jvm.MethodName) prog_1_method_33_code (1 : Nat) (Option.some Jvm.ClassFile.FieldType.boolean) ∈ gw := gm (tm3 (List.mem_of_getElem? (i := 41) rfl)) rfl
theorem wg_522 : Jvm.Cond.methodLink "HairLine" (221 : Nat) ({ cls := "HairLine", name := "chosen", desc := "(IIIII)I" } : Jvm.MethodName) ∈ gw := gm (tm3 (List.mem_of_getElem? (i := 42) rfl)) rfl
theorem wg_523 : Jvm.Cond.static ({ cls := "HairLine", name := "chosen", desc := "(IIIII)I" } : Jvm.MethodName) ∈ gw := gm (tm3 (List.mem_of_getElem? (i := 43) rfl)) rfl
theorem wg_524 : Jvm.Cond.code ({ cls := "HairLine", name := "chosen", desc := "(IIIII)I" } : Jvm.MethodName) prog_1_method_41_code (5 : Nat) (Option.some Jvm.ClassFile.FieldType.int) ∈ gw := gm (tm3 (List.mem_of_getElem? (i := 44) rfl)) rfl
theorem wg_525 : Jvm.Cond.methodLink "HairLine" (225 : Nat) ({ cls := "HairLine$Lines", name := "isSo", desc := "(II)Z" } : Jvm.MethodName) ∈ gw := gm (tm3 (List.mem_of_getElem? (i := 45) rfl)) rfl
theorem wg_526 : Jvm.Cond.instanceMethod ({ cls := "HairLine$Lines", name := "isSo", desc := "(II)Z" } : Jvm.MethodName) ∈ gw := gm (tm3 (List.mem_of_getElem? (i := 46) rfl)) rfl
theorem wg_527 : Jvm.Cond.selects "HairLine$Lines" ({ cls := "HairLine$Lines", name := "isSo", desc := "(II)Z" } : Jvm.MethodName) ({ cls := "HairLine$Lines", name := "isSo", desc := "(II)Z" } : Jvm.MethodName) ∈ gw := gm (tm3 (List.mem_of_getElem? (i := 47) rfl)) rfl
theorem wg_528 : Jvm.Cond.code ({ cls := "HairLine$Lines", name := "isSo", desc := "(II)Z" } : Jvm.MethodName) prog_2_method_5_code (4 : Nat) (Option.some Jvm.ClassFile.FieldType.boolean) ∈ gw := gm (tm3 (List.mem_of_getElem? (i := 48) rfl)) rfl
theorem wg_529 : Jvm.Cond.methodLink "HairLineLaw" (112 : Nat) ({ cls := "HairLine", name := "slit", desc := "(II)I" } : Jvm.MethodName) ∈ gw := gm (tm3 (List.mem_of_getElem? (i := 49) rfl)) rfl
theorem wg_530 : Jvm.Cond.instanceMethod ({ cls := "HairLine", name := "slit", desc := "(II)I" } : Jvm.MethodName) ∈ gw := gm (tm3 (List.mem_of_getElem? (i := 50) rfl)) rfl
theorem wg_531 : Jvm.Cond.selects "HairLine" ({ cls := "HairLine", name := "slit", desc := "(II)I" } : Jvm.MethodName) ({ cls := "HairLine", name := "slit", desc := "(II)I" } : Jvm.MethodName) ∈ gw := gm (tm3 (List.mem_of_getElem? (i := 51) rfl)) rfl
theorem wg_532 : Jvm.Cond.code ({ cls := "HairLine", name := "slit", desc := "(II)I" } : Jvm.MethodName) prog_1_method_25_code (3 : Nat) (Option.some Jvm.ClassFile.FieldType.int) ∈ gw := gm (tm3 (List.mem_of_getElem? (i := 52) rfl)) rfl
theorem wg_533 : Jvm.Cond.methodLink "HairLine" (228 : Nat) ({ cls := "HairLine$Rack", name := "add", desc := "(II)I" } : Jvm.MethodName) ∈ gw := gm (tm3 (List.mem_of_getElem? (i := 53) rfl)) rfl
theorem wg_534 : Jvm.Cond.instanceMethod ({ cls := "HairLine$Rack", name := "add", desc := "(II)I" } : Jvm.MethodName) ∈ gw := gm (tm3 (List.mem_of_getElem? (i := 54) rfl)) rfl
theorem wg_535 : Jvm.Cond.selects "HairLine$Rack" ({ cls := "HairLine$Rack", name := "add", desc := "(II)I" } : Jvm.MethodName) ({ cls := "HairLine$Rack", name := "add", desc := "(II)I" } : Jvm.MethodName) ∈ gw := gm (tm3 (List.mem_of_getElem? (i := 55) rfl)) rfl
theorem wg_536 : Jvm.Cond.code ({ cls := "HairLine$Rack", name := "add", desc := "(II)I" } : Jvm.MethodName) prog_4_method_2_code (3 : Nat) (Option.some Jvm.ClassFile.FieldType.int) ∈ gw := gm (tm3 (List.mem_of_getElem? (i := 56) rfl)) rfl
theorem wg_537 : Jvm.Cond.methodLink "HairLineLaw" (116 : Nat) ({ cls := "HairLine", name := "seen", desc := "(II)I" } : Jvm.MethodName) ∈ gw := gm (tm3 (List.mem_of_getElem? (i := 57) rfl)) rfl
theorem wg_538 : Jvm.Cond.instanceMethod ({ cls := "HairLine", name := "seen", desc := "(II)I" } : Jvm.MethodName) ∈ gw := gm (tm3 (List.mem_of_getElem? (i := 58) rfl)) rfl
theorem wg_539 : Jvm.Cond.selects "HairLine" ({ cls := "HairLine", name := "seen", desc := "(II)I" } : Jvm.MethodName) ({ cls := "HairLine", name := "seen", desc := "(II)I" } : Jvm.MethodName) ∈ gw := gm (tm3 (List.mem_of_getElem? (i := 59) rfl)) rfl
theorem wg_540 : Jvm.Cond.code ({ cls := "HairLine", name := "seen", desc := "(II)I" } : Jvm.MethodName) prog_1_method_26_code (4 : Nat) (Option.some Jvm.ClassFile.FieldType.int) ∈ gw := gm (tm3 (List.mem_of_getElem? (i := 60) rfl)) rfl
theorem wg_541 : Jvm.Cond.methodLink "HairLine" (231 : Nat) ({ cls := "HairLine$Rack", name := "look", desc := "(LHairLine$Track;)V" } : Jvm.MethodName) ∈ gw := gm (tm3 (List.mem_of_getElem? (i := 61) rfl)) rfl
theorem wg_542 : Jvm.Cond.instanceMethod ({ cls := "HairLine$Rack", name := "look", desc := "(LHairLine$Track;)V" } : Jvm.MethodName) ∈ gw := gm (tm3 (List.mem_of_getElem? (i := 62) rfl)) rfl
theorem wg_543 : Jvm.Cond.selects "HairLine$Rack" ({ cls := "HairLine$Rack", name := "look", desc := "(LHairLine$Track;)V" } : Jvm.MethodName) ({ cls := "HairLine$Rack", name := "look", desc := "(LHairLine$Track;)V" } : Jvm.MethodName) ∈ gw := gm (tm3 (List.mem_of_getElem? (i := 63) rfl)) rfl
theorem wg_544 : Jvm.Cond.code ({ cls := "HairLine$Rack", name := "look", desc := "(LHairLine$Track;)V" } : Jvm.MethodName) prog_4_method_3_code (4 : Nat) (Option.none : Option Jvm.ClassFile.FieldType) ∈ gw := gm (tm3 (List.mem_of_getElem? (i := 64) rfl)) rfl
theorem wg_545 : Jvm.Cond.methodLink "HairLine$Rack" (28 : Nat) ({ cls := "HairLine$Rack", name := "catches", desc := "(IILHairLine$Track;)Z" } : Jvm.MethodName) ∈ gw := gm (tm3 (List.mem_of_getElem? (i := 65) rfl)) rfl
theorem wg_546 : Jvm.Cond.instanceMethod ({ cls := "HairLine$Rack", name := "catches", desc := "(IILHairLine$Track;)Z" } : Jvm.MethodName) ∈ gw := gm (tm3 (List.mem_of_getElem? (i := 66) rfl)) rfl
theorem wg_547 : Jvm.Cond.selects "HairLine$Rack" ({ cls := "HairLine$Rack", name := "catches", desc := "(IILHairLine$Track;)Z" } : Jvm.MethodName) ({ cls := "HairLine$Rack", name := "catches", desc := "(IILHairLine$Track;)Z" } : Jvm.MethodName) ∈ gw := gm (tm3 (List.mem_of_getElem? (i := 67) rfl)) rfl
theorem wg_548 : Jvm.Cond.code ({ cls := "HairLine$Rack", name := "catches", desc := "(IILHairLine$Track;)Z" } : Jvm.MethodName) prog_4_method_4_code (7 : Nat) (Option.some Jvm.ClassFile.FieldType.boolean) ∈ gw := gm (tm3 (List.mem_of_getElem? (i := 68) rfl)) rfl
theorem wg_549 : Jvm.Cond.methodLink "HairLine$Rack" (32 : Nat) ({ cls := "HairLine$Track", name := "leaned", desc := "(I)I" } : Jvm.MethodName) ∈ gw := gm (tm3 (List.mem_of_getElem? (i := 69) rfl)) rfl
theorem wg_550 : Jvm.Cond.methodLink "HairLine$Rack" (36 : Nat) ({ cls := "HairLine$Track", name := "film", desc := "(III)I" } : Jvm.MethodName) ∈ gw := gm (tm3 (List.mem_of_getElem? (i := 70) rfl)) rfl
theorem wm_551 : Jvm.Cond.methodLinkNest "HairLine$Rack" (40 : Nat) ({ cls := "HairLine", name := "torsoMark", desc := "(I)I" } : Jvm.MethodName) "HairLine" ∈ lw_tbl := tm3 (List.mem_of_getElem? (i := 71) rfl)
theorem wg_552 : Jvm.Cond.methodLink "HairLine" (235 : Nat) ({ cls := "HairLine$Rack", name := "seenBy", desc := "(I)I" } : Jvm.MethodName) ∈ gw := gm (tm3 (List.mem_of_getElem? (i := 72) rfl)) rfl
theorem wg_553 : Jvm.Cond.instanceMethod ({ cls := "HairLine$Rack", name := "seenBy", desc := "(I)I" } : Jvm.MethodName) ∈ gw := gm (tm3 (List.mem_of_getElem? (i := 73) rfl)) rfl
theorem wg_554 : Jvm.Cond.selects "HairLine$Rack" ({ cls := "HairLine$Rack", name := "seenBy", desc := "(I)I" } : Jvm.MethodName) ({ cls := "HairLine$Rack", name := "seenBy", desc := "(I)I" } : Jvm.MethodName) ∈ gw := gm (tm3 (List.mem_of_getElem? (i := 74) rfl)) rfl
theorem wg_555 : Jvm.Cond.code ({ cls := "HairLine$Rack", name := "seenBy", desc := "(I)I" } : Jvm.MethodName) prog_4_method_5_code (4 : Nat) (Option.some Jvm.ClassFile.FieldType.int) ∈ gw := gm (tm3 (List.mem_of_getElem? (i := 75) rfl)) rfl
theorem wg_556 : Jvm.Cond.methodLink "HairLine" (238 : Nat) ({ cls := "HairLine$Track", name := "countTorsos", desc := "()I" } : Jvm.MethodName) ∈ gw := gm (tm3 (List.mem_of_getElem? (i := 76) rfl)) rfl
theorem wg_557 : Jvm.Cond.instanceMethod ({ cls := "HairLine$Track", name := "countTorsos", desc := "()I" } : Jvm.MethodName) ∈ gw := gm (tm3 (List.mem_of_getElem? (i := 77) rfl)) rfl
theorem wg_558 : Jvm.Cond.selects "HairLine$Track" ({ cls := "HairLine$Track", name := "countTorsos", desc := "()I" } : Jvm.MethodName) ({ cls := "HairLine$Track", name := "countTorsos", desc := "()I" } : Jvm.MethodName) ∈ gw := gm (tm3 (List.mem_of_getElem? (i := 78) rfl)) rfl
theorem wg_559 : Jvm.Cond.code ({ cls := "HairLine$Track", name := "countTorsos", desc := "()I" } : Jvm.MethodName) prog_9_method_14_code (3 : Nat) (Option.some Jvm.ClassFile.FieldType.int) ∈ gw := gm (tm3 (List.mem_of_getElem? (i := 79) rfl)) rfl
theorem wg_560 : Jvm.Cond.methodLink "HairLine" (241 : Nat) ({ cls := "HairLine", name := "untold", desc := "(II)I" } : Jvm.MethodName) ∈ gw := gm (tm3 (List.mem_of_getElem? (i := 80) rfl)) rfl
theorem wg_561 : Jvm.Cond.static ({ cls := "HairLine", name := "untold", desc := "(II)I" } : Jvm.MethodName) ∈ gw := gm (tm3 (List.mem_of_getElem? (i := 81) rfl)) rfl
theorem wg_562 : Jvm.Cond.code ({ cls := "HairLine", name := "untold", desc := "(II)I" } : Jvm.MethodName) prog_1_method_43_code (2 : Nat) (Option.some Jvm.ClassFile.FieldType.int) ∈ gw := gm (tm3 (List.mem_of_getElem? (i := 82) rfl)) rfl
theorem wg_563 : Jvm.Cond.methodLink "HairLine" (259 : Nat) ({ cls := "HairLine", name := "pairsOf", desc := "(I)I" } : Jvm.MethodName) ∈ gw := gm (tm3 (List.mem_of_getElem? (i := 83) rfl)) rfl
theorem wg_564 : Jvm.Cond.static ({ cls := "HairLine", name := "pairsOf", desc := "(I)I" } : Jvm.MethodName) ∈ gw := gm (tm3 (List.mem_of_getElem? (i := 84) rfl)) rfl
theorem wg_565 : Jvm.Cond.code ({ cls := "HairLine", name := "pairsOf", desc := "(I)I" } : Jvm.MethodName) prog_1_method_42_code (1 : Nat) (Option.some Jvm.ClassFile.FieldType.int) ∈ gw := gm (tm3 (List.mem_of_getElem? (i := 85) rfl)) rfl
theorem wg_566 : Jvm.Cond.methodLink "HairLine" (244 : Nat) ({ cls := "java/lang/Integer", name := "bitCount", desc := "(I)I" } : Jvm.MethodName) ∈ gw := gm (tm3 (List.mem_of_getElem? (i := 86) rfl)) rfl
theorem wg_567 : Jvm.Cond.static ({ cls := "java/lang/Integer", name := "bitCount", desc := "(I)I" } : Jvm.MethodName) ∈ gw := gm (tm3 (List.mem_of_getElem? (i := 87) rfl)) rfl
theorem wg_568 : Jvm.Cond.code ({ cls := "java/lang/Integer", name := "bitCount", desc := "(I)I" } : Jvm.MethodName) prog_12_method_49_code (1 : Nat) (Option.some Jvm.ClassFile.FieldType.int) ∈ gw := gm (tm3 (List.mem_of_getElem? (i := 88) rfl)) rfl
theorem wg_569 : Jvm.Cond.constant "java/lang/Integer" (265 : Nat) (1431655765 : Int32) ∈ gw := gm (tm3 (List.mem_of_getElem? (i := 89) rfl)) rfl
theorem wg_570 : Jvm.Cond.constant "java/lang/Integer" (266 : Nat) (858993459 : Int32) ∈ gw := gm (tm3 (List.mem_of_getElem? (i := 90) rfl)) rfl
theorem wg_571 : Jvm.Cond.constant "java/lang/Integer" (267 : Nat) (252645135 : Int32) ∈ gw := gm (tm3 (List.mem_of_getElem? (i := 91) rfl)) rfl
theorem wg_572 : Jvm.Cond.methodLink "HairLineLaw" (120 : Nat) ({ cls := "HairLine", name := "best", desc := "(II)I" } : Jvm.MethodName) ∈ gw := gm (tm3 (List.mem_of_getElem? (i := 92) rfl)) rfl
theorem wg_573 : Jvm.Cond.instanceMethod ({ cls := "HairLine", name := "best", desc := "(II)I" } : Jvm.MethodName) ∈ gw := gm (tm3 (List.mem_of_getElem? (i := 93) rfl)) rfl
theorem wg_574 : Jvm.Cond.selects "HairLine" ({ cls := "HairLine", name := "best", desc := "(II)I" } : Jvm.MethodName) ({ cls := "HairLine", name := "best", desc := "(II)I" } : Jvm.MethodName) ∈ gw := gm (tm3 (List.mem_of_getElem? (i := 94) rfl)) rfl
theorem wg_575 : Jvm.Cond.code ({ cls := "HairLine", name := "best", desc := "(II)I" } : Jvm.MethodName) prog_1_method_27_code (10 : Nat) (Option.some Jvm.ClassFile.FieldType.int) ∈ gw := gm (tm3 (List.mem_of_getElem? (i := 95) rfl)) rfl
theorem wg_576 : Jvm.Cond.methodLink "HairLineLaw" (124 : Nat) ({ cls := "HairLine", name := "told", desc := "(I)I" } : Jvm.MethodName) ∈ gw := gm (tm3 (List.mem_of_getElem? (i := 96) rfl)) rfl
theorem wg_577 : Jvm.Cond.instanceMethod ({ cls := "HairLine", name := "told", desc := "(I)I" } : Jvm.MethodName) ∈ gw := gm (tm3 (List.mem_of_getElem? (i := 97) rfl)) rfl
theorem wg_578 : Jvm.Cond.selects "HairLine" ({ cls := "HairLine", name := "told", desc := "(I)I" } : Jvm.MethodName) ({ cls := "HairLine", name := "told", desc := "(I)I" } : Jvm.MethodName) ∈ gw := gm (tm3 (List.mem_of_getElem? (i := 98) rfl)) rfl
theorem wg_579 : Jvm.Cond.code ({ cls := "HairLine", name := "told", desc := "(I)I" } : Jvm.MethodName) prog_1_method_28_code (2 : Nat) (Option.some Jvm.ClassFile.FieldType.int) ∈ gw := gm (tm3 (List.mem_of_getElem? (i := 99) rfl)) rfl
theorem wg_580 : Jvm.Cond.classLink "HairLineLaw" (10 : Nat) "HairLineModel" ∈ gw := gm (tm3 (List.mem_of_getElem? (i := 100) rfl)) rfl
theorem wg_581 : Jvm.Cond.instantiable "HairLineModel" (28 : Nat) ∈ gw := gm (tm3 (List.mem_of_getElem? (i := 101) rfl)) rfl
theorem wg_582 : Jvm.Cond.methodLink "HairLineLaw" (12 : Nat) ({ cls := "HairLineModel", name := "<init>", desc := "()V" } : Jvm.MethodName) ∈ gw := gm (tm3 (List.mem_of_getElem? (i := 102) rfl)) rfl
theorem wg_583 : Jvm.Cond.instanceMethod ({ cls := "HairLineModel", name := "<init>", desc := "()V" } : Jvm.MethodName) ∈ gw := gm (tm3 (List.mem_of_getElem? (i := 103) rfl)) rfl
theorem wg_584 : Jvm.Cond.code ({ cls := "HairLineModel", name := "<init>", desc := "()V" } : Jvm.MethodName) prog_11_method_1_code (2 : Nat) (Option.none : Option Jvm.ClassFile.FieldType) ∈ gw := gm (tm3 (List.mem_of_getElem? (i := 104) rfl)) rfl
theorem wg_585 : Jvm.Cond.methodLink "HairLineModel" (1 : Nat) ({ cls := "java/lang/Object", name := "<init>", desc := "()V" } : Jvm.MethodName) ∈ gw := gm (tm3 (List.mem_of_getElem? (i := 105) rfl)) rfl
theorem wg_586 : Jvm.Cond.fieldLink "HairLineModel" (7 : Nat) "HairLineModel" "begins" "[I" ∈ gw := gm (tm3 (List.mem_of_getElem? (i := 106) rfl)) rfl
theorem wg_587 : Jvm.Cond.fieldLink "HairLineModel" (13 : Nat) "HairLineModel" "speedOf" "[I" ∈ gw := gm (tm3 (List.mem_of_getElem? (i := 107) rfl)) rfl
theorem wg_588 : Jvm.Cond.fieldLink "HairLineModel" (16 : Nat) "HairLineModel" "isShape" "[Z" ∈ gw := gm (tm3 (List.mem_of_getElem? (i := 108) rfl)) rfl
theorem wg_589 : Jvm.Cond.fieldLink "HairLineModel" (20 : Nat) "HairLineModel" "shapeFrom" "[I" ∈ gw := gm (tm3 (List.mem_of_getElem? (i := 109) rfl)) rfl
theorem wg_590 : Jvm.Cond.fieldLink "HairLineModel" (23 : Nat) "HairLineModel" "shapeTo" "[I" ∈ gw := gm (tm3 (List.mem_of_getElem? (i := 110) rfl)) rfl
theorem wg_591 : Jvm.Cond.fieldLink "HairLineModel" (26 : Nat) "HairLineModel" "pushes" "[I" ∈ gw := gm (tm3 (List.mem_of_getElem? (i := 111) rfl)) rfl
theorem wg_592 : Jvm.Cond.fieldLink "HairLineModel" (66 : Nat) "HairLineModel" "runners" "I" ∈ gw := gm (tm3 (List.mem_of_getElem? (i := 112) rfl)) rfl
theorem wg_593 : Jvm.Cond.fieldLink "HairLineModel" (94 : Nat) "HairLineModel" "leanIs" "I" ∈ gw := gm (tm3 (List.mem_of_getElem? (i := 113) rfl)) rfl
theorem wg_594 : Jvm.Cond.fieldLink "HairLineModel" (97 : Nat) "HairLineModel" "readIs" "I" ∈ gw := gm (tm3 (List.mem_of_getElem? (i := 114) rfl)) rfl
theorem wg_595 : Jvm.Cond.fieldLink "HairLineModel" (62 : Nat) "HairLineModel" "earIs" "I" ∈ gw := gm (tm3 (List.mem_of_getElem? (i := 115) rfl)) rfl
theorem wg_596 : Jvm.Cond.fieldLink "HairLineModel" (100 : Nat) "HairLineModel" "gunIs" "I" ∈ gw := gm (tm3 (List.mem_of_getElem? (i := 116) rfl)) rfl
theorem wg_597 : Jvm.Cond.fieldLink "HairLineModel" (29 : Nat) "HairLineModel" "firstAt" "[I" ∈ gw := gm (tm3 (List.mem_of_getElem? (i := 117) rfl)) rfl
theorem wg_598 : Jvm.Cond.fieldLink "HairLineModel" (32 : Nat) "HairLineModel" "ordered" "[I" ∈ gw := gm (tm3 (List.mem_of_getElem? (i := 118) rfl)) rfl
theorem wg_599 : Jvm.Cond.fieldLink "HairLineModel" (150 : Nat) "HairLineModel" "orderMany" "I" ∈ gw := gm (tm3 (List.mem_of_getElem? (i := 119) rfl)) rfl
theorem wg_600 : Jvm.Cond.fieldLink "HairLineModel" (35 : Nat) "HairLineModel" "lateFrom" "[I" ∈ gw := gm (tm3 (List.mem_of_getElem? (i := 120) rfl)) rfl
theorem wg_601 : Jvm.Cond.fieldLink "HairLineModel" (38 : Nat) "HairLineModel" "lateTo" "[I" ∈ gw := gm (tm3 (List.mem_of_getElem? (i := 121) rfl)) rfl
theorem wg_602 : Jvm.Cond.fieldLink "HairLineModel" (41 : Nat) "HairLineModel" "told" "[I" ∈ gw := gm (tm3 (List.mem_of_getElem? (i := 122) rfl)) rfl
theorem wg_603 : Jvm.Cond.fieldLink "HairLineModel" (183 : Nat) "HairLineModel" "trueFrom" "I" ∈ gw := gm (tm3 (List.mem_of_getElem? (i := 123) rfl)) rfl
theorem wg_604 : Jvm.Cond.fieldLink "HairLineModel" (186 : Nat) "HairLineModel" "trueTo" "I" ∈ gw := gm (tm3 (List.mem_of_getElem? (i := 124) rfl)) rfl
theorem wg_605 : Jvm.Cond.fieldLink "HairLineModel" (44 : Nat) "HairLineModel" "signs" "[I" ∈ gw := gm (tm3 (List.mem_of_getElem? (i := 125) rfl)) rfl
theorem wg_606 : Jvm.Cond.fieldLink "HairLineModel" (198 : Nat) "HairLineModel" "signMany" "I" ∈ gw := gm (tm3 (List.mem_of_getElem? (i := 126) rfl)) rfl
theorem wg_607 : Jvm.Cond.fieldLink "HairLineModel" (47 : Nat) "HairLineModel" "factOf" "[I" ∈ gw := gm (tm3 (List.mem_of_getElem? (i := 127) rfl)) rfl
theorem wg_608 : Jvm.Cond.fieldLink "HairLineModel" (50 : Nat) "HairLineModel" "howOf" "[I" ∈ gw := gm (tm3 (List.mem_of_getElem? (i := 128) rfl)) rfl
theorem wg_609 : Jvm.Cond.fieldLink "HairLineModel" (53 : Nat) "HairLineModel" "numberIs" "[I" ∈ gw := gm (tm3 (List.mem_of_getElem? (i := 129) rfl)) rfl
theorem wg_610 : Jvm.Cond.fieldLink "HairLineModel" (217 : Nat) "HairLineModel" "lines" "I" ∈ gw := gm (tm3 (List.mem_of_getElem? (i := 130) rfl)) rfl
theorem wg_611 : Jvm.Cond.fieldLink "HairLineModel" (56 : Nat) "HairLineModel" "slitSide" "[I" ∈ gw := gm (tm3 (List.mem_of_getElem? (i := 131) rfl)) rfl
theorem wg_612 : Jvm.Cond.fieldLink "HairLineModel" (59 : Nat) "HairLineModel" "slitRows" "[I" ∈ gw := gm (tm3 (List.mem_of_getElem? (i := 132) rfl)) rfl
theorem wg_613 : Jvm.Cond.fieldLink "HairLineModel" (229 : Nat) "HairLineModel" "slits" "I" ∈ gw := gm (tm3 (List.mem_of_getElem? (i := 133) rfl)) rfl
theorem wg_614 : Jvm.Cond.laysFinal "HairLineModel" "HairLineModel" "begins" "[I" ∈ gw := gm (tm3 (List.mem_of_getElem? (i := 134) rfl)) rfl
theorem wg_616 : Jvm.Cond.laysFinal "HairLineModel" "HairLineModel" "speedOf" "[I" ∈ gw := gm (tm3 (List.mem_of_getElem? (i := 136) rfl)) rfl
theorem wg_618 : Jvm.Cond.laysFinal "HairLineModel" "HairLineModel" "isShape" "[Z" ∈ gw := gm (tm3 (List.mem_of_getElem? (i := 138) rfl)) rfl
theorem wg_620 : Jvm.Cond.laysFinal "HairLineModel" "HairLineModel" "shapeFrom" "[I" ∈ gw := gm (tm3 (List.mem_of_getElem? (i := 140) rfl)) rfl
theorem wg_622 : Jvm.Cond.laysFinal "HairLineModel" "HairLineModel" "shapeTo" "[I" ∈ gw := gm (tm3 (List.mem_of_getElem? (i := 142) rfl)) rfl
theorem wg_624 : Jvm.Cond.laysFinal "HairLineModel" "HairLineModel" "pushes" "[I" ∈ gw := gm (tm3 (List.mem_of_getElem? (i := 144) rfl)) rfl
theorem wg_626 : Jvm.Cond.lays "HairLineModel" "HairLineModel" "runners" "I" ∈ gw := gm (tm3 (List.mem_of_getElem? (i := 146) rfl)) rfl
theorem wg_628 : Jvm.Cond.lays "HairLineModel" "HairLineModel" "leanIs" "I" ∈ gw := gm (tm3 (List.mem_of_getElem? (i := 148) rfl)) rfl
theorem wg_630 : Jvm.Cond.lays "HairLineModel" "HairLineModel" "readIs" "I" ∈ gw := gm (tm3 (List.mem_of_getElem? (i := 150) rfl)) rfl
theorem wg_632 : Jvm.Cond.lays "HairLineModel" "HairLineModel" "earIs" "I" ∈ gw := gm (tm3 (List.mem_of_getElem? (i := 152) rfl)) rfl
theorem wg_634 : Jvm.Cond.lays "HairLineModel" "HairLineModel" "gunIs" "I" ∈ gw := gm (tm3 (List.mem_of_getElem? (i := 154) rfl)) rfl
theorem wg_636 : Jvm.Cond.laysFinal "HairLineModel" "HairLineModel" "firstAt" "[I" ∈ gw := gm (tm3 (List.mem_of_getElem? (i := 156) rfl)) rfl
theorem wg_638 : Jvm.Cond.laysFinal "HairLineModel" "HairLineModel" "ordered" "[I" ∈ gw := gm (tm3 (List.mem_of_getElem? (i := 158) rfl)) rfl
theorem wg_640 : Jvm.Cond.lays "HairLineModel" "HairLineModel" "orderMany" "I" ∈ gw := gm (tm3 (List.mem_of_getElem? (i := 160) rfl)) rfl
theorem wg_642 : Jvm.Cond.laysFinal "HairLineModel" "HairLineModel" "lateFrom" "[I" ∈ gw := gm (tm3 (List.mem_of_getElem? (i := 162) rfl)) rfl
theorem wg_644 : Jvm.Cond.laysFinal "HairLineModel" "HairLineModel" "lateTo" "[I" ∈ gw := gm (tm3 (List.mem_of_getElem? (i := 164) rfl)) rfl
theorem wg_646 : Jvm.Cond.laysFinal "HairLineModel" "HairLineModel" "told" "[I" ∈ gw := gm (tm3 (List.mem_of_getElem? (i := 166) rfl)) rfl
theorem wg_648 : Jvm.Cond.lays "HairLineModel" "HairLineModel" "trueFrom" "I" ∈ gw := gm (tm3 (List.mem_of_getElem? (i := 168) rfl)) rfl
theorem wg_650 : Jvm.Cond.lays "HairLineModel" "HairLineModel" "trueTo" "I" ∈ gw := gm (tm3 (List.mem_of_getElem? (i := 170) rfl)) rfl
theorem wg_652 : Jvm.Cond.laysFinal "HairLineModel" "HairLineModel" "signs" "[I" ∈ gw := gm (tm3 (List.mem_of_getElem? (i := 172) rfl)) rfl
theorem wg_654 : Jvm.Cond.lays "HairLineModel" "HairLineModel" "signMany" "I" ∈ gw := gm (tm3 (List.mem_of_getElem? (i := 174) rfl)) rfl
theorem wg_656 : Jvm.Cond.laysFinal "HairLineModel" "HairLineModel" "factOf" "[I" ∈ gw := gm (tm3 (List.mem_of_getElem? (i := 176) rfl)) rfl
theorem wg_658 : Jvm.Cond.laysFinal "HairLineModel" "HairLineModel" "howOf" "[I" ∈ gw := gm (tm3 (List.mem_of_getElem? (i := 178) rfl)) rfl
theorem wg_660 : Jvm.Cond.laysFinal "HairLineModel" "HairLineModel" "numberIs" "[I" ∈ gw := gm (tm3 (List.mem_of_getElem? (i := 180) rfl)) rfl
theorem wg_662 : Jvm.Cond.lays "HairLineModel" "HairLineModel" "lines" "I" ∈ gw := gm (tm3 (List.mem_of_getElem? (i := 182) rfl)) rfl
theorem wg_664 : Jvm.Cond.laysFinal "HairLineModel" "HairLineModel" "slitSide" "[I" ∈ gw := gm (tm3 (List.mem_of_getElem? (i := 184) rfl)) rfl
theorem wg_666 : Jvm.Cond.laysFinal "HairLineModel" "HairLineModel" "slitRows" "[I" ∈ gw := gm (tm3 (List.mem_of_getElem? (i := 186) rfl)) rfl
theorem wg_668 : Jvm.Cond.lays "HairLineModel" "HairLineModel" "slits" "I" ∈ gw := gm (tm3 (List.mem_of_getElem? (i := 188) rfl)) rfl
theorem wg_671 : Jvm.Cond.arrayClass Jvm.ClassFile.FieldType.boolean ∈ gw := gm (tm3 (List.mem_of_getElem? (i := 191) rfl)) rfl
theorem wg_672 : Jvm.Cond.methodLink "HairLineLaw" (17 : Nat) ({ cls := "HairLineModel", name := "runner", desc := "(II)I" } : Jvm.MethodName) ∈ gw := gm (tm3 (List.mem_of_getElem? (i := 192) rfl)) rfl
theorem wg_673 : Jvm.Cond.instanceMethod ({ cls := "HairLineModel", name := "runner", desc := "(II)I" } : Jvm.MethodName) ∈ gw := gm (tm3 (List.mem_of_getElem? (i := 193) rfl)) rfl
theorem wg_674 : Jvm.Cond.selects "HairLineModel" ({ cls := "HairLineModel", name := "runner", desc := "(II)I" } : Jvm.MethodName) ({ cls := "HairLineModel", name := "runner", desc := "(II)I" } : Jvm.MethodName) ∈ gw := gm (tm3 (List.mem_of_getElem? (i := 194) rfl)) rfl
theorem wg_675 : Jvm.Cond.code ({ cls := "HairLineModel", name := "runner", desc := "(II)I" } : Jvm.MethodName) prog_11_method_8_code (3 : Nat) (Option.some Jvm.ClassFile.FieldType.int) ∈ gw := gm (tm3 (List.mem_of_getElem? (i := 195) rfl)) rfl
theorem wg_676 : Jvm.Cond.constantLong "HairLineModel" (75 : Nat) (-3000 : Int64) ∈ gw := gm (tm3 (List.mem_of_getElem? (i := 196) rfl)) rfl
theorem wg_677 : Jvm.Cond.methodLink "HairLineModel" (69 : Nat) ({ cls := "HairLineModel", name := "in", desc := "(JJJ)Z" } : Jvm.MethodName) ∈ gw := gm (tm3 (List.mem_of_getElem? (i := 197) rfl)) rfl
theorem wg_678 : Jvm.Cond.static ({ cls := "HairLineModel", name := "in", desc := "(JJJ)Z" } : Jvm.MethodName) ∈ gw := gm (tm3 (List.mem_of_getElem? (i := 198) rfl)) rfl
theorem wg_679 : Jvm.Cond.code ({ cls := "HairLineModel", name := "in", desc := "(JJJ)Z" } : Jvm.MethodName) prog_11_method_3_code (6 : Nat) (Option.some Jvm.ClassFile.FieldType.boolean) ∈ gw := gm (tm3 (List.mem_of_getElem? (i := 199) rfl)) rfl
theorem wg_680 : Jvm.Cond.constantLong "HairLineModel" (77 : Nat) (20 : Int64) ∈ gw := gm (tm3 (List.mem_of_getElem? (i := 200) rfl)) rfl
theorem wg_681 : Jvm.Cond.methodLink "HairLineLaw" (22 : Nat) ({ cls := "HairLineModel", name := "shape", desc := "(IIIII)I" } : Jvm.MethodName) ∈ gw := gm (tm3 (List.mem_of_getElem? (i := 201) rfl)) rfl
theorem wg_682 : Jvm.Cond.instanceMethod ({ cls := "HairLineModel", name := "shape", desc := "(IIIII)I" } : Jvm.MethodName) ∈ gw := gm (tm3 (List.mem_of_getElem? (i := 202) rfl)) rfl
theorem wg_683 : Jvm.Cond.selects "HairLineModel" ({ cls := "HairLineModel", name := "shape", desc := "(IIIII)I" } : Jvm.MethodName) ({ cls := "HairLineModel", name := "shape", desc := "(IIIII)I" } : Jvm.MethodName) ∈ gw := gm (tm3 (List.mem_of_getElem? (i := 203) rfl)) rfl
theorem wg_684 : Jvm.Cond.code ({ cls := "HairLineModel", name := "shape", desc := "(IIIII)I" } : Jvm.MethodName) prog_11_method_9_code (7 : Nat) (Option.some Jvm.ClassFile.FieldType.int) ∈ gw := gm (tm3 (List.mem_of_getElem? (i := 204) rfl)) rfl
theorem wg_685 : Jvm.Cond.methodLink "HairLineModel" (79 : Nat) ({ cls := "HairLineModel", name := "isRunner", desc := "(I)Z" } : Jvm.MethodName) ∈ gw := gm (tm3 (List.mem_of_getElem? (i := 205) rfl)) rfl
theorem wg_687 : Jvm.Cond.instanceMethod ({ cls := "HairLineModel", name := "isRunner", desc := "(I)Z" } : Jvm.MethodName) ∈ gw := gm (tm3 (List.mem_of_getElem? (i := 207) rfl)) rfl
theorem wg_688 : Jvm.Cond.code ({ cls := "HairLineModel", name := "isRunner", desc := "(I)Z" } : Jvm.MethodName) prog_11_method_5_code (2 : Nat) (Option.some Jvm.ClassFile.FieldType.boolean) ∈ gw := gm (tm3 (List.mem_of_getElem? (i := 208) rfl)) rfl
theorem wg_689 : Jvm.Cond.methodLink "HairLineModel" (83 : Nat) ({ cls := "HairLineModel", name := "isRow", desc := "(I)Z" } : Jvm.MethodName) ∈ gw := gm (tm3 (List.mem_of_getElem? (i := 209) rfl)) rfl
theorem wg_690 : Jvm.Cond.static ({ cls := "HairLineModel", name := "isRow", desc := "(I)Z" } : Jvm.MethodName) ∈ gw := gm (tm3 (List.mem_of_getElem? (i := 210) rfl)) rfl
theorem wg_691 : Jvm.Cond.code ({ cls := "HairLineModel", name := "isRow", desc := "(I)Z" } : Jvm.MethodName) prog_11_method_6_code (1 : Nat) (Option.some Jvm.ClassFile.FieldType.boolean) ∈ gw := gm (tm3 (List.mem_of_getElem? (i := 211) rfl)) rfl
theorem wg_692 : Jvm.Cond.constantLong "HairLineModel" (73 : Nat) (5 : Int64) ∈ gw := gm (tm3 (List.mem_of_getElem? (i := 212) rfl)) rfl
theorem wg_693 : Jvm.Cond.constantLong "HairLineModel" (86 : Nat) (-9 : Int64) ∈ gw := gm (tm3 (List.mem_of_getElem? (i := 213) rfl)) rfl
theorem wg_694 : Jvm.Cond.constantLong "HairLineModel" (88 : Nat) (9 : Int64) ∈ gw := gm (tm3 (List.mem_of_getElem? (i := 214) rfl)) rfl
theorem wg_695 : Jvm.Cond.methodLink "HairLineModel" (90 : Nat) ({ cls := "HairLineModel", name := "shapeAt", desc := "(III)I" } : Jvm.MethodName) ∈ gw := gm (tm3 (List.mem_of_getElem? (i := 215) rfl)) rfl
theorem wg_696 : Jvm.Cond.static ({ cls := "HairLineModel", name := "shapeAt", desc := "(III)I" } : Jvm.MethodName) ∈ gw := gm (tm3 (List.mem_of_getElem? (i := 216) rfl)) rfl
theorem wg_697 : Jvm.Cond.code ({ cls := "HairLineModel", name := "shapeAt", desc := "(III)I" } : Jvm.MethodName) prog_11_method_7_code (3 : Nat) (Option.some Jvm.ClassFile.FieldType.int) ∈ gw := gm (tm3 (List.mem_of_getElem? (i := 217) rfl)) rfl
theorem wg_698 : Jvm.Cond.methodLink "HairLineLaw" (26 : Nat) ({ cls := "HairLineModel", name := "set", desc := "(II)I" } : Jvm.MethodName) ∈ gw := gm (tm3 (List.mem_of_getElem? (i := 218) rfl)) rfl
theorem wg_699 : Jvm.Cond.instanceMethod ({ cls := "HairLineModel", name := "set", desc := "(II)I" } : Jvm.MethodName) ∈ gw := gm (tm3 (List.mem_of_getElem? (i := 219) rfl)) rfl
theorem wg_700 : Jvm.Cond.selects "HairLineModel" ({ cls := "HairLineModel", name := "set", desc := "(II)I" } : Jvm.MethodName) ({ cls := "HairLineModel", name := "set", desc := "(II)I" } : Jvm.MethodName) ∈ gw := gm (tm3 (List.mem_of_getElem? (i := 220) rfl)) rfl
theorem wg_701 : Jvm.Cond.code ({ cls := "HairLineModel", name := "set", desc := "(II)I" } : Jvm.MethodName) prog_11_method_11_code (4 : Nat) (Option.some Jvm.ClassFile.FieldType.int) ∈ gw := gm (tm3 (List.mem_of_getElem? (i := 221) rfl)) rfl
theorem wg_702 : Jvm.Cond.constantLong "HairLineModel" (103 : Nat) (3 : Int64) ∈ gw := gm (tm3 (List.mem_of_getElem? (i := 222) rfl)) rfl
theorem wg_703 : Jvm.Cond.constantLong "HairLineModel" (105 : Nat) (-3 : Int64) ∈ gw := gm (tm3 (List.mem_of_getElem? (i := 223) rfl)) rfl
theorem wg_704 : Jvm.Cond.constantLong "HairLineModel" (107 : Nat) (200 : Int64) ∈ gw := gm (tm3 (List.mem_of_getElem? (i := 224) rfl)) rfl
theorem wg_705 : Jvm.Cond.methodLink "HairLineModel" (109 : Nat) ({ cls := "HairLineModel", name := "numberOf", desc := "(I)I" } : Jvm.MethodName) ∈ gw := gm (tm3 (List.mem_of_getElem? (i := 225) rfl)) rfl
theorem wg_707 : Jvm.Cond.instanceMethod ({ cls := "HairLineModel", name := "numberOf", desc := "(I)I" } : Jvm.MethodName) ∈ gw := gm (tm3 (List.mem_of_getElem? (i := 227) rfl)) rfl
theorem wg_708 : Jvm.Cond.code ({ cls := "HairLineModel", name := "numberOf", desc := "(I)I" } : Jvm.MethodName) prog_11_method_10_code (2 : Nat) (Option.some Jvm.ClassFile.FieldType.int) ∈ gw := gm (tm3 (List.mem_of_getElem? (i := 228) rfl)) rfl
theorem wg_709 : Jvm.Cond.methodLink "HairLineLaw" (31 : Nat) ({ cls := "HairLineModel", name := "shows", desc := "(III)I" } : Jvm.MethodName) ∈ gw := gm (tm3 (List.mem_of_getElem? (i := 229) rfl)) rfl
theorem wg_710 : Jvm.Cond.instanceMethod ({ cls := "HairLineModel", name := "shows", desc := "(III)I" } : Jvm.MethodName) ∈ gw := gm (tm3 (List.mem_of_getElem? (i := 230) rfl)) rfl
theorem wg_711 : Jvm.Cond.selects "HairLineModel" ({ cls := "HairLineModel", name := "shows", desc := "(III)I" } : Jvm.MethodName) ({ cls := "HairLineModel", name := "shows", desc := "(III)I" } : Jvm.MethodName) ∈ gw := gm (tm3 (List.mem_of_getElem? (i := 231) rfl)) rfl
theorem wg_712 : Jvm.Cond.code ({ cls := "HairLineModel", name := "shows", desc := "(III)I" } : Jvm.MethodName) prog_11_method_14_code (4 : Nat) (Option.some Jvm.ClassFile.FieldType.int) ∈ gw := gm (tm3 (List.mem_of_getElem? (i := 232) rfl)) rfl
theorem wg_713 : Jvm.Cond.constantLong "HairLineModel" (117 : Nat) (299 : Int64) ∈ gw := gm (tm3 (List.mem_of_getElem? (i := 233) rfl)) rfl
theorem wg_714 : Jvm.Cond.methodLink "HairLineModel" (119 : Nat) ({ cls := "HairLineModel", name := "shown", desc := "(III)I" } : Jvm.MethodName) ∈ gw := gm (tm3 (List.mem_of_getElem? (i := 234) rfl)) rfl
theorem wg_716 : Jvm.Cond.instanceMethod ({ cls := "HairLineModel", name := "shown", desc := "(III)I" } : Jvm.MethodName) ∈ gw := gm (tm3 (List.mem_of_getElem? (i := 236) rfl)) rfl
theorem wg_717 : Jvm.Cond.code ({ cls := "HairLineModel", name := "shown", desc := "(III)I" } : Jvm.MethodName) prog_11_method_13_code (6 : Nat) (Option.some Jvm.ClassFile.FieldType.int) ∈ gw := gm (tm3 (List.mem_of_getElem? (i := 237) rfl)) rfl
theorem wg_718 : Jvm.Cond.methodLink "HairLineModel" (113 : Nat) ({ cls := "HairLineModel", name := "covers", desc := "(IIII)Z" } : Jvm.MethodName) ∈ gw := gm (tm3 (List.mem_of_getElem? (i := 238) rfl)) rfl
theorem wg_720 : Jvm.Cond.instanceMethod ({ cls := "HairLineModel", name := "covers", desc := "(IIII)Z" } : Jvm.MethodName) ∈ gw := gm (tm4 (List.mem_of_getElem? (i := 0) rfl)) rfl
theorem wg_721 : Jvm.Cond.code ({ cls := "HairLineModel", name := "covers", desc := "(IIII)Z" } : Jvm.MethodName) prog_11_method_12_code (7 : Nat) (Option.some Jvm.ClassFile.FieldType.boolean) ∈ gw := gm (tm4 (List.mem_of_getElem? (i := 1) rfl)) rfl
theorem wg_722 : Jvm.Cond.methodLink "HairLineLaw" (35 : Nat) ({ cls := "HairLineModel", name := "of", desc := "(II)I" } : Jvm.MethodName) ∈ gw := gm (tm4 (List.mem_of_getElem? (i := 2) rfl)) rfl
theorem wg_723 : Jvm.Cond.instanceMethod ({ cls := "HairLineModel", name := "of", desc := "(II)I" } : Jvm.MethodName) ∈ gw := gm (tm4 (List.mem_of_getElem? (i := 3) rfl)) rfl
theorem wg_724 : Jvm.Cond.selects "HairLineModel" ({ cls := "HairLineModel", name := "of", desc := "(II)I" } : Jvm.MethodName) ({ cls := "HairLineModel", name := "of", desc := "(II)I" } : Jvm.MethodName) ∈ gw := gm (tm4 (List.mem_of_getElem? (i := 4) rfl)) rfl
theorem wg_725 : Jvm.Cond.code ({ cls := "HairLineModel", name := "of", desc := "(II)I" } : Jvm.MethodName) prog_11_method_23_code (3 : Nat) (Option.some Jvm.ClassFile.FieldType.int) ∈ gw := gm (tm4 (List.mem_of_getElem? (i := 5) rfl)) rfl
theorem wg_726 : Jvm.Cond.methodLink "HairLineModel" (138 : Nat) ({ cls := "HairLineModel", name := "findFirst", desc := "()V" } : Jvm.MethodName) ∈ gw := gm (tm4 (List.mem_of_getElem? (i := 6) rfl)) rfl
theorem wg_728 : Jvm.Cond.instanceMethod ({ cls := "HairLineModel", name := "findFirst", desc := "()V" } : Jvm.MethodName) ∈ gw := gm (tm4 (List.mem_of_getElem? (i := 8) rfl)) rfl
theorem wg_729 : Jvm.Cond.code ({ cls := "HairLineModel", name := "findFirst", desc := "()V" } : Jvm.MethodName) prog_11_method_15_code (5 : Nat) (Option.none : Option Jvm.ClassFile.FieldType) ∈ gw := gm (tm4 (List.mem_of_getElem? (i := 9) rfl)) rfl
theorem wg_730 : Jvm.Cond.methodLink "HairLineModel" (126 : Nat) ({ cls := "HairLineModel", name := "firstOf", desc := "(III)I" } : Jvm.MethodName) ∈ gw := gm (tm4 (List.mem_of_getElem? (i := 10) rfl)) rfl
theorem wg_732 : Jvm.Cond.instanceMethod ({ cls := "HairLineModel", name := "firstOf", desc := "(III)I" } : Jvm.MethodName) ∈ gw := gm (tm4 (List.mem_of_getElem? (i := 12) rfl)) rfl
theorem wg_733 : Jvm.Cond.code ({ cls := "HairLineModel", name := "firstOf", desc := "(III)I" } : Jvm.MethodName) prog_11_method_17_code (6 : Nat) (Option.some Jvm.ClassFile.FieldType.int) ∈ gw := gm (tm4 (List.mem_of_getElem? (i := 13) rfl)) rfl
theorem wg_734 : Jvm.Cond.methodLink "HairLineModel" (122 : Nat) ({ cls := "HairLineModel", name := "sooner", desc := "(II)I" } : Jvm.MethodName) ∈ gw := gm (tm4 (List.mem_of_getElem? (i := 14) rfl)) rfl
theorem wg_735 : Jvm.Cond.static ({ cls := "HairLineModel", name := "sooner", desc := "(II)I" } : Jvm.MethodName) ∈ gw := gm (tm4 (List.mem_of_getElem? (i := 15) rfl)) rfl
theorem wg_736 : Jvm.Cond.code ({ cls := "HairLineModel", name := "sooner", desc := "(II)I" } : Jvm.MethodName) prog_11_method_16_code (2 : Nat) (Option.some Jvm.ClassFile.FieldType.int) ∈ gw := gm (tm4 (List.mem_of_getElem? (i := 16) rfl)) rfl
theorem wg_737 : Jvm.Cond.methodLink "HairLineModel" (132 : Nat) ({ cls := "HairLineModel", name := "joinedOf", desc := "(I)I" } : Jvm.MethodName) ∈ gw := gm (tm4 (List.mem_of_getElem? (i := 17) rfl)) rfl
theorem wg_739 : Jvm.Cond.instanceMethod ({ cls := "HairLineModel", name := "joinedOf", desc := "(I)I" } : Jvm.MethodName) ∈ gw := gm (tm4 (List.mem_of_getElem? (i := 19) rfl)) rfl
theorem wg_740 : Jvm.Cond.code ({ cls := "HairLineModel", name := "joinedOf", desc := "(I)I" } : Jvm.MethodName) prog_11_method_18_code (2 : Nat) (Option.some Jvm.ClassFile.FieldType.int) ∈ gw := gm (tm4 (List.mem_of_getElem? (i := 20) rfl)) rfl
theorem wg_741 : Jvm.Cond.methodLink "HairLineModel" (129 : Nat) ({ cls := "HairLineModel", name := "crossed", desc := "(II)I" } : Jvm.MethodName) ∈ gw := gm (tm4 (List.mem_of_getElem? (i := 21) rfl)) rfl
theorem wg_743 : Jvm.Cond.instanceMethod ({ cls := "HairLineModel", name := "crossed", desc := "(II)I" } : Jvm.MethodName) ∈ gw := gm (tm4 (List.mem_of_getElem? (i := 23) rfl)) rfl
theorem wg_744 : Jvm.Cond.code ({ cls := "HairLineModel", name := "crossed", desc := "(II)I" } : Jvm.MethodName) prog_11_method_19_code (7 : Nat) (Option.some Jvm.ClassFile.FieldType.int) ∈ gw := gm (tm4 (List.mem_of_getElem? (i := 24) rfl)) rfl
theorem wg_745 : Jvm.Cond.methodLink "HairLineModel" (141 : Nat) ({ cls := "HairLineModel", name := "isHidden", desc := "(I)Z" } : Jvm.MethodName) ∈ gw := gm (tm4 (List.mem_of_getElem? (i := 25) rfl)) rfl
theorem wg_747 : Jvm.Cond.instanceMethod ({ cls := "HairLineModel", name := "isHidden", desc := "(I)Z" } : Jvm.MethodName) ∈ gw := gm (tm4 (List.mem_of_getElem? (i := 27) rfl)) rfl
theorem wg_748 : Jvm.Cond.code ({ cls := "HairLineModel", name := "isHidden", desc := "(I)Z" } : Jvm.MethodName) prog_11_method_21_code (3 : Nat) (Option.some Jvm.ClassFile.FieldType.boolean) ∈ gw := gm (tm4 (List.mem_of_getElem? (i := 28) rfl)) rfl
theorem wg_749 : Jvm.Cond.methodLink "HairLineModel" (135 : Nat) ({ cls := "HairLineModel", name := "hasTorso", desc := "(I)Z" } : Jvm.MethodName) ∈ gw := gm (tm4 (List.mem_of_getElem? (i := 29) rfl)) rfl
theorem wg_751 : Jvm.Cond.instanceMethod ({ cls := "HairLineModel", name := "hasTorso", desc := "(I)Z" } : Jvm.MethodName) ∈ gw := gm (tm4 (List.mem_of_getElem? (i := 31) rfl)) rfl
theorem wg_752 : Jvm.Cond.code ({ cls := "HairLineModel", name := "hasTorso", desc := "(I)Z" } : Jvm.MethodName) prog_11_method_20_code (2 : Nat) (Option.some Jvm.ClassFile.FieldType.boolean) ∈ gw := gm (tm4 (List.mem_of_getElem? (i := 32) rfl)) rfl
theorem wg_753 : Jvm.Cond.methodLink "HairLineModel" (144 : Nat) ({ cls := "HairLineModel", name := "hearsOf", desc := "(I)I" } : Jvm.MethodName) ∈ gw := gm (tm4 (List.mem_of_getElem? (i := 33) rfl)) rfl
theorem wg_755 : Jvm.Cond.instanceMethod ({ cls := "HairLineModel", name := "hearsOf", desc := "(I)I" } : Jvm.MethodName) ∈ gw := gm (tm4 (List.mem_of_getElem? (i := 35) rfl)) rfl
theorem wg_756 : Jvm.Cond.code ({ cls := "HairLineModel", name := "hearsOf", desc := "(I)I" } : Jvm.MethodName) prog_11_method_22_code (3 : Nat) (Option.some Jvm.ClassFile.FieldType.int) ∈ gw := gm (tm4 (List.mem_of_getElem? (i := 36) rfl)) rfl
theorem wg_757 : Jvm.Cond.methodLink "HairLineLaw" (40 : Nat) ({ cls := "HairLineModel", name := "moved", desc := "(I)I" } : Jvm.MethodName) ∈ gw := gm (tm4 (List.mem_of_getElem? (i := 37) rfl)) rfl
theorem wg_758 : Jvm.Cond.instanceMethod ({ cls := "HairLineModel", name := "moved", desc := "(I)I" } : Jvm.MethodName) ∈ gw := gm (tm4 (List.mem_of_getElem? (i := 38) rfl)) rfl
theorem wg_759 : Jvm.Cond.selects "HairLineModel" ({ cls := "HairLineModel", name := "moved", desc := "(I)I" } : Jvm.MethodName) ({ cls := "HairLineModel", name := "moved", desc := "(I)I" } : Jvm.MethodName) ∈ gw := gm (tm4 (List.mem_of_getElem? (i := 39) rfl)) rfl
theorem wg_760 : Jvm.Cond.code ({ cls := "HairLineModel", name := "moved", desc := "(I)I" } : Jvm.MethodName) prog_11_method_25_code (8 : Nat) (Option.some Jvm.ClassFile.FieldType.int) ∈ gw := gm (tm4 (List.mem_of_getElem? (i := 40) rfl)) rfl
theorem wg_761 : Jvm.Cond.methodLink "HairLineModel" (147 : Nat) ({ cls := "HairLineModel", name := "sign", desc := "(I)I" } : Jvm.MethodName) ∈ gw := gm (tm4 (List.mem_of_getElem? (i := 41) rfl)) rfl
theorem wg_762 : Jvm.Cond.static ({ cls := "HairLineModel", name := "sign", desc := "(I)I" } : Jvm.MethodName) ∈ gw := gm (tm4 (List.mem_of_getElem? (i := 42) rfl)) rfl
theorem wg_763 : Jvm.Cond.code ({ cls := "HairLineModel", name := "sign", desc := "(I)I" } : Jvm.MethodName) prog_11_method_24_code (1 : Nat) (Option.some Jvm.ClassFile.FieldType.int) ∈ gw := gm (tm4 (List.mem_of_getElem? (i := 43) rfl)) rfl
theorem wg_764 : Jvm.Cond.methodLink "HairLineLaw" (44 : Nat) ({ cls := "HairLineModel", name := "order", desc := "(I)I" } : Jvm.MethodName) ∈ gw := gm (tm4 (List.mem_of_getElem? (i := 44) rfl)) rfl
theorem wg_765 : Jvm.Cond.instanceMethod ({ cls := "HairLineModel", name := "order", desc := "(I)I" } : Jvm.MethodName) ∈ gw := gm (tm4 (List.mem_of_getElem? (i := 45) rfl)) rfl
theorem wg_766 : Jvm.Cond.selects "HairLineModel" ({ cls := "HairLineModel", name := "order", desc := "(I)I" } : Jvm.MethodName) ({ cls := "HairLineModel", name := "order", desc := "(I)I" } : Jvm.MethodName) ∈ gw := gm (tm4 (List.mem_of_getElem? (i := 46) rfl)) rfl
theorem wg_767 : Jvm.Cond.code ({ cls := "HairLineModel", name := "order", desc := "(I)I" } : Jvm.MethodName) prog_11_method_28_code (2 : Nat) (Option.some Jvm.ClassFile.FieldType.int) ∈ gw := gm (tm4 (List.mem_of_getElem? (i := 47) rfl)) rfl
theorem wg_768 : Jvm.Cond.methodLink "HairLineModel" (157 : Nat) ({ cls := "HairLineModel", name := "findOrder", desc := "(Z)V" } : Jvm.MethodName) ∈ gw := gm (tm4 (List.mem_of_getElem? (i := 48) rfl)) rfl
theorem wg_770 : Jvm.Cond.instanceMethod ({ cls := "HairLineModel", name := "findOrder", desc := "(Z)V" } : Jvm.MethodName) ∈ gw := gm (tm4 (List.mem_of_getElem? (i := 50) rfl)) rfl
theorem wg_771 : Jvm.Cond.code ({ cls := "HairLineModel", name := "findOrder", desc := "(Z)V" } : Jvm.MethodName) prog_11_method_26_code (4 : Nat) (Option.none : Option Jvm.ClassFile.FieldType) ∈ gw := gm (tm4 (List.mem_of_getElem? (i := 51) rfl)) rfl
theorem wg_772 : Jvm.Cond.methodLink "HairLineModel" (153 : Nat) ({ cls := "HairLineModel", name := "timeOf", desc := "(IZ)I" } : Jvm.MethodName) ∈ gw := gm (tm4 (List.mem_of_getElem? (i := 52) rfl)) rfl
theorem wg_774 : Jvm.Cond.instanceMethod ({ cls := "HairLineModel", name := "timeOf", desc := "(IZ)I" } : Jvm.MethodName) ∈ gw := gm (tm4 (List.mem_of_getElem? (i := 54) rfl)) rfl
theorem wg_775 : Jvm.Cond.code ({ cls := "HairLineModel", name := "timeOf", desc := "(IZ)I" } : Jvm.MethodName) prog_11_method_27_code (3 : Nat) (Option.some Jvm.ClassFile.FieldType.int) ∈ gw := gm (tm4 (List.mem_of_getElem? (i := 55) rfl)) rfl
theorem wg_776 : Jvm.Cond.methodLink "HairLineLaw" (48 : Nat) ({ cls := "HairLineModel", name := "place", desc := "(II)I" } : Jvm.MethodName) ∈ gw := gm (tm4 (List.mem_of_getElem? (i := 56) rfl)) rfl
theorem wg_777 : Jvm.Cond.instanceMethod ({ cls := "HairLineModel", name := "place", desc := "(II)I" } : Jvm.MethodName) ∈ gw := gm (tm4 (List.mem_of_getElem? (i := 57) rfl)) rfl
theorem wg_778 : Jvm.Cond.selects "HairLineModel" ({ cls := "HairLineModel", name := "place", desc := "(II)I" } : Jvm.MethodName) ({ cls := "HairLineModel", name := "place", desc := "(II)I" } : Jvm.MethodName) ∈ gw := gm (tm4 (List.mem_of_getElem? (i := 58) rfl)) rfl
theorem wg_779 : Jvm.Cond.code ({ cls := "HairLineModel", name := "place", desc := "(II)I" } : Jvm.MethodName) prog_11_method_29_code (6 : Nat) (Option.some Jvm.ClassFile.FieldType.int) ∈ gw := gm (tm4 (List.mem_of_getElem? (i := 59) rfl)) rfl
theorem wg_780 : Jvm.Cond.methodLink "HairLineLaw" (52 : Nat) ({ cls := "HairLineModel", name := "stretch", desc := "(II)I" } : Jvm.MethodName) ∈ gw := gm (tm4 (List.mem_of_getElem? (i := 60) rfl)) rfl
theorem wg_781 : Jvm.Cond.instanceMethod ({ cls := "HairLineModel", name := "stretch", desc := "(II)I" } : Jvm.MethodName) ∈ gw := gm (tm4 (List.mem_of_getElem? (i := 61) rfl)) rfl
theorem wg_782 : Jvm.Cond.selects "HairLineModel" ({ cls := "HairLineModel", name := "stretch", desc := "(II)I" } : Jvm.MethodName) ({ cls := "HairLineModel", name := "stretch", desc := "(II)I" } : Jvm.MethodName) ∈ gw := gm (tm4 (List.mem_of_getElem? (i := 62) rfl)) rfl
theorem wg_783 : Jvm.Cond.code ({ cls := "HairLineModel", name := "stretch", desc := "(II)I" } : Jvm.MethodName) prog_11_method_30_code (5 : Nat) (Option.some Jvm.ClassFile.FieldType.int) ∈ gw := gm (tm4 (List.mem_of_getElem? (i := 63) rfl)) rfl
theorem wg_784 : Jvm.Cond.methodLink "HairLineLaw" (56 : Nat) ({ cls := "HairLineModel", name := "speeds", desc := "(III)I" } : Jvm.MethodName) ∈ gw := gm (tm4 (List.mem_of_getElem? (i := 64) rfl)) rfl
theorem wg_785 : Jvm.Cond.instanceMethod ({ cls := "HairLineModel", name := "speeds", desc := "(III)I" } : Jvm.MethodName) ∈ gw := gm (tm4 (List.mem_of_getElem? (i := 65) rfl)) rfl
theorem wg_786 : Jvm.Cond.selects "HairLineModel" ({ cls := "HairLineModel", name := "speeds", desc := "(III)I" } : Jvm.MethodName) ({ cls := "HairLineModel", name := "speeds", desc := "(III)I" } : Jvm.MethodName) ∈ gw := gm (tm4 (List.mem_of_getElem? (i := 66) rfl)) rfl
theorem wg_787 : Jvm.Cond.code ({ cls := "HairLineModel", name := "speeds", desc := "(III)I" } : Jvm.MethodName) prog_11_method_31_code (7 : Nat) (Option.some Jvm.ClassFile.FieldType.int) ∈ gw := gm (tm4 (List.mem_of_getElem? (i := 67) rfl)) rfl
theorem wg_788 : Jvm.Cond.constantLong "HairLineModel" (161 : Nat) (19 : Int64) ∈ gw := gm (tm4 (List.mem_of_getElem? (i := 68) rfl)) rfl
theorem wg_789 : Jvm.Cond.constantLong "HairLineModel" (163 : Nat) (30 : Int64) ∈ gw := gm (tm4 (List.mem_of_getElem? (i := 69) rfl)) rfl
theorem wg_790 : Jvm.Cond.methodLink "HairLineLaw" (60 : Nat) ({ cls := "HairLineModel", name := "push", desc := "(II)I" } : Jvm.MethodName) ∈ gw := gm (tm4 (List.mem_of_getElem? (i := 70) rfl)) rfl
theorem wg_791 : Jvm.Cond.instanceMethod ({ cls := "HairLineModel", name := "push", desc := "(II)I" } : Jvm.MethodName) ∈ gw := gm (tm4 (List.mem_of_getElem? (i := 71) rfl)) rfl
theorem wg_792 : Jvm.Cond.selects "HairLineModel" ({ cls := "HairLineModel", name := "push", desc := "(II)I" } : Jvm.MethodName) ({ cls := "HairLineModel", name := "push", desc := "(II)I" } : Jvm.MethodName) ∈ gw := gm (tm4 (List.mem_of_getElem? (i := 72) rfl)) rfl
theorem wg_793 : Jvm.Cond.code ({ cls := "HairLineModel", name := "push", desc := "(II)I" } : Jvm.MethodName) prog_11_method_32_code (4 : Nat) (Option.some Jvm.ClassFile.FieldType.int) ∈ gw := gm (tm4 (List.mem_of_getElem? (i := 73) rfl)) rfl
theorem wg_794 : Jvm.Cond.constantLong "HairLineModel" (165 : Nat) (-1 : Int64) ∈ gw := gm (tm4 (List.mem_of_getElem? (i := 74) rfl)) rfl
theorem wg_795 : Jvm.Cond.methodLink "HairLineLaw" (64 : Nat) ({ cls := "HairLineModel", name := "mended", desc := "(I)I" } : Jvm.MethodName) ∈ gw := gm (tm4 (List.mem_of_getElem? (i := 75) rfl)) rfl
theorem wg_796 : Jvm.Cond.instanceMethod ({ cls := "HairLineModel", name := "mended", desc := "(I)I" } : Jvm.MethodName) ∈ gw := gm (tm4 (List.mem_of_getElem? (i := 76) rfl)) rfl
theorem wg_797 : Jvm.Cond.selects "HairLineModel" ({ cls := "HairLineModel", name := "mended", desc := "(I)I" } : Jvm.MethodName) ({ cls := "HairLineModel", name := "mended", desc := "(I)I" } : Jvm.MethodName) ∈ gw := gm (tm4 (List.mem_of_getElem? (i := 77) rfl)) rfl
theorem wg_798 : Jvm.Cond.code ({ cls := "HairLineModel", name := "mended", desc := "(I)I" } : Jvm.MethodName) prog_11_method_33_code (2 : Nat) (Option.some Jvm.ClassFile.FieldType.int) ∈ gw := gm (tm4 (List.mem_of_getElem? (i := 78) rfl)) rfl
theorem wg_799 : Jvm.Cond.methodLink "HairLineLaw" (69 : Nat) ({ cls := "HairLineModel", name := "wrong", desc := "(IIII)J" } : Jvm.MethodName) ∈ gw := gm (tm4 (List.mem_of_getElem? (i := 79) rfl)) rfl
theorem wg_800 : Jvm.Cond.instanceMethod ({ cls := "HairLineModel", name := "wrong", desc := "(IIII)J" } : Jvm.MethodName) ∈ gw := gm (tm4 (List.mem_of_getElem? (i := 80) rfl)) rfl
theorem wg_801 : Jvm.Cond.selects "HairLineModel" ({ cls := "HairLineModel", name := "wrong", desc := "(IIII)J" } : Jvm.MethodName) ({ cls := "HairLineModel", name := "wrong", desc := "(IIII)J" } : Jvm.MethodName) ∈ gw := gm (tm4 (List.mem_of_getElem? (i := 81) rfl)) rfl
theorem wg_802 : Jvm.Cond.code ({ cls := "HairLineModel", name := "wrong", desc := "(IIII)J" } : Jvm.MethodName) prog_11_method_35_code (19 : Nat) (Option.some Jvm.ClassFile.FieldType.long) ∈ gw := gm (tm4 (List.mem_of_getElem? (i := 82) rfl)) rfl
theorem wg_803 : Jvm.Cond.constantLong "HairLineModel" (167 : Nat) (6 : Int64) ∈ gw := gm (tm4 (List.mem_of_getElem? (i := 83) rfl)) rfl
theorem wg_804 : Jvm.Cond.constantLong "HairLineModel" (169 : Nat) (-2 : Int64) ∈ gw := gm (tm4 (List.mem_of_getElem? (i := 84) rfl)) rfl
theorem wg_805 : Jvm.Cond.methodLink "HairLineModel" (171 : Nat) ({ cls := "HairLineModel", name := "power", desc := "(JI)J" } : Jvm.MethodName) ∈ gw := gm (tm4 (List.mem_of_getElem? (i := 85) rfl)) rfl
theorem wg_806 : Jvm.Cond.static ({ cls := "HairLineModel", name := "power", desc := "(JI)J" } : Jvm.MethodName) ∈ gw := gm (tm4 (List.mem_of_getElem? (i := 86) rfl)) rfl
theorem wg_807 : Jvm.Cond.code ({ cls := "HairLineModel", name := "power", desc := "(JI)J" } : Jvm.MethodName) prog_11_method_34_code (6 : Nat) (Option.some Jvm.ClassFile.FieldType.long) ∈ gw := gm (tm4 (List.mem_of_getElem? (i := 87) rfl)) rfl
theorem wg_808 : Jvm.Cond.methodLink "HairLineLaw" (73 : Nat) ({ cls := "HairLineModel", name := "known", desc := "(III)I" } : Jvm.MethodName) ∈ gw := gm (tm4 (List.mem_of_getElem? (i := 88) rfl)) rfl
theorem wg_809 : Jvm.Cond.instanceMethod ({ cls := "HairLineModel", name := "known", desc := "(III)I" } : Jvm.MethodName) ∈ gw := gm (tm4 (List.mem_of_getElem? (i := 89) rfl)) rfl
theorem wg_810 : Jvm.Cond.selects "HairLineModel" ({ cls := "HairLineModel", name := "known", desc := "(III)I" } : Jvm.MethodName) ({ cls := "HairLineModel", name := "known", desc := "(III)I" } : Jvm.MethodName) ∈ gw := gm (tm4 (List.mem_of_getElem? (i := 90) rfl)) rfl
theorem wg_811 : Jvm.Cond.code ({ cls := "HairLineModel", name := "known", desc := "(III)I" } : Jvm.MethodName) prog_11_method_38_code (7 : Nat) (Option.some Jvm.ClassFile.FieldType.int) ∈ gw := gm (tm4 (List.mem_of_getElem? (i := 91) rfl)) rfl
theorem wg_812 : Jvm.Cond.methodLink "HairLineModel" (177 : Nat) ({ cls := "HairLineModel", name := "isJudge", desc := "(I)Z" } : Jvm.MethodName) ∈ gw := gm (tm4 (List.mem_of_getElem? (i := 92) rfl)) rfl
theorem wg_813 : Jvm.Cond.static ({ cls := "HairLineModel", name := "isJudge", desc := "(I)Z" } : Jvm.MethodName) ∈ gw := gm (tm4 (List.mem_of_getElem? (i := 93) rfl)) rfl
theorem wg_814 : Jvm.Cond.code ({ cls := "HairLineModel", name := "isJudge", desc := "(I)Z" } : Jvm.MethodName) prog_11_method_36_code (1 : Nat) (Option.some Jvm.ClassFile.FieldType.boolean) ∈ gw := gm (tm4 (List.mem_of_getElem? (i := 94) rfl)) rfl
theorem wg_815 : Jvm.Cond.methodLink "HairLineModel" (180 : Nat) ({ cls := "HairLineModel", name := "isTime", desc := "(I)Z" } : Jvm.MethodName) ∈ gw := gm (tm4 (List.mem_of_getElem? (i := 95) rfl)) rfl
theorem wg_816 : Jvm.Cond.static ({ cls := "HairLineModel", name := "isTime", desc := "(I)Z" } : Jvm.MethodName) ∈ gw := gm (tm4 (List.mem_of_getElem? (i := 96) rfl)) rfl
theorem wg_817 : Jvm.Cond.code ({ cls := "HairLineModel", name := "isTime", desc := "(I)Z" } : Jvm.MethodName) prog_11_method_37_code (1 : Nat) (Option.some Jvm.ClassFile.FieldType.boolean) ∈ gw := gm (tm4 (List.mem_of_getElem? (i := 97) rfl)) rfl
theorem wg_818 : Jvm.Cond.constantLong "HairLineModel" (175 : Nat) (99999 : Int64) ∈ gw := gm (tm4 (List.mem_of_getElem? (i := 98) rfl)) rfl
theorem wg_819 : Jvm.Cond.methodLink "HairLineLaw" (77 : Nat) ({ cls := "HairLineModel", name := "late", desc := "(II)I" } : Jvm.MethodName) ∈ gw := gm (tm4 (List.mem_of_getElem? (i := 99) rfl)) rfl
theorem wg_820 : Jvm.Cond.instanceMethod ({ cls := "HairLineModel", name := "late", desc := "(II)I" } : Jvm.MethodName) ∈ gw := gm (tm4 (List.mem_of_getElem? (i := 100) rfl)) rfl
theorem wg_821 : Jvm.Cond.selects "HairLineModel" ({ cls := "HairLineModel", name := "late", desc := "(II)I" } : Jvm.MethodName) ({ cls := "HairLineModel", name := "late", desc := "(II)I" } : Jvm.MethodName) ∈ gw := gm (tm4 (List.mem_of_getElem? (i := 101) rfl)) rfl
theorem wg_822 : Jvm.Cond.code ({ cls := "HairLineModel", name := "late", desc := "(II)I" } : Jvm.MethodName) prog_11_method_39_code (3 : Nat) (Option.some Jvm.ClassFile.FieldType.int) ∈ gw := gm (tm4 (List.mem_of_getElem? (i := 102) rfl)) rfl
theorem wg_823 : Jvm.Cond.methodLink "HairLineLaw" (81 : Nat) ({ cls := "HairLineModel", name := "tell", desc := "(II)I" } : Jvm.MethodName) ∈ gw := gm (tm4 (List.mem_of_getElem? (i := 103) rfl)) rfl
theorem wg_824 : Jvm.Cond.instanceMethod ({ cls := "HairLineModel", name := "tell", desc := "(II)I" } : Jvm.MethodName) ∈ gw := gm (tm4 (List.mem_of_getElem? (i := 104) rfl)) rfl
theorem wg_825 : Jvm.Cond.selects "HairLineModel" ({ cls := "HairLineModel", name := "tell", desc := "(II)I" } : Jvm.MethodName) ({ cls := "HairLineModel", name := "tell", desc := "(II)I" } : Jvm.MethodName) ∈ gw := gm (tm4 (List.mem_of_getElem? (i := 105) rfl)) rfl
theorem wg_826 : Jvm.Cond.code ({ cls := "HairLineModel", name := "tell", desc := "(II)I" } : Jvm.MethodName) prog_11_method_40_code (4 : Nat) (Option.some Jvm.ClassFile.FieldType.int) ∈ gw := gm (tm4 (List.mem_of_getElem? (i := 106) rfl)) rfl
theorem wg_827 : Jvm.Cond.methodLink "HairLineLaw" (85 : Nat) ({ cls := "HairLineModel", name := "time", desc := "(I)I" } : Jvm.MethodName) ∈ gw := gm (tm4 (List.mem_of_getElem? (i := 107) rfl)) rfl
theorem wg_828 : Jvm.Cond.instanceMethod ({ cls := "HairLineModel", name := "time", desc := "(I)I" } : Jvm.MethodName) ∈ gw := gm (tm4 (List.mem_of_getElem? (i := 108) rfl)) rfl
theorem wg_829 : Jvm.Cond.selects "HairLineModel" ({ cls := "HairLineModel", name := "time", desc := "(I)I" } : Jvm.MethodName) ({ cls := "HairLineModel", name := "time", desc := "(I)I" } : Jvm.MethodName) ∈ gw := gm (tm4 (List.mem_of_getElem? (i := 109) rfl)) rfl
theorem wg_830 : Jvm.Cond.code ({ cls := "HairLineModel", name := "time", desc := "(I)I" } : Jvm.MethodName) prog_11_method_42_code (3 : Nat) (Option.some Jvm.ClassFile.FieldType.int) ∈ gw := gm (tm4 (List.mem_of_getElem? (i := 110) rfl)) rfl
theorem wg_831 : Jvm.Cond.methodLink "HairLineModel" (189 : Nat) ({ cls := "HairLineModel", name := "findTrue", desc := "()I" } : Jvm.MethodName) ∈ gw := gm (tm4 (List.mem_of_getElem? (i := 111) rfl)) rfl
theorem wg_833 : Jvm.Cond.instanceMethod ({ cls := "HairLineModel", name := "findTrue", desc := "()I" } : Jvm.MethodName) ∈ gw := gm (tm4 (List.mem_of_getElem? (i := 113) rfl)) rfl
theorem wg_834 : Jvm.Cond.code ({ cls := "HairLineModel", name := "findTrue", desc := "()I" } : Jvm.MethodName) prog_11_method_41_code (5 : Nat) (Option.some Jvm.ClassFile.FieldType.int) ∈ gw := gm (tm4 (List.mem_of_getElem? (i := 114) rfl)) rfl
theorem wg_835 : Jvm.Cond.constant "HairLineModel" (193 : Nat) (1000000 : Int32) ∈ gw := gm (tm4 (List.mem_of_getElem? (i := 115) rfl)) rfl
theorem wg_836 : Jvm.Cond.methodLink "HairLineLaw" (89 : Nat) ({ cls := "HairLineModel", name := "old", desc := "(I)I" } : Jvm.MethodName) ∈ gw := gm (tm4 (List.mem_of_getElem? (i := 116) rfl)) rfl
theorem wg_837 : Jvm.Cond.instanceMethod ({ cls := "HairLineModel", name := "old", desc := "(I)I" } : Jvm.MethodName) ∈ gw := gm (tm4 (List.mem_of_getElem? (i := 117) rfl)) rfl
theorem wg_838 : Jvm.Cond.selects "HairLineModel" ({ cls := "HairLineModel", name := "old", desc := "(I)I" } : Jvm.MethodName) ({ cls := "HairLineModel", name := "old", desc := "(I)I" } : Jvm.MethodName) ∈ gw := gm (tm4 (List.mem_of_getElem? (i := 118) rfl)) rfl
theorem wg_839 : Jvm.Cond.code ({ cls := "HairLineModel", name := "old", desc := "(I)I" } : Jvm.MethodName) prog_11_method_43_code (3 : Nat) (Option.some Jvm.ClassFile.FieldType.int) ∈ gw := gm (tm4 (List.mem_of_getElem? (i := 119) rfl)) rfl
theorem wg_840 : Jvm.Cond.methodLink "HairLineLaw" (93 : Nat) ({ cls := "HairLineModel", name := "say", desc := "(I)I" } : Jvm.MethodName) ∈ gw := gm (tm4 (List.mem_of_getElem? (i := 120) rfl)) rfl
theorem wg_841 : Jvm.Cond.instanceMethod ({ cls := "HairLineModel", name := "say", desc := "(I)I" } : Jvm.MethodName) ∈ gw := gm (tm4 (List.mem_of_getElem? (i := 121) rfl)) rfl
theorem wg_842 : Jvm.Cond.selects "HairLineModel" ({ cls := "HairLineModel", name := "say", desc := "(I)I" } : Jvm.MethodName) ({ cls := "HairLineModel", name := "say", desc := "(I)I" } : Jvm.MethodName) ∈ gw := gm (tm4 (List.mem_of_getElem? (i := 122) rfl)) rfl
theorem wg_843 : Jvm.Cond.code ({ cls := "HairLineModel", name := "say", desc := "(I)I" } : Jvm.MethodName) prog_11_method_44_code (2 : Nat) (Option.some Jvm.ClassFile.FieldType.int) ∈ gw := gm (tm4 (List.mem_of_getElem? (i := 123) rfl)) rfl
theorem wg_844 : Jvm.Cond.constantLong "HairLineModel" (194 : Nat) (33 : Int64) ∈ gw := gm (tm4 (List.mem_of_getElem? (i := 124) rfl)) rfl
theorem wg_845 : Jvm.Cond.constantLong "HairLineModel" (196 : Nat) (126 : Int64) ∈ gw := gm (tm4 (List.mem_of_getElem? (i := 125) rfl)) rfl
theorem wg_846 : Jvm.Cond.methodLink "HairLineLaw" (98 : Nat) ({ cls := "HairLineModel", name := "wipe", desc := "()I" } : Jvm.MethodName) ∈ gw := gm (tm4 (List.mem_of_getElem? (i := 126) rfl)) rfl
theorem wg_847 : Jvm.Cond.instanceMethod ({ cls := "HairLineModel", name := "wipe", desc := "()I" } : Jvm.MethodName) ∈ gw := gm (tm4 (List.mem_of_getElem? (i := 127) rfl)) rfl
theorem wg_848 : Jvm.Cond.selects "HairLineModel" ({ cls := "HairLineModel", name := "wipe", desc := "()I" } : Jvm.MethodName) ({ cls := "HairLineModel", name := "wipe", desc := "()I" } : Jvm.MethodName) ∈ gw := gm (tm4 (List.mem_of_getElem? (i := 128) rfl)) rfl
theorem wg_849 : Jvm.Cond.code ({ cls := "HairLineModel", name := "wipe", desc := "()I" } : Jvm.MethodName) prog_11_method_45_code (2 : Nat) (Option.some Jvm.ClassFile.FieldType.int) ∈ gw := gm (tm4 (List.mem_of_getElem? (i := 129) rfl)) rfl
theorem wg_850 : Jvm.Cond.methodLink "HairLineLaw" (102 : Nat) ({ cls := "HairLineModel", name := "fault", desc := "()I" } : Jvm.MethodName) ∈ gw := gm (tm4 (List.mem_of_getElem? (i := 130) rfl)) rfl
theorem wg_851 : Jvm.Cond.instanceMethod ({ cls := "HairLineModel", name := "fault", desc := "()I" } : Jvm.MethodName) ∈ gw := gm (tm4 (List.mem_of_getElem? (i := 131) rfl)) rfl
theorem wg_852 : Jvm.Cond.selects "HairLineModel" ({ cls := "HairLineModel", name := "fault", desc := "()I" } : Jvm.MethodName) ({ cls := "HairLineModel", name := "fault", desc := "()I" } : Jvm.MethodName) ∈ gw := gm (tm4 (List.mem_of_getElem? (i := 132) rfl)) rfl
theorem wg_853 : Jvm.Cond.code ({ cls := "HairLineModel", name := "fault", desc := "()I" } : Jvm.MethodName) prog_11_method_49_code (3 : Nat) (Option.some Jvm.ClassFile.FieldType.int) ∈ gw := gm (tm4 (List.mem_of_getElem? (i := 133) rfl)) rfl
theorem wg_854 : Jvm.Cond.methodLink "HairLineModel" (211 : Nat) ({ cls := "HairLineModel", name := "stepOf", desc := "(II)I" } : Jvm.MethodName) ∈ gw := gm (tm4 (List.mem_of_getElem? (i := 134) rfl)) rfl
theorem wg_855 : Jvm.Cond.static ({ cls := "HairLineModel", name := "stepOf", desc := "(II)I" } : Jvm.MethodName) ∈ gw := gm (tm4 (List.mem_of_getElem? (i := 135) rfl)) rfl
theorem wg_856 : Jvm.Cond.code ({ cls := "HairLineModel", name := "stepOf", desc := "(II)I" } : Jvm.MethodName) prog_11_method_48_code (3 : Nat) (Option.some Jvm.ClassFile.FieldType.int) ∈ gw := gm (tm4 (List.mem_of_getElem? (i := 136) rfl)) rfl
theorem wg_857 : Jvm.Cond.constantLong "HairLineModel" (201 : Nat) (48 : Int64) ∈ gw := gm (tm4 (List.mem_of_getElem? (i := 137) rfl)) rfl
theorem wg_858 : Jvm.Cond.constantLong "HairLineModel" (203 : Nat) (57 : Int64) ∈ gw := gm (tm4 (List.mem_of_getElem? (i := 138) rfl)) rfl
theorem wg_859 : Jvm.Cond.methodLink "HairLineModel" (205 : Nat) ({ cls := "HairLineModel", name := "isFact", desc := "(I)Z" } : Jvm.MethodName) ∈ gw := gm (tm4 (List.mem_of_getElem? (i := 139) rfl)) rfl
theorem wg_860 : Jvm.Cond.static ({ cls := "HairLineModel", name := "isFact", desc := "(I)Z" } : Jvm.MethodName) ∈ gw := gm (tm4 (List.mem_of_getElem? (i := 140) rfl)) rfl
theorem wg_861 : Jvm.Cond.code ({ cls := "HairLineModel", name := "isFact", desc := "(I)Z" } : Jvm.MethodName) prog_11_method_46_code (1 : Nat) (Option.some Jvm.ClassFile.FieldType.boolean) ∈ gw := gm (tm4 (List.mem_of_getElem? (i := 141) rfl)) rfl
theorem wg_862 : Jvm.Cond.methodLink "HairLineModel" (208 : Nat) ({ cls := "HairLineModel", name := "isHow", desc := "(I)Z" } : Jvm.MethodName) ∈ gw := gm (tm4 (List.mem_of_getElem? (i := 142) rfl)) rfl
theorem wg_863 : Jvm.Cond.static ({ cls := "HairLineModel", name := "isHow", desc := "(I)Z" } : Jvm.MethodName) ∈ gw := gm (tm4 (List.mem_of_getElem? (i := 143) rfl)) rfl
theorem wg_864 : Jvm.Cond.code ({ cls := "HairLineModel", name := "isHow", desc := "(I)Z" } : Jvm.MethodName) prog_11_method_47_code (1 : Nat) (Option.some Jvm.ClassFile.FieldType.boolean) ∈ gw := gm (tm4 (List.mem_of_getElem? (i := 144) rfl)) rfl
theorem wg_865 : Jvm.Cond.methodLink "HairLineLaw" (106 : Nat) ({ cls := "HairLineModel", name := "rule", desc := "()I" } : Jvm.MethodName) ∈ gw := gm (tm4 (List.mem_of_getElem? (i := 145) rfl)) rfl
theorem wg_866 : Jvm.Cond.instanceMethod ({ cls := "HairLineModel", name := "rule", desc := "()I" } : Jvm.MethodName) ∈ gw := gm (tm4 (List.mem_of_getElem? (i := 146) rfl)) rfl
theorem wg_867 : Jvm.Cond.selects "HairLineModel" ({ cls := "HairLineModel", name := "rule", desc := "()I" } : Jvm.MethodName) ({ cls := "HairLineModel", name := "rule", desc := "()I" } : Jvm.MethodName) ∈ gw := gm (tm4 (List.mem_of_getElem? (i := 147) rfl)) rfl
theorem wg_868 : Jvm.Cond.code ({ cls := "HairLineModel", name := "rule", desc := "()I" } : Jvm.MethodName) prog_11_method_50_code (5 : Nat) (Option.some Jvm.ClassFile.FieldType.int) ∈ gw := gm (tm4 (List.mem_of_getElem? (i := 148) rfl)) rfl
theorem wg_869 : Jvm.Cond.methodLink "HairLineModel" (214 : Nat) ({ cls := "HairLineModel", name := "fault", desc := "()I" } : Jvm.MethodName) ∈ gw := gm (tm4 (List.mem_of_getElem? (i := 149) rfl)) rfl
theorem wg_870 : Jvm.Cond.methodLink "HairLineLaw" (111 : Nat) ({ cls := "HairLineModel", name := "record", desc := "(IIII)I" } : Jvm.MethodName) ∈ gw := gm (tm4 (List.mem_of_getElem? (i := 150) rfl)) rfl
theorem wg_871 : Jvm.Cond.instanceMethod ({ cls := "HairLineModel", name := "record", desc := "(IIII)I" } : Jvm.MethodName) ∈ gw := gm (tm4 (List.mem_of_getElem? (i := 151) rfl)) rfl
theorem wg_872 : Jvm.Cond.selects "HairLineModel" ({ cls := "HairLineModel", name := "record", desc := "(IIII)I" } : Jvm.MethodName) ({ cls := "HairLineModel", name := "record", desc := "(IIII)I" } : Jvm.MethodName) ∈ gw := gm (tm4 (List.mem_of_getElem? (i := 152) rfl)) rfl
theorem wg_873 : Jvm.Cond.code ({ cls := "HairLineModel", name := "record", desc := "(IIII)I" } : Jvm.MethodName) prog_11_method_52_code (9 : Nat) (Option.some Jvm.ClassFile.FieldType.int) ∈ gw := gm (tm4 (List.mem_of_getElem? (i := 153) rfl)) rfl
theorem wg_874 : Jvm.Cond.methodLink "HairLineModel" (224 : Nat) ({ cls := "HairLineModel", name := "isNumber", desc := "(I)Z" } : Jvm.MethodName) ∈ gw := gm (tm4 (List.mem_of_getElem? (i := 154) rfl)) rfl
theorem wg_875 : Jvm.Cond.static ({ cls := "HairLineModel", name := "isNumber", desc := "(I)Z" } : Jvm.MethodName) ∈ gw := gm (tm4 (List.mem_of_getElem? (i := 155) rfl)) rfl
theorem wg_876 : Jvm.Cond.code ({ cls := "HairLineModel", name := "isNumber", desc := "(I)Z" } : Jvm.MethodName) prog_11_method_51_code (1 : Nat) (Option.some Jvm.ClassFile.FieldType.boolean) ∈ gw := gm (tm4 (List.mem_of_getElem? (i := 156) rfl)) rfl
theorem wg_877 : Jvm.Cond.constantLong "HairLineModel" (220 : Nat) (-9999 : Int64) ∈ gw := gm (tm4 (List.mem_of_getElem? (i := 157) rfl)) rfl
theorem wg_878 : Jvm.Cond.constantLong "HairLineModel" (222 : Nat) (9999 : Int64) ∈ gw := gm (tm4 (List.mem_of_getElem? (i := 158) rfl)) rfl
theorem wg_879 : Jvm.Cond.methodLink "HairLineLaw" (115 : Nat) ({ cls := "HairLineModel", name := "slit", desc := "(II)I" } : Jvm.MethodName) ∈ gw := gm (tm4 (List.mem_of_getElem? (i := 159) rfl)) rfl
theorem wg_880 : Jvm.Cond.instanceMethod ({ cls := "HairLineModel", name := "slit", desc := "(II)I" } : Jvm.MethodName) ∈ gw := gm (tm4 (List.mem_of_getElem? (i := 160) rfl)) rfl
theorem wg_881 : Jvm.Cond.selects "HairLineModel" ({ cls := "HairLineModel", name := "slit", desc := "(II)I" } : Jvm.MethodName) ({ cls := "HairLineModel", name := "slit", desc := "(II)I" } : Jvm.MethodName) ∈ gw := gm (tm4 (List.mem_of_getElem? (i := 161) rfl)) rfl
theorem wg_882 : Jvm.Cond.code ({ cls := "HairLineModel", name := "slit", desc := "(II)I" } : Jvm.MethodName) prog_11_method_53_code (3 : Nat) (Option.some Jvm.ClassFile.FieldType.int) ∈ gw := gm (tm4 (List.mem_of_getElem? (i := 162) rfl)) rfl
theorem wg_883 : Jvm.Cond.constantLong "HairLineModel" (227 : Nat) (63 : Int64) ∈ gw := gm (tm4 (List.mem_of_getElem? (i := 163) rfl)) rfl
theorem wg_884 : Jvm.Cond.methodLink "HairLineLaw" (119 : Nat) ({ cls := "HairLineModel", name := "seen", desc := "(II)I" } : Jvm.MethodName) ∈ gw := gm (tm4 (List.mem_of_getElem? (i := 164) rfl)) rfl
theorem wg_885 : Jvm.Cond.instanceMethod ({ cls := "HairLineModel", name := "seen", desc := "(II)I" } : Jvm.MethodName) ∈ gw := gm (tm4 (List.mem_of_getElem? (i := 165) rfl)) rfl
theorem wg_886 : Jvm.Cond.selects "HairLineModel" ({ cls := "HairLineModel", name := "seen", desc := "(II)I" } : Jvm.MethodName) ({ cls := "HairLineModel", name := "seen", desc := "(II)I" } : Jvm.MethodName) ∈ gw := gm (tm4 (List.mem_of_getElem? (i := 166) rfl)) rfl
theorem wg_887 : Jvm.Cond.code ({ cls := "HairLineModel", name := "seen", desc := "(II)I" } : Jvm.MethodName) prog_11_method_56_code (4 : Nat) (Option.some Jvm.ClassFile.FieldType.int) ∈ gw := gm (tm4 (List.mem_of_getElem? (i := 167) rfl)) rfl
theorem wg_888 : Jvm.Cond.methodLink "HairLineModel" (232 : Nat) ({ cls := "HairLineModel", name := "seenBy", desc := "(I)I" } : Jvm.MethodName) ∈ gw := gm (tm4 (List.mem_of_getElem? (i := 168) rfl)) rfl
theorem wg_890 : Jvm.Cond.instanceMethod ({ cls := "HairLineModel", name := "seenBy", desc := "(I)I" } : Jvm.MethodName) ∈ gw := gm (tm4 (List.mem_of_getElem? (i := 170) rfl)) rfl
theorem wg_891 : Jvm.Cond.code ({ cls := "HairLineModel", name := "seenBy", desc := "(I)I" } : Jvm.MethodName) prog_11_method_54_code (6 : Nat) (Option.some Jvm.ClassFile.FieldType.int) ∈ gw := gm (tm4 (List.mem_of_getElem? (i := 171) rfl)) rfl
theorem wg_892 : Jvm.Cond.methodLink "HairLineModel" (235 : Nat) ({ cls := "HairLineModel", name := "untold", desc := "(I)I" } : Jvm.MethodName) ∈ gw := gm (tm4 (List.mem_of_getElem? (i := 172) rfl)) rfl
theorem wg_894 : Jvm.Cond.instanceMethod ({ cls := "HairLineModel", name := "untold", desc := "(I)I" } : Jvm.MethodName) ∈ gw := gm (tm4 (List.mem_of_getElem? (i := 174) rfl)) rfl
theorem wg_895 : Jvm.Cond.code ({ cls := "HairLineModel", name := "untold", desc := "(I)I" } : Jvm.MethodName) prog_11_method_55_code (6 : Nat) (Option.some Jvm.ClassFile.FieldType.int) ∈ gw := gm (tm4 (List.mem_of_getElem? (i := 175) rfl)) rfl
theorem wg_896 : Jvm.Cond.methodLink "HairLineLaw" (123 : Nat) ({ cls := "HairLineModel", name := "best", desc := "(II)I" } : Jvm.MethodName) ∈ gw := gm (tm4 (List.mem_of_getElem? (i := 176) rfl)) rfl
theorem wg_897 : Jvm.Cond.instanceMethod ({ cls := "HairLineModel", name := "best", desc := "(II)I" } : Jvm.MethodName) ∈ gw := gm (tm4 (List.mem_of_getElem? (i := 177) rfl)) rfl
theorem wg_898 : Jvm.Cond.selects "HairLineModel" ({ cls := "HairLineModel", name := "best", desc := "(II)I" } : Jvm.MethodName) ({ cls := "HairLineModel", name := "best", desc := "(II)I" } : Jvm.MethodName) ∈ gw := gm (tm4 (List.mem_of_getElem? (i := 178) rfl)) rfl
theorem wg_899 : Jvm.Cond.code ({ cls := "HairLineModel", name := "best", desc := "(II)I" } : Jvm.MethodName) prog_11_method_57_code (7 : Nat) (Option.some Jvm.ClassFile.FieldType.int) ∈ gw := gm (tm4 (List.mem_of_getElem? (i := 179) rfl)) rfl
theorem wg_900 : Jvm.Cond.constantLong "HairLineModel" (238 : Nat) (8 : Int64) ∈ gw := gm (tm4 (List.mem_of_getElem? (i := 180) rfl)) rfl
theorem wg_901 : Jvm.Cond.methodLink "HairLineModel" (240 : Nat) ({ cls := "HairLineModel", name := "ones", desc := "(I)I" } : Jvm.MethodName) ∈ gw := gm (tm4 (List.mem_of_getElem? (i := 181) rfl)) rfl
theorem wg_902 : Jvm.Cond.static ({ cls := "HairLineModel", name := "ones", desc := "(I)I" } : Jvm.MethodName) ∈ gw := gm (tm4 (List.mem_of_getElem? (i := 182) rfl)) rfl
theorem wg_903 : Jvm.Cond.code ({ cls := "HairLineModel", name := "ones", desc := "(I)I" } : Jvm.MethodName) prog_11_method_4_code (3 : Nat) (Option.some Jvm.ClassFile.FieldType.int) ∈ gw := gm (tm4 (List.mem_of_getElem? (i := 183) rfl)) rfl
theorem wg_904 : Jvm.Cond.methodLink "HairLineLaw" (127 : Nat) ({ cls := "HairLineModel", name := "told", desc := "(I)I" } : Jvm.MethodName) ∈ gw := gm (tm4 (List.mem_of_getElem? (i := 184) rfl)) rfl
theorem wg_905 : Jvm.Cond.instanceMethod ({ cls := "HairLineModel", name := "told", desc := "(I)I" } : Jvm.MethodName) ∈ gw := gm (tm4 (List.mem_of_getElem? (i := 185) rfl)) rfl
theorem wg_906 : Jvm.Cond.selects "HairLineModel" ({ cls := "HairLineModel", name := "told", desc := "(I)I" } : Jvm.MethodName) ({ cls := "HairLineModel", name := "told", desc := "(I)I" } : Jvm.MethodName) ∈ gw := gm (tm4 (List.mem_of_getElem? (i := 186) rfl)) rfl
theorem wg_907 : Jvm.Cond.code ({ cls := "HairLineModel", name := "told", desc := "(I)I" } : Jvm.MethodName) prog_11_method_58_code (2 : Nat) (Option.some Jvm.ClassFile.FieldType.int) ∈ gw := gm (tm4 (List.mem_of_getElem? (i := 187) rfl)) rfl
theorem wg_908 : Jvm.Cond.constantLong "HairLineModel" (243 : Nat) (10 : Int64) ∈ gw := gm (tm4 (List.mem_of_getElem? (i := 188) rfl)) rfl
theorem wg_909 : Jvm.Cond.constantLong "HairLineModel" (245 : Nat) (13 : Int64) ∈ gw := gm (tm4 (List.mem_of_getElem? (i := 189) rfl)) rfl
theorem ws_X8_rank : Cond.selects RX8 yX8_rank yX8_rank ∈ gw := gm (tm0 (List.mem_of_getElem? (i := 0) rfl)) rfl
theorem ws_X9_isRunner : Cond.selects RX9 yX9_isRunner yX9_isRunner ∈ gw := gm (tm0 (List.mem_of_getElem? (i := 1) rfl)) rfl
theorem ws_X9_numberOf : Cond.selects RX9 yX9_numberOf yX9_numberOf ∈ gw := gm (tm0 (List.mem_of_getElem? (i := 2) rfl)) rfl
theorem ws_X9_shown : Cond.selects RX9 yX9_shown yX9_shown ∈ gw := gm (tm0 (List.mem_of_getElem? (i := 3) rfl)) rfl
theorem ws_X9_covers : Cond.selects RX9 yX9_covers yX9_covers ∈ gw := gm (tm0 (List.mem_of_getElem? (i := 4) rfl)) rfl
theorem ws_X9_findFirst : Cond.selects RX9 yX9_findFirst yX9_findFirst ∈ gw := gm (tm0 (List.mem_of_getElem? (i := 5) rfl)) rfl
theorem ws_X9_firstOf : Cond.selects RX9 yX9_firstOf yX9_firstOf ∈ gw := gm (tm0 (List.mem_of_getElem? (i := 6) rfl)) rfl
theorem ws_X9_joinedOf : Cond.selects RX9 yX9_joinedOf yX9_joinedOf ∈ gw := gm (tm0 (List.mem_of_getElem? (i := 7) rfl)) rfl
theorem ws_X9_crossed : Cond.selects RX9 yX9_crossed yX9_crossed ∈ gw := gm (tm0 (List.mem_of_getElem? (i := 8) rfl)) rfl
theorem ws_X9_isHidden : Cond.selects RX9 yX9_isHidden yX9_isHidden ∈ gw := gm (tm0 (List.mem_of_getElem? (i := 9) rfl)) rfl
theorem ws_X9_hasTorso : Cond.selects RX9 yX9_hasTorso yX9_hasTorso ∈ gw := gm (tm0 (List.mem_of_getElem? (i := 10) rfl)) rfl
theorem ws_X9_hearsOf : Cond.selects RX9 yX9_hearsOf yX9_hearsOf ∈ gw := gm (tm0 (List.mem_of_getElem? (i := 11) rfl)) rfl
theorem ws_X9_findOrder : Cond.selects RX9 yX9_findOrder yX9_findOrder ∈ gw := gm (tm0 (List.mem_of_getElem? (i := 12) rfl)) rfl
theorem ws_X9_timeOf : Cond.selects RX9 yX9_timeOf yX9_timeOf ∈ gw := gm (tm0 (List.mem_of_getElem? (i := 13) rfl)) rfl
theorem ws_X9_findTrue : Cond.selects RX9 yX9_findTrue yX9_findTrue ∈ gw := gm (tm0 (List.mem_of_getElem? (i := 14) rfl)) rfl
theorem ws_X9_seenBy : Cond.selects RX9 yX9_seenBy yX9_seenBy ∈ gw := gm (tm0 (List.mem_of_getElem? (i := 15) rfl)) rfl
theorem ws_X9_untold : Cond.selects RX9 yX9_untold yX9_untold ∈ gw := gm (tm0 (List.mem_of_getElem? (i := 16) rfl)) rfl
theorem inX0 : ∀ w ∈ u_ws RX0 TX0 5, w ∈ gw := uin (fun k hk => match k, hk with
  | 0, _ => wg_156
  | 1, _ => wg_158
  | 2, _ => wg_160
  | 3, _ => wg_162
  | 4, _ => wg_164
  | k + 5, h => absurd h (by omega))
theorem inX1 : ∀ w ∈ u_ws RX1 TX1 3, w ∈ gw := uin (fun k hk => match k, hk with
  | 0, _ => wg_120
  | 1, _ => wg_122
  | 2, _ => wg_124
  | k + 3, h => absurd h (by omega))
theorem inX2 : ∀ w ∈ u_ws RX2 TX2 4, w ∈ gw := uin (fun k hk => match k, hk with
  | 0, _ => wg_178
  | 1, _ => wg_180
  | 2, _ => wg_182
  | 3, _ => wg_184
  | k + 4, h => absurd h (by omega))
theorem inX3 : ∀ w ∈ u_ws RX3 TX3 3, w ∈ gw := uin (fun k hk => match k, hk with
  | 0, _ => wg_79
  | 1, _ => wg_81
  | 2, _ => wg_83
  | k + 3, h => absurd h (by omega))
theorem inX4 : ∀ w ∈ u_ws RX4 TX4 5, w ∈ gw := uin (fun k hk => match k, hk with
  | 0, _ => wg_43
  | 1, _ => wg_45
  | 2, _ => wg_47
  | 3, _ => wg_49
  | 4, _ => wg_51
  | k + 5, h => absurd h (by omega))
theorem inX5 : ∀ w ∈ u_ws RX5 TX5 2, w ∈ gw := uin (fun k hk => match k, hk with
  | 0, _ => wg_138
  | 1, _ => wg_140
  | k + 2, h => absurd h (by omega))
theorem inX6 : ∀ w ∈ u_ws RX6 TX6 2, w ∈ gw := uin (fun k hk => match k, hk with
  | 0, _ => wg_105
  | 1, _ => wg_107
  | k + 2, h => absurd h (by omega))
theorem inX7 : ∀ w ∈ u_ws RX7 TX7 3, w ∈ gw := uin (fun k hk => match k, hk with
  | 0, _ => wg_62
  | 1, _ => wg_64
  | 2, _ => wg_66
  | k + 3, h => absurd h (by omega))
theorem inX8 : ∀ w ∈ u_ws RX8 TX8 6, w ∈ gw := uin (fun k hk => match k, hk with
  | 0, _ => wg_193
  | 1, _ => wg_195
  | 2, _ => wg_197
  | 3, _ => wg_199
  | 4, _ => wg_201
  | 5, _ => wg_203
  | k + 6, h => absurd h (by omega))
theorem inX9 : ∀ w ∈ u_ws RX9 TX9 28, w ∈ gw := uin (fun k hk => match k, hk with
  | 0, _ => wg_614
  | 1, _ => wg_616
  | 2, _ => wg_618
  | 3, _ => wg_620
  | 4, _ => wg_622
  | 5, _ => wg_624
  | 6, _ => wg_626
  | 7, _ => wg_628
  | 8, _ => wg_630
  | 9, _ => wg_632
  | 10, _ => wg_634
  | 11, _ => wg_636
  | 12, _ => wg_638
  | 13, _ => wg_640
  | 14, _ => wg_642
  | 15, _ => wg_644
  | 16, _ => wg_646
  | 17, _ => wg_648
  | 18, _ => wg_650
  | 19, _ => wg_652
  | 20, _ => wg_654
  | 21, _ => wg_656
  | 22, _ => wg_658
  | 23, _ => wg_660
  | 24, _ => wg_662
  | 25, _ => wg_664
  | 26, _ => wg_666
  | 27, _ => wg_668
  | k + 28, h => absurd h (by omega))
