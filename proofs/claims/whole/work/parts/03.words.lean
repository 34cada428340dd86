/-! one list of words for every method: those of the tables that stay good in a call -/
def uW : List Cond := lw_tbl.filter goodWord
theorem uI1 {i : Nat} {w : Cond} (h : tables_1_1[i]? = some w) (hg : goodWord w = true) : w ∈ uW := List.mem_filter.mpr ⟨List.mem_append_right _ (List.mem_append_left _ (List.mem_of_getElem? h)), hg⟩
theorem uI2 {i : Nat} {w : Cond} (h : tables_1_2[i]? = some w) (hg : goodWord w = true) : w ∈ uW := List.mem_filter.mpr ⟨List.mem_append_right _ (List.mem_append_right _ (List.mem_append_left _ (List.mem_of_getElem? h))), hg⟩
theorem uI3 {i : Nat} {w : Cond} (h : tables_1_3[i]? = some w) (hg : goodWord w = true) : w ∈ uW := List.mem_filter.mpr ⟨List.mem_append_right _ (List.mem_append_right _ (List.mem_append_right _ (List.mem_of_getElem? h))), hg⟩
theorem uIs {q : MethodName × Nat} (h : q ∈ lw_privs) (hg : goodWord (Cond.selects q.1.cls q.1 q.1) = true) : Cond.selects q.1.cls q.1 q.1 ∈ uW := List.mem_filter.mpr ⟨List.mem_append_left _ (List.mem_map.mpr ⟨q, h, rfl⟩), hg⟩
abbrev uT (y : MethodName) (cc : ByteArray) (n : Nat) (ret : Option FieldType) : List Cond := Cond.code y cc n ret :: uW
theorem uW_good {w : Cond} (h : w ∈ uW) : (w.onTables && w.keeps) = true ∨ ∃ ty, w = .arrayClass ty := good_of_word (List.mem_filter.mp h).2
theorem uG {y : MethodName} {cc : ByteArray} {n : Nat} {ret : Option FieldType} {c0 : Cond} (h : Cond.code y cc n ret ∈ uW) : GoodIn (c0 :: uW) (uT y cc n ret) := fun w hw => (List.mem_cons.mp hw).elim (fun e => by rw [e]; exact ⟨List.mem_cons_of_mem _ h, uW_good h⟩) (fun hw => ⟨List.mem_cons_of_mem _ hw, uW_good hw⟩)
theorem uGV {own K : String} {idx : Nat} {y : MethodName} {cc : ByteArray} {n : Nat} {ret : Option FieldType} {c0 : Cond} (h1 : Cond.methodLink own idx y ∈ uW) (h2 : Cond.instanceMethod y ∈ uW) (h3 : Cond.selects K y y ∈ uW) (h4 : Cond.initialized K ∈ uW) (h : Cond.code y cc n ret ∈ uW) : GoodIn (c0 :: uW) (wsV own idx K y (uT y cc n ret)) := by
  intro w hw
  rcases List.mem_append.mp hw with hw | hw
  · simp only [List.mem_cons, List.not_mem_nil, or_false] at hw
    rcases hw with rfl | rfl | rfl | rfl
    · exact ⟨List.mem_cons_of_mem _ h1, uW_good h1⟩
    · exact ⟨List.mem_cons_of_mem _ h2, uW_good h2⟩
    · exact ⟨List.mem_cons_of_mem _ h3, uW_good h3⟩
    · exact ⟨List.mem_cons_of_mem _ h4, uW_good h4⟩
  · exact uG h w hw
theorem uGS {own : String} {idx : Nat} {y : MethodName} {cc : ByteArray} {n : Nat} {ret : Option FieldType} {c0 : Cond} (h1 : Cond.methodLink own idx y ∈ uW) (h2 : Cond.static y ∈ uW) (h4 : Cond.initialized own ∈ uW) (h : Cond.code y cc n ret ∈ uW) : GoodIn (c0 :: uW) (wsS own idx y (uT y cc n ret)) := by
  intro w hw
  rcases List.mem_append.mp hw with hw | hw
  · simp only [List.mem_cons, List.not_mem_nil, or_false] at hw
    rcases hw with rfl | rfl | rfl
    · exact ⟨List.mem_cons_of_mem _ h1, uW_good h1⟩
    · exact ⟨List.mem_cons_of_mem _ h2, uW_good h2⟩
    · exact ⟨List.mem_cons_of_mem _ h4, uW_good h4⟩
  · exact uG h w hw
theorem u1_0 : Cond.initialized "RopeMountainLaw" ∈ uW := uI1 (i := 0) (by decide +kernel) rfl
theorem u1_1 : Cond.initialized "RopeMountain" ∈ uW := uI1 (i := 1) (by decide +kernel) rfl
theorem u1_2 : Cond.initialized "RopeMountain$Ropes" ∈ uW := uI1 (i := 2) (by decide +kernel) rfl
theorem u1_3 : Cond.initialized "java/lang/Math" ∈ uW := uI1 (i := 3) (by decide +kernel) rfl
theorem u1_4 : Cond.initialized "java/util/Arrays" ∈ uW := uI1 (i := 4) (by decide +kernel) rfl
theorem u1_5 : Cond.initialized "RopeMountain$Party" ∈ uW := uI1 (i := 5) (by decide +kernel) rfl
theorem u1_6 : Cond.initialized "RopeMountain$Climb" ∈ uW := uI1 (i := 6) (by decide +kernel) rfl
theorem u1_7 : Cond.initialized "RopeMountainModel" ∈ uW := uI1 (i := 7) (by decide +kernel) rfl
theorem u1_8 : Cond.initialized "java/lang/Throwable" ∈ uW := uI1 (i := 8) (by decide +kernel) rfl
theorem u1_9 : Cond.initialized "java/lang/Exception" ∈ uW := uI1 (i := 9) (by decide +kernel) rfl
theorem u1_10 : Cond.initialized "java/lang/RuntimeException" ∈ uW := uI1 (i := 10) (by decide +kernel) rfl
theorem u1_11 : Cond.initialized "java/util/NoSuchElementException" ∈ uW := uI1 (i := 11) (by decide +kernel) rfl
theorem u1_12 : Cond.initialized "java/lang/System" ∈ uW := uI1 (i := 12) (by decide +kernel) rfl
theorem u1_13 : Cond.classLink "RopeMountainLaw" (8 : Nat) "RopeMountain" ∈ uW := uI1 (i := 13) (by decide +kernel) rfl
theorem u1_14 : Cond.instantiable "RopeMountain" (4 : Nat) ∈ uW := uI1 (i := 14) (by decide +kernel) rfl
theorem u1_15 : Cond.methodLink "RopeMountainLaw" (15 : Nat) ({ cls := "RopeMountain", name := "<init>", desc := "()V" } : MethodName) ∈ uW := uI1 (i := 15) (by decide +kernel) rfl
theorem u1_16 : Cond.instanceMethod ({ cls := "RopeMountain", name := "<init>", desc := "()V" } : MethodName) ∈ uW := uI1 (i := 16) (by decide +kernel) rfl
theorem u1_17 : Cond.code ({ cls := "RopeMountain", name := "<init>", desc := "()V" } : MethodName) prog_1_method_1_code (1 : Nat) (Option.none : Option FieldType) ∈ uW := uI1 (i := 17) (by decide +kernel) rfl
theorem u1_18 : Cond.methodLink "RopeMountain" (1 : Nat) ({ cls := "java/lang/Object", name := "<init>", desc := "()V" } : MethodName) ∈ uW := uI1 (i := 18) (by decide +kernel) rfl
theorem u1_19 : Cond.instanceMethod ({ cls := "java/lang/Object", name := "<init>", desc := "()V" } : MethodName) ∈ uW := uI1 (i := 19) (by decide +kernel) rfl
theorem u1_20 : Cond.code ({ cls := "java/lang/Object", name := "<init>", desc := "()V" } : MethodName) object_method_1_code (1 : Nat) (Option.none : Option FieldType) ∈ uW := uI1 (i := 20) (by decide +kernel) rfl
theorem u1_21 : Cond.classLink "RopeMountain" (7 : Nat) "RopeMountain$Ropes" ∈ uW := uI1 (i := 21) (by decide +kernel) rfl
theorem u1_22 : Cond.instantiable "RopeMountain$Ropes" (5 : Nat) ∈ uW := uI1 (i := 22) (by decide +kernel) rfl
theorem u1_23 : Cond.methodLink "RopeMountain" (9 : Nat) ({ cls := "RopeMountain$Ropes", name := "<init>", desc := "()V" } : MethodName) ∈ uW := uI1 (i := 23) (by decide +kernel) rfl
theorem u1_24 : Cond.instanceMethod ({ cls := "RopeMountain$Ropes", name := "<init>", desc := "()V" } : MethodName) ∈ uW := uI1 (i := 24) (by decide +kernel) rfl
theorem u1_25 : Cond.code ({ cls := "RopeMountain$Ropes", name := "<init>", desc := "()V" } : MethodName) prog_4_method_1_code (1 : Nat) (Option.none : Option FieldType) ∈ uW := uI1 (i := 25) (by decide +kernel) rfl
theorem u1_26 : Cond.methodLink "RopeMountain$Ropes" (3 : Nat) ({ cls := "java/lang/Object", name := "<init>", desc := "()V" } : MethodName) ∈ uW := uI1 (i := 26) (by decide +kernel) rfl
theorem u1_27 : Cond.methodLink "RopeMountain$Ropes" (26 : Nat) ({ cls := "RopeMountain$Ropes", name := "layAnew", desc := "(I)V" } : MethodName) ∈ uW := uI1 (i := 27) (by decide +kernel) rfl
theorem u1_28 : Cond.instanceMethod ({ cls := "RopeMountain$Ropes", name := "layAnew", desc := "(I)V" } : MethodName) ∈ uW := uI1 (i := 28) (by decide +kernel) rfl
theorem u1_29 : Cond.selects "RopeMountain$Ropes" ({ cls := "RopeMountain$Ropes", name := "layAnew", desc := "(I)V" } : MethodName) ({ cls := "RopeMountain$Ropes", name := "layAnew", desc := "(I)V" } : MethodName) ∈ uW := uI1 (i := 29) (by decide +kernel) rfl
theorem u1_30 : Cond.code ({ cls := "RopeMountain$Ropes", name := "layAnew", desc := "(I)V" } : MethodName) prog_4_method_2_code (2 : Nat) (Option.none : Option FieldType) ∈ uW := uI1 (i := 30) (by decide +kernel) rfl
theorem u1_31 : Cond.methodLink "RopeMountain$Ropes" (33 : Nat) ({ cls := "java/lang/Math", name := "min", desc := "(II)I" } : MethodName) ∈ uW := uI1 (i := 31) (by decide +kernel) rfl
theorem u1_32 : Cond.static ({ cls := "java/lang/Math", name := "min", desc := "(II)I" } : MethodName) ∈ uW := uI1 (i := 32) (by decide +kernel) rfl
theorem u1_33 : Cond.code ({ cls := "java/lang/Math", name := "min", desc := "(II)I" } : MethodName) prog_8_method_69_code (2 : Nat) (Option.some FieldType.int) ∈ uW := uI1 (i := 33) (by decide +kernel) rfl
theorem u1_34 : Cond.methodLink "RopeMountain$Ropes" (39 : Nat) ({ cls := "java/util/Arrays", name := "fill", desc := "([II)V" } : MethodName) ∈ uW := uI1 (i := 34) (by decide +kernel) rfl
theorem u1_35 : Cond.static ({ cls := "java/util/Arrays", name := "fill", desc := "([II)V" } : MethodName) ∈ uW := uI1 (i := 35) (by decide +kernel) rfl
theorem u1_36 : Cond.code ({ cls := "java/util/Arrays", name := "fill", desc := "([II)V" } : MethodName) prog_13_method_103_code (4 : Nat) (Option.none : Option FieldType) ∈ uW := uI1 (i := 36) (by decide +kernel) rfl
theorem u1_37 : Cond.fieldLink "RopeMountain$Ropes" (30 : Nat) "RopeMountain$Ropes" "pitches" "I" ∈ uW := uI1 (i := 37) (by decide +kernel) rfl
theorem u1_38 : Cond.fieldLink "RopeMountain$Climb" (99 : Nat) "RopeMountain$Ropes" "pitches" "I" ∈ uW := uI1 (i := 38) (by decide +kernel) rfl
theorem u1_39 : Cond.fieldLink "RopeMountain" (90 : Nat) "RopeMountain$Ropes" "pitches" "I" ∈ uW := uI1 (i := 39) (by decide +kernel) rfl
theorem u1_40 : Cond.fieldLink "RopeMountain$Ropes" (9 : Nat) "RopeMountain$Ropes" "high" "I" ∈ uW := uI1 (i := 40) (by decide +kernel) rfl
theorem u1_41 : Cond.fieldLink "RopeMountain" (63 : Nat) "RopeMountain$Ropes" "high" "I" ∈ uW := uI1 (i := 41) (by decide +kernel) rfl
theorem u1_42 : Cond.fieldLink "RopeMountain$Climb" (137 : Nat) "RopeMountain$Ropes" "high" "I" ∈ uW := uI1 (i := 42) (by decide +kernel) rfl
theorem u1_43 : Cond.fieldLink "RopeMountain$Ropes" (15 : Nat) "RopeMountain$Ropes" "length" "[I" ∈ uW := uI1 (i := 43) (by decide +kernel) rfl
theorem u1_44 : Cond.fieldLink "RopeMountain" (54 : Nat) "RopeMountain$Ropes" "length" "[I" ∈ uW := uI1 (i := 44) (by decide +kernel) rfl
theorem u1_45 : Cond.fieldLink "RopeMountain$Climb" (128 : Nat) "RopeMountain$Ropes" "length" "[I" ∈ uW := uI1 (i := 45) (by decide +kernel) rfl
theorem u1_46 : Cond.fieldLink "RopeMountain$Ropes" (19 : Nat) "RopeMountain$Ropes" "width" "[I" ∈ uW := uI1 (i := 46) (by decide +kernel) rfl
theorem u1_47 : Cond.fieldLink "RopeMountain" (57 : Nat) "RopeMountain$Ropes" "width" "[I" ∈ uW := uI1 (i := 47) (by decide +kernel) rfl
theorem u1_48 : Cond.fieldLink "RopeMountain$Climb" (118 : Nat) "RopeMountain$Ropes" "width" "[I" ∈ uW := uI1 (i := 48) (by decide +kernel) rfl
theorem u1_49 : Cond.fieldLink "RopeMountain$Ropes" (22 : Nat) "RopeMountain$Ropes" "windy" "[Z" ∈ uW := uI1 (i := 49) (by decide +kernel) rfl
theorem u1_50 : Cond.fieldLink "RopeMountain" (67 : Nat) "RopeMountain$Ropes" "windy" "[Z" ∈ uW := uI1 (i := 50) (by decide +kernel) rfl
theorem u1_51 : Cond.lays "RopeMountain$Ropes" "RopeMountain$Ropes" "pitches" "I" ∈ uW := uI1 (i := 51) (by decide +kernel) rfl
theorem u1_53 : Cond.lays "RopeMountain$Ropes" "RopeMountain$Ropes" "high" "I" ∈ uW := uI1 (i := 53) (by decide +kernel) rfl
theorem u1_55 : Cond.laysFinal "RopeMountain$Ropes" "RopeMountain$Ropes" "length" "[I" ∈ uW := uI1 (i := 55) (by decide +kernel) rfl
theorem u1_57 : Cond.laysFinal "RopeMountain$Ropes" "RopeMountain$Ropes" "width" "[I" ∈ uW := uI1 (i := 57) (by decide +kernel) rfl
theorem u1_59 : Cond.laysFinal "RopeMountain$Ropes" "RopeMountain$Ropes" "windy" "[Z" ∈ uW := uI1 (i := 59) (by decide +kernel) rfl
theorem u1_61 : Cond.superclass "RopeMountain$Ropes" "java/lang/Object" ∈ uW := uI1 (i := 61) (by decide +kernel) rfl
theorem u1_62 : Cond.arrayClass FieldType.int ∈ uW := uI1 (i := 62) (by decide +kernel) rfl
theorem u1_63 : Cond.arrayClass FieldType.boolean ∈ uW := uI1 (i := 63) (by decide +kernel) rfl
theorem u1_64 : Cond.classLink "RopeMountain" (16 : Nat) "RopeMountain$Party" ∈ uW := uI1 (i := 64) (by decide +kernel) rfl
theorem u1_65 : Cond.instantiable "RopeMountain$Party" (6 : Nat) ∈ uW := uI1 (i := 65) (by decide +kernel) rfl
theorem u1_66 : Cond.methodLink "RopeMountain" (18 : Nat) ({ cls := "RopeMountain$Party", name := "<init>", desc := "()V" } : MethodName) ∈ uW := uI1 (i := 66) (by decide +kernel) rfl
theorem u1_67 : Cond.instanceMethod ({ cls := "RopeMountain$Party", name := "<init>", desc := "()V" } : MethodName) ∈ uW := uI1 (i := 67) (by decide +kernel) rfl
theorem u1_68 : Cond.code ({ cls := "RopeMountain$Party", name := "<init>", desc := "()V" } : MethodName) prog_3_method_1_code (1 : Nat) (Option.none : Option FieldType) ∈ uW := uI1 (i := 68) (by decide +kernel) rfl
theorem u1_69 : Cond.methodLink "RopeMountain$Party" (3 : Nat) ({ cls := "java/lang/Object", name := "<init>", desc := "()V" } : MethodName) ∈ uW := uI1 (i := 69) (by decide +kernel) rfl
theorem u1_70 : Cond.methodLink "RopeMountain$Party" (27 : Nat) ({ cls := "java/util/Arrays", name := "fill", desc := "([II)V" } : MethodName) ∈ uW := uI1 (i := 70) (by decide +kernel) rfl
theorem u1_71 : Cond.fieldLink "RopeMountain$Party" (33 : Nat) "RopeMountain$Party" "size" "I" ∈ uW := uI1 (i := 71) (by decide +kernel) rfl
theorem u1_72 : Cond.fieldLink "RopeMountain$Climb" (54 : Nat) "RopeMountain$Party" "size" "I" ∈ uW := uI1 (i := 72) (by decide +kernel) rfl
theorem u1_73 : Cond.fieldLink "RopeMountain" (71 : Nat) "RopeMountain$Party" "size" "I" ∈ uW := uI1 (i := 73) (by decide +kernel) rfl
theorem u1_74 : Cond.fieldLink "RopeMountain$Party" (9 : Nat) "RopeMountain$Party" "team" "[I" ∈ uW := uI1 (i := 74) (by decide +kernel) rfl
theorem u1_75 : Cond.fieldLink "RopeMountain$Climb" (105 : Nat) "RopeMountain$Party" "team" "[I" ∈ uW := uI1 (i := 75) (by decide +kernel) rfl
theorem u1_76 : Cond.fieldLink "RopeMountain$Party" (15 : Nat) "RopeMountain$Party" "pace" "[I" ∈ uW := uI1 (i := 76) (by decide +kernel) rfl
theorem u1_77 : Cond.fieldLink "RopeMountain$Climb" (131 : Nat) "RopeMountain$Party" "pace" "[I" ∈ uW := uI1 (i := 77) (by decide +kernel) rfl
theorem u1_78 : Cond.fieldLink "RopeMountain$Party" (18 : Nat) "RopeMountain$Party" "breath" "[I" ∈ uW := uI1 (i := 78) (by decide +kernel) rfl
theorem u1_79 : Cond.fieldLink "RopeMountain$Climb" (63 : Nat) "RopeMountain$Party" "breath" "[I" ∈ uW := uI1 (i := 79) (by decide +kernel) rfl
theorem u1_80 : Cond.fieldLink "RopeMountain$Party" (21 : Nat) "RopeMountain$Party" "start" "[I" ∈ uW := uI1 (i := 80) (by decide +kernel) rfl
theorem u1_81 : Cond.fieldLink "RopeMountain" (25 : Nat) "RopeMountain$Party" "start" "[I" ∈ uW := uI1 (i := 81) (by decide +kernel) rfl
theorem u1_82 : Cond.fieldLink "RopeMountain$Climb" (64 : Nat) "RopeMountain$Party" "start" "[I" ∈ uW := uI1 (i := 82) (by decide +kernel) rfl
theorem u1_83 : Cond.fieldLink "RopeMountain$Party" (24 : Nat) "RopeMountain$Party" "turn" "[I" ∈ uW := uI1 (i := 83) (by decide +kernel) rfl
theorem u1_84 : Cond.fieldLink "RopeMountain" (81 : Nat) "RopeMountain$Party" "turn" "[I" ∈ uW := uI1 (i := 84) (by decide +kernel) rfl
theorem u1_85 : Cond.fieldLink "RopeMountain$Climb" (108 : Nat) "RopeMountain$Party" "turn" "[I" ∈ uW := uI1 (i := 85) (by decide +kernel) rfl
theorem u1_86 : Cond.lays "RopeMountain$Party" "RopeMountain$Party" "size" "I" ∈ uW := uI1 (i := 86) (by decide +kernel) rfl
theorem u1_88 : Cond.laysFinal "RopeMountain$Party" "RopeMountain$Party" "team" "[I" ∈ uW := uI1 (i := 88) (by decide +kernel) rfl
theorem u1_90 : Cond.laysFinal "RopeMountain$Party" "RopeMountain$Party" "pace" "[I" ∈ uW := uI1 (i := 90) (by decide +kernel) rfl
theorem u1_92 : Cond.laysFinal "RopeMountain$Party" "RopeMountain$Party" "breath" "[I" ∈ uW := uI1 (i := 92) (by decide +kernel) rfl
theorem u1_94 : Cond.laysFinal "RopeMountain$Party" "RopeMountain$Party" "start" "[I" ∈ uW := uI1 (i := 94) (by decide +kernel) rfl
theorem u1_96 : Cond.laysFinal "RopeMountain$Party" "RopeMountain$Party" "turn" "[I" ∈ uW := uI1 (i := 96) (by decide +kernel) rfl
theorem u1_98 : Cond.superclass "RopeMountain$Party" "java/lang/Object" ∈ uW := uI1 (i := 98) (by decide +kernel) rfl
theorem u1_99 : Cond.classLink "RopeMountain" (23 : Nat) "RopeMountain$Climb" ∈ uW := uI1 (i := 99) (by decide +kernel) rfl
theorem u1_100 : Cond.instantiable "RopeMountain$Climb" (13 : Nat) ∈ uW := uI1 (i := 100) (by decide +kernel) rfl
theorem u1_101 : Cond.methodLink "RopeMountain" (29 : Nat) ({ cls := "RopeMountain$Climb", name := "<init>", desc := "(LRopeMountain$Ropes;LRopeMountain$Party;[I)V" } : MethodName) ∈ uW := uI1 (i := 101) (by decide +kernel) rfl
theorem u1_102 : Cond.instanceMethod ({ cls := "RopeMountain$Climb", name := "<init>", desc := "(LRopeMountain$Ropes;LRopeMountain$Party;[I)V" } : MethodName) ∈ uW := uI1 (i := 102) (by decide +kernel) rfl
theorem u1_103 : Cond.code ({ cls := "RopeMountain$Climb", name := "<init>", desc := "(LRopeMountain$Ropes;LRopeMountain$Party;[I)V" } : MethodName) prog_2_method_1_code (4 : Nat) (Option.none : Option FieldType) ∈ uW := uI1 (i := 103) (by decide +kernel) rfl
theorem u1_104 : Cond.methodLink "RopeMountain$Climb" (3 : Nat) ({ cls := "java/lang/Object", name := "<init>", desc := "()V" } : MethodName) ∈ uW := uI1 (i := 104) (by decide +kernel) rfl
theorem u1_105 : Cond.fieldLink "RopeMountain$Climb" (9 : Nat) "RopeMountain$Climb" "ropes" "LRopeMountain$Ropes;" ∈ uW := uI1 (i := 105) (by decide +kernel) rfl
theorem u1_106 : Cond.fieldLink "RopeMountain$Climb" (15 : Nat) "RopeMountain$Climb" "party" "LRopeMountain$Party;" ∈ uW := uI1 (i := 106) (by decide +kernel) rfl
theorem u1_107 : Cond.fieldLink "RopeMountain$Climb" (19 : Nat) "RopeMountain$Climb" "start" "[I" ∈ uW := uI1 (i := 107) (by decide +kernel) rfl
theorem u1_108 : Cond.fieldLink "RopeMountain" (153 : Nat) "RopeMountain$Climb" "start" "[I" ∈ uW := uI1 (i := 108) (by decide +kernel) rfl
theorem u1_109 : Cond.fieldLink "RopeMountain$Climb" (50 : Nat) "RopeMountain$Climb" "hour" "I" ∈ uW := uI1 (i := 109) (by decide +kernel) rfl
theorem u1_110 : Cond.fieldLink "RopeMountain" (84 : Nat) "RopeMountain$Climb" "hour" "I" ∈ uW := uI1 (i := 110) (by decide +kernel) rfl
theorem u1_111 : Cond.fieldLink "RopeMountain$Climb" (23 : Nat) "RopeMountain$Climb" "state" "[I" ∈ uW := uI1 (i := 111) (by decide +kernel) rfl
theorem u1_112 : Cond.fieldLink "RopeMountain" (114 : Nat) "RopeMountain$Climb" "state" "[I" ∈ uW := uI1 (i := 112) (by decide +kernel) rfl
theorem u1_113 : Cond.fieldLink "RopeMountain$Climb" (26 : Nat) "RopeMountain$Climb" "camp" "[I" ∈ uW := uI1 (i := 113) (by decide +kernel) rfl
theorem u1_114 : Cond.fieldLink "RopeMountain" (117 : Nat) "RopeMountain$Climb" "camp" "[I" ∈ uW := uI1 (i := 114) (by decide +kernel) rfl
theorem u1_115 : Cond.fieldLink "RopeMountain$Climb" (29 : Nat) "RopeMountain$Climb" "toGo" "[I" ∈ uW := uI1 (i := 115) (by decide +kernel) rfl
theorem u1_116 : Cond.fieldLink "RopeMountain" (120 : Nat) "RopeMountain$Climb" "toGo" "[I" ∈ uW := uI1 (i := 116) (by decide +kernel) rfl
theorem u1_117 : Cond.fieldLink "RopeMountain$Climb" (32 : Nat) "RopeMountain$Climb" "breath" "[I" ∈ uW := uI1 (i := 117) (by decide +kernel) rfl
theorem u1_118 : Cond.fieldLink "RopeMountain" (123 : Nat) "RopeMountain$Climb" "breath" "[I" ∈ uW := uI1 (i := 118) (by decide +kernel) rfl
theorem u1_119 : Cond.fieldLink "RopeMountain$Climb" (35 : Nat) "RopeMountain$Climb" "since" "[I" ∈ uW := uI1 (i := 119) (by decide +kernel) rfl
theorem u1_120 : Cond.fieldLink "RopeMountain" (132 : Nat) "RopeMountain$Climb" "since" "[I" ∈ uW := uI1 (i := 120) (by decide +kernel) rfl
theorem u1_121 : Cond.fieldLink "RopeMountain$Climb" (38 : Nat) "RopeMountain$Climb" "summit" "[I" ∈ uW := uI1 (i := 121) (by decide +kernel) rfl
theorem u1_122 : Cond.fieldLink "RopeMountain" (126 : Nat) "RopeMountain$Climb" "summit" "[I" ∈ uW := uI1 (i := 122) (by decide +kernel) rfl
theorem u1_123 : Cond.fieldLink "RopeMountain$Climb" (41 : Nat) "RopeMountain$Climb" "waits" "[I" ∈ uW := uI1 (i := 123) (by decide +kernel) rfl
theorem u1_124 : Cond.fieldLink "RopeMountain" (129 : Nat) "RopeMountain$Climb" "waits" "[I" ∈ uW := uI1 (i := 124) (by decide +kernel) rfl
theorem u1_125 : Cond.fieldLink "RopeMountain$Climb" (44 : Nat) "RopeMountain$Climb" "wanted" "[I" ∈ uW := uI1 (i := 125) (by decide +kernel) rfl
theorem u1_126 : Cond.fieldLink "RopeMountain$Climb" (47 : Nat) "RopeMountain$Climb" "place" "[I" ∈ uW := uI1 (i := 126) (by decide +kernel) rfl
theorem u1_127 : Cond.laysFinal "RopeMountain$Climb" "RopeMountain$Climb" "ropes" "LRopeMountain$Ropes;" ∈ uW := uI1 (i := 127) (by decide +kernel) rfl
theorem u1_129 : Cond.laysFinal "RopeMountain$Climb" "RopeMountain$Climb" "party" "LRopeMountain$Party;" ∈ uW := uI1 (i := 129) (by decide +kernel) rfl
theorem u1_131 : Cond.laysFinal "RopeMountain$Climb" "RopeMountain$Climb" "start" "[I" ∈ uW := uI1 (i := 131) (by decide +kernel) rfl
theorem u1_133 : Cond.lays "RopeMountain$Climb" "RopeMountain$Climb" "hour" "I" ∈ uW := uI1 (i := 133) (by decide +kernel) rfl
theorem u1_135 : Cond.laysFinal "RopeMountain$Climb" "RopeMountain$Climb" "state" "[I" ∈ uW := uI1 (i := 135) (by decide +kernel) rfl
theorem u1_137 : Cond.laysFinal "RopeMountain$Climb" "RopeMountain$Climb" "camp" "[I" ∈ uW := uI1 (i := 137) (by decide +kernel) rfl
theorem u1_139 : Cond.laysFinal "RopeMountain$Climb" "RopeMountain$Climb" "toGo" "[I" ∈ uW := uI1 (i := 139) (by decide +kernel) rfl
theorem u1_141 : Cond.laysFinal "RopeMountain$Climb" "RopeMountain$Climb" "breath" "[I" ∈ uW := uI1 (i := 141) (by decide +kernel) rfl
theorem u1_143 : Cond.laysFinal "RopeMountain$Climb" "RopeMountain$Climb" "since" "[I" ∈ uW := uI1 (i := 143) (by decide +kernel) rfl
theorem u1_145 : Cond.laysFinal "RopeMountain$Climb" "RopeMountain$Climb" "summit" "[I" ∈ uW := uI1 (i := 145) (by decide +kernel) rfl
theorem u1_147 : Cond.laysFinal "RopeMountain$Climb" "RopeMountain$Climb" "waits" "[I" ∈ uW := uI1 (i := 147) (by decide +kernel) rfl
theorem u1_149 : Cond.laysFinal "RopeMountain$Climb" "RopeMountain$Climb" "wanted" "[I" ∈ uW := uI1 (i := 149) (by decide +kernel) rfl
theorem u1_151 : Cond.laysFinal "RopeMountain$Climb" "RopeMountain$Climb" "place" "[I" ∈ uW := uI1 (i := 151) (by decide +kernel) rfl
theorem u1_153 : Cond.superclass "RopeMountain$Climb" "java/lang/Object" ∈ uW := uI1 (i := 153) (by decide +kernel) rfl
theorem u1_154 : Cond.fieldLink "RopeMountain" (10 : Nat) "RopeMountain" "ropes" "LRopeMountain$Ropes;" ∈ uW := uI1 (i := 154) (by decide +kernel) rfl
theorem u1_155 : Cond.fieldLink "RopeMountain" (19 : Nat) "RopeMountain" "party" "LRopeMountain$Party;" ∈ uW := uI1 (i := 155) (by decide +kernel) rfl
theorem u1_156 : Cond.fieldLink "RopeMountain" (32 : Nat) "RopeMountain" "climb" "LRopeMountain$Climb;" ∈ uW := uI1 (i := 156) (by decide +kernel) rfl
theorem u1_157 : Cond.fieldLink "RopeMountain" (36 : Nat) "RopeMountain" "trial" "LRopeMountain$Climb;" ∈ uW := uI1 (i := 157) (by decide +kernel) rfl
theorem u1_158 : Cond.laysFinal "RopeMountain" "RopeMountain" "ropes" "LRopeMountain$Ropes;" ∈ uW := uI1 (i := 158) (by decide +kernel) rfl
theorem u1_160 : Cond.laysFinal "RopeMountain" "RopeMountain" "party" "LRopeMountain$Party;" ∈ uW := uI1 (i := 160) (by decide +kernel) rfl
theorem u1_162 : Cond.laysFinal "RopeMountain" "RopeMountain" "climb" "LRopeMountain$Climb;" ∈ uW := uI1 (i := 162) (by decide +kernel) rfl
theorem u1_164 : Cond.laysFinal "RopeMountain" "RopeMountain" "trial" "LRopeMountain$Climb;" ∈ uW := uI1 (i := 164) (by decide +kernel) rfl
theorem u1_166 : Cond.superclass "RopeMountain" "java/lang/Object" ∈ uW := uI1 (i := 166) (by decide +kernel) rfl
theorem u1_167 : Cond.methodLink "RopeMountainLaw" (19 : Nat) ({ cls := "RopeMountain", name := "mountain", desc := "(I)Z" } : MethodName) ∈ uW := uI1 (i := 167) (by decide +kernel) rfl
theorem u1_168 : Cond.instanceMethod ({ cls := "RopeMountain", name := "mountain", desc := "(I)Z" } : MethodName) ∈ uW := uI1 (i := 168) (by decide +kernel) rfl
theorem u1_169 : Cond.selects "RopeMountain" ({ cls := "RopeMountain", name := "mountain", desc := "(I)Z" } : MethodName) ({ cls := "RopeMountain", name := "mountain", desc := "(I)Z" } : MethodName) ∈ uW := uI1 (i := 169) (by decide +kernel) rfl
theorem u1_170 : Cond.code ({ cls := "RopeMountain", name := "mountain", desc := "(I)Z" } : MethodName) prog_1_method_2_code (2 : Nat) (Option.some FieldType.boolean) ∈ uW := uI1 (i := 170) (by decide +kernel) rfl
theorem u1_171 : Cond.methodLink "RopeMountain" (39 : Nat) ({ cls := "RopeMountain", name := "isWithin", desc := "(III)Z" } : MethodName) ∈ uW := uI1 (i := 171) (by decide +kernel) rfl
theorem u1_172 : Cond.static ({ cls := "RopeMountain", name := "isWithin", desc := "(III)Z" } : MethodName) ∈ uW := uI1 (i := 172) (by decide +kernel) rfl
theorem u1_173 : Cond.code ({ cls := "RopeMountain", name := "isWithin", desc := "(III)Z" } : MethodName) prog_1_method_19_code (3 : Nat) (Option.some FieldType.boolean) ∈ uW := uI1 (i := 173) (by decide +kernel) rfl
theorem u1_174 : Cond.methodLink "RopeMountain" (43 : Nat) ({ cls := "RopeMountain$Ropes", name := "layAnew", desc := "(I)V" } : MethodName) ∈ uW := uI1 (i := 174) (by decide +kernel) rfl
theorem u1_175 : Cond.methodLink "RopeMountain" (47 : Nat) ({ cls := "RopeMountain$Climb", name := "reset", desc := "()V" } : MethodName) ∈ uW := uI1 (i := 175) (by decide +kernel) rfl
theorem u1_176 : Cond.instanceMethod ({ cls := "RopeMountain$Climb", name := "reset", desc := "()V" } : MethodName) ∈ uW := uI1 (i := 176) (by decide +kernel) rfl
theorem u1_177 : Cond.selects "RopeMountain$Climb" ({ cls := "RopeMountain$Climb", name := "reset", desc := "()V" } : MethodName) ({ cls := "RopeMountain$Climb", name := "reset", desc := "()V" } : MethodName) ∈ uW := uI1 (i := 177) (by decide +kernel) rfl
theorem u1_178 : Cond.code ({ cls := "RopeMountain$Climb", name := "reset", desc := "()V" } : MethodName) prog_2_method_2_code (2 : Nat) (Option.none : Option FieldType) ∈ uW := uI1 (i := 178) (by decide +kernel) rfl
theorem u1_179 : Cond.methodLink "RopeMountain$Climb" (59 : Nat) ({ cls := "RopeMountain$Climb", name := "putAtFoot", desc := "(I)V" } : MethodName) ∈ uW := uI1 (i := 179) (by decide +kernel) rfl
theorem u1_180 : Cond.instanceMethod ({ cls := "RopeMountain$Climb", name := "putAtFoot", desc := "(I)V" } : MethodName) ∈ uW := uI1 (i := 180) (by decide +kernel) rfl
theorem u1_181 : Cond.selects "RopeMountain$Climb" ({ cls := "RopeMountain$Climb", name := "putAtFoot", desc := "(I)V" } : MethodName) ({ cls := "RopeMountain$Climb", name := "putAtFoot", desc := "(I)V" } : MethodName) ∈ uW := uI1 (i := 181) (by decide +kernel) rfl
theorem u1_182 : Cond.code ({ cls := "RopeMountain$Climb", name := "putAtFoot", desc := "(I)V" } : MethodName) prog_2_method_3_code (2 : Nat) (Option.none : Option FieldType) ∈ uW := uI1 (i := 182) (by decide +kernel) rfl
theorem u1_183 : Cond.methodLink "RopeMountainLaw" (24 : Nat) ({ cls := "RopeMountain", name := "pitch", desc := "(III)Z" } : MethodName) ∈ uW := uI1 (i := 183) (by decide +kernel) rfl
theorem u1_184 : Cond.instanceMethod ({ cls := "RopeMountain", name := "pitch", desc := "(III)Z" } : MethodName) ∈ uW := uI1 (i := 184) (by decide +kernel) rfl
theorem u1_185 : Cond.selects "RopeMountain" ({ cls := "RopeMountain", name := "pitch", desc := "(III)Z" } : MethodName) ({ cls := "RopeMountain", name := "pitch", desc := "(III)Z" } : MethodName) ∈ uW := uI1 (i := 185) (by decide +kernel) rfl
theorem u1_186 : Cond.code ({ cls := "RopeMountain", name := "pitch", desc := "(III)Z" } : MethodName) prog_1_method_3_code (4 : Nat) (Option.some FieldType.boolean) ∈ uW := uI1 (i := 186) (by decide +kernel) rfl
theorem u1_187 : Cond.methodLink "RopeMountain" (50 : Nat) ({ cls := "RopeMountain$Ropes", name := "hasPitch", desc := "(I)Z" } : MethodName) ∈ uW := uI1 (i := 187) (by decide +kernel) rfl
theorem u1_188 : Cond.instanceMethod ({ cls := "RopeMountain$Ropes", name := "hasPitch", desc := "(I)Z" } : MethodName) ∈ uW := uI1 (i := 188) (by decide +kernel) rfl
theorem u1_189 : Cond.selects "RopeMountain$Ropes" ({ cls := "RopeMountain$Ropes", name := "hasPitch", desc := "(I)Z" } : MethodName) ({ cls := "RopeMountain$Ropes", name := "hasPitch", desc := "(I)Z" } : MethodName) ∈ uW := uI1 (i := 189) (by decide +kernel) rfl
theorem u1_190 : Cond.code ({ cls := "RopeMountain$Ropes", name := "hasPitch", desc := "(I)Z" } : MethodName) prog_4_method_3_code (2 : Nat) (Option.some FieldType.boolean) ∈ uW := uI1 (i := 190) (by decide +kernel) rfl
theorem u1_192 : Cond.methodLink "RopeMountainLaw" (29 : Nat) ({ cls := "RopeMountain", name := "high", desc := "(I)I" } : MethodName) ∈ uW := uI1 (i := 192) (by decide +kernel) rfl
theorem u1_193 : Cond.instanceMethod ({ cls := "RopeMountain", name := "high", desc := "(I)I" } : MethodName) ∈ uW := uI1 (i := 193) (by decide +kernel) rfl
theorem u1_194 : Cond.selects "RopeMountain" ({ cls := "RopeMountain", name := "high", desc := "(I)I" } : MethodName) ({ cls := "RopeMountain", name := "high", desc := "(I)I" } : MethodName) ∈ uW := uI1 (i := 194) (by decide +kernel) rfl
theorem u1_195 : Cond.code ({ cls := "RopeMountain", name := "high", desc := "(I)I" } : MethodName) prog_1_method_4_code (3 : Nat) (Option.some FieldType.int) ∈ uW := uI1 (i := 195) (by decide +kernel) rfl
theorem u1_196 : Cond.methodLink "RopeMountain" (60 : Nat) ({ cls := "RopeMountain$Ropes", name := "hasCamp", desc := "(I)Z" } : MethodName) ∈ uW := uI1 (i := 196) (by decide +kernel) rfl
theorem u1_197 : Cond.instanceMethod ({ cls := "RopeMountain$Ropes", name := "hasCamp", desc := "(I)Z" } : MethodName) ∈ uW := uI1 (i := 197) (by decide +kernel) rfl
theorem u1_198 : Cond.selects "RopeMountain$Ropes" ({ cls := "RopeMountain$Ropes", name := "hasCamp", desc := "(I)Z" } : MethodName) ({ cls := "RopeMountain$Ropes", name := "hasCamp", desc := "(I)Z" } : MethodName) ∈ uW := uI1 (i := 198) (by decide +kernel) rfl
theorem u1_199 : Cond.code ({ cls := "RopeMountain$Ropes", name := "hasCamp", desc := "(I)Z" } : MethodName) prog_4_method_4_code (2 : Nat) (Option.some FieldType.boolean) ∈ uW := uI1 (i := 199) (by decide +kernel) rfl
theorem u1_200 : Cond.methodLink "RopeMountainLaw" (34 : Nat) ({ cls := "RopeMountain", name := "wind", desc := "(IIZ)Z" } : MethodName) ∈ uW := uI1 (i := 200) (by decide +kernel) rfl
theorem u1_201 : Cond.instanceMethod ({ cls := "RopeMountain", name := "wind", desc := "(IIZ)Z" } : MethodName) ∈ uW := uI1 (i := 201) (by decide +kernel) rfl
theorem u1_202 : Cond.selects "RopeMountain" ({ cls := "RopeMountain", name := "wind", desc := "(IIZ)Z" } : MethodName) ({ cls := "RopeMountain", name := "wind", desc := "(IIZ)Z" } : MethodName) ∈ uW := uI1 (i := 202) (by decide +kernel) rfl
theorem u1_203 : Cond.code ({ cls := "RopeMountain", name := "wind", desc := "(IIZ)Z" } : MethodName) prog_1_method_5_code (5 : Nat) (Option.some FieldType.boolean) ∈ uW := uI1 (i := 203) (by decide +kernel) rfl
theorem u1_204 : Cond.methodLink "RopeMountainLaw" (39 : Nat) ({ cls := "RopeMountain", name := "climber", desc := "(III)I" } : MethodName) ∈ uW := uI1 (i := 204) (by decide +kernel) rfl
theorem u1_205 : Cond.instanceMethod ({ cls := "RopeMountain", name := "climber", desc := "(III)I" } : MethodName) ∈ uW := uI1 (i := 205) (by decide +kernel) rfl
theorem u1_206 : Cond.selects "RopeMountain" ({ cls := "RopeMountain", name := "climber", desc := "(III)I" } : MethodName) ({ cls := "RopeMountain", name := "climber", desc := "(III)I" } : MethodName) ∈ uW := uI1 (i := 206) (by decide +kernel) rfl
theorem u1_207 : Cond.code ({ cls := "RopeMountain", name := "climber", desc := "(III)I" } : MethodName) prog_1_method_6_code (5 : Nat) (Option.some FieldType.int) ∈ uW := uI1 (i := 207) (by decide +kernel) rfl
theorem u1_208 : Cond.methodLink "RopeMountain" (74 : Nat) ({ cls := "RopeMountain$Party", name := "join", desc := "(III)I" } : MethodName) ∈ uW := uI1 (i := 208) (by decide +kernel) rfl
theorem u1_209 : Cond.instanceMethod ({ cls := "RopeMountain$Party", name := "join", desc := "(III)I" } : MethodName) ∈ uW := uI1 (i := 209) (by decide +kernel) rfl
theorem u1_210 : Cond.selects "RopeMountain$Party" ({ cls := "RopeMountain$Party", name := "join", desc := "(III)I" } : MethodName) ({ cls := "RopeMountain$Party", name := "join", desc := "(III)I" } : MethodName) ∈ uW := uI1 (i := 210) (by decide +kernel) rfl
theorem u1_211 : Cond.code ({ cls := "RopeMountain$Party", name := "join", desc := "(III)I" } : MethodName) prog_3_method_4_code (5 : Nat) (Option.some FieldType.int) ∈ uW := uI1 (i := 211) (by decide +kernel) rfl
theorem u1_212 : Cond.methodLink "RopeMountain" (78 : Nat) ({ cls := "RopeMountain$Climb", name := "putAtFoot", desc := "(I)V" } : MethodName) ∈ uW := uI1 (i := 212) (by decide +kernel) rfl
theorem u1_213 : Cond.methodLink "RopeMountainLaw" (44 : Nat) ({ cls := "RopeMountain", name := "team", desc := "(III)I" } : MethodName) ∈ uW := uI1 (i := 213) (by decide +kernel) rfl
theorem u1_214 : Cond.instanceMethod ({ cls := "RopeMountain", name := "team", desc := "(III)I" } : MethodName) ∈ uW := uI1 (i := 214) (by decide +kernel) rfl
theorem u1_215 : Cond.selects "RopeMountain" ({ cls := "RopeMountain", name := "team", desc := "(III)I" } : MethodName) ({ cls := "RopeMountain", name := "team", desc := "(III)I" } : MethodName) ∈ uW := uI1 (i := 215) (by decide +kernel) rfl
theorem u1_216 : Cond.code ({ cls := "RopeMountain", name := "team", desc := "(III)I" } : MethodName) prog_1_method_7_code (6 : Nat) (Option.some FieldType.int) ∈ uW := uI1 (i := 216) (by decide +kernel) rfl
theorem u1_217 : Cond.methodLink "RopeMountainLaw" (48 : Nat) ({ cls := "RopeMountain", name := "begin", desc := "()I" } : MethodName) ∈ uW := uI1 (i := 217) (by decide +kernel) rfl
theorem u1_218 : Cond.instanceMethod ({ cls := "RopeMountain", name := "begin", desc := "()I" } : MethodName) ∈ uW := uI1 (i := 218) (by decide +kernel) rfl
theorem u1_219 : Cond.selects "RopeMountain" ({ cls := "RopeMountain", name := "begin", desc := "()I" } : MethodName) ({ cls := "RopeMountain", name := "begin", desc := "()I" } : MethodName) ∈ uW := uI1 (i := 219) (by decide +kernel) rfl
theorem u1_220 : Cond.code ({ cls := "RopeMountain", name := "begin", desc := "()I" } : MethodName) prog_1_method_8_code (1 : Nat) (Option.some FieldType.int) ∈ uW := uI1 (i := 220) (by decide +kernel) rfl
theorem u1_221 : Cond.methodLink "RopeMountainLaw" (53 : Nat) ({ cls := "RopeMountain", name := "run", desc := "(I)I" } : MethodName) ∈ uW := uI1 (i := 221) (by decide +kernel) rfl
theorem u1_222 : Cond.instanceMethod ({ cls := "RopeMountain", name := "run", desc := "(I)I" } : MethodName) ∈ uW := uI1 (i := 222) (by decide +kernel) rfl
theorem u1_223 : Cond.selects "RopeMountain" ({ cls := "RopeMountain", name := "run", desc := "(I)I" } : MethodName) ({ cls := "RopeMountain", name := "run", desc := "(I)I" } : MethodName) ∈ uW := uI1 (i := 223) (by decide +kernel) rfl
theorem u1_224 : Cond.code ({ cls := "RopeMountain", name := "run", desc := "(I)I" } : MethodName) prog_1_method_9_code (3 : Nat) (Option.some FieldType.int) ∈ uW := uI1 (i := 224) (by decide +kernel) rfl
theorem u1_225 : Cond.methodLink "RopeMountain" (87 : Nat) ({ cls := "RopeMountain$Climb", name := "passHour", desc := "()V" } : MethodName) ∈ uW := uI1 (i := 225) (by decide +kernel) rfl
theorem u1_226 : Cond.instanceMethod ({ cls := "RopeMountain$Climb", name := "passHour", desc := "()V" } : MethodName) ∈ uW := uI1 (i := 226) (by decide +kernel) rfl
theorem u1_227 : Cond.selects "RopeMountain$Climb" ({ cls := "RopeMountain$Climb", name := "passHour", desc := "()V" } : MethodName) ({ cls := "RopeMountain$Climb", name := "passHour", desc := "()V" } : MethodName) ∈ uW := uI1 (i := 227) (by decide +kernel) rfl
theorem u1_228 : Cond.code ({ cls := "RopeMountain$Climb", name := "passHour", desc := "()V" } : MethodName) prog_2_method_7_code (2 : Nat) (Option.none : Option FieldType) ∈ uW := uI1 (i := 228) (by decide +kernel) rfl
theorem u1_229 : Cond.methodLink "RopeMountain$Climb" (81 : Nat) ({ cls := "RopeMountain$Climb", name := "goOn", desc := "(I)V" } : MethodName) ∈ uW := uI1 (i := 229) (by decide +kernel) rfl
theorem u1_231 : Cond.instanceMethod ({ cls := "RopeMountain$Climb", name := "goOn", desc := "(I)V" } : MethodName) ∈ uW := uI1 (i := 231) (by decide +kernel) rfl
theorem u1_232 : Cond.code ({ cls := "RopeMountain$Climb", name := "goOn", desc := "(I)V" } : MethodName) prog_2_method_8_code (2 : Nat) (Option.none : Option FieldType) ∈ uW := uI1 (i := 232) (by decide +kernel) rfl
theorem u1_233 : Cond.methodLink "RopeMountain$Climb" (84 : Nat) ({ cls := "RopeMountain$Climb", name := "decide", desc := "(I)V" } : MethodName) ∈ uW := uI1 (i := 233) (by decide +kernel) rfl
theorem u1_235 : Cond.instanceMethod ({ cls := "RopeMountain$Climb", name := "decide", desc := "(I)V" } : MethodName) ∈ uW := uI1 (i := 235) (by decide +kernel) rfl
theorem u1_236 : Cond.code ({ cls := "RopeMountain$Climb", name := "decide", desc := "(I)V" } : MethodName) prog_2_method_9_code (2 : Nat) (Option.none : Option FieldType) ∈ uW := uI1 (i := 236) (by decide +kernel) rfl
theorem u1_237 : Cond.methodLink "RopeMountain$Climb" (102 : Nat) ({ cls := "RopeMountain$Climb", name := "turnsBack", desc := "(I)Z" } : MethodName) ∈ uW := uI1 (i := 237) (by decide +kernel) rfl
theorem u1_239 : Cond.instanceMethod ({ cls := "RopeMountain$Climb", name := "turnsBack", desc := "(I)Z" } : MethodName) ∈ uW := uI1 (i := 239) (by decide +kernel) rfl
theorem u2_0 : Cond.code ({ cls := "RopeMountain$Climb", name := "turnsBack", desc := "(I)Z" } : MethodName) prog_2_method_10_code (3 : Nat) (Option.some FieldType.boolean) ∈ uW := uI2 (i := 0) (by decide +kernel) rfl
theorem u2_1 : Cond.methodLink "RopeMountain$Climb" (87 : Nat) ({ cls := "RopeMountain$Ropes", name := "isWindy", desc := "(I)Z" } : MethodName) ∈ uW := uI2 (i := 1) (by decide +kernel) rfl
theorem u2_2 : Cond.instanceMethod ({ cls := "RopeMountain$Ropes", name := "isWindy", desc := "(I)Z" } : MethodName) ∈ uW := uI2 (i := 2) (by decide +kernel) rfl
theorem u2_3 : Cond.selects "RopeMountain$Ropes" ({ cls := "RopeMountain$Ropes", name := "isWindy", desc := "(I)Z" } : MethodName) ({ cls := "RopeMountain$Ropes", name := "isWindy", desc := "(I)Z" } : MethodName) ∈ uW := uI2 (i := 3) (by decide +kernel) rfl
theorem u2_4 : Cond.code ({ cls := "RopeMountain$Ropes", name := "isWindy", desc := "(I)Z" } : MethodName) prog_4_method_5_code (2 : Nat) (Option.some FieldType.boolean) ∈ uW := uI2 (i := 4) (by decide +kernel) rfl
theorem u2_5 : Cond.methodLink "RopeMountain$Climb" (93 : Nat) ({ cls := "RopeMountain$Climb", name := "beginPitches", desc := "()V" } : MethodName) ∈ uW := uI2 (i := 5) (by decide +kernel) rfl
theorem u2_7 : Cond.instanceMethod ({ cls := "RopeMountain$Climb", name := "beginPitches", desc := "()V" } : MethodName) ∈ uW := uI2 (i := 7) (by decide +kernel) rfl
theorem u2_8 : Cond.code ({ cls := "RopeMountain$Climb", name := "beginPitches", desc := "()V" } : MethodName) prog_2_method_11_code (2 : Nat) (Option.none : Option FieldType) ∈ uW := uI2 (i := 8) (by decide +kernel) rfl
theorem u2_9 : Cond.methodLink "RopeMountain$Climb" (111 : Nat) ({ cls := "RopeMountain$Climb", name := "pitchWanted", desc := "(I)I" } : MethodName) ∈ uW := uI2 (i := 9) (by decide +kernel) rfl
theorem u2_11 : Cond.instanceMethod ({ cls := "RopeMountain$Climb", name := "pitchWanted", desc := "(I)I" } : MethodName) ∈ uW := uI2 (i := 11) (by decide +kernel) rfl
theorem u2_12 : Cond.code ({ cls := "RopeMountain$Climb", name := "pitchWanted", desc := "(I)I" } : MethodName) prog_2_method_12_code (3 : Nat) (Option.some FieldType.int) ∈ uW := uI2 (i := 12) (by decide +kernel) rfl
theorem u2_13 : Cond.methodLink "RopeMountain$Climb" (115 : Nat) ({ cls := "RopeMountain$Climb", name := "letBegin", desc := "(I)V" } : MethodName) ∈ uW := uI2 (i := 13) (by decide +kernel) rfl
theorem u2_15 : Cond.instanceMethod ({ cls := "RopeMountain$Climb", name := "letBegin", desc := "(I)V" } : MethodName) ∈ uW := uI2 (i := 15) (by decide +kernel) rfl
theorem u2_16 : Cond.code ({ cls := "RopeMountain$Climb", name := "letBegin", desc := "(I)V" } : MethodName) prog_2_method_13_code (5 : Nat) (Option.none : Option FieldType) ∈ uW := uI2 (i := 16) (by decide +kernel) rfl
theorem u2_17 : Cond.methodLink "RopeMountain$Climb" (121 : Nat) ({ cls := "RopeMountain$Climb", name := "firstInLine", desc := "(I)I" } : MethodName) ∈ uW := uI2 (i := 17) (by decide +kernel) rfl
theorem u2_19 : Cond.instanceMethod ({ cls := "RopeMountain$Climb", name := "firstInLine", desc := "(I)I" } : MethodName) ∈ uW := uI2 (i := 19) (by decide +kernel) rfl
theorem u2_20 : Cond.code ({ cls := "RopeMountain$Climb", name := "firstInLine", desc := "(I)I" } : MethodName) prog_2_method_14_code (4 : Nat) (Option.some FieldType.int) ∈ uW := uI2 (i := 20) (by decide +kernel) rfl
theorem u2_21 : Cond.methodLink "RopeMountain$Climb" (124 : Nat) ({ cls := "RopeMountain$Climb", name := "hoursFor", desc := "(IIZ)I" } : MethodName) ∈ uW := uI2 (i := 21) (by decide +kernel) rfl
theorem u2_23 : Cond.instanceMethod ({ cls := "RopeMountain$Climb", name := "hoursFor", desc := "(IIZ)I" } : MethodName) ∈ uW := uI2 (i := 23) (by decide +kernel) rfl
theorem u2_24 : Cond.code ({ cls := "RopeMountain$Climb", name := "hoursFor", desc := "(IIZ)I" } : MethodName) prog_2_method_15_code (4 : Nat) (Option.some FieldType.int) ∈ uW := uI2 (i := 24) (by decide +kernel) rfl
theorem u2_25 : Cond.methodLink "RopeMountain$Climb" (96 : Nat) ({ cls := "RopeMountain$Climb", name := "breathe", desc := "(I)V" } : MethodName) ∈ uW := uI2 (i := 25) (by decide +kernel) rfl
theorem u2_27 : Cond.instanceMethod ({ cls := "RopeMountain$Climb", name := "breathe", desc := "(I)V" } : MethodName) ∈ uW := uI2 (i := 27) (by decide +kernel) rfl
theorem u2_28 : Cond.code ({ cls := "RopeMountain$Climb", name := "breathe", desc := "(I)V" } : MethodName) prog_2_method_16_code (4 : Nat) (Option.none : Option FieldType) ∈ uW := uI2 (i := 28) (by decide +kernel) rfl
theorem u2_29 : Cond.methodLink "RopeMountain$Climb" (134 : Nat) ({ cls := "RopeMountain$Climb", name := "pitchUnder", desc := "(I)I" } : MethodName) ∈ uW := uI2 (i := 29) (by decide +kernel) rfl
theorem u2_31 : Cond.instanceMethod ({ cls := "RopeMountain$Climb", name := "pitchUnder", desc := "(I)I" } : MethodName) ∈ uW := uI2 (i := 31) (by decide +kernel) rfl
theorem u2_32 : Cond.code ({ cls := "RopeMountain$Climb", name := "pitchUnder", desc := "(I)I" } : MethodName) prog_2_method_17_code (2 : Nat) (Option.some FieldType.int) ∈ uW := uI2 (i := 32) (by decide +kernel) rfl
theorem u2_33 : Cond.methodLink "RopeMountain$Climb" (140 : Nat) ({ cls := "java/lang/Math", name := "max", desc := "(II)I" } : MethodName) ∈ uW := uI2 (i := 33) (by decide +kernel) rfl
theorem u2_34 : Cond.static ({ cls := "java/lang/Math", name := "max", desc := "(II)I" } : MethodName) ∈ uW := uI2 (i := 34) (by decide +kernel) rfl
theorem u2_35 : Cond.code ({ cls := "java/lang/Math", name := "max", desc := "(II)I" } : MethodName) prog_8_method_65_code (2 : Nat) (Option.some FieldType.int) ∈ uW := uI2 (i := 35) (by decide +kernel) rfl
theorem u2_36 : Cond.methodLink "RopeMountainLaw" (57 : Nat) ({ cls := "RopeMountain", name := "count", desc := "(I)I" } : MethodName) ∈ uW := uI2 (i := 36) (by decide +kernel) rfl
theorem u2_37 : Cond.instanceMethod ({ cls := "RopeMountain", name := "count", desc := "(I)I" } : MethodName) ∈ uW := uI2 (i := 37) (by decide +kernel) rfl
theorem u2_38 : Cond.selects "RopeMountain" ({ cls := "RopeMountain", name := "count", desc := "(I)I" } : MethodName) ({ cls := "RopeMountain", name := "count", desc := "(I)I" } : MethodName) ∈ uW := uI2 (i := 38) (by decide +kernel) rfl
theorem u2_39 : Cond.code ({ cls := "RopeMountain", name := "count", desc := "(I)I" } : MethodName) prog_1_method_10_code (2 : Nat) (Option.some FieldType.int) ∈ uW := uI2 (i := 39) (by decide +kernel) rfl
theorem u2_40 : Cond.methodLink "RopeMountain" (93 : Nat) ({ cls := "RopeMountain$Climb", name := "summits", desc := "()I" } : MethodName) ∈ uW := uI2 (i := 40) (by decide +kernel) rfl
theorem u2_41 : Cond.instanceMethod ({ cls := "RopeMountain$Climb", name := "summits", desc := "()I" } : MethodName) ∈ uW := uI2 (i := 41) (by decide +kernel) rfl
theorem u2_42 : Cond.selects "RopeMountain$Climb" ({ cls := "RopeMountain$Climb", name := "summits", desc := "()I" } : MethodName) ({ cls := "RopeMountain$Climb", name := "summits", desc := "()I" } : MethodName) ∈ uW := uI2 (i := 42) (by decide +kernel) rfl
theorem u2_43 : Cond.code ({ cls := "RopeMountain$Climb", name := "summits", desc := "()I" } : MethodName) prog_2_method_18_code (3 : Nat) (Option.some FieldType.int) ∈ uW := uI2 (i := 43) (by decide +kernel) rfl
theorem u2_44 : Cond.methodLink "RopeMountain" (97 : Nat) ({ cls := "RopeMountain$Climb", name := "inState", desc := "(I)I" } : MethodName) ∈ uW := uI2 (i := 44) (by decide +kernel) rfl
theorem u2_45 : Cond.instanceMethod ({ cls := "RopeMountain$Climb", name := "inState", desc := "(I)I" } : MethodName) ∈ uW := uI2 (i := 45) (by decide +kernel) rfl
theorem u2_46 : Cond.selects "RopeMountain$Climb" ({ cls := "RopeMountain$Climb", name := "inState", desc := "(I)I" } : MethodName) ({ cls := "RopeMountain$Climb", name := "inState", desc := "(I)I" } : MethodName) ∈ uW := uI2 (i := 46) (by decide +kernel) rfl
theorem u2_47 : Cond.code ({ cls := "RopeMountain$Climb", name := "inState", desc := "(I)I" } : MethodName) prog_2_method_19_code (4 : Nat) (Option.some FieldType.int) ∈ uW := uI2 (i := 47) (by decide +kernel) rfl
theorem u2_48 : Cond.methodLink "RopeMountain" (101 : Nat) ({ cls := "RopeMountain$Climb", name := "allWaits", desc := "()I" } : MethodName) ∈ uW := uI2 (i := 48) (by decide +kernel) rfl
theorem u2_49 : Cond.instanceMethod ({ cls := "RopeMountain$Climb", name := "allWaits", desc := "()I" } : MethodName) ∈ uW := uI2 (i := 49) (by decide +kernel) rfl
theorem u2_50 : Cond.selects "RopeMountain$Climb" ({ cls := "RopeMountain$Climb", name := "allWaits", desc := "()I" } : MethodName) ({ cls := "RopeMountain$Climb", name := "allWaits", desc := "()I" } : MethodName) ∈ uW := uI2 (i := 50) (by decide +kernel) rfl
theorem u2_51 : Cond.code ({ cls := "RopeMountain$Climb", name := "allWaits", desc := "()I" } : MethodName) prog_2_method_20_code (3 : Nat) (Option.some FieldType.int) ∈ uW := uI2 (i := 51) (by decide +kernel) rfl
theorem u2_52 : Cond.methodLink "RopeMountainLaw" (70 : Nat) ({ cls := "RopeMountain", name := "on", desc := "(I)I" } : MethodName) ∈ uW := uI2 (i := 52) (by decide +kernel) rfl
theorem u2_53 : Cond.instanceMethod ({ cls := "RopeMountain", name := "on", desc := "(I)I" } : MethodName) ∈ uW := uI2 (i := 53) (by decide +kernel) rfl
theorem u2_54 : Cond.selects "RopeMountain" ({ cls := "RopeMountain", name := "on", desc := "(I)I" } : MethodName) ({ cls := "RopeMountain", name := "on", desc := "(I)I" } : MethodName) ∈ uW := uI2 (i := 54) (by decide +kernel) rfl
theorem u2_55 : Cond.code ({ cls := "RopeMountain", name := "on", desc := "(I)I" } : MethodName) prog_1_method_12_code (2 : Nat) (Option.some FieldType.int) ∈ uW := uI2 (i := 55) (by decide +kernel) rfl
theorem u2_56 : Cond.methodLink "RopeMountain" (137 : Nat) ({ cls := "RopeMountain$Climb", name := "howManyOn", desc := "(I)I" } : MethodName) ∈ uW := uI2 (i := 56) (by decide +kernel) rfl
theorem u2_57 : Cond.instanceMethod ({ cls := "RopeMountain$Climb", name := "howManyOn", desc := "(I)I" } : MethodName) ∈ uW := uI2 (i := 57) (by decide +kernel) rfl
theorem u2_58 : Cond.selects "RopeMountain$Climb" ({ cls := "RopeMountain$Climb", name := "howManyOn", desc := "(I)I" } : MethodName) ({ cls := "RopeMountain$Climb", name := "howManyOn", desc := "(I)I" } : MethodName) ∈ uW := uI2 (i := 58) (by decide +kernel) rfl
theorem u2_59 : Cond.code ({ cls := "RopeMountain$Climb", name := "howManyOn", desc := "(I)I" } : MethodName) prog_2_method_21_code (4 : Nat) (Option.some FieldType.int) ∈ uW := uI2 (i := 59) (by decide +kernel) rfl
theorem u2_60 : Cond.methodLink "RopeMountainLaw" (74 : Nat) ({ cls := "RopeMountain", name := "at", desc := "(I)I" } : MethodName) ∈ uW := uI2 (i := 60) (by decide +kernel) rfl
theorem u2_61 : Cond.instanceMethod ({ cls := "RopeMountain", name := "at", desc := "(I)I" } : MethodName) ∈ uW := uI2 (i := 61) (by decide +kernel) rfl
theorem u2_62 : Cond.selects "RopeMountain" ({ cls := "RopeMountain", name := "at", desc := "(I)I" } : MethodName) ({ cls := "RopeMountain", name := "at", desc := "(I)I" } : MethodName) ∈ uW := uI2 (i := 62) (by decide +kernel) rfl
theorem u2_63 : Cond.code ({ cls := "RopeMountain", name := "at", desc := "(I)I" } : MethodName) prog_1_method_13_code (2 : Nat) (Option.some FieldType.int) ∈ uW := uI2 (i := 63) (by decide +kernel) rfl
theorem u2_64 : Cond.methodLink "RopeMountain" (140 : Nat) ({ cls := "RopeMountain$Climb", name := "howManyAt", desc := "(I)I" } : MethodName) ∈ uW := uI2 (i := 64) (by decide +kernel) rfl
theorem u2_65 : Cond.instanceMethod ({ cls := "RopeMountain$Climb", name := "howManyAt", desc := "(I)I" } : MethodName) ∈ uW := uI2 (i := 65) (by decide +kernel) rfl
theorem u2_66 : Cond.selects "RopeMountain$Climb" ({ cls := "RopeMountain$Climb", name := "howManyAt", desc := "(I)I" } : MethodName) ({ cls := "RopeMountain$Climb", name := "howManyAt", desc := "(I)I" } : MethodName) ∈ uW := uI2 (i := 66) (by decide +kernel) rfl
theorem u2_67 : Cond.code ({ cls := "RopeMountain$Climb", name := "howManyAt", desc := "(I)I" } : MethodName) prog_2_method_22_code (4 : Nat) (Option.some FieldType.int) ∈ uW := uI2 (i := 67) (by decide +kernel) rfl
theorem u2_68 : Cond.methodLink "RopeMountainLaw" (78 : Nat) ({ cls := "RopeMountain", name := "fetch", desc := "(I)I" } : MethodName) ∈ uW := uI2 (i := 68) (by decide +kernel) rfl
theorem u2_69 : Cond.instanceMethod ({ cls := "RopeMountain", name := "fetch", desc := "(I)I" } : MethodName) ∈ uW := uI2 (i := 69) (by decide +kernel) rfl
theorem u2_70 : Cond.selects "RopeMountain" ({ cls := "RopeMountain", name := "fetch", desc := "(I)I" } : MethodName) ({ cls := "RopeMountain", name := "fetch", desc := "(I)I" } : MethodName) ∈ uW := uI2 (i := 70) (by decide +kernel) rfl
theorem u2_71 : Cond.code ({ cls := "RopeMountain", name := "fetch", desc := "(I)I" } : MethodName) prog_1_method_14_code (2 : Nat) (Option.some FieldType.int) ∈ uW := uI2 (i := 71) (by decide +kernel) rfl
theorem u2_72 : Cond.methodLink "RopeMountain" (104 : Nat) ({ cls := "RopeMountain$Party", name := "has", desc := "(I)Z" } : MethodName) ∈ uW := uI2 (i := 72) (by decide +kernel) rfl
theorem u2_73 : Cond.instanceMethod ({ cls := "RopeMountain$Party", name := "has", desc := "(I)Z" } : MethodName) ∈ uW := uI2 (i := 73) (by decide +kernel) rfl
theorem u2_74 : Cond.selects "RopeMountain$Party" ({ cls := "RopeMountain$Party", name := "has", desc := "(I)Z" } : MethodName) ({ cls := "RopeMountain$Party", name := "has", desc := "(I)Z" } : MethodName) ∈ uW := uI2 (i := 74) (by decide +kernel) rfl
theorem u2_75 : Cond.code ({ cls := "RopeMountain$Party", name := "has", desc := "(I)Z" } : MethodName) prog_3_method_2_code (2 : Nat) (Option.some FieldType.boolean) ∈ uW := uI2 (i := 75) (by decide +kernel) rfl
theorem u2_77 : Cond.methodLink "RopeMountain" (143 : Nat) ({ cls := "RopeMountain$Climb", name := "fetcherTo", desc := "(I)I" } : MethodName) ∈ uW := uI2 (i := 77) (by decide +kernel) rfl
theorem u2_78 : Cond.instanceMethod ({ cls := "RopeMountain$Climb", name := "fetcherTo", desc := "(I)I" } : MethodName) ∈ uW := uI2 (i := 78) (by decide +kernel) rfl
theorem u2_79 : Cond.selects "RopeMountain$Climb" ({ cls := "RopeMountain$Climb", name := "fetcherTo", desc := "(I)I" } : MethodName) ({ cls := "RopeMountain$Climb", name := "fetcherTo", desc := "(I)I" } : MethodName) ∈ uW := uI2 (i := 79) (by decide +kernel) rfl
theorem u2_80 : Cond.code ({ cls := "RopeMountain$Climb", name := "fetcherTo", desc := "(I)I" } : MethodName) prog_2_method_23_code (6 : Nat) (Option.some FieldType.int) ∈ uW := uI2 (i := 80) (by decide +kernel) rfl
theorem u2_81 : Cond.methodLink "RopeMountain$Climb" (146 : Nat) ({ cls := "RopeMountain$Climb", name := "couldReach", desc := "(II)Z" } : MethodName) ∈ uW := uI2 (i := 81) (by decide +kernel) rfl
theorem u2_83 : Cond.instanceMethod ({ cls := "RopeMountain$Climb", name := "couldReach", desc := "(II)Z" } : MethodName) ∈ uW := uI2 (i := 83) (by decide +kernel) rfl
theorem u2_84 : Cond.code ({ cls := "RopeMountain$Climb", name := "couldReach", desc := "(II)Z" } : MethodName) prog_2_method_24_code (3 : Nat) (Option.some FieldType.boolean) ∈ uW := uI2 (i := 84) (by decide +kernel) rfl
theorem u2_85 : Cond.methodLink "RopeMountain$Climb" (150 : Nat) ({ cls := "RopeMountain$Climb", name := "hoursTo", desc := "(III)I" } : MethodName) ∈ uW := uI2 (i := 85) (by decide +kernel) rfl
theorem u2_87 : Cond.instanceMethod ({ cls := "RopeMountain$Climb", name := "hoursTo", desc := "(III)I" } : MethodName) ∈ uW := uI2 (i := 87) (by decide +kernel) rfl
theorem u2_88 : Cond.code ({ cls := "RopeMountain$Climb", name := "hoursTo", desc := "(III)I" } : MethodName) prog_2_method_25_code (7 : Nat) (Option.some FieldType.int) ∈ uW := uI2 (i := 88) (by decide +kernel) rfl
theorem u2_89 : Cond.methodLink "RopeMountain$Climb" (154 : Nat) ({ cls := "java/lang/Math", name := "min", desc := "(II)I" } : MethodName) ∈ uW := uI2 (i := 89) (by decide +kernel) rfl
theorem u2_90 : Cond.methodLink "RopeMountainLaw" (82 : Nat) ({ cls := "RopeMountain", name := "tries", desc := "(IIIII)I" } : MethodName) ∈ uW := uI2 (i := 90) (by decide +kernel) rfl
theorem u2_91 : Cond.instanceMethod ({ cls := "RopeMountain", name := "tries", desc := "(IIIII)I" } : MethodName) ∈ uW := uI2 (i := 91) (by decide +kernel) rfl
theorem u2_92 : Cond.selects "RopeMountain" ({ cls := "RopeMountain", name := "tries", desc := "(IIIII)I" } : MethodName) ({ cls := "RopeMountain", name := "tries", desc := "(IIIII)I" } : MethodName) ∈ uW := uI2 (i := 92) (by decide +kernel) rfl
theorem u2_93 : Cond.code ({ cls := "RopeMountain", name := "tries", desc := "(IIIII)I" } : MethodName) prog_1_method_15_code (6 : Nat) (Option.some FieldType.int) ∈ uW := uI2 (i := 93) (by decide +kernel) rfl
theorem u2_94 : Cond.methodLink "RopeMountain" (146 : Nat) ({ cls := "RopeMountain", name := "areTriable", desc := "(IIII)Z" } : MethodName) ∈ uW := uI2 (i := 94) (by decide +kernel) rfl
theorem u2_95 : Cond.static ({ cls := "RopeMountain", name := "areTriable", desc := "(IIII)Z" } : MethodName) ∈ uW := uI2 (i := 95) (by decide +kernel) rfl
theorem u2_96 : Cond.code ({ cls := "RopeMountain", name := "areTriable", desc := "(IIII)Z" } : MethodName) prog_1_method_20_code (4 : Nat) (Option.some FieldType.boolean) ∈ uW := uI2 (i := 96) (by decide +kernel) rfl
theorem u2_97 : Cond.methodLink "RopeMountain" (150 : Nat) ({ cls := "RopeMountain$Climb", name := "takeStarts", desc := "()V" } : MethodName) ∈ uW := uI2 (i := 97) (by decide +kernel) rfl
theorem u2_98 : Cond.instanceMethod ({ cls := "RopeMountain$Climb", name := "takeStarts", desc := "()V" } : MethodName) ∈ uW := uI2 (i := 98) (by decide +kernel) rfl
theorem u2_99 : Cond.selects "RopeMountain$Climb" ({ cls := "RopeMountain$Climb", name := "takeStarts", desc := "()V" } : MethodName) ({ cls := "RopeMountain$Climb", name := "takeStarts", desc := "()V" } : MethodName) ∈ uW := uI2 (i := 99) (by decide +kernel) rfl
theorem u2_100 : Cond.code ({ cls := "RopeMountain$Climb", name := "takeStarts", desc := "()V" } : MethodName) prog_2_method_4_code (1 : Nat) (Option.none : Option FieldType) ∈ uW := uI2 (i := 100) (by decide +kernel) rfl
theorem u2_101 : Cond.methodLink "RopeMountain$Climb" (65 : Nat) ({ cls := "java/lang/System", name := "arraycopy", desc := "(Ljava/lang/Object;ILjava/lang/Object;II)V" } : MethodName) ∈ uW := uI2 (i := 101) (by decide +kernel) rfl
theorem u2_102 : Cond.static ({ cls := "java/lang/System", name := "arraycopy", desc := "(Ljava/lang/Object;ILjava/lang/Object;II)V" } : MethodName) ∈ uW := uI2 (i := 102) (by decide +kernel) rfl
theorem u2_103 : Cond.native ({ cls := "java/lang/System", name := "arraycopy", desc := "(Ljava/lang/Object;ILjava/lang/Object;II)V" } : MethodName) ∈ uW := uI2 (i := 103) (by decide +kernel) rfl
theorem u2_104 : Cond.methodLink "RopeMountain" (154 : Nat) ({ cls := "RopeMountain$Climb", name := "tryOut", desc := "()V" } : MethodName) ∈ uW := uI2 (i := 104) (by decide +kernel) rfl
theorem u2_105 : Cond.instanceMethod ({ cls := "RopeMountain$Climb", name := "tryOut", desc := "()V" } : MethodName) ∈ uW := uI2 (i := 105) (by decide +kernel) rfl
theorem u2_106 : Cond.selects "RopeMountain$Climb" ({ cls := "RopeMountain$Climb", name := "tryOut", desc := "()V" } : MethodName) ({ cls := "RopeMountain$Climb", name := "tryOut", desc := "()V" } : MethodName) ∈ uW := uI2 (i := 106) (by decide +kernel) rfl
theorem u2_107 : Cond.code ({ cls := "RopeMountain$Climb", name := "tryOut", desc := "()V" } : MethodName) prog_2_method_5_code (2 : Nat) (Option.none : Option FieldType) ∈ uW := uI2 (i := 107) (by decide +kernel) rfl
theorem u2_108 : Cond.methodLink "RopeMountain$Climb" (71 : Nat) ({ cls := "RopeMountain$Climb", name := "reset", desc := "()V" } : MethodName) ∈ uW := uI2 (i := 108) (by decide +kernel) rfl
theorem u2_109 : Cond.methodLink "RopeMountain$Climb" (74 : Nat) ({ cls := "RopeMountain$Climb", name := "isOver", desc := "()Z" } : MethodName) ∈ uW := uI2 (i := 109) (by decide +kernel) rfl
theorem u2_111 : Cond.instanceMethod ({ cls := "RopeMountain$Climb", name := "isOver", desc := "()Z" } : MethodName) ∈ uW := uI2 (i := 111) (by decide +kernel) rfl
theorem u2_112 : Cond.code ({ cls := "RopeMountain$Climb", name := "isOver", desc := "()Z" } : MethodName) prog_2_method_6_code (2 : Nat) (Option.some FieldType.boolean) ∈ uW := uI2 (i := 112) (by decide +kernel) rfl
theorem u2_113 : Cond.methodLink "RopeMountain$Climb" (78 : Nat) ({ cls := "RopeMountain$Climb", name := "passHour", desc := "()V" } : MethodName) ∈ uW := uI2 (i := 113) (by decide +kernel) rfl
theorem u2_114 : Cond.methodLink "RopeMountainLaw" (87 : Nat) ({ cls := "RopeMountain", name := "plan", desc := "(I)I" } : MethodName) ∈ uW := uI2 (i := 114) (by decide +kernel) rfl
theorem u2_115 : Cond.instanceMethod ({ cls := "RopeMountain", name := "plan", desc := "(I)I" } : MethodName) ∈ uW := uI2 (i := 115) (by decide +kernel) rfl
theorem u2_116 : Cond.selects "RopeMountain" ({ cls := "RopeMountain", name := "plan", desc := "(I)I" } : MethodName) ({ cls := "RopeMountain", name := "plan", desc := "(I)I" } : MethodName) ∈ uW := uI2 (i := 116) (by decide +kernel) rfl
theorem u2_117 : Cond.code ({ cls := "RopeMountain", name := "plan", desc := "(I)I" } : MethodName) prog_1_method_16_code (3 : Nat) (Option.some FieldType.int) ∈ uW := uI2 (i := 117) (by decide +kernel) rfl
theorem u2_118 : Cond.methodLink "RopeMountain" (157 : Nat) ({ cls := "RopeMountain", name := "bestPlan", desc := "(I)I" } : MethodName) ∈ uW := uI2 (i := 118) (by decide +kernel) rfl
theorem u2_120 : Cond.instanceMethod ({ cls := "RopeMountain", name := "bestPlan", desc := "(I)I" } : MethodName) ∈ uW := uI2 (i := 120) (by decide +kernel) rfl
theorem u2_121 : Cond.code ({ cls := "RopeMountain", name := "bestPlan", desc := "(I)I" } : MethodName) prog_1_method_21_code (8 : Nat) (Option.some FieldType.int) ∈ uW := uI2 (i := 121) (by decide +kernel) rfl
theorem u2_122 : Cond.methodLink "RopeMountain" (170 : Nat) ({ cls := "RopeMountain", name := "merit", desc := "(III)I" } : MethodName) ∈ uW := uI2 (i := 122) (by decide +kernel) rfl
theorem u2_123 : Cond.static ({ cls := "RopeMountain", name := "merit", desc := "(III)I" } : MethodName) ∈ uW := uI2 (i := 123) (by decide +kernel) rfl
theorem u2_124 : Cond.code ({ cls := "RopeMountain", name := "merit", desc := "(III)I" } : MethodName) prog_1_method_23_code (5 : Nat) (Option.some FieldType.int) ∈ uW := uI2 (i := 124) (by decide +kernel) rfl
theorem u2_125 : Cond.methodLink "RopeMountain" (160 : Nat) ({ cls := "RopeMountain", name := "readPlan", desc := "(II)Z" } : MethodName) ∈ uW := uI2 (i := 125) (by decide +kernel) rfl
theorem u2_127 : Cond.instanceMethod ({ cls := "RopeMountain", name := "readPlan", desc := "(II)Z" } : MethodName) ∈ uW := uI2 (i := 127) (by decide +kernel) rfl
theorem u2_128 : Cond.code ({ cls := "RopeMountain", name := "readPlan", desc := "(II)Z" } : MethodName) prog_1_method_22_code (7 : Nat) (Option.some FieldType.boolean) ∈ uW := uI2 (i := 128) (by decide +kernel) rfl
theorem u2_129 : Cond.methodLink "RopeMountain" (173 : Nat) ({ cls := "RopeMountain$Party", name := "hasAnyOf", desc := "(I)Z" } : MethodName) ∈ uW := uI2 (i := 129) (by decide +kernel) rfl
theorem u2_130 : Cond.instanceMethod ({ cls := "RopeMountain$Party", name := "hasAnyOf", desc := "(I)Z" } : MethodName) ∈ uW := uI2 (i := 130) (by decide +kernel) rfl
theorem u2_131 : Cond.selects "RopeMountain$Party" ({ cls := "RopeMountain$Party", name := "hasAnyOf", desc := "(I)Z" } : MethodName) ({ cls := "RopeMountain$Party", name := "hasAnyOf", desc := "(I)Z" } : MethodName) ∈ uW := uI2 (i := 131) (by decide +kernel) rfl
theorem u2_132 : Cond.code ({ cls := "RopeMountain$Party", name := "hasAnyOf", desc := "(I)Z" } : MethodName) prog_3_method_3_code (3 : Nat) (Option.some FieldType.boolean) ∈ uW := uI2 (i := 132) (by decide +kernel) rfl
theorem u2_133 : Cond.methodLink "RopeMountain" (164 : Nat) ({ cls := "java/lang/System", name := "arraycopy", desc := "(Ljava/lang/Object;ILjava/lang/Object;II)V" } : MethodName) ∈ uW := uI2 (i := 133) (by decide +kernel) rfl
theorem u2_134 : Cond.methodLink "RopeMountainLaw" (91 : Nat) ({ cls := "RopeMountain", name := "need", desc := "(II)I" } : MethodName) ∈ uW := uI2 (i := 134) (by decide +kernel) rfl
theorem u2_135 : Cond.instanceMethod ({ cls := "RopeMountain", name := "need", desc := "(II)I" } : MethodName) ∈ uW := uI2 (i := 135) (by decide +kernel) rfl
theorem u2_136 : Cond.selects "RopeMountain" ({ cls := "RopeMountain", name := "need", desc := "(II)I" } : MethodName) ({ cls := "RopeMountain", name := "need", desc := "(II)I" } : MethodName) ∈ uW := uI2 (i := 136) (by decide +kernel) rfl
theorem u2_137 : Cond.code ({ cls := "RopeMountain", name := "need", desc := "(II)I" } : MethodName) prog_1_method_17_code (6 : Nat) (Option.some FieldType.int) ∈ uW := uI2 (i := 137) (by decide +kernel) rfl
theorem u2_138 : Cond.methodLink "RopeMountainLaw" (95 : Nat) ({ cls := "RopeMountain", name := "comes", desc := "(II)I" } : MethodName) ∈ uW := uI2 (i := 138) (by decide +kernel) rfl
theorem u2_139 : Cond.instanceMethod ({ cls := "RopeMountain", name := "comes", desc := "(II)I" } : MethodName) ∈ uW := uI2 (i := 139) (by decide +kernel) rfl
theorem u2_140 : Cond.selects "RopeMountain" ({ cls := "RopeMountain", name := "comes", desc := "(II)I" } : MethodName) ({ cls := "RopeMountain", name := "comes", desc := "(II)I" } : MethodName) ∈ uW := uI2 (i := 140) (by decide +kernel) rfl
theorem u2_141 : Cond.code ({ cls := "RopeMountain", name := "comes", desc := "(II)I" } : MethodName) prog_1_method_18_code (6 : Nat) (Option.some FieldType.int) ∈ uW := uI2 (i := 141) (by decide +kernel) rfl
theorem u2_142 : Cond.methodLink "RopeMountainLaw" (61 : Nat) ({ cls := "RopeMountainLaw", name := "of", desc := "(LRopeMountain;II[J)I" } : MethodName) ∈ uW := uI2 (i := 142) (by decide +kernel) rfl
theorem u2_143 : Cond.static ({ cls := "RopeMountainLaw", name := "of", desc := "(LRopeMountain;II[J)I" } : MethodName) ∈ uW := uI2 (i := 143) (by decide +kernel) rfl
theorem u2_145 : Cond.classLink "RopeMountainLaw" (13 : Nat) "java/util/NoSuchElementException" ∈ uW := uI2 (i := 145) (by decide +kernel) rfl
theorem u2_146 : Cond.methodLink "RopeMountainLaw" (7 : Nat) ({ cls := "RopeMountain", name := "of", desc := "(II)I" } : MethodName) ∈ uW := uI2 (i := 146) (by decide +kernel) rfl
theorem u2_147 : Cond.instanceMethod ({ cls := "RopeMountain", name := "of", desc := "(II)I" } : MethodName) ∈ uW := uI2 (i := 147) (by decide +kernel) rfl
theorem u2_148 : Cond.selects "RopeMountain" ({ cls := "RopeMountain", name := "of", desc := "(II)I" } : MethodName) ({ cls := "RopeMountain", name := "of", desc := "(II)I" } : MethodName) ∈ uW := uI2 (i := 148) (by decide +kernel) rfl
theorem u2_149 : Cond.code ({ cls := "RopeMountain", name := "of", desc := "(II)I" } : MethodName) prog_1_method_11_code (3 : Nat) (Option.some FieldType.int) ∈ uW := uI2 (i := 149) (by decide +kernel) rfl
theorem u2_150 : Cond.classLink "RopeMountain" (107 : Nat) "java/util/NoSuchElementException" ∈ uW := uI2 (i := 150) (by decide +kernel) rfl
theorem u2_151 : Cond.instantiable "java/util/NoSuchElementException" (6 : Nat) ∈ uW := uI2 (i := 151) (by decide +kernel) rfl
theorem u2_159 : Cond.selects "java/util/NoSuchElementException" ({ cls := "java/lang/Throwable", name := "fillInStackTrace", desc := "(I)Ljava/lang/Throwable;" } : MethodName) ({ cls := "java/lang/Throwable", name := "fillInStackTrace", desc := "(I)Ljava/lang/Throwable;" } : MethodName) ∈ uW := uI2 (i := 159) (by decide +kernel) rfl
theorem u2_160 : Cond.selects "java/util/NoSuchElementException" ({ cls := "java/lang/Throwable", name := "fillInStackTrace", desc := "()Ljava/lang/Throwable;" } : MethodName) ({ cls := "java/lang/Throwable", name := "fillInStackTrace", desc := "()Ljava/lang/Throwable;" } : MethodName) ∈ uW := uI2 (i := 160) (by decide +kernel) rfl
theorem u2_161 : Cond.lays "java/util/NoSuchElementException" "java/lang/Throwable" "cause" "Ljava/lang/Throwable;" ∈ uW := uI2 (i := 161) (by decide +kernel) rfl
theorem u2_162 : Cond.lays "java/lang/Throwable" "java/lang/Throwable" "cause" "Ljava/lang/Throwable;" ∈ uW := uI2 (i := 162) (by decide +kernel) rfl
theorem u2_163 : Cond.lays "java/util/NoSuchElementException" "java/lang/Throwable" "stackTrace" "[Ljava/lang/StackTraceElement;" ∈ uW := uI2 (i := 163) (by decide +kernel) rfl
theorem u2_164 : Cond.lays "java/lang/Throwable" "java/lang/Throwable" "stackTrace" "[Ljava/lang/StackTraceElement;" ∈ uW := uI2 (i := 164) (by decide +kernel) rfl
theorem u2_165 : Cond.lays "java/util/NoSuchElementException" "java/lang/Throwable" "suppressedExceptions" "Ljava/util/List;" ∈ uW := uI2 (i := 165) (by decide +kernel) rfl
theorem u2_166 : Cond.lays "java/lang/Throwable" "java/lang/Throwable" "suppressedExceptions" "Ljava/util/List;" ∈ uW := uI2 (i := 166) (by decide +kernel) rfl
theorem u2_167 : Cond.lays "java/util/NoSuchElementException" "java/lang/Throwable" "detailMessage" "Ljava/lang/String;" ∈ uW := uI2 (i := 167) (by decide +kernel) rfl
theorem u2_168 : Cond.lays "java/lang/Throwable" "java/lang/Throwable" "detailMessage" "Ljava/lang/String;" ∈ uW := uI2 (i := 168) (by decide +kernel) rfl
theorem u2_169 : Cond.lays "java/util/NoSuchElementException" "java/lang/Throwable" "backtrace" "Ljava/lang/Object;" ∈ uW := uI2 (i := 169) (by decide +kernel) rfl
theorem u2_170 : Cond.lays "java/lang/Throwable" "java/lang/Throwable" "backtrace" "Ljava/lang/Object;" ∈ uW := uI2 (i := 170) (by decide +kernel) rfl
theorem u2_171 : Cond.fieldLink "java/lang/Throwable" (198 : Nat) "java/lang/Throwable" "backtrace" "Ljava/lang/Object;" ∈ uW := uI2 (i := 171) (by decide +kernel) rfl
theorem u2_172 : Cond.superclass "java/lang/Throwable" "java/lang/Object" ∈ uW := uI2 (i := 172) (by decide +kernel) rfl
theorem u2_173 : Cond.instanceMethod ({ cls := "java/lang/Throwable", name := "<init>", desc := "()V" } : MethodName) ∈ uW := uI2 (i := 173) (by decide +kernel) rfl
theorem u2_174 : Cond.code ({ cls := "java/lang/Throwable", name := "<init>", desc := "()V" } : MethodName) prog_12_method_1_code (1 : Nat) (Option.none : Option FieldType) ∈ uW := uI2 (i := 174) (by decide +kernel) rfl
theorem u2_175 : Cond.methodLink "java/lang/Throwable" (1 : Nat) ({ cls := "java/lang/Object", name := "<init>", desc := "()V" } : MethodName) ∈ uW := uI2 (i := 175) (by decide +kernel) rfl
theorem u2_176 : Cond.fieldLink "java/lang/Throwable" (13 : Nat) "java/lang/Throwable" "UNASSIGNED_STACK" "[Ljava/lang/StackTraceElement;" ∈ uW := uI2 (i := 176) (by decide +kernel) rfl
theorem u2_178 : Cond.fieldLink "java/lang/Throwable" (20 : Nat) "java/lang/Throwable" "SUPPRESSED_SENTINEL" "Ljava/util/List;" ∈ uW := uI2 (i := 178) (by decide +kernel) rfl
theorem u2_180 : Cond.methodLink "java/lang/Throwable" (27 : Nat) ({ cls := "java/lang/Throwable", name := "fillInStackTrace", desc := "()Ljava/lang/Throwable;" } : MethodName) ∈ uW := uI2 (i := 180) (by decide +kernel) rfl
theorem u2_181 : Cond.instanceMethod ({ cls := "java/lang/Throwable", name := "fillInStackTrace", desc := "()Ljava/lang/Throwable;" } : MethodName) ∈ uW := uI2 (i := 181) (by decide +kernel) rfl
theorem u2_184 : Cond.methodLink "java/lang/Throwable" (202 : Nat) ({ cls := "java/lang/Throwable", name := "fillInStackTrace", desc := "(I)Ljava/lang/Throwable;" } : MethodName) ∈ uW := uI2 (i := 184) (by decide +kernel) rfl
theorem u2_186 : Cond.instanceMethod ({ cls := "java/lang/Throwable", name := "fillInStackTrace", desc := "(I)Ljava/lang/Throwable;" } : MethodName) ∈ uW := uI2 (i := 186) (by decide +kernel) rfl
theorem u2_187 : Cond.instantiable "java/lang/Throwable" (6 : Nat) ∈ uW := uI2 (i := 187) (by decide +kernel) rfl
theorem u2_188 : Cond.native ({ cls := "java/lang/Throwable", name := "fillInStackTrace", desc := "(I)Ljava/lang/Throwable;" } : MethodName) ∈ uW := uI2 (i := 188) (by decide +kernel) rfl
theorem u2_190 : Cond.methodLink "RopeMountain" (111 : Nat) ({ cls := "java/util/NoSuchElementException", name := "<init>", desc := "(Ljava/lang/String;)V" } : MethodName) ∈ uW := uI2 (i := 190) (by decide +kernel) rfl
theorem u2_191 : Cond.instanceMethod ({ cls := "java/util/NoSuchElementException", name := "<init>", desc := "(Ljava/lang/String;)V" } : MethodName) ∈ uW := uI2 (i := 191) (by decide +kernel) rfl
theorem u2_192 : Cond.code ({ cls := "java/util/NoSuchElementException", name := "<init>", desc := "(Ljava/lang/String;)V" } : MethodName) prog_14_method_4_code (2 : Nat) (Option.none : Option FieldType) ∈ uW := uI2 (i := 192) (by decide +kernel) rfl
theorem u2_193 : Cond.methodLink "java/util/NoSuchElementException" (13 : Nat) ({ cls := "java/lang/RuntimeException", name := "<init>", desc := "(Ljava/lang/String;)V" } : MethodName) ∈ uW := uI2 (i := 193) (by decide +kernel) rfl
theorem u2_194 : Cond.instanceMethod ({ cls := "java/lang/RuntimeException", name := "<init>", desc := "(Ljava/lang/String;)V" } : MethodName) ∈ uW := uI2 (i := 194) (by decide +kernel) rfl
theorem u2_195 : Cond.code ({ cls := "java/lang/RuntimeException", name := "<init>", desc := "(Ljava/lang/String;)V" } : MethodName) prog_9_method_2_code (2 : Nat) (Option.none : Option FieldType) ∈ uW := uI2 (i := 195) (by decide +kernel) rfl
theorem u2_196 : Cond.methodLink "java/lang/RuntimeException" (7 : Nat) ({ cls := "java/lang/Exception", name := "<init>", desc := "(Ljava/lang/String;)V" } : MethodName) ∈ uW := uI2 (i := 196) (by decide +kernel) rfl
theorem u2_197 : Cond.instanceMethod ({ cls := "java/lang/Exception", name := "<init>", desc := "(Ljava/lang/String;)V" } : MethodName) ∈ uW := uI2 (i := 197) (by decide +kernel) rfl
theorem u2_198 : Cond.code ({ cls := "java/lang/Exception", name := "<init>", desc := "(Ljava/lang/String;)V" } : MethodName) prog_7_method_2_code (2 : Nat) (Option.none : Option FieldType) ∈ uW := uI2 (i := 198) (by decide +kernel) rfl
theorem u2_199 : Cond.methodLink "java/lang/Exception" (7 : Nat) ({ cls := "java/lang/Throwable", name := "<init>", desc := "(Ljava/lang/String;)V" } : MethodName) ∈ uW := uI2 (i := 199) (by decide +kernel) rfl
theorem u2_200 : Cond.instanceMethod ({ cls := "java/lang/Throwable", name := "<init>", desc := "(Ljava/lang/String;)V" } : MethodName) ∈ uW := uI2 (i := 200) (by decide +kernel) rfl
theorem u2_201 : Cond.code ({ cls := "java/lang/Throwable", name := "<init>", desc := "(Ljava/lang/String;)V" } : MethodName) prog_12_method_2_code (2 : Nat) (Option.none : Option FieldType) ∈ uW := uI2 (i := 201) (by decide +kernel) rfl
theorem u2_202 : Cond.fieldLink "java/lang/Throwable" (198 : Nat) "java/lang/Throwable" "backtrace" "Ljava/lang/Object;" ∈ uW := uI2 (i := 202) (by decide +kernel) rfl
theorem u2_203 : Cond.fieldLink "java/lang/Throwable" (31 : Nat) "java/lang/Throwable" "detailMessage" "Ljava/lang/String;" ∈ uW := uI2 (i := 203) (by decide +kernel) rfl
theorem u2_204 : Cond.fieldLink "java/lang/Throwable" (7 : Nat) "java/lang/Throwable" "cause" "Ljava/lang/Throwable;" ∈ uW := uI2 (i := 204) (by decide +kernel) rfl
theorem u2_205 : Cond.fieldLink "java/lang/Throwable" (17 : Nat) "java/lang/Throwable" "stackTrace" "[Ljava/lang/StackTraceElement;" ∈ uW := uI2 (i := 205) (by decide +kernel) rfl
theorem u2_206 : Cond.fieldLink "java/lang/Throwable" (24 : Nat) "java/lang/Throwable" "suppressedExceptions" "Ljava/util/List;" ∈ uW := uI2 (i := 206) (by decide +kernel) rfl
theorem u2_211 : Cond.lays "java/util/NoSuchElementException" "java/lang/Throwable" "depth" "I" ∈ uW := uI2 (i := 211) (by decide +kernel) rfl
theorem u2_214 : Cond.superclass "java/util/NoSuchElementException" "java/lang/RuntimeException" ∈ uW := uI2 (i := 214) (by decide +kernel) rfl
theorem u2_215 : Cond.arrayClass FieldType.byte ∈ uW := uI2 (i := 215) (by decide +kernel) rfl
theorem u2_217 : Cond.classLink "RopeMountainLaw" (16 : Nat) "RopeMountainModel" ∈ uW := uI2 (i := 217) (by decide +kernel) rfl
theorem u2_218 : Cond.instantiable "RopeMountainModel" (19 : Nat) ∈ uW := uI2 (i := 218) (by decide +kernel) rfl
theorem u2_219 : Cond.methodLink "RopeMountainLaw" (18 : Nat) ({ cls := "RopeMountainModel", name := "<init>", desc := "()V" } : MethodName) ∈ uW := uI2 (i := 219) (by decide +kernel) rfl
theorem u2_220 : Cond.instanceMethod ({ cls := "RopeMountainModel", name := "<init>", desc := "()V" } : MethodName) ∈ uW := uI2 (i := 220) (by decide +kernel) rfl
theorem u2_221 : Cond.code ({ cls := "RopeMountainModel", name := "<init>", desc := "()V" } : MethodName) prog_6_method_1_code (2 : Nat) (Option.none : Option FieldType) ∈ uW := uI2 (i := 221) (by decide +kernel) rfl
theorem u2_222 : Cond.methodLink "RopeMountainModel" (1 : Nat) ({ cls := "java/lang/Object", name := "<init>", desc := "()V" } : MethodName) ∈ uW := uI2 (i := 222) (by decide +kernel) rfl
theorem u2_223 : Cond.methodLink "RopeMountainModel" (51 : Nat) ({ cls := "RopeMountainModel", name := "levelAll", desc := "()V" } : MethodName) ∈ uW := uI2 (i := 223) (by decide +kernel) rfl
theorem u2_225 : Cond.instanceMethod ({ cls := "RopeMountainModel", name := "levelAll", desc := "()V" } : MethodName) ∈ uW := uI2 (i := 225) (by decide +kernel) rfl
theorem u2_226 : Cond.code ({ cls := "RopeMountainModel", name := "levelAll", desc := "()V" } : MethodName) prog_6_method_4_code (2 : Nat) (Option.none : Option FieldType) ∈ uW := uI2 (i := 226) (by decide +kernel) rfl
theorem u2_227 : Cond.fieldLink "RopeMountainModel" (7 : Nat) "RopeMountainModel" "pitches" "I" ∈ uW := uI2 (i := 227) (by decide +kernel) rfl
theorem u2_228 : Cond.fieldLink "RopeMountainModel" (13 : Nat) "RopeMountainModel" "length" "[I" ∈ uW := uI2 (i := 228) (by decide +kernel) rfl
theorem u2_229 : Cond.fieldLink "RopeMountainModel" (17 : Nat) "RopeMountainModel" "width" "[I" ∈ uW := uI2 (i := 229) (by decide +kernel) rfl
theorem u2_230 : Cond.fieldLink "RopeMountainModel" (20 : Nat) "RopeMountainModel" "high" "I" ∈ uW := uI2 (i := 230) (by decide +kernel) rfl
theorem u2_231 : Cond.fieldLink "RopeMountainModel" (61 : Nat) "RopeMountainModel" "hour" "I" ∈ uW := uI2 (i := 231) (by decide +kernel) rfl
theorem u2_232 : Cond.fieldLink "RopeMountainModel" (23 : Nat) "RopeMountainModel" "windy" "[Z" ∈ uW := uI2 (i := 232) (by decide +kernel) rfl
theorem u2_233 : Cond.fieldLink "RopeMountainModel" (27 : Nat) "RopeMountainModel" "start" "[I" ∈ uW := uI2 (i := 233) (by decide +kernel) rfl
theorem u2_234 : Cond.fieldLink "RopeMountainModel" (30 : Nat) "RopeMountainModel" "turn" "[I" ∈ uW := uI2 (i := 234) (by decide +kernel) rfl
theorem u2_235 : Cond.fieldLink "RopeMountainModel" (64 : Nat) "RopeMountainModel" "climbers" "I" ∈ uW := uI2 (i := 235) (by decide +kernel) rfl
theorem u2_236 : Cond.fieldLink "RopeMountainModel" (33 : Nat) "RopeMountainModel" "team" "[I" ∈ uW := uI2 (i := 236) (by decide +kernel) rfl
theorem u2_237 : Cond.fieldLink "RopeMountainModel" (36 : Nat) "RopeMountainModel" "pace" "[I" ∈ uW := uI2 (i := 237) (by decide +kernel) rfl
theorem u2_238 : Cond.fieldLink "RopeMountainModel" (39 : Nat) "RopeMountainModel" "full" "[I" ∈ uW := uI2 (i := 238) (by decide +kernel) rfl
theorem u2_239 : Cond.fieldLink "RopeMountainModel" (42 : Nat) "RopeMountainModel" "now" "[I" ∈ uW := uI2 (i := 239) (by decide +kernel) rfl
theorem u3_0 : Cond.fieldLink "RopeMountainModel" (45 : Nat) "RopeMountainModel" "aside" "[I" ∈ uW := uI3 (i := 0) (by decide +kernel) rfl
theorem u3_1 : Cond.fieldLink "RopeMountainModel" (48 : Nat) "RopeMountainModel" "starts" "[I" ∈ uW := uI3 (i := 1) (by decide +kernel) rfl
theorem u3_2 : Cond.fieldLink "RopeMountainModel" (54 : Nat) "RopeMountainModel" "thrown" "I" ∈ uW := uI3 (i := 2) (by decide +kernel) rfl
theorem u3_3 : Cond.fieldLink "RopeMountainModel" (138 : Nat) "RopeMountainModel" "triedSummits" "I" ∈ uW := uI3 (i := 3) (by decide +kernel) rfl
theorem u3_4 : Cond.fieldLink "RopeMountainModel" (141 : Nat) "RopeMountainModel" "triedStranded" "I" ∈ uW := uI3 (i := 4) (by decide +kernel) rfl
theorem u3_5 : Cond.fieldLink "RopeMountainModel" (144 : Nat) "RopeMountainModel" "triedWaits" "I" ∈ uW := uI3 (i := 5) (by decide +kernel) rfl
theorem u3_6 : Cond.lays "RopeMountainModel" "RopeMountainModel" "pitches" "I" ∈ uW := uI3 (i := 6) (by decide +kernel) rfl
theorem u3_8 : Cond.laysFinal "RopeMountainModel" "RopeMountainModel" "length" "[I" ∈ uW := uI3 (i := 8) (by decide +kernel) rfl
theorem u3_10 : Cond.laysFinal "RopeMountainModel" "RopeMountainModel" "width" "[I" ∈ uW := uI3 (i := 10) (by decide +kernel) rfl
theorem u3_12 : Cond.lays "RopeMountainModel" "RopeMountainModel" "high" "I" ∈ uW := uI3 (i := 12) (by decide +kernel) rfl
theorem u3_14 : Cond.lays "RopeMountainModel" "RopeMountainModel" "hour" "I" ∈ uW := uI3 (i := 14) (by decide +kernel) rfl
theorem u3_16 : Cond.laysFinal "RopeMountainModel" "RopeMountainModel" "windy" "[Z" ∈ uW := uI3 (i := 16) (by decide +kernel) rfl
theorem u3_18 : Cond.laysFinal "RopeMountainModel" "RopeMountainModel" "start" "[I" ∈ uW := uI3 (i := 18) (by decide +kernel) rfl
theorem u3_20 : Cond.laysFinal "RopeMountainModel" "RopeMountainModel" "turn" "[I" ∈ uW := uI3 (i := 20) (by decide +kernel) rfl
theorem u3_22 : Cond.lays "RopeMountainModel" "RopeMountainModel" "climbers" "I" ∈ uW := uI3 (i := 22) (by decide +kernel) rfl
theorem u3_24 : Cond.laysFinal "RopeMountainModel" "RopeMountainModel" "team" "[I" ∈ uW := uI3 (i := 24) (by decide +kernel) rfl
theorem u3_26 : Cond.laysFinal "RopeMountainModel" "RopeMountainModel" "pace" "[I" ∈ uW := uI3 (i := 26) (by decide +kernel) rfl
theorem u3_28 : Cond.laysFinal "RopeMountainModel" "RopeMountainModel" "full" "[I" ∈ uW := uI3 (i := 28) (by decide +kernel) rfl
theorem u3_30 : Cond.laysFinal "RopeMountainModel" "RopeMountainModel" "now" "[I" ∈ uW := uI3 (i := 30) (by decide +kernel) rfl
theorem u3_32 : Cond.laysFinal "RopeMountainModel" "RopeMountainModel" "aside" "[I" ∈ uW := uI3 (i := 32) (by decide +kernel) rfl
theorem u3_34 : Cond.laysFinal "RopeMountainModel" "RopeMountainModel" "starts" "[I" ∈ uW := uI3 (i := 34) (by decide +kernel) rfl
theorem u3_36 : Cond.lays "RopeMountainModel" "RopeMountainModel" "thrown" "I" ∈ uW := uI3 (i := 36) (by decide +kernel) rfl
theorem u3_38 : Cond.lays "RopeMountainModel" "RopeMountainModel" "triedSummits" "I" ∈ uW := uI3 (i := 38) (by decide +kernel) rfl
theorem u3_40 : Cond.lays "RopeMountainModel" "RopeMountainModel" "triedStranded" "I" ∈ uW := uI3 (i := 40) (by decide +kernel) rfl
theorem u3_42 : Cond.lays "RopeMountainModel" "RopeMountainModel" "triedWaits" "I" ∈ uW := uI3 (i := 42) (by decide +kernel) rfl
theorem u3_44 : Cond.superclass "RopeMountainModel" "java/lang/Object" ∈ uW := uI3 (i := 44) (by decide +kernel) rfl
theorem u3_45 : Cond.methodLink "RopeMountainLaw" (67 : Nat) ({ cls := "RopeMountainModel", name := "thrown", desc := "()I" } : MethodName) ∈ uW := uI3 (i := 45) (by decide +kernel) rfl
theorem u3_46 : Cond.instanceMethod ({ cls := "RopeMountainModel", name := "thrown", desc := "()I" } : MethodName) ∈ uW := uI3 (i := 46) (by decide +kernel) rfl
theorem u3_47 : Cond.selects "RopeMountainModel" ({ cls := "RopeMountainModel", name := "thrown", desc := "()I" } : MethodName) ({ cls := "RopeMountainModel", name := "thrown", desc := "()I" } : MethodName) ∈ uW := uI3 (i := 47) (by decide +kernel) rfl
theorem u3_48 : Cond.code ({ cls := "RopeMountainModel", name := "thrown", desc := "()I" } : MethodName) prog_6_method_2_code (1 : Nat) (Option.some FieldType.int) ∈ uW := uI3 (i := 48) (by decide +kernel) rfl
theorem u3_49 : Cond.methodLink "RopeMountainLaw" (23 : Nat) ({ cls := "RopeMountainModel", name := "mountain", desc := "(I)Z" } : MethodName) ∈ uW := uI3 (i := 49) (by decide +kernel) rfl
theorem u3_50 : Cond.instanceMethod ({ cls := "RopeMountainModel", name := "mountain", desc := "(I)Z" } : MethodName) ∈ uW := uI3 (i := 50) (by decide +kernel) rfl
theorem u3_51 : Cond.selects "RopeMountainModel" ({ cls := "RopeMountainModel", name := "mountain", desc := "(I)Z" } : MethodName) ({ cls := "RopeMountainModel", name := "mountain", desc := "(I)Z" } : MethodName) ∈ uW := uI3 (i := 51) (by decide +kernel) rfl
theorem u3_52 : Cond.code ({ cls := "RopeMountainModel", name := "mountain", desc := "(I)Z" } : MethodName) prog_6_method_9_code (2 : Nat) (Option.some FieldType.boolean) ∈ uW := uI3 (i := 52) (by decide +kernel) rfl
theorem u3_53 : Cond.methodLink "RopeMountainModel" (71 : Nat) ({ cls := "RopeMountainModel", name := "in", desc := "(III)Z" } : MethodName) ∈ uW := uI3 (i := 53) (by decide +kernel) rfl
theorem u3_54 : Cond.static ({ cls := "RopeMountainModel", name := "in", desc := "(III)Z" } : MethodName) ∈ uW := uI3 (i := 54) (by decide +kernel) rfl
theorem u3_55 : Cond.code ({ cls := "RopeMountainModel", name := "in", desc := "(III)Z" } : MethodName) prog_6_method_3_code (3 : Nat) (Option.some FieldType.boolean) ∈ uW := uI3 (i := 55) (by decide +kernel) rfl
theorem u3_56 : Cond.methodLink "RopeMountainModel" (75 : Nat) ({ cls := "java/lang/Math", name := "min", desc := "(II)I" } : MethodName) ∈ uW := uI3 (i := 56) (by decide +kernel) rfl
theorem u3_57 : Cond.methodLink "RopeMountainModel" (81 : Nat) ({ cls := "RopeMountainModel", name := "beginAll", desc := "()V" } : MethodName) ∈ uW := uI3 (i := 57) (by decide +kernel) rfl
theorem u3_59 : Cond.instanceMethod ({ cls := "RopeMountainModel", name := "beginAll", desc := "()V" } : MethodName) ∈ uW := uI3 (i := 59) (by decide +kernel) rfl
theorem u3_60 : Cond.code ({ cls := "RopeMountainModel", name := "beginAll", desc := "()V" } : MethodName) prog_6_method_8_code (2 : Nat) (Option.none : Option FieldType) ∈ uW := uI3 (i := 60) (by decide +kernel) rfl
theorem u3_61 : Cond.methodLink "RopeMountainModel" (67 : Nat) ({ cls := "RopeMountainModel", name := "lay", desc := "(II)V" } : MethodName) ∈ uW := uI3 (i := 61) (by decide +kernel) rfl
theorem u3_63 : Cond.instanceMethod ({ cls := "RopeMountainModel", name := "lay", desc := "(II)V" } : MethodName) ∈ uW := uI3 (i := 63) (by decide +kernel) rfl
theorem u3_64 : Cond.code ({ cls := "RopeMountainModel", name := "lay", desc := "(II)V" } : MethodName) prog_6_method_7_code (3 : Nat) (Option.none : Option FieldType) ∈ uW := uI3 (i := 64) (by decide +kernel) rfl
theorem u3_65 : Cond.methodLink "RopeMountainModel" (57 : Nat) ({ cls := "RopeMountainModel", name := "put", desc := "(III)V" } : MethodName) ∈ uW := uI3 (i := 65) (by decide +kernel) rfl
theorem u3_67 : Cond.instanceMethod ({ cls := "RopeMountainModel", name := "put", desc := "(III)V" } : MethodName) ∈ uW := uI3 (i := 67) (by decide +kernel) rfl
theorem u3_68 : Cond.code ({ cls := "RopeMountainModel", name := "put", desc := "(III)V" } : MethodName) prog_6_method_6_code (4 : Nat) (Option.none : Option FieldType) ∈ uW := uI3 (i := 68) (by decide +kernel) rfl
theorem u3_69 : Cond.methodLink "RopeMountainLaw" (28 : Nat) ({ cls := "RopeMountainModel", name := "pitch", desc := "(III)Z" } : MethodName) ∈ uW := uI3 (i := 69) (by decide +kernel) rfl
theorem u3_70 : Cond.instanceMethod ({ cls := "RopeMountainModel", name := "pitch", desc := "(III)Z" } : MethodName) ∈ uW := uI3 (i := 70) (by decide +kernel) rfl
theorem u3_71 : Cond.selects "RopeMountainModel" ({ cls := "RopeMountainModel", name := "pitch", desc := "(III)Z" } : MethodName) ({ cls := "RopeMountainModel", name := "pitch", desc := "(III)Z" } : MethodName) ∈ uW := uI3 (i := 71) (by decide +kernel) rfl
theorem u3_72 : Cond.code ({ cls := "RopeMountainModel", name := "pitch", desc := "(III)Z" } : MethodName) prog_6_method_11_code (4 : Nat) (Option.some FieldType.boolean) ∈ uW := uI3 (i := 72) (by decide +kernel) rfl
theorem u3_73 : Cond.methodLink "RopeMountainModel" (84 : Nat) ({ cls := "RopeMountainModel", name := "isPitch", desc := "(I)Z" } : MethodName) ∈ uW := uI3 (i := 73) (by decide +kernel) rfl
theorem u3_75 : Cond.instanceMethod ({ cls := "RopeMountainModel", name := "isPitch", desc := "(I)Z" } : MethodName) ∈ uW := uI3 (i := 75) (by decide +kernel) rfl
theorem u3_76 : Cond.code ({ cls := "RopeMountainModel", name := "isPitch", desc := "(I)Z" } : MethodName) prog_6_method_10_code (2 : Nat) (Option.some FieldType.boolean) ∈ uW := uI3 (i := 76) (by decide +kernel) rfl
theorem u3_77 : Cond.methodLink "RopeMountainLaw" (33 : Nat) ({ cls := "RopeMountainModel", name := "high", desc := "(I)I" } : MethodName) ∈ uW := uI3 (i := 77) (by decide +kernel) rfl
theorem u3_78 : Cond.instanceMethod ({ cls := "RopeMountainModel", name := "high", desc := "(I)I" } : MethodName) ∈ uW := uI3 (i := 78) (by decide +kernel) rfl
theorem u3_79 : Cond.selects "RopeMountainModel" ({ cls := "RopeMountainModel", name := "high", desc := "(I)I" } : MethodName) ({ cls := "RopeMountainModel", name := "high", desc := "(I)I" } : MethodName) ∈ uW := uI3 (i := 79) (by decide +kernel) rfl
theorem u3_80 : Cond.code ({ cls := "RopeMountainModel", name := "high", desc := "(I)I" } : MethodName) prog_6_method_12_code (3 : Nat) (Option.some FieldType.int) ∈ uW := uI3 (i := 80) (by decide +kernel) rfl
theorem u3_81 : Cond.methodLink "RopeMountainLaw" (38 : Nat) ({ cls := "RopeMountainModel", name := "wind", desc := "(IIZ)Z" } : MethodName) ∈ uW := uI3 (i := 81) (by decide +kernel) rfl
theorem u3_82 : Cond.instanceMethod ({ cls := "RopeMountainModel", name := "wind", desc := "(IIZ)Z" } : MethodName) ∈ uW := uI3 (i := 82) (by decide +kernel) rfl
theorem u3_83 : Cond.selects "RopeMountainModel" ({ cls := "RopeMountainModel", name := "wind", desc := "(IIZ)Z" } : MethodName) ({ cls := "RopeMountainModel", name := "wind", desc := "(IIZ)Z" } : MethodName) ∈ uW := uI3 (i := 83) (by decide +kernel) rfl
theorem u3_84 : Cond.code ({ cls := "RopeMountainModel", name := "wind", desc := "(IIZ)Z" } : MethodName) prog_6_method_13_code (5 : Nat) (Option.some FieldType.boolean) ∈ uW := uI3 (i := 84) (by decide +kernel) rfl
theorem u3_85 : Cond.methodLink "RopeMountainLaw" (43 : Nat) ({ cls := "RopeMountainModel", name := "climber", desc := "(III)I" } : MethodName) ∈ uW := uI3 (i := 85) (by decide +kernel) rfl
theorem u3_86 : Cond.instanceMethod ({ cls := "RopeMountainModel", name := "climber", desc := "(III)I" } : MethodName) ∈ uW := uI3 (i := 86) (by decide +kernel) rfl
theorem u3_87 : Cond.selects "RopeMountainModel" ({ cls := "RopeMountainModel", name := "climber", desc := "(III)I" } : MethodName) ({ cls := "RopeMountainModel", name := "climber", desc := "(III)I" } : MethodName) ∈ uW := uI3 (i := 87) (by decide +kernel) rfl
theorem u3_88 : Cond.code ({ cls := "RopeMountainModel", name := "climber", desc := "(III)I" } : MethodName) prog_6_method_14_code (4 : Nat) (Option.some FieldType.int) ∈ uW := uI3 (i := 88) (by decide +kernel) rfl
theorem u3_89 : Cond.methodLink "RopeMountainLaw" (47 : Nat) ({ cls := "RopeMountainModel", name := "team", desc := "(III)I" } : MethodName) ∈ uW := uI3 (i := 89) (by decide +kernel) rfl
theorem u3_90 : Cond.instanceMethod ({ cls := "RopeMountainModel", name := "team", desc := "(III)I" } : MethodName) ∈ uW := uI3 (i := 90) (by decide +kernel) rfl
theorem u3_91 : Cond.selects "RopeMountainModel" ({ cls := "RopeMountainModel", name := "team", desc := "(III)I" } : MethodName) ({ cls := "RopeMountainModel", name := "team", desc := "(III)I" } : MethodName) ∈ uW := uI3 (i := 91) (by decide +kernel) rfl
theorem u3_92 : Cond.code ({ cls := "RopeMountainModel", name := "team", desc := "(III)I" } : MethodName) prog_6_method_15_code (5 : Nat) (Option.some FieldType.int) ∈ uW := uI3 (i := 92) (by decide +kernel) rfl
theorem u3_93 : Cond.methodLink "RopeMountainLaw" (52 : Nat) ({ cls := "RopeMountainModel", name := "begin", desc := "()I" } : MethodName) ∈ uW := uI3 (i := 93) (by decide +kernel) rfl
theorem u3_94 : Cond.instanceMethod ({ cls := "RopeMountainModel", name := "begin", desc := "()I" } : MethodName) ∈ uW := uI3 (i := 94) (by decide +kernel) rfl
theorem u3_95 : Cond.selects "RopeMountainModel" ({ cls := "RopeMountainModel", name := "begin", desc := "()I" } : MethodName) ({ cls := "RopeMountainModel", name := "begin", desc := "()I" } : MethodName) ∈ uW := uI3 (i := 95) (by decide +kernel) rfl
theorem u3_96 : Cond.code ({ cls := "RopeMountainModel", name := "begin", desc := "()I" } : MethodName) prog_6_method_16_code (1 : Nat) (Option.some FieldType.int) ∈ uW := uI3 (i := 96) (by decide +kernel) rfl
theorem u3_97 : Cond.methodLink "RopeMountainLaw" (56 : Nat) ({ cls := "RopeMountainModel", name := "run", desc := "(I)I" } : MethodName) ∈ uW := uI3 (i := 97) (by decide +kernel) rfl
theorem u3_98 : Cond.instanceMethod ({ cls := "RopeMountainModel", name := "run", desc := "(I)I" } : MethodName) ∈ uW := uI3 (i := 98) (by decide +kernel) rfl
theorem u3_99 : Cond.selects "RopeMountainModel" ({ cls := "RopeMountainModel", name := "run", desc := "(I)I" } : MethodName) ({ cls := "RopeMountainModel", name := "run", desc := "(I)I" } : MethodName) ∈ uW := uI3 (i := 99) (by decide +kernel) rfl
theorem u3_100 : Cond.code ({ cls := "RopeMountainModel", name := "run", desc := "(I)I" } : MethodName) prog_6_method_26_code (3 : Nat) (Option.some FieldType.int) ∈ uW := uI3 (i := 100) (by decide +kernel) rfl
theorem u3_101 : Cond.methodLink "RopeMountainModel" (121 : Nat) ({ cls := "RopeMountainModel", name := "step", desc := "()V" } : MethodName) ∈ uW := uI3 (i := 101) (by decide +kernel) rfl
theorem u3_103 : Cond.instanceMethod ({ cls := "RopeMountainModel", name := "step", desc := "()V" } : MethodName) ∈ uW := uI3 (i := 103) (by decide +kernel) rfl
theorem u3_104 : Cond.code ({ cls := "RopeMountainModel", name := "step", desc := "()V" } : MethodName) prog_6_method_25_code (2 : Nat) (Option.none : Option FieldType) ∈ uW := uI3 (i := 104) (by decide +kernel) rfl
theorem u3_105 : Cond.methodLink "RopeMountainModel" (108 : Nat) ({ cls := "RopeMountainModel", name := "move", desc := "()V" } : MethodName) ∈ uW := uI3 (i := 105) (by decide +kernel) rfl
theorem u3_107 : Cond.instanceMethod ({ cls := "RopeMountainModel", name := "move", desc := "()V" } : MethodName) ∈ uW := uI3 (i := 107) (by decide +kernel) rfl
theorem u3_108 : Cond.code ({ cls := "RopeMountainModel", name := "move", desc := "()V" } : MethodName) prog_6_method_20_code (2 : Nat) (Option.none : Option FieldType) ∈ uW := uI3 (i := 108) (by decide +kernel) rfl
theorem u3_109 : Cond.methodLink "RopeMountainModel" (91 : Nat) ({ cls := "RopeMountainModel", name := "isAtCamp", desc := "(I)Z" } : MethodName) ∈ uW := uI3 (i := 109) (by decide +kernel) rfl
theorem u3_111 : Cond.instanceMethod ({ cls := "RopeMountainModel", name := "isAtCamp", desc := "(I)Z" } : MethodName) ∈ uW := uI3 (i := 111) (by decide +kernel) rfl
theorem u3_112 : Cond.code ({ cls := "RopeMountainModel", name := "isAtCamp", desc := "(I)Z" } : MethodName) prog_6_method_17_code (2 : Nat) (Option.some FieldType.boolean) ∈ uW := uI3 (i := 112) (by decide +kernel) rfl
theorem u3_113 : Cond.methodLink "RopeMountainModel" (88 : Nat) ({ cls := "RopeMountainModel", name := "get", desc := "(II)I" } : MethodName) ∈ uW := uI3 (i := 113) (by decide +kernel) rfl
theorem u3_115 : Cond.instanceMethod ({ cls := "RopeMountainModel", name := "get", desc := "(II)I" } : MethodName) ∈ uW := uI3 (i := 115) (by decide +kernel) rfl
theorem u3_116 : Cond.code ({ cls := "RopeMountainModel", name := "get", desc := "(II)I" } : MethodName) prog_6_method_5_code (3 : Nat) (Option.some FieldType.int) ∈ uW := uI3 (i := 116) (by decide +kernel) rfl
theorem u3_117 : Cond.methodLink "RopeMountainModel" (111 : Nat) ({ cls := "RopeMountainModel", name := "decide", desc := "(I)V" } : MethodName) ∈ uW := uI3 (i := 117) (by decide +kernel) rfl
theorem u3_119 : Cond.instanceMethod ({ cls := "RopeMountainModel", name := "decide", desc := "(I)V" } : MethodName) ∈ uW := uI3 (i := 119) (by decide +kernel) rfl
theorem u3_120 : Cond.code ({ cls := "RopeMountainModel", name := "decide", desc := "(I)V" } : MethodName) prog_6_method_21_code (4 : Nat) (Option.none : Option FieldType) ∈ uW := uI3 (i := 120) (by decide +kernel) rfl
theorem u3_121 : Cond.methodLink "RopeMountainModel" (94 : Nat) ({ cls := "RopeMountainModel", name := "isWeak", desc := "(I)Z" } : MethodName) ∈ uW := uI3 (i := 121) (by decide +kernel) rfl
theorem u3_123 : Cond.instanceMethod ({ cls := "RopeMountainModel", name := "isWeak", desc := "(I)Z" } : MethodName) ∈ uW := uI3 (i := 123) (by decide +kernel) rfl
theorem u3_124 : Cond.code ({ cls := "RopeMountainModel", name := "isWeak", desc := "(I)Z" } : MethodName) prog_6_method_18_code (2 : Nat) (Option.some FieldType.boolean) ∈ uW := uI3 (i := 124) (by decide +kernel) rfl
theorem u3_125 : Cond.methodLink "RopeMountainModel" (115 : Nat) ({ cls := "RopeMountainModel", name := "startOn", desc := "(I)V" } : MethodName) ∈ uW := uI3 (i := 125) (by decide +kernel) rfl
theorem u3_127 : Cond.instanceMethod ({ cls := "RopeMountainModel", name := "startOn", desc := "(I)V" } : MethodName) ∈ uW := uI3 (i := 127) (by decide +kernel) rfl
theorem u3_128 : Cond.code ({ cls := "RopeMountainModel", name := "startOn", desc := "(I)V" } : MethodName) prog_6_method_23_code (6 : Nat) (Option.none : Option FieldType) ∈ uW := uI3 (i := 128) (by decide +kernel) rfl
theorem u3_129 : Cond.methodLink "RopeMountainModel" (97 : Nat) ({ cls := "RopeMountainModel", name := "firstFor", desc := "(IZ)I" } : MethodName) ∈ uW := uI3 (i := 129) (by decide +kernel) rfl
theorem u3_131 : Cond.instanceMethod ({ cls := "RopeMountainModel", name := "firstFor", desc := "(IZ)I" } : MethodName) ∈ uW := uI3 (i := 131) (by decide +kernel) rfl
theorem u3_132 : Cond.code ({ cls := "RopeMountainModel", name := "firstFor", desc := "(IZ)I" } : MethodName) prog_6_method_22_code (5 : Nat) (Option.some FieldType.int) ∈ uW := uI3 (i := 132) (by decide +kernel) rfl
theorem u3_133 : Cond.methodLink "RopeMountainModel" (118 : Nat) ({ cls := "RopeMountainModel", name := "breathe", desc := "(I)V" } : MethodName) ∈ uW := uI3 (i := 133) (by decide +kernel) rfl
theorem u3_135 : Cond.instanceMethod ({ cls := "RopeMountainModel", name := "breathe", desc := "(I)V" } : MethodName) ∈ uW := uI3 (i := 135) (by decide +kernel) rfl
theorem u3_136 : Cond.code ({ cls := "RopeMountainModel", name := "breathe", desc := "(I)V" } : MethodName) prog_6_method_24_code (3 : Nat) (Option.none : Option FieldType) ∈ uW := uI3 (i := 136) (by decide +kernel) rfl
theorem u3_137 : Cond.methodLink "RopeMountainModel" (101 : Nat) ({ cls := "RopeMountainModel", name := "pitchOf", desc := "(I)I" } : MethodName) ∈ uW := uI3 (i := 137) (by decide +kernel) rfl
theorem u3_139 : Cond.instanceMethod ({ cls := "RopeMountainModel", name := "pitchOf", desc := "(I)I" } : MethodName) ∈ uW := uI3 (i := 139) (by decide +kernel) rfl
theorem u3_140 : Cond.code ({ cls := "RopeMountainModel", name := "pitchOf", desc := "(I)I" } : MethodName) prog_6_method_19_code (2 : Nat) (Option.some FieldType.int) ∈ uW := uI3 (i := 140) (by decide +kernel) rfl
theorem u3_141 : Cond.methodLink "RopeMountainModel" (105 : Nat) ({ cls := "java/lang/Math", name := "max", desc := "(II)I" } : MethodName) ∈ uW := uI3 (i := 141) (by decide +kernel) rfl
theorem u3_142 : Cond.methodLink "RopeMountainLaw" (60 : Nat) ({ cls := "RopeMountainModel", name := "count", desc := "(I)I" } : MethodName) ∈ uW := uI3 (i := 142) (by decide +kernel) rfl
theorem u3_143 : Cond.instanceMethod ({ cls := "RopeMountainModel", name := "count", desc := "(I)I" } : MethodName) ∈ uW := uI3 (i := 143) (by decide +kernel) rfl
theorem u3_144 : Cond.selects "RopeMountainModel" ({ cls := "RopeMountainModel", name := "count", desc := "(I)I" } : MethodName) ({ cls := "RopeMountainModel", name := "count", desc := "(I)I" } : MethodName) ∈ uW := uI3 (i := 144) (by decide +kernel) rfl
theorem u3_145 : Cond.code ({ cls := "RopeMountainModel", name := "count", desc := "(I)I" } : MethodName) prog_6_method_30_code (2 : Nat) (Option.some FieldType.int) ∈ uW := uI3 (i := 145) (by decide +kernel) rfl
theorem u3_146 : Cond.methodLink "RopeMountainModel" (124 : Nat) ({ cls := "RopeMountainModel", name := "summits", desc := "()I" } : MethodName) ∈ uW := uI3 (i := 146) (by decide +kernel) rfl
theorem u3_148 : Cond.instanceMethod ({ cls := "RopeMountainModel", name := "summits", desc := "()I" } : MethodName) ∈ uW := uI3 (i := 148) (by decide +kernel) rfl
theorem u3_149 : Cond.code ({ cls := "RopeMountainModel", name := "summits", desc := "()I" } : MethodName) prog_6_method_27_code (3 : Nat) (Option.some FieldType.int) ∈ uW := uI3 (i := 149) (by decide +kernel) rfl
theorem u3_150 : Cond.methodLink "RopeMountainModel" (128 : Nat) ({ cls := "RopeMountainModel", name := "inState", desc := "(I)I" } : MethodName) ∈ uW := uI3 (i := 150) (by decide +kernel) rfl
theorem u3_152 : Cond.instanceMethod ({ cls := "RopeMountainModel", name := "inState", desc := "(I)I" } : MethodName) ∈ uW := uI3 (i := 152) (by decide +kernel) rfl
theorem u3_153 : Cond.code ({ cls := "RopeMountainModel", name := "inState", desc := "(I)I" } : MethodName) prog_6_method_28_code (4 : Nat) (Option.some FieldType.int) ∈ uW := uI3 (i := 153) (by decide +kernel) rfl
theorem u3_154 : Cond.methodLink "RopeMountainModel" (131 : Nat) ({ cls := "RopeMountainModel", name := "waits", desc := "()I" } : MethodName) ∈ uW := uI3 (i := 154) (by decide +kernel) rfl
theorem u3_156 : Cond.instanceMethod ({ cls := "RopeMountainModel", name := "waits", desc := "()I" } : MethodName) ∈ uW := uI3 (i := 156) (by decide +kernel) rfl
theorem u3_157 : Cond.code ({ cls := "RopeMountainModel", name := "waits", desc := "()I" } : MethodName) prog_6_method_29_code (3 : Nat) (Option.some FieldType.int) ∈ uW := uI3 (i := 157) (by decide +kernel) rfl
theorem u3_158 : Cond.methodLink "RopeMountainLaw" (66 : Nat) ({ cls := "RopeMountainModel", name := "of", desc := "(II)I" } : MethodName) ∈ uW := uI3 (i := 158) (by decide +kernel) rfl
theorem u3_159 : Cond.instanceMethod ({ cls := "RopeMountainModel", name := "of", desc := "(II)I" } : MethodName) ∈ uW := uI3 (i := 159) (by decide +kernel) rfl
theorem u3_160 : Cond.selects "RopeMountainModel" ({ cls := "RopeMountainModel", name := "of", desc := "(II)I" } : MethodName) ({ cls := "RopeMountainModel", name := "of", desc := "(II)I" } : MethodName) ∈ uW := uI3 (i := 160) (by decide +kernel) rfl
theorem u3_161 : Cond.code ({ cls := "RopeMountainModel", name := "of", desc := "(II)I" } : MethodName) prog_6_method_31_code (3 : Nat) (Option.some FieldType.int) ∈ uW := uI3 (i := 161) (by decide +kernel) rfl
theorem u3_162 : Cond.methodLink "RopeMountainLaw" (73 : Nat) ({ cls := "RopeMountainModel", name := "on", desc := "(I)I" } : MethodName) ∈ uW := uI3 (i := 162) (by decide +kernel) rfl
theorem u3_163 : Cond.instanceMethod ({ cls := "RopeMountainModel", name := "on", desc := "(I)I" } : MethodName) ∈ uW := uI3 (i := 163) (by decide +kernel) rfl
theorem u3_164 : Cond.selects "RopeMountainModel" ({ cls := "RopeMountainModel", name := "on", desc := "(I)I" } : MethodName) ({ cls := "RopeMountainModel", name := "on", desc := "(I)I" } : MethodName) ∈ uW := uI3 (i := 164) (by decide +kernel) rfl
theorem u3_165 : Cond.code ({ cls := "RopeMountainModel", name := "on", desc := "(I)I" } : MethodName) prog_6_method_32_code (4 : Nat) (Option.some FieldType.int) ∈ uW := uI3 (i := 165) (by decide +kernel) rfl
theorem u3_166 : Cond.methodLink "RopeMountainLaw" (77 : Nat) ({ cls := "RopeMountainModel", name := "at", desc := "(I)I" } : MethodName) ∈ uW := uI3 (i := 166) (by decide +kernel) rfl
theorem u3_167 : Cond.instanceMethod ({ cls := "RopeMountainModel", name := "at", desc := "(I)I" } : MethodName) ∈ uW := uI3 (i := 167) (by decide +kernel) rfl
theorem u3_168 : Cond.selects "RopeMountainModel" ({ cls := "RopeMountainModel", name := "at", desc := "(I)I" } : MethodName) ({ cls := "RopeMountainModel", name := "at", desc := "(I)I" } : MethodName) ∈ uW := uI3 (i := 168) (by decide +kernel) rfl
theorem u3_169 : Cond.code ({ cls := "RopeMountainModel", name := "at", desc := "(I)I" } : MethodName) prog_6_method_33_code (4 : Nat) (Option.some FieldType.int) ∈ uW := uI3 (i := 169) (by decide +kernel) rfl
theorem u3_170 : Cond.methodLink "RopeMountainLaw" (81 : Nat) ({ cls := "RopeMountainModel", name := "fetch", desc := "(I)I" } : MethodName) ∈ uW := uI3 (i := 170) (by decide +kernel) rfl
theorem u3_171 : Cond.instanceMethod ({ cls := "RopeMountainModel", name := "fetch", desc := "(I)I" } : MethodName) ∈ uW := uI3 (i := 171) (by decide +kernel) rfl
theorem u3_172 : Cond.selects "RopeMountainModel" ({ cls := "RopeMountainModel", name := "fetch", desc := "(I)I" } : MethodName) ({ cls := "RopeMountainModel", name := "fetch", desc := "(I)I" } : MethodName) ∈ uW := uI3 (i := 172) (by decide +kernel) rfl
theorem u3_173 : Cond.code ({ cls := "RopeMountainModel", name := "fetch", desc := "(I)I" } : MethodName) prog_6_method_35_code (5 : Nat) (Option.some FieldType.int) ∈ uW := uI3 (i := 173) (by decide +kernel) rfl
theorem u3_174 : Cond.methodLink "RopeMountainModel" (134 : Nat) ({ cls := "RopeMountainModel", name := "hoursTo", desc := "(IIZ)I" } : MethodName) ∈ uW := uI3 (i := 174) (by decide +kernel) rfl
theorem u3_176 : Cond.instanceMethod ({ cls := "RopeMountainModel", name := "hoursTo", desc := "(IIZ)I" } : MethodName) ∈ uW := uI3 (i := 176) (by decide +kernel) rfl
theorem u3_177 : Cond.code ({ cls := "RopeMountainModel", name := "hoursTo", desc := "(IIZ)I" } : MethodName) prog_6_method_34_code (6 : Nat) (Option.some FieldType.int) ∈ uW := uI3 (i := 177) (by decide +kernel) rfl
theorem u3_178 : Cond.methodLink "RopeMountainLaw" (86 : Nat) ({ cls := "RopeMountainModel", name := "tries", desc := "(IIIII)I" } : MethodName) ∈ uW := uI3 (i := 178) (by decide +kernel) rfl
theorem u3_179 : Cond.instanceMethod ({ cls := "RopeMountainModel", name := "tries", desc := "(IIIII)I" } : MethodName) ∈ uW := uI3 (i := 179) (by decide +kernel) rfl
theorem u3_180 : Cond.selects "RopeMountainModel" ({ cls := "RopeMountainModel", name := "tries", desc := "(IIIII)I" } : MethodName) ({ cls := "RopeMountainModel", name := "tries", desc := "(IIIII)I" } : MethodName) ∈ uW := uI3 (i := 180) (by decide +kernel) rfl
theorem u3_181 : Cond.code ({ cls := "RopeMountainModel", name := "tries", desc := "(IIIII)I" } : MethodName) prog_6_method_37_code (7 : Nat) (Option.some FieldType.int) ∈ uW := uI3 (i := 181) (by decide +kernel) rfl
theorem u3_182 : Cond.methodLink "RopeMountainModel" (147 : Nat) ({ cls := "RopeMountainModel", name := "runAside", desc := "()V" } : MethodName) ∈ uW := uI3 (i := 182) (by decide +kernel) rfl
theorem u3_184 : Cond.instanceMethod ({ cls := "RopeMountainModel", name := "runAside", desc := "()V" } : MethodName) ∈ uW := uI3 (i := 184) (by decide +kernel) rfl
theorem u3_185 : Cond.code ({ cls := "RopeMountainModel", name := "runAside", desc := "()V" } : MethodName) prog_6_method_36_code (3 : Nat) (Option.none : Option FieldType) ∈ uW := uI3 (i := 185) (by decide +kernel) rfl
theorem u3_186 : Cond.methodLink "RopeMountainLaw" (90 : Nat) ({ cls := "RopeMountainModel", name := "plan", desc := "(I)I" } : MethodName) ∈ uW := uI3 (i := 186) (by decide +kernel) rfl
theorem u3_187 : Cond.instanceMethod ({ cls := "RopeMountainModel", name := "plan", desc := "(I)I" } : MethodName) ∈ uW := uI3 (i := 187) (by decide +kernel) rfl
theorem u3_188 : Cond.selects "RopeMountainModel" ({ cls := "RopeMountainModel", name := "plan", desc := "(I)I" } : MethodName) ({ cls := "RopeMountainModel", name := "plan", desc := "(I)I" } : MethodName) ∈ uW := uI3 (i := 188) (by decide +kernel) rfl
theorem u3_189 : Cond.code ({ cls := "RopeMountainModel", name := "plan", desc := "(I)I" } : MethodName) prog_6_method_38_code (9 : Nat) (Option.some FieldType.int) ∈ uW := uI3 (i := 189) (by decide +kernel) rfl
theorem u3_190 : Cond.methodLink "RopeMountainModel" (150 : Nat) ({ cls := "RopeMountainModel", name := "tell", desc := "(II)V" } : MethodName) ∈ uW := uI3 (i := 190) (by decide +kernel) rfl
theorem u3_192 : Cond.instanceMethod ({ cls := "RopeMountainModel", name := "tell", desc := "(II)V" } : MethodName) ∈ uW := uI3 (i := 192) (by decide +kernel) rfl
theorem u3_193 : Cond.code ({ cls := "RopeMountainModel", name := "tell", desc := "(II)V" } : MethodName) prog_6_method_39_code (5 : Nat) (Option.none : Option FieldType) ∈ uW := uI3 (i := 193) (by decide +kernel) rfl
theorem u3_194 : Cond.methodLink "RopeMountainLaw" (94 : Nat) ({ cls := "RopeMountainModel", name := "need", desc := "(II)I" } : MethodName) ∈ uW := uI3 (i := 194) (by decide +kernel) rfl
theorem u3_195 : Cond.instanceMethod ({ cls := "RopeMountainModel", name := "need", desc := "(II)I" } : MethodName) ∈ uW := uI3 (i := 195) (by decide +kernel) rfl
theorem u3_196 : Cond.selects "RopeMountainModel" ({ cls := "RopeMountainModel", name := "need", desc := "(II)I" } : MethodName) ({ cls := "RopeMountainModel", name := "need", desc := "(II)I" } : MethodName) ∈ uW := uI3 (i := 196) (by decide +kernel) rfl
theorem u3_197 : Cond.code ({ cls := "RopeMountainModel", name := "need", desc := "(II)I" } : MethodName) prog_6_method_40_code (5 : Nat) (Option.some FieldType.int) ∈ uW := uI3 (i := 197) (by decide +kernel) rfl
theorem u3_198 : Cond.methodLink "RopeMountainLaw" (98 : Nat) ({ cls := "RopeMountainModel", name := "comes", desc := "(II)I" } : MethodName) ∈ uW := uI3 (i := 198) (by decide +kernel) rfl
theorem u3_199 : Cond.instanceMethod ({ cls := "RopeMountainModel", name := "comes", desc := "(II)I" } : MethodName) ∈ uW := uI3 (i := 199) (by decide +kernel) rfl
theorem u3_200 : Cond.selects "RopeMountainModel" ({ cls := "RopeMountainModel", name := "comes", desc := "(II)I" } : MethodName) ({ cls := "RopeMountainModel", name := "comes", desc := "(II)I" } : MethodName) ∈ uW := uI3 (i := 200) (by decide +kernel) rfl
theorem u3_201 : Cond.code ({ cls := "RopeMountainModel", name := "comes", desc := "(II)I" } : MethodName) prog_6_method_41_code (5 : Nat) (Option.some FieldType.int) ∈ uW := uI3 (i := 201) (by decide +kernel) rfl
theorem u3_202 : Cond.arrayClass FieldType.long ∈ uW := uI3 (i := 202) (by decide +kernel) rfl
theorem us_0 : Cond.selects "RopeMountain$Climb" ⟨"RopeMountain$Climb", "goOn", "(I)V"⟩ ⟨"RopeMountain$Climb", "goOn", "(I)V"⟩ ∈ uW := uIs (q := (⟨"RopeMountain$Climb", "goOn", "(I)V"⟩, 13)) (List.mem_append_left _ (List.mem_of_getElem? (i := 0) rfl)) rfl
theorem us_1 : Cond.selects "RopeMountain$Climb" ⟨"RopeMountain$Climb", "decide", "(I)V"⟩ ⟨"RopeMountain$Climb", "decide", "(I)V"⟩ ∈ uW := uIs (q := (⟨"RopeMountain$Climb", "decide", "(I)V"⟩, 13)) (List.mem_append_left _ (List.mem_of_getElem? (i := 1) rfl)) rfl
theorem us_2 : Cond.selects "RopeMountain$Climb" ⟨"RopeMountain$Climb", "turnsBack", "(I)Z"⟩ ⟨"RopeMountain$Climb", "turnsBack", "(I)Z"⟩ ∈ uW := uIs (q := (⟨"RopeMountain$Climb", "turnsBack", "(I)Z"⟩, 13)) (List.mem_append_left _ (List.mem_of_getElem? (i := 2) rfl)) rfl
theorem us_3 : Cond.selects "RopeMountain$Climb" ⟨"RopeMountain$Climb", "beginPitches", "()V"⟩ ⟨"RopeMountain$Climb", "beginPitches", "()V"⟩ ∈ uW := uIs (q := (⟨"RopeMountain$Climb", "beginPitches", "()V"⟩, 13)) (List.mem_append_left _ (List.mem_of_getElem? (i := 3) rfl)) rfl
theorem us_4 : Cond.selects "RopeMountain$Climb" ⟨"RopeMountain$Climb", "pitchWanted", "(I)I"⟩ ⟨"RopeMountain$Climb", "pitchWanted", "(I)I"⟩ ∈ uW := uIs (q := (⟨"RopeMountain$Climb", "pitchWanted", "(I)I"⟩, 13)) (List.mem_append_left _ (List.mem_of_getElem? (i := 4) rfl)) rfl
theorem us_5 : Cond.selects "RopeMountain$Climb" ⟨"RopeMountain$Climb", "letBegin", "(I)V"⟩ ⟨"RopeMountain$Climb", "letBegin", "(I)V"⟩ ∈ uW := uIs (q := (⟨"RopeMountain$Climb", "letBegin", "(I)V"⟩, 13)) (List.mem_append_left _ (List.mem_of_getElem? (i := 5) rfl)) rfl
theorem us_6 : Cond.selects "RopeMountain$Climb" ⟨"RopeMountain$Climb", "firstInLine", "(I)I"⟩ ⟨"RopeMountain$Climb", "firstInLine", "(I)I"⟩ ∈ uW := uIs (q := (⟨"RopeMountain$Climb", "firstInLine", "(I)I"⟩, 13)) (List.mem_append_left _ (List.mem_of_getElem? (i := 6) rfl)) rfl
theorem us_7 : Cond.selects "RopeMountain$Climb" ⟨"RopeMountain$Climb", "hoursFor", "(IIZ)I"⟩ ⟨"RopeMountain$Climb", "hoursFor", "(IIZ)I"⟩ ∈ uW := uIs (q := (⟨"RopeMountain$Climb", "hoursFor", "(IIZ)I"⟩, 13)) (List.mem_append_left _ (List.mem_of_getElem? (i := 7) rfl)) rfl
theorem us_8 : Cond.selects "RopeMountain$Climb" ⟨"RopeMountain$Climb", "breathe", "(I)V"⟩ ⟨"RopeMountain$Climb", "breathe", "(I)V"⟩ ∈ uW := uIs (q := (⟨"RopeMountain$Climb", "breathe", "(I)V"⟩, 13)) (List.mem_append_left _ (List.mem_of_getElem? (i := 8) rfl)) rfl
theorem us_9 : Cond.selects "RopeMountain$Climb" ⟨"RopeMountain$Climb", "pitchUnder", "(I)I"⟩ ⟨"RopeMountain$Climb", "pitchUnder", "(I)I"⟩ ∈ uW := uIs (q := (⟨"RopeMountain$Climb", "pitchUnder", "(I)I"⟩, 13)) (List.mem_append_left _ (List.mem_of_getElem? (i := 9) rfl)) rfl
theorem us_10 : Cond.selects "RopeMountain$Climb" ⟨"RopeMountain$Climb", "couldReach", "(II)Z"⟩ ⟨"RopeMountain$Climb", "couldReach", "(II)Z"⟩ ∈ uW := uIs (q := (⟨"RopeMountain$Climb", "couldReach", "(II)Z"⟩, 13)) (List.mem_append_left _ (List.mem_of_getElem? (i := 10) rfl)) rfl
theorem us_11 : Cond.selects "RopeMountain$Climb" ⟨"RopeMountain$Climb", "hoursTo", "(III)I"⟩ ⟨"RopeMountain$Climb", "hoursTo", "(III)I"⟩ ∈ uW := uIs (q := (⟨"RopeMountain$Climb", "hoursTo", "(III)I"⟩, 13)) (List.mem_append_left _ (List.mem_of_getElem? (i := 11) rfl)) rfl
theorem us_12 : Cond.selects "RopeMountain$Climb" ⟨"RopeMountain$Climb", "isOver", "()Z"⟩ ⟨"RopeMountain$Climb", "isOver", "()Z"⟩ ∈ uW := uIs (q := (⟨"RopeMountain$Climb", "isOver", "()Z"⟩, 13)) (List.mem_append_left _ (List.mem_of_getElem? (i := 12) rfl)) rfl
theorem us_13 : Cond.selects "RopeMountain" ⟨"RopeMountain", "bestPlan", "(I)I"⟩ ⟨"RopeMountain", "bestPlan", "(I)I"⟩ ∈ uW := uIs (q := (⟨"RopeMountain", "bestPlan", "(I)I"⟩, 4)) (List.mem_append_left _ (List.mem_of_getElem? (i := 13) rfl)) rfl
theorem us_14 : Cond.selects "RopeMountain" ⟨"RopeMountain", "readPlan", "(II)Z"⟩ ⟨"RopeMountain", "readPlan", "(II)Z"⟩ ∈ uW := uIs (q := (⟨"RopeMountain", "readPlan", "(II)Z"⟩, 4)) (List.mem_append_left _ (List.mem_of_getElem? (i := 14) rfl)) rfl
theorem us_15 : Cond.selects "java/lang/Throwable" ⟨"java/lang/Throwable", "fillInStackTrace", "(I)Ljava/lang/Throwable;"⟩ ⟨"java/lang/Throwable", "fillInStackTrace", "(I)Ljava/lang/Throwable;"⟩ ∈ uW := uIs (q := (⟨"java/lang/Throwable", "fillInStackTrace", "(I)Ljava/lang/Throwable;"⟩, 6)) (List.mem_append_left _ (List.mem_of_getElem? (i := 15) rfl)) rfl
theorem us_16 : Cond.selects "RopeMountainModel" ⟨"RopeMountainModel", "levelAll", "()V"⟩ ⟨"RopeMountainModel", "levelAll", "()V"⟩ ∈ uW := uIs (q := (⟨"RopeMountainModel", "levelAll", "()V"⟩, 19)) (List.mem_append_right _ (List.mem_append_left _ (List.mem_of_getElem? (i := 0) rfl))) rfl
theorem us_17 : Cond.selects "RopeMountainModel" ⟨"RopeMountainModel", "beginAll", "()V"⟩ ⟨"RopeMountainModel", "beginAll", "()V"⟩ ∈ uW := uIs (q := (⟨"RopeMountainModel", "beginAll", "()V"⟩, 19)) (List.mem_append_right _ (List.mem_append_left _ (List.mem_of_getElem? (i := 1) rfl))) rfl
theorem us_18 : Cond.selects "RopeMountainModel" ⟨"RopeMountainModel", "lay", "(II)V"⟩ ⟨"RopeMountainModel", "lay", "(II)V"⟩ ∈ uW := uIs (q := (⟨"RopeMountainModel", "lay", "(II)V"⟩, 19)) (List.mem_append_right _ (List.mem_append_left _ (List.mem_of_getElem? (i := 2) rfl))) rfl
theorem us_19 : Cond.selects "RopeMountainModel" ⟨"RopeMountainModel", "put", "(III)V"⟩ ⟨"RopeMountainModel", "put", "(III)V"⟩ ∈ uW := uIs (q := (⟨"RopeMountainModel", "put", "(III)V"⟩, 19)) (List.mem_append_right _ (List.mem_append_left _ (List.mem_of_getElem? (i := 3) rfl))) rfl
theorem us_20 : Cond.selects "RopeMountainModel" ⟨"RopeMountainModel", "isPitch", "(I)Z"⟩ ⟨"RopeMountainModel", "isPitch", "(I)Z"⟩ ∈ uW := uIs (q := (⟨"RopeMountainModel", "isPitch", "(I)Z"⟩, 19)) (List.mem_append_right _ (List.mem_append_left _ (List.mem_of_getElem? (i := 4) rfl))) rfl
theorem us_21 : Cond.selects "RopeMountainModel" ⟨"RopeMountainModel", "step", "()V"⟩ ⟨"RopeMountainModel", "step", "()V"⟩ ∈ uW := uIs (q := (⟨"RopeMountainModel", "step", "()V"⟩, 19)) (List.mem_append_right _ (List.mem_append_left _ (List.mem_of_getElem? (i := 5) rfl))) rfl
theorem us_22 : Cond.selects "RopeMountainModel" ⟨"RopeMountainModel", "move", "()V"⟩ ⟨"RopeMountainModel", "move", "()V"⟩ ∈ uW := uIs (q := (⟨"RopeMountainModel", "move", "()V"⟩, 19)) (List.mem_append_right _ (List.mem_append_left _ (List.mem_of_getElem? (i := 6) rfl))) rfl
theorem us_23 : Cond.selects "RopeMountainModel" ⟨"RopeMountainModel", "isAtCamp", "(I)Z"⟩ ⟨"RopeMountainModel", "isAtCamp", "(I)Z"⟩ ∈ uW := uIs (q := (⟨"RopeMountainModel", "isAtCamp", "(I)Z"⟩, 19)) (List.mem_append_right _ (List.mem_append_left _ (List.mem_of_getElem? (i := 7) rfl))) rfl
theorem us_24 : Cond.selects "RopeMountainModel" ⟨"RopeMountainModel", "get", "(II)I"⟩ ⟨"RopeMountainModel", "get", "(II)I"⟩ ∈ uW := uIs (q := (⟨"RopeMountainModel", "get", "(II)I"⟩, 19)) (List.mem_append_right _ (List.mem_append_left _ (List.mem_of_getElem? (i := 8) rfl))) rfl
theorem us_25 : Cond.selects "RopeMountainModel" ⟨"RopeMountainModel", "decide", "(I)V"⟩ ⟨"RopeMountainModel", "decide", "(I)V"⟩ ∈ uW := uIs (q := (⟨"RopeMountainModel", "decide", "(I)V"⟩, 19)) (List.mem_append_right _ (List.mem_append_left _ (List.mem_of_getElem? (i := 9) rfl))) rfl
theorem us_26 : Cond.selects "RopeMountainModel" ⟨"RopeMountainModel", "isWeak", "(I)Z"⟩ ⟨"RopeMountainModel", "isWeak", "(I)Z"⟩ ∈ uW := uIs (q := (⟨"RopeMountainModel", "isWeak", "(I)Z"⟩, 19)) (List.mem_append_right _ (List.mem_append_left _ (List.mem_of_getElem? (i := 10) rfl))) rfl
theorem us_27 : Cond.selects "RopeMountainModel" ⟨"RopeMountainModel", "startOn", "(I)V"⟩ ⟨"RopeMountainModel", "startOn", "(I)V"⟩ ∈ uW := uIs (q := (⟨"RopeMountainModel", "startOn", "(I)V"⟩, 19)) (List.mem_append_right _ (List.mem_append_left _ (List.mem_of_getElem? (i := 11) rfl))) rfl
theorem us_28 : Cond.selects "RopeMountainModel" ⟨"RopeMountainModel", "firstFor", "(IZ)I"⟩ ⟨"RopeMountainModel", "firstFor", "(IZ)I"⟩ ∈ uW := uIs (q := (⟨"RopeMountainModel", "firstFor", "(IZ)I"⟩, 19)) (List.mem_append_right _ (List.mem_append_left _ (List.mem_of_getElem? (i := 12) rfl))) rfl
theorem us_29 : Cond.selects "RopeMountainModel" ⟨"RopeMountainModel", "breathe", "(I)V"⟩ ⟨"RopeMountainModel", "breathe", "(I)V"⟩ ∈ uW := uIs (q := (⟨"RopeMountainModel", "breathe", "(I)V"⟩, 19)) (List.mem_append_right _ (List.mem_append_left _ (List.mem_of_getElem? (i := 13) rfl))) rfl
theorem us_30 : Cond.selects "RopeMountainModel" ⟨"RopeMountainModel", "pitchOf", "(I)I"⟩ ⟨"RopeMountainModel", "pitchOf", "(I)I"⟩ ∈ uW := uIs (q := (⟨"RopeMountainModel", "pitchOf", "(I)I"⟩, 19)) (List.mem_append_right _ (List.mem_append_left _ (List.mem_of_getElem? (i := 14) rfl))) rfl
theorem us_31 : Cond.selects "RopeMountainModel" ⟨"RopeMountainModel", "summits", "()I"⟩ ⟨"RopeMountainModel", "summits", "()I"⟩ ∈ uW := uIs (q := (⟨"RopeMountainModel", "summits", "()I"⟩, 19)) (List.mem_append_right _ (List.mem_append_left _ (List.mem_of_getElem? (i := 15) rfl))) rfl
theorem us_32 : Cond.selects "RopeMountainModel" ⟨"RopeMountainModel", "inState", "(I)I"⟩ ⟨"RopeMountainModel", "inState", "(I)I"⟩ ∈ uW := uIs (q := (⟨"RopeMountainModel", "inState", "(I)I"⟩, 19)) (List.mem_append_right _ (List.mem_append_right _ (List.mem_of_getElem? (i := 0) rfl))) rfl
theorem us_33 : Cond.selects "RopeMountainModel" ⟨"RopeMountainModel", "waits", "()I"⟩ ⟨"RopeMountainModel", "waits", "()I"⟩ ∈ uW := uIs (q := (⟨"RopeMountainModel", "waits", "()I"⟩, 19)) (List.mem_append_right _ (List.mem_append_right _ (List.mem_of_getElem? (i := 1) rfl))) rfl
theorem us_34 : Cond.selects "RopeMountainModel" ⟨"RopeMountainModel", "hoursTo", "(IIZ)I"⟩ ⟨"RopeMountainModel", "hoursTo", "(IIZ)I"⟩ ∈ uW := uIs (q := (⟨"RopeMountainModel", "hoursTo", "(IIZ)I"⟩, 19)) (List.mem_append_right _ (List.mem_append_right _ (List.mem_of_getElem? (i := 2) rfl))) rfl
theorem us_35 : Cond.selects "RopeMountainModel" ⟨"RopeMountainModel", "runAside", "()V"⟩ ⟨"RopeMountainModel", "runAside", "()V"⟩ ∈ uW := uIs (q := (⟨"RopeMountainModel", "runAside", "()V"⟩, 19)) (List.mem_append_right _ (List.mem_append_right _ (List.mem_of_getElem? (i := 3) rfl))) rfl
theorem us_36 : Cond.selects "RopeMountainModel" ⟨"RopeMountainModel", "tell", "(II)V"⟩ ⟨"RopeMountainModel", "tell", "(II)V"⟩ ∈ uW := uIs (q := (⟨"RopeMountainModel", "tell", "(II)V"⟩, 19)) (List.mem_append_right _ (List.mem_append_right _ (List.mem_of_getElem? (i := 4) rfl))) rfl
theorem hinX0 : ∀ w ∈ u_ws RX0 TX0 13, w ∈ uW := by
  intro w hw
  obtain ⟨k, hk, rfl⟩ := List.mem_map.mp hw
  have hk := List.mem_range.mp hk
  match k, hk with
  | 0, _ => exact u1_127
  | 1, _ => exact u1_129
  | 2, _ => exact u1_131
  | 3, _ => exact u1_133
  | 4, _ => exact u1_135
  | 5, _ => exact u1_137
  | 6, _ => exact u1_139
  | 7, _ => exact u1_141
  | 8, _ => exact u1_143
  | 9, _ => exact u1_145
  | 10, _ => exact u1_147
  | 11, _ => exact u1_149
  | 12, _ => exact u1_151
theorem hinX1 : ∀ w ∈ u_ws RX1 TX1 6, w ∈ uW := by
  intro w hw
  obtain ⟨k, hk, rfl⟩ := List.mem_map.mp hw
  have hk := List.mem_range.mp hk
  match k, hk with
  | 0, _ => exact u1_86
  | 1, _ => exact u1_88
  | 2, _ => exact u1_90
  | 3, _ => exact u1_92
  | 4, _ => exact u1_94
  | 5, _ => exact u1_96
theorem hinX2 : ∀ w ∈ u_ws RX2 TX2 5, w ∈ uW := by
  intro w hw
  obtain ⟨k, hk, rfl⟩ := List.mem_map.mp hw
  have hk := List.mem_range.mp hk
  match k, hk with
  | 0, _ => exact u1_51
  | 1, _ => exact u1_53
  | 2, _ => exact u1_55
  | 3, _ => exact u1_57
  | 4, _ => exact u1_59
theorem hinX3 : ∀ w ∈ u_ws RX3 TX3 4, w ∈ uW := by
  intro w hw
  obtain ⟨k, hk, rfl⟩ := List.mem_map.mp hw
  have hk := List.mem_range.mp hk
  match k, hk with
  | 0, _ => exact u1_158
  | 1, _ => exact u1_160
  | 2, _ => exact u1_162
  | 3, _ => exact u1_164
theorem hinX4 : ∀ w ∈ u_ws RX4 TX4 19, w ∈ uW := by
  intro w hw
  obtain ⟨k, hk, rfl⟩ := List.mem_map.mp hw
  have hk := List.mem_range.mp hk
  match k, hk with
  | 0, _ => exact u3_6
  | 1, _ => exact u3_8
  | 2, _ => exact u3_10
  | 3, _ => exact u3_12
  | 4, _ => exact u3_14
  | 5, _ => exact u3_16
  | 6, _ => exact u3_18
  | 7, _ => exact u3_20
  | 8, _ => exact u3_22
  | 9, _ => exact u3_24
  | 10, _ => exact u3_26
  | 11, _ => exact u3_28
  | 12, _ => exact u3_30
  | 13, _ => exact u3_32
  | 14, _ => exact u3_34
  | 15, _ => exact u3_36
  | 16, _ => exact u3_38
  | 17, _ => exact u3_40
  | 18, _ => exact u3_42
  | k + 19, hk => exact absurd hk (by omega)
