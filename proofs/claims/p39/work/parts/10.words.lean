/-! WORDS: the tables have them -/
theorem kw_350 : (Jvm.Cond.methodLink "SameStar$Acts" (3 : Nat) ({ cls := "java/lang/Object", name := "<init>", desc := "()V" } : Jvm.MethodName)) ∈ wG := tz_2 (List.mem_of_getElem? (i := 13) rfl) rfl
theorem kw_127 : (Jvm.Cond.instanceMethod ({ cls := "java/lang/Object", name := "<init>", desc := "()V" } : Jvm.MethodName)) ∈ wG := tz_1 (List.mem_of_getElem? (i := 30) rfl) rfl
theorem kw_155 : (Jvm.Cond.arrayClass Jvm.ClassFile.FieldType.int) ∈ wG := tz_1 (List.mem_of_getElem? (i := 58) rfl) rfl
theorem kw_351 : (Jvm.Cond.fieldLink "SameStar$Acts" (11 : Nat) "SameStar$Acts" "began" "[I") ∈ wG := tz_2 (List.mem_of_getElem? (i := 14) rfl) rfl
theorem kw_352 : (Jvm.Cond.fieldLink "SameStar$Acts" (15 : Nat) "SameStar$Acts" "ran" "I") ∈ wG := tz_2 (List.mem_of_getElem? (i := 15) rfl) rfl
theorem kw_349 : (Jvm.Cond.code ({ cls := "SameStar$Acts", name := "<init>", desc := "()V" } : Jvm.MethodName) prog_2_method_1_code (1 : Nat) (Option.none : Option Jvm.ClassFile.FieldType)) ∈ wG := tz_2 (List.mem_of_getElem? (i := 12) rfl) rfl
theorem kw_107 : (Jvm.Cond.initialized "SameStar$Acts") ∈ wG := tz_1 (List.mem_of_getElem? (i := 10) rfl) rfl
theorem kw_1328 : (Jvm.Cond.code ({ cls := "SameStar$Acts", name := "clear", desc := "()V" } : Jvm.MethodName) prog_2_method_2_code (1 : Nat) (Option.none : Option Jvm.ClassFile.FieldType)) ∈ wG := tz_6 (List.mem_of_getElem? (i := 31) rfl) rfl
theorem kw_1356 : (Jvm.Cond.code ({ cls := "SameStar$Acts", name := "bodyAt", desc := "(I)I" } : Jvm.MethodName) prog_2_method_3_code (2 : Nat) (Option.some Jvm.ClassFile.FieldType.int)) ∈ wG := tz_6 (List.mem_of_getElem? (i := 59) rfl) rfl
theorem kw_901 : (Jvm.Cond.fieldLink "SameStar$Acts" (19 : Nat) "SameStar$Word" "kind" "I") ∈ wG := tz_4 (List.mem_of_getElem? (i := 84) rfl) rfl
theorem kw_1333 : (Jvm.Cond.methodLink "SameStar$Acts" (24 : Nat) ({ cls := "SameStar$Acts", name := "call", desc := "(LSameStar$Word;IIII)I" } : Jvm.MethodName)) ∈ wG := tz_6 (List.mem_of_getElem? (i := 36) rfl) rfl
theorem kw_1335 : (Jvm.Cond.instanceMethod ({ cls := "SameStar$Acts", name := "call", desc := "(LSameStar$Word;IIII)I" } : Jvm.MethodName)) ∈ wG := tz_6 (List.mem_of_getElem? (i := 38) rfl) rfl
theorem kw_33 : (Cond.selects "SameStar$Acts" ⟨"SameStar$Acts", "call", "(LSameStar$Word;IIII)I"⟩ ⟨"SameStar$Acts", "call", "(LSameStar$Word;IIII)I"⟩) ∈ wG := wG_of 33 (by decide +kernel) rfl
theorem kw_1332 : (Jvm.Cond.code ({ cls := "SameStar$Acts", name := "perform", desc := "(LSameStar$Word;II)I" } : Jvm.MethodName) prog_2_method_4_code (4 : Nat) (Option.some Jvm.ClassFile.FieldType.int)) ∈ wG := tz_6 (List.mem_of_getElem? (i := 35) rfl) rfl
theorem kw_413 : (Jvm.Cond.static ({ cls := "SameStar", name := "within", desc := "(III)Z" } : Jvm.MethodName)) ∈ wG := tz_2 (List.mem_of_getElem? (i := 76) rfl) rfl
theorem kw_1338 : (Jvm.Cond.fieldLink "SameStar$Acts" (32 : Nat) "SameStar$Acts" "BODIES" "[I") ∈ wG := tz_6 (List.mem_of_getElem? (i := 41) rfl) rfl
theorem kw_1340 : (Jvm.Cond.methodLink "SameStar$Acts" (35 : Nat) ({ cls := "SameStar$Acts", name := "runBody", desc := "(LSameStar$Word;III)I" } : Jvm.MethodName)) ∈ wG := tz_6 (List.mem_of_getElem? (i := 43) rfl) rfl
theorem kw_1342 : (Jvm.Cond.instanceMethod ({ cls := "SameStar$Acts", name := "runBody", desc := "(LSameStar$Word;III)I" } : Jvm.MethodName)) ∈ wG := tz_6 (List.mem_of_getElem? (i := 45) rfl) rfl
theorem kw_34 : (Cond.selects "SameStar$Acts" ⟨"SameStar$Acts", "runBody", "(LSameStar$Word;III)I"⟩ ⟨"SameStar$Acts", "runBody", "(LSameStar$Word;III)I"⟩) ∈ wG := wG_of 34 (by decide +kernel) rfl
theorem kw_1345 : (Jvm.Cond.static ({ cls := "SameStar", name := "kindAbove", desc := "(I)I" } : Jvm.MethodName)) ∈ wG := tz_6 (List.mem_of_getElem? (i := 48) rfl) rfl
theorem kw_1336 : (Jvm.Cond.code ({ cls := "SameStar$Acts", name := "call", desc := "(LSameStar$Word;IIII)I" } : Jvm.MethodName) prog_2_method_5_code (9 : Nat) (Option.some Jvm.ClassFile.FieldType.int)) ∈ wG := tz_6 (List.mem_of_getElem? (i := 39) rfl) rfl
theorem kw_897 : (Jvm.Cond.fieldLink "SameStar$Acts" (43 : Nat) "SameStar$Word" "number" "I") ∈ wG := tz_4 (List.mem_of_getElem? (i := 80) rfl) rfl
theorem kw_927 : (Jvm.Cond.fieldLink "SameStar$Acts" (46 : Nat) "SameStar$Word" "more" "I") ∈ wG := tz_4 (List.mem_of_getElem? (i := 110) rfl) rfl
theorem kw_1343 : (Jvm.Cond.code ({ cls := "SameStar$Acts", name := "runBody", desc := "(LSameStar$Word;III)I" } : Jvm.MethodName) prog_2_method_6_code (6 : Nat) (Option.some Jvm.ClassFile.FieldType.int)) ∈ wG := tz_6 (List.mem_of_getElem? (i := 46) rfl) rfl
theorem kw_224 : (Jvm.Cond.methodLink "SameStar$Book" (3 : Nat) ({ cls := "java/lang/Object", name := "<init>", desc := "()V" } : Jvm.MethodName)) ∈ wG := tz_1 (List.mem_of_getElem? (i := 127) rfl) rfl
theorem kw_225 : (Jvm.Cond.classLink "SameStar$Book" (9 : Nat) "SameStar$Word") ∈ wG := tz_1 (List.mem_of_getElem? (i := 128) rfl) rfl
theorem kw_233 : (Jvm.Cond.fieldLink "SameStar$Book" (11 : Nat) "SameStar$Book" "all" "[LSameStar$Word;") ∈ wG := tz_1 (List.mem_of_getElem? (i := 136) rfl) rfl
theorem kw_234 : (Jvm.Cond.fieldLink "SameStar$Book" (17 : Nat) "SameStar$Book" "words" "I") ∈ wG := tz_1 (List.mem_of_getElem? (i := 137) rfl) rfl
theorem kw_237 : (Jvm.Cond.fieldLink "SameStar$Book" (21 : Nat) "SameStar$Book" "year" "I") ∈ wG := tz_1 (List.mem_of_getElem? (i := 140) rfl) rfl
theorem kw_239 : (Jvm.Cond.fieldLink "SameStar$Book" (24 : Nat) "SameStar$Book" "month" "I") ∈ wG := tz_1 (List.mem_of_getElem? (i := 142) rfl) rfl
theorem kw_241 : (Jvm.Cond.fieldLink "SameStar$Book" (27 : Nat) "SameStar$Book" "day" "I") ∈ wG := tz_1 (List.mem_of_getElem? (i := 144) rfl) rfl
theorem kw_243 : (Jvm.Cond.fieldLink "SameStar$Book" (30 : Nat) "SameStar$Book" "begins" "[I") ∈ wG := tz_1 (List.mem_of_getElem? (i := 146) rfl) rfl
theorem kw_244 : (Jvm.Cond.fieldLink "SameStar$Book" (34 : Nat) "SameStar$Book" "beginsAgain" "[I") ∈ wG := tz_1 (List.mem_of_getElem? (i := 147) rfl) rfl
theorem kw_227 : (Jvm.Cond.classLink "SameStar$Book" (37 : Nat) "SameStar$Text") ∈ wG := tz_1 (List.mem_of_getElem? (i := 130) rfl) rfl
theorem kw_245 : (Jvm.Cond.fieldLink "SameStar$Book" (39 : Nat) "SameStar$Book" "reckonings" "[LSameStar$Text;") ∈ wG := tz_1 (List.mem_of_getElem? (i := 148) rfl) rfl
theorem kw_246 : (Jvm.Cond.fieldLink "SameStar$Book" (43 : Nat) "SameStar$Book" "names" "[I") ∈ wG := tz_1 (List.mem_of_getElem? (i := 149) rfl) rfl
theorem kw_247 : (Jvm.Cond.fieldLink "SameStar$Book" (46 : Nat) "SameStar$Book" "stack" "[I") ∈ wG := tz_1 (List.mem_of_getElem? (i := 150) rfl) rfl
theorem kw_272 : (Jvm.Cond.arrayClass Jvm.ClassFile.FieldType.boolean) ∈ wG := tz_1 (List.mem_of_getElem? (i := 175) rfl) rfl
theorem kw_248 : (Jvm.Cond.fieldLink "SameStar$Book" (49 : Nat) "SameStar$Book" "counted" "[Z") ∈ wG := tz_1 (List.mem_of_getElem? (i := 151) rfl) rfl
theorem kw_229 : (Jvm.Cond.methodLink "SameStar$Book" (53 : Nat) ({ cls := "java/util/Arrays", name := "fill", desc := "([II)V" } : Jvm.MethodName)) ∈ wG := tz_1 (List.mem_of_getElem? (i := 132) rfl) rfl
theorem kw_230 : (Jvm.Cond.static ({ cls := "java/util/Arrays", name := "fill", desc := "([II)V" } : Jvm.MethodName)) ∈ wG := tz_1 (List.mem_of_getElem? (i := 133) rfl) rfl
theorem kw_189 : (Jvm.Cond.instantiable "SameStar$Text" (2 : Nat)) ∈ wG := tz_1 (List.mem_of_getElem? (i := 92) rfl) rfl
theorem kw_102 : (Jvm.Cond.initialized "SameStar$Text") ∈ wG := tz_1 (List.mem_of_getElem? (i := 5) rfl) rfl
theorem kw_191 : (Jvm.Cond.instanceMethod ({ cls := "SameStar$Text", name := "<init>", desc := "()V" } : Jvm.MethodName)) ∈ wG := tz_1 (List.mem_of_getElem? (i := 94) rfl) rfl
theorem kw_223 : (Jvm.Cond.code ({ cls := "SameStar$Book", name := "<init>", desc := "()V" } : Jvm.MethodName) prog_3_method_1_code (2 : Nat) (Option.none : Option Jvm.ClassFile.FieldType)) ∈ wG := tz_1 (List.mem_of_getElem? (i := 126) rfl) rfl
theorem kw_103 : (Jvm.Cond.initialized "SameStar$Book") ∈ wG := tz_1 (List.mem_of_getElem? (i := 6) rfl) rfl
theorem kw_641 : (Jvm.Cond.static ({ cls := "SameStar", name := "isPeople", desc := "(I)Z" } : Jvm.MethodName)) ∈ wG := tz_3 (List.mem_of_getElem? (i := 64) rfl) rfl
theorem kw_678 : (Jvm.Cond.code ({ cls := "SameStar$Book", name := "reckoningOf", desc := "(I)LSameStar$Text;" } : Jvm.MethodName) prog_3_method_2_code (2 : Nat) (Option.some (Jvm.ClassFile.FieldType.object "SameStar$Text"))) ∈ wG := tz_3 (List.mem_of_getElem? (i := 101) rfl) rfl
theorem kw_838 : (Jvm.Cond.code ({ cls := "SameStar$Book", name := "wordAt", desc := "(I)LSameStar$Word;" } : Jvm.MethodName) prog_3_method_3_code (2 : Nat) (Option.some (Jvm.ClassFile.FieldType.object "SameStar$Word"))) ∈ wG := tz_4 (List.mem_of_getElem? (i := 21) rfl) rfl
theorem kw_846 : (Jvm.Cond.code ({ cls := "SameStar$Book", name := "isToldReign", desc := "(I)Z" } : Jvm.MethodName) prog_3_method_4_code (2 : Nat) (Option.some Jvm.ClassFile.FieldType.boolean)) ∈ wG := tz_4 (List.mem_of_getElem? (i := 29) rfl) rfl
theorem kw_835 : (Jvm.Cond.methodLink "SameStar$Book" (68 : Nat) ({ cls := "SameStar$Book", name := "wordAt", desc := "(I)LSameStar$Word;" } : Jvm.MethodName)) ∈ wG := tz_4 (List.mem_of_getElem? (i := 18) rfl) rfl
theorem kw_836 : (Jvm.Cond.instanceMethod ({ cls := "SameStar$Book", name := "wordAt", desc := "(I)LSameStar$Word;" } : Jvm.MethodName)) ∈ wG := tz_4 (List.mem_of_getElem? (i := 19) rfl) rfl
theorem kw_837 : (Jvm.Cond.selects "SameStar$Book" ({ cls := "SameStar$Book", name := "wordAt", desc := "(I)LSameStar$Word;" } : Jvm.MethodName) ({ cls := "SameStar$Book", name := "wordAt", desc := "(I)LSameStar$Word;" } : Jvm.MethodName)) ∈ wG := tz_4 (List.mem_of_getElem? (i := 20) rfl) rfl
theorem kw_888 : (Jvm.Cond.code ({ cls := "SameStar$Book", name := "canBear", desc := "(II)Z" } : Jvm.MethodName) prog_3_method_5_code (3 : Nat) (Option.some Jvm.ClassFile.FieldType.boolean)) ∈ wG := tz_4 (List.mem_of_getElem? (i := 71) rfl) rfl
theorem kw_903 : (Jvm.Cond.fieldLink "SameStar$Book" (72 : Nat) "SameStar$Word" "kind" "I") ∈ wG := tz_4 (List.mem_of_getElem? (i := 86) rfl) rfl
theorem kw_926 : (Jvm.Cond.fieldLink "SameStar$Book" (75 : Nat) "SameStar$Word" "more" "I") ∈ wG := tz_4 (List.mem_of_getElem? (i := 109) rfl) rfl
theorem kw_973 : (Jvm.Cond.methodLink "SameStar$Book" (78 : Nat) ({ cls := "SameStar$Word", name := "rootWord", desc := "()LSameStar$Word;" } : Jvm.MethodName)) ∈ wG := tz_4 (List.mem_of_getElem? (i := 156) rfl) rfl
theorem kw_974 : (Jvm.Cond.instanceMethod ({ cls := "SameStar$Word", name := "rootWord", desc := "()LSameStar$Word;" } : Jvm.MethodName)) ∈ wG := tz_4 (List.mem_of_getElem? (i := 157) rfl) rfl
theorem kw_975 : (Jvm.Cond.selects "SameStar$Word" ({ cls := "SameStar$Word", name := "rootWord", desc := "()LSameStar$Word;" } : Jvm.MethodName) ({ cls := "SameStar$Word", name := "rootWord", desc := "()LSameStar$Word;" } : Jvm.MethodName)) ∈ wG := tz_4 (List.mem_of_getElem? (i := 158) rfl) rfl
theorem kw_977 : (Jvm.Cond.methodLink "SameStar$Book" (82 : Nat) ({ cls := "SameStar$Word", name := "copyFrom", desc := "(LSameStar$Word;)V" } : Jvm.MethodName)) ∈ wG := tz_4 (List.mem_of_getElem? (i := 160) rfl) rfl
theorem kw_978 : (Jvm.Cond.instanceMethod ({ cls := "SameStar$Word", name := "copyFrom", desc := "(LSameStar$Word;)V" } : Jvm.MethodName)) ∈ wG := tz_4 (List.mem_of_getElem? (i := 161) rfl) rfl
theorem kw_979 : (Jvm.Cond.selects "SameStar$Word" ({ cls := "SameStar$Word", name := "copyFrom", desc := "(LSameStar$Word;)V" } : Jvm.MethodName) ({ cls := "SameStar$Word", name := "copyFrom", desc := "(LSameStar$Word;)V" } : Jvm.MethodName)) ∈ wG := tz_4 (List.mem_of_getElem? (i := 162) rfl) rfl
theorem kw_839 : (Jvm.Cond.methodLink "SameStar$Book" (86 : Nat) ({ cls := "SameStar$Book", name := "settleSpans", desc := "(LSameStar$Word;)V" } : Jvm.MethodName)) ∈ wG := tz_4 (List.mem_of_getElem? (i := 22) rfl) rfl
theorem kw_841 : (Jvm.Cond.instanceMethod ({ cls := "SameStar$Book", name := "settleSpans", desc := "(LSameStar$Word;)V" } : Jvm.MethodName)) ∈ wG := tz_4 (List.mem_of_getElem? (i := 24) rfl) rfl
theorem kw_20 : (Cond.selects "SameStar$Book" ⟨"SameStar$Book", "settleSpans", "(LSameStar$Word;)V"⟩ ⟨"SameStar$Book", "settleSpans", "(LSameStar$Word;)V"⟩) ∈ wG := wG_of 20 (by decide +kernel) rfl
theorem kw_972 : (Jvm.Cond.code ({ cls := "SameStar$Book", name := "addWord", desc := "(LSameStar$Word;I)I" } : Jvm.MethodName) prog_3_method_6_code (4 : Nat) (Option.some Jvm.ClassFile.FieldType.int)) ∈ wG := tz_4 (List.mem_of_getElem? (i := 155) rfl) rfl
theorem kw_912 : (Jvm.Cond.fieldLink "SameStar$Book" (89 : Nat) "SameStar$Word" "reign" "I") ∈ wG := tz_4 (List.mem_of_getElem? (i := 95) rfl) rfl
theorem kw_871 : (Jvm.Cond.code ({ cls := "SameStar$Book", name := "tellReign", desc := "(III)V" } : Jvm.MethodName) prog_3_method_7_code (6 : Nat) (Option.none : Option Jvm.ClassFile.FieldType)) ∈ wG := tz_4 (List.mem_of_getElem? (i := 54) rfl) rfl
theorem kw_908 : (Jvm.Cond.fieldLink "SameStar$Book" (92 : Nat) "SameStar$Word" "people" "I") ∈ wG := tz_4 (List.mem_of_getElem? (i := 91) rfl) rfl
theorem kw_834 : (Jvm.Cond.code ({ cls := "SameStar$Book", name := "settleWordsOf", desc := "(I)V" } : Jvm.MethodName) prog_3_method_8_code (4 : Nat) (Option.none : Option Jvm.ClassFile.FieldType)) ∈ wG := tz_4 (List.mem_of_getElem? (i := 17) rfl) rfl
theorem kw_843 : (Jvm.Cond.methodLink "SameStar$Book" (95 : Nat) ({ cls := "SameStar$Book", name := "isToldReign", desc := "(I)Z" } : Jvm.MethodName)) ∈ wG := tz_4 (List.mem_of_getElem? (i := 26) rfl) rfl
theorem kw_844 : (Jvm.Cond.instanceMethod ({ cls := "SameStar$Book", name := "isToldReign", desc := "(I)Z" } : Jvm.MethodName)) ∈ wG := tz_4 (List.mem_of_getElem? (i := 27) rfl) rfl
theorem kw_845 : (Jvm.Cond.selects "SameStar$Book" ({ cls := "SameStar$Book", name := "isToldReign", desc := "(I)Z" } : Jvm.MethodName) ({ cls := "SameStar$Book", name := "isToldReign", desc := "(I)Z" } : Jvm.MethodName)) ∈ wG := tz_4 (List.mem_of_getElem? (i := 28) rfl) rfl
theorem kw_848 : (Jvm.Cond.methodLink "SameStar$Book" (98 : Nat) ({ cls := "SameStar$Book", name := "reckonedDay", desc := "(LSameStar$Word;I)I" } : Jvm.MethodName)) ∈ wG := tz_4 (List.mem_of_getElem? (i := 31) rfl) rfl
theorem kw_850 : (Jvm.Cond.instanceMethod ({ cls := "SameStar$Book", name := "reckonedDay", desc := "(LSameStar$Word;I)I" } : Jvm.MethodName)) ∈ wG := tz_4 (List.mem_of_getElem? (i := 33) rfl) rfl
theorem kw_21 : (Cond.selects "SameStar$Book" ⟨"SameStar$Book", "reckonedDay", "(LSameStar$Word;I)I"⟩ ⟨"SameStar$Book", "reckonedDay", "(LSameStar$Word;I)I"⟩) ∈ wG := wG_of 21 (by decide +kernel) rfl
theorem kw_859 : (Jvm.Cond.methodLink "SameStar$Book" (102 : Nat) ({ cls := "SameStar$Word", name := "settle", desc := "(III)V" } : Jvm.MethodName)) ∈ wG := tz_4 (List.mem_of_getElem? (i := 42) rfl) rfl
theorem kw_860 : (Jvm.Cond.instanceMethod ({ cls := "SameStar$Word", name := "settle", desc := "(III)V" } : Jvm.MethodName)) ∈ wG := tz_4 (List.mem_of_getElem? (i := 43) rfl) rfl
theorem kw_861 : (Jvm.Cond.selects "SameStar$Word" ({ cls := "SameStar$Word", name := "settle", desc := "(III)V" } : Jvm.MethodName) ({ cls := "SameStar$Word", name := "settle", desc := "(III)V" } : Jvm.MethodName)) ∈ wG := tz_4 (List.mem_of_getElem? (i := 44) rfl) rfl
theorem kw_842 : (Jvm.Cond.code ({ cls := "SameStar$Book", name := "settleSpans", desc := "(LSameStar$Word;)V" } : Jvm.MethodName) prog_3_method_9_code (4 : Nat) (Option.none : Option Jvm.ClassFile.FieldType)) ∈ wG := tz_4 (List.mem_of_getElem? (i := 25) rfl) rfl
theorem kw_852 : (Jvm.Cond.methodLink "SameStar$Book" (106 : Nat) ({ cls := "SameStar$Book", name := "reckoningOf", desc := "(I)LSameStar$Text;" } : Jvm.MethodName)) ∈ wG := tz_4 (List.mem_of_getElem? (i := 35) rfl) rfl
theorem kw_676 : (Jvm.Cond.instanceMethod ({ cls := "SameStar$Book", name := "reckoningOf", desc := "(I)LSameStar$Text;" } : Jvm.MethodName)) ∈ wG := tz_3 (List.mem_of_getElem? (i := 99) rfl) rfl
theorem kw_677 : (Jvm.Cond.selects "SameStar$Book" ({ cls := "SameStar$Book", name := "reckoningOf", desc := "(I)LSameStar$Text;" } : Jvm.MethodName) ({ cls := "SameStar$Book", name := "reckoningOf", desc := "(I)LSameStar$Text;" } : Jvm.MethodName)) ∈ wG := tz_3 (List.mem_of_getElem? (i := 100) rfl) rfl
theorem kw_917 : (Jvm.Cond.fieldLink "SameStar$Book" (110 : Nat) "SameStar$Word" "year" "I") ∈ wG := tz_4 (List.mem_of_getElem? (i := 100) rfl) rfl
theorem kw_920 : (Jvm.Cond.fieldLink "SameStar$Book" (111 : Nat) "SameStar$Word" "month" "I") ∈ wG := tz_4 (List.mem_of_getElem? (i := 103) rfl) rfl
theorem kw_923 : (Jvm.Cond.fieldLink "SameStar$Book" (112 : Nat) "SameStar$Word" "day" "I") ∈ wG := tz_4 (List.mem_of_getElem? (i := 106) rfl) rfl
theorem kw_853 : (Jvm.Cond.methodLink "SameStar$Book" (113 : Nat) ({ cls := "SameStar$Text", name := "isTold", desc := "()Z" } : Jvm.MethodName)) ∈ wG := tz_4 (List.mem_of_getElem? (i := 36) rfl) rfl
theorem kw_614 : (Jvm.Cond.instanceMethod ({ cls := "SameStar$Text", name := "isTold", desc := "()Z" } : Jvm.MethodName)) ∈ wG := tz_3 (List.mem_of_getElem? (i := 37) rfl) rfl
theorem kw_615 : (Jvm.Cond.selects "SameStar$Text" ({ cls := "SameStar$Text", name := "isTold", desc := "()Z" } : Jvm.MethodName) ({ cls := "SameStar$Text", name := "isTold", desc := "()Z" } : Jvm.MethodName)) ∈ wG := tz_3 (List.mem_of_getElem? (i := 38) rfl) rfl
theorem kw_854 : (Jvm.Cond.methodLink "SameStar$Book" (117 : Nat) ({ cls := "SameStar$Text", name := "valueWith", desc := "([I[I)I" } : Jvm.MethodName)) ∈ wG := tz_4 (List.mem_of_getElem? (i := 37) rfl) rfl
theorem kw_625 : (Jvm.Cond.instanceMethod ({ cls := "SameStar$Text", name := "valueWith", desc := "([I[I)I" } : Jvm.MethodName)) ∈ wG := tz_3 (List.mem_of_getElem? (i := 48) rfl) rfl
theorem kw_626 : (Jvm.Cond.selects "SameStar$Text" ({ cls := "SameStar$Text", name := "valueWith", desc := "([I[I)I" } : Jvm.MethodName) ({ cls := "SameStar$Text", name := "valueWith", desc := "([I[I)I" } : Jvm.MethodName)) ∈ wG := tz_3 (List.mem_of_getElem? (i := 49) rfl) rfl
theorem kw_855 : (Jvm.Cond.constant "SameStar$Book" (121 : Nat) (-2000000 : Int32)) ∈ wG := tz_4 (List.mem_of_getElem? (i := 38) rfl) rfl
theorem kw_856 : (Jvm.Cond.constant "SameStar$Book" (122 : Nat) (2000000 : Int32)) ∈ wG := tz_4 (List.mem_of_getElem? (i := 39) rfl) rfl
theorem kw_857 : (Jvm.Cond.methodLink "SameStar$Book" (123 : Nat) ({ cls := "java/lang/Math", name := "min", desc := "(II)I" } : Jvm.MethodName)) ∈ wG := tz_4 (List.mem_of_getElem? (i := 40) rfl) rfl
theorem kw_607 : (Jvm.Cond.static ({ cls := "java/lang/Math", name := "min", desc := "(II)I" } : Jvm.MethodName)) ∈ wG := tz_3 (List.mem_of_getElem? (i := 30) rfl) rfl
theorem kw_111 : (Jvm.Cond.initialized "java/lang/Math") ∈ wG := tz_1 (List.mem_of_getElem? (i := 14) rfl) rfl
theorem kw_858 : (Jvm.Cond.methodLink "SameStar$Book" (129 : Nat) ({ cls := "java/lang/Math", name := "max", desc := "(II)I" } : Jvm.MethodName)) ∈ wG := tz_4 (List.mem_of_getElem? (i := 41) rfl) rfl
theorem kw_629 : (Jvm.Cond.static ({ cls := "java/lang/Math", name := "max", desc := "(II)I" } : Jvm.MethodName)) ∈ wG := tz_3 (List.mem_of_getElem? (i := 52) rfl) rfl
theorem kw_851 : (Jvm.Cond.code ({ cls := "SameStar$Book", name := "reckonedDay", desc := "(LSameStar$Word;I)I" } : Jvm.MethodName) prog_3_method_10_code (5 : Nat) (Option.some Jvm.ClassFile.FieldType.int)) ∈ wG := tz_4 (List.mem_of_getElem? (i := 34) rfl) rfl
theorem kw_933 : (Jvm.Cond.fieldLink "SameStar$Book" (132 : Nat) "SameStar$Word" "spans" "I") ∈ wG := tz_4 (List.mem_of_getElem? (i := 116) rfl) rfl
theorem kw_1110 : (Jvm.Cond.methodLink "SameStar$Book" (135 : Nat) ({ cls := "SameStar$Word", name := "spanFrom", desc := "(I)I" } : Jvm.MethodName)) ∈ wG := tz_5 (List.mem_of_getElem? (i := 53) rfl) rfl
theorem kw_1042 : (Jvm.Cond.instanceMethod ({ cls := "SameStar$Word", name := "spanFrom", desc := "(I)I" } : Jvm.MethodName)) ∈ wG := tz_4 (List.mem_of_getElem? (i := 225) rfl) rfl
theorem kw_1043 : (Jvm.Cond.selects "SameStar$Word" ({ cls := "SameStar$Word", name := "spanFrom", desc := "(I)I" } : Jvm.MethodName) ({ cls := "SameStar$Word", name := "spanFrom", desc := "(I)I" } : Jvm.MethodName)) ∈ wG := tz_4 (List.mem_of_getElem? (i := 226) rfl) rfl
theorem kw_1111 : (Jvm.Cond.methodLink "SameStar$Book" (139 : Nat) ({ cls := "SameStar$Word", name := "spanTo", desc := "(I)I" } : Jvm.MethodName)) ∈ wG := tz_5 (List.mem_of_getElem? (i := 54) rfl) rfl
theorem kw_1051 : (Jvm.Cond.instanceMethod ({ cls := "SameStar$Word", name := "spanTo", desc := "(I)I" } : Jvm.MethodName)) ∈ wG := tz_4 (List.mem_of_getElem? (i := 234) rfl) rfl
theorem kw_1052 : (Jvm.Cond.selects "SameStar$Word" ({ cls := "SameStar$Word", name := "spanTo", desc := "(I)I" } : Jvm.MethodName) ({ cls := "SameStar$Word", name := "spanTo", desc := "(I)I" } : Jvm.MethodName)) ∈ wG := tz_4 (List.mem_of_getElem? (i := 235) rfl) rfl
theorem kw_1109 : (Jvm.Cond.code ({ cls := "SameStar$Book", name := "firstCommonDay", desc := "(LSameStar$Word;LSameStar$Word;)I" } : Jvm.MethodName) prog_3_method_11_code (8 : Nat) (Option.some Jvm.ClassFile.FieldType.int)) ∈ wG := tz_5 (List.mem_of_getElem? (i := 52) rfl) rfl
theorem kw_898 : (Jvm.Cond.fieldLink "SameStar$Book" (142 : Nat) "SameStar$Word" "number" "I") ∈ wG := tz_4 (List.mem_of_getElem? (i := 81) rfl) rfl
theorem kw_1128 : (Jvm.Cond.code ({ cls := "SameStar$Book", name := "countRoots", desc := "(I)I" } : Jvm.MethodName) prog_3_method_12_code (6 : Nat) (Option.some Jvm.ClassFile.FieldType.int)) ∈ wG := tz_5 (List.mem_of_getElem? (i := 71) rfl) rfl
theorem kw_477 : (Jvm.Cond.methodLink "SameStar$Comet" (3 : Nat) ({ cls := "java/lang/Object", name := "<init>", desc := "()V" } : Jvm.MethodName)) ∈ wG := tz_2 (List.mem_of_getElem? (i := 140) rfl) rfl
theorem kw_478 : (Jvm.Cond.constant "SameStar$Comet" (9 : Nat) (-2000000000 : Int32)) ∈ wG := tz_2 (List.mem_of_getElem? (i := 141) rfl) rfl
theorem kw_507 : (Jvm.Cond.fieldLink "SameStar$Comet" (10 : Nat) "SameStar$Comet" "brokeOn" "I") ∈ wG := tz_2 (List.mem_of_getElem? (i := 170) rfl) rfl
theorem kw_510 : (Jvm.Cond.fieldLink "SameStar$Comet" (16 : Nat) "SameStar$Comet" "first" "I") ∈ wG := tz_2 (List.mem_of_getElem? (i := 173) rfl) rfl
theorem kw_514 : (Jvm.Cond.fieldLink "SameStar$Comet" (19 : Nat) "SameStar$Comet" "last" "I") ∈ wG := tz_2 (List.mem_of_getElem? (i := 177) rfl) rfl
theorem kw_518 : (Jvm.Cond.fieldLink "SameStar$Comet" (22 : Nat) "SameStar$Comet" "passes" "[I") ∈ wG := tz_2 (List.mem_of_getElem? (i := 181) rfl) rfl
theorem kw_519 : (Jvm.Cond.fieldLink "SameStar$Comet" (26 : Nat) "SameStar$Comet" "degrees" "[I") ∈ wG := tz_2 (List.mem_of_getElem? (i := 182) rfl) rfl
theorem kw_520 : (Jvm.Cond.fieldLink "SameStar$Comet" (29 : Nat) "SameStar$Comet" "sights" "[J") ∈ wG := tz_2 (List.mem_of_getElem? (i := 183) rfl) rfl
theorem kw_522 : (Jvm.Cond.fieldLink "SameStar$Comet" (33 : Nat) "SameStar$Comet" "sightsVersions" "[I") ∈ wG := tz_2 (List.mem_of_getElem? (i := 185) rfl) rfl
theorem kw_485 : (Jvm.Cond.fieldLink "SameStar$Comet" (36 : Nat) "SameStar$Comet" "pass" "I") ∈ wG := tz_2 (List.mem_of_getElem? (i := 148) rfl) rfl
theorem kw_488 : (Jvm.Cond.fieldLink "SameStar$Comet" (39 : Nat) "SameStar$Comet" "span" "I") ∈ wG := tz_2 (List.mem_of_getElem? (i := 151) rfl) rfl
theorem kw_491 : (Jvm.Cond.fieldLink "SameStar$Comet" (42 : Nat) "SameStar$Comet" "node" "I") ∈ wG := tz_2 (List.mem_of_getElem? (i := 154) rfl) rfl
theorem kw_494 : (Jvm.Cond.fieldLink "SameStar$Comet" (45 : Nat) "SameStar$Comet" "reach" "I") ∈ wG := tz_2 (List.mem_of_getElem? (i := 157) rfl) rfl
theorem kw_497 : (Jvm.Cond.fieldLink "SameStar$Comet" (48 : Nat) "SameStar$Comet" "way" "I") ∈ wG := tz_2 (List.mem_of_getElem? (i := 160) rfl) rfl
theorem kw_500 : (Jvm.Cond.fieldLink "SameStar$Comet" (51 : Nat) "SameStar$Comet" "bright" "I") ∈ wG := tz_2 (List.mem_of_getElem? (i := 163) rfl) rfl
theorem kw_504 : (Jvm.Cond.fieldLink "SameStar$Comet" (54 : Nat) "SameStar$Comet" "parent" "I") ∈ wG := tz_2 (List.mem_of_getElem? (i := 167) rfl) rfl
theorem kw_480 : (Jvm.Cond.static ({ cls := "SameStar", name := "turned", desc := "(III)I" } : Jvm.MethodName)) ∈ wG := tz_2 (List.mem_of_getElem? (i := 143) rfl) rfl
theorem kw_476 : (Jvm.Cond.code ({ cls := "SameStar$Comet", name := "<init>", desc := "(IIIIIII)V" } : Jvm.MethodName) prog_4_method_1_code (9 : Nat) (Option.none : Option Jvm.ClassFile.FieldType)) ∈ wG := tz_2 (List.mem_of_getElem? (i := 139) rfl) rfl
theorem kw_110 : (Jvm.Cond.initialized "SameStar$Comet") ∈ wG := tz_1 (List.mem_of_getElem? (i := 13) rfl) rfl
theorem kw_574 : (Jvm.Cond.code ({ cls := "SameStar$Comet", name := "hasReturn", desc := "(I)Z" } : Jvm.MethodName) prog_4_method_2_code (2 : Nat) (Option.some Jvm.ClassFile.FieldType.boolean)) ∈ wG := tz_2 (List.mem_of_getElem? (i := 237) rfl) rfl
theorem kw_439 : (Jvm.Cond.static ({ cls := "SameStar", name := "isReturnNumber", desc := "(I)Z" } : Jvm.MethodName)) ∈ wG := tz_2 (List.mem_of_getElem? (i := 102) rfl) rfl
theorem kw_444 : (Jvm.Cond.code ({ cls := "SameStar$Comet", name := "passOf", desc := "(I)I" } : Jvm.MethodName) prog_4_method_3_code (2 : Nat) (Option.some Jvm.ClassFile.FieldType.int)) ∈ wG := tz_2 (List.mem_of_getElem? (i := 107) rfl) rfl
theorem kw_437 : (Jvm.Cond.code ({ cls := "SameStar$Comet", name := "setPass", desc := "(II)V" } : Jvm.MethodName) prog_4_method_4_code (3 : Nat) (Option.none : Option Jvm.ClassFile.FieldType)) ∈ wG := tz_2 (List.mem_of_getElem? (i := 100) rfl) rfl
theorem kw_592 : (Jvm.Cond.code ({ cls := "SameStar$Comet", name := "degreeAt", desc := "(I)I" } : Jvm.MethodName) prog_4_method_5_code (2 : Nat) (Option.some Jvm.ClassFile.FieldType.int)) ∈ wG := tz_3 (List.mem_of_getElem? (i := 15) rfl) rfl
theorem kw_597 : (Jvm.Cond.methodLink "SameStar$Comet" (65 : Nat) ({ cls := "java/lang/Math", name := "abs", desc := "(I)I" } : Jvm.MethodName)) ∈ wG := tz_3 (List.mem_of_getElem? (i := 20) rfl) rfl
theorem kw_483 : (Jvm.Cond.static ({ cls := "java/lang/Math", name := "abs", desc := "(I)I" } : Jvm.MethodName)) ∈ wG := tz_2 (List.mem_of_getElem? (i := 146) rfl) rfl
theorem kw_596 : (Jvm.Cond.code ({ cls := "SameStar$Comet", name := "distanceAt", desc := "(I)I" } : Jvm.MethodName) prog_4_method_6_code (2 : Nat) (Option.some Jvm.ClassFile.FieldType.int)) ∈ wG := tz_3 (List.mem_of_getElem? (i := 19) rfl) rfl
theorem kw_602 : (Jvm.Cond.methodLink "SameStar$Comet" (71 : Nat) ({ cls := "SameStar$Comet", name := "degreeAt", desc := "(I)I" } : Jvm.MethodName)) ∈ wG := tz_3 (List.mem_of_getElem? (i := 25) rfl) rfl
theorem kw_590 : (Jvm.Cond.instanceMethod ({ cls := "SameStar$Comet", name := "degreeAt", desc := "(I)I" } : Jvm.MethodName)) ∈ wG := tz_3 (List.mem_of_getElem? (i := 13) rfl) rfl
theorem kw_591 : (Jvm.Cond.selects "SameStar$Comet" ({ cls := "SameStar$Comet", name := "degreeAt", desc := "(I)I" } : Jvm.MethodName) ({ cls := "SameStar$Comet", name := "degreeAt", desc := "(I)I" } : Jvm.MethodName)) ∈ wG := tz_3 (List.mem_of_getElem? (i := 14) rfl) rfl
theorem kw_604 : (Jvm.Cond.static ({ cls := "SameStar", name := "apart", desc := "(II)I" } : Jvm.MethodName)) ∈ wG := tz_3 (List.mem_of_getElem? (i := 27) rfl) rfl
theorem kw_601 : (Jvm.Cond.code ({ cls := "SameStar$Comet", name := "apartOfSun", desc := "(II)I" } : Jvm.MethodName) prog_4_method_7_code (3 : Nat) (Option.some Jvm.ClassFile.FieldType.int)) ∈ wG := tz_3 (List.mem_of_getElem? (i := 24) rfl) rfl
theorem kw_1082 : (Jvm.Cond.code ({ cls := "SameStar$Comet", name := "isWest", desc := "(II)Z" } : Jvm.MethodName) prog_4_method_8_code (3 : Nat) (Option.some Jvm.ClassFile.FieldType.boolean)) ∈ wG := tz_5 (List.mem_of_getElem? (i := 25) rfl) rfl
theorem kw_333 : (Jvm.Cond.methodLink "SameStar$Evenings" (3 : Nat) ({ cls := "java/lang/Object", name := "<init>", desc := "()V" } : Jvm.MethodName)) ∈ wG := tz_1 (List.mem_of_getElem? (i := 236) rfl) rfl
theorem kw_334 : (Jvm.Cond.fieldLink "SameStar$Evenings" (11 : Nat) "SameStar$Evenings" "days" "[I") ∈ wG := tz_1 (List.mem_of_getElem? (i := 237) rfl) rfl
theorem kw_335 : (Jvm.Cond.fieldLink "SameStar$Evenings" (15 : Nat) "SameStar$Evenings" "degrees" "[I") ∈ wG := tz_1 (List.mem_of_getElem? (i := 238) rfl) rfl
theorem kw_336 : (Jvm.Cond.fieldLink "SameStar$Evenings" (18 : Nat) "SameStar$Evenings" "count" "I") ∈ wG := tz_1 (List.mem_of_getElem? (i := 239) rfl) rfl
theorem kw_332 : (Jvm.Cond.code ({ cls := "SameStar$Evenings", name := "<init>", desc := "()V" } : Jvm.MethodName) prog_5_method_1_code (1 : Nat) (Option.none : Option Jvm.ClassFile.FieldType)) ∈ wG := tz_1 (List.mem_of_getElem? (i := 235) rfl) rfl
theorem kw_106 : (Jvm.Cond.initialized "SameStar$Evenings") ∈ wG := tz_1 (List.mem_of_getElem? (i := 9) rfl) rfl
theorem kw_1183 : (Jvm.Cond.code ({ cls := "SameStar$Evenings", name := "addEvening", desc := "(II)I" } : Jvm.MethodName) prog_5_method_2_code (3 : Nat) (Option.some Jvm.ClassFile.FieldType.int)) ∈ wG := tz_5 (List.mem_of_getElem? (i := 126) rfl) rfl
theorem kw_1192 : (Jvm.Cond.constant "SameStar$Evenings" (22 : Nat) (999999 : Int32)) ∈ wG := tz_5 (List.mem_of_getElem? (i := 135) rfl) rfl
theorem kw_1193 : (Jvm.Cond.methodLink "SameStar$Evenings" (23 : Nat) ({ cls := "java/lang/Math", name := "min", desc := "(II)I" } : Jvm.MethodName)) ∈ wG := tz_5 (List.mem_of_getElem? (i := 136) rfl) rfl
theorem kw_1194 : (Jvm.Cond.methodLink "SameStar$Evenings" (29 : Nat) ({ cls := "java/lang/Math", name := "max", desc := "(II)I" } : Jvm.MethodName)) ∈ wG := tz_5 (List.mem_of_getElem? (i := 137) rfl) rfl
theorem kw_1195 : (Jvm.Cond.methodLink "SameStar$Evenings" (32 : Nat) ({ cls := "SameStar$Evenings", name := "nodeOf", desc := "(IIII)I" } : Jvm.MethodName)) ∈ wG := tz_5 (List.mem_of_getElem? (i := 138) rfl) rfl
theorem kw_1197 : (Jvm.Cond.instanceMethod ({ cls := "SameStar$Evenings", name := "nodeOf", desc := "(IIII)I" } : Jvm.MethodName)) ∈ wG := tz_5 (List.mem_of_getElem? (i := 140) rfl) rfl
theorem kw_25 : (Cond.selects "SameStar$Evenings" ⟨"SameStar$Evenings", "nodeOf", "(IIII)I"⟩ ⟨"SameStar$Evenings", "nodeOf", "(IIII)I"⟩) ∈ wG := wG_of 25 (by decide +kernel) rfl
theorem kw_1191 : (Jvm.Cond.code ({ cls := "SameStar$Evenings", name := "findPaths", desc := "(III)I" } : Jvm.MethodName) prog_5_method_3_code (10 : Nat) (Option.some Jvm.ClassFile.FieldType.int)) ∈ wG := tz_5 (List.mem_of_getElem? (i := 134) rfl) rfl
theorem kw_587 : (Jvm.Cond.static ({ cls := "SameStar", name := "isFar", desc := "(I)Z" } : Jvm.MethodName)) ∈ wG := tz_3 (List.mem_of_getElem? (i := 10) rfl) rfl
theorem kw_1198 : (Jvm.Cond.code ({ cls := "SameStar$Evenings", name := "nodeOf", desc := "(IIII)I" } : Jvm.MethodName) prog_5_method_4_code (9 : Nat) (Option.some Jvm.ClassFile.FieldType.int)) ∈ wG := tz_5 (List.mem_of_getElem? (i := 141) rfl) rfl
theorem kw_364 : (Jvm.Cond.methodLink "SameStar$Pages" (3 : Nat) ({ cls := "java/lang/Object", name := "<init>", desc := "()V" } : Jvm.MethodName)) ∈ wG := tz_2 (List.mem_of_getElem? (i := 27) rfl) rfl
theorem kw_367 : (Jvm.Cond.fieldLink "SameStar$Pages" (11 : Nat) "SameStar$Pages" "holds" "[I") ∈ wG := tz_2 (List.mem_of_getElem? (i := 30) rfl) rfl
theorem kw_368 : (Jvm.Cond.fieldLink "SameStar$Pages" (15 : Nat) "SameStar$Pages" "wordOf" "[I") ∈ wG := tz_2 (List.mem_of_getElem? (i := 31) rfl) rfl
theorem kw_369 : (Jvm.Cond.fieldLink "SameStar$Pages" (18 : Nat) "SameStar$Pages" "sortOf" "[I") ∈ wG := tz_2 (List.mem_of_getElem? (i := 32) rfl) rfl
theorem kw_370 : (Jvm.Cond.fieldLink "SameStar$Pages" (21 : Nat) "SameStar$Pages" "sizeOf" "[I") ∈ wG := tz_2 (List.mem_of_getElem? (i := 33) rfl) rfl
theorem kw_365 : (Jvm.Cond.classLink "SameStar$Pages" (24 : Nat) "[[J") ∈ wG := tz_2 (List.mem_of_getElem? (i := 28) rfl) rfl
theorem kw_327 : (Jvm.Cond.arrayClass Jvm.ClassFile.FieldType.long) ∈ wG := tz_1 (List.mem_of_getElem? (i := 230) rfl) rfl
theorem kw_371 : (Jvm.Cond.fieldLink "SameStar$Pages" (26 : Nat) "SameStar$Pages" "rows" "[[J") ∈ wG := tz_2 (List.mem_of_getElem? (i := 34) rfl) rfl
theorem kw_363 : (Jvm.Cond.code ({ cls := "SameStar$Pages", name := "<init>", desc := "()V" } : Jvm.MethodName) prog_6_method_1_code (1 : Nat) (Option.none : Option Jvm.ClassFile.FieldType)) ∈ wG := tz_2 (List.mem_of_getElem? (i := 26) rfl) rfl
theorem kw_108 : (Jvm.Cond.initialized "SameStar$Pages") ∈ wG := tz_1 (List.mem_of_getElem? (i := 11) rfl) rfl
theorem kw_995 : (Jvm.Cond.code ({ cls := "SameStar$Pages", name := "isPage", desc := "(I)Z" } : Jvm.MethodName) prog_6_method_2_code (2 : Nat) (Option.some Jvm.ClassFile.FieldType.boolean)) ∈ wG := tz_4 (List.mem_of_getElem? (i := 178) rfl) rfl
theorem kw_1001 : (Jvm.Cond.methodLink "SameStar$Pages" (33 : Nat) ({ cls := "SameStar$Pages", name := "isPage", desc := "(I)Z" } : Jvm.MethodName)) ∈ wG := tz_4 (List.mem_of_getElem? (i := 184) rfl) rfl
theorem kw_993 : (Jvm.Cond.instanceMethod ({ cls := "SameStar$Pages", name := "isPage", desc := "(I)Z" } : Jvm.MethodName)) ∈ wG := tz_4 (List.mem_of_getElem? (i := 176) rfl) rfl
theorem kw_994 : (Jvm.Cond.selects "SameStar$Pages" ({ cls := "SameStar$Pages", name := "isPage", desc := "(I)Z" } : Jvm.MethodName) ({ cls := "SameStar$Pages", name := "isPage", desc := "(I)Z" } : Jvm.MethodName)) ∈ wG := tz_4 (List.mem_of_getElem? (i := 177) rfl) rfl
theorem kw_1000 : (Jvm.Cond.code ({ cls := "SameStar$Pages", name := "isEmpty", desc := "(I)Z" } : Jvm.MethodName) prog_6_method_3_code (2 : Nat) (Option.some Jvm.ClassFile.FieldType.boolean)) ∈ wG := tz_4 (List.mem_of_getElem? (i := 183) rfl) rfl
theorem kw_1009 : (Jvm.Cond.code ({ cls := "SameStar$Pages", name := "isRow", desc := "(I)Z" } : Jvm.MethodName) prog_6_method_4_code (2 : Nat) (Option.some Jvm.ClassFile.FieldType.boolean)) ∈ wG := tz_4 (List.mem_of_getElem? (i := 192) rfl) rfl
theorem kw_1006 : (Jvm.Cond.methodLink "SameStar$Pages" (37 : Nat) ({ cls := "SameStar$Pages", name := "isRow", desc := "(I)Z" } : Jvm.MethodName)) ∈ wG := tz_4 (List.mem_of_getElem? (i := 189) rfl) rfl
theorem kw_1007 : (Jvm.Cond.instanceMethod ({ cls := "SameStar$Pages", name := "isRow", desc := "(I)Z" } : Jvm.MethodName)) ∈ wG := tz_4 (List.mem_of_getElem? (i := 190) rfl) rfl
theorem kw_1008 : (Jvm.Cond.selects "SameStar$Pages" ({ cls := "SameStar$Pages", name := "isRow", desc := "(I)Z" } : Jvm.MethodName) ({ cls := "SameStar$Pages", name := "isRow", desc := "(I)Z" } : Jvm.MethodName)) ∈ wG := tz_4 (List.mem_of_getElem? (i := 191) rfl) rfl
theorem kw_1005 : (Jvm.Cond.code ({ cls := "SameStar$Pages", name := "holdsShorts", desc := "(I)Z" } : Jvm.MethodName) prog_6_method_5_code (2 : Nat) (Option.some Jvm.ClassFile.FieldType.boolean)) ∈ wG := tz_4 (List.mem_of_getElem? (i := 188) rfl) rfl
theorem kw_1402 : (Jvm.Cond.code ({ cls := "SameStar$Pages", name := "areRowsOfOneSort", desc := "(II)Z" } : Jvm.MethodName) prog_6_method_6_code (3 : Nat) (Option.some Jvm.ClassFile.FieldType.boolean)) ∈ wG := tz_6 (List.mem_of_getElem? (i := 105) rfl) rfl
theorem kw_1017 : (Jvm.Cond.code ({ cls := "SameStar$Pages", name := "hasPlaces", desc := "(III)Z" } : Jvm.MethodName) prog_6_method_7_code (4 : Nat) (Option.some Jvm.ClassFile.FieldType.boolean)) ∈ wG := tz_4 (List.mem_of_getElem? (i := 200) rfl) rfl
theorem kw_1014 : (Jvm.Cond.methodLink "SameStar$Pages" (40 : Nat) ({ cls := "SameStar$Pages", name := "hasPlaces", desc := "(III)Z" } : Jvm.MethodName)) ∈ wG := tz_4 (List.mem_of_getElem? (i := 197) rfl) rfl
theorem kw_1015 : (Jvm.Cond.instanceMethod ({ cls := "SameStar$Pages", name := "hasPlaces", desc := "(III)Z" } : Jvm.MethodName)) ∈ wG := tz_4 (List.mem_of_getElem? (i := 198) rfl) rfl
theorem kw_1016 : (Jvm.Cond.selects "SameStar$Pages" ({ cls := "SameStar$Pages", name := "hasPlaces", desc := "(III)Z" } : Jvm.MethodName) ({ cls := "SameStar$Pages", name := "hasPlaces", desc := "(III)Z" } : Jvm.MethodName)) ∈ wG := tz_4 (List.mem_of_getElem? (i := 199) rfl) rfl
theorem kw_1013 : (Jvm.Cond.code ({ cls := "SameStar$Pages", name := "hasFiveFrom", desc := "(II)Z" } : Jvm.MethodName) prog_6_method_8_code (3 : Nat) (Option.some Jvm.ClassFile.FieldType.boolean)) ∈ wG := tz_4 (List.mem_of_getElem? (i := 196) rfl) rfl
theorem kw_1417 : (Jvm.Cond.code ({ cls := "SameStar$Pages", name := "wordOn", desc := "(I)I" } : Jvm.MethodName) prog_6_method_9_code (2 : Nat) (Option.some Jvm.ClassFile.FieldType.int)) ∈ wG := tz_6 (List.mem_of_getElem? (i := 120) rfl) rfl
theorem kw_1364 : (Jvm.Cond.code ({ cls := "SameStar$Pages", name := "keepNothing", desc := "(I)V" } : Jvm.MethodName) prog_6_method_10_code (2 : Nat) (Option.none : Option Jvm.ClassFile.FieldType)) ∈ wG := tz_6 (List.mem_of_getElem? (i := 67) rfl) rfl
theorem kw_1368 : (Jvm.Cond.code ({ cls := "SameStar$Pages", name := "keepWord", desc := "(II)V" } : Jvm.MethodName) prog_6_method_11_code (3 : Nat) (Option.none : Option Jvm.ClassFile.FieldType)) ∈ wG := tz_6 (List.mem_of_getElem? (i := 71) rfl) rfl
theorem kw_1377 : (Jvm.Cond.methodLink "SameStar$Pages" (43 : Nat) ({ cls := "java/util/Arrays", name := "fill", desc := "([JJ)V" } : Jvm.MethodName)) ∈ wG := tz_6 (List.mem_of_getElem? (i := 80) rfl) rfl
theorem kw_424 : (Jvm.Cond.static ({ cls := "java/util/Arrays", name := "fill", desc := "([JJ)V" } : Jvm.MethodName)) ∈ wG := tz_2 (List.mem_of_getElem? (i := 87) rfl) rfl
theorem kw_1376 : (Jvm.Cond.code ({ cls := "SameStar$Pages", name := "keepRow", desc := "(III)V" } : Jvm.MethodName) prog_6_method_12_code (4 : Nat) (Option.none : Option Jvm.ClassFile.FieldType)) ∈ wG := tz_6 (List.mem_of_getElem? (i := 79) rfl) rfl
theorem kw_1030 : (Jvm.Cond.methodLink "SameStar$Pages" (49 : Nat) ({ cls := "SameStar$Pages", name := "isEmpty", desc := "(I)Z" } : Jvm.MethodName)) ∈ wG := tz_4 (List.mem_of_getElem? (i := 213) rfl) rfl
theorem kw_998 : (Jvm.Cond.instanceMethod ({ cls := "SameStar$Pages", name := "isEmpty", desc := "(I)Z" } : Jvm.MethodName)) ∈ wG := tz_4 (List.mem_of_getElem? (i := 181) rfl) rfl
theorem kw_999 : (Jvm.Cond.selects "SameStar$Pages" ({ cls := "SameStar$Pages", name := "isEmpty", desc := "(I)Z" } : Jvm.MethodName) ({ cls := "SameStar$Pages", name := "isEmpty", desc := "(I)Z" } : Jvm.MethodName)) ∈ wG := tz_4 (List.mem_of_getElem? (i := 182) rfl) rfl
theorem kw_1029 : (Jvm.Cond.code ({ cls := "SameStar$Pages", name := "refusalOf", desc := "(II)I" } : Jvm.MethodName) prog_6_method_13_code (3 : Nat) (Option.some Jvm.ClassFile.FieldType.int)) ∈ wG := tz_4 (List.mem_of_getElem? (i := 212) rfl) rfl
theorem kw_1026 : (Jvm.Cond.methodLink "SameStar$Pages" (52 : Nat) ({ cls := "SameStar$Pages", name := "refusalOf", desc := "(II)I" } : Jvm.MethodName)) ∈ wG := tz_4 (List.mem_of_getElem? (i := 209) rfl) rfl
theorem kw_1027 : (Jvm.Cond.instanceMethod ({ cls := "SameStar$Pages", name := "refusalOf", desc := "(II)I" } : Jvm.MethodName)) ∈ wG := tz_4 (List.mem_of_getElem? (i := 210) rfl) rfl
theorem kw_1028 : (Jvm.Cond.selects "SameStar$Pages" ({ cls := "SameStar$Pages", name := "refusalOf", desc := "(II)I" } : Jvm.MethodName) ({ cls := "SameStar$Pages", name := "refusalOf", desc := "(II)I" } : Jvm.MethodName)) ∈ wG := tz_4 (List.mem_of_getElem? (i := 211) rfl) rfl
theorem kw_1025 : (Jvm.Cond.code ({ cls := "SameStar$Pages", name := "read", desc := "(II)J" } : Jvm.MethodName) prog_6_method_14_code (3 : Nat) (Option.some Jvm.ClassFile.FieldType.long)) ∈ wG := tz_4 (List.mem_of_getElem? (i := 208) rfl) rfl
theorem kw_1387 : (Jvm.Cond.methodLink "SameStar$Pages" (56 : Nat) ({ cls := "SameStar$Pages", name := "narrowed", desc := "(IJ)J" } : Jvm.MethodName)) ∈ wG := tz_6 (List.mem_of_getElem? (i := 90) rfl) rfl
theorem kw_1388 : (Jvm.Cond.static ({ cls := "SameStar$Pages", name := "narrowed", desc := "(IJ)J" } : Jvm.MethodName)) ∈ wG := tz_6 (List.mem_of_getElem? (i := 91) rfl) rfl
theorem kw_1386 : (Jvm.Cond.code ({ cls := "SameStar$Pages", name := "write", desc := "(IIJ)V" } : Jvm.MethodName) prog_6_method_15_code (5 : Nat) (Option.none : Option Jvm.ClassFile.FieldType)) ∈ wG := tz_6 (List.mem_of_getElem? (i := 89) rfl) rfl
theorem kw_1408 : (Jvm.Cond.methodLink "SameStar$Pages" (60 : Nat) ({ cls := "java/lang/System", name := "arraycopy", desc := "(Ljava/lang/Object;ILjava/lang/Object;II)V" } : Jvm.MethodName)) ∈ wG := tz_6 (List.mem_of_getElem? (i := 111) rfl) rfl
theorem kw_830 : (Jvm.Cond.native ({ cls := "java/lang/System", name := "arraycopy", desc := "(Ljava/lang/Object;ILjava/lang/Object;II)V" } : Jvm.MethodName)) ∈ wG := tz_4 (List.mem_of_getElem? (i := 13) rfl) rfl
theorem kw_829 : (Jvm.Cond.static ({ cls := "java/lang/System", name := "arraycopy", desc := "(Ljava/lang/Object;ILjava/lang/Object;II)V" } : Jvm.MethodName)) ∈ wG := tz_4 (List.mem_of_getElem? (i := 12) rfl) rfl
theorem kw_117 : (Jvm.Cond.initialized "java/lang/System") ∈ wG := tz_1 (List.mem_of_getElem? (i := 20) rfl) rfl
theorem kw_1407 : (Jvm.Cond.code ({ cls := "SameStar$Pages", name := "copy", desc := "(IIIII)V" } : Jvm.MethodName) prog_6_method_16_code (6 : Nat) (Option.none : Option Jvm.ClassFile.FieldType)) ∈ wG := tz_6 (List.mem_of_getElem? (i := 110) rfl) rfl
theorem kw_1389 : (Jvm.Cond.code ({ cls := "SameStar$Pages", name := "narrowed", desc := "(IJ)J" } : Jvm.MethodName) prog_6_method_17_code (3 : Nat) (Option.some Jvm.ClassFile.FieldType.long)) ∈ wG := tz_6 (List.mem_of_getElem? (i := 92) rfl) rfl
theorem kw_187 : (Jvm.Cond.methodLink "SameStar$Sight" (5 : Nat) ({ cls := "java/lang/Object", name := "<init>", desc := "()V" } : Jvm.MethodName)) ∈ wG := tz_1 (List.mem_of_getElem? (i := 90) rfl) rfl
theorem kw_188 : (Jvm.Cond.classLink "SameStar$Sight" (11 : Nat) "SameStar$Text") ∈ wG := tz_1 (List.mem_of_getElem? (i := 91) rfl) rfl
theorem kw_201 : (Jvm.Cond.fieldLink "SameStar$Sight" (14 : Nat) "SameStar$Sight" "seenText" "LSameStar$Text;") ∈ wG := tz_1 (List.mem_of_getElem? (i := 104) rfl) rfl
theorem kw_203 : (Jvm.Cond.fieldLink "SameStar$Sight" (18 : Nat) "SameStar$Sight" "tailText" "LSameStar$Text;") ∈ wG := tz_1 (List.mem_of_getElem? (i := 106) rfl) rfl
theorem kw_205 : (Jvm.Cond.fieldLink "SameStar$Sight" (21 : Nat) "SameStar$Sight" "names" "[I") ∈ wG := tz_1 (List.mem_of_getElem? (i := 108) rfl) rfl
theorem kw_206 : (Jvm.Cond.fieldLink "SameStar$Sight" (25 : Nat) "SameStar$Sight" "stack" "[I") ∈ wG := tz_1 (List.mem_of_getElem? (i := 109) rfl) rfl
theorem kw_207 : (Jvm.Cond.fieldLink "SameStar$Sight" (28 : Nat) "SameStar$Sight" "version" "I") ∈ wG := tz_1 (List.mem_of_getElem? (i := 110) rfl) rfl
theorem kw_186 : (Jvm.Cond.code ({ cls := "SameStar$Sight", name := "<init>", desc := "()V" } : Jvm.MethodName) prog_7_method_1_code (1 : Nat) (Option.none : Option Jvm.ClassFile.FieldType)) ∈ wG := tz_1 (List.mem_of_getElem? (i := 89) rfl) rfl
theorem kw_101 : (Jvm.Cond.initialized "SameStar$Sight") ∈ wG := tz_1 (List.mem_of_getElem? (i := 4) rfl) rfl
theorem kw_418 : (Jvm.Cond.code ({ cls := "SameStar$Sight", name := "forgetSights", desc := "()V" } : Jvm.MethodName) prog_7_method_2_code (1 : Nat) (Option.none : Option Jvm.ClassFile.FieldType)) ∈ wG := tz_2 (List.mem_of_getElem? (i := 81) rfl) rfl
theorem kw_613 : (Jvm.Cond.methodLink "SameStar$Sight" (32 : Nat) ({ cls := "SameStar$Text", name := "isTold", desc := "()Z" } : Jvm.MethodName)) ∈ wG := tz_3 (List.mem_of_getElem? (i := 36) rfl) rfl
theorem kw_617 : (Jvm.Cond.methodLink "SameStar$Sight" (36 : Nat) ({ cls := "SameStar$Sight", name := "toldBy", desc := "(LSameStar$Text;LSameStar$Comet;III)I" } : Jvm.MethodName)) ∈ wG := tz_3 (List.mem_of_getElem? (i := 40) rfl) rfl
theorem kw_619 : (Jvm.Cond.instanceMethod ({ cls := "SameStar$Sight", name := "toldBy", desc := "(LSameStar$Text;LSameStar$Comet;III)I" } : Jvm.MethodName)) ∈ wG := tz_3 (List.mem_of_getElem? (i := 42) rfl) rfl
theorem kw_4 : (Cond.selects "SameStar$Sight" ⟨"SameStar$Sight", "toldBy", "(LSameStar$Text;LSameStar$Comet;III)I"⟩ ⟨"SameStar$Sight", "toldBy", "(LSameStar$Text;LSameStar$Comet;III)I"⟩) ∈ wG := wG_of 4 (by decide +kernel) rfl
theorem kw_634 : (Jvm.Cond.methodLink "SameStar$Sight" (40 : Nat) ({ cls := "java/lang/Math", name := "min", desc := "(II)I" } : Jvm.MethodName)) ∈ wG := tz_3 (List.mem_of_getElem? (i := 57) rfl) rfl
theorem kw_635 : (Jvm.Cond.methodLink "SameStar$Sight" (46 : Nat) ({ cls := "java/lang/Math", name := "max", desc := "(II)I" } : Jvm.MethodName)) ∈ wG := tz_3 (List.mem_of_getElem? (i := 58) rfl) rfl
theorem kw_612 : (Jvm.Cond.code ({ cls := "SameStar$Sight", name := "tailOf", desc := "(LSameStar$Comet;III)I" } : Jvm.MethodName) prog_7_method_3_code (5 : Nat) (Option.some Jvm.ClassFile.FieldType.int)) ∈ wG := tz_3 (List.mem_of_getElem? (i := 35) rfl) rfl
theorem kw_621 : (Jvm.Cond.methodLink "SameStar$Sight" (49 : Nat) ({ cls := "SameStar$Comet", name := "degreeAt", desc := "(I)I" } : Jvm.MethodName)) ∈ wG := tz_3 (List.mem_of_getElem? (i := 44) rfl) rfl
theorem kw_623 : (Jvm.Cond.methodLink "SameStar$Sight" (58 : Nat) ({ cls := "SameStar$Comet", name := "distanceAt", desc := "(I)I" } : Jvm.MethodName)) ∈ wG := tz_3 (List.mem_of_getElem? (i := 46) rfl) rfl
theorem kw_594 : (Jvm.Cond.instanceMethod ({ cls := "SameStar$Comet", name := "distanceAt", desc := "(I)I" } : Jvm.MethodName)) ∈ wG := tz_3 (List.mem_of_getElem? (i := 17) rfl) rfl
theorem kw_595 : (Jvm.Cond.selects "SameStar$Comet" ({ cls := "SameStar$Comet", name := "distanceAt", desc := "(I)I" } : Jvm.MethodName) ({ cls := "SameStar$Comet", name := "distanceAt", desc := "(I)I" } : Jvm.MethodName)) ∈ wG := tz_3 (List.mem_of_getElem? (i := 18) rfl) rfl
theorem kw_501 : (Jvm.Cond.fieldLink "SameStar$Sight" (61 : Nat) "SameStar$Comet" "bright" "I") ∈ wG := tz_2 (List.mem_of_getElem? (i := 164) rfl) rfl
theorem kw_624 : (Jvm.Cond.methodLink "SameStar$Sight" (64 : Nat) ({ cls := "SameStar$Text", name := "valueWith", desc := "([I[I)I" } : Jvm.MethodName)) ∈ wG := tz_3 (List.mem_of_getElem? (i := 47) rfl) rfl
theorem kw_620 : (Jvm.Cond.code ({ cls := "SameStar$Sight", name := "toldBy", desc := "(LSameStar$Text;LSameStar$Comet;III)I" } : Jvm.MethodName) prog_7_method_4_code (7 : Nat) (Option.some Jvm.ClassFile.FieldType.int)) ∈ wG := tz_3 (List.mem_of_getElem? (i := 43) rfl) rfl
theorem kw_647 : (Jvm.Cond.methodLink "SameStar$Sight" (68 : Nat) ({ cls := "SameStar$Comet", name := "passOf", desc := "(I)I" } : Jvm.MethodName)) ∈ wG := tz_3 (List.mem_of_getElem? (i := 70) rfl) rfl
theorem kw_442 : (Jvm.Cond.instanceMethod ({ cls := "SameStar$Comet", name := "passOf", desc := "(I)I" } : Jvm.MethodName)) ∈ wG := tz_2 (List.mem_of_getElem? (i := 105) rfl) rfl
theorem kw_443 : (Jvm.Cond.selects "SameStar$Comet" ({ cls := "SameStar$Comet", name := "passOf", desc := "(I)I" } : Jvm.MethodName) ({ cls := "SameStar$Comet", name := "passOf", desc := "(I)I" } : Jvm.MethodName)) ∈ wG := tz_2 (List.mem_of_getElem? (i := 106) rfl) rfl
theorem kw_649 : (Jvm.Cond.methodLink "SameStar$Sight" (75 : Nat) ({ cls := "SameStar$Comet", name := "apartOfSun", desc := "(II)I" } : Jvm.MethodName)) ∈ wG := tz_3 (List.mem_of_getElem? (i := 72) rfl) rfl
theorem kw_599 : (Jvm.Cond.instanceMethod ({ cls := "SameStar$Comet", name := "apartOfSun", desc := "(II)I" } : Jvm.MethodName)) ∈ wG := tz_3 (List.mem_of_getElem? (i := 22) rfl) rfl
theorem kw_600 : (Jvm.Cond.selects "SameStar$Comet" ({ cls := "SameStar$Comet", name := "apartOfSun", desc := "(II)I" } : Jvm.MethodName) ({ cls := "SameStar$Comet", name := "apartOfSun", desc := "(II)I" } : Jvm.MethodName)) ∈ wG := tz_3 (List.mem_of_getElem? (i := 23) rfl) rfl
theorem kw_650 : (Jvm.Cond.methodLink "SameStar$Sight" (78 : Nat) ({ cls := "SameStar$Sight", name := "sightsOf", desc := "(LSameStar$Comet;I)[J" } : Jvm.MethodName)) ∈ wG := tz_3 (List.mem_of_getElem? (i := 73) rfl) rfl
theorem kw_652 : (Jvm.Cond.instanceMethod ({ cls := "SameStar$Sight", name := "sightsOf", desc := "(LSameStar$Comet;I)[J" } : Jvm.MethodName)) ∈ wG := tz_3 (List.mem_of_getElem? (i := 75) rfl) rfl
theorem kw_5 : (Cond.selects "SameStar$Sight" ⟨"SameStar$Sight", "sightsOf", "(LSameStar$Comet;I)[J"⟩ ⟨"SameStar$Sight", "sightsOf", "(LSameStar$Comet;I)[J"⟩) ∈ wG := wG_of 5 (by decide +kernel) rfl
theorem kw_646 : (Jvm.Cond.code ({ cls := "SameStar$Sight", name := "seenOn", desc := "(LSameStar$Comet;IIII)Z" } : Jvm.MethodName) prog_7_method_5_code (11 : Nat) (Option.some Jvm.ClassFile.FieldType.boolean)) ∈ wG := tz_3 (List.mem_of_getElem? (i := 69) rfl) rfl
theorem kw_521 : (Jvm.Cond.fieldLink "SameStar$Sight" (82 : Nat) "SameStar$Comet" "sights" "[J") ∈ wG := tz_2 (List.mem_of_getElem? (i := 184) rfl) rfl
theorem kw_523 : (Jvm.Cond.fieldLink "SameStar$Sight" (89 : Nat) "SameStar$Comet" "sightsVersions" "[I") ∈ wG := tz_2 (List.mem_of_getElem? (i := 186) rfl) rfl
theorem kw_653 : (Jvm.Cond.code ({ cls := "SameStar$Sight", name := "sightsOf", desc := "(LSameStar$Comet;I)[J" } : Jvm.MethodName) prog_7_method_6_code (6 : Nat) (Option.some (Jvm.ClassFile.FieldType.array Jvm.ClassFile.FieldType.long))) ∈ wG := tz_3 (List.mem_of_getElem? (i := 76) rfl) rfl
theorem kw_1068 : (Jvm.Cond.methodLink "SameStar$Sight" (92 : Nat) ({ cls := "SameStar$Word", name := "rootWord", desc := "()LSameStar$Word;" } : Jvm.MethodName)) ∈ wG := tz_5 (List.mem_of_getElem? (i := 11) rfl) rfl
theorem kw_904 : (Jvm.Cond.fieldLink "SameStar$Sight" (98 : Nat) "SameStar$Word" "kind" "I") ∈ wG := tz_4 (List.mem_of_getElem? (i := 87) rfl) rfl
theorem kw_932 : (Jvm.Cond.fieldLink "SameStar$Sight" (101 : Nat) "SameStar$Word" "spans" "I") ∈ wG := tz_4 (List.mem_of_getElem? (i := 115) rfl) rfl
theorem kw_1069 : (Jvm.Cond.methodLink "SameStar$Sight" (104 : Nat) ({ cls := "SameStar$Word", name := "spanFrom", desc := "(I)I" } : Jvm.MethodName)) ∈ wG := tz_5 (List.mem_of_getElem? (i := 12) rfl) rfl
theorem kw_1070 : (Jvm.Cond.methodLink "SameStar$Sight" (107 : Nat) ({ cls := "SameStar$Word", name := "spanTo", desc := "(I)I" } : Jvm.MethodName)) ∈ wG := tz_5 (List.mem_of_getElem? (i := 13) rfl) rfl
theorem kw_907 : (Jvm.Cond.fieldLink "SameStar$Sight" (110 : Nat) "SameStar$Word" "people" "I") ∈ wG := tz_4 (List.mem_of_getElem? (i := 90) rfl) rfl
theorem kw_1071 : (Jvm.Cond.methodLink "SameStar$Sight" (113 : Nat) ({ cls := "SameStar$Sight", name := "seenOn", desc := "(LSameStar$Comet;IIII)Z" } : Jvm.MethodName)) ∈ wG := tz_5 (List.mem_of_getElem? (i := 14) rfl) rfl
theorem kw_644 : (Jvm.Cond.instanceMethod ({ cls := "SameStar$Sight", name := "seenOn", desc := "(LSameStar$Comet;IIII)Z" } : Jvm.MethodName)) ∈ wG := tz_3 (List.mem_of_getElem? (i := 67) rfl) rfl
theorem kw_645 : (Jvm.Cond.selects "SameStar$Sight" ({ cls := "SameStar$Sight", name := "seenOn", desc := "(LSameStar$Comet;IIII)Z" } : Jvm.MethodName) ({ cls := "SameStar$Sight", name := "seenOn", desc := "(LSameStar$Comet;IIII)Z" } : Jvm.MethodName)) ∈ wG := tz_3 (List.mem_of_getElem? (i := 68) rfl) rfl
theorem kw_1072 : (Jvm.Cond.methodLink "SameStar$Sight" (117 : Nat) ({ cls := "SameStar$Sight", name := "isAsSaid", desc := "(LSameStar$Word;LSameStar$Comet;II)Z" } : Jvm.MethodName)) ∈ wG := tz_5 (List.mem_of_getElem? (i := 15) rfl) rfl
theorem kw_1073 : (Jvm.Cond.instanceMethod ({ cls := "SameStar$Sight", name := "isAsSaid", desc := "(LSameStar$Word;LSameStar$Comet;II)Z" } : Jvm.MethodName)) ∈ wG := tz_5 (List.mem_of_getElem? (i := 16) rfl) rfl
theorem kw_1074 : (Jvm.Cond.selects "SameStar$Sight" ({ cls := "SameStar$Sight", name := "isAsSaid", desc := "(LSameStar$Word;LSameStar$Comet;II)Z" } : Jvm.MethodName) ({ cls := "SameStar$Sight", name := "isAsSaid", desc := "(LSameStar$Word;LSameStar$Comet;II)Z" } : Jvm.MethodName)) ∈ wG := tz_5 (List.mem_of_getElem? (i := 17) rfl) rfl
theorem kw_1067 : (Jvm.Cond.code ({ cls := "SameStar$Sight", name := "fitDay", desc := "(LSameStar$Word;LSameStar$Comet;IIII)I" } : Jvm.MethodName) prog_7_method_7_code (16 : Nat) (Option.some Jvm.ClassFile.FieldType.int)) ∈ wG := tz_5 (List.mem_of_getElem? (i := 10) rfl) rfl
theorem kw_1120 : (Jvm.Cond.methodLink "SameStar$Sight" (125 : Nat) ({ cls := "SameStar$Sight", name := "fitDay", desc := "(LSameStar$Word;LSameStar$Comet;IIII)I" } : Jvm.MethodName)) ∈ wG := tz_5 (List.mem_of_getElem? (i := 63) rfl) rfl
theorem kw_1065 : (Jvm.Cond.instanceMethod ({ cls := "SameStar$Sight", name := "fitDay", desc := "(LSameStar$Word;LSameStar$Comet;IIII)I" } : Jvm.MethodName)) ∈ wG := tz_5 (List.mem_of_getElem? (i := 8) rfl) rfl
theorem kw_1066 : (Jvm.Cond.selects "SameStar$Sight" ({ cls := "SameStar$Sight", name := "fitDay", desc := "(LSameStar$Word;LSameStar$Comet;IIII)I" } : Jvm.MethodName) ({ cls := "SameStar$Sight", name := "fitDay", desc := "(LSameStar$Word;LSameStar$Comet;IIII)I" } : Jvm.MethodName)) ∈ wG := tz_5 (List.mem_of_getElem? (i := 9) rfl) rfl
theorem kw_1119 : (Jvm.Cond.code ({ cls := "SameStar$Sight", name := "goneBehind", desc := "(LSameStar$Word;LSameStar$Word;LSameStar$Comet;I)Z" } : Jvm.MethodName) prog_7_method_8_code (5 : Nat) (Option.some Jvm.ClassFile.FieldType.boolean)) ∈ wG := tz_5 (List.mem_of_getElem? (i := 62) rfl) rfl
theorem kw_928 : (Jvm.Cond.fieldLink "SameStar$Sight" (129 : Nat) "SameStar$Word" "more" "I") ∈ wG := tz_4 (List.mem_of_getElem? (i := 111) rfl) rfl
theorem kw_1076 : (Jvm.Cond.methodLink "SameStar$Sight" (132 : Nat) ({ cls := "SameStar$Sight", name := "offLodge", desc := "(II)I" } : Jvm.MethodName)) ∈ wG := tz_5 (List.mem_of_getElem? (i := 19) rfl) rfl
theorem kw_1077 : (Jvm.Cond.static ({ cls := "SameStar$Sight", name := "offLodge", desc := "(II)I" } : Jvm.MethodName)) ∈ wG := tz_5 (List.mem_of_getElem? (i := 20) rfl) rfl
theorem kw_1079 : (Jvm.Cond.methodLink "SameStar$Sight" (135 : Nat) ({ cls := "SameStar$Comet", name := "isWest", desc := "(II)Z" } : Jvm.MethodName)) ∈ wG := tz_5 (List.mem_of_getElem? (i := 22) rfl) rfl
theorem kw_1080 : (Jvm.Cond.instanceMethod ({ cls := "SameStar$Comet", name := "isWest", desc := "(II)Z" } : Jvm.MethodName)) ∈ wG := tz_5 (List.mem_of_getElem? (i := 23) rfl) rfl
theorem kw_1081 : (Jvm.Cond.selects "SameStar$Comet" ({ cls := "SameStar$Comet", name := "isWest", desc := "(II)Z" } : Jvm.MethodName) ({ cls := "SameStar$Comet", name := "isWest", desc := "(II)Z" } : Jvm.MethodName)) ∈ wG := tz_5 (List.mem_of_getElem? (i := 24) rfl) rfl
theorem kw_1083 : (Jvm.Cond.methodLink "SameStar$Sight" (139 : Nat) ({ cls := "java/lang/Math", name := "abs", desc := "(I)I" } : Jvm.MethodName)) ∈ wG := tz_5 (List.mem_of_getElem? (i := 26) rfl) rfl
theorem kw_1084 : (Jvm.Cond.methodLink "SameStar$Sight" (142 : Nat) ({ cls := "SameStar$Sight", name := "tailOf", desc := "(LSameStar$Comet;III)I" } : Jvm.MethodName)) ∈ wG := tz_5 (List.mem_of_getElem? (i := 27) rfl) rfl
theorem kw_610 : (Jvm.Cond.instanceMethod ({ cls := "SameStar$Sight", name := "tailOf", desc := "(LSameStar$Comet;III)I" } : Jvm.MethodName)) ∈ wG := tz_3 (List.mem_of_getElem? (i := 33) rfl) rfl
theorem kw_611 : (Jvm.Cond.selects "SameStar$Sight" ({ cls := "SameStar$Sight", name := "tailOf", desc := "(LSameStar$Comet;III)I" } : Jvm.MethodName) ({ cls := "SameStar$Sight", name := "tailOf", desc := "(LSameStar$Comet;III)I" } : Jvm.MethodName)) ∈ wG := tz_3 (List.mem_of_getElem? (i := 34) rfl) rfl
theorem kw_1075 : (Jvm.Cond.code ({ cls := "SameStar$Sight", name := "isAsSaid", desc := "(LSameStar$Word;LSameStar$Comet;II)Z" } : Jvm.MethodName) prog_7_method_9_code (5 : Nat) (Option.some Jvm.ClassFile.FieldType.boolean)) ∈ wG := tz_5 (List.mem_of_getElem? (i := 18) rfl) rfl
theorem kw_1078 : (Jvm.Cond.code ({ cls := "SameStar$Sight", name := "offLodge", desc := "(II)I" } : Jvm.MethodName) prog_7_method_10_code (4 : Nat) (Option.some Jvm.ClassFile.FieldType.int)) ∈ wG := tz_5 (List.mem_of_getElem? (i := 21) rfl) rfl
theorem kw_134 : (Jvm.Cond.methodLink "SameStar$Sky" (3 : Nat) ({ cls := "java/lang/Object", name := "<init>", desc := "()V" } : Jvm.MethodName)) ∈ wG := tz_1 (List.mem_of_getElem? (i := 37) rfl) rfl
theorem kw_137 : (Jvm.Cond.fieldLink "SameStar$Sky" (9 : Nat) "SameStar$Sky" "rounds" "[I") ∈ wG := tz_1 (List.mem_of_getElem? (i := 40) rfl) rfl
theorem kw_138 : (Jvm.Cond.fieldLink "SameStar$Sky" (15 : Nat) "SameStar$Sky" "pulls" "[I") ∈ wG := tz_1 (List.mem_of_getElem? (i := 41) rfl) rfl
theorem kw_139 : (Jvm.Cond.fieldLink "SameStar$Sky" (18 : Nat) "SameStar$Sky" "greats" "I") ∈ wG := tz_1 (List.mem_of_getElem? (i := 42) rfl) rfl
theorem kw_135 : (Jvm.Cond.classLink "SameStar$Sky" (22 : Nat) "SameStar$Comet") ∈ wG := tz_1 (List.mem_of_getElem? (i := 38) rfl) rfl
theorem kw_141 : (Jvm.Cond.fieldLink "SameStar$Sky" (24 : Nat) "SameStar$Sky" "all" "[LSameStar$Comet;") ∈ wG := tz_1 (List.mem_of_getElem? (i := 44) rfl) rfl
theorem kw_142 : (Jvm.Cond.fieldLink "SameStar$Sky" (28 : Nat) "SameStar$Sky" "comets" "I") ∈ wG := tz_1 (List.mem_of_getElem? (i := 45) rfl) rfl
theorem kw_133 : (Jvm.Cond.code ({ cls := "SameStar$Sky", name := "<init>", desc := "()V" } : Jvm.MethodName) prog_8_method_1_code (1 : Nat) (Option.none : Option Jvm.ClassFile.FieldType)) ∈ wG := tz_1 (List.mem_of_getElem? (i := 36) rfl) rfl
theorem kw_99 : (Jvm.Cond.initialized "SameStar$Sky") ∈ wG := tz_1 (List.mem_of_getElem? (i := 2) rfl) rfl
theorem kw_430 : (Jvm.Cond.methodLink "SameStar$Sky" (31 : Nat) ({ cls := "SameStar$Sky", name := "reckonReturns", desc := "(LSameStar$Comet;)V" } : Jvm.MethodName)) ∈ wG := tz_2 (List.mem_of_getElem? (i := 93) rfl) rfl
theorem kw_432 : (Jvm.Cond.instanceMethod ({ cls := "SameStar$Sky", name := "reckonReturns", desc := "(LSameStar$Comet;)V" } : Jvm.MethodName)) ∈ wG := tz_2 (List.mem_of_getElem? (i := 95) rfl) rfl
theorem kw_0 : (Cond.selects "SameStar$Sky" ⟨"SameStar$Sky", "reckonReturns", "(LSameStar$Comet;)V"⟩ ⟨"SameStar$Sky", "reckonReturns", "(LSameStar$Comet;)V"⟩) ∈ wG := wG_of 0 (by decide +kernel) rfl
theorem kw_429 : (Jvm.Cond.code ({ cls := "SameStar$Sky", name := "addGreat", desc := "(II)I" } : Jvm.MethodName) prog_8_method_2_code (4 : Nat) (Option.some Jvm.ClassFile.FieldType.int)) ∈ wG := tz_2 (List.mem_of_getElem? (i := 92) rfl) rfl
theorem kw_556 : (Jvm.Cond.code ({ cls := "SameStar$Sky", name := "addComet", desc := "(LSameStar$Comet;)I" } : Jvm.MethodName) prog_8_method_3_code (2 : Nat) (Option.some Jvm.ClassFile.FieldType.int)) ∈ wG := tz_2 (List.mem_of_getElem? (i := 219) rfl) rfl
theorem kw_564 : (Jvm.Cond.code ({ cls := "SameStar$Sky", name := "cometAt", desc := "(I)LSameStar$Comet;" } : Jvm.MethodName) prog_8_method_4_code (2 : Nat) (Option.some (Jvm.ClassFile.FieldType.object "SameStar$Comet"))) ∈ wG := tz_2 (List.mem_of_getElem? (i := 227) rfl) rfl
theorem kw_448 : (Jvm.Cond.code ({ cls := "SameStar$Sky", name := "allGreats", desc := "()I" } : Jvm.MethodName) prog_8_method_5_code (1 : Nat) (Option.some Jvm.ClassFile.FieldType.int)) ∈ wG := tz_2 (List.mem_of_getElem? (i := 111) rfl) rfl
theorem kw_580 : (Jvm.Cond.methodLink "SameStar$Sky" (35 : Nat) ({ cls := "java/lang/Math", name := "abs", desc := "(I)I" } : Jvm.MethodName)) ∈ wG := tz_3 (List.mem_of_getElem? (i := 3) rfl) rfl
theorem kw_579 : (Jvm.Cond.code ({ cls := "SameStar$Sky", name := "wideOf", desc := "(I)I" } : Jvm.MethodName) prog_8_method_6_code (4 : Nat) (Option.some Jvm.ClassFile.FieldType.int)) ∈ wG := tz_3 (List.mem_of_getElem? (i := 2) rfl) rfl
theorem kw_487 : (Jvm.Cond.fieldLink "SameStar$Sky" (41 : Nat) "SameStar$Comet" "pass" "I") ∈ wG := tz_2 (List.mem_of_getElem? (i := 150) rfl) rfl
theorem kw_490 : (Jvm.Cond.fieldLink "SameStar$Sky" (44 : Nat) "SameStar$Comet" "span" "I") ∈ wG := tz_2 (List.mem_of_getElem? (i := 153) rfl) rfl
theorem kw_449 : (Jvm.Cond.methodLink "SameStar$Sky" (47 : Nat) ({ cls := "SameStar$Sky", name := "pulledFrom", desc := "(II)I" } : Jvm.MethodName)) ∈ wG := tz_2 (List.mem_of_getElem? (i := 112) rfl) rfl
theorem kw_451 : (Jvm.Cond.instanceMethod ({ cls := "SameStar$Sky", name := "pulledFrom", desc := "(II)I" } : Jvm.MethodName)) ∈ wG := tz_2 (List.mem_of_getElem? (i := 114) rfl) rfl
theorem kw_1 : (Cond.selects "SameStar$Sky" ⟨"SameStar$Sky", "pulledFrom", "(II)I"⟩ ⟨"SameStar$Sky", "pulledFrom", "(II)I"⟩) ∈ wG := wG_of 1 (by decide +kernel) rfl
theorem kw_454 : (Jvm.Cond.static ({ cls := "SameStar", name := "isDay", desc := "(I)Z" } : Jvm.MethodName)) ∈ wG := tz_2 (List.mem_of_getElem? (i := 117) rfl) rfl
theorem kw_1240 : (Jvm.Cond.constant "SameStar$Sky" (55 : Nat) (-2000000000 : Int32)) ∈ wG := tz_5 (List.mem_of_getElem? (i := 183) rfl) rfl
theorem kw_1239 : (Jvm.Cond.code ({ cls := "SameStar$Sky", name := "foretell", desc := "(LSameStar$Comet;II)I" } : Jvm.MethodName) prog_8_method_7_code (6 : Nat) (Option.some Jvm.ClassFile.FieldType.int)) ∈ wG := tz_5 (List.mem_of_getElem? (i := 182) rfl) rfl
theorem kw_1285 : (Jvm.Cond.methodLink "SameStar$Sky" (56 : Nat) ({ cls := "SameStar$Sky", name := "cometAt", desc := "(I)LSameStar$Comet;" } : Jvm.MethodName)) ∈ wG := tz_5 (List.mem_of_getElem? (i := 228) rfl) rfl
theorem kw_562 : (Jvm.Cond.instanceMethod ({ cls := "SameStar$Sky", name := "cometAt", desc := "(I)LSameStar$Comet;" } : Jvm.MethodName)) ∈ wG := tz_2 (List.mem_of_getElem? (i := 225) rfl) rfl
theorem kw_563 : (Jvm.Cond.selects "SameStar$Sky" ({ cls := "SameStar$Sky", name := "cometAt", desc := "(I)LSameStar$Comet;" } : Jvm.MethodName) ({ cls := "SameStar$Sky", name := "cometAt", desc := "(I)LSameStar$Comet;" } : Jvm.MethodName)) ∈ wG := tz_2 (List.mem_of_getElem? (i := 226) rfl) rfl
theorem kw_509 : (Jvm.Cond.fieldLink "SameStar$Sky" (60 : Nat) "SameStar$Comet" "brokeOn" "I") ∈ wG := tz_2 (List.mem_of_getElem? (i := 172) rfl) rfl
theorem kw_503 : (Jvm.Cond.fieldLink "SameStar$Sky" (63 : Nat) "SameStar$Comet" "bright" "I") ∈ wG := tz_2 (List.mem_of_getElem? (i := 166) rfl) rfl
theorem kw_1286 : (Jvm.Cond.methodLink "SameStar$Sky" (66 : Nat) ({ cls := "java/lang/Math", name := "max", desc := "(II)I" } : Jvm.MethodName)) ∈ wG := tz_5 (List.mem_of_getElem? (i := 229) rfl) rfl
theorem kw_441 : (Jvm.Cond.methodLink "SameStar$Sky" (69 : Nat) ({ cls := "SameStar$Comet", name := "passOf", desc := "(I)I" } : Jvm.MethodName)) ∈ wG := tz_2 (List.mem_of_getElem? (i := 104) rfl) rfl
theorem kw_493 : (Jvm.Cond.fieldLink "SameStar$Sky" (72 : Nat) "SameStar$Comet" "node" "I") ∈ wG := tz_2 (List.mem_of_getElem? (i := 156) rfl) rfl
theorem kw_473 : (Jvm.Cond.instantiable "SameStar$Comet" (14 : Nat)) ∈ wG := tz_2 (List.mem_of_getElem? (i := 136) rfl) rfl
theorem kw_496 : (Jvm.Cond.fieldLink "SameStar$Sky" (75 : Nat) "SameStar$Comet" "reach" "I") ∈ wG := tz_2 (List.mem_of_getElem? (i := 159) rfl) rfl
theorem kw_499 : (Jvm.Cond.fieldLink "SameStar$Sky" (78 : Nat) "SameStar$Comet" "way" "I") ∈ wG := tz_2 (List.mem_of_getElem? (i := 162) rfl) rfl
theorem kw_1287 : (Jvm.Cond.methodLink "SameStar$Sky" (81 : Nat) ({ cls := "SameStar$Comet", name := "<init>", desc := "(IIIIIII)V" } : Jvm.MethodName)) ∈ wG := tz_5 (List.mem_of_getElem? (i := 230) rfl) rfl
theorem kw_475 : (Jvm.Cond.instanceMethod ({ cls := "SameStar$Comet", name := "<init>", desc := "(IIIIIII)V" } : Jvm.MethodName)) ∈ wG := tz_2 (List.mem_of_getElem? (i := 138) rfl) rfl
theorem kw_1288 : (Jvm.Cond.methodLink "SameStar$Sky" (84 : Nat) ({ cls := "SameStar$Sky", name := "addComet", desc := "(LSameStar$Comet;)I" } : Jvm.MethodName)) ∈ wG := tz_5 (List.mem_of_getElem? (i := 231) rfl) rfl
theorem kw_554 : (Jvm.Cond.instanceMethod ({ cls := "SameStar$Sky", name := "addComet", desc := "(LSameStar$Comet;)I" } : Jvm.MethodName)) ∈ wG := tz_2 (List.mem_of_getElem? (i := 217) rfl) rfl
theorem kw_555 : (Jvm.Cond.selects "SameStar$Sky" ({ cls := "SameStar$Sky", name := "addComet", desc := "(LSameStar$Comet;)I" } : Jvm.MethodName) ({ cls := "SameStar$Sky", name := "addComet", desc := "(LSameStar$Comet;)I" } : Jvm.MethodName)) ∈ wG := tz_2 (List.mem_of_getElem? (i := 218) rfl) rfl
theorem kw_1284 : (Jvm.Cond.code ({ cls := "SameStar$Sky", name := "breakComet", desc := "(II)I" } : Jvm.MethodName) prog_8_method_8_code (9 : Nat) (Option.some Jvm.ClassFile.FieldType.int)) ∈ wG := tz_5 (List.mem_of_getElem? (i := 227) rfl) rfl
theorem kw_1297 : (Jvm.Cond.methodLink "SameStar$Sky" (88 : Nat) ({ cls := "SameStar$Sky", name := "firstOf", desc := "(I)I" } : Jvm.MethodName)) ∈ wG := tz_6 (List.mem_of_getElem? (i := 0) rfl) rfl
theorem kw_1299 : (Jvm.Cond.instanceMethod ({ cls := "SameStar$Sky", name := "firstOf", desc := "(I)I" } : Jvm.MethodName)) ∈ wG := tz_6 (List.mem_of_getElem? (i := 2) rfl) rfl
theorem kw_29 : (Cond.selects "SameStar$Sky" ⟨"SameStar$Sky", "firstOf", "(I)I"⟩ ⟨"SameStar$Sky", "firstOf", "(I)I"⟩) ∈ wG := wG_of 29 (by decide +kernel) rfl
theorem kw_1296 : (Jvm.Cond.code ({ cls := "SameStar$Sky", name := "kinOf", desc := "(I)I" } : Jvm.MethodName) prog_8_method_9_code (5 : Nat) (Option.some Jvm.ClassFile.FieldType.int)) ∈ wG := tz_5 (List.mem_of_getElem? (i := 239) rfl) rfl
theorem kw_506 : (Jvm.Cond.fieldLink "SameStar$Sky" (91 : Nat) "SameStar$Comet" "parent" "I") ∈ wG := tz_2 (List.mem_of_getElem? (i := 169) rfl) rfl
theorem kw_1300 : (Jvm.Cond.code ({ cls := "SameStar$Sky", name := "firstOf", desc := "(I)I" } : Jvm.MethodName) prog_8_method_10_code (5 : Nat) (Option.some Jvm.ClassFile.FieldType.int)) ∈ wG := tz_6 (List.mem_of_getElem? (i := 3) rfl) rfl
theorem kw_434 : (Jvm.Cond.methodLink "SameStar$Sky" (94 : Nat) ({ cls := "SameStar$Comet", name := "setPass", desc := "(II)V" } : Jvm.MethodName)) ∈ wG := tz_2 (List.mem_of_getElem? (i := 97) rfl) rfl
theorem kw_435 : (Jvm.Cond.instanceMethod ({ cls := "SameStar$Comet", name := "setPass", desc := "(II)V" } : Jvm.MethodName)) ∈ wG := tz_2 (List.mem_of_getElem? (i := 98) rfl) rfl
theorem kw_436 : (Jvm.Cond.selects "SameStar$Comet" ({ cls := "SameStar$Comet", name := "setPass", desc := "(II)V" } : Jvm.MethodName) ({ cls := "SameStar$Comet", name := "setPass", desc := "(II)V" } : Jvm.MethodName)) ∈ wG := tz_2 (List.mem_of_getElem? (i := 99) rfl) rfl
theorem kw_513 : (Jvm.Cond.fieldLink "SameStar$Sky" (98 : Nat) "SameStar$Comet" "first" "I") ∈ wG := tz_2 (List.mem_of_getElem? (i := 176) rfl) rfl
theorem kw_517 : (Jvm.Cond.fieldLink "SameStar$Sky" (101 : Nat) "SameStar$Comet" "last" "I") ∈ wG := tz_2 (List.mem_of_getElem? (i := 180) rfl) rfl
theorem kw_445 : (Jvm.Cond.methodLink "SameStar$Sky" (104 : Nat) ({ cls := "SameStar$Sky", name := "allGreats", desc := "()I" } : Jvm.MethodName)) ∈ wG := tz_2 (List.mem_of_getElem? (i := 108) rfl) rfl
theorem kw_446 : (Jvm.Cond.instanceMethod ({ cls := "SameStar$Sky", name := "allGreats", desc := "()I" } : Jvm.MethodName)) ∈ wG := tz_2 (List.mem_of_getElem? (i := 109) rfl) rfl
theorem kw_447 : (Jvm.Cond.selects "SameStar$Sky" ({ cls := "SameStar$Sky", name := "allGreats", desc := "()I" } : Jvm.MethodName) ({ cls := "SameStar$Sky", name := "allGreats", desc := "()I" } : Jvm.MethodName)) ∈ wG := tz_2 (List.mem_of_getElem? (i := 110) rfl) rfl
theorem kw_457 : (Jvm.Cond.methodLink "SameStar$Sky" (108 : Nat) ({ cls := "SameStar$Sky", name := "passAhead", desc := "(II)I" } : Jvm.MethodName)) ∈ wG := tz_2 (List.mem_of_getElem? (i := 120) rfl) rfl
theorem kw_459 : (Jvm.Cond.instanceMethod ({ cls := "SameStar$Sky", name := "passAhead", desc := "(II)I" } : Jvm.MethodName)) ∈ wG := tz_2 (List.mem_of_getElem? (i := 122) rfl) rfl
theorem kw_2 : (Cond.selects "SameStar$Sky" ⟨"SameStar$Sky", "passAhead", "(II)I"⟩ ⟨"SameStar$Sky", "passAhead", "(II)I"⟩) ∈ wG := wG_of 2 (by decide +kernel) rfl
theorem kw_433 : (Jvm.Cond.code ({ cls := "SameStar$Sky", name := "reckonReturns", desc := "(LSameStar$Comet;)V" } : Jvm.MethodName) prog_8_method_11_code (5 : Nat) (Option.none : Option Jvm.ClassFile.FieldType)) ∈ wG := tz_2 (List.mem_of_getElem? (i := 96) rfl) rfl
theorem kw_461 : (Jvm.Cond.methodLink "SameStar$Sky" (111 : Nat) ({ cls := "SameStar$Sky", name := "signedPulls", desc := "(I)I" } : Jvm.MethodName)) ∈ wG := tz_2 (List.mem_of_getElem? (i := 124) rfl) rfl
theorem kw_463 : (Jvm.Cond.instanceMethod ({ cls := "SameStar$Sky", name := "signedPulls", desc := "(I)I" } : Jvm.MethodName)) ∈ wG := tz_2 (List.mem_of_getElem? (i := 126) rfl) rfl
theorem kw_3 : (Cond.selects "SameStar$Sky" ⟨"SameStar$Sky", "signedPulls", "(I)I"⟩ ⟨"SameStar$Sky", "signedPulls", "(I)I"⟩) ∈ wG := wG_of 3 (by decide +kernel) rfl
theorem kw_460 : (Jvm.Cond.code ({ cls := "SameStar$Sky", name := "passAhead", desc := "(II)I" } : Jvm.MethodName) prog_8_method_12_code (6 : Nat) (Option.some Jvm.ClassFile.FieldType.int)) ∈ wG := tz_2 (List.mem_of_getElem? (i := 123) rfl) rfl
theorem kw_464 : (Jvm.Cond.code ({ cls := "SameStar$Sky", name := "signedPulls", desc := "(I)I" } : Jvm.MethodName) prog_8_method_13_code (4 : Nat) (Option.some Jvm.ClassFile.FieldType.int)) ∈ wG := tz_2 (List.mem_of_getElem? (i := 127) rfl) rfl
theorem kw_452 : (Jvm.Cond.code ({ cls := "SameStar$Sky", name := "pulledFrom", desc := "(II)I" } : Jvm.MethodName) prog_8_method_14_code (6 : Nat) (Option.some Jvm.ClassFile.FieldType.int)) ∈ wG := tz_2 (List.mem_of_getElem? (i := 115) rfl) rfl
theorem kw_278 : (Jvm.Cond.methodLink "SameStar$Story" (3 : Nat) ({ cls := "java/lang/Object", name := "<init>", desc := "()V" } : Jvm.MethodName)) ∈ wG := tz_1 (List.mem_of_getElem? (i := 181) rfl) rfl
theorem kw_283 : (Jvm.Cond.fieldLink "SameStar$Story" (9 : Nat) "SameStar$Story" "watchers" "[I") ∈ wG := tz_1 (List.mem_of_getElem? (i := 186) rfl) rfl
theorem kw_284 : (Jvm.Cond.fieldLink "SameStar$Story" (15 : Nat) "SameStar$Story" "watchedFrom" "[I") ∈ wG := tz_1 (List.mem_of_getElem? (i := 187) rfl) rfl
theorem kw_285 : (Jvm.Cond.fieldLink "SameStar$Story" (18 : Nat) "SameStar$Story" "watchedTo" "[I") ∈ wG := tz_1 (List.mem_of_getElem? (i := 188) rfl) rfl
theorem kw_286 : (Jvm.Cond.fieldLink "SameStar$Story" (21 : Nat) "SameStar$Story" "watches" "I") ∈ wG := tz_1 (List.mem_of_getElem? (i := 189) rfl) rfl
theorem kw_288 : (Jvm.Cond.fieldLink "SameStar$Story" (25 : Nat) "SameStar$Story" "rootsOf" "[J") ∈ wG := tz_1 (List.mem_of_getElem? (i := 191) rfl) rfl
theorem kw_289 : (Jvm.Cond.fieldLink "SameStar$Story" (29 : Nat) "SameStar$Story" "missingOf" "[I") ∈ wG := tz_1 (List.mem_of_getElem? (i := 192) rfl) rfl
theorem kw_290 : (Jvm.Cond.fieldLink "SameStar$Story" (32 : Nat) "SameStar$Story" "asTold" "[I") ∈ wG := tz_1 (List.mem_of_getElem? (i := 193) rfl) rfl
theorem kw_291 : (Jvm.Cond.fieldLink "SameStar$Story" (35 : Nat) "SameStar$Story" "notSo" "[I") ∈ wG := tz_1 (List.mem_of_getElem? (i := 194) rfl) rfl
theorem kw_292 : (Jvm.Cond.fieldLink "SameStar$Story" (38 : Nat) "SameStar$Story" "fitsMoved" "[Z") ∈ wG := tz_1 (List.mem_of_getElem? (i := 195) rfl) rfl
theorem kw_293 : (Jvm.Cond.fieldLink "SameStar$Story" (42 : Nat) "SameStar$Story" "fittingMoved" "[I") ∈ wG := tz_1 (List.mem_of_getElem? (i := 196) rfl) rfl
theorem kw_294 : (Jvm.Cond.fieldLink "SameStar$Story" (45 : Nat) "SameStar$Story" "near" "[I") ∈ wG := tz_1 (List.mem_of_getElem? (i := 197) rfl) rfl
theorem kw_295 : (Jvm.Cond.fieldLink "SameStar$Story" (48 : Nat) "SameStar$Story" "nearCount" "I") ∈ wG := tz_1 (List.mem_of_getElem? (i := 198) rfl) rfl
theorem kw_280 : (Jvm.Cond.fieldLink "SameStar$Story" (51 : Nat) "SameStar$Story" "sky" "LSameStar$Sky;") ∈ wG := tz_1 (List.mem_of_getElem? (i := 183) rfl) rfl
theorem kw_281 : (Jvm.Cond.fieldLink "SameStar$Story" (55 : Nat) "SameStar$Story" "book" "LSameStar$Book;") ∈ wG := tz_1 (List.mem_of_getElem? (i := 184) rfl) rfl
theorem kw_282 : (Jvm.Cond.fieldLink "SameStar$Story" (59 : Nat) "SameStar$Story" "sight" "LSameStar$Sight;") ∈ wG := tz_1 (List.mem_of_getElem? (i := 185) rfl) rfl
theorem kw_279 : (Jvm.Cond.methodLink "SameStar$Story" (63 : Nat) ({ cls := "java/util/Arrays", name := "fill", desc := "([II)V" } : Jvm.MethodName)) ∈ wG := tz_1 (List.mem_of_getElem? (i := 182) rfl) rfl
theorem kw_277 : (Jvm.Cond.code ({ cls := "SameStar$Story", name := "<init>", desc := "(LSameStar$Sky;LSameStar$Book;LSameStar$Sight;)V" } : Jvm.MethodName) prog_9_method_1_code (4 : Nat) (Option.none : Option Jvm.ClassFile.FieldType)) ∈ wG := tz_1 (List.mem_of_getElem? (i := 180) rfl) rfl
theorem kw_105 : (Jvm.Cond.initialized "SameStar$Story") ∈ wG := tz_1 (List.mem_of_getElem? (i := 8) rfl) rfl
theorem kw_879 : (Jvm.Cond.code ({ cls := "SameStar$Story", name := "addWatch", desc := "(III)I" } : Jvm.MethodName) prog_9_method_2_code (4 : Nat) (Option.some Jvm.ClassFile.FieldType.int)) ∈ wG := tz_4 (List.mem_of_getElem? (i := 62) rfl) rfl
theorem kw_1094 : (Jvm.Cond.methodLink "SameStar$Story" (69 : Nat) ({ cls := "SameStar$Sky", name := "wideOf", desc := "(I)I" } : Jvm.MethodName)) ∈ wG := tz_5 (List.mem_of_getElem? (i := 37) rfl) rfl
theorem kw_577 : (Jvm.Cond.instanceMethod ({ cls := "SameStar$Sky", name := "wideOf", desc := "(I)I" } : Jvm.MethodName)) ∈ wG := tz_3 (List.mem_of_getElem? (i := 0) rfl) rfl
theorem kw_578 : (Jvm.Cond.selects "SameStar$Sky" ({ cls := "SameStar$Sky", name := "wideOf", desc := "(I)I" } : Jvm.MethodName) ({ cls := "SameStar$Sky", name := "wideOf", desc := "(I)I" } : Jvm.MethodName)) ∈ wG := tz_3 (List.mem_of_getElem? (i := 1) rfl) rfl
theorem kw_1095 : (Jvm.Cond.methodLink "SameStar$Story" (75 : Nat) ({ cls := "SameStar$Comet", name := "passOf", desc := "(I)I" } : Jvm.MethodName)) ∈ wG := tz_5 (List.mem_of_getElem? (i := 38) rfl) rfl
theorem kw_1097 : (Jvm.Cond.methodLink "SameStar$Story" (84 : Nat) ({ cls := "SameStar$Sight", name := "fitDay", desc := "(LSameStar$Word;LSameStar$Comet;IIII)I" } : Jvm.MethodName)) ∈ wG := tz_5 (List.mem_of_getElem? (i := 40) rfl) rfl
theorem kw_1093 : (Jvm.Cond.code ({ cls := "SameStar$Story", name := "leastMove", desc := "(LSameStar$Word;LSameStar$Comet;I)I" } : Jvm.MethodName) prog_9_method_3_code (11 : Nat) (Option.some Jvm.ClassFile.FieldType.int)) ∈ wG := tz_5 (List.mem_of_getElem? (i := 36) rfl) rfl
theorem kw_423 : (Jvm.Cond.methodLink "SameStar$Story" (90 : Nat) ({ cls := "java/util/Arrays", name := "fill", desc := "([JJ)V" } : Jvm.MethodName)) ∈ wG := tz_2 (List.mem_of_getElem? (i := 86) rfl) rfl
theorem kw_422 : (Jvm.Cond.code ({ cls := "SameStar$Story", name := "forgetWeights", desc := "()V" } : Jvm.MethodName) prog_9_method_4_code (1 : Nat) (Option.none : Option Jvm.ClassFile.FieldType)) ∈ wG := tz_2 (List.mem_of_getElem? (i := 85) rfl) rfl
theorem kw_1137 : (Jvm.Cond.methodLink "SameStar$Story" (93 : Nat) ({ cls := "SameStar$Sky", name := "cometAt", desc := "(I)LSameStar$Comet;" } : Jvm.MethodName)) ∈ wG := tz_5 (List.mem_of_getElem? (i := 80) rfl) rfl
theorem kw_511 : (Jvm.Cond.fieldLink "SameStar$Story" (101 : Nat) "SameStar$Comet" "first" "I") ∈ wG := tz_2 (List.mem_of_getElem? (i := 174) rfl) rfl
theorem kw_515 : (Jvm.Cond.fieldLink "SameStar$Story" (104 : Nat) "SameStar$Comet" "last" "I") ∈ wG := tz_2 (List.mem_of_getElem? (i := 178) rfl) rfl
theorem kw_1139 : (Jvm.Cond.methodLink "SameStar$Story" (107 : Nat) ({ cls := "SameStar$Story", name := "isSurelyWatched", desc := "(LSameStar$Comet;I)Z" } : Jvm.MethodName)) ∈ wG := tz_5 (List.mem_of_getElem? (i := 82) rfl) rfl
theorem kw_1141 : (Jvm.Cond.instanceMethod ({ cls := "SameStar$Story", name := "isSurelyWatched", desc := "(LSameStar$Comet;I)Z" } : Jvm.MethodName)) ∈ wG := tz_5 (List.mem_of_getElem? (i := 84) rfl) rfl
theorem kw_23 : (Cond.selects "SameStar$Story" ⟨"SameStar$Story", "isSurelyWatched", "(LSameStar$Comet;I)Z"⟩ ⟨"SameStar$Story", "isSurelyWatched", "(LSameStar$Comet;I)Z"⟩) ∈ wG := wG_of 23 (by decide +kernel) rfl
theorem kw_235 : (Jvm.Cond.fieldLink "SameStar$Story" (111 : Nat) "SameStar$Book" "words" "I") ∈ wG := tz_1 (List.mem_of_getElem? (i := 138) rfl) rfl
theorem kw_1146 : (Jvm.Cond.methodLink "SameStar$Story" (116 : Nat) ({ cls := "SameStar$Book", name := "wordAt", desc := "(I)LSameStar$Word;" } : Jvm.MethodName)) ∈ wG := tz_5 (List.mem_of_getElem? (i := 89) rfl) rfl
theorem kw_1147 : (Jvm.Cond.methodLink "SameStar$Story" (120 : Nat) ({ cls := "SameStar$Story", name := "isNewRoot", desc := "(LSameStar$Word;I)Z" } : Jvm.MethodName)) ∈ wG := tz_5 (List.mem_of_getElem? (i := 90) rfl) rfl
theorem kw_1149 : (Jvm.Cond.instanceMethod ({ cls := "SameStar$Story", name := "isNewRoot", desc := "(LSameStar$Word;I)Z" } : Jvm.MethodName)) ∈ wG := tz_5 (List.mem_of_getElem? (i := 92) rfl) rfl
theorem kw_24 : (Cond.selects "SameStar$Story" ⟨"SameStar$Story", "isNewRoot", "(LSameStar$Word;I)Z"⟩ ⟨"SameStar$Story", "isNewRoot", "(LSameStar$Word;I)Z"⟩) ∈ wG := wG_of 24 (by decide +kernel) rfl
theorem kw_902 : (Jvm.Cond.fieldLink "SameStar$Story" (124 : Nat) "SameStar$Word" "kind" "I") ∈ wG := tz_4 (List.mem_of_getElem? (i := 85) rfl) rfl
theorem kw_1136 : (Jvm.Cond.code ({ cls := "SameStar$Story", name := "weighComet", desc := "(I)V" } : Jvm.MethodName) prog_9_method_5_code (7 : Nat) (Option.none : Option Jvm.ClassFile.FieldType)) ∈ wG := tz_5 (List.mem_of_getElem? (i := 79) rfl) rfl
theorem kw_896 : (Jvm.Cond.fieldLink "SameStar$Story" (129 : Nat) "SameStar$Word" "number" "I") ∈ wG := tz_4 (List.mem_of_getElem? (i := 79) rfl) rfl
theorem kw_1150 : (Jvm.Cond.code ({ cls := "SameStar$Story", name := "isNewRoot", desc := "(LSameStar$Word;I)Z" } : Jvm.MethodName) prog_9_method_6_code (4 : Nat) (Option.some Jvm.ClassFile.FieldType.boolean)) ∈ wG := tz_5 (List.mem_of_getElem? (i := 93) rfl) rfl
theorem kw_1143 : (Jvm.Cond.methodLink "SameStar$Story" (132 : Nat) ({ cls := "java/lang/Math", name := "min", desc := "(II)I" } : Jvm.MethodName)) ∈ wG := tz_5 (List.mem_of_getElem? (i := 86) rfl) rfl
theorem kw_1144 : (Jvm.Cond.methodLink "SameStar$Story" (138 : Nat) ({ cls := "java/lang/Math", name := "max", desc := "(II)I" } : Jvm.MethodName)) ∈ wG := tz_5 (List.mem_of_getElem? (i := 87) rfl) rfl
theorem kw_1145 : (Jvm.Cond.methodLink "SameStar$Story" (141 : Nat) ({ cls := "SameStar$Sight", name := "seenOn", desc := "(LSameStar$Comet;IIII)Z" } : Jvm.MethodName)) ∈ wG := tz_5 (List.mem_of_getElem? (i := 88) rfl) rfl
theorem kw_1142 : (Jvm.Cond.code ({ cls := "SameStar$Story", name := "isSurelyWatched", desc := "(LSameStar$Comet;I)Z" } : Jvm.MethodName) prog_9_method_7_code (8 : Nat) (Option.some Jvm.ClassFile.FieldType.boolean)) ∈ wG := tz_5 (List.mem_of_getElem? (i := 85) rfl) rfl
theorem kw_1155 : (Jvm.Cond.methodLink "SameStar$Story" (145 : Nat) ({ cls := "java/lang/Integer", name := "bitCount", desc := "(I)I" } : Jvm.MethodName)) ∈ wG := tz_5 (List.mem_of_getElem? (i := 98) rfl) rfl
theorem kw_1156 : (Jvm.Cond.static ({ cls := "java/lang/Integer", name := "bitCount", desc := "(I)I" } : Jvm.MethodName)) ∈ wG := tz_5 (List.mem_of_getElem? (i := 99) rfl) rfl
theorem kw_1161 : (Jvm.Cond.methodLink "SameStar$Story" (150 : Nat) ({ cls := "java/lang/Long", name := "bitCount", desc := "(J)I" } : Jvm.MethodName)) ∈ wG := tz_5 (List.mem_of_getElem? (i := 104) rfl) rfl
theorem kw_1162 : (Jvm.Cond.static ({ cls := "java/lang/Long", name := "bitCount", desc := "(J)I" } : Jvm.MethodName)) ∈ wG := tz_5 (List.mem_of_getElem? (i := 105) rfl) rfl
theorem kw_1154 : (Jvm.Cond.code ({ cls := "SameStar$Story", name := "worthOf", desc := "(I)I" } : Jvm.MethodName) prog_9_method_8_code (10 : Nat) (Option.some Jvm.ClassFile.FieldType.int)) ∈ wG := tz_5 (List.mem_of_getElem? (i := 97) rfl) rfl
theorem kw_1175 : (Jvm.Cond.methodLink "SameStar$Story" (155 : Nat) ({ cls := "SameStar$Story", name := "worthOf", desc := "(I)I" } : Jvm.MethodName)) ∈ wG := tz_5 (List.mem_of_getElem? (i := 118) rfl) rfl
theorem kw_1152 : (Jvm.Cond.instanceMethod ({ cls := "SameStar$Story", name := "worthOf", desc := "(I)I" } : Jvm.MethodName)) ∈ wG := tz_5 (List.mem_of_getElem? (i := 95) rfl) rfl
theorem kw_1153 : (Jvm.Cond.selects "SameStar$Story" ({ cls := "SameStar$Story", name := "worthOf", desc := "(I)I" } : Jvm.MethodName) ({ cls := "SameStar$Story", name := "worthOf", desc := "(I)I" } : Jvm.MethodName)) ∈ wG := tz_5 (List.mem_of_getElem? (i := 96) rfl) rfl
theorem kw_1174 : (Jvm.Cond.code ({ cls := "SameStar$Story", name := "bestSetOf", desc := "(I)I" } : Jvm.MethodName) prog_9_method_9_code (7 : Nat) (Option.some Jvm.ClassFile.FieldType.int)) ∈ wG := tz_5 (List.mem_of_getElem? (i := 117) rfl) rfl
theorem kw_1248 : (Jvm.Cond.code ({ cls := "SameStar$Story", name := "forgetMoves", desc := "()V" } : Jvm.MethodName) prog_9_method_10_code (1 : Nat) (Option.none : Option Jvm.ClassFile.FieldType)) ∈ wG := tz_5 (List.mem_of_getElem? (i := 191) rfl) rfl
theorem kw_1261 : (Jvm.Cond.methodLink "SameStar$Story" (158 : Nat) ({ cls := "SameStar$Story", name := "moveOf", desc := "(I)I" } : Jvm.MethodName)) ∈ wG := tz_5 (List.mem_of_getElem? (i := 204) rfl) rfl
theorem kw_1262 : (Jvm.Cond.static ({ cls := "SameStar$Story", name := "moveOf", desc := "(I)I" } : Jvm.MethodName)) ∈ wG := tz_5 (List.mem_of_getElem? (i := 205) rfl) rfl
theorem kw_1276 : (Jvm.Cond.methodLink "SameStar$Story" (161 : Nat) ({ cls := "java/lang/Math", name := "abs", desc := "(I)I" } : Jvm.MethodName)) ∈ wG := tz_5 (List.mem_of_getElem? (i := 219) rfl) rfl
theorem kw_1275 : (Jvm.Cond.code ({ cls := "SameStar$Story", name := "bestMove", desc := "(I)I" } : Jvm.MethodName) prog_9_method_11_code (5 : Nat) (Option.some Jvm.ClassFile.FieldType.int)) ∈ wG := tz_5 (List.mem_of_getElem? (i := 218) rfl) rfl
theorem kw_1263 : (Jvm.Cond.code ({ cls := "SameStar$Story", name := "moveOf", desc := "(I)I" } : Jvm.MethodName) prog_9_method_12_code (1 : Nat) (Option.some Jvm.ClassFile.FieldType.int)) ∈ wG := tz_5 (List.mem_of_getElem? (i := 206) rfl) rfl
theorem kw_1253 : (Jvm.Cond.methodLink "SameStar$Story" (164 : Nat) ({ cls := "SameStar$Story", name := "countDays", desc := "(LSameStar$Word;LSameStar$Comet;I)Z" } : Jvm.MethodName)) ∈ wG := tz_5 (List.mem_of_getElem? (i := 196) rfl) rfl
theorem kw_1255 : (Jvm.Cond.instanceMethod ({ cls := "SameStar$Story", name := "countDays", desc := "(LSameStar$Word;LSameStar$Comet;I)Z" } : Jvm.MethodName)) ∈ wG := tz_5 (List.mem_of_getElem? (i := 198) rfl) rfl
theorem kw_26 : (Cond.selects "SameStar$Story" ⟨"SameStar$Story", "countDays", "(LSameStar$Word;LSameStar$Comet;I)Z"⟩ ⟨"SameStar$Story", "countDays", "(LSameStar$Word;LSameStar$Comet;I)Z"⟩) ∈ wG := wG_of 26 (by decide +kernel) rfl
theorem kw_1264 : (Jvm.Cond.methodLink "SameStar$Story" (168 : Nat) ({ cls := "SameStar$Story", name := "isFitMoved", desc := "(LSameStar$Word;II)Z" } : Jvm.MethodName)) ∈ wG := tz_5 (List.mem_of_getElem? (i := 207) rfl) rfl
theorem kw_1266 : (Jvm.Cond.instanceMethod ({ cls := "SameStar$Story", name := "isFitMoved", desc := "(LSameStar$Word;II)Z" } : Jvm.MethodName)) ∈ wG := tz_5 (List.mem_of_getElem? (i := 209) rfl) rfl
theorem kw_27 : (Cond.selects "SameStar$Story" ⟨"SameStar$Story", "isFitMoved", "(LSameStar$Word;II)Z"⟩ ⟨"SameStar$Story", "isFitMoved", "(LSameStar$Word;II)Z"⟩) ∈ wG := wG_of 27 (by decide +kernel) rfl
theorem kw_1252 : (Jvm.Cond.code ({ cls := "SameStar$Story", name := "countMovesOf", desc := "(LSameStar$Word;LSameStar$Comet;)V" } : Jvm.MethodName) prog_9_method_13_code (5 : Nat) (Option.none : Option Jvm.ClassFile.FieldType)) ∈ wG := tz_5 (List.mem_of_getElem? (i := 195) rfl) rfl
theorem kw_1257 : (Jvm.Cond.constant "SameStar$Story" (172 : Nat) (999999 : Int32)) ∈ wG := tz_5 (List.mem_of_getElem? (i := 200) rfl) rfl
theorem kw_934 : (Jvm.Cond.fieldLink "SameStar$Story" (173 : Nat) "SameStar$Word" "spans" "I") ∈ wG := tz_4 (List.mem_of_getElem? (i := 117) rfl) rfl
theorem kw_1258 : (Jvm.Cond.methodLink "SameStar$Story" (176 : Nat) ({ cls := "SameStar$Word", name := "movedFrom", desc := "(II)I" } : Jvm.MethodName)) ∈ wG := tz_5 (List.mem_of_getElem? (i := 201) rfl) rfl
theorem kw_1046 : (Jvm.Cond.instanceMethod ({ cls := "SameStar$Word", name := "movedFrom", desc := "(II)I" } : Jvm.MethodName)) ∈ wG := tz_4 (List.mem_of_getElem? (i := 229) rfl) rfl
theorem kw_1047 : (Jvm.Cond.selects "SameStar$Word" ({ cls := "SameStar$Word", name := "movedFrom", desc := "(II)I" } : Jvm.MethodName) ({ cls := "SameStar$Word", name := "movedFrom", desc := "(II)I" } : Jvm.MethodName)) ∈ wG := tz_4 (List.mem_of_getElem? (i := 230) rfl) rfl
theorem kw_1259 : (Jvm.Cond.methodLink "SameStar$Story" (179 : Nat) ({ cls := "SameStar$Word", name := "movedTo", desc := "(II)I" } : Jvm.MethodName)) ∈ wG := tz_5 (List.mem_of_getElem? (i := 202) rfl) rfl
theorem kw_1055 : (Jvm.Cond.instanceMethod ({ cls := "SameStar$Word", name := "movedTo", desc := "(II)I" } : Jvm.MethodName)) ∈ wG := tz_4 (List.mem_of_getElem? (i := 238) rfl) rfl
theorem kw_1056 : (Jvm.Cond.selects "SameStar$Word" ({ cls := "SameStar$Word", name := "movedTo", desc := "(II)I" } : Jvm.MethodName) ({ cls := "SameStar$Word", name := "movedTo", desc := "(II)I" } : Jvm.MethodName)) ∈ wG := tz_4 (List.mem_of_getElem? (i := 239) rfl) rfl
theorem kw_909 : (Jvm.Cond.fieldLink "SameStar$Story" (182 : Nat) "SameStar$Word" "people" "I") ∈ wG := tz_4 (List.mem_of_getElem? (i := 92) rfl) rfl
theorem kw_1260 : (Jvm.Cond.methodLink "SameStar$Story" (185 : Nat) ({ cls := "SameStar$Sight", name := "isAsSaid", desc := "(LSameStar$Word;LSameStar$Comet;II)Z" } : Jvm.MethodName)) ∈ wG := tz_5 (List.mem_of_getElem? (i := 203) rfl) rfl
theorem kw_1256 : (Jvm.Cond.code ({ cls := "SameStar$Story", name := "countDays", desc := "(LSameStar$Word;LSameStar$Comet;I)Z" } : Jvm.MethodName) prog_9_method_14_code (11 : Nat) (Option.some Jvm.ClassFile.FieldType.boolean)) ∈ wG := tz_5 (List.mem_of_getElem? (i := 199) rfl) rfl
theorem kw_1268 : (Jvm.Cond.methodLink "SameStar$Story" (189 : Nat) ({ cls := "SameStar$Story", name := "hasCounted", desc := "([ILSameStar$Word;II)Z" } : Jvm.MethodName)) ∈ wG := tz_5 (List.mem_of_getElem? (i := 211) rfl) rfl
theorem kw_1270 : (Jvm.Cond.instanceMethod ({ cls := "SameStar$Story", name := "hasCounted", desc := "([ILSameStar$Word;II)Z" } : Jvm.MethodName)) ∈ wG := tz_5 (List.mem_of_getElem? (i := 213) rfl) rfl
theorem kw_28 : (Cond.selects "SameStar$Story" ⟨"SameStar$Story", "hasCounted", "([ILSameStar$Word;II)Z"⟩ ⟨"SameStar$Story", "hasCounted", "([ILSameStar$Word;II)Z"⟩) ∈ wG := wG_of 28 (by decide +kernel) rfl
theorem kw_1267 : (Jvm.Cond.code ({ cls := "SameStar$Story", name := "isFitMoved", desc := "(LSameStar$Word;II)Z" } : Jvm.MethodName) prog_9_method_15_code (4 : Nat) (Option.some Jvm.ClassFile.FieldType.boolean)) ∈ wG := tz_5 (List.mem_of_getElem? (i := 210) rfl) rfl
theorem kw_1271 : (Jvm.Cond.code ({ cls := "SameStar$Story", name := "hasCounted", desc := "([ILSameStar$Word;II)Z" } : Jvm.MethodName) prog_9_method_16_code (8 : Nat) (Option.some Jvm.ClassFile.FieldType.boolean)) ∈ wG := tz_5 (List.mem_of_getElem? (i := 214) rfl) rfl
theorem kw_1309 : (Jvm.Cond.methodLink "SameStar$Story" (193 : Nat) ({ cls := "SameStar$Story", name := "gatherNear", desc := "(LSameStar$Comet;I)V" } : Jvm.MethodName)) ∈ wG := tz_6 (List.mem_of_getElem? (i := 12) rfl) rfl
theorem kw_1311 : (Jvm.Cond.instanceMethod ({ cls := "SameStar$Story", name := "gatherNear", desc := "(LSameStar$Comet;I)V" } : Jvm.MethodName)) ∈ wG := tz_6 (List.mem_of_getElem? (i := 14) rfl) rfl
theorem kw_30 : (Cond.selects "SameStar$Story" ⟨"SameStar$Story", "gatherNear", "(LSameStar$Comet;I)V"⟩ ⟨"SameStar$Story", "gatherNear", "(LSameStar$Comet;I)V"⟩) ∈ wG := wG_of 30 (by decide +kernel) rfl
theorem kw_1313 : (Jvm.Cond.methodLink "SameStar$Story" (197 : Nat) ({ cls := "SameStar$Story", name := "firstOfOneAlone", desc := "(LSameStar$Comet;LSameStar$Comet;IIII)I" } : Jvm.MethodName)) ∈ wG := tz_6 (List.mem_of_getElem? (i := 16) rfl) rfl
theorem kw_1315 : (Jvm.Cond.instanceMethod ({ cls := "SameStar$Story", name := "firstOfOneAlone", desc := "(LSameStar$Comet;LSameStar$Comet;IIII)I" } : Jvm.MethodName)) ∈ wG := tz_6 (List.mem_of_getElem? (i := 18) rfl) rfl
theorem kw_31 : (Cond.selects "SameStar$Story" ⟨"SameStar$Story", "firstOfOneAlone", "(LSameStar$Comet;LSameStar$Comet;IIII)I"⟩ ⟨"SameStar$Story", "firstOfOneAlone", "(LSameStar$Comet;LSameStar$Comet;IIII)I"⟩) ∈ wG := wG_of 31 (by decide +kernel) rfl
theorem kw_1308 : (Jvm.Cond.code ({ cls := "SameStar$Story", name := "nextToLookFor", desc := "(LSameStar$Comet;LSameStar$Comet;)I" } : Jvm.MethodName) prog_9_method_17_code (11 : Nat) (Option.some Jvm.ClassFile.FieldType.int)) ∈ wG := tz_6 (List.mem_of_getElem? (i := 11) rfl) rfl
theorem kw_1312 : (Jvm.Cond.code ({ cls := "SameStar$Story", name := "gatherNear", desc := "(LSameStar$Comet;I)V" } : Jvm.MethodName) prog_9_method_18_code (4 : Nat) (Option.none : Option Jvm.ClassFile.FieldType)) ∈ wG := tz_6 (List.mem_of_getElem? (i := 15) rfl) rfl
theorem kw_1317 : (Jvm.Cond.methodLink "SameStar$Story" (201 : Nat) ({ cls := "SameStar$Story", name := "isSeenNear", desc := "(LSameStar$Comet;II)Z" } : Jvm.MethodName)) ∈ wG := tz_6 (List.mem_of_getElem? (i := 20) rfl) rfl
theorem kw_1319 : (Jvm.Cond.instanceMethod ({ cls := "SameStar$Story", name := "isSeenNear", desc := "(LSameStar$Comet;II)Z" } : Jvm.MethodName)) ∈ wG := tz_6 (List.mem_of_getElem? (i := 22) rfl) rfl
theorem kw_32 : (Cond.selects "SameStar$Story" ⟨"SameStar$Story", "isSeenNear", "(LSameStar$Comet;II)Z"⟩ ⟨"SameStar$Story", "isSeenNear", "(LSameStar$Comet;II)Z"⟩) ∈ wG := wG_of 32 (by decide +kernel) rfl
theorem kw_1316 : (Jvm.Cond.code ({ cls := "SameStar$Story", name := "firstOfOneAlone", desc := "(LSameStar$Comet;LSameStar$Comet;IIII)I" } : Jvm.MethodName) prog_9_method_19_code (8 : Nat) (Option.some Jvm.ClassFile.FieldType.int)) ∈ wG := tz_6 (List.mem_of_getElem? (i := 19) rfl) rfl
theorem kw_1320 : (Jvm.Cond.code ({ cls := "SameStar$Story", name := "isSeenNear", desc := "(LSameStar$Comet;II)Z" } : Jvm.MethodName) prog_9_method_20_code (5 : Nat) (Option.some Jvm.ClassFile.FieldType.boolean)) ∈ wG := tz_6 (List.mem_of_getElem? (i := 23) rfl) rfl
theorem kw_161 : (Jvm.Cond.methodLink "SameStar$Tape" (1 : Nat) ({ cls := "java/lang/Object", name := "<init>", desc := "()V" } : Jvm.MethodName)) ∈ wG := tz_1 (List.mem_of_getElem? (i := 64) rfl) rfl
theorem kw_162 : (Jvm.Cond.fieldLink "SameStar$Tape" (9 : Nat) "SameStar$Tape" "bytes" "[I") ∈ wG := tz_1 (List.mem_of_getElem? (i := 65) rfl) rfl
theorem kw_163 : (Jvm.Cond.fieldLink "SameStar$Tape" (13 : Nat) "SameStar$Tape" "size" "I") ∈ wG := tz_1 (List.mem_of_getElem? (i := 66) rfl) rfl
theorem kw_165 : (Jvm.Cond.fieldLink "SameStar$Tape" (17 : Nat) "SameStar$Tape" "at" "I") ∈ wG := tz_1 (List.mem_of_getElem? (i := 68) rfl) rfl
theorem kw_166 : (Jvm.Cond.fieldLink "SameStar$Tape" (20 : Nat) "SameStar$Tape" "fault" "I") ∈ wG := tz_1 (List.mem_of_getElem? (i := 69) rfl) rfl
theorem kw_167 : (Jvm.Cond.fieldLink "SameStar$Tape" (25 : Nat) "SameStar$Tape" "steps" "[I") ∈ wG := tz_1 (List.mem_of_getElem? (i := 70) rfl) rfl
theorem kw_168 : (Jvm.Cond.fieldLink "SameStar$Tape" (28 : Nat) "SameStar$Tape" "length" "I") ∈ wG := tz_1 (List.mem_of_getElem? (i := 71) rfl) rfl
theorem kw_160 : (Jvm.Cond.code ({ cls := "SameStar$Tape", name := "<init>", desc := "()V" } : Jvm.MethodName) prog_10_method_1_code (1 : Nat) (Option.none : Option Jvm.ClassFile.FieldType)) ∈ wG := tz_1 (List.mem_of_getElem? (i := 63) rfl) rfl
theorem kw_100 : (Jvm.Cond.initialized "SameStar$Tape") ∈ wG := tz_1 (List.mem_of_getElem? (i := 3) rfl) rfl
theorem kw_662 : (Jvm.Cond.code ({ cls := "SameStar$Tape", name := "hasRoomFor", desc := "(I)Z" } : Jvm.MethodName) prog_10_method_2_code (2 : Nat) (Option.some Jvm.ClassFile.FieldType.boolean)) ∈ wG := tz_3 (List.mem_of_getElem? (i := 85) rfl) rfl
theorem kw_666 : (Jvm.Cond.code ({ cls := "SameStar$Tape", name := "takeBytes", desc := "(II)I" } : Jvm.MethodName) prog_10_method_3_code (4 : Nat) (Option.some Jvm.ClassFile.FieldType.int)) ∈ wG := tz_3 (List.mem_of_getElem? (i := 89) rfl) rfl
theorem kw_684 : (Jvm.Cond.methodLink "SameStar$Tape" (31 : Nat) ({ cls := "SameStar$Tape", name := "readLine", desc := "()V" } : Jvm.MethodName)) ∈ wG := tz_3 (List.mem_of_getElem? (i := 107) rfl) rfl
theorem kw_686 : (Jvm.Cond.instanceMethod ({ cls := "SameStar$Tape", name := "readLine", desc := "()V" } : Jvm.MethodName)) ∈ wG := tz_3 (List.mem_of_getElem? (i := 109) rfl) rfl
theorem kw_7 : (Cond.selects "SameStar$Tape" ⟨"SameStar$Tape", "readLine", "()V"⟩ ⟨"SameStar$Tape", "readLine", "()V"⟩) ∈ wG := wG_of 7 (by decide +kernel) rfl
theorem kw_819 : (Jvm.Cond.methodLink "SameStar$Tape" (34 : Nat) ({ cls := "SameStar$Tape", name := "isGoingOn", desc := "(C)Z" } : Jvm.MethodName)) ∈ wG := tz_4 (List.mem_of_getElem? (i := 2) rfl) rfl
theorem kw_821 : (Jvm.Cond.instanceMethod ({ cls := "SameStar$Tape", name := "isGoingOn", desc := "(C)Z" } : Jvm.MethodName)) ∈ wG := tz_4 (List.mem_of_getElem? (i := 4) rfl) rfl
theorem kw_19 : (Cond.selects "SameStar$Tape" ⟨"SameStar$Tape", "isGoingOn", "(C)Z"⟩ ⟨"SameStar$Tape", "isGoingOn", "(C)Z"⟩) ∈ wG := wG_of 19 (by decide +kernel) rfl
theorem kw_823 : (Jvm.Cond.methodLink "SameStar$Tape" (38 : Nat) ({ cls := "SameStar$Text", name := "takeSteps", desc := "([II)V" } : Jvm.MethodName)) ∈ wG := tz_4 (List.mem_of_getElem? (i := 6) rfl) rfl
theorem kw_824 : (Jvm.Cond.instanceMethod ({ cls := "SameStar$Text", name := "takeSteps", desc := "([II)V" } : Jvm.MethodName)) ∈ wG := tz_4 (List.mem_of_getElem? (i := 7) rfl) rfl
theorem kw_825 : (Jvm.Cond.selects "SameStar$Text" ({ cls := "SameStar$Text", name := "takeSteps", desc := "([II)V" } : Jvm.MethodName) ({ cls := "SameStar$Text", name := "takeSteps", desc := "([II)V" } : Jvm.MethodName)) ∈ wG := tz_4 (List.mem_of_getElem? (i := 8) rfl) rfl
theorem kw_683 : (Jvm.Cond.code ({ cls := "SameStar$Tape", name := "becomeText", desc := "(LSameStar$Text;)I" } : Jvm.MethodName) prog_10_method_4_code (3 : Nat) (Option.some Jvm.ClassFile.FieldType.int)) ∈ wG := tz_3 (List.mem_of_getElem? (i := 106) rfl) rfl
theorem kw_715 : (Jvm.Cond.code ({ cls := "SameStar$Tape", name := "here", desc := "()I" } : Jvm.MethodName) prog_10_method_5_code (1 : Nat) (Option.some Jvm.ClassFile.FieldType.int)) ∈ wG := tz_3 (List.mem_of_getElem? (i := 138) rfl) rfl
theorem kw_712 : (Jvm.Cond.methodLink "SameStar$Tape" (42 : Nat) ({ cls := "SameStar$Tape", name := "here", desc := "()I" } : Jvm.MethodName)) ∈ wG := tz_3 (List.mem_of_getElem? (i := 135) rfl) rfl
theorem kw_714 : (Jvm.Cond.instanceMethod ({ cls := "SameStar$Tape", name := "here", desc := "()I" } : Jvm.MethodName)) ∈ wG := tz_3 (List.mem_of_getElem? (i := 137) rfl) rfl
theorem kw_14 : (Cond.selects "SameStar$Tape" ⟨"SameStar$Tape", "here", "()I"⟩ ⟨"SameStar$Tape", "here", "()I"⟩) ∈ wG := wG_of 14 (by decide +kernel) rfl
theorem kw_818 : (Jvm.Cond.code ({ cls := "SameStar$Tape", name := "take", desc := "(C)Z" } : Jvm.MethodName) prog_10_method_6_code (2 : Nat) (Option.some Jvm.ClassFile.FieldType.boolean)) ∈ wG := tz_4 (List.mem_of_getElem? (i := 1) rfl) rfl
theorem kw_815 : (Jvm.Cond.methodLink "SameStar$Tape" (46 : Nat) ({ cls := "SameStar$Tape", name := "take", desc := "(C)Z" } : Jvm.MethodName)) ∈ wG := tz_3 (List.mem_of_getElem? (i := 238) rfl) rfl
theorem kw_817 : (Jvm.Cond.instanceMethod ({ cls := "SameStar$Tape", name := "take", desc := "(C)Z" } : Jvm.MethodName)) ∈ wG := tz_4 (List.mem_of_getElem? (i := 0) rfl) rfl
theorem kw_18 : (Cond.selects "SameStar$Tape" ⟨"SameStar$Tape", "take", "(C)Z"⟩ ⟨"SameStar$Tape", "take", "(C)Z"⟩) ∈ wG := wG_of 18 (by decide +kernel) rfl
theorem kw_822 : (Jvm.Cond.code ({ cls := "SameStar$Tape", name := "isGoingOn", desc := "(C)Z" } : Jvm.MethodName) prog_10_method_7_code (2 : Nat) (Option.some Jvm.ClassFile.FieldType.boolean)) ∈ wG := tz_4 (List.mem_of_getElem? (i := 5) rfl) rfl
theorem kw_725 : (Jvm.Cond.methodLink "SameStar$Tape" (49 : Nat) ({ cls := "SameStar$Text", name := "step", desc := "(II)I" } : Jvm.MethodName)) ∈ wG := tz_3 (List.mem_of_getElem? (i := 148) rfl) rfl
theorem kw_726 : (Jvm.Cond.static ({ cls := "SameStar$Text", name := "step", desc := "(II)I" } : Jvm.MethodName)) ∈ wG := tz_3 (List.mem_of_getElem? (i := 149) rfl) rfl
theorem kw_724 : (Jvm.Cond.code ({ cls := "SameStar$Tape", name := "add", desc := "(II)V" } : Jvm.MethodName) prog_10_method_8_code (3 : Nat) (Option.none : Option Jvm.ClassFile.FieldType)) ∈ wG := tz_3 (List.mem_of_getElem? (i := 147) rfl) rfl
theorem kw_814 : (Jvm.Cond.code ({ cls := "SameStar$Tape", name := "failHere", desc := "()V" } : Jvm.MethodName) prog_10_method_9_code (1 : Nat) (Option.none : Option Jvm.ClassFile.FieldType)) ∈ wG := tz_3 (List.mem_of_getElem? (i := 237) rfl) rfl
theorem kw_688 : (Jvm.Cond.methodLink "SameStar$Tape" (53 : Nat) ({ cls := "SameStar$Tape", name := "readEither", desc := "(I)V" } : Jvm.MethodName)) ∈ wG := tz_3 (List.mem_of_getElem? (i := 111) rfl) rfl
theorem kw_690 : (Jvm.Cond.instanceMethod ({ cls := "SameStar$Tape", name := "readEither", desc := "(I)V" } : Jvm.MethodName)) ∈ wG := tz_3 (List.mem_of_getElem? (i := 113) rfl) rfl
theorem kw_8 : (Cond.selects "SameStar$Tape" ⟨"SameStar$Tape", "readEither", "(I)V"⟩ ⟨"SameStar$Tape", "readEither", "(I)V"⟩) ∈ wG := wG_of 8 (by decide +kernel) rfl
theorem kw_721 : (Jvm.Cond.methodLink "SameStar$Tape" (57 : Nat) ({ cls := "SameStar$Tape", name := "add", desc := "(II)V" } : Jvm.MethodName)) ∈ wG := tz_3 (List.mem_of_getElem? (i := 144) rfl) rfl
theorem kw_723 : (Jvm.Cond.instanceMethod ({ cls := "SameStar$Tape", name := "add", desc := "(II)V" } : Jvm.MethodName)) ∈ wG := tz_3 (List.mem_of_getElem? (i := 146) rfl) rfl
theorem kw_16 : (Cond.selects "SameStar$Tape" ⟨"SameStar$Tape", "add", "(II)V"⟩ ⟨"SameStar$Tape", "add", "(II)V"⟩) ∈ wG := wG_of 16 (by decide +kernel) rfl
theorem kw_687 : (Jvm.Cond.code ({ cls := "SameStar$Tape", name := "readLine", desc := "()V" } : Jvm.MethodName) prog_10_method_10_code (2 : Nat) (Option.none : Option Jvm.ClassFile.FieldType)) ∈ wG := tz_3 (List.mem_of_getElem? (i := 110) rfl) rfl
theorem kw_692 : (Jvm.Cond.methodLink "SameStar$Tape" (61 : Nat) ({ cls := "SameStar$Tape", name := "readBoth", desc := "(I)V" } : Jvm.MethodName)) ∈ wG := tz_3 (List.mem_of_getElem? (i := 115) rfl) rfl
theorem kw_694 : (Jvm.Cond.instanceMethod ({ cls := "SameStar$Tape", name := "readBoth", desc := "(I)V" } : Jvm.MethodName)) ∈ wG := tz_3 (List.mem_of_getElem? (i := 117) rfl) rfl
theorem kw_9 : (Cond.selects "SameStar$Tape" ⟨"SameStar$Tape", "readBoth", "(I)V"⟩ ⟨"SameStar$Tape", "readBoth", "(I)V"⟩) ∈ wG := wG_of 9 (by decide +kernel) rfl
theorem kw_691 : (Jvm.Cond.code ({ cls := "SameStar$Tape", name := "readEither", desc := "(I)V" } : Jvm.MethodName) prog_10_method_11_code (3 : Nat) (Option.none : Option Jvm.ClassFile.FieldType)) ∈ wG := tz_3 (List.mem_of_getElem? (i := 114) rfl) rfl
theorem kw_696 : (Jvm.Cond.methodLink "SameStar$Tape" (64 : Nat) ({ cls := "SameStar$Tape", name := "readCompared", desc := "(I)V" } : Jvm.MethodName)) ∈ wG := tz_3 (List.mem_of_getElem? (i := 119) rfl) rfl
theorem kw_698 : (Jvm.Cond.instanceMethod ({ cls := "SameStar$Tape", name := "readCompared", desc := "(I)V" } : Jvm.MethodName)) ∈ wG := tz_3 (List.mem_of_getElem? (i := 121) rfl) rfl
theorem kw_10 : (Cond.selects "SameStar$Tape" ⟨"SameStar$Tape", "readCompared", "(I)V"⟩ ⟨"SameStar$Tape", "readCompared", "(I)V"⟩) ∈ wG := wG_of 10 (by decide +kernel) rfl
theorem kw_695 : (Jvm.Cond.code ({ cls := "SameStar$Tape", name := "readBoth", desc := "(I)V" } : Jvm.MethodName) prog_10_method_12_code (3 : Nat) (Option.none : Option Jvm.ClassFile.FieldType)) ∈ wG := tz_3 (List.mem_of_getElem? (i := 118) rfl) rfl
theorem kw_700 : (Jvm.Cond.methodLink "SameStar$Tape" (67 : Nat) ({ cls := "SameStar$Tape", name := "readSum", desc := "(I)V" } : Jvm.MethodName)) ∈ wG := tz_3 (List.mem_of_getElem? (i := 123) rfl) rfl
theorem kw_702 : (Jvm.Cond.instanceMethod ({ cls := "SameStar$Tape", name := "readSum", desc := "(I)V" } : Jvm.MethodName)) ∈ wG := tz_3 (List.mem_of_getElem? (i := 125) rfl) rfl
theorem kw_11 : (Cond.selects "SameStar$Tape" ⟨"SameStar$Tape", "readSum", "(I)V"⟩ ⟨"SameStar$Tape", "readSum", "(I)V"⟩) ∈ wG := wG_of 11 (by decide +kernel) rfl
theorem kw_699 : (Jvm.Cond.code ({ cls := "SameStar$Tape", name := "readCompared", desc := "(I)V" } : Jvm.MethodName) prog_10_method_13_code (3 : Nat) (Option.none : Option Jvm.ClassFile.FieldType)) ∈ wG := tz_3 (List.mem_of_getElem? (i := 122) rfl) rfl
theorem kw_704 : (Jvm.Cond.methodLink "SameStar$Tape" (70 : Nat) ({ cls := "SameStar$Tape", name := "readProduct", desc := "(I)V" } : Jvm.MethodName)) ∈ wG := tz_3 (List.mem_of_getElem? (i := 127) rfl) rfl
theorem kw_706 : (Jvm.Cond.instanceMethod ({ cls := "SameStar$Tape", name := "readProduct", desc := "(I)V" } : Jvm.MethodName)) ∈ wG := tz_3 (List.mem_of_getElem? (i := 129) rfl) rfl
theorem kw_12 : (Cond.selects "SameStar$Tape" ⟨"SameStar$Tape", "readProduct", "(I)V"⟩ ⟨"SameStar$Tape", "readProduct", "(I)V"⟩) ∈ wG := wG_of 12 (by decide +kernel) rfl
theorem kw_703 : (Jvm.Cond.code ({ cls := "SameStar$Tape", name := "readSum", desc := "(I)V" } : Jvm.MethodName) prog_10_method_14_code (4 : Nat) (Option.none : Option Jvm.ClassFile.FieldType)) ∈ wG := tz_3 (List.mem_of_getElem? (i := 126) rfl) rfl
theorem kw_708 : (Jvm.Cond.methodLink "SameStar$Tape" (73 : Nat) ({ cls := "SameStar$Tape", name := "readOperand", desc := "(I)V" } : Jvm.MethodName)) ∈ wG := tz_3 (List.mem_of_getElem? (i := 131) rfl) rfl
theorem kw_710 : (Jvm.Cond.instanceMethod ({ cls := "SameStar$Tape", name := "readOperand", desc := "(I)V" } : Jvm.MethodName)) ∈ wG := tz_3 (List.mem_of_getElem? (i := 133) rfl) rfl
theorem kw_13 : (Cond.selects "SameStar$Tape" ⟨"SameStar$Tape", "readOperand", "(I)V"⟩ ⟨"SameStar$Tape", "readOperand", "(I)V"⟩) ∈ wG := wG_of 13 (by decide +kernel) rfl
theorem kw_707 : (Jvm.Cond.code ({ cls := "SameStar$Tape", name := "readProduct", desc := "(I)V" } : Jvm.MethodName) prog_10_method_15_code (4 : Nat) (Option.none : Option Jvm.ClassFile.FieldType)) ∈ wG := tz_3 (List.mem_of_getElem? (i := 130) rfl) rfl
theorem kw_717 : (Jvm.Cond.methodLink "SameStar$Tape" (82 : Nat) ({ cls := "SameStar$Tape", name := "readNumber", desc := "()V" } : Jvm.MethodName)) ∈ wG := tz_3 (List.mem_of_getElem? (i := 140) rfl) rfl
theorem kw_719 : (Jvm.Cond.instanceMethod ({ cls := "SameStar$Tape", name := "readNumber", desc := "()V" } : Jvm.MethodName)) ∈ wG := tz_3 (List.mem_of_getElem? (i := 142) rfl) rfl
theorem kw_15 : (Cond.selects "SameStar$Tape" ⟨"SameStar$Tape", "readNumber", "()V"⟩ ⟨"SameStar$Tape", "readNumber", "()V"⟩) ∈ wG := wG_of 15 (by decide +kernel) rfl
theorem kw_811 : (Jvm.Cond.methodLink "SameStar$Tape" (93 : Nat) ({ cls := "SameStar$Tape", name := "failHere", desc := "()V" } : Jvm.MethodName)) ∈ wG := tz_3 (List.mem_of_getElem? (i := 234) rfl) rfl
theorem kw_813 : (Jvm.Cond.instanceMethod ({ cls := "SameStar$Tape", name := "failHere", desc := "()V" } : Jvm.MethodName)) ∈ wG := tz_3 (List.mem_of_getElem? (i := 236) rfl) rfl
theorem kw_17 : (Cond.selects "SameStar$Tape" ⟨"SameStar$Tape", "failHere", "()V"⟩ ⟨"SameStar$Tape", "failHere", "()V"⟩) ∈ wG := wG_of 17 (by decide +kernel) rfl
theorem kw_711 : (Jvm.Cond.code ({ cls := "SameStar$Tape", name := "readOperand", desc := "(I)V" } : Jvm.MethodName) prog_10_method_16_code (3 : Nat) (Option.none : Option Jvm.ClassFile.FieldType)) ∈ wG := tz_3 (List.mem_of_getElem? (i := 134) rfl) rfl
theorem kw_720 : (Jvm.Cond.code ({ cls := "SameStar$Tape", name := "readNumber", desc := "()V" } : Jvm.MethodName) prog_10_method_17_code (3 : Nat) (Option.none : Option Jvm.ClassFile.FieldType)) ∈ wG := tz_3 (List.mem_of_getElem? (i := 143) rfl) rfl
theorem kw_193 : (Jvm.Cond.methodLink "SameStar$Text" (1 : Nat) ({ cls := "java/lang/Object", name := "<init>", desc := "()V" } : Jvm.MethodName)) ∈ wG := tz_1 (List.mem_of_getElem? (i := 96) rfl) rfl
theorem kw_194 : (Jvm.Cond.fieldLink "SameStar$Text" (9 : Nat) "SameStar$Text" "steps" "[I") ∈ wG := tz_1 (List.mem_of_getElem? (i := 97) rfl) rfl
theorem kw_195 : (Jvm.Cond.fieldLink "SameStar$Text" (13 : Nat) "SameStar$Text" "length" "I") ∈ wG := tz_1 (List.mem_of_getElem? (i := 98) rfl) rfl
theorem kw_192 : (Jvm.Cond.code ({ cls := "SameStar$Text", name := "<init>", desc := "()V" } : Jvm.MethodName) prog_11_method_1_code (1 : Nat) (Option.none : Option Jvm.ClassFile.FieldType)) ∈ wG := tz_1 (List.mem_of_getElem? (i := 95) rfl) rfl
theorem kw_616 : (Jvm.Cond.code ({ cls := "SameStar$Text", name := "isTold", desc := "()Z" } : Jvm.MethodName) prog_11_method_2_code (1 : Nat) (Option.some Jvm.ClassFile.FieldType.boolean)) ∈ wG := tz_3 (List.mem_of_getElem? (i := 39) rfl) rfl
theorem kw_827 : (Jvm.Cond.methodLink "SameStar$Text" (17 : Nat) ({ cls := "java/lang/Math", name := "min", desc := "(II)I" } : Jvm.MethodName)) ∈ wG := tz_4 (List.mem_of_getElem? (i := 10) rfl) rfl
theorem kw_828 : (Jvm.Cond.methodLink "SameStar$Text" (23 : Nat) ({ cls := "java/lang/System", name := "arraycopy", desc := "(Ljava/lang/Object;ILjava/lang/Object;II)V" } : Jvm.MethodName)) ∈ wG := tz_4 (List.mem_of_getElem? (i := 11) rfl) rfl
theorem kw_826 : (Jvm.Cond.code ({ cls := "SameStar$Text", name := "takeSteps", desc := "([II)V" } : Jvm.MethodName) prog_11_method_3_code (3 : Nat) (Option.none : Option Jvm.ClassFile.FieldType)) ∈ wG := tz_4 (List.mem_of_getElem? (i := 9) rfl) rfl
theorem kw_727 : (Jvm.Cond.code ({ cls := "SameStar$Text", name := "step", desc := "(II)I" } : Jvm.MethodName) prog_11_method_4_code (2 : Nat) (Option.some Jvm.ClassFile.FieldType.int)) ∈ wG := tz_3 (List.mem_of_getElem? (i := 150) rfl) rfl
theorem kw_628 : (Jvm.Cond.methodLink "SameStar$Text" (29 : Nat) ({ cls := "java/lang/Math", name := "max", desc := "(II)I" } : Jvm.MethodName)) ∈ wG := tz_3 (List.mem_of_getElem? (i := 51) rfl) rfl
theorem kw_631 : (Jvm.Cond.methodLink "SameStar$Text" (32 : Nat) ({ cls := "SameStar$Text", name := "joined", desc := "(III)I" } : Jvm.MethodName)) ∈ wG := tz_3 (List.mem_of_getElem? (i := 54) rfl) rfl
theorem kw_632 : (Jvm.Cond.static ({ cls := "SameStar$Text", name := "joined", desc := "(III)I" } : Jvm.MethodName)) ∈ wG := tz_3 (List.mem_of_getElem? (i := 55) rfl) rfl
theorem kw_627 : (Jvm.Cond.code ({ cls := "SameStar$Text", name := "valueWith", desc := "([I[I)I" } : Jvm.MethodName) prog_11_method_5_code (8 : Nat) (Option.some Jvm.ClassFile.FieldType.int)) ∈ wG := tz_3 (List.mem_of_getElem? (i := 50) rfl) rfl
theorem kw_633 : (Jvm.Cond.code ({ cls := "SameStar$Text", name := "joined", desc := "(III)I" } : Jvm.MethodName) prog_11_method_6_code (3 : Nat) (Option.some Jvm.ClassFile.FieldType.int)) ∈ wG := tz_3 (List.mem_of_getElem? (i := 56) rfl) rfl
theorem kw_894 : (Jvm.Cond.methodLink "SameStar$Word" (3 : Nat) ({ cls := "java/lang/Object", name := "<init>", desc := "()V" } : Jvm.MethodName)) ∈ wG := tz_4 (List.mem_of_getElem? (i := 77) rfl) rfl
theorem kw_916 : (Jvm.Cond.fieldLink "SameStar$Word" (9 : Nat) "SameStar$Word" "year" "I") ∈ wG := tz_4 (List.mem_of_getElem? (i := 99) rfl) rfl
theorem kw_919 : (Jvm.Cond.fieldLink "SameStar$Word" (15 : Nat) "SameStar$Word" "month" "I") ∈ wG := tz_4 (List.mem_of_getElem? (i := 102) rfl) rfl
theorem kw_922 : (Jvm.Cond.fieldLink "SameStar$Word" (18 : Nat) "SameStar$Word" "day" "I") ∈ wG := tz_4 (List.mem_of_getElem? (i := 105) rfl) rfl
theorem kw_925 : (Jvm.Cond.fieldLink "SameStar$Word" (21 : Nat) "SameStar$Word" "more" "I") ∈ wG := tz_4 (List.mem_of_getElem? (i := 108) rfl) rfl
theorem kw_930 : (Jvm.Cond.fieldLink "SameStar$Word" (24 : Nat) "SameStar$Word" "copiedRoot" "LSameStar$Word;") ∈ wG := tz_4 (List.mem_of_getElem? (i := 113) rfl) rfl
theorem kw_931 : (Jvm.Cond.fieldLink "SameStar$Word" (28 : Nat) "SameStar$Word" "spans" "I") ∈ wG := tz_4 (List.mem_of_getElem? (i := 114) rfl) rfl
theorem kw_936 : (Jvm.Cond.fieldLink "SameStar$Word" (31 : Nat) "SameStar$Word" "middle" "I") ∈ wG := tz_4 (List.mem_of_getElem? (i := 119) rfl) rfl
theorem kw_937 : (Jvm.Cond.fieldLink "SameStar$Word" (34 : Nat) "SameStar$Word" "otherMiddle" "I") ∈ wG := tz_4 (List.mem_of_getElem? (i := 120) rfl) rfl
theorem kw_895 : (Jvm.Cond.fieldLink "SameStar$Word" (37 : Nat) "SameStar$Word" "number" "I") ∈ wG := tz_4 (List.mem_of_getElem? (i := 78) rfl) rfl
theorem kw_900 : (Jvm.Cond.fieldLink "SameStar$Word" (40 : Nat) "SameStar$Word" "kind" "I") ∈ wG := tz_4 (List.mem_of_getElem? (i := 83) rfl) rfl
theorem kw_906 : (Jvm.Cond.fieldLink "SameStar$Word" (43 : Nat) "SameStar$Word" "people" "I") ∈ wG := tz_4 (List.mem_of_getElem? (i := 89) rfl) rfl
theorem kw_911 : (Jvm.Cond.fieldLink "SameStar$Word" (46 : Nat) "SameStar$Word" "reign" "I") ∈ wG := tz_4 (List.mem_of_getElem? (i := 94) rfl) rfl
theorem kw_914 : (Jvm.Cond.fieldLink "SameStar$Word" (49 : Nat) "SameStar$Word" "slack" "I") ∈ wG := tz_4 (List.mem_of_getElem? (i := 97) rfl) rfl
theorem kw_893 : (Jvm.Cond.code ({ cls := "SameStar$Word", name := "<init>", desc := "(IIIII)V" } : Jvm.MethodName) prog_12_method_1_code (6 : Nat) (Option.none : Option Jvm.ClassFile.FieldType)) ∈ wG := tz_4 (List.mem_of_getElem? (i := 76) rfl) rfl
theorem kw_118 : (Jvm.Cond.initialized "SameStar$Word") ∈ wG := tz_1 (List.mem_of_getElem? (i := 21) rfl) rfl
theorem kw_968 : (Jvm.Cond.code ({ cls := "SameStar$Word", name := "dateIt", desc := "(III)V" } : Jvm.MethodName) prog_12_method_2_code (4 : Nat) (Option.none : Option Jvm.ClassFile.FieldType)) ∈ wG := tz_4 (List.mem_of_getElem? (i := 151) rfl) rfl
theorem kw_980 : (Jvm.Cond.code ({ cls := "SameStar$Word", name := "copyFrom", desc := "(LSameStar$Word;)V" } : Jvm.MethodName) prog_12_method_3_code (2 : Nat) (Option.none : Option Jvm.ClassFile.FieldType)) ∈ wG := tz_4 (List.mem_of_getElem? (i := 163) rfl) rfl
theorem kw_976 : (Jvm.Cond.code ({ cls := "SameStar$Word", name := "rootWord", desc := "()LSameStar$Word;" } : Jvm.MethodName) prog_12_method_4_code (1 : Nat) (Option.some (Jvm.ClassFile.FieldType.object "SameStar$Word"))) ∈ wG := tz_4 (List.mem_of_getElem? (i := 159) rfl) rfl
theorem kw_862 : (Jvm.Cond.code ({ cls := "SameStar$Word", name := "settle", desc := "(III)V" } : Jvm.MethodName) prog_12_method_5_code (4 : Nat) (Option.none : Option Jvm.ClassFile.FieldType)) ∈ wG := tz_4 (List.mem_of_getElem? (i := 45) rfl) rfl
theorem kw_1045 : (Jvm.Cond.methodLink "SameStar$Word" (52 : Nat) ({ cls := "SameStar$Word", name := "movedFrom", desc := "(II)I" } : Jvm.MethodName)) ∈ wG := tz_4 (List.mem_of_getElem? (i := 228) rfl) rfl
theorem kw_1044 : (Jvm.Cond.code ({ cls := "SameStar$Word", name := "spanFrom", desc := "(I)I" } : Jvm.MethodName) prog_12_method_6_code (2 : Nat) (Option.some Jvm.ClassFile.FieldType.int)) ∈ wG := tz_4 (List.mem_of_getElem? (i := 227) rfl) rfl
theorem kw_1054 : (Jvm.Cond.methodLink "SameStar$Word" (56 : Nat) ({ cls := "SameStar$Word", name := "movedTo", desc := "(II)I" } : Jvm.MethodName)) ∈ wG := tz_4 (List.mem_of_getElem? (i := 237) rfl) rfl
theorem kw_1053 : (Jvm.Cond.code ({ cls := "SameStar$Word", name := "spanTo", desc := "(I)I" } : Jvm.MethodName) prog_12_method_7_code (2 : Nat) (Option.some Jvm.ClassFile.FieldType.int)) ∈ wG := tz_4 (List.mem_of_getElem? (i := 236) rfl) rfl
theorem kw_1049 : (Jvm.Cond.methodLink "SameStar$Word" (59 : Nat) ({ cls := "java/lang/Math", name := "max", desc := "(II)I" } : Jvm.MethodName)) ∈ wG := tz_4 (List.mem_of_getElem? (i := 232) rfl) rfl
theorem kw_1048 : (Jvm.Cond.code ({ cls := "SameStar$Word", name := "movedFrom", desc := "(II)I" } : Jvm.MethodName) prog_12_method_8_code (3 : Nat) (Option.some Jvm.ClassFile.FieldType.int)) ∈ wG := tz_4 (List.mem_of_getElem? (i := 231) rfl) rfl
theorem kw_1058 : (Jvm.Cond.constant "SameStar$Word" (64 : Nat) (999999 : Int32)) ∈ wG := tz_5 (List.mem_of_getElem? (i := 1) rfl) rfl
theorem kw_1059 : (Jvm.Cond.methodLink "SameStar$Word" (65 : Nat) ({ cls := "java/lang/Math", name := "min", desc := "(II)I" } : Jvm.MethodName)) ∈ wG := tz_5 (List.mem_of_getElem? (i := 2) rfl) rfl
theorem kw_1057 : (Jvm.Cond.code ({ cls := "SameStar$Word", name := "movedTo", desc := "(II)I" } : Jvm.MethodName) prog_12_method_9_code (3 : Nat) (Option.some Jvm.ClassFile.FieldType.int)) ∈ wG := tz_5 (List.mem_of_getElem? (i := 0) rfl) rfl
theorem kw_126 : (Jvm.Cond.methodLink "SameStar" (3 : Nat) ({ cls := "java/lang/Object", name := "<init>", desc := "()V" } : Jvm.MethodName)) ∈ wG := tz_1 (List.mem_of_getElem? (i := 29) rfl) rfl
theorem kw_129 : (Jvm.Cond.classLink "SameStar" (9 : Nat) "SameStar$Sky") ∈ wG := tz_1 (List.mem_of_getElem? (i := 32) rfl) rfl
theorem kw_130 : (Jvm.Cond.instantiable "SameStar$Sky" (5 : Nat)) ∈ wG := tz_1 (List.mem_of_getElem? (i := 33) rfl) rfl
theorem kw_132 : (Jvm.Cond.instanceMethod ({ cls := "SameStar$Sky", name := "<init>", desc := "()V" } : Jvm.MethodName)) ∈ wG := tz_1 (List.mem_of_getElem? (i := 35) rfl) rfl
theorem kw_383 : (Jvm.Cond.fieldLink "SameStar" (12 : Nat) "SameStar" "sky" "LSameStar$Sky;") ∈ wG := tz_2 (List.mem_of_getElem? (i := 46) rfl) rfl
theorem kw_156 : (Jvm.Cond.classLink "SameStar" (16 : Nat) "SameStar$Tape") ∈ wG := tz_1 (List.mem_of_getElem? (i := 59) rfl) rfl
theorem kw_157 : (Jvm.Cond.instantiable "SameStar$Tape" (6 : Nat)) ∈ wG := tz_1 (List.mem_of_getElem? (i := 60) rfl) rfl
theorem kw_159 : (Jvm.Cond.instanceMethod ({ cls := "SameStar$Tape", name := "<init>", desc := "()V" } : Jvm.MethodName)) ∈ wG := tz_1 (List.mem_of_getElem? (i := 62) rfl) rfl
theorem kw_384 : (Jvm.Cond.fieldLink "SameStar" (19 : Nat) "SameStar" "tape" "LSameStar$Tape;") ∈ wG := tz_2 (List.mem_of_getElem? (i := 47) rfl) rfl
theorem kw_182 : (Jvm.Cond.classLink "SameStar" (23 : Nat) "SameStar$Sight") ∈ wG := tz_1 (List.mem_of_getElem? (i := 85) rfl) rfl
theorem kw_183 : (Jvm.Cond.instantiable "SameStar$Sight" (5 : Nat)) ∈ wG := tz_1 (List.mem_of_getElem? (i := 86) rfl) rfl
theorem kw_185 : (Jvm.Cond.instanceMethod ({ cls := "SameStar$Sight", name := "<init>", desc := "()V" } : Jvm.MethodName)) ∈ wG := tz_1 (List.mem_of_getElem? (i := 88) rfl) rfl
theorem kw_385 : (Jvm.Cond.fieldLink "SameStar" (26 : Nat) "SameStar" "sight" "LSameStar$Sight;") ∈ wG := tz_2 (List.mem_of_getElem? (i := 48) rfl) rfl
theorem kw_219 : (Jvm.Cond.classLink "SameStar" (30 : Nat) "SameStar$Book") ∈ wG := tz_1 (List.mem_of_getElem? (i := 122) rfl) rfl
theorem kw_220 : (Jvm.Cond.instantiable "SameStar$Book" (11 : Nat)) ∈ wG := tz_1 (List.mem_of_getElem? (i := 123) rfl) rfl
theorem kw_221 : (Jvm.Cond.methodLink "SameStar" (32 : Nat) ({ cls := "SameStar$Book", name := "<init>", desc := "()V" } : Jvm.MethodName)) ∈ wG := tz_1 (List.mem_of_getElem? (i := 124) rfl) rfl
theorem kw_222 : (Jvm.Cond.instanceMethod ({ cls := "SameStar$Book", name := "<init>", desc := "()V" } : Jvm.MethodName)) ∈ wG := tz_1 (List.mem_of_getElem? (i := 125) rfl) rfl
theorem kw_386 : (Jvm.Cond.fieldLink "SameStar" (33 : Nat) "SameStar" "book" "LSameStar$Book;") ∈ wG := tz_2 (List.mem_of_getElem? (i := 49) rfl) rfl
theorem kw_273 : (Jvm.Cond.classLink "SameStar" (37 : Nat) "SameStar$Story") ∈ wG := tz_1 (List.mem_of_getElem? (i := 176) rfl) rfl
theorem kw_274 : (Jvm.Cond.instantiable "SameStar$Story" (15 : Nat)) ∈ wG := tz_1 (List.mem_of_getElem? (i := 177) rfl) rfl
theorem kw_275 : (Jvm.Cond.methodLink "SameStar" (39 : Nat) ({ cls := "SameStar$Story", name := "<init>", desc := "(LSameStar$Sky;LSameStar$Book;LSameStar$Sight;)V" } : Jvm.MethodName)) ∈ wG := tz_1 (List.mem_of_getElem? (i := 178) rfl) rfl
theorem kw_276 : (Jvm.Cond.instanceMethod ({ cls := "SameStar$Story", name := "<init>", desc := "(LSameStar$Sky;LSameStar$Book;LSameStar$Sight;)V" } : Jvm.MethodName)) ∈ wG := tz_1 (List.mem_of_getElem? (i := 179) rfl) rfl
theorem kw_387 : (Jvm.Cond.fieldLink "SameStar" (42 : Nat) "SameStar" "story" "LSameStar$Story;") ∈ wG := tz_2 (List.mem_of_getElem? (i := 50) rfl) rfl
theorem kw_328 : (Jvm.Cond.classLink "SameStar" (46 : Nat) "SameStar$Evenings") ∈ wG := tz_1 (List.mem_of_getElem? (i := 231) rfl) rfl
theorem kw_329 : (Jvm.Cond.instantiable "SameStar$Evenings" (3 : Nat)) ∈ wG := tz_1 (List.mem_of_getElem? (i := 232) rfl) rfl
theorem kw_331 : (Jvm.Cond.instanceMethod ({ cls := "SameStar$Evenings", name := "<init>", desc := "()V" } : Jvm.MethodName)) ∈ wG := tz_1 (List.mem_of_getElem? (i := 234) rfl) rfl
theorem kw_388 : (Jvm.Cond.fieldLink "SameStar" (49 : Nat) "SameStar" "evenings" "LSameStar$Evenings;") ∈ wG := tz_2 (List.mem_of_getElem? (i := 51) rfl) rfl
theorem kw_345 : (Jvm.Cond.classLink "SameStar" (53 : Nat) "SameStar$Acts") ∈ wG := tz_2 (List.mem_of_getElem? (i := 8) rfl) rfl
theorem kw_346 : (Jvm.Cond.instantiable "SameStar$Acts" (2 : Nat)) ∈ wG := tz_2 (List.mem_of_getElem? (i := 9) rfl) rfl
theorem kw_348 : (Jvm.Cond.instanceMethod ({ cls := "SameStar$Acts", name := "<init>", desc := "()V" } : Jvm.MethodName)) ∈ wG := tz_2 (List.mem_of_getElem? (i := 11) rfl) rfl
theorem kw_389 : (Jvm.Cond.fieldLink "SameStar" (56 : Nat) "SameStar" "acts" "LSameStar$Acts;") ∈ wG := tz_2 (List.mem_of_getElem? (i := 52) rfl) rfl
theorem kw_359 : (Jvm.Cond.classLink "SameStar" (60 : Nat) "SameStar$Pages") ∈ wG := tz_2 (List.mem_of_getElem? (i := 22) rfl) rfl
theorem kw_360 : (Jvm.Cond.instantiable "SameStar$Pages" (5 : Nat)) ∈ wG := tz_2 (List.mem_of_getElem? (i := 23) rfl) rfl
theorem kw_362 : (Jvm.Cond.instanceMethod ({ cls := "SameStar$Pages", name := "<init>", desc := "()V" } : Jvm.MethodName)) ∈ wG := tz_2 (List.mem_of_getElem? (i := 25) rfl) rfl
theorem kw_390 : (Jvm.Cond.fieldLink "SameStar" (63 : Nat) "SameStar" "pages" "LSameStar$Pages;") ∈ wG := tz_2 (List.mem_of_getElem? (i := 53) rfl) rfl
theorem kw_125 : (Jvm.Cond.code ({ cls := "SameStar", name := "<init>", desc := "()V" } : Jvm.MethodName) prog_1_method_1_code (1 : Nat) (Option.none : Option Jvm.ClassFile.FieldType)) ∈ wG := tz_1 (List.mem_of_getElem? (i := 28) rfl) rfl
theorem kw_98 : (Jvm.Cond.initialized "SameStar") ∈ wG := tz_1 (List.mem_of_getElem? (i := 1) rfl) rfl
theorem kw_412 : (Jvm.Cond.methodLink "SameStar" (67 : Nat) ({ cls := "SameStar", name := "within", desc := "(III)Z" } : Jvm.MethodName)) ∈ wG := tz_2 (List.mem_of_getElem? (i := 75) rfl) rfl
theorem kw_140 : (Jvm.Cond.fieldLink "SameStar" (71 : Nat) "SameStar$Sky" "greats" "I") ∈ wG := tz_1 (List.mem_of_getElem? (i := 43) rfl) rfl
theorem kw_415 : (Jvm.Cond.methodLink "SameStar" (75 : Nat) ({ cls := "SameStar$Sight", name := "forgetSights", desc := "()V" } : Jvm.MethodName)) ∈ wG := tz_2 (List.mem_of_getElem? (i := 78) rfl) rfl
theorem kw_416 : (Jvm.Cond.instanceMethod ({ cls := "SameStar$Sight", name := "forgetSights", desc := "()V" } : Jvm.MethodName)) ∈ wG := tz_2 (List.mem_of_getElem? (i := 79) rfl) rfl
theorem kw_417 : (Jvm.Cond.selects "SameStar$Sight" ({ cls := "SameStar$Sight", name := "forgetSights", desc := "()V" } : Jvm.MethodName) ({ cls := "SameStar$Sight", name := "forgetSights", desc := "()V" } : Jvm.MethodName)) ∈ wG := tz_2 (List.mem_of_getElem? (i := 80) rfl) rfl
theorem kw_419 : (Jvm.Cond.methodLink "SameStar" (78 : Nat) ({ cls := "SameStar$Story", name := "forgetWeights", desc := "()V" } : Jvm.MethodName)) ∈ wG := tz_2 (List.mem_of_getElem? (i := 82) rfl) rfl
theorem kw_420 : (Jvm.Cond.instanceMethod ({ cls := "SameStar$Story", name := "forgetWeights", desc := "()V" } : Jvm.MethodName)) ∈ wG := tz_2 (List.mem_of_getElem? (i := 83) rfl) rfl
theorem kw_421 : (Jvm.Cond.selects "SameStar$Story" ({ cls := "SameStar$Story", name := "forgetWeights", desc := "()V" } : Jvm.MethodName) ({ cls := "SameStar$Story", name := "forgetWeights", desc := "()V" } : Jvm.MethodName)) ∈ wG := tz_2 (List.mem_of_getElem? (i := 84) rfl) rfl
theorem kw_426 : (Jvm.Cond.methodLink "SameStar" (81 : Nat) ({ cls := "SameStar$Sky", name := "addGreat", desc := "(II)I" } : Jvm.MethodName)) ∈ wG := tz_2 (List.mem_of_getElem? (i := 89) rfl) rfl
theorem kw_427 : (Jvm.Cond.instanceMethod ({ cls := "SameStar$Sky", name := "addGreat", desc := "(II)I" } : Jvm.MethodName)) ∈ wG := tz_2 (List.mem_of_getElem? (i := 90) rfl) rfl
theorem kw_428 : (Jvm.Cond.selects "SameStar$Sky" ({ cls := "SameStar$Sky", name := "addGreat", desc := "(II)I" } : Jvm.MethodName) ({ cls := "SameStar$Sky", name := "addGreat", desc := "(II)I" } : Jvm.MethodName)) ∈ wG := tz_2 (List.mem_of_getElem? (i := 91) rfl) rfl
theorem kw_411 : (Jvm.Cond.code ({ cls := "SameStar", name := "great", desc := "(II)I" } : Jvm.MethodName) prog_1_method_2_code (3 : Nat) (Option.some Jvm.ClassFile.FieldType.int)) ∈ wG := tz_2 (List.mem_of_getElem? (i := 74) rfl) rfl
theorem kw_456 : (Jvm.Cond.constant "SameStar" (85 : Nat) (999999 : Int32)) ∈ wG := tz_2 (List.mem_of_getElem? (i := 119) rfl) rfl
theorem kw_469 : (Jvm.Cond.constant "SameStar" (86 : Nat) (40000 : Int32)) ∈ wG := tz_2 (List.mem_of_getElem? (i := 132) rfl) rfl
theorem kw_470 : (Jvm.Cond.constant "SameStar" (87 : Nat) (199999 : Int32)) ∈ wG := tz_2 (List.mem_of_getElem? (i := 133) rfl) rfl
theorem kw_471 : (Jvm.Cond.constant "SameStar" (88 : Nat) (100000 : Int32)) ∈ wG := tz_2 (List.mem_of_getElem? (i := 134) rfl) rfl
theorem kw_143 : (Jvm.Cond.fieldLink "SameStar" (89 : Nat) "SameStar$Sky" "comets" "I") ∈ wG := tz_1 (List.mem_of_getElem? (i := 46) rfl) rfl
theorem kw_472 : (Jvm.Cond.classLink "SameStar" (92 : Nat) "SameStar$Comet") ∈ wG := tz_2 (List.mem_of_getElem? (i := 135) rfl) rfl
theorem kw_474 : (Jvm.Cond.methodLink "SameStar" (94 : Nat) ({ cls := "SameStar$Comet", name := "<init>", desc := "(IIIIIII)V" } : Jvm.MethodName)) ∈ wG := tz_2 (List.mem_of_getElem? (i := 137) rfl) rfl
theorem kw_553 : (Jvm.Cond.methodLink "SameStar" (97 : Nat) ({ cls := "SameStar$Sky", name := "addComet", desc := "(LSameStar$Comet;)I" } : Jvm.MethodName)) ∈ wG := tz_2 (List.mem_of_getElem? (i := 216) rfl) rfl
theorem kw_468 : (Jvm.Cond.code ({ cls := "SameStar", name := "comet", desc := "(IIII)I" } : Jvm.MethodName) prog_1_method_3_code (8 : Nat) (Option.some Jvm.ClassFile.FieldType.int)) ∈ wG := tz_2 (List.mem_of_getElem? (i := 131) rfl) rfl
theorem kw_561 : (Jvm.Cond.methodLink "SameStar" (101 : Nat) ({ cls := "SameStar$Sky", name := "cometAt", desc := "(I)LSameStar$Comet;" } : Jvm.MethodName)) ∈ wG := tz_2 (List.mem_of_getElem? (i := 224) rfl) rfl
theorem kw_565 : (Jvm.Cond.constant "SameStar" (105 : Nat) (-2000000000 : Int32)) ∈ wG := tz_2 (List.mem_of_getElem? (i := 228) rfl) rfl
theorem kw_486 : (Jvm.Cond.fieldLink "SameStar" (106 : Nat) "SameStar$Comet" "pass" "I") ∈ wG := tz_2 (List.mem_of_getElem? (i := 149) rfl) rfl
theorem kw_489 : (Jvm.Cond.fieldLink "SameStar" (109 : Nat) "SameStar$Comet" "span" "I") ∈ wG := tz_2 (List.mem_of_getElem? (i := 152) rfl) rfl
theorem kw_492 : (Jvm.Cond.fieldLink "SameStar" (112 : Nat) "SameStar$Comet" "node" "I") ∈ wG := tz_2 (List.mem_of_getElem? (i := 155) rfl) rfl
theorem kw_495 : (Jvm.Cond.fieldLink "SameStar" (115 : Nat) "SameStar$Comet" "reach" "I") ∈ wG := tz_2 (List.mem_of_getElem? (i := 158) rfl) rfl
theorem kw_498 : (Jvm.Cond.fieldLink "SameStar" (118 : Nat) "SameStar$Comet" "way" "I") ∈ wG := tz_2 (List.mem_of_getElem? (i := 161) rfl) rfl
theorem kw_502 : (Jvm.Cond.fieldLink "SameStar" (121 : Nat) "SameStar$Comet" "bright" "I") ∈ wG := tz_2 (List.mem_of_getElem? (i := 165) rfl) rfl
theorem kw_505 : (Jvm.Cond.fieldLink "SameStar" (124 : Nat) "SameStar$Comet" "parent" "I") ∈ wG := tz_2 (List.mem_of_getElem? (i := 168) rfl) rfl
theorem kw_508 : (Jvm.Cond.fieldLink "SameStar" (127 : Nat) "SameStar$Comet" "brokeOn" "I") ∈ wG := tz_2 (List.mem_of_getElem? (i := 171) rfl) rfl
theorem kw_560 : (Jvm.Cond.code ({ cls := "SameStar", name := "ofComet", desc := "(II)I" } : Jvm.MethodName) prog_1_method_4_code (4 : Nat) (Option.some Jvm.ClassFile.FieldType.int)) ∈ wG := tz_2 (List.mem_of_getElem? (i := 223) rfl) rfl
theorem kw_570 : (Jvm.Cond.methodLink "SameStar" (130 : Nat) ({ cls := "SameStar", name := "isReturnNumber", desc := "(I)Z" } : Jvm.MethodName)) ∈ wG := tz_2 (List.mem_of_getElem? (i := 233) rfl) rfl
theorem kw_571 : (Jvm.Cond.methodLink "SameStar" (134 : Nat) ({ cls := "SameStar$Comet", name := "hasReturn", desc := "(I)Z" } : Jvm.MethodName)) ∈ wG := tz_2 (List.mem_of_getElem? (i := 234) rfl) rfl
theorem kw_572 : (Jvm.Cond.instanceMethod ({ cls := "SameStar$Comet", name := "hasReturn", desc := "(I)Z" } : Jvm.MethodName)) ∈ wG := tz_2 (List.mem_of_getElem? (i := 235) rfl) rfl
theorem kw_573 : (Jvm.Cond.selects "SameStar$Comet" ({ cls := "SameStar$Comet", name := "hasReturn", desc := "(I)Z" } : Jvm.MethodName) ({ cls := "SameStar$Comet", name := "hasReturn", desc := "(I)Z" } : Jvm.MethodName)) ∈ wG := tz_2 (List.mem_of_getElem? (i := 236) rfl) rfl
theorem kw_575 : (Jvm.Cond.methodLink "SameStar" (137 : Nat) ({ cls := "SameStar$Comet", name := "passOf", desc := "(I)I" } : Jvm.MethodName)) ∈ wG := tz_2 (List.mem_of_getElem? (i := 238) rfl) rfl
theorem kw_576 : (Jvm.Cond.methodLink "SameStar" (141 : Nat) ({ cls := "SameStar$Sky", name := "wideOf", desc := "(I)I" } : Jvm.MethodName)) ∈ wG := tz_2 (List.mem_of_getElem? (i := 239) rfl) rfl
theorem kw_569 : (Jvm.Cond.code ({ cls := "SameStar", name := "pass", desc := "(III)I" } : Jvm.MethodName) prog_1_method_5_code (5 : Nat) (Option.some Jvm.ClassFile.FieldType.int)) ∈ wG := tz_2 (List.mem_of_getElem? (i := 232) rfl) rfl
theorem kw_585 : (Jvm.Cond.methodLink "SameStar" (144 : Nat) ({ cls := "SameStar", name := "isDay", desc := "(I)Z" } : Jvm.MethodName)) ∈ wG := tz_3 (List.mem_of_getElem? (i := 8) rfl) rfl
theorem kw_586 : (Jvm.Cond.methodLink "SameStar" (147 : Nat) ({ cls := "SameStar", name := "isFar", desc := "(I)Z" } : Jvm.MethodName)) ∈ wG := tz_3 (List.mem_of_getElem? (i := 9) rfl) rfl
theorem kw_589 : (Jvm.Cond.methodLink "SameStar" (150 : Nat) ({ cls := "SameStar$Comet", name := "degreeAt", desc := "(I)I" } : Jvm.MethodName)) ∈ wG := tz_3 (List.mem_of_getElem? (i := 12) rfl) rfl
theorem kw_593 : (Jvm.Cond.methodLink "SameStar" (153 : Nat) ({ cls := "SameStar$Comet", name := "distanceAt", desc := "(I)I" } : Jvm.MethodName)) ∈ wG := tz_3 (List.mem_of_getElem? (i := 16) rfl) rfl
theorem kw_598 : (Jvm.Cond.methodLink "SameStar" (156 : Nat) ({ cls := "SameStar$Comet", name := "apartOfSun", desc := "(II)I" } : Jvm.MethodName)) ∈ wG := tz_3 (List.mem_of_getElem? (i := 21) rfl) rfl
theorem kw_609 : (Jvm.Cond.methodLink "SameStar" (159 : Nat) ({ cls := "SameStar$Sight", name := "tailOf", desc := "(LSameStar$Comet;III)I" } : Jvm.MethodName)) ∈ wG := tz_3 (List.mem_of_getElem? (i := 32) rfl) rfl
theorem kw_584 : (Jvm.Cond.code ({ cls := "SameStar", name := "stands", desc := "(IIII)I" } : Jvm.MethodName) prog_1_method_6_code (7 : Nat) (Option.some Jvm.ClassFile.FieldType.int)) ∈ wG := tz_3 (List.mem_of_getElem? (i := 7) rfl) rfl
theorem kw_640 : (Jvm.Cond.methodLink "SameStar" (163 : Nat) ({ cls := "SameStar", name := "isPeople", desc := "(I)Z" } : Jvm.MethodName)) ∈ wG := tz_3 (List.mem_of_getElem? (i := 63) rfl) rfl
theorem kw_512 : (Jvm.Cond.fieldLink "SameStar" (166 : Nat) "SameStar$Comet" "first" "I") ∈ wG := tz_2 (List.mem_of_getElem? (i := 175) rfl) rfl
theorem kw_516 : (Jvm.Cond.fieldLink "SameStar" (169 : Nat) "SameStar$Comet" "last" "I") ∈ wG := tz_2 (List.mem_of_getElem? (i := 179) rfl) rfl
theorem kw_643 : (Jvm.Cond.methodLink "SameStar" (172 : Nat) ({ cls := "SameStar$Sight", name := "seenOn", desc := "(LSameStar$Comet;IIII)Z" } : Jvm.MethodName)) ∈ wG := tz_3 (List.mem_of_getElem? (i := 66) rfl) rfl
theorem kw_639 : (Jvm.Cond.code ({ cls := "SameStar", name := "seen", desc := "(III)I" } : Jvm.MethodName) prog_1_method_7_code (6 : Nat) (Option.some Jvm.ClassFile.FieldType.int)) ∈ wG := tz_3 (List.mem_of_getElem? (i := 62) rfl) rfl
theorem kw_659 : (Jvm.Cond.methodLink "SameStar" (176 : Nat) ({ cls := "SameStar$Tape", name := "hasRoomFor", desc := "(I)Z" } : Jvm.MethodName)) ∈ wG := tz_3 (List.mem_of_getElem? (i := 82) rfl) rfl
theorem kw_660 : (Jvm.Cond.instanceMethod ({ cls := "SameStar$Tape", name := "hasRoomFor", desc := "(I)Z" } : Jvm.MethodName)) ∈ wG := tz_3 (List.mem_of_getElem? (i := 83) rfl) rfl
theorem kw_661 : (Jvm.Cond.selects "SameStar$Tape" ({ cls := "SameStar$Tape", name := "hasRoomFor", desc := "(I)Z" } : Jvm.MethodName) ({ cls := "SameStar$Tape", name := "hasRoomFor", desc := "(I)Z" } : Jvm.MethodName)) ∈ wG := tz_3 (List.mem_of_getElem? (i := 84) rfl) rfl
theorem kw_663 : (Jvm.Cond.methodLink "SameStar" (179 : Nat) ({ cls := "SameStar$Tape", name := "takeBytes", desc := "(II)I" } : Jvm.MethodName)) ∈ wG := tz_3 (List.mem_of_getElem? (i := 86) rfl) rfl
theorem kw_664 : (Jvm.Cond.instanceMethod ({ cls := "SameStar$Tape", name := "takeBytes", desc := "(II)I" } : Jvm.MethodName)) ∈ wG := tz_3 (List.mem_of_getElem? (i := 87) rfl) rfl
theorem kw_665 : (Jvm.Cond.selects "SameStar$Tape" ({ cls := "SameStar$Tape", name := "takeBytes", desc := "(II)I" } : Jvm.MethodName) ({ cls := "SameStar$Tape", name := "takeBytes", desc := "(II)I" } : Jvm.MethodName)) ∈ wG := tz_3 (List.mem_of_getElem? (i := 88) rfl) rfl
theorem kw_658 : (Jvm.Cond.code ({ cls := "SameStar", name := "feed", desc := "(II)I" } : Jvm.MethodName) prog_1_method_8_code (3 : Nat) (Option.some Jvm.ClassFile.FieldType.int)) ∈ wG := tz_3 (List.mem_of_getElem? (i := 81) rfl) rfl
theorem kw_671 : (Jvm.Cond.methodLink "SameStar" (182 : Nat) ({ cls := "SameStar", name := "textOf", desc := "(I)LSameStar$Text;" } : Jvm.MethodName)) ∈ wG := tz_3 (List.mem_of_getElem? (i := 94) rfl) rfl
theorem kw_673 : (Jvm.Cond.instanceMethod ({ cls := "SameStar", name := "textOf", desc := "(I)LSameStar$Text;" } : Jvm.MethodName)) ∈ wG := tz_3 (List.mem_of_getElem? (i := 96) rfl) rfl
theorem kw_6 : (Cond.selects "SameStar" ⟨"SameStar", "textOf", "(I)LSameStar$Text;"⟩ ⟨"SameStar", "textOf", "(I)LSameStar$Text;"⟩) ∈ wG := wG_of 6 (by decide +kernel) rfl
theorem kw_680 : (Jvm.Cond.methodLink "SameStar" (186 : Nat) ({ cls := "SameStar$Tape", name := "becomeText", desc := "(LSameStar$Text;)I" } : Jvm.MethodName)) ∈ wG := tz_3 (List.mem_of_getElem? (i := 103) rfl) rfl
theorem kw_681 : (Jvm.Cond.instanceMethod ({ cls := "SameStar$Tape", name := "becomeText", desc := "(LSameStar$Text;)I" } : Jvm.MethodName)) ∈ wG := tz_3 (List.mem_of_getElem? (i := 104) rfl) rfl
theorem kw_682 : (Jvm.Cond.selects "SameStar$Tape" ({ cls := "SameStar$Tape", name := "becomeText", desc := "(LSameStar$Text;)I" } : Jvm.MethodName) ({ cls := "SameStar$Tape", name := "becomeText", desc := "(LSameStar$Text;)I" } : Jvm.MethodName)) ∈ wG := tz_3 (List.mem_of_getElem? (i := 105) rfl) rfl
theorem kw_831 : (Jvm.Cond.methodLink "SameStar" (190 : Nat) ({ cls := "SameStar$Book", name := "settleWordsOf", desc := "(I)V" } : Jvm.MethodName)) ∈ wG := tz_4 (List.mem_of_getElem? (i := 14) rfl) rfl
theorem kw_832 : (Jvm.Cond.instanceMethod ({ cls := "SameStar$Book", name := "settleWordsOf", desc := "(I)V" } : Jvm.MethodName)) ∈ wG := tz_4 (List.mem_of_getElem? (i := 15) rfl) rfl
theorem kw_833 : (Jvm.Cond.selects "SameStar$Book" ({ cls := "SameStar$Book", name := "settleWordsOf", desc := "(I)V" } : Jvm.MethodName) ({ cls := "SameStar$Book", name := "settleWordsOf", desc := "(I)V" } : Jvm.MethodName)) ∈ wG := tz_4 (List.mem_of_getElem? (i := 16) rfl) rfl
theorem kw_670 : (Jvm.Cond.code ({ cls := "SameStar", name := "text", desc := "(I)I" } : Jvm.MethodName) prog_1_method_9_code (4 : Nat) (Option.some Jvm.ClassFile.FieldType.int)) ∈ wG := tz_3 (List.mem_of_getElem? (i := 93) rfl) rfl
theorem kw_868 : (Jvm.Cond.methodLink "SameStar" (194 : Nat) ({ cls := "SameStar$Book", name := "tellReign", desc := "(III)V" } : Jvm.MethodName)) ∈ wG := tz_4 (List.mem_of_getElem? (i := 51) rfl) rfl
theorem kw_869 : (Jvm.Cond.instanceMethod ({ cls := "SameStar$Book", name := "tellReign", desc := "(III)V" } : Jvm.MethodName)) ∈ wG := tz_4 (List.mem_of_getElem? (i := 52) rfl) rfl
theorem kw_870 : (Jvm.Cond.selects "SameStar$Book" ({ cls := "SameStar$Book", name := "tellReign", desc := "(III)V" } : Jvm.MethodName) ({ cls := "SameStar$Book", name := "tellReign", desc := "(III)V" } : Jvm.MethodName)) ∈ wG := tz_4 (List.mem_of_getElem? (i := 53) rfl) rfl
theorem kw_867 : (Jvm.Cond.code ({ cls := "SameStar", name := "reign", desc := "(III)I" } : Jvm.MethodName) prog_1_method_10_code (4 : Nat) (Option.some Jvm.ClassFile.FieldType.int)) ∈ wG := tz_4 (List.mem_of_getElem? (i := 50) rfl) rfl
theorem kw_287 : (Jvm.Cond.fieldLink "SameStar" (198 : Nat) "SameStar$Story" "watches" "I") ∈ wG := tz_1 (List.mem_of_getElem? (i := 190) rfl) rfl
theorem kw_876 : (Jvm.Cond.methodLink "SameStar" (201 : Nat) ({ cls := "SameStar$Story", name := "addWatch", desc := "(III)I" } : Jvm.MethodName)) ∈ wG := tz_4 (List.mem_of_getElem? (i := 59) rfl) rfl
theorem kw_877 : (Jvm.Cond.instanceMethod ({ cls := "SameStar$Story", name := "addWatch", desc := "(III)I" } : Jvm.MethodName)) ∈ wG := tz_4 (List.mem_of_getElem? (i := 60) rfl) rfl
theorem kw_878 : (Jvm.Cond.selects "SameStar$Story" ({ cls := "SameStar$Story", name := "addWatch", desc := "(III)I" } : Jvm.MethodName) ({ cls := "SameStar$Story", name := "addWatch", desc := "(III)I" } : Jvm.MethodName)) ∈ wG := tz_4 (List.mem_of_getElem? (i := 61) rfl) rfl
theorem kw_875 : (Jvm.Cond.code ({ cls := "SameStar", name := "watch", desc := "(III)I" } : Jvm.MethodName) prog_1_method_11_code (4 : Nat) (Option.some Jvm.ClassFile.FieldType.int)) ∈ wG := tz_4 (List.mem_of_getElem? (i := 58) rfl) rfl
theorem kw_884 : (Jvm.Cond.methodLink "SameStar" (205 : Nat) ({ cls := "SameStar$Book", name := "isToldReign", desc := "(I)Z" } : Jvm.MethodName)) ∈ wG := tz_4 (List.mem_of_getElem? (i := 67) rfl) rfl
theorem kw_885 : (Jvm.Cond.methodLink "SameStar" (208 : Nat) ({ cls := "SameStar$Book", name := "canBear", desc := "(II)Z" } : Jvm.MethodName)) ∈ wG := tz_4 (List.mem_of_getElem? (i := 68) rfl) rfl
theorem kw_886 : (Jvm.Cond.instanceMethod ({ cls := "SameStar$Book", name := "canBear", desc := "(II)Z" } : Jvm.MethodName)) ∈ wG := tz_4 (List.mem_of_getElem? (i := 69) rfl) rfl
theorem kw_887 : (Jvm.Cond.selects "SameStar$Book" ({ cls := "SameStar$Book", name := "canBear", desc := "(II)Z" } : Jvm.MethodName) ({ cls := "SameStar$Book", name := "canBear", desc := "(II)Z" } : Jvm.MethodName)) ∈ wG := tz_4 (List.mem_of_getElem? (i := 70) rfl) rfl
theorem kw_236 : (Jvm.Cond.fieldLink "SameStar" (212 : Nat) "SameStar$Book" "words" "I") ∈ wG := tz_1 (List.mem_of_getElem? (i := 139) rfl) rfl
theorem kw_889 : (Jvm.Cond.classLink "SameStar" (215 : Nat) "SameStar$Word") ∈ wG := tz_4 (List.mem_of_getElem? (i := 72) rfl) rfl
theorem kw_890 : (Jvm.Cond.instantiable "SameStar$Word" (13 : Nat)) ∈ wG := tz_4 (List.mem_of_getElem? (i := 73) rfl) rfl
theorem kw_891 : (Jvm.Cond.methodLink "SameStar" (217 : Nat) ({ cls := "SameStar$Word", name := "<init>", desc := "(IIIII)V" } : Jvm.MethodName)) ∈ wG := tz_4 (List.mem_of_getElem? (i := 74) rfl) rfl
theorem kw_892 : (Jvm.Cond.instanceMethod ({ cls := "SameStar$Word", name := "<init>", desc := "(IIIII)V" } : Jvm.MethodName)) ∈ wG := tz_4 (List.mem_of_getElem? (i := 75) rfl) rfl
theorem kw_238 : (Jvm.Cond.fieldLink "SameStar" (220 : Nat) "SameStar$Book" "year" "I") ∈ wG := tz_1 (List.mem_of_getElem? (i := 141) rfl) rfl
theorem kw_240 : (Jvm.Cond.fieldLink "SameStar" (223 : Nat) "SameStar$Book" "month" "I") ∈ wG := tz_1 (List.mem_of_getElem? (i := 143) rfl) rfl
theorem kw_242 : (Jvm.Cond.fieldLink "SameStar" (226 : Nat) "SameStar$Book" "day" "I") ∈ wG := tz_1 (List.mem_of_getElem? (i := 145) rfl) rfl
theorem kw_965 : (Jvm.Cond.methodLink "SameStar" (229 : Nat) ({ cls := "SameStar$Word", name := "dateIt", desc := "(III)V" } : Jvm.MethodName)) ∈ wG := tz_4 (List.mem_of_getElem? (i := 148) rfl) rfl
theorem kw_966 : (Jvm.Cond.instanceMethod ({ cls := "SameStar$Word", name := "dateIt", desc := "(III)V" } : Jvm.MethodName)) ∈ wG := tz_4 (List.mem_of_getElem? (i := 149) rfl) rfl
theorem kw_967 : (Jvm.Cond.selects "SameStar$Word" ({ cls := "SameStar$Word", name := "dateIt", desc := "(III)V" } : Jvm.MethodName) ({ cls := "SameStar$Word", name := "dateIt", desc := "(III)V" } : Jvm.MethodName)) ∈ wG := tz_4 (List.mem_of_getElem? (i := 150) rfl) rfl
theorem kw_969 : (Jvm.Cond.methodLink "SameStar" (232 : Nat) ({ cls := "SameStar$Book", name := "addWord", desc := "(LSameStar$Word;I)I" } : Jvm.MethodName)) ∈ wG := tz_4 (List.mem_of_getElem? (i := 152) rfl) rfl
theorem kw_970 : (Jvm.Cond.instanceMethod ({ cls := "SameStar$Book", name := "addWord", desc := "(LSameStar$Word;I)I" } : Jvm.MethodName)) ∈ wG := tz_4 (List.mem_of_getElem? (i := 153) rfl) rfl
theorem kw_971 : (Jvm.Cond.selects "SameStar$Book" ({ cls := "SameStar$Book", name := "addWord", desc := "(LSameStar$Word;I)I" } : Jvm.MethodName) ({ cls := "SameStar$Book", name := "addWord", desc := "(LSameStar$Word;I)I" } : Jvm.MethodName)) ∈ wG := tz_4 (List.mem_of_getElem? (i := 154) rfl) rfl
theorem kw_883 : (Jvm.Cond.code ({ cls := "SameStar", name := "word", desc := "(III)I" } : Jvm.MethodName) prog_1_method_12_code (8 : Nat) (Option.some Jvm.ClassFile.FieldType.int)) ∈ wG := tz_4 (List.mem_of_getElem? (i := 66) rfl) rfl
theorem kw_985 : (Jvm.Cond.methodLink "SameStar" (236 : Nat) ({ cls := "SameStar", name := "isDatePart", desc := "(I)Z" } : Jvm.MethodName)) ∈ wG := tz_4 (List.mem_of_getElem? (i := 168) rfl) rfl
theorem kw_986 : (Jvm.Cond.static ({ cls := "SameStar", name := "isDatePart", desc := "(I)Z" } : Jvm.MethodName)) ∈ wG := tz_4 (List.mem_of_getElem? (i := 169) rfl) rfl
theorem kw_984 : (Jvm.Cond.code ({ cls := "SameStar", name := "date", desc := "(III)I" } : Jvm.MethodName) prog_1_method_13_code (4 : Nat) (Option.some Jvm.ClassFile.FieldType.int)) ∈ wG := tz_4 (List.mem_of_getElem? (i := 167) rfl) rfl
theorem kw_992 : (Jvm.Cond.methodLink "SameStar" (239 : Nat) ({ cls := "SameStar$Pages", name := "isPage", desc := "(I)Z" } : Jvm.MethodName)) ∈ wG := tz_4 (List.mem_of_getElem? (i := 175) rfl) rfl
theorem kw_997 : (Jvm.Cond.methodLink "SameStar" (242 : Nat) ({ cls := "SameStar$Pages", name := "isEmpty", desc := "(I)Z" } : Jvm.MethodName)) ∈ wG := tz_4 (List.mem_of_getElem? (i := 180) rfl) rfl
theorem kw_1002 : (Jvm.Cond.methodLink "SameStar" (245 : Nat) ({ cls := "SameStar$Pages", name := "holdsShorts", desc := "(I)Z" } : Jvm.MethodName)) ∈ wG := tz_4 (List.mem_of_getElem? (i := 185) rfl) rfl
theorem kw_1003 : (Jvm.Cond.instanceMethod ({ cls := "SameStar$Pages", name := "holdsShorts", desc := "(I)Z" } : Jvm.MethodName)) ∈ wG := tz_4 (List.mem_of_getElem? (i := 186) rfl) rfl
theorem kw_1004 : (Jvm.Cond.selects "SameStar$Pages" ({ cls := "SameStar$Pages", name := "holdsShorts", desc := "(I)Z" } : Jvm.MethodName) ({ cls := "SameStar$Pages", name := "holdsShorts", desc := "(I)Z" } : Jvm.MethodName)) ∈ wG := tz_4 (List.mem_of_getElem? (i := 187) rfl) rfl
theorem kw_1010 : (Jvm.Cond.methodLink "SameStar" (248 : Nat) ({ cls := "SameStar$Pages", name := "hasFiveFrom", desc := "(II)Z" } : Jvm.MethodName)) ∈ wG := tz_4 (List.mem_of_getElem? (i := 193) rfl) rfl
theorem kw_1011 : (Jvm.Cond.instanceMethod ({ cls := "SameStar$Pages", name := "hasFiveFrom", desc := "(II)Z" } : Jvm.MethodName)) ∈ wG := tz_4 (List.mem_of_getElem? (i := 194) rfl) rfl
theorem kw_1012 : (Jvm.Cond.selects "SameStar$Pages" ({ cls := "SameStar$Pages", name := "hasFiveFrom", desc := "(II)Z" } : Jvm.MethodName) ({ cls := "SameStar$Pages", name := "hasFiveFrom", desc := "(II)Z" } : Jvm.MethodName)) ∈ wG := tz_4 (List.mem_of_getElem? (i := 195) rfl) rfl
theorem kw_1018 : (Jvm.Cond.methodLink "SameStar" (251 : Nat) ({ cls := "SameStar", name := "addWordFromRow", desc := "(III)Z" } : Jvm.MethodName)) ∈ wG := tz_4 (List.mem_of_getElem? (i := 201) rfl) rfl
theorem kw_1020 : (Jvm.Cond.instanceMethod ({ cls := "SameStar", name := "addWordFromRow", desc := "(III)Z" } : Jvm.MethodName)) ∈ wG := tz_4 (List.mem_of_getElem? (i := 203) rfl) rfl
theorem kw_22 : (Cond.selects "SameStar" ⟨"SameStar", "addWordFromRow", "(III)Z"⟩ ⟨"SameStar", "addWordFromRow", "(III)Z"⟩) ∈ wG := wG_of 22 (by decide +kernel) rfl
theorem kw_991 : (Jvm.Cond.code ({ cls := "SameStar", name := "words", desc := "(IIII)I" } : Jvm.MethodName) prog_1_method_14_code (7 : Nat) (Option.some Jvm.ClassFile.FieldType.int)) ∈ wG := tz_4 (List.mem_of_getElem? (i := 174) rfl) rfl
theorem kw_1035 : (Jvm.Cond.methodLink "SameStar" (254 : Nat) ({ cls := "SameStar$Book", name := "wordAt", desc := "(I)LSameStar$Word;" } : Jvm.MethodName)) ∈ wG := tz_4 (List.mem_of_getElem? (i := 218) rfl) rfl
theorem kw_905 : (Jvm.Cond.fieldLink "SameStar" (258 : Nat) "SameStar$Word" "kind" "I") ∈ wG := tz_4 (List.mem_of_getElem? (i := 88) rfl) rfl
theorem kw_910 : (Jvm.Cond.fieldLink "SameStar" (261 : Nat) "SameStar$Word" "people" "I") ∈ wG := tz_4 (List.mem_of_getElem? (i := 93) rfl) rfl
theorem kw_918 : (Jvm.Cond.fieldLink "SameStar" (264 : Nat) "SameStar$Word" "year" "I") ∈ wG := tz_4 (List.mem_of_getElem? (i := 101) rfl) rfl
theorem kw_921 : (Jvm.Cond.fieldLink "SameStar" (265 : Nat) "SameStar$Word" "month" "I") ∈ wG := tz_4 (List.mem_of_getElem? (i := 104) rfl) rfl
theorem kw_924 : (Jvm.Cond.fieldLink "SameStar" (266 : Nat) "SameStar$Word" "day" "I") ∈ wG := tz_4 (List.mem_of_getElem? (i := 107) rfl) rfl
theorem kw_913 : (Jvm.Cond.fieldLink "SameStar" (267 : Nat) "SameStar$Word" "reign" "I") ∈ wG := tz_4 (List.mem_of_getElem? (i := 96) rfl) rfl
theorem kw_915 : (Jvm.Cond.fieldLink "SameStar" (270 : Nat) "SameStar$Word" "slack" "I") ∈ wG := tz_4 (List.mem_of_getElem? (i := 98) rfl) rfl
theorem kw_929 : (Jvm.Cond.fieldLink "SameStar" (273 : Nat) "SameStar$Word" "more" "I") ∈ wG := tz_4 (List.mem_of_getElem? (i := 112) rfl) rfl
theorem kw_1036 : (Jvm.Cond.methodLink "SameStar" (276 : Nat) ({ cls := "SameStar$Word", name := "rootWord", desc := "()LSameStar$Word;" } : Jvm.MethodName)) ∈ wG := tz_4 (List.mem_of_getElem? (i := 219) rfl) rfl
theorem kw_899 : (Jvm.Cond.fieldLink "SameStar" (280 : Nat) "SameStar$Word" "number" "I") ∈ wG := tz_4 (List.mem_of_getElem? (i := 82) rfl) rfl
theorem kw_935 : (Jvm.Cond.fieldLink "SameStar" (283 : Nat) "SameStar$Word" "spans" "I") ∈ wG := tz_4 (List.mem_of_getElem? (i := 118) rfl) rfl
theorem kw_1034 : (Jvm.Cond.code ({ cls := "SameStar", name := "ofWord", desc := "(II)I" } : Jvm.MethodName) prog_1_method_15_code (4 : Nat) (Option.some Jvm.ClassFile.FieldType.int)) ∈ wG := tz_4 (List.mem_of_getElem? (i := 217) rfl) rfl
theorem kw_1041 : (Jvm.Cond.methodLink "SameStar" (286 : Nat) ({ cls := "SameStar$Word", name := "spanFrom", desc := "(I)I" } : Jvm.MethodName)) ∈ wG := tz_4 (List.mem_of_getElem? (i := 224) rfl) rfl
theorem kw_1050 : (Jvm.Cond.methodLink "SameStar" (289 : Nat) ({ cls := "SameStar$Word", name := "spanTo", desc := "(I)I" } : Jvm.MethodName)) ∈ wG := tz_4 (List.mem_of_getElem? (i := 233) rfl) rfl
theorem kw_1040 : (Jvm.Cond.code ({ cls := "SameStar", name := "span", desc := "(III)I" } : Jvm.MethodName) prog_1_method_16_code (8 : Nat) (Option.some Jvm.ClassFile.FieldType.int)) ∈ wG := tz_4 (List.mem_of_getElem? (i := 223) rfl) rfl
theorem kw_1064 : (Jvm.Cond.methodLink "SameStar" (292 : Nat) ({ cls := "SameStar$Sight", name := "fitDay", desc := "(LSameStar$Word;LSameStar$Comet;IIII)I" } : Jvm.MethodName)) ∈ wG := tz_5 (List.mem_of_getElem? (i := 7) rfl) rfl
theorem kw_1063 : (Jvm.Cond.code ({ cls := "SameStar", name := "fits", desc := "(III)I" } : Jvm.MethodName) prog_1_method_17_code (7 : Nat) (Option.some Jvm.ClassFile.FieldType.int)) ∈ wG := tz_5 (List.mem_of_getElem? (i := 6) rfl) rfl
theorem kw_1090 : (Jvm.Cond.methodLink "SameStar" (296 : Nat) ({ cls := "SameStar$Story", name := "leastMove", desc := "(LSameStar$Word;LSameStar$Comet;I)I" } : Jvm.MethodName)) ∈ wG := tz_5 (List.mem_of_getElem? (i := 33) rfl) rfl
theorem kw_1091 : (Jvm.Cond.instanceMethod ({ cls := "SameStar$Story", name := "leastMove", desc := "(LSameStar$Word;LSameStar$Comet;I)I" } : Jvm.MethodName)) ∈ wG := tz_5 (List.mem_of_getElem? (i := 34) rfl) rfl
theorem kw_1092 : (Jvm.Cond.selects "SameStar$Story" ({ cls := "SameStar$Story", name := "leastMove", desc := "(LSameStar$Word;LSameStar$Comet;I)I" } : Jvm.MethodName) ({ cls := "SameStar$Story", name := "leastMove", desc := "(LSameStar$Word;LSameStar$Comet;I)I" } : Jvm.MethodName)) ∈ wG := tz_5 (List.mem_of_getElem? (i := 35) rfl) rfl
theorem kw_1089 : (Jvm.Cond.code ({ cls := "SameStar", name := "perhaps", desc := "(III)I" } : Jvm.MethodName) prog_1_method_18_code (6 : Nat) (Option.some Jvm.ClassFile.FieldType.int)) ∈ wG := tz_5 (List.mem_of_getElem? (i := 32) rfl) rfl
theorem kw_1101 : (Jvm.Cond.code ({ cls := "SameStar", name := "whose", desc := "(II)I" } : Jvm.MethodName) prog_1_method_19_code (6 : Nat) (Option.some Jvm.ClassFile.FieldType.int)) ∈ wG := tz_5 (List.mem_of_getElem? (i := 44) rfl) rfl
theorem kw_1106 : (Jvm.Cond.methodLink "SameStar" (300 : Nat) ({ cls := "SameStar$Book", name := "firstCommonDay", desc := "(LSameStar$Word;LSameStar$Word;)I" } : Jvm.MethodName)) ∈ wG := tz_5 (List.mem_of_getElem? (i := 49) rfl) rfl
theorem kw_1107 : (Jvm.Cond.instanceMethod ({ cls := "SameStar$Book", name := "firstCommonDay", desc := "(LSameStar$Word;LSameStar$Word;)I" } : Jvm.MethodName)) ∈ wG := tz_5 (List.mem_of_getElem? (i := 50) rfl) rfl
theorem kw_1108 : (Jvm.Cond.selects "SameStar$Book" ({ cls := "SameStar$Book", name := "firstCommonDay", desc := "(LSameStar$Word;LSameStar$Word;)I" } : Jvm.MethodName) ({ cls := "SameStar$Book", name := "firstCommonDay", desc := "(LSameStar$Word;LSameStar$Word;)I" } : Jvm.MethodName)) ∈ wG := tz_5 (List.mem_of_getElem? (i := 51) rfl) rfl
theorem kw_1105 : (Jvm.Cond.code ({ cls := "SameStar", name := "evening", desc := "(II)I" } : Jvm.MethodName) prog_1_method_20_code (6 : Nat) (Option.some Jvm.ClassFile.FieldType.int)) ∈ wG := tz_5 (List.mem_of_getElem? (i := 48) rfl) rfl
theorem kw_1116 : (Jvm.Cond.methodLink "SameStar" (304 : Nat) ({ cls := "SameStar$Sight", name := "goneBehind", desc := "(LSameStar$Word;LSameStar$Word;LSameStar$Comet;I)Z" } : Jvm.MethodName)) ∈ wG := tz_5 (List.mem_of_getElem? (i := 59) rfl) rfl
theorem kw_1117 : (Jvm.Cond.instanceMethod ({ cls := "SameStar$Sight", name := "goneBehind", desc := "(LSameStar$Word;LSameStar$Word;LSameStar$Comet;I)Z" } : Jvm.MethodName)) ∈ wG := tz_5 (List.mem_of_getElem? (i := 60) rfl) rfl
theorem kw_1118 : (Jvm.Cond.selects "SameStar$Sight" ({ cls := "SameStar$Sight", name := "goneBehind", desc := "(LSameStar$Word;LSameStar$Word;LSameStar$Comet;I)Z" } : Jvm.MethodName) ({ cls := "SameStar$Sight", name := "goneBehind", desc := "(LSameStar$Word;LSameStar$Word;LSameStar$Comet;I)Z" } : Jvm.MethodName)) ∈ wG := tz_5 (List.mem_of_getElem? (i := 61) rfl) rfl
theorem kw_1115 : (Jvm.Cond.code ({ cls := "SameStar", name := "behind", desc := "(II)I" } : Jvm.MethodName) prog_1_method_21_code (8 : Nat) (Option.some Jvm.ClassFile.FieldType.int)) ∈ wG := tz_5 (List.mem_of_getElem? (i := 58) rfl) rfl
theorem kw_1125 : (Jvm.Cond.methodLink "SameStar" (308 : Nat) ({ cls := "SameStar$Book", name := "countRoots", desc := "(I)I" } : Jvm.MethodName)) ∈ wG := tz_5 (List.mem_of_getElem? (i := 68) rfl) rfl
theorem kw_1126 : (Jvm.Cond.instanceMethod ({ cls := "SameStar$Book", name := "countRoots", desc := "(I)I" } : Jvm.MethodName)) ∈ wG := tz_5 (List.mem_of_getElem? (i := 69) rfl) rfl
theorem kw_1127 : (Jvm.Cond.selects "SameStar$Book" ({ cls := "SameStar$Book", name := "countRoots", desc := "(I)I" } : Jvm.MethodName) ({ cls := "SameStar$Book", name := "countRoots", desc := "(I)I" } : Jvm.MethodName)) ∈ wG := tz_5 (List.mem_of_getElem? (i := 70) rfl) rfl
theorem kw_1124 : (Jvm.Cond.code ({ cls := "SameStar", name := "once", desc := "(I)I" } : Jvm.MethodName) prog_1_method_22_code (2 : Nat) (Option.some Jvm.ClassFile.FieldType.int)) ∈ wG := tz_5 (List.mem_of_getElem? (i := 67) rfl) rfl
theorem kw_1133 : (Jvm.Cond.methodLink "SameStar" (311 : Nat) ({ cls := "SameStar$Story", name := "weighComet", desc := "(I)V" } : Jvm.MethodName)) ∈ wG := tz_5 (List.mem_of_getElem? (i := 76) rfl) rfl
theorem kw_1134 : (Jvm.Cond.instanceMethod ({ cls := "SameStar$Story", name := "weighComet", desc := "(I)V" } : Jvm.MethodName)) ∈ wG := tz_5 (List.mem_of_getElem? (i := 77) rfl) rfl
theorem kw_1135 : (Jvm.Cond.selects "SameStar$Story" ({ cls := "SameStar$Story", name := "weighComet", desc := "(I)V" } : Jvm.MethodName) ({ cls := "SameStar$Story", name := "weighComet", desc := "(I)V" } : Jvm.MethodName)) ∈ wG := tz_5 (List.mem_of_getElem? (i := 78) rfl) rfl
theorem kw_1151 : (Jvm.Cond.methodLink "SameStar" (314 : Nat) ({ cls := "SameStar$Story", name := "worthOf", desc := "(I)I" } : Jvm.MethodName)) ∈ wG := tz_5 (List.mem_of_getElem? (i := 94) rfl) rfl
theorem kw_1132 : (Jvm.Cond.code ({ cls := "SameStar", name := "judge", desc := "(I)I" } : Jvm.MethodName) prog_1_method_23_code (3 : Nat) (Option.some Jvm.ClassFile.FieldType.int)) ∈ wG := tz_5 (List.mem_of_getElem? (i := 75) rfl) rfl
theorem kw_606 : (Jvm.Cond.methodLink "SameStar" (317 : Nat) ({ cls := "java/lang/Math", name := "min", desc := "(II)I" } : Jvm.MethodName)) ∈ wG := tz_3 (List.mem_of_getElem? (i := 29) rfl) rfl
theorem kw_1171 : (Jvm.Cond.methodLink "SameStar" (322 : Nat) ({ cls := "SameStar$Story", name := "bestSetOf", desc := "(I)I" } : Jvm.MethodName)) ∈ wG := tz_5 (List.mem_of_getElem? (i := 114) rfl) rfl
theorem kw_1172 : (Jvm.Cond.instanceMethod ({ cls := "SameStar$Story", name := "bestSetOf", desc := "(I)I" } : Jvm.MethodName)) ∈ wG := tz_5 (List.mem_of_getElem? (i := 115) rfl) rfl
theorem kw_1173 : (Jvm.Cond.selects "SameStar$Story" ({ cls := "SameStar$Story", name := "bestSetOf", desc := "(I)I" } : Jvm.MethodName) ({ cls := "SameStar$Story", name := "bestSetOf", desc := "(I)I" } : Jvm.MethodName)) ∈ wG := tz_5 (List.mem_of_getElem? (i := 116) rfl) rfl
theorem kw_1170 : (Jvm.Cond.code ({ cls := "SameStar", name := "best", desc := "(I)I" } : Jvm.MethodName) prog_1_method_24_code (4 : Nat) (Option.some Jvm.ClassFile.FieldType.int)) ∈ wG := tz_5 (List.mem_of_getElem? (i := 113) rfl) rfl
theorem kw_337 : (Jvm.Cond.fieldLink "SameStar" (325 : Nat) "SameStar$Evenings" "count" "I") ∈ wG := tz_2 (List.mem_of_getElem? (i := 0) rfl) rfl
theorem kw_1180 : (Jvm.Cond.methodLink "SameStar" (328 : Nat) ({ cls := "SameStar$Evenings", name := "addEvening", desc := "(II)I" } : Jvm.MethodName)) ∈ wG := tz_5 (List.mem_of_getElem? (i := 123) rfl) rfl
theorem kw_1181 : (Jvm.Cond.instanceMethod ({ cls := "SameStar$Evenings", name := "addEvening", desc := "(II)I" } : Jvm.MethodName)) ∈ wG := tz_5 (List.mem_of_getElem? (i := 124) rfl) rfl
theorem kw_1182 : (Jvm.Cond.selects "SameStar$Evenings" ({ cls := "SameStar$Evenings", name := "addEvening", desc := "(II)I" } : Jvm.MethodName) ({ cls := "SameStar$Evenings", name := "addEvening", desc := "(II)I" } : Jvm.MethodName)) ∈ wG := tz_5 (List.mem_of_getElem? (i := 125) rfl) rfl
theorem kw_1179 : (Jvm.Cond.code ({ cls := "SameStar", name := "observed", desc := "(II)I" } : Jvm.MethodName) prog_1_method_25_code (3 : Nat) (Option.some Jvm.ClassFile.FieldType.int)) ∈ wG := tz_5 (List.mem_of_getElem? (i := 122) rfl) rfl
theorem kw_1188 : (Jvm.Cond.methodLink "SameStar" (331 : Nat) ({ cls := "SameStar$Evenings", name := "findPaths", desc := "(III)I" } : Jvm.MethodName)) ∈ wG := tz_5 (List.mem_of_getElem? (i := 131) rfl) rfl
theorem kw_1189 : (Jvm.Cond.instanceMethod ({ cls := "SameStar$Evenings", name := "findPaths", desc := "(III)I" } : Jvm.MethodName)) ∈ wG := tz_5 (List.mem_of_getElem? (i := 132) rfl) rfl
theorem kw_1190 : (Jvm.Cond.selects "SameStar$Evenings" ({ cls := "SameStar$Evenings", name := "findPaths", desc := "(III)I" } : Jvm.MethodName) ({ cls := "SameStar$Evenings", name := "findPaths", desc := "(III)I" } : Jvm.MethodName)) ∈ wG := tz_5 (List.mem_of_getElem? (i := 133) rfl) rfl
theorem kw_1187 : (Jvm.Cond.code ({ cls := "SameStar", name := "paths", desc := "(III)I" } : Jvm.MethodName) prog_1_method_26_code (4 : Nat) (Option.some Jvm.ClassFile.FieldType.int)) ∈ wG := tz_5 (List.mem_of_getElem? (i := 130) rfl) rfl
theorem kw_1205 : (Jvm.Cond.code ({ cls := "SameStar", name := "forget", desc := "()I" } : Jvm.MethodName) prog_1_method_27_code (2 : Nat) (Option.some Jvm.ClassFile.FieldType.int)) ∈ wG := tz_5 (List.mem_of_getElem? (i := 148) rfl) rfl
theorem kw_1210 : (Jvm.Cond.methodLink "SameStar" (334 : Nat) ({ cls := "SameStar", name := "isNear", desc := "(III)Z" } : Jvm.MethodName)) ∈ wG := tz_5 (List.mem_of_getElem? (i := 153) rfl) rfl
theorem kw_1211 : (Jvm.Cond.static ({ cls := "SameStar", name := "isNear", desc := "(III)Z" } : Jvm.MethodName)) ∈ wG := tz_5 (List.mem_of_getElem? (i := 154) rfl) rfl
theorem kw_1209 : (Jvm.Cond.code ({ cls := "SameStar", name := "alike", desc := "(III)I" } : Jvm.MethodName) prog_1_method_28_code (6 : Nat) (Option.some Jvm.ClassFile.FieldType.int)) ∈ wG := tz_5 (List.mem_of_getElem? (i := 152) rfl) rfl
theorem kw_1218 : (Jvm.Cond.methodLink "SameStar" (337 : Nat) ({ cls := "SameStar", name := "thousandthsNear", desc := "(III)I" } : Jvm.MethodName)) ∈ wG := tz_5 (List.mem_of_getElem? (i := 161) rfl) rfl
theorem kw_1219 : (Jvm.Cond.static ({ cls := "SameStar", name := "thousandthsNear", desc := "(III)I" } : Jvm.MethodName)) ∈ wG := tz_5 (List.mem_of_getElem? (i := 162) rfl) rfl
theorem kw_1217 : (Jvm.Cond.code ({ cls := "SameStar", name := "chance", desc := "(III)I" } : Jvm.MethodName) prog_1_method_29_code (4 : Nat) (Option.some Jvm.ClassFile.FieldType.int)) ∈ wG := tz_5 (List.mem_of_getElem? (i := 160) rfl) rfl
theorem kw_1235 : (Jvm.Cond.methodLink "SameStar" (340 : Nat) ({ cls := "SameStar$Sky", name := "allGreats", desc := "()I" } : Jvm.MethodName)) ∈ wG := tz_5 (List.mem_of_getElem? (i := 178) rfl) rfl
theorem kw_1236 : (Jvm.Cond.methodLink "SameStar" (344 : Nat) ({ cls := "SameStar$Sky", name := "foretell", desc := "(LSameStar$Comet;II)I" } : Jvm.MethodName)) ∈ wG := tz_5 (List.mem_of_getElem? (i := 179) rfl) rfl
theorem kw_1237 : (Jvm.Cond.instanceMethod ({ cls := "SameStar$Sky", name := "foretell", desc := "(LSameStar$Comet;II)I" } : Jvm.MethodName)) ∈ wG := tz_5 (List.mem_of_getElem? (i := 180) rfl) rfl
theorem kw_1238 : (Jvm.Cond.selects "SameStar$Sky" ({ cls := "SameStar$Sky", name := "foretell", desc := "(LSameStar$Comet;II)I" } : Jvm.MethodName) ({ cls := "SameStar$Sky", name := "foretell", desc := "(LSameStar$Comet;II)I" } : Jvm.MethodName)) ∈ wG := tz_5 (List.mem_of_getElem? (i := 181) rfl) rfl
theorem kw_1234 : (Jvm.Cond.code ({ cls := "SameStar", name := "foretold", desc := "(IIII)I" } : Jvm.MethodName) prog_1_method_30_code (7 : Nat) (Option.some Jvm.ClassFile.FieldType.int)) ∈ wG := tz_5 (List.mem_of_getElem? (i := 177) rfl) rfl
theorem kw_1245 : (Jvm.Cond.methodLink "SameStar" (348 : Nat) ({ cls := "SameStar$Story", name := "forgetMoves", desc := "()V" } : Jvm.MethodName)) ∈ wG := tz_5 (List.mem_of_getElem? (i := 188) rfl) rfl
theorem kw_1246 : (Jvm.Cond.instanceMethod ({ cls := "SameStar$Story", name := "forgetMoves", desc := "()V" } : Jvm.MethodName)) ∈ wG := tz_5 (List.mem_of_getElem? (i := 189) rfl) rfl
theorem kw_1247 : (Jvm.Cond.selects "SameStar$Story" ({ cls := "SameStar$Story", name := "forgetMoves", desc := "()V" } : Jvm.MethodName) ({ cls := "SameStar$Story", name := "forgetMoves", desc := "()V" } : Jvm.MethodName)) ∈ wG := tz_5 (List.mem_of_getElem? (i := 190) rfl) rfl
theorem kw_1249 : (Jvm.Cond.methodLink "SameStar" (351 : Nat) ({ cls := "SameStar$Story", name := "countMovesOf", desc := "(LSameStar$Word;LSameStar$Comet;)V" } : Jvm.MethodName)) ∈ wG := tz_5 (List.mem_of_getElem? (i := 192) rfl) rfl
theorem kw_1250 : (Jvm.Cond.instanceMethod ({ cls := "SameStar$Story", name := "countMovesOf", desc := "(LSameStar$Word;LSameStar$Comet;)V" } : Jvm.MethodName)) ∈ wG := tz_5 (List.mem_of_getElem? (i := 193) rfl) rfl
theorem kw_1251 : (Jvm.Cond.selects "SameStar$Story" ({ cls := "SameStar$Story", name := "countMovesOf", desc := "(LSameStar$Word;LSameStar$Comet;)V" } : Jvm.MethodName) ({ cls := "SameStar$Story", name := "countMovesOf", desc := "(LSameStar$Word;LSameStar$Comet;)V" } : Jvm.MethodName)) ∈ wG := tz_5 (List.mem_of_getElem? (i := 194) rfl) rfl
theorem kw_1272 : (Jvm.Cond.methodLink "SameStar" (355 : Nat) ({ cls := "SameStar$Story", name := "bestMove", desc := "(I)I" } : Jvm.MethodName)) ∈ wG := tz_5 (List.mem_of_getElem? (i := 215) rfl) rfl
theorem kw_1273 : (Jvm.Cond.instanceMethod ({ cls := "SameStar$Story", name := "bestMove", desc := "(I)I" } : Jvm.MethodName)) ∈ wG := tz_5 (List.mem_of_getElem? (i := 216) rfl) rfl
theorem kw_1274 : (Jvm.Cond.selects "SameStar$Story" ({ cls := "SameStar$Story", name := "bestMove", desc := "(I)I" } : Jvm.MethodName) ({ cls := "SameStar$Story", name := "bestMove", desc := "(I)I" } : Jvm.MethodName)) ∈ wG := tz_5 (List.mem_of_getElem? (i := 217) rfl) rfl
theorem kw_1244 : (Jvm.Cond.code ({ cls := "SameStar", name := "right", desc := "(III)I" } : Jvm.MethodName) prog_1_method_31_code (7 : Nat) (Option.some Jvm.ClassFile.FieldType.int)) ∈ wG := tz_5 (List.mem_of_getElem? (i := 187) rfl) rfl
theorem kw_1281 : (Jvm.Cond.methodLink "SameStar" (358 : Nat) ({ cls := "SameStar$Sky", name := "breakComet", desc := "(II)I" } : Jvm.MethodName)) ∈ wG := tz_5 (List.mem_of_getElem? (i := 224) rfl) rfl
theorem kw_1282 : (Jvm.Cond.instanceMethod ({ cls := "SameStar$Sky", name := "breakComet", desc := "(II)I" } : Jvm.MethodName)) ∈ wG := tz_5 (List.mem_of_getElem? (i := 225) rfl) rfl
theorem kw_1283 : (Jvm.Cond.selects "SameStar$Sky" ({ cls := "SameStar$Sky", name := "breakComet", desc := "(II)I" } : Jvm.MethodName) ({ cls := "SameStar$Sky", name := "breakComet", desc := "(II)I" } : Jvm.MethodName)) ∈ wG := tz_5 (List.mem_of_getElem? (i := 226) rfl) rfl
theorem kw_1280 : (Jvm.Cond.code ({ cls := "SameStar", name := "broke", desc := "(II)I" } : Jvm.MethodName) prog_1_method_32_code (4 : Nat) (Option.some Jvm.ClassFile.FieldType.int)) ∈ wG := tz_5 (List.mem_of_getElem? (i := 223) rfl) rfl
theorem kw_1293 : (Jvm.Cond.methodLink "SameStar" (361 : Nat) ({ cls := "SameStar$Sky", name := "kinOf", desc := "(I)I" } : Jvm.MethodName)) ∈ wG := tz_5 (List.mem_of_getElem? (i := 236) rfl) rfl
theorem kw_1294 : (Jvm.Cond.instanceMethod ({ cls := "SameStar$Sky", name := "kinOf", desc := "(I)I" } : Jvm.MethodName)) ∈ wG := tz_5 (List.mem_of_getElem? (i := 237) rfl) rfl
theorem kw_1295 : (Jvm.Cond.selects "SameStar$Sky" ({ cls := "SameStar$Sky", name := "kinOf", desc := "(I)I" } : Jvm.MethodName) ({ cls := "SameStar$Sky", name := "kinOf", desc := "(I)I" } : Jvm.MethodName)) ∈ wG := tz_5 (List.mem_of_getElem? (i := 238) rfl) rfl
theorem kw_1292 : (Jvm.Cond.code ({ cls := "SameStar", name := "kin", desc := "(I)I" } : Jvm.MethodName) prog_1_method_33_code (2 : Nat) (Option.some Jvm.ClassFile.FieldType.int)) ∈ wG := tz_5 (List.mem_of_getElem? (i := 235) rfl) rfl
theorem kw_1305 : (Jvm.Cond.methodLink "SameStar" (364 : Nat) ({ cls := "SameStar$Story", name := "nextToLookFor", desc := "(LSameStar$Comet;LSameStar$Comet;)I" } : Jvm.MethodName)) ∈ wG := tz_6 (List.mem_of_getElem? (i := 8) rfl) rfl
theorem kw_1306 : (Jvm.Cond.instanceMethod ({ cls := "SameStar$Story", name := "nextToLookFor", desc := "(LSameStar$Comet;LSameStar$Comet;)I" } : Jvm.MethodName)) ∈ wG := tz_6 (List.mem_of_getElem? (i := 9) rfl) rfl
theorem kw_1307 : (Jvm.Cond.selects "SameStar$Story" ({ cls := "SameStar$Story", name := "nextToLookFor", desc := "(LSameStar$Comet;LSameStar$Comet;)I" } : Jvm.MethodName) ({ cls := "SameStar$Story", name := "nextToLookFor", desc := "(LSameStar$Comet;LSameStar$Comet;)I" } : Jvm.MethodName)) ∈ wG := tz_6 (List.mem_of_getElem? (i := 10) rfl) rfl
theorem kw_1304 : (Jvm.Cond.code ({ cls := "SameStar", name := "next", desc := "(III)I" } : Jvm.MethodName) prog_1_method_34_code (7 : Nat) (Option.some Jvm.ClassFile.FieldType.int)) ∈ wG := tz_6 (List.mem_of_getElem? (i := 7) rfl) rfl
theorem kw_1325 : (Jvm.Cond.methodLink "SameStar" (368 : Nat) ({ cls := "SameStar$Acts", name := "clear", desc := "()V" } : Jvm.MethodName)) ∈ wG := tz_6 (List.mem_of_getElem? (i := 28) rfl) rfl
theorem kw_1326 : (Jvm.Cond.instanceMethod ({ cls := "SameStar$Acts", name := "clear", desc := "()V" } : Jvm.MethodName)) ∈ wG := tz_6 (List.mem_of_getElem? (i := 29) rfl) rfl
theorem kw_1327 : (Jvm.Cond.selects "SameStar$Acts" ({ cls := "SameStar$Acts", name := "clear", desc := "()V" } : Jvm.MethodName) ({ cls := "SameStar$Acts", name := "clear", desc := "()V" } : Jvm.MethodName)) ∈ wG := tz_6 (List.mem_of_getElem? (i := 30) rfl) rfl
theorem kw_1329 : (Jvm.Cond.methodLink "SameStar" (371 : Nat) ({ cls := "SameStar$Acts", name := "perform", desc := "(LSameStar$Word;II)I" } : Jvm.MethodName)) ∈ wG := tz_6 (List.mem_of_getElem? (i := 32) rfl) rfl
theorem kw_1330 : (Jvm.Cond.instanceMethod ({ cls := "SameStar$Acts", name := "perform", desc := "(LSameStar$Word;II)I" } : Jvm.MethodName)) ∈ wG := tz_6 (List.mem_of_getElem? (i := 33) rfl) rfl
theorem kw_1331 : (Jvm.Cond.selects "SameStar$Acts" ({ cls := "SameStar$Acts", name := "perform", desc := "(LSameStar$Word;II)I" } : Jvm.MethodName) ({ cls := "SameStar$Acts", name := "perform", desc := "(LSameStar$Word;II)I" } : Jvm.MethodName)) ∈ wG := tz_6 (List.mem_of_getElem? (i := 34) rfl) rfl
theorem kw_1324 : (Jvm.Cond.code ({ cls := "SameStar", name := "act", desc := "(III)I" } : Jvm.MethodName) prog_1_method_35_code (5 : Nat) (Option.some Jvm.ClassFile.FieldType.int)) ∈ wG := tz_6 (List.mem_of_getElem? (i := 27) rfl) rfl
theorem kw_1353 : (Jvm.Cond.methodLink "SameStar" (375 : Nat) ({ cls := "SameStar$Acts", name := "bodyAt", desc := "(I)I" } : Jvm.MethodName)) ∈ wG := tz_6 (List.mem_of_getElem? (i := 56) rfl) rfl
theorem kw_1354 : (Jvm.Cond.instanceMethod ({ cls := "SameStar$Acts", name := "bodyAt", desc := "(I)I" } : Jvm.MethodName)) ∈ wG := tz_6 (List.mem_of_getElem? (i := 57) rfl) rfl
theorem kw_1355 : (Jvm.Cond.selects "SameStar$Acts" ({ cls := "SameStar$Acts", name := "bodyAt", desc := "(I)I" } : Jvm.MethodName) ({ cls := "SameStar$Acts", name := "bodyAt", desc := "(I)I" } : Jvm.MethodName)) ∈ wG := tz_6 (List.mem_of_getElem? (i := 58) rfl) rfl
theorem kw_1352 : (Jvm.Cond.code ({ cls := "SameStar", name := "trace", desc := "(I)I" } : Jvm.MethodName) prog_1_method_36_code (2 : Nat) (Option.some Jvm.ClassFile.FieldType.int)) ∈ wG := tz_6 (List.mem_of_getElem? (i := 55) rfl) rfl
theorem kw_1361 : (Jvm.Cond.methodLink "SameStar" (378 : Nat) ({ cls := "SameStar$Pages", name := "keepNothing", desc := "(I)V" } : Jvm.MethodName)) ∈ wG := tz_6 (List.mem_of_getElem? (i := 64) rfl) rfl
theorem kw_1362 : (Jvm.Cond.instanceMethod ({ cls := "SameStar$Pages", name := "keepNothing", desc := "(I)V" } : Jvm.MethodName)) ∈ wG := tz_6 (List.mem_of_getElem? (i := 65) rfl) rfl
theorem kw_1363 : (Jvm.Cond.selects "SameStar$Pages" ({ cls := "SameStar$Pages", name := "keepNothing", desc := "(I)V" } : Jvm.MethodName) ({ cls := "SameStar$Pages", name := "keepNothing", desc := "(I)V" } : Jvm.MethodName)) ∈ wG := tz_6 (List.mem_of_getElem? (i := 66) rfl) rfl
theorem kw_1365 : (Jvm.Cond.methodLink "SameStar" (381 : Nat) ({ cls := "SameStar$Pages", name := "keepWord", desc := "(II)V" } : Jvm.MethodName)) ∈ wG := tz_6 (List.mem_of_getElem? (i := 68) rfl) rfl
theorem kw_1366 : (Jvm.Cond.instanceMethod ({ cls := "SameStar$Pages", name := "keepWord", desc := "(II)V" } : Jvm.MethodName)) ∈ wG := tz_6 (List.mem_of_getElem? (i := 69) rfl) rfl
theorem kw_1367 : (Jvm.Cond.selects "SameStar$Pages" ({ cls := "SameStar$Pages", name := "keepWord", desc := "(II)V" } : Jvm.MethodName) ({ cls := "SameStar$Pages", name := "keepWord", desc := "(II)V" } : Jvm.MethodName)) ∈ wG := tz_6 (List.mem_of_getElem? (i := 70) rfl) rfl
theorem kw_1360 : (Jvm.Cond.code ({ cls := "SameStar", name := "keep", desc := "(II)I" } : Jvm.MethodName) prog_1_method_37_code (3 : Nat) (Option.some Jvm.ClassFile.FieldType.int)) ∈ wG := tz_6 (List.mem_of_getElem? (i := 63) rfl) rfl
theorem kw_1373 : (Jvm.Cond.methodLink "SameStar" (385 : Nat) ({ cls := "SameStar$Pages", name := "keepRow", desc := "(III)V" } : Jvm.MethodName)) ∈ wG := tz_6 (List.mem_of_getElem? (i := 76) rfl) rfl
theorem kw_1374 : (Jvm.Cond.instanceMethod ({ cls := "SameStar$Pages", name := "keepRow", desc := "(III)V" } : Jvm.MethodName)) ∈ wG := tz_6 (List.mem_of_getElem? (i := 77) rfl) rfl
theorem kw_1375 : (Jvm.Cond.selects "SameStar$Pages" ({ cls := "SameStar$Pages", name := "keepRow", desc := "(III)V" } : Jvm.MethodName) ({ cls := "SameStar$Pages", name := "keepRow", desc := "(III)V" } : Jvm.MethodName)) ∈ wG := tz_6 (List.mem_of_getElem? (i := 78) rfl) rfl
theorem kw_1372 : (Jvm.Cond.code ({ cls := "SameStar", name := "row", desc := "(III)I" } : Jvm.MethodName) prog_1_method_38_code (4 : Nat) (Option.some Jvm.ClassFile.FieldType.int)) ∈ wG := tz_6 (List.mem_of_getElem? (i := 75) rfl) rfl
theorem kw_1382 : (Jvm.Cond.methodLink "SameStar" (388 : Nat) ({ cls := "SameStar$Pages", name := "refusalOf", desc := "(II)I" } : Jvm.MethodName)) ∈ wG := tz_6 (List.mem_of_getElem? (i := 85) rfl) rfl
theorem kw_1383 : (Jvm.Cond.methodLink "SameStar" (391 : Nat) ({ cls := "SameStar$Pages", name := "write", desc := "(IIJ)V" } : Jvm.MethodName)) ∈ wG := tz_6 (List.mem_of_getElem? (i := 86) rfl) rfl
theorem kw_1384 : (Jvm.Cond.instanceMethod ({ cls := "SameStar$Pages", name := "write", desc := "(IIJ)V" } : Jvm.MethodName)) ∈ wG := tz_6 (List.mem_of_getElem? (i := 87) rfl) rfl
theorem kw_1385 : (Jvm.Cond.selects "SameStar$Pages" ({ cls := "SameStar$Pages", name := "write", desc := "(IIJ)V" } : Jvm.MethodName) ({ cls := "SameStar$Pages", name := "write", desc := "(IIJ)V" } : Jvm.MethodName)) ∈ wG := tz_6 (List.mem_of_getElem? (i := 88) rfl) rfl
theorem kw_1381 : (Jvm.Cond.code ({ cls := "SameStar", name := "put", desc := "(IIJ)I" } : Jvm.MethodName) prog_1_method_39_code (6 : Nat) (Option.some Jvm.ClassFile.FieldType.int)) ∈ wG := tz_6 (List.mem_of_getElem? (i := 84) rfl) rfl
theorem kw_1394 : (Jvm.Cond.constantLong "SameStar" (397 : Nat) (-9223372036854775808 : Int64)) ∈ wG := tz_6 (List.mem_of_getElem? (i := 97) rfl) rfl
theorem kw_1022 : (Jvm.Cond.methodLink "SameStar" (399 : Nat) ({ cls := "SameStar$Pages", name := "read", desc := "(II)J" } : Jvm.MethodName)) ∈ wG := tz_4 (List.mem_of_getElem? (i := 205) rfl) rfl
theorem kw_1023 : (Jvm.Cond.instanceMethod ({ cls := "SameStar$Pages", name := "read", desc := "(II)J" } : Jvm.MethodName)) ∈ wG := tz_4 (List.mem_of_getElem? (i := 206) rfl) rfl
theorem kw_1024 : (Jvm.Cond.selects "SameStar$Pages" ({ cls := "SameStar$Pages", name := "read", desc := "(II)J" } : Jvm.MethodName) ({ cls := "SameStar$Pages", name := "read", desc := "(II)J" } : Jvm.MethodName)) ∈ wG := tz_4 (List.mem_of_getElem? (i := 207) rfl) rfl
theorem kw_1393 : (Jvm.Cond.code ({ cls := "SameStar", name := "element", desc := "(II)J" } : Jvm.MethodName) prog_1_method_40_code (3 : Nat) (Option.some Jvm.ClassFile.FieldType.long)) ∈ wG := tz_6 (List.mem_of_getElem? (i := 96) rfl) rfl
theorem kw_1399 : (Jvm.Cond.methodLink "SameStar" (403 : Nat) ({ cls := "SameStar$Pages", name := "areRowsOfOneSort", desc := "(II)Z" } : Jvm.MethodName)) ∈ wG := tz_6 (List.mem_of_getElem? (i := 102) rfl) rfl
theorem kw_1400 : (Jvm.Cond.instanceMethod ({ cls := "SameStar$Pages", name := "areRowsOfOneSort", desc := "(II)Z" } : Jvm.MethodName)) ∈ wG := tz_6 (List.mem_of_getElem? (i := 103) rfl) rfl
theorem kw_1401 : (Jvm.Cond.selects "SameStar$Pages" ({ cls := "SameStar$Pages", name := "areRowsOfOneSort", desc := "(II)Z" } : Jvm.MethodName) ({ cls := "SameStar$Pages", name := "areRowsOfOneSort", desc := "(II)Z" } : Jvm.MethodName)) ∈ wG := tz_6 (List.mem_of_getElem? (i := 104) rfl) rfl
theorem kw_1403 : (Jvm.Cond.methodLink "SameStar" (406 : Nat) ({ cls := "SameStar$Pages", name := "hasPlaces", desc := "(III)Z" } : Jvm.MethodName)) ∈ wG := tz_6 (List.mem_of_getElem? (i := 106) rfl) rfl
theorem kw_1404 : (Jvm.Cond.methodLink "SameStar" (409 : Nat) ({ cls := "SameStar$Pages", name := "copy", desc := "(IIIII)V" } : Jvm.MethodName)) ∈ wG := tz_6 (List.mem_of_getElem? (i := 107) rfl) rfl
theorem kw_1405 : (Jvm.Cond.instanceMethod ({ cls := "SameStar$Pages", name := "copy", desc := "(IIIII)V" } : Jvm.MethodName)) ∈ wG := tz_6 (List.mem_of_getElem? (i := 108) rfl) rfl
theorem kw_1406 : (Jvm.Cond.selects "SameStar$Pages" ({ cls := "SameStar$Pages", name := "copy", desc := "(IIIII)V" } : Jvm.MethodName) ({ cls := "SameStar$Pages", name := "copy", desc := "(IIIII)V" } : Jvm.MethodName)) ∈ wG := tz_6 (List.mem_of_getElem? (i := 109) rfl) rfl
theorem kw_1398 : (Jvm.Cond.code ({ cls := "SameStar", name := "shift", desc := "(IIIII)I" } : Jvm.MethodName) prog_1_method_41_code (6 : Nat) (Option.some Jvm.ClassFile.FieldType.int)) ∈ wG := tz_6 (List.mem_of_getElem? (i := 101) rfl) rfl
theorem kw_1413 : (Jvm.Cond.methodLink "SameStar" (412 : Nat) ({ cls := "SameStar$Pages", name := "isRow", desc := "(I)Z" } : Jvm.MethodName)) ∈ wG := tz_6 (List.mem_of_getElem? (i := 116) rfl) rfl
theorem kw_1414 : (Jvm.Cond.methodLink "SameStar" (415 : Nat) ({ cls := "SameStar$Pages", name := "wordOn", desc := "(I)I" } : Jvm.MethodName)) ∈ wG := tz_6 (List.mem_of_getElem? (i := 117) rfl) rfl
theorem kw_1415 : (Jvm.Cond.instanceMethod ({ cls := "SameStar$Pages", name := "wordOn", desc := "(I)I" } : Jvm.MethodName)) ∈ wG := tz_6 (List.mem_of_getElem? (i := 118) rfl) rfl
theorem kw_1416 : (Jvm.Cond.selects "SameStar$Pages" ({ cls := "SameStar$Pages", name := "wordOn", desc := "(I)I" } : Jvm.MethodName) ({ cls := "SameStar$Pages", name := "wordOn", desc := "(I)I" } : Jvm.MethodName)) ∈ wG := tz_6 (List.mem_of_getElem? (i := 119) rfl) rfl
theorem kw_1418 : (Jvm.Cond.methodLink "SameStar" (418 : Nat) ({ cls := "SameStar", name := "isUnder", desc := "(II)Z" } : Jvm.MethodName)) ∈ wG := tz_6 (List.mem_of_getElem? (i := 121) rfl) rfl
theorem kw_1419 : (Jvm.Cond.static ({ cls := "SameStar", name := "isUnder", desc := "(II)Z" } : Jvm.MethodName)) ∈ wG := tz_6 (List.mem_of_getElem? (i := 122) rfl) rfl
theorem kw_1412 : (Jvm.Cond.code ({ cls := "SameStar", name := "taken", desc := "(II)I" } : Jvm.MethodName) prog_1_method_42_code (4 : Nat) (Option.some Jvm.ClassFile.FieldType.int)) ∈ wG := tz_6 (List.mem_of_getElem? (i := 115) rfl) rfl
theorem kw_164 : (Jvm.Cond.fieldLink "SameStar" (421 : Nat) "SameStar$Tape" "size" "I") ∈ wG := tz_1 (List.mem_of_getElem? (i := 67) rfl) rfl
theorem kw_353 : (Jvm.Cond.fieldLink "SameStar" (424 : Nat) "SameStar$Acts" "ran" "I") ∈ wG := tz_2 (List.mem_of_getElem? (i := 16) rfl) rfl
theorem kw_1425 : (Jvm.Cond.code ({ cls := "SameStar", name := "count", desc := "(I)I" } : Jvm.MethodName) prog_1_method_43_code (2 : Nat) (Option.some Jvm.ClassFile.FieldType.int)) ∈ wG := tz_6 (List.mem_of_getElem? (i := 128) rfl) rfl
theorem kw_202 : (Jvm.Cond.fieldLink "SameStar" (427 : Nat) "SameStar$Sight" "seenText" "LSameStar$Text;") ∈ wG := tz_1 (List.mem_of_getElem? (i := 105) rfl) rfl
theorem kw_204 : (Jvm.Cond.fieldLink "SameStar" (431 : Nat) "SameStar$Sight" "tailText" "LSameStar$Text;") ∈ wG := tz_1 (List.mem_of_getElem? (i := 107) rfl) rfl
theorem kw_675 : (Jvm.Cond.methodLink "SameStar" (434 : Nat) ({ cls := "SameStar$Book", name := "reckoningOf", desc := "(I)LSameStar$Text;" } : Jvm.MethodName)) ∈ wG := tz_3 (List.mem_of_getElem? (i := 98) rfl) rfl
theorem kw_674 : (Jvm.Cond.code ({ cls := "SameStar", name := "textOf", desc := "(I)LSameStar$Text;" } : Jvm.MethodName) prog_1_method_44_code (2 : Nat) (Option.some (Jvm.ClassFile.FieldType.object "SameStar$Text"))) ∈ wG := tz_3 (List.mem_of_getElem? (i := 97) rfl) rfl
theorem kw_1021 : (Jvm.Cond.code ({ cls := "SameStar", name := "addWordFromRow", desc := "(III)Z" } : Jvm.MethodName) prog_1_method_45_code (10 : Nat) (Option.some Jvm.ClassFile.FieldType.boolean)) ∈ wG := tz_4 (List.mem_of_getElem? (i := 204) rfl) rfl
theorem kw_1221 : (Jvm.Cond.methodLink "SameStar" (437 : Nat) ({ cls := "SameStar", name := "drawn", desc := "(I)I" } : Jvm.MethodName)) ∈ wG := tz_5 (List.mem_of_getElem? (i := 164) rfl) rfl
theorem kw_1222 : (Jvm.Cond.static ({ cls := "SameStar", name := "drawn", desc := "(I)I" } : Jvm.MethodName)) ∈ wG := tz_5 (List.mem_of_getElem? (i := 165) rfl) rfl
theorem kw_1225 : (Jvm.Cond.methodLink "SameStar" (440 : Nat) ({ cls := "SameStar", name := "drawnNode", desc := "(I)I" } : Jvm.MethodName)) ∈ wG := tz_5 (List.mem_of_getElem? (i := 168) rfl) rfl
theorem kw_1226 : (Jvm.Cond.static ({ cls := "SameStar", name := "drawnNode", desc := "(I)I" } : Jvm.MethodName)) ∈ wG := tz_5 (List.mem_of_getElem? (i := 169) rfl) rfl
theorem kw_1228 : (Jvm.Cond.methodLink "SameStar" (443 : Nat) ({ cls := "SameStar", name := "drawnReach", desc := "(I)I" } : Jvm.MethodName)) ∈ wG := tz_5 (List.mem_of_getElem? (i := 171) rfl) rfl
theorem kw_1229 : (Jvm.Cond.static ({ cls := "SameStar", name := "drawnReach", desc := "(I)I" } : Jvm.MethodName)) ∈ wG := tz_5 (List.mem_of_getElem? (i := 172) rfl) rfl
theorem kw_1220 : (Jvm.Cond.code ({ cls := "SameStar", name := "thousandthsNear", desc := "(III)I" } : Jvm.MethodName) prog_1_method_46_code (9 : Nat) (Option.some Jvm.ClassFile.FieldType.int)) ∈ wG := tz_5 (List.mem_of_getElem? (i := 163) rfl) rfl
theorem kw_1224 : (Jvm.Cond.constant "SameStar" (446 : Nat) (1103515245 : Int32)) ∈ wG := tz_5 (List.mem_of_getElem? (i := 167) rfl) rfl
theorem kw_1223 : (Jvm.Cond.code ({ cls := "SameStar", name := "drawn", desc := "(I)I" } : Jvm.MethodName) prog_1_method_47_code (1 : Nat) (Option.some Jvm.ClassFile.FieldType.int)) ∈ wG := tz_5 (List.mem_of_getElem? (i := 166) rfl) rfl
theorem kw_1227 : (Jvm.Cond.code ({ cls := "SameStar", name := "drawnNode", desc := "(I)I" } : Jvm.MethodName) prog_1_method_48_code (1 : Nat) (Option.some Jvm.ClassFile.FieldType.int)) ∈ wG := tz_5 (List.mem_of_getElem? (i := 170) rfl) rfl
theorem kw_1230 : (Jvm.Cond.code ({ cls := "SameStar", name := "drawnReach", desc := "(I)I" } : Jvm.MethodName) prog_1_method_49_code (1 : Nat) (Option.some Jvm.ClassFile.FieldType.int)) ∈ wG := tz_5 (List.mem_of_getElem? (i := 173) rfl) rfl
theorem kw_1213 : (Jvm.Cond.methodLink "SameStar" (447 : Nat) ({ cls := "SameStar", name := "apart", desc := "(II)I" } : Jvm.MethodName)) ∈ wG := tz_5 (List.mem_of_getElem? (i := 156) rfl) rfl
theorem kw_482 : (Jvm.Cond.methodLink "SameStar" (450 : Nat) ({ cls := "java/lang/Math", name := "abs", desc := "(I)I" } : Jvm.MethodName)) ∈ wG := tz_2 (List.mem_of_getElem? (i := 145) rfl) rfl
theorem kw_1212 : (Jvm.Cond.code ({ cls := "SameStar", name := "isNear", desc := "(III)Z" } : Jvm.MethodName) prog_1_method_50_code (3 : Nat) (Option.some Jvm.ClassFile.FieldType.boolean)) ∈ wG := tz_5 (List.mem_of_getElem? (i := 155) rfl) rfl
theorem kw_414 : (Jvm.Cond.code ({ cls := "SameStar", name := "within", desc := "(III)Z" } : Jvm.MethodName) prog_1_method_51_code (3 : Nat) (Option.some Jvm.ClassFile.FieldType.boolean)) ∈ wG := tz_2 (List.mem_of_getElem? (i := 77) rfl) rfl
theorem kw_455 : (Jvm.Cond.code ({ cls := "SameStar", name := "isDay", desc := "(I)Z" } : Jvm.MethodName) prog_1_method_52_code (1 : Nat) (Option.some Jvm.ClassFile.FieldType.boolean)) ∈ wG := tz_2 (List.mem_of_getElem? (i := 118) rfl) rfl
theorem kw_642 : (Jvm.Cond.code ({ cls := "SameStar", name := "isPeople", desc := "(I)Z" } : Jvm.MethodName) prog_1_method_53_code (1 : Nat) (Option.some Jvm.ClassFile.FieldType.boolean)) ∈ wG := tz_3 (List.mem_of_getElem? (i := 65) rfl) rfl
theorem kw_987 : (Jvm.Cond.code ({ cls := "SameStar", name := "isDatePart", desc := "(I)Z" } : Jvm.MethodName) prog_1_method_54_code (1 : Nat) (Option.some Jvm.ClassFile.FieldType.boolean)) ∈ wG := tz_4 (List.mem_of_getElem? (i := 170) rfl) rfl
theorem kw_440 : (Jvm.Cond.code ({ cls := "SameStar", name := "isReturnNumber", desc := "(I)Z" } : Jvm.MethodName) prog_1_method_55_code (1 : Nat) (Option.some Jvm.ClassFile.FieldType.boolean)) ∈ wG := tz_2 (List.mem_of_getElem? (i := 103) rfl) rfl
theorem kw_588 : (Jvm.Cond.code ({ cls := "SameStar", name := "isFar", desc := "(I)Z" } : Jvm.MethodName) prog_1_method_56_code (1 : Nat) (Option.some Jvm.ClassFile.FieldType.boolean)) ∈ wG := tz_3 (List.mem_of_getElem? (i := 11) rfl) rfl
theorem kw_605 : (Jvm.Cond.code ({ cls := "SameStar", name := "apart", desc := "(II)I" } : Jvm.MethodName) prog_1_method_57_code (3 : Nat) (Option.some Jvm.ClassFile.FieldType.int)) ∈ wG := tz_3 (List.mem_of_getElem? (i := 28) rfl) rfl
theorem kw_1347 : (Jvm.Cond.fieldLink "SameStar" (453 : Nat) "SameStar" "ABOVE" "[I") ∈ wG := tz_6 (List.mem_of_getElem? (i := 50) rfl) rfl
theorem kw_1346 : (Jvm.Cond.code ({ cls := "SameStar", name := "kindAbove", desc := "(I)I" } : Jvm.MethodName) prog_1_method_58_code (1 : Nat) (Option.some Jvm.ClassFile.FieldType.int)) ∈ wG := tz_6 (List.mem_of_getElem? (i := 49) rfl) rfl
theorem kw_1421 : (Jvm.Cond.methodLink "SameStar" (457 : Nat) ({ cls := "SameStar", name := "kindAbove", desc := "(I)I" } : Jvm.MethodName)) ∈ wG := tz_6 (List.mem_of_getElem? (i := 124) rfl) rfl
theorem kw_1420 : (Jvm.Cond.code ({ cls := "SameStar", name := "isUnder", desc := "(II)Z" } : Jvm.MethodName) prog_1_method_59_code (4 : Nat) (Option.some Jvm.ClassFile.FieldType.boolean)) ∈ wG := tz_6 (List.mem_of_getElem? (i := 123) rfl) rfl
theorem kw_481 : (Jvm.Cond.code ({ cls := "SameStar", name := "turned", desc := "(III)I" } : Jvm.MethodName) prog_1_method_60_code (4 : Nat) (Option.some Jvm.ClassFile.FieldType.int)) ∈ wG := tz_2 (List.mem_of_getElem? (i := 144) rfl) rfl
theorem kw_1431 : (Jvm.Cond.methodLink "SameStarModel" (1 : Nat) ({ cls := "java/lang/Object", name := "<init>", desc := "()V" } : Jvm.MethodName)) ∈ wG := tz_6 (List.mem_of_getElem? (i := 134) rfl) rfl
theorem kw_1433 : (Jvm.Cond.fieldLink "SameStarModel" (7 : Nat) "SameStarModel" "round" "[I") ∈ wG := tz_6 (List.mem_of_getElem? (i := 136) rfl) rfl
theorem kw_1434 : (Jvm.Cond.fieldLink "SameStarModel" (13 : Nat) "SameStarModel" "pull" "[I") ∈ wG := tz_6 (List.mem_of_getElem? (i := 137) rfl) rfl
theorem kw_1436 : (Jvm.Cond.fieldLink "SameStarModel" (16 : Nat) "SameStarModel" "passAt" "[I") ∈ wG := tz_6 (List.mem_of_getElem? (i := 139) rfl) rfl
theorem kw_1437 : (Jvm.Cond.fieldLink "SameStarModel" (19 : Nat) "SameStarModel" "span" "[I") ∈ wG := tz_6 (List.mem_of_getElem? (i := 140) rfl) rfl
theorem kw_1438 : (Jvm.Cond.fieldLink "SameStarModel" (22 : Nat) "SameStarModel" "node" "[I") ∈ wG := tz_6 (List.mem_of_getElem? (i := 141) rfl) rfl
theorem kw_1439 : (Jvm.Cond.fieldLink "SameStarModel" (25 : Nat) "SameStarModel" "reach" "[I") ∈ wG := tz_6 (List.mem_of_getElem? (i := 142) rfl) rfl
theorem kw_1440 : (Jvm.Cond.fieldLink "SameStarModel" (28 : Nat) "SameStarModel" "way" "[I") ∈ wG := tz_6 (List.mem_of_getElem? (i := 143) rfl) rfl
theorem kw_1441 : (Jvm.Cond.fieldLink "SameStarModel" (31 : Nat) "SameStarModel" "bright" "[I") ∈ wG := tz_6 (List.mem_of_getElem? (i := 144) rfl) rfl
theorem kw_1442 : (Jvm.Cond.fieldLink "SameStarModel" (34 : Nat) "SameStarModel" "brokeOf" "[I") ∈ wG := tz_6 (List.mem_of_getElem? (i := 145) rfl) rfl
theorem kw_1443 : (Jvm.Cond.fieldLink "SameStarModel" (37 : Nat) "SameStarModel" "brokeOn" "[I") ∈ wG := tz_6 (List.mem_of_getElem? (i := 146) rfl) rfl
theorem kw_1444 : (Jvm.Cond.fieldLink "SameStarModel" (40 : Nat) "SameStarModel" "passes" "[I") ∈ wG := tz_6 (List.mem_of_getElem? (i := 147) rfl) rfl
theorem kw_1445 : (Jvm.Cond.fieldLink "SameStarModel" (43 : Nat) "SameStarModel" "isFound" "[Z") ∈ wG := tz_6 (List.mem_of_getElem? (i := 148) rfl) rfl
theorem kw_863 : (Jvm.Cond.arrayClass Jvm.ClassFile.FieldType.byte) ∈ wG := tz_4 (List.mem_of_getElem? (i := 46) rfl) rfl
theorem kw_1449 : (Jvm.Cond.fieldLink "SameStarModel" (47 : Nat) "SameStarModel" "tape" "[B") ∈ wG := tz_6 (List.mem_of_getElem? (i := 152) rfl) rfl
theorem kw_1455 : (Jvm.Cond.fieldLink "SameStarModel" (51 : Nat) "SameStarModel" "act" "[B") ∈ wG := tz_6 (List.mem_of_getElem? (i := 158) rfl) rfl
theorem kw_1456 : (Jvm.Cond.fieldLink "SameStarModel" (54 : Nat) "SameStarModel" "with" "[I") ∈ wG := tz_6 (List.mem_of_getElem? (i := 159) rfl) rfl
theorem kw_1457 : (Jvm.Cond.fieldLink "SameStarModel" (57 : Nat) "SameStarModel" "lineMany" "[I") ∈ wG := tz_6 (List.mem_of_getElem? (i := 160) rfl) rfl
theorem kw_1639 : (Jvm.Cond.arrayClass Jvm.ClassFile.FieldType.short) ∈ wG := tz_7 (List.mem_of_getElem? (i := 102) rfl) rfl
theorem kw_1458 : (Jvm.Cond.fieldLink "SameStarModel" (60 : Nat) "SameStarModel" "testEnd" "[S") ∈ wG := tz_6 (List.mem_of_getElem? (i := 161) rfl) rfl
theorem kw_1459 : (Jvm.Cond.fieldLink "SameStarModel" (64 : Nat) "SameStarModel" "lineEnd" "[S") ∈ wG := tz_6 (List.mem_of_getElem? (i := 162) rfl) rfl
theorem kw_1460 : (Jvm.Cond.fieldLink "SameStarModel" (67 : Nat) "SameStarModel" "facts" "[I") ∈ wG := tz_6 (List.mem_of_getElem? (i := 163) rfl) rfl
theorem kw_1461 : (Jvm.Cond.fieldLink "SameStarModel" (70 : Nat) "SameStarModel" "pile" "[I") ∈ wG := tz_6 (List.mem_of_getElem? (i := 164) rfl) rfl
theorem kw_1462 : (Jvm.Cond.fieldLink "SameStarModel" (73 : Nat) "SameStarModel" "reignFrom" "[I") ∈ wG := tz_6 (List.mem_of_getElem? (i := 165) rfl) rfl
theorem kw_1463 : (Jvm.Cond.fieldLink "SameStarModel" (76 : Nat) "SameStarModel" "reignDays" "[I") ∈ wG := tz_6 (List.mem_of_getElem? (i := 166) rfl) rfl
theorem kw_1464 : (Jvm.Cond.fieldLink "SameStarModel" (79 : Nat) "SameStarModel" "reignOther" "[I") ∈ wG := tz_6 (List.mem_of_getElem? (i := 167) rfl) rfl
theorem kw_1466 : (Jvm.Cond.fieldLink "SameStarModel" (82 : Nat) "SameStarModel" "watchBy" "[I") ∈ wG := tz_6 (List.mem_of_getElem? (i := 169) rfl) rfl
theorem kw_1467 : (Jvm.Cond.fieldLink "SameStarModel" (85 : Nat) "SameStarModel" "watchFrom" "[I") ∈ wG := tz_6 (List.mem_of_getElem? (i := 170) rfl) rfl
theorem kw_1468 : (Jvm.Cond.fieldLink "SameStarModel" (88 : Nat) "SameStarModel" "watchTo" "[I") ∈ wG := tz_6 (List.mem_of_getElem? (i := 171) rfl) rfl
theorem kw_1470 : (Jvm.Cond.fieldLink "SameStarModel" (91 : Nat) "SameStarModel" "kind" "[I") ∈ wG := tz_6 (List.mem_of_getElem? (i := 173) rfl) rfl
theorem kw_1471 : (Jvm.Cond.fieldLink "SameStarModel" (94 : Nat) "SameStarModel" "peopleOf" "[I") ∈ wG := tz_6 (List.mem_of_getElem? (i := 174) rfl) rfl
theorem kw_1472 : (Jvm.Cond.fieldLink "SameStarModel" (97 : Nat) "SameStarModel" "yearOf" "[I") ∈ wG := tz_6 (List.mem_of_getElem? (i := 175) rfl) rfl
theorem kw_1473 : (Jvm.Cond.fieldLink "SameStarModel" (100 : Nat) "SameStarModel" "monthOf" "[I") ∈ wG := tz_6 (List.mem_of_getElem? (i := 176) rfl) rfl
theorem kw_1474 : (Jvm.Cond.fieldLink "SameStarModel" (103 : Nat) "SameStarModel" "dayOf" "[I") ∈ wG := tz_6 (List.mem_of_getElem? (i := 177) rfl) rfl
theorem kw_1475 : (Jvm.Cond.fieldLink "SameStarModel" (106 : Nat) "SameStarModel" "reignOf" "[I") ∈ wG := tz_6 (List.mem_of_getElem? (i := 178) rfl) rfl
theorem kw_1476 : (Jvm.Cond.fieldLink "SameStarModel" (109 : Nat) "SameStarModel" "slackOf" "[I") ∈ wG := tz_6 (List.mem_of_getElem? (i := 179) rfl) rfl
theorem kw_1477 : (Jvm.Cond.fieldLink "SameStarModel" (112 : Nat) "SameStarModel" "moreOf" "[I") ∈ wG := tz_6 (List.mem_of_getElem? (i := 180) rfl) rfl
theorem kw_1485 : (Jvm.Cond.fieldLink "SameStarModel" (115 : Nat) "SameStarModel" "isRoot" "[Z") ∈ wG := tz_6 (List.mem_of_getElem? (i := 188) rfl) rfl
theorem kw_1486 : (Jvm.Cond.fieldLink "SameStarModel" (118 : Nat) "SameStarModel" "fitsBits" "[I") ∈ wG := tz_6 (List.mem_of_getElem? (i := 189) rfl) rfl
theorem kw_1487 : (Jvm.Cond.fieldLink "SameStarModel" (121 : Nat) "SameStarModel" "missed" "[I") ∈ wG := tz_6 (List.mem_of_getElem? (i := 190) rfl) rfl
theorem kw_1489 : (Jvm.Cond.fieldLink "SameStarModel" (124 : Nat) "SameStarModel" "eveningOn" "[I") ∈ wG := tz_6 (List.mem_of_getElem? (i := 192) rfl) rfl
theorem kw_1490 : (Jvm.Cond.fieldLink "SameStarModel" (127 : Nat) "SameStarModel" "eveningAt" "[I") ∈ wG := tz_6 (List.mem_of_getElem? (i := 193) rfl) rfl
theorem kw_1495 : (Jvm.Cond.fieldLink "SameStarModel" (130 : Nat) "SameStarModel" "traced" "[I") ∈ wG := tz_6 (List.mem_of_getElem? (i := 198) rfl) rfl
theorem kw_1496 : (Jvm.Cond.fieldLink "SameStarModel" (133 : Nat) "SameStarModel" "holds" "[I") ∈ wG := tz_6 (List.mem_of_getElem? (i := 199) rfl) rfl
theorem kw_1497 : (Jvm.Cond.fieldLink "SameStarModel" (136 : Nat) "SameStarModel" "size" "[I") ∈ wG := tz_6 (List.mem_of_getElem? (i := 200) rfl) rfl
theorem kw_1498 : (Jvm.Cond.fieldLink "SameStarModel" (139 : Nat) "SameStarModel" "elements" "[J") ∈ wG := tz_6 (List.mem_of_getElem? (i := 201) rfl) rfl
theorem kw_1499 : (Jvm.Cond.fieldLink "SameStarModel" (143 : Nat) "SameStarModel" "shifted" "[J") ∈ wG := tz_6 (List.mem_of_getElem? (i := 202) rfl) rfl
theorem kw_1430 : (Jvm.Cond.code ({ cls := "SameStarModel", name := "<init>", desc := "()V" } : Jvm.MethodName) prog_14_method_1_code (1 : Nat) (Option.none : Option Jvm.ClassFile.FieldType)) ∈ wG := tz_6 (List.mem_of_getElem? (i := 133) rfl) rfl
theorem kw_109 : (Jvm.Cond.initialized "SameStarModel") ∈ wG := tz_1 (List.mem_of_getElem? (i := 12) rfl) rfl
theorem kw_1646 : (Jvm.Cond.code ({ cls := "SameStarModel", name := "in", desc := "(III)Z" } : Jvm.MethodName) prog_14_method_3_code (3 : Nat) (Option.some Jvm.ClassFile.FieldType.boolean)) ∈ wG := tz_7 (List.mem_of_getElem? (i := 109) rfl) rfl
theorem kw_1708 : (Jvm.Cond.code ({ cls := "SameStarModel", name := "sizeOf", desc := "(I)I" } : Jvm.MethodName) prog_14_method_4_code (1 : Nat) (Option.some Jvm.ClassFile.FieldType.int)) ∈ wG := tz_7 (List.mem_of_getElem? (i := 171) rfl) rfl
theorem kw_1706 : (Jvm.Cond.methodLink "SameStarModel" (150 : Nat) ({ cls := "SameStarModel", name := "sizeOf", desc := "(I)I" } : Jvm.MethodName)) ∈ wG := tz_7 (List.mem_of_getElem? (i := 169) rfl) rfl
theorem kw_1707 : (Jvm.Cond.static ({ cls := "SameStarModel", name := "sizeOf", desc := "(I)I" } : Jvm.MethodName)) ∈ wG := tz_7 (List.mem_of_getElem? (i := 170) rfl) rfl
theorem kw_1726 : (Jvm.Cond.code ({ cls := "SameStarModel", name := "apartOf", desc := "(II)I" } : Jvm.MethodName) prog_14_method_5_code (3 : Nat) (Option.some Jvm.ClassFile.FieldType.int)) ∈ wG := tz_7 (List.mem_of_getElem? (i := 189) rfl) rfl
theorem kw_1435 : (Jvm.Cond.fieldLink "SameStarModel" (154 : Nat) "SameStarModel" "comets" "I") ∈ wG := tz_6 (List.mem_of_getElem? (i := 138) rfl) rfl
theorem kw_1644 : (Jvm.Cond.methodLink "SameStarModel" (157 : Nat) ({ cls := "SameStarModel", name := "in", desc := "(III)Z" } : Jvm.MethodName)) ∈ wG := tz_7 (List.mem_of_getElem? (i := 107) rfl) rfl
theorem kw_1645 : (Jvm.Cond.static ({ cls := "SameStarModel", name := "in", desc := "(III)Z" } : Jvm.MethodName)) ∈ wG := tz_7 (List.mem_of_getElem? (i := 108) rfl) rfl
theorem kw_1670 : (Jvm.Cond.code ({ cls := "SameStarModel", name := "isComet", desc := "(I)Z" } : Jvm.MethodName) prog_14_method_6_code (2 : Nat) (Option.some Jvm.ClassFile.FieldType.boolean)) ∈ wG := tz_7 (List.mem_of_getElem? (i := 133) rfl) rfl
theorem kw_1677 : (Jvm.Cond.code ({ cls := "SameStarModel", name := "isReturn", desc := "(I)Z" } : Jvm.MethodName) prog_14_method_7_code (1 : Nat) (Option.some Jvm.ClassFile.FieldType.boolean)) ∈ wG := tz_7 (List.mem_of_getElem? (i := 140) rfl) rfl
theorem kw_1655 : (Jvm.Cond.constant "SameStarModel" (161 : Nat) (999999 : Int32)) ∈ wG := tz_7 (List.mem_of_getElem? (i := 118) rfl) rfl
theorem kw_1654 : (Jvm.Cond.code ({ cls := "SameStarModel", name := "isDay", desc := "(I)Z" } : Jvm.MethodName) prog_14_method_8_code (1 : Nat) (Option.some Jvm.ClassFile.FieldType.boolean)) ∈ wG := tz_7 (List.mem_of_getElem? (i := 117) rfl) rfl
theorem kw_1752 : (Jvm.Cond.code ({ cls := "SameStarModel", name := "isPeople", desc := "(I)Z" } : Jvm.MethodName) prog_14_method_9_code (1 : Nat) (Option.some Jvm.ClassFile.FieldType.boolean)) ∈ wG := tz_7 (List.mem_of_getElem? (i := 215) rfl) rfl
theorem kw_1432 : (Jvm.Cond.fieldLink "SameStarModel" (162 : Nat) "SameStarModel" "greats" "I") ∈ wG := tz_6 (List.mem_of_getElem? (i := 135) rfl) rfl
theorem kw_1643 : (Jvm.Cond.code ({ cls := "SameStarModel", name := "great", desc := "(II)I" } : Jvm.MethodName) prog_14_method_10_code (4 : Nat) (Option.some Jvm.ClassFile.FieldType.int)) ∈ wG := tz_7 (List.mem_of_getElem? (i := 106) rfl) rfl
theorem kw_1662 : (Jvm.Cond.constant "SameStarModel" (165 : Nat) (-2000000000 : Int32)) ∈ wG := tz_7 (List.mem_of_getElem? (i := 125) rfl) rfl
theorem kw_1661 : (Jvm.Cond.code ({ cls := "SameStarModel", name := "newComet", desc := "(IIIIIII)I" } : Jvm.MethodName) prog_14_method_11_code (8 : Nat) (Option.some Jvm.ClassFile.FieldType.int)) ∈ wG := tz_7 (List.mem_of_getElem? (i := 124) rfl) rfl
theorem kw_1651 : (Jvm.Cond.constant "SameStarModel" (166 : Nat) (100000 : Int32)) ∈ wG := tz_7 (List.mem_of_getElem? (i := 114) rfl) rfl
theorem kw_1652 : (Jvm.Cond.methodLink "SameStarModel" (167 : Nat) ({ cls := "SameStarModel", name := "isDay", desc := "(I)Z" } : Jvm.MethodName)) ∈ wG := tz_7 (List.mem_of_getElem? (i := 115) rfl) rfl
theorem kw_1653 : (Jvm.Cond.static ({ cls := "SameStarModel", name := "isDay", desc := "(I)Z" } : Jvm.MethodName)) ∈ wG := tz_7 (List.mem_of_getElem? (i := 116) rfl) rfl
theorem kw_1656 : (Jvm.Cond.constant "SameStarModel" (171 : Nat) (40000 : Int32)) ∈ wG := tz_7 (List.mem_of_getElem? (i := 119) rfl) rfl
theorem kw_1657 : (Jvm.Cond.constant "SameStarModel" (172 : Nat) (199999 : Int32)) ∈ wG := tz_7 (List.mem_of_getElem? (i := 120) rfl) rfl
theorem kw_1658 : (Jvm.Cond.methodLink "SameStarModel" (173 : Nat) ({ cls := "SameStarModel", name := "newComet", desc := "(IIIIIII)I" } : Jvm.MethodName)) ∈ wG := tz_7 (List.mem_of_getElem? (i := 121) rfl) rfl
theorem kw_1660 : (Jvm.Cond.instanceMethod ({ cls := "SameStarModel", name := "newComet", desc := "(IIIIIII)I" } : Jvm.MethodName)) ∈ wG := tz_7 (List.mem_of_getElem? (i := 123) rfl) rfl
theorem kw_35 : (Cond.selects "SameStarModel" ⟨"SameStarModel", "newComet", "(IIIIIII)I"⟩ ⟨"SameStarModel", "newComet", "(IIIIIII)I"⟩) ∈ wG := wG_of 35 (by decide +kernel) rfl
theorem kw_1650 : (Jvm.Cond.code ({ cls := "SameStarModel", name := "comet", desc := "(IIII)I" } : Jvm.MethodName) prog_14_method_12_code (6 : Nat) (Option.some Jvm.ClassFile.FieldType.int)) ∈ wG := tz_7 (List.mem_of_getElem? (i := 113) rfl) rfl
theorem kw_1667 : (Jvm.Cond.methodLink "SameStarModel" (177 : Nat) ({ cls := "SameStarModel", name := "isComet", desc := "(I)Z" } : Jvm.MethodName)) ∈ wG := tz_7 (List.mem_of_getElem? (i := 130) rfl) rfl
theorem kw_1669 : (Jvm.Cond.instanceMethod ({ cls := "SameStarModel", name := "isComet", desc := "(I)Z" } : Jvm.MethodName)) ∈ wG := tz_7 (List.mem_of_getElem? (i := 132) rfl) rfl
theorem kw_36 : (Cond.selects "SameStarModel" ⟨"SameStarModel", "isComet", "(I)Z"⟩ ⟨"SameStarModel", "isComet", "(I)Z"⟩) ∈ wG := wG_of 36 (by decide +kernel) rfl
theorem kw_1666 : (Jvm.Cond.code ({ cls := "SameStarModel", name := "ofComet", desc := "(II)I" } : Jvm.MethodName) prog_14_method_13_code (3 : Nat) (Option.some Jvm.ClassFile.FieldType.int)) ∈ wG := tz_7 (List.mem_of_getElem? (i := 129) rfl) rfl
theorem kw_1701 : (Jvm.Cond.code ({ cls := "SameStarModel", name := "pullsInAll", desc := "()I" } : Jvm.MethodName) prog_14_method_14_code (3 : Nat) (Option.some Jvm.ClassFile.FieldType.int)) ∈ wG := tz_7 (List.mem_of_getElem? (i := 164) rfl) rfl
theorem kw_1693 : (Jvm.Cond.code ({ cls := "SameStarModel", name := "passBehind", desc := "(III)I" } : Jvm.MethodName) prog_14_method_15_code (6 : Nat) (Option.some Jvm.ClassFile.FieldType.int)) ∈ wG := tz_7 (List.mem_of_getElem? (i := 156) rfl) rfl
theorem kw_1689 : (Jvm.Cond.code ({ cls := "SameStarModel", name := "allGreats", desc := "()I" } : Jvm.MethodName) prog_14_method_16_code (1 : Nat) (Option.some Jvm.ClassFile.FieldType.int)) ∈ wG := tz_7 (List.mem_of_getElem? (i := 152) rfl) rfl
theorem kw_1698 : (Jvm.Cond.methodLink "SameStarModel" (180 : Nat) ({ cls := "SameStarModel", name := "pullsInAll", desc := "()I" } : Jvm.MethodName)) ∈ wG := tz_7 (List.mem_of_getElem? (i := 161) rfl) rfl
theorem kw_1700 : (Jvm.Cond.instanceMethod ({ cls := "SameStarModel", name := "pullsInAll", desc := "()I" } : Jvm.MethodName)) ∈ wG := tz_7 (List.mem_of_getElem? (i := 163) rfl) rfl
theorem kw_42 : (Cond.selects "SameStarModel" ⟨"SameStarModel", "pullsInAll", "()I"⟩ ⟨"SameStarModel", "pullsInAll", "()I"⟩) ∈ wG := wG_of 42 (by decide +kernel) rfl
theorem kw_1686 : (Jvm.Cond.methodLink "SameStarModel" (184 : Nat) ({ cls := "SameStarModel", name := "allGreats", desc := "()I" } : Jvm.MethodName)) ∈ wG := tz_7 (List.mem_of_getElem? (i := 149) rfl) rfl
theorem kw_1688 : (Jvm.Cond.instanceMethod ({ cls := "SameStarModel", name := "allGreats", desc := "()I" } : Jvm.MethodName)) ∈ wG := tz_7 (List.mem_of_getElem? (i := 151) rfl) rfl
theorem kw_39 : (Cond.selects "SameStarModel" ⟨"SameStarModel", "allGreats", "()I"⟩ ⟨"SameStarModel", "allGreats", "()I"⟩) ∈ wG := wG_of 39 (by decide +kernel) rfl
theorem kw_1690 : (Jvm.Cond.methodLink "SameStarModel" (187 : Nat) ({ cls := "SameStarModel", name := "passBehind", desc := "(III)I" } : Jvm.MethodName)) ∈ wG := tz_7 (List.mem_of_getElem? (i := 153) rfl) rfl
theorem kw_1692 : (Jvm.Cond.instanceMethod ({ cls := "SameStarModel", name := "passBehind", desc := "(III)I" } : Jvm.MethodName)) ∈ wG := tz_7 (List.mem_of_getElem? (i := 155) rfl) rfl
theorem kw_40 : (Cond.selects "SameStarModel" ⟨"SameStarModel", "passBehind", "(III)I"⟩ ⟨"SameStarModel", "passBehind", "(III)I"⟩) ∈ wG := wG_of 40 (by decide +kernel) rfl
theorem kw_1697 : (Jvm.Cond.code ({ cls := "SameStarModel", name := "passAhead", desc := "(II)I" } : Jvm.MethodName) prog_14_method_17_code (6 : Nat) (Option.some Jvm.ClassFile.FieldType.int)) ∈ wG := tz_7 (List.mem_of_getElem? (i := 160) rfl) rfl
theorem kw_1694 : (Jvm.Cond.methodLink "SameStarModel" (191 : Nat) ({ cls := "SameStarModel", name := "passAhead", desc := "(II)I" } : Jvm.MethodName)) ∈ wG := tz_7 (List.mem_of_getElem? (i := 157) rfl) rfl
theorem kw_1696 : (Jvm.Cond.instanceMethod ({ cls := "SameStarModel", name := "passAhead", desc := "(II)I" } : Jvm.MethodName)) ∈ wG := tz_7 (List.mem_of_getElem? (i := 159) rfl) rfl
theorem kw_41 : (Cond.selects "SameStarModel" ⟨"SameStarModel", "passAhead", "(II)I"⟩ ⟨"SameStarModel", "passAhead", "(II)I"⟩) ∈ wG := wG_of 41 (by decide +kernel) rfl
theorem kw_1685 : (Jvm.Cond.code ({ cls := "SameStarModel", name := "findPasses", desc := "(I)V" } : Jvm.MethodName) prog_14_method_18_code (5 : Nat) (Option.none : Option Jvm.ClassFile.FieldType)) ∈ wG := tz_7 (List.mem_of_getElem? (i := 148) rfl) rfl
theorem kw_1682 : (Jvm.Cond.methodLink "SameStarModel" (195 : Nat) ({ cls := "SameStarModel", name := "findPasses", desc := "(I)V" } : Jvm.MethodName)) ∈ wG := tz_7 (List.mem_of_getElem? (i := 145) rfl) rfl
theorem kw_1684 : (Jvm.Cond.instanceMethod ({ cls := "SameStarModel", name := "findPasses", desc := "(I)V" } : Jvm.MethodName)) ∈ wG := tz_7 (List.mem_of_getElem? (i := 147) rfl) rfl
theorem kw_38 : (Cond.selects "SameStarModel" ⟨"SameStarModel", "findPasses", "(I)V"⟩ ⟨"SameStarModel", "findPasses", "(I)V"⟩) ∈ wG := wG_of 38 (by decide +kernel) rfl
theorem kw_1681 : (Jvm.Cond.code ({ cls := "SameStarModel", name := "passOf", desc := "(II)I" } : Jvm.MethodName) prog_14_method_19_code (3 : Nat) (Option.some Jvm.ClassFile.FieldType.int)) ∈ wG := tz_7 (List.mem_of_getElem? (i := 144) rfl) rfl
theorem kw_1705 : (Jvm.Cond.code ({ cls := "SameStarModel", name := "wideOf", desc := "(I)I" } : Jvm.MethodName) prog_14_method_20_code (2 : Nat) (Option.some Jvm.ClassFile.FieldType.int)) ∈ wG := tz_7 (List.mem_of_getElem? (i := 168) rfl) rfl
theorem kw_1675 : (Jvm.Cond.methodLink "SameStarModel" (199 : Nat) ({ cls := "SameStarModel", name := "isReturn", desc := "(I)Z" } : Jvm.MethodName)) ∈ wG := tz_7 (List.mem_of_getElem? (i := 138) rfl) rfl
theorem kw_1676 : (Jvm.Cond.static ({ cls := "SameStarModel", name := "isReturn", desc := "(I)Z" } : Jvm.MethodName)) ∈ wG := tz_7 (List.mem_of_getElem? (i := 139) rfl) rfl
theorem kw_1678 : (Jvm.Cond.methodLink "SameStarModel" (202 : Nat) ({ cls := "SameStarModel", name := "passOf", desc := "(II)I" } : Jvm.MethodName)) ∈ wG := tz_7 (List.mem_of_getElem? (i := 141) rfl) rfl
theorem kw_1680 : (Jvm.Cond.instanceMethod ({ cls := "SameStarModel", name := "passOf", desc := "(II)I" } : Jvm.MethodName)) ∈ wG := tz_7 (List.mem_of_getElem? (i := 143) rfl) rfl
theorem kw_37 : (Cond.selects "SameStarModel" ⟨"SameStarModel", "passOf", "(II)I"⟩ ⟨"SameStarModel", "passOf", "(II)I"⟩) ∈ wG := wG_of 37 (by decide +kernel) rfl
theorem kw_1702 : (Jvm.Cond.methodLink "SameStarModel" (205 : Nat) ({ cls := "SameStarModel", name := "wideOf", desc := "(I)I" } : Jvm.MethodName)) ∈ wG := tz_7 (List.mem_of_getElem? (i := 165) rfl) rfl
theorem kw_1704 : (Jvm.Cond.instanceMethod ({ cls := "SameStarModel", name := "wideOf", desc := "(I)I" } : Jvm.MethodName)) ∈ wG := tz_7 (List.mem_of_getElem? (i := 167) rfl) rfl
theorem kw_43 : (Cond.selects "SameStarModel" ⟨"SameStarModel", "wideOf", "(I)I"⟩ ⟨"SameStarModel", "wideOf", "(I)I"⟩) ∈ wG := wG_of 43 (by decide +kernel) rfl
theorem kw_1674 : (Jvm.Cond.code ({ cls := "SameStarModel", name := "pass", desc := "(III)I" } : Jvm.MethodName) prog_14_method_21_code (5 : Nat) (Option.some Jvm.ClassFile.FieldType.int)) ∈ wG := tz_7 (List.mem_of_getElem? (i := 137) rfl) rfl
theorem kw_1719 : (Jvm.Cond.code ({ cls := "SameStarModel", name := "turned", desc := "(III)I" } : Jvm.MethodName) prog_14_method_22_code (3 : Nat) (Option.some Jvm.ClassFile.FieldType.int)) ∈ wG := tz_7 (List.mem_of_getElem? (i := 182) rfl) rfl
theorem kw_1448 : (Jvm.Cond.fieldLink "SameStarModel" (208 : Nat) "SameStarModel" "eIs" "I") ∈ wG := tz_6 (List.mem_of_getElem? (i := 151) rfl) rfl
theorem kw_1717 : (Jvm.Cond.methodLink "SameStarModel" (211 : Nat) ({ cls := "SameStarModel", name := "turned", desc := "(III)I" } : Jvm.MethodName)) ∈ wG := tz_7 (List.mem_of_getElem? (i := 180) rfl) rfl
theorem kw_1718 : (Jvm.Cond.static ({ cls := "SameStarModel", name := "turned", desc := "(III)I" } : Jvm.MethodName)) ∈ wG := tz_7 (List.mem_of_getElem? (i := 181) rfl) rfl
theorem kw_1446 : (Jvm.Cond.fieldLink "SameStarModel" (214 : Nat) "SameStarModel" "degreeIs" "I") ∈ wG := tz_6 (List.mem_of_getElem? (i := 149) rfl) rfl
theorem kw_1447 : (Jvm.Cond.fieldLink "SameStarModel" (217 : Nat) "SameStarModel" "distanceIs" "I") ∈ wG := tz_6 (List.mem_of_getElem? (i := 150) rfl) rfl
theorem kw_1716 : (Jvm.Cond.code ({ cls := "SameStarModel", name := "standsOn", desc := "(III)Z" } : Jvm.MethodName) prog_14_method_23_code (4 : Nat) (Option.some Jvm.ClassFile.FieldType.boolean)) ∈ wG := tz_7 (List.mem_of_getElem? (i := 179) rfl) rfl
theorem kw_1724 : (Jvm.Cond.methodLink "SameStarModel" (220 : Nat) ({ cls := "SameStarModel", name := "apartOf", desc := "(II)I" } : Jvm.MethodName)) ∈ wG := tz_7 (List.mem_of_getElem? (i := 187) rfl) rfl
theorem kw_1725 : (Jvm.Cond.static ({ cls := "SameStarModel", name := "apartOf", desc := "(II)I" } : Jvm.MethodName)) ∈ wG := tz_7 (List.mem_of_getElem? (i := 188) rfl) rfl
theorem kw_1723 : (Jvm.Cond.code ({ cls := "SameStarModel", name := "sunApart", desc := "(I)I" } : Jvm.MethodName) prog_14_method_24_code (2 : Nat) (Option.some Jvm.ClassFile.FieldType.int)) ∈ wG := tz_7 (List.mem_of_getElem? (i := 186) rfl) rfl
theorem kw_1720 : (Jvm.Cond.methodLink "SameStarModel" (223 : Nat) ({ cls := "SameStarModel", name := "sunApart", desc := "(I)I" } : Jvm.MethodName)) ∈ wG := tz_7 (List.mem_of_getElem? (i := 183) rfl) rfl
theorem kw_1722 : (Jvm.Cond.instanceMethod ({ cls := "SameStarModel", name := "sunApart", desc := "(I)I" } : Jvm.MethodName)) ∈ wG := tz_7 (List.mem_of_getElem? (i := 185) rfl) rfl
theorem kw_45 : (Cond.selects "SameStarModel" ⟨"SameStarModel", "sunApart", "(I)I"⟩ ⟨"SameStarModel", "sunApart", "(I)I"⟩) ∈ wG := wG_of 45 (by decide +kernel) rfl
theorem kw_1734 : (Jvm.Cond.code ({ cls := "SameStarModel", name := "findFacts", desc := "(III)V" } : Jvm.MethodName) prog_14_method_25_code (5 : Nat) (Option.none : Option Jvm.ClassFile.FieldType)) ∈ wG := tz_7 (List.mem_of_getElem? (i := 197) rfl) rfl
theorem kw_1731 : (Jvm.Cond.methodLink "SameStarModel" (226 : Nat) ({ cls := "SameStarModel", name := "findFacts", desc := "(III)V" } : Jvm.MethodName)) ∈ wG := tz_7 (List.mem_of_getElem? (i := 194) rfl) rfl
theorem kw_1733 : (Jvm.Cond.instanceMethod ({ cls := "SameStarModel", name := "findFacts", desc := "(III)V" } : Jvm.MethodName)) ∈ wG := tz_7 (List.mem_of_getElem? (i := 196) rfl) rfl
theorem kw_47 : (Cond.selects "SameStarModel" ⟨"SameStarModel", "findFacts", "(III)V"⟩ ⟨"SameStarModel", "findFacts", "(III)V"⟩) ∈ wG := wG_of 47 (by decide +kernel) rfl
theorem kw_1735 : (Jvm.Cond.methodLink "SameStarModel" (230 : Nat) ({ cls := "SameStarModel", name := "gives", desc := "(I)I" } : Jvm.MethodName)) ∈ wG := tz_7 (List.mem_of_getElem? (i := 198) rfl) rfl
theorem kw_1737 : (Jvm.Cond.instanceMethod ({ cls := "SameStarModel", name := "gives", desc := "(I)I" } : Jvm.MethodName)) ∈ wG := tz_7 (List.mem_of_getElem? (i := 200) rfl) rfl
theorem kw_48 : (Cond.selects "SameStarModel" ⟨"SameStarModel", "gives", "(I)I"⟩ ⟨"SameStarModel", "gives", "(I)I"⟩) ∈ wG := wG_of 48 (by decide +kernel) rfl
theorem kw_1730 : (Jvm.Cond.code ({ cls := "SameStarModel", name := "tailNow", desc := "(III)I" } : Jvm.MethodName) prog_14_method_26_code (5 : Nat) (Option.some Jvm.ClassFile.FieldType.int)) ∈ wG := tz_7 (List.mem_of_getElem? (i := 193) rfl) rfl
theorem kw_1713 : (Jvm.Cond.methodLink "SameStarModel" (233 : Nat) ({ cls := "SameStarModel", name := "standsOn", desc := "(III)Z" } : Jvm.MethodName)) ∈ wG := tz_7 (List.mem_of_getElem? (i := 176) rfl) rfl
theorem kw_1715 : (Jvm.Cond.instanceMethod ({ cls := "SameStarModel", name := "standsOn", desc := "(III)Z" } : Jvm.MethodName)) ∈ wG := tz_7 (List.mem_of_getElem? (i := 178) rfl) rfl
theorem kw_44 : (Cond.selects "SameStarModel" ⟨"SameStarModel", "standsOn", "(III)Z"⟩ ⟨"SameStarModel", "standsOn", "(III)Z"⟩) ∈ wG := wG_of 44 (by decide +kernel) rfl
theorem kw_1760 : (Jvm.Cond.code ({ cls := "SameStarModel", name := "canSee", desc := "(IIII)Z" } : Jvm.MethodName) prog_14_method_27_code (5 : Nat) (Option.some Jvm.ClassFile.FieldType.boolean)) ∈ wG := tz_7 (List.mem_of_getElem? (i := 223) rfl) rfl
theorem kw_1727 : (Jvm.Cond.methodLink "SameStarModel" (236 : Nat) ({ cls := "SameStarModel", name := "tailNow", desc := "(III)I" } : Jvm.MethodName)) ∈ wG := tz_7 (List.mem_of_getElem? (i := 190) rfl) rfl
theorem kw_1729 : (Jvm.Cond.instanceMethod ({ cls := "SameStarModel", name := "tailNow", desc := "(III)I" } : Jvm.MethodName)) ∈ wG := tz_7 (List.mem_of_getElem? (i := 192) rfl) rfl
theorem kw_46 : (Cond.selects "SameStarModel" ⟨"SameStarModel", "tailNow", "(III)I"⟩ ⟨"SameStarModel", "tailNow", "(III)I"⟩) ∈ wG := wG_of 46 (by decide +kernel) rfl
theorem kw_1712 : (Jvm.Cond.code ({ cls := "SameStarModel", name := "stands", desc := "(IIII)I" } : Jvm.MethodName) prog_14_method_28_code (6 : Nat) (Option.some Jvm.ClassFile.FieldType.int)) ∈ wG := tz_7 (List.mem_of_getElem? (i := 175) rfl) rfl
theorem kw_1757 : (Jvm.Cond.methodLink "SameStarModel" (239 : Nat) ({ cls := "SameStarModel", name := "canSee", desc := "(IIII)Z" } : Jvm.MethodName)) ∈ wG := tz_7 (List.mem_of_getElem? (i := 220) rfl) rfl
theorem kw_1759 : (Jvm.Cond.instanceMethod ({ cls := "SameStarModel", name := "canSee", desc := "(IIII)Z" } : Jvm.MethodName)) ∈ wG := tz_7 (List.mem_of_getElem? (i := 222) rfl) rfl
theorem kw_51 : (Cond.selects "SameStarModel" ⟨"SameStarModel", "canSee", "(IIII)Z"⟩ ⟨"SameStarModel", "canSee", "(IIII)Z"⟩) ∈ wG := wG_of 51 (by decide +kernel) rfl
theorem kw_1756 : (Jvm.Cond.code ({ cls := "SameStarModel", name := "seenBy", desc := "(III)I" } : Jvm.MethodName) prog_14_method_29_code (6 : Nat) (Option.some Jvm.ClassFile.FieldType.int)) ∈ wG := tz_7 (List.mem_of_getElem? (i := 219) rfl) rfl
theorem kw_1750 : (Jvm.Cond.methodLink "SameStarModel" (243 : Nat) ({ cls := "SameStarModel", name := "isPeople", desc := "(I)Z" } : Jvm.MethodName)) ∈ wG := tz_7 (List.mem_of_getElem? (i := 213) rfl) rfl
theorem kw_1751 : (Jvm.Cond.static ({ cls := "SameStarModel", name := "isPeople", desc := "(I)Z" } : Jvm.MethodName)) ∈ wG := tz_7 (List.mem_of_getElem? (i := 214) rfl) rfl
theorem kw_1753 : (Jvm.Cond.methodLink "SameStarModel" (246 : Nat) ({ cls := "SameStarModel", name := "seenBy", desc := "(III)I" } : Jvm.MethodName)) ∈ wG := tz_7 (List.mem_of_getElem? (i := 216) rfl) rfl
theorem kw_1755 : (Jvm.Cond.instanceMethod ({ cls := "SameStarModel", name := "seenBy", desc := "(III)I" } : Jvm.MethodName)) ∈ wG := tz_7 (List.mem_of_getElem? (i := 218) rfl) rfl
theorem kw_50 : (Cond.selects "SameStarModel" ⟨"SameStarModel", "seenBy", "(III)I"⟩ ⟨"SameStarModel", "seenBy", "(III)I"⟩) ∈ wG := wG_of 50 (by decide +kernel) rfl
theorem kw_1749 : (Jvm.Cond.code ({ cls := "SameStarModel", name := "seen", desc := "(III)I" } : Jvm.MethodName) prog_14_method_30_code (5 : Nat) (Option.some Jvm.ClassFile.FieldType.int)) ∈ wG := tz_7 (List.mem_of_getElem? (i := 212) rfl) rfl
theorem kw_1450 : (Jvm.Cond.fieldLink "SameStarModel" (249 : Nat) "SameStarModel" "taped" "I") ∈ wG := tz_6 (List.mem_of_getElem? (i := 153) rfl) rfl
theorem kw_1764 : (Jvm.Cond.code ({ cls := "SameStarModel", name := "feed", desc := "(II)I" } : Jvm.MethodName) prog_14_method_31_code (4 : Nat) (Option.some Jvm.ClassFile.FieldType.int)) ∈ wG := tz_7 (List.mem_of_getElem? (i := 227) rfl) rfl
theorem kw_1451 : (Jvm.Cond.fieldLink "SameStarModel" (252 : Nat) "SameStarModel" "here" "I") ∈ wG := tz_6 (List.mem_of_getElem? (i := 154) rfl) rfl
theorem kw_1800 : (Jvm.Cond.code ({ cls := "SameStarModel", name := "look", desc := "()I" } : Jvm.MethodName) prog_14_method_32_code (1 : Nat) (Option.some Jvm.ClassFile.FieldType.int)) ∈ wG := tz_8 (List.mem_of_getElem? (i := 23) rfl) rfl
theorem kw_1452 : (Jvm.Cond.fieldLink "SameStarModel" (255 : Nat) "SameStarModel" "fault" "I") ∈ wG := tz_6 (List.mem_of_getElem? (i := 155) rfl) rfl
theorem kw_1815 : (Jvm.Cond.code ({ cls := "SameStarModel", name := "wrong", desc := "()V" } : Jvm.MethodName) prog_14_method_33_code (1 : Nat) (Option.none : Option Jvm.ClassFile.FieldType)) ∈ wG := tz_8 (List.mem_of_getElem? (i := 38) rfl) rfl
theorem kw_1454 : (Jvm.Cond.fieldLink "SameStarModel" (258 : Nat) "SameStarModel" "laid" "I") ∈ wG := tz_6 (List.mem_of_getElem? (i := 157) rfl) rfl
theorem kw_1807 : (Jvm.Cond.code ({ cls := "SameStarModel", name := "lay", desc := "(II)V" } : Jvm.MethodName) prog_14_method_34_code (3 : Nat) (Option.none : Option Jvm.ClassFile.FieldType)) ∈ wG := tz_8 (List.mem_of_getElem? (i := 30) rfl) rfl
theorem kw_1803 : (Jvm.Cond.code ({ cls := "SameStarModel", name := "nameOf", desc := "(I)I" } : Jvm.MethodName) prog_14_method_35_code (1 : Nat) (Option.some Jvm.ClassFile.FieldType.int)) ∈ wG := tz_8 (List.mem_of_getElem? (i := 26) rfl) rfl
theorem kw_1453 : (Jvm.Cond.fieldLink "SameStarModel" (261 : Nat) "SameStarModel" "open" "I") ∈ wG := tz_6 (List.mem_of_getElem? (i := 156) rfl) rfl
theorem kw_1812 : (Jvm.Cond.methodLink "SameStarModel" (264 : Nat) ({ cls := "SameStarModel", name := "wrong", desc := "()V" } : Jvm.MethodName)) ∈ wG := tz_8 (List.mem_of_getElem? (i := 35) rfl) rfl
theorem kw_1814 : (Jvm.Cond.instanceMethod ({ cls := "SameStarModel", name := "wrong", desc := "()V" } : Jvm.MethodName)) ∈ wG := tz_8 (List.mem_of_getElem? (i := 37) rfl) rfl
theorem kw_62 : (Cond.selects "SameStarModel" ⟨"SameStarModel", "wrong", "()V"⟩ ⟨"SameStarModel", "wrong", "()V"⟩) ∈ wG := wG_of 62 (by decide +kernel) rfl
theorem kw_1811 : (Jvm.Cond.code ({ cls := "SameStarModel", name := "opens", desc := "()Z" } : Jvm.MethodName) prog_14_method_36_code (1 : Nat) (Option.some Jvm.ClassFile.FieldType.boolean)) ∈ wG := tz_8 (List.mem_of_getElem? (i := 34) rfl) rfl
theorem kw_1797 : (Jvm.Cond.methodLink "SameStarModel" (267 : Nat) ({ cls := "SameStarModel", name := "look", desc := "()I" } : Jvm.MethodName)) ∈ wG := tz_8 (List.mem_of_getElem? (i := 20) rfl) rfl
theorem kw_1799 : (Jvm.Cond.instanceMethod ({ cls := "SameStarModel", name := "look", desc := "()I" } : Jvm.MethodName)) ∈ wG := tz_8 (List.mem_of_getElem? (i := 22) rfl) rfl
theorem kw_59 : (Cond.selects "SameStarModel" ⟨"SameStarModel", "look", "()I"⟩ ⟨"SameStarModel", "look", "()I"⟩) ∈ wG := wG_of 59 (by decide +kernel) rfl
theorem kw_1804 : (Jvm.Cond.methodLink "SameStarModel" (270 : Nat) ({ cls := "SameStarModel", name := "lay", desc := "(II)V" } : Jvm.MethodName)) ∈ wG := tz_8 (List.mem_of_getElem? (i := 27) rfl) rfl
theorem kw_1806 : (Jvm.Cond.instanceMethod ({ cls := "SameStarModel", name := "lay", desc := "(II)V" } : Jvm.MethodName)) ∈ wG := tz_8 (List.mem_of_getElem? (i := 29) rfl) rfl
theorem kw_60 : (Cond.selects "SameStarModel" ⟨"SameStarModel", "lay", "(II)V"⟩ ⟨"SameStarModel", "lay", "(II)V"⟩) ∈ wG := wG_of 60 (by decide +kernel) rfl
theorem kw_1819 : (Jvm.Cond.code ({ cls := "SameStarModel", name := "number", desc := "()V" } : Jvm.MethodName) prog_14_method_37_code (3 : Nat) (Option.none : Option Jvm.ClassFile.FieldType)) ∈ wG := tz_8 (List.mem_of_getElem? (i := 42) rfl) rfl
theorem kw_1801 : (Jvm.Cond.methodLink "SameStarModel" (274 : Nat) ({ cls := "SameStarModel", name := "nameOf", desc := "(I)I" } : Jvm.MethodName)) ∈ wG := tz_8 (List.mem_of_getElem? (i := 24) rfl) rfl
theorem kw_1802 : (Jvm.Cond.static ({ cls := "SameStarModel", name := "nameOf", desc := "(I)I" } : Jvm.MethodName)) ∈ wG := tz_8 (List.mem_of_getElem? (i := 25) rfl) rfl
theorem kw_1808 : (Jvm.Cond.methodLink "SameStarModel" (277 : Nat) ({ cls := "SameStarModel", name := "opens", desc := "()Z" } : Jvm.MethodName)) ∈ wG := tz_8 (List.mem_of_getElem? (i := 31) rfl) rfl
theorem kw_1810 : (Jvm.Cond.instanceMethod ({ cls := "SameStarModel", name := "opens", desc := "()Z" } : Jvm.MethodName)) ∈ wG := tz_8 (List.mem_of_getElem? (i := 33) rfl) rfl
theorem kw_61 : (Cond.selects "SameStarModel" ⟨"SameStarModel", "opens", "()Z"⟩ ⟨"SameStarModel", "opens", "()Z"⟩) ∈ wG := wG_of 61 (by decide +kernel) rfl
theorem kw_1793 : (Jvm.Cond.methodLink "SameStarModel" (281 : Nat) ({ cls := "SameStarModel", name := "operand", desc := "()V" } : Jvm.MethodName)) ∈ wG := tz_8 (List.mem_of_getElem? (i := 16) rfl) rfl
theorem kw_1795 : (Jvm.Cond.instanceMethod ({ cls := "SameStarModel", name := "operand", desc := "()V" } : Jvm.MethodName)) ∈ wG := tz_8 (List.mem_of_getElem? (i := 18) rfl) rfl
theorem kw_58 : (Cond.selects "SameStarModel" ⟨"SameStarModel", "operand", "()V"⟩ ⟨"SameStarModel", "operand", "()V"⟩) ∈ wG := wG_of 58 (by decide +kernel) rfl
theorem kw_1773 : (Jvm.Cond.methodLink "SameStarModel" (284 : Nat) ({ cls := "SameStarModel", name := "either", desc := "()V" } : Jvm.MethodName)) ∈ wG := tz_7 (List.mem_of_getElem? (i := 236) rfl) rfl
theorem kw_1775 : (Jvm.Cond.instanceMethod ({ cls := "SameStarModel", name := "either", desc := "()V" } : Jvm.MethodName)) ∈ wG := tz_7 (List.mem_of_getElem? (i := 238) rfl) rfl
theorem kw_53 : (Cond.selects "SameStarModel" ⟨"SameStarModel", "either", "()V"⟩ ⟨"SameStarModel", "either", "()V"⟩) ∈ wG := wG_of 53 (by decide +kernel) rfl
theorem kw_1816 : (Jvm.Cond.methodLink "SameStarModel" (287 : Nat) ({ cls := "SameStarModel", name := "number", desc := "()V" } : Jvm.MethodName)) ∈ wG := tz_8 (List.mem_of_getElem? (i := 39) rfl) rfl
theorem kw_1818 : (Jvm.Cond.instanceMethod ({ cls := "SameStarModel", name := "number", desc := "()V" } : Jvm.MethodName)) ∈ wG := tz_8 (List.mem_of_getElem? (i := 41) rfl) rfl
theorem kw_63 : (Cond.selects "SameStarModel" ⟨"SameStarModel", "number", "()V"⟩ ⟨"SameStarModel", "number", "()V"⟩) ∈ wG := wG_of 63 (by decide +kernel) rfl
theorem kw_1796 : (Jvm.Cond.code ({ cls := "SameStarModel", name := "operand", desc := "()V" } : Jvm.MethodName) prog_14_method_38_code (2 : Nat) (Option.none : Option Jvm.ClassFile.FieldType)) ∈ wG := tz_8 (List.mem_of_getElem? (i := 19) rfl) rfl
theorem kw_1792 : (Jvm.Cond.code ({ cls := "SameStarModel", name := "product", desc := "()V" } : Jvm.MethodName) prog_14_method_39_code (2 : Nat) (Option.none : Option Jvm.ClassFile.FieldType)) ∈ wG := tz_8 (List.mem_of_getElem? (i := 15) rfl) rfl
theorem kw_1789 : (Jvm.Cond.methodLink "SameStarModel" (290 : Nat) ({ cls := "SameStarModel", name := "product", desc := "()V" } : Jvm.MethodName)) ∈ wG := tz_8 (List.mem_of_getElem? (i := 12) rfl) rfl
theorem kw_1791 : (Jvm.Cond.instanceMethod ({ cls := "SameStarModel", name := "product", desc := "()V" } : Jvm.MethodName)) ∈ wG := tz_8 (List.mem_of_getElem? (i := 14) rfl) rfl
theorem kw_57 : (Cond.selects "SameStarModel" ⟨"SameStarModel", "product", "()V"⟩ ⟨"SameStarModel", "product", "()V"⟩) ∈ wG := wG_of 57 (by decide +kernel) rfl
theorem kw_1788 : (Jvm.Cond.code ({ cls := "SameStarModel", name := "sum", desc := "()V" } : Jvm.MethodName) prog_14_method_40_code (2 : Nat) (Option.none : Option Jvm.ClassFile.FieldType)) ∈ wG := tz_8 (List.mem_of_getElem? (i := 11) rfl) rfl
theorem kw_1785 : (Jvm.Cond.methodLink "SameStarModel" (293 : Nat) ({ cls := "SameStarModel", name := "sum", desc := "()V" } : Jvm.MethodName)) ∈ wG := tz_8 (List.mem_of_getElem? (i := 8) rfl) rfl
theorem kw_1787 : (Jvm.Cond.instanceMethod ({ cls := "SameStarModel", name := "sum", desc := "()V" } : Jvm.MethodName)) ∈ wG := tz_8 (List.mem_of_getElem? (i := 10) rfl) rfl
theorem kw_56 : (Cond.selects "SameStarModel" ⟨"SameStarModel", "sum", "()V"⟩ ⟨"SameStarModel", "sum", "()V"⟩) ∈ wG := wG_of 56 (by decide +kernel) rfl
theorem kw_1784 : (Jvm.Cond.code ({ cls := "SameStarModel", name := "compared", desc := "()V" } : Jvm.MethodName) prog_14_method_41_code (2 : Nat) (Option.none : Option Jvm.ClassFile.FieldType)) ∈ wG := tz_8 (List.mem_of_getElem? (i := 7) rfl) rfl
theorem kw_1781 : (Jvm.Cond.methodLink "SameStarModel" (296 : Nat) ({ cls := "SameStarModel", name := "compared", desc := "()V" } : Jvm.MethodName)) ∈ wG := tz_8 (List.mem_of_getElem? (i := 4) rfl) rfl
theorem kw_1783 : (Jvm.Cond.instanceMethod ({ cls := "SameStarModel", name := "compared", desc := "()V" } : Jvm.MethodName)) ∈ wG := tz_8 (List.mem_of_getElem? (i := 6) rfl) rfl
theorem kw_55 : (Cond.selects "SameStarModel" ⟨"SameStarModel", "compared", "()V"⟩ ⟨"SameStarModel", "compared", "()V"⟩) ∈ wG := wG_of 55 (by decide +kernel) rfl
theorem kw_1780 : (Jvm.Cond.code ({ cls := "SameStarModel", name := "both", desc := "()V" } : Jvm.MethodName) prog_14_method_42_code (1 : Nat) (Option.none : Option Jvm.ClassFile.FieldType)) ∈ wG := tz_8 (List.mem_of_getElem? (i := 3) rfl) rfl
theorem kw_1777 : (Jvm.Cond.methodLink "SameStarModel" (299 : Nat) ({ cls := "SameStarModel", name := "both", desc := "()V" } : Jvm.MethodName)) ∈ wG := tz_8 (List.mem_of_getElem? (i := 0) rfl) rfl
theorem kw_1779 : (Jvm.Cond.instanceMethod ({ cls := "SameStarModel", name := "both", desc := "()V" } : Jvm.MethodName)) ∈ wG := tz_8 (List.mem_of_getElem? (i := 2) rfl) rfl
theorem kw_54 : (Cond.selects "SameStarModel" ⟨"SameStarModel", "both", "()V"⟩ ⟨"SameStarModel", "both", "()V"⟩) ∈ wG := wG_of 54 (by decide +kernel) rfl
theorem kw_1776 : (Jvm.Cond.code ({ cls := "SameStarModel", name := "either", desc := "()V" } : Jvm.MethodName) prog_14_method_43_code (1 : Nat) (Option.none : Option Jvm.ClassFile.FieldType)) ∈ wG := tz_7 (List.mem_of_getElem? (i := 239) rfl) rfl
theorem kw_1772 : (Jvm.Cond.code ({ cls := "SameStarModel", name := "line", desc := "()V" } : Jvm.MethodName) prog_14_method_44_code (2 : Nat) (Option.none : Option Jvm.ClassFile.FieldType)) ∈ wG := tz_7 (List.mem_of_getElem? (i := 235) rfl) rfl
theorem kw_1822 : (Jvm.Cond.code ({ cls := "SameStarModel", name := "placeFor", desc := "(I)I" } : Jvm.MethodName) prog_14_method_45_code (1 : Nat) (Option.some Jvm.ClassFile.FieldType.int)) ∈ wG := tz_8 (List.mem_of_getElem? (i := 45) rfl) rfl
theorem kw_1769 : (Jvm.Cond.methodLink "SameStarModel" (302 : Nat) ({ cls := "SameStarModel", name := "line", desc := "()V" } : Jvm.MethodName)) ∈ wG := tz_7 (List.mem_of_getElem? (i := 232) rfl) rfl
theorem kw_1771 : (Jvm.Cond.instanceMethod ({ cls := "SameStarModel", name := "line", desc := "()V" } : Jvm.MethodName)) ∈ wG := tz_7 (List.mem_of_getElem? (i := 234) rfl) rfl
theorem kw_52 : (Cond.selects "SameStarModel" ⟨"SameStarModel", "line", "()V"⟩ ⟨"SameStarModel", "line", "()V"⟩) ∈ wG := wG_of 52 (by decide +kernel) rfl
theorem kw_1820 : (Jvm.Cond.methodLink "SameStarModel" (305 : Nat) ({ cls := "SameStarModel", name := "placeFor", desc := "(I)I" } : Jvm.MethodName)) ∈ wG := tz_8 (List.mem_of_getElem? (i := 43) rfl) rfl
theorem kw_1821 : (Jvm.Cond.static ({ cls := "SameStarModel", name := "placeFor", desc := "(I)I" } : Jvm.MethodName)) ∈ wG := tz_8 (List.mem_of_getElem? (i := 44) rfl) rfl
theorem kw_1768 : (Jvm.Cond.code ({ cls := "SameStarModel", name := "text", desc := "(I)I" } : Jvm.MethodName) prog_14_method_46_code (4 : Nat) (Option.some Jvm.ClassFile.FieldType.int)) ∈ wG := tz_7 (List.mem_of_getElem? (i := 231) rfl) rfl
theorem kw_1745 : (Jvm.Cond.code ({ cls := "SameStarModel", name := "twoOf", desc := "(III)I" } : Jvm.MethodName) prog_14_method_47_code (3 : Nat) (Option.some Jvm.ClassFile.FieldType.int)) ∈ wG := tz_7 (List.mem_of_getElem? (i := 208) rfl) rfl
theorem kw_1743 : (Jvm.Cond.methodLink "SameStarModel" (308 : Nat) ({ cls := "SameStarModel", name := "twoOf", desc := "(III)I" } : Jvm.MethodName)) ∈ wG := tz_7 (List.mem_of_getElem? (i := 206) rfl) rfl
theorem kw_1744 : (Jvm.Cond.static ({ cls := "SameStarModel", name := "twoOf", desc := "(III)I" } : Jvm.MethodName)) ∈ wG := tz_7 (List.mem_of_getElem? (i := 207) rfl) rfl
theorem kw_1742 : (Jvm.Cond.code ({ cls := "SameStarModel", name := "worked", desc := "(III)I" } : Jvm.MethodName) prog_14_method_48_code (7 : Nat) (Option.some Jvm.ClassFile.FieldType.int)) ∈ wG := tz_7 (List.mem_of_getElem? (i := 205) rfl) rfl
theorem kw_1739 : (Jvm.Cond.methodLink "SameStarModel" (311 : Nat) ({ cls := "SameStarModel", name := "worked", desc := "(III)I" } : Jvm.MethodName)) ∈ wG := tz_7 (List.mem_of_getElem? (i := 202) rfl) rfl
theorem kw_1741 : (Jvm.Cond.instanceMethod ({ cls := "SameStarModel", name := "worked", desc := "(III)I" } : Jvm.MethodName)) ∈ wG := tz_7 (List.mem_of_getElem? (i := 204) rfl) rfl
theorem kw_49 : (Cond.selects "SameStarModel" ⟨"SameStarModel", "worked", "(III)I"⟩ ⟨"SameStarModel", "worked", "(III)I"⟩) ∈ wG := wG_of 49 (by decide +kernel) rfl
theorem kw_1738 : (Jvm.Cond.code ({ cls := "SameStarModel", name := "gives", desc := "(I)I" } : Jvm.MethodName) prog_14_method_49_code (4 : Nat) (Option.some Jvm.ClassFile.FieldType.int)) ∈ wG := tz_7 (List.mem_of_getElem? (i := 201) rfl) rfl
theorem kw_1826 : (Jvm.Cond.code ({ cls := "SameStarModel", name := "reign", desc := "(III)I" } : Jvm.MethodName) prog_14_method_50_code (4 : Nat) (Option.some Jvm.ClassFile.FieldType.int)) ∈ wG := tz_8 (List.mem_of_getElem? (i := 49) rfl) rfl
theorem kw_1465 : (Jvm.Cond.fieldLink "SameStarModel" (314 : Nat) "SameStarModel" "watches" "I") ∈ wG := tz_6 (List.mem_of_getElem? (i := 168) rfl) rfl
theorem kw_1830 : (Jvm.Cond.code ({ cls := "SameStarModel", name := "watch", desc := "(III)I" } : Jvm.MethodName) prog_14_method_51_code (4 : Nat) (Option.some Jvm.ClassFile.FieldType.int)) ∈ wG := tz_8 (List.mem_of_getElem? (i := 53) rfl) rfl
theorem kw_1469 : (Jvm.Cond.fieldLink "SameStarModel" (317 : Nat) "SameStarModel" "words" "I") ∈ wG := tz_6 (List.mem_of_getElem? (i := 172) rfl) rfl
theorem kw_1848 : (Jvm.Cond.code ({ cls := "SameStarModel", name := "isWord", desc := "(I)Z" } : Jvm.MethodName) prog_14_method_52_code (2 : Nat) (Option.some Jvm.ClassFile.FieldType.boolean)) ∈ wG := tz_8 (List.mem_of_getElem? (i := 71) rfl) rfl
theorem kw_2113 : (Jvm.Cond.code ({ cls := "SameStarModel", name := "isUnder", desc := "(II)Z" } : Jvm.MethodName) prog_14_method_53_code (2 : Nat) (Option.some Jvm.ClassFile.FieldType.boolean)) ∈ wG := tz_9 (List.mem_of_getElem? (i := 96) rfl) rfl
theorem kw_1841 : (Jvm.Cond.code ({ cls := "SameStarModel", name := "isLodged", desc := "(I)Z" } : Jvm.MethodName) prog_14_method_54_code (1 : Nat) (Option.some Jvm.ClassFile.FieldType.boolean)) ∈ wG := tz_8 (List.mem_of_getElem? (i := 64) rfl) rfl
theorem kw_1844 : (Jvm.Cond.code ({ cls := "SameStarModel", name := "isSided", desc := "(I)Z" } : Jvm.MethodName) prog_14_method_55_code (1 : Nat) (Option.some Jvm.ClassFile.FieldType.boolean)) ∈ wG := tz_8 (List.mem_of_getElem? (i := 67) rfl) rfl
theorem kw_1478 : (Jvm.Cond.fieldLink "SameStarModel" (320 : Nat) "SameStarModel" "yearNow" "I") ∈ wG := tz_6 (List.mem_of_getElem? (i := 181) rfl) rfl
theorem kw_1479 : (Jvm.Cond.fieldLink "SameStarModel" (323 : Nat) "SameStarModel" "monthNow" "I") ∈ wG := tz_6 (List.mem_of_getElem? (i := 182) rfl) rfl
theorem kw_1480 : (Jvm.Cond.fieldLink "SameStarModel" (326 : Nat) "SameStarModel" "dayNow" "I") ∈ wG := tz_6 (List.mem_of_getElem? (i := 183) rfl) rfl
theorem kw_1834 : (Jvm.Cond.code ({ cls := "SameStarModel", name := "date", desc := "(III)I" } : Jvm.MethodName) prog_14_method_56_code (4 : Nat) (Option.some Jvm.ClassFile.FieldType.int)) ∈ wG := tz_8 (List.mem_of_getElem? (i := 57) rfl) rfl
theorem kw_1839 : (Jvm.Cond.methodLink "SameStarModel" (329 : Nat) ({ cls := "SameStarModel", name := "isLodged", desc := "(I)Z" } : Jvm.MethodName)) ∈ wG := tz_8 (List.mem_of_getElem? (i := 62) rfl) rfl
theorem kw_1840 : (Jvm.Cond.static ({ cls := "SameStarModel", name := "isLodged", desc := "(I)Z" } : Jvm.MethodName)) ∈ wG := tz_8 (List.mem_of_getElem? (i := 63) rfl) rfl
theorem kw_1842 : (Jvm.Cond.methodLink "SameStarModel" (332 : Nat) ({ cls := "SameStarModel", name := "isSided", desc := "(I)Z" } : Jvm.MethodName)) ∈ wG := tz_8 (List.mem_of_getElem? (i := 65) rfl) rfl
theorem kw_1843 : (Jvm.Cond.static ({ cls := "SameStarModel", name := "isSided", desc := "(I)Z" } : Jvm.MethodName)) ∈ wG := tz_8 (List.mem_of_getElem? (i := 66) rfl) rfl
theorem kw_1852 : (Jvm.Cond.code ({ cls := "SameStarModel", name := "newWord", desc := "(IIIIIIII)I" } : Jvm.MethodName) prog_14_method_57_code (9 : Nat) (Option.some Jvm.ClassFile.FieldType.int)) ∈ wG := tz_8 (List.mem_of_getElem? (i := 75) rfl) rfl
theorem kw_1845 : (Jvm.Cond.methodLink "SameStarModel" (335 : Nat) ({ cls := "SameStarModel", name := "isWord", desc := "(I)Z" } : Jvm.MethodName)) ∈ wG := tz_8 (List.mem_of_getElem? (i := 68) rfl) rfl
theorem kw_1847 : (Jvm.Cond.instanceMethod ({ cls := "SameStarModel", name := "isWord", desc := "(I)Z" } : Jvm.MethodName)) ∈ wG := tz_8 (List.mem_of_getElem? (i := 70) rfl) rfl
theorem kw_64 : (Cond.selects "SameStarModel" ⟨"SameStarModel", "isWord", "(I)Z"⟩ ⟨"SameStarModel", "isWord", "(I)Z"⟩) ∈ wG := wG_of 64 (by decide +kernel) rfl
theorem kw_1849 : (Jvm.Cond.methodLink "SameStarModel" (338 : Nat) ({ cls := "SameStarModel", name := "newWord", desc := "(IIIIIIII)I" } : Jvm.MethodName)) ∈ wG := tz_8 (List.mem_of_getElem? (i := 72) rfl) rfl
theorem kw_1851 : (Jvm.Cond.instanceMethod ({ cls := "SameStarModel", name := "newWord", desc := "(IIIIIIII)I" } : Jvm.MethodName)) ∈ wG := tz_8 (List.mem_of_getElem? (i := 74) rfl) rfl
theorem kw_65 : (Cond.selects "SameStarModel" ⟨"SameStarModel", "newWord", "(IIIIIIII)I"⟩ ⟨"SameStarModel", "newWord", "(IIIIIIII)I"⟩) ∈ wG := wG_of 65 (by decide +kernel) rfl
theorem kw_1838 : (Jvm.Cond.code ({ cls := "SameStarModel", name := "word", desc := "(III)I" } : Jvm.MethodName) prog_14_method_58_code (7 : Nat) (Option.some Jvm.ClassFile.FieldType.int)) ∈ wG := tz_8 (List.mem_of_getElem? (i := 61) rfl) rfl
theorem kw_1857 : (Jvm.Cond.methodLink "SameStarModel" (342 : Nat) ({ cls := "SameStarModel", name := "isShelf", desc := "(I)Z" } : Jvm.MethodName)) ∈ wG := tz_8 (List.mem_of_getElem? (i := 80) rfl) rfl
theorem kw_1858 : (Jvm.Cond.static ({ cls := "SameStarModel", name := "isShelf", desc := "(I)Z" } : Jvm.MethodName)) ∈ wG := tz_8 (List.mem_of_getElem? (i := 81) rfl) rfl
theorem kw_1860 : (Jvm.Cond.constantLong "SameStarModel" (345 : Nat) (4 : Int64)) ∈ wG := tz_8 (List.mem_of_getElem? (i := 83) rfl) rfl
theorem kw_1856 : (Jvm.Cond.code ({ cls := "SameStarModel", name := "words", desc := "(IIII)I" } : Jvm.MethodName) prog_14_method_59_code (13 : Nat) (Option.some Jvm.ClassFile.FieldType.int)) ∈ wG := tz_8 (List.mem_of_getElem? (i := 79) rfl) rfl
theorem kw_1868 : (Jvm.Cond.code ({ cls := "SameStarModel", name := "rootOf", desc := "(I)I" } : Jvm.MethodName) prog_14_method_60_code (3 : Nat) (Option.some Jvm.ClassFile.FieldType.int)) ∈ wG := tz_8 (List.mem_of_getElem? (i := 91) rfl) rfl
theorem kw_1865 : (Jvm.Cond.methodLink "SameStarModel" (347 : Nat) ({ cls := "SameStarModel", name := "rootOf", desc := "(I)I" } : Jvm.MethodName)) ∈ wG := tz_8 (List.mem_of_getElem? (i := 88) rfl) rfl
theorem kw_1867 : (Jvm.Cond.instanceMethod ({ cls := "SameStarModel", name := "rootOf", desc := "(I)I" } : Jvm.MethodName)) ∈ wG := tz_8 (List.mem_of_getElem? (i := 90) rfl) rfl
theorem kw_66 : (Cond.selects "SameStarModel" ⟨"SameStarModel", "rootOf", "(I)I"⟩ ⟨"SameStarModel", "rootOf", "(I)I"⟩) ∈ wG := wG_of 66 (by decide +kernel) rfl
theorem kw_1872 : (Jvm.Cond.code ({ cls := "SameStarModel", name := "spansOf", desc := "(I)I" } : Jvm.MethodName) prog_14_method_61_code (3 : Nat) (Option.some Jvm.ClassFile.FieldType.int)) ∈ wG := tz_8 (List.mem_of_getElem? (i := 95) rfl) rfl
theorem kw_1869 : (Jvm.Cond.methodLink "SameStarModel" (350 : Nat) ({ cls := "SameStarModel", name := "spansOf", desc := "(I)I" } : Jvm.MethodName)) ∈ wG := tz_8 (List.mem_of_getElem? (i := 92) rfl) rfl
theorem kw_1871 : (Jvm.Cond.instanceMethod ({ cls := "SameStarModel", name := "spansOf", desc := "(I)I" } : Jvm.MethodName)) ∈ wG := tz_8 (List.mem_of_getElem? (i := 94) rfl) rfl
theorem kw_67 : (Cond.selects "SameStarModel" ⟨"SameStarModel", "spansOf", "(I)I"⟩ ⟨"SameStarModel", "spansOf", "(I)I"⟩) ∈ wG := wG_of 67 (by decide +kernel) rfl
theorem kw_1864 : (Jvm.Cond.code ({ cls := "SameStarModel", name := "ofWord", desc := "(II)I" } : Jvm.MethodName) prog_14_method_62_code (3 : Nat) (Option.some Jvm.ClassFile.FieldType.int)) ∈ wG := tz_8 (List.mem_of_getElem? (i := 87) rfl) rfl
theorem kw_1881 : (Jvm.Cond.constant "SameStarModel" (353 : Nat) (-2000000 : Int32)) ∈ wG := tz_8 (List.mem_of_getElem? (i := 104) rfl) rfl
theorem kw_1882 : (Jvm.Cond.constant "SameStarModel" (354 : Nat) (2000000 : Int32)) ∈ wG := tz_8 (List.mem_of_getElem? (i := 105) rfl) rfl
theorem kw_1481 : (Jvm.Cond.fieldLink "SameStarModel" (355 : Nat) "SameStarModel" "spanFirst" "I") ∈ wG := tz_6 (List.mem_of_getElem? (i := 184) rfl) rfl
theorem kw_1482 : (Jvm.Cond.fieldLink "SameStarModel" (358 : Nat) "SameStarModel" "spanLast" "I") ∈ wG := tz_6 (List.mem_of_getElem? (i := 185) rfl) rfl
theorem kw_1880 : (Jvm.Cond.code ({ cls := "SameStarModel", name := "findSpan", desc := "(III)Z" } : Jvm.MethodName) prog_14_method_63_code (8 : Nat) (Option.some Jvm.ClassFile.FieldType.boolean)) ∈ wG := tz_8 (List.mem_of_getElem? (i := 103) rfl) rfl
theorem kw_1877 : (Jvm.Cond.methodLink "SameStarModel" (361 : Nat) ({ cls := "SameStarModel", name := "findSpan", desc := "(III)Z" } : Jvm.MethodName)) ∈ wG := tz_8 (List.mem_of_getElem? (i := 100) rfl) rfl
theorem kw_1879 : (Jvm.Cond.instanceMethod ({ cls := "SameStarModel", name := "findSpan", desc := "(III)Z" } : Jvm.MethodName)) ∈ wG := tz_8 (List.mem_of_getElem? (i := 102) rfl) rfl
theorem kw_68 : (Cond.selects "SameStarModel" ⟨"SameStarModel", "findSpan", "(III)Z"⟩ ⟨"SameStarModel", "findSpan", "(III)Z"⟩) ∈ wG := wG_of 68 (by decide +kernel) rfl
theorem kw_1876 : (Jvm.Cond.code ({ cls := "SameStarModel", name := "span", desc := "(III)I" } : Jvm.MethodName) prog_14_method_64_code (4 : Nat) (Option.some Jvm.ClassFile.FieldType.int)) ∈ wG := tz_8 (List.mem_of_getElem? (i := 99) rfl) rfl
theorem kw_1901 : (Jvm.Cond.code ({ cls := "SameStarModel", name := "lodgeApart", desc := "(II)I" } : Jvm.MethodName) prog_14_method_65_code (4 : Nat) (Option.some Jvm.ClassFile.FieldType.int)) ∈ wG := tz_8 (List.mem_of_getElem? (i := 124) rfl) rfl
theorem kw_1905 : (Jvm.Cond.code ({ cls := "SameStarModel", name := "isWest", desc := "(I)Z" } : Jvm.MethodName) prog_14_method_66_code (2 : Nat) (Option.some Jvm.ClassFile.FieldType.boolean)) ∈ wG := tz_8 (List.mem_of_getElem? (i := 128) rfl) rfl
theorem kw_1899 : (Jvm.Cond.methodLink "SameStarModel" (364 : Nat) ({ cls := "SameStarModel", name := "lodgeApart", desc := "(II)I" } : Jvm.MethodName)) ∈ wG := tz_8 (List.mem_of_getElem? (i := 122) rfl) rfl
theorem kw_1900 : (Jvm.Cond.static ({ cls := "SameStarModel", name := "lodgeApart", desc := "(II)I" } : Jvm.MethodName)) ∈ wG := tz_8 (List.mem_of_getElem? (i := 123) rfl) rfl
theorem kw_1902 : (Jvm.Cond.methodLink "SameStarModel" (367 : Nat) ({ cls := "SameStarModel", name := "isWest", desc := "(I)Z" } : Jvm.MethodName)) ∈ wG := tz_8 (List.mem_of_getElem? (i := 125) rfl) rfl
theorem kw_1904 : (Jvm.Cond.instanceMethod ({ cls := "SameStarModel", name := "isWest", desc := "(I)Z" } : Jvm.MethodName)) ∈ wG := tz_8 (List.mem_of_getElem? (i := 127) rfl) rfl
theorem kw_72 : (Cond.selects "SameStarModel" ⟨"SameStarModel", "isWest", "(I)Z"⟩ ⟨"SameStarModel", "isWest", "(I)Z"⟩) ∈ wG := wG_of 72 (by decide +kernel) rfl
theorem kw_1898 : (Jvm.Cond.code ({ cls := "SameStarModel", name := "fitsOn", desc := "(IIII)Z" } : Jvm.MethodName) prog_14_method_67_code (5 : Nat) (Option.some Jvm.ClassFile.FieldType.boolean)) ∈ wG := tz_8 (List.mem_of_getElem? (i := 121) rfl) rfl
theorem kw_1483 : (Jvm.Cond.fieldLink "SameStarModel" (370 : Nat) "SameStarModel" "lookFrom" "I") ∈ wG := tz_6 (List.mem_of_getElem? (i := 186) rfl) rfl
theorem kw_1484 : (Jvm.Cond.fieldLink "SameStarModel" (373 : Nat) "SameStarModel" "lookTo" "I") ∈ wG := tz_6 (List.mem_of_getElem? (i := 187) rfl) rfl
theorem kw_1894 : (Jvm.Cond.code ({ cls := "SameStarModel", name := "findLook", desc := "(IIII)Z" } : Jvm.MethodName) prog_14_method_68_code (5 : Nat) (Option.some Jvm.ClassFile.FieldType.boolean)) ∈ wG := tz_8 (List.mem_of_getElem? (i := 117) rfl) rfl
theorem kw_1891 : (Jvm.Cond.methodLink "SameStarModel" (376 : Nat) ({ cls := "SameStarModel", name := "findLook", desc := "(IIII)Z" } : Jvm.MethodName)) ∈ wG := tz_8 (List.mem_of_getElem? (i := 114) rfl) rfl
theorem kw_1893 : (Jvm.Cond.instanceMethod ({ cls := "SameStarModel", name := "findLook", desc := "(IIII)Z" } : Jvm.MethodName)) ∈ wG := tz_8 (List.mem_of_getElem? (i := 116) rfl) rfl
theorem kw_70 : (Cond.selects "SameStarModel" ⟨"SameStarModel", "findLook", "(IIII)Z"⟩ ⟨"SameStarModel", "findLook", "(IIII)Z"⟩) ∈ wG := wG_of 70 (by decide +kernel) rfl
theorem kw_1909 : (Jvm.Cond.code ({ cls := "SameStarModel", name := "isTurned", desc := "(IIII)Z" } : Jvm.MethodName) prog_14_method_69_code (8 : Nat) (Option.some Jvm.ClassFile.FieldType.boolean)) ∈ wG := tz_8 (List.mem_of_getElem? (i := 132) rfl) rfl
theorem kw_1895 : (Jvm.Cond.methodLink "SameStarModel" (379 : Nat) ({ cls := "SameStarModel", name := "fitsOn", desc := "(IIII)Z" } : Jvm.MethodName)) ∈ wG := tz_8 (List.mem_of_getElem? (i := 118) rfl) rfl
theorem kw_1897 : (Jvm.Cond.instanceMethod ({ cls := "SameStarModel", name := "fitsOn", desc := "(IIII)Z" } : Jvm.MethodName)) ∈ wG := tz_8 (List.mem_of_getElem? (i := 120) rfl) rfl
theorem kw_71 : (Cond.selects "SameStarModel" ⟨"SameStarModel", "fitsOn", "(IIII)Z"⟩ ⟨"SameStarModel", "fitsOn", "(IIII)Z"⟩) ∈ wG := wG_of 71 (by decide +kernel) rfl
theorem kw_1906 : (Jvm.Cond.methodLink "SameStarModel" (382 : Nat) ({ cls := "SameStarModel", name := "isTurned", desc := "(IIII)Z" } : Jvm.MethodName)) ∈ wG := tz_8 (List.mem_of_getElem? (i := 129) rfl) rfl
theorem kw_1908 : (Jvm.Cond.instanceMethod ({ cls := "SameStarModel", name := "isTurned", desc := "(IIII)Z" } : Jvm.MethodName)) ∈ wG := tz_8 (List.mem_of_getElem? (i := 131) rfl) rfl
theorem kw_73 : (Cond.selects "SameStarModel" ⟨"SameStarModel", "isTurned", "(IIII)Z"⟩ ⟨"SameStarModel", "isTurned", "(IIII)Z"⟩) ∈ wG := wG_of 73 (by decide +kernel) rfl
theorem kw_1890 : (Jvm.Cond.code ({ cls := "SameStarModel", name := "fitDay", desc := "(IIIII)I" } : Jvm.MethodName) prog_14_method_70_code (10 : Nat) (Option.some Jvm.ClassFile.FieldType.int)) ∈ wG := tz_8 (List.mem_of_getElem? (i := 113) rfl) rfl
theorem kw_1887 : (Jvm.Cond.methodLink "SameStarModel" (385 : Nat) ({ cls := "SameStarModel", name := "fitDay", desc := "(IIIII)I" } : Jvm.MethodName)) ∈ wG := tz_8 (List.mem_of_getElem? (i := 110) rfl) rfl
theorem kw_1889 : (Jvm.Cond.instanceMethod ({ cls := "SameStarModel", name := "fitDay", desc := "(IIIII)I" } : Jvm.MethodName)) ∈ wG := tz_8 (List.mem_of_getElem? (i := 112) rfl) rfl
theorem kw_69 : (Cond.selects "SameStarModel" ⟨"SameStarModel", "fitDay", "(IIIII)I"⟩ ⟨"SameStarModel", "fitDay", "(IIIII)I"⟩) ∈ wG := wG_of 69 (by decide +kernel) rfl
theorem kw_1886 : (Jvm.Cond.code ({ cls := "SameStarModel", name := "fits", desc := "(III)I" } : Jvm.MethodName) prog_14_method_71_code (6 : Nat) (Option.some Jvm.ClassFile.FieldType.int)) ∈ wG := tz_8 (List.mem_of_getElem? (i := 109) rfl) rfl
theorem kw_1913 : (Jvm.Cond.code ({ cls := "SameStarModel", name := "perhaps", desc := "(III)I" } : Jvm.MethodName) prog_14_method_72_code (9 : Nat) (Option.some Jvm.ClassFile.FieldType.int)) ∈ wG := tz_8 (List.mem_of_getElem? (i := 136) rfl) rfl
theorem kw_1921 : (Jvm.Cond.code ({ cls := "SameStarModel", name := "whoseBy", desc := "(III)I" } : Jvm.MethodName) prog_14_method_73_code (6 : Nat) (Option.some Jvm.ClassFile.FieldType.int)) ∈ wG := tz_8 (List.mem_of_getElem? (i := 144) rfl) rfl
theorem kw_1918 : (Jvm.Cond.methodLink "SameStarModel" (389 : Nat) ({ cls := "SameStarModel", name := "whoseBy", desc := "(III)I" } : Jvm.MethodName)) ∈ wG := tz_8 (List.mem_of_getElem? (i := 141) rfl) rfl
theorem kw_1920 : (Jvm.Cond.instanceMethod ({ cls := "SameStarModel", name := "whoseBy", desc := "(III)I" } : Jvm.MethodName)) ∈ wG := tz_8 (List.mem_of_getElem? (i := 143) rfl) rfl
theorem kw_74 : (Cond.selects "SameStarModel" ⟨"SameStarModel", "whoseBy", "(III)I"⟩ ⟨"SameStarModel", "whoseBy", "(III)I"⟩) ∈ wG := wG_of 74 (by decide +kernel) rfl
theorem kw_1917 : (Jvm.Cond.code ({ cls := "SameStarModel", name := "whose", desc := "(II)I" } : Jvm.MethodName) prog_14_method_74_code (4 : Nat) (Option.some Jvm.ClassFile.FieldType.int)) ∈ wG := tz_8 (List.mem_of_getElem? (i := 140) rfl) rfl
theorem kw_1925 : (Jvm.Cond.code ({ cls := "SameStarModel", name := "evening", desc := "(II)I" } : Jvm.MethodName) prog_14_method_75_code (9 : Nat) (Option.some Jvm.ClassFile.FieldType.int)) ∈ wG := tz_8 (List.mem_of_getElem? (i := 148) rfl) rfl
theorem kw_1933 : (Jvm.Cond.code ({ cls := "SameStarModel", name := "isAheadThenBehind", desc := "(IIII)Z" } : Jvm.MethodName) prog_14_method_76_code (6 : Nat) (Option.some Jvm.ClassFile.FieldType.boolean)) ∈ wG := tz_8 (List.mem_of_getElem? (i := 156) rfl) rfl
theorem kw_1930 : (Jvm.Cond.methodLink "SameStarModel" (392 : Nat) ({ cls := "SameStarModel", name := "isAheadThenBehind", desc := "(IIII)Z" } : Jvm.MethodName)) ∈ wG := tz_8 (List.mem_of_getElem? (i := 153) rfl) rfl
theorem kw_1932 : (Jvm.Cond.instanceMethod ({ cls := "SameStarModel", name := "isAheadThenBehind", desc := "(IIII)Z" } : Jvm.MethodName)) ∈ wG := tz_8 (List.mem_of_getElem? (i := 155) rfl) rfl
theorem kw_75 : (Cond.selects "SameStarModel" ⟨"SameStarModel", "isAheadThenBehind", "(IIII)Z"⟩ ⟨"SameStarModel", "isAheadThenBehind", "(IIII)Z"⟩) ∈ wG := wG_of 75 (by decide +kernel) rfl
theorem kw_1929 : (Jvm.Cond.code ({ cls := "SameStarModel", name := "behind", desc := "(II)I" } : Jvm.MethodName) prog_14_method_77_code (6 : Nat) (Option.some Jvm.ClassFile.FieldType.int)) ∈ wG := tz_8 (List.mem_of_getElem? (i := 152) rfl) rfl
theorem kw_1937 : (Jvm.Cond.code ({ cls := "SameStarModel", name := "once", desc := "(I)I" } : Jvm.MethodName) prog_14_method_78_code (4 : Nat) (Option.some Jvm.ClassFile.FieldType.int)) ∈ wG := tz_8 (List.mem_of_getElem? (i := 160) rfl) rfl
theorem kw_1949 : (Jvm.Cond.code ({ cls := "SameStarModel", name := "isWatched", desc := "(II)Z" } : Jvm.MethodName) prog_14_method_79_code (8 : Nat) (Option.some Jvm.ClassFile.FieldType.boolean)) ∈ wG := tz_8 (List.mem_of_getElem? (i := 172) rfl) rfl
theorem kw_1953 : (Jvm.Cond.code ({ cls := "SameStarModel", name := "isTold", desc := "(II)Z" } : Jvm.MethodName) prog_14_method_80_code (4 : Nat) (Option.some Jvm.ClassFile.FieldType.boolean)) ∈ wG := tz_8 (List.mem_of_getElem? (i := 176) rfl) rfl
theorem kw_1946 : (Jvm.Cond.methodLink "SameStarModel" (395 : Nat) ({ cls := "SameStarModel", name := "isWatched", desc := "(II)Z" } : Jvm.MethodName)) ∈ wG := tz_8 (List.mem_of_getElem? (i := 169) rfl) rfl
theorem kw_1948 : (Jvm.Cond.instanceMethod ({ cls := "SameStarModel", name := "isWatched", desc := "(II)Z" } : Jvm.MethodName)) ∈ wG := tz_8 (List.mem_of_getElem? (i := 171) rfl) rfl
theorem kw_77 : (Cond.selects "SameStarModel" ⟨"SameStarModel", "isWatched", "(II)Z"⟩ ⟨"SameStarModel", "isWatched", "(II)Z"⟩) ∈ wG := wG_of 77 (by decide +kernel) rfl
theorem kw_1950 : (Jvm.Cond.methodLink "SameStarModel" (399 : Nat) ({ cls := "SameStarModel", name := "isTold", desc := "(II)Z" } : Jvm.MethodName)) ∈ wG := tz_8 (List.mem_of_getElem? (i := 173) rfl) rfl
theorem kw_1952 : (Jvm.Cond.instanceMethod ({ cls := "SameStarModel", name := "isTold", desc := "(II)Z" } : Jvm.MethodName)) ∈ wG := tz_8 (List.mem_of_getElem? (i := 175) rfl) rfl
theorem kw_78 : (Cond.selects "SameStarModel" ⟨"SameStarModel", "isTold", "(II)Z"⟩ ⟨"SameStarModel", "isTold", "(II)Z"⟩) ∈ wG := wG_of 78 (by decide +kernel) rfl
theorem kw_1945 : (Jvm.Cond.code ({ cls := "SameStarModel", name := "findStory", desc := "(I)V" } : Jvm.MethodName) prog_14_method_81_code (5 : Nat) (Option.none : Option Jvm.ClassFile.FieldType)) ∈ wG := tz_8 (List.mem_of_getElem? (i := 168) rfl) rfl
theorem kw_1957 : (Jvm.Cond.code ({ cls := "SameStarModel", name := "worthOf", desc := "(I)I" } : Jvm.MethodName) prog_14_method_82_code (4 : Nat) (Option.some Jvm.ClassFile.FieldType.int)) ∈ wG := tz_8 (List.mem_of_getElem? (i := 180) rfl) rfl
theorem kw_1942 : (Jvm.Cond.methodLink "SameStarModel" (402 : Nat) ({ cls := "SameStarModel", name := "findStory", desc := "(I)V" } : Jvm.MethodName)) ∈ wG := tz_8 (List.mem_of_getElem? (i := 165) rfl) rfl
theorem kw_1944 : (Jvm.Cond.instanceMethod ({ cls := "SameStarModel", name := "findStory", desc := "(I)V" } : Jvm.MethodName)) ∈ wG := tz_8 (List.mem_of_getElem? (i := 167) rfl) rfl
theorem kw_76 : (Cond.selects "SameStarModel" ⟨"SameStarModel", "findStory", "(I)V"⟩ ⟨"SameStarModel", "findStory", "(I)V"⟩) ∈ wG := wG_of 76 (by decide +kernel) rfl
theorem kw_1954 : (Jvm.Cond.methodLink "SameStarModel" (405 : Nat) ({ cls := "SameStarModel", name := "worthOf", desc := "(I)I" } : Jvm.MethodName)) ∈ wG := tz_8 (List.mem_of_getElem? (i := 177) rfl) rfl
theorem kw_1956 : (Jvm.Cond.instanceMethod ({ cls := "SameStarModel", name := "worthOf", desc := "(I)I" } : Jvm.MethodName)) ∈ wG := tz_8 (List.mem_of_getElem? (i := 179) rfl) rfl
theorem kw_79 : (Cond.selects "SameStarModel" ⟨"SameStarModel", "worthOf", "(I)I"⟩ ⟨"SameStarModel", "worthOf", "(I)I"⟩) ∈ wG := wG_of 79 (by decide +kernel) rfl
theorem kw_1941 : (Jvm.Cond.code ({ cls := "SameStarModel", name := "judge", desc := "(I)I" } : Jvm.MethodName) prog_14_method_83_code (2 : Nat) (Option.some Jvm.ClassFile.FieldType.int)) ∈ wG := tz_8 (List.mem_of_getElem? (i := 164) rfl) rfl
theorem kw_1964 : (Jvm.Cond.code ({ cls := "SameStarModel", name := "bitsOf", desc := "(I)I" } : Jvm.MethodName) prog_14_method_84_code (3 : Nat) (Option.some Jvm.ClassFile.FieldType.int)) ∈ wG := tz_8 (List.mem_of_getElem? (i := 187) rfl) rfl
theorem kw_1962 : (Jvm.Cond.methodLink "SameStarModel" (408 : Nat) ({ cls := "SameStarModel", name := "bitsOf", desc := "(I)I" } : Jvm.MethodName)) ∈ wG := tz_8 (List.mem_of_getElem? (i := 185) rfl) rfl
theorem kw_1963 : (Jvm.Cond.static ({ cls := "SameStarModel", name := "bitsOf", desc := "(I)I" } : Jvm.MethodName)) ∈ wG := tz_8 (List.mem_of_getElem? (i := 186) rfl) rfl
theorem kw_1961 : (Jvm.Cond.code ({ cls := "SameStarModel", name := "best", desc := "(I)I" } : Jvm.MethodName) prog_14_method_85_code (7 : Nat) (Option.some Jvm.ClassFile.FieldType.int)) ∈ wG := tz_8 (List.mem_of_getElem? (i := 184) rfl) rfl
theorem kw_1488 : (Jvm.Cond.fieldLink "SameStarModel" (411 : Nat) "SameStarModel" "evenings" "I") ∈ wG := tz_6 (List.mem_of_getElem? (i := 191) rfl) rfl
theorem kw_1968 : (Jvm.Cond.code ({ cls := "SameStarModel", name := "observed", desc := "(II)I" } : Jvm.MethodName) prog_14_method_86_code (3 : Nat) (Option.some Jvm.ClassFile.FieldType.int)) ∈ wG := tz_8 (List.mem_of_getElem? (i := 191) rfl) rfl
theorem kw_1972 : (Jvm.Cond.code ({ cls := "SameStarModel", name := "forget", desc := "()I" } : Jvm.MethodName) prog_14_method_87_code (2 : Nat) (Option.some Jvm.ClassFile.FieldType.int)) ∈ wG := tz_8 (List.mem_of_getElem? (i := 195) rfl) rfl
theorem kw_1980 : (Jvm.Cond.code ({ cls := "SameStarModel", name := "nodeFor", desc := "(IIII)I" } : Jvm.MethodName) prog_14_method_88_code (9 : Nat) (Option.some Jvm.ClassFile.FieldType.int)) ∈ wG := tz_8 (List.mem_of_getElem? (i := 203) rfl) rfl
theorem kw_1977 : (Jvm.Cond.methodLink "SameStarModel" (414 : Nat) ({ cls := "SameStarModel", name := "nodeFor", desc := "(IIII)I" } : Jvm.MethodName)) ∈ wG := tz_8 (List.mem_of_getElem? (i := 200) rfl) rfl
theorem kw_1979 : (Jvm.Cond.instanceMethod ({ cls := "SameStarModel", name := "nodeFor", desc := "(IIII)I" } : Jvm.MethodName)) ∈ wG := tz_8 (List.mem_of_getElem? (i := 202) rfl) rfl
theorem kw_80 : (Cond.selects "SameStarModel" ⟨"SameStarModel", "nodeFor", "(IIII)I"⟩ ⟨"SameStarModel", "nodeFor", "(IIII)I"⟩) ∈ wG := wG_of 80 (by decide +kernel) rfl
theorem kw_1976 : (Jvm.Cond.code ({ cls := "SameStarModel", name := "paths", desc := "(III)I" } : Jvm.MethodName) prog_14_method_89_code (9 : Nat) (Option.some Jvm.ClassFile.FieldType.int)) ∈ wG := tz_8 (List.mem_of_getElem? (i := 199) rfl) rfl
theorem kw_1984 : (Jvm.Cond.code ({ cls := "SameStarModel", name := "alike", desc := "(III)I" } : Jvm.MethodName) prog_14_method_90_code (4 : Nat) (Option.some Jvm.ClassFile.FieldType.int)) ∈ wG := tz_8 (List.mem_of_getElem? (i := 207) rfl) rfl
theorem kw_1491 : (Jvm.Cond.fieldLink "SameStarModel" (418 : Nat) "SameStarModel" "drawn" "I") ∈ wG := tz_6 (List.mem_of_getElem? (i := 194) rfl) rfl
theorem kw_1993 : (Jvm.Cond.constant "SameStarModel" (421 : Nat) (1103515245 : Int32)) ∈ wG := tz_8 (List.mem_of_getElem? (i := 216) rfl) rfl
theorem kw_1992 : (Jvm.Cond.code ({ cls := "SameStarModel", name := "draw", desc := "(I)I" } : Jvm.MethodName) prog_14_method_91_code (2 : Nat) (Option.some Jvm.ClassFile.FieldType.int)) ∈ wG := tz_8 (List.mem_of_getElem? (i := 215) rfl) rfl
theorem kw_1989 : (Jvm.Cond.methodLink "SameStarModel" (422 : Nat) ({ cls := "SameStarModel", name := "draw", desc := "(I)I" } : Jvm.MethodName)) ∈ wG := tz_8 (List.mem_of_getElem? (i := 212) rfl) rfl
theorem kw_1991 : (Jvm.Cond.instanceMethod ({ cls := "SameStarModel", name := "draw", desc := "(I)I" } : Jvm.MethodName)) ∈ wG := tz_8 (List.mem_of_getElem? (i := 214) rfl) rfl
theorem kw_81 : (Cond.selects "SameStarModel" ⟨"SameStarModel", "draw", "(I)I"⟩ ⟨"SameStarModel", "draw", "(I)I"⟩) ∈ wG := wG_of 81 (by decide +kernel) rfl
theorem kw_1988 : (Jvm.Cond.code ({ cls := "SameStarModel", name := "chance", desc := "(III)I" } : Jvm.MethodName) prog_14_method_92_code (10 : Nat) (Option.some Jvm.ClassFile.FieldType.int)) ∈ wG := tz_8 (List.mem_of_getElem? (i := 211) rfl) rfl
theorem kw_2001 : (Jvm.Cond.code ({ cls := "SameStarModel", name := "passBy", desc := "(III)I" } : Jvm.MethodName) prog_14_method_93_code (6 : Nat) (Option.some Jvm.ClassFile.FieldType.int)) ∈ wG := tz_8 (List.mem_of_getElem? (i := 224) rfl) rfl
theorem kw_1998 : (Jvm.Cond.methodLink "SameStarModel" (425 : Nat) ({ cls := "SameStarModel", name := "passBy", desc := "(III)I" } : Jvm.MethodName)) ∈ wG := tz_8 (List.mem_of_getElem? (i := 221) rfl) rfl
theorem kw_2000 : (Jvm.Cond.instanceMethod ({ cls := "SameStarModel", name := "passBy", desc := "(III)I" } : Jvm.MethodName)) ∈ wG := tz_8 (List.mem_of_getElem? (i := 223) rfl) rfl
theorem kw_82 : (Cond.selects "SameStarModel" ⟨"SameStarModel", "passBy", "(III)I"⟩ ⟨"SameStarModel", "passBy", "(III)I"⟩) ∈ wG := wG_of 82 (by decide +kernel) rfl
theorem kw_1997 : (Jvm.Cond.code ({ cls := "SameStarModel", name := "foretold", desc := "(IIII)I" } : Jvm.MethodName) prog_14_method_94_code (7 : Nat) (Option.some Jvm.ClassFile.FieldType.int)) ∈ wG := tz_8 (List.mem_of_getElem? (i := 220) rfl) rfl
theorem kw_2009 : (Jvm.Cond.code ({ cls := "SameStarModel", name := "rightBy", desc := "(III)I" } : Jvm.MethodName) prog_14_method_95_code (6 : Nat) (Option.some Jvm.ClassFile.FieldType.int)) ∈ wG := tz_8 (List.mem_of_getElem? (i := 232) rfl) rfl
theorem kw_2006 : (Jvm.Cond.methodLink "SameStarModel" (428 : Nat) ({ cls := "SameStarModel", name := "rightBy", desc := "(III)I" } : Jvm.MethodName)) ∈ wG := tz_8 (List.mem_of_getElem? (i := 229) rfl) rfl
theorem kw_2008 : (Jvm.Cond.instanceMethod ({ cls := "SameStarModel", name := "rightBy", desc := "(III)I" } : Jvm.MethodName)) ∈ wG := tz_8 (List.mem_of_getElem? (i := 231) rfl) rfl
theorem kw_83 : (Cond.selects "SameStarModel" ⟨"SameStarModel", "rightBy", "(III)I"⟩ ⟨"SameStarModel", "rightBy", "(III)I"⟩) ∈ wG := wG_of 83 (by decide +kernel) rfl
theorem kw_2005 : (Jvm.Cond.code ({ cls := "SameStarModel", name := "right", desc := "(III)I" } : Jvm.MethodName) prog_14_method_96_code (9 : Nat) (Option.some Jvm.ClassFile.FieldType.int)) ∈ wG := tz_8 (List.mem_of_getElem? (i := 228) rfl) rfl
theorem kw_2013 : (Jvm.Cond.code ({ cls := "SameStarModel", name := "broke", desc := "(II)I" } : Jvm.MethodName) prog_14_method_97_code (6 : Nat) (Option.some Jvm.ClassFile.FieldType.int)) ∈ wG := tz_8 (List.mem_of_getElem? (i := 236) rfl) rfl
theorem kw_2021 : (Jvm.Cond.code ({ cls := "SameStarModel", name := "firstOf", desc := "(I)I" } : Jvm.MethodName) prog_14_method_98_code (3 : Nat) (Option.some Jvm.ClassFile.FieldType.int)) ∈ wG := tz_9 (List.mem_of_getElem? (i := 4) rfl) rfl
theorem kw_2018 : (Jvm.Cond.methodLink "SameStarModel" (431 : Nat) ({ cls := "SameStarModel", name := "firstOf", desc := "(I)I" } : Jvm.MethodName)) ∈ wG := tz_9 (List.mem_of_getElem? (i := 1) rfl) rfl
theorem kw_2020 : (Jvm.Cond.instanceMethod ({ cls := "SameStarModel", name := "firstOf", desc := "(I)I" } : Jvm.MethodName)) ∈ wG := tz_9 (List.mem_of_getElem? (i := 3) rfl) rfl
theorem kw_84 : (Cond.selects "SameStarModel" ⟨"SameStarModel", "firstOf", "(I)I"⟩ ⟨"SameStarModel", "firstOf", "(I)I"⟩) ∈ wG := wG_of 84 (by decide +kernel) rfl
theorem kw_2017 : (Jvm.Cond.code ({ cls := "SameStarModel", name := "kin", desc := "(I)I" } : Jvm.MethodName) prog_14_method_99_code (4 : Nat) (Option.some Jvm.ClassFile.FieldType.int)) ∈ wG := tz_9 (List.mem_of_getElem? (i := 0) rfl) rfl
theorem kw_1492 : (Jvm.Cond.fieldLink "SameStarModel" (434 : Nat) "SameStarModel" "nextDay" "I") ∈ wG := tz_6 (List.mem_of_getElem? (i := 195) rfl) rfl
theorem kw_1493 : (Jvm.Cond.fieldLink "SameStarModel" (437 : Nat) "SameStarModel" "nextBy" "I") ∈ wG := tz_6 (List.mem_of_getElem? (i := 196) rfl) rfl
theorem kw_2029 : (Jvm.Cond.code ({ cls := "SameStarModel", name := "lookOut", desc := "(III)V" } : Jvm.MethodName) prog_14_method_100_code (9 : Nat) (Option.none : Option Jvm.ClassFile.FieldType)) ∈ wG := tz_9 (List.mem_of_getElem? (i := 12) rfl) rfl
theorem kw_2026 : (Jvm.Cond.methodLink "SameStarModel" (440 : Nat) ({ cls := "SameStarModel", name := "lookOut", desc := "(III)V" } : Jvm.MethodName)) ∈ wG := tz_9 (List.mem_of_getElem? (i := 9) rfl) rfl
theorem kw_2028 : (Jvm.Cond.instanceMethod ({ cls := "SameStarModel", name := "lookOut", desc := "(III)V" } : Jvm.MethodName)) ∈ wG := tz_9 (List.mem_of_getElem? (i := 11) rfl) rfl
theorem kw_85 : (Cond.selects "SameStarModel" ⟨"SameStarModel", "lookOut", "(III)V"⟩ ⟨"SameStarModel", "lookOut", "(III)V"⟩) ∈ wG := wG_of 85 (by decide +kernel) rfl
theorem kw_2025 : (Jvm.Cond.code ({ cls := "SameStarModel", name := "next", desc := "(III)I" } : Jvm.MethodName) prog_14_method_101_code (5 : Nat) (Option.some Jvm.ClassFile.FieldType.int)) ∈ wG := tz_9 (List.mem_of_getElem? (i := 8) rfl) rfl
theorem kw_1494 : (Jvm.Cond.fieldLink "SameStarModel" (443 : Nat) "SameStarModel" "traces" "I") ∈ wG := tz_6 (List.mem_of_getElem? (i := 197) rfl) rfl
theorem kw_2041 : (Jvm.Cond.code ({ cls := "SameStarModel", name := "ran", desc := "(I)V" } : Jvm.MethodName) prog_14_method_102_code (2 : Nat) (Option.none : Option Jvm.ClassFile.FieldType)) ∈ wG := tz_9 (List.mem_of_getElem? (i := 24) rfl) rfl
theorem kw_2038 : (Jvm.Cond.methodLink "SameStarModel" (446 : Nat) ({ cls := "SameStarModel", name := "ran", desc := "(I)V" } : Jvm.MethodName)) ∈ wG := tz_9 (List.mem_of_getElem? (i := 21) rfl) rfl
theorem kw_2040 : (Jvm.Cond.instanceMethod ({ cls := "SameStarModel", name := "ran", desc := "(I)V" } : Jvm.MethodName)) ∈ wG := tz_9 (List.mem_of_getElem? (i := 23) rfl) rfl
theorem kw_87 : (Cond.selects "SameStarModel" ⟨"SameStarModel", "ran", "(I)V"⟩ ⟨"SameStarModel", "ran", "(I)V"⟩) ∈ wG := wG_of 87 (by decide +kernel) rfl
theorem kw_2045 : (Jvm.Cond.code ({ cls := "SameStarModel", name := "plainDates", desc := "(II)I" } : Jvm.MethodName) prog_14_method_103_code (3 : Nat) (Option.some Jvm.ClassFile.FieldType.int)) ∈ wG := tz_9 (List.mem_of_getElem? (i := 28) rfl) rfl
theorem kw_2042 : (Jvm.Cond.methodLink "SameStarModel" (449 : Nat) ({ cls := "SameStarModel", name := "plainDates", desc := "(II)I" } : Jvm.MethodName)) ∈ wG := tz_9 (List.mem_of_getElem? (i := 25) rfl) rfl
theorem kw_2044 : (Jvm.Cond.instanceMethod ({ cls := "SameStarModel", name := "plainDates", desc := "(II)I" } : Jvm.MethodName)) ∈ wG := tz_9 (List.mem_of_getElem? (i := 27) rfl) rfl
theorem kw_88 : (Cond.selects "SameStarModel" ⟨"SameStarModel", "plainDates", "(II)I"⟩ ⟨"SameStarModel", "plainDates", "(II)I"⟩) ∈ wG := wG_of 88 (by decide +kernel) rfl
theorem kw_2037 : (Jvm.Cond.code ({ cls := "SameStarModel", name := "dates", desc := "(II)I" } : Jvm.MethodName) prog_14_method_104_code (3 : Nat) (Option.some Jvm.ClassFile.FieldType.int)) ∈ wG := tz_9 (List.mem_of_getElem? (i := 20) rfl) rfl
theorem kw_2034 : (Jvm.Cond.methodLink "SameStarModel" (452 : Nat) ({ cls := "SameStarModel", name := "dates", desc := "(II)I" } : Jvm.MethodName)) ∈ wG := tz_9 (List.mem_of_getElem? (i := 17) rfl) rfl
theorem kw_2036 : (Jvm.Cond.instanceMethod ({ cls := "SameStarModel", name := "dates", desc := "(II)I" } : Jvm.MethodName)) ∈ wG := tz_9 (List.mem_of_getElem? (i := 19) rfl) rfl
theorem kw_86 : (Cond.selects "SameStarModel" ⟨"SameStarModel", "dates", "(II)I"⟩ ⟨"SameStarModel", "dates", "(II)I"⟩) ∈ wG := wG_of 86 (by decide +kernel) rfl
theorem kw_2057 : (Jvm.Cond.code ({ cls := "SameStarModel", name := "plainPlaces", desc := "(II)I" } : Jvm.MethodName) prog_14_method_105_code (3 : Nat) (Option.some Jvm.ClassFile.FieldType.int)) ∈ wG := tz_9 (List.mem_of_getElem? (i := 40) rfl) rfl
theorem kw_2054 : (Jvm.Cond.methodLink "SameStarModel" (455 : Nat) ({ cls := "SameStarModel", name := "plainPlaces", desc := "(II)I" } : Jvm.MethodName)) ∈ wG := tz_9 (List.mem_of_getElem? (i := 37) rfl) rfl
theorem kw_2056 : (Jvm.Cond.instanceMethod ({ cls := "SameStarModel", name := "plainPlaces", desc := "(II)I" } : Jvm.MethodName)) ∈ wG := tz_9 (List.mem_of_getElem? (i := 39) rfl) rfl
theorem kw_91 : (Cond.selects "SameStarModel" ⟨"SameStarModel", "plainPlaces", "(II)I"⟩ ⟨"SameStarModel", "plainPlaces", "(II)I"⟩) ∈ wG := wG_of 91 (by decide +kernel) rfl
theorem kw_2053 : (Jvm.Cond.code ({ cls := "SameStarModel", name := "placedPlaces", desc := "(II)I" } : Jvm.MethodName) prog_14_method_106_code (3 : Nat) (Option.some Jvm.ClassFile.FieldType.int)) ∈ wG := tz_9 (List.mem_of_getElem? (i := 36) rfl) rfl
theorem kw_2050 : (Jvm.Cond.methodLink "SameStarModel" (458 : Nat) ({ cls := "SameStarModel", name := "placedPlaces", desc := "(II)I" } : Jvm.MethodName)) ∈ wG := tz_9 (List.mem_of_getElem? (i := 33) rfl) rfl
theorem kw_2052 : (Jvm.Cond.instanceMethod ({ cls := "SameStarModel", name := "placedPlaces", desc := "(II)I" } : Jvm.MethodName)) ∈ wG := tz_9 (List.mem_of_getElem? (i := 35) rfl) rfl
theorem kw_90 : (Cond.selects "SameStarModel" ⟨"SameStarModel", "placedPlaces", "(II)I"⟩ ⟨"SameStarModel", "placedPlaces", "(II)I"⟩) ∈ wG := wG_of 90 (by decide +kernel) rfl
theorem kw_2058 : (Jvm.Cond.methodLink "SameStarModel" (461 : Nat) ({ cls := "SameStarModel", name := "suits", desc := "(II)I" } : Jvm.MethodName)) ∈ wG := tz_9 (List.mem_of_getElem? (i := 41) rfl) rfl
theorem kw_2060 : (Jvm.Cond.instanceMethod ({ cls := "SameStarModel", name := "suits", desc := "(II)I" } : Jvm.MethodName)) ∈ wG := tz_9 (List.mem_of_getElem? (i := 43) rfl) rfl
theorem kw_92 : (Cond.selects "SameStarModel" ⟨"SameStarModel", "suits", "(II)I"⟩ ⟨"SameStarModel", "suits", "(II)I"⟩) ∈ wG := wG_of 92 (by decide +kernel) rfl
theorem kw_2049 : (Jvm.Cond.code ({ cls := "SameStarModel", name := "places", desc := "(II)I" } : Jvm.MethodName) prog_14_method_107_code (4 : Nat) (Option.some Jvm.ClassFile.FieldType.int)) ∈ wG := tz_9 (List.mem_of_getElem? (i := 32) rfl) rfl
theorem kw_2065 : (Jvm.Cond.code ({ cls := "SameStarModel", name := "plainSuits", desc := "(II)I" } : Jvm.MethodName) prog_14_method_108_code (3 : Nat) (Option.some Jvm.ClassFile.FieldType.int)) ∈ wG := tz_9 (List.mem_of_getElem? (i := 48) rfl) rfl
theorem kw_2062 : (Jvm.Cond.methodLink "SameStarModel" (464 : Nat) ({ cls := "SameStarModel", name := "plainSuits", desc := "(II)I" } : Jvm.MethodName)) ∈ wG := tz_9 (List.mem_of_getElem? (i := 45) rfl) rfl
theorem kw_2064 : (Jvm.Cond.instanceMethod ({ cls := "SameStarModel", name := "plainSuits", desc := "(II)I" } : Jvm.MethodName)) ∈ wG := tz_9 (List.mem_of_getElem? (i := 47) rfl) rfl
theorem kw_93 : (Cond.selects "SameStarModel" ⟨"SameStarModel", "plainSuits", "(II)I"⟩ ⟨"SameStarModel", "plainSuits", "(II)I"⟩) ∈ wG := wG_of 93 (by decide +kernel) rfl
theorem kw_2061 : (Jvm.Cond.code ({ cls := "SameStarModel", name := "suits", desc := "(II)I" } : Jvm.MethodName) prog_14_method_109_code (3 : Nat) (Option.some Jvm.ClassFile.FieldType.int)) ∈ wG := tz_9 (List.mem_of_getElem? (i := 44) rfl) rfl
theorem kw_2046 : (Jvm.Cond.methodLink "SameStarModel" (467 : Nat) ({ cls := "SameStarModel", name := "places", desc := "(II)I" } : Jvm.MethodName)) ∈ wG := tz_9 (List.mem_of_getElem? (i := 29) rfl) rfl
theorem kw_2048 : (Jvm.Cond.instanceMethod ({ cls := "SameStarModel", name := "places", desc := "(II)I" } : Jvm.MethodName)) ∈ wG := tz_9 (List.mem_of_getElem? (i := 31) rfl) rfl
theorem kw_89 : (Cond.selects "SameStarModel" ⟨"SameStarModel", "places", "(II)I"⟩ ⟨"SameStarModel", "places", "(II)I"⟩) ∈ wG := wG_of 89 (by decide +kernel) rfl
theorem kw_2073 : (Jvm.Cond.code ({ cls := "SameStarModel", name := "plainTells", desc := "(II)I" } : Jvm.MethodName) prog_14_method_110_code (4 : Nat) (Option.some Jvm.ClassFile.FieldType.int)) ∈ wG := tz_9 (List.mem_of_getElem? (i := 56) rfl) rfl
theorem kw_2070 : (Jvm.Cond.methodLink "SameStarModel" (470 : Nat) ({ cls := "SameStarModel", name := "plainTells", desc := "(II)I" } : Jvm.MethodName)) ∈ wG := tz_9 (List.mem_of_getElem? (i := 53) rfl) rfl
theorem kw_2072 : (Jvm.Cond.instanceMethod ({ cls := "SameStarModel", name := "plainTells", desc := "(II)I" } : Jvm.MethodName)) ∈ wG := tz_9 (List.mem_of_getElem? (i := 55) rfl) rfl
theorem kw_95 : (Cond.selects "SameStarModel" ⟨"SameStarModel", "plainTells", "(II)I"⟩ ⟨"SameStarModel", "plainTells", "(II)I"⟩) ∈ wG := wG_of 95 (by decide +kernel) rfl
theorem kw_2069 : (Jvm.Cond.code ({ cls := "SameStarModel", name := "tells", desc := "(II)I" } : Jvm.MethodName) prog_14_method_111_code (3 : Nat) (Option.some Jvm.ClassFile.FieldType.int)) ∈ wG := tz_9 (List.mem_of_getElem? (i := 52) rfl) rfl
theorem kw_2066 : (Jvm.Cond.methodLink "SameStarModel" (473 : Nat) ({ cls := "SameStarModel", name := "tells", desc := "(II)I" } : Jvm.MethodName)) ∈ wG := tz_9 (List.mem_of_getElem? (i := 49) rfl) rfl
theorem kw_2068 : (Jvm.Cond.instanceMethod ({ cls := "SameStarModel", name := "tells", desc := "(II)I" } : Jvm.MethodName)) ∈ wG := tz_9 (List.mem_of_getElem? (i := 51) rfl) rfl
theorem kw_94 : (Cond.selects "SameStarModel" ⟨"SameStarModel", "tells", "(II)I"⟩ ⟨"SameStarModel", "tells", "(II)I"⟩) ∈ wG := wG_of 94 (by decide +kernel) rfl
theorem kw_2033 : (Jvm.Cond.code ({ cls := "SameStarModel", name := "act", desc := "(III)I" } : Jvm.MethodName) prog_14_method_112_code (4 : Nat) (Option.some Jvm.ClassFile.FieldType.int)) ∈ wG := tz_9 (List.mem_of_getElem? (i := 16) rfl) rfl
theorem kw_2077 : (Jvm.Cond.code ({ cls := "SameStarModel", name := "trace", desc := "(I)I" } : Jvm.MethodName) prog_14_method_113_code (2 : Nat) (Option.some Jvm.ClassFile.FieldType.int)) ∈ wG := tz_9 (List.mem_of_getElem? (i := 60) rfl) rfl
theorem kw_2081 : (Jvm.Cond.code ({ cls := "SameStarModel", name := "count", desc := "(I)I" } : Jvm.MethodName) prog_14_method_114_code (2 : Nat) (Option.some Jvm.ClassFile.FieldType.int)) ∈ wG := tz_9 (List.mem_of_getElem? (i := 64) rfl) rfl
theorem kw_1859 : (Jvm.Cond.code ({ cls := "SameStarModel", name := "isShelf", desc := "(I)Z" } : Jvm.MethodName) prog_14_method_115_code (1 : Nat) (Option.some Jvm.ClassFile.FieldType.boolean)) ∈ wG := tz_8 (List.mem_of_getElem? (i := 82) rfl) rfl
theorem kw_2085 : (Jvm.Cond.code ({ cls := "SameStarModel", name := "keep", desc := "(II)I" } : Jvm.MethodName) prog_14_method_116_code (3 : Nat) (Option.some Jvm.ClassFile.FieldType.int)) ∈ wG := tz_9 (List.mem_of_getElem? (i := 68) rfl) rfl
theorem kw_2089 : (Jvm.Cond.code ({ cls := "SameStarModel", name := "row", desc := "(III)I" } : Jvm.MethodName) prog_14_method_117_code (5 : Nat) (Option.some Jvm.ClassFile.FieldType.int)) ∈ wG := tz_9 (List.mem_of_getElem? (i := 72) rfl) rfl
theorem kw_2097 : (Jvm.Cond.code ({ cls := "SameStarModel", name := "whyNoPlace", desc := "(II)I" } : Jvm.MethodName) prog_14_method_118_code (3 : Nat) (Option.some Jvm.ClassFile.FieldType.int)) ∈ wG := tz_9 (List.mem_of_getElem? (i := 80) rfl) rfl
theorem kw_2094 : (Jvm.Cond.methodLink "SameStarModel" (476 : Nat) ({ cls := "SameStarModel", name := "whyNoPlace", desc := "(II)I" } : Jvm.MethodName)) ∈ wG := tz_9 (List.mem_of_getElem? (i := 77) rfl) rfl
theorem kw_2096 : (Jvm.Cond.instanceMethod ({ cls := "SameStarModel", name := "whyNoPlace", desc := "(II)I" } : Jvm.MethodName)) ∈ wG := tz_9 (List.mem_of_getElem? (i := 79) rfl) rfl
theorem kw_96 : (Cond.selects "SameStarModel" ⟨"SameStarModel", "whyNoPlace", "(II)I"⟩ ⟨"SameStarModel", "whyNoPlace", "(II)I"⟩) ∈ wG := wG_of 96 (by decide +kernel) rfl
theorem kw_2093 : (Jvm.Cond.code ({ cls := "SameStarModel", name := "put", desc := "(IIJ)I" } : Jvm.MethodName) prog_14_method_119_code (7 : Nat) (Option.some Jvm.ClassFile.FieldType.int)) ∈ wG := tz_9 (List.mem_of_getElem? (i := 76) rfl) rfl
theorem kw_2102 : (Jvm.Cond.constantLong "SameStarModel" (481 : Nat) (-9223372036854775808 : Int64)) ∈ wG := tz_9 (List.mem_of_getElem? (i := 85) rfl) rfl
theorem kw_2101 : (Jvm.Cond.code ({ cls := "SameStarModel", name := "element", desc := "(II)J" } : Jvm.MethodName) prog_14_method_120_code (3 : Nat) (Option.some Jvm.ClassFile.FieldType.long)) ∈ wG := tz_9 (List.mem_of_getElem? (i := 84) rfl) rfl
theorem kw_2106 : (Jvm.Cond.code ({ cls := "SameStarModel", name := "shift", desc := "(IIIII)I" } : Jvm.MethodName) prog_14_method_121_code (7 : Nat) (Option.some Jvm.ClassFile.FieldType.int)) ∈ wG := tz_9 (List.mem_of_getElem? (i := 89) rfl) rfl
theorem kw_2111 : (Jvm.Cond.methodLink "SameStarModel" (483 : Nat) ({ cls := "SameStarModel", name := "isUnder", desc := "(II)Z" } : Jvm.MethodName)) ∈ wG := tz_9 (List.mem_of_getElem? (i := 94) rfl) rfl
theorem kw_2112 : (Jvm.Cond.static ({ cls := "SameStarModel", name := "isUnder", desc := "(II)Z" } : Jvm.MethodName)) ∈ wG := tz_9 (List.mem_of_getElem? (i := 95) rfl) rfl
theorem kw_2110 : (Jvm.Cond.code ({ cls := "SameStarModel", name := "taken", desc := "(II)I" } : Jvm.MethodName) prog_14_method_122_code (3 : Nat) (Option.some Jvm.ClassFile.FieldType.int)) ∈ wG := tz_9 (List.mem_of_getElem? (i := 93) rfl) rfl
theorem kw_1158 : (Jvm.Cond.constant "java/lang/Integer" (265 : Nat) (1431655765 : Int32)) ∈ wG := tz_5 (List.mem_of_getElem? (i := 101) rfl) rfl
theorem kw_1159 : (Jvm.Cond.constant "java/lang/Integer" (266 : Nat) (858993459 : Int32)) ∈ wG := tz_5 (List.mem_of_getElem? (i := 102) rfl) rfl
theorem kw_1160 : (Jvm.Cond.constant "java/lang/Integer" (267 : Nat) (252645135 : Int32)) ∈ wG := tz_5 (List.mem_of_getElem? (i := 103) rfl) rfl
theorem kw_1157 : (Jvm.Cond.code ({ cls := "java/lang/Integer", name := "bitCount", desc := "(I)I" } : Jvm.MethodName) prog_16_method_49_code (1 : Nat) (Option.some Jvm.ClassFile.FieldType.int)) ∈ wG := tz_5 (List.mem_of_getElem? (i := 100) rfl) rfl
theorem kw_119 : (Jvm.Cond.initialized "java/lang/Integer") ∈ wG := tz_1 (List.mem_of_getElem? (i := 22) rfl) rfl
theorem kw_1164 : (Jvm.Cond.constantLong "java/lang/Long" (314 : Nat) (6148914691236517205 : Int64)) ∈ wG := tz_5 (List.mem_of_getElem? (i := 107) rfl) rfl
theorem kw_1165 : (Jvm.Cond.constantLong "java/lang/Long" (316 : Nat) (3689348814741910323 : Int64)) ∈ wG := tz_5 (List.mem_of_getElem? (i := 108) rfl) rfl
theorem kw_1166 : (Jvm.Cond.constantLong "java/lang/Long" (318 : Nat) (1085102592571150095 : Int64)) ∈ wG := tz_5 (List.mem_of_getElem? (i := 109) rfl) rfl
theorem kw_1163 : (Jvm.Cond.code ({ cls := "java/lang/Long", name := "bitCount", desc := "(J)I" } : Jvm.MethodName) prog_17_method_50_code (2 : Nat) (Option.some Jvm.ClassFile.FieldType.int)) ∈ wG := tz_5 (List.mem_of_getElem? (i := 106) rfl) rfl
theorem kw_120 : (Jvm.Cond.initialized "java/lang/Long") ∈ wG := tz_1 (List.mem_of_getElem? (i := 23) rfl) rfl
theorem kw_425 : (Jvm.Cond.code ({ cls := "java/util/Arrays", name := "fill", desc := "([JJ)V" } : Jvm.MethodName) prog_23_method_101_code (5 : Nat) (Option.none : Option Jvm.ClassFile.FieldType)) ∈ wG := tz_2 (List.mem_of_getElem? (i := 88) rfl) rfl
theorem kw_104 : (Jvm.Cond.initialized "java/util/Arrays") ∈ wG := tz_1 (List.mem_of_getElem? (i := 7) rfl) rfl
theorem kw_231 : (Jvm.Cond.code ({ cls := "java/util/Arrays", name := "fill", desc := "([II)V" } : Jvm.MethodName) prog_23_method_103_code (4 : Nat) (Option.none : Option Jvm.ClassFile.FieldType)) ∈ wG := tz_1 (List.mem_of_getElem? (i := 134) rfl) rfl
theorem kw_484 : (Jvm.Cond.code ({ cls := "java/lang/Math", name := "abs", desc := "(I)I" } : Jvm.MethodName) prog_18_method_59_code (1 : Nat) (Option.some Jvm.ClassFile.FieldType.int)) ∈ wG := tz_2 (List.mem_of_getElem? (i := 147) rfl) rfl
theorem kw_630 : (Jvm.Cond.code ({ cls := "java/lang/Math", name := "max", desc := "(II)I" } : Jvm.MethodName) prog_18_method_65_code (2 : Nat) (Option.some Jvm.ClassFile.FieldType.int)) ∈ wG := tz_3 (List.mem_of_getElem? (i := 53) rfl) rfl
theorem kw_608 : (Jvm.Cond.code ({ cls := "java/lang/Math", name := "min", desc := "(II)I" } : Jvm.MethodName) prog_18_method_69_code (2 : Nat) (Option.some Jvm.ClassFile.FieldType.int)) ∈ wG := tz_3 (List.mem_of_getElem? (i := 31) rfl) rfl
theorem kw_128 : (Jvm.Cond.code ({ cls := "java/lang/Object", name := "<init>", desc := "()V" } : Jvm.MethodName) object_method_1_code (1 : Nat) (Option.none : Option Jvm.ClassFile.FieldType)) ∈ wG := tz_1 (List.mem_of_getElem? (i := 31) rfl) rfl
theorem k_mabs : Cond.code Lib.Math.abs.name Lib.Math.abs.code 1 (some .int) ∈ wG := kw_484
theorem k_mmax : Cond.code Lib.Math.max.name Lib.Math.max.code 2 (some .int) ∈ wG := kw_630
theorem k_mmin : Cond.code Lib.Math.min.name Lib.Math.min.code 2 (some .int) ∈ wG := kw_608
theorem k_obj : Cond.code Lib.objectInit ⟨#[0xb1]⟩ 1 none ∈ wG := kw_128
theorem iX0 : ∀ w ∈ u_ws RX0 TX0 2, w ∈ wG := by decide +kernel
theorem iX1 : ∀ w ∈ u_ws RX1 TX1 11, w ∈ wG := by decide +kernel
theorem iX2 : ∀ w ∈ u_ws RX2 TX2 14, w ∈ wG := by decide +kernel
theorem iX3 : ∀ w ∈ u_ws RX3 TX3 3, w ∈ wG := by decide +kernel
theorem iX4 : ∀ w ∈ u_ws RX4 TX4 5, w ∈ wG := by decide +kernel
theorem iX5 : ∀ w ∈ u_ws RX5 TX5 5, w ∈ wG := by decide +kernel
theorem iX6 : ∀ w ∈ u_ws RX6 TX6 5, w ∈ wG := by decide +kernel
theorem iX7 : ∀ w ∈ u_ws RX7 TX7 15, w ∈ wG := by decide +kernel
theorem iX8 : ∀ w ∈ u_ws RX8 TX8 6, w ∈ wG := by decide +kernel
theorem iX9 : ∀ w ∈ u_ws RX9 TX9 2, w ∈ wG := by decide +kernel
theorem iX10 : ∀ w ∈ u_ws RX10 TX10 13, w ∈ wG := by decide +kernel
theorem iX11 : ∀ w ∈ u_ws RX11 TX11 8, w ∈ wG := by decide +kernel
theorem iX12 : ∀ w ∈ u_ws RX12 TX12 69, w ∈ wG := by decide +kernel
theorem fc_X0_init : Cond.code mX0_init.1 mX0_init.2.1 mX0_init.2.2.1 mX0_init.2.2.2.1 ∈ wG := kw_349
theorem fi_X0_init : Cond.initialized mX0_init.1.cls ∈ wG := kw_107
theorem fd_X0_init : mX0_init.1.cls ≠ "java/lang/invoke/MethodHandle" ∧ mX0_init.1.cls ≠ "java/lang/invoke/VarHandle" ∧ (parseMethodDescriptor mX0_init.1.desc).map (fun d => d.parameters.length) = some 0 := by decide +kernel
theorem fc_X0_clear : Cond.code mX0_clear.1 mX0_clear.2.1 mX0_clear.2.2.1 mX0_clear.2.2.2.1 ∈ wG := kw_1328
theorem fi_X0_clear : Cond.initialized mX0_clear.1.cls ∈ wG := kw_107
theorem fd_X0_clear : mX0_clear.1.cls ≠ "java/lang/invoke/MethodHandle" ∧ mX0_clear.1.cls ≠ "java/lang/invoke/VarHandle" ∧ (parseMethodDescriptor mX0_clear.1.desc).map (fun d => d.parameters.length) = some 0 := by decide +kernel
theorem fc_X0_bodyAt : Cond.code mX0_bodyAt.1 mX0_bodyAt.2.1 mX0_bodyAt.2.2.1 mX0_bodyAt.2.2.2.1 ∈ wG := kw_1356
theorem fi_X0_bodyAt : Cond.initialized mX0_bodyAt.1.cls ∈ wG := kw_107
theorem fd_X0_bodyAt : mX0_bodyAt.1.cls ≠ "java/lang/invoke/MethodHandle" ∧ mX0_bodyAt.1.cls ≠ "java/lang/invoke/VarHandle" ∧ (parseMethodDescriptor mX0_bodyAt.1.desc).map (fun d => d.parameters.length) = some 1 := by decide +kernel
theorem fc_X0_perform : Cond.code mX0_perform.1 mX0_perform.2.1 mX0_perform.2.2.1 mX0_perform.2.2.2.1 ∈ wG := kw_1332
theorem fi_X0_perform : Cond.initialized mX0_perform.1.cls ∈ wG := kw_107
theorem fd_X0_perform : mX0_perform.1.cls ≠ "java/lang/invoke/MethodHandle" ∧ mX0_perform.1.cls ≠ "java/lang/invoke/VarHandle" ∧ (parseMethodDescriptor mX0_perform.1.desc).map (fun d => d.parameters.length) = some 3 := by decide +kernel
theorem fc_X0_call : Cond.code mX0_call.1 mX0_call.2.1 mX0_call.2.2.1 mX0_call.2.2.2.1 ∈ wG := kw_1336
theorem fi_X0_call : Cond.initialized mX0_call.1.cls ∈ wG := kw_107
theorem fd_X0_call : mX0_call.1.cls ≠ "java/lang/invoke/MethodHandle" ∧ mX0_call.1.cls ≠ "java/lang/invoke/VarHandle" ∧ (parseMethodDescriptor mX0_call.1.desc).map (fun d => d.parameters.length) = some 5 := by decide +kernel
theorem fc_X0_runBody : Cond.code mX0_runBody.1 mX0_runBody.2.1 mX0_runBody.2.2.1 mX0_runBody.2.2.2.1 ∈ wG := kw_1343
theorem fi_X0_runBody : Cond.initialized mX0_runBody.1.cls ∈ wG := kw_107
theorem fd_X0_runBody : mX0_runBody.1.cls ≠ "java/lang/invoke/MethodHandle" ∧ mX0_runBody.1.cls ≠ "java/lang/invoke/VarHandle" ∧ (parseMethodDescriptor mX0_runBody.1.desc).map (fun d => d.parameters.length) = some 4 := by decide +kernel
theorem fc_X1_init : Cond.code mX1_init.1 mX1_init.2.1 mX1_init.2.2.1 mX1_init.2.2.2.1 ∈ wG := kw_223
theorem fi_X1_init : Cond.initialized mX1_init.1.cls ∈ wG := kw_103
theorem fd_X1_init : mX1_init.1.cls ≠ "java/lang/invoke/MethodHandle" ∧ mX1_init.1.cls ≠ "java/lang/invoke/VarHandle" ∧ (parseMethodDescriptor mX1_init.1.desc).map (fun d => d.parameters.length) = some 0 := by decide +kernel
theorem fc_X1_reckoningOf : Cond.code mX1_reckoningOf.1 mX1_reckoningOf.2.1 mX1_reckoningOf.2.2.1 mX1_reckoningOf.2.2.2.1 ∈ wG := kw_678
theorem fi_X1_reckoningOf : Cond.initialized mX1_reckoningOf.1.cls ∈ wG := kw_103
theorem fd_X1_reckoningOf : mX1_reckoningOf.1.cls ≠ "java/lang/invoke/MethodHandle" ∧ mX1_reckoningOf.1.cls ≠ "java/lang/invoke/VarHandle" ∧ (parseMethodDescriptor mX1_reckoningOf.1.desc).map (fun d => d.parameters.length) = some 1 := by decide +kernel
theorem fc_X1_wordAt : Cond.code mX1_wordAt.1 mX1_wordAt.2.1 mX1_wordAt.2.2.1 mX1_wordAt.2.2.2.1 ∈ wG := kw_838
theorem fi_X1_wordAt : Cond.initialized mX1_wordAt.1.cls ∈ wG := kw_103
theorem fd_X1_wordAt : mX1_wordAt.1.cls ≠ "java/lang/invoke/MethodHandle" ∧ mX1_wordAt.1.cls ≠ "java/lang/invoke/VarHandle" ∧ (parseMethodDescriptor mX1_wordAt.1.desc).map (fun d => d.parameters.length) = some 1 := by decide +kernel
theorem fc_X1_isToldReign : Cond.code mX1_isToldReign.1 mX1_isToldReign.2.1 mX1_isToldReign.2.2.1 mX1_isToldReign.2.2.2.1 ∈ wG := kw_846
theorem fi_X1_isToldReign : Cond.initialized mX1_isToldReign.1.cls ∈ wG := kw_103
theorem fd_X1_isToldReign : mX1_isToldReign.1.cls ≠ "java/lang/invoke/MethodHandle" ∧ mX1_isToldReign.1.cls ≠ "java/lang/invoke/VarHandle" ∧ (parseMethodDescriptor mX1_isToldReign.1.desc).map (fun d => d.parameters.length) = some 1 := by decide +kernel
theorem fc_X1_canBear : Cond.code mX1_canBear.1 mX1_canBear.2.1 mX1_canBear.2.2.1 mX1_canBear.2.2.2.1 ∈ wG := kw_888
theorem fi_X1_canBear : Cond.initialized mX1_canBear.1.cls ∈ wG := kw_103
theorem fd_X1_canBear : mX1_canBear.1.cls ≠ "java/lang/invoke/MethodHandle" ∧ mX1_canBear.1.cls ≠ "java/lang/invoke/VarHandle" ∧ (parseMethodDescriptor mX1_canBear.1.desc).map (fun d => d.parameters.length) = some 2 := by decide +kernel
theorem fc_X1_addWord : Cond.code mX1_addWord.1 mX1_addWord.2.1 mX1_addWord.2.2.1 mX1_addWord.2.2.2.1 ∈ wG := kw_972
theorem fi_X1_addWord : Cond.initialized mX1_addWord.1.cls ∈ wG := kw_103
theorem fd_X1_addWord : mX1_addWord.1.cls ≠ "java/lang/invoke/MethodHandle" ∧ mX1_addWord.1.cls ≠ "java/lang/invoke/VarHandle" ∧ (parseMethodDescriptor mX1_addWord.1.desc).map (fun d => d.parameters.length) = some 2 := by decide +kernel
theorem fc_X1_tellReign : Cond.code mX1_tellReign.1 mX1_tellReign.2.1 mX1_tellReign.2.2.1 mX1_tellReign.2.2.2.1 ∈ wG := kw_871
theorem fi_X1_tellReign : Cond.initialized mX1_tellReign.1.cls ∈ wG := kw_103
theorem fd_X1_tellReign : mX1_tellReign.1.cls ≠ "java/lang/invoke/MethodHandle" ∧ mX1_tellReign.1.cls ≠ "java/lang/invoke/VarHandle" ∧ (parseMethodDescriptor mX1_tellReign.1.desc).map (fun d => d.parameters.length) = some 3 := by decide +kernel
theorem fc_X1_settleWordsOf : Cond.code mX1_settleWordsOf.1 mX1_settleWordsOf.2.1 mX1_settleWordsOf.2.2.1 mX1_settleWordsOf.2.2.2.1 ∈ wG := kw_834
theorem fi_X1_settleWordsOf : Cond.initialized mX1_settleWordsOf.1.cls ∈ wG := kw_103
theorem fd_X1_settleWordsOf : mX1_settleWordsOf.1.cls ≠ "java/lang/invoke/MethodHandle" ∧ mX1_settleWordsOf.1.cls ≠ "java/lang/invoke/VarHandle" ∧ (parseMethodDescriptor mX1_settleWordsOf.1.desc).map (fun d => d.parameters.length) = some 1 := by decide +kernel
theorem fc_X1_settleSpans : Cond.code mX1_settleSpans.1 mX1_settleSpans.2.1 mX1_settleSpans.2.2.1 mX1_settleSpans.2.2.2.1 ∈ wG := kw_842
theorem fi_X1_settleSpans : Cond.initialized mX1_settleSpans.1.cls ∈ wG := kw_103
theorem fd_X1_settleSpans : mX1_settleSpans.1.cls ≠ "java/lang/invoke/MethodHandle" ∧ mX1_settleSpans.1.cls ≠ "java/lang/invoke/VarHandle" ∧ (parseMethodDescriptor mX1_settleSpans.1.desc).map (fun d => d.parameters.length) = some 1 := by decide +kernel
theorem fc_X1_reckonedDay : Cond.code mX1_reckonedDay.1 mX1_reckonedDay.2.1 mX1_reckonedDay.2.2.1 mX1_reckonedDay.2.2.2.1 ∈ wG := kw_851
theorem fi_X1_reckonedDay : Cond.initialized mX1_reckonedDay.1.cls ∈ wG := kw_103
theorem fd_X1_reckonedDay : mX1_reckonedDay.1.cls ≠ "java/lang/invoke/MethodHandle" ∧ mX1_reckonedDay.1.cls ≠ "java/lang/invoke/VarHandle" ∧ (parseMethodDescriptor mX1_reckonedDay.1.desc).map (fun d => d.parameters.length) = some 2 := by decide +kernel
theorem fc_X1_firstCommonDay : Cond.code mX1_firstCommonDay.1 mX1_firstCommonDay.2.1 mX1_firstCommonDay.2.2.1 mX1_firstCommonDay.2.2.2.1 ∈ wG := kw_1109
theorem fi_X1_firstCommonDay : Cond.initialized mX1_firstCommonDay.1.cls ∈ wG := kw_103
theorem fd_X1_firstCommonDay : mX1_firstCommonDay.1.cls ≠ "java/lang/invoke/MethodHandle" ∧ mX1_firstCommonDay.1.cls ≠ "java/lang/invoke/VarHandle" ∧ (parseMethodDescriptor mX1_firstCommonDay.1.desc).map (fun d => d.parameters.length) = some 2 := by decide +kernel
theorem fc_X1_countRoots : Cond.code mX1_countRoots.1 mX1_countRoots.2.1 mX1_countRoots.2.2.1 mX1_countRoots.2.2.2.1 ∈ wG := kw_1128
theorem fi_X1_countRoots : Cond.initialized mX1_countRoots.1.cls ∈ wG := kw_103
theorem fd_X1_countRoots : mX1_countRoots.1.cls ≠ "java/lang/invoke/MethodHandle" ∧ mX1_countRoots.1.cls ≠ "java/lang/invoke/VarHandle" ∧ (parseMethodDescriptor mX1_countRoots.1.desc).map (fun d => d.parameters.length) = some 1 := by decide +kernel
theorem fc_X2_init : Cond.code mX2_init.1 mX2_init.2.1 mX2_init.2.2.1 mX2_init.2.2.2.1 ∈ wG := kw_476
theorem fi_X2_init : Cond.initialized mX2_init.1.cls ∈ wG := kw_110
theorem fd_X2_init : mX2_init.1.cls ≠ "java/lang/invoke/MethodHandle" ∧ mX2_init.1.cls ≠ "java/lang/invoke/VarHandle" ∧ (parseMethodDescriptor mX2_init.1.desc).map (fun d => d.parameters.length) = some 7 := by decide +kernel
theorem fc_X2_hasReturn : Cond.code mX2_hasReturn.1 mX2_hasReturn.2.1 mX2_hasReturn.2.2.1 mX2_hasReturn.2.2.2.1 ∈ wG := kw_574
theorem fi_X2_hasReturn : Cond.initialized mX2_hasReturn.1.cls ∈ wG := kw_110
theorem fd_X2_hasReturn : mX2_hasReturn.1.cls ≠ "java/lang/invoke/MethodHandle" ∧ mX2_hasReturn.1.cls ≠ "java/lang/invoke/VarHandle" ∧ (parseMethodDescriptor mX2_hasReturn.1.desc).map (fun d => d.parameters.length) = some 1 := by decide +kernel
theorem fc_X2_passOf : Cond.code mX2_passOf.1 mX2_passOf.2.1 mX2_passOf.2.2.1 mX2_passOf.2.2.2.1 ∈ wG := kw_444
theorem fi_X2_passOf : Cond.initialized mX2_passOf.1.cls ∈ wG := kw_110
theorem fd_X2_passOf : mX2_passOf.1.cls ≠ "java/lang/invoke/MethodHandle" ∧ mX2_passOf.1.cls ≠ "java/lang/invoke/VarHandle" ∧ (parseMethodDescriptor mX2_passOf.1.desc).map (fun d => d.parameters.length) = some 1 := by decide +kernel
theorem fc_X2_setPass : Cond.code mX2_setPass.1 mX2_setPass.2.1 mX2_setPass.2.2.1 mX2_setPass.2.2.2.1 ∈ wG := kw_437
theorem fi_X2_setPass : Cond.initialized mX2_setPass.1.cls ∈ wG := kw_110
theorem fd_X2_setPass : mX2_setPass.1.cls ≠ "java/lang/invoke/MethodHandle" ∧ mX2_setPass.1.cls ≠ "java/lang/invoke/VarHandle" ∧ (parseMethodDescriptor mX2_setPass.1.desc).map (fun d => d.parameters.length) = some 2 := by decide +kernel
theorem fc_X2_degreeAt : Cond.code mX2_degreeAt.1 mX2_degreeAt.2.1 mX2_degreeAt.2.2.1 mX2_degreeAt.2.2.2.1 ∈ wG := kw_592
theorem fi_X2_degreeAt : Cond.initialized mX2_degreeAt.1.cls ∈ wG := kw_110
theorem fd_X2_degreeAt : mX2_degreeAt.1.cls ≠ "java/lang/invoke/MethodHandle" ∧ mX2_degreeAt.1.cls ≠ "java/lang/invoke/VarHandle" ∧ (parseMethodDescriptor mX2_degreeAt.1.desc).map (fun d => d.parameters.length) = some 1 := by decide +kernel
theorem fc_X2_distanceAt : Cond.code mX2_distanceAt.1 mX2_distanceAt.2.1 mX2_distanceAt.2.2.1 mX2_distanceAt.2.2.2.1 ∈ wG := kw_596
theorem fi_X2_distanceAt : Cond.initialized mX2_distanceAt.1.cls ∈ wG := kw_110
theorem fd_X2_distanceAt : mX2_distanceAt.1.cls ≠ "java/lang/invoke/MethodHandle" ∧ mX2_distanceAt.1.cls ≠ "java/lang/invoke/VarHandle" ∧ (parseMethodDescriptor mX2_distanceAt.1.desc).map (fun d => d.parameters.length) = some 1 := by decide +kernel
theorem fc_X2_apartOfSun : Cond.code mX2_apartOfSun.1 mX2_apartOfSun.2.1 mX2_apartOfSun.2.2.1 mX2_apartOfSun.2.2.2.1 ∈ wG := kw_601
theorem fi_X2_apartOfSun : Cond.initialized mX2_apartOfSun.1.cls ∈ wG := kw_110
theorem fd_X2_apartOfSun : mX2_apartOfSun.1.cls ≠ "java/lang/invoke/MethodHandle" ∧ mX2_apartOfSun.1.cls ≠ "java/lang/invoke/VarHandle" ∧ (parseMethodDescriptor mX2_apartOfSun.1.desc).map (fun d => d.parameters.length) = some 2 := by decide +kernel
theorem fc_X2_isWest : Cond.code mX2_isWest.1 mX2_isWest.2.1 mX2_isWest.2.2.1 mX2_isWest.2.2.2.1 ∈ wG := kw_1082
theorem fi_X2_isWest : Cond.initialized mX2_isWest.1.cls ∈ wG := kw_110
theorem fd_X2_isWest : mX2_isWest.1.cls ≠ "java/lang/invoke/MethodHandle" ∧ mX2_isWest.1.cls ≠ "java/lang/invoke/VarHandle" ∧ (parseMethodDescriptor mX2_isWest.1.desc).map (fun d => d.parameters.length) = some 2 := by decide +kernel
theorem fc_X3_init : Cond.code mX3_init.1 mX3_init.2.1 mX3_init.2.2.1 mX3_init.2.2.2.1 ∈ wG := kw_332
theorem fi_X3_init : Cond.initialized mX3_init.1.cls ∈ wG := kw_106
theorem fd_X3_init : mX3_init.1.cls ≠ "java/lang/invoke/MethodHandle" ∧ mX3_init.1.cls ≠ "java/lang/invoke/VarHandle" ∧ (parseMethodDescriptor mX3_init.1.desc).map (fun d => d.parameters.length) = some 0 := by decide +kernel
theorem fc_X3_addEvening : Cond.code mX3_addEvening.1 mX3_addEvening.2.1 mX3_addEvening.2.2.1 mX3_addEvening.2.2.2.1 ∈ wG := kw_1183
theorem fi_X3_addEvening : Cond.initialized mX3_addEvening.1.cls ∈ wG := kw_106
theorem fd_X3_addEvening : mX3_addEvening.1.cls ≠ "java/lang/invoke/MethodHandle" ∧ mX3_addEvening.1.cls ≠ "java/lang/invoke/VarHandle" ∧ (parseMethodDescriptor mX3_addEvening.1.desc).map (fun d => d.parameters.length) = some 2 := by decide +kernel
theorem fc_X3_findPaths : Cond.code mX3_findPaths.1 mX3_findPaths.2.1 mX3_findPaths.2.2.1 mX3_findPaths.2.2.2.1 ∈ wG := kw_1191
theorem fi_X3_findPaths : Cond.initialized mX3_findPaths.1.cls ∈ wG := kw_106
theorem fd_X3_findPaths : mX3_findPaths.1.cls ≠ "java/lang/invoke/MethodHandle" ∧ mX3_findPaths.1.cls ≠ "java/lang/invoke/VarHandle" ∧ (parseMethodDescriptor mX3_findPaths.1.desc).map (fun d => d.parameters.length) = some 3 := by decide +kernel
theorem fc_X3_nodeOf : Cond.code mX3_nodeOf.1 mX3_nodeOf.2.1 mX3_nodeOf.2.2.1 mX3_nodeOf.2.2.2.1 ∈ wG := kw_1198
theorem fi_X3_nodeOf : Cond.initialized mX3_nodeOf.1.cls ∈ wG := kw_106
theorem fd_X3_nodeOf : mX3_nodeOf.1.cls ≠ "java/lang/invoke/MethodHandle" ∧ mX3_nodeOf.1.cls ≠ "java/lang/invoke/VarHandle" ∧ (parseMethodDescriptor mX3_nodeOf.1.desc).map (fun d => d.parameters.length) = some 4 := by decide +kernel
theorem fc_X4_init : Cond.code mX4_init.1 mX4_init.2.1 mX4_init.2.2.1 mX4_init.2.2.2.1 ∈ wG := kw_363
theorem fi_X4_init : Cond.initialized mX4_init.1.cls ∈ wG := kw_108
theorem fd_X4_init : mX4_init.1.cls ≠ "java/lang/invoke/MethodHandle" ∧ mX4_init.1.cls ≠ "java/lang/invoke/VarHandle" ∧ (parseMethodDescriptor mX4_init.1.desc).map (fun d => d.parameters.length) = some 0 := by decide +kernel
theorem fc_X4_isPage : Cond.code mX4_isPage.1 mX4_isPage.2.1 mX4_isPage.2.2.1 mX4_isPage.2.2.2.1 ∈ wG := kw_995
theorem fi_X4_isPage : Cond.initialized mX4_isPage.1.cls ∈ wG := kw_108
theorem fd_X4_isPage : mX4_isPage.1.cls ≠ "java/lang/invoke/MethodHandle" ∧ mX4_isPage.1.cls ≠ "java/lang/invoke/VarHandle" ∧ (parseMethodDescriptor mX4_isPage.1.desc).map (fun d => d.parameters.length) = some 1 := by decide +kernel
theorem fc_X4_isEmpty : Cond.code mX4_isEmpty.1 mX4_isEmpty.2.1 mX4_isEmpty.2.2.1 mX4_isEmpty.2.2.2.1 ∈ wG := kw_1000
theorem fi_X4_isEmpty : Cond.initialized mX4_isEmpty.1.cls ∈ wG := kw_108
theorem fd_X4_isEmpty : mX4_isEmpty.1.cls ≠ "java/lang/invoke/MethodHandle" ∧ mX4_isEmpty.1.cls ≠ "java/lang/invoke/VarHandle" ∧ (parseMethodDescriptor mX4_isEmpty.1.desc).map (fun d => d.parameters.length) = some 1 := by decide +kernel
theorem fc_X4_isRow : Cond.code mX4_isRow.1 mX4_isRow.2.1 mX4_isRow.2.2.1 mX4_isRow.2.2.2.1 ∈ wG := kw_1009
theorem fi_X4_isRow : Cond.initialized mX4_isRow.1.cls ∈ wG := kw_108
theorem fd_X4_isRow : mX4_isRow.1.cls ≠ "java/lang/invoke/MethodHandle" ∧ mX4_isRow.1.cls ≠ "java/lang/invoke/VarHandle" ∧ (parseMethodDescriptor mX4_isRow.1.desc).map (fun d => d.parameters.length) = some 1 := by decide +kernel
theorem fc_X4_holdsShorts : Cond.code mX4_holdsShorts.1 mX4_holdsShorts.2.1 mX4_holdsShorts.2.2.1 mX4_holdsShorts.2.2.2.1 ∈ wG := kw_1005
theorem fi_X4_holdsShorts : Cond.initialized mX4_holdsShorts.1.cls ∈ wG := kw_108
theorem fd_X4_holdsShorts : mX4_holdsShorts.1.cls ≠ "java/lang/invoke/MethodHandle" ∧ mX4_holdsShorts.1.cls ≠ "java/lang/invoke/VarHandle" ∧ (parseMethodDescriptor mX4_holdsShorts.1.desc).map (fun d => d.parameters.length) = some 1 := by decide +kernel
theorem fc_X4_areRowsOfOneSort : Cond.code mX4_areRowsOfOneSort.1 mX4_areRowsOfOneSort.2.1 mX4_areRowsOfOneSort.2.2.1 mX4_areRowsOfOneSort.2.2.2.1 ∈ wG := kw_1402
theorem fi_X4_areRowsOfOneSort : Cond.initialized mX4_areRowsOfOneSort.1.cls ∈ wG := kw_108
theorem fd_X4_areRowsOfOneSort : mX4_areRowsOfOneSort.1.cls ≠ "java/lang/invoke/MethodHandle" ∧ mX4_areRowsOfOneSort.1.cls ≠ "java/lang/invoke/VarHandle" ∧ (parseMethodDescriptor mX4_areRowsOfOneSort.1.desc).map (fun d => d.parameters.length) = some 2 := by decide +kernel
theorem fc_X4_hasPlaces : Cond.code mX4_hasPlaces.1 mX4_hasPlaces.2.1 mX4_hasPlaces.2.2.1 mX4_hasPlaces.2.2.2.1 ∈ wG := kw_1017
theorem fi_X4_hasPlaces : Cond.initialized mX4_hasPlaces.1.cls ∈ wG := kw_108
theorem fd_X4_hasPlaces : mX4_hasPlaces.1.cls ≠ "java/lang/invoke/MethodHandle" ∧ mX4_hasPlaces.1.cls ≠ "java/lang/invoke/VarHandle" ∧ (parseMethodDescriptor mX4_hasPlaces.1.desc).map (fun d => d.parameters.length) = some 3 := by decide +kernel
theorem fc_X4_hasFiveFrom : Cond.code mX4_hasFiveFrom.1 mX4_hasFiveFrom.2.1 mX4_hasFiveFrom.2.2.1 mX4_hasFiveFrom.2.2.2.1 ∈ wG := kw_1013
theorem fi_X4_hasFiveFrom : Cond.initialized mX4_hasFiveFrom.1.cls ∈ wG := kw_108
theorem fd_X4_hasFiveFrom : mX4_hasFiveFrom.1.cls ≠ "java/lang/invoke/MethodHandle" ∧ mX4_hasFiveFrom.1.cls ≠ "java/lang/invoke/VarHandle" ∧ (parseMethodDescriptor mX4_hasFiveFrom.1.desc).map (fun d => d.parameters.length) = some 2 := by decide +kernel
theorem fc_X4_wordOn : Cond.code mX4_wordOn.1 mX4_wordOn.2.1 mX4_wordOn.2.2.1 mX4_wordOn.2.2.2.1 ∈ wG := kw_1417
theorem fi_X4_wordOn : Cond.initialized mX4_wordOn.1.cls ∈ wG := kw_108
theorem fd_X4_wordOn : mX4_wordOn.1.cls ≠ "java/lang/invoke/MethodHandle" ∧ mX4_wordOn.1.cls ≠ "java/lang/invoke/VarHandle" ∧ (parseMethodDescriptor mX4_wordOn.1.desc).map (fun d => d.parameters.length) = some 1 := by decide +kernel
theorem fc_X4_keepNothing : Cond.code mX4_keepNothing.1 mX4_keepNothing.2.1 mX4_keepNothing.2.2.1 mX4_keepNothing.2.2.2.1 ∈ wG := kw_1364
theorem fi_X4_keepNothing : Cond.initialized mX4_keepNothing.1.cls ∈ wG := kw_108
theorem fd_X4_keepNothing : mX4_keepNothing.1.cls ≠ "java/lang/invoke/MethodHandle" ∧ mX4_keepNothing.1.cls ≠ "java/lang/invoke/VarHandle" ∧ (parseMethodDescriptor mX4_keepNothing.1.desc).map (fun d => d.parameters.length) = some 1 := by decide +kernel
theorem fc_X4_keepWord : Cond.code mX4_keepWord.1 mX4_keepWord.2.1 mX4_keepWord.2.2.1 mX4_keepWord.2.2.2.1 ∈ wG := kw_1368
theorem fi_X4_keepWord : Cond.initialized mX4_keepWord.1.cls ∈ wG := kw_108
theorem fd_X4_keepWord : mX4_keepWord.1.cls ≠ "java/lang/invoke/MethodHandle" ∧ mX4_keepWord.1.cls ≠ "java/lang/invoke/VarHandle" ∧ (parseMethodDescriptor mX4_keepWord.1.desc).map (fun d => d.parameters.length) = some 2 := by decide +kernel
theorem fc_X4_keepRow : Cond.code mX4_keepRow.1 mX4_keepRow.2.1 mX4_keepRow.2.2.1 mX4_keepRow.2.2.2.1 ∈ wG := kw_1376
theorem fi_X4_keepRow : Cond.initialized mX4_keepRow.1.cls ∈ wG := kw_108
theorem fd_X4_keepRow : mX4_keepRow.1.cls ≠ "java/lang/invoke/MethodHandle" ∧ mX4_keepRow.1.cls ≠ "java/lang/invoke/VarHandle" ∧ (parseMethodDescriptor mX4_keepRow.1.desc).map (fun d => d.parameters.length) = some 3 := by decide +kernel
theorem fc_X4_refusalOf : Cond.code mX4_refusalOf.1 mX4_refusalOf.2.1 mX4_refusalOf.2.2.1 mX4_refusalOf.2.2.2.1 ∈ wG := kw_1029
theorem fi_X4_refusalOf : Cond.initialized mX4_refusalOf.1.cls ∈ wG := kw_108
theorem fd_X4_refusalOf : mX4_refusalOf.1.cls ≠ "java/lang/invoke/MethodHandle" ∧ mX4_refusalOf.1.cls ≠ "java/lang/invoke/VarHandle" ∧ (parseMethodDescriptor mX4_refusalOf.1.desc).map (fun d => d.parameters.length) = some 2 := by decide +kernel
theorem fc_X4_read : Cond.code mX4_read.1 mX4_read.2.1 mX4_read.2.2.1 mX4_read.2.2.2.1 ∈ wG := kw_1025
theorem fi_X4_read : Cond.initialized mX4_read.1.cls ∈ wG := kw_108
theorem fd_X4_read : mX4_read.1.cls ≠ "java/lang/invoke/MethodHandle" ∧ mX4_read.1.cls ≠ "java/lang/invoke/VarHandle" ∧ (parseMethodDescriptor mX4_read.1.desc).map (fun d => d.parameters.length) = some 2 := by decide +kernel
theorem fc_X4_write : Cond.code mX4_write.1 mX4_write.2.1 mX4_write.2.2.1 mX4_write.2.2.2.1 ∈ wG := kw_1386
theorem fi_X4_write : Cond.initialized mX4_write.1.cls ∈ wG := kw_108
theorem fd_X4_write : mX4_write.1.cls ≠ "java/lang/invoke/MethodHandle" ∧ mX4_write.1.cls ≠ "java/lang/invoke/VarHandle" ∧ (parseMethodDescriptor mX4_write.1.desc).map (fun d => d.parameters.length) = some 3 := by decide +kernel
theorem fc_X4_copy : Cond.code mX4_copy.1 mX4_copy.2.1 mX4_copy.2.2.1 mX4_copy.2.2.2.1 ∈ wG := kw_1407
theorem fi_X4_copy : Cond.initialized mX4_copy.1.cls ∈ wG := kw_108
theorem fd_X4_copy : mX4_copy.1.cls ≠ "java/lang/invoke/MethodHandle" ∧ mX4_copy.1.cls ≠ "java/lang/invoke/VarHandle" ∧ (parseMethodDescriptor mX4_copy.1.desc).map (fun d => d.parameters.length) = some 5 := by decide +kernel
theorem fc_X4_narrowed : Cond.code mX4_narrowed.1 mX4_narrowed.2.1 mX4_narrowed.2.2.1 mX4_narrowed.2.2.2.1 ∈ wG := kw_1389
theorem fi_X4_narrowed : Cond.initialized mX4_narrowed.1.cls ∈ wG := kw_108
theorem fd_X4_narrowed : mX4_narrowed.1.cls ≠ "java/lang/invoke/MethodHandle" ∧ mX4_narrowed.1.cls ≠ "java/lang/invoke/VarHandle" ∧ (parseMethodDescriptor mX4_narrowed.1.desc).map (fun d => d.parameters.length) = some 2 := by decide +kernel
theorem fc_X5_init : Cond.code mX5_init.1 mX5_init.2.1 mX5_init.2.2.1 mX5_init.2.2.2.1 ∈ wG := kw_186
theorem fi_X5_init : Cond.initialized mX5_init.1.cls ∈ wG := kw_101
theorem fd_X5_init : mX5_init.1.cls ≠ "java/lang/invoke/MethodHandle" ∧ mX5_init.1.cls ≠ "java/lang/invoke/VarHandle" ∧ (parseMethodDescriptor mX5_init.1.desc).map (fun d => d.parameters.length) = some 0 := by decide +kernel
theorem fc_X5_forgetSights : Cond.code mX5_forgetSights.1 mX5_forgetSights.2.1 mX5_forgetSights.2.2.1 mX5_forgetSights.2.2.2.1 ∈ wG := kw_418
theorem fi_X5_forgetSights : Cond.initialized mX5_forgetSights.1.cls ∈ wG := kw_101
theorem fd_X5_forgetSights : mX5_forgetSights.1.cls ≠ "java/lang/invoke/MethodHandle" ∧ mX5_forgetSights.1.cls ≠ "java/lang/invoke/VarHandle" ∧ (parseMethodDescriptor mX5_forgetSights.1.desc).map (fun d => d.parameters.length) = some 0 := by decide +kernel
theorem fc_X5_tailOf : Cond.code mX5_tailOf.1 mX5_tailOf.2.1 mX5_tailOf.2.2.1 mX5_tailOf.2.2.2.1 ∈ wG := kw_612
theorem fi_X5_tailOf : Cond.initialized mX5_tailOf.1.cls ∈ wG := kw_101
theorem fd_X5_tailOf : mX5_tailOf.1.cls ≠ "java/lang/invoke/MethodHandle" ∧ mX5_tailOf.1.cls ≠ "java/lang/invoke/VarHandle" ∧ (parseMethodDescriptor mX5_tailOf.1.desc).map (fun d => d.parameters.length) = some 4 := by decide +kernel
theorem fc_X5_toldBy : Cond.code mX5_toldBy.1 mX5_toldBy.2.1 mX5_toldBy.2.2.1 mX5_toldBy.2.2.2.1 ∈ wG := kw_620
theorem fi_X5_toldBy : Cond.initialized mX5_toldBy.1.cls ∈ wG := kw_101
theorem fd_X5_toldBy : mX5_toldBy.1.cls ≠ "java/lang/invoke/MethodHandle" ∧ mX5_toldBy.1.cls ≠ "java/lang/invoke/VarHandle" ∧ (parseMethodDescriptor mX5_toldBy.1.desc).map (fun d => d.parameters.length) = some 5 := by decide +kernel
theorem fc_X5_seenOn : Cond.code mX5_seenOn.1 mX5_seenOn.2.1 mX5_seenOn.2.2.1 mX5_seenOn.2.2.2.1 ∈ wG := kw_646
theorem fi_X5_seenOn : Cond.initialized mX5_seenOn.1.cls ∈ wG := kw_101
theorem fd_X5_seenOn : mX5_seenOn.1.cls ≠ "java/lang/invoke/MethodHandle" ∧ mX5_seenOn.1.cls ≠ "java/lang/invoke/VarHandle" ∧ (parseMethodDescriptor mX5_seenOn.1.desc).map (fun d => d.parameters.length) = some 5 := by decide +kernel
theorem fc_X5_sightsOf : Cond.code mX5_sightsOf.1 mX5_sightsOf.2.1 mX5_sightsOf.2.2.1 mX5_sightsOf.2.2.2.1 ∈ wG := kw_653
theorem fi_X5_sightsOf : Cond.initialized mX5_sightsOf.1.cls ∈ wG := kw_101
theorem fd_X5_sightsOf : mX5_sightsOf.1.cls ≠ "java/lang/invoke/MethodHandle" ∧ mX5_sightsOf.1.cls ≠ "java/lang/invoke/VarHandle" ∧ (parseMethodDescriptor mX5_sightsOf.1.desc).map (fun d => d.parameters.length) = some 2 := by decide +kernel
theorem fc_X5_fitDay : Cond.code mX5_fitDay.1 mX5_fitDay.2.1 mX5_fitDay.2.2.1 mX5_fitDay.2.2.2.1 ∈ wG := kw_1067
theorem fi_X5_fitDay : Cond.initialized mX5_fitDay.1.cls ∈ wG := kw_101
theorem fd_X5_fitDay : mX5_fitDay.1.cls ≠ "java/lang/invoke/MethodHandle" ∧ mX5_fitDay.1.cls ≠ "java/lang/invoke/VarHandle" ∧ (parseMethodDescriptor mX5_fitDay.1.desc).map (fun d => d.parameters.length) = some 6 := by decide +kernel
theorem fc_X5_goneBehind : Cond.code mX5_goneBehind.1 mX5_goneBehind.2.1 mX5_goneBehind.2.2.1 mX5_goneBehind.2.2.2.1 ∈ wG := kw_1119
theorem fi_X5_goneBehind : Cond.initialized mX5_goneBehind.1.cls ∈ wG := kw_101
theorem fd_X5_goneBehind : mX5_goneBehind.1.cls ≠ "java/lang/invoke/MethodHandle" ∧ mX5_goneBehind.1.cls ≠ "java/lang/invoke/VarHandle" ∧ (parseMethodDescriptor mX5_goneBehind.1.desc).map (fun d => d.parameters.length) = some 4 := by decide +kernel
theorem fc_X5_isAsSaid : Cond.code mX5_isAsSaid.1 mX5_isAsSaid.2.1 mX5_isAsSaid.2.2.1 mX5_isAsSaid.2.2.2.1 ∈ wG := kw_1075
theorem fi_X5_isAsSaid : Cond.initialized mX5_isAsSaid.1.cls ∈ wG := kw_101
theorem fd_X5_isAsSaid : mX5_isAsSaid.1.cls ≠ "java/lang/invoke/MethodHandle" ∧ mX5_isAsSaid.1.cls ≠ "java/lang/invoke/VarHandle" ∧ (parseMethodDescriptor mX5_isAsSaid.1.desc).map (fun d => d.parameters.length) = some 4 := by decide +kernel
theorem fc_X5_offLodge : Cond.code mX5_offLodge.1 mX5_offLodge.2.1 mX5_offLodge.2.2.1 mX5_offLodge.2.2.2.1 ∈ wG := kw_1078
theorem fi_X5_offLodge : Cond.initialized mX5_offLodge.1.cls ∈ wG := kw_101
theorem fd_X5_offLodge : mX5_offLodge.1.cls ≠ "java/lang/invoke/MethodHandle" ∧ mX5_offLodge.1.cls ≠ "java/lang/invoke/VarHandle" ∧ (parseMethodDescriptor mX5_offLodge.1.desc).map (fun d => d.parameters.length) = some 2 := by decide +kernel
theorem fc_X6_init : Cond.code mX6_init.1 mX6_init.2.1 mX6_init.2.2.1 mX6_init.2.2.2.1 ∈ wG := kw_133
theorem fi_X6_init : Cond.initialized mX6_init.1.cls ∈ wG := kw_99
theorem fd_X6_init : mX6_init.1.cls ≠ "java/lang/invoke/MethodHandle" ∧ mX6_init.1.cls ≠ "java/lang/invoke/VarHandle" ∧ (parseMethodDescriptor mX6_init.1.desc).map (fun d => d.parameters.length) = some 0 := by decide +kernel
theorem fc_X6_addGreat : Cond.code mX6_addGreat.1 mX6_addGreat.2.1 mX6_addGreat.2.2.1 mX6_addGreat.2.2.2.1 ∈ wG := kw_429
theorem fi_X6_addGreat : Cond.initialized mX6_addGreat.1.cls ∈ wG := kw_99
theorem fd_X6_addGreat : mX6_addGreat.1.cls ≠ "java/lang/invoke/MethodHandle" ∧ mX6_addGreat.1.cls ≠ "java/lang/invoke/VarHandle" ∧ (parseMethodDescriptor mX6_addGreat.1.desc).map (fun d => d.parameters.length) = some 2 := by decide +kernel
theorem fc_X6_addComet : Cond.code mX6_addComet.1 mX6_addComet.2.1 mX6_addComet.2.2.1 mX6_addComet.2.2.2.1 ∈ wG := kw_556
theorem fi_X6_addComet : Cond.initialized mX6_addComet.1.cls ∈ wG := kw_99
theorem fd_X6_addComet : mX6_addComet.1.cls ≠ "java/lang/invoke/MethodHandle" ∧ mX6_addComet.1.cls ≠ "java/lang/invoke/VarHandle" ∧ (parseMethodDescriptor mX6_addComet.1.desc).map (fun d => d.parameters.length) = some 1 := by decide +kernel
theorem fc_X6_cometAt : Cond.code mX6_cometAt.1 mX6_cometAt.2.1 mX6_cometAt.2.2.1 mX6_cometAt.2.2.2.1 ∈ wG := kw_564
theorem fi_X6_cometAt : Cond.initialized mX6_cometAt.1.cls ∈ wG := kw_99
theorem fd_X6_cometAt : mX6_cometAt.1.cls ≠ "java/lang/invoke/MethodHandle" ∧ mX6_cometAt.1.cls ≠ "java/lang/invoke/VarHandle" ∧ (parseMethodDescriptor mX6_cometAt.1.desc).map (fun d => d.parameters.length) = some 1 := by decide +kernel
theorem fc_X6_allGreats : Cond.code mX6_allGreats.1 mX6_allGreats.2.1 mX6_allGreats.2.2.1 mX6_allGreats.2.2.2.1 ∈ wG := kw_448
theorem fi_X6_allGreats : Cond.initialized mX6_allGreats.1.cls ∈ wG := kw_99
theorem fd_X6_allGreats : mX6_allGreats.1.cls ≠ "java/lang/invoke/MethodHandle" ∧ mX6_allGreats.1.cls ≠ "java/lang/invoke/VarHandle" ∧ (parseMethodDescriptor mX6_allGreats.1.desc).map (fun d => d.parameters.length) = some 0 := by decide +kernel
theorem fc_X6_wideOf : Cond.code mX6_wideOf.1 mX6_wideOf.2.1 mX6_wideOf.2.2.1 mX6_wideOf.2.2.2.1 ∈ wG := kw_579
theorem fi_X6_wideOf : Cond.initialized mX6_wideOf.1.cls ∈ wG := kw_99
theorem fd_X6_wideOf : mX6_wideOf.1.cls ≠ "java/lang/invoke/MethodHandle" ∧ mX6_wideOf.1.cls ≠ "java/lang/invoke/VarHandle" ∧ (parseMethodDescriptor mX6_wideOf.1.desc).map (fun d => d.parameters.length) = some 1 := by decide +kernel
theorem fc_X6_foretell : Cond.code mX6_foretell.1 mX6_foretell.2.1 mX6_foretell.2.2.1 mX6_foretell.2.2.2.1 ∈ wG := kw_1239
theorem fi_X6_foretell : Cond.initialized mX6_foretell.1.cls ∈ wG := kw_99
theorem fd_X6_foretell : mX6_foretell.1.cls ≠ "java/lang/invoke/MethodHandle" ∧ mX6_foretell.1.cls ≠ "java/lang/invoke/VarHandle" ∧ (parseMethodDescriptor mX6_foretell.1.desc).map (fun d => d.parameters.length) = some 3 := by decide +kernel
theorem fc_X6_breakComet : Cond.code mX6_breakComet.1 mX6_breakComet.2.1 mX6_breakComet.2.2.1 mX6_breakComet.2.2.2.1 ∈ wG := kw_1284
theorem fi_X6_breakComet : Cond.initialized mX6_breakComet.1.cls ∈ wG := kw_99
theorem fd_X6_breakComet : mX6_breakComet.1.cls ≠ "java/lang/invoke/MethodHandle" ∧ mX6_breakComet.1.cls ≠ "java/lang/invoke/VarHandle" ∧ (parseMethodDescriptor mX6_breakComet.1.desc).map (fun d => d.parameters.length) = some 2 := by decide +kernel
theorem fc_X6_kinOf : Cond.code mX6_kinOf.1 mX6_kinOf.2.1 mX6_kinOf.2.2.1 mX6_kinOf.2.2.2.1 ∈ wG := kw_1296
theorem fi_X6_kinOf : Cond.initialized mX6_kinOf.1.cls ∈ wG := kw_99
theorem fd_X6_kinOf : mX6_kinOf.1.cls ≠ "java/lang/invoke/MethodHandle" ∧ mX6_kinOf.1.cls ≠ "java/lang/invoke/VarHandle" ∧ (parseMethodDescriptor mX6_kinOf.1.desc).map (fun d => d.parameters.length) = some 1 := by decide +kernel
theorem fc_X6_firstOf : Cond.code mX6_firstOf.1 mX6_firstOf.2.1 mX6_firstOf.2.2.1 mX6_firstOf.2.2.2.1 ∈ wG := kw_1300
theorem fi_X6_firstOf : Cond.initialized mX6_firstOf.1.cls ∈ wG := kw_99
theorem fd_X6_firstOf : mX6_firstOf.1.cls ≠ "java/lang/invoke/MethodHandle" ∧ mX6_firstOf.1.cls ≠ "java/lang/invoke/VarHandle" ∧ (parseMethodDescriptor mX6_firstOf.1.desc).map (fun d => d.parameters.length) = some 1 := by decide +kernel
theorem fc_X6_reckonReturns : Cond.code mX6_reckonReturns.1 mX6_reckonReturns.2.1 mX6_reckonReturns.2.2.1 mX6_reckonReturns.2.2.2.1 ∈ wG := kw_433
theorem fi_X6_reckonReturns : Cond.initialized mX6_reckonReturns.1.cls ∈ wG := kw_99
theorem fd_X6_reckonReturns : mX6_reckonReturns.1.cls ≠ "java/lang/invoke/MethodHandle" ∧ mX6_reckonReturns.1.cls ≠ "java/lang/invoke/VarHandle" ∧ (parseMethodDescriptor mX6_reckonReturns.1.desc).map (fun d => d.parameters.length) = some 1 := by decide +kernel
theorem fc_X6_passAhead : Cond.code mX6_passAhead.1 mX6_passAhead.2.1 mX6_passAhead.2.2.1 mX6_passAhead.2.2.2.1 ∈ wG := kw_460
theorem fi_X6_passAhead : Cond.initialized mX6_passAhead.1.cls ∈ wG := kw_99
theorem fd_X6_passAhead : mX6_passAhead.1.cls ≠ "java/lang/invoke/MethodHandle" ∧ mX6_passAhead.1.cls ≠ "java/lang/invoke/VarHandle" ∧ (parseMethodDescriptor mX6_passAhead.1.desc).map (fun d => d.parameters.length) = some 2 := by decide +kernel
theorem fc_X6_signedPulls : Cond.code mX6_signedPulls.1 mX6_signedPulls.2.1 mX6_signedPulls.2.2.1 mX6_signedPulls.2.2.2.1 ∈ wG := kw_464
theorem fi_X6_signedPulls : Cond.initialized mX6_signedPulls.1.cls ∈ wG := kw_99
theorem fd_X6_signedPulls : mX6_signedPulls.1.cls ≠ "java/lang/invoke/MethodHandle" ∧ mX6_signedPulls.1.cls ≠ "java/lang/invoke/VarHandle" ∧ (parseMethodDescriptor mX6_signedPulls.1.desc).map (fun d => d.parameters.length) = some 1 := by decide +kernel
theorem fc_X6_pulledFrom : Cond.code mX6_pulledFrom.1 mX6_pulledFrom.2.1 mX6_pulledFrom.2.2.1 mX6_pulledFrom.2.2.2.1 ∈ wG := kw_452
theorem fi_X6_pulledFrom : Cond.initialized mX6_pulledFrom.1.cls ∈ wG := kw_99
theorem fd_X6_pulledFrom : mX6_pulledFrom.1.cls ≠ "java/lang/invoke/MethodHandle" ∧ mX6_pulledFrom.1.cls ≠ "java/lang/invoke/VarHandle" ∧ (parseMethodDescriptor mX6_pulledFrom.1.desc).map (fun d => d.parameters.length) = some 2 := by decide +kernel
theorem fc_X7_init : Cond.code mX7_init.1 mX7_init.2.1 mX7_init.2.2.1 mX7_init.2.2.2.1 ∈ wG := kw_277
theorem fi_X7_init : Cond.initialized mX7_init.1.cls ∈ wG := kw_105
theorem fd_X7_init : mX7_init.1.cls ≠ "java/lang/invoke/MethodHandle" ∧ mX7_init.1.cls ≠ "java/lang/invoke/VarHandle" ∧ (parseMethodDescriptor mX7_init.1.desc).map (fun d => d.parameters.length) = some 3 := by decide +kernel
theorem fc_X7_addWatch : Cond.code mX7_addWatch.1 mX7_addWatch.2.1 mX7_addWatch.2.2.1 mX7_addWatch.2.2.2.1 ∈ wG := kw_879
theorem fi_X7_addWatch : Cond.initialized mX7_addWatch.1.cls ∈ wG := kw_105
theorem fd_X7_addWatch : mX7_addWatch.1.cls ≠ "java/lang/invoke/MethodHandle" ∧ mX7_addWatch.1.cls ≠ "java/lang/invoke/VarHandle" ∧ (parseMethodDescriptor mX7_addWatch.1.desc).map (fun d => d.parameters.length) = some 3 := by decide +kernel
theorem fc_X7_leastMove : Cond.code mX7_leastMove.1 mX7_leastMove.2.1 mX7_leastMove.2.2.1 mX7_leastMove.2.2.2.1 ∈ wG := kw_1093
theorem fi_X7_leastMove : Cond.initialized mX7_leastMove.1.cls ∈ wG := kw_105
theorem fd_X7_leastMove : mX7_leastMove.1.cls ≠ "java/lang/invoke/MethodHandle" ∧ mX7_leastMove.1.cls ≠ "java/lang/invoke/VarHandle" ∧ (parseMethodDescriptor mX7_leastMove.1.desc).map (fun d => d.parameters.length) = some 3 := by decide +kernel
theorem fc_X7_forgetWeights : Cond.code mX7_forgetWeights.1 mX7_forgetWeights.2.1 mX7_forgetWeights.2.2.1 mX7_forgetWeights.2.2.2.1 ∈ wG := kw_422
theorem fi_X7_forgetWeights : Cond.initialized mX7_forgetWeights.1.cls ∈ wG := kw_105
theorem fd_X7_forgetWeights : mX7_forgetWeights.1.cls ≠ "java/lang/invoke/MethodHandle" ∧ mX7_forgetWeights.1.cls ≠ "java/lang/invoke/VarHandle" ∧ (parseMethodDescriptor mX7_forgetWeights.1.desc).map (fun d => d.parameters.length) = some 0 := by decide +kernel
theorem fc_X7_weighComet : Cond.code mX7_weighComet.1 mX7_weighComet.2.1 mX7_weighComet.2.2.1 mX7_weighComet.2.2.2.1 ∈ wG := kw_1136
theorem fi_X7_weighComet : Cond.initialized mX7_weighComet.1.cls ∈ wG := kw_105
theorem fd_X7_weighComet : mX7_weighComet.1.cls ≠ "java/lang/invoke/MethodHandle" ∧ mX7_weighComet.1.cls ≠ "java/lang/invoke/VarHandle" ∧ (parseMethodDescriptor mX7_weighComet.1.desc).map (fun d => d.parameters.length) = some 1 := by decide +kernel
theorem fc_X7_isNewRoot : Cond.code mX7_isNewRoot.1 mX7_isNewRoot.2.1 mX7_isNewRoot.2.2.1 mX7_isNewRoot.2.2.2.1 ∈ wG := kw_1150
theorem fi_X7_isNewRoot : Cond.initialized mX7_isNewRoot.1.cls ∈ wG := kw_105
theorem fd_X7_isNewRoot : mX7_isNewRoot.1.cls ≠ "java/lang/invoke/MethodHandle" ∧ mX7_isNewRoot.1.cls ≠ "java/lang/invoke/VarHandle" ∧ (parseMethodDescriptor mX7_isNewRoot.1.desc).map (fun d => d.parameters.length) = some 2 := by decide +kernel
theorem fc_X7_isSurelyWatched : Cond.code mX7_isSurelyWatched.1 mX7_isSurelyWatched.2.1 mX7_isSurelyWatched.2.2.1 mX7_isSurelyWatched.2.2.2.1 ∈ wG := kw_1142
theorem fi_X7_isSurelyWatched : Cond.initialized mX7_isSurelyWatched.1.cls ∈ wG := kw_105
theorem fd_X7_isSurelyWatched : mX7_isSurelyWatched.1.cls ≠ "java/lang/invoke/MethodHandle" ∧ mX7_isSurelyWatched.1.cls ≠ "java/lang/invoke/VarHandle" ∧ (parseMethodDescriptor mX7_isSurelyWatched.1.desc).map (fun d => d.parameters.length) = some 2 := by decide +kernel
theorem fc_X7_worthOf : Cond.code mX7_worthOf.1 mX7_worthOf.2.1 mX7_worthOf.2.2.1 mX7_worthOf.2.2.2.1 ∈ wG := kw_1154
theorem fi_X7_worthOf : Cond.initialized mX7_worthOf.1.cls ∈ wG := kw_105
theorem fd_X7_worthOf : mX7_worthOf.1.cls ≠ "java/lang/invoke/MethodHandle" ∧ mX7_worthOf.1.cls ≠ "java/lang/invoke/VarHandle" ∧ (parseMethodDescriptor mX7_worthOf.1.desc).map (fun d => d.parameters.length) = some 1 := by decide +kernel
theorem fc_X7_bestSetOf : Cond.code mX7_bestSetOf.1 mX7_bestSetOf.2.1 mX7_bestSetOf.2.2.1 mX7_bestSetOf.2.2.2.1 ∈ wG := kw_1174
theorem fi_X7_bestSetOf : Cond.initialized mX7_bestSetOf.1.cls ∈ wG := kw_105
theorem fd_X7_bestSetOf : mX7_bestSetOf.1.cls ≠ "java/lang/invoke/MethodHandle" ∧ mX7_bestSetOf.1.cls ≠ "java/lang/invoke/VarHandle" ∧ (parseMethodDescriptor mX7_bestSetOf.1.desc).map (fun d => d.parameters.length) = some 1 := by decide +kernel
theorem fc_X7_forgetMoves : Cond.code mX7_forgetMoves.1 mX7_forgetMoves.2.1 mX7_forgetMoves.2.2.1 mX7_forgetMoves.2.2.2.1 ∈ wG := kw_1248
theorem fi_X7_forgetMoves : Cond.initialized mX7_forgetMoves.1.cls ∈ wG := kw_105
theorem fd_X7_forgetMoves : mX7_forgetMoves.1.cls ≠ "java/lang/invoke/MethodHandle" ∧ mX7_forgetMoves.1.cls ≠ "java/lang/invoke/VarHandle" ∧ (parseMethodDescriptor mX7_forgetMoves.1.desc).map (fun d => d.parameters.length) = some 0 := by decide +kernel
theorem fc_X7_bestMove : Cond.code mX7_bestMove.1 mX7_bestMove.2.1 mX7_bestMove.2.2.1 mX7_bestMove.2.2.2.1 ∈ wG := kw_1275
theorem fi_X7_bestMove : Cond.initialized mX7_bestMove.1.cls ∈ wG := kw_105
theorem fd_X7_bestMove : mX7_bestMove.1.cls ≠ "java/lang/invoke/MethodHandle" ∧ mX7_bestMove.1.cls ≠ "java/lang/invoke/VarHandle" ∧ (parseMethodDescriptor mX7_bestMove.1.desc).map (fun d => d.parameters.length) = some 1 := by decide +kernel
theorem fc_X7_moveOf : Cond.code mX7_moveOf.1 mX7_moveOf.2.1 mX7_moveOf.2.2.1 mX7_moveOf.2.2.2.1 ∈ wG := kw_1263
theorem fi_X7_moveOf : Cond.initialized mX7_moveOf.1.cls ∈ wG := kw_105
theorem fd_X7_moveOf : mX7_moveOf.1.cls ≠ "java/lang/invoke/MethodHandle" ∧ mX7_moveOf.1.cls ≠ "java/lang/invoke/VarHandle" ∧ (parseMethodDescriptor mX7_moveOf.1.desc).map (fun d => d.parameters.length) = some 1 := by decide +kernel
theorem fc_X7_countMovesOf : Cond.code mX7_countMovesOf.1 mX7_countMovesOf.2.1 mX7_countMovesOf.2.2.1 mX7_countMovesOf.2.2.2.1 ∈ wG := kw_1252
theorem fi_X7_countMovesOf : Cond.initialized mX7_countMovesOf.1.cls ∈ wG := kw_105
theorem fd_X7_countMovesOf : mX7_countMovesOf.1.cls ≠ "java/lang/invoke/MethodHandle" ∧ mX7_countMovesOf.1.cls ≠ "java/lang/invoke/VarHandle" ∧ (parseMethodDescriptor mX7_countMovesOf.1.desc).map (fun d => d.parameters.length) = some 2 := by decide +kernel
theorem fc_X7_countDays : Cond.code mX7_countDays.1 mX7_countDays.2.1 mX7_countDays.2.2.1 mX7_countDays.2.2.2.1 ∈ wG := kw_1256
theorem fi_X7_countDays : Cond.initialized mX7_countDays.1.cls ∈ wG := kw_105
theorem fd_X7_countDays : mX7_countDays.1.cls ≠ "java/lang/invoke/MethodHandle" ∧ mX7_countDays.1.cls ≠ "java/lang/invoke/VarHandle" ∧ (parseMethodDescriptor mX7_countDays.1.desc).map (fun d => d.parameters.length) = some 3 := by decide +kernel
theorem fc_X7_isFitMoved : Cond.code mX7_isFitMoved.1 mX7_isFitMoved.2.1 mX7_isFitMoved.2.2.1 mX7_isFitMoved.2.2.2.1 ∈ wG := kw_1267
theorem fi_X7_isFitMoved : Cond.initialized mX7_isFitMoved.1.cls ∈ wG := kw_105
theorem fd_X7_isFitMoved : mX7_isFitMoved.1.cls ≠ "java/lang/invoke/MethodHandle" ∧ mX7_isFitMoved.1.cls ≠ "java/lang/invoke/VarHandle" ∧ (parseMethodDescriptor mX7_isFitMoved.1.desc).map (fun d => d.parameters.length) = some 3 := by decide +kernel
theorem fc_X7_hasCounted : Cond.code mX7_hasCounted.1 mX7_hasCounted.2.1 mX7_hasCounted.2.2.1 mX7_hasCounted.2.2.2.1 ∈ wG := kw_1271
theorem fi_X7_hasCounted : Cond.initialized mX7_hasCounted.1.cls ∈ wG := kw_105
theorem fd_X7_hasCounted : mX7_hasCounted.1.cls ≠ "java/lang/invoke/MethodHandle" ∧ mX7_hasCounted.1.cls ≠ "java/lang/invoke/VarHandle" ∧ (parseMethodDescriptor mX7_hasCounted.1.desc).map (fun d => d.parameters.length) = some 4 := by decide +kernel
theorem fc_X7_nextToLookFor : Cond.code mX7_nextToLookFor.1 mX7_nextToLookFor.2.1 mX7_nextToLookFor.2.2.1 mX7_nextToLookFor.2.2.2.1 ∈ wG := kw_1308
theorem fi_X7_nextToLookFor : Cond.initialized mX7_nextToLookFor.1.cls ∈ wG := kw_105
theorem fd_X7_nextToLookFor : mX7_nextToLookFor.1.cls ≠ "java/lang/invoke/MethodHandle" ∧ mX7_nextToLookFor.1.cls ≠ "java/lang/invoke/VarHandle" ∧ (parseMethodDescriptor mX7_nextToLookFor.1.desc).map (fun d => d.parameters.length) = some 2 := by decide +kernel
theorem fc_X7_gatherNear : Cond.code mX7_gatherNear.1 mX7_gatherNear.2.1 mX7_gatherNear.2.2.1 mX7_gatherNear.2.2.2.1 ∈ wG := kw_1312
theorem fi_X7_gatherNear : Cond.initialized mX7_gatherNear.1.cls ∈ wG := kw_105
theorem fd_X7_gatherNear : mX7_gatherNear.1.cls ≠ "java/lang/invoke/MethodHandle" ∧ mX7_gatherNear.1.cls ≠ "java/lang/invoke/VarHandle" ∧ (parseMethodDescriptor mX7_gatherNear.1.desc).map (fun d => d.parameters.length) = some 2 := by decide +kernel
theorem fc_X7_firstOfOneAlone : Cond.code mX7_firstOfOneAlone.1 mX7_firstOfOneAlone.2.1 mX7_firstOfOneAlone.2.2.1 mX7_firstOfOneAlone.2.2.2.1 ∈ wG := kw_1316
theorem fi_X7_firstOfOneAlone : Cond.initialized mX7_firstOfOneAlone.1.cls ∈ wG := kw_105
theorem fd_X7_firstOfOneAlone : mX7_firstOfOneAlone.1.cls ≠ "java/lang/invoke/MethodHandle" ∧ mX7_firstOfOneAlone.1.cls ≠ "java/lang/invoke/VarHandle" ∧ (parseMethodDescriptor mX7_firstOfOneAlone.1.desc).map (fun d => d.parameters.length) = some 6 := by decide +kernel
theorem fc_X7_isSeenNear : Cond.code mX7_isSeenNear.1 mX7_isSeenNear.2.1 mX7_isSeenNear.2.2.1 mX7_isSeenNear.2.2.2.1 ∈ wG := kw_1320
theorem fi_X7_isSeenNear : Cond.initialized mX7_isSeenNear.1.cls ∈ wG := kw_105
theorem fd_X7_isSeenNear : mX7_isSeenNear.1.cls ≠ "java/lang/invoke/MethodHandle" ∧ mX7_isSeenNear.1.cls ≠ "java/lang/invoke/VarHandle" ∧ (parseMethodDescriptor mX7_isSeenNear.1.desc).map (fun d => d.parameters.length) = some 3 := by decide +kernel
theorem fc_X8_init : Cond.code mX8_init.1 mX8_init.2.1 mX8_init.2.2.1 mX8_init.2.2.2.1 ∈ wG := kw_160
theorem fi_X8_init : Cond.initialized mX8_init.1.cls ∈ wG := kw_100
theorem fd_X8_init : mX8_init.1.cls ≠ "java/lang/invoke/MethodHandle" ∧ mX8_init.1.cls ≠ "java/lang/invoke/VarHandle" ∧ (parseMethodDescriptor mX8_init.1.desc).map (fun d => d.parameters.length) = some 0 := by decide +kernel
theorem fc_X8_hasRoomFor : Cond.code mX8_hasRoomFor.1 mX8_hasRoomFor.2.1 mX8_hasRoomFor.2.2.1 mX8_hasRoomFor.2.2.2.1 ∈ wG := kw_662
theorem fi_X8_hasRoomFor : Cond.initialized mX8_hasRoomFor.1.cls ∈ wG := kw_100
theorem fd_X8_hasRoomFor : mX8_hasRoomFor.1.cls ≠ "java/lang/invoke/MethodHandle" ∧ mX8_hasRoomFor.1.cls ≠ "java/lang/invoke/VarHandle" ∧ (parseMethodDescriptor mX8_hasRoomFor.1.desc).map (fun d => d.parameters.length) = some 1 := by decide +kernel
theorem fc_X8_takeBytes : Cond.code mX8_takeBytes.1 mX8_takeBytes.2.1 mX8_takeBytes.2.2.1 mX8_takeBytes.2.2.2.1 ∈ wG := kw_666
theorem fi_X8_takeBytes : Cond.initialized mX8_takeBytes.1.cls ∈ wG := kw_100
theorem fd_X8_takeBytes : mX8_takeBytes.1.cls ≠ "java/lang/invoke/MethodHandle" ∧ mX8_takeBytes.1.cls ≠ "java/lang/invoke/VarHandle" ∧ (parseMethodDescriptor mX8_takeBytes.1.desc).map (fun d => d.parameters.length) = some 2 := by decide +kernel
theorem fc_X8_becomeText : Cond.code mX8_becomeText.1 mX8_becomeText.2.1 mX8_becomeText.2.2.1 mX8_becomeText.2.2.2.1 ∈ wG := kw_683
theorem fi_X8_becomeText : Cond.initialized mX8_becomeText.1.cls ∈ wG := kw_100
theorem fd_X8_becomeText : mX8_becomeText.1.cls ≠ "java/lang/invoke/MethodHandle" ∧ mX8_becomeText.1.cls ≠ "java/lang/invoke/VarHandle" ∧ (parseMethodDescriptor mX8_becomeText.1.desc).map (fun d => d.parameters.length) = some 1 := by decide +kernel
theorem fc_X8_here : Cond.code mX8_here.1 mX8_here.2.1 mX8_here.2.2.1 mX8_here.2.2.2.1 ∈ wG := kw_715
theorem fi_X8_here : Cond.initialized mX8_here.1.cls ∈ wG := kw_100
theorem fd_X8_here : mX8_here.1.cls ≠ "java/lang/invoke/MethodHandle" ∧ mX8_here.1.cls ≠ "java/lang/invoke/VarHandle" ∧ (parseMethodDescriptor mX8_here.1.desc).map (fun d => d.parameters.length) = some 0 := by decide +kernel
theorem fc_X8_take : Cond.code mX8_take.1 mX8_take.2.1 mX8_take.2.2.1 mX8_take.2.2.2.1 ∈ wG := kw_818
theorem fi_X8_take : Cond.initialized mX8_take.1.cls ∈ wG := kw_100
theorem fd_X8_take : mX8_take.1.cls ≠ "java/lang/invoke/MethodHandle" ∧ mX8_take.1.cls ≠ "java/lang/invoke/VarHandle" ∧ (parseMethodDescriptor mX8_take.1.desc).map (fun d => d.parameters.length) = some 1 := by decide +kernel
theorem fc_X8_isGoingOn : Cond.code mX8_isGoingOn.1 mX8_isGoingOn.2.1 mX8_isGoingOn.2.2.1 mX8_isGoingOn.2.2.2.1 ∈ wG := kw_822
theorem fi_X8_isGoingOn : Cond.initialized mX8_isGoingOn.1.cls ∈ wG := kw_100
theorem fd_X8_isGoingOn : mX8_isGoingOn.1.cls ≠ "java/lang/invoke/MethodHandle" ∧ mX8_isGoingOn.1.cls ≠ "java/lang/invoke/VarHandle" ∧ (parseMethodDescriptor mX8_isGoingOn.1.desc).map (fun d => d.parameters.length) = some 1 := by decide +kernel
theorem fc_X8_add : Cond.code mX8_add.1 mX8_add.2.1 mX8_add.2.2.1 mX8_add.2.2.2.1 ∈ wG := kw_724
theorem fi_X8_add : Cond.initialized mX8_add.1.cls ∈ wG := kw_100
theorem fd_X8_add : mX8_add.1.cls ≠ "java/lang/invoke/MethodHandle" ∧ mX8_add.1.cls ≠ "java/lang/invoke/VarHandle" ∧ (parseMethodDescriptor mX8_add.1.desc).map (fun d => d.parameters.length) = some 2 := by decide +kernel
theorem fc_X8_failHere : Cond.code mX8_failHere.1 mX8_failHere.2.1 mX8_failHere.2.2.1 mX8_failHere.2.2.2.1 ∈ wG := kw_814
theorem fi_X8_failHere : Cond.initialized mX8_failHere.1.cls ∈ wG := kw_100
theorem fd_X8_failHere : mX8_failHere.1.cls ≠ "java/lang/invoke/MethodHandle" ∧ mX8_failHere.1.cls ≠ "java/lang/invoke/VarHandle" ∧ (parseMethodDescriptor mX8_failHere.1.desc).map (fun d => d.parameters.length) = some 0 := by decide +kernel
theorem fc_X8_readLine : Cond.code mX8_readLine.1 mX8_readLine.2.1 mX8_readLine.2.2.1 mX8_readLine.2.2.2.1 ∈ wG := kw_687
theorem fi_X8_readLine : Cond.initialized mX8_readLine.1.cls ∈ wG := kw_100
theorem fd_X8_readLine : mX8_readLine.1.cls ≠ "java/lang/invoke/MethodHandle" ∧ mX8_readLine.1.cls ≠ "java/lang/invoke/VarHandle" ∧ (parseMethodDescriptor mX8_readLine.1.desc).map (fun d => d.parameters.length) = some 0 := by decide +kernel
theorem fc_X8_readEither : Cond.code mX8_readEither.1 mX8_readEither.2.1 mX8_readEither.2.2.1 mX8_readEither.2.2.2.1 ∈ wG := kw_691
theorem fi_X8_readEither : Cond.initialized mX8_readEither.1.cls ∈ wG := kw_100
theorem fd_X8_readEither : mX8_readEither.1.cls ≠ "java/lang/invoke/MethodHandle" ∧ mX8_readEither.1.cls ≠ "java/lang/invoke/VarHandle" ∧ (parseMethodDescriptor mX8_readEither.1.desc).map (fun d => d.parameters.length) = some 1 := by decide +kernel
theorem fc_X8_readBoth : Cond.code mX8_readBoth.1 mX8_readBoth.2.1 mX8_readBoth.2.2.1 mX8_readBoth.2.2.2.1 ∈ wG := kw_695
theorem fi_X8_readBoth : Cond.initialized mX8_readBoth.1.cls ∈ wG := kw_100
theorem fd_X8_readBoth : mX8_readBoth.1.cls ≠ "java/lang/invoke/MethodHandle" ∧ mX8_readBoth.1.cls ≠ "java/lang/invoke/VarHandle" ∧ (parseMethodDescriptor mX8_readBoth.1.desc).map (fun d => d.parameters.length) = some 1 := by decide +kernel
theorem fc_X8_readCompared : Cond.code mX8_readCompared.1 mX8_readCompared.2.1 mX8_readCompared.2.2.1 mX8_readCompared.2.2.2.1 ∈ wG := kw_699
theorem fi_X8_readCompared : Cond.initialized mX8_readCompared.1.cls ∈ wG := kw_100
theorem fd_X8_readCompared : mX8_readCompared.1.cls ≠ "java/lang/invoke/MethodHandle" ∧ mX8_readCompared.1.cls ≠ "java/lang/invoke/VarHandle" ∧ (parseMethodDescriptor mX8_readCompared.1.desc).map (fun d => d.parameters.length) = some 1 := by decide +kernel
theorem fc_X8_readSum : Cond.code mX8_readSum.1 mX8_readSum.2.1 mX8_readSum.2.2.1 mX8_readSum.2.2.2.1 ∈ wG := kw_703
theorem fi_X8_readSum : Cond.initialized mX8_readSum.1.cls ∈ wG := kw_100
theorem fd_X8_readSum : mX8_readSum.1.cls ≠ "java/lang/invoke/MethodHandle" ∧ mX8_readSum.1.cls ≠ "java/lang/invoke/VarHandle" ∧ (parseMethodDescriptor mX8_readSum.1.desc).map (fun d => d.parameters.length) = some 1 := by decide +kernel
theorem fc_X8_readProduct : Cond.code mX8_readProduct.1 mX8_readProduct.2.1 mX8_readProduct.2.2.1 mX8_readProduct.2.2.2.1 ∈ wG := kw_707
theorem fi_X8_readProduct : Cond.initialized mX8_readProduct.1.cls ∈ wG := kw_100
theorem fd_X8_readProduct : mX8_readProduct.1.cls ≠ "java/lang/invoke/MethodHandle" ∧ mX8_readProduct.1.cls ≠ "java/lang/invoke/VarHandle" ∧ (parseMethodDescriptor mX8_readProduct.1.desc).map (fun d => d.parameters.length) = some 1 := by decide +kernel
theorem fc_X8_readOperand : Cond.code mX8_readOperand.1 mX8_readOperand.2.1 mX8_readOperand.2.2.1 mX8_readOperand.2.2.2.1 ∈ wG := kw_711
theorem fi_X8_readOperand : Cond.initialized mX8_readOperand.1.cls ∈ wG := kw_100
theorem fd_X8_readOperand : mX8_readOperand.1.cls ≠ "java/lang/invoke/MethodHandle" ∧ mX8_readOperand.1.cls ≠ "java/lang/invoke/VarHandle" ∧ (parseMethodDescriptor mX8_readOperand.1.desc).map (fun d => d.parameters.length) = some 1 := by decide +kernel
theorem fc_X8_readNumber : Cond.code mX8_readNumber.1 mX8_readNumber.2.1 mX8_readNumber.2.2.1 mX8_readNumber.2.2.2.1 ∈ wG := kw_720
theorem fi_X8_readNumber : Cond.initialized mX8_readNumber.1.cls ∈ wG := kw_100
theorem fd_X8_readNumber : mX8_readNumber.1.cls ≠ "java/lang/invoke/MethodHandle" ∧ mX8_readNumber.1.cls ≠ "java/lang/invoke/VarHandle" ∧ (parseMethodDescriptor mX8_readNumber.1.desc).map (fun d => d.parameters.length) = some 0 := by decide +kernel
theorem fc_X9_init : Cond.code mX9_init.1 mX9_init.2.1 mX9_init.2.2.1 mX9_init.2.2.2.1 ∈ wG := kw_192
theorem fi_X9_init : Cond.initialized mX9_init.1.cls ∈ wG := kw_102
theorem fd_X9_init : mX9_init.1.cls ≠ "java/lang/invoke/MethodHandle" ∧ mX9_init.1.cls ≠ "java/lang/invoke/VarHandle" ∧ (parseMethodDescriptor mX9_init.1.desc).map (fun d => d.parameters.length) = some 0 := by decide +kernel
theorem fc_X9_isTold : Cond.code mX9_isTold.1 mX9_isTold.2.1 mX9_isTold.2.2.1 mX9_isTold.2.2.2.1 ∈ wG := kw_616
theorem fi_X9_isTold : Cond.initialized mX9_isTold.1.cls ∈ wG := kw_102
theorem fd_X9_isTold : mX9_isTold.1.cls ≠ "java/lang/invoke/MethodHandle" ∧ mX9_isTold.1.cls ≠ "java/lang/invoke/VarHandle" ∧ (parseMethodDescriptor mX9_isTold.1.desc).map (fun d => d.parameters.length) = some 0 := by decide +kernel
theorem fc_X9_takeSteps : Cond.code mX9_takeSteps.1 mX9_takeSteps.2.1 mX9_takeSteps.2.2.1 mX9_takeSteps.2.2.2.1 ∈ wG := kw_826
theorem fi_X9_takeSteps : Cond.initialized mX9_takeSteps.1.cls ∈ wG := kw_102
theorem fd_X9_takeSteps : mX9_takeSteps.1.cls ≠ "java/lang/invoke/MethodHandle" ∧ mX9_takeSteps.1.cls ≠ "java/lang/invoke/VarHandle" ∧ (parseMethodDescriptor mX9_takeSteps.1.desc).map (fun d => d.parameters.length) = some 2 := by decide +kernel
theorem fc_X9_step : Cond.code mX9_step.1 mX9_step.2.1 mX9_step.2.2.1 mX9_step.2.2.2.1 ∈ wG := kw_727
theorem fi_X9_step : Cond.initialized mX9_step.1.cls ∈ wG := kw_102
theorem fd_X9_step : mX9_step.1.cls ≠ "java/lang/invoke/MethodHandle" ∧ mX9_step.1.cls ≠ "java/lang/invoke/VarHandle" ∧ (parseMethodDescriptor mX9_step.1.desc).map (fun d => d.parameters.length) = some 2 := by decide +kernel
theorem fc_X9_valueWith : Cond.code mX9_valueWith.1 mX9_valueWith.2.1 mX9_valueWith.2.2.1 mX9_valueWith.2.2.2.1 ∈ wG := kw_627
theorem fi_X9_valueWith : Cond.initialized mX9_valueWith.1.cls ∈ wG := kw_102
theorem fd_X9_valueWith : mX9_valueWith.1.cls ≠ "java/lang/invoke/MethodHandle" ∧ mX9_valueWith.1.cls ≠ "java/lang/invoke/VarHandle" ∧ (parseMethodDescriptor mX9_valueWith.1.desc).map (fun d => d.parameters.length) = some 2 := by decide +kernel
theorem fc_X9_joined : Cond.code mX9_joined.1 mX9_joined.2.1 mX9_joined.2.2.1 mX9_joined.2.2.2.1 ∈ wG := kw_633
theorem fi_X9_joined : Cond.initialized mX9_joined.1.cls ∈ wG := kw_102
theorem fd_X9_joined : mX9_joined.1.cls ≠ "java/lang/invoke/MethodHandle" ∧ mX9_joined.1.cls ≠ "java/lang/invoke/VarHandle" ∧ (parseMethodDescriptor mX9_joined.1.desc).map (fun d => d.parameters.length) = some 3 := by decide +kernel
theorem fc_X10_init : Cond.code mX10_init.1 mX10_init.2.1 mX10_init.2.2.1 mX10_init.2.2.2.1 ∈ wG := kw_893
theorem fi_X10_init : Cond.initialized mX10_init.1.cls ∈ wG := kw_118
theorem fd_X10_init : mX10_init.1.cls ≠ "java/lang/invoke/MethodHandle" ∧ mX10_init.1.cls ≠ "java/lang/invoke/VarHandle" ∧ (parseMethodDescriptor mX10_init.1.desc).map (fun d => d.parameters.length) = some 5 := by decide +kernel
theorem fc_X10_dateIt : Cond.code mX10_dateIt.1 mX10_dateIt.2.1 mX10_dateIt.2.2.1 mX10_dateIt.2.2.2.1 ∈ wG := kw_968
theorem fi_X10_dateIt : Cond.initialized mX10_dateIt.1.cls ∈ wG := kw_118
theorem fd_X10_dateIt : mX10_dateIt.1.cls ≠ "java/lang/invoke/MethodHandle" ∧ mX10_dateIt.1.cls ≠ "java/lang/invoke/VarHandle" ∧ (parseMethodDescriptor mX10_dateIt.1.desc).map (fun d => d.parameters.length) = some 3 := by decide +kernel
theorem fc_X10_copyFrom : Cond.code mX10_copyFrom.1 mX10_copyFrom.2.1 mX10_copyFrom.2.2.1 mX10_copyFrom.2.2.2.1 ∈ wG := kw_980
theorem fi_X10_copyFrom : Cond.initialized mX10_copyFrom.1.cls ∈ wG := kw_118
theorem fd_X10_copyFrom : mX10_copyFrom.1.cls ≠ "java/lang/invoke/MethodHandle" ∧ mX10_copyFrom.1.cls ≠ "java/lang/invoke/VarHandle" ∧ (parseMethodDescriptor mX10_copyFrom.1.desc).map (fun d => d.parameters.length) = some 1 := by decide +kernel
theorem fc_X10_rootWord : Cond.code mX10_rootWord.1 mX10_rootWord.2.1 mX10_rootWord.2.2.1 mX10_rootWord.2.2.2.1 ∈ wG := kw_976
theorem fi_X10_rootWord : Cond.initialized mX10_rootWord.1.cls ∈ wG := kw_118
theorem fd_X10_rootWord : mX10_rootWord.1.cls ≠ "java/lang/invoke/MethodHandle" ∧ mX10_rootWord.1.cls ≠ "java/lang/invoke/VarHandle" ∧ (parseMethodDescriptor mX10_rootWord.1.desc).map (fun d => d.parameters.length) = some 0 := by decide +kernel
theorem fc_X10_settle : Cond.code mX10_settle.1 mX10_settle.2.1 mX10_settle.2.2.1 mX10_settle.2.2.2.1 ∈ wG := kw_862
theorem fi_X10_settle : Cond.initialized mX10_settle.1.cls ∈ wG := kw_118
theorem fd_X10_settle : mX10_settle.1.cls ≠ "java/lang/invoke/MethodHandle" ∧ mX10_settle.1.cls ≠ "java/lang/invoke/VarHandle" ∧ (parseMethodDescriptor mX10_settle.1.desc).map (fun d => d.parameters.length) = some 3 := by decide +kernel
theorem fc_X10_spanFrom : Cond.code mX10_spanFrom.1 mX10_spanFrom.2.1 mX10_spanFrom.2.2.1 mX10_spanFrom.2.2.2.1 ∈ wG := kw_1044
theorem fi_X10_spanFrom : Cond.initialized mX10_spanFrom.1.cls ∈ wG := kw_118
theorem fd_X10_spanFrom : mX10_spanFrom.1.cls ≠ "java/lang/invoke/MethodHandle" ∧ mX10_spanFrom.1.cls ≠ "java/lang/invoke/VarHandle" ∧ (parseMethodDescriptor mX10_spanFrom.1.desc).map (fun d => d.parameters.length) = some 1 := by decide +kernel
theorem fc_X10_spanTo : Cond.code mX10_spanTo.1 mX10_spanTo.2.1 mX10_spanTo.2.2.1 mX10_spanTo.2.2.2.1 ∈ wG := kw_1053
theorem fi_X10_spanTo : Cond.initialized mX10_spanTo.1.cls ∈ wG := kw_118
theorem fd_X10_spanTo : mX10_spanTo.1.cls ≠ "java/lang/invoke/MethodHandle" ∧ mX10_spanTo.1.cls ≠ "java/lang/invoke/VarHandle" ∧ (parseMethodDescriptor mX10_spanTo.1.desc).map (fun d => d.parameters.length) = some 1 := by decide +kernel
theorem fc_X10_movedFrom : Cond.code mX10_movedFrom.1 mX10_movedFrom.2.1 mX10_movedFrom.2.2.1 mX10_movedFrom.2.2.2.1 ∈ wG := kw_1048
theorem fi_X10_movedFrom : Cond.initialized mX10_movedFrom.1.cls ∈ wG := kw_118
theorem fd_X10_movedFrom : mX10_movedFrom.1.cls ≠ "java/lang/invoke/MethodHandle" ∧ mX10_movedFrom.1.cls ≠ "java/lang/invoke/VarHandle" ∧ (parseMethodDescriptor mX10_movedFrom.1.desc).map (fun d => d.parameters.length) = some 2 := by decide +kernel
theorem fc_X10_movedTo : Cond.code mX10_movedTo.1 mX10_movedTo.2.1 mX10_movedTo.2.2.1 mX10_movedTo.2.2.2.1 ∈ wG := kw_1057
theorem fi_X10_movedTo : Cond.initialized mX10_movedTo.1.cls ∈ wG := kw_118
theorem fd_X10_movedTo : mX10_movedTo.1.cls ≠ "java/lang/invoke/MethodHandle" ∧ mX10_movedTo.1.cls ≠ "java/lang/invoke/VarHandle" ∧ (parseMethodDescriptor mX10_movedTo.1.desc).map (fun d => d.parameters.length) = some 2 := by decide +kernel
theorem fc_X11_init : Cond.code mX11_init.1 mX11_init.2.1 mX11_init.2.2.1 mX11_init.2.2.2.1 ∈ wG := kw_125
theorem fi_X11_init : Cond.initialized mX11_init.1.cls ∈ wG := kw_98
theorem fd_X11_init : mX11_init.1.cls ≠ "java/lang/invoke/MethodHandle" ∧ mX11_init.1.cls ≠ "java/lang/invoke/VarHandle" ∧ (parseMethodDescriptor mX11_init.1.desc).map (fun d => d.parameters.length) = some 0 := by decide +kernel
theorem fc_X11_great : Cond.code mX11_great.1 mX11_great.2.1 mX11_great.2.2.1 mX11_great.2.2.2.1 ∈ wG := kw_411
theorem fi_X11_great : Cond.initialized mX11_great.1.cls ∈ wG := kw_98
theorem fd_X11_great : mX11_great.1.cls ≠ "java/lang/invoke/MethodHandle" ∧ mX11_great.1.cls ≠ "java/lang/invoke/VarHandle" ∧ (parseMethodDescriptor mX11_great.1.desc).map (fun d => d.parameters.length) = some 2 := by decide +kernel
theorem fc_X11_comet : Cond.code mX11_comet.1 mX11_comet.2.1 mX11_comet.2.2.1 mX11_comet.2.2.2.1 ∈ wG := kw_468
theorem fi_X11_comet : Cond.initialized mX11_comet.1.cls ∈ wG := kw_98
theorem fd_X11_comet : mX11_comet.1.cls ≠ "java/lang/invoke/MethodHandle" ∧ mX11_comet.1.cls ≠ "java/lang/invoke/VarHandle" ∧ (parseMethodDescriptor mX11_comet.1.desc).map (fun d => d.parameters.length) = some 4 := by decide +kernel
theorem fc_X11_ofComet : Cond.code mX11_ofComet.1 mX11_ofComet.2.1 mX11_ofComet.2.2.1 mX11_ofComet.2.2.2.1 ∈ wG := kw_560
theorem fi_X11_ofComet : Cond.initialized mX11_ofComet.1.cls ∈ wG := kw_98
theorem fd_X11_ofComet : mX11_ofComet.1.cls ≠ "java/lang/invoke/MethodHandle" ∧ mX11_ofComet.1.cls ≠ "java/lang/invoke/VarHandle" ∧ (parseMethodDescriptor mX11_ofComet.1.desc).map (fun d => d.parameters.length) = some 2 := by decide +kernel
theorem fc_X11_pass : Cond.code mX11_pass.1 mX11_pass.2.1 mX11_pass.2.2.1 mX11_pass.2.2.2.1 ∈ wG := kw_569
theorem fi_X11_pass : Cond.initialized mX11_pass.1.cls ∈ wG := kw_98
theorem fd_X11_pass : mX11_pass.1.cls ≠ "java/lang/invoke/MethodHandle" ∧ mX11_pass.1.cls ≠ "java/lang/invoke/VarHandle" ∧ (parseMethodDescriptor mX11_pass.1.desc).map (fun d => d.parameters.length) = some 3 := by decide +kernel
theorem fc_X11_stands : Cond.code mX11_stands.1 mX11_stands.2.1 mX11_stands.2.2.1 mX11_stands.2.2.2.1 ∈ wG := kw_584
theorem fi_X11_stands : Cond.initialized mX11_stands.1.cls ∈ wG := kw_98
theorem fd_X11_stands : mX11_stands.1.cls ≠ "java/lang/invoke/MethodHandle" ∧ mX11_stands.1.cls ≠ "java/lang/invoke/VarHandle" ∧ (parseMethodDescriptor mX11_stands.1.desc).map (fun d => d.parameters.length) = some 4 := by decide +kernel
theorem fc_X11_seen : Cond.code mX11_seen.1 mX11_seen.2.1 mX11_seen.2.2.1 mX11_seen.2.2.2.1 ∈ wG := kw_639
theorem fi_X11_seen : Cond.initialized mX11_seen.1.cls ∈ wG := kw_98
theorem fd_X11_seen : mX11_seen.1.cls ≠ "java/lang/invoke/MethodHandle" ∧ mX11_seen.1.cls ≠ "java/lang/invoke/VarHandle" ∧ (parseMethodDescriptor mX11_seen.1.desc).map (fun d => d.parameters.length) = some 3 := by decide +kernel
theorem fc_X11_feed : Cond.code mX11_feed.1 mX11_feed.2.1 mX11_feed.2.2.1 mX11_feed.2.2.2.1 ∈ wG := kw_658
theorem fi_X11_feed : Cond.initialized mX11_feed.1.cls ∈ wG := kw_98
theorem fd_X11_feed : mX11_feed.1.cls ≠ "java/lang/invoke/MethodHandle" ∧ mX11_feed.1.cls ≠ "java/lang/invoke/VarHandle" ∧ (parseMethodDescriptor mX11_feed.1.desc).map (fun d => d.parameters.length) = some 2 := by decide +kernel
theorem fc_X11_text : Cond.code mX11_text.1 mX11_text.2.1 mX11_text.2.2.1 mX11_text.2.2.2.1 ∈ wG := kw_670
theorem fi_X11_text : Cond.initialized mX11_text.1.cls ∈ wG := kw_98
theorem fd_X11_text : mX11_text.1.cls ≠ "java/lang/invoke/MethodHandle" ∧ mX11_text.1.cls ≠ "java/lang/invoke/VarHandle" ∧ (parseMethodDescriptor mX11_text.1.desc).map (fun d => d.parameters.length) = some 1 := by decide +kernel
theorem fc_X11_reign : Cond.code mX11_reign.1 mX11_reign.2.1 mX11_reign.2.2.1 mX11_reign.2.2.2.1 ∈ wG := kw_867
theorem fi_X11_reign : Cond.initialized mX11_reign.1.cls ∈ wG := kw_98
theorem fd_X11_reign : mX11_reign.1.cls ≠ "java/lang/invoke/MethodHandle" ∧ mX11_reign.1.cls ≠ "java/lang/invoke/VarHandle" ∧ (parseMethodDescriptor mX11_reign.1.desc).map (fun d => d.parameters.length) = some 3 := by decide +kernel
theorem fc_X11_watch : Cond.code mX11_watch.1 mX11_watch.2.1 mX11_watch.2.2.1 mX11_watch.2.2.2.1 ∈ wG := kw_875
theorem fi_X11_watch : Cond.initialized mX11_watch.1.cls ∈ wG := kw_98
theorem fd_X11_watch : mX11_watch.1.cls ≠ "java/lang/invoke/MethodHandle" ∧ mX11_watch.1.cls ≠ "java/lang/invoke/VarHandle" ∧ (parseMethodDescriptor mX11_watch.1.desc).map (fun d => d.parameters.length) = some 3 := by decide +kernel
theorem fc_X11_word : Cond.code mX11_word.1 mX11_word.2.1 mX11_word.2.2.1 mX11_word.2.2.2.1 ∈ wG := kw_883
theorem fi_X11_word : Cond.initialized mX11_word.1.cls ∈ wG := kw_98
theorem fd_X11_word : mX11_word.1.cls ≠ "java/lang/invoke/MethodHandle" ∧ mX11_word.1.cls ≠ "java/lang/invoke/VarHandle" ∧ (parseMethodDescriptor mX11_word.1.desc).map (fun d => d.parameters.length) = some 3 := by decide +kernel
theorem fc_X11_date : Cond.code mX11_date.1 mX11_date.2.1 mX11_date.2.2.1 mX11_date.2.2.2.1 ∈ wG := kw_984
theorem fi_X11_date : Cond.initialized mX11_date.1.cls ∈ wG := kw_98
theorem fd_X11_date : mX11_date.1.cls ≠ "java/lang/invoke/MethodHandle" ∧ mX11_date.1.cls ≠ "java/lang/invoke/VarHandle" ∧ (parseMethodDescriptor mX11_date.1.desc).map (fun d => d.parameters.length) = some 3 := by decide +kernel
theorem fc_X11_words : Cond.code mX11_words.1 mX11_words.2.1 mX11_words.2.2.1 mX11_words.2.2.2.1 ∈ wG := kw_991
theorem fi_X11_words : Cond.initialized mX11_words.1.cls ∈ wG := kw_98
theorem fd_X11_words : mX11_words.1.cls ≠ "java/lang/invoke/MethodHandle" ∧ mX11_words.1.cls ≠ "java/lang/invoke/VarHandle" ∧ (parseMethodDescriptor mX11_words.1.desc).map (fun d => d.parameters.length) = some 4 := by decide +kernel
theorem fc_X11_ofWord : Cond.code mX11_ofWord.1 mX11_ofWord.2.1 mX11_ofWord.2.2.1 mX11_ofWord.2.2.2.1 ∈ wG := kw_1034
theorem fi_X11_ofWord : Cond.initialized mX11_ofWord.1.cls ∈ wG := kw_98
theorem fd_X11_ofWord : mX11_ofWord.1.cls ≠ "java/lang/invoke/MethodHandle" ∧ mX11_ofWord.1.cls ≠ "java/lang/invoke/VarHandle" ∧ (parseMethodDescriptor mX11_ofWord.1.desc).map (fun d => d.parameters.length) = some 2 := by decide +kernel
theorem fc_X11_span : Cond.code mX11_span.1 mX11_span.2.1 mX11_span.2.2.1 mX11_span.2.2.2.1 ∈ wG := kw_1040
theorem fi_X11_span : Cond.initialized mX11_span.1.cls ∈ wG := kw_98
theorem fd_X11_span : mX11_span.1.cls ≠ "java/lang/invoke/MethodHandle" ∧ mX11_span.1.cls ≠ "java/lang/invoke/VarHandle" ∧ (parseMethodDescriptor mX11_span.1.desc).map (fun d => d.parameters.length) = some 3 := by decide +kernel
theorem fc_X11_fits : Cond.code mX11_fits.1 mX11_fits.2.1 mX11_fits.2.2.1 mX11_fits.2.2.2.1 ∈ wG := kw_1063
theorem fi_X11_fits : Cond.initialized mX11_fits.1.cls ∈ wG := kw_98
theorem fd_X11_fits : mX11_fits.1.cls ≠ "java/lang/invoke/MethodHandle" ∧ mX11_fits.1.cls ≠ "java/lang/invoke/VarHandle" ∧ (parseMethodDescriptor mX11_fits.1.desc).map (fun d => d.parameters.length) = some 3 := by decide +kernel
theorem fc_X11_perhaps : Cond.code mX11_perhaps.1 mX11_perhaps.2.1 mX11_perhaps.2.2.1 mX11_perhaps.2.2.2.1 ∈ wG := kw_1089
theorem fi_X11_perhaps : Cond.initialized mX11_perhaps.1.cls ∈ wG := kw_98
theorem fd_X11_perhaps : mX11_perhaps.1.cls ≠ "java/lang/invoke/MethodHandle" ∧ mX11_perhaps.1.cls ≠ "java/lang/invoke/VarHandle" ∧ (parseMethodDescriptor mX11_perhaps.1.desc).map (fun d => d.parameters.length) = some 3 := by decide +kernel
theorem fc_X11_whose : Cond.code mX11_whose.1 mX11_whose.2.1 mX11_whose.2.2.1 mX11_whose.2.2.2.1 ∈ wG := kw_1101
theorem fi_X11_whose : Cond.initialized mX11_whose.1.cls ∈ wG := kw_98
theorem fd_X11_whose : mX11_whose.1.cls ≠ "java/lang/invoke/MethodHandle" ∧ mX11_whose.1.cls ≠ "java/lang/invoke/VarHandle" ∧ (parseMethodDescriptor mX11_whose.1.desc).map (fun d => d.parameters.length) = some 2 := by decide +kernel
theorem fc_X11_evening : Cond.code mX11_evening.1 mX11_evening.2.1 mX11_evening.2.2.1 mX11_evening.2.2.2.1 ∈ wG := kw_1105
theorem fi_X11_evening : Cond.initialized mX11_evening.1.cls ∈ wG := kw_98
theorem fd_X11_evening : mX11_evening.1.cls ≠ "java/lang/invoke/MethodHandle" ∧ mX11_evening.1.cls ≠ "java/lang/invoke/VarHandle" ∧ (parseMethodDescriptor mX11_evening.1.desc).map (fun d => d.parameters.length) = some 2 := by decide +kernel
theorem fc_X11_behind : Cond.code mX11_behind.1 mX11_behind.2.1 mX11_behind.2.2.1 mX11_behind.2.2.2.1 ∈ wG := kw_1115
theorem fi_X11_behind : Cond.initialized mX11_behind.1.cls ∈ wG := kw_98
theorem fd_X11_behind : mX11_behind.1.cls ≠ "java/lang/invoke/MethodHandle" ∧ mX11_behind.1.cls ≠ "java/lang/invoke/VarHandle" ∧ (parseMethodDescriptor mX11_behind.1.desc).map (fun d => d.parameters.length) = some 2 := by decide +kernel
theorem fc_X11_once : Cond.code mX11_once.1 mX11_once.2.1 mX11_once.2.2.1 mX11_once.2.2.2.1 ∈ wG := kw_1124
theorem fi_X11_once : Cond.initialized mX11_once.1.cls ∈ wG := kw_98
theorem fd_X11_once : mX11_once.1.cls ≠ "java/lang/invoke/MethodHandle" ∧ mX11_once.1.cls ≠ "java/lang/invoke/VarHandle" ∧ (parseMethodDescriptor mX11_once.1.desc).map (fun d => d.parameters.length) = some 1 := by decide +kernel
theorem fc_X11_judge : Cond.code mX11_judge.1 mX11_judge.2.1 mX11_judge.2.2.1 mX11_judge.2.2.2.1 ∈ wG := kw_1132
theorem fi_X11_judge : Cond.initialized mX11_judge.1.cls ∈ wG := kw_98
theorem fd_X11_judge : mX11_judge.1.cls ≠ "java/lang/invoke/MethodHandle" ∧ mX11_judge.1.cls ≠ "java/lang/invoke/VarHandle" ∧ (parseMethodDescriptor mX11_judge.1.desc).map (fun d => d.parameters.length) = some 1 := by decide +kernel
theorem fc_X11_best : Cond.code mX11_best.1 mX11_best.2.1 mX11_best.2.2.1 mX11_best.2.2.2.1 ∈ wG := kw_1170
theorem fi_X11_best : Cond.initialized mX11_best.1.cls ∈ wG := kw_98
theorem fd_X11_best : mX11_best.1.cls ≠ "java/lang/invoke/MethodHandle" ∧ mX11_best.1.cls ≠ "java/lang/invoke/VarHandle" ∧ (parseMethodDescriptor mX11_best.1.desc).map (fun d => d.parameters.length) = some 1 := by decide +kernel
theorem fc_X11_observed : Cond.code mX11_observed.1 mX11_observed.2.1 mX11_observed.2.2.1 mX11_observed.2.2.2.1 ∈ wG := kw_1179
theorem fi_X11_observed : Cond.initialized mX11_observed.1.cls ∈ wG := kw_98
theorem fd_X11_observed : mX11_observed.1.cls ≠ "java/lang/invoke/MethodHandle" ∧ mX11_observed.1.cls ≠ "java/lang/invoke/VarHandle" ∧ (parseMethodDescriptor mX11_observed.1.desc).map (fun d => d.parameters.length) = some 2 := by decide +kernel
theorem fc_X11_paths : Cond.code mX11_paths.1 mX11_paths.2.1 mX11_paths.2.2.1 mX11_paths.2.2.2.1 ∈ wG := kw_1187
theorem fi_X11_paths : Cond.initialized mX11_paths.1.cls ∈ wG := kw_98
theorem fd_X11_paths : mX11_paths.1.cls ≠ "java/lang/invoke/MethodHandle" ∧ mX11_paths.1.cls ≠ "java/lang/invoke/VarHandle" ∧ (parseMethodDescriptor mX11_paths.1.desc).map (fun d => d.parameters.length) = some 3 := by decide +kernel
theorem fc_X11_forget : Cond.code mX11_forget.1 mX11_forget.2.1 mX11_forget.2.2.1 mX11_forget.2.2.2.1 ∈ wG := kw_1205
theorem fi_X11_forget : Cond.initialized mX11_forget.1.cls ∈ wG := kw_98
theorem fd_X11_forget : mX11_forget.1.cls ≠ "java/lang/invoke/MethodHandle" ∧ mX11_forget.1.cls ≠ "java/lang/invoke/VarHandle" ∧ (parseMethodDescriptor mX11_forget.1.desc).map (fun d => d.parameters.length) = some 0 := by decide +kernel
theorem fc_X11_alike : Cond.code mX11_alike.1 mX11_alike.2.1 mX11_alike.2.2.1 mX11_alike.2.2.2.1 ∈ wG := kw_1209
theorem fi_X11_alike : Cond.initialized mX11_alike.1.cls ∈ wG := kw_98
theorem fd_X11_alike : mX11_alike.1.cls ≠ "java/lang/invoke/MethodHandle" ∧ mX11_alike.1.cls ≠ "java/lang/invoke/VarHandle" ∧ (parseMethodDescriptor mX11_alike.1.desc).map (fun d => d.parameters.length) = some 3 := by decide +kernel
theorem fc_X11_chance : Cond.code mX11_chance.1 mX11_chance.2.1 mX11_chance.2.2.1 mX11_chance.2.2.2.1 ∈ wG := kw_1217
theorem fi_X11_chance : Cond.initialized mX11_chance.1.cls ∈ wG := kw_98
theorem fd_X11_chance : mX11_chance.1.cls ≠ "java/lang/invoke/MethodHandle" ∧ mX11_chance.1.cls ≠ "java/lang/invoke/VarHandle" ∧ (parseMethodDescriptor mX11_chance.1.desc).map (fun d => d.parameters.length) = some 3 := by decide +kernel
theorem fc_X11_foretold : Cond.code mX11_foretold.1 mX11_foretold.2.1 mX11_foretold.2.2.1 mX11_foretold.2.2.2.1 ∈ wG := kw_1234
theorem fi_X11_foretold : Cond.initialized mX11_foretold.1.cls ∈ wG := kw_98
theorem fd_X11_foretold : mX11_foretold.1.cls ≠ "java/lang/invoke/MethodHandle" ∧ mX11_foretold.1.cls ≠ "java/lang/invoke/VarHandle" ∧ (parseMethodDescriptor mX11_foretold.1.desc).map (fun d => d.parameters.length) = some 4 := by decide +kernel
theorem fc_X11_right : Cond.code mX11_right.1 mX11_right.2.1 mX11_right.2.2.1 mX11_right.2.2.2.1 ∈ wG := kw_1244
theorem fi_X11_right : Cond.initialized mX11_right.1.cls ∈ wG := kw_98
theorem fd_X11_right : mX11_right.1.cls ≠ "java/lang/invoke/MethodHandle" ∧ mX11_right.1.cls ≠ "java/lang/invoke/VarHandle" ∧ (parseMethodDescriptor mX11_right.1.desc).map (fun d => d.parameters.length) = some 3 := by decide +kernel
theorem fc_X11_broke : Cond.code mX11_broke.1 mX11_broke.2.1 mX11_broke.2.2.1 mX11_broke.2.2.2.1 ∈ wG := kw_1280
theorem fi_X11_broke : Cond.initialized mX11_broke.1.cls ∈ wG := kw_98
theorem fd_X11_broke : mX11_broke.1.cls ≠ "java/lang/invoke/MethodHandle" ∧ mX11_broke.1.cls ≠ "java/lang/invoke/VarHandle" ∧ (parseMethodDescriptor mX11_broke.1.desc).map (fun d => d.parameters.length) = some 2 := by decide +kernel
theorem fc_X11_kin : Cond.code mX11_kin.1 mX11_kin.2.1 mX11_kin.2.2.1 mX11_kin.2.2.2.1 ∈ wG := kw_1292
theorem fi_X11_kin : Cond.initialized mX11_kin.1.cls ∈ wG := kw_98
theorem fd_X11_kin : mX11_kin.1.cls ≠ "java/lang/invoke/MethodHandle" ∧ mX11_kin.1.cls ≠ "java/lang/invoke/VarHandle" ∧ (parseMethodDescriptor mX11_kin.1.desc).map (fun d => d.parameters.length) = some 1 := by decide +kernel
theorem fc_X11_next : Cond.code mX11_next.1 mX11_next.2.1 mX11_next.2.2.1 mX11_next.2.2.2.1 ∈ wG := kw_1304
theorem fi_X11_next : Cond.initialized mX11_next.1.cls ∈ wG := kw_98
theorem fd_X11_next : mX11_next.1.cls ≠ "java/lang/invoke/MethodHandle" ∧ mX11_next.1.cls ≠ "java/lang/invoke/VarHandle" ∧ (parseMethodDescriptor mX11_next.1.desc).map (fun d => d.parameters.length) = some 3 := by decide +kernel
theorem fc_X11_act : Cond.code mX11_act.1 mX11_act.2.1 mX11_act.2.2.1 mX11_act.2.2.2.1 ∈ wG := kw_1324
theorem fi_X11_act : Cond.initialized mX11_act.1.cls ∈ wG := kw_98
theorem fd_X11_act : mX11_act.1.cls ≠ "java/lang/invoke/MethodHandle" ∧ mX11_act.1.cls ≠ "java/lang/invoke/VarHandle" ∧ (parseMethodDescriptor mX11_act.1.desc).map (fun d => d.parameters.length) = some 3 := by decide +kernel
theorem fc_X11_trace : Cond.code mX11_trace.1 mX11_trace.2.1 mX11_trace.2.2.1 mX11_trace.2.2.2.1 ∈ wG := kw_1352
theorem fi_X11_trace : Cond.initialized mX11_trace.1.cls ∈ wG := kw_98
theorem fd_X11_trace : mX11_trace.1.cls ≠ "java/lang/invoke/MethodHandle" ∧ mX11_trace.1.cls ≠ "java/lang/invoke/VarHandle" ∧ (parseMethodDescriptor mX11_trace.1.desc).map (fun d => d.parameters.length) = some 1 := by decide +kernel
theorem fc_X11_keep : Cond.code mX11_keep.1 mX11_keep.2.1 mX11_keep.2.2.1 mX11_keep.2.2.2.1 ∈ wG := kw_1360
theorem fi_X11_keep : Cond.initialized mX11_keep.1.cls ∈ wG := kw_98
theorem fd_X11_keep : mX11_keep.1.cls ≠ "java/lang/invoke/MethodHandle" ∧ mX11_keep.1.cls ≠ "java/lang/invoke/VarHandle" ∧ (parseMethodDescriptor mX11_keep.1.desc).map (fun d => d.parameters.length) = some 2 := by decide +kernel
theorem fc_X11_row : Cond.code mX11_row.1 mX11_row.2.1 mX11_row.2.2.1 mX11_row.2.2.2.1 ∈ wG := kw_1372
theorem fi_X11_row : Cond.initialized mX11_row.1.cls ∈ wG := kw_98
theorem fd_X11_row : mX11_row.1.cls ≠ "java/lang/invoke/MethodHandle" ∧ mX11_row.1.cls ≠ "java/lang/invoke/VarHandle" ∧ (parseMethodDescriptor mX11_row.1.desc).map (fun d => d.parameters.length) = some 3 := by decide +kernel
theorem fc_X11_put : Cond.code mX11_put.1 mX11_put.2.1 mX11_put.2.2.1 mX11_put.2.2.2.1 ∈ wG := kw_1381
theorem fi_X11_put : Cond.initialized mX11_put.1.cls ∈ wG := kw_98
theorem fd_X11_put : mX11_put.1.cls ≠ "java/lang/invoke/MethodHandle" ∧ mX11_put.1.cls ≠ "java/lang/invoke/VarHandle" ∧ (parseMethodDescriptor mX11_put.1.desc).map (fun d => d.parameters.length) = some 3 := by decide +kernel
theorem fc_X11_element : Cond.code mX11_element.1 mX11_element.2.1 mX11_element.2.2.1 mX11_element.2.2.2.1 ∈ wG := kw_1393
theorem fi_X11_element : Cond.initialized mX11_element.1.cls ∈ wG := kw_98
theorem fd_X11_element : mX11_element.1.cls ≠ "java/lang/invoke/MethodHandle" ∧ mX11_element.1.cls ≠ "java/lang/invoke/VarHandle" ∧ (parseMethodDescriptor mX11_element.1.desc).map (fun d => d.parameters.length) = some 2 := by decide +kernel
theorem fc_X11_shift : Cond.code mX11_shift.1 mX11_shift.2.1 mX11_shift.2.2.1 mX11_shift.2.2.2.1 ∈ wG := kw_1398
theorem fi_X11_shift : Cond.initialized mX11_shift.1.cls ∈ wG := kw_98
theorem fd_X11_shift : mX11_shift.1.cls ≠ "java/lang/invoke/MethodHandle" ∧ mX11_shift.1.cls ≠ "java/lang/invoke/VarHandle" ∧ (parseMethodDescriptor mX11_shift.1.desc).map (fun d => d.parameters.length) = some 5 := by decide +kernel
theorem fc_X11_taken : Cond.code mX11_taken.1 mX11_taken.2.1 mX11_taken.2.2.1 mX11_taken.2.2.2.1 ∈ wG := kw_1412
theorem fi_X11_taken : Cond.initialized mX11_taken.1.cls ∈ wG := kw_98
theorem fd_X11_taken : mX11_taken.1.cls ≠ "java/lang/invoke/MethodHandle" ∧ mX11_taken.1.cls ≠ "java/lang/invoke/VarHandle" ∧ (parseMethodDescriptor mX11_taken.1.desc).map (fun d => d.parameters.length) = some 2 := by decide +kernel
theorem fc_X11_count : Cond.code mX11_count.1 mX11_count.2.1 mX11_count.2.2.1 mX11_count.2.2.2.1 ∈ wG := kw_1425
theorem fi_X11_count : Cond.initialized mX11_count.1.cls ∈ wG := kw_98
theorem fd_X11_count : mX11_count.1.cls ≠ "java/lang/invoke/MethodHandle" ∧ mX11_count.1.cls ≠ "java/lang/invoke/VarHandle" ∧ (parseMethodDescriptor mX11_count.1.desc).map (fun d => d.parameters.length) = some 1 := by decide +kernel
theorem fc_X11_textOf : Cond.code mX11_textOf.1 mX11_textOf.2.1 mX11_textOf.2.2.1 mX11_textOf.2.2.2.1 ∈ wG := kw_674
theorem fi_X11_textOf : Cond.initialized mX11_textOf.1.cls ∈ wG := kw_98
theorem fd_X11_textOf : mX11_textOf.1.cls ≠ "java/lang/invoke/MethodHandle" ∧ mX11_textOf.1.cls ≠ "java/lang/invoke/VarHandle" ∧ (parseMethodDescriptor mX11_textOf.1.desc).map (fun d => d.parameters.length) = some 1 := by decide +kernel
theorem fc_X11_addWordFromRow : Cond.code mX11_addWordFromRow.1 mX11_addWordFromRow.2.1 mX11_addWordFromRow.2.2.1 mX11_addWordFromRow.2.2.2.1 ∈ wG := kw_1021
theorem fi_X11_addWordFromRow : Cond.initialized mX11_addWordFromRow.1.cls ∈ wG := kw_98
theorem fd_X11_addWordFromRow : mX11_addWordFromRow.1.cls ≠ "java/lang/invoke/MethodHandle" ∧ mX11_addWordFromRow.1.cls ≠ "java/lang/invoke/VarHandle" ∧ (parseMethodDescriptor mX11_addWordFromRow.1.desc).map (fun d => d.parameters.length) = some 3 := by decide +kernel
theorem fc_X11_thousandthsNear : Cond.code mX11_thousandthsNear.1 mX11_thousandthsNear.2.1 mX11_thousandthsNear.2.2.1 mX11_thousandthsNear.2.2.2.1 ∈ wG := kw_1220
theorem fi_X11_thousandthsNear : Cond.initialized mX11_thousandthsNear.1.cls ∈ wG := kw_98
theorem fd_X11_thousandthsNear : mX11_thousandthsNear.1.cls ≠ "java/lang/invoke/MethodHandle" ∧ mX11_thousandthsNear.1.cls ≠ "java/lang/invoke/VarHandle" ∧ (parseMethodDescriptor mX11_thousandthsNear.1.desc).map (fun d => d.parameters.length) = some 3 := by decide +kernel
theorem fc_X11_drawn : Cond.code mX11_drawn.1 mX11_drawn.2.1 mX11_drawn.2.2.1 mX11_drawn.2.2.2.1 ∈ wG := kw_1223
theorem fi_X11_drawn : Cond.initialized mX11_drawn.1.cls ∈ wG := kw_98
theorem fd_X11_drawn : mX11_drawn.1.cls ≠ "java/lang/invoke/MethodHandle" ∧ mX11_drawn.1.cls ≠ "java/lang/invoke/VarHandle" ∧ (parseMethodDescriptor mX11_drawn.1.desc).map (fun d => d.parameters.length) = some 1 := by decide +kernel
theorem fc_X11_drawnNode : Cond.code mX11_drawnNode.1 mX11_drawnNode.2.1 mX11_drawnNode.2.2.1 mX11_drawnNode.2.2.2.1 ∈ wG := kw_1227
theorem fi_X11_drawnNode : Cond.initialized mX11_drawnNode.1.cls ∈ wG := kw_98
theorem fd_X11_drawnNode : mX11_drawnNode.1.cls ≠ "java/lang/invoke/MethodHandle" ∧ mX11_drawnNode.1.cls ≠ "java/lang/invoke/VarHandle" ∧ (parseMethodDescriptor mX11_drawnNode.1.desc).map (fun d => d.parameters.length) = some 1 := by decide +kernel
theorem fc_X11_drawnReach : Cond.code mX11_drawnReach.1 mX11_drawnReach.2.1 mX11_drawnReach.2.2.1 mX11_drawnReach.2.2.2.1 ∈ wG := kw_1230
theorem fi_X11_drawnReach : Cond.initialized mX11_drawnReach.1.cls ∈ wG := kw_98
theorem fd_X11_drawnReach : mX11_drawnReach.1.cls ≠ "java/lang/invoke/MethodHandle" ∧ mX11_drawnReach.1.cls ≠ "java/lang/invoke/VarHandle" ∧ (parseMethodDescriptor mX11_drawnReach.1.desc).map (fun d => d.parameters.length) = some 1 := by decide +kernel
theorem fc_X11_isNear : Cond.code mX11_isNear.1 mX11_isNear.2.1 mX11_isNear.2.2.1 mX11_isNear.2.2.2.1 ∈ wG := kw_1212
theorem fi_X11_isNear : Cond.initialized mX11_isNear.1.cls ∈ wG := kw_98
theorem fd_X11_isNear : mX11_isNear.1.cls ≠ "java/lang/invoke/MethodHandle" ∧ mX11_isNear.1.cls ≠ "java/lang/invoke/VarHandle" ∧ (parseMethodDescriptor mX11_isNear.1.desc).map (fun d => d.parameters.length) = some 3 := by decide +kernel
theorem fc_X11_within : Cond.code mX11_within.1 mX11_within.2.1 mX11_within.2.2.1 mX11_within.2.2.2.1 ∈ wG := kw_414
theorem fi_X11_within : Cond.initialized mX11_within.1.cls ∈ wG := kw_98
theorem fd_X11_within : mX11_within.1.cls ≠ "java/lang/invoke/MethodHandle" ∧ mX11_within.1.cls ≠ "java/lang/invoke/VarHandle" ∧ (parseMethodDescriptor mX11_within.1.desc).map (fun d => d.parameters.length) = some 3 := by decide +kernel
theorem fc_X11_isDay : Cond.code mX11_isDay.1 mX11_isDay.2.1 mX11_isDay.2.2.1 mX11_isDay.2.2.2.1 ∈ wG := kw_455
theorem fi_X11_isDay : Cond.initialized mX11_isDay.1.cls ∈ wG := kw_98
theorem fd_X11_isDay : mX11_isDay.1.cls ≠ "java/lang/invoke/MethodHandle" ∧ mX11_isDay.1.cls ≠ "java/lang/invoke/VarHandle" ∧ (parseMethodDescriptor mX11_isDay.1.desc).map (fun d => d.parameters.length) = some 1 := by decide +kernel
theorem fc_X11_isPeople : Cond.code mX11_isPeople.1 mX11_isPeople.2.1 mX11_isPeople.2.2.1 mX11_isPeople.2.2.2.1 ∈ wG := kw_642
theorem fi_X11_isPeople : Cond.initialized mX11_isPeople.1.cls ∈ wG := kw_98
theorem fd_X11_isPeople : mX11_isPeople.1.cls ≠ "java/lang/invoke/MethodHandle" ∧ mX11_isPeople.1.cls ≠ "java/lang/invoke/VarHandle" ∧ (parseMethodDescriptor mX11_isPeople.1.desc).map (fun d => d.parameters.length) = some 1 := by decide +kernel
theorem fc_X11_isDatePart : Cond.code mX11_isDatePart.1 mX11_isDatePart.2.1 mX11_isDatePart.2.2.1 mX11_isDatePart.2.2.2.1 ∈ wG := kw_987
theorem fi_X11_isDatePart : Cond.initialized mX11_isDatePart.1.cls ∈ wG := kw_98
theorem fd_X11_isDatePart : mX11_isDatePart.1.cls ≠ "java/lang/invoke/MethodHandle" ∧ mX11_isDatePart.1.cls ≠ "java/lang/invoke/VarHandle" ∧ (parseMethodDescriptor mX11_isDatePart.1.desc).map (fun d => d.parameters.length) = some 1 := by decide +kernel
theorem fc_X11_isReturnNumber : Cond.code mX11_isReturnNumber.1 mX11_isReturnNumber.2.1 mX11_isReturnNumber.2.2.1 mX11_isReturnNumber.2.2.2.1 ∈ wG := kw_440
theorem fi_X11_isReturnNumber : Cond.initialized mX11_isReturnNumber.1.cls ∈ wG := kw_98
theorem fd_X11_isReturnNumber : mX11_isReturnNumber.1.cls ≠ "java/lang/invoke/MethodHandle" ∧ mX11_isReturnNumber.1.cls ≠ "java/lang/invoke/VarHandle" ∧ (parseMethodDescriptor mX11_isReturnNumber.1.desc).map (fun d => d.parameters.length) = some 1 := by decide +kernel
theorem fc_X11_isFar : Cond.code mX11_isFar.1 mX11_isFar.2.1 mX11_isFar.2.2.1 mX11_isFar.2.2.2.1 ∈ wG := kw_588
theorem fi_X11_isFar : Cond.initialized mX11_isFar.1.cls ∈ wG := kw_98
theorem fd_X11_isFar : mX11_isFar.1.cls ≠ "java/lang/invoke/MethodHandle" ∧ mX11_isFar.1.cls ≠ "java/lang/invoke/VarHandle" ∧ (parseMethodDescriptor mX11_isFar.1.desc).map (fun d => d.parameters.length) = some 1 := by decide +kernel
theorem fc_X11_apart : Cond.code mX11_apart.1 mX11_apart.2.1 mX11_apart.2.2.1 mX11_apart.2.2.2.1 ∈ wG := kw_605
theorem fi_X11_apart : Cond.initialized mX11_apart.1.cls ∈ wG := kw_98
theorem fd_X11_apart : mX11_apart.1.cls ≠ "java/lang/invoke/MethodHandle" ∧ mX11_apart.1.cls ≠ "java/lang/invoke/VarHandle" ∧ (parseMethodDescriptor mX11_apart.1.desc).map (fun d => d.parameters.length) = some 2 := by decide +kernel
theorem fc_X11_kindAbove : Cond.code mX11_kindAbove.1 mX11_kindAbove.2.1 mX11_kindAbove.2.2.1 mX11_kindAbove.2.2.2.1 ∈ wG := kw_1346
theorem fi_X11_kindAbove : Cond.initialized mX11_kindAbove.1.cls ∈ wG := kw_98
theorem fd_X11_kindAbove : mX11_kindAbove.1.cls ≠ "java/lang/invoke/MethodHandle" ∧ mX11_kindAbove.1.cls ≠ "java/lang/invoke/VarHandle" ∧ (parseMethodDescriptor mX11_kindAbove.1.desc).map (fun d => d.parameters.length) = some 1 := by decide +kernel
theorem fc_X11_isUnder : Cond.code mX11_isUnder.1 mX11_isUnder.2.1 mX11_isUnder.2.2.1 mX11_isUnder.2.2.2.1 ∈ wG := kw_1420
theorem fi_X11_isUnder : Cond.initialized mX11_isUnder.1.cls ∈ wG := kw_98
theorem fd_X11_isUnder : mX11_isUnder.1.cls ≠ "java/lang/invoke/MethodHandle" ∧ mX11_isUnder.1.cls ≠ "java/lang/invoke/VarHandle" ∧ (parseMethodDescriptor mX11_isUnder.1.desc).map (fun d => d.parameters.length) = some 2 := by decide +kernel
theorem fc_X11_turned : Cond.code mX11_turned.1 mX11_turned.2.1 mX11_turned.2.2.1 mX11_turned.2.2.2.1 ∈ wG := kw_481
theorem fi_X11_turned : Cond.initialized mX11_turned.1.cls ∈ wG := kw_98
theorem fd_X11_turned : mX11_turned.1.cls ≠ "java/lang/invoke/MethodHandle" ∧ mX11_turned.1.cls ≠ "java/lang/invoke/VarHandle" ∧ (parseMethodDescriptor mX11_turned.1.desc).map (fun d => d.parameters.length) = some 3 := by decide +kernel
theorem fc_X12_init : Cond.code mX12_init.1 mX12_init.2.1 mX12_init.2.2.1 mX12_init.2.2.2.1 ∈ wG := kw_1430
theorem fi_X12_init : Cond.initialized mX12_init.1.cls ∈ wG := kw_109
theorem fd_X12_init : mX12_init.1.cls ≠ "java/lang/invoke/MethodHandle" ∧ mX12_init.1.cls ≠ "java/lang/invoke/VarHandle" ∧ (parseMethodDescriptor mX12_init.1.desc).map (fun d => d.parameters.length) = some 0 := by decide +kernel
theorem fc_X12_in : Cond.code mX12_in.1 mX12_in.2.1 mX12_in.2.2.1 mX12_in.2.2.2.1 ∈ wG := kw_1646
theorem fi_X12_in : Cond.initialized mX12_in.1.cls ∈ wG := kw_109
theorem fd_X12_in : mX12_in.1.cls ≠ "java/lang/invoke/MethodHandle" ∧ mX12_in.1.cls ≠ "java/lang/invoke/VarHandle" ∧ (parseMethodDescriptor mX12_in.1.desc).map (fun d => d.parameters.length) = some 3 := by decide +kernel
theorem fc_X12_sizeOf : Cond.code mX12_sizeOf.1 mX12_sizeOf.2.1 mX12_sizeOf.2.2.1 mX12_sizeOf.2.2.2.1 ∈ wG := kw_1708
theorem fi_X12_sizeOf : Cond.initialized mX12_sizeOf.1.cls ∈ wG := kw_109
theorem fd_X12_sizeOf : mX12_sizeOf.1.cls ≠ "java/lang/invoke/MethodHandle" ∧ mX12_sizeOf.1.cls ≠ "java/lang/invoke/VarHandle" ∧ (parseMethodDescriptor mX12_sizeOf.1.desc).map (fun d => d.parameters.length) = some 1 := by decide +kernel
theorem fc_X12_apartOf : Cond.code mX12_apartOf.1 mX12_apartOf.2.1 mX12_apartOf.2.2.1 mX12_apartOf.2.2.2.1 ∈ wG := kw_1726
theorem fi_X12_apartOf : Cond.initialized mX12_apartOf.1.cls ∈ wG := kw_109
theorem fd_X12_apartOf : mX12_apartOf.1.cls ≠ "java/lang/invoke/MethodHandle" ∧ mX12_apartOf.1.cls ≠ "java/lang/invoke/VarHandle" ∧ (parseMethodDescriptor mX12_apartOf.1.desc).map (fun d => d.parameters.length) = some 2 := by decide +kernel
theorem fc_X12_isComet : Cond.code mX12_isComet.1 mX12_isComet.2.1 mX12_isComet.2.2.1 mX12_isComet.2.2.2.1 ∈ wG := kw_1670
theorem fi_X12_isComet : Cond.initialized mX12_isComet.1.cls ∈ wG := kw_109
theorem fd_X12_isComet : mX12_isComet.1.cls ≠ "java/lang/invoke/MethodHandle" ∧ mX12_isComet.1.cls ≠ "java/lang/invoke/VarHandle" ∧ (parseMethodDescriptor mX12_isComet.1.desc).map (fun d => d.parameters.length) = some 1 := by decide +kernel
theorem fc_X12_isReturn : Cond.code mX12_isReturn.1 mX12_isReturn.2.1 mX12_isReturn.2.2.1 mX12_isReturn.2.2.2.1 ∈ wG := kw_1677
theorem fi_X12_isReturn : Cond.initialized mX12_isReturn.1.cls ∈ wG := kw_109
theorem fd_X12_isReturn : mX12_isReturn.1.cls ≠ "java/lang/invoke/MethodHandle" ∧ mX12_isReturn.1.cls ≠ "java/lang/invoke/VarHandle" ∧ (parseMethodDescriptor mX12_isReturn.1.desc).map (fun d => d.parameters.length) = some 1 := by decide +kernel
theorem fc_X12_isDay : Cond.code mX12_isDay.1 mX12_isDay.2.1 mX12_isDay.2.2.1 mX12_isDay.2.2.2.1 ∈ wG := kw_1654
theorem fi_X12_isDay : Cond.initialized mX12_isDay.1.cls ∈ wG := kw_109
theorem fd_X12_isDay : mX12_isDay.1.cls ≠ "java/lang/invoke/MethodHandle" ∧ mX12_isDay.1.cls ≠ "java/lang/invoke/VarHandle" ∧ (parseMethodDescriptor mX12_isDay.1.desc).map (fun d => d.parameters.length) = some 1 := by decide +kernel
theorem fc_X12_isPeople : Cond.code mX12_isPeople.1 mX12_isPeople.2.1 mX12_isPeople.2.2.1 mX12_isPeople.2.2.2.1 ∈ wG := kw_1752
theorem fi_X12_isPeople : Cond.initialized mX12_isPeople.1.cls ∈ wG := kw_109
theorem fd_X12_isPeople : mX12_isPeople.1.cls ≠ "java/lang/invoke/MethodHandle" ∧ mX12_isPeople.1.cls ≠ "java/lang/invoke/VarHandle" ∧ (parseMethodDescriptor mX12_isPeople.1.desc).map (fun d => d.parameters.length) = some 1 := by decide +kernel
theorem fc_X12_great : Cond.code mX12_great.1 mX12_great.2.1 mX12_great.2.2.1 mX12_great.2.2.2.1 ∈ wG := kw_1643
theorem fi_X12_great : Cond.initialized mX12_great.1.cls ∈ wG := kw_109
theorem fd_X12_great : mX12_great.1.cls ≠ "java/lang/invoke/MethodHandle" ∧ mX12_great.1.cls ≠ "java/lang/invoke/VarHandle" ∧ (parseMethodDescriptor mX12_great.1.desc).map (fun d => d.parameters.length) = some 2 := by decide +kernel
theorem fc_X12_newComet : Cond.code mX12_newComet.1 mX12_newComet.2.1 mX12_newComet.2.2.1 mX12_newComet.2.2.2.1 ∈ wG := kw_1661
theorem fi_X12_newComet : Cond.initialized mX12_newComet.1.cls ∈ wG := kw_109
theorem fd_X12_newComet : mX12_newComet.1.cls ≠ "java/lang/invoke/MethodHandle" ∧ mX12_newComet.1.cls ≠ "java/lang/invoke/VarHandle" ∧ (parseMethodDescriptor mX12_newComet.1.desc).map (fun d => d.parameters.length) = some 7 := by decide +kernel
theorem fc_X12_comet : Cond.code mX12_comet.1 mX12_comet.2.1 mX12_comet.2.2.1 mX12_comet.2.2.2.1 ∈ wG := kw_1650
theorem fi_X12_comet : Cond.initialized mX12_comet.1.cls ∈ wG := kw_109
theorem fd_X12_comet : mX12_comet.1.cls ≠ "java/lang/invoke/MethodHandle" ∧ mX12_comet.1.cls ≠ "java/lang/invoke/VarHandle" ∧ (parseMethodDescriptor mX12_comet.1.desc).map (fun d => d.parameters.length) = some 4 := by decide +kernel
theorem fc_X12_ofComet : Cond.code mX12_ofComet.1 mX12_ofComet.2.1 mX12_ofComet.2.2.1 mX12_ofComet.2.2.2.1 ∈ wG := kw_1666
theorem fi_X12_ofComet : Cond.initialized mX12_ofComet.1.cls ∈ wG := kw_109
theorem fd_X12_ofComet : mX12_ofComet.1.cls ≠ "java/lang/invoke/MethodHandle" ∧ mX12_ofComet.1.cls ≠ "java/lang/invoke/VarHandle" ∧ (parseMethodDescriptor mX12_ofComet.1.desc).map (fun d => d.parameters.length) = some 2 := by decide +kernel
theorem fc_X12_pullsInAll : Cond.code mX12_pullsInAll.1 mX12_pullsInAll.2.1 mX12_pullsInAll.2.2.1 mX12_pullsInAll.2.2.2.1 ∈ wG := kw_1701
theorem fi_X12_pullsInAll : Cond.initialized mX12_pullsInAll.1.cls ∈ wG := kw_109
theorem fd_X12_pullsInAll : mX12_pullsInAll.1.cls ≠ "java/lang/invoke/MethodHandle" ∧ mX12_pullsInAll.1.cls ≠ "java/lang/invoke/VarHandle" ∧ (parseMethodDescriptor mX12_pullsInAll.1.desc).map (fun d => d.parameters.length) = some 0 := by decide +kernel
theorem fc_X12_passBehind : Cond.code mX12_passBehind.1 mX12_passBehind.2.1 mX12_passBehind.2.2.1 mX12_passBehind.2.2.2.1 ∈ wG := kw_1693
theorem fi_X12_passBehind : Cond.initialized mX12_passBehind.1.cls ∈ wG := kw_109
theorem fd_X12_passBehind : mX12_passBehind.1.cls ≠ "java/lang/invoke/MethodHandle" ∧ mX12_passBehind.1.cls ≠ "java/lang/invoke/VarHandle" ∧ (parseMethodDescriptor mX12_passBehind.1.desc).map (fun d => d.parameters.length) = some 3 := by decide +kernel
theorem fc_X12_allGreats : Cond.code mX12_allGreats.1 mX12_allGreats.2.1 mX12_allGreats.2.2.1 mX12_allGreats.2.2.2.1 ∈ wG := kw_1689
theorem fi_X12_allGreats : Cond.initialized mX12_allGreats.1.cls ∈ wG := kw_109
theorem fd_X12_allGreats : mX12_allGreats.1.cls ≠ "java/lang/invoke/MethodHandle" ∧ mX12_allGreats.1.cls ≠ "java/lang/invoke/VarHandle" ∧ (parseMethodDescriptor mX12_allGreats.1.desc).map (fun d => d.parameters.length) = some 0 := by decide +kernel
theorem fc_X12_passAhead : Cond.code mX12_passAhead.1 mX12_passAhead.2.1 mX12_passAhead.2.2.1 mX12_passAhead.2.2.2.1 ∈ wG := kw_1697
theorem fi_X12_passAhead : Cond.initialized mX12_passAhead.1.cls ∈ wG := kw_109
theorem fd_X12_passAhead : mX12_passAhead.1.cls ≠ "java/lang/invoke/MethodHandle" ∧ mX12_passAhead.1.cls ≠ "java/lang/invoke/VarHandle" ∧ (parseMethodDescriptor mX12_passAhead.1.desc).map (fun d => d.parameters.length) = some 2 := by decide +kernel
theorem fc_X12_findPasses : Cond.code mX12_findPasses.1 mX12_findPasses.2.1 mX12_findPasses.2.2.1 mX12_findPasses.2.2.2.1 ∈ wG := kw_1685
theorem fi_X12_findPasses : Cond.initialized mX12_findPasses.1.cls ∈ wG := kw_109
theorem fd_X12_findPasses : mX12_findPasses.1.cls ≠ "java/lang/invoke/MethodHandle" ∧ mX12_findPasses.1.cls ≠ "java/lang/invoke/VarHandle" ∧ (parseMethodDescriptor mX12_findPasses.1.desc).map (fun d => d.parameters.length) = some 1 := by decide +kernel
theorem fc_X12_passOf : Cond.code mX12_passOf.1 mX12_passOf.2.1 mX12_passOf.2.2.1 mX12_passOf.2.2.2.1 ∈ wG := kw_1681
theorem fi_X12_passOf : Cond.initialized mX12_passOf.1.cls ∈ wG := kw_109
theorem fd_X12_passOf : mX12_passOf.1.cls ≠ "java/lang/invoke/MethodHandle" ∧ mX12_passOf.1.cls ≠ "java/lang/invoke/VarHandle" ∧ (parseMethodDescriptor mX12_passOf.1.desc).map (fun d => d.parameters.length) = some 2 := by decide +kernel
theorem fc_X12_wideOf : Cond.code mX12_wideOf.1 mX12_wideOf.2.1 mX12_wideOf.2.2.1 mX12_wideOf.2.2.2.1 ∈ wG := kw_1705
theorem fi_X12_wideOf : Cond.initialized mX12_wideOf.1.cls ∈ wG := kw_109
theorem fd_X12_wideOf : mX12_wideOf.1.cls ≠ "java/lang/invoke/MethodHandle" ∧ mX12_wideOf.1.cls ≠ "java/lang/invoke/VarHandle" ∧ (parseMethodDescriptor mX12_wideOf.1.desc).map (fun d => d.parameters.length) = some 1 := by decide +kernel
theorem fc_X12_pass : Cond.code mX12_pass.1 mX12_pass.2.1 mX12_pass.2.2.1 mX12_pass.2.2.2.1 ∈ wG := kw_1674
theorem fi_X12_pass : Cond.initialized mX12_pass.1.cls ∈ wG := kw_109
theorem fd_X12_pass : mX12_pass.1.cls ≠ "java/lang/invoke/MethodHandle" ∧ mX12_pass.1.cls ≠ "java/lang/invoke/VarHandle" ∧ (parseMethodDescriptor mX12_pass.1.desc).map (fun d => d.parameters.length) = some 3 := by decide +kernel
theorem fc_X12_turned : Cond.code mX12_turned.1 mX12_turned.2.1 mX12_turned.2.2.1 mX12_turned.2.2.2.1 ∈ wG := kw_1719
theorem fi_X12_turned : Cond.initialized mX12_turned.1.cls ∈ wG := kw_109
theorem fd_X12_turned : mX12_turned.1.cls ≠ "java/lang/invoke/MethodHandle" ∧ mX12_turned.1.cls ≠ "java/lang/invoke/VarHandle" ∧ (parseMethodDescriptor mX12_turned.1.desc).map (fun d => d.parameters.length) = some 3 := by decide +kernel
theorem fc_X12_standsOn : Cond.code mX12_standsOn.1 mX12_standsOn.2.1 mX12_standsOn.2.2.1 mX12_standsOn.2.2.2.1 ∈ wG := kw_1716
theorem fi_X12_standsOn : Cond.initialized mX12_standsOn.1.cls ∈ wG := kw_109
theorem fd_X12_standsOn : mX12_standsOn.1.cls ≠ "java/lang/invoke/MethodHandle" ∧ mX12_standsOn.1.cls ≠ "java/lang/invoke/VarHandle" ∧ (parseMethodDescriptor mX12_standsOn.1.desc).map (fun d => d.parameters.length) = some 3 := by decide +kernel
theorem fc_X12_sunApart : Cond.code mX12_sunApart.1 mX12_sunApart.2.1 mX12_sunApart.2.2.1 mX12_sunApart.2.2.2.1 ∈ wG := kw_1723
theorem fi_X12_sunApart : Cond.initialized mX12_sunApart.1.cls ∈ wG := kw_109
theorem fd_X12_sunApart : mX12_sunApart.1.cls ≠ "java/lang/invoke/MethodHandle" ∧ mX12_sunApart.1.cls ≠ "java/lang/invoke/VarHandle" ∧ (parseMethodDescriptor mX12_sunApart.1.desc).map (fun d => d.parameters.length) = some 1 := by decide +kernel
theorem fc_X12_findFacts : Cond.code mX12_findFacts.1 mX12_findFacts.2.1 mX12_findFacts.2.2.1 mX12_findFacts.2.2.2.1 ∈ wG := kw_1734
theorem fi_X12_findFacts : Cond.initialized mX12_findFacts.1.cls ∈ wG := kw_109
theorem fd_X12_findFacts : mX12_findFacts.1.cls ≠ "java/lang/invoke/MethodHandle" ∧ mX12_findFacts.1.cls ≠ "java/lang/invoke/VarHandle" ∧ (parseMethodDescriptor mX12_findFacts.1.desc).map (fun d => d.parameters.length) = some 3 := by decide +kernel
theorem fc_X12_tailNow : Cond.code mX12_tailNow.1 mX12_tailNow.2.1 mX12_tailNow.2.2.1 mX12_tailNow.2.2.2.1 ∈ wG := kw_1730
theorem fi_X12_tailNow : Cond.initialized mX12_tailNow.1.cls ∈ wG := kw_109
theorem fd_X12_tailNow : mX12_tailNow.1.cls ≠ "java/lang/invoke/MethodHandle" ∧ mX12_tailNow.1.cls ≠ "java/lang/invoke/VarHandle" ∧ (parseMethodDescriptor mX12_tailNow.1.desc).map (fun d => d.parameters.length) = some 3 := by decide +kernel
theorem fc_X12_canSee : Cond.code mX12_canSee.1 mX12_canSee.2.1 mX12_canSee.2.2.1 mX12_canSee.2.2.2.1 ∈ wG := kw_1760
theorem fi_X12_canSee : Cond.initialized mX12_canSee.1.cls ∈ wG := kw_109
theorem fd_X12_canSee : mX12_canSee.1.cls ≠ "java/lang/invoke/MethodHandle" ∧ mX12_canSee.1.cls ≠ "java/lang/invoke/VarHandle" ∧ (parseMethodDescriptor mX12_canSee.1.desc).map (fun d => d.parameters.length) = some 4 := by decide +kernel
theorem fc_X12_stands : Cond.code mX12_stands.1 mX12_stands.2.1 mX12_stands.2.2.1 mX12_stands.2.2.2.1 ∈ wG := kw_1712
theorem fi_X12_stands : Cond.initialized mX12_stands.1.cls ∈ wG := kw_109
theorem fd_X12_stands : mX12_stands.1.cls ≠ "java/lang/invoke/MethodHandle" ∧ mX12_stands.1.cls ≠ "java/lang/invoke/VarHandle" ∧ (parseMethodDescriptor mX12_stands.1.desc).map (fun d => d.parameters.length) = some 4 := by decide +kernel
theorem fc_X12_seenBy : Cond.code mX12_seenBy.1 mX12_seenBy.2.1 mX12_seenBy.2.2.1 mX12_seenBy.2.2.2.1 ∈ wG := kw_1756
theorem fi_X12_seenBy : Cond.initialized mX12_seenBy.1.cls ∈ wG := kw_109
theorem fd_X12_seenBy : mX12_seenBy.1.cls ≠ "java/lang/invoke/MethodHandle" ∧ mX12_seenBy.1.cls ≠ "java/lang/invoke/VarHandle" ∧ (parseMethodDescriptor mX12_seenBy.1.desc).map (fun d => d.parameters.length) = some 3 := by decide +kernel
theorem fc_X12_seen : Cond.code mX12_seen.1 mX12_seen.2.1 mX12_seen.2.2.1 mX12_seen.2.2.2.1 ∈ wG := kw_1749
theorem fi_X12_seen : Cond.initialized mX12_seen.1.cls ∈ wG := kw_109
theorem fd_X12_seen : mX12_seen.1.cls ≠ "java/lang/invoke/MethodHandle" ∧ mX12_seen.1.cls ≠ "java/lang/invoke/VarHandle" ∧ (parseMethodDescriptor mX12_seen.1.desc).map (fun d => d.parameters.length) = some 3 := by decide +kernel
theorem fc_X12_feed : Cond.code mX12_feed.1 mX12_feed.2.1 mX12_feed.2.2.1 mX12_feed.2.2.2.1 ∈ wG := kw_1764
theorem fi_X12_feed : Cond.initialized mX12_feed.1.cls ∈ wG := kw_109
theorem fd_X12_feed : mX12_feed.1.cls ≠ "java/lang/invoke/MethodHandle" ∧ mX12_feed.1.cls ≠ "java/lang/invoke/VarHandle" ∧ (parseMethodDescriptor mX12_feed.1.desc).map (fun d => d.parameters.length) = some 2 := by decide +kernel
theorem fc_X12_look : Cond.code mX12_look.1 mX12_look.2.1 mX12_look.2.2.1 mX12_look.2.2.2.1 ∈ wG := kw_1800
theorem fi_X12_look : Cond.initialized mX12_look.1.cls ∈ wG := kw_109
theorem fd_X12_look : mX12_look.1.cls ≠ "java/lang/invoke/MethodHandle" ∧ mX12_look.1.cls ≠ "java/lang/invoke/VarHandle" ∧ (parseMethodDescriptor mX12_look.1.desc).map (fun d => d.parameters.length) = some 0 := by decide +kernel
theorem fc_X12_wrong : Cond.code mX12_wrong.1 mX12_wrong.2.1 mX12_wrong.2.2.1 mX12_wrong.2.2.2.1 ∈ wG := kw_1815
theorem fi_X12_wrong : Cond.initialized mX12_wrong.1.cls ∈ wG := kw_109
theorem fd_X12_wrong : mX12_wrong.1.cls ≠ "java/lang/invoke/MethodHandle" ∧ mX12_wrong.1.cls ≠ "java/lang/invoke/VarHandle" ∧ (parseMethodDescriptor mX12_wrong.1.desc).map (fun d => d.parameters.length) = some 0 := by decide +kernel
theorem fc_X12_lay : Cond.code mX12_lay.1 mX12_lay.2.1 mX12_lay.2.2.1 mX12_lay.2.2.2.1 ∈ wG := kw_1807
theorem fi_X12_lay : Cond.initialized mX12_lay.1.cls ∈ wG := kw_109
theorem fd_X12_lay : mX12_lay.1.cls ≠ "java/lang/invoke/MethodHandle" ∧ mX12_lay.1.cls ≠ "java/lang/invoke/VarHandle" ∧ (parseMethodDescriptor mX12_lay.1.desc).map (fun d => d.parameters.length) = some 2 := by decide +kernel
theorem fc_X12_nameOf : Cond.code mX12_nameOf.1 mX12_nameOf.2.1 mX12_nameOf.2.2.1 mX12_nameOf.2.2.2.1 ∈ wG := kw_1803
theorem fi_X12_nameOf : Cond.initialized mX12_nameOf.1.cls ∈ wG := kw_109
theorem fd_X12_nameOf : mX12_nameOf.1.cls ≠ "java/lang/invoke/MethodHandle" ∧ mX12_nameOf.1.cls ≠ "java/lang/invoke/VarHandle" ∧ (parseMethodDescriptor mX12_nameOf.1.desc).map (fun d => d.parameters.length) = some 1 := by decide +kernel
theorem fc_X12_opens : Cond.code mX12_opens.1 mX12_opens.2.1 mX12_opens.2.2.1 mX12_opens.2.2.2.1 ∈ wG := kw_1811
theorem fi_X12_opens : Cond.initialized mX12_opens.1.cls ∈ wG := kw_109
theorem fd_X12_opens : mX12_opens.1.cls ≠ "java/lang/invoke/MethodHandle" ∧ mX12_opens.1.cls ≠ "java/lang/invoke/VarHandle" ∧ (parseMethodDescriptor mX12_opens.1.desc).map (fun d => d.parameters.length) = some 0 := by decide +kernel
theorem fc_X12_number : Cond.code mX12_number.1 mX12_number.2.1 mX12_number.2.2.1 mX12_number.2.2.2.1 ∈ wG := kw_1819
theorem fi_X12_number : Cond.initialized mX12_number.1.cls ∈ wG := kw_109
theorem fd_X12_number : mX12_number.1.cls ≠ "java/lang/invoke/MethodHandle" ∧ mX12_number.1.cls ≠ "java/lang/invoke/VarHandle" ∧ (parseMethodDescriptor mX12_number.1.desc).map (fun d => d.parameters.length) = some 0 := by decide +kernel
theorem fc_X12_operand : Cond.code mX12_operand.1 mX12_operand.2.1 mX12_operand.2.2.1 mX12_operand.2.2.2.1 ∈ wG := kw_1796
theorem fi_X12_operand : Cond.initialized mX12_operand.1.cls ∈ wG := kw_109
theorem fd_X12_operand : mX12_operand.1.cls ≠ "java/lang/invoke/MethodHandle" ∧ mX12_operand.1.cls ≠ "java/lang/invoke/VarHandle" ∧ (parseMethodDescriptor mX12_operand.1.desc).map (fun d => d.parameters.length) = some 0 := by decide +kernel
theorem fc_X12_product : Cond.code mX12_product.1 mX12_product.2.1 mX12_product.2.2.1 mX12_product.2.2.2.1 ∈ wG := kw_1792
theorem fi_X12_product : Cond.initialized mX12_product.1.cls ∈ wG := kw_109
theorem fd_X12_product : mX12_product.1.cls ≠ "java/lang/invoke/MethodHandle" ∧ mX12_product.1.cls ≠ "java/lang/invoke/VarHandle" ∧ (parseMethodDescriptor mX12_product.1.desc).map (fun d => d.parameters.length) = some 0 := by decide +kernel
theorem fc_X12_sum : Cond.code mX12_sum.1 mX12_sum.2.1 mX12_sum.2.2.1 mX12_sum.2.2.2.1 ∈ wG := kw_1788
theorem fi_X12_sum : Cond.initialized mX12_sum.1.cls ∈ wG := kw_109
theorem fd_X12_sum : mX12_sum.1.cls ≠ "java/lang/invoke/MethodHandle" ∧ mX12_sum.1.cls ≠ "java/lang/invoke/VarHandle" ∧ (parseMethodDescriptor mX12_sum.1.desc).map (fun d => d.parameters.length) = some 0 := by decide +kernel
theorem fc_X12_compared : Cond.code mX12_compared.1 mX12_compared.2.1 mX12_compared.2.2.1 mX12_compared.2.2.2.1 ∈ wG := kw_1784
theorem fi_X12_compared : Cond.initialized mX12_compared.1.cls ∈ wG := kw_109
theorem fd_X12_compared : mX12_compared.1.cls ≠ "java/lang/invoke/MethodHandle" ∧ mX12_compared.1.cls ≠ "java/lang/invoke/VarHandle" ∧ (parseMethodDescriptor mX12_compared.1.desc).map (fun d => d.parameters.length) = some 0 := by decide +kernel
theorem fc_X12_both : Cond.code mX12_both.1 mX12_both.2.1 mX12_both.2.2.1 mX12_both.2.2.2.1 ∈ wG := kw_1780
theorem fi_X12_both : Cond.initialized mX12_both.1.cls ∈ wG := kw_109
theorem fd_X12_both : mX12_both.1.cls ≠ "java/lang/invoke/MethodHandle" ∧ mX12_both.1.cls ≠ "java/lang/invoke/VarHandle" ∧ (parseMethodDescriptor mX12_both.1.desc).map (fun d => d.parameters.length) = some 0 := by decide +kernel
theorem fc_X12_either : Cond.code mX12_either.1 mX12_either.2.1 mX12_either.2.2.1 mX12_either.2.2.2.1 ∈ wG := kw_1776
theorem fi_X12_either : Cond.initialized mX12_either.1.cls ∈ wG := kw_109
theorem fd_X12_either : mX12_either.1.cls ≠ "java/lang/invoke/MethodHandle" ∧ mX12_either.1.cls ≠ "java/lang/invoke/VarHandle" ∧ (parseMethodDescriptor mX12_either.1.desc).map (fun d => d.parameters.length) = some 0 := by decide +kernel
theorem fc_X12_line : Cond.code mX12_line.1 mX12_line.2.1 mX12_line.2.2.1 mX12_line.2.2.2.1 ∈ wG := kw_1772
theorem fi_X12_line : Cond.initialized mX12_line.1.cls ∈ wG := kw_109
theorem fd_X12_line : mX12_line.1.cls ≠ "java/lang/invoke/MethodHandle" ∧ mX12_line.1.cls ≠ "java/lang/invoke/VarHandle" ∧ (parseMethodDescriptor mX12_line.1.desc).map (fun d => d.parameters.length) = some 0 := by decide +kernel
theorem fc_X12_placeFor : Cond.code mX12_placeFor.1 mX12_placeFor.2.1 mX12_placeFor.2.2.1 mX12_placeFor.2.2.2.1 ∈ wG := kw_1822
theorem fi_X12_placeFor : Cond.initialized mX12_placeFor.1.cls ∈ wG := kw_109
theorem fd_X12_placeFor : mX12_placeFor.1.cls ≠ "java/lang/invoke/MethodHandle" ∧ mX12_placeFor.1.cls ≠ "java/lang/invoke/VarHandle" ∧ (parseMethodDescriptor mX12_placeFor.1.desc).map (fun d => d.parameters.length) = some 1 := by decide +kernel
theorem fc_X12_text : Cond.code mX12_text.1 mX12_text.2.1 mX12_text.2.2.1 mX12_text.2.2.2.1 ∈ wG := kw_1768
theorem fi_X12_text : Cond.initialized mX12_text.1.cls ∈ wG := kw_109
theorem fd_X12_text : mX12_text.1.cls ≠ "java/lang/invoke/MethodHandle" ∧ mX12_text.1.cls ≠ "java/lang/invoke/VarHandle" ∧ (parseMethodDescriptor mX12_text.1.desc).map (fun d => d.parameters.length) = some 1 := by decide +kernel
theorem fc_X12_twoOf : Cond.code mX12_twoOf.1 mX12_twoOf.2.1 mX12_twoOf.2.2.1 mX12_twoOf.2.2.2.1 ∈ wG := kw_1745
theorem fi_X12_twoOf : Cond.initialized mX12_twoOf.1.cls ∈ wG := kw_109
theorem fd_X12_twoOf : mX12_twoOf.1.cls ≠ "java/lang/invoke/MethodHandle" ∧ mX12_twoOf.1.cls ≠ "java/lang/invoke/VarHandle" ∧ (parseMethodDescriptor mX12_twoOf.1.desc).map (fun d => d.parameters.length) = some 3 := by decide +kernel
theorem fc_X12_worked : Cond.code mX12_worked.1 mX12_worked.2.1 mX12_worked.2.2.1 mX12_worked.2.2.2.1 ∈ wG := kw_1742
theorem fi_X12_worked : Cond.initialized mX12_worked.1.cls ∈ wG := kw_109
theorem fd_X12_worked : mX12_worked.1.cls ≠ "java/lang/invoke/MethodHandle" ∧ mX12_worked.1.cls ≠ "java/lang/invoke/VarHandle" ∧ (parseMethodDescriptor mX12_worked.1.desc).map (fun d => d.parameters.length) = some 3 := by decide +kernel
theorem fc_X12_gives : Cond.code mX12_gives.1 mX12_gives.2.1 mX12_gives.2.2.1 mX12_gives.2.2.2.1 ∈ wG := kw_1738
theorem fi_X12_gives : Cond.initialized mX12_gives.1.cls ∈ wG := kw_109
theorem fd_X12_gives : mX12_gives.1.cls ≠ "java/lang/invoke/MethodHandle" ∧ mX12_gives.1.cls ≠ "java/lang/invoke/VarHandle" ∧ (parseMethodDescriptor mX12_gives.1.desc).map (fun d => d.parameters.length) = some 1 := by decide +kernel
theorem fc_X12_reign : Cond.code mX12_reign.1 mX12_reign.2.1 mX12_reign.2.2.1 mX12_reign.2.2.2.1 ∈ wG := kw_1826
theorem fi_X12_reign : Cond.initialized mX12_reign.1.cls ∈ wG := kw_109
theorem fd_X12_reign : mX12_reign.1.cls ≠ "java/lang/invoke/MethodHandle" ∧ mX12_reign.1.cls ≠ "java/lang/invoke/VarHandle" ∧ (parseMethodDescriptor mX12_reign.1.desc).map (fun d => d.parameters.length) = some 3 := by decide +kernel
theorem fc_X12_watch : Cond.code mX12_watch.1 mX12_watch.2.1 mX12_watch.2.2.1 mX12_watch.2.2.2.1 ∈ wG := kw_1830
theorem fi_X12_watch : Cond.initialized mX12_watch.1.cls ∈ wG := kw_109
theorem fd_X12_watch : mX12_watch.1.cls ≠ "java/lang/invoke/MethodHandle" ∧ mX12_watch.1.cls ≠ "java/lang/invoke/VarHandle" ∧ (parseMethodDescriptor mX12_watch.1.desc).map (fun d => d.parameters.length) = some 3 := by decide +kernel
theorem fc_X12_isWord : Cond.code mX12_isWord.1 mX12_isWord.2.1 mX12_isWord.2.2.1 mX12_isWord.2.2.2.1 ∈ wG := kw_1848
theorem fi_X12_isWord : Cond.initialized mX12_isWord.1.cls ∈ wG := kw_109
theorem fd_X12_isWord : mX12_isWord.1.cls ≠ "java/lang/invoke/MethodHandle" ∧ mX12_isWord.1.cls ≠ "java/lang/invoke/VarHandle" ∧ (parseMethodDescriptor mX12_isWord.1.desc).map (fun d => d.parameters.length) = some 1 := by decide +kernel
theorem fc_X12_isUnder : Cond.code mX12_isUnder.1 mX12_isUnder.2.1 mX12_isUnder.2.2.1 mX12_isUnder.2.2.2.1 ∈ wG := kw_2113
theorem fi_X12_isUnder : Cond.initialized mX12_isUnder.1.cls ∈ wG := kw_109
theorem fd_X12_isUnder : mX12_isUnder.1.cls ≠ "java/lang/invoke/MethodHandle" ∧ mX12_isUnder.1.cls ≠ "java/lang/invoke/VarHandle" ∧ (parseMethodDescriptor mX12_isUnder.1.desc).map (fun d => d.parameters.length) = some 2 := by decide +kernel
theorem fc_X12_isLodged : Cond.code mX12_isLodged.1 mX12_isLodged.2.1 mX12_isLodged.2.2.1 mX12_isLodged.2.2.2.1 ∈ wG := kw_1841
theorem fi_X12_isLodged : Cond.initialized mX12_isLodged.1.cls ∈ wG := kw_109
theorem fd_X12_isLodged : mX12_isLodged.1.cls ≠ "java/lang/invoke/MethodHandle" ∧ mX12_isLodged.1.cls ≠ "java/lang/invoke/VarHandle" ∧ (parseMethodDescriptor mX12_isLodged.1.desc).map (fun d => d.parameters.length) = some 1 := by decide +kernel
theorem fc_X12_isSided : Cond.code mX12_isSided.1 mX12_isSided.2.1 mX12_isSided.2.2.1 mX12_isSided.2.2.2.1 ∈ wG := kw_1844
theorem fi_X12_isSided : Cond.initialized mX12_isSided.1.cls ∈ wG := kw_109
theorem fd_X12_isSided : mX12_isSided.1.cls ≠ "java/lang/invoke/MethodHandle" ∧ mX12_isSided.1.cls ≠ "java/lang/invoke/VarHandle" ∧ (parseMethodDescriptor mX12_isSided.1.desc).map (fun d => d.parameters.length) = some 1 := by decide +kernel
theorem fc_X12_date : Cond.code mX12_date.1 mX12_date.2.1 mX12_date.2.2.1 mX12_date.2.2.2.1 ∈ wG := kw_1834
theorem fi_X12_date : Cond.initialized mX12_date.1.cls ∈ wG := kw_109
theorem fd_X12_date : mX12_date.1.cls ≠ "java/lang/invoke/MethodHandle" ∧ mX12_date.1.cls ≠ "java/lang/invoke/VarHandle" ∧ (parseMethodDescriptor mX12_date.1.desc).map (fun d => d.parameters.length) = some 3 := by decide +kernel
theorem fc_X12_newWord : Cond.code mX12_newWord.1 mX12_newWord.2.1 mX12_newWord.2.2.1 mX12_newWord.2.2.2.1 ∈ wG := kw_1852
theorem fi_X12_newWord : Cond.initialized mX12_newWord.1.cls ∈ wG := kw_109
theorem fd_X12_newWord : mX12_newWord.1.cls ≠ "java/lang/invoke/MethodHandle" ∧ mX12_newWord.1.cls ≠ "java/lang/invoke/VarHandle" ∧ (parseMethodDescriptor mX12_newWord.1.desc).map (fun d => d.parameters.length) = some 8 := by decide +kernel
theorem fc_X12_word : Cond.code mX12_word.1 mX12_word.2.1 mX12_word.2.2.1 mX12_word.2.2.2.1 ∈ wG := kw_1838
theorem fi_X12_word : Cond.initialized mX12_word.1.cls ∈ wG := kw_109
theorem fd_X12_word : mX12_word.1.cls ≠ "java/lang/invoke/MethodHandle" ∧ mX12_word.1.cls ≠ "java/lang/invoke/VarHandle" ∧ (parseMethodDescriptor mX12_word.1.desc).map (fun d => d.parameters.length) = some 3 := by decide +kernel
theorem fc_X12_words : Cond.code mX12_words.1 mX12_words.2.1 mX12_words.2.2.1 mX12_words.2.2.2.1 ∈ wG := kw_1856
theorem fi_X12_words : Cond.initialized mX12_words.1.cls ∈ wG := kw_109
theorem fd_X12_words : mX12_words.1.cls ≠ "java/lang/invoke/MethodHandle" ∧ mX12_words.1.cls ≠ "java/lang/invoke/VarHandle" ∧ (parseMethodDescriptor mX12_words.1.desc).map (fun d => d.parameters.length) = some 4 := by decide +kernel
theorem fc_X12_rootOf : Cond.code mX12_rootOf.1 mX12_rootOf.2.1 mX12_rootOf.2.2.1 mX12_rootOf.2.2.2.1 ∈ wG := kw_1868
theorem fi_X12_rootOf : Cond.initialized mX12_rootOf.1.cls ∈ wG := kw_109
theorem fd_X12_rootOf : mX12_rootOf.1.cls ≠ "java/lang/invoke/MethodHandle" ∧ mX12_rootOf.1.cls ≠ "java/lang/invoke/VarHandle" ∧ (parseMethodDescriptor mX12_rootOf.1.desc).map (fun d => d.parameters.length) = some 1 := by decide +kernel
theorem fc_X12_spansOf : Cond.code mX12_spansOf.1 mX12_spansOf.2.1 mX12_spansOf.2.2.1 mX12_spansOf.2.2.2.1 ∈ wG := kw_1872
theorem fi_X12_spansOf : Cond.initialized mX12_spansOf.1.cls ∈ wG := kw_109
theorem fd_X12_spansOf : mX12_spansOf.1.cls ≠ "java/lang/invoke/MethodHandle" ∧ mX12_spansOf.1.cls ≠ "java/lang/invoke/VarHandle" ∧ (parseMethodDescriptor mX12_spansOf.1.desc).map (fun d => d.parameters.length) = some 1 := by decide +kernel
theorem fc_X12_ofWord : Cond.code mX12_ofWord.1 mX12_ofWord.2.1 mX12_ofWord.2.2.1 mX12_ofWord.2.2.2.1 ∈ wG := kw_1864
theorem fi_X12_ofWord : Cond.initialized mX12_ofWord.1.cls ∈ wG := kw_109
theorem fd_X12_ofWord : mX12_ofWord.1.cls ≠ "java/lang/invoke/MethodHandle" ∧ mX12_ofWord.1.cls ≠ "java/lang/invoke/VarHandle" ∧ (parseMethodDescriptor mX12_ofWord.1.desc).map (fun d => d.parameters.length) = some 2 := by decide +kernel
theorem fc_X12_findSpan : Cond.code mX12_findSpan.1 mX12_findSpan.2.1 mX12_findSpan.2.2.1 mX12_findSpan.2.2.2.1 ∈ wG := kw_1880
theorem fi_X12_findSpan : Cond.initialized mX12_findSpan.1.cls ∈ wG := kw_109
theorem fd_X12_findSpan : mX12_findSpan.1.cls ≠ "java/lang/invoke/MethodHandle" ∧ mX12_findSpan.1.cls ≠ "java/lang/invoke/VarHandle" ∧ (parseMethodDescriptor mX12_findSpan.1.desc).map (fun d => d.parameters.length) = some 3 := by decide +kernel
theorem fc_X12_span : Cond.code mX12_span.1 mX12_span.2.1 mX12_span.2.2.1 mX12_span.2.2.2.1 ∈ wG := kw_1876
theorem fi_X12_span : Cond.initialized mX12_span.1.cls ∈ wG := kw_109
theorem fd_X12_span : mX12_span.1.cls ≠ "java/lang/invoke/MethodHandle" ∧ mX12_span.1.cls ≠ "java/lang/invoke/VarHandle" ∧ (parseMethodDescriptor mX12_span.1.desc).map (fun d => d.parameters.length) = some 3 := by decide +kernel
theorem fc_X12_lodgeApart : Cond.code mX12_lodgeApart.1 mX12_lodgeApart.2.1 mX12_lodgeApart.2.2.1 mX12_lodgeApart.2.2.2.1 ∈ wG := kw_1901
theorem fi_X12_lodgeApart : Cond.initialized mX12_lodgeApart.1.cls ∈ wG := kw_109
theorem fd_X12_lodgeApart : mX12_lodgeApart.1.cls ≠ "java/lang/invoke/MethodHandle" ∧ mX12_lodgeApart.1.cls ≠ "java/lang/invoke/VarHandle" ∧ (parseMethodDescriptor mX12_lodgeApart.1.desc).map (fun d => d.parameters.length) = some 2 := by decide +kernel
theorem fc_X12_isWest : Cond.code mX12_isWest.1 mX12_isWest.2.1 mX12_isWest.2.2.1 mX12_isWest.2.2.2.1 ∈ wG := kw_1905
theorem fi_X12_isWest : Cond.initialized mX12_isWest.1.cls ∈ wG := kw_109
theorem fd_X12_isWest : mX12_isWest.1.cls ≠ "java/lang/invoke/MethodHandle" ∧ mX12_isWest.1.cls ≠ "java/lang/invoke/VarHandle" ∧ (parseMethodDescriptor mX12_isWest.1.desc).map (fun d => d.parameters.length) = some 1 := by decide +kernel
theorem fc_X12_fitsOn : Cond.code mX12_fitsOn.1 mX12_fitsOn.2.1 mX12_fitsOn.2.2.1 mX12_fitsOn.2.2.2.1 ∈ wG := kw_1898
theorem fi_X12_fitsOn : Cond.initialized mX12_fitsOn.1.cls ∈ wG := kw_109
theorem fd_X12_fitsOn : mX12_fitsOn.1.cls ≠ "java/lang/invoke/MethodHandle" ∧ mX12_fitsOn.1.cls ≠ "java/lang/invoke/VarHandle" ∧ (parseMethodDescriptor mX12_fitsOn.1.desc).map (fun d => d.parameters.length) = some 4 := by decide +kernel
theorem fc_X12_findLook : Cond.code mX12_findLook.1 mX12_findLook.2.1 mX12_findLook.2.2.1 mX12_findLook.2.2.2.1 ∈ wG := kw_1894
theorem fi_X12_findLook : Cond.initialized mX12_findLook.1.cls ∈ wG := kw_109
theorem fd_X12_findLook : mX12_findLook.1.cls ≠ "java/lang/invoke/MethodHandle" ∧ mX12_findLook.1.cls ≠ "java/lang/invoke/VarHandle" ∧ (parseMethodDescriptor mX12_findLook.1.desc).map (fun d => d.parameters.length) = some 4 := by decide +kernel
theorem fc_X12_isTurned : Cond.code mX12_isTurned.1 mX12_isTurned.2.1 mX12_isTurned.2.2.1 mX12_isTurned.2.2.2.1 ∈ wG := kw_1909
theorem fi_X12_isTurned : Cond.initialized mX12_isTurned.1.cls ∈ wG := kw_109
theorem fd_X12_isTurned : mX12_isTurned.1.cls ≠ "java/lang/invoke/MethodHandle" ∧ mX12_isTurned.1.cls ≠ "java/lang/invoke/VarHandle" ∧ (parseMethodDescriptor mX12_isTurned.1.desc).map (fun d => d.parameters.length) = some 4 := by decide +kernel
theorem fc_X12_fitDay : Cond.code mX12_fitDay.1 mX12_fitDay.2.1 mX12_fitDay.2.2.1 mX12_fitDay.2.2.2.1 ∈ wG := kw_1890
theorem fi_X12_fitDay : Cond.initialized mX12_fitDay.1.cls ∈ wG := kw_109
theorem fd_X12_fitDay : mX12_fitDay.1.cls ≠ "java/lang/invoke/MethodHandle" ∧ mX12_fitDay.1.cls ≠ "java/lang/invoke/VarHandle" ∧ (parseMethodDescriptor mX12_fitDay.1.desc).map (fun d => d.parameters.length) = some 5 := by decide +kernel
theorem fc_X12_fits : Cond.code mX12_fits.1 mX12_fits.2.1 mX12_fits.2.2.1 mX12_fits.2.2.2.1 ∈ wG := kw_1886
theorem fi_X12_fits : Cond.initialized mX12_fits.1.cls ∈ wG := kw_109
theorem fd_X12_fits : mX12_fits.1.cls ≠ "java/lang/invoke/MethodHandle" ∧ mX12_fits.1.cls ≠ "java/lang/invoke/VarHandle" ∧ (parseMethodDescriptor mX12_fits.1.desc).map (fun d => d.parameters.length) = some 3 := by decide +kernel
theorem fc_X12_perhaps : Cond.code mX12_perhaps.1 mX12_perhaps.2.1 mX12_perhaps.2.2.1 mX12_perhaps.2.2.2.1 ∈ wG := kw_1913
theorem fi_X12_perhaps : Cond.initialized mX12_perhaps.1.cls ∈ wG := kw_109
theorem fd_X12_perhaps : mX12_perhaps.1.cls ≠ "java/lang/invoke/MethodHandle" ∧ mX12_perhaps.1.cls ≠ "java/lang/invoke/VarHandle" ∧ (parseMethodDescriptor mX12_perhaps.1.desc).map (fun d => d.parameters.length) = some 3 := by decide +kernel
theorem fc_X12_whoseBy : Cond.code mX12_whoseBy.1 mX12_whoseBy.2.1 mX12_whoseBy.2.2.1 mX12_whoseBy.2.2.2.1 ∈ wG := kw_1921
theorem fi_X12_whoseBy : Cond.initialized mX12_whoseBy.1.cls ∈ wG := kw_109
theorem fd_X12_whoseBy : mX12_whoseBy.1.cls ≠ "java/lang/invoke/MethodHandle" ∧ mX12_whoseBy.1.cls ≠ "java/lang/invoke/VarHandle" ∧ (parseMethodDescriptor mX12_whoseBy.1.desc).map (fun d => d.parameters.length) = some 3 := by decide +kernel
theorem fc_X12_whose : Cond.code mX12_whose.1 mX12_whose.2.1 mX12_whose.2.2.1 mX12_whose.2.2.2.1 ∈ wG := kw_1917
theorem fi_X12_whose : Cond.initialized mX12_whose.1.cls ∈ wG := kw_109
theorem fd_X12_whose : mX12_whose.1.cls ≠ "java/lang/invoke/MethodHandle" ∧ mX12_whose.1.cls ≠ "java/lang/invoke/VarHandle" ∧ (parseMethodDescriptor mX12_whose.1.desc).map (fun d => d.parameters.length) = some 2 := by decide +kernel
theorem fc_X12_evening : Cond.code mX12_evening.1 mX12_evening.2.1 mX12_evening.2.2.1 mX12_evening.2.2.2.1 ∈ wG := kw_1925
theorem fi_X12_evening : Cond.initialized mX12_evening.1.cls ∈ wG := kw_109
theorem fd_X12_evening : mX12_evening.1.cls ≠ "java/lang/invoke/MethodHandle" ∧ mX12_evening.1.cls ≠ "java/lang/invoke/VarHandle" ∧ (parseMethodDescriptor mX12_evening.1.desc).map (fun d => d.parameters.length) = some 2 := by decide +kernel
theorem fc_X12_isAheadThenBehind : Cond.code mX12_isAheadThenBehind.1 mX12_isAheadThenBehind.2.1 mX12_isAheadThenBehind.2.2.1 mX12_isAheadThenBehind.2.2.2.1 ∈ wG := kw_1933
theorem fi_X12_isAheadThenBehind : Cond.initialized mX12_isAheadThenBehind.1.cls ∈ wG := kw_109
theorem fd_X12_isAheadThenBehind : mX12_isAheadThenBehind.1.cls ≠ "java/lang/invoke/MethodHandle" ∧ mX12_isAheadThenBehind.1.cls ≠ "java/lang/invoke/VarHandle" ∧ (parseMethodDescriptor mX12_isAheadThenBehind.1.desc).map (fun d => d.parameters.length) = some 4 := by decide +kernel
theorem fc_X12_behind : Cond.code mX12_behind.1 mX12_behind.2.1 mX12_behind.2.2.1 mX12_behind.2.2.2.1 ∈ wG := kw_1929
theorem fi_X12_behind : Cond.initialized mX12_behind.1.cls ∈ wG := kw_109
theorem fd_X12_behind : mX12_behind.1.cls ≠ "java/lang/invoke/MethodHandle" ∧ mX12_behind.1.cls ≠ "java/lang/invoke/VarHandle" ∧ (parseMethodDescriptor mX12_behind.1.desc).map (fun d => d.parameters.length) = some 2 := by decide +kernel
theorem fc_X12_once : Cond.code mX12_once.1 mX12_once.2.1 mX12_once.2.2.1 mX12_once.2.2.2.1 ∈ wG := kw_1937
theorem fi_X12_once : Cond.initialized mX12_once.1.cls ∈ wG := kw_109
theorem fd_X12_once : mX12_once.1.cls ≠ "java/lang/invoke/MethodHandle" ∧ mX12_once.1.cls ≠ "java/lang/invoke/VarHandle" ∧ (parseMethodDescriptor mX12_once.1.desc).map (fun d => d.parameters.length) = some 1 := by decide +kernel
theorem fc_X12_isWatched : Cond.code mX12_isWatched.1 mX12_isWatched.2.1 mX12_isWatched.2.2.1 mX12_isWatched.2.2.2.1 ∈ wG := kw_1949
theorem fi_X12_isWatched : Cond.initialized mX12_isWatched.1.cls ∈ wG := kw_109
theorem fd_X12_isWatched : mX12_isWatched.1.cls ≠ "java/lang/invoke/MethodHandle" ∧ mX12_isWatched.1.cls ≠ "java/lang/invoke/VarHandle" ∧ (parseMethodDescriptor mX12_isWatched.1.desc).map (fun d => d.parameters.length) = some 2 := by decide +kernel
theorem fc_X12_isTold : Cond.code mX12_isTold.1 mX12_isTold.2.1 mX12_isTold.2.2.1 mX12_isTold.2.2.2.1 ∈ wG := kw_1953
theorem fi_X12_isTold : Cond.initialized mX12_isTold.1.cls ∈ wG := kw_109
theorem fd_X12_isTold : mX12_isTold.1.cls ≠ "java/lang/invoke/MethodHandle" ∧ mX12_isTold.1.cls ≠ "java/lang/invoke/VarHandle" ∧ (parseMethodDescriptor mX12_isTold.1.desc).map (fun d => d.parameters.length) = some 2 := by decide +kernel
theorem fc_X12_findStory : Cond.code mX12_findStory.1 mX12_findStory.2.1 mX12_findStory.2.2.1 mX12_findStory.2.2.2.1 ∈ wG := kw_1945
theorem fi_X12_findStory : Cond.initialized mX12_findStory.1.cls ∈ wG := kw_109
theorem fd_X12_findStory : mX12_findStory.1.cls ≠ "java/lang/invoke/MethodHandle" ∧ mX12_findStory.1.cls ≠ "java/lang/invoke/VarHandle" ∧ (parseMethodDescriptor mX12_findStory.1.desc).map (fun d => d.parameters.length) = some 1 := by decide +kernel
theorem fc_X12_worthOf : Cond.code mX12_worthOf.1 mX12_worthOf.2.1 mX12_worthOf.2.2.1 mX12_worthOf.2.2.2.1 ∈ wG := kw_1957
theorem fi_X12_worthOf : Cond.initialized mX12_worthOf.1.cls ∈ wG := kw_109
theorem fd_X12_worthOf : mX12_worthOf.1.cls ≠ "java/lang/invoke/MethodHandle" ∧ mX12_worthOf.1.cls ≠ "java/lang/invoke/VarHandle" ∧ (parseMethodDescriptor mX12_worthOf.1.desc).map (fun d => d.parameters.length) = some 1 := by decide +kernel
theorem fc_X12_judge : Cond.code mX12_judge.1 mX12_judge.2.1 mX12_judge.2.2.1 mX12_judge.2.2.2.1 ∈ wG := kw_1941
theorem fi_X12_judge : Cond.initialized mX12_judge.1.cls ∈ wG := kw_109
theorem fd_X12_judge : mX12_judge.1.cls ≠ "java/lang/invoke/MethodHandle" ∧ mX12_judge.1.cls ≠ "java/lang/invoke/VarHandle" ∧ (parseMethodDescriptor mX12_judge.1.desc).map (fun d => d.parameters.length) = some 1 := by decide +kernel
theorem fc_X12_bitsOf : Cond.code mX12_bitsOf.1 mX12_bitsOf.2.1 mX12_bitsOf.2.2.1 mX12_bitsOf.2.2.2.1 ∈ wG := kw_1964
theorem fi_X12_bitsOf : Cond.initialized mX12_bitsOf.1.cls ∈ wG := kw_109
theorem fd_X12_bitsOf : mX12_bitsOf.1.cls ≠ "java/lang/invoke/MethodHandle" ∧ mX12_bitsOf.1.cls ≠ "java/lang/invoke/VarHandle" ∧ (parseMethodDescriptor mX12_bitsOf.1.desc).map (fun d => d.parameters.length) = some 1 := by decide +kernel
theorem fc_X12_best : Cond.code mX12_best.1 mX12_best.2.1 mX12_best.2.2.1 mX12_best.2.2.2.1 ∈ wG := kw_1961
theorem fi_X12_best : Cond.initialized mX12_best.1.cls ∈ wG := kw_109
theorem fd_X12_best : mX12_best.1.cls ≠ "java/lang/invoke/MethodHandle" ∧ mX12_best.1.cls ≠ "java/lang/invoke/VarHandle" ∧ (parseMethodDescriptor mX12_best.1.desc).map (fun d => d.parameters.length) = some 1 := by decide +kernel
theorem fc_X12_observed : Cond.code mX12_observed.1 mX12_observed.2.1 mX12_observed.2.2.1 mX12_observed.2.2.2.1 ∈ wG := kw_1968
theorem fi_X12_observed : Cond.initialized mX12_observed.1.cls ∈ wG := kw_109
theorem fd_X12_observed : mX12_observed.1.cls ≠ "java/lang/invoke/MethodHandle" ∧ mX12_observed.1.cls ≠ "java/lang/invoke/VarHandle" ∧ (parseMethodDescriptor mX12_observed.1.desc).map (fun d => d.parameters.length) = some 2 := by decide +kernel
theorem fc_X12_forget : Cond.code mX12_forget.1 mX12_forget.2.1 mX12_forget.2.2.1 mX12_forget.2.2.2.1 ∈ wG := kw_1972
theorem fi_X12_forget : Cond.initialized mX12_forget.1.cls ∈ wG := kw_109
theorem fd_X12_forget : mX12_forget.1.cls ≠ "java/lang/invoke/MethodHandle" ∧ mX12_forget.1.cls ≠ "java/lang/invoke/VarHandle" ∧ (parseMethodDescriptor mX12_forget.1.desc).map (fun d => d.parameters.length) = some 0 := by decide +kernel
theorem fc_X12_nodeFor : Cond.code mX12_nodeFor.1 mX12_nodeFor.2.1 mX12_nodeFor.2.2.1 mX12_nodeFor.2.2.2.1 ∈ wG := kw_1980
theorem fi_X12_nodeFor : Cond.initialized mX12_nodeFor.1.cls ∈ wG := kw_109
theorem fd_X12_nodeFor : mX12_nodeFor.1.cls ≠ "java/lang/invoke/MethodHandle" ∧ mX12_nodeFor.1.cls ≠ "java/lang/invoke/VarHandle" ∧ (parseMethodDescriptor mX12_nodeFor.1.desc).map (fun d => d.parameters.length) = some 4 := by decide +kernel
theorem fc_X12_paths : Cond.code mX12_paths.1 mX12_paths.2.1 mX12_paths.2.2.1 mX12_paths.2.2.2.1 ∈ wG := kw_1976
theorem fi_X12_paths : Cond.initialized mX12_paths.1.cls ∈ wG := kw_109
theorem fd_X12_paths : mX12_paths.1.cls ≠ "java/lang/invoke/MethodHandle" ∧ mX12_paths.1.cls ≠ "java/lang/invoke/VarHandle" ∧ (parseMethodDescriptor mX12_paths.1.desc).map (fun d => d.parameters.length) = some 3 := by decide +kernel
theorem fc_X12_alike : Cond.code mX12_alike.1 mX12_alike.2.1 mX12_alike.2.2.1 mX12_alike.2.2.2.1 ∈ wG := kw_1984
theorem fi_X12_alike : Cond.initialized mX12_alike.1.cls ∈ wG := kw_109
theorem fd_X12_alike : mX12_alike.1.cls ≠ "java/lang/invoke/MethodHandle" ∧ mX12_alike.1.cls ≠ "java/lang/invoke/VarHandle" ∧ (parseMethodDescriptor mX12_alike.1.desc).map (fun d => d.parameters.length) = some 3 := by decide +kernel
theorem fc_X12_draw : Cond.code mX12_draw.1 mX12_draw.2.1 mX12_draw.2.2.1 mX12_draw.2.2.2.1 ∈ wG := kw_1992
theorem fi_X12_draw : Cond.initialized mX12_draw.1.cls ∈ wG := kw_109
theorem fd_X12_draw : mX12_draw.1.cls ≠ "java/lang/invoke/MethodHandle" ∧ mX12_draw.1.cls ≠ "java/lang/invoke/VarHandle" ∧ (parseMethodDescriptor mX12_draw.1.desc).map (fun d => d.parameters.length) = some 1 := by decide +kernel
theorem fc_X12_chance : Cond.code mX12_chance.1 mX12_chance.2.1 mX12_chance.2.2.1 mX12_chance.2.2.2.1 ∈ wG := kw_1988
theorem fi_X12_chance : Cond.initialized mX12_chance.1.cls ∈ wG := kw_109
theorem fd_X12_chance : mX12_chance.1.cls ≠ "java/lang/invoke/MethodHandle" ∧ mX12_chance.1.cls ≠ "java/lang/invoke/VarHandle" ∧ (parseMethodDescriptor mX12_chance.1.desc).map (fun d => d.parameters.length) = some 3 := by decide +kernel
theorem fc_X12_passBy : Cond.code mX12_passBy.1 mX12_passBy.2.1 mX12_passBy.2.2.1 mX12_passBy.2.2.2.1 ∈ wG := kw_2001
theorem fi_X12_passBy : Cond.initialized mX12_passBy.1.cls ∈ wG := kw_109
theorem fd_X12_passBy : mX12_passBy.1.cls ≠ "java/lang/invoke/MethodHandle" ∧ mX12_passBy.1.cls ≠ "java/lang/invoke/VarHandle" ∧ (parseMethodDescriptor mX12_passBy.1.desc).map (fun d => d.parameters.length) = some 3 := by decide +kernel
theorem fc_X12_foretold : Cond.code mX12_foretold.1 mX12_foretold.2.1 mX12_foretold.2.2.1 mX12_foretold.2.2.2.1 ∈ wG := kw_1997
theorem fi_X12_foretold : Cond.initialized mX12_foretold.1.cls ∈ wG := kw_109
theorem fd_X12_foretold : mX12_foretold.1.cls ≠ "java/lang/invoke/MethodHandle" ∧ mX12_foretold.1.cls ≠ "java/lang/invoke/VarHandle" ∧ (parseMethodDescriptor mX12_foretold.1.desc).map (fun d => d.parameters.length) = some 4 := by decide +kernel
theorem fc_X12_rightBy : Cond.code mX12_rightBy.1 mX12_rightBy.2.1 mX12_rightBy.2.2.1 mX12_rightBy.2.2.2.1 ∈ wG := kw_2009
theorem fi_X12_rightBy : Cond.initialized mX12_rightBy.1.cls ∈ wG := kw_109
theorem fd_X12_rightBy : mX12_rightBy.1.cls ≠ "java/lang/invoke/MethodHandle" ∧ mX12_rightBy.1.cls ≠ "java/lang/invoke/VarHandle" ∧ (parseMethodDescriptor mX12_rightBy.1.desc).map (fun d => d.parameters.length) = some 3 := by decide +kernel
theorem fc_X12_right : Cond.code mX12_right.1 mX12_right.2.1 mX12_right.2.2.1 mX12_right.2.2.2.1 ∈ wG := kw_2005
theorem fi_X12_right : Cond.initialized mX12_right.1.cls ∈ wG := kw_109
theorem fd_X12_right : mX12_right.1.cls ≠ "java/lang/invoke/MethodHandle" ∧ mX12_right.1.cls ≠ "java/lang/invoke/VarHandle" ∧ (parseMethodDescriptor mX12_right.1.desc).map (fun d => d.parameters.length) = some 3 := by decide +kernel
theorem fc_X12_broke : Cond.code mX12_broke.1 mX12_broke.2.1 mX12_broke.2.2.1 mX12_broke.2.2.2.1 ∈ wG := kw_2013
theorem fi_X12_broke : Cond.initialized mX12_broke.1.cls ∈ wG := kw_109
theorem fd_X12_broke : mX12_broke.1.cls ≠ "java/lang/invoke/MethodHandle" ∧ mX12_broke.1.cls ≠ "java/lang/invoke/VarHandle" ∧ (parseMethodDescriptor mX12_broke.1.desc).map (fun d => d.parameters.length) = some 2 := by decide +kernel
theorem fc_X12_firstOf : Cond.code mX12_firstOf.1 mX12_firstOf.2.1 mX12_firstOf.2.2.1 mX12_firstOf.2.2.2.1 ∈ wG := kw_2021
theorem fi_X12_firstOf : Cond.initialized mX12_firstOf.1.cls ∈ wG := kw_109
theorem fd_X12_firstOf : mX12_firstOf.1.cls ≠ "java/lang/invoke/MethodHandle" ∧ mX12_firstOf.1.cls ≠ "java/lang/invoke/VarHandle" ∧ (parseMethodDescriptor mX12_firstOf.1.desc).map (fun d => d.parameters.length) = some 1 := by decide +kernel
theorem fc_X12_kin : Cond.code mX12_kin.1 mX12_kin.2.1 mX12_kin.2.2.1 mX12_kin.2.2.2.1 ∈ wG := kw_2017
theorem fi_X12_kin : Cond.initialized mX12_kin.1.cls ∈ wG := kw_109
theorem fd_X12_kin : mX12_kin.1.cls ≠ "java/lang/invoke/MethodHandle" ∧ mX12_kin.1.cls ≠ "java/lang/invoke/VarHandle" ∧ (parseMethodDescriptor mX12_kin.1.desc).map (fun d => d.parameters.length) = some 1 := by decide +kernel
theorem fc_X12_lookOut : Cond.code mX12_lookOut.1 mX12_lookOut.2.1 mX12_lookOut.2.2.1 mX12_lookOut.2.2.2.1 ∈ wG := kw_2029
theorem fi_X12_lookOut : Cond.initialized mX12_lookOut.1.cls ∈ wG := kw_109
theorem fd_X12_lookOut : mX12_lookOut.1.cls ≠ "java/lang/invoke/MethodHandle" ∧ mX12_lookOut.1.cls ≠ "java/lang/invoke/VarHandle" ∧ (parseMethodDescriptor mX12_lookOut.1.desc).map (fun d => d.parameters.length) = some 3 := by decide +kernel
theorem fc_X12_next : Cond.code mX12_next.1 mX12_next.2.1 mX12_next.2.2.1 mX12_next.2.2.2.1 ∈ wG := kw_2025
theorem fi_X12_next : Cond.initialized mX12_next.1.cls ∈ wG := kw_109
theorem fd_X12_next : mX12_next.1.cls ≠ "java/lang/invoke/MethodHandle" ∧ mX12_next.1.cls ≠ "java/lang/invoke/VarHandle" ∧ (parseMethodDescriptor mX12_next.1.desc).map (fun d => d.parameters.length) = some 3 := by decide +kernel
theorem fc_X12_ran : Cond.code mX12_ran.1 mX12_ran.2.1 mX12_ran.2.2.1 mX12_ran.2.2.2.1 ∈ wG := kw_2041
theorem fi_X12_ran : Cond.initialized mX12_ran.1.cls ∈ wG := kw_109
theorem fd_X12_ran : mX12_ran.1.cls ≠ "java/lang/invoke/MethodHandle" ∧ mX12_ran.1.cls ≠ "java/lang/invoke/VarHandle" ∧ (parseMethodDescriptor mX12_ran.1.desc).map (fun d => d.parameters.length) = some 1 := by decide +kernel
theorem fc_X12_plainDates : Cond.code mX12_plainDates.1 mX12_plainDates.2.1 mX12_plainDates.2.2.1 mX12_plainDates.2.2.2.1 ∈ wG := kw_2045
theorem fi_X12_plainDates : Cond.initialized mX12_plainDates.1.cls ∈ wG := kw_109
theorem fd_X12_plainDates : mX12_plainDates.1.cls ≠ "java/lang/invoke/MethodHandle" ∧ mX12_plainDates.1.cls ≠ "java/lang/invoke/VarHandle" ∧ (parseMethodDescriptor mX12_plainDates.1.desc).map (fun d => d.parameters.length) = some 2 := by decide +kernel
theorem fc_X12_dates : Cond.code mX12_dates.1 mX12_dates.2.1 mX12_dates.2.2.1 mX12_dates.2.2.2.1 ∈ wG := kw_2037
theorem fi_X12_dates : Cond.initialized mX12_dates.1.cls ∈ wG := kw_109
theorem fd_X12_dates : mX12_dates.1.cls ≠ "java/lang/invoke/MethodHandle" ∧ mX12_dates.1.cls ≠ "java/lang/invoke/VarHandle" ∧ (parseMethodDescriptor mX12_dates.1.desc).map (fun d => d.parameters.length) = some 2 := by decide +kernel
theorem fc_X12_plainPlaces : Cond.code mX12_plainPlaces.1 mX12_plainPlaces.2.1 mX12_plainPlaces.2.2.1 mX12_plainPlaces.2.2.2.1 ∈ wG := kw_2057
theorem fi_X12_plainPlaces : Cond.initialized mX12_plainPlaces.1.cls ∈ wG := kw_109
theorem fd_X12_plainPlaces : mX12_plainPlaces.1.cls ≠ "java/lang/invoke/MethodHandle" ∧ mX12_plainPlaces.1.cls ≠ "java/lang/invoke/VarHandle" ∧ (parseMethodDescriptor mX12_plainPlaces.1.desc).map (fun d => d.parameters.length) = some 2 := by decide +kernel
theorem fc_X12_placedPlaces : Cond.code mX12_placedPlaces.1 mX12_placedPlaces.2.1 mX12_placedPlaces.2.2.1 mX12_placedPlaces.2.2.2.1 ∈ wG := kw_2053
theorem fi_X12_placedPlaces : Cond.initialized mX12_placedPlaces.1.cls ∈ wG := kw_109
theorem fd_X12_placedPlaces : mX12_placedPlaces.1.cls ≠ "java/lang/invoke/MethodHandle" ∧ mX12_placedPlaces.1.cls ≠ "java/lang/invoke/VarHandle" ∧ (parseMethodDescriptor mX12_placedPlaces.1.desc).map (fun d => d.parameters.length) = some 2 := by decide +kernel
theorem fc_X12_places : Cond.code mX12_places.1 mX12_places.2.1 mX12_places.2.2.1 mX12_places.2.2.2.1 ∈ wG := kw_2049
theorem fi_X12_places : Cond.initialized mX12_places.1.cls ∈ wG := kw_109
theorem fd_X12_places : mX12_places.1.cls ≠ "java/lang/invoke/MethodHandle" ∧ mX12_places.1.cls ≠ "java/lang/invoke/VarHandle" ∧ (parseMethodDescriptor mX12_places.1.desc).map (fun d => d.parameters.length) = some 2 := by decide +kernel
theorem fc_X12_plainSuits : Cond.code mX12_plainSuits.1 mX12_plainSuits.2.1 mX12_plainSuits.2.2.1 mX12_plainSuits.2.2.2.1 ∈ wG := kw_2065
theorem fi_X12_plainSuits : Cond.initialized mX12_plainSuits.1.cls ∈ wG := kw_109
theorem fd_X12_plainSuits : mX12_plainSuits.1.cls ≠ "java/lang/invoke/MethodHandle" ∧ mX12_plainSuits.1.cls ≠ "java/lang/invoke/VarHandle" ∧ (parseMethodDescriptor mX12_plainSuits.1.desc).map (fun d => d.parameters.length) = some 2 := by decide +kernel
theorem fc_X12_suits : Cond.code mX12_suits.1 mX12_suits.2.1 mX12_suits.2.2.1 mX12_suits.2.2.2.1 ∈ wG := kw_2061
theorem fi_X12_suits : Cond.initialized mX12_suits.1.cls ∈ wG := kw_109
theorem fd_X12_suits : mX12_suits.1.cls ≠ "java/lang/invoke/MethodHandle" ∧ mX12_suits.1.cls ≠ "java/lang/invoke/VarHandle" ∧ (parseMethodDescriptor mX12_suits.1.desc).map (fun d => d.parameters.length) = some 2 := by decide +kernel
theorem fc_X12_plainTells : Cond.code mX12_plainTells.1 mX12_plainTells.2.1 mX12_plainTells.2.2.1 mX12_plainTells.2.2.2.1 ∈ wG := kw_2073
theorem fi_X12_plainTells : Cond.initialized mX12_plainTells.1.cls ∈ wG := kw_109
theorem fd_X12_plainTells : mX12_plainTells.1.cls ≠ "java/lang/invoke/MethodHandle" ∧ mX12_plainTells.1.cls ≠ "java/lang/invoke/VarHandle" ∧ (parseMethodDescriptor mX12_plainTells.1.desc).map (fun d => d.parameters.length) = some 2 := by decide +kernel
theorem fc_X12_tells : Cond.code mX12_tells.1 mX12_tells.2.1 mX12_tells.2.2.1 mX12_tells.2.2.2.1 ∈ wG := kw_2069
theorem fi_X12_tells : Cond.initialized mX12_tells.1.cls ∈ wG := kw_109
theorem fd_X12_tells : mX12_tells.1.cls ≠ "java/lang/invoke/MethodHandle" ∧ mX12_tells.1.cls ≠ "java/lang/invoke/VarHandle" ∧ (parseMethodDescriptor mX12_tells.1.desc).map (fun d => d.parameters.length) = some 2 := by decide +kernel
theorem fc_X12_act : Cond.code mX12_act.1 mX12_act.2.1 mX12_act.2.2.1 mX12_act.2.2.2.1 ∈ wG := kw_2033
theorem fi_X12_act : Cond.initialized mX12_act.1.cls ∈ wG := kw_109
theorem fd_X12_act : mX12_act.1.cls ≠ "java/lang/invoke/MethodHandle" ∧ mX12_act.1.cls ≠ "java/lang/invoke/VarHandle" ∧ (parseMethodDescriptor mX12_act.1.desc).map (fun d => d.parameters.length) = some 3 := by decide +kernel
theorem fc_X12_trace : Cond.code mX12_trace.1 mX12_trace.2.1 mX12_trace.2.2.1 mX12_trace.2.2.2.1 ∈ wG := kw_2077
theorem fi_X12_trace : Cond.initialized mX12_trace.1.cls ∈ wG := kw_109
theorem fd_X12_trace : mX12_trace.1.cls ≠ "java/lang/invoke/MethodHandle" ∧ mX12_trace.1.cls ≠ "java/lang/invoke/VarHandle" ∧ (parseMethodDescriptor mX12_trace.1.desc).map (fun d => d.parameters.length) = some 1 := by decide +kernel
theorem fc_X12_count : Cond.code mX12_count.1 mX12_count.2.1 mX12_count.2.2.1 mX12_count.2.2.2.1 ∈ wG := kw_2081
theorem fi_X12_count : Cond.initialized mX12_count.1.cls ∈ wG := kw_109
theorem fd_X12_count : mX12_count.1.cls ≠ "java/lang/invoke/MethodHandle" ∧ mX12_count.1.cls ≠ "java/lang/invoke/VarHandle" ∧ (parseMethodDescriptor mX12_count.1.desc).map (fun d => d.parameters.length) = some 1 := by decide +kernel
theorem fc_X12_isShelf : Cond.code mX12_isShelf.1 mX12_isShelf.2.1 mX12_isShelf.2.2.1 mX12_isShelf.2.2.2.1 ∈ wG := kw_1859
theorem fi_X12_isShelf : Cond.initialized mX12_isShelf.1.cls ∈ wG := kw_109
theorem fd_X12_isShelf : mX12_isShelf.1.cls ≠ "java/lang/invoke/MethodHandle" ∧ mX12_isShelf.1.cls ≠ "java/lang/invoke/VarHandle" ∧ (parseMethodDescriptor mX12_isShelf.1.desc).map (fun d => d.parameters.length) = some 1 := by decide +kernel
theorem fc_X12_keep : Cond.code mX12_keep.1 mX12_keep.2.1 mX12_keep.2.2.1 mX12_keep.2.2.2.1 ∈ wG := kw_2085
theorem fi_X12_keep : Cond.initialized mX12_keep.1.cls ∈ wG := kw_109
theorem fd_X12_keep : mX12_keep.1.cls ≠ "java/lang/invoke/MethodHandle" ∧ mX12_keep.1.cls ≠ "java/lang/invoke/VarHandle" ∧ (parseMethodDescriptor mX12_keep.1.desc).map (fun d => d.parameters.length) = some 2 := by decide +kernel
theorem fc_X12_row : Cond.code mX12_row.1 mX12_row.2.1 mX12_row.2.2.1 mX12_row.2.2.2.1 ∈ wG := kw_2089
theorem fi_X12_row : Cond.initialized mX12_row.1.cls ∈ wG := kw_109
theorem fd_X12_row : mX12_row.1.cls ≠ "java/lang/invoke/MethodHandle" ∧ mX12_row.1.cls ≠ "java/lang/invoke/VarHandle" ∧ (parseMethodDescriptor mX12_row.1.desc).map (fun d => d.parameters.length) = some 3 := by decide +kernel
theorem fc_X12_whyNoPlace : Cond.code mX12_whyNoPlace.1 mX12_whyNoPlace.2.1 mX12_whyNoPlace.2.2.1 mX12_whyNoPlace.2.2.2.1 ∈ wG := kw_2097
theorem fi_X12_whyNoPlace : Cond.initialized mX12_whyNoPlace.1.cls ∈ wG := kw_109
theorem fd_X12_whyNoPlace : mX12_whyNoPlace.1.cls ≠ "java/lang/invoke/MethodHandle" ∧ mX12_whyNoPlace.1.cls ≠ "java/lang/invoke/VarHandle" ∧ (parseMethodDescriptor mX12_whyNoPlace.1.desc).map (fun d => d.parameters.length) = some 2 := by decide +kernel
theorem fc_X12_put : Cond.code mX12_put.1 mX12_put.2.1 mX12_put.2.2.1 mX12_put.2.2.2.1 ∈ wG := kw_2093
theorem fi_X12_put : Cond.initialized mX12_put.1.cls ∈ wG := kw_109
theorem fd_X12_put : mX12_put.1.cls ≠ "java/lang/invoke/MethodHandle" ∧ mX12_put.1.cls ≠ "java/lang/invoke/VarHandle" ∧ (parseMethodDescriptor mX12_put.1.desc).map (fun d => d.parameters.length) = some 3 := by decide +kernel
theorem fc_X12_element : Cond.code mX12_element.1 mX12_element.2.1 mX12_element.2.2.1 mX12_element.2.2.2.1 ∈ wG := kw_2101
theorem fi_X12_element : Cond.initialized mX12_element.1.cls ∈ wG := kw_109
theorem fd_X12_element : mX12_element.1.cls ≠ "java/lang/invoke/MethodHandle" ∧ mX12_element.1.cls ≠ "java/lang/invoke/VarHandle" ∧ (parseMethodDescriptor mX12_element.1.desc).map (fun d => d.parameters.length) = some 2 := by decide +kernel
theorem fc_X12_shift : Cond.code mX12_shift.1 mX12_shift.2.1 mX12_shift.2.2.1 mX12_shift.2.2.2.1 ∈ wG := kw_2106
theorem fi_X12_shift : Cond.initialized mX12_shift.1.cls ∈ wG := kw_109
theorem fd_X12_shift : mX12_shift.1.cls ≠ "java/lang/invoke/MethodHandle" ∧ mX12_shift.1.cls ≠ "java/lang/invoke/VarHandle" ∧ (parseMethodDescriptor mX12_shift.1.desc).map (fun d => d.parameters.length) = some 5 := by decide +kernel
theorem fc_X12_taken : Cond.code mX12_taken.1 mX12_taken.2.1 mX12_taken.2.2.1 mX12_taken.2.2.2.1 ∈ wG := kw_2110
theorem fi_X12_taken : Cond.initialized mX12_taken.1.cls ∈ wG := kw_109
theorem fd_X12_taken : mX12_taken.1.cls ≠ "java/lang/invoke/MethodHandle" ∧ mX12_taken.1.cls ≠ "java/lang/invoke/VarHandle" ∧ (parseMethodDescriptor mX12_taken.1.desc).map (fun d => d.parameters.length) = some 2 := by decide +kernel
theorem fc_J6_bitCount_0f7a4 : Cond.code mJ6_bitCount_0f7a4.1 mJ6_bitCount_0f7a4.2.1 mJ6_bitCount_0f7a4.2.2.1 mJ6_bitCount_0f7a4.2.2.2.1 ∈ wG := kw_1157
theorem fi_J6_bitCount_0f7a4 : Cond.initialized mJ6_bitCount_0f7a4.1.cls ∈ wG := kw_119
theorem fd_J6_bitCount_0f7a4 : mJ6_bitCount_0f7a4.1.cls ≠ "java/lang/invoke/MethodHandle" ∧ mJ6_bitCount_0f7a4.1.cls ≠ "java/lang/invoke/VarHandle" ∧ (parseMethodDescriptor mJ6_bitCount_0f7a4.1.desc).map (fun d => d.parameters.length) = some 1 := by decide +kernel
theorem fc_J13_bitCount_95d88 : Cond.code mJ13_bitCount_95d88.1 mJ13_bitCount_95d88.2.1 mJ13_bitCount_95d88.2.2.1 mJ13_bitCount_95d88.2.2.2.1 ∈ wG := kw_1163
theorem fi_J13_bitCount_95d88 : Cond.initialized mJ13_bitCount_95d88.1.cls ∈ wG := kw_120
theorem fd_J13_bitCount_95d88 : mJ13_bitCount_95d88.1.cls ≠ "java/lang/invoke/MethodHandle" ∧ mJ13_bitCount_95d88.1.cls ≠ "java/lang/invoke/VarHandle" ∧ (parseMethodDescriptor mJ13_bitCount_95d88.1.desc).map (fun d => d.parameters.length) = some 1 := by decide +kernel
theorem fc_J7_fill_d0a16 : Cond.code mJ7_fill_d0a16.1 mJ7_fill_d0a16.2.1 mJ7_fill_d0a16.2.2.1 mJ7_fill_d0a16.2.2.2.1 ∈ wG := kw_425
theorem fi_J7_fill_d0a16 : Cond.initialized mJ7_fill_d0a16.1.cls ∈ wG := kw_104
theorem fd_J7_fill_d0a16 : mJ7_fill_d0a16.1.cls ≠ "java/lang/invoke/MethodHandle" ∧ mJ7_fill_d0a16.1.cls ≠ "java/lang/invoke/VarHandle" ∧ (parseMethodDescriptor mJ7_fill_d0a16.1.desc).map (fun d => d.parameters.length) = some 2 := by decide +kernel
theorem fc_J7_fill_53178 : Cond.code mJ7_fill_53178.1 mJ7_fill_53178.2.1 mJ7_fill_53178.2.2.1 mJ7_fill_53178.2.2.2.1 ∈ wG := kw_231
theorem fi_J7_fill_53178 : Cond.initialized mJ7_fill_53178.1.cls ∈ wG := kw_104
theorem fd_J7_fill_53178 : mJ7_fill_53178.1.cls ≠ "java/lang/invoke/MethodHandle" ∧ mJ7_fill_53178.1.cls ≠ "java/lang/invoke/VarHandle" ∧ (parseMethodDescriptor mJ7_fill_53178.1.desc).map (fun d => d.parameters.length) = some 2 := by decide +kernel
