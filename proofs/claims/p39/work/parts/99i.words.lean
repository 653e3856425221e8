theorem tq_1 {w : Cond} (h : w ∈ tables_1_1) (hg : goodWord w = true) : w ∈ wG := List.mem_filter.mpr ⟨List.mem_append_right _ (List.mem_append_left _ h), hg⟩
theorem tq_2 {w : Cond} (h : w ∈ tables_1_2) (hg : goodWord w = true) : w ∈ wG := List.mem_filter.mpr ⟨List.mem_append_right _ (List.mem_append_right _ (List.mem_append_left _ h)), hg⟩
theorem tq_3 {w : Cond} (h : w ∈ tables_1_3) (hg : goodWord w = true) : w ∈ wG := List.mem_filter.mpr ⟨List.mem_append_right _ (List.mem_append_right _ (List.mem_append_right _ (List.mem_append_left _ h))), hg⟩
theorem tq_4 {w : Cond} (h : w ∈ tables_1_4) (hg : goodWord w = true) : w ∈ wG := List.mem_filter.mpr ⟨List.mem_append_right _ (List.mem_append_right _ (List.mem_append_right _ (List.mem_append_right _ (List.mem_append_left _ h)))), hg⟩
theorem tq_5 {w : Cond} (h : w ∈ tables_1_5) (hg : goodWord w = true) : w ∈ wG := List.mem_filter.mpr ⟨List.mem_append_right _ (List.mem_append_right _ (List.mem_append_right _ (List.mem_append_right _ (List.mem_append_right _ (List.mem_append_left _ h))))), hg⟩
theorem tq_6 {w : Cond} (h : w ∈ tables_1_6) (hg : goodWord w = true) : w ∈ wG := List.mem_filter.mpr ⟨List.mem_append_right _ (List.mem_append_right _ (List.mem_append_right _ (List.mem_append_right _ (List.mem_append_right _ (List.mem_append_right _ (List.mem_append_left _ h)))))), hg⟩
theorem tq_7 {w : Cond} (h : w ∈ tables_1_7) (hg : goodWord w = true) : w ∈ wG := List.mem_filter.mpr ⟨List.mem_append_right _ (List.mem_append_right _ (List.mem_append_right _ (List.mem_append_right _ (List.mem_append_right _ (List.mem_append_right _ (List.mem_append_right _ (List.mem_append_left _ h))))))), hg⟩
theorem tq_8 {w : Cond} (h : w ∈ tables_1_8) (hg : goodWord w = true) : w ∈ wG := List.mem_filter.mpr ⟨List.mem_append_right _ (List.mem_append_right _ (List.mem_append_right _ (List.mem_append_right _ (List.mem_append_right _ (List.mem_append_right _ (List.mem_append_right _ (List.mem_append_right _ (List.mem_append_left _ h)))))))), hg⟩
theorem tq_9 {w : Cond} (h : w ∈ tables_1_9) (hg : goodWord w = true) : w ∈ wG := List.mem_filter.mpr ⟨List.mem_append_right _ (List.mem_append_right _ (List.mem_append_right _ (List.mem_append_right _ (List.mem_append_right _ (List.mem_append_right _ (List.mem_append_right _ (List.mem_append_right _ (List.mem_append_right _ (h))))))))), hg⟩
set_option maxRecDepth 20000 in
theorem lk_408 : (Jvm.Cond.methodLink "SameStarLaw" (13 : Nat) ({ cls := "SameStar", name := "great", desc := "(II)I" } : Jvm.MethodName)) ∈ wG := tq_2 (List.mem_of_getElem? (i := 71) rfl) rfl
set_option maxRecDepth 20000 in
theorem lk_409 : (Jvm.Cond.instanceMethod ({ cls := "SameStar", name := "great", desc := "(II)I" } : Jvm.MethodName)) ∈ wG := tq_2 (List.mem_of_getElem? (i := 72) rfl) rfl
set_option maxRecDepth 20000 in
theorem lk_410 : (Jvm.Cond.selects "SameStar" ({ cls := "SameStar", name := "great", desc := "(II)I" } : Jvm.MethodName) ({ cls := "SameStar", name := "great", desc := "(II)I" } : Jvm.MethodName)) ∈ wG := tq_2 (List.mem_of_getElem? (i := 73) rfl) rfl
set_option maxRecDepth 20000 in
theorem lk_465 : (Jvm.Cond.methodLink "SameStarLaw" (18 : Nat) ({ cls := "SameStar", name := "comet", desc := "(IIII)I" } : Jvm.MethodName)) ∈ wG := tq_2 (List.mem_of_getElem? (i := 128) rfl) rfl
set_option maxRecDepth 20000 in
theorem lk_466 : (Jvm.Cond.instanceMethod ({ cls := "SameStar", name := "comet", desc := "(IIII)I" } : Jvm.MethodName)) ∈ wG := tq_2 (List.mem_of_getElem? (i := 129) rfl) rfl
set_option maxRecDepth 20000 in
theorem lk_467 : (Jvm.Cond.selects "SameStar" ({ cls := "SameStar", name := "comet", desc := "(IIII)I" } : Jvm.MethodName) ({ cls := "SameStar", name := "comet", desc := "(IIII)I" } : Jvm.MethodName)) ∈ wG := tq_2 (List.mem_of_getElem? (i := 130) rfl) rfl
set_option maxRecDepth 20000 in
theorem lk_557 : (Jvm.Cond.methodLink "SameStarLaw" (23 : Nat) ({ cls := "SameStar", name := "ofComet", desc := "(II)I" } : Jvm.MethodName)) ∈ wG := tq_2 (List.mem_of_getElem? (i := 220) rfl) rfl
set_option maxRecDepth 20000 in
theorem lk_558 : (Jvm.Cond.instanceMethod ({ cls := "SameStar", name := "ofComet", desc := "(II)I" } : Jvm.MethodName)) ∈ wG := tq_2 (List.mem_of_getElem? (i := 221) rfl) rfl
set_option maxRecDepth 20000 in
theorem lk_559 : (Jvm.Cond.selects "SameStar" ({ cls := "SameStar", name := "ofComet", desc := "(II)I" } : Jvm.MethodName) ({ cls := "SameStar", name := "ofComet", desc := "(II)I" } : Jvm.MethodName)) ∈ wG := tq_2 (List.mem_of_getElem? (i := 222) rfl) rfl
set_option maxRecDepth 20000 in
theorem lk_566 : (Jvm.Cond.methodLink "SameStarLaw" (27 : Nat) ({ cls := "SameStar", name := "pass", desc := "(III)I" } : Jvm.MethodName)) ∈ wG := tq_2 (List.mem_of_getElem? (i := 229) rfl) rfl
set_option maxRecDepth 20000 in
theorem lk_567 : (Jvm.Cond.instanceMethod ({ cls := "SameStar", name := "pass", desc := "(III)I" } : Jvm.MethodName)) ∈ wG := tq_2 (List.mem_of_getElem? (i := 230) rfl) rfl
set_option maxRecDepth 20000 in
theorem lk_568 : (Jvm.Cond.selects "SameStar" ({ cls := "SameStar", name := "pass", desc := "(III)I" } : Jvm.MethodName) ({ cls := "SameStar", name := "pass", desc := "(III)I" } : Jvm.MethodName)) ∈ wG := tq_2 (List.mem_of_getElem? (i := 231) rfl) rfl
set_option maxRecDepth 20000 in
theorem lk_581 : (Jvm.Cond.methodLink "SameStarLaw" (32 : Nat) ({ cls := "SameStar", name := "stands", desc := "(IIII)I" } : Jvm.MethodName)) ∈ wG := tq_3 (List.mem_of_getElem? (i := 4) rfl) rfl
set_option maxRecDepth 20000 in
theorem lk_582 : (Jvm.Cond.instanceMethod ({ cls := "SameStar", name := "stands", desc := "(IIII)I" } : Jvm.MethodName)) ∈ wG := tq_3 (List.mem_of_getElem? (i := 5) rfl) rfl
set_option maxRecDepth 20000 in
theorem lk_583 : (Jvm.Cond.selects "SameStar" ({ cls := "SameStar", name := "stands", desc := "(IIII)I" } : Jvm.MethodName) ({ cls := "SameStar", name := "stands", desc := "(IIII)I" } : Jvm.MethodName)) ∈ wG := tq_3 (List.mem_of_getElem? (i := 6) rfl) rfl
set_option maxRecDepth 20000 in
theorem lk_636 : (Jvm.Cond.methodLink "SameStarLaw" (36 : Nat) ({ cls := "SameStar", name := "seen", desc := "(III)I" } : Jvm.MethodName)) ∈ wG := tq_3 (List.mem_of_getElem? (i := 59) rfl) rfl
set_option maxRecDepth 20000 in
theorem lk_637 : (Jvm.Cond.instanceMethod ({ cls := "SameStar", name := "seen", desc := "(III)I" } : Jvm.MethodName)) ∈ wG := tq_3 (List.mem_of_getElem? (i := 60) rfl) rfl
set_option maxRecDepth 20000 in
theorem lk_638 : (Jvm.Cond.selects "SameStar" ({ cls := "SameStar", name := "seen", desc := "(III)I" } : Jvm.MethodName) ({ cls := "SameStar", name := "seen", desc := "(III)I" } : Jvm.MethodName)) ∈ wG := tq_3 (List.mem_of_getElem? (i := 61) rfl) rfl
set_option maxRecDepth 20000 in
theorem lk_655 : (Jvm.Cond.methodLink "SameStarLaw" (40 : Nat) ({ cls := "SameStar", name := "feed", desc := "(II)I" } : Jvm.MethodName)) ∈ wG := tq_3 (List.mem_of_getElem? (i := 78) rfl) rfl
set_option maxRecDepth 20000 in
theorem lk_656 : (Jvm.Cond.instanceMethod ({ cls := "SameStar", name := "feed", desc := "(II)I" } : Jvm.MethodName)) ∈ wG := tq_3 (List.mem_of_getElem? (i := 79) rfl) rfl
set_option maxRecDepth 20000 in
theorem lk_657 : (Jvm.Cond.selects "SameStar" ({ cls := "SameStar", name := "feed", desc := "(II)I" } : Jvm.MethodName) ({ cls := "SameStar", name := "feed", desc := "(II)I" } : Jvm.MethodName)) ∈ wG := tq_3 (List.mem_of_getElem? (i := 80) rfl) rfl
set_option maxRecDepth 20000 in
theorem lk_667 : (Jvm.Cond.methodLink "SameStarLaw" (44 : Nat) ({ cls := "SameStar", name := "text", desc := "(I)I" } : Jvm.MethodName)) ∈ wG := tq_3 (List.mem_of_getElem? (i := 90) rfl) rfl
set_option maxRecDepth 20000 in
theorem lk_668 : (Jvm.Cond.instanceMethod ({ cls := "SameStar", name := "text", desc := "(I)I" } : Jvm.MethodName)) ∈ wG := tq_3 (List.mem_of_getElem? (i := 91) rfl) rfl
set_option maxRecDepth 20000 in
theorem lk_669 : (Jvm.Cond.selects "SameStar" ({ cls := "SameStar", name := "text", desc := "(I)I" } : Jvm.MethodName) ({ cls := "SameStar", name := "text", desc := "(I)I" } : Jvm.MethodName)) ∈ wG := tq_3 (List.mem_of_getElem? (i := 92) rfl) rfl
set_option maxRecDepth 20000 in
theorem lk_864 : (Jvm.Cond.methodLink "SameStarLaw" (49 : Nat) ({ cls := "SameStar", name := "reign", desc := "(III)I" } : Jvm.MethodName)) ∈ wG := tq_4 (List.mem_of_getElem? (i := 47) rfl) rfl
set_option maxRecDepth 20000 in
theorem lk_865 : (Jvm.Cond.instanceMethod ({ cls := "SameStar", name := "reign", desc := "(III)I" } : Jvm.MethodName)) ∈ wG := tq_4 (List.mem_of_getElem? (i := 48) rfl) rfl
set_option maxRecDepth 20000 in
theorem lk_866 : (Jvm.Cond.selects "SameStar" ({ cls := "SameStar", name := "reign", desc := "(III)I" } : Jvm.MethodName) ({ cls := "SameStar", name := "reign", desc := "(III)I" } : Jvm.MethodName)) ∈ wG := tq_4 (List.mem_of_getElem? (i := 49) rfl) rfl
set_option maxRecDepth 20000 in
theorem lk_872 : (Jvm.Cond.methodLink "SameStarLaw" (53 : Nat) ({ cls := "SameStar", name := "watch", desc := "(III)I" } : Jvm.MethodName)) ∈ wG := tq_4 (List.mem_of_getElem? (i := 55) rfl) rfl
set_option maxRecDepth 20000 in
theorem lk_873 : (Jvm.Cond.instanceMethod ({ cls := "SameStar", name := "watch", desc := "(III)I" } : Jvm.MethodName)) ∈ wG := tq_4 (List.mem_of_getElem? (i := 56) rfl) rfl
set_option maxRecDepth 20000 in
theorem lk_874 : (Jvm.Cond.selects "SameStar" ({ cls := "SameStar", name := "watch", desc := "(III)I" } : Jvm.MethodName) ({ cls := "SameStar", name := "watch", desc := "(III)I" } : Jvm.MethodName)) ∈ wG := tq_4 (List.mem_of_getElem? (i := 57) rfl) rfl
set_option maxRecDepth 20000 in
theorem lk_880 : (Jvm.Cond.methodLink "SameStarLaw" (57 : Nat) ({ cls := "SameStar", name := "word", desc := "(III)I" } : Jvm.MethodName)) ∈ wG := tq_4 (List.mem_of_getElem? (i := 63) rfl) rfl
set_option maxRecDepth 20000 in
theorem lk_881 : (Jvm.Cond.instanceMethod ({ cls := "SameStar", name := "word", desc := "(III)I" } : Jvm.MethodName)) ∈ wG := tq_4 (List.mem_of_getElem? (i := 64) rfl) rfl
set_option maxRecDepth 20000 in
theorem lk_882 : (Jvm.Cond.selects "SameStar" ({ cls := "SameStar", name := "word", desc := "(III)I" } : Jvm.MethodName) ({ cls := "SameStar", name := "word", desc := "(III)I" } : Jvm.MethodName)) ∈ wG := tq_4 (List.mem_of_getElem? (i := 65) rfl) rfl
set_option maxRecDepth 20000 in
theorem lk_981 : (Jvm.Cond.methodLink "SameStarLaw" (61 : Nat) ({ cls := "SameStar", name := "date", desc := "(III)I" } : Jvm.MethodName)) ∈ wG := tq_4 (List.mem_of_getElem? (i := 164) rfl) rfl
set_option maxRecDepth 20000 in
theorem lk_982 : (Jvm.Cond.instanceMethod ({ cls := "SameStar", name := "date", desc := "(III)I" } : Jvm.MethodName)) ∈ wG := tq_4 (List.mem_of_getElem? (i := 165) rfl) rfl
set_option maxRecDepth 20000 in
theorem lk_983 : (Jvm.Cond.selects "SameStar" ({ cls := "SameStar", name := "date", desc := "(III)I" } : Jvm.MethodName) ({ cls := "SameStar", name := "date", desc := "(III)I" } : Jvm.MethodName)) ∈ wG := tq_4 (List.mem_of_getElem? (i := 166) rfl) rfl
set_option maxRecDepth 20000 in
theorem lk_988 : (Jvm.Cond.methodLink "SameStarLaw" (65 : Nat) ({ cls := "SameStar", name := "words", desc := "(IIII)I" } : Jvm.MethodName)) ∈ wG := tq_4 (List.mem_of_getElem? (i := 171) rfl) rfl
set_option maxRecDepth 20000 in
theorem lk_989 : (Jvm.Cond.instanceMethod ({ cls := "SameStar", name := "words", desc := "(IIII)I" } : Jvm.MethodName)) ∈ wG := tq_4 (List.mem_of_getElem? (i := 172) rfl) rfl
set_option maxRecDepth 20000 in
theorem lk_990 : (Jvm.Cond.selects "SameStar" ({ cls := "SameStar", name := "words", desc := "(IIII)I" } : Jvm.MethodName) ({ cls := "SameStar", name := "words", desc := "(IIII)I" } : Jvm.MethodName)) ∈ wG := tq_4 (List.mem_of_getElem? (i := 173) rfl) rfl
set_option maxRecDepth 20000 in
theorem lk_1031 : (Jvm.Cond.methodLink "SameStarLaw" (69 : Nat) ({ cls := "SameStar", name := "ofWord", desc := "(II)I" } : Jvm.MethodName)) ∈ wG := tq_4 (List.mem_of_getElem? (i := 214) rfl) rfl
set_option maxRecDepth 20000 in
theorem lk_1032 : (Jvm.Cond.instanceMethod ({ cls := "SameStar", name := "ofWord", desc := "(II)I" } : Jvm.MethodName)) ∈ wG := tq_4 (List.mem_of_getElem? (i := 215) rfl) rfl
set_option maxRecDepth 20000 in
theorem lk_1033 : (Jvm.Cond.selects "SameStar" ({ cls := "SameStar", name := "ofWord", desc := "(II)I" } : Jvm.MethodName) ({ cls := "SameStar", name := "ofWord", desc := "(II)I" } : Jvm.MethodName)) ∈ wG := tq_4 (List.mem_of_getElem? (i := 216) rfl) rfl
set_option maxRecDepth 20000 in
theorem lk_1037 : (Jvm.Cond.methodLink "SameStarLaw" (73 : Nat) ({ cls := "SameStar", name := "span", desc := "(III)I" } : Jvm.MethodName)) ∈ wG := tq_4 (List.mem_of_getElem? (i := 220) rfl) rfl
set_option maxRecDepth 20000 in
theorem lk_1038 : (Jvm.Cond.instanceMethod ({ cls := "SameStar", name := "span", desc := "(III)I" } : Jvm.MethodName)) ∈ wG := tq_4 (List.mem_of_getElem? (i := 221) rfl) rfl
set_option maxRecDepth 20000 in
theorem lk_1039 : (Jvm.Cond.selects "SameStar" ({ cls := "SameStar", name := "span", desc := "(III)I" } : Jvm.MethodName) ({ cls := "SameStar", name := "span", desc := "(III)I" } : Jvm.MethodName)) ∈ wG := tq_4 (List.mem_of_getElem? (i := 222) rfl) rfl
set_option maxRecDepth 20000 in
theorem lk_1060 : (Jvm.Cond.methodLink "SameStarLaw" (77 : Nat) ({ cls := "SameStar", name := "fits", desc := "(III)I" } : Jvm.MethodName)) ∈ wG := tq_5 (List.mem_of_getElem? (i := 3) rfl) rfl
set_option maxRecDepth 20000 in
theorem lk_1061 : (Jvm.Cond.instanceMethod ({ cls := "SameStar", name := "fits", desc := "(III)I" } : Jvm.MethodName)) ∈ wG := tq_5 (List.mem_of_getElem? (i := 4) rfl) rfl
set_option maxRecDepth 20000 in
theorem lk_1062 : (Jvm.Cond.selects "SameStar" ({ cls := "SameStar", name := "fits", desc := "(III)I" } : Jvm.MethodName) ({ cls := "SameStar", name := "fits", desc := "(III)I" } : Jvm.MethodName)) ∈ wG := tq_5 (List.mem_of_getElem? (i := 5) rfl) rfl
set_option maxRecDepth 20000 in
theorem lk_1086 : (Jvm.Cond.methodLink "SameStarLaw" (81 : Nat) ({ cls := "SameStar", name := "perhaps", desc := "(III)I" } : Jvm.MethodName)) ∈ wG := tq_5 (List.mem_of_getElem? (i := 29) rfl) rfl
set_option maxRecDepth 20000 in
theorem lk_1087 : (Jvm.Cond.instanceMethod ({ cls := "SameStar", name := "perhaps", desc := "(III)I" } : Jvm.MethodName)) ∈ wG := tq_5 (List.mem_of_getElem? (i := 30) rfl) rfl
set_option maxRecDepth 20000 in
theorem lk_1088 : (Jvm.Cond.selects "SameStar" ({ cls := "SameStar", name := "perhaps", desc := "(III)I" } : Jvm.MethodName) ({ cls := "SameStar", name := "perhaps", desc := "(III)I" } : Jvm.MethodName)) ∈ wG := tq_5 (List.mem_of_getElem? (i := 31) rfl) rfl
set_option maxRecDepth 20000 in
theorem lk_1098 : (Jvm.Cond.methodLink "SameStarLaw" (85 : Nat) ({ cls := "SameStar", name := "whose", desc := "(II)I" } : Jvm.MethodName)) ∈ wG := tq_5 (List.mem_of_getElem? (i := 41) rfl) rfl
set_option maxRecDepth 20000 in
theorem lk_1099 : (Jvm.Cond.instanceMethod ({ cls := "SameStar", name := "whose", desc := "(II)I" } : Jvm.MethodName)) ∈ wG := tq_5 (List.mem_of_getElem? (i := 42) rfl) rfl
set_option maxRecDepth 20000 in
theorem lk_1100 : (Jvm.Cond.selects "SameStar" ({ cls := "SameStar", name := "whose", desc := "(II)I" } : Jvm.MethodName) ({ cls := "SameStar", name := "whose", desc := "(II)I" } : Jvm.MethodName)) ∈ wG := tq_5 (List.mem_of_getElem? (i := 43) rfl) rfl
set_option maxRecDepth 20000 in
theorem lk_1102 : (Jvm.Cond.methodLink "SameStarLaw" (89 : Nat) ({ cls := "SameStar", name := "evening", desc := "(II)I" } : Jvm.MethodName)) ∈ wG := tq_5 (List.mem_of_getElem? (i := 45) rfl) rfl
set_option maxRecDepth 20000 in
theorem lk_1103 : (Jvm.Cond.instanceMethod ({ cls := "SameStar", name := "evening", desc := "(II)I" } : Jvm.MethodName)) ∈ wG := tq_5 (List.mem_of_getElem? (i := 46) rfl) rfl
set_option maxRecDepth 20000 in
theorem lk_1104 : (Jvm.Cond.selects "SameStar" ({ cls := "SameStar", name := "evening", desc := "(II)I" } : Jvm.MethodName) ({ cls := "SameStar", name := "evening", desc := "(II)I" } : Jvm.MethodName)) ∈ wG := tq_5 (List.mem_of_getElem? (i := 47) rfl) rfl
set_option maxRecDepth 20000 in
theorem lk_1112 : (Jvm.Cond.methodLink "SameStarLaw" (93 : Nat) ({ cls := "SameStar", name := "behind", desc := "(II)I" } : Jvm.MethodName)) ∈ wG := tq_5 (List.mem_of_getElem? (i := 55) rfl) rfl
set_option maxRecDepth 20000 in
theorem lk_1113 : (Jvm.Cond.instanceMethod ({ cls := "SameStar", name := "behind", desc := "(II)I" } : Jvm.MethodName)) ∈ wG := tq_5 (List.mem_of_getElem? (i := 56) rfl) rfl
set_option maxRecDepth 20000 in
theorem lk_1114 : (Jvm.Cond.selects "SameStar" ({ cls := "SameStar", name := "behind", desc := "(II)I" } : Jvm.MethodName) ({ cls := "SameStar", name := "behind", desc := "(II)I" } : Jvm.MethodName)) ∈ wG := tq_5 (List.mem_of_getElem? (i := 57) rfl) rfl
set_option maxRecDepth 20000 in
theorem lk_1121 : (Jvm.Cond.methodLink "SameStarLaw" (97 : Nat) ({ cls := "SameStar", name := "once", desc := "(I)I" } : Jvm.MethodName)) ∈ wG := tq_5 (List.mem_of_getElem? (i := 64) rfl) rfl
set_option maxRecDepth 20000 in
theorem lk_1122 : (Jvm.Cond.instanceMethod ({ cls := "SameStar", name := "once", desc := "(I)I" } : Jvm.MethodName)) ∈ wG := tq_5 (List.mem_of_getElem? (i := 65) rfl) rfl
set_option maxRecDepth 20000 in
theorem lk_1123 : (Jvm.Cond.selects "SameStar" ({ cls := "SameStar", name := "once", desc := "(I)I" } : Jvm.MethodName) ({ cls := "SameStar", name := "once", desc := "(I)I" } : Jvm.MethodName)) ∈ wG := tq_5 (List.mem_of_getElem? (i := 66) rfl) rfl
set_option maxRecDepth 20000 in
theorem lk_1129 : (Jvm.Cond.methodLink "SameStarLaw" (101 : Nat) ({ cls := "SameStar", name := "judge", desc := "(I)I" } : Jvm.MethodName)) ∈ wG := tq_5 (List.mem_of_getElem? (i := 72) rfl) rfl
set_option maxRecDepth 20000 in
theorem lk_1130 : (Jvm.Cond.instanceMethod ({ cls := "SameStar", name := "judge", desc := "(I)I" } : Jvm.MethodName)) ∈ wG := tq_5 (List.mem_of_getElem? (i := 73) rfl) rfl
set_option maxRecDepth 20000 in
theorem lk_1131 : (Jvm.Cond.selects "SameStar" ({ cls := "SameStar", name := "judge", desc := "(I)I" } : Jvm.MethodName) ({ cls := "SameStar", name := "judge", desc := "(I)I" } : Jvm.MethodName)) ∈ wG := tq_5 (List.mem_of_getElem? (i := 74) rfl) rfl
set_option maxRecDepth 20000 in
theorem lk_1167 : (Jvm.Cond.methodLink "SameStarLaw" (105 : Nat) ({ cls := "SameStar", name := "best", desc := "(I)I" } : Jvm.MethodName)) ∈ wG := tq_5 (List.mem_of_getElem? (i := 110) rfl) rfl
set_option maxRecDepth 20000 in
theorem lk_1168 : (Jvm.Cond.instanceMethod ({ cls := "SameStar", name := "best", desc := "(I)I" } : Jvm.MethodName)) ∈ wG := tq_5 (List.mem_of_getElem? (i := 111) rfl) rfl
set_option maxRecDepth 20000 in
theorem lk_1169 : (Jvm.Cond.selects "SameStar" ({ cls := "SameStar", name := "best", desc := "(I)I" } : Jvm.MethodName) ({ cls := "SameStar", name := "best", desc := "(I)I" } : Jvm.MethodName)) ∈ wG := tq_5 (List.mem_of_getElem? (i := 112) rfl) rfl
set_option maxRecDepth 20000 in
theorem lk_1176 : (Jvm.Cond.methodLink "SameStarLaw" (109 : Nat) ({ cls := "SameStar", name := "observed", desc := "(II)I" } : Jvm.MethodName)) ∈ wG := tq_5 (List.mem_of_getElem? (i := 119) rfl) rfl
set_option maxRecDepth 20000 in
theorem lk_1177 : (Jvm.Cond.instanceMethod ({ cls := "SameStar", name := "observed", desc := "(II)I" } : Jvm.MethodName)) ∈ wG := tq_5 (List.mem_of_getElem? (i := 120) rfl) rfl
set_option maxRecDepth 20000 in
theorem lk_1178 : (Jvm.Cond.selects "SameStar" ({ cls := "SameStar", name := "observed", desc := "(II)I" } : Jvm.MethodName) ({ cls := "SameStar", name := "observed", desc := "(II)I" } : Jvm.MethodName)) ∈ wG := tq_5 (List.mem_of_getElem? (i := 121) rfl) rfl
set_option maxRecDepth 20000 in
theorem lk_1184 : (Jvm.Cond.methodLink "SameStarLaw" (113 : Nat) ({ cls := "SameStar", name := "paths", desc := "(III)I" } : Jvm.MethodName)) ∈ wG := tq_5 (List.mem_of_getElem? (i := 127) rfl) rfl
set_option maxRecDepth 20000 in
theorem lk_1185 : (Jvm.Cond.instanceMethod ({ cls := "SameStar", name := "paths", desc := "(III)I" } : Jvm.MethodName)) ∈ wG := tq_5 (List.mem_of_getElem? (i := 128) rfl) rfl
set_option maxRecDepth 20000 in
theorem lk_1186 : (Jvm.Cond.selects "SameStar" ({ cls := "SameStar", name := "paths", desc := "(III)I" } : Jvm.MethodName) ({ cls := "SameStar", name := "paths", desc := "(III)I" } : Jvm.MethodName)) ∈ wG := tq_5 (List.mem_of_getElem? (i := 129) rfl) rfl
set_option maxRecDepth 20000 in
theorem lk_1202 : (Jvm.Cond.methodLink "SameStarLaw" (117 : Nat) ({ cls := "SameStar", name := "forget", desc := "()I" } : Jvm.MethodName)) ∈ wG := tq_5 (List.mem_of_getElem? (i := 145) rfl) rfl
set_option maxRecDepth 20000 in
theorem lk_1203 : (Jvm.Cond.instanceMethod ({ cls := "SameStar", name := "forget", desc := "()I" } : Jvm.MethodName)) ∈ wG := tq_5 (List.mem_of_getElem? (i := 146) rfl) rfl
set_option maxRecDepth 20000 in
theorem lk_1204 : (Jvm.Cond.selects "SameStar" ({ cls := "SameStar", name := "forget", desc := "()I" } : Jvm.MethodName) ({ cls := "SameStar", name := "forget", desc := "()I" } : Jvm.MethodName)) ∈ wG := tq_5 (List.mem_of_getElem? (i := 147) rfl) rfl
set_option maxRecDepth 20000 in
theorem lk_1206 : (Jvm.Cond.methodLink "SameStarLaw" (122 : Nat) ({ cls := "SameStar", name := "alike", desc := "(III)I" } : Jvm.MethodName)) ∈ wG := tq_5 (List.mem_of_getElem? (i := 149) rfl) rfl
set_option maxRecDepth 20000 in
theorem lk_1207 : (Jvm.Cond.instanceMethod ({ cls := "SameStar", name := "alike", desc := "(III)I" } : Jvm.MethodName)) ∈ wG := tq_5 (List.mem_of_getElem? (i := 150) rfl) rfl
set_option maxRecDepth 20000 in
theorem lk_1208 : (Jvm.Cond.selects "SameStar" ({ cls := "SameStar", name := "alike", desc := "(III)I" } : Jvm.MethodName) ({ cls := "SameStar", name := "alike", desc := "(III)I" } : Jvm.MethodName)) ∈ wG := tq_5 (List.mem_of_getElem? (i := 151) rfl) rfl
set_option maxRecDepth 20000 in
theorem lk_1214 : (Jvm.Cond.methodLink "SameStarLaw" (126 : Nat) ({ cls := "SameStar", name := "chance", desc := "(III)I" } : Jvm.MethodName)) ∈ wG := tq_5 (List.mem_of_getElem? (i := 157) rfl) rfl
set_option maxRecDepth 20000 in
theorem lk_1215 : (Jvm.Cond.instanceMethod ({ cls := "SameStar", name := "chance", desc := "(III)I" } : Jvm.MethodName)) ∈ wG := tq_5 (List.mem_of_getElem? (i := 158) rfl) rfl
set_option maxRecDepth 20000 in
theorem lk_1216 : (Jvm.Cond.selects "SameStar" ({ cls := "SameStar", name := "chance", desc := "(III)I" } : Jvm.MethodName) ({ cls := "SameStar", name := "chance", desc := "(III)I" } : Jvm.MethodName)) ∈ wG := tq_5 (List.mem_of_getElem? (i := 159) rfl) rfl
set_option maxRecDepth 20000 in
theorem lk_1231 : (Jvm.Cond.methodLink "SameStarLaw" (130 : Nat) ({ cls := "SameStar", name := "foretold", desc := "(IIII)I" } : Jvm.MethodName)) ∈ wG := tq_5 (List.mem_of_getElem? (i := 174) rfl) rfl
set_option maxRecDepth 20000 in
theorem lk_1232 : (Jvm.Cond.instanceMethod ({ cls := "SameStar", name := "foretold", desc := "(IIII)I" } : Jvm.MethodName)) ∈ wG := tq_5 (List.mem_of_getElem? (i := 175) rfl) rfl
set_option maxRecDepth 20000 in
theorem lk_1233 : (Jvm.Cond.selects "SameStar" ({ cls := "SameStar", name := "foretold", desc := "(IIII)I" } : Jvm.MethodName) ({ cls := "SameStar", name := "foretold", desc := "(IIII)I" } : Jvm.MethodName)) ∈ wG := tq_5 (List.mem_of_getElem? (i := 176) rfl) rfl
set_option maxRecDepth 20000 in
theorem lk_1241 : (Jvm.Cond.methodLink "SameStarLaw" (134 : Nat) ({ cls := "SameStar", name := "right", desc := "(III)I" } : Jvm.MethodName)) ∈ wG := tq_5 (List.mem_of_getElem? (i := 184) rfl) rfl
set_option maxRecDepth 20000 in
theorem lk_1242 : (Jvm.Cond.instanceMethod ({ cls := "SameStar", name := "right", desc := "(III)I" } : Jvm.MethodName)) ∈ wG := tq_5 (List.mem_of_getElem? (i := 185) rfl) rfl
set_option maxRecDepth 20000 in
theorem lk_1243 : (Jvm.Cond.selects "SameStar" ({ cls := "SameStar", name := "right", desc := "(III)I" } : Jvm.MethodName) ({ cls := "SameStar", name := "right", desc := "(III)I" } : Jvm.MethodName)) ∈ wG := tq_5 (List.mem_of_getElem? (i := 186) rfl) rfl
set_option maxRecDepth 20000 in
theorem lk_1277 : (Jvm.Cond.methodLink "SameStarLaw" (138 : Nat) ({ cls := "SameStar", name := "broke", desc := "(II)I" } : Jvm.MethodName)) ∈ wG := tq_5 (List.mem_of_getElem? (i := 220) rfl) rfl
set_option maxRecDepth 20000 in
theorem lk_1278 : (Jvm.Cond.instanceMethod ({ cls := "SameStar", name := "broke", desc := "(II)I" } : Jvm.MethodName)) ∈ wG := tq_5 (List.mem_of_getElem? (i := 221) rfl) rfl
set_option maxRecDepth 20000 in
theorem lk_1279 : (Jvm.Cond.selects "SameStar" ({ cls := "SameStar", name := "broke", desc := "(II)I" } : Jvm.MethodName) ({ cls := "SameStar", name := "broke", desc := "(II)I" } : Jvm.MethodName)) ∈ wG := tq_5 (List.mem_of_getElem? (i := 222) rfl) rfl
set_option maxRecDepth 20000 in
theorem lk_1289 : (Jvm.Cond.methodLink "SameStarLaw" (142 : Nat) ({ cls := "SameStar", name := "kin", desc := "(I)I" } : Jvm.MethodName)) ∈ wG := tq_5 (List.mem_of_getElem? (i := 232) rfl) rfl
set_option maxRecDepth 20000 in
theorem lk_1290 : (Jvm.Cond.instanceMethod ({ cls := "SameStar", name := "kin", desc := "(I)I" } : Jvm.MethodName)) ∈ wG := tq_5 (List.mem_of_getElem? (i := 233) rfl) rfl
set_option maxRecDepth 20000 in
theorem lk_1291 : (Jvm.Cond.selects "SameStar" ({ cls := "SameStar", name := "kin", desc := "(I)I" } : Jvm.MethodName) ({ cls := "SameStar", name := "kin", desc := "(I)I" } : Jvm.MethodName)) ∈ wG := tq_5 (List.mem_of_getElem? (i := 234) rfl) rfl
set_option maxRecDepth 20000 in
theorem lk_1301 : (Jvm.Cond.methodLink "SameStarLaw" (146 : Nat) ({ cls := "SameStar", name := "next", desc := "(III)I" } : Jvm.MethodName)) ∈ wG := tq_6 (List.mem_of_getElem? (i := 4) rfl) rfl
set_option maxRecDepth 20000 in
theorem lk_1302 : (Jvm.Cond.instanceMethod ({ cls := "SameStar", name := "next", desc := "(III)I" } : Jvm.MethodName)) ∈ wG := tq_6 (List.mem_of_getElem? (i := 5) rfl) rfl
set_option maxRecDepth 20000 in
theorem lk_1303 : (Jvm.Cond.selects "SameStar" ({ cls := "SameStar", name := "next", desc := "(III)I" } : Jvm.MethodName) ({ cls := "SameStar", name := "next", desc := "(III)I" } : Jvm.MethodName)) ∈ wG := tq_6 (List.mem_of_getElem? (i := 6) rfl) rfl
set_option maxRecDepth 20000 in
theorem lk_1321 : (Jvm.Cond.methodLink "SameStarLaw" (150 : Nat) ({ cls := "SameStar", name := "act", desc := "(III)I" } : Jvm.MethodName)) ∈ wG := tq_6 (List.mem_of_getElem? (i := 24) rfl) rfl
set_option maxRecDepth 20000 in
theorem lk_1322 : (Jvm.Cond.instanceMethod ({ cls := "SameStar", name := "act", desc := "(III)I" } : Jvm.MethodName)) ∈ wG := tq_6 (List.mem_of_getElem? (i := 25) rfl) rfl
set_option maxRecDepth 20000 in
theorem lk_1323 : (Jvm.Cond.selects "SameStar" ({ cls := "SameStar", name := "act", desc := "(III)I" } : Jvm.MethodName) ({ cls := "SameStar", name := "act", desc := "(III)I" } : Jvm.MethodName)) ∈ wG := tq_6 (List.mem_of_getElem? (i := 26) rfl) rfl
set_option maxRecDepth 20000 in
theorem lk_1349 : (Jvm.Cond.methodLink "SameStarLaw" (154 : Nat) ({ cls := "SameStar", name := "trace", desc := "(I)I" } : Jvm.MethodName)) ∈ wG := tq_6 (List.mem_of_getElem? (i := 52) rfl) rfl
set_option maxRecDepth 20000 in
theorem lk_1350 : (Jvm.Cond.instanceMethod ({ cls := "SameStar", name := "trace", desc := "(I)I" } : Jvm.MethodName)) ∈ wG := tq_6 (List.mem_of_getElem? (i := 53) rfl) rfl
set_option maxRecDepth 20000 in
theorem lk_1351 : (Jvm.Cond.selects "SameStar" ({ cls := "SameStar", name := "trace", desc := "(I)I" } : Jvm.MethodName) ({ cls := "SameStar", name := "trace", desc := "(I)I" } : Jvm.MethodName)) ∈ wG := tq_6 (List.mem_of_getElem? (i := 54) rfl) rfl
set_option maxRecDepth 20000 in
theorem lk_1357 : (Jvm.Cond.methodLink "SameStarLaw" (158 : Nat) ({ cls := "SameStar", name := "keep", desc := "(II)I" } : Jvm.MethodName)) ∈ wG := tq_6 (List.mem_of_getElem? (i := 60) rfl) rfl
set_option maxRecDepth 20000 in
theorem lk_1358 : (Jvm.Cond.instanceMethod ({ cls := "SameStar", name := "keep", desc := "(II)I" } : Jvm.MethodName)) ∈ wG := tq_6 (List.mem_of_getElem? (i := 61) rfl) rfl
set_option maxRecDepth 20000 in
theorem lk_1359 : (Jvm.Cond.selects "SameStar" ({ cls := "SameStar", name := "keep", desc := "(II)I" } : Jvm.MethodName) ({ cls := "SameStar", name := "keep", desc := "(II)I" } : Jvm.MethodName)) ∈ wG := tq_6 (List.mem_of_getElem? (i := 62) rfl) rfl
set_option maxRecDepth 20000 in
theorem lk_1369 : (Jvm.Cond.methodLink "SameStarLaw" (162 : Nat) ({ cls := "SameStar", name := "row", desc := "(III)I" } : Jvm.MethodName)) ∈ wG := tq_6 (List.mem_of_getElem? (i := 72) rfl) rfl
set_option maxRecDepth 20000 in
theorem lk_1370 : (Jvm.Cond.instanceMethod ({ cls := "SameStar", name := "row", desc := "(III)I" } : Jvm.MethodName)) ∈ wG := tq_6 (List.mem_of_getElem? (i := 73) rfl) rfl
set_option maxRecDepth 20000 in
theorem lk_1371 : (Jvm.Cond.selects "SameStar" ({ cls := "SameStar", name := "row", desc := "(III)I" } : Jvm.MethodName) ({ cls := "SameStar", name := "row", desc := "(III)I" } : Jvm.MethodName)) ∈ wG := tq_6 (List.mem_of_getElem? (i := 74) rfl) rfl
set_option maxRecDepth 20000 in
theorem lk_1378 : (Jvm.Cond.methodLink "SameStarLaw" (168 : Nat) ({ cls := "SameStar", name := "put", desc := "(IIJ)I" } : Jvm.MethodName)) ∈ wG := tq_6 (List.mem_of_getElem? (i := 81) rfl) rfl
set_option maxRecDepth 20000 in
theorem lk_1379 : (Jvm.Cond.instanceMethod ({ cls := "SameStar", name := "put", desc := "(IIJ)I" } : Jvm.MethodName)) ∈ wG := tq_6 (List.mem_of_getElem? (i := 82) rfl) rfl
set_option maxRecDepth 20000 in
theorem lk_1380 : (Jvm.Cond.selects "SameStar" ({ cls := "SameStar", name := "put", desc := "(IIJ)I" } : Jvm.MethodName) ({ cls := "SameStar", name := "put", desc := "(IIJ)I" } : Jvm.MethodName)) ∈ wG := tq_6 (List.mem_of_getElem? (i := 83) rfl) rfl
set_option maxRecDepth 20000 in
theorem lk_1390 : (Jvm.Cond.methodLink "SameStarLaw" (173 : Nat) ({ cls := "SameStar", name := "element", desc := "(II)J" } : Jvm.MethodName)) ∈ wG := tq_6 (List.mem_of_getElem? (i := 93) rfl) rfl
set_option maxRecDepth 20000 in
theorem lk_1391 : (Jvm.Cond.instanceMethod ({ cls := "SameStar", name := "element", desc := "(II)J" } : Jvm.MethodName)) ∈ wG := tq_6 (List.mem_of_getElem? (i := 94) rfl) rfl
set_option maxRecDepth 20000 in
theorem lk_1392 : (Jvm.Cond.selects "SameStar" ({ cls := "SameStar", name := "element", desc := "(II)J" } : Jvm.MethodName) ({ cls := "SameStar", name := "element", desc := "(II)J" } : Jvm.MethodName)) ∈ wG := tq_6 (List.mem_of_getElem? (i := 95) rfl) rfl
set_option maxRecDepth 20000 in
theorem lk_1395 : (Jvm.Cond.methodLink "SameStarLaw" (178 : Nat) ({ cls := "SameStar", name := "shift", desc := "(IIIII)I" } : Jvm.MethodName)) ∈ wG := tq_6 (List.mem_of_getElem? (i := 98) rfl) rfl
set_option maxRecDepth 20000 in
theorem lk_1396 : (Jvm.Cond.instanceMethod ({ cls := "SameStar", name := "shift", desc := "(IIIII)I" } : Jvm.MethodName)) ∈ wG := tq_6 (List.mem_of_getElem? (i := 99) rfl) rfl
set_option maxRecDepth 20000 in
theorem lk_1397 : (Jvm.Cond.selects "SameStar" ({ cls := "SameStar", name := "shift", desc := "(IIIII)I" } : Jvm.MethodName) ({ cls := "SameStar", name := "shift", desc := "(IIIII)I" } : Jvm.MethodName)) ∈ wG := tq_6 (List.mem_of_getElem? (i := 100) rfl) rfl
set_option maxRecDepth 20000 in
theorem lk_1409 : (Jvm.Cond.methodLink "SameStarLaw" (183 : Nat) ({ cls := "SameStar", name := "taken", desc := "(II)I" } : Jvm.MethodName)) ∈ wG := tq_6 (List.mem_of_getElem? (i := 112) rfl) rfl
set_option maxRecDepth 20000 in
theorem lk_1410 : (Jvm.Cond.instanceMethod ({ cls := "SameStar", name := "taken", desc := "(II)I" } : Jvm.MethodName)) ∈ wG := tq_6 (List.mem_of_getElem? (i := 113) rfl) rfl
set_option maxRecDepth 20000 in
theorem lk_1411 : (Jvm.Cond.selects "SameStar" ({ cls := "SameStar", name := "taken", desc := "(II)I" } : Jvm.MethodName) ({ cls := "SameStar", name := "taken", desc := "(II)I" } : Jvm.MethodName)) ∈ wG := tq_6 (List.mem_of_getElem? (i := 114) rfl) rfl
set_option maxRecDepth 20000 in
theorem lk_1422 : (Jvm.Cond.methodLink "SameStarLaw" (187 : Nat) ({ cls := "SameStar", name := "count", desc := "(I)I" } : Jvm.MethodName)) ∈ wG := tq_6 (List.mem_of_getElem? (i := 125) rfl) rfl
set_option maxRecDepth 20000 in
theorem lk_1423 : (Jvm.Cond.instanceMethod ({ cls := "SameStar", name := "count", desc := "(I)I" } : Jvm.MethodName)) ∈ wG := tq_6 (List.mem_of_getElem? (i := 126) rfl) rfl
set_option maxRecDepth 20000 in
theorem lk_1424 : (Jvm.Cond.selects "SameStar" ({ cls := "SameStar", name := "count", desc := "(I)I" } : Jvm.MethodName) ({ cls := "SameStar", name := "count", desc := "(I)I" } : Jvm.MethodName)) ∈ wG := tq_6 (List.mem_of_getElem? (i := 127) rfl) rfl
set_option maxRecDepth 20000 in
theorem lk_1640 : (Jvm.Cond.methodLink "SameStarLaw" (17 : Nat) ({ cls := "SameStarModel", name := "great", desc := "(II)I" } : Jvm.MethodName)) ∈ wG := tq_7 (List.mem_of_getElem? (i := 103) rfl) rfl
set_option maxRecDepth 20000 in
theorem lk_1641 : (Jvm.Cond.instanceMethod ({ cls := "SameStarModel", name := "great", desc := "(II)I" } : Jvm.MethodName)) ∈ wG := tq_7 (List.mem_of_getElem? (i := 104) rfl) rfl
set_option maxRecDepth 20000 in
theorem lk_1642 : (Jvm.Cond.selects "SameStarModel" ({ cls := "SameStarModel", name := "great", desc := "(II)I" } : Jvm.MethodName) ({ cls := "SameStarModel", name := "great", desc := "(II)I" } : Jvm.MethodName)) ∈ wG := tq_7 (List.mem_of_getElem? (i := 105) rfl) rfl
set_option maxRecDepth 20000 in
theorem lk_1647 : (Jvm.Cond.methodLink "SameStarLaw" (22 : Nat) ({ cls := "SameStarModel", name := "comet", desc := "(IIII)I" } : Jvm.MethodName)) ∈ wG := tq_7 (List.mem_of_getElem? (i := 110) rfl) rfl
set_option maxRecDepth 20000 in
theorem lk_1648 : (Jvm.Cond.instanceMethod ({ cls := "SameStarModel", name := "comet", desc := "(IIII)I" } : Jvm.MethodName)) ∈ wG := tq_7 (List.mem_of_getElem? (i := 111) rfl) rfl
set_option maxRecDepth 20000 in
theorem lk_1649 : (Jvm.Cond.selects "SameStarModel" ({ cls := "SameStarModel", name := "comet", desc := "(IIII)I" } : Jvm.MethodName) ({ cls := "SameStarModel", name := "comet", desc := "(IIII)I" } : Jvm.MethodName)) ∈ wG := tq_7 (List.mem_of_getElem? (i := 112) rfl) rfl
set_option maxRecDepth 20000 in
theorem lk_1663 : (Jvm.Cond.methodLink "SameStarLaw" (26 : Nat) ({ cls := "SameStarModel", name := "ofComet", desc := "(II)I" } : Jvm.MethodName)) ∈ wG := tq_7 (List.mem_of_getElem? (i := 126) rfl) rfl
set_option maxRecDepth 20000 in
theorem lk_1664 : (Jvm.Cond.instanceMethod ({ cls := "SameStarModel", name := "ofComet", desc := "(II)I" } : Jvm.MethodName)) ∈ wG := tq_7 (List.mem_of_getElem? (i := 127) rfl) rfl
set_option maxRecDepth 20000 in
theorem lk_1665 : (Jvm.Cond.selects "SameStarModel" ({ cls := "SameStarModel", name := "ofComet", desc := "(II)I" } : Jvm.MethodName) ({ cls := "SameStarModel", name := "ofComet", desc := "(II)I" } : Jvm.MethodName)) ∈ wG := tq_7 (List.mem_of_getElem? (i := 128) rfl) rfl
set_option maxRecDepth 20000 in
theorem lk_1671 : (Jvm.Cond.methodLink "SameStarLaw" (31 : Nat) ({ cls := "SameStarModel", name := "pass", desc := "(III)I" } : Jvm.MethodName)) ∈ wG := tq_7 (List.mem_of_getElem? (i := 134) rfl) rfl
set_option maxRecDepth 20000 in
theorem lk_1672 : (Jvm.Cond.instanceMethod ({ cls := "SameStarModel", name := "pass", desc := "(III)I" } : Jvm.MethodName)) ∈ wG := tq_7 (List.mem_of_getElem? (i := 135) rfl) rfl
set_option maxRecDepth 20000 in
theorem lk_1673 : (Jvm.Cond.selects "SameStarModel" ({ cls := "SameStarModel", name := "pass", desc := "(III)I" } : Jvm.MethodName) ({ cls := "SameStarModel", name := "pass", desc := "(III)I" } : Jvm.MethodName)) ∈ wG := tq_7 (List.mem_of_getElem? (i := 136) rfl) rfl
set_option maxRecDepth 20000 in
theorem lk_1709 : (Jvm.Cond.methodLink "SameStarLaw" (35 : Nat) ({ cls := "SameStarModel", name := "stands", desc := "(IIII)I" } : Jvm.MethodName)) ∈ wG := tq_7 (List.mem_of_getElem? (i := 172) rfl) rfl
set_option maxRecDepth 20000 in
theorem lk_1710 : (Jvm.Cond.instanceMethod ({ cls := "SameStarModel", name := "stands", desc := "(IIII)I" } : Jvm.MethodName)) ∈ wG := tq_7 (List.mem_of_getElem? (i := 173) rfl) rfl
set_option maxRecDepth 20000 in
theorem lk_1711 : (Jvm.Cond.selects "SameStarModel" ({ cls := "SameStarModel", name := "stands", desc := "(IIII)I" } : Jvm.MethodName) ({ cls := "SameStarModel", name := "stands", desc := "(IIII)I" } : Jvm.MethodName)) ∈ wG := tq_7 (List.mem_of_getElem? (i := 174) rfl) rfl
set_option maxRecDepth 20000 in
theorem lk_1746 : (Jvm.Cond.methodLink "SameStarLaw" (39 : Nat) ({ cls := "SameStarModel", name := "seen", desc := "(III)I" } : Jvm.MethodName)) ∈ wG := tq_7 (List.mem_of_getElem? (i := 209) rfl) rfl
set_option maxRecDepth 20000 in
theorem lk_1747 : (Jvm.Cond.instanceMethod ({ cls := "SameStarModel", name := "seen", desc := "(III)I" } : Jvm.MethodName)) ∈ wG := tq_7 (List.mem_of_getElem? (i := 210) rfl) rfl
set_option maxRecDepth 20000 in
theorem lk_1748 : (Jvm.Cond.selects "SameStarModel" ({ cls := "SameStarModel", name := "seen", desc := "(III)I" } : Jvm.MethodName) ({ cls := "SameStarModel", name := "seen", desc := "(III)I" } : Jvm.MethodName)) ∈ wG := tq_7 (List.mem_of_getElem? (i := 211) rfl) rfl
set_option maxRecDepth 20000 in
theorem lk_1761 : (Jvm.Cond.methodLink "SameStarLaw" (43 : Nat) ({ cls := "SameStarModel", name := "feed", desc := "(II)I" } : Jvm.MethodName)) ∈ wG := tq_7 (List.mem_of_getElem? (i := 224) rfl) rfl
set_option maxRecDepth 20000 in
theorem lk_1762 : (Jvm.Cond.instanceMethod ({ cls := "SameStarModel", name := "feed", desc := "(II)I" } : Jvm.MethodName)) ∈ wG := tq_7 (List.mem_of_getElem? (i := 225) rfl) rfl
set_option maxRecDepth 20000 in
theorem lk_1763 : (Jvm.Cond.selects "SameStarModel" ({ cls := "SameStarModel", name := "feed", desc := "(II)I" } : Jvm.MethodName) ({ cls := "SameStarModel", name := "feed", desc := "(II)I" } : Jvm.MethodName)) ∈ wG := tq_7 (List.mem_of_getElem? (i := 226) rfl) rfl
set_option maxRecDepth 20000 in
theorem lk_1765 : (Jvm.Cond.methodLink "SameStarLaw" (48 : Nat) ({ cls := "SameStarModel", name := "text", desc := "(I)I" } : Jvm.MethodName)) ∈ wG := tq_7 (List.mem_of_getElem? (i := 228) rfl) rfl
set_option maxRecDepth 20000 in
theorem lk_1766 : (Jvm.Cond.instanceMethod ({ cls := "SameStarModel", name := "text", desc := "(I)I" } : Jvm.MethodName)) ∈ wG := tq_7 (List.mem_of_getElem? (i := 229) rfl) rfl
set_option maxRecDepth 20000 in
theorem lk_1767 : (Jvm.Cond.selects "SameStarModel" ({ cls := "SameStarModel", name := "text", desc := "(I)I" } : Jvm.MethodName) ({ cls := "SameStarModel", name := "text", desc := "(I)I" } : Jvm.MethodName)) ∈ wG := tq_7 (List.mem_of_getElem? (i := 230) rfl) rfl
set_option maxRecDepth 20000 in
theorem lk_1823 : (Jvm.Cond.methodLink "SameStarLaw" (52 : Nat) ({ cls := "SameStarModel", name := "reign", desc := "(III)I" } : Jvm.MethodName)) ∈ wG := tq_8 (List.mem_of_getElem? (i := 46) rfl) rfl
set_option maxRecDepth 20000 in
theorem lk_1824 : (Jvm.Cond.instanceMethod ({ cls := "SameStarModel", name := "reign", desc := "(III)I" } : Jvm.MethodName)) ∈ wG := tq_8 (List.mem_of_getElem? (i := 47) rfl) rfl
set_option maxRecDepth 20000 in
theorem lk_1825 : (Jvm.Cond.selects "SameStarModel" ({ cls := "SameStarModel", name := "reign", desc := "(III)I" } : Jvm.MethodName) ({ cls := "SameStarModel", name := "reign", desc := "(III)I" } : Jvm.MethodName)) ∈ wG := tq_8 (List.mem_of_getElem? (i := 48) rfl) rfl
set_option maxRecDepth 20000 in
theorem lk_1827 : (Jvm.Cond.methodLink "SameStarLaw" (56 : Nat) ({ cls := "SameStarModel", name := "watch", desc := "(III)I" } : Jvm.MethodName)) ∈ wG := tq_8 (List.mem_of_getElem? (i := 50) rfl) rfl
set_option maxRecDepth 20000 in
theorem lk_1828 : (Jvm.Cond.instanceMethod ({ cls := "SameStarModel", name := "watch", desc := "(III)I" } : Jvm.MethodName)) ∈ wG := tq_8 (List.mem_of_getElem? (i := 51) rfl) rfl
set_option maxRecDepth 20000 in
theorem lk_1829 : (Jvm.Cond.selects "SameStarModel" ({ cls := "SameStarModel", name := "watch", desc := "(III)I" } : Jvm.MethodName) ({ cls := "SameStarModel", name := "watch", desc := "(III)I" } : Jvm.MethodName)) ∈ wG := tq_8 (List.mem_of_getElem? (i := 52) rfl) rfl
set_option maxRecDepth 20000 in
theorem lk_1831 : (Jvm.Cond.methodLink "SameStarLaw" (64 : Nat) ({ cls := "SameStarModel", name := "date", desc := "(III)I" } : Jvm.MethodName)) ∈ wG := tq_8 (List.mem_of_getElem? (i := 54) rfl) rfl
set_option maxRecDepth 20000 in
theorem lk_1832 : (Jvm.Cond.instanceMethod ({ cls := "SameStarModel", name := "date", desc := "(III)I" } : Jvm.MethodName)) ∈ wG := tq_8 (List.mem_of_getElem? (i := 55) rfl) rfl
set_option maxRecDepth 20000 in
theorem lk_1833 : (Jvm.Cond.selects "SameStarModel" ({ cls := "SameStarModel", name := "date", desc := "(III)I" } : Jvm.MethodName) ({ cls := "SameStarModel", name := "date", desc := "(III)I" } : Jvm.MethodName)) ∈ wG := tq_8 (List.mem_of_getElem? (i := 56) rfl) rfl
set_option maxRecDepth 20000 in
theorem lk_1835 : (Jvm.Cond.methodLink "SameStarLaw" (60 : Nat) ({ cls := "SameStarModel", name := "word", desc := "(III)I" } : Jvm.MethodName)) ∈ wG := tq_8 (List.mem_of_getElem? (i := 58) rfl) rfl
set_option maxRecDepth 20000 in
theorem lk_1836 : (Jvm.Cond.instanceMethod ({ cls := "SameStarModel", name := "word", desc := "(III)I" } : Jvm.MethodName)) ∈ wG := tq_8 (List.mem_of_getElem? (i := 59) rfl) rfl
set_option maxRecDepth 20000 in
theorem lk_1837 : (Jvm.Cond.selects "SameStarModel" ({ cls := "SameStarModel", name := "word", desc := "(III)I" } : Jvm.MethodName) ({ cls := "SameStarModel", name := "word", desc := "(III)I" } : Jvm.MethodName)) ∈ wG := tq_8 (List.mem_of_getElem? (i := 60) rfl) rfl
set_option maxRecDepth 20000 in
theorem lk_1853 : (Jvm.Cond.methodLink "SameStarLaw" (68 : Nat) ({ cls := "SameStarModel", name := "words", desc := "(IIII)I" } : Jvm.MethodName)) ∈ wG := tq_8 (List.mem_of_getElem? (i := 76) rfl) rfl
set_option maxRecDepth 20000 in
theorem lk_1854 : (Jvm.Cond.instanceMethod ({ cls := "SameStarModel", name := "words", desc := "(IIII)I" } : Jvm.MethodName)) ∈ wG := tq_8 (List.mem_of_getElem? (i := 77) rfl) rfl
set_option maxRecDepth 20000 in
theorem lk_1855 : (Jvm.Cond.selects "SameStarModel" ({ cls := "SameStarModel", name := "words", desc := "(IIII)I" } : Jvm.MethodName) ({ cls := "SameStarModel", name := "words", desc := "(IIII)I" } : Jvm.MethodName)) ∈ wG := tq_8 (List.mem_of_getElem? (i := 78) rfl) rfl
set_option maxRecDepth 20000 in
theorem lk_1861 : (Jvm.Cond.methodLink "SameStarLaw" (72 : Nat) ({ cls := "SameStarModel", name := "ofWord", desc := "(II)I" } : Jvm.MethodName)) ∈ wG := tq_8 (List.mem_of_getElem? (i := 84) rfl) rfl
set_option maxRecDepth 20000 in
theorem lk_1862 : (Jvm.Cond.instanceMethod ({ cls := "SameStarModel", name := "ofWord", desc := "(II)I" } : Jvm.MethodName)) ∈ wG := tq_8 (List.mem_of_getElem? (i := 85) rfl) rfl
set_option maxRecDepth 20000 in
theorem lk_1863 : (Jvm.Cond.selects "SameStarModel" ({ cls := "SameStarModel", name := "ofWord", desc := "(II)I" } : Jvm.MethodName) ({ cls := "SameStarModel", name := "ofWord", desc := "(II)I" } : Jvm.MethodName)) ∈ wG := tq_8 (List.mem_of_getElem? (i := 86) rfl) rfl
set_option maxRecDepth 20000 in
theorem lk_1873 : (Jvm.Cond.methodLink "SameStarLaw" (76 : Nat) ({ cls := "SameStarModel", name := "span", desc := "(III)I" } : Jvm.MethodName)) ∈ wG := tq_8 (List.mem_of_getElem? (i := 96) rfl) rfl
set_option maxRecDepth 20000 in
theorem lk_1874 : (Jvm.Cond.instanceMethod ({ cls := "SameStarModel", name := "span", desc := "(III)I" } : Jvm.MethodName)) ∈ wG := tq_8 (List.mem_of_getElem? (i := 97) rfl) rfl
set_option maxRecDepth 20000 in
theorem lk_1875 : (Jvm.Cond.selects "SameStarModel" ({ cls := "SameStarModel", name := "span", desc := "(III)I" } : Jvm.MethodName) ({ cls := "SameStarModel", name := "span", desc := "(III)I" } : Jvm.MethodName)) ∈ wG := tq_8 (List.mem_of_getElem? (i := 98) rfl) rfl
set_option maxRecDepth 20000 in
theorem lk_1883 : (Jvm.Cond.methodLink "SameStarLaw" (80 : Nat) ({ cls := "SameStarModel", name := "fits", desc := "(III)I" } : Jvm.MethodName)) ∈ wG := tq_8 (List.mem_of_getElem? (i := 106) rfl) rfl
set_option maxRecDepth 20000 in
theorem lk_1884 : (Jvm.Cond.instanceMethod ({ cls := "SameStarModel", name := "fits", desc := "(III)I" } : Jvm.MethodName)) ∈ wG := tq_8 (List.mem_of_getElem? (i := 107) rfl) rfl
set_option maxRecDepth 20000 in
theorem lk_1885 : (Jvm.Cond.selects "SameStarModel" ({ cls := "SameStarModel", name := "fits", desc := "(III)I" } : Jvm.MethodName) ({ cls := "SameStarModel", name := "fits", desc := "(III)I" } : Jvm.MethodName)) ∈ wG := tq_8 (List.mem_of_getElem? (i := 108) rfl) rfl
set_option maxRecDepth 20000 in
theorem lk_1910 : (Jvm.Cond.methodLink "SameStarLaw" (84 : Nat) ({ cls := "SameStarModel", name := "perhaps", desc := "(III)I" } : Jvm.MethodName)) ∈ wG := tq_8 (List.mem_of_getElem? (i := 133) rfl) rfl
set_option maxRecDepth 20000 in
theorem lk_1911 : (Jvm.Cond.instanceMethod ({ cls := "SameStarModel", name := "perhaps", desc := "(III)I" } : Jvm.MethodName)) ∈ wG := tq_8 (List.mem_of_getElem? (i := 134) rfl) rfl
set_option maxRecDepth 20000 in
theorem lk_1912 : (Jvm.Cond.selects "SameStarModel" ({ cls := "SameStarModel", name := "perhaps", desc := "(III)I" } : Jvm.MethodName) ({ cls := "SameStarModel", name := "perhaps", desc := "(III)I" } : Jvm.MethodName)) ∈ wG := tq_8 (List.mem_of_getElem? (i := 135) rfl) rfl
set_option maxRecDepth 20000 in
theorem lk_1914 : (Jvm.Cond.methodLink "SameStarLaw" (88 : Nat) ({ cls := "SameStarModel", name := "whose", desc := "(II)I" } : Jvm.MethodName)) ∈ wG := tq_8 (List.mem_of_getElem? (i := 137) rfl) rfl
set_option maxRecDepth 20000 in
theorem lk_1915 : (Jvm.Cond.instanceMethod ({ cls := "SameStarModel", name := "whose", desc := "(II)I" } : Jvm.MethodName)) ∈ wG := tq_8 (List.mem_of_getElem? (i := 138) rfl) rfl
set_option maxRecDepth 20000 in
theorem lk_1916 : (Jvm.Cond.selects "SameStarModel" ({ cls := "SameStarModel", name := "whose", desc := "(II)I" } : Jvm.MethodName) ({ cls := "SameStarModel", name := "whose", desc := "(II)I" } : Jvm.MethodName)) ∈ wG := tq_8 (List.mem_of_getElem? (i := 139) rfl) rfl
set_option maxRecDepth 20000 in
theorem lk_1922 : (Jvm.Cond.methodLink "SameStarLaw" (92 : Nat) ({ cls := "SameStarModel", name := "evening", desc := "(II)I" } : Jvm.MethodName)) ∈ wG := tq_8 (List.mem_of_getElem? (i := 145) rfl) rfl
set_option maxRecDepth 20000 in
theorem lk_1923 : (Jvm.Cond.instanceMethod ({ cls := "SameStarModel", name := "evening", desc := "(II)I" } : Jvm.MethodName)) ∈ wG := tq_8 (List.mem_of_getElem? (i := 146) rfl) rfl
set_option maxRecDepth 20000 in
theorem lk_1924 : (Jvm.Cond.selects "SameStarModel" ({ cls := "SameStarModel", name := "evening", desc := "(II)I" } : Jvm.MethodName) ({ cls := "SameStarModel", name := "evening", desc := "(II)I" } : Jvm.MethodName)) ∈ wG := tq_8 (List.mem_of_getElem? (i := 147) rfl) rfl
set_option maxRecDepth 20000 in
theorem lk_1926 : (Jvm.Cond.methodLink "SameStarLaw" (96 : Nat) ({ cls := "SameStarModel", name := "behind", desc := "(II)I" } : Jvm.MethodName)) ∈ wG := tq_8 (List.mem_of_getElem? (i := 149) rfl) rfl
set_option maxRecDepth 20000 in
theorem lk_1927 : (Jvm.Cond.instanceMethod ({ cls := "SameStarModel", name := "behind", desc := "(II)I" } : Jvm.MethodName)) ∈ wG := tq_8 (List.mem_of_getElem? (i := 150) rfl) rfl
set_option maxRecDepth 20000 in
theorem lk_1928 : (Jvm.Cond.selects "SameStarModel" ({ cls := "SameStarModel", name := "behind", desc := "(II)I" } : Jvm.MethodName) ({ cls := "SameStarModel", name := "behind", desc := "(II)I" } : Jvm.MethodName)) ∈ wG := tq_8 (List.mem_of_getElem? (i := 151) rfl) rfl
set_option maxRecDepth 20000 in
theorem lk_1934 : (Jvm.Cond.methodLink "SameStarLaw" (100 : Nat) ({ cls := "SameStarModel", name := "once", desc := "(I)I" } : Jvm.MethodName)) ∈ wG := tq_8 (List.mem_of_getElem? (i := 157) rfl) rfl
set_option maxRecDepth 20000 in
theorem lk_1935 : (Jvm.Cond.instanceMethod ({ cls := "SameStarModel", name := "once", desc := "(I)I" } : Jvm.MethodName)) ∈ wG := tq_8 (List.mem_of_getElem? (i := 158) rfl) rfl
set_option maxRecDepth 20000 in
theorem lk_1936 : (Jvm.Cond.selects "SameStarModel" ({ cls := "SameStarModel", name := "once", desc := "(I)I" } : Jvm.MethodName) ({ cls := "SameStarModel", name := "once", desc := "(I)I" } : Jvm.MethodName)) ∈ wG := tq_8 (List.mem_of_getElem? (i := 159) rfl) rfl
set_option maxRecDepth 20000 in
theorem lk_1938 : (Jvm.Cond.methodLink "SameStarLaw" (104 : Nat) ({ cls := "SameStarModel", name := "judge", desc := "(I)I" } : Jvm.MethodName)) ∈ wG := tq_8 (List.mem_of_getElem? (i := 161) rfl) rfl
set_option maxRecDepth 20000 in
theorem lk_1939 : (Jvm.Cond.instanceMethod ({ cls := "SameStarModel", name := "judge", desc := "(I)I" } : Jvm.MethodName)) ∈ wG := tq_8 (List.mem_of_getElem? (i := 162) rfl) rfl
set_option maxRecDepth 20000 in
theorem lk_1940 : (Jvm.Cond.selects "SameStarModel" ({ cls := "SameStarModel", name := "judge", desc := "(I)I" } : Jvm.MethodName) ({ cls := "SameStarModel", name := "judge", desc := "(I)I" } : Jvm.MethodName)) ∈ wG := tq_8 (List.mem_of_getElem? (i := 163) rfl) rfl
set_option maxRecDepth 20000 in
theorem lk_1958 : (Jvm.Cond.methodLink "SameStarLaw" (108 : Nat) ({ cls := "SameStarModel", name := "best", desc := "(I)I" } : Jvm.MethodName)) ∈ wG := tq_8 (List.mem_of_getElem? (i := 181) rfl) rfl
set_option maxRecDepth 20000 in
theorem lk_1959 : (Jvm.Cond.instanceMethod ({ cls := "SameStarModel", name := "best", desc := "(I)I" } : Jvm.MethodName)) ∈ wG := tq_8 (List.mem_of_getElem? (i := 182) rfl) rfl
set_option maxRecDepth 20000 in
theorem lk_1960 : (Jvm.Cond.selects "SameStarModel" ({ cls := "SameStarModel", name := "best", desc := "(I)I" } : Jvm.MethodName) ({ cls := "SameStarModel", name := "best", desc := "(I)I" } : Jvm.MethodName)) ∈ wG := tq_8 (List.mem_of_getElem? (i := 183) rfl) rfl
set_option maxRecDepth 20000 in
theorem lk_1965 : (Jvm.Cond.methodLink "SameStarLaw" (112 : Nat) ({ cls := "SameStarModel", name := "observed", desc := "(II)I" } : Jvm.MethodName)) ∈ wG := tq_8 (List.mem_of_getElem? (i := 188) rfl) rfl
set_option maxRecDepth 20000 in
theorem lk_1966 : (Jvm.Cond.instanceMethod ({ cls := "SameStarModel", name := "observed", desc := "(II)I" } : Jvm.MethodName)) ∈ wG := tq_8 (List.mem_of_getElem? (i := 189) rfl) rfl
set_option maxRecDepth 20000 in
theorem lk_1967 : (Jvm.Cond.selects "SameStarModel" ({ cls := "SameStarModel", name := "observed", desc := "(II)I" } : Jvm.MethodName) ({ cls := "SameStarModel", name := "observed", desc := "(II)I" } : Jvm.MethodName)) ∈ wG := tq_8 (List.mem_of_getElem? (i := 190) rfl) rfl
set_option maxRecDepth 20000 in
theorem lk_1969 : (Jvm.Cond.methodLink "SameStarLaw" (121 : Nat) ({ cls := "SameStarModel", name := "forget", desc := "()I" } : Jvm.MethodName)) ∈ wG := tq_8 (List.mem_of_getElem? (i := 192) rfl) rfl
set_option maxRecDepth 20000 in
theorem lk_1970 : (Jvm.Cond.instanceMethod ({ cls := "SameStarModel", name := "forget", desc := "()I" } : Jvm.MethodName)) ∈ wG := tq_8 (List.mem_of_getElem? (i := 193) rfl) rfl
set_option maxRecDepth 20000 in
theorem lk_1971 : (Jvm.Cond.selects "SameStarModel" ({ cls := "SameStarModel", name := "forget", desc := "()I" } : Jvm.MethodName) ({ cls := "SameStarModel", name := "forget", desc := "()I" } : Jvm.MethodName)) ∈ wG := tq_8 (List.mem_of_getElem? (i := 194) rfl) rfl
set_option maxRecDepth 20000 in
theorem lk_1973 : (Jvm.Cond.methodLink "SameStarLaw" (116 : Nat) ({ cls := "SameStarModel", name := "paths", desc := "(III)I" } : Jvm.MethodName)) ∈ wG := tq_8 (List.mem_of_getElem? (i := 196) rfl) rfl
set_option maxRecDepth 20000 in
theorem lk_1974 : (Jvm.Cond.instanceMethod ({ cls := "SameStarModel", name := "paths", desc := "(III)I" } : Jvm.MethodName)) ∈ wG := tq_8 (List.mem_of_getElem? (i := 197) rfl) rfl
set_option maxRecDepth 20000 in
theorem lk_1975 : (Jvm.Cond.selects "SameStarModel" ({ cls := "SameStarModel", name := "paths", desc := "(III)I" } : Jvm.MethodName) ({ cls := "SameStarModel", name := "paths", desc := "(III)I" } : Jvm.MethodName)) ∈ wG := tq_8 (List.mem_of_getElem? (i := 198) rfl) rfl
set_option maxRecDepth 20000 in
theorem lk_1981 : (Jvm.Cond.methodLink "SameStarLaw" (125 : Nat) ({ cls := "SameStarModel", name := "alike", desc := "(III)I" } : Jvm.MethodName)) ∈ wG := tq_8 (List.mem_of_getElem? (i := 204) rfl) rfl
set_option maxRecDepth 20000 in
theorem lk_1982 : (Jvm.Cond.instanceMethod ({ cls := "SameStarModel", name := "alike", desc := "(III)I" } : Jvm.MethodName)) ∈ wG := tq_8 (List.mem_of_getElem? (i := 205) rfl) rfl
set_option maxRecDepth 20000 in
theorem lk_1983 : (Jvm.Cond.selects "SameStarModel" ({ cls := "SameStarModel", name := "alike", desc := "(III)I" } : Jvm.MethodName) ({ cls := "SameStarModel", name := "alike", desc := "(III)I" } : Jvm.MethodName)) ∈ wG := tq_8 (List.mem_of_getElem? (i := 206) rfl) rfl
set_option maxRecDepth 20000 in
theorem lk_1985 : (Jvm.Cond.methodLink "SameStarLaw" (129 : Nat) ({ cls := "SameStarModel", name := "chance", desc := "(III)I" } : Jvm.MethodName)) ∈ wG := tq_8 (List.mem_of_getElem? (i := 208) rfl) rfl
set_option maxRecDepth 20000 in
theorem lk_1986 : (Jvm.Cond.instanceMethod ({ cls := "SameStarModel", name := "chance", desc := "(III)I" } : Jvm.MethodName)) ∈ wG := tq_8 (List.mem_of_getElem? (i := 209) rfl) rfl
set_option maxRecDepth 20000 in
theorem lk_1987 : (Jvm.Cond.selects "SameStarModel" ({ cls := "SameStarModel", name := "chance", desc := "(III)I" } : Jvm.MethodName) ({ cls := "SameStarModel", name := "chance", desc := "(III)I" } : Jvm.MethodName)) ∈ wG := tq_8 (List.mem_of_getElem? (i := 210) rfl) rfl
set_option maxRecDepth 20000 in
theorem lk_1994 : (Jvm.Cond.methodLink "SameStarLaw" (133 : Nat) ({ cls := "SameStarModel", name := "foretold", desc := "(IIII)I" } : Jvm.MethodName)) ∈ wG := tq_8 (List.mem_of_getElem? (i := 217) rfl) rfl
set_option maxRecDepth 20000 in
theorem lk_1995 : (Jvm.Cond.instanceMethod ({ cls := "SameStarModel", name := "foretold", desc := "(IIII)I" } : Jvm.MethodName)) ∈ wG := tq_8 (List.mem_of_getElem? (i := 218) rfl) rfl
set_option maxRecDepth 20000 in
theorem lk_1996 : (Jvm.Cond.selects "SameStarModel" ({ cls := "SameStarModel", name := "foretold", desc := "(IIII)I" } : Jvm.MethodName) ({ cls := "SameStarModel", name := "foretold", desc := "(IIII)I" } : Jvm.MethodName)) ∈ wG := tq_8 (List.mem_of_getElem? (i := 219) rfl) rfl
set_option maxRecDepth 20000 in
theorem lk_2002 : (Jvm.Cond.methodLink "SameStarLaw" (137 : Nat) ({ cls := "SameStarModel", name := "right", desc := "(III)I" } : Jvm.MethodName)) ∈ wG := tq_8 (List.mem_of_getElem? (i := 225) rfl) rfl
set_option maxRecDepth 20000 in
theorem lk_2003 : (Jvm.Cond.instanceMethod ({ cls := "SameStarModel", name := "right", desc := "(III)I" } : Jvm.MethodName)) ∈ wG := tq_8 (List.mem_of_getElem? (i := 226) rfl) rfl
set_option maxRecDepth 20000 in
theorem lk_2004 : (Jvm.Cond.selects "SameStarModel" ({ cls := "SameStarModel", name := "right", desc := "(III)I" } : Jvm.MethodName) ({ cls := "SameStarModel", name := "right", desc := "(III)I" } : Jvm.MethodName)) ∈ wG := tq_8 (List.mem_of_getElem? (i := 227) rfl) rfl
set_option maxRecDepth 20000 in
theorem lk_2010 : (Jvm.Cond.methodLink "SameStarLaw" (141 : Nat) ({ cls := "SameStarModel", name := "broke", desc := "(II)I" } : Jvm.MethodName)) ∈ wG := tq_8 (List.mem_of_getElem? (i := 233) rfl) rfl
set_option maxRecDepth 20000 in
theorem lk_2011 : (Jvm.Cond.instanceMethod ({ cls := "SameStarModel", name := "broke", desc := "(II)I" } : Jvm.MethodName)) ∈ wG := tq_8 (List.mem_of_getElem? (i := 234) rfl) rfl
set_option maxRecDepth 20000 in
theorem lk_2012 : (Jvm.Cond.selects "SameStarModel" ({ cls := "SameStarModel", name := "broke", desc := "(II)I" } : Jvm.MethodName) ({ cls := "SameStarModel", name := "broke", desc := "(II)I" } : Jvm.MethodName)) ∈ wG := tq_8 (List.mem_of_getElem? (i := 235) rfl) rfl
set_option maxRecDepth 20000 in
theorem lk_2014 : (Jvm.Cond.methodLink "SameStarLaw" (145 : Nat) ({ cls := "SameStarModel", name := "kin", desc := "(I)I" } : Jvm.MethodName)) ∈ wG := tq_8 (List.mem_of_getElem? (i := 237) rfl) rfl
set_option maxRecDepth 20000 in
theorem lk_2015 : (Jvm.Cond.instanceMethod ({ cls := "SameStarModel", name := "kin", desc := "(I)I" } : Jvm.MethodName)) ∈ wG := tq_8 (List.mem_of_getElem? (i := 238) rfl) rfl
set_option maxRecDepth 20000 in
theorem lk_2016 : (Jvm.Cond.selects "SameStarModel" ({ cls := "SameStarModel", name := "kin", desc := "(I)I" } : Jvm.MethodName) ({ cls := "SameStarModel", name := "kin", desc := "(I)I" } : Jvm.MethodName)) ∈ wG := tq_8 (List.mem_of_getElem? (i := 239) rfl) rfl
set_option maxRecDepth 20000 in
theorem lk_2022 : (Jvm.Cond.methodLink "SameStarLaw" (149 : Nat) ({ cls := "SameStarModel", name := "next", desc := "(III)I" } : Jvm.MethodName)) ∈ wG := tq_9 (List.mem_of_getElem? (i := 5) rfl) rfl
set_option maxRecDepth 20000 in
theorem lk_2023 : (Jvm.Cond.instanceMethod ({ cls := "SameStarModel", name := "next", desc := "(III)I" } : Jvm.MethodName)) ∈ wG := tq_9 (List.mem_of_getElem? (i := 6) rfl) rfl
set_option maxRecDepth 20000 in
theorem lk_2024 : (Jvm.Cond.selects "SameStarModel" ({ cls := "SameStarModel", name := "next", desc := "(III)I" } : Jvm.MethodName) ({ cls := "SameStarModel", name := "next", desc := "(III)I" } : Jvm.MethodName)) ∈ wG := tq_9 (List.mem_of_getElem? (i := 7) rfl) rfl
set_option maxRecDepth 20000 in
theorem lk_2030 : (Jvm.Cond.methodLink "SameStarLaw" (153 : Nat) ({ cls := "SameStarModel", name := "act", desc := "(III)I" } : Jvm.MethodName)) ∈ wG := tq_9 (List.mem_of_getElem? (i := 13) rfl) rfl
set_option maxRecDepth 20000 in
theorem lk_2031 : (Jvm.Cond.instanceMethod ({ cls := "SameStarModel", name := "act", desc := "(III)I" } : Jvm.MethodName)) ∈ wG := tq_9 (List.mem_of_getElem? (i := 14) rfl) rfl
set_option maxRecDepth 20000 in
theorem lk_2032 : (Jvm.Cond.selects "SameStarModel" ({ cls := "SameStarModel", name := "act", desc := "(III)I" } : Jvm.MethodName) ({ cls := "SameStarModel", name := "act", desc := "(III)I" } : Jvm.MethodName)) ∈ wG := tq_9 (List.mem_of_getElem? (i := 15) rfl) rfl
set_option maxRecDepth 20000 in
theorem lk_2074 : (Jvm.Cond.methodLink "SameStarLaw" (157 : Nat) ({ cls := "SameStarModel", name := "trace", desc := "(I)I" } : Jvm.MethodName)) ∈ wG := tq_9 (List.mem_of_getElem? (i := 57) rfl) rfl
set_option maxRecDepth 20000 in
theorem lk_2075 : (Jvm.Cond.instanceMethod ({ cls := "SameStarModel", name := "trace", desc := "(I)I" } : Jvm.MethodName)) ∈ wG := tq_9 (List.mem_of_getElem? (i := 58) rfl) rfl
set_option maxRecDepth 20000 in
theorem lk_2076 : (Jvm.Cond.selects "SameStarModel" ({ cls := "SameStarModel", name := "trace", desc := "(I)I" } : Jvm.MethodName) ({ cls := "SameStarModel", name := "trace", desc := "(I)I" } : Jvm.MethodName)) ∈ wG := tq_9 (List.mem_of_getElem? (i := 59) rfl) rfl
set_option maxRecDepth 20000 in
theorem lk_2078 : (Jvm.Cond.methodLink "SameStarLaw" (190 : Nat) ({ cls := "SameStarModel", name := "count", desc := "(I)I" } : Jvm.MethodName)) ∈ wG := tq_9 (List.mem_of_getElem? (i := 61) rfl) rfl
set_option maxRecDepth 20000 in
theorem lk_2079 : (Jvm.Cond.instanceMethod ({ cls := "SameStarModel", name := "count", desc := "(I)I" } : Jvm.MethodName)) ∈ wG := tq_9 (List.mem_of_getElem? (i := 62) rfl) rfl
set_option maxRecDepth 20000 in
theorem lk_2080 : (Jvm.Cond.selects "SameStarModel" ({ cls := "SameStarModel", name := "count", desc := "(I)I" } : Jvm.MethodName) ({ cls := "SameStarModel", name := "count", desc := "(I)I" } : Jvm.MethodName)) ∈ wG := tq_9 (List.mem_of_getElem? (i := 63) rfl) rfl
set_option maxRecDepth 20000 in
theorem lk_2082 : (Jvm.Cond.methodLink "SameStarLaw" (161 : Nat) ({ cls := "SameStarModel", name := "keep", desc := "(II)I" } : Jvm.MethodName)) ∈ wG := tq_9 (List.mem_of_getElem? (i := 65) rfl) rfl
set_option maxRecDepth 20000 in
theorem lk_2083 : (Jvm.Cond.instanceMethod ({ cls := "SameStarModel", name := "keep", desc := "(II)I" } : Jvm.MethodName)) ∈ wG := tq_9 (List.mem_of_getElem? (i := 66) rfl) rfl
set_option maxRecDepth 20000 in
theorem lk_2084 : (Jvm.Cond.selects "SameStarModel" ({ cls := "SameStarModel", name := "keep", desc := "(II)I" } : Jvm.MethodName) ({ cls := "SameStarModel", name := "keep", desc := "(II)I" } : Jvm.MethodName)) ∈ wG := tq_9 (List.mem_of_getElem? (i := 67) rfl) rfl
set_option maxRecDepth 20000 in
theorem lk_2086 : (Jvm.Cond.methodLink "SameStarLaw" (165 : Nat) ({ cls := "SameStarModel", name := "row", desc := "(III)I" } : Jvm.MethodName)) ∈ wG := tq_9 (List.mem_of_getElem? (i := 69) rfl) rfl
set_option maxRecDepth 20000 in
theorem lk_2087 : (Jvm.Cond.instanceMethod ({ cls := "SameStarModel", name := "row", desc := "(III)I" } : Jvm.MethodName)) ∈ wG := tq_9 (List.mem_of_getElem? (i := 70) rfl) rfl
set_option maxRecDepth 20000 in
theorem lk_2088 : (Jvm.Cond.selects "SameStarModel" ({ cls := "SameStarModel", name := "row", desc := "(III)I" } : Jvm.MethodName) ({ cls := "SameStarModel", name := "row", desc := "(III)I" } : Jvm.MethodName)) ∈ wG := tq_9 (List.mem_of_getElem? (i := 71) rfl) rfl
set_option maxRecDepth 20000 in
theorem lk_2090 : (Jvm.Cond.methodLink "SameStarLaw" (172 : Nat) ({ cls := "SameStarModel", name := "put", desc := "(IIJ)I" } : Jvm.MethodName)) ∈ wG := tq_9 (List.mem_of_getElem? (i := 73) rfl) rfl
set_option maxRecDepth 20000 in
theorem lk_2091 : (Jvm.Cond.instanceMethod ({ cls := "SameStarModel", name := "put", desc := "(IIJ)I" } : Jvm.MethodName)) ∈ wG := tq_9 (List.mem_of_getElem? (i := 74) rfl) rfl
set_option maxRecDepth 20000 in
theorem lk_2092 : (Jvm.Cond.selects "SameStarModel" ({ cls := "SameStarModel", name := "put", desc := "(IIJ)I" } : Jvm.MethodName) ({ cls := "SameStarModel", name := "put", desc := "(IIJ)I" } : Jvm.MethodName)) ∈ wG := tq_9 (List.mem_of_getElem? (i := 75) rfl) rfl
set_option maxRecDepth 20000 in
theorem lk_2098 : (Jvm.Cond.methodLink "SameStarLaw" (177 : Nat) ({ cls := "SameStarModel", name := "element", desc := "(II)J" } : Jvm.MethodName)) ∈ wG := tq_9 (List.mem_of_getElem? (i := 81) rfl) rfl
set_option maxRecDepth 20000 in
theorem lk_2099 : (Jvm.Cond.instanceMethod ({ cls := "SameStarModel", name := "element", desc := "(II)J" } : Jvm.MethodName)) ∈ wG := tq_9 (List.mem_of_getElem? (i := 82) rfl) rfl
set_option maxRecDepth 20000 in
theorem lk_2100 : (Jvm.Cond.selects "SameStarModel" ({ cls := "SameStarModel", name := "element", desc := "(II)J" } : Jvm.MethodName) ({ cls := "SameStarModel", name := "element", desc := "(II)J" } : Jvm.MethodName)) ∈ wG := tq_9 (List.mem_of_getElem? (i := 83) rfl) rfl
set_option maxRecDepth 20000 in
theorem lk_2103 : (Jvm.Cond.methodLink "SameStarLaw" (182 : Nat) ({ cls := "SameStarModel", name := "shift", desc := "(IIIII)I" } : Jvm.MethodName)) ∈ wG := tq_9 (List.mem_of_getElem? (i := 86) rfl) rfl
set_option maxRecDepth 20000 in
theorem lk_2104 : (Jvm.Cond.instanceMethod ({ cls := "SameStarModel", name := "shift", desc := "(IIIII)I" } : Jvm.MethodName)) ∈ wG := tq_9 (List.mem_of_getElem? (i := 87) rfl) rfl
set_option maxRecDepth 20000 in
theorem lk_2105 : (Jvm.Cond.selects "SameStarModel" ({ cls := "SameStarModel", name := "shift", desc := "(IIIII)I" } : Jvm.MethodName) ({ cls := "SameStarModel", name := "shift", desc := "(IIIII)I" } : Jvm.MethodName)) ∈ wG := tq_9 (List.mem_of_getElem? (i := 88) rfl) rfl
set_option maxRecDepth 20000 in
theorem lk_2107 : (Jvm.Cond.methodLink "SameStarLaw" (186 : Nat) ({ cls := "SameStarModel", name := "taken", desc := "(II)I" } : Jvm.MethodName)) ∈ wG := tq_9 (List.mem_of_getElem? (i := 90) rfl) rfl
set_option maxRecDepth 20000 in
theorem lk_2108 : (Jvm.Cond.instanceMethod ({ cls := "SameStarModel", name := "taken", desc := "(II)I" } : Jvm.MethodName)) ∈ wG := tq_9 (List.mem_of_getElem? (i := 91) rfl) rfl
set_option maxRecDepth 20000 in
theorem lk_2109 : (Jvm.Cond.selects "SameStarModel" ({ cls := "SameStarModel", name := "taken", desc := "(II)I" } : Jvm.MethodName) ({ cls := "SameStarModel", name := "taken", desc := "(II)I" } : Jvm.MethodName)) ∈ wG := tq_9 (List.mem_of_getElem? (i := 92) rfl) rfl
set_option maxRecDepth 20000 in
theorem lk_2114 : (Jvm.Cond.constantLong "SameStarLaw" (166 : Nat) (4294967295 : Int64)) ∈ wG := tq_9 (List.mem_of_getElem? (i := 97) rfl) rfl
