def tT : List Cond := lw_tbl.filter goodWord
theorem tm {w : Cond} {i : Nat} (h : lw_tbl[i]? = some w) (hg : goodWord w = true) : w ∈ tT := List.mem_filter.mpr ⟨List.mem_of_getElem? h, hg⟩
theorem gT {a b : Cond} (hb : b ∈ tT) : GoodIn (a :: tT) (b :: tT) := fun w hw => by
  have hw2 : w ∈ tT := (List.mem_cons.mp hw).elim (fun e => e ▸ hb) id
  exact ⟨List.mem_cons_of_mem _ hw2, good_of_word (List.mem_filter.mp hw2).2⟩
theorem gL {a : Cond} {l : List Cond} (h : ∀ w ∈ l, w ∈ tT) : GoodIn (a :: tT) l := fun w hw => ⟨List.mem_cons_of_mem _ (h w hw), good_of_word (List.mem_filter.mp (h w hw)).2⟩
theorem gV {a b : Cond} {own C : String} {idx : Nat} {y : MethodName} (h1 : Cond.methodLink own idx y ∈ tT) (h2 : Cond.instanceMethod y ∈ tT) (h3 : Cond.selects C y y ∈ tT) (h4 : Cond.initialized C ∈ tT) (hb : b ∈ tT) : GoodIn (a :: tT) (wsV own idx C y (b :: tT)) := gL (fun w hw => by
  unfold wsV at hw
  simp only [List.mem_append, List.mem_cons, List.not_mem_nil, or_false] at hw
  rcases hw with (rfl | rfl | rfl | rfl) | rfl | h
  · exact h1
  · exact h2
  · exact h3
  · exact h4
  · exact hb
  · exact h)
theorem gS {a b : Cond} {own : String} {idx : Nat} {y : MethodName} (h1 : Cond.methodLink own idx y ∈ tT) (h2 : Cond.static y ∈ tT) (h4 : Cond.initialized y.cls ∈ tT) (hb : b ∈ tT) : GoodIn (a :: tT) (va_wsS own idx y (b :: tT)) := gL (fun w hw => by
  unfold va_wsS at hw
  simp only [List.mem_append, List.mem_cons, List.not_mem_nil, or_false] at hw
  rcases hw with (rfl | rfl | rfl) | rfl | h
  · exact h1
  · exact h2
  · exact h4
  · exact hb
  · exact h)
set_option maxRecDepth 20000 in
theorem tw_0 : (Cond.selects "RuleKernels" ⟨"RuleKernels", "ruleAt", "(I)LRuleKernels$Rule;"⟩ ⟨"RuleKernels", "ruleAt", "(I)LRuleKernels$Rule;"⟩) ∈ tT := tm (i := 0) rfl rfl
set_option maxRecDepth 20000 in
theorem tw_1 : (Cond.selects "RuleKernels$Rule" ⟨"RuleKernels$Rule", "holds", "(I)Z"⟩ ⟨"RuleKernels$Rule", "holds", "(I)Z"⟩) ∈ tT := tm (i := 1) rfl rfl
set_option maxRecDepth 20000 in
theorem tw_2 : (Cond.selects "RuleKernels" ⟨"RuleKernels", "noteRuleOfPlace", "(II)V"⟩ ⟨"RuleKernels", "noteRuleOfPlace", "(II)V"⟩) ∈ tT := tm (i := 2) rfl rfl
set_option maxRecDepth 20000 in
theorem tw_3 : (Cond.selects "RuleKernels" ⟨"RuleKernels", "removeAndWake", "(IJI)V"⟩ ⟨"RuleKernels", "removeAndWake", "(IJI)V"⟩) ∈ tT := tm (i := 3) rfl rfl
set_option maxRecDepth 20000 in
theorem tw_4 : (Cond.selects "RuleKernels" ⟨"RuleKernels", "wake", "(JII)V"⟩ ⟨"RuleKernels", "wake", "(JII)V"⟩) ∈ tT := tm (i := 4) rfl rfl
set_option maxRecDepth 20000 in
theorem tw_5 : (Cond.selects "RuleKernels" ⟨"RuleKernels", "runFirst", "()V"⟩ ⟨"RuleKernels", "runFirst", "()V"⟩) ∈ tT := tm (i := 5) rfl rfl
set_option maxRecDepth 20000 in
theorem tw_6 : (Cond.selects "RuleKernels$Kernel" ⟨"RuleKernels$Kernel", "keepUnlike", "(I)V"⟩ ⟨"RuleKernels$Kernel", "keepUnlike", "(I)V"⟩) ∈ tT := tm (i := 6) rfl rfl
set_option maxRecDepth 20000 in
theorem tw_7 : (Cond.selects "RuleKernels$Giving" ⟨"RuleKernels$Giving", "give", "([JI)Z"⟩ ⟨"RuleKernels$Giving", "give", "([JI)Z"⟩) ∈ tT := tm (i := 7) rfl rfl
set_option maxRecDepth 20000 in
theorem tw_8 : (Cond.selects "RuleKernels$Giving" ⟨"RuleKernels$Giving", "moveOn", "(III)V"⟩ ⟨"RuleKernels$Giving", "moveOn", "(III)V"⟩) ∈ tT := tm (i := 8) rfl rfl
set_option maxRecDepth 20000 in
theorem tw_9 : (Cond.selects "RuleKernels$Kernel" ⟨"RuleKernels$Kernel", "keepNothing", "()V"⟩ ⟨"RuleKernels$Kernel", "keepNothing", "()V"⟩) ∈ tT := tm (i := 9) rfl rfl
set_option maxRecDepth 20000 in
theorem tw_10 : (Cond.selects "RuleKernels$Kernel" ⟨"RuleKernels$Kernel", "keepEqual", "(I)V"⟩ ⟨"RuleKernels$Kernel", "keepEqual", "(I)V"⟩) ∈ tT := tm (i := 10) rfl rfl
set_option maxRecDepth 20000 in
theorem tw_11 : (Cond.selects "RuleKernels$Kernel" ⟨"RuleKernels$Kernel", "keepSum", "(LRuleKernels$Rule;)V"⟩ ⟨"RuleKernels$Kernel", "keepSum", "(LRuleKernels$Rule;)V"⟩) ∈ tT := tm (i := 11) rfl rfl
set_option maxRecDepth 20000 in
theorem tw_12 : (Cond.selects "RuleKernels$Kernel" ⟨"RuleKernels$Kernel", "within", "(JIJJ)J"⟩ ⟨"RuleKernels$Kernel", "within", "(JIJJ)J"⟩) ∈ tT := tm (i := 12) rfl rfl
set_option maxRecDepth 20000 in
theorem tw_13 : (Cond.selects "RuleKernels$Kernel" ⟨"RuleKernels$Kernel", "keepCount", "(LRuleKernels$Rule;)V"⟩ ⟨"RuleKernels$Kernel", "keepCount", "(LRuleKernels$Rule;)V"⟩) ∈ tT := tm (i := 13) rfl rfl
set_option maxRecDepth 20000 in
theorem tw_14 : (Cond.selects "RuleKernels$Kernel" ⟨"RuleKernels$Kernel", "bitOf", "(I)J"⟩ ⟨"RuleKernels$Kernel", "bitOf", "(I)J"⟩) ∈ tT := tm (i := 14) rfl rfl
set_option maxRecDepth 20000 in
theorem tw_15 : (Cond.selects "RuleKernels$Kernel" ⟨"RuleKernels$Kernel", "keepRising", "(I)V"⟩ ⟨"RuleKernels$Kernel", "keepRising", "(I)V"⟩) ∈ tT := tm (i := 15) rfl rfl
set_option maxRecDepth 20000 in
theorem tw_16 : (Cond.selects "RuleKernels$Kernel" ⟨"RuleKernels$Kernel", "keepApart", "(LRuleKernels$Rule;)V"⟩ ⟨"RuleKernels$Kernel", "keepApart", "(LRuleKernels$Rule;)V"⟩) ∈ tT := tm (i := 16) rfl rfl
set_option maxRecDepth 20000 in
theorem tw_17 : (Cond.selects "RuleKernels$Kernel" ⟨"RuleKernels$Kernel", "keepTable", "(LRuleKernels$Rule;)V"⟩ ⟨"RuleKernels$Kernel", "keepTable", "(LRuleKernels$Rule;)V"⟩) ∈ tT := tm (i := 17) rfl rfl
set_option maxRecDepth 20000 in
theorem tw_18 : (Cond.selects "RuleKernelsModel" ⟨"RuleKernelsModel", "isRule", "(I)Z"⟩ ⟨"RuleKernelsModel", "isRule", "(I)Z"⟩) ∈ tT := tm (i := 18) rfl rfl
set_option maxRecDepth 20000 in
theorem tw_19 : (Cond.selects "RuleKernelsModel" ⟨"RuleKernelsModel", "isPlace", "(I)Z"⟩ ⟨"RuleKernelsModel", "isPlace", "(I)Z"⟩) ∈ tT := tm (i := 19) rfl rfl
set_option maxRecDepth 20000 in
theorem tw_20 : (Cond.selects "RuleKernelsModel" ⟨"RuleKernelsModel", "seatOf", "(II)I"⟩ ⟨"RuleKernelsModel", "seatOf", "(II)I"⟩) ∈ tT := tm (i := 20) rfl rfl
set_option maxRecDepth 20000 in
theorem tw_21 : (Cond.selects "RuleKernelsModel" ⟨"RuleKernelsModel", "wake", "(I)V"⟩ ⟨"RuleKernelsModel", "wake", "(I)V"⟩) ∈ tT := tm (i := 21) rfl rfl
set_option maxRecDepth 20000 in
theorem tw_22 : (Cond.selects "RuleKernelsModel" ⟨"RuleKernelsModel", "isSymbol", "(I)Z"⟩ ⟨"RuleKernelsModel", "isSymbol", "(I)Z"⟩) ∈ tT := tm (i := 22) rfl rfl
set_option maxRecDepth 20000 in
theorem tw_23 : (Cond.selects "RuleKernelsModel" ⟨"RuleKernelsModel", "hasPair", "(III)Z"⟩ ⟨"RuleKernelsModel", "hasPair", "(III)Z"⟩) ∈ tT := tm (i := 23) rfl rfl
set_option maxRecDepth 20000 in
theorem tw_24 : (Cond.selects "RuleKernelsModel" ⟨"RuleKernelsModel", "remove", "(III)V"⟩ ⟨"RuleKernelsModel", "remove", "(III)V"⟩) ∈ tT := tm (i := 24) rfl rfl
set_option maxRecDepth 20000 in
theorem tw_25 : (Cond.selects "RuleKernelsModel" ⟨"RuleKernelsModel", "wakeAll", "(II)V"⟩ ⟨"RuleKernelsModel", "wakeAll", "(II)V"⟩) ∈ tT := tm (i := 25) rfl rfl
set_option maxRecDepth 20000 in
theorem tw_26 : (Cond.selects "RuleKernelsModel" ⟨"RuleKernelsModel", "emptyPlace", "()I"⟩ ⟨"RuleKernelsModel", "emptyPlace", "()I"⟩) ∈ tT := tm (i := 26) rfl rfl
set_option maxRecDepth 20000 in
theorem tw_27 : (Cond.selects "RuleKernelsModel" ⟨"RuleKernelsModel", "find", "(I)V"⟩ ⟨"RuleKernelsModel", "find", "(I)V"⟩) ∈ tT := tm (i := 27) rfl rfl
set_option maxRecDepth 20000 in
theorem tw_28 : (Cond.selects "RuleKernelsModel" ⟨"RuleKernelsModel", "unlike", "(I)V"⟩ ⟨"RuleKernelsModel", "unlike", "(I)V"⟩) ∈ tT := tm (i := 28) rfl rfl
set_option maxRecDepth 20000 in
theorem tw_29 : (Cond.selects "RuleKernelsModel" ⟨"RuleKernelsModel", "equal", "(I)V"⟩ ⟨"RuleKernelsModel", "equal", "(I)V"⟩) ∈ tT := tm (i := 29) rfl rfl
set_option maxRecDepth 20000 in
theorem tw_30 : (Cond.selects "RuleKernelsModel" ⟨"RuleKernelsModel", "sum", "(IIZ)V"⟩ ⟨"RuleKernelsModel", "sum", "(IIZ)V"⟩) ∈ tT := tm (i := 30) rfl rfl
set_option maxRecDepth 20000 in
theorem tw_31 : (Cond.selects "RuleKernelsModel" ⟨"RuleKernelsModel", "bound", "(IIZ)J"⟩ ⟨"RuleKernelsModel", "bound", "(IIZ)J"⟩) ∈ tT := tm (i := 31) rfl rfl
set_option maxRecDepth 20000 in
theorem tw_32 : (Cond.selects "RuleKernelsModel" ⟨"RuleKernelsModel", "factorOf", "(II)J"⟩ ⟨"RuleKernelsModel", "factorOf", "(II)J"⟩) ∈ tT := tm (i := 32) rfl rfl
set_option maxRecDepth 20000 in
theorem tw_33 : (Cond.selects "RuleKernelsModel" ⟨"RuleKernelsModel", "count", "(II)V"⟩ ⟨"RuleKernelsModel", "count", "(II)V"⟩) ∈ tT := tm (i := 33) rfl rfl
set_option maxRecDepth 20000 in
theorem tw_34 : (Cond.selects "RuleKernelsModel" ⟨"RuleKernelsModel", "can", "(II)Z"⟩ ⟨"RuleKernelsModel", "can", "(II)Z"⟩) ∈ tT := tm (i := 34) rfl rfl
set_option maxRecDepth 20000 in
theorem tw_35 : (Cond.selects "RuleKernelsModel" ⟨"RuleKernelsModel", "must", "(II)Z"⟩ ⟨"RuleKernelsModel", "must", "(II)Z"⟩) ∈ tT := tm (i := 35) rfl rfl
set_option maxRecDepth 20000 in
theorem tw_36 : (Cond.selects "RuleKernelsModel" ⟨"RuleKernelsModel", "rising", "(I)V"⟩ ⟨"RuleKernelsModel", "rising", "(I)V"⟩) ∈ tT := tm (i := 36) rfl rfl
set_option maxRecDepth 20000 in
theorem tw_37 : (Cond.selects "RuleKernelsModel" ⟨"RuleKernelsModel", "apart", "(I)V"⟩ ⟨"RuleKernelsModel", "apart", "(I)V"⟩) ∈ tT := tm (i := 37) rfl rfl
set_option maxRecDepth 20000 in
theorem tw_38 : (Cond.selects "RuleKernelsModel" ⟨"RuleKernelsModel", "isCandidate", "(IJ)Z"⟩ ⟨"RuleKernelsModel", "isCandidate", "(IJ)Z"⟩) ∈ tT := tm (i := 38) rfl rfl
set_option maxRecDepth 20000 in
theorem tw_39 : (Cond.selects "RuleKernelsModel" ⟨"RuleKernelsModel", "byTable", "(I)V"⟩ ⟨"RuleKernelsModel", "byTable", "(I)V"⟩) ∈ tT := tm (i := 39) rfl rfl
set_option maxRecDepth 20000 in
theorem tw_40 : (Cond.initialized "RuleKernelsLaw") ∈ tT := tm (i := 40) rfl rfl
set_option maxRecDepth 20000 in
theorem tw_41 : (Cond.initialized "RuleKernels") ∈ tT := tm (i := 41) rfl rfl
set_option maxRecDepth 20000 in
theorem tw_42 : (Cond.initialized "java/lang/Math") ∈ tT := tm (i := 42) rfl rfl
set_option maxRecDepth 20000 in
theorem tw_43 : (Cond.initialized "RuleKernels$Board") ∈ tT := tm (i := 43) rfl rfl
set_option maxRecDepth 20000 in
theorem tw_44 : (Cond.initialized "java/util/Arrays") ∈ tT := tm (i := 44) rfl rfl
set_option maxRecDepth 20000 in
theorem tw_45 : (Cond.initialized "RuleKernels$Kernel") ∈ tT := tm (i := 45) rfl rfl
set_option maxRecDepth 20000 in
theorem tw_46 : (Cond.initialized "RuleKernels$Giving") ∈ tT := tm (i := 46) rfl rfl
set_option maxRecDepth 20000 in
theorem tw_47 : (Cond.initialized "RuleKernels$Row") ∈ tT := tm (i := 47) rfl rfl
set_option maxRecDepth 20000 in
theorem tw_48 : (Cond.initialized "RuleKernels$Told") ∈ tT := tm (i := 48) rfl rfl
set_option maxRecDepth 20000 in
theorem tw_49 : (Cond.initialized "RuleKernelsModel") ∈ tT := tm (i := 49) rfl rfl
set_option maxRecDepth 20000 in
theorem tw_50 : (Cond.initialized "RuleKernels$Rule") ∈ tT := tm (i := 50) rfl rfl
set_option maxRecDepth 20000 in
theorem tw_51 : (Cond.initialized "java/lang/System") ∈ tT := tm (i := 51) rfl rfl
set_option maxRecDepth 20000 in
theorem tw_52 : (Cond.initialized "java/lang/Long") ∈ tT := tm (i := 52) rfl rfl
set_option maxRecDepth 20000 in
theorem tw_53 : (Cond.initialized "java/lang/Integer") ∈ tT := tm (i := 53) rfl rfl
set_option maxRecDepth 20000 in
theorem tw_54 : (Cond.initialized "RuleKernels$Mark") ∈ tT := tm (i := 54) rfl rfl
set_option maxRecDepth 20000 in
theorem tw_55 : (Cond.classLink "RuleKernelsLaw" 7 "RuleKernels") ∈ tT := tm (i := 55) rfl rfl
set_option maxRecDepth 20000 in
theorem tw_56 : (Cond.instantiable "RuleKernels" 10) ∈ tT := tm (i := 56) rfl rfl
set_option maxRecDepth 20000 in
theorem tw_57 : (Cond.methodLink "RuleKernelsLaw" 15 ⟨"RuleKernels", "<init>", "(II)V"⟩) ∈ tT := tm (i := 57) rfl rfl
set_option maxRecDepth 20000 in
theorem tw_58 : (Cond.instanceMethod ⟨"RuleKernels", "<init>", "(II)V"⟩) ∈ tT := tm (i := 58) rfl rfl
set_option maxRecDepth 20000 in
theorem tw_60 : (Cond.methodLink "RuleKernels" 3 ⟨"java/lang/Object", "<init>", "()V"⟩) ∈ tT := tm (i := 60) rfl rfl
set_option maxRecDepth 20000 in
theorem tw_61 : (Cond.instanceMethod ⟨"java/lang/Object", "<init>", "()V"⟩) ∈ tT := tm (i := 61) rfl rfl
set_option maxRecDepth 20000 in
theorem tw_63 : (Cond.methodLink "RuleKernels" 9 ⟨"java/lang/Math", "min", "(II)I"⟩) ∈ tT := tm (i := 63) rfl rfl
set_option maxRecDepth 20000 in
theorem tw_64 : (Cond.static ⟨"java/lang/Math", "min", "(II)I"⟩) ∈ tT := tm (i := 64) rfl rfl
set_option maxRecDepth 20000 in
theorem tw_66 : (Cond.methodLink "RuleKernels" 15 ⟨"java/lang/Math", "max", "(II)I"⟩) ∈ tT := tm (i := 66) rfl rfl
set_option maxRecDepth 20000 in
theorem tw_67 : (Cond.static ⟨"java/lang/Math", "max", "(II)I"⟩) ∈ tT := tm (i := 67) rfl rfl
set_option maxRecDepth 20000 in
theorem tw_69 : (Cond.classLink "RuleKernels" 18 "RuleKernels$Board") ∈ tT := tm (i := 69) rfl rfl
set_option maxRecDepth 20000 in
theorem tw_70 : (Cond.instantiable "RuleKernels$Board" 6) ∈ tT := tm (i := 70) rfl rfl
set_option maxRecDepth 20000 in
theorem tw_71 : (Cond.methodLink "RuleKernels" 20 ⟨"RuleKernels$Board", "<init>", "(II)V"⟩) ∈ tT := tm (i := 71) rfl rfl
set_option maxRecDepth 20000 in
theorem tw_72 : (Cond.instanceMethod ⟨"RuleKernels$Board", "<init>", "(II)V"⟩) ∈ tT := tm (i := 72) rfl rfl
set_option maxRecDepth 20000 in
theorem tw_74 : (Cond.methodLink "RuleKernels$Board" 3 ⟨"java/lang/Object", "<init>", "()V"⟩) ∈ tT := tm (i := 74) rfl rfl
set_option maxRecDepth 20000 in
theorem tw_75 : (Cond.methodLink "RuleKernels$Board" 19 ⟨"java/util/Arrays", "fill", "([JJ)V"⟩) ∈ tT := tm (i := 75) rfl rfl
set_option maxRecDepth 20000 in
theorem tw_76 : (Cond.static ⟨"java/util/Arrays", "fill", "([JJ)V"⟩) ∈ tT := tm (i := 76) rfl rfl
set_option maxRecDepth 20000 in
theorem tw_78 : (Cond.fieldLink "RuleKernels$Board" 9 "RuleKernels$Board" "symbolCount" "I") ∈ tT := tm (i := 78) rfl rfl
set_option maxRecDepth 20000 in
theorem tw_79 : (Cond.fieldLink "RuleKernels" 80 "RuleKernels$Board" "symbolCount" "I") ∈ tT := tm (i := 79) rfl rfl
set_option maxRecDepth 20000 in
theorem tw_80 : (Cond.fieldLink "RuleKernels$Board" 15 "RuleKernels$Board" "candidates" "[J") ∈ tT := tm (i := 80) rfl rfl
set_option maxRecDepth 20000 in
theorem tw_81 : (Cond.fieldLink "RuleKernels" 139 "RuleKernels$Board" "candidates" "[J") ∈ tT := tm (i := 81) rfl rfl
set_option maxRecDepth 20000 in
theorem tw_82 : (Cond.fieldLink "RuleKernels$Board" 25 "RuleKernels$Board" "reasons" "[I") ∈ tT := tm (i := 82) rfl rfl
set_option maxRecDepth 20000 in
theorem tw_83 : (Cond.fieldLink "RuleKernels$Board" 29 "RuleKernels$Board" "trail" "[I") ∈ tT := tm (i := 83) rfl rfl
set_option maxRecDepth 20000 in
theorem tw_84 : (Cond.fieldLink "RuleKernels$Board" 32 "RuleKernels$Board" "gone" "I") ∈ tT := tm (i := 84) rfl rfl
set_option maxRecDepth 20000 in
theorem tw_85 : (Cond.fieldLink "RuleKernels" 151 "RuleKernels$Board" "gone" "I") ∈ tT := tm (i := 85) rfl rfl
set_option maxRecDepth 20000 in
theorem tw_86 : (Cond.fieldLink "RuleKernels$Board" 35 "RuleKernels$Board" "emptyPlaces" "I") ∈ tT := tm (i := 86) rfl rfl
set_option maxRecDepth 20000 in
theorem tw_87 : (Cond.fieldLink "RuleKernels" 129 "RuleKernels$Board" "emptyPlaces" "I") ∈ tT := tm (i := 87) rfl rfl
set_option maxRecDepth 20000 in
theorem tw_88 : (Cond.laysFinal "RuleKernels$Board" "RuleKernels$Board" "symbolCount" "I") ∈ tT := tm (i := 88) rfl rfl
set_option maxRecDepth 20000 in
theorem tw_89 : (Cond.soleField "RuleKernels$Board" "symbolCount") ∈ tT := tm (i := 89) rfl rfl
set_option maxRecDepth 20000 in
theorem tw_90 : (Cond.laysFinal "RuleKernels$Board" "RuleKernels$Board" "candidates" "[J") ∈ tT := tm (i := 90) rfl rfl
set_option maxRecDepth 20000 in
theorem tw_91 : (Cond.soleField "RuleKernels$Board" "candidates") ∈ tT := tm (i := 91) rfl rfl
set_option maxRecDepth 20000 in
theorem tw_92 : (Cond.laysFinal "RuleKernels$Board" "RuleKernels$Board" "reasons" "[I") ∈ tT := tm (i := 92) rfl rfl
set_option maxRecDepth 20000 in
theorem tw_93 : (Cond.soleField "RuleKernels$Board" "reasons") ∈ tT := tm (i := 93) rfl rfl
set_option maxRecDepth 20000 in
theorem tw_94 : (Cond.laysFinal "RuleKernels$Board" "RuleKernels$Board" "trail" "[I") ∈ tT := tm (i := 94) rfl rfl
set_option maxRecDepth 20000 in
theorem tw_95 : (Cond.soleField "RuleKernels$Board" "trail") ∈ tT := tm (i := 95) rfl rfl
set_option maxRecDepth 20000 in
theorem tw_96 : (Cond.lays "RuleKernels$Board" "RuleKernels$Board" "gone" "I") ∈ tT := tm (i := 96) rfl rfl
set_option maxRecDepth 20000 in
theorem tw_97 : (Cond.soleField "RuleKernels$Board" "gone") ∈ tT := tm (i := 97) rfl rfl
set_option maxRecDepth 20000 in
theorem tw_98 : (Cond.lays "RuleKernels$Board" "RuleKernels$Board" "emptyPlaces" "I") ∈ tT := tm (i := 98) rfl rfl
set_option maxRecDepth 20000 in
theorem tw_99 : (Cond.soleField "RuleKernels$Board" "emptyPlaces") ∈ tT := tm (i := 99) rfl rfl
set_option maxRecDepth 20000 in
theorem tw_100 : (Cond.superclass "RuleKernels$Board" "java/lang/Object") ∈ tT := tm (i := 100) rfl rfl
set_option maxRecDepth 20000 in
theorem tw_101 : (Cond.arrayClass FieldType.long) ∈ tT := tm (i := 101) rfl rfl
set_option maxRecDepth 20000 in
theorem tw_102 : (Cond.arrayClass FieldType.int) ∈ tT := tm (i := 102) rfl rfl
set_option maxRecDepth 20000 in
theorem tw_103 : (Cond.classLink "RuleKernels" 27 "RuleKernels$Rule") ∈ tT := tm (i := 103) rfl rfl
set_option maxRecDepth 20000 in
theorem tw_105 : (Cond.classLink "RuleKernels" 40 "RuleKernels$Kernel") ∈ tT := tm (i := 105) rfl rfl
set_option maxRecDepth 20000 in
theorem tw_106 : (Cond.instantiable "RuleKernels$Kernel" 4) ∈ tT := tm (i := 106) rfl rfl
set_option maxRecDepth 20000 in
theorem tw_107 : (Cond.methodLink "RuleKernels" 42 ⟨"RuleKernels$Kernel", "<init>", "(I)V"⟩) ∈ tT := tm (i := 107) rfl rfl
set_option maxRecDepth 20000 in
theorem tw_108 : (Cond.instanceMethod ⟨"RuleKernels$Kernel", "<init>", "(I)V"⟩) ∈ tT := tm (i := 108) rfl rfl
set_option maxRecDepth 20000 in
theorem tw_110 : (Cond.methodLink "RuleKernels$Kernel" 3 ⟨"java/lang/Object", "<init>", "()V"⟩) ∈ tT := tm (i := 110) rfl rfl
set_option maxRecDepth 20000 in
theorem tw_111 : (Cond.classLink "RuleKernels$Kernel" 22 "RuleKernels$Giving") ∈ tT := tm (i := 111) rfl rfl
set_option maxRecDepth 20000 in
theorem tw_112 : (Cond.instantiable "RuleKernels$Giving" 6) ∈ tT := tm (i := 112) rfl rfl
set_option maxRecDepth 20000 in
theorem tw_113 : (Cond.methodLink "RuleKernels$Kernel" 24 ⟨"RuleKernels$Giving", "<init>", "()V"⟩) ∈ tT := tm (i := 113) rfl rfl
set_option maxRecDepth 20000 in
theorem tw_114 : (Cond.instanceMethod ⟨"RuleKernels$Giving", "<init>", "()V"⟩) ∈ tT := tm (i := 114) rfl rfl
set_option maxRecDepth 20000 in
theorem tw_116 : (Cond.methodLink "RuleKernels$Giving" 3 ⟨"java/lang/Object", "<init>", "()V"⟩) ∈ tT := tm (i := 116) rfl rfl
set_option maxRecDepth 20000 in
theorem tw_117 : (Cond.fieldLink "RuleKernels$Giving" 9 "RuleKernels$Giving" "given" "[I") ∈ tT := tm (i := 117) rfl rfl
set_option maxRecDepth 20000 in
theorem tw_118 : (Cond.fieldLink "RuleKernels$Giving" 15 "RuleKernels$Giving" "askedBy" "[I") ∈ tT := tm (i := 118) rfl rfl
set_option maxRecDepth 20000 in
theorem tw_119 : (Cond.fieldLink "RuleKernels$Giving" 18 "RuleKernels$Giving" "line" "[I") ∈ tT := tm (i := 119) rfl rfl
set_option maxRecDepth 20000 in
theorem tw_120 : (Cond.fieldLink "RuleKernels$Giving" 21 "RuleKernels$Giving" "reach" "[I") ∈ tT := tm (i := 120) rfl rfl
set_option maxRecDepth 20000 in
theorem tw_121 : (Cond.fieldLink "RuleKernels$Giving" 24 "RuleKernels$Giving" "used" "J") ∈ tT := tm (i := 121) rfl rfl
set_option maxRecDepth 20000 in
theorem tw_122 : (Cond.fieldLink "RuleKernels$Giving" 28 "RuleKernels$Giving" "movable" "I") ∈ tT := tm (i := 122) rfl rfl
set_option maxRecDepth 20000 in
theorem tw_123 : (Cond.laysFinal "RuleKernels$Giving" "RuleKernels$Giving" "given" "[I") ∈ tT := tm (i := 123) rfl rfl
set_option maxRecDepth 20000 in
theorem tw_124 : (Cond.soleField "RuleKernels$Giving" "given") ∈ tT := tm (i := 124) rfl rfl
set_option maxRecDepth 20000 in
theorem tw_125 : (Cond.laysFinal "RuleKernels$Giving" "RuleKernels$Giving" "askedBy" "[I") ∈ tT := tm (i := 125) rfl rfl
set_option maxRecDepth 20000 in
theorem tw_126 : (Cond.soleField "RuleKernels$Giving" "askedBy") ∈ tT := tm (i := 126) rfl rfl
set_option maxRecDepth 20000 in
theorem tw_127 : (Cond.laysFinal "RuleKernels$Giving" "RuleKernels$Giving" "line" "[I") ∈ tT := tm (i := 127) rfl rfl
set_option maxRecDepth 20000 in
theorem tw_128 : (Cond.soleField "RuleKernels$Giving" "line") ∈ tT := tm (i := 128) rfl rfl
set_option maxRecDepth 20000 in
theorem tw_129 : (Cond.laysFinal "RuleKernels$Giving" "RuleKernels$Giving" "reach" "[I") ∈ tT := tm (i := 129) rfl rfl
set_option maxRecDepth 20000 in
theorem tw_130 : (Cond.soleField "RuleKernels$Giving" "reach") ∈ tT := tm (i := 130) rfl rfl
set_option maxRecDepth 20000 in
theorem tw_131 : (Cond.lays "RuleKernels$Giving" "RuleKernels$Giving" "used" "J") ∈ tT := tm (i := 131) rfl rfl
set_option maxRecDepth 20000 in
theorem tw_132 : (Cond.soleField "RuleKernels$Giving" "used") ∈ tT := tm (i := 132) rfl rfl
set_option maxRecDepth 20000 in
theorem tw_133 : (Cond.lays "RuleKernels$Giving" "RuleKernels$Giving" "movable" "I") ∈ tT := tm (i := 133) rfl rfl
set_option maxRecDepth 20000 in
theorem tw_134 : (Cond.soleField "RuleKernels$Giving" "movable") ∈ tT := tm (i := 134) rfl rfl
set_option maxRecDepth 20000 in
theorem tw_135 : (Cond.superclass "RuleKernels$Giving" "java/lang/Object") ∈ tT := tm (i := 135) rfl rfl
set_option maxRecDepth 20000 in
theorem tw_136 : (Cond.fieldLink "RuleKernels$Kernel" 15 "RuleKernels$Kernel" "have" "[J") ∈ tT := tm (i := 136) rfl rfl
set_option maxRecDepth 20000 in
theorem tw_137 : (Cond.fieldLink "RuleKernels" 179 "RuleKernels$Kernel" "have" "[J") ∈ tT := tm (i := 137) rfl rfl
set_option maxRecDepth 20000 in
theorem tw_138 : (Cond.fieldLink "RuleKernels$Kernel" 19 "RuleKernels$Kernel" "keep" "[J") ∈ tT := tm (i := 138) rfl rfl
set_option maxRecDepth 20000 in
theorem tw_139 : (Cond.fieldLink "RuleKernels" 186 "RuleKernels$Kernel" "keep" "[J") ∈ tT := tm (i := 139) rfl rfl
set_option maxRecDepth 20000 in
theorem tw_140 : (Cond.fieldLink "RuleKernels$Kernel" 9 "RuleKernels$Kernel" "symbolCount" "I") ∈ tT := tm (i := 140) rfl rfl
set_option maxRecDepth 20000 in
theorem tw_141 : (Cond.fieldLink "RuleKernels$Kernel" 25 "RuleKernels$Kernel" "giving" "LRuleKernels$Giving;") ∈ tT := tm (i := 141) rfl rfl
set_option maxRecDepth 20000 in
theorem tw_142 : (Cond.laysFinal "RuleKernels$Kernel" "RuleKernels$Kernel" "have" "[J") ∈ tT := tm (i := 142) rfl rfl
set_option maxRecDepth 20000 in
theorem tw_143 : (Cond.soleField "RuleKernels$Kernel" "have") ∈ tT := tm (i := 143) rfl rfl
set_option maxRecDepth 20000 in
theorem tw_144 : (Cond.laysFinal "RuleKernels$Kernel" "RuleKernels$Kernel" "keep" "[J") ∈ tT := tm (i := 144) rfl rfl
set_option maxRecDepth 20000 in
theorem tw_145 : (Cond.soleField "RuleKernels$Kernel" "keep") ∈ tT := tm (i := 145) rfl rfl
set_option maxRecDepth 20000 in
theorem tw_146 : (Cond.laysFinal "RuleKernels$Kernel" "RuleKernels$Kernel" "symbolCount" "I") ∈ tT := tm (i := 146) rfl rfl
set_option maxRecDepth 20000 in
theorem tw_147 : (Cond.soleField "RuleKernels$Kernel" "symbolCount") ∈ tT := tm (i := 147) rfl rfl
set_option maxRecDepth 20000 in
theorem tw_148 : (Cond.laysFinal "RuleKernels$Kernel" "RuleKernels$Kernel" "giving" "LRuleKernels$Giving;") ∈ tT := tm (i := 148) rfl rfl
set_option maxRecDepth 20000 in
theorem tw_149 : (Cond.soleField "RuleKernels$Kernel" "giving") ∈ tT := tm (i := 149) rfl rfl
set_option maxRecDepth 20000 in
theorem tw_150 : (Cond.superclass "RuleKernels$Kernel" "java/lang/Object") ∈ tT := tm (i := 150) rfl rfl
set_option maxRecDepth 20000 in
theorem tw_151 : (Cond.classLink "RuleKernels" 49 "RuleKernels$Row") ∈ tT := tm (i := 151) rfl rfl
set_option maxRecDepth 20000 in
theorem tw_152 : (Cond.instantiable "RuleKernels$Row" 4) ∈ tT := tm (i := 152) rfl rfl
set_option maxRecDepth 20000 in
theorem tw_153 : (Cond.methodLink "RuleKernels" 51 ⟨"RuleKernels$Row", "<init>", "()V"⟩) ∈ tT := tm (i := 153) rfl rfl
set_option maxRecDepth 20000 in
theorem tw_154 : (Cond.instanceMethod ⟨"RuleKernels$Row", "<init>", "()V"⟩) ∈ tT := tm (i := 154) rfl rfl
set_option maxRecDepth 20000 in
theorem tw_156 : (Cond.methodLink "RuleKernels$Row" 3 ⟨"java/lang/Object", "<init>", "()V"⟩) ∈ tT := tm (i := 156) rfl rfl
set_option maxRecDepth 20000 in
theorem tw_157 : (Cond.fieldLink "RuleKernels$Row" 9 "RuleKernels$Row" "ring" "[I") ∈ tT := tm (i := 157) rfl rfl
set_option maxRecDepth 20000 in
theorem tw_158 : (Cond.fieldLink "RuleKernels$Row" 15 "RuleKernels$Row" "waits" "[Z") ∈ tT := tm (i := 158) rfl rfl
set_option maxRecDepth 20000 in
theorem tw_159 : (Cond.fieldLink "RuleKernels$Row" 19 "RuleKernels$Row" "head" "I") ∈ tT := tm (i := 159) rfl rfl
set_option maxRecDepth 20000 in
theorem tw_160 : (Cond.fieldLink "RuleKernels$Row" 23 "RuleKernels$Row" "size" "I") ∈ tT := tm (i := 160) rfl rfl
set_option maxRecDepth 20000 in
theorem tw_161 : (Cond.fieldLink "RuleKernels" 126 "RuleKernels$Row" "size" "I") ∈ tT := tm (i := 161) rfl rfl
set_option maxRecDepth 20000 in
theorem tw_162 : (Cond.laysFinal "RuleKernels$Row" "RuleKernels$Row" "ring" "[I") ∈ tT := tm (i := 162) rfl rfl
set_option maxRecDepth 20000 in
theorem tw_163 : (Cond.soleField "RuleKernels$Row" "ring") ∈ tT := tm (i := 163) rfl rfl
set_option maxRecDepth 20000 in
theorem tw_164 : (Cond.laysFinal "RuleKernels$Row" "RuleKernels$Row" "waits" "[Z") ∈ tT := tm (i := 164) rfl rfl
set_option maxRecDepth 20000 in
theorem tw_165 : (Cond.soleField "RuleKernels$Row" "waits") ∈ tT := tm (i := 165) rfl rfl
set_option maxRecDepth 20000 in
theorem tw_166 : (Cond.lays "RuleKernels$Row" "RuleKernels$Row" "head" "I") ∈ tT := tm (i := 166) rfl rfl
set_option maxRecDepth 20000 in
theorem tw_167 : (Cond.soleField "RuleKernels$Row" "head") ∈ tT := tm (i := 167) rfl rfl
set_option maxRecDepth 20000 in
theorem tw_168 : (Cond.lays "RuleKernels$Row" "RuleKernels$Row" "size" "I") ∈ tT := tm (i := 168) rfl rfl
set_option maxRecDepth 20000 in
theorem tw_169 : (Cond.soleField "RuleKernels$Row" "size") ∈ tT := tm (i := 169) rfl rfl
set_option maxRecDepth 20000 in
theorem tw_170 : (Cond.superclass "RuleKernels$Row" "java/lang/Object") ∈ tT := tm (i := 170) rfl rfl
set_option maxRecDepth 20000 in
theorem tw_171 : (Cond.arrayClass FieldType.boolean) ∈ tT := tm (i := 171) rfl rfl
set_option maxRecDepth 20000 in
theorem tw_172 : (Cond.classLink "RuleKernels" 56 "RuleKernels$Told") ∈ tT := tm (i := 172) rfl rfl
set_option maxRecDepth 20000 in
theorem tw_173 : (Cond.instantiable "RuleKernels$Told" 2) ∈ tT := tm (i := 173) rfl rfl
set_option maxRecDepth 20000 in
theorem tw_174 : (Cond.methodLink "RuleKernels" 58 ⟨"RuleKernels$Told", "<init>", "()V"⟩) ∈ tT := tm (i := 174) rfl rfl
set_option maxRecDepth 20000 in
theorem tw_175 : (Cond.instanceMethod ⟨"RuleKernels$Told", "<init>", "()V"⟩) ∈ tT := tm (i := 175) rfl rfl
set_option maxRecDepth 20000 in
theorem tw_177 : (Cond.methodLink "RuleKernels$Told" 3 ⟨"java/lang/Object", "<init>", "()V"⟩) ∈ tT := tm (i := 177) rfl rfl
set_option maxRecDepth 20000 in
theorem tw_178 : (Cond.fieldLink "RuleKernels$Told" 9 "RuleKernels$Told" "numbers" "[I") ∈ tT := tm (i := 178) rfl rfl
set_option maxRecDepth 20000 in
theorem tw_179 : (Cond.fieldLink "RuleKernels$Told" 15 "RuleKernels$Told" "count" "I") ∈ tT := tm (i := 179) rfl rfl
set_option maxRecDepth 20000 in
theorem tw_180 : (Cond.fieldLink "RuleKernels" 167 "RuleKernels$Told" "count" "I") ∈ tT := tm (i := 180) rfl rfl
set_option maxRecDepth 20000 in
theorem tw_181 : (Cond.laysFinal "RuleKernels$Told" "RuleKernels$Told" "numbers" "[I") ∈ tT := tm (i := 181) rfl rfl
set_option maxRecDepth 20000 in
theorem tw_182 : (Cond.soleField "RuleKernels$Told" "numbers") ∈ tT := tm (i := 182) rfl rfl
set_option maxRecDepth 20000 in
theorem tw_183 : (Cond.lays "RuleKernels$Told" "RuleKernels$Told" "count" "I") ∈ tT := tm (i := 183) rfl rfl
set_option maxRecDepth 20000 in
theorem tw_184 : (Cond.soleField "RuleKernels$Told" "count") ∈ tT := tm (i := 184) rfl rfl
set_option maxRecDepth 20000 in
theorem tw_185 : (Cond.superclass "RuleKernels$Told" "java/lang/Object") ∈ tT := tm (i := 185) rfl rfl
set_option maxRecDepth 20000 in
theorem tw_186 : (Cond.classLink "RuleKernels" 63 "RuleKernels$Mark") ∈ tT := tm (i := 186) rfl rfl
set_option maxRecDepth 20000 in
theorem tw_188 : (Cond.fieldLink "RuleKernels" 23 "RuleKernels" "board" "LRuleKernels$Board;") ∈ tT := tm (i := 188) rfl rfl
set_option maxRecDepth 20000 in
theorem tw_189 : (Cond.fieldLink "RuleKernels" 29 "RuleKernels" "rules" "[LRuleKernels$Rule;") ∈ tT := tm (i := 189) rfl rfl
set_option maxRecDepth 20000 in
theorem tw_190 : (Cond.fieldLink "RuleKernels" 33 "RuleKernels" "lowerRules" "[J") ∈ tT := tm (i := 190) rfl rfl
set_option maxRecDepth 20000 in
theorem tw_191 : (Cond.fieldLink "RuleKernels" 37 "RuleKernels" "upperRules" "[J") ∈ tT := tm (i := 191) rfl rfl
set_option maxRecDepth 20000 in
theorem tw_192 : (Cond.fieldLink "RuleKernels" 45 "RuleKernels" "kernel" "LRuleKernels$Kernel;") ∈ tT := tm (i := 192) rfl rfl
set_option maxRecDepth 20000 in
theorem tw_193 : (Cond.fieldLink "RuleKernels" 52 "RuleKernels" "row" "LRuleKernels$Row;") ∈ tT := tm (i := 193) rfl rfl
set_option maxRecDepth 20000 in
theorem tw_194 : (Cond.fieldLink "RuleKernels" 59 "RuleKernels" "told" "LRuleKernels$Told;") ∈ tT := tm (i := 194) rfl rfl
set_option maxRecDepth 20000 in
theorem tw_195 : (Cond.fieldLink "RuleKernels" 65 "RuleKernels" "marks" "[LRuleKernels$Mark;") ∈ tT := tm (i := 195) rfl rfl
set_option maxRecDepth 20000 in
theorem tw_196 : (Cond.fieldLink "RuleKernels" 69 "RuleKernels" "ruleCount" "I") ∈ tT := tm (i := 196) rfl rfl
set_option maxRecDepth 20000 in
theorem tw_197 : (Cond.fieldLink "RuleKernels" 73 "RuleKernels" "standing" "I") ∈ tT := tm (i := 197) rfl rfl
set_option maxRecDepth 20000 in
theorem tw_198 : (Cond.laysFinal "RuleKernels" "RuleKernels" "board" "LRuleKernels$Board;") ∈ tT := tm (i := 198) rfl rfl
set_option maxRecDepth 20000 in
theorem tw_199 : (Cond.soleField "RuleKernels" "board") ∈ tT := tm (i := 199) rfl rfl
set_option maxRecDepth 20000 in
theorem tw_200 : (Cond.laysFinal "RuleKernels" "RuleKernels" "rules" "[LRuleKernels$Rule;") ∈ tT := tm (i := 200) rfl rfl
set_option maxRecDepth 20000 in
theorem tw_201 : (Cond.soleField "RuleKernels" "rules") ∈ tT := tm (i := 201) rfl rfl
set_option maxRecDepth 20000 in
theorem tw_202 : (Cond.laysFinal "RuleKernels" "RuleKernels" "lowerRules" "[J") ∈ tT := tm (i := 202) rfl rfl
set_option maxRecDepth 20000 in
theorem tw_203 : (Cond.soleField "RuleKernels" "lowerRules") ∈ tT := tm (i := 203) rfl rfl
set_option maxRecDepth 20000 in
theorem tw_204 : (Cond.laysFinal "RuleKernels" "RuleKernels" "upperRules" "[J") ∈ tT := tm (i := 204) rfl rfl
set_option maxRecDepth 20000 in
theorem tw_205 : (Cond.soleField "RuleKernels" "upperRules") ∈ tT := tm (i := 205) rfl rfl
set_option maxRecDepth 20000 in
theorem tw_206 : (Cond.laysFinal "RuleKernels" "RuleKernels" "kernel" "LRuleKernels$Kernel;") ∈ tT := tm (i := 206) rfl rfl
set_option maxRecDepth 20000 in
theorem tw_207 : (Cond.soleField "RuleKernels" "kernel") ∈ tT := tm (i := 207) rfl rfl
set_option maxRecDepth 20000 in
theorem tw_208 : (Cond.laysFinal "RuleKernels" "RuleKernels" "row" "LRuleKernels$Row;") ∈ tT := tm (i := 208) rfl rfl
set_option maxRecDepth 20000 in
theorem tw_209 : (Cond.soleField "RuleKernels" "row") ∈ tT := tm (i := 209) rfl rfl
set_option maxRecDepth 20000 in
theorem tw_210 : (Cond.laysFinal "RuleKernels" "RuleKernels" "told" "LRuleKernels$Told;") ∈ tT := tm (i := 210) rfl rfl
set_option maxRecDepth 20000 in
theorem tw_211 : (Cond.soleField "RuleKernels" "told") ∈ tT := tm (i := 211) rfl rfl
set_option maxRecDepth 20000 in
theorem tw_212 : (Cond.laysFinal "RuleKernels" "RuleKernels" "marks" "[LRuleKernels$Mark;") ∈ tT := tm (i := 212) rfl rfl
set_option maxRecDepth 20000 in
theorem tw_213 : (Cond.soleField "RuleKernels" "marks") ∈ tT := tm (i := 213) rfl rfl
set_option maxRecDepth 20000 in
theorem tw_214 : (Cond.lays "RuleKernels" "RuleKernels" "ruleCount" "I") ∈ tT := tm (i := 214) rfl rfl
set_option maxRecDepth 20000 in
theorem tw_215 : (Cond.soleField "RuleKernels" "ruleCount") ∈ tT := tm (i := 215) rfl rfl
set_option maxRecDepth 20000 in
theorem tw_216 : (Cond.lays "RuleKernels" "RuleKernels" "standing" "I") ∈ tT := tm (i := 216) rfl rfl
set_option maxRecDepth 20000 in
theorem tw_217 : (Cond.soleField "RuleKernels" "standing") ∈ tT := tm (i := 217) rfl rfl
set_option maxRecDepth 20000 in
theorem tw_218 : (Cond.superclass "RuleKernels" "java/lang/Object") ∈ tT := tm (i := 218) rfl rfl
set_option maxRecDepth 20000 in
theorem tw_219 : (Cond.methodLink "RuleKernelsLaw" 23 ⟨"RuleKernels", "rule", "(IJ)I"⟩) ∈ tT := tm (i := 219) rfl rfl
set_option maxRecDepth 20000 in
theorem tw_220 : (Cond.instanceMethod ⟨"RuleKernels", "rule", "(IJ)I"⟩) ∈ tT := tm (i := 220) rfl rfl
set_option maxRecDepth 20000 in
theorem tw_221 : (Cond.selects "RuleKernels" ⟨"RuleKernels", "rule", "(IJ)I"⟩ ⟨"RuleKernels", "rule", "(IJ)I"⟩) ∈ tT := tm (i := 221) rfl rfl
set_option maxRecDepth 20000 in
theorem tw_223 : (Cond.constantLong "RuleKernels" 76 (-1000000 : Int64)) ∈ tT := tm (i := 223) rfl rfl
set_option maxRecDepth 20000 in
theorem tw_224 : (Cond.constantLong "RuleKernels" 78 (1000000 : Int64)) ∈ tT := tm (i := 224) rfl rfl
set_option maxRecDepth 20000 in
theorem tw_225 : (Cond.instantiable "RuleKernels$Rule" 7) ∈ tT := tm (i := 225) rfl rfl
set_option maxRecDepth 20000 in
theorem tw_226 : (Cond.methodLink "RuleKernels" 83 ⟨"RuleKernels$Rule", "<init>", "(IJI)V"⟩) ∈ tT := tm (i := 226) rfl rfl
set_option maxRecDepth 20000 in
theorem tw_227 : (Cond.instanceMethod ⟨"RuleKernels$Rule", "<init>", "(IJI)V"⟩) ∈ tT := tm (i := 227) rfl rfl
set_option maxRecDepth 20000 in
theorem tw_229 : (Cond.methodLink "RuleKernels$Rule" 3 ⟨"java/lang/Object", "<init>", "()V"⟩) ∈ tT := tm (i := 229) rfl rfl
set_option maxRecDepth 20000 in
theorem tw_230 : (Cond.fieldLink "RuleKernels$Rule" 9 "RuleKernels$Rule" "kind" "I") ∈ tT := tm (i := 230) rfl rfl
set_option maxRecDepth 20000 in
theorem tw_231 : (Cond.fieldLink "RuleKernels$Kernel" 40 "RuleKernels$Rule" "kind" "I") ∈ tT := tm (i := 231) rfl rfl
set_option maxRecDepth 20000 in
theorem tw_232 : (Cond.fieldLink "RuleKernels$Rule" 15 "RuleKernels$Rule" "right" "J") ∈ tT := tm (i := 232) rfl rfl
set_option maxRecDepth 20000 in
theorem tw_233 : (Cond.fieldLink "RuleKernels$Kernel" 100 "RuleKernels$Rule" "right" "J") ∈ tT := tm (i := 233) rfl rfl
set_option maxRecDepth 20000 in
theorem tw_234 : (Cond.fieldLink "RuleKernels$Rule" 19 "RuleKernels$Rule" "places" "[I") ∈ tT := tm (i := 234) rfl rfl
set_option maxRecDepth 20000 in
theorem tw_235 : (Cond.fieldLink "RuleKernels" 146 "RuleKernels$Rule" "places" "[I") ∈ tT := tm (i := 235) rfl rfl
set_option maxRecDepth 20000 in
theorem tw_236 : (Cond.fieldLink "RuleKernels$Rule" 23 "RuleKernels$Rule" "factors" "[I") ∈ tT := tm (i := 236) rfl rfl
set_option maxRecDepth 20000 in
theorem tw_237 : (Cond.fieldLink "RuleKernels$Kernel" 89 "RuleKernels$Rule" "factors" "[I") ∈ tT := tm (i := 237) rfl rfl
set_option maxRecDepth 20000 in
theorem tw_238 : (Cond.fieldLink "RuleKernels$Rule" 26 "RuleKernels$Rule" "partners" "[J") ∈ tT := tm (i := 238) rfl rfl
set_option maxRecDepth 20000 in
theorem tw_239 : (Cond.fieldLink "RuleKernels$Kernel" 132 "RuleKernels$Rule" "partners" "[J") ∈ tT := tm (i := 239) rfl rfl
set_option maxRecDepth 20000 in
theorem tw_240 : (Cond.fieldLink "RuleKernels$Rule" 30 "RuleKernels$Rule" "size" "I") ∈ tT := tm (i := 240) rfl rfl
set_option maxRecDepth 20000 in
theorem tw_241 : (Cond.fieldLink "RuleKernels$Kernel" 35 "RuleKernels$Rule" "size" "I") ∈ tT := tm (i := 241) rfl rfl
set_option maxRecDepth 20000 in
theorem tw_242 : (Cond.fieldLink "RuleKernels" 145 "RuleKernels$Rule" "size" "I") ∈ tT := tm (i := 242) rfl rfl
set_option maxRecDepth 20000 in
theorem tw_243 : (Cond.fieldLink "RuleKernels$Rule" 33 "RuleKernels$Rule" "pairs" "I") ∈ tT := tm (i := 243) rfl rfl
set_option maxRecDepth 20000 in
theorem tw_244 : (Cond.laysFinal "RuleKernels$Rule" "RuleKernels$Rule" "kind" "I") ∈ tT := tm (i := 244) rfl rfl
set_option maxRecDepth 20000 in
theorem tw_245 : (Cond.soleField "RuleKernels$Rule" "kind") ∈ tT := tm (i := 245) rfl rfl
set_option maxRecDepth 20000 in
theorem tw_246 : (Cond.laysFinal "RuleKernels$Rule" "RuleKernels$Rule" "right" "J") ∈ tT := tm (i := 246) rfl rfl
set_option maxRecDepth 20000 in
theorem tw_247 : (Cond.soleField "RuleKernels$Rule" "right") ∈ tT := tm (i := 247) rfl rfl
set_option maxRecDepth 20000 in
theorem tw_248 : (Cond.laysFinal "RuleKernels$Rule" "RuleKernels$Rule" "places" "[I") ∈ tT := tm (i := 248) rfl rfl
set_option maxRecDepth 20000 in
theorem tw_249 : (Cond.soleField "RuleKernels$Rule" "places") ∈ tT := tm (i := 249) rfl rfl
set_option maxRecDepth 20000 in
theorem tw_250 : (Cond.laysFinal "RuleKernels$Rule" "RuleKernels$Rule" "factors" "[I") ∈ tT := tm (i := 250) rfl rfl
set_option maxRecDepth 20000 in
theorem tw_251 : (Cond.soleField "RuleKernels$Rule" "factors") ∈ tT := tm (i := 251) rfl rfl
set_option maxRecDepth 20000 in
theorem tw_252 : (Cond.laysFinal "RuleKernels$Rule" "RuleKernels$Rule" "partners" "[J") ∈ tT := tm (i := 252) rfl rfl
set_option maxRecDepth 20000 in
theorem tw_253 : (Cond.soleField "RuleKernels$Rule" "partners") ∈ tT := tm (i := 253) rfl rfl
set_option maxRecDepth 20000 in
theorem tw_254 : (Cond.lays "RuleKernels$Rule" "RuleKernels$Rule" "size" "I") ∈ tT := tm (i := 254) rfl rfl
set_option maxRecDepth 20000 in
theorem tw_255 : (Cond.soleField "RuleKernels$Rule" "size") ∈ tT := tm (i := 255) rfl rfl
set_option maxRecDepth 20000 in
theorem tw_256 : (Cond.lays "RuleKernels$Rule" "RuleKernels$Rule" "pairs" "I") ∈ tT := tm (i := 256) rfl rfl
set_option maxRecDepth 20000 in
theorem tw_257 : (Cond.soleField "RuleKernels$Rule" "pairs") ∈ tT := tm (i := 257) rfl rfl
set_option maxRecDepth 20000 in
theorem tw_258 : (Cond.superclass "RuleKernels$Rule" "java/lang/Object") ∈ tT := tm (i := 258) rfl rfl
set_option maxRecDepth 20000 in
theorem tw_259 : (Cond.methodLink "RuleKernelsLaw" 28 ⟨"RuleKernels", "into", "(IIJ)Z"⟩) ∈ tT := tm (i := 259) rfl rfl
set_option maxRecDepth 20000 in
theorem tw_260 : (Cond.instanceMethod ⟨"RuleKernels", "into", "(IIJ)Z"⟩) ∈ tT := tm (i := 260) rfl rfl
set_option maxRecDepth 20000 in
theorem tw_261 : (Cond.selects "RuleKernels" ⟨"RuleKernels", "into", "(IIJ)Z"⟩ ⟨"RuleKernels", "into", "(IIJ)Z"⟩) ∈ tT := tm (i := 261) rfl rfl
set_option maxRecDepth 20000 in
theorem tw_263 : (Cond.methodLink "RuleKernels" 86 ⟨"RuleKernels", "ruleAt", "(I)LRuleKernels$Rule;"⟩) ∈ tT := tm (i := 263) rfl rfl
set_option maxRecDepth 20000 in
theorem tw_265 : (Cond.instanceMethod ⟨"RuleKernels", "ruleAt", "(I)LRuleKernels$Rule;"⟩) ∈ tT := tm (i := 265) rfl rfl
set_option maxRecDepth 20000 in
theorem tw_267 : (Cond.methodLink "RuleKernels" 90 ⟨"RuleKernels$Board", "hasPlace", "(I)Z"⟩) ∈ tT := tm (i := 267) rfl rfl
set_option maxRecDepth 20000 in
theorem tw_268 : (Cond.instanceMethod ⟨"RuleKernels$Board", "hasPlace", "(I)Z"⟩) ∈ tT := tm (i := 268) rfl rfl
set_option maxRecDepth 20000 in
theorem tw_269 : (Cond.selects "RuleKernels$Board" ⟨"RuleKernels$Board", "hasPlace", "(I)Z"⟩ ⟨"RuleKernels$Board", "hasPlace", "(I)Z"⟩) ∈ tT := tm (i := 269) rfl rfl
set_option maxRecDepth 20000 in
theorem tw_271 : (Cond.constantLong "RuleKernels" 94 (-1000 : Int64)) ∈ tT := tm (i := 271) rfl rfl
set_option maxRecDepth 20000 in
theorem tw_272 : (Cond.constantLong "RuleKernels" 96 (1000 : Int64)) ∈ tT := tm (i := 272) rfl rfl
set_option maxRecDepth 20000 in
theorem tw_273 : (Cond.methodLink "RuleKernels" 98 ⟨"RuleKernels$Rule", "addPlace", "(II)Z"⟩) ∈ tT := tm (i := 273) rfl rfl
set_option maxRecDepth 20000 in
theorem tw_274 : (Cond.instanceMethod ⟨"RuleKernels$Rule", "addPlace", "(II)Z"⟩) ∈ tT := tm (i := 274) rfl rfl
set_option maxRecDepth 20000 in
theorem tw_275 : (Cond.selects "RuleKernels$Rule" ⟨"RuleKernels$Rule", "addPlace", "(II)Z"⟩ ⟨"RuleKernels$Rule", "addPlace", "(II)Z"⟩) ∈ tT := tm (i := 275) rfl rfl
set_option maxRecDepth 20000 in
theorem tw_277 : (Cond.methodLink "RuleKernels$Rule" 36 ⟨"RuleKernels$Rule", "holds", "(I)Z"⟩) ∈ tT := tm (i := 277) rfl rfl
set_option maxRecDepth 20000 in
theorem tw_279 : (Cond.instanceMethod ⟨"RuleKernels$Rule", "holds", "(I)Z"⟩) ∈ tT := tm (i := 279) rfl rfl
set_option maxRecDepth 20000 in
theorem tw_281 : (Cond.methodLink "RuleKernels" 102 ⟨"RuleKernels", "noteRuleOfPlace", "(II)V"⟩) ∈ tT := tm (i := 281) rfl rfl
set_option maxRecDepth 20000 in
theorem tw_283 : (Cond.instanceMethod ⟨"RuleKernels", "noteRuleOfPlace", "(II)V"⟩) ∈ tT := tm (i := 283) rfl rfl
set_option maxRecDepth 20000 in
theorem tw_285 : (Cond.methodLink "RuleKernels" 105 ⟨"RuleKernels$Row", "join", "(I)V"⟩) ∈ tT := tm (i := 285) rfl rfl
set_option maxRecDepth 20000 in
theorem tw_286 : (Cond.instanceMethod ⟨"RuleKernels$Row", "join", "(I)V"⟩) ∈ tT := tm (i := 286) rfl rfl
set_option maxRecDepth 20000 in
theorem tw_287 : (Cond.selects "RuleKernels$Row" ⟨"RuleKernels$Row", "join", "(I)V"⟩ ⟨"RuleKernels$Row", "join", "(I)V"⟩) ∈ tT := tm (i := 287) rfl rfl
set_option maxRecDepth 20000 in
theorem tw_289 : (Cond.methodLink "RuleKernelsLaw" 33 ⟨"RuleKernels", "table", "(III)Z"⟩) ∈ tT := tm (i := 289) rfl rfl
set_option maxRecDepth 20000 in
theorem tw_290 : (Cond.instanceMethod ⟨"RuleKernels", "table", "(III)Z"⟩) ∈ tT := tm (i := 290) rfl rfl
set_option maxRecDepth 20000 in
theorem tw_291 : (Cond.selects "RuleKernels" ⟨"RuleKernels", "table", "(III)Z"⟩ ⟨"RuleKernels", "table", "(III)Z"⟩) ∈ tT := tm (i := 291) rfl rfl
set_option maxRecDepth 20000 in
theorem tw_293 : (Cond.methodLink "RuleKernels" 108 ⟨"RuleKernels$Board", "hasSymbol", "(I)Z"⟩) ∈ tT := tm (i := 293) rfl rfl
set_option maxRecDepth 20000 in
theorem tw_294 : (Cond.instanceMethod ⟨"RuleKernels$Board", "hasSymbol", "(I)Z"⟩) ∈ tT := tm (i := 294) rfl rfl
set_option maxRecDepth 20000 in
theorem tw_295 : (Cond.selects "RuleKernels$Board" ⟨"RuleKernels$Board", "hasSymbol", "(I)Z"⟩ ⟨"RuleKernels$Board", "hasSymbol", "(I)Z"⟩) ∈ tT := tm (i := 295) rfl rfl
set_option maxRecDepth 20000 in
theorem tw_297 : (Cond.methodLink "RuleKernels" 111 ⟨"RuleKernels$Rule", "addPair", "(II)Z"⟩) ∈ tT := tm (i := 297) rfl rfl
set_option maxRecDepth 20000 in
theorem tw_298 : (Cond.instanceMethod ⟨"RuleKernels$Rule", "addPair", "(II)Z"⟩) ∈ tT := tm (i := 298) rfl rfl
set_option maxRecDepth 20000 in
theorem tw_299 : (Cond.selects "RuleKernels$Rule" ⟨"RuleKernels$Rule", "addPair", "(II)Z"⟩ ⟨"RuleKernels$Rule", "addPair", "(II)Z"⟩) ∈ tT := tm (i := 299) rfl rfl
set_option maxRecDepth 20000 in
theorem tw_302 : (Cond.static ⟨"RuleKernels", "has", "(JI)Z"⟩) ∈ tT := tm (i := 302) rfl rfl
set_option maxRecDepth 20000 in
theorem tw_304 : (Cond.methodLink "RuleKernelsLaw" 38 ⟨"RuleKernels", "take", "(II)Z"⟩) ∈ tT := tm (i := 304) rfl rfl
set_option maxRecDepth 20000 in
theorem tw_305 : (Cond.instanceMethod ⟨"RuleKernels", "take", "(II)Z"⟩) ∈ tT := tm (i := 305) rfl rfl
set_option maxRecDepth 20000 in
theorem tw_306 : (Cond.selects "RuleKernels" ⟨"RuleKernels", "take", "(II)Z"⟩ ⟨"RuleKernels", "take", "(II)Z"⟩) ∈ tT := tm (i := 306) rfl rfl
set_option maxRecDepth 20000 in
theorem tw_308 : (Cond.methodLink "RuleKernels" 114 ⟨"RuleKernels$Board", "isCandidate", "(II)Z"⟩) ∈ tT := tm (i := 308) rfl rfl
set_option maxRecDepth 20000 in
theorem tw_309 : (Cond.instanceMethod ⟨"RuleKernels$Board", "isCandidate", "(II)Z"⟩) ∈ tT := tm (i := 309) rfl rfl
set_option maxRecDepth 20000 in
theorem tw_310 : (Cond.selects "RuleKernels$Board" ⟨"RuleKernels$Board", "isCandidate", "(II)Z"⟩ ⟨"RuleKernels$Board", "isCandidate", "(II)Z"⟩) ∈ tT := tm (i := 310) rfl rfl
set_option maxRecDepth 20000 in
theorem tw_312 : (Cond.methodLink "RuleKernels$Board" 38 ⟨"RuleKernels$Board", "hasPlace", "(I)Z"⟩) ∈ tT := tm (i := 312) rfl rfl
set_option maxRecDepth 20000 in
theorem tw_313 : (Cond.methodLink "RuleKernels$Board" 42 ⟨"RuleKernels$Board", "hasSymbol", "(I)Z"⟩) ∈ tT := tm (i := 313) rfl rfl
set_option maxRecDepth 20000 in
theorem tw_315 : (Cond.methodLink "RuleKernels" 117 ⟨"RuleKernels", "removeAndWake", "(IJI)V"⟩) ∈ tT := tm (i := 315) rfl rfl
set_option maxRecDepth 20000 in
theorem tw_317 : (Cond.instanceMethod ⟨"RuleKernels", "removeAndWake", "(IJI)V"⟩) ∈ tT := tm (i := 317) rfl rfl
set_option maxRecDepth 20000 in
theorem tw_319 : (Cond.methodLink "RuleKernels" 189 ⟨"RuleKernels$Board", "remove", "(IJI)Z"⟩) ∈ tT := tm (i := 319) rfl rfl
set_option maxRecDepth 20000 in
theorem tw_320 : (Cond.instanceMethod ⟨"RuleKernels$Board", "remove", "(IJI)Z"⟩) ∈ tT := tm (i := 320) rfl rfl
set_option maxRecDepth 20000 in
theorem tw_321 : (Cond.selects "RuleKernels$Board" ⟨"RuleKernels$Board", "remove", "(IJI)Z"⟩ ⟨"RuleKernels$Board", "remove", "(IJI)Z"⟩) ∈ tT := tm (i := 321) rfl rfl
set_option maxRecDepth 20000 in
theorem tw_323 : (Cond.constantLong "RuleKernels$Board" 49 (-1 : Int64)) ∈ tT := tm (i := 323) rfl rfl
set_option maxRecDepth 20000 in
theorem tw_324 : (Cond.methodLink "RuleKernels" 193 ⟨"RuleKernels", "wake", "(JII)V"⟩) ∈ tT := tm (i := 324) rfl rfl
set_option maxRecDepth 20000 in
theorem tw_326 : (Cond.instanceMethod ⟨"RuleKernels", "wake", "(JII)V"⟩) ∈ tT := tm (i := 326) rfl rfl
set_option maxRecDepth 20000 in
theorem tw_328 : (Cond.methodLink "RuleKernels" 197 ⟨"RuleKernels", "has", "(JI)Z"⟩) ∈ tT := tm (i := 328) rfl rfl
set_option maxRecDepth 20000 in
theorem tw_329 : (Cond.methodLink "RuleKernelsLaw" 43 ⟨"RuleKernels", "set", "(II)Z"⟩) ∈ tT := tm (i := 329) rfl rfl
set_option maxRecDepth 20000 in
theorem tw_330 : (Cond.instanceMethod ⟨"RuleKernels", "set", "(II)Z"⟩) ∈ tT := tm (i := 330) rfl rfl
set_option maxRecDepth 20000 in
theorem tw_331 : (Cond.selects "RuleKernels" ⟨"RuleKernels", "set", "(II)Z"⟩ ⟨"RuleKernels", "set", "(II)Z"⟩) ∈ tT := tm (i := 331) rfl rfl
set_option maxRecDepth 20000 in
theorem tw_333 : (Cond.constantLong "RuleKernels" 120 (-1 : Int64)) ∈ tT := tm (i := 333) rfl rfl
set_option maxRecDepth 20000 in
theorem tw_334 : (Cond.methodLink "RuleKernelsLaw" 47 ⟨"RuleKernels", "run", "()I"⟩) ∈ tT := tm (i := 334) rfl rfl
set_option maxRecDepth 20000 in
theorem tw_335 : (Cond.instanceMethod ⟨"RuleKernels", "run", "()I"⟩) ∈ tT := tm (i := 335) rfl rfl
set_option maxRecDepth 20000 in
theorem tw_336 : (Cond.selects "RuleKernels" ⟨"RuleKernels", "run", "()I"⟩ ⟨"RuleKernels", "run", "()I"⟩) ∈ tT := tm (i := 336) rfl rfl
set_option maxRecDepth 20000 in
theorem tw_338 : (Cond.methodLink "RuleKernels" 122 ⟨"RuleKernels$Told", "clear", "()V"⟩) ∈ tT := tm (i := 338) rfl rfl
set_option maxRecDepth 20000 in
theorem tw_339 : (Cond.instanceMethod ⟨"RuleKernels$Told", "clear", "()V"⟩) ∈ tT := tm (i := 339) rfl rfl
set_option maxRecDepth 20000 in
theorem tw_340 : (Cond.selects "RuleKernels$Told" ⟨"RuleKernels$Told", "clear", "()V"⟩ ⟨"RuleKernels$Told", "clear", "()V"⟩) ∈ tT := tm (i := 340) rfl rfl
set_option maxRecDepth 20000 in
theorem tw_342 : (Cond.constant "RuleKernels" 125 (1000000 : Int32)) ∈ tT := tm (i := 342) rfl rfl
set_option maxRecDepth 20000 in
theorem tw_343 : (Cond.methodLink "RuleKernels" 132 ⟨"RuleKernels", "runFirst", "()V"⟩) ∈ tT := tm (i := 343) rfl rfl
set_option maxRecDepth 20000 in
theorem tw_345 : (Cond.instanceMethod ⟨"RuleKernels", "runFirst", "()V"⟩) ∈ tT := tm (i := 345) rfl rfl
set_option maxRecDepth 20000 in
theorem tw_347 : (Cond.methodLink "RuleKernels" 173 ⟨"RuleKernels$Row", "leave", "()I"⟩) ∈ tT := tm (i := 347) rfl rfl
set_option maxRecDepth 20000 in
theorem tw_348 : (Cond.instanceMethod ⟨"RuleKernels$Row", "leave", "()I"⟩) ∈ tT := tm (i := 348) rfl rfl
set_option maxRecDepth 20000 in
theorem tw_349 : (Cond.selects "RuleKernels$Row" ⟨"RuleKernels$Row", "leave", "()I"⟩ ⟨"RuleKernels$Row", "leave", "()I"⟩) ∈ tT := tm (i := 349) rfl rfl
set_option maxRecDepth 20000 in
theorem tw_351 : (Cond.methodLink "RuleKernels" 176 ⟨"RuleKernels$Told", "add", "(I)V"⟩) ∈ tT := tm (i := 351) rfl rfl
set_option maxRecDepth 20000 in
theorem tw_352 : (Cond.instanceMethod ⟨"RuleKernels$Told", "add", "(I)V"⟩) ∈ tT := tm (i := 352) rfl rfl
set_option maxRecDepth 20000 in
theorem tw_353 : (Cond.selects "RuleKernels$Told" ⟨"RuleKernels$Told", "add", "(I)V"⟩ ⟨"RuleKernels$Told", "add", "(I)V"⟩) ∈ tT := tm (i := 353) rfl rfl
set_option maxRecDepth 20000 in
theorem tw_355 : (Cond.methodLink "RuleKernels" 182 ⟨"RuleKernels$Kernel", "decide", "(LRuleKernels$Rule;)V"⟩) ∈ tT := tm (i := 355) rfl rfl
set_option maxRecDepth 20000 in
theorem tw_356 : (Cond.instanceMethod ⟨"RuleKernels$Kernel", "decide", "(LRuleKernels$Rule;)V"⟩) ∈ tT := tm (i := 356) rfl rfl
set_option maxRecDepth 20000 in
theorem tw_357 : (Cond.selects "RuleKernels$Kernel" ⟨"RuleKernels$Kernel", "decide", "(LRuleKernels$Rule;)V"⟩ ⟨"RuleKernels$Kernel", "decide", "(LRuleKernels$Rule;)V"⟩) ∈ tT := tm (i := 357) rfl rfl
set_option maxRecDepth 20000 in
theorem tw_359 : (Cond.methodLink "RuleKernels$Kernel" 29 ⟨"java/lang/System", "arraycopy", "(Ljava/lang/Object;ILjava/lang/Object;II)V"⟩) ∈ tT := tm (i := 359) rfl rfl
set_option maxRecDepth 20000 in
theorem tw_360 : (Cond.static ⟨"java/lang/System", "arraycopy", "(Ljava/lang/Object;ILjava/lang/Object;II)V"⟩) ∈ tT := tm (i := 360) rfl rfl
set_option maxRecDepth 20000 in
theorem tw_361 : (Cond.native ⟨"java/lang/System", "arraycopy", "(Ljava/lang/Object;ILjava/lang/Object;II)V"⟩) ∈ tT := tm (i := 361) rfl rfl
set_option maxRecDepth 20000 in
theorem tw_362 : (Cond.methodLink "RuleKernels$Kernel" 43 ⟨"RuleKernels$Kernel", "keepUnlike", "(I)V"⟩) ∈ tT := tm (i := 362) rfl rfl
set_option maxRecDepth 20000 in
theorem tw_364 : (Cond.instanceMethod ⟨"RuleKernels$Kernel", "keepUnlike", "(I)V"⟩) ∈ tT := tm (i := 364) rfl rfl
set_option maxRecDepth 20000 in
theorem tw_366 : (Cond.methodLink "RuleKernels$Kernel" 72 ⟨"RuleKernels$Giving", "giveAll", "([JI)Z"⟩) ∈ tT := tm (i := 366) rfl rfl
set_option maxRecDepth 20000 in
theorem tw_367 : (Cond.instanceMethod ⟨"RuleKernels$Giving", "giveAll", "([JI)Z"⟩) ∈ tT := tm (i := 367) rfl rfl
set_option maxRecDepth 20000 in
theorem tw_368 : (Cond.selects "RuleKernels$Giving" ⟨"RuleKernels$Giving", "giveAll", "([JI)Z"⟩ ⟨"RuleKernels$Giving", "giveAll", "([JI)Z"⟩) ∈ tT := tm (i := 368) rfl rfl
set_option maxRecDepth 20000 in
theorem tw_370 : (Cond.methodLink "RuleKernels$Giving" 32 ⟨"RuleKernels$Giving", "give", "([JI)Z"⟩) ∈ tT := tm (i := 370) rfl rfl
set_option maxRecDepth 20000 in
theorem tw_372 : (Cond.instanceMethod ⟨"RuleKernels$Giving", "give", "([JI)Z"⟩) ∈ tT := tm (i := 372) rfl rfl
set_option maxRecDepth 20000 in
theorem tw_374 : (Cond.constantLong "RuleKernels$Giving" 36 (-1 : Int64)) ∈ tT := tm (i := 374) rfl rfl
set_option maxRecDepth 20000 in
theorem tw_375 : (Cond.methodLink "RuleKernels$Giving" 38 ⟨"java/lang/Long", "numberOfTrailingZeros", "(J)I"⟩) ∈ tT := tm (i := 375) rfl rfl
set_option maxRecDepth 20000 in
theorem tw_376 : (Cond.static ⟨"java/lang/Long", "numberOfTrailingZeros", "(J)I"⟩) ∈ tT := tm (i := 376) rfl rfl
set_option maxRecDepth 20000 in
theorem tw_378 : (Cond.methodLink "java/lang/Long" 311 ⟨"java/lang/Integer", "numberOfTrailingZeros", "(I)I"⟩) ∈ tT := tm (i := 378) rfl rfl
set_option maxRecDepth 20000 in
theorem tw_379 : (Cond.static ⟨"java/lang/Integer", "numberOfTrailingZeros", "(I)I"⟩) ∈ tT := tm (i := 379) rfl rfl
set_option maxRecDepth 20000 in
theorem tw_381 : (Cond.constant "java/lang/Integer" 264 (65536 : Int32)) ∈ tT := tm (i := 381) rfl rfl
set_option maxRecDepth 20000 in
theorem tw_382 : (Cond.methodLink "RuleKernels$Giving" 44 ⟨"RuleKernels$Giving", "moveOn", "(III)V"⟩) ∈ tT := tm (i := 382) rfl rfl
set_option maxRecDepth 20000 in
theorem tw_384 : (Cond.instanceMethod ⟨"RuleKernels$Giving", "moveOn", "(III)V"⟩) ∈ tT := tm (i := 384) rfl rfl
set_option maxRecDepth 20000 in
theorem tw_387 : (Cond.methodLink "RuleKernels$Kernel" 76 ⟨"RuleKernels$Kernel", "keepNothing", "()V"⟩) ∈ tT := tm (i := 387) rfl rfl
set_option maxRecDepth 20000 in
theorem tw_389 : (Cond.instanceMethod ⟨"RuleKernels$Kernel", "keepNothing", "()V"⟩) ∈ tT := tm (i := 389) rfl rfl
set_option maxRecDepth 20000 in
theorem tw_391 : (Cond.methodLink "RuleKernels$Kernel" 66 ⟨"java/util/Arrays", "fill", "([JJ)V"⟩) ∈ tT := tm (i := 391) rfl rfl
set_option maxRecDepth 20000 in
theorem tw_392 : (Cond.methodLink "RuleKernels$Kernel" 79 ⟨"RuleKernels$Giving", "findReach", "([JI)V"⟩) ∈ tT := tm (i := 392) rfl rfl
set_option maxRecDepth 20000 in
theorem tw_393 : (Cond.instanceMethod ⟨"RuleKernels$Giving", "findReach", "([JI)V"⟩) ∈ tT := tm (i := 393) rfl rfl
set_option maxRecDepth 20000 in
theorem tw_394 : (Cond.selects "RuleKernels$Giving" ⟨"RuleKernels$Giving", "findReach", "([JI)V"⟩ ⟨"RuleKernels$Giving", "findReach", "([JI)V"⟩) ∈ tT := tm (i := 394) rfl rfl
set_option maxRecDepth 20000 in
theorem tw_396 : (Cond.methodLink "RuleKernels$Kernel" 83 ⟨"RuleKernels$Giving", "possible", "(JII)J"⟩) ∈ tT := tm (i := 396) rfl rfl
set_option maxRecDepth 20000 in
theorem tw_397 : (Cond.instanceMethod ⟨"RuleKernels$Giving", "possible", "(JII)J"⟩) ∈ tT := tm (i := 397) rfl rfl
set_option maxRecDepth 20000 in
theorem tw_398 : (Cond.selects "RuleKernels$Giving" ⟨"RuleKernels$Giving", "possible", "(JII)J"⟩ ⟨"RuleKernels$Giving", "possible", "(JII)J"⟩) ∈ tT := tm (i := 398) rfl rfl
set_option maxRecDepth 20000 in
theorem tw_400 : (Cond.methodLink "RuleKernels$Kernel" 47 ⟨"RuleKernels$Kernel", "keepEqual", "(I)V"⟩) ∈ tT := tm (i := 400) rfl rfl
set_option maxRecDepth 20000 in
theorem tw_402 : (Cond.instanceMethod ⟨"RuleKernels$Kernel", "keepEqual", "(I)V"⟩) ∈ tT := tm (i := 402) rfl rfl
set_option maxRecDepth 20000 in
theorem tw_404 : (Cond.constantLong "RuleKernels$Kernel" 87 (-1 : Int64)) ∈ tT := tm (i := 404) rfl rfl
set_option maxRecDepth 20000 in
theorem tw_405 : (Cond.methodLink "RuleKernels$Kernel" 50 ⟨"RuleKernels$Kernel", "keepSum", "(LRuleKernels$Rule;)V"⟩) ∈ tT := tm (i := 405) rfl rfl
set_option maxRecDepth 20000 in
theorem tw_407 : (Cond.instanceMethod ⟨"RuleKernels$Kernel", "keepSum", "(LRuleKernels$Rule;)V"⟩) ∈ tT := tm (i := 407) rfl rfl
set_option maxRecDepth 20000 in
theorem tw_409 : (Cond.methodLink "RuleKernels$Kernel" 93 ⟨"RuleKernels$Kernel", "leastOf", "(IJ)J"⟩) ∈ tT := tm (i := 409) rfl rfl
set_option maxRecDepth 20000 in
theorem tw_410 : (Cond.static ⟨"RuleKernels$Kernel", "leastOf", "(IJ)J"⟩) ∈ tT := tm (i := 410) rfl rfl
set_option maxRecDepth 20000 in
theorem tw_412 : (Cond.methodLink "RuleKernels$Kernel" 108 ⟨"RuleKernels$Kernel", "lowestOf", "(J)I"⟩) ∈ tT := tm (i := 412) rfl rfl
set_option maxRecDepth 20000 in
theorem tw_413 : (Cond.static ⟨"RuleKernels$Kernel", "lowestOf", "(J)I"⟩) ∈ tT := tm (i := 413) rfl rfl
set_option maxRecDepth 20000 in
theorem tw_415 : (Cond.methodLink "RuleKernels$Kernel" 135 ⟨"java/lang/Long", "numberOfTrailingZeros", "(J)I"⟩) ∈ tT := tm (i := 415) rfl rfl
set_option maxRecDepth 20000 in
theorem tw_416 : (Cond.methodLink "RuleKernels$Kernel" 112 ⟨"RuleKernels$Kernel", "highestOf", "(J)I"⟩) ∈ tT := tm (i := 416) rfl rfl
set_option maxRecDepth 20000 in
theorem tw_417 : (Cond.static ⟨"RuleKernels$Kernel", "highestOf", "(J)I"⟩) ∈ tT := tm (i := 417) rfl rfl
set_option maxRecDepth 20000 in
theorem tw_419 : (Cond.methodLink "RuleKernels$Kernel" 140 ⟨"java/lang/Long", "numberOfLeadingZeros", "(J)I"⟩) ∈ tT := tm (i := 419) rfl rfl
set_option maxRecDepth 20000 in
theorem tw_420 : (Cond.static ⟨"java/lang/Long", "numberOfLeadingZeros", "(J)I"⟩) ∈ tT := tm (i := 420) rfl rfl
set_option maxRecDepth 20000 in
theorem tw_422 : (Cond.methodLink "java/lang/Long" 308 ⟨"java/lang/Integer", "numberOfLeadingZeros", "(I)I"⟩) ∈ tT := tm (i := 422) rfl rfl
set_option maxRecDepth 20000 in
theorem tw_423 : (Cond.static ⟨"java/lang/Integer", "numberOfLeadingZeros", "(I)I"⟩) ∈ tT := tm (i := 423) rfl rfl
set_option maxRecDepth 20000 in
theorem tw_425 : (Cond.methodLink "RuleKernels$Kernel" 97 ⟨"RuleKernels$Kernel", "mostOf", "(IJ)J"⟩) ∈ tT := tm (i := 425) rfl rfl
set_option maxRecDepth 20000 in
theorem tw_426 : (Cond.static ⟨"RuleKernels$Kernel", "mostOf", "(IJ)J"⟩) ∈ tT := tm (i := 426) rfl rfl
set_option maxRecDepth 20000 in
theorem tw_428 : (Cond.methodLink "RuleKernels$Kernel" 104 ⟨"RuleKernels$Kernel", "within", "(JIJJ)J"⟩) ∈ tT := tm (i := 428) rfl rfl
set_option maxRecDepth 20000 in
theorem tw_430 : (Cond.instanceMethod ⟨"RuleKernels$Kernel", "within", "(JIJJ)J"⟩) ∈ tT := tm (i := 430) rfl rfl
set_option maxRecDepth 20000 in
theorem tw_433 : (Cond.methodLink "RuleKernels$Kernel" 54 ⟨"RuleKernels$Kernel", "keepCount", "(LRuleKernels$Rule;)V"⟩) ∈ tT := tm (i := 433) rfl rfl
set_option maxRecDepth 20000 in
theorem tw_435 : (Cond.instanceMethod ⟨"RuleKernels$Kernel", "keepCount", "(LRuleKernels$Rule;)V"⟩) ∈ tT := tm (i := 435) rfl rfl
set_option maxRecDepth 20000 in
theorem tw_437 : (Cond.methodLink "RuleKernels$Kernel" 119 ⟨"RuleKernels$Kernel", "bitOf", "(I)J"⟩) ∈ tT := tm (i := 437) rfl rfl
set_option maxRecDepth 20000 in
theorem tw_439 : (Cond.instanceMethod ⟨"RuleKernels$Kernel", "bitOf", "(I)J"⟩) ∈ tT := tm (i := 439) rfl rfl
set_option maxRecDepth 20000 in
theorem tw_441 : (Cond.methodLink "RuleKernels$Kernel" 57 ⟨"RuleKernels$Kernel", "keepRising", "(I)V"⟩) ∈ tT := tm (i := 441) rfl rfl
set_option maxRecDepth 20000 in
theorem tw_443 : (Cond.instanceMethod ⟨"RuleKernels$Kernel", "keepRising", "(I)V"⟩) ∈ tT := tm (i := 443) rfl rfl
set_option maxRecDepth 20000 in
theorem tw_445 : (Cond.methodLink "RuleKernels$Kernel" 123 ⟨"RuleKernels$Kernel", "below", "(I)J"⟩) ∈ tT := tm (i := 445) rfl rfl
set_option maxRecDepth 20000 in
theorem tw_446 : (Cond.static ⟨"RuleKernels$Kernel", "below", "(I)J"⟩) ∈ tT := tm (i := 446) rfl rfl
set_option maxRecDepth 20000 in
theorem tw_448 : (Cond.methodLink "RuleKernels$Kernel" 60 ⟨"RuleKernels$Kernel", "keepApart", "(LRuleKernels$Rule;)V"⟩) ∈ tT := tm (i := 448) rfl rfl
set_option maxRecDepth 20000 in
theorem tw_450 : (Cond.instanceMethod ⟨"RuleKernels$Kernel", "keepApart", "(LRuleKernels$Rule;)V"⟩) ∈ tT := tm (i := 450) rfl rfl
set_option maxRecDepth 20000 in
theorem tw_452 : (Cond.methodLink "RuleKernels$Kernel" 126 ⟨"java/lang/Math", "abs", "(J)J"⟩) ∈ tT := tm (i := 452) rfl rfl
set_option maxRecDepth 20000 in
theorem tw_453 : (Cond.static ⟨"java/lang/Math", "abs", "(J)J"⟩) ∈ tT := tm (i := 453) rfl rfl
set_option maxRecDepth 20000 in
theorem tw_455 : (Cond.methodLink "RuleKernels$Kernel" 63 ⟨"RuleKernels$Kernel", "keepTable", "(LRuleKernels$Rule;)V"⟩) ∈ tT := tm (i := 455) rfl rfl
set_option maxRecDepth 20000 in
theorem tw_457 : (Cond.instanceMethod ⟨"RuleKernels$Kernel", "keepTable", "(LRuleKernels$Rule;)V"⟩) ∈ tT := tm (i := 457) rfl rfl
set_option maxRecDepth 20000 in
theorem tw_459 : (Cond.methodLink "RuleKernels" 135 ⟨"RuleKernels$Board", "leastEmptyPlace", "()I"⟩) ∈ tT := tm (i := 459) rfl rfl
set_option maxRecDepth 20000 in
theorem tw_460 : (Cond.instanceMethod ⟨"RuleKernels$Board", "leastEmptyPlace", "()I"⟩) ∈ tT := tm (i := 460) rfl rfl
set_option maxRecDepth 20000 in
theorem tw_461 : (Cond.selects "RuleKernels$Board" ⟨"RuleKernels$Board", "leastEmptyPlace", "()I"⟩ ⟨"RuleKernels$Board", "leastEmptyPlace", "()I"⟩) ∈ tT := tm (i := 461) rfl rfl
set_option maxRecDepth 20000 in
theorem tw_463 : (Cond.methodLink "RuleKernelsLaw" 52 ⟨"RuleKernels", "candidates", "(I)J"⟩) ∈ tT := tm (i := 463) rfl rfl
set_option maxRecDepth 20000 in
theorem tw_464 : (Cond.instanceMethod ⟨"RuleKernels", "candidates", "(I)J"⟩) ∈ tT := tm (i := 464) rfl rfl
set_option maxRecDepth 20000 in
theorem tw_465 : (Cond.selects "RuleKernels" ⟨"RuleKernels", "candidates", "(I)J"⟩ ⟨"RuleKernels", "candidates", "(I)J"⟩) ∈ tT := tm (i := 465) rfl rfl
set_option maxRecDepth 20000 in
theorem tw_467 : (Cond.methodLink "RuleKernelsLaw" 57 ⟨"RuleKernels", "reason", "(III)I"⟩) ∈ tT := tm (i := 467) rfl rfl
set_option maxRecDepth 20000 in
theorem tw_468 : (Cond.instanceMethod ⟨"RuleKernels", "reason", "(III)I"⟩) ∈ tT := tm (i := 468) rfl rfl
set_option maxRecDepth 20000 in
theorem tw_469 : (Cond.selects "RuleKernels" ⟨"RuleKernels", "reason", "(III)I"⟩ ⟨"RuleKernels", "reason", "(III)I"⟩) ∈ tT := tm (i := 469) rfl rfl
set_option maxRecDepth 20000 in
theorem tw_471 : (Cond.methodLink "RuleKernels" 142 ⟨"RuleKernels$Board", "reasonFor", "(II)I"⟩) ∈ tT := tm (i := 471) rfl rfl
set_option maxRecDepth 20000 in
theorem tw_472 : (Cond.instanceMethod ⟨"RuleKernels$Board", "reasonFor", "(II)I"⟩) ∈ tT := tm (i := 472) rfl rfl
set_option maxRecDepth 20000 in
theorem tw_473 : (Cond.selects "RuleKernels$Board" ⟨"RuleKernels$Board", "reasonFor", "(II)I"⟩ ⟨"RuleKernels$Board", "reasonFor", "(II)I"⟩) ∈ tT := tm (i := 473) rfl rfl
set_option maxRecDepth 20000 in
theorem tw_475 : (Cond.methodLink "RuleKernelsLaw" 62 ⟨"RuleKernels", "mark", "()I"⟩) ∈ tT := tm (i := 475) rfl rfl
set_option maxRecDepth 20000 in
theorem tw_476 : (Cond.instanceMethod ⟨"RuleKernels", "mark", "()I"⟩) ∈ tT := tm (i := 476) rfl rfl
set_option maxRecDepth 20000 in
theorem tw_477 : (Cond.selects "RuleKernels" ⟨"RuleKernels", "mark", "()I"⟩ ⟨"RuleKernels", "mark", "()I"⟩) ∈ tT := tm (i := 477) rfl rfl
set_option maxRecDepth 20000 in
theorem tw_479 : (Cond.instantiable "RuleKernels$Mark" 3) ∈ tT := tm (i := 479) rfl rfl
set_option maxRecDepth 20000 in
theorem tw_480 : (Cond.methodLink "RuleKernels" 150 ⟨"RuleKernels$Mark", "<init>", "()V"⟩) ∈ tT := tm (i := 480) rfl rfl
set_option maxRecDepth 20000 in
theorem tw_481 : (Cond.instanceMethod ⟨"RuleKernels$Mark", "<init>", "()V"⟩) ∈ tT := tm (i := 481) rfl rfl
set_option maxRecDepth 20000 in
theorem tw_483 : (Cond.methodLink "RuleKernels$Mark" 1 ⟨"java/lang/Object", "<init>", "()V"⟩) ∈ tT := tm (i := 483) rfl rfl
set_option maxRecDepth 20000 in
theorem tw_484 : (Cond.classLink "RuleKernels$Mark" 13 "RuleKernels$Row") ∈ tT := tm (i := 484) rfl rfl
set_option maxRecDepth 20000 in
theorem tw_485 : (Cond.methodLink "RuleKernels$Mark" 15 ⟨"RuleKernels$Row", "<init>", "()V"⟩) ∈ tT := tm (i := 485) rfl rfl
set_option maxRecDepth 20000 in
theorem tw_486 : (Cond.classLink "RuleKernels$Mark" 20 "RuleKernels$Told") ∈ tT := tm (i := 486) rfl rfl
set_option maxRecDepth 20000 in
theorem tw_487 : (Cond.methodLink "RuleKernels$Mark" 22 ⟨"RuleKernels$Told", "<init>", "()V"⟩) ∈ tT := tm (i := 487) rfl rfl
set_option maxRecDepth 20000 in
theorem tw_488 : (Cond.fieldLink "RuleKernels$Mark" 7 "RuleKernels$Mark" "gone" "I") ∈ tT := tm (i := 488) rfl rfl
set_option maxRecDepth 20000 in
theorem tw_489 : (Cond.fieldLink "RuleKernels" 154 "RuleKernels$Mark" "gone" "I") ∈ tT := tm (i := 489) rfl rfl
set_option maxRecDepth 20000 in
theorem tw_490 : (Cond.fieldLink "RuleKernels$Mark" 16 "RuleKernels$Mark" "row" "LRuleKernels$Row;") ∈ tT := tm (i := 490) rfl rfl
set_option maxRecDepth 20000 in
theorem tw_491 : (Cond.fieldLink "RuleKernels" 155 "RuleKernels$Mark" "row" "LRuleKernels$Row;") ∈ tT := tm (i := 491) rfl rfl
set_option maxRecDepth 20000 in
theorem tw_492 : (Cond.fieldLink "RuleKernels$Mark" 23 "RuleKernels$Mark" "told" "LRuleKernels$Told;") ∈ tT := tm (i := 492) rfl rfl
set_option maxRecDepth 20000 in
theorem tw_493 : (Cond.fieldLink "RuleKernels" 160 "RuleKernels$Mark" "told" "LRuleKernels$Told;") ∈ tT := tm (i := 493) rfl rfl
set_option maxRecDepth 20000 in
theorem tw_494 : (Cond.lays "RuleKernels$Mark" "RuleKernels$Mark" "gone" "I") ∈ tT := tm (i := 494) rfl rfl
set_option maxRecDepth 20000 in
theorem tw_495 : (Cond.soleField "RuleKernels$Mark" "gone") ∈ tT := tm (i := 495) rfl rfl
set_option maxRecDepth 20000 in
theorem tw_496 : (Cond.laysFinal "RuleKernels$Mark" "RuleKernels$Mark" "row" "LRuleKernels$Row;") ∈ tT := tm (i := 496) rfl rfl
set_option maxRecDepth 20000 in
theorem tw_497 : (Cond.soleField "RuleKernels$Mark" "row") ∈ tT := tm (i := 497) rfl rfl
set_option maxRecDepth 20000 in
theorem tw_498 : (Cond.laysFinal "RuleKernels$Mark" "RuleKernels$Mark" "told" "LRuleKernels$Told;") ∈ tT := tm (i := 498) rfl rfl
set_option maxRecDepth 20000 in
theorem tw_499 : (Cond.soleField "RuleKernels$Mark" "told") ∈ tT := tm (i := 499) rfl rfl
set_option maxRecDepth 20000 in
theorem tw_500 : (Cond.superclass "RuleKernels$Mark" "java/lang/Object") ∈ tT := tm (i := 500) rfl rfl
set_option maxRecDepth 20000 in
theorem tw_501 : (Cond.methodLink "RuleKernels" 156 ⟨"RuleKernels$Row", "copyFrom", "(LRuleKernels$Row;)V"⟩) ∈ tT := tm (i := 501) rfl rfl
set_option maxRecDepth 20000 in
theorem tw_502 : (Cond.instanceMethod ⟨"RuleKernels$Row", "copyFrom", "(LRuleKernels$Row;)V"⟩) ∈ tT := tm (i := 502) rfl rfl
set_option maxRecDepth 20000 in
theorem tw_503 : (Cond.selects "RuleKernels$Row" ⟨"RuleKernels$Row", "copyFrom", "(LRuleKernels$Row;)V"⟩ ⟨"RuleKernels$Row", "copyFrom", "(LRuleKernels$Row;)V"⟩) ∈ tT := tm (i := 503) rfl rfl
set_option maxRecDepth 20000 in
theorem tw_505 : (Cond.methodLink "RuleKernels" 161 ⟨"RuleKernels$Told", "copyFrom", "(LRuleKernels$Told;)V"⟩) ∈ tT := tm (i := 505) rfl rfl
set_option maxRecDepth 20000 in
theorem tw_506 : (Cond.instanceMethod ⟨"RuleKernels$Told", "copyFrom", "(LRuleKernels$Told;)V"⟩) ∈ tT := tm (i := 506) rfl rfl
set_option maxRecDepth 20000 in
theorem tw_507 : (Cond.selects "RuleKernels$Told" ⟨"RuleKernels$Told", "copyFrom", "(LRuleKernels$Told;)V"⟩ ⟨"RuleKernels$Told", "copyFrom", "(LRuleKernels$Told;)V"⟩) ∈ tT := tm (i := 507) rfl rfl
set_option maxRecDepth 20000 in
theorem tw_509 : (Cond.methodLink "RuleKernels$Told" 19 ⟨"java/lang/Math", "min", "(II)I"⟩) ∈ tT := tm (i := 509) rfl rfl
set_option maxRecDepth 20000 in
theorem tw_510 : (Cond.methodLink "RuleKernels$Told" 25 ⟨"java/lang/System", "arraycopy", "(Ljava/lang/Object;ILjava/lang/Object;II)V"⟩) ∈ tT := tm (i := 510) rfl rfl
set_option maxRecDepth 20000 in
theorem tw_511 : (Cond.methodLink "RuleKernelsLaw" 66 ⟨"RuleKernels", "back", "(I)Z"⟩) ∈ tT := tm (i := 511) rfl rfl
set_option maxRecDepth 20000 in
theorem tw_512 : (Cond.instanceMethod ⟨"RuleKernels", "back", "(I)Z"⟩) ∈ tT := tm (i := 512) rfl rfl
set_option maxRecDepth 20000 in
theorem tw_513 : (Cond.selects "RuleKernels" ⟨"RuleKernels", "back", "(I)Z"⟩ ⟨"RuleKernels", "back", "(I)Z"⟩) ∈ tT := tm (i := 513) rfl rfl
set_option maxRecDepth 20000 in
theorem tw_515 : (Cond.methodLink "RuleKernels" 164 ⟨"RuleKernels$Board", "returnTo", "(I)V"⟩) ∈ tT := tm (i := 515) rfl rfl
set_option maxRecDepth 20000 in
theorem tw_516 : (Cond.instanceMethod ⟨"RuleKernels$Board", "returnTo", "(I)V"⟩) ∈ tT := tm (i := 516) rfl rfl
set_option maxRecDepth 20000 in
theorem tw_517 : (Cond.selects "RuleKernels$Board" ⟨"RuleKernels$Board", "returnTo", "(I)V"⟩ ⟨"RuleKernels$Board", "returnTo", "(I)V"⟩) ∈ tT := tm (i := 517) rfl rfl
set_option maxRecDepth 20000 in
theorem tw_519 : (Cond.methodLink "RuleKernelsLaw" 71 ⟨"RuleKernels", "woken", "()I"⟩) ∈ tT := tm (i := 519) rfl rfl
set_option maxRecDepth 20000 in
theorem tw_520 : (Cond.instanceMethod ⟨"RuleKernels", "woken", "()I"⟩) ∈ tT := tm (i := 520) rfl rfl
set_option maxRecDepth 20000 in
theorem tw_521 : (Cond.selects "RuleKernels" ⟨"RuleKernels", "woken", "()I"⟩ ⟨"RuleKernels", "woken", "()I"⟩) ∈ tT := tm (i := 521) rfl rfl
set_option maxRecDepth 20000 in
theorem tw_523 : (Cond.methodLink "RuleKernelsLaw" 75 ⟨"RuleKernels", "order", "(I)I"⟩) ∈ tT := tm (i := 523) rfl rfl
set_option maxRecDepth 20000 in
theorem tw_524 : (Cond.instanceMethod ⟨"RuleKernels", "order", "(I)I"⟩) ∈ tT := tm (i := 524) rfl rfl
set_option maxRecDepth 20000 in
theorem tw_525 : (Cond.selects "RuleKernels" ⟨"RuleKernels", "order", "(I)I"⟩ ⟨"RuleKernels", "order", "(I)I"⟩) ∈ tT := tm (i := 525) rfl rfl
set_option maxRecDepth 20000 in
theorem tw_527 : (Cond.methodLink "RuleKernels" 170 ⟨"RuleKernels$Told", "ruleAt", "(I)I"⟩) ∈ tT := tm (i := 527) rfl rfl
set_option maxRecDepth 20000 in
theorem tw_528 : (Cond.instanceMethod ⟨"RuleKernels$Told", "ruleAt", "(I)I"⟩) ∈ tT := tm (i := 528) rfl rfl
set_option maxRecDepth 20000 in
theorem tw_529 : (Cond.selects "RuleKernels$Told" ⟨"RuleKernels$Told", "ruleAt", "(I)I"⟩ ⟨"RuleKernels$Told", "ruleAt", "(I)I"⟩) ∈ tT := tm (i := 529) rfl rfl
set_option maxRecDepth 20000 in
theorem tw_531 : (Cond.methodLink "RuleKernelsLaw" 9 ⟨"RuleKernelsLaw", "cell", "([II)I"⟩) ∈ tT := tm (i := 531) rfl rfl
set_option maxRecDepth 20000 in
theorem tw_532 : (Cond.static ⟨"RuleKernelsLaw", "cell", "([II)I"⟩) ∈ tT := tm (i := 532) rfl rfl
set_option maxRecDepth 20000 in
theorem tw_534 : (Cond.classLink "RuleKernelsLaw" 18 "RuleKernelsModel") ∈ tT := tm (i := 534) rfl rfl
set_option maxRecDepth 20000 in
theorem tw_535 : (Cond.instantiable "RuleKernelsModel" 28) ∈ tT := tm (i := 535) rfl rfl
set_option maxRecDepth 20000 in
theorem tw_536 : (Cond.methodLink "RuleKernelsLaw" 20 ⟨"RuleKernelsModel", "<init>", "(II)V"⟩) ∈ tT := tm (i := 536) rfl rfl
set_option maxRecDepth 20000 in
theorem tw_537 : (Cond.instanceMethod ⟨"RuleKernelsModel", "<init>", "(II)V"⟩) ∈ tT := tm (i := 537) rfl rfl
set_option maxRecDepth 20000 in
theorem tw_539 : (Cond.methodLink "RuleKernelsModel" 1 ⟨"java/lang/Object", "<init>", "()V"⟩) ∈ tT := tm (i := 539) rfl rfl
set_option maxRecDepth 20000 in
theorem tw_540 : (Cond.constant "RuleKernelsModel" 35 (48000 : Int32)) ∈ tT := tm (i := 540) rfl rfl
set_option maxRecDepth 20000 in
theorem tw_541 : (Cond.constant "RuleKernelsModel" 51 (153600 : Int32)) ∈ tT := tm (i := 541) rfl rfl
set_option maxRecDepth 20000 in
theorem tw_542 : (Cond.constant "RuleKernelsModel" 73 (65536 : Int32)) ∈ tT := tm (i := 542) rfl rfl
set_option maxRecDepth 20000 in
theorem tw_543 : (Cond.fieldLink "RuleKernelsModel" 84 "RuleKernelsModel" "thrown" "I") ∈ tT := tm (i := 543) rfl rfl
set_option maxRecDepth 20000 in
theorem tw_544 : (Cond.fieldLink "RuleKernelsModel" 77 "RuleKernelsModel" "places" "I") ∈ tT := tm (i := 544) rfl rfl
set_option maxRecDepth 20000 in
theorem tw_545 : (Cond.fieldLink "RuleKernelsModel" 81 "RuleKernelsModel" "symbols" "I") ∈ tT := tm (i := 545) rfl rfl
set_option maxRecDepth 20000 in
theorem tw_546 : (Cond.fieldLink "RuleKernelsModel" 7 "RuleKernelsModel" "candidates" "[J") ∈ tT := tm (i := 546) rfl rfl
set_option maxRecDepth 20000 in
theorem tw_547 : (Cond.fieldLink "RuleKernelsModel" 13 "RuleKernelsModel" "reasons" "[I") ∈ tT := tm (i := 547) rfl rfl
set_option maxRecDepth 20000 in
theorem tw_548 : (Cond.fieldLink "RuleKernelsModel" 87 "RuleKernelsModel" "rules" "I") ∈ tT := tm (i := 548) rfl rfl
set_option maxRecDepth 20000 in
theorem tw_549 : (Cond.fieldLink "RuleKernelsModel" 17 "RuleKernelsModel" "kinds" "[I") ∈ tT := tm (i := 549) rfl rfl
set_option maxRecDepth 20000 in
theorem tw_550 : (Cond.fieldLink "RuleKernelsModel" 20 "RuleKernelsModel" "rights" "[J") ∈ tT := tm (i := 550) rfl rfl
set_option maxRecDepth 20000 in
theorem tw_551 : (Cond.fieldLink "RuleKernelsModel" 23 "RuleKernelsModel" "sizes" "[I") ∈ tT := tm (i := 551) rfl rfl
set_option maxRecDepth 20000 in
theorem tw_552 : (Cond.fieldLink "RuleKernelsModel" 26 "RuleKernelsModel" "members" "[I") ∈ tT := tm (i := 552) rfl rfl
set_option maxRecDepth 20000 in
theorem tw_553 : (Cond.fieldLink "RuleKernelsModel" 29 "RuleKernelsModel" "factors" "[J") ∈ tT := tm (i := 553) rfl rfl
set_option maxRecDepth 20000 in
theorem tw_554 : (Cond.fieldLink "RuleKernelsModel" 32 "RuleKernelsModel" "pairs" "[I") ∈ tT := tm (i := 554) rfl rfl
set_option maxRecDepth 20000 in
theorem tw_555 : (Cond.fieldLink "RuleKernelsModel" 36 "RuleKernelsModel" "firsts" "[I") ∈ tT := tm (i := 555) rfl rfl
set_option maxRecDepth 20000 in
theorem tw_556 : (Cond.fieldLink "RuleKernelsModel" 39 "RuleKernelsModel" "seconds" "[I") ∈ tT := tm (i := 556) rfl rfl
set_option maxRecDepth 20000 in
theorem tw_557 : (Cond.fieldLink "RuleKernelsModel" 101 "RuleKernelsModel" "waits" "I") ∈ tT := tm (i := 557) rfl rfl
set_option maxRecDepth 20000 in
theorem tw_558 : (Cond.fieldLink "RuleKernelsModel" 42 "RuleKernelsModel" "row" "[I") ∈ tT := tm (i := 558) rfl rfl
set_option maxRecDepth 20000 in
theorem tw_559 : (Cond.fieldLink "RuleKernelsModel" 185 "RuleKernelsModel" "woken" "I") ∈ tT := tm (i := 559) rfl rfl
set_option maxRecDepth 20000 in
theorem tw_560 : (Cond.fieldLink "RuleKernelsModel" 45 "RuleKernelsModel" "order" "[I") ∈ tT := tm (i := 560) rfl rfl
set_option maxRecDepth 20000 in
theorem tw_561 : (Cond.fieldLink "RuleKernelsModel" 98 "RuleKernelsModel" "marks" "I") ∈ tT := tm (i := 561) rfl rfl
set_option maxRecDepth 20000 in
theorem tw_562 : (Cond.fieldLink "RuleKernelsModel" 48 "RuleKernelsModel" "keptCandidates" "[J") ∈ tT := tm (i := 562) rfl rfl
set_option maxRecDepth 20000 in
theorem tw_563 : (Cond.fieldLink "RuleKernelsModel" 52 "RuleKernelsModel" "keptReasons" "[I") ∈ tT := tm (i := 563) rfl rfl
set_option maxRecDepth 20000 in
theorem tw_564 : (Cond.fieldLink "RuleKernelsModel" 55 "RuleKernelsModel" "keptWaits" "[I") ∈ tT := tm (i := 564) rfl rfl
set_option maxRecDepth 20000 in
theorem tw_565 : (Cond.fieldLink "RuleKernelsModel" 58 "RuleKernelsModel" "keptRow" "[I") ∈ tT := tm (i := 565) rfl rfl
set_option maxRecDepth 20000 in
theorem tw_566 : (Cond.fieldLink "RuleKernelsModel" 61 "RuleKernelsModel" "keptWoken" "[I") ∈ tT := tm (i := 566) rfl rfl
set_option maxRecDepth 20000 in
theorem tw_567 : (Cond.fieldLink "RuleKernelsModel" 64 "RuleKernelsModel" "keptOrder" "[I") ∈ tT := tm (i := 567) rfl rfl
set_option maxRecDepth 20000 in
theorem tw_568 : (Cond.fieldLink "RuleKernelsModel" 67 "RuleKernelsModel" "had" "[J") ∈ tT := tm (i := 568) rfl rfl
set_option maxRecDepth 20000 in
theorem tw_569 : (Cond.fieldLink "RuleKernelsModel" 70 "RuleKernelsModel" "goes" "[J") ∈ tT := tm (i := 569) rfl rfl
set_option maxRecDepth 20000 in
theorem tw_570 : (Cond.fieldLink "RuleKernelsModel" 74 "RuleKernelsModel" "unions" "[J") ∈ tT := tm (i := 570) rfl rfl
set_option maxRecDepth 20000 in
theorem tw_571 : (Cond.lays "RuleKernelsModel" "RuleKernelsModel" "thrown" "I") ∈ tT := tm (i := 571) rfl rfl
set_option maxRecDepth 20000 in
theorem tw_572 : (Cond.soleField "RuleKernelsModel" "thrown") ∈ tT := tm (i := 572) rfl rfl
set_option maxRecDepth 20000 in
theorem tw_573 : (Cond.laysFinal "RuleKernelsModel" "RuleKernelsModel" "places" "I") ∈ tT := tm (i := 573) rfl rfl
set_option maxRecDepth 20000 in
theorem tw_574 : (Cond.soleField "RuleKernelsModel" "places") ∈ tT := tm (i := 574) rfl rfl
set_option maxRecDepth 20000 in
theorem tw_575 : (Cond.laysFinal "RuleKernelsModel" "RuleKernelsModel" "symbols" "I") ∈ tT := tm (i := 575) rfl rfl
set_option maxRecDepth 20000 in
theorem tw_576 : (Cond.soleField "RuleKernelsModel" "symbols") ∈ tT := tm (i := 576) rfl rfl
set_option maxRecDepth 20000 in
theorem tw_577 : (Cond.laysFinal "RuleKernelsModel" "RuleKernelsModel" "candidates" "[J") ∈ tT := tm (i := 577) rfl rfl
set_option maxRecDepth 20000 in
theorem tw_578 : (Cond.soleField "RuleKernelsModel" "candidates") ∈ tT := tm (i := 578) rfl rfl
set_option maxRecDepth 20000 in
theorem tw_579 : (Cond.laysFinal "RuleKernelsModel" "RuleKernelsModel" "reasons" "[I") ∈ tT := tm (i := 579) rfl rfl
set_option maxRecDepth 20000 in
theorem tw_580 : (Cond.soleField "RuleKernelsModel" "reasons") ∈ tT := tm (i := 580) rfl rfl
set_option maxRecDepth 20000 in
theorem tw_581 : (Cond.lays "RuleKernelsModel" "RuleKernelsModel" "rules" "I") ∈ tT := tm (i := 581) rfl rfl
set_option maxRecDepth 20000 in
theorem tw_582 : (Cond.soleField "RuleKernelsModel" "rules") ∈ tT := tm (i := 582) rfl rfl
set_option maxRecDepth 20000 in
theorem tw_583 : (Cond.laysFinal "RuleKernelsModel" "RuleKernelsModel" "kinds" "[I") ∈ tT := tm (i := 583) rfl rfl
set_option maxRecDepth 20000 in
theorem tw_584 : (Cond.soleField "RuleKernelsModel" "kinds") ∈ tT := tm (i := 584) rfl rfl
set_option maxRecDepth 20000 in
theorem tw_585 : (Cond.laysFinal "RuleKernelsModel" "RuleKernelsModel" "rights" "[J") ∈ tT := tm (i := 585) rfl rfl
set_option maxRecDepth 20000 in
theorem tw_586 : (Cond.soleField "RuleKernelsModel" "rights") ∈ tT := tm (i := 586) rfl rfl
set_option maxRecDepth 20000 in
theorem tw_587 : (Cond.laysFinal "RuleKernelsModel" "RuleKernelsModel" "sizes" "[I") ∈ tT := tm (i := 587) rfl rfl
set_option maxRecDepth 20000 in
theorem tw_588 : (Cond.soleField "RuleKernelsModel" "sizes") ∈ tT := tm (i := 588) rfl rfl
set_option maxRecDepth 20000 in
theorem tw_589 : (Cond.laysFinal "RuleKernelsModel" "RuleKernelsModel" "members" "[I") ∈ tT := tm (i := 589) rfl rfl
set_option maxRecDepth 20000 in
theorem tw_590 : (Cond.soleField "RuleKernelsModel" "members") ∈ tT := tm (i := 590) rfl rfl
set_option maxRecDepth 20000 in
theorem tw_591 : (Cond.laysFinal "RuleKernelsModel" "RuleKernelsModel" "factors" "[J") ∈ tT := tm (i := 591) rfl rfl
set_option maxRecDepth 20000 in
theorem tw_592 : (Cond.soleField "RuleKernelsModel" "factors") ∈ tT := tm (i := 592) rfl rfl
set_option maxRecDepth 20000 in
theorem tw_593 : (Cond.laysFinal "RuleKernelsModel" "RuleKernelsModel" "pairs" "[I") ∈ tT := tm (i := 593) rfl rfl
set_option maxRecDepth 20000 in
theorem tw_594 : (Cond.soleField "RuleKernelsModel" "pairs") ∈ tT := tm (i := 594) rfl rfl
set_option maxRecDepth 20000 in
theorem tw_595 : (Cond.laysFinal "RuleKernelsModel" "RuleKernelsModel" "firsts" "[I") ∈ tT := tm (i := 595) rfl rfl
set_option maxRecDepth 20000 in
theorem tw_596 : (Cond.soleField "RuleKernelsModel" "firsts") ∈ tT := tm (i := 596) rfl rfl
set_option maxRecDepth 20000 in
theorem tw_597 : (Cond.laysFinal "RuleKernelsModel" "RuleKernelsModel" "seconds" "[I") ∈ tT := tm (i := 597) rfl rfl
set_option maxRecDepth 20000 in
theorem tw_598 : (Cond.soleField "RuleKernelsModel" "seconds") ∈ tT := tm (i := 598) rfl rfl
set_option maxRecDepth 20000 in
theorem tw_599 : (Cond.lays "RuleKernelsModel" "RuleKernelsModel" "waits" "I") ∈ tT := tm (i := 599) rfl rfl
set_option maxRecDepth 20000 in
theorem tw_600 : (Cond.soleField "RuleKernelsModel" "waits") ∈ tT := tm (i := 600) rfl rfl
set_option maxRecDepth 20000 in
theorem tw_601 : (Cond.laysFinal "RuleKernelsModel" "RuleKernelsModel" "row" "[I") ∈ tT := tm (i := 601) rfl rfl
set_option maxRecDepth 20000 in
theorem tw_602 : (Cond.soleField "RuleKernelsModel" "row") ∈ tT := tm (i := 602) rfl rfl
set_option maxRecDepth 20000 in
theorem tw_603 : (Cond.lays "RuleKernelsModel" "RuleKernelsModel" "woken" "I") ∈ tT := tm (i := 603) rfl rfl
set_option maxRecDepth 20000 in
theorem tw_604 : (Cond.soleField "RuleKernelsModel" "woken") ∈ tT := tm (i := 604) rfl rfl
set_option maxRecDepth 20000 in
theorem tw_605 : (Cond.laysFinal "RuleKernelsModel" "RuleKernelsModel" "order" "[I") ∈ tT := tm (i := 605) rfl rfl
set_option maxRecDepth 20000 in
theorem tw_606 : (Cond.soleField "RuleKernelsModel" "order") ∈ tT := tm (i := 606) rfl rfl
set_option maxRecDepth 20000 in
theorem tw_607 : (Cond.lays "RuleKernelsModel" "RuleKernelsModel" "marks" "I") ∈ tT := tm (i := 607) rfl rfl
set_option maxRecDepth 20000 in
theorem tw_608 : (Cond.soleField "RuleKernelsModel" "marks") ∈ tT := tm (i := 608) rfl rfl
set_option maxRecDepth 20000 in
theorem tw_609 : (Cond.laysFinal "RuleKernelsModel" "RuleKernelsModel" "keptCandidates" "[J") ∈ tT := tm (i := 609) rfl rfl
set_option maxRecDepth 20000 in
theorem tw_610 : (Cond.soleField "RuleKernelsModel" "keptCandidates") ∈ tT := tm (i := 610) rfl rfl
set_option maxRecDepth 20000 in
theorem tw_611 : (Cond.laysFinal "RuleKernelsModel" "RuleKernelsModel" "keptReasons" "[I") ∈ tT := tm (i := 611) rfl rfl
set_option maxRecDepth 20000 in
theorem tw_612 : (Cond.soleField "RuleKernelsModel" "keptReasons") ∈ tT := tm (i := 612) rfl rfl
set_option maxRecDepth 20000 in
theorem tw_613 : (Cond.laysFinal "RuleKernelsModel" "RuleKernelsModel" "keptWaits" "[I") ∈ tT := tm (i := 613) rfl rfl
set_option maxRecDepth 20000 in
theorem tw_614 : (Cond.soleField "RuleKernelsModel" "keptWaits") ∈ tT := tm (i := 614) rfl rfl
set_option maxRecDepth 20000 in
theorem tw_615 : (Cond.laysFinal "RuleKernelsModel" "RuleKernelsModel" "keptRow" "[I") ∈ tT := tm (i := 615) rfl rfl
set_option maxRecDepth 20000 in
theorem tw_616 : (Cond.soleField "RuleKernelsModel" "keptRow") ∈ tT := tm (i := 616) rfl rfl
set_option maxRecDepth 20000 in
theorem tw_617 : (Cond.laysFinal "RuleKernelsModel" "RuleKernelsModel" "keptWoken" "[I") ∈ tT := tm (i := 617) rfl rfl
set_option maxRecDepth 20000 in
theorem tw_618 : (Cond.soleField "RuleKernelsModel" "keptWoken") ∈ tT := tm (i := 618) rfl rfl
set_option maxRecDepth 20000 in
theorem tw_619 : (Cond.laysFinal "RuleKernelsModel" "RuleKernelsModel" "keptOrder" "[I") ∈ tT := tm (i := 619) rfl rfl
set_option maxRecDepth 20000 in
theorem tw_620 : (Cond.soleField "RuleKernelsModel" "keptOrder") ∈ tT := tm (i := 620) rfl rfl
set_option maxRecDepth 20000 in
theorem tw_621 : (Cond.laysFinal "RuleKernelsModel" "RuleKernelsModel" "had" "[J") ∈ tT := tm (i := 621) rfl rfl
set_option maxRecDepth 20000 in
theorem tw_622 : (Cond.soleField "RuleKernelsModel" "had") ∈ tT := tm (i := 622) rfl rfl
set_option maxRecDepth 20000 in
theorem tw_623 : (Cond.laysFinal "RuleKernelsModel" "RuleKernelsModel" "goes" "[J") ∈ tT := tm (i := 623) rfl rfl
set_option maxRecDepth 20000 in
theorem tw_624 : (Cond.soleField "RuleKernelsModel" "goes") ∈ tT := tm (i := 624) rfl rfl
set_option maxRecDepth 20000 in
theorem tw_625 : (Cond.laysFinal "RuleKernelsModel" "RuleKernelsModel" "unions" "[J") ∈ tT := tm (i := 625) rfl rfl
set_option maxRecDepth 20000 in
theorem tw_626 : (Cond.soleField "RuleKernelsModel" "unions") ∈ tT := tm (i := 626) rfl rfl
set_option maxRecDepth 20000 in
theorem tw_627 : (Cond.superclass "RuleKernelsModel" "java/lang/Object") ∈ tT := tm (i := 627) rfl rfl
set_option maxRecDepth 20000 in
theorem tw_628 : (Cond.methodLink "RuleKernelsLaw" 27 ⟨"RuleKernelsModel", "rule", "(IJ)I"⟩) ∈ tT := tm (i := 628) rfl rfl
set_option maxRecDepth 20000 in
theorem tw_629 : (Cond.instanceMethod ⟨"RuleKernelsModel", "rule", "(IJ)I"⟩) ∈ tT := tm (i := 629) rfl rfl
set_option maxRecDepth 20000 in
theorem tw_630 : (Cond.selects "RuleKernelsModel" ⟨"RuleKernelsModel", "rule", "(IJ)I"⟩ ⟨"RuleKernelsModel", "rule", "(IJ)I"⟩) ∈ tT := tm (i := 630) rfl rfl
set_option maxRecDepth 20000 in
theorem tw_632 : (Cond.constantLong "RuleKernelsModel" 94 (-1000000 : Int64)) ∈ tT := tm (i := 632) rfl rfl
set_option maxRecDepth 20000 in
theorem tw_633 : (Cond.constantLong "RuleKernelsModel" 96 (1000000 : Int64)) ∈ tT := tm (i := 633) rfl rfl
set_option maxRecDepth 20000 in
theorem tw_634 : (Cond.methodLink "RuleKernelsLaw" 32 ⟨"RuleKernelsModel", "into", "(IIJ)Z"⟩) ∈ tT := tm (i := 634) rfl rfl
set_option maxRecDepth 20000 in
theorem tw_635 : (Cond.instanceMethod ⟨"RuleKernelsModel", "into", "(IIJ)Z"⟩) ∈ tT := tm (i := 635) rfl rfl
set_option maxRecDepth 20000 in
theorem tw_636 : (Cond.selects "RuleKernelsModel" ⟨"RuleKernelsModel", "into", "(IIJ)Z"⟩ ⟨"RuleKernelsModel", "into", "(IIJ)Z"⟩) ∈ tT := tm (i := 636) rfl rfl
set_option maxRecDepth 20000 in
theorem tw_638 : (Cond.methodLink "RuleKernelsModel" 104 ⟨"RuleKernelsModel", "isRule", "(I)Z"⟩) ∈ tT := tm (i := 638) rfl rfl
set_option maxRecDepth 20000 in
theorem tw_640 : (Cond.instanceMethod ⟨"RuleKernelsModel", "isRule", "(I)Z"⟩) ∈ tT := tm (i := 640) rfl rfl
set_option maxRecDepth 20000 in
theorem tw_642 : (Cond.methodLink "RuleKernelsModel" 108 ⟨"RuleKernelsModel", "isPlace", "(I)Z"⟩) ∈ tT := tm (i := 642) rfl rfl
set_option maxRecDepth 20000 in
theorem tw_644 : (Cond.instanceMethod ⟨"RuleKernelsModel", "isPlace", "(I)Z"⟩) ∈ tT := tm (i := 644) rfl rfl
set_option maxRecDepth 20000 in
theorem tw_646 : (Cond.constantLong "RuleKernelsModel" 111 (-1000 : Int64)) ∈ tT := tm (i := 646) rfl rfl
set_option maxRecDepth 20000 in
theorem tw_647 : (Cond.constantLong "RuleKernelsModel" 113 (1000 : Int64)) ∈ tT := tm (i := 647) rfl rfl
set_option maxRecDepth 20000 in
theorem tw_648 : (Cond.methodLink "RuleKernelsModel" 115 ⟨"RuleKernelsModel", "seatOf", "(II)I"⟩) ∈ tT := tm (i := 648) rfl rfl
set_option maxRecDepth 20000 in
theorem tw_650 : (Cond.instanceMethod ⟨"RuleKernelsModel", "seatOf", "(II)I"⟩) ∈ tT := tm (i := 650) rfl rfl
set_option maxRecDepth 20000 in
theorem tw_652 : (Cond.methodLink "RuleKernelsModel" 119 ⟨"RuleKernelsModel", "wake", "(I)V"⟩) ∈ tT := tm (i := 652) rfl rfl
set_option maxRecDepth 20000 in
theorem tw_654 : (Cond.instanceMethod ⟨"RuleKernelsModel", "wake", "(I)V"⟩) ∈ tT := tm (i := 654) rfl rfl
set_option maxRecDepth 20000 in
theorem tw_656 : (Cond.methodLink "RuleKernelsLaw" 37 ⟨"RuleKernelsModel", "table", "(III)Z"⟩) ∈ tT := tm (i := 656) rfl rfl
set_option maxRecDepth 20000 in
theorem tw_657 : (Cond.instanceMethod ⟨"RuleKernelsModel", "table", "(III)Z"⟩) ∈ tT := tm (i := 657) rfl rfl
set_option maxRecDepth 20000 in
theorem tw_658 : (Cond.selects "RuleKernelsModel" ⟨"RuleKernelsModel", "table", "(III)Z"⟩ ⟨"RuleKernelsModel", "table", "(III)Z"⟩) ∈ tT := tm (i := 658) rfl rfl
set_option maxRecDepth 20000 in
theorem tw_660 : (Cond.methodLink "RuleKernelsModel" 123 ⟨"RuleKernelsModel", "isSymbol", "(I)Z"⟩) ∈ tT := tm (i := 660) rfl rfl
set_option maxRecDepth 20000 in
theorem tw_662 : (Cond.instanceMethod ⟨"RuleKernelsModel", "isSymbol", "(I)Z"⟩) ∈ tT := tm (i := 662) rfl rfl
set_option maxRecDepth 20000 in
theorem tw_664 : (Cond.methodLink "RuleKernelsModel" 126 ⟨"RuleKernelsModel", "hasPair", "(III)Z"⟩) ∈ tT := tm (i := 664) rfl rfl
set_option maxRecDepth 20000 in
theorem tw_666 : (Cond.instanceMethod ⟨"RuleKernelsModel", "hasPair", "(III)Z"⟩) ∈ tT := tm (i := 666) rfl rfl
set_option maxRecDepth 20000 in
theorem tw_668 : (Cond.methodLink "RuleKernelsLaw" 42 ⟨"RuleKernelsModel", "take", "(II)Z"⟩) ∈ tT := tm (i := 668) rfl rfl
set_option maxRecDepth 20000 in
theorem tw_669 : (Cond.instanceMethod ⟨"RuleKernelsModel", "take", "(II)Z"⟩) ∈ tT := tm (i := 669) rfl rfl
set_option maxRecDepth 20000 in
theorem tw_670 : (Cond.selects "RuleKernelsModel" ⟨"RuleKernelsModel", "take", "(II)Z"⟩ ⟨"RuleKernelsModel", "take", "(II)Z"⟩) ∈ tT := tm (i := 670) rfl rfl
set_option maxRecDepth 20000 in
theorem tw_672 : (Cond.methodLink "RuleKernelsModel" 90 ⟨"RuleKernelsModel", "has", "(JI)Z"⟩) ∈ tT := tm (i := 672) rfl rfl
set_option maxRecDepth 20000 in
theorem tw_673 : (Cond.static ⟨"RuleKernelsModel", "has", "(JI)Z"⟩) ∈ tT := tm (i := 673) rfl rfl
set_option maxRecDepth 20000 in
theorem tw_675 : (Cond.methodLink "RuleKernelsModel" 132 ⟨"RuleKernelsModel", "remove", "(III)V"⟩) ∈ tT := tm (i := 675) rfl rfl
set_option maxRecDepth 20000 in
theorem tw_677 : (Cond.instanceMethod ⟨"RuleKernelsModel", "remove", "(III)V"⟩) ∈ tT := tm (i := 677) rfl rfl
set_option maxRecDepth 20000 in
theorem tw_679 : (Cond.constantLong "RuleKernelsModel" 130 (-1 : Int64)) ∈ tT := tm (i := 679) rfl rfl
set_option maxRecDepth 20000 in
theorem tw_680 : (Cond.methodLink "RuleKernelsModel" 136 ⟨"RuleKernelsModel", "wakeAll", "(II)V"⟩) ∈ tT := tm (i := 680) rfl rfl
set_option maxRecDepth 20000 in
theorem tw_682 : (Cond.instanceMethod ⟨"RuleKernelsModel", "wakeAll", "(II)V"⟩) ∈ tT := tm (i := 682) rfl rfl
set_option maxRecDepth 20000 in
theorem tw_684 : (Cond.methodLink "RuleKernelsLaw" 46 ⟨"RuleKernelsModel", "set", "(II)Z"⟩) ∈ tT := tm (i := 684) rfl rfl
set_option maxRecDepth 20000 in
theorem tw_685 : (Cond.instanceMethod ⟨"RuleKernelsModel", "set", "(II)Z"⟩) ∈ tT := tm (i := 685) rfl rfl
set_option maxRecDepth 20000 in
theorem tw_686 : (Cond.selects "RuleKernelsModel" ⟨"RuleKernelsModel", "set", "(II)Z"⟩ ⟨"RuleKernelsModel", "set", "(II)Z"⟩) ∈ tT := tm (i := 686) rfl rfl
set_option maxRecDepth 20000 in
theorem tw_688 : (Cond.methodLink "RuleKernelsLaw" 51 ⟨"RuleKernelsModel", "run", "()I"⟩) ∈ tT := tm (i := 688) rfl rfl
set_option maxRecDepth 20000 in
theorem tw_689 : (Cond.instanceMethod ⟨"RuleKernelsModel", "run", "()I"⟩) ∈ tT := tm (i := 689) rfl rfl
set_option maxRecDepth 20000 in
theorem tw_690 : (Cond.selects "RuleKernelsModel" ⟨"RuleKernelsModel", "run", "()I"⟩ ⟨"RuleKernelsModel", "run", "()I"⟩) ∈ tT := tm (i := 690) rfl rfl
set_option maxRecDepth 20000 in
theorem tw_692 : (Cond.methodLink "RuleKernelsModel" 188 ⟨"RuleKernelsModel", "emptyPlace", "()I"⟩) ∈ tT := tm (i := 692) rfl rfl
set_option maxRecDepth 20000 in
theorem tw_694 : (Cond.instanceMethod ⟨"RuleKernelsModel", "emptyPlace", "()I"⟩) ∈ tT := tm (i := 694) rfl rfl
set_option maxRecDepth 20000 in
theorem tw_696 : (Cond.methodLink "RuleKernelsModel" 192 ⟨"RuleKernelsModel", "find", "(I)V"⟩) ∈ tT := tm (i := 696) rfl rfl
set_option maxRecDepth 20000 in
theorem tw_698 : (Cond.instanceMethod ⟨"RuleKernelsModel", "find", "(I)V"⟩) ∈ tT := tm (i := 698) rfl rfl
set_option maxRecDepth 20000 in
theorem tw_700 : (Cond.methodLink "RuleKernelsModel" 163 ⟨"RuleKernelsModel", "unlike", "(I)V"⟩) ∈ tT := tm (i := 700) rfl rfl
set_option maxRecDepth 20000 in
theorem tw_702 : (Cond.instanceMethod ⟨"RuleKernelsModel", "unlike", "(I)V"⟩) ∈ tT := tm (i := 702) rfl rfl
set_option maxRecDepth 20000 in
theorem tw_704 : (Cond.methodLink "RuleKernelsModel" 140 ⟨"RuleKernelsModel", "countOf", "(J)I"⟩) ∈ tT := tm (i := 704) rfl rfl
set_option maxRecDepth 20000 in
theorem tw_705 : (Cond.static ⟨"RuleKernelsModel", "countOf", "(J)I"⟩) ∈ tT := tm (i := 705) rfl rfl
set_option maxRecDepth 20000 in
theorem tw_707 : (Cond.methodLink "RuleKernelsModel" 166 ⟨"RuleKernelsModel", "equal", "(I)V"⟩) ∈ tT := tm (i := 707) rfl rfl
set_option maxRecDepth 20000 in
theorem tw_709 : (Cond.instanceMethod ⟨"RuleKernelsModel", "equal", "(I)V"⟩) ∈ tT := tm (i := 709) rfl rfl
set_option maxRecDepth 20000 in
theorem tw_711 : (Cond.methodLink "RuleKernelsModel" 169 ⟨"RuleKernelsModel", "sum", "(IIZ)V"⟩) ∈ tT := tm (i := 711) rfl rfl
set_option maxRecDepth 20000 in
theorem tw_713 : (Cond.instanceMethod ⟨"RuleKernelsModel", "sum", "(IIZ)V"⟩) ∈ tT := tm (i := 713) rfl rfl
set_option maxRecDepth 20000 in
theorem tw_715 : (Cond.methodLink "RuleKernelsModel" 148 ⟨"RuleKernelsModel", "bound", "(IIZ)J"⟩) ∈ tT := tm (i := 715) rfl rfl
set_option maxRecDepth 20000 in
theorem tw_717 : (Cond.instanceMethod ⟨"RuleKernelsModel", "bound", "(IIZ)J"⟩) ∈ tT := tm (i := 717) rfl rfl
set_option maxRecDepth 20000 in
theorem tw_719 : (Cond.methodLink "RuleKernelsModel" 144 ⟨"RuleKernelsModel", "factorOf", "(II)J"⟩) ∈ tT := tm (i := 719) rfl rfl
set_option maxRecDepth 20000 in
theorem tw_721 : (Cond.instanceMethod ⟨"RuleKernelsModel", "factorOf", "(II)J"⟩) ∈ tT := tm (i := 721) rfl rfl
set_option maxRecDepth 20000 in
theorem tw_723 : (Cond.methodLink "RuleKernelsModel" 173 ⟨"RuleKernelsModel", "count", "(II)V"⟩) ∈ tT := tm (i := 723) rfl rfl
set_option maxRecDepth 20000 in
theorem tw_725 : (Cond.instanceMethod ⟨"RuleKernelsModel", "count", "(II)V"⟩) ∈ tT := tm (i := 725) rfl rfl
set_option maxRecDepth 20000 in
theorem tw_727 : (Cond.methodLink "RuleKernelsModel" 152 ⟨"RuleKernelsModel", "can", "(II)Z"⟩) ∈ tT := tm (i := 727) rfl rfl
set_option maxRecDepth 20000 in
theorem tw_729 : (Cond.instanceMethod ⟨"RuleKernelsModel", "can", "(II)Z"⟩) ∈ tT := tm (i := 729) rfl rfl
set_option maxRecDepth 20000 in
theorem tw_731 : (Cond.methodLink "RuleKernelsModel" 156 ⟨"RuleKernelsModel", "must", "(II)Z"⟩) ∈ tT := tm (i := 731) rfl rfl
set_option maxRecDepth 20000 in
theorem tw_733 : (Cond.instanceMethod ⟨"RuleKernelsModel", "must", "(II)Z"⟩) ∈ tT := tm (i := 733) rfl rfl
set_option maxRecDepth 20000 in
theorem tw_735 : (Cond.methodLink "RuleKernelsModel" 176 ⟨"RuleKernelsModel", "rising", "(I)V"⟩) ∈ tT := tm (i := 735) rfl rfl
set_option maxRecDepth 20000 in
theorem tw_737 : (Cond.instanceMethod ⟨"RuleKernelsModel", "rising", "(I)V"⟩) ∈ tT := tm (i := 737) rfl rfl
set_option maxRecDepth 20000 in
theorem tw_739 : (Cond.methodLink "RuleKernelsModel" 179 ⟨"RuleKernelsModel", "apart", "(I)V"⟩) ∈ tT := tm (i := 739) rfl rfl
set_option maxRecDepth 20000 in
theorem tw_741 : (Cond.instanceMethod ⟨"RuleKernelsModel", "apart", "(I)V"⟩) ∈ tT := tm (i := 741) rfl rfl
set_option maxRecDepth 20000 in
theorem tw_743 : (Cond.methodLink "RuleKernelsModel" 159 ⟨"RuleKernelsModel", "isCandidate", "(IJ)Z"⟩) ∈ tT := tm (i := 743) rfl rfl
set_option maxRecDepth 20000 in
theorem tw_745 : (Cond.instanceMethod ⟨"RuleKernelsModel", "isCandidate", "(IJ)Z"⟩) ∈ tT := tm (i := 745) rfl rfl
set_option maxRecDepth 20000 in
theorem tw_747 : (Cond.methodLink "RuleKernelsModel" 182 ⟨"RuleKernelsModel", "byTable", "(I)V"⟩) ∈ tT := tm (i := 747) rfl rfl
set_option maxRecDepth 20000 in
theorem tw_749 : (Cond.instanceMethod ⟨"RuleKernelsModel", "byTable", "(I)V"⟩) ∈ tT := tm (i := 749) rfl rfl
set_option maxRecDepth 20000 in
theorem tw_751 : (Cond.methodLink "RuleKernelsLaw" 56 ⟨"RuleKernelsModel", "candidates", "(I)J"⟩) ∈ tT := tm (i := 751) rfl rfl
set_option maxRecDepth 20000 in
theorem tw_752 : (Cond.instanceMethod ⟨"RuleKernelsModel", "candidates", "(I)J"⟩) ∈ tT := tm (i := 752) rfl rfl
set_option maxRecDepth 20000 in
theorem tw_753 : (Cond.selects "RuleKernelsModel" ⟨"RuleKernelsModel", "candidates", "(I)J"⟩ ⟨"RuleKernelsModel", "candidates", "(I)J"⟩) ∈ tT := tm (i := 753) rfl rfl
set_option maxRecDepth 20000 in
theorem tw_755 : (Cond.methodLink "RuleKernelsLaw" 61 ⟨"RuleKernelsModel", "reason", "(III)I"⟩) ∈ tT := tm (i := 755) rfl rfl
set_option maxRecDepth 20000 in
theorem tw_756 : (Cond.instanceMethod ⟨"RuleKernelsModel", "reason", "(III)I"⟩) ∈ tT := tm (i := 756) rfl rfl
set_option maxRecDepth 20000 in
theorem tw_757 : (Cond.selects "RuleKernelsModel" ⟨"RuleKernelsModel", "reason", "(III)I"⟩ ⟨"RuleKernelsModel", "reason", "(III)I"⟩) ∈ tT := tm (i := 757) rfl rfl
set_option maxRecDepth 20000 in
theorem tw_759 : (Cond.methodLink "RuleKernelsLaw" 74 ⟨"RuleKernelsModel", "woken", "()I"⟩) ∈ tT := tm (i := 759) rfl rfl
set_option maxRecDepth 20000 in
theorem tw_760 : (Cond.instanceMethod ⟨"RuleKernelsModel", "woken", "()I"⟩) ∈ tT := tm (i := 760) rfl rfl
set_option maxRecDepth 20000 in
theorem tw_761 : (Cond.selects "RuleKernelsModel" ⟨"RuleKernelsModel", "woken", "()I"⟩ ⟨"RuleKernelsModel", "woken", "()I"⟩) ∈ tT := tm (i := 761) rfl rfl
set_option maxRecDepth 20000 in
theorem tw_763 : (Cond.methodLink "RuleKernelsLaw" 79 ⟨"RuleKernelsModel", "order", "(I)I"⟩) ∈ tT := tm (i := 763) rfl rfl
set_option maxRecDepth 20000 in
theorem tw_764 : (Cond.instanceMethod ⟨"RuleKernelsModel", "order", "(I)I"⟩) ∈ tT := tm (i := 764) rfl rfl
set_option maxRecDepth 20000 in
theorem tw_765 : (Cond.selects "RuleKernelsModel" ⟨"RuleKernelsModel", "order", "(I)I"⟩ ⟨"RuleKernelsModel", "order", "(I)I"⟩) ∈ tT := tm (i := 765) rfl rfl
set_option maxRecDepth 20000 in
theorem tw_767 : (Cond.methodLink "RuleKernelsLaw" 65 ⟨"RuleKernelsModel", "mark", "()I"⟩) ∈ tT := tm (i := 767) rfl rfl
set_option maxRecDepth 20000 in
theorem tw_768 : (Cond.instanceMethod ⟨"RuleKernelsModel", "mark", "()I"⟩) ∈ tT := tm (i := 768) rfl rfl
set_option maxRecDepth 20000 in
theorem tw_769 : (Cond.selects "RuleKernelsModel" ⟨"RuleKernelsModel", "mark", "()I"⟩ ⟨"RuleKernelsModel", "mark", "()I"⟩) ∈ tT := tm (i := 769) rfl rfl
set_option maxRecDepth 20000 in
theorem tw_771 : (Cond.methodLink "RuleKernelsLaw" 70 ⟨"RuleKernelsModel", "back", "(I)Z"⟩) ∈ tT := tm (i := 771) rfl rfl
set_option maxRecDepth 20000 in
theorem tw_772 : (Cond.instanceMethod ⟨"RuleKernelsModel", "back", "(I)Z"⟩) ∈ tT := tm (i := 772) rfl rfl
set_option maxRecDepth 20000 in
theorem tw_773 : (Cond.selects "RuleKernelsModel" ⟨"RuleKernelsModel", "back", "(I)Z"⟩ ⟨"RuleKernelsModel", "back", "(I)Z"⟩) ∈ tT := tm (i := 773) rfl rfl
set_option maxRecDepth 20000 in
theorem tw_775 : (Cond.constantLong "RuleKernelsLaw" 21 (4294967295 : Int64)) ∈ tT := tm (i := 775) rfl rfl
def T_Board : u_T := fun k => match k with
  | 0 => ("RuleKernels$Board", "symbolCount", "I", true)
  | 1 => ("RuleKernels$Board", "candidates", "[J", true)
  | 2 => ("RuleKernels$Board", "reasons", "[I", true)
  | 3 => ("RuleKernels$Board", "trail", "[I", true)
  | 4 => ("RuleKernels$Board", "gone", "I", false)
  | _ => ("RuleKernels$Board", "emptyPlaces", "I", false)
def ty_Board : Nat → FieldType := fun k => match k with
  | 0 => .int
  | 1 => (.array .long)
  | 2 => (.array .int)
  | 3 => (.array .int)
  | 4 => .int
  | _ => .int
theorem nm_Board : ∀ a, a < 6 → ∀ b, b < 6 → a ≠ b → (T_Board a).2.1 ≠ (T_Board b).2.1 := by decide +kernel
theorem ty_Board_ok : ∀ k, k < 6 → parseFieldDescriptor (T_Board k).2.2.1 = some (ty_Board k) := by decide +kernel
theorem i_Board : ∀ q ∈ u_ws "RuleKernels$Board" T_Board 6, q ∈ tT := by
  intro q hq
  obtain ⟨k, hk, rfl⟩ := List.mem_map.mp hq
  have hk := List.mem_range.mp hk
  rcases (show k = 0 ∨ k = 1 ∨ k = 2 ∨ k = 3 ∨ k = 4 ∨ k = 5 by omega) with rfl | rfl | rfl | rfl | rfl | rfl
  · exact tw_88
  · exact tw_90
  · exact tw_92
  · exact tw_94
  · exact tw_96
  · exact tw_98
def T_Giving : u_T := fun k => match k with
  | 0 => ("RuleKernels$Giving", "given", "[I", true)
  | 1 => ("RuleKernels$Giving", "askedBy", "[I", true)
  | 2 => ("RuleKernels$Giving", "line", "[I", true)
  | 3 => ("RuleKernels$Giving", "reach", "[I", true)
  | 4 => ("RuleKernels$Giving", "used", "J", false)
  | _ => ("RuleKernels$Giving", "movable", "I", false)
def ty_Giving : Nat → FieldType := fun k => match k with
  | 0 => (.array .int)
  | 1 => (.array .int)
  | 2 => (.array .int)
  | 3 => (.array .int)
  | 4 => .long
  | _ => .int
theorem nm_Giving : ∀ a, a < 6 → ∀ b, b < 6 → a ≠ b → (T_Giving a).2.1 ≠ (T_Giving b).2.1 := by decide +kernel
theorem ty_Giving_ok : ∀ k, k < 6 → parseFieldDescriptor (T_Giving k).2.2.1 = some (ty_Giving k) := by decide +kernel
theorem i_Giving : ∀ q ∈ u_ws "RuleKernels$Giving" T_Giving 6, q ∈ tT := by
  intro q hq
  obtain ⟨k, hk, rfl⟩ := List.mem_map.mp hq
  have hk := List.mem_range.mp hk
  rcases (show k = 0 ∨ k = 1 ∨ k = 2 ∨ k = 3 ∨ k = 4 ∨ k = 5 by omega) with rfl | rfl | rfl | rfl | rfl | rfl
  · exact tw_123
  · exact tw_125
  · exact tw_127
  · exact tw_129
  · exact tw_131
  · exact tw_133
def T_Kernel : u_T := fun k => match k with
  | 0 => ("RuleKernels$Kernel", "have", "[J", true)
  | 1 => ("RuleKernels$Kernel", "keep", "[J", true)
  | 2 => ("RuleKernels$Kernel", "symbolCount", "I", true)
  | _ => ("RuleKernels$Kernel", "giving", "LRuleKernels$Giving;", true)
def ty_Kernel : Nat → FieldType := fun k => match k with
  | 0 => (.array .long)
  | 1 => (.array .long)
  | 2 => .int
  | _ => (.object "RuleKernels$Giving")
theorem nm_Kernel : ∀ a, a < 4 → ∀ b, b < 4 → a ≠ b → (T_Kernel a).2.1 ≠ (T_Kernel b).2.1 := by decide +kernel
theorem ty_Kernel_ok : ∀ k, k < 4 → parseFieldDescriptor (T_Kernel k).2.2.1 = some (ty_Kernel k) := by decide +kernel
theorem i_Kernel : ∀ q ∈ u_ws "RuleKernels$Kernel" T_Kernel 4, q ∈ tT := by
  intro q hq
  obtain ⟨k, hk, rfl⟩ := List.mem_map.mp hq
  have hk := List.mem_range.mp hk
  rcases (show k = 0 ∨ k = 1 ∨ k = 2 ∨ k = 3 by omega) with rfl | rfl | rfl | rfl
  · exact tw_142
  · exact tw_144
  · exact tw_146
  · exact tw_148
def T_Mark : u_T := fun k => match k with
  | 0 => ("RuleKernels$Mark", "gone", "I", false)
  | 1 => ("RuleKernels$Mark", "row", "LRuleKernels$Row;", true)
  | _ => ("RuleKernels$Mark", "told", "LRuleKernels$Told;", true)
def ty_Mark : Nat → FieldType := fun k => match k with
  | 0 => .int
  | 1 => (.object "RuleKernels$Row")
  | _ => (.object "RuleKernels$Told")
theorem nm_Mark : ∀ a, a < 3 → ∀ b, b < 3 → a ≠ b → (T_Mark a).2.1 ≠ (T_Mark b).2.1 := by decide +kernel
theorem ty_Mark_ok : ∀ k, k < 3 → parseFieldDescriptor (T_Mark k).2.2.1 = some (ty_Mark k) := by decide +kernel
theorem i_Mark : ∀ q ∈ u_ws "RuleKernels$Mark" T_Mark 3, q ∈ tT := by
  intro q hq
  obtain ⟨k, hk, rfl⟩ := List.mem_map.mp hq
  have hk := List.mem_range.mp hk
  rcases (show k = 0 ∨ k = 1 ∨ k = 2 by omega) with rfl | rfl | rfl
  · exact tw_494
  · exact tw_496
  · exact tw_498
def T_Row : u_T := fun k => match k with
  | 0 => ("RuleKernels$Row", "ring", "[I", true)
  | 1 => ("RuleKernels$Row", "waits", "[Z", true)
  | 2 => ("RuleKernels$Row", "head", "I", false)
  | _ => ("RuleKernels$Row", "size", "I", false)
def ty_Row : Nat → FieldType := fun k => match k with
  | 0 => (.array .int)
  | 1 => (.array .boolean)
  | 2 => .int
  | _ => .int
theorem nm_Row : ∀ a, a < 4 → ∀ b, b < 4 → a ≠ b → (T_Row a).2.1 ≠ (T_Row b).2.1 := by decide +kernel
theorem ty_Row_ok : ∀ k, k < 4 → parseFieldDescriptor (T_Row k).2.2.1 = some (ty_Row k) := by decide +kernel
theorem i_Row : ∀ q ∈ u_ws "RuleKernels$Row" T_Row 4, q ∈ tT := by
  intro q hq
  obtain ⟨k, hk, rfl⟩ := List.mem_map.mp hq
  have hk := List.mem_range.mp hk
  rcases (show k = 0 ∨ k = 1 ∨ k = 2 ∨ k = 3 by omega) with rfl | rfl | rfl | rfl
  · exact tw_162
  · exact tw_164
  · exact tw_166
  · exact tw_168
def T_Rule : u_T := fun k => match k with
  | 0 => ("RuleKernels$Rule", "kind", "I", true)
  | 1 => ("RuleKernels$Rule", "right", "J", true)
  | 2 => ("RuleKernels$Rule", "places", "[I", true)
  | 3 => ("RuleKernels$Rule", "factors", "[I", true)
  | 4 => ("RuleKernels$Rule", "partners", "[J", true)
  | 5 => ("RuleKernels$Rule", "size", "I", false)
  | _ => ("RuleKernels$Rule", "pairs", "I", false)
def ty_Rule : Nat → FieldType := fun k => match k with
  | 0 => .int
  | 1 => .long
  | 2 => (.array .int)
  | 3 => (.array .int)
  | 4 => (.array .long)
  | 5 => .int
  | _ => .int
theorem nm_Rule : ∀ a, a < 7 → ∀ b, b < 7 → a ≠ b → (T_Rule a).2.1 ≠ (T_Rule b).2.1 := by decide +kernel
theorem ty_Rule_ok : ∀ k, k < 7 → parseFieldDescriptor (T_Rule k).2.2.1 = some (ty_Rule k) := by decide +kernel
theorem i_Rule : ∀ q ∈ u_ws "RuleKernels$Rule" T_Rule 7, q ∈ tT := by
  intro q hq
  obtain ⟨k, hk, rfl⟩ := List.mem_map.mp hq
  have hk := List.mem_range.mp hk
  rcases (show k = 0 ∨ k = 1 ∨ k = 2 ∨ k = 3 ∨ k = 4 ∨ k = 5 ∨ k = 6 by omega) with rfl | rfl | rfl | rfl | rfl | rfl | rfl
  · exact tw_244
  · exact tw_246
  · exact tw_248
  · exact tw_250
  · exact tw_252
  · exact tw_254
  · exact tw_256
def T_Told : u_T := fun k => match k with
  | 0 => ("RuleKernels$Told", "numbers", "[I", true)
  | _ => ("RuleKernels$Told", "count", "I", false)
def ty_Told : Nat → FieldType := fun k => match k with
  | 0 => (.array .int)
  | _ => .int
theorem nm_Told : ∀ a, a < 2 → ∀ b, b < 2 → a ≠ b → (T_Told a).2.1 ≠ (T_Told b).2.1 := by decide +kernel
theorem ty_Told_ok : ∀ k, k < 2 → parseFieldDescriptor (T_Told k).2.2.1 = some (ty_Told k) := by decide +kernel
theorem i_Told : ∀ q ∈ u_ws "RuleKernels$Told" T_Told 2, q ∈ tT := by
  intro q hq
  obtain ⟨k, hk, rfl⟩ := List.mem_map.mp hq
  have hk := List.mem_range.mp hk
  rcases (show k = 0 ∨ k = 1 by omega) with rfl | rfl
  · exact tw_181
  · exact tw_183
def T_RK : u_T := fun k => match k with
  | 0 => ("RuleKernels", "board", "LRuleKernels$Board;", true)
  | 1 => ("RuleKernels", "rules", "[LRuleKernels$Rule;", true)
  | 2 => ("RuleKernels", "lowerRules", "[J", true)
  | 3 => ("RuleKernels", "upperRules", "[J", true)
  | 4 => ("RuleKernels", "kernel", "LRuleKernels$Kernel;", true)
  | 5 => ("RuleKernels", "row", "LRuleKernels$Row;", true)
  | 6 => ("RuleKernels", "told", "LRuleKernels$Told;", true)
  | 7 => ("RuleKernels", "marks", "[LRuleKernels$Mark;", true)
  | 8 => ("RuleKernels", "ruleCount", "I", false)
  | _ => ("RuleKernels", "standing", "I", false)
def ty_RK : Nat → FieldType := fun k => match k with
  | 0 => (.object "RuleKernels$Board")
  | 1 => (.array (.object "RuleKernels$Rule"))
  | 2 => (.array .long)
  | 3 => (.array .long)
  | 4 => (.object "RuleKernels$Kernel")
  | 5 => (.object "RuleKernels$Row")
  | 6 => (.object "RuleKernels$Told")
  | 7 => (.array (.object "RuleKernels$Mark"))
  | 8 => .int
  | _ => .int
theorem nm_RK : ∀ a, a < 10 → ∀ b, b < 10 → a ≠ b → (T_RK a).2.1 ≠ (T_RK b).2.1 := by decide +kernel
theorem ty_RK_ok : ∀ k, k < 10 → parseFieldDescriptor (T_RK k).2.2.1 = some (ty_RK k) := by decide +kernel
theorem i_RK : ∀ q ∈ u_ws "RuleKernels" T_RK 10, q ∈ tT := by
  intro q hq
  obtain ⟨k, hk, rfl⟩ := List.mem_map.mp hq
  have hk := List.mem_range.mp hk
  rcases (show k = 0 ∨ k = 1 ∨ k = 2 ∨ k = 3 ∨ k = 4 ∨ k = 5 ∨ k = 6 ∨ k = 7 ∨ k = 8 ∨ k = 9 by omega) with rfl | rfl | rfl | rfl | rfl | rfl | rfl | rfl | rfl | rfl
  · exact tw_198
  · exact tw_200
  · exact tw_202
  · exact tw_204
  · exact tw_206
  · exact tw_208
  · exact tw_210
  · exact tw_212
  · exact tw_214
  · exact tw_216
def T_Mo : u_T := fun k => match k with
  | 0 => ("RuleKernelsModel", "thrown", "I", false)
  | 1 => ("RuleKernelsModel", "places", "I", true)
  | 2 => ("RuleKernelsModel", "symbols", "I", true)
  | 3 => ("RuleKernelsModel", "candidates", "[J", true)
  | 4 => ("RuleKernelsModel", "reasons", "[I", true)
  | 5 => ("RuleKernelsModel", "rules", "I", false)
  | 6 => ("RuleKernelsModel", "kinds", "[I", true)
  | 7 => ("RuleKernelsModel", "rights", "[J", true)
  | 8 => ("RuleKernelsModel", "sizes", "[I", true)
  | 9 => ("RuleKernelsModel", "members", "[I", true)
  | 10 => ("RuleKernelsModel", "factors", "[J", true)
  | 11 => ("RuleKernelsModel", "pairs", "[I", true)
  | 12 => ("RuleKernelsModel", "firsts", "[I", true)
  | 13 => ("RuleKernelsModel", "seconds", "[I", true)
  | 14 => ("RuleKernelsModel", "waits", "I", false)
  | 15 => ("RuleKernelsModel", "row", "[I", true)
  | 16 => ("RuleKernelsModel", "woken", "I", false)
  | 17 => ("RuleKernelsModel", "order", "[I", true)
  | 18 => ("RuleKernelsModel", "marks", "I", false)
  | 19 => ("RuleKernelsModel", "keptCandidates", "[J", true)
  | 20 => ("RuleKernelsModel", "keptReasons", "[I", true)
  | 21 => ("RuleKernelsModel", "keptWaits", "[I", true)
  | 22 => ("RuleKernelsModel", "keptRow", "[I", true)
  | 23 => ("RuleKernelsModel", "keptWoken", "[I", true)
  | 24 => ("RuleKernelsModel", "keptOrder", "[I", true)
  | 25 => ("RuleKernelsModel", "had", "[J", true)
  | 26 => ("RuleKernelsModel", "goes", "[J", true)
  | _ => ("RuleKernelsModel", "unions", "[J", true)
def ty_Mo : Nat → FieldType := fun k => match k with
  | 0 => .int
  | 1 => .int
  | 2 => .int
  | 3 => (.array .long)
  | 4 => (.array .int)
  | 5 => .int
  | 6 => (.array .int)
  | 7 => (.array .long)
  | 8 => (.array .int)
  | 9 => (.array .int)
  | 10 => (.array .long)
  | 11 => (.array .int)
  | 12 => (.array .int)
  | 13 => (.array .int)
  | 14 => .int
  | 15 => (.array .int)
  | 16 => .int
  | 17 => (.array .int)
  | 18 => .int
  | 19 => (.array .long)
  | 20 => (.array .int)
  | 21 => (.array .int)
  | 22 => (.array .int)
  | 23 => (.array .int)
  | 24 => (.array .int)
  | 25 => (.array .long)
  | 26 => (.array .long)
  | _ => (.array .long)
theorem nm_Mo : ∀ a, a < 28 → ∀ b, b < 28 → a ≠ b → (T_Mo a).2.1 ≠ (T_Mo b).2.1 := by decide +kernel
theorem ty_Mo_ok : ∀ k, k < 28 → parseFieldDescriptor (T_Mo k).2.2.1 = some (ty_Mo k) := by decide +kernel
theorem i_Mo : ∀ q ∈ u_ws "RuleKernelsModel" T_Mo 28, q ∈ tT := by
  intro q hq
  obtain ⟨k, hk, rfl⟩ := List.mem_map.mp hq
  have hk := List.mem_range.mp hk
  rcases (show k = 0 ∨ k = 1 ∨ k = 2 ∨ k = 3 ∨ k = 4 ∨ k = 5 ∨ k = 6 ∨ k = 7 ∨ k = 8 ∨ k = 9 ∨ k = 10 ∨ k = 11 ∨ k = 12 ∨ k = 13 ∨ k = 14 ∨ k = 15 ∨ k = 16 ∨ k = 17 ∨ k = 18 ∨ k = 19 ∨ k = 20 ∨ k = 21 ∨ k = 22 ∨ k = 23 ∨ k = 24 ∨ k = 25 ∨ k = 26 ∨ k = 27 by omega) with rfl | rfl | rfl | rfl | rfl | rfl | rfl | rfl | rfl | rfl | rfl | rfl | rfl | rfl | rfl | rfl | rfl | rfl | rfl | rfl | rfl | rfl | rfl | rfl | rfl | rfl | rfl | rfl
  · exact tw_571
  · exact tw_573
  · exact tw_575
  · exact tw_577
  · exact tw_579
  · exact tw_581
  · exact tw_583
  · exact tw_585
  · exact tw_587
  · exact tw_589
  · exact tw_591
  · exact tw_593
  · exact tw_595
  · exact tw_597
  · exact tw_599
  · exact tw_601
  · exact tw_603
  · exact tw_605
  · exact tw_607
  · exact tw_609
  · exact tw_611
  · exact tw_613
  · exact tw_615
  · exact tw_617
  · exact tw_619
  · exact tw_621
  · exact tw_623
  · exact tw_625
abbrev vwCl : List vw_C := [("RuleKernels$Board", T_Board, 6), ("RuleKernels$Giving", T_Giving, 6), ("RuleKernels$Kernel", T_Kernel, 4), ("RuleKernels$Mark", T_Mark, 3), ("RuleKernels$Row", T_Row, 4), ("RuleKernels$Rule", T_Rule, 7), ("RuleKernels$Told", T_Told, 2), ("RuleKernels", T_RK, 10), ("RuleKernelsModel", T_Mo, 28)]
abbrev b_Int_numberOfTrailingZeros : ByteArray := prog_11_method_48_code
def y_Int_numberOfTrailingZeros : MethodName := ⟨"java/lang/Integer", "numberOfTrailingZeros", "(I)I"⟩
set_option maxRecDepth 20000 in
theorem tc_Int_numberOfTrailingZeros : Cond.code y_Int_numberOfTrailingZeros b_Int_numberOfTrailingZeros 2 (Option.some FieldType.int) ∈ tT := tm (i := 380) rfl rfl
abbrev ws_Int_numberOfTrailingZeros : List Cond := Cond.code y_Int_numberOfTrailingZeros b_Int_numberOfTrailingZeros 2 (Option.some FieldType.int) :: tT
abbrev b_Int_numberOfLeadingZeros : ByteArray := prog_11_method_47_code
def y_Int_numberOfLeadingZeros : MethodName := ⟨"java/lang/Integer", "numberOfLeadingZeros", "(I)I"⟩
set_option maxRecDepth 20000 in
theorem tc_Int_numberOfLeadingZeros : Cond.code y_Int_numberOfLeadingZeros b_Int_numberOfLeadingZeros 2 (Option.some FieldType.int) ∈ tT := tm (i := 424) rfl rfl
abbrev ws_Int_numberOfLeadingZeros : List Cond := Cond.code y_Int_numberOfLeadingZeros b_Int_numberOfLeadingZeros 2 (Option.some FieldType.int) :: tT
abbrev b_Lon_numberOfTrailingZeros : ByteArray := prog_12_method_49_code
def y_Lon_numberOfTrailingZeros : MethodName := ⟨"java/lang/Long", "numberOfTrailingZeros", "(J)I"⟩
set_option maxRecDepth 20000 in
theorem tc_Lon_numberOfTrailingZeros : Cond.code y_Lon_numberOfTrailingZeros b_Lon_numberOfTrailingZeros 3 (Option.some FieldType.int) ∈ tT := tm (i := 377) rfl rfl
abbrev ws_Lon_numberOfTrailingZeros : List Cond := Cond.code y_Lon_numberOfTrailingZeros b_Lon_numberOfTrailingZeros 3 (Option.some FieldType.int) :: tT
abbrev b_Lon_numberOfLeadingZeros : ByteArray := prog_12_method_48_code
def y_Lon_numberOfLeadingZeros : MethodName := ⟨"java/lang/Long", "numberOfLeadingZeros", "(J)I"⟩
set_option maxRecDepth 20000 in
theorem tc_Lon_numberOfLeadingZeros : Cond.code y_Lon_numberOfLeadingZeros b_Lon_numberOfLeadingZeros 3 (Option.some FieldType.int) ∈ tT := tm (i := 421) rfl rfl
abbrev ws_Lon_numberOfLeadingZeros : List Cond := Cond.code y_Lon_numberOfLeadingZeros b_Lon_numberOfLeadingZeros 3 (Option.some FieldType.int) :: tT
abbrev b_Arr_fill : ByteArray := prog_15_method_101_code
def y_Arr_fill : MethodName := ⟨"java/util/Arrays", "fill", "([JJ)V"⟩
set_option maxRecDepth 20000 in
theorem tc_Arr_fill : Cond.code y_Arr_fill b_Arr_fill 5 (Option.none : Option FieldType) ∈ tT := tm (i := 77) rfl rfl
abbrev ws_Arr_fill : List Cond := Cond.code y_Arr_fill b_Arr_fill 5 (Option.none : Option FieldType) :: tT
abbrev b_RK_has : ByteArray := prog_1_method_19_code
def y_RK_has : MethodName := ⟨"RuleKernels", "has", "(JI)Z"⟩
set_option maxRecDepth 20000 in
theorem tc_RK_has : Cond.code y_RK_has b_RK_has 3 (Option.some FieldType.boolean) ∈ tT := tm (i := 303) rfl rfl
abbrev ws_RK_has : List Cond := Cond.code y_RK_has b_RK_has 3 (Option.some FieldType.boolean) :: tT
abbrev b_Row_join : ByteArray := prog_6_method_2_code
def y_Row_join : MethodName := ⟨"RuleKernels$Row", "join", "(I)V"⟩
set_option maxRecDepth 20000 in
theorem tc_Row_join : Cond.code y_Row_join b_Row_join 3 (Option.none : Option FieldType) ∈ tT := tm (i := 288) rfl rfl
abbrev ws_Row_join : List Cond := Cond.code y_Row_join b_Row_join 3 (Option.none : Option FieldType) :: tT
abbrev b_Row_leave : ByteArray := prog_6_method_3_code
def y_Row_leave : MethodName := ⟨"RuleKernels$Row", "leave", "()I"⟩
set_option maxRecDepth 20000 in
theorem tc_Row_leave : Cond.code y_Row_leave b_Row_leave 2 (Option.some FieldType.int) ∈ tT := tm (i := 350) rfl rfl
abbrev ws_Row_leave : List Cond := Cond.code y_Row_leave b_Row_leave 2 (Option.some FieldType.int) :: tT
abbrev b_Row_copyFrom : ByteArray := prog_6_method_4_code
def y_Row_copyFrom : MethodName := ⟨"RuleKernels$Row", "copyFrom", "(LRuleKernels$Row;)V"⟩
set_option maxRecDepth 20000 in
theorem tc_Row_copyFrom : Cond.code y_Row_copyFrom b_Row_copyFrom 3 (Option.none : Option FieldType) ∈ tT := tm (i := 504) rfl rfl
abbrev ws_Row_copyFrom : List Cond := Cond.code y_Row_copyFrom b_Row_copyFrom 3 (Option.none : Option FieldType) :: tT
abbrev b_Told_clear : ByteArray := prog_8_method_2_code
def y_Told_clear : MethodName := ⟨"RuleKernels$Told", "clear", "()V"⟩
set_option maxRecDepth 20000 in
theorem tc_Told_clear : Cond.code y_Told_clear b_Told_clear 1 (Option.none : Option FieldType) ∈ tT := tm (i := 341) rfl rfl
abbrev ws_Told_clear : List Cond := Cond.code y_Told_clear b_Told_clear 1 (Option.none : Option FieldType) :: tT
abbrev b_Told_add : ByteArray := prog_8_method_3_code
def y_Told_add : MethodName := ⟨"RuleKernels$Told", "add", "(I)V"⟩
set_option maxRecDepth 20000 in
theorem tc_Told_add : Cond.code y_Told_add b_Told_add 2 (Option.none : Option FieldType) ∈ tT := tm (i := 354) rfl rfl
abbrev ws_Told_add : List Cond := Cond.code y_Told_add b_Told_add 2 (Option.none : Option FieldType) :: tT
abbrev b_Told_ruleAt : ByteArray := prog_8_method_4_code
def y_Told_ruleAt : MethodName := ⟨"RuleKernels$Told", "ruleAt", "(I)I"⟩
set_option maxRecDepth 20000 in
theorem tc_Told_ruleAt : Cond.code y_Told_ruleAt b_Told_ruleAt 2 (Option.some FieldType.int) ∈ tT := tm (i := 530) rfl rfl
abbrev ws_Told_ruleAt : List Cond := Cond.code y_Told_ruleAt b_Told_ruleAt 2 (Option.some FieldType.int) :: tT
abbrev b_Told_copyFrom : ByteArray := prog_8_method_5_code
def y_Told_copyFrom : MethodName := ⟨"RuleKernels$Told", "copyFrom", "(LRuleKernels$Told;)V"⟩
set_option maxRecDepth 20000 in
theorem tc_Told_copyFrom : Cond.code y_Told_copyFrom b_Told_copyFrom 2 (Option.none : Option FieldType) ∈ tT := tm (i := 508) rfl rfl
abbrev ws_Told_copyFrom : List Cond := Cond.code y_Told_copyFrom b_Told_copyFrom 2 (Option.none : Option FieldType) :: tT
abbrev b_Row_init : ByteArray := prog_6_method_1_code
def y_Row_init : MethodName := ⟨"RuleKernels$Row", "<init>", "()V"⟩
set_option maxRecDepth 20000 in
theorem tc_Row_init : Cond.code y_Row_init b_Row_init 1 (Option.none : Option FieldType) ∈ tT := tm (i := 155) rfl rfl
abbrev ws_Row_init : List Cond := Cond.code y_Row_init b_Row_init 1 (Option.none : Option FieldType) :: tT
abbrev b_Told_init : ByteArray := prog_8_method_1_code
def y_Told_init : MethodName := ⟨"RuleKernels$Told", "<init>", "()V"⟩
set_option maxRecDepth 20000 in
theorem tc_Told_init : Cond.code y_Told_init b_Told_init 1 (Option.none : Option FieldType) ∈ tT := tm (i := 176) rfl rfl
abbrev ws_Told_init : List Cond := Cond.code y_Told_init b_Told_init 1 (Option.none : Option FieldType) :: tT
abbrev b_Mark_init : ByteArray := prog_5_method_1_code
def y_Mark_init : MethodName := ⟨"RuleKernels$Mark", "<init>", "()V"⟩
set_option maxRecDepth 20000 in
theorem tc_Mark_init : Cond.code y_Mark_init b_Mark_init 1 (Option.none : Option FieldType) ∈ tT := tm (i := 482) rfl rfl
abbrev ws_Mark_init : List Cond := Cond.code y_Mark_init b_Mark_init 1 (Option.none : Option FieldType) :: tT
abbrev b_Giving_init : ByteArray := prog_3_method_1_code
def y_Giving_init : MethodName := ⟨"RuleKernels$Giving", "<init>", "()V"⟩
set_option maxRecDepth 20000 in
theorem tc_Giving_init : Cond.code y_Giving_init b_Giving_init 1 (Option.none : Option FieldType) ∈ tT := tm (i := 115) rfl rfl
abbrev ws_Giving_init : List Cond := Cond.code y_Giving_init b_Giving_init 1 (Option.none : Option FieldType) :: tT
abbrev b_Kernel_init : ByteArray := prog_4_method_1_code
def y_Kernel_init : MethodName := ⟨"RuleKernels$Kernel", "<init>", "(I)V"⟩
set_option maxRecDepth 20000 in
theorem tc_Kernel_init : Cond.code y_Kernel_init b_Kernel_init 2 (Option.none : Option FieldType) ∈ tT := tm (i := 109) rfl rfl
abbrev ws_Kernel_init : List Cond := Cond.code y_Kernel_init b_Kernel_init 2 (Option.none : Option FieldType) :: tT
abbrev b_Board_hasPlace : ByteArray := prog_2_method_2_code
def y_Board_hasPlace : MethodName := ⟨"RuleKernels$Board", "hasPlace", "(I)Z"⟩
set_option maxRecDepth 20000 in
theorem tc_Board_hasPlace : Cond.code y_Board_hasPlace b_Board_hasPlace 2 (Option.some FieldType.boolean) ∈ tT := tm (i := 270) rfl rfl
abbrev ws_Board_hasPlace : List Cond := Cond.code y_Board_hasPlace b_Board_hasPlace 2 (Option.some FieldType.boolean) :: tT
abbrev b_Board_hasSymbol : ByteArray := prog_2_method_3_code
def y_Board_hasSymbol : MethodName := ⟨"RuleKernels$Board", "hasSymbol", "(I)Z"⟩
set_option maxRecDepth 20000 in
theorem tc_Board_hasSymbol : Cond.code y_Board_hasSymbol b_Board_hasSymbol 2 (Option.some FieldType.boolean) ∈ tT := tm (i := 296) rfl rfl
abbrev ws_Board_hasSymbol : List Cond := Cond.code y_Board_hasSymbol b_Board_hasSymbol 2 (Option.some FieldType.boolean) :: tT
abbrev b_Board_isCandidate : ByteArray := prog_2_method_4_code
def y_Board_isCandidate : MethodName := ⟨"RuleKernels$Board", "isCandidate", "(II)Z"⟩
set_option maxRecDepth 20000 in
theorem tc_Board_isCandidate : Cond.code y_Board_isCandidate b_Board_isCandidate 3 (Option.some FieldType.boolean) ∈ tT := tm (i := 311) rfl rfl
abbrev ws_Board_isCandidate : List Cond := Cond.code y_Board_isCandidate b_Board_isCandidate 3 (Option.some FieldType.boolean) :: tT
abbrev b_Board_reasonFor : ByteArray := prog_2_method_5_code
def y_Board_reasonFor : MethodName := ⟨"RuleKernels$Board", "reasonFor", "(II)I"⟩
set_option maxRecDepth 20000 in
theorem tc_Board_reasonFor : Cond.code y_Board_reasonFor b_Board_reasonFor 3 (Option.some FieldType.int) ∈ tT := tm (i := 474) rfl rfl
abbrev ws_Board_reasonFor : List Cond := Cond.code y_Board_reasonFor b_Board_reasonFor 3 (Option.some FieldType.int) :: tT
abbrev b_Board_remove : ByteArray := prog_2_method_6_code
def y_Board_remove : MethodName := ⟨"RuleKernels$Board", "remove", "(IJI)Z"⟩
set_option maxRecDepth 20000 in
theorem tc_Board_remove : Cond.code y_Board_remove b_Board_remove 9 (Option.some FieldType.boolean) ∈ tT := tm (i := 322) rfl rfl
abbrev ws_Board_remove : List Cond := Cond.code y_Board_remove b_Board_remove 9 (Option.some FieldType.boolean) :: tT
abbrev b_Board_returnTo : ByteArray := prog_2_method_7_code
def y_Board_returnTo : MethodName := ⟨"RuleKernels$Board", "returnTo", "(I)V"⟩
set_option maxRecDepth 20000 in
theorem tc_Board_returnTo : Cond.code y_Board_returnTo b_Board_returnTo 4 (Option.none : Option FieldType) ∈ tT := tm (i := 518) rfl rfl
abbrev ws_Board_returnTo : List Cond := Cond.code y_Board_returnTo b_Board_returnTo 4 (Option.none : Option FieldType) :: tT
abbrev b_Board_leastEmptyPlace : ByteArray := prog_2_method_8_code
def y_Board_leastEmptyPlace : MethodName := ⟨"RuleKernels$Board", "leastEmptyPlace", "()I"⟩
set_option maxRecDepth 20000 in
theorem tc_Board_leastEmptyPlace : Cond.code y_Board_leastEmptyPlace b_Board_leastEmptyPlace 2 (Option.some FieldType.int) ∈ tT := tm (i := 462) rfl rfl
abbrev ws_Board_leastEmptyPlace : List Cond := Cond.code y_Board_leastEmptyPlace b_Board_leastEmptyPlace 2 (Option.some FieldType.int) :: tT
abbrev b_Board_init : ByteArray := prog_2_method_1_code
def y_Board_init : MethodName := ⟨"RuleKernels$Board", "<init>", "(II)V"⟩
set_option maxRecDepth 20000 in
theorem tc_Board_init : Cond.code y_Board_init b_Board_init 3 (Option.none : Option FieldType) ∈ tT := tm (i := 73) rfl rfl
abbrev ws_Board_init : List Cond := Cond.code y_Board_init b_Board_init 3 (Option.none : Option FieldType) :: tT
abbrev b_Rule_holds : ByteArray := prog_7_method_4_code
def y_Rule_holds : MethodName := ⟨"RuleKernels$Rule", "holds", "(I)Z"⟩
set_option maxRecDepth 20000 in
theorem tc_Rule_holds : Cond.code y_Rule_holds b_Rule_holds 3 (Option.some FieldType.boolean) ∈ tT := tm (i := 280) rfl rfl
abbrev ws_Rule_holds : List Cond := Cond.code y_Rule_holds b_Rule_holds 3 (Option.some FieldType.boolean) :: tT
abbrev b_Rule_addPlace : ByteArray := prog_7_method_2_code
def y_Rule_addPlace : MethodName := ⟨"RuleKernels$Rule", "addPlace", "(II)Z"⟩
set_option maxRecDepth 20000 in
theorem tc_Rule_addPlace : Cond.code y_Rule_addPlace b_Rule_addPlace 3 (Option.some FieldType.boolean) ∈ tT := tm (i := 276) rfl rfl
abbrev ws_Rule_addPlace : List Cond := Cond.code y_Rule_addPlace b_Rule_addPlace 3 (Option.some FieldType.boolean) :: tT
abbrev b_Rule_addPair : ByteArray := prog_7_method_3_code
def y_Rule_addPair : MethodName := ⟨"RuleKernels$Rule", "addPair", "(II)Z"⟩
set_option maxRecDepth 20000 in
theorem tc_Rule_addPair : Cond.code y_Rule_addPair b_Rule_addPair 3 (Option.some FieldType.boolean) ∈ tT := tm (i := 300) rfl rfl
abbrev ws_Rule_addPair : List Cond := Cond.code y_Rule_addPair b_Rule_addPair 3 (Option.some FieldType.boolean) :: tT
abbrev b_Rule_init : ByteArray := prog_7_method_1_code
def y_Rule_init : MethodName := ⟨"RuleKernels$Rule", "<init>", "(IJI)V"⟩
set_option maxRecDepth 20000 in
theorem tc_Rule_init : Cond.code y_Rule_init b_Rule_init 5 (Option.none : Option FieldType) ∈ tT := tm (i := 228) rfl rfl
abbrev ws_Rule_init : List Cond := Cond.code y_Rule_init b_Rule_init 5 (Option.none : Option FieldType) :: tT
abbrev b_Giving_moveOn : ByteArray := prog_3_method_4_code
def y_Giving_moveOn : MethodName := ⟨"RuleKernels$Giving", "moveOn", "(III)V"⟩
set_option maxRecDepth 20000 in
theorem tc_Giving_moveOn : Cond.code y_Giving_moveOn b_Giving_moveOn 8 (Option.none : Option FieldType) ∈ tT := tm (i := 385) rfl rfl
abbrev ws_Giving_moveOn : List Cond := Cond.code y_Giving_moveOn b_Giving_moveOn 8 (Option.none : Option FieldType) :: tT
abbrev b_Giving_give : ByteArray := prog_3_method_3_code
def y_Giving_give : MethodName := ⟨"RuleKernels$Giving", "give", "([JI)Z"⟩
set_option maxRecDepth 20000 in
theorem tc_Giving_give : Cond.code y_Giving_give b_Giving_give 10 (Option.some FieldType.boolean) ∈ tT := tm (i := 373) rfl rfl
abbrev ws_Giving_give : List Cond := Cond.code y_Giving_give b_Giving_give 10 (Option.some FieldType.boolean) :: tT
abbrev b_Giving_giveAll : ByteArray := prog_3_method_2_code
def y_Giving_giveAll : MethodName := ⟨"RuleKernels$Giving", "giveAll", "([JI)Z"⟩
set_option maxRecDepth 20000 in
theorem tc_Giving_giveAll : Cond.code y_Giving_giveAll b_Giving_giveAll 4 (Option.some FieldType.boolean) ∈ tT := tm (i := 369) rfl rfl
abbrev ws_Giving_giveAll : List Cond := Cond.code y_Giving_giveAll b_Giving_giveAll 4 (Option.some FieldType.boolean) :: tT
abbrev b_Giving_findReach : ByteArray := prog_3_method_5_code
def y_Giving_findReach : MethodName := ⟨"RuleKernels$Giving", "findReach", "([JI)V"⟩
set_option maxRecDepth 20000 in
theorem tc_Giving_findReach : Cond.code y_Giving_findReach b_Giving_findReach 5 (Option.none : Option FieldType) ∈ tT := tm (i := 395) rfl rfl
abbrev ws_Giving_findReach : List Cond := Cond.code y_Giving_findReach b_Giving_findReach 5 (Option.none : Option FieldType) :: tT
abbrev b_Giving_possible : ByteArray := prog_3_method_6_code
def y_Giving_possible : MethodName := ⟨"RuleKernels$Giving", "possible", "(JII)J"⟩
set_option maxRecDepth 20000 in
theorem tc_Giving_possible : Cond.code y_Giving_possible b_Giving_possible 8 (Option.some FieldType.long) ∈ tT := tm (i := 399) rfl rfl
abbrev ws_Giving_possible : List Cond := Cond.code y_Giving_possible b_Giving_possible 8 (Option.some FieldType.long) :: tT
abbrev b_Kernel_lowestOf : ByteArray := prog_4_method_16_code
def y_Kernel_lowestOf : MethodName := ⟨"RuleKernels$Kernel", "lowestOf", "(J)I"⟩
set_option maxRecDepth 20000 in
theorem tc_Kernel_lowestOf : Cond.code y_Kernel_lowestOf b_Kernel_lowestOf 2 (Option.some FieldType.int) ∈ tT := tm (i := 414) rfl rfl
abbrev ws_Kernel_lowestOf : List Cond := Cond.code y_Kernel_lowestOf b_Kernel_lowestOf 2 (Option.some FieldType.int) :: tT
abbrev b_Kernel_highestOf : ByteArray := prog_4_method_17_code
def y_Kernel_highestOf : MethodName := ⟨"RuleKernels$Kernel", "highestOf", "(J)I"⟩
set_option maxRecDepth 20000 in
theorem tc_Kernel_highestOf : Cond.code y_Kernel_highestOf b_Kernel_highestOf 2 (Option.some FieldType.int) ∈ tT := tm (i := 418) rfl rfl
abbrev ws_Kernel_highestOf : List Cond := Cond.code y_Kernel_highestOf b_Kernel_highestOf 2 (Option.some FieldType.int) :: tT
abbrev b_Kernel_leastOf : ByteArray := prog_4_method_7_code
def y_Kernel_leastOf : MethodName := ⟨"RuleKernels$Kernel", "leastOf", "(IJ)J"⟩
set_option maxRecDepth 20000 in
theorem tc_Kernel_leastOf : Cond.code y_Kernel_leastOf b_Kernel_leastOf 3 (Option.some FieldType.long) ∈ tT := tm (i := 411) rfl rfl
abbrev ws_Kernel_leastOf : List Cond := Cond.code y_Kernel_leastOf b_Kernel_leastOf 3 (Option.some FieldType.long) :: tT
abbrev b_Kernel_mostOf : ByteArray := prog_4_method_8_code
def y_Kernel_mostOf : MethodName := ⟨"RuleKernels$Kernel", "mostOf", "(IJ)J"⟩
set_option maxRecDepth 20000 in
theorem tc_Kernel_mostOf : Cond.code y_Kernel_mostOf b_Kernel_mostOf 3 (Option.some FieldType.long) ∈ tT := tm (i := 427) rfl rfl
abbrev ws_Kernel_mostOf : List Cond := Cond.code y_Kernel_mostOf b_Kernel_mostOf 3 (Option.some FieldType.long) :: tT
abbrev b_Kernel_below : ByteArray := prog_4_method_13_code
def y_Kernel_below : MethodName := ⟨"RuleKernels$Kernel", "below", "(I)J"⟩
set_option maxRecDepth 20000 in
theorem tc_Kernel_below : Cond.code y_Kernel_below b_Kernel_below 1 (Option.some FieldType.long) ∈ tT := tm (i := 447) rfl rfl
abbrev ws_Kernel_below : List Cond := Cond.code y_Kernel_below b_Kernel_below 1 (Option.some FieldType.long) :: tT
abbrev b_Kernel_bitOf : ByteArray := prog_4_method_11_code
def y_Kernel_bitOf : MethodName := ⟨"RuleKernels$Kernel", "bitOf", "(I)J"⟩
set_option maxRecDepth 20000 in
theorem tc_Kernel_bitOf : Cond.code y_Kernel_bitOf b_Kernel_bitOf 2 (Option.some FieldType.long) ∈ tT := tm (i := 440) rfl rfl
abbrev ws_Kernel_bitOf : List Cond := Cond.code y_Kernel_bitOf b_Kernel_bitOf 2 (Option.some FieldType.long) :: tT
abbrev b_Kernel_within : ByteArray := prog_4_method_9_code
def y_Kernel_within : MethodName := ⟨"RuleKernels$Kernel", "within", "(JIJJ)J"⟩
set_option maxRecDepth 20000 in
theorem tc_Kernel_within : Cond.code y_Kernel_within b_Kernel_within 13 (Option.some FieldType.long) ∈ tT := tm (i := 431) rfl rfl
abbrev ws_Kernel_within : List Cond := Cond.code y_Kernel_within b_Kernel_within 13 (Option.some FieldType.long) :: tT
abbrev b_Kernel_keepNothing : ByteArray := prog_4_method_3_code
def y_Kernel_keepNothing : MethodName := ⟨"RuleKernels$Kernel", "keepNothing", "()V"⟩
set_option maxRecDepth 20000 in
theorem tc_Kernel_keepNothing : Cond.code y_Kernel_keepNothing b_Kernel_keepNothing 1 (Option.none : Option FieldType) ∈ tT := tm (i := 390) rfl rfl
abbrev ws_Kernel_keepNothing : List Cond := Cond.code y_Kernel_keepNothing b_Kernel_keepNothing 1 (Option.none : Option FieldType) :: tT
abbrev b_Kernel_keepUnlike : ByteArray := prog_4_method_4_code
def y_Kernel_keepUnlike : MethodName := ⟨"RuleKernels$Kernel", "keepUnlike", "(I)V"⟩
set_option maxRecDepth 20000 in
theorem tc_Kernel_keepUnlike : Cond.code y_Kernel_keepUnlike b_Kernel_keepUnlike 3 (Option.none : Option FieldType) ∈ tT := tm (i := 365) rfl rfl
abbrev ws_Kernel_keepUnlike : List Cond := Cond.code y_Kernel_keepUnlike b_Kernel_keepUnlike 3 (Option.none : Option FieldType) :: tT
abbrev b_Kernel_keepEqual : ByteArray := prog_4_method_5_code
def y_Kernel_keepEqual : MethodName := ⟨"RuleKernels$Kernel", "keepEqual", "(I)V"⟩
set_option maxRecDepth 20000 in
theorem tc_Kernel_keepEqual : Cond.code y_Kernel_keepEqual b_Kernel_keepEqual 5 (Option.none : Option FieldType) ∈ tT := tm (i := 403) rfl rfl
abbrev ws_Kernel_keepEqual : List Cond := Cond.code y_Kernel_keepEqual b_Kernel_keepEqual 5 (Option.none : Option FieldType) :: tT
abbrev b_Kernel_keepSum : ByteArray := prog_4_method_6_code
def y_Kernel_keepSum : MethodName := ⟨"RuleKernels$Kernel", "keepSum", "(LRuleKernels$Rule;)V"⟩
set_option maxRecDepth 20000 in
theorem tc_Kernel_keepSum : Cond.code y_Kernel_keepSum b_Kernel_keepSum 16 (Option.none : Option FieldType) ∈ tT := tm (i := 408) rfl rfl
abbrev ws_Kernel_keepSum : List Cond := Cond.code y_Kernel_keepSum b_Kernel_keepSum 16 (Option.none : Option FieldType) :: tT
abbrev b_Kernel_keepCount : ByteArray := prog_4_method_10_code
def y_Kernel_keepCount : MethodName := ⟨"RuleKernels$Kernel", "keepCount", "(LRuleKernels$Rule;)V"⟩
set_option maxRecDepth 20000 in
theorem tc_Kernel_keepCount : Cond.code y_Kernel_keepCount b_Kernel_keepCount 7 (Option.none : Option FieldType) ∈ tT := tm (i := 436) rfl rfl
abbrev ws_Kernel_keepCount : List Cond := Cond.code y_Kernel_keepCount b_Kernel_keepCount 7 (Option.none : Option FieldType) :: tT
abbrev b_Kernel_keepRising : ByteArray := prog_4_method_12_code
def y_Kernel_keepRising : MethodName := ⟨"RuleKernels$Kernel", "keepRising", "(I)V"⟩
set_option maxRecDepth 20000 in
theorem tc_Kernel_keepRising : Cond.code y_Kernel_keepRising b_Kernel_keepRising 7 (Option.none : Option FieldType) ∈ tT := tm (i := 444) rfl rfl
abbrev ws_Kernel_keepRising : List Cond := Cond.code y_Kernel_keepRising b_Kernel_keepRising 7 (Option.none : Option FieldType) :: tT
abbrev b_Kernel_keepApart : ByteArray := prog_4_method_14_code
def y_Kernel_keepApart : MethodName := ⟨"RuleKernels$Kernel", "keepApart", "(LRuleKernels$Rule;)V"⟩
set_option maxRecDepth 20000 in
theorem tc_Kernel_keepApart : Cond.code y_Kernel_keepApart b_Kernel_keepApart 4 (Option.none : Option FieldType) ∈ tT := tm (i := 451) rfl rfl
abbrev ws_Kernel_keepApart : List Cond := Cond.code y_Kernel_keepApart b_Kernel_keepApart 4 (Option.none : Option FieldType) :: tT
abbrev b_Kernel_keepTable : ByteArray := prog_4_method_15_code
def y_Kernel_keepTable : MethodName := ⟨"RuleKernels$Kernel", "keepTable", "(LRuleKernels$Rule;)V"⟩
set_option maxRecDepth 20000 in
theorem tc_Kernel_keepTable : Cond.code y_Kernel_keepTable b_Kernel_keepTable 9 (Option.none : Option FieldType) ∈ tT := tm (i := 458) rfl rfl
abbrev ws_Kernel_keepTable : List Cond := Cond.code y_Kernel_keepTable b_Kernel_keepTable 9 (Option.none : Option FieldType) :: tT
abbrev b_Kernel_decide : ByteArray := prog_4_method_2_code
def y_Kernel_decide : MethodName := ⟨"RuleKernels$Kernel", "decide", "(LRuleKernels$Rule;)V"⟩
set_option maxRecDepth 20000 in
theorem tc_Kernel_decide : Cond.code y_Kernel_decide b_Kernel_decide 2 (Option.none : Option FieldType) ∈ tT := tm (i := 358) rfl rfl
abbrev ws_Kernel_decide : List Cond := Cond.code y_Kernel_decide b_Kernel_decide 2 (Option.none : Option FieldType) :: tT
abbrev b_RK_noteRuleOfPlace : ByteArray := prog_1_method_15_code
def y_RK_noteRuleOfPlace : MethodName := ⟨"RuleKernels", "noteRuleOfPlace", "(II)V"⟩
set_option maxRecDepth 20000 in
theorem tc_RK_noteRuleOfPlace : Cond.code y_RK_noteRuleOfPlace b_RK_noteRuleOfPlace 3 (Option.none : Option FieldType) ∈ tT := tm (i := 284) rfl rfl
abbrev ws_RK_noteRuleOfPlace : List Cond := Cond.code y_RK_noteRuleOfPlace b_RK_noteRuleOfPlace 3 (Option.none : Option FieldType) :: tT
abbrev b_RK_wake : ByteArray := prog_1_method_18_code
def y_RK_wake : MethodName := ⟨"RuleKernels", "wake", "(JII)V"⟩
set_option maxRecDepth 20000 in
theorem tc_RK_wake : Cond.code y_RK_wake b_RK_wake 6 (Option.none : Option FieldType) ∈ tT := tm (i := 327) rfl rfl
abbrev ws_RK_wake : List Cond := Cond.code y_RK_wake b_RK_wake 6 (Option.none : Option FieldType) :: tT
abbrev b_RK_removeAndWake : ByteArray := prog_1_method_17_code
def y_RK_removeAndWake : MethodName := ⟨"RuleKernels", "removeAndWake", "(IJI)V"⟩
set_option maxRecDepth 20000 in
theorem tc_RK_removeAndWake : Cond.code y_RK_removeAndWake b_RK_removeAndWake 5 (Option.none : Option FieldType) ∈ tT := tm (i := 318) rfl rfl
abbrev ws_RK_removeAndWake : List Cond := Cond.code y_RK_removeAndWake b_RK_removeAndWake 5 (Option.none : Option FieldType) :: tT
abbrev b_RK_take : ByteArray := prog_1_method_5_code
def y_RK_take : MethodName := ⟨"RuleKernels", "take", "(II)Z"⟩
set_option maxRecDepth 20000 in
theorem tc_RK_take : Cond.code y_RK_take b_RK_take 3 (Option.some FieldType.boolean) ∈ tT := tm (i := 307) rfl rfl
abbrev ws_RK_take : List Cond := Cond.code y_RK_take b_RK_take 3 (Option.some FieldType.boolean) :: tT
abbrev b_RK_set : ByteArray := prog_1_method_6_code
def y_RK_set : MethodName := ⟨"RuleKernels", "set", "(II)Z"⟩
set_option maxRecDepth 20000 in
theorem tc_RK_set : Cond.code y_RK_set b_RK_set 3 (Option.some FieldType.boolean) ∈ tT := tm (i := 332) rfl rfl
abbrev ws_RK_set : List Cond := Cond.code y_RK_set b_RK_set 3 (Option.some FieldType.boolean) :: tT
abbrev b_RK_candidates : ByteArray := prog_1_method_8_code
def y_RK_candidates : MethodName := ⟨"RuleKernels", "candidates", "(I)J"⟩
set_option maxRecDepth 20000 in
theorem tc_RK_candidates : Cond.code y_RK_candidates b_RK_candidates 2 (Option.some FieldType.long) ∈ tT := tm (i := 466) rfl rfl
abbrev ws_RK_candidates : List Cond := Cond.code y_RK_candidates b_RK_candidates 2 (Option.some FieldType.long) :: tT
abbrev b_RK_woken : ByteArray := prog_1_method_12_code
def y_RK_woken : MethodName := ⟨"RuleKernels", "woken", "()I"⟩
set_option maxRecDepth 20000 in
theorem tc_RK_woken : Cond.code y_RK_woken b_RK_woken 1 (Option.some FieldType.int) ∈ tT := tm (i := 522) rfl rfl
abbrev ws_RK_woken : List Cond := Cond.code y_RK_woken b_RK_woken 1 (Option.some FieldType.int) :: tT
abbrev b_RK_order : ByteArray := prog_1_method_13_code
def y_RK_order : MethodName := ⟨"RuleKernels", "order", "(I)I"⟩
set_option maxRecDepth 20000 in
theorem tc_RK_order : Cond.code y_RK_order b_RK_order 2 (Option.some FieldType.int) ∈ tT := tm (i := 526) rfl rfl
abbrev ws_RK_order : List Cond := Cond.code y_RK_order b_RK_order 2 (Option.some FieldType.int) :: tT
abbrev b_RK_ruleAt : ByteArray := prog_1_method_14_code
def y_RK_ruleAt : MethodName := ⟨"RuleKernels", "ruleAt", "(I)LRuleKernels$Rule;"⟩
set_option maxRecDepth 20000 in
theorem tc_RK_ruleAt : Cond.code y_RK_ruleAt b_RK_ruleAt 2 (Option.some (FieldType.object "RuleKernels$Rule")) ∈ tT := tm (i := 266) rfl rfl
abbrev ws_RK_ruleAt : List Cond := Cond.code y_RK_ruleAt b_RK_ruleAt 2 (Option.some (FieldType.object "RuleKernels$Rule")) :: tT
abbrev b_RK_into : ByteArray := prog_1_method_3_code
def y_RK_into : MethodName := ⟨"RuleKernels", "into", "(IIJ)Z"⟩
set_option maxRecDepth 20000 in
theorem tc_RK_into : Cond.code y_RK_into b_RK_into 6 (Option.some FieldType.boolean) ∈ tT := tm (i := 262) rfl rfl
abbrev ws_RK_into : List Cond := Cond.code y_RK_into b_RK_into 6 (Option.some FieldType.boolean) :: tT
abbrev b_RK_table : ByteArray := prog_1_method_4_code
def y_RK_table : MethodName := ⟨"RuleKernels", "table", "(III)Z"⟩
set_option maxRecDepth 20000 in
theorem tc_RK_table : Cond.code y_RK_table b_RK_table 5 (Option.some FieldType.boolean) ∈ tT := tm (i := 292) rfl rfl
abbrev ws_RK_table : List Cond := Cond.code y_RK_table b_RK_table 5 (Option.some FieldType.boolean) :: tT
abbrev b_RK_reason : ByteArray := prog_1_method_9_code
def y_RK_reason : MethodName := ⟨"RuleKernels", "reason", "(III)I"⟩
set_option maxRecDepth 20000 in
theorem tc_RK_reason : Cond.code y_RK_reason b_RK_reason 6 (Option.some FieldType.int) ∈ tT := tm (i := 470) rfl rfl
abbrev ws_RK_reason : List Cond := Cond.code y_RK_reason b_RK_reason 6 (Option.some FieldType.int) :: tT
abbrev b_RK_runFirst : ByteArray := prog_1_method_16_code
def y_RK_runFirst : MethodName := ⟨"RuleKernels", "runFirst", "()V"⟩
set_option maxRecDepth 20000 in
theorem tc_RK_runFirst : Cond.code y_RK_runFirst b_RK_runFirst 4 (Option.none : Option FieldType) ∈ tT := tm (i := 346) rfl rfl
abbrev ws_RK_runFirst : List Cond := Cond.code y_RK_runFirst b_RK_runFirst 4 (Option.none : Option FieldType) :: tT
abbrev b_RK_run : ByteArray := prog_1_method_7_code
def y_RK_run : MethodName := ⟨"RuleKernels", "run", "()I"⟩
set_option maxRecDepth 20000 in
theorem tc_RK_run : Cond.code y_RK_run b_RK_run 2 (Option.some FieldType.int) ∈ tT := tm (i := 337) rfl rfl
abbrev ws_RK_run : List Cond := Cond.code y_RK_run b_RK_run 2 (Option.some FieldType.int) :: tT
abbrev b_RK_rule : ByteArray := prog_1_method_2_code
def y_RK_rule : MethodName := ⟨"RuleKernels", "rule", "(IJ)I"⟩
set_option maxRecDepth 20000 in
theorem tc_RK_rule : Cond.code y_RK_rule b_RK_rule 4 (Option.some FieldType.int) ∈ tT := tm (i := 222) rfl rfl
abbrev ws_RK_rule : List Cond := Cond.code y_RK_rule b_RK_rule 4 (Option.some FieldType.int) :: tT
abbrev b_RK_mark : ByteArray := prog_1_method_10_code
def y_RK_mark : MethodName := ⟨"RuleKernels", "mark", "()I"⟩
set_option maxRecDepth 20000 in
theorem tc_RK_mark : Cond.code y_RK_mark b_RK_mark 2 (Option.some FieldType.int) ∈ tT := tm (i := 478) rfl rfl
abbrev ws_RK_mark : List Cond := Cond.code y_RK_mark b_RK_mark 2 (Option.some FieldType.int) :: tT
abbrev b_RK_back : ByteArray := prog_1_method_11_code
def y_RK_back : MethodName := ⟨"RuleKernels", "back", "(I)Z"⟩
set_option maxRecDepth 20000 in
theorem tc_RK_back : Cond.code y_RK_back b_RK_back 3 (Option.some FieldType.boolean) ∈ tT := tm (i := 514) rfl rfl
abbrev ws_RK_back : List Cond := Cond.code y_RK_back b_RK_back 3 (Option.some FieldType.boolean) :: tT
abbrev b_RK_init : ByteArray := prog_1_method_1_code
def y_RK_init : MethodName := ⟨"RuleKernels", "<init>", "(II)V"⟩
set_option maxRecDepth 20000 in
theorem tc_RK_init : Cond.code y_RK_init b_RK_init 5 (Option.none : Option FieldType) ∈ tT := tm (i := 59) rfl rfl
abbrev ws_RK_init : List Cond := Cond.code y_RK_init b_RK_init 5 (Option.none : Option FieldType) :: tT
abbrev b_Mo_has : ByteArray := prog_10_method_6_code
def y_Mo_has : MethodName := ⟨"RuleKernelsModel", "has", "(JI)Z"⟩
set_option maxRecDepth 20000 in
theorem tc_Mo_has : Cond.code y_Mo_has b_Mo_has 3 (Option.some FieldType.boolean) ∈ tT := tm (i := 674) rfl rfl
abbrev ws_Mo_has : List Cond := Cond.code y_Mo_has b_Mo_has 3 (Option.some FieldType.boolean) :: tT
abbrev b_Mo_countOf : ByteArray := prog_10_method_7_code
def y_Mo_countOf : MethodName := ⟨"RuleKernelsModel", "countOf", "(J)I"⟩
set_option maxRecDepth 20000 in
theorem tc_Mo_countOf : Cond.code y_Mo_countOf b_Mo_countOf 4 (Option.some FieldType.int) ∈ tT := tm (i := 706) rfl rfl
abbrev ws_Mo_countOf : List Cond := Cond.code y_Mo_countOf b_Mo_countOf 4 (Option.some FieldType.int) :: tT
abbrev b_Mo_isPlace : ByteArray := prog_10_method_3_code
def y_Mo_isPlace : MethodName := ⟨"RuleKernelsModel", "isPlace", "(I)Z"⟩
set_option maxRecDepth 20000 in
theorem tc_Mo_isPlace : Cond.code y_Mo_isPlace b_Mo_isPlace 2 (Option.some FieldType.boolean) ∈ tT := tm (i := 645) rfl rfl
abbrev ws_Mo_isPlace : List Cond := Cond.code y_Mo_isPlace b_Mo_isPlace 2 (Option.some FieldType.boolean) :: tT
abbrev b_Mo_isSymbol : ByteArray := prog_10_method_4_code
def y_Mo_isSymbol : MethodName := ⟨"RuleKernelsModel", "isSymbol", "(I)Z"⟩
set_option maxRecDepth 20000 in
theorem tc_Mo_isSymbol : Cond.code y_Mo_isSymbol b_Mo_isSymbol 2 (Option.some FieldType.boolean) ∈ tT := tm (i := 663) rfl rfl
abbrev ws_Mo_isSymbol : List Cond := Cond.code y_Mo_isSymbol b_Mo_isSymbol 2 (Option.some FieldType.boolean) :: tT
abbrev b_Mo_isRule : ByteArray := prog_10_method_5_code
def y_Mo_isRule : MethodName := ⟨"RuleKernelsModel", "isRule", "(I)Z"⟩
set_option maxRecDepth 20000 in
theorem tc_Mo_isRule : Cond.code y_Mo_isRule b_Mo_isRule 2 (Option.some FieldType.boolean) ∈ tT := tm (i := 641) rfl rfl
abbrev ws_Mo_isRule : List Cond := Cond.code y_Mo_isRule b_Mo_isRule 2 (Option.some FieldType.boolean) :: tT
abbrev b_Mo_rule : ByteArray := prog_10_method_8_code
def y_Mo_rule : MethodName := ⟨"RuleKernelsModel", "rule", "(IJ)I"⟩
set_option maxRecDepth 20000 in
theorem tc_Mo_rule : Cond.code y_Mo_rule b_Mo_rule 4 (Option.some FieldType.int) ∈ tT := tm (i := 631) rfl rfl
abbrev ws_Mo_rule : List Cond := Cond.code y_Mo_rule b_Mo_rule 4 (Option.some FieldType.int) :: tT
abbrev b_Mo_seatOf : ByteArray := prog_10_method_9_code
def y_Mo_seatOf : MethodName := ⟨"RuleKernelsModel", "seatOf", "(II)I"⟩
set_option maxRecDepth 20000 in
theorem tc_Mo_seatOf : Cond.code y_Mo_seatOf b_Mo_seatOf 4 (Option.some FieldType.int) ∈ tT := tm (i := 651) rfl rfl
abbrev ws_Mo_seatOf : List Cond := Cond.code y_Mo_seatOf b_Mo_seatOf 4 (Option.some FieldType.int) :: tT
abbrev b_Mo_wake : ByteArray := prog_10_method_10_code
def y_Mo_wake : MethodName := ⟨"RuleKernelsModel", "wake", "(I)V"⟩
set_option maxRecDepth 20000 in
theorem tc_Mo_wake : Cond.code y_Mo_wake b_Mo_wake 3 (Option.none : Option FieldType) ∈ tT := tm (i := 655) rfl rfl
abbrev ws_Mo_wake : List Cond := Cond.code y_Mo_wake b_Mo_wake 3 (Option.none : Option FieldType) :: tT
abbrev b_Mo_into : ByteArray := prog_10_method_11_code
def y_Mo_into : MethodName := ⟨"RuleKernelsModel", "into", "(IIJ)Z"⟩
set_option maxRecDepth 20000 in
theorem tc_Mo_into : Cond.code y_Mo_into b_Mo_into 5 (Option.some FieldType.boolean) ∈ tT := tm (i := 637) rfl rfl
abbrev ws_Mo_into : List Cond := Cond.code y_Mo_into b_Mo_into 5 (Option.some FieldType.boolean) :: tT
abbrev b_Mo_hasPair : ByteArray := prog_10_method_12_code
def y_Mo_hasPair : MethodName := ⟨"RuleKernelsModel", "hasPair", "(III)Z"⟩
set_option maxRecDepth 20000 in
theorem tc_Mo_hasPair : Cond.code y_Mo_hasPair b_Mo_hasPair 5 (Option.some FieldType.boolean) ∈ tT := tm (i := 667) rfl rfl
abbrev ws_Mo_hasPair : List Cond := Cond.code y_Mo_hasPair b_Mo_hasPair 5 (Option.some FieldType.boolean) :: tT
abbrev b_Mo_table : ByteArray := prog_10_method_13_code
def y_Mo_table : MethodName := ⟨"RuleKernelsModel", "table", "(III)Z"⟩
set_option maxRecDepth 20000 in
theorem tc_Mo_table : Cond.code y_Mo_table b_Mo_table 4 (Option.some FieldType.boolean) ∈ tT := tm (i := 659) rfl rfl
abbrev ws_Mo_table : List Cond := Cond.code y_Mo_table b_Mo_table 4 (Option.some FieldType.boolean) :: tT
abbrev b_Mo_remove : ByteArray := prog_10_method_14_code
def y_Mo_remove : MethodName := ⟨"RuleKernelsModel", "remove", "(III)V"⟩
set_option maxRecDepth 20000 in
theorem tc_Mo_remove : Cond.code y_Mo_remove b_Mo_remove 4 (Option.none : Option FieldType) ∈ tT := tm (i := 678) rfl rfl
abbrev ws_Mo_remove : List Cond := Cond.code y_Mo_remove b_Mo_remove 4 (Option.none : Option FieldType) :: tT
abbrev b_Mo_wakeAll : ByteArray := prog_10_method_15_code
def y_Mo_wakeAll : MethodName := ⟨"RuleKernelsModel", "wakeAll", "(II)V"⟩
set_option maxRecDepth 20000 in
theorem tc_Mo_wakeAll : Cond.code y_Mo_wakeAll b_Mo_wakeAll 4 (Option.none : Option FieldType) ∈ tT := tm (i := 683) rfl rfl
abbrev ws_Mo_wakeAll : List Cond := Cond.code y_Mo_wakeAll b_Mo_wakeAll 4 (Option.none : Option FieldType) :: tT
abbrev b_Mo_take : ByteArray := prog_10_method_16_code
def y_Mo_take : MethodName := ⟨"RuleKernelsModel", "take", "(II)Z"⟩
set_option maxRecDepth 20000 in
theorem tc_Mo_take : Cond.code y_Mo_take b_Mo_take 3 (Option.some FieldType.boolean) ∈ tT := tm (i := 671) rfl rfl
abbrev ws_Mo_take : List Cond := Cond.code y_Mo_take b_Mo_take 3 (Option.some FieldType.boolean) :: tT
abbrev b_Mo_set : ByteArray := prog_10_method_17_code
def y_Mo_set : MethodName := ⟨"RuleKernelsModel", "set", "(II)Z"⟩
set_option maxRecDepth 20000 in
theorem tc_Mo_set : Cond.code y_Mo_set b_Mo_set 5 (Option.some FieldType.boolean) ∈ tT := tm (i := 687) rfl rfl
abbrev ws_Mo_set : List Cond := Cond.code y_Mo_set b_Mo_set 5 (Option.some FieldType.boolean) :: tT
abbrev b_Mo_factorOf : ByteArray := prog_10_method_18_code
def y_Mo_factorOf : MethodName := ⟨"RuleKernelsModel", "factorOf", "(II)J"⟩
set_option maxRecDepth 20000 in
theorem tc_Mo_factorOf : Cond.code y_Mo_factorOf b_Mo_factorOf 3 (Option.some FieldType.long) ∈ tT := tm (i := 722) rfl rfl
abbrev ws_Mo_factorOf : List Cond := Cond.code y_Mo_factorOf b_Mo_factorOf 3 (Option.some FieldType.long) :: tT
abbrev b_Mo_unlike : ByteArray := prog_10_method_19_code
def y_Mo_unlike : MethodName := ⟨"RuleKernelsModel", "unlike", "(I)V"⟩
set_option maxRecDepth 20000 in
theorem tc_Mo_unlike : Cond.code y_Mo_unlike b_Mo_unlike 8 (Option.none : Option FieldType) ∈ tT := tm (i := 703) rfl rfl
abbrev ws_Mo_unlike : List Cond := Cond.code y_Mo_unlike b_Mo_unlike 8 (Option.none : Option FieldType) :: tT
abbrev b_Mo_equal : ByteArray := prog_10_method_20_code
def y_Mo_equal : MethodName := ⟨"RuleKernelsModel", "equal", "(I)V"⟩
set_option maxRecDepth 20000 in
theorem tc_Mo_equal : Cond.code y_Mo_equal b_Mo_equal 5 (Option.none : Option FieldType) ∈ tT := tm (i := 710) rfl rfl
abbrev ws_Mo_equal : List Cond := Cond.code y_Mo_equal b_Mo_equal 5 (Option.none : Option FieldType) :: tT
abbrev b_Mo_bound : ByteArray := prog_10_method_21_code
def y_Mo_bound : MethodName := ⟨"RuleKernelsModel", "bound", "(IIZ)J"⟩
set_option maxRecDepth 20000 in
theorem tc_Mo_bound : Cond.code y_Mo_bound b_Mo_bound 10 (Option.some FieldType.long) ∈ tT := tm (i := 718) rfl rfl
abbrev ws_Mo_bound : List Cond := Cond.code y_Mo_bound b_Mo_bound 10 (Option.some FieldType.long) :: tT
abbrev b_Mo_sum : ByteArray := prog_10_method_22_code
def y_Mo_sum : MethodName := ⟨"RuleKernelsModel", "sum", "(IIZ)V"⟩
set_option maxRecDepth 20000 in
theorem tc_Mo_sum : Cond.code y_Mo_sum b_Mo_sum 12 (Option.none : Option FieldType) ∈ tT := tm (i := 714) rfl rfl
abbrev ws_Mo_sum : List Cond := Cond.code y_Mo_sum b_Mo_sum 12 (Option.none : Option FieldType) :: tT
abbrev b_Mo_can : ByteArray := prog_10_method_23_code
def y_Mo_can : MethodName := ⟨"RuleKernelsModel", "can", "(II)Z"⟩
set_option maxRecDepth 20000 in
theorem tc_Mo_can : Cond.code y_Mo_can b_Mo_can 5 (Option.some FieldType.boolean) ∈ tT := tm (i := 730) rfl rfl
abbrev ws_Mo_can : List Cond := Cond.code y_Mo_can b_Mo_can 5 (Option.some FieldType.boolean) :: tT
abbrev b_Mo_must : ByteArray := prog_10_method_24_code
def y_Mo_must : MethodName := ⟨"RuleKernelsModel", "must", "(II)Z"⟩
set_option maxRecDepth 20000 in
theorem tc_Mo_must : Cond.code y_Mo_must b_Mo_must 3 (Option.some FieldType.boolean) ∈ tT := tm (i := 734) rfl rfl
abbrev ws_Mo_must : List Cond := Cond.code y_Mo_must b_Mo_must 3 (Option.some FieldType.boolean) :: tT
abbrev b_Mo_count : ByteArray := prog_10_method_25_code
def y_Mo_count : MethodName := ⟨"RuleKernelsModel", "count", "(II)V"⟩
set_option maxRecDepth 20000 in
theorem tc_Mo_count : Cond.code y_Mo_count b_Mo_count 8 (Option.none : Option FieldType) ∈ tT := tm (i := 726) rfl rfl
abbrev ws_Mo_count : List Cond := Cond.code y_Mo_count b_Mo_count 8 (Option.none : Option FieldType) :: tT
abbrev b_Mo_rising : ByteArray := prog_10_method_26_code
def y_Mo_rising : MethodName := ⟨"RuleKernelsModel", "rising", "(I)V"⟩
set_option maxRecDepth 20000 in
theorem tc_Mo_rising : Cond.code y_Mo_rising b_Mo_rising 7 (Option.none : Option FieldType) ∈ tT := tm (i := 738) rfl rfl
abbrev ws_Mo_rising : List Cond := Cond.code y_Mo_rising b_Mo_rising 7 (Option.none : Option FieldType) :: tT
abbrev b_Mo_isCandidate : ByteArray := prog_10_method_27_code
def y_Mo_isCandidate : MethodName := ⟨"RuleKernelsModel", "isCandidate", "(IJ)Z"⟩
set_option maxRecDepth 20000 in
theorem tc_Mo_isCandidate : Cond.code y_Mo_isCandidate b_Mo_isCandidate 4 (Option.some FieldType.boolean) ∈ tT := tm (i := 746) rfl rfl
abbrev ws_Mo_isCandidate : List Cond := Cond.code y_Mo_isCandidate b_Mo_isCandidate 4 (Option.some FieldType.boolean) :: tT
abbrev b_Mo_apart : ByteArray := prog_10_method_28_code
def y_Mo_apart : MethodName := ⟨"RuleKernelsModel", "apart", "(I)V"⟩
set_option maxRecDepth 20000 in
theorem tc_Mo_apart : Cond.code y_Mo_apart b_Mo_apart 4 (Option.none : Option FieldType) ∈ tT := tm (i := 742) rfl rfl
abbrev ws_Mo_apart : List Cond := Cond.code y_Mo_apart b_Mo_apart 4 (Option.none : Option FieldType) :: tT
abbrev b_Mo_byTable : ByteArray := prog_10_method_29_code
def y_Mo_byTable : MethodName := ⟨"RuleKernelsModel", "byTable", "(I)V"⟩
set_option maxRecDepth 20000 in
theorem tc_Mo_byTable : Cond.code y_Mo_byTable b_Mo_byTable 3 (Option.none : Option FieldType) ∈ tT := tm (i := 750) rfl rfl
abbrev ws_Mo_byTable : List Cond := Cond.code y_Mo_byTable b_Mo_byTable 3 (Option.none : Option FieldType) :: tT
abbrev b_Mo_find : ByteArray := prog_10_method_30_code
def y_Mo_find : MethodName := ⟨"RuleKernelsModel", "find", "(I)V"⟩
set_option maxRecDepth 20000 in
theorem tc_Mo_find : Cond.code y_Mo_find b_Mo_find 4 (Option.none : Option FieldType) ∈ tT := tm (i := 699) rfl rfl
abbrev ws_Mo_find : List Cond := Cond.code y_Mo_find b_Mo_find 4 (Option.none : Option FieldType) :: tT
abbrev b_Mo_emptyPlace : ByteArray := prog_10_method_31_code
def y_Mo_emptyPlace : MethodName := ⟨"RuleKernelsModel", "emptyPlace", "()I"⟩
set_option maxRecDepth 20000 in
theorem tc_Mo_emptyPlace : Cond.code y_Mo_emptyPlace b_Mo_emptyPlace 2 (Option.some FieldType.int) ∈ tT := tm (i := 695) rfl rfl
abbrev ws_Mo_emptyPlace : List Cond := Cond.code y_Mo_emptyPlace b_Mo_emptyPlace 2 (Option.some FieldType.int) :: tT
abbrev b_Mo_run : ByteArray := prog_10_method_32_code
def y_Mo_run : MethodName := ⟨"RuleKernelsModel", "run", "()I"⟩
set_option maxRecDepth 20000 in
theorem tc_Mo_run : Cond.code y_Mo_run b_Mo_run 5 (Option.some FieldType.int) ∈ tT := tm (i := 691) rfl rfl
abbrev ws_Mo_run : List Cond := Cond.code y_Mo_run b_Mo_run 5 (Option.some FieldType.int) :: tT
abbrev b_Mo_candidates : ByteArray := prog_10_method_33_code
def y_Mo_candidates : MethodName := ⟨"RuleKernelsModel", "candidates", "(I)J"⟩
set_option maxRecDepth 20000 in
theorem tc_Mo_candidates : Cond.code y_Mo_candidates b_Mo_candidates 2 (Option.some FieldType.long) ∈ tT := tm (i := 754) rfl rfl
abbrev ws_Mo_candidates : List Cond := Cond.code y_Mo_candidates b_Mo_candidates 2 (Option.some FieldType.long) :: tT
abbrev b_Mo_reason : ByteArray := prog_10_method_34_code
def y_Mo_reason : MethodName := ⟨"RuleKernelsModel", "reason", "(III)I"⟩
set_option maxRecDepth 20000 in
theorem tc_Mo_reason : Cond.code y_Mo_reason b_Mo_reason 5 (Option.some FieldType.int) ∈ tT := tm (i := 758) rfl rfl
abbrev ws_Mo_reason : List Cond := Cond.code y_Mo_reason b_Mo_reason 5 (Option.some FieldType.int) :: tT
abbrev b_Mo_woken : ByteArray := prog_10_method_35_code
def y_Mo_woken : MethodName := ⟨"RuleKernelsModel", "woken", "()I"⟩
set_option maxRecDepth 20000 in
theorem tc_Mo_woken : Cond.code y_Mo_woken b_Mo_woken 1 (Option.some FieldType.int) ∈ tT := tm (i := 762) rfl rfl
abbrev ws_Mo_woken : List Cond := Cond.code y_Mo_woken b_Mo_woken 1 (Option.some FieldType.int) :: tT
abbrev b_Mo_order : ByteArray := prog_10_method_36_code
def y_Mo_order : MethodName := ⟨"RuleKernelsModel", "order", "(I)I"⟩
set_option maxRecDepth 20000 in
theorem tc_Mo_order : Cond.code y_Mo_order b_Mo_order 2 (Option.some FieldType.int) ∈ tT := tm (i := 766) rfl rfl
abbrev ws_Mo_order : List Cond := Cond.code y_Mo_order b_Mo_order 2 (Option.some FieldType.int) :: tT
abbrev b_Mo_mark : ByteArray := prog_10_method_37_code
def y_Mo_mark : MethodName := ⟨"RuleKernelsModel", "mark", "()I"⟩
set_option maxRecDepth 20000 in
theorem tc_Mo_mark : Cond.code y_Mo_mark b_Mo_mark 2 (Option.some FieldType.int) ∈ tT := tm (i := 770) rfl rfl
abbrev ws_Mo_mark : List Cond := Cond.code y_Mo_mark b_Mo_mark 2 (Option.some FieldType.int) :: tT
abbrev b_Mo_back : ByteArray := prog_10_method_38_code
def y_Mo_back : MethodName := ⟨"RuleKernelsModel", "back", "(I)Z"⟩
set_option maxRecDepth 20000 in
theorem tc_Mo_back : Cond.code y_Mo_back b_Mo_back 3 (Option.some FieldType.boolean) ∈ tT := tm (i := 774) rfl rfl
abbrev ws_Mo_back : List Cond := Cond.code y_Mo_back b_Mo_back 3 (Option.some FieldType.boolean) :: tT
abbrev b_Mo_init : ByteArray := prog_10_method_1_code
def y_Mo_init : MethodName := ⟨"RuleKernelsModel", "<init>", "(II)V"⟩
set_option maxRecDepth 20000 in
theorem tc_Mo_init : Cond.code y_Mo_init b_Mo_init 4 (Option.none : Option FieldType) ∈ tT := tm (i := 538) rfl rfl
abbrev ws_Mo_init : List Cond := Cond.code y_Mo_init b_Mo_init 4 (Option.none : Option FieldType) :: tT
set_option maxRecDepth 20000 in
theorem tc_objinit : (Cond.code ⟨"java/lang/Object", "<init>", "()V"⟩ object_method_1_code 1 (Option.none : Option FieldType)) ∈ tT := tm (i := 62) rfl rfl
set_option maxRecDepth 20000 in
theorem tc_mmax : (Cond.code ⟨"java/lang/Math", "max", "(II)I"⟩ prog_13_method_65_code 2 (Option.some FieldType.int)) ∈ tT := tm (i := 68) rfl rfl
set_option maxRecDepth 20000 in
theorem tc_mmin : (Cond.code ⟨"java/lang/Math", "min", "(II)I"⟩ prog_13_method_69_code 2 (Option.some FieldType.int)) ∈ tT := tm (i := 65) rfl rfl
set_option maxRecDepth 20000 in
theorem tc_mabs : (Cond.code ⟨"java/lang/Math", "abs", "(J)J"⟩ prog_13_method_61_code 2 (Option.some FieldType.long)) ∈ tT := tm (i := 454) rfl rfl
