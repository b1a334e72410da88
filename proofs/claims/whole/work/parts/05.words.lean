/-! the words of the tables, each by its place in lw_tbl -/
def hx_ws : List Cond := lw_tbl.filter goodWord
theorem hx_wsI : ∀ w ∈ hx_ws, w ∈ lw_tbl := fun _ h => (List.mem_filter.mp h).1
theorem tb_0 : Cond.selects "DearVotes$Search" ⟨"DearVotes$Search", "listChoices", "(III)V"⟩ ⟨"DearVotes$Search", "listChoices", "(III)V"⟩ ∈ hx_ws := List.mem_filter.mpr ⟨List.mem_of_getElem? (i := 0) (by decide +kernel), rfl⟩
theorem tb_1 : Cond.selects "DearVotes$Search" ⟨"DearVotes$Search", "addChoice", "(III)V"⟩ ⟨"DearVotes$Search", "addChoice", "(III)V"⟩ ∈ hx_ws := List.mem_filter.mpr ⟨List.mem_of_getElem? (i := 1) (by decide +kernel), rfl⟩
theorem tb_2 : Cond.selects "DearVotes$Search" ⟨"DearVotes$Search", "keepIfBetter", "(II)V"⟩ ⟨"DearVotes$Search", "keepIfBetter", "(II)V"⟩ ∈ hx_ws := List.mem_filter.mpr ⟨List.mem_of_getElem? (i := 2) (by decide +kernel), rfl⟩
theorem tb_3 : Cond.selects "DearVotes$Search" ⟨"DearVotes$Search", "triedIsLess", "()Z"⟩ ⟨"DearVotes$Search", "triedIsLess", "()Z"⟩ ∈ hx_ws := List.mem_filter.mpr ⟨List.mem_of_getElem? (i := 3) (by decide +kernel), rfl⟩
theorem tb_4 : Cond.selects "DearVotes$Rounds" ⟨"DearVotes$Rounds", "noteVoices", "(I)V"⟩ ⟨"DearVotes$Rounds", "noteVoices", "(I)V"⟩ ∈ hx_ws := List.mem_filter.mpr ⟨List.mem_of_getElem? (i := 4) (by decide +kernel), rfl⟩
theorem tb_5 : Cond.selects "DearVotes$Rounds" ⟨"DearVotes$Rounds", "doRound", "()I"⟩ ⟨"DearVotes$Rounds", "doRound", "()I"⟩ ∈ hx_ws := List.mem_filter.mpr ⟨List.mem_of_getElem? (i := 5) (by decide +kernel), rfl⟩
theorem tb_6 : Cond.selects "DearVotes$Rounds" ⟨"DearVotes$Rounds", "judge", "(II)V"⟩ ⟨"DearVotes$Rounds", "judge", "(II)V"⟩ ∈ hx_ws := List.mem_filter.mpr ⟨List.mem_of_getElem? (i := 6) (by decide +kernel), rfl⟩
theorem tb_7 : Cond.selects "DearVotes$Rounds" ⟨"DearVotes$Rounds", "isSameTrail", "(II)Z"⟩ ⟨"DearVotes$Rounds", "isSameTrail", "(II)Z"⟩ ∈ hx_ws := List.mem_filter.mpr ⟨List.mem_of_getElem? (i := 7) (by decide +kernel), rfl⟩
theorem tb_8 : Cond.selects "DearVotes$Fund" ⟨"DearVotes$Fund", "fineProduct", "(III)J"⟩ ⟨"DearVotes$Fund", "fineProduct", "(III)J"⟩ ∈ hx_ws := List.mem_filter.mpr ⟨List.mem_of_getElem? (i := 8) (by decide +kernel), rfl⟩
theorem tb_9 : Cond.selects "DearVotesModel" ⟨"DearVotesModel", "isPerson", "(I)Z"⟩ ⟨"DearVotesModel", "isPerson", "(I)Z"⟩ ∈ hx_ws := List.mem_filter.mpr ⟨List.mem_of_getElem? (i := 9) (by decide +kernel), rfl⟩
theorem tb_10 : Cond.selects "DearVotesModel" ⟨"DearVotesModel", "isQuestion", "(I)Z"⟩ ⟨"DearVotesModel", "isQuestion", "(I)Z"⟩ ∈ hx_ws := List.mem_filter.mpr ⟨List.mem_of_getElem? (i := 10) (by decide +kernel), rfl⟩
theorem tb_11 : Cond.selects "DearVotesModel" ⟨"DearVotesModel", "costOf", "(I)I"⟩ ⟨"DearVotesModel", "costOf", "(I)I"⟩ ∈ hx_ws := List.mem_filter.mpr ⟨List.mem_of_getElem? (i := 11) (by decide +kernel), rfl⟩
theorem tb_12 : Cond.selects "DearVotesModel" ⟨"DearVotesModel", "others", "(II)I"⟩ ⟨"DearVotesModel", "others", "(II)I"⟩ ∈ hx_ws := List.mem_filter.mpr ⟨List.mem_of_getElem? (i := 12) (by decide +kernel), rfl⟩
theorem tb_13 : Cond.selects "DearVotesModel" ⟨"DearVotesModel", "resultOf", "(II)I"⟩ ⟨"DearVotesModel", "resultOf", "(II)I"⟩ ∈ hx_ws := List.mem_filter.mpr ⟨List.mem_of_getElem? (i := 13) (by decide +kernel), rfl⟩
theorem tb_14 : Cond.selects "DearVotesModel" ⟨"DearVotesModel", "gainOf", "(I)I"⟩ ⟨"DearVotesModel", "gainOf", "(I)I"⟩ ∈ hx_ws := List.mem_filter.mpr ⟨List.mem_of_getElem? (i := 14) (by decide +kernel), rfl⟩
theorem tb_15 : Cond.selects "DearVotesModel" ⟨"DearVotesModel", "find", "(I)V"⟩ ⟨"DearVotesModel", "find", "(I)V"⟩ ∈ hx_ws := List.mem_filter.mpr ⟨List.mem_of_getElem? (i := 15) (by decide +kernel), rfl⟩
theorem tb_16 : Cond.selects "DearVotesModel" ⟨"DearVotesModel", "end", "(II)V"⟩ ⟨"DearVotesModel", "end", "(II)V"⟩ ∈ hx_ws := List.mem_filter.mpr ⟨List.mem_of_getElem? (i := 16) (by decide +kernel), rfl⟩
theorem tb_17 : Cond.selects "DearVotesModel" ⟨"DearVotesModel", "isBetter", "(II)Z"⟩ ⟨"DearVotesModel", "isBetter", "(II)Z"⟩ ∈ hx_ws := List.mem_filter.mpr ⟨List.mem_of_getElem? (i := 17) (by decide +kernel), rfl⟩
theorem tb_18 : Cond.selects "DearVotesModel" ⟨"DearVotesModel", "adopt", "(I)V"⟩ ⟨"DearVotesModel", "adopt", "(I)V"⟩ ∈ hx_ws := List.mem_filter.mpr ⟨List.mem_of_getElem? (i := 18) (by decide +kernel), rfl⟩
theorem tb_19 : Cond.selects "DearVotesModel" ⟨"DearVotesModel", "keep", "(I)V"⟩ ⟨"DearVotesModel", "keep", "(I)V"⟩ ∈ hx_ws := List.mem_filter.mpr ⟨List.mem_of_getElem? (i := 19) (by decide +kernel), rfl⟩
theorem tb_20 : Cond.selects "DearVotesModel" ⟨"DearVotesModel", "isAsBehind", "(I)Z"⟩ ⟨"DearVotesModel", "isAsBehind", "(I)Z"⟩ ∈ hx_ws := List.mem_filter.mpr ⟨List.mem_of_getElem? (i := 20) (by decide +kernel), rfl⟩
theorem tb_21 : Cond.selects "DearVotesModel" ⟨"DearVotesModel", "isProject", "(I)Z"⟩ ⟨"DearVotesModel", "isProject", "(I)Z"⟩ ∈ hx_ws := List.mem_filter.mpr ⟨List.mem_of_getElem? (i := 21) (by decide +kernel), rfl⟩
theorem tb_22 : Cond.selects "DearVotesModel" ⟨"DearVotesModel", "matchedOf", "(IIZ)J"⟩ ⟨"DearVotesModel", "matchedOf", "(IIZ)J"⟩ ∈ hx_ws := List.mem_filter.mpr ⟨List.mem_of_getElem? (i := 22) (by decide +kernel), rfl⟩
theorem tb_23 : Cond.selects "DearVotesModel" ⟨"DearVotesModel", "likenessOf", "(II)I"⟩ ⟨"DearVotesModel", "likenessOf", "(II)I"⟩ ∈ hx_ws := List.mem_filter.mpr ⟨List.mem_of_getElem? (i := 23) (by decide +kernel), rfl⟩
theorem tb_24 : Cond.selects "DearVotesModel" ⟨"DearVotesModel", "mix", "(J)V"⟩ ⟨"DearVotesModel", "mix", "(J)V"⟩ ∈ hx_ws := List.mem_filter.mpr ⟨List.mem_of_getElem? (i := 24) (by decide +kernel), rfl⟩
theorem tb_25 : Cond.initialized "DearVotesLaw" ∈ hx_ws := List.mem_filter.mpr ⟨List.mem_of_getElem? (i := 25) (by decide +kernel), rfl⟩
theorem tb_26 : Cond.initialized "DearVotes" ∈ hx_ws := List.mem_filter.mpr ⟨List.mem_of_getElem? (i := 26) (by decide +kernel), rfl⟩
theorem tb_27 : Cond.initialized "DearVotes$House" ∈ hx_ws := List.mem_filter.mpr ⟨List.mem_of_getElem? (i := 27) (by decide +kernel), rfl⟩
theorem tb_28 : Cond.initialized "DearVotes$Search" ∈ hx_ws := List.mem_filter.mpr ⟨List.mem_of_getElem? (i := 28) (by decide +kernel), rfl⟩
theorem tb_29 : Cond.initialized "DearVotes$Rounds" ∈ hx_ws := List.mem_filter.mpr ⟨List.mem_of_getElem? (i := 29) (by decide +kernel), rfl⟩
theorem tb_30 : Cond.initialized "DearVotes$Fund" ∈ hx_ws := List.mem_filter.mpr ⟨List.mem_of_getElem? (i := 30) (by decide +kernel), rfl⟩
theorem tb_31 : Cond.initialized "DearVotesModel" ∈ hx_ws := List.mem_filter.mpr ⟨List.mem_of_getElem? (i := 31) (by decide +kernel), rfl⟩
theorem tb_32 : Cond.initialized "java/lang/System" ∈ hx_ws := List.mem_filter.mpr ⟨List.mem_of_getElem? (i := 32) (by decide +kernel), rfl⟩
theorem tb_33 : Cond.classLink "DearVotesLaw" 7 "DearVotes" ∈ hx_ws := List.mem_filter.mpr ⟨List.mem_of_getElem? (i := 33) (by decide +kernel), rfl⟩
theorem tb_34 : Cond.instantiable "DearVotes" 4 ∈ hx_ws := List.mem_filter.mpr ⟨List.mem_of_getElem? (i := 34) (by decide +kernel), rfl⟩
theorem tb_35 : Cond.methodLink "DearVotesLaw" 9 ⟨"DearVotes", "<init>", "()V"⟩ ∈ hx_ws := List.mem_filter.mpr ⟨List.mem_of_getElem? (i := 35) (by decide +kernel), rfl⟩
theorem tb_36 : Cond.instanceMethod ⟨"DearVotes", "<init>", "()V"⟩ ∈ hx_ws := List.mem_filter.mpr ⟨List.mem_of_getElem? (i := 36) (by decide +kernel), rfl⟩
theorem tb_37 : Cond.code ⟨"DearVotes", "<init>", "()V"⟩ prog_1_method_1_code 1 (Option.none : Option Jvm.ClassFile.FieldType) ∈ hx_ws := List.mem_filter.mpr ⟨List.mem_of_getElem? (i := 37) (by decide +kernel), rfl⟩
theorem tb_38 : Cond.methodLink "DearVotes" 1 ⟨"java/lang/Object", "<init>", "()V"⟩ ∈ hx_ws := List.mem_filter.mpr ⟨List.mem_of_getElem? (i := 38) (by decide +kernel), rfl⟩
theorem tb_39 : Cond.instanceMethod ⟨"java/lang/Object", "<init>", "()V"⟩ ∈ hx_ws := List.mem_filter.mpr ⟨List.mem_of_getElem? (i := 39) (by decide +kernel), rfl⟩
theorem tb_40 : Cond.code ⟨"java/lang/Object", "<init>", "()V"⟩ object_method_1_code 1 (Option.none : Option Jvm.ClassFile.FieldType) ∈ hx_ws := List.mem_filter.mpr ⟨List.mem_of_getElem? (i := 40) (by decide +kernel), rfl⟩
theorem tb_41 : Cond.classLink "DearVotes" 7 "DearVotes$House" ∈ hx_ws := List.mem_filter.mpr ⟨List.mem_of_getElem? (i := 41) (by decide +kernel), rfl⟩
theorem tb_42 : Cond.instantiable "DearVotes$House" 7 ∈ hx_ws := List.mem_filter.mpr ⟨List.mem_of_getElem? (i := 42) (by decide +kernel), rfl⟩
theorem tb_43 : Cond.methodLinkNest "DearVotes" 9 ⟨"DearVotes$House", "<init>", "()V"⟩ "DearVotes" ∈ lw_tbl := List.mem_of_getElem? (i := 43) (by decide +kernel)
theorem tb_44 : Cond.instanceMethod ⟨"DearVotes$House", "<init>", "()V"⟩ ∈ hx_ws := List.mem_filter.mpr ⟨List.mem_of_getElem? (i := 44) (by decide +kernel), rfl⟩
theorem tb_45 : Cond.code ⟨"DearVotes$House", "<init>", "()V"⟩ prog_3_method_1_code 1 (Option.none : Option Jvm.ClassFile.FieldType) ∈ hx_ws := List.mem_filter.mpr ⟨List.mem_of_getElem? (i := 45) (by decide +kernel), rfl⟩
theorem tb_46 : Cond.methodLink "DearVotes$House" 3 ⟨"java/lang/Object", "<init>", "()V"⟩ ∈ hx_ws := List.mem_filter.mpr ⟨List.mem_of_getElem? (i := 46) (by decide +kernel), rfl⟩
theorem tb_47 : Cond.classLink "DearVotes$House" 19 "[[I" ∈ hx_ws := List.mem_filter.mpr ⟨List.mem_of_getElem? (i := 47) (by decide +kernel), rfl⟩
theorem tb_48 : Cond.arrayOver (Jvm.ClassFile.FieldType.array Jvm.ClassFile.FieldType.int) ∈ lw_tbl := List.mem_of_getElem? (i := 48) (by decide +kernel)
theorem tb_49 : Cond.fieldLink "DearVotes$House" 27 "DearVotes$House" "people" "I" ∈ hx_ws := List.mem_filter.mpr ⟨List.mem_of_getElem? (i := 49) (by decide +kernel), rfl⟩
theorem tb_50 : Cond.fieldLink "DearVotes" 45 "DearVotes$House" "people" "I" ∈ hx_ws := List.mem_filter.mpr ⟨List.mem_of_getElem? (i := 50) (by decide +kernel), rfl⟩
theorem tb_51 : Cond.fieldLink "DearVotes$Rounds" 49 "DearVotes$House" "people" "I" ∈ hx_ws := List.mem_filter.mpr ⟨List.mem_of_getElem? (i := 51) (by decide +kernel), rfl⟩
theorem tb_52 : Cond.fieldLink "DearVotes$Fund" 31 "DearVotes$House" "people" "I" ∈ hx_ws := List.mem_filter.mpr ⟨List.mem_of_getElem? (i := 52) (by decide +kernel), rfl⟩
theorem tb_53 : Cond.fieldLink "DearVotes$Search" 52 "DearVotes$House" "questions" "I" ∈ hx_ws := List.mem_filter.mpr ⟨List.mem_of_getElem? (i := 53) (by decide +kernel), rfl⟩
theorem tb_54 : Cond.fieldLink "DearVotes" 53 "DearVotes$House" "questions" "I" ∈ hx_ws := List.mem_filter.mpr ⟨List.mem_of_getElem? (i := 54) (by decide +kernel), rfl⟩
theorem tb_55 : Cond.fieldLink "DearVotes$House" 31 "DearVotes$House" "questions" "I" ∈ hx_ws := List.mem_filter.mpr ⟨List.mem_of_getElem? (i := 55) (by decide +kernel), rfl⟩
theorem tb_56 : Cond.fieldLink "DearVotes" 59 "DearVotes$House" "seed" "I" ∈ hx_ws := List.mem_filter.mpr ⟨List.mem_of_getElem? (i := 56) (by decide +kernel), rfl⟩
theorem tb_57 : Cond.fieldLink "DearVotes$House" 38 "DearVotes$House" "seed" "I" ∈ hx_ws := List.mem_filter.mpr ⟨List.mem_of_getElem? (i := 57) (by decide +kernel), rfl⟩
theorem tb_58 : Cond.fieldLink "DearVotes$House" 9 "DearVotes$House" "budgets" "[I" ∈ hx_ws := List.mem_filter.mpr ⟨List.mem_of_getElem? (i := 58) (by decide +kernel), rfl⟩
theorem tb_59 : Cond.fieldLink "DearVotes$Search" 36 "DearVotes$House" "budgets" "[I" ∈ hx_ws := List.mem_filter.mpr ⟨List.mem_of_getElem? (i := 59) (by decide +kernel), rfl⟩
theorem tb_60 : Cond.fieldLink "DearVotes" 76 "DearVotes$House" "budgets" "[I" ∈ hx_ws := List.mem_filter.mpr ⟨List.mem_of_getElem? (i := 60) (by decide +kernel), rfl⟩
theorem tb_61 : Cond.fieldLink "DearVotes$House" 15 "DearVotes$House" "present" "[Z" ∈ hx_ws := List.mem_filter.mpr ⟨List.mem_of_getElem? (i := 61) (by decide +kernel), rfl⟩
theorem tb_62 : Cond.fieldLink "DearVotes$Rounds" 54 "DearVotes$House" "present" "[Z" ∈ hx_ws := List.mem_filter.mpr ⟨List.mem_of_getElem? (i := 62) (by decide +kernel), rfl⟩
theorem tb_63 : Cond.fieldLink "DearVotes" 83 "DearVotes$House" "present" "[Z" ∈ hx_ws := List.mem_filter.mpr ⟨List.mem_of_getElem? (i := 63) (by decide +kernel), rfl⟩
theorem tb_64 : Cond.fieldLink "DearVotes$House" 21 "DearVotes$House" "voices" "[[I" ∈ hx_ws := List.mem_filter.mpr ⟨List.mem_of_getElem? (i := 64) (by decide +kernel), rfl⟩
theorem tb_65 : Cond.fieldLink "DearVotes$Search" 70 "DearVotes$House" "voices" "[[I" ∈ hx_ws := List.mem_filter.mpr ⟨List.mem_of_getElem? (i := 65) (by decide +kernel), rfl⟩
theorem tb_66 : Cond.fieldLink "DearVotes" 69 "DearVotes$House" "voices" "[[I" ∈ hx_ws := List.mem_filter.mpr ⟨List.mem_of_getElem? (i := 66) (by decide +kernel), rfl⟩
theorem tb_67 : Cond.fieldLink "DearVotes$House" 24 "DearVotes$House" "worths" "[[I" ∈ hx_ws := List.mem_filter.mpr ⟨List.mem_of_getElem? (i := 67) (by decide +kernel), rfl⟩
theorem tb_68 : Cond.fieldLink "DearVotes$Search" 59 "DearVotes$House" "worths" "[[I" ∈ hx_ws := List.mem_filter.mpr ⟨List.mem_of_getElem? (i := 68) (by decide +kernel), rfl⟩
theorem tb_69 : Cond.fieldLink "DearVotes" 80 "DearVotes$House" "worths" "[[I" ∈ hx_ws := List.mem_filter.mpr ⟨List.mem_of_getElem? (i := 69) (by decide +kernel), rfl⟩
theorem tb_70 : Cond.lays "DearVotes$House" "DearVotes$House" "people" "I" ∈ hx_ws := List.mem_filter.mpr ⟨List.mem_of_getElem? (i := 70) (by decide +kernel), rfl⟩
theorem tb_71 : Cond.soleField "DearVotes$House" "people" ∈ hx_ws := List.mem_filter.mpr ⟨List.mem_of_getElem? (i := 71) (by decide +kernel), rfl⟩
theorem tb_72 : Cond.lays "DearVotes$House" "DearVotes$House" "questions" "I" ∈ hx_ws := List.mem_filter.mpr ⟨List.mem_of_getElem? (i := 72) (by decide +kernel), rfl⟩
theorem tb_73 : Cond.soleField "DearVotes$House" "questions" ∈ hx_ws := List.mem_filter.mpr ⟨List.mem_of_getElem? (i := 73) (by decide +kernel), rfl⟩
theorem tb_74 : Cond.lays "DearVotes$House" "DearVotes$House" "seed" "I" ∈ hx_ws := List.mem_filter.mpr ⟨List.mem_of_getElem? (i := 74) (by decide +kernel), rfl⟩
theorem tb_75 : Cond.soleField "DearVotes$House" "seed" ∈ hx_ws := List.mem_filter.mpr ⟨List.mem_of_getElem? (i := 75) (by decide +kernel), rfl⟩
theorem tb_76 : Cond.laysFinal "DearVotes$House" "DearVotes$House" "budgets" "[I" ∈ hx_ws := List.mem_filter.mpr ⟨List.mem_of_getElem? (i := 76) (by decide +kernel), rfl⟩
theorem tb_77 : Cond.soleField "DearVotes$House" "budgets" ∈ hx_ws := List.mem_filter.mpr ⟨List.mem_of_getElem? (i := 77) (by decide +kernel), rfl⟩
theorem tb_78 : Cond.laysFinal "DearVotes$House" "DearVotes$House" "present" "[Z" ∈ hx_ws := List.mem_filter.mpr ⟨List.mem_of_getElem? (i := 78) (by decide +kernel), rfl⟩
theorem tb_79 : Cond.soleField "DearVotes$House" "present" ∈ hx_ws := List.mem_filter.mpr ⟨List.mem_of_getElem? (i := 79) (by decide +kernel), rfl⟩
theorem tb_80 : Cond.laysFinal "DearVotes$House" "DearVotes$House" "voices" "[[I" ∈ hx_ws := List.mem_filter.mpr ⟨List.mem_of_getElem? (i := 80) (by decide +kernel), rfl⟩
theorem tb_81 : Cond.soleField "DearVotes$House" "voices" ∈ hx_ws := List.mem_filter.mpr ⟨List.mem_of_getElem? (i := 81) (by decide +kernel), rfl⟩
theorem tb_82 : Cond.laysFinal "DearVotes$House" "DearVotes$House" "worths" "[[I" ∈ hx_ws := List.mem_filter.mpr ⟨List.mem_of_getElem? (i := 82) (by decide +kernel), rfl⟩
theorem tb_83 : Cond.soleField "DearVotes$House" "worths" ∈ hx_ws := List.mem_filter.mpr ⟨List.mem_of_getElem? (i := 83) (by decide +kernel), rfl⟩
theorem tb_84 : Cond.superclass "DearVotes$House" "java/lang/Object" ∈ hx_ws := List.mem_filter.mpr ⟨List.mem_of_getElem? (i := 84) (by decide +kernel), rfl⟩
theorem tb_85 : Cond.arrayClass Jvm.ClassFile.FieldType.int ∈ hx_ws := List.mem_filter.mpr ⟨List.mem_of_getElem? (i := 85) (by decide +kernel), rfl⟩
theorem tb_86 : Cond.arrayClass Jvm.ClassFile.FieldType.boolean ∈ hx_ws := List.mem_filter.mpr ⟨List.mem_of_getElem? (i := 86) (by decide +kernel), rfl⟩
theorem tb_87 : Cond.classLink "DearVotes" 16 "DearVotes$Search" ∈ hx_ws := List.mem_filter.mpr ⟨List.mem_of_getElem? (i := 87) (by decide +kernel), rfl⟩
theorem tb_88 : Cond.instantiable "DearVotes$Search" 10 ∈ hx_ws := List.mem_filter.mpr ⟨List.mem_of_getElem? (i := 88) (by decide +kernel), rfl⟩
theorem tb_89 : Cond.methodLink "DearVotes" 18 ⟨"DearVotes$Search", "<init>", "(LDearVotes$House;)V"⟩ ∈ hx_ws := List.mem_filter.mpr ⟨List.mem_of_getElem? (i := 89) (by decide +kernel), rfl⟩
theorem tb_90 : Cond.instanceMethod ⟨"DearVotes$Search", "<init>", "(LDearVotes$House;)V"⟩ ∈ hx_ws := List.mem_filter.mpr ⟨List.mem_of_getElem? (i := 90) (by decide +kernel), rfl⟩
theorem tb_91 : Cond.code ⟨"DearVotes$Search", "<init>", "(LDearVotes$House;)V"⟩ prog_5_method_1_code 2 (Option.none : Option Jvm.ClassFile.FieldType) ∈ hx_ws := List.mem_filter.mpr ⟨List.mem_of_getElem? (i := 91) (by decide +kernel), rfl⟩
theorem tb_92 : Cond.methodLink "DearVotes$Search" 3 ⟨"java/lang/Object", "<init>", "()V"⟩ ∈ hx_ws := List.mem_filter.mpr ⟨List.mem_of_getElem? (i := 92) (by decide +kernel), rfl⟩
theorem tb_93 : Cond.classLink "DearVotes$Search" 15 "[[I" ∈ hx_ws := List.mem_filter.mpr ⟨List.mem_of_getElem? (i := 93) (by decide +kernel), rfl⟩
theorem tb_94 : Cond.fieldLink "DearVotes$Search" 32 "DearVotes$Search" "house" "LDearVotes$House;" ∈ hx_ws := List.mem_filter.mpr ⟨List.mem_of_getElem? (i := 94) (by decide +kernel), rfl⟩
theorem tb_95 : Cond.fieldLink "DearVotes$Search" 9 "DearVotes$Search" "choices" "[I" ∈ hx_ws := List.mem_filter.mpr ⟨List.mem_of_getElem? (i := 95) (by decide +kernel), rfl⟩
theorem tb_96 : Cond.fieldLink "DearVotes$Search" 17 "DearVotes$Search" "choiceVoices" "[[I" ∈ hx_ws := List.mem_filter.mpr ⟨List.mem_of_getElem? (i := 96) (by decide +kernel), rfl⟩
theorem tb_97 : Cond.fieldLink "DearVotes$Search" 20 "DearVotes$Search" "choiceGains" "[[I" ∈ hx_ws := List.mem_filter.mpr ⟨List.mem_of_getElem? (i := 97) (by decide +kernel), rfl⟩
theorem tb_98 : Cond.fieldLink "DearVotes$Search" 23 "DearVotes$Search" "gainAhead" "[I" ∈ hx_ws := List.mem_filter.mpr ⟨List.mem_of_getElem? (i := 98) (by decide +kernel), rfl⟩
theorem tb_99 : Cond.fieldLink "DearVotes$Search" 26 "DearVotes$Search" "tried" "[I" ∈ hx_ws := List.mem_filter.mpr ⟨List.mem_of_getElem? (i := 99) (by decide +kernel), rfl⟩
theorem tb_100 : Cond.fieldLink "DearVotes$Search" 29 "DearVotes$Search" "found" "[I" ∈ hx_ws := List.mem_filter.mpr ⟨List.mem_of_getElem? (i := 100) (by decide +kernel), rfl⟩
theorem tb_101 : Cond.fieldLink "DearVotes" 108 "DearVotes$Search" "found" "[I" ∈ hx_ws := List.mem_filter.mpr ⟨List.mem_of_getElem? (i := 101) (by decide +kernel), rfl⟩
theorem tb_102 : Cond.fieldLink "DearVotes$Search" 46 "DearVotes$Search" "foundGain" "I" ∈ hx_ws := List.mem_filter.mpr ⟨List.mem_of_getElem? (i := 102) (by decide +kernel), rfl⟩
theorem tb_103 : Cond.fieldLink "DearVotes$Rounds" 63 "DearVotes$Search" "foundGain" "I" ∈ hx_ws := List.mem_filter.mpr ⟨List.mem_of_getElem? (i := 103) (by decide +kernel), rfl⟩
theorem tb_104 : Cond.fieldLink "DearVotes" 105 "DearVotes$Search" "foundGain" "I" ∈ hx_ws := List.mem_filter.mpr ⟨List.mem_of_getElem? (i := 104) (by decide +kernel), rfl⟩
theorem tb_105 : Cond.fieldLink "DearVotes$Search" 49 "DearVotes$Search" "foundCost" "I" ∈ hx_ws := List.mem_filter.mpr ⟨List.mem_of_getElem? (i := 105) (by decide +kernel), rfl⟩
theorem tb_106 : Cond.fieldLink "DearVotes$Search" 41 "DearVotes$Search" "budget" "I" ∈ hx_ws := List.mem_filter.mpr ⟨List.mem_of_getElem? (i := 106) (by decide +kernel), rfl⟩
theorem tb_107 : Cond.laysFinal "DearVotes$Search" "DearVotes$Search" "house" "LDearVotes$House;" ∈ hx_ws := List.mem_filter.mpr ⟨List.mem_of_getElem? (i := 107) (by decide +kernel), rfl⟩
theorem tb_108 : Cond.soleField "DearVotes$Search" "house" ∈ hx_ws := List.mem_filter.mpr ⟨List.mem_of_getElem? (i := 108) (by decide +kernel), rfl⟩
theorem tb_109 : Cond.laysFinal "DearVotes$Search" "DearVotes$Search" "choices" "[I" ∈ hx_ws := List.mem_filter.mpr ⟨List.mem_of_getElem? (i := 109) (by decide +kernel), rfl⟩
theorem tb_110 : Cond.soleField "DearVotes$Search" "choices" ∈ hx_ws := List.mem_filter.mpr ⟨List.mem_of_getElem? (i := 110) (by decide +kernel), rfl⟩
theorem tb_111 : Cond.laysFinal "DearVotes$Search" "DearVotes$Search" "choiceVoices" "[[I" ∈ hx_ws := List.mem_filter.mpr ⟨List.mem_of_getElem? (i := 111) (by decide +kernel), rfl⟩
theorem tb_112 : Cond.soleField "DearVotes$Search" "choiceVoices" ∈ hx_ws := List.mem_filter.mpr ⟨List.mem_of_getElem? (i := 112) (by decide +kernel), rfl⟩
theorem tb_113 : Cond.laysFinal "DearVotes$Search" "DearVotes$Search" "choiceGains" "[[I" ∈ hx_ws := List.mem_filter.mpr ⟨List.mem_of_getElem? (i := 113) (by decide +kernel), rfl⟩
theorem tb_114 : Cond.soleField "DearVotes$Search" "choiceGains" ∈ hx_ws := List.mem_filter.mpr ⟨List.mem_of_getElem? (i := 114) (by decide +kernel), rfl⟩
theorem tb_115 : Cond.laysFinal "DearVotes$Search" "DearVotes$Search" "gainAhead" "[I" ∈ hx_ws := List.mem_filter.mpr ⟨List.mem_of_getElem? (i := 115) (by decide +kernel), rfl⟩
theorem tb_116 : Cond.soleField "DearVotes$Search" "gainAhead" ∈ hx_ws := List.mem_filter.mpr ⟨List.mem_of_getElem? (i := 116) (by decide +kernel), rfl⟩
theorem tb_117 : Cond.laysFinal "DearVotes$Search" "DearVotes$Search" "tried" "[I" ∈ hx_ws := List.mem_filter.mpr ⟨List.mem_of_getElem? (i := 117) (by decide +kernel), rfl⟩
theorem tb_118 : Cond.soleField "DearVotes$Search" "tried" ∈ hx_ws := List.mem_filter.mpr ⟨List.mem_of_getElem? (i := 118) (by decide +kernel), rfl⟩
theorem tb_119 : Cond.laysFinal "DearVotes$Search" "DearVotes$Search" "found" "[I" ∈ hx_ws := List.mem_filter.mpr ⟨List.mem_of_getElem? (i := 119) (by decide +kernel), rfl⟩
theorem tb_120 : Cond.soleField "DearVotes$Search" "found" ∈ hx_ws := List.mem_filter.mpr ⟨List.mem_of_getElem? (i := 120) (by decide +kernel), rfl⟩
theorem tb_121 : Cond.lays "DearVotes$Search" "DearVotes$Search" "foundGain" "I" ∈ hx_ws := List.mem_filter.mpr ⟨List.mem_of_getElem? (i := 121) (by decide +kernel), rfl⟩
theorem tb_122 : Cond.soleField "DearVotes$Search" "foundGain" ∈ hx_ws := List.mem_filter.mpr ⟨List.mem_of_getElem? (i := 122) (by decide +kernel), rfl⟩
theorem tb_123 : Cond.lays "DearVotes$Search" "DearVotes$Search" "foundCost" "I" ∈ hx_ws := List.mem_filter.mpr ⟨List.mem_of_getElem? (i := 123) (by decide +kernel), rfl⟩
theorem tb_124 : Cond.soleField "DearVotes$Search" "foundCost" ∈ hx_ws := List.mem_filter.mpr ⟨List.mem_of_getElem? (i := 124) (by decide +kernel), rfl⟩
theorem tb_125 : Cond.lays "DearVotes$Search" "DearVotes$Search" "budget" "I" ∈ hx_ws := List.mem_filter.mpr ⟨List.mem_of_getElem? (i := 125) (by decide +kernel), rfl⟩
theorem tb_126 : Cond.soleField "DearVotes$Search" "budget" ∈ hx_ws := List.mem_filter.mpr ⟨List.mem_of_getElem? (i := 126) (by decide +kernel), rfl⟩
theorem tb_127 : Cond.superclass "DearVotes$Search" "java/lang/Object" ∈ hx_ws := List.mem_filter.mpr ⟨List.mem_of_getElem? (i := 127) (by decide +kernel), rfl⟩
theorem tb_128 : Cond.classLink "DearVotes" 25 "DearVotes$Rounds" ∈ hx_ws := List.mem_filter.mpr ⟨List.mem_of_getElem? (i := 128) (by decide +kernel), rfl⟩
theorem tb_129 : Cond.instantiable "DearVotes$Rounds" 7 ∈ hx_ws := List.mem_filter.mpr ⟨List.mem_of_getElem? (i := 129) (by decide +kernel), rfl⟩
theorem tb_130 : Cond.methodLink "DearVotes" 27 ⟨"DearVotes$Rounds", "<init>", "(LDearVotes$House;LDearVotes$Search;)V"⟩ ∈ hx_ws := List.mem_filter.mpr ⟨List.mem_of_getElem? (i := 130) (by decide +kernel), rfl⟩
theorem tb_131 : Cond.instanceMethod ⟨"DearVotes$Rounds", "<init>", "(LDearVotes$House;LDearVotes$Search;)V"⟩ ∈ hx_ws := List.mem_filter.mpr ⟨List.mem_of_getElem? (i := 131) (by decide +kernel), rfl⟩
theorem tb_132 : Cond.code ⟨"DearVotes$Rounds", "<init>", "(LDearVotes$House;LDearVotes$Search;)V"⟩ prog_4_method_1_code 3 (Option.none : Option Jvm.ClassFile.FieldType) ∈ hx_ws := List.mem_filter.mpr ⟨List.mem_of_getElem? (i := 132) (by decide +kernel), rfl⟩
theorem tb_133 : Cond.methodLink "DearVotes$Rounds" 3 ⟨"java/lang/Object", "<init>", "()V"⟩ ∈ hx_ws := List.mem_filter.mpr ⟨List.mem_of_getElem? (i := 133) (by decide +kernel), rfl⟩
theorem tb_134 : Cond.classLink "DearVotes$Rounds" 9 "[[J" ∈ hx_ws := List.mem_filter.mpr ⟨List.mem_of_getElem? (i := 134) (by decide +kernel), rfl⟩
theorem tb_135 : Cond.arrayOver (Jvm.ClassFile.FieldType.array Jvm.ClassFile.FieldType.long) ∈ lw_tbl := List.mem_of_getElem? (i := 135) (by decide +kernel)
theorem tb_136 : Cond.fieldLink "DearVotes$Rounds" 20 "DearVotes$Rounds" "house" "LDearVotes$House;" ∈ hx_ws := List.mem_filter.mpr ⟨List.mem_of_getElem? (i := 136) (by decide +kernel), rfl⟩
theorem tb_137 : Cond.fieldLink "DearVotes$Rounds" 24 "DearVotes$Rounds" "search" "LDearVotes$Search;" ∈ hx_ws := List.mem_filter.mpr ⟨List.mem_of_getElem? (i := 137) (by decide +kernel), rfl⟩
theorem tb_138 : Cond.fieldLink "DearVotes$Rounds" 11 "DearVotes$Rounds" "trail" "[[J" ∈ hx_ws := List.mem_filter.mpr ⟨List.mem_of_getElem? (i := 138) (by decide +kernel), rfl⟩
theorem tb_139 : Cond.fieldLink "DearVotes$Rounds" 39 "DearVotes$Rounds" "doneEver" "I" ∈ hx_ws := List.mem_filter.mpr ⟨List.mem_of_getElem? (i := 139) (by decide +kernel), rfl⟩
theorem tb_140 : Cond.fieldLink "DearVotes" 163 "DearVotes$Rounds" "doneEver" "I" ∈ hx_ws := List.mem_filter.mpr ⟨List.mem_of_getElem? (i := 140) (by decide +kernel), rfl⟩
theorem tb_141 : Cond.fieldLink "DearVotes$Rounds" 42 "DearVotes$Rounds" "changesEver" "I" ∈ hx_ws := List.mem_filter.mpr ⟨List.mem_of_getElem? (i := 141) (by decide +kernel), rfl⟩
theorem tb_142 : Cond.fieldLink "DearVotes" 166 "DearVotes$Rounds" "changesEver" "I" ∈ hx_ws := List.mem_filter.mpr ⟨List.mem_of_getElem? (i := 142) (by decide +kernel), rfl⟩
theorem tb_143 : Cond.fieldLink "DearVotes$Rounds" 16 "DearVotes$Rounds" "ending" "I" ∈ hx_ws := List.mem_filter.mpr ⟨List.mem_of_getElem? (i := 143) (by decide +kernel), rfl⟩
theorem tb_144 : Cond.fieldLink "DearVotes" 117 "DearVotes$Rounds" "ending" "I" ∈ hx_ws := List.mem_filter.mpr ⟨List.mem_of_getElem? (i := 144) (by decide +kernel), rfl⟩
theorem tb_145 : Cond.fieldLink "DearVotes$Rounds" 28 "DearVotes$Rounds" "ringLength" "I" ∈ hx_ws := List.mem_filter.mpr ⟨List.mem_of_getElem? (i := 145) (by decide +kernel), rfl⟩
theorem tb_146 : Cond.fieldLink "DearVotes" 120 "DearVotes$Rounds" "ringLength" "I" ∈ hx_ws := List.mem_filter.mpr ⟨List.mem_of_getElem? (i := 146) (by decide +kernel), rfl⟩
theorem tb_147 : Cond.laysFinal "DearVotes$Rounds" "DearVotes$Rounds" "house" "LDearVotes$House;" ∈ hx_ws := List.mem_filter.mpr ⟨List.mem_of_getElem? (i := 147) (by decide +kernel), rfl⟩
theorem tb_148 : Cond.soleField "DearVotes$Rounds" "house" ∈ hx_ws := List.mem_filter.mpr ⟨List.mem_of_getElem? (i := 148) (by decide +kernel), rfl⟩
theorem tb_149 : Cond.laysFinal "DearVotes$Rounds" "DearVotes$Rounds" "search" "LDearVotes$Search;" ∈ hx_ws := List.mem_filter.mpr ⟨List.mem_of_getElem? (i := 149) (by decide +kernel), rfl⟩
theorem tb_150 : Cond.soleField "DearVotes$Rounds" "search" ∈ hx_ws := List.mem_filter.mpr ⟨List.mem_of_getElem? (i := 150) (by decide +kernel), rfl⟩
theorem tb_151 : Cond.laysFinal "DearVotes$Rounds" "DearVotes$Rounds" "trail" "[[J" ∈ hx_ws := List.mem_filter.mpr ⟨List.mem_of_getElem? (i := 151) (by decide +kernel), rfl⟩
theorem tb_152 : Cond.soleField "DearVotes$Rounds" "trail" ∈ hx_ws := List.mem_filter.mpr ⟨List.mem_of_getElem? (i := 152) (by decide +kernel), rfl⟩
theorem tb_153 : Cond.lays "DearVotes$Rounds" "DearVotes$Rounds" "doneEver" "I" ∈ hx_ws := List.mem_filter.mpr ⟨List.mem_of_getElem? (i := 153) (by decide +kernel), rfl⟩
theorem tb_154 : Cond.soleField "DearVotes$Rounds" "doneEver" ∈ hx_ws := List.mem_filter.mpr ⟨List.mem_of_getElem? (i := 154) (by decide +kernel), rfl⟩
theorem tb_155 : Cond.lays "DearVotes$Rounds" "DearVotes$Rounds" "changesEver" "I" ∈ hx_ws := List.mem_filter.mpr ⟨List.mem_of_getElem? (i := 155) (by decide +kernel), rfl⟩
theorem tb_156 : Cond.soleField "DearVotes$Rounds" "changesEver" ∈ hx_ws := List.mem_filter.mpr ⟨List.mem_of_getElem? (i := 156) (by decide +kernel), rfl⟩
theorem tb_157 : Cond.lays "DearVotes$Rounds" "DearVotes$Rounds" "ending" "I" ∈ hx_ws := List.mem_filter.mpr ⟨List.mem_of_getElem? (i := 157) (by decide +kernel), rfl⟩
theorem tb_158 : Cond.soleField "DearVotes$Rounds" "ending" ∈ hx_ws := List.mem_filter.mpr ⟨List.mem_of_getElem? (i := 158) (by decide +kernel), rfl⟩
theorem tb_159 : Cond.lays "DearVotes$Rounds" "DearVotes$Rounds" "ringLength" "I" ∈ hx_ws := List.mem_filter.mpr ⟨List.mem_of_getElem? (i := 159) (by decide +kernel), rfl⟩
theorem tb_160 : Cond.soleField "DearVotes$Rounds" "ringLength" ∈ hx_ws := List.mem_filter.mpr ⟨List.mem_of_getElem? (i := 160) (by decide +kernel), rfl⟩
theorem tb_161 : Cond.superclass "DearVotes$Rounds" "java/lang/Object" ∈ hx_ws := List.mem_filter.mpr ⟨List.mem_of_getElem? (i := 161) (by decide +kernel), rfl⟩
theorem tb_162 : Cond.arrayClass Jvm.ClassFile.FieldType.long ∈ hx_ws := List.mem_filter.mpr ⟨List.mem_of_getElem? (i := 162) (by decide +kernel), rfl⟩
theorem tb_163 : Cond.classLink "DearVotes" 34 "DearVotes$Fund" ∈ hx_ws := List.mem_filter.mpr ⟨List.mem_of_getElem? (i := 163) (by decide +kernel), rfl⟩
theorem tb_164 : Cond.instantiable "DearVotes$Fund" 5 ∈ hx_ws := List.mem_filter.mpr ⟨List.mem_of_getElem? (i := 164) (by decide +kernel), rfl⟩
theorem tb_165 : Cond.methodLink "DearVotes" 36 ⟨"DearVotes$Fund", "<init>", "(LDearVotes$House;)V"⟩ ∈ hx_ws := List.mem_filter.mpr ⟨List.mem_of_getElem? (i := 165) (by decide +kernel), rfl⟩
theorem tb_166 : Cond.instanceMethod ⟨"DearVotes$Fund", "<init>", "(LDearVotes$House;)V"⟩ ∈ hx_ws := List.mem_filter.mpr ⟨List.mem_of_getElem? (i := 166) (by decide +kernel), rfl⟩
theorem tb_167 : Cond.code ⟨"DearVotes$Fund", "<init>", "(LDearVotes$House;)V"⟩ prog_2_method_1_code 4 (Option.none : Option Jvm.ClassFile.FieldType) ∈ hx_ws := List.mem_filter.mpr ⟨List.mem_of_getElem? (i := 167) (by decide +kernel), rfl⟩
theorem tb_168 : Cond.methodLink "DearVotes$Fund" 3 ⟨"java/lang/Object", "<init>", "()V"⟩ ∈ hx_ws := List.mem_filter.mpr ⟨List.mem_of_getElem? (i := 168) (by decide +kernel), rfl⟩
theorem tb_169 : Cond.classLink "DearVotes$Fund" 9 "[[I" ∈ hx_ws := List.mem_filter.mpr ⟨List.mem_of_getElem? (i := 169) (by decide +kernel), rfl⟩
theorem tb_170 : Cond.fieldLink "DearVotes$Fund" 23 "DearVotes$Fund" "house" "LDearVotes$House;" ∈ hx_ws := List.mem_filter.mpr ⟨List.mem_of_getElem? (i := 170) (by decide +kernel), rfl⟩
theorem tb_171 : Cond.fieldLink "DearVotes$Fund" 27 "DearVotes$Fund" "projects" "I" ∈ hx_ws := List.mem_filter.mpr ⟨List.mem_of_getElem? (i := 171) (by decide +kernel), rfl⟩
theorem tb_172 : Cond.fieldLink "DearVotes" 56 "DearVotes$Fund" "projects" "I" ∈ hx_ws := List.mem_filter.mpr ⟨List.mem_of_getElem? (i := 172) (by decide +kernel), rfl⟩
theorem tb_173 : Cond.fieldLink "DearVotes$Fund" 11 "DearVotes$Fund" "gifts" "[[I" ∈ hx_ws := List.mem_filter.mpr ⟨List.mem_of_getElem? (i := 173) (by decide +kernel), rfl⟩
theorem tb_174 : Cond.fieldLink "DearVotes" 127 "DearVotes$Fund" "gifts" "[[I" ∈ hx_ws := List.mem_filter.mpr ⟨List.mem_of_getElem? (i := 174) (by decide +kernel), rfl⟩
theorem tb_175 : Cond.fieldLink "DearVotes$Fund" 16 "DearVotes$Fund" "bonds" "[[I" ∈ hx_ws := List.mem_filter.mpr ⟨List.mem_of_getElem? (i := 175) (by decide +kernel), rfl⟩
theorem tb_176 : Cond.fieldLink "DearVotes" 130 "DearVotes$Fund" "bonds" "[[I" ∈ hx_ws := List.mem_filter.mpr ⟨List.mem_of_getElem? (i := 176) (by decide +kernel), rfl⟩
theorem tb_177 : Cond.fieldLink "DearVotes$Fund" 19 "DearVotes$Fund" "lows" "[J" ∈ hx_ws := List.mem_filter.mpr ⟨List.mem_of_getElem? (i := 177) (by decide +kernel), rfl⟩
theorem tb_178 : Cond.laysFinal "DearVotes$Fund" "DearVotes$Fund" "house" "LDearVotes$House;" ∈ hx_ws := List.mem_filter.mpr ⟨List.mem_of_getElem? (i := 178) (by decide +kernel), rfl⟩
theorem tb_179 : Cond.soleField "DearVotes$Fund" "house" ∈ hx_ws := List.mem_filter.mpr ⟨List.mem_of_getElem? (i := 179) (by decide +kernel), rfl⟩
theorem tb_180 : Cond.lays "DearVotes$Fund" "DearVotes$Fund" "projects" "I" ∈ hx_ws := List.mem_filter.mpr ⟨List.mem_of_getElem? (i := 180) (by decide +kernel), rfl⟩
theorem tb_181 : Cond.soleField "DearVotes$Fund" "projects" ∈ hx_ws := List.mem_filter.mpr ⟨List.mem_of_getElem? (i := 181) (by decide +kernel), rfl⟩
theorem tb_182 : Cond.laysFinal "DearVotes$Fund" "DearVotes$Fund" "gifts" "[[I" ∈ hx_ws := List.mem_filter.mpr ⟨List.mem_of_getElem? (i := 182) (by decide +kernel), rfl⟩
theorem tb_183 : Cond.soleField "DearVotes$Fund" "gifts" ∈ hx_ws := List.mem_filter.mpr ⟨List.mem_of_getElem? (i := 183) (by decide +kernel), rfl⟩
theorem tb_184 : Cond.laysFinal "DearVotes$Fund" "DearVotes$Fund" "bonds" "[[I" ∈ hx_ws := List.mem_filter.mpr ⟨List.mem_of_getElem? (i := 184) (by decide +kernel), rfl⟩
theorem tb_185 : Cond.soleField "DearVotes$Fund" "bonds" ∈ hx_ws := List.mem_filter.mpr ⟨List.mem_of_getElem? (i := 185) (by decide +kernel), rfl⟩
theorem tb_186 : Cond.laysFinal "DearVotes$Fund" "DearVotes$Fund" "lows" "[J" ∈ hx_ws := List.mem_filter.mpr ⟨List.mem_of_getElem? (i := 186) (by decide +kernel), rfl⟩
theorem tb_187 : Cond.soleField "DearVotes$Fund" "lows" ∈ hx_ws := List.mem_filter.mpr ⟨List.mem_of_getElem? (i := 187) (by decide +kernel), rfl⟩
theorem tb_188 : Cond.superclass "DearVotes$Fund" "java/lang/Object" ∈ hx_ws := List.mem_filter.mpr ⟨List.mem_of_getElem? (i := 188) (by decide +kernel), rfl⟩
theorem tb_189 : Cond.fieldLink "DearVotes" 10 "DearVotes" "house" "LDearVotes$House;" ∈ hx_ws := List.mem_filter.mpr ⟨List.mem_of_getElem? (i := 189) (by decide +kernel), rfl⟩
theorem tb_190 : Cond.fieldLink "DearVotes" 21 "DearVotes" "search" "LDearVotes$Search;" ∈ hx_ws := List.mem_filter.mpr ⟨List.mem_of_getElem? (i := 190) (by decide +kernel), rfl⟩
theorem tb_191 : Cond.fieldLink "DearVotes" 30 "DearVotes" "rounds" "LDearVotes$Rounds;" ∈ hx_ws := List.mem_filter.mpr ⟨List.mem_of_getElem? (i := 191) (by decide +kernel), rfl⟩
theorem tb_192 : Cond.fieldLink "DearVotes" 37 "DearVotes" "fund" "LDearVotes$Fund;" ∈ hx_ws := List.mem_filter.mpr ⟨List.mem_of_getElem? (i := 192) (by decide +kernel), rfl⟩
theorem tb_193 : Cond.laysFinal "DearVotes" "DearVotes" "house" "LDearVotes$House;" ∈ hx_ws := List.mem_filter.mpr ⟨List.mem_of_getElem? (i := 193) (by decide +kernel), rfl⟩
theorem tb_194 : Cond.soleField "DearVotes" "house" ∈ hx_ws := List.mem_filter.mpr ⟨List.mem_of_getElem? (i := 194) (by decide +kernel), rfl⟩
theorem tb_195 : Cond.laysFinal "DearVotes" "DearVotes" "search" "LDearVotes$Search;" ∈ hx_ws := List.mem_filter.mpr ⟨List.mem_of_getElem? (i := 195) (by decide +kernel), rfl⟩
theorem tb_196 : Cond.soleField "DearVotes" "search" ∈ hx_ws := List.mem_filter.mpr ⟨List.mem_of_getElem? (i := 196) (by decide +kernel), rfl⟩
theorem tb_197 : Cond.laysFinal "DearVotes" "DearVotes" "rounds" "LDearVotes$Rounds;" ∈ hx_ws := List.mem_filter.mpr ⟨List.mem_of_getElem? (i := 197) (by decide +kernel), rfl⟩
theorem tb_198 : Cond.soleField "DearVotes" "rounds" ∈ hx_ws := List.mem_filter.mpr ⟨List.mem_of_getElem? (i := 198) (by decide +kernel), rfl⟩
theorem tb_199 : Cond.laysFinal "DearVotes" "DearVotes" "fund" "LDearVotes$Fund;" ∈ hx_ws := List.mem_filter.mpr ⟨List.mem_of_getElem? (i := 199) (by decide +kernel), rfl⟩
theorem tb_200 : Cond.soleField "DearVotes" "fund" ∈ hx_ws := List.mem_filter.mpr ⟨List.mem_of_getElem? (i := 200) (by decide +kernel), rfl⟩
theorem tb_201 : Cond.superclass "DearVotes" "java/lang/Object" ∈ hx_ws := List.mem_filter.mpr ⟨List.mem_of_getElem? (i := 201) (by decide +kernel), rfl⟩
theorem tb_202 : Cond.methodLink "DearVotesLaw" 13 ⟨"DearVotes", "person", "(I)I"⟩ ∈ hx_ws := List.mem_filter.mpr ⟨List.mem_of_getElem? (i := 202) (by decide +kernel), rfl⟩
theorem tb_203 : Cond.instanceMethod ⟨"DearVotes", "person", "(I)I"⟩ ∈ hx_ws := List.mem_filter.mpr ⟨List.mem_of_getElem? (i := 203) (by decide +kernel), rfl⟩
theorem tb_204 : Cond.selects "DearVotes" ⟨"DearVotes", "person", "(I)I"⟩ ⟨"DearVotes", "person", "(I)I"⟩ ∈ hx_ws := List.mem_filter.mpr ⟨List.mem_of_getElem? (i := 204) (by decide +kernel), rfl⟩
theorem tb_205 : Cond.code ⟨"DearVotes", "person", "(I)I"⟩ prog_1_method_2_code 2 (Option.some Jvm.ClassFile.FieldType.int) ∈ hx_ws := List.mem_filter.mpr ⟨List.mem_of_getElem? (i := 205) (by decide +kernel), rfl⟩
theorem tb_206 : Cond.methodLink "DearVotes" 41 ⟨"DearVotes", "isWithin", "(III)Z"⟩ ∈ hx_ws := List.mem_filter.mpr ⟨List.mem_of_getElem? (i := 206) (by decide +kernel), rfl⟩
theorem tb_207 : Cond.static ⟨"DearVotes", "isWithin", "(III)Z"⟩ ∈ hx_ws := List.mem_filter.mpr ⟨List.mem_of_getElem? (i := 207) (by decide +kernel), rfl⟩
theorem tb_208 : Cond.code ⟨"DearVotes", "isWithin", "(III)Z"⟩ prog_1_method_30_code 3 (Option.some Jvm.ClassFile.FieldType.boolean) ∈ hx_ws := List.mem_filter.mpr ⟨List.mem_of_getElem? (i := 208) (by decide +kernel), rfl⟩
theorem tb_209 : Cond.methodLink "DearVotes" 49 ⟨"DearVotes$House", "addPerson", "(I)I"⟩ ∈ hx_ws := List.mem_filter.mpr ⟨List.mem_of_getElem? (i := 209) (by decide +kernel), rfl⟩
theorem tb_210 : Cond.instanceMethod ⟨"DearVotes$House", "addPerson", "(I)I"⟩ ∈ hx_ws := List.mem_filter.mpr ⟨List.mem_of_getElem? (i := 210) (by decide +kernel), rfl⟩
theorem tb_211 : Cond.selects "DearVotes$House" ⟨"DearVotes$House", "addPerson", "(I)I"⟩ ⟨"DearVotes$House", "addPerson", "(I)I"⟩ ∈ hx_ws := List.mem_filter.mpr ⟨List.mem_of_getElem? (i := 211) (by decide +kernel), rfl⟩
theorem tb_212 : Cond.code ⟨"DearVotes$House", "addPerson", "(I)I"⟩ prog_3_method_4_code 2 (Option.some Jvm.ClassFile.FieldType.int) ∈ hx_ws := List.mem_filter.mpr ⟨List.mem_of_getElem? (i := 212) (by decide +kernel), rfl⟩
theorem tb_213 : Cond.methodLink "DearVotesLaw" 18 ⟨"DearVotes", "question", "()I"⟩ ∈ hx_ws := List.mem_filter.mpr ⟨List.mem_of_getElem? (i := 213) (by decide +kernel), rfl⟩
theorem tb_214 : Cond.instanceMethod ⟨"DearVotes", "question", "()I"⟩ ∈ hx_ws := List.mem_filter.mpr ⟨List.mem_of_getElem? (i := 214) (by decide +kernel), rfl⟩
theorem tb_215 : Cond.selects "DearVotes" ⟨"DearVotes", "question", "()I"⟩ ⟨"DearVotes", "question", "()I"⟩ ∈ hx_ws := List.mem_filter.mpr ⟨List.mem_of_getElem? (i := 215) (by decide +kernel), rfl⟩
theorem tb_216 : Cond.code ⟨"DearVotes", "question", "()I"⟩ prog_1_method_3_code 1 (Option.some Jvm.ClassFile.FieldType.int) ∈ hx_ws := List.mem_filter.mpr ⟨List.mem_of_getElem? (i := 216) (by decide +kernel), rfl⟩
theorem tb_217 : Cond.methodLink "DearVotesLaw" 23 ⟨"DearVotes", "project", "()I"⟩ ∈ hx_ws := List.mem_filter.mpr ⟨List.mem_of_getElem? (i := 217) (by decide +kernel), rfl⟩
theorem tb_218 : Cond.instanceMethod ⟨"DearVotes", "project", "()I"⟩ ∈ hx_ws := List.mem_filter.mpr ⟨List.mem_of_getElem? (i := 218) (by decide +kernel), rfl⟩
theorem tb_219 : Cond.selects "DearVotes" ⟨"DearVotes", "project", "()I"⟩ ⟨"DearVotes", "project", "()I"⟩ ∈ hx_ws := List.mem_filter.mpr ⟨List.mem_of_getElem? (i := 219) (by decide +kernel), rfl⟩
theorem tb_220 : Cond.code ⟨"DearVotes", "project", "()I"⟩ prog_1_method_4_code 1 (Option.some Jvm.ClassFile.FieldType.int) ∈ hx_ws := List.mem_filter.mpr ⟨List.mem_of_getElem? (i := 220) (by decide +kernel), rfl⟩
theorem tb_221 : Cond.methodLink "DearVotesLaw" 27 ⟨"DearVotes", "seed", "(I)I"⟩ ∈ hx_ws := List.mem_filter.mpr ⟨List.mem_of_getElem? (i := 221) (by decide +kernel), rfl⟩
theorem tb_222 : Cond.instanceMethod ⟨"DearVotes", "seed", "(I)I"⟩ ∈ hx_ws := List.mem_filter.mpr ⟨List.mem_of_getElem? (i := 222) (by decide +kernel), rfl⟩
theorem tb_223 : Cond.selects "DearVotes" ⟨"DearVotes", "seed", "(I)I"⟩ ⟨"DearVotes", "seed", "(I)I"⟩ ∈ hx_ws := List.mem_filter.mpr ⟨List.mem_of_getElem? (i := 223) (by decide +kernel), rfl⟩
theorem tb_224 : Cond.code ⟨"DearVotes", "seed", "(I)I"⟩ prog_1_method_5_code 3 (Option.some Jvm.ClassFile.FieldType.int) ∈ hx_ws := List.mem_filter.mpr ⟨List.mem_of_getElem? (i := 224) (by decide +kernel), rfl⟩
theorem tb_225 : Cond.methodLink "DearVotesLaw" 31 ⟨"DearVotes", "vote", "(III)I"⟩ ∈ hx_ws := List.mem_filter.mpr ⟨List.mem_of_getElem? (i := 225) (by decide +kernel), rfl⟩
theorem tb_226 : Cond.instanceMethod ⟨"DearVotes", "vote", "(III)I"⟩ ∈ hx_ws := List.mem_filter.mpr ⟨List.mem_of_getElem? (i := 226) (by decide +kernel), rfl⟩
theorem tb_227 : Cond.selects "DearVotes" ⟨"DearVotes", "vote", "(III)I"⟩ ⟨"DearVotes", "vote", "(III)I"⟩ ∈ hx_ws := List.mem_filter.mpr ⟨List.mem_of_getElem? (i := 227) (by decide +kernel), rfl⟩
theorem tb_228 : Cond.code ⟨"DearVotes", "vote", "(III)I"⟩ prog_1_method_6_code 6 (Option.some Jvm.ClassFile.FieldType.int) ∈ hx_ws := List.mem_filter.mpr ⟨List.mem_of_getElem? (i := 228) (by decide +kernel), rfl⟩
theorem tb_229 : Cond.methodLink "DearVotes" 62 ⟨"DearVotes$House", "hasPerson", "(I)Z"⟩ ∈ hx_ws := List.mem_filter.mpr ⟨List.mem_of_getElem? (i := 229) (by decide +kernel), rfl⟩
theorem tb_230 : Cond.instanceMethod ⟨"DearVotes$House", "hasPerson", "(I)Z"⟩ ∈ hx_ws := List.mem_filter.mpr ⟨List.mem_of_getElem? (i := 230) (by decide +kernel), rfl⟩
theorem tb_231 : Cond.selects "DearVotes$House" ⟨"DearVotes$House", "hasPerson", "(I)Z"⟩ ⟨"DearVotes$House", "hasPerson", "(I)Z"⟩ ∈ hx_ws := List.mem_filter.mpr ⟨List.mem_of_getElem? (i := 231) (by decide +kernel), rfl⟩
theorem tb_232 : Cond.code ⟨"DearVotes$House", "hasPerson", "(I)Z"⟩ prog_3_method_2_code 2 (Option.some Jvm.ClassFile.FieldType.boolean) ∈ hx_ws := List.mem_filter.mpr ⟨List.mem_of_getElem? (i := 232) (by decide +kernel), rfl⟩
theorem tb_233 : Cond.methodLink "DearVotes" 66 ⟨"DearVotes$House", "hasQuestion", "(I)Z"⟩ ∈ hx_ws := List.mem_filter.mpr ⟨List.mem_of_getElem? (i := 233) (by decide +kernel), rfl⟩
theorem tb_234 : Cond.instanceMethod ⟨"DearVotes$House", "hasQuestion", "(I)Z"⟩ ∈ hx_ws := List.mem_filter.mpr ⟨List.mem_of_getElem? (i := 234) (by decide +kernel), rfl⟩
theorem tb_235 : Cond.selects "DearVotes$House" ⟨"DearVotes$House", "hasQuestion", "(I)Z"⟩ ⟨"DearVotes$House", "hasQuestion", "(I)Z"⟩ ∈ hx_ws := List.mem_filter.mpr ⟨List.mem_of_getElem? (i := 235) (by decide +kernel), rfl⟩
theorem tb_236 : Cond.code ⟨"DearVotes$House", "hasQuestion", "(I)Z"⟩ prog_3_method_3_code 2 (Option.some Jvm.ClassFile.FieldType.boolean) ∈ hx_ws := List.mem_filter.mpr ⟨List.mem_of_getElem? (i := 236) (by decide +kernel), rfl⟩
theorem tb_237 : Cond.methodLink "DearVotes" 73 ⟨"DearVotes$House", "costOf", "(I)I"⟩ ∈ hx_ws := List.mem_filter.mpr ⟨List.mem_of_getElem? (i := 237) (by decide +kernel), rfl⟩
theorem tb_238 : Cond.instanceMethod ⟨"DearVotes$House", "costOf", "(I)I"⟩ ∈ hx_ws := List.mem_filter.mpr ⟨List.mem_of_getElem? (i := 238) (by decide +kernel), rfl⟩
theorem tb_239 : Cond.selects "DearVotes$House" ⟨"DearVotes$House", "costOf", "(I)I"⟩ ⟨"DearVotes$House", "costOf", "(I)I"⟩ ∈ hx_ws := List.mem_filter.mpr ⟨List.mem_of_getElem? (i := 239) (by decide +kernel), rfl⟩
theorem tb_240 : Cond.code ⟨"DearVotes$House", "costOf", "(I)I"⟩ prog_3_method_6_code 4 (Option.some Jvm.ClassFile.FieldType.int) ∈ hx_ws := List.mem_filter.mpr ⟨List.mem_of_getElem? (i := 240) (by decide +kernel), rfl⟩
theorem tb_241 : Cond.methodLink "DearVotesLaw" 36 ⟨"DearVotes", "worth", "(III)I"⟩ ∈ hx_ws := List.mem_filter.mpr ⟨List.mem_of_getElem? (i := 241) (by decide +kernel), rfl⟩
theorem tb_242 : Cond.instanceMethod ⟨"DearVotes", "worth", "(III)I"⟩ ∈ hx_ws := List.mem_filter.mpr ⟨List.mem_of_getElem? (i := 242) (by decide +kernel), rfl⟩
theorem tb_243 : Cond.selects "DearVotes" ⟨"DearVotes", "worth", "(III)I"⟩ ⟨"DearVotes", "worth", "(III)I"⟩ ∈ hx_ws := List.mem_filter.mpr ⟨List.mem_of_getElem? (i := 243) (by decide +kernel), rfl⟩
theorem tb_244 : Cond.code ⟨"DearVotes", "worth", "(III)I"⟩ prog_1_method_7_code 5 (Option.some Jvm.ClassFile.FieldType.int) ∈ hx_ws := List.mem_filter.mpr ⟨List.mem_of_getElem? (i := 244) (by decide +kernel), rfl⟩
theorem tb_245 : Cond.methodLink "DearVotesLaw" 40 ⟨"DearVotes", "here", "(IZ)I"⟩ ∈ hx_ws := List.mem_filter.mpr ⟨List.mem_of_getElem? (i := 245) (by decide +kernel), rfl⟩
theorem tb_246 : Cond.instanceMethod ⟨"DearVotes", "here", "(IZ)I"⟩ ∈ hx_ws := List.mem_filter.mpr ⟨List.mem_of_getElem? (i := 246) (by decide +kernel), rfl⟩
theorem tb_247 : Cond.selects "DearVotes" ⟨"DearVotes", "here", "(IZ)I"⟩ ⟨"DearVotes", "here", "(IZ)I"⟩ ∈ hx_ws := List.mem_filter.mpr ⟨List.mem_of_getElem? (i := 247) (by decide +kernel), rfl⟩
theorem tb_248 : Cond.code ⟨"DearVotes", "here", "(IZ)I"⟩ prog_1_method_8_code 4 (Option.some Jvm.ClassFile.FieldType.int) ∈ hx_ws := List.mem_filter.mpr ⟨List.mem_of_getElem? (i := 248) (by decide +kernel), rfl⟩
theorem tb_249 : Cond.methodLink "DearVotesLaw" 45 ⟨"DearVotes", "voices", "(II)I"⟩ ∈ hx_ws := List.mem_filter.mpr ⟨List.mem_of_getElem? (i := 249) (by decide +kernel), rfl⟩
theorem tb_250 : Cond.instanceMethod ⟨"DearVotes", "voices", "(II)I"⟩ ∈ hx_ws := List.mem_filter.mpr ⟨List.mem_of_getElem? (i := 250) (by decide +kernel), rfl⟩
theorem tb_251 : Cond.selects "DearVotes" ⟨"DearVotes", "voices", "(II)I"⟩ ⟨"DearVotes", "voices", "(II)I"⟩ ∈ hx_ws := List.mem_filter.mpr ⟨List.mem_of_getElem? (i := 251) (by decide +kernel), rfl⟩
theorem tb_252 : Cond.code ⟨"DearVotes", "voices", "(II)I"⟩ prog_1_method_9_code 3 (Option.some Jvm.ClassFile.FieldType.int) ∈ hx_ws := List.mem_filter.mpr ⟨List.mem_of_getElem? (i := 252) (by decide +kernel), rfl⟩
theorem tb_253 : Cond.methodLink "DearVotesLaw" 50 ⟨"DearVotes", "cost", "(I)I"⟩ ∈ hx_ws := List.mem_filter.mpr ⟨List.mem_of_getElem? (i := 253) (by decide +kernel), rfl⟩
theorem tb_254 : Cond.instanceMethod ⟨"DearVotes", "cost", "(I)I"⟩ ∈ hx_ws := List.mem_filter.mpr ⟨List.mem_of_getElem? (i := 254) (by decide +kernel), rfl⟩
theorem tb_255 : Cond.selects "DearVotes" ⟨"DearVotes", "cost", "(I)I"⟩ ⟨"DearVotes", "cost", "(I)I"⟩ ∈ hx_ws := List.mem_filter.mpr ⟨List.mem_of_getElem? (i := 255) (by decide +kernel), rfl⟩
theorem tb_256 : Cond.code ⟨"DearVotes", "cost", "(I)I"⟩ prog_1_method_10_code 2 (Option.some Jvm.ClassFile.FieldType.int) ∈ hx_ws := List.mem_filter.mpr ⟨List.mem_of_getElem? (i := 256) (by decide +kernel), rfl⟩
theorem tb_257 : Cond.methodLink "DearVotesLaw" 54 ⟨"DearVotes", "total", "(I)I"⟩ ∈ hx_ws := List.mem_filter.mpr ⟨List.mem_of_getElem? (i := 257) (by decide +kernel), rfl⟩
theorem tb_258 : Cond.instanceMethod ⟨"DearVotes", "total", "(I)I"⟩ ∈ hx_ws := List.mem_filter.mpr ⟨List.mem_of_getElem? (i := 258) (by decide +kernel), rfl⟩
theorem tb_259 : Cond.selects "DearVotes" ⟨"DearVotes", "total", "(I)I"⟩ ⟨"DearVotes", "total", "(I)I"⟩ ∈ hx_ws := List.mem_filter.mpr ⟨List.mem_of_getElem? (i := 259) (by decide +kernel), rfl⟩
theorem tb_260 : Cond.code ⟨"DearVotes", "total", "(I)I"⟩ prog_1_method_11_code 2 (Option.some Jvm.ClassFile.FieldType.int) ∈ hx_ws := List.mem_filter.mpr ⟨List.mem_of_getElem? (i := 260) (by decide +kernel), rfl⟩
theorem tb_261 : Cond.methodLink "DearVotes" 87 ⟨"DearVotes$House", "countOf", "(I)I"⟩ ∈ hx_ws := List.mem_filter.mpr ⟨List.mem_of_getElem? (i := 261) (by decide +kernel), rfl⟩
theorem tb_262 : Cond.instanceMethod ⟨"DearVotes$House", "countOf", "(I)I"⟩ ∈ hx_ws := List.mem_filter.mpr ⟨List.mem_of_getElem? (i := 262) (by decide +kernel), rfl⟩
theorem tb_263 : Cond.selects "DearVotes$House" ⟨"DearVotes$House", "countOf", "(I)I"⟩ ⟨"DearVotes$House", "countOf", "(I)I"⟩ ∈ hx_ws := List.mem_filter.mpr ⟨List.mem_of_getElem? (i := 263) (by decide +kernel), rfl⟩
theorem tb_264 : Cond.code ⟨"DearVotes$House", "countOf", "(I)I"⟩ prog_3_method_7_code 4 (Option.some Jvm.ClassFile.FieldType.int) ∈ hx_ws := List.mem_filter.mpr ⟨List.mem_of_getElem? (i := 264) (by decide +kernel), rfl⟩
theorem tb_265 : Cond.methodLink "DearVotesLaw" 58 ⟨"DearVotes", "result", "(I)I"⟩ ∈ hx_ws := List.mem_filter.mpr ⟨List.mem_of_getElem? (i := 265) (by decide +kernel), rfl⟩
theorem tb_266 : Cond.instanceMethod ⟨"DearVotes", "result", "(I)I"⟩ ∈ hx_ws := List.mem_filter.mpr ⟨List.mem_of_getElem? (i := 266) (by decide +kernel), rfl⟩
theorem tb_267 : Cond.selects "DearVotes" ⟨"DearVotes", "result", "(I)I"⟩ ⟨"DearVotes", "result", "(I)I"⟩ ∈ hx_ws := List.mem_filter.mpr ⟨List.mem_of_getElem? (i := 267) (by decide +kernel), rfl⟩
theorem tb_268 : Cond.code ⟨"DearVotes", "result", "(I)I"⟩ prog_1_method_12_code 2 (Option.some Jvm.ClassFile.FieldType.int) ∈ hx_ws := List.mem_filter.mpr ⟨List.mem_of_getElem? (i := 268) (by decide +kernel), rfl⟩
theorem tb_269 : Cond.methodLink "DearVotes" 90 ⟨"DearVotes$House", "resultOf", "(II)I"⟩ ∈ hx_ws := List.mem_filter.mpr ⟨List.mem_of_getElem? (i := 269) (by decide +kernel), rfl⟩
theorem tb_270 : Cond.instanceMethod ⟨"DearVotes$House", "resultOf", "(II)I"⟩ ∈ hx_ws := List.mem_filter.mpr ⟨List.mem_of_getElem? (i := 270) (by decide +kernel), rfl⟩
theorem tb_271 : Cond.selects "DearVotes$House" ⟨"DearVotes$House", "resultOf", "(II)I"⟩ ⟨"DearVotes$House", "resultOf", "(II)I"⟩ ∈ hx_ws := List.mem_filter.mpr ⟨List.mem_of_getElem? (i := 271) (by decide +kernel), rfl⟩
theorem tb_272 : Cond.code ⟨"DearVotes$House", "resultOf", "(II)I"⟩ prog_3_method_9_code 5 (Option.some Jvm.ClassFile.FieldType.int) ∈ hx_ws := List.mem_filter.mpr ⟨List.mem_of_getElem? (i := 272) (by decide +kernel), rfl⟩
theorem tb_273 : Cond.constant "DearVotes$House" 41 1664525 ∈ hx_ws := List.mem_filter.mpr ⟨List.mem_of_getElem? (i := 273) (by decide +kernel), rfl⟩
theorem tb_274 : Cond.constant "DearVotes$House" 42 1013904223 ∈ hx_ws := List.mem_filter.mpr ⟨List.mem_of_getElem? (i := 274) (by decide +kernel), rfl⟩
theorem tb_275 : Cond.methodLink "DearVotesLaw" 62 ⟨"DearVotes", "gain", "(I)I"⟩ ∈ hx_ws := List.mem_filter.mpr ⟨List.mem_of_getElem? (i := 275) (by decide +kernel), rfl⟩
theorem tb_276 : Cond.instanceMethod ⟨"DearVotes", "gain", "(I)I"⟩ ∈ hx_ws := List.mem_filter.mpr ⟨List.mem_of_getElem? (i := 276) (by decide +kernel), rfl⟩
theorem tb_277 : Cond.selects "DearVotes" ⟨"DearVotes", "gain", "(I)I"⟩ ⟨"DearVotes", "gain", "(I)I"⟩ ∈ hx_ws := List.mem_filter.mpr ⟨List.mem_of_getElem? (i := 277) (by decide +kernel), rfl⟩
theorem tb_278 : Cond.code ⟨"DearVotes", "gain", "(I)I"⟩ prog_1_method_13_code 2 (Option.some Jvm.ClassFile.FieldType.int) ∈ hx_ws := List.mem_filter.mpr ⟨List.mem_of_getElem? (i := 278) (by decide +kernel), rfl⟩
theorem tb_279 : Cond.constant "DearVotes" 94 (-2000000) ∈ hx_ws := List.mem_filter.mpr ⟨List.mem_of_getElem? (i := 279) (by decide +kernel), rfl⟩
theorem tb_280 : Cond.methodLink "DearVotes" 95 ⟨"DearVotes$House", "gainOf", "(I)I"⟩ ∈ hx_ws := List.mem_filter.mpr ⟨List.mem_of_getElem? (i := 280) (by decide +kernel), rfl⟩
theorem tb_281 : Cond.instanceMethod ⟨"DearVotes$House", "gainOf", "(I)I"⟩ ∈ hx_ws := List.mem_filter.mpr ⟨List.mem_of_getElem? (i := 281) (by decide +kernel), rfl⟩
theorem tb_282 : Cond.selects "DearVotes$House" ⟨"DearVotes$House", "gainOf", "(I)I"⟩ ⟨"DearVotes$House", "gainOf", "(I)I"⟩ ∈ hx_ws := List.mem_filter.mpr ⟨List.mem_of_getElem? (i := 282) (by decide +kernel), rfl⟩
theorem tb_283 : Cond.code ⟨"DearVotes$House", "gainOf", "(I)I"⟩ prog_3_method_10_code 4 (Option.some Jvm.ClassFile.FieldType.int) ∈ hx_ws := List.mem_filter.mpr ⟨List.mem_of_getElem? (i := 283) (by decide +kernel), rfl⟩
theorem tb_284 : Cond.methodLink "DearVotes$House" 34 ⟨"DearVotes$House", "countOf", "(I)I"⟩ ∈ hx_ws := List.mem_filter.mpr ⟨List.mem_of_getElem? (i := 284) (by decide +kernel), rfl⟩
theorem tb_285 : Cond.methodLink "DearVotes$House" 43 ⟨"DearVotes$House", "gainBy", "(II)I"⟩ ∈ hx_ws := List.mem_filter.mpr ⟨List.mem_of_getElem? (i := 285) (by decide +kernel), rfl⟩
theorem tb_286 : Cond.static ⟨"DearVotes$House", "gainBy", "(II)I"⟩ ∈ hx_ws := List.mem_filter.mpr ⟨List.mem_of_getElem? (i := 286) (by decide +kernel), rfl⟩
theorem tb_287 : Cond.code ⟨"DearVotes$House", "gainBy", "(II)I"⟩ prog_3_method_11_code 2 (Option.some Jvm.ClassFile.FieldType.int) ∈ hx_ws := List.mem_filter.mpr ⟨List.mem_of_getElem? (i := 287) (by decide +kernel), rfl⟩
theorem tb_288 : Cond.methodLink "DearVotesLaw" 66 ⟨"DearVotes", "swings", "(I)I"⟩ ∈ hx_ws := List.mem_filter.mpr ⟨List.mem_of_getElem? (i := 288) (by decide +kernel), rfl⟩
theorem tb_289 : Cond.instanceMethod ⟨"DearVotes", "swings", "(I)I"⟩ ∈ hx_ws := List.mem_filter.mpr ⟨List.mem_of_getElem? (i := 289) (by decide +kernel), rfl⟩
theorem tb_290 : Cond.selects "DearVotes" ⟨"DearVotes", "swings", "(I)I"⟩ ⟨"DearVotes", "swings", "(I)I"⟩ ∈ hx_ws := List.mem_filter.mpr ⟨List.mem_of_getElem? (i := 290) (by decide +kernel), rfl⟩
theorem tb_291 : Cond.code ⟨"DearVotes", "swings", "(I)I"⟩ prog_1_method_14_code 2 (Option.some Jvm.ClassFile.FieldType.int) ∈ hx_ws := List.mem_filter.mpr ⟨List.mem_of_getElem? (i := 291) (by decide +kernel), rfl⟩
theorem tb_292 : Cond.methodLink "DearVotes" 98 ⟨"DearVotes$House", "swingsOf", "(I)I"⟩ ∈ hx_ws := List.mem_filter.mpr ⟨List.mem_of_getElem? (i := 292) (by decide +kernel), rfl⟩
theorem tb_293 : Cond.instanceMethod ⟨"DearVotes$House", "swingsOf", "(I)I"⟩ ∈ hx_ws := List.mem_filter.mpr ⟨List.mem_of_getElem? (i := 293) (by decide +kernel), rfl⟩
theorem tb_294 : Cond.selects "DearVotes$House" ⟨"DearVotes$House", "swingsOf", "(I)I"⟩ ⟨"DearVotes$House", "swingsOf", "(I)I"⟩ ∈ hx_ws := List.mem_filter.mpr ⟨List.mem_of_getElem? (i := 294) (by decide +kernel), rfl⟩
theorem tb_295 : Cond.code ⟨"DearVotes$House", "swingsOf", "(I)I"⟩ prog_3_method_12_code 5 (Option.some Jvm.ClassFile.FieldType.int) ∈ hx_ws := List.mem_filter.mpr ⟨List.mem_of_getElem? (i := 295) (by decide +kernel), rfl⟩
theorem tb_296 : Cond.methodLink "DearVotes$House" 47 ⟨"DearVotes$House", "countWithout", "(II)I"⟩ ∈ hx_ws := List.mem_filter.mpr ⟨List.mem_of_getElem? (i := 296) (by decide +kernel), rfl⟩
theorem tb_297 : Cond.instanceMethod ⟨"DearVotes$House", "countWithout", "(II)I"⟩ ∈ hx_ws := List.mem_filter.mpr ⟨List.mem_of_getElem? (i := 297) (by decide +kernel), rfl⟩
theorem tb_298 : Cond.selects "DearVotes$House" ⟨"DearVotes$House", "countWithout", "(II)I"⟩ ⟨"DearVotes$House", "countWithout", "(II)I"⟩ ∈ hx_ws := List.mem_filter.mpr ⟨List.mem_of_getElem? (i := 298) (by decide +kernel), rfl⟩
theorem tb_299 : Cond.code ⟨"DearVotes$House", "countWithout", "(II)I"⟩ prog_3_method_8_code 4 (Option.some Jvm.ClassFile.FieldType.int) ∈ hx_ws := List.mem_filter.mpr ⟨List.mem_of_getElem? (i := 299) (by decide +kernel), rfl⟩
theorem tb_300 : Cond.methodLink "DearVotes$House" 50 ⟨"DearVotes$House", "resultOf", "(II)I"⟩ ∈ hx_ws := List.mem_filter.mpr ⟨List.mem_of_getElem? (i := 300) (by decide +kernel), rfl⟩
theorem tb_301 : Cond.methodLink "DearVotesLaw" 70 ⟨"DearVotes", "best", "(I)I"⟩ ∈ hx_ws := List.mem_filter.mpr ⟨List.mem_of_getElem? (i := 301) (by decide +kernel), rfl⟩
theorem tb_302 : Cond.instanceMethod ⟨"DearVotes", "best", "(I)I"⟩ ∈ hx_ws := List.mem_filter.mpr ⟨List.mem_of_getElem? (i := 302) (by decide +kernel), rfl⟩
theorem tb_303 : Cond.selects "DearVotes" ⟨"DearVotes", "best", "(I)I"⟩ ⟨"DearVotes", "best", "(I)I"⟩ ∈ hx_ws := List.mem_filter.mpr ⟨List.mem_of_getElem? (i := 303) (by decide +kernel), rfl⟩
theorem tb_304 : Cond.code ⟨"DearVotes", "best", "(I)I"⟩ prog_1_method_15_code 2 (Option.some Jvm.ClassFile.FieldType.int) ∈ hx_ws := List.mem_filter.mpr ⟨List.mem_of_getElem? (i := 304) (by decide +kernel), rfl⟩
theorem tb_305 : Cond.methodLink "DearVotes" 101 ⟨"DearVotes$Search", "findFor", "(I)V"⟩ ∈ hx_ws := List.mem_filter.mpr ⟨List.mem_of_getElem? (i := 305) (by decide +kernel), rfl⟩
theorem tb_306 : Cond.instanceMethod ⟨"DearVotes$Search", "findFor", "(I)V"⟩ ∈ hx_ws := List.mem_filter.mpr ⟨List.mem_of_getElem? (i := 306) (by decide +kernel), rfl⟩
theorem tb_307 : Cond.selects "DearVotes$Search" ⟨"DearVotes$Search", "findFor", "(I)V"⟩ ⟨"DearVotes$Search", "findFor", "(I)V"⟩ ∈ hx_ws := List.mem_filter.mpr ⟨List.mem_of_getElem? (i := 307) (by decide +kernel), rfl⟩
theorem tb_308 : Cond.code ⟨"DearVotes$Search", "findFor", "(I)V"⟩ prog_5_method_2_code 3 (Option.none : Option Jvm.ClassFile.FieldType) ∈ hx_ws := List.mem_filter.mpr ⟨List.mem_of_getElem? (i := 308) (by decide +kernel), rfl⟩
theorem tb_309 : Cond.constant "DearVotes$Search" 45 (-1000000) ∈ hx_ws := List.mem_filter.mpr ⟨List.mem_of_getElem? (i := 309) (by decide +kernel), rfl⟩
theorem tb_310 : Cond.methodLink "DearVotes$Search" 55 ⟨"DearVotes$House", "countWithout", "(II)I"⟩ ∈ hx_ws := List.mem_filter.mpr ⟨List.mem_of_getElem? (i := 310) (by decide +kernel), rfl⟩
theorem tb_311 : Cond.methodLink "DearVotes$Search" 62 ⟨"DearVotes$Search", "listChoices", "(III)V"⟩ ∈ hx_ws := List.mem_filter.mpr ⟨List.mem_of_getElem? (i := 311) (by decide +kernel), rfl⟩
theorem tb_312 : Cond.privateMethod ⟨"DearVotes$Search", "listChoices", "(III)V"⟩ ∈ lw_tbl := List.mem_of_getElem? (i := 312) (by decide +kernel)
theorem tb_313 : Cond.instanceMethod ⟨"DearVotes$Search", "listChoices", "(III)V"⟩ ∈ hx_ws := List.mem_filter.mpr ⟨List.mem_of_getElem? (i := 313) (by decide +kernel), rfl⟩
theorem tb_314 : Cond.code ⟨"DearVotes$Search", "listChoices", "(III)V"⟩ prog_5_method_4_code 6 (Option.none : Option Jvm.ClassFile.FieldType) ∈ hx_ws := List.mem_filter.mpr ⟨List.mem_of_getElem? (i := 314) (by decide +kernel), rfl⟩
theorem tb_315 : Cond.methodLink "DearVotes$Search" 79 ⟨"DearVotes$House", "gainBy", "(II)I"⟩ ∈ hx_ws := List.mem_filter.mpr ⟨List.mem_of_getElem? (i := 315) (by decide +kernel), rfl⟩
theorem tb_316 : Cond.methodLink "DearVotes$Search" 82 ⟨"DearVotes$Search", "addChoice", "(III)V"⟩ ∈ hx_ws := List.mem_filter.mpr ⟨List.mem_of_getElem? (i := 316) (by decide +kernel), rfl⟩
theorem tb_317 : Cond.privateMethod ⟨"DearVotes$Search", "addChoice", "(III)V"⟩ ∈ lw_tbl := List.mem_of_getElem? (i := 317) (by decide +kernel)
theorem tb_318 : Cond.instanceMethod ⟨"DearVotes$Search", "addChoice", "(III)V"⟩ ∈ hx_ws := List.mem_filter.mpr ⟨List.mem_of_getElem? (i := 318) (by decide +kernel), rfl⟩
theorem tb_319 : Cond.code ⟨"DearVotes$Search", "addChoice", "(III)V"⟩ prog_5_method_5_code 5 (Option.none : Option Jvm.ClassFile.FieldType) ∈ hx_ws := List.mem_filter.mpr ⟨List.mem_of_getElem? (i := 319) (by decide +kernel), rfl⟩
theorem tb_320 : Cond.methodLink "DearVotes$Search" 66 ⟨"DearVotes$Search", "tryFrom", "(LDearVotes$Search;III)V"⟩ ∈ hx_ws := List.mem_filter.mpr ⟨List.mem_of_getElem? (i := 320) (by decide +kernel), rfl⟩
theorem tb_321 : Cond.static ⟨"DearVotes$Search", "tryFrom", "(LDearVotes$Search;III)V"⟩ ∈ hx_ws := List.mem_filter.mpr ⟨List.mem_of_getElem? (i := 321) (by decide +kernel), rfl⟩
theorem tb_322 : Cond.code ⟨"DearVotes$Search", "tryFrom", "(LDearVotes$Search;III)V"⟩ prog_5_method_6_code 7 (Option.none : Option Jvm.ClassFile.FieldType) ∈ hx_ws := List.mem_filter.mpr ⟨List.mem_of_getElem? (i := 322) (by decide +kernel), rfl⟩
theorem tb_323 : Cond.methodLink "DearVotes$Search" 85 ⟨"DearVotes$Search", "keepIfBetter", "(II)V"⟩ ∈ hx_ws := List.mem_filter.mpr ⟨List.mem_of_getElem? (i := 323) (by decide +kernel), rfl⟩
theorem tb_324 : Cond.privateMethod ⟨"DearVotes$Search", "keepIfBetter", "(II)V"⟩ ∈ lw_tbl := List.mem_of_getElem? (i := 324) (by decide +kernel)
theorem tb_325 : Cond.instanceMethod ⟨"DearVotes$Search", "keepIfBetter", "(II)V"⟩ ∈ hx_ws := List.mem_filter.mpr ⟨List.mem_of_getElem? (i := 325) (by decide +kernel), rfl⟩
theorem tb_326 : Cond.code ⟨"DearVotes$Search", "keepIfBetter", "(II)V"⟩ prog_5_method_7_code 3 (Option.none : Option Jvm.ClassFile.FieldType) ∈ hx_ws := List.mem_filter.mpr ⟨List.mem_of_getElem? (i := 326) (by decide +kernel), rfl⟩
theorem tb_327 : Cond.methodLink "DearVotes$Search" 89 ⟨"DearVotes$Search", "triedIsLess", "()Z"⟩ ∈ hx_ws := List.mem_filter.mpr ⟨List.mem_of_getElem? (i := 327) (by decide +kernel), rfl⟩
theorem tb_328 : Cond.privateMethod ⟨"DearVotes$Search", "triedIsLess", "()Z"⟩ ∈ lw_tbl := List.mem_of_getElem? (i := 328) (by decide +kernel)
theorem tb_329 : Cond.instanceMethod ⟨"DearVotes$Search", "triedIsLess", "()Z"⟩ ∈ hx_ws := List.mem_filter.mpr ⟨List.mem_of_getElem? (i := 329) (by decide +kernel), rfl⟩
theorem tb_330 : Cond.code ⟨"DearVotes$Search", "triedIsLess", "()Z"⟩ prog_5_method_8_code 2 (Option.some Jvm.ClassFile.FieldType.boolean) ∈ hx_ws := List.mem_filter.mpr ⟨List.mem_of_getElem? (i := 330) (by decide +kernel), rfl⟩
theorem tb_331 : Cond.methodLink "DearVotes$Search" 73 ⟨"java/lang/System", "arraycopy", "(Ljava/lang/Object;ILjava/lang/Object;II)V"⟩ ∈ hx_ws := List.mem_filter.mpr ⟨List.mem_of_getElem? (i := 331) (by decide +kernel), rfl⟩
theorem tb_332 : Cond.static ⟨"java/lang/System", "arraycopy", "(Ljava/lang/Object;ILjava/lang/Object;II)V"⟩ ∈ hx_ws := List.mem_filter.mpr ⟨List.mem_of_getElem? (i := 332) (by decide +kernel), rfl⟩
theorem tb_333 : Cond.native ⟨"java/lang/System", "arraycopy", "(Ljava/lang/Object;ILjava/lang/Object;II)V"⟩ ∈ hx_ws := List.mem_filter.mpr ⟨List.mem_of_getElem? (i := 333) (by decide +kernel), rfl⟩
theorem tb_334 : Cond.methodLink "DearVotesLaw" 74 ⟨"DearVotes", "answer", "(II)I"⟩ ∈ hx_ws := List.mem_filter.mpr ⟨List.mem_of_getElem? (i := 334) (by decide +kernel), rfl⟩
theorem tb_335 : Cond.instanceMethod ⟨"DearVotes", "answer", "(II)I"⟩ ∈ hx_ws := List.mem_filter.mpr ⟨List.mem_of_getElem? (i := 335) (by decide +kernel), rfl⟩
theorem tb_336 : Cond.selects "DearVotes" ⟨"DearVotes", "answer", "(II)I"⟩ ⟨"DearVotes", "answer", "(II)I"⟩ ∈ hx_ws := List.mem_filter.mpr ⟨List.mem_of_getElem? (i := 336) (by decide +kernel), rfl⟩
theorem tb_337 : Cond.code ⟨"DearVotes", "answer", "(II)I"⟩ prog_1_method_16_code 3 (Option.some Jvm.ClassFile.FieldType.int) ∈ hx_ws := List.mem_filter.mpr ⟨List.mem_of_getElem? (i := 337) (by decide +kernel), rfl⟩
theorem tb_338 : Cond.methodLink "DearVotesLaw" 78 ⟨"DearVotes", "take", "(I)I"⟩ ∈ hx_ws := List.mem_filter.mpr ⟨List.mem_of_getElem? (i := 338) (by decide +kernel), rfl⟩
theorem tb_339 : Cond.instanceMethod ⟨"DearVotes", "take", "(I)I"⟩ ∈ hx_ws := List.mem_filter.mpr ⟨List.mem_of_getElem? (i := 339) (by decide +kernel), rfl⟩
theorem tb_340 : Cond.selects "DearVotes" ⟨"DearVotes", "take", "(I)I"⟩ ⟨"DearVotes", "take", "(I)I"⟩ ∈ hx_ws := List.mem_filter.mpr ⟨List.mem_of_getElem? (i := 340) (by decide +kernel), rfl⟩
theorem tb_341 : Cond.code ⟨"DearVotes", "take", "(I)I"⟩ prog_1_method_17_code 2 (Option.some Jvm.ClassFile.FieldType.int) ∈ hx_ws := List.mem_filter.mpr ⟨List.mem_of_getElem? (i := 341) (by decide +kernel), rfl⟩
theorem tb_342 : Cond.methodLink "DearVotes" 111 ⟨"DearVotes$Search", "giveTo", "(I)V"⟩ ∈ hx_ws := List.mem_filter.mpr ⟨List.mem_of_getElem? (i := 342) (by decide +kernel), rfl⟩
theorem tb_343 : Cond.instanceMethod ⟨"DearVotes$Search", "giveTo", "(I)V"⟩ ∈ hx_ws := List.mem_filter.mpr ⟨List.mem_of_getElem? (i := 343) (by decide +kernel), rfl⟩
theorem tb_344 : Cond.selects "DearVotes$Search" ⟨"DearVotes$Search", "giveTo", "(I)V"⟩ ⟨"DearVotes$Search", "giveTo", "(I)V"⟩ ∈ hx_ws := List.mem_filter.mpr ⟨List.mem_of_getElem? (i := 344) (by decide +kernel), rfl⟩
theorem tb_345 : Cond.code ⟨"DearVotes$Search", "giveTo", "(I)V"⟩ prog_5_method_3_code 2 (Option.none : Option Jvm.ClassFile.FieldType) ∈ hx_ws := List.mem_filter.mpr ⟨List.mem_of_getElem? (i := 345) (by decide +kernel), rfl⟩
theorem tb_346 : Cond.methodLink "DearVotesLaw" 82 ⟨"DearVotes", "play", "(I)I"⟩ ∈ hx_ws := List.mem_filter.mpr ⟨List.mem_of_getElem? (i := 346) (by decide +kernel), rfl⟩
theorem tb_347 : Cond.instanceMethod ⟨"DearVotes", "play", "(I)I"⟩ ∈ hx_ws := List.mem_filter.mpr ⟨List.mem_of_getElem? (i := 347) (by decide +kernel), rfl⟩
theorem tb_348 : Cond.selects "DearVotes" ⟨"DearVotes", "play", "(I)I"⟩ ⟨"DearVotes", "play", "(I)I"⟩ ∈ hx_ws := List.mem_filter.mpr ⟨List.mem_of_getElem? (i := 348) (by decide +kernel), rfl⟩
theorem tb_349 : Cond.code ⟨"DearVotes", "play", "(I)I"⟩ prog_1_method_18_code 2 (Option.some Jvm.ClassFile.FieldType.int) ∈ hx_ws := List.mem_filter.mpr ⟨List.mem_of_getElem? (i := 349) (by decide +kernel), rfl⟩
theorem tb_350 : Cond.methodLink "DearVotes" 114 ⟨"DearVotes$Rounds", "playAtMost", "(I)I"⟩ ∈ hx_ws := List.mem_filter.mpr ⟨List.mem_of_getElem? (i := 350) (by decide +kernel), rfl⟩
theorem tb_351 : Cond.instanceMethod ⟨"DearVotes$Rounds", "playAtMost", "(I)I"⟩ ∈ hx_ws := List.mem_filter.mpr ⟨List.mem_of_getElem? (i := 351) (by decide +kernel), rfl⟩
theorem tb_352 : Cond.selects "DearVotes$Rounds" ⟨"DearVotes$Rounds", "playAtMost", "(I)I"⟩ ⟨"DearVotes$Rounds", "playAtMost", "(I)I"⟩ ∈ hx_ws := List.mem_filter.mpr ⟨List.mem_of_getElem? (i := 352) (by decide +kernel), rfl⟩
theorem tb_353 : Cond.code ⟨"DearVotes$Rounds", "playAtMost", "(I)I"⟩ prog_4_method_2_code 4 (Option.some Jvm.ClassFile.FieldType.int) ∈ hx_ws := List.mem_filter.mpr ⟨List.mem_of_getElem? (i := 353) (by decide +kernel), rfl⟩
theorem tb_354 : Cond.methodLink "DearVotes$Rounds" 31 ⟨"DearVotes$Rounds", "noteVoices", "(I)V"⟩ ∈ hx_ws := List.mem_filter.mpr ⟨List.mem_of_getElem? (i := 354) (by decide +kernel), rfl⟩
theorem tb_355 : Cond.privateMethod ⟨"DearVotes$Rounds", "noteVoices", "(I)V"⟩ ∈ lw_tbl := List.mem_of_getElem? (i := 355) (by decide +kernel)
theorem tb_356 : Cond.instanceMethod ⟨"DearVotes$Rounds", "noteVoices", "(I)V"⟩ ∈ hx_ws := List.mem_filter.mpr ⟨List.mem_of_getElem? (i := 356) (by decide +kernel), rfl⟩
theorem tb_357 : Cond.code ⟨"DearVotes$Rounds", "noteVoices", "(I)V"⟩ prog_4_method_4_code 3 (Option.none : Option Jvm.ClassFile.FieldType) ∈ hx_ws := List.mem_filter.mpr ⟨List.mem_of_getElem? (i := 357) (by decide +kernel), rfl⟩
theorem tb_358 : Cond.methodLink "DearVotes$Rounds" 73 ⟨"DearVotes$House", "voicesInOne", "(I)J"⟩ ∈ hx_ws := List.mem_filter.mpr ⟨List.mem_of_getElem? (i := 358) (by decide +kernel), rfl⟩
theorem tb_359 : Cond.instanceMethod ⟨"DearVotes$House", "voicesInOne", "(I)J"⟩ ∈ hx_ws := List.mem_filter.mpr ⟨List.mem_of_getElem? (i := 359) (by decide +kernel), rfl⟩
theorem tb_360 : Cond.selects "DearVotes$House" ⟨"DearVotes$House", "voicesInOne", "(I)J"⟩ ⟨"DearVotes$House", "voicesInOne", "(I)J"⟩ ∈ hx_ws := List.mem_filter.mpr ⟨List.mem_of_getElem? (i := 360) (by decide +kernel), rfl⟩
theorem tb_361 : Cond.code ⟨"DearVotes$House", "voicesInOne", "(I)J"⟩ prog_3_method_16_code 5 (Option.some Jvm.ClassFile.FieldType.long) ∈ hx_ws := List.mem_filter.mpr ⟨List.mem_of_getElem? (i := 361) (by decide +kernel), rfl⟩
theorem tb_362 : Cond.constantLong "DearVotes$House" 64 81 ∈ hx_ws := List.mem_filter.mpr ⟨List.mem_of_getElem? (i := 362) (by decide +kernel), rfl⟩
theorem tb_363 : Cond.constantLong "DearVotes$House" 66 40 ∈ hx_ws := List.mem_filter.mpr ⟨List.mem_of_getElem? (i := 363) (by decide +kernel), rfl⟩
theorem tb_364 : Cond.methodLink "DearVotes$Rounds" 35 ⟨"DearVotes$Rounds", "doRound", "()I"⟩ ∈ hx_ws := List.mem_filter.mpr ⟨List.mem_of_getElem? (i := 364) (by decide +kernel), rfl⟩
theorem tb_365 : Cond.privateMethod ⟨"DearVotes$Rounds", "doRound", "()I"⟩ ∈ lw_tbl := List.mem_of_getElem? (i := 365) (by decide +kernel)
theorem tb_366 : Cond.instanceMethod ⟨"DearVotes$Rounds", "doRound", "()I"⟩ ∈ hx_ws := List.mem_filter.mpr ⟨List.mem_of_getElem? (i := 366) (by decide +kernel), rfl⟩
theorem tb_367 : Cond.code ⟨"DearVotes$Rounds", "doRound", "()I"⟩ prog_4_method_3_code 3 (Option.some Jvm.ClassFile.FieldType.int) ∈ hx_ws := List.mem_filter.mpr ⟨List.mem_of_getElem? (i := 367) (by decide +kernel), rfl⟩
theorem tb_368 : Cond.methodLink "DearVotes$Rounds" 58 ⟨"DearVotes$Search", "findFor", "(I)V"⟩ ∈ hx_ws := List.mem_filter.mpr ⟨List.mem_of_getElem? (i := 368) (by decide +kernel), rfl⟩
theorem tb_369 : Cond.methodLink "DearVotes$Rounds" 66 ⟨"DearVotes$House", "gainOf", "(I)I"⟩ ∈ hx_ws := List.mem_filter.mpr ⟨List.mem_of_getElem? (i := 369) (by decide +kernel), rfl⟩
theorem tb_370 : Cond.methodLink "DearVotes$Rounds" 70 ⟨"DearVotes$Search", "giveTo", "(I)V"⟩ ∈ hx_ws := List.mem_filter.mpr ⟨List.mem_of_getElem? (i := 370) (by decide +kernel), rfl⟩
theorem tb_371 : Cond.methodLink "DearVotes$Rounds" 45 ⟨"DearVotes$Rounds", "judge", "(II)V"⟩ ∈ hx_ws := List.mem_filter.mpr ⟨List.mem_of_getElem? (i := 371) (by decide +kernel), rfl⟩
theorem tb_372 : Cond.privateMethod ⟨"DearVotes$Rounds", "judge", "(II)V"⟩ ∈ lw_tbl := List.mem_of_getElem? (i := 372) (by decide +kernel)
theorem tb_373 : Cond.instanceMethod ⟨"DearVotes$Rounds", "judge", "(II)V"⟩ ∈ hx_ws := List.mem_filter.mpr ⟨List.mem_of_getElem? (i := 373) (by decide +kernel), rfl⟩
theorem tb_374 : Cond.code ⟨"DearVotes$Rounds", "judge", "(II)V"⟩ prog_4_method_5_code 4 (Option.none : Option Jvm.ClassFile.FieldType) ∈ hx_ws := List.mem_filter.mpr ⟨List.mem_of_getElem? (i := 374) (by decide +kernel), rfl⟩
theorem tb_375 : Cond.methodLink "DearVotes$Rounds" 77 ⟨"DearVotes$Rounds", "isSameTrail", "(II)Z"⟩ ∈ hx_ws := List.mem_filter.mpr ⟨List.mem_of_getElem? (i := 375) (by decide +kernel), rfl⟩
theorem tb_376 : Cond.privateMethod ⟨"DearVotes$Rounds", "isSameTrail", "(II)Z"⟩ ∈ lw_tbl := List.mem_of_getElem? (i := 376) (by decide +kernel)
theorem tb_377 : Cond.instanceMethod ⟨"DearVotes$Rounds", "isSameTrail", "(II)Z"⟩ ∈ hx_ws := List.mem_filter.mpr ⟨List.mem_of_getElem? (i := 377) (by decide +kernel), rfl⟩
theorem tb_378 : Cond.code ⟨"DearVotes$Rounds", "isSameTrail", "(II)Z"⟩ prog_4_method_6_code 4 (Option.some Jvm.ClassFile.FieldType.boolean) ∈ hx_ws := List.mem_filter.mpr ⟨List.mem_of_getElem? (i := 378) (by decide +kernel), rfl⟩
theorem tb_379 : Cond.methodLink "DearVotesLaw" 86 ⟨"DearVotes", "ended", "()I"⟩ ∈ hx_ws := List.mem_filter.mpr ⟨List.mem_of_getElem? (i := 379) (by decide +kernel), rfl⟩
theorem tb_380 : Cond.instanceMethod ⟨"DearVotes", "ended", "()I"⟩ ∈ hx_ws := List.mem_filter.mpr ⟨List.mem_of_getElem? (i := 380) (by decide +kernel), rfl⟩
theorem tb_381 : Cond.selects "DearVotes" ⟨"DearVotes", "ended", "()I"⟩ ⟨"DearVotes", "ended", "()I"⟩ ∈ hx_ws := List.mem_filter.mpr ⟨List.mem_of_getElem? (i := 381) (by decide +kernel), rfl⟩
theorem tb_382 : Cond.code ⟨"DearVotes", "ended", "()I"⟩ prog_1_method_19_code 1 (Option.some Jvm.ClassFile.FieldType.int) ∈ hx_ws := List.mem_filter.mpr ⟨List.mem_of_getElem? (i := 382) (by decide +kernel), rfl⟩
theorem tb_383 : Cond.methodLink "DearVotesLaw" 90 ⟨"DearVotes", "ring", "()I"⟩ ∈ hx_ws := List.mem_filter.mpr ⟨List.mem_of_getElem? (i := 383) (by decide +kernel), rfl⟩
theorem tb_384 : Cond.instanceMethod ⟨"DearVotes", "ring", "()I"⟩ ∈ hx_ws := List.mem_filter.mpr ⟨List.mem_of_getElem? (i := 384) (by decide +kernel), rfl⟩
theorem tb_385 : Cond.selects "DearVotes" ⟨"DearVotes", "ring", "()I"⟩ ⟨"DearVotes", "ring", "()I"⟩ ∈ hx_ws := List.mem_filter.mpr ⟨List.mem_of_getElem? (i := 385) (by decide +kernel), rfl⟩
theorem tb_386 : Cond.code ⟨"DearVotes", "ring", "()I"⟩ prog_1_method_20_code 1 (Option.some Jvm.ClassFile.FieldType.int) ∈ hx_ws := List.mem_filter.mpr ⟨List.mem_of_getElem? (i := 386) (by decide +kernel), rfl⟩
theorem tb_387 : Cond.methodLink "DearVotesLaw" 94 ⟨"DearVotes", "gift", "(III)I"⟩ ∈ hx_ws := List.mem_filter.mpr ⟨List.mem_of_getElem? (i := 387) (by decide +kernel), rfl⟩
theorem tb_388 : Cond.instanceMethod ⟨"DearVotes", "gift", "(III)I"⟩ ∈ hx_ws := List.mem_filter.mpr ⟨List.mem_of_getElem? (i := 388) (by decide +kernel), rfl⟩
theorem tb_389 : Cond.selects "DearVotes" ⟨"DearVotes", "gift", "(III)I"⟩ ⟨"DearVotes", "gift", "(III)I"⟩ ∈ hx_ws := List.mem_filter.mpr ⟨List.mem_of_getElem? (i := 389) (by decide +kernel), rfl⟩
theorem tb_390 : Cond.code ⟨"DearVotes", "gift", "(III)I"⟩ prog_1_method_21_code 5 (Option.some Jvm.ClassFile.FieldType.int) ∈ hx_ws := List.mem_filter.mpr ⟨List.mem_of_getElem? (i := 390) (by decide +kernel), rfl⟩
theorem tb_391 : Cond.methodLink "DearVotes" 123 ⟨"DearVotes$Fund", "hasProject", "(I)Z"⟩ ∈ hx_ws := List.mem_filter.mpr ⟨List.mem_of_getElem? (i := 391) (by decide +kernel), rfl⟩
theorem tb_392 : Cond.instanceMethod ⟨"DearVotes$Fund", "hasProject", "(I)Z"⟩ ∈ hx_ws := List.mem_filter.mpr ⟨List.mem_of_getElem? (i := 392) (by decide +kernel), rfl⟩
theorem tb_393 : Cond.selects "DearVotes$Fund" ⟨"DearVotes$Fund", "hasProject", "(I)Z"⟩ ⟨"DearVotes$Fund", "hasProject", "(I)Z"⟩ ∈ hx_ws := List.mem_filter.mpr ⟨List.mem_of_getElem? (i := 393) (by decide +kernel), rfl⟩
theorem tb_394 : Cond.code ⟨"DearVotes$Fund", "hasProject", "(I)Z"⟩ prog_2_method_2_code 2 (Option.some Jvm.ClassFile.FieldType.boolean) ∈ hx_ws := List.mem_filter.mpr ⟨List.mem_of_getElem? (i := 394) (by decide +kernel), rfl⟩
theorem tb_395 : Cond.constant "DearVotes" 126 1000000 ∈ hx_ws := List.mem_filter.mpr ⟨List.mem_of_getElem? (i := 395) (by decide +kernel), rfl⟩
theorem tb_396 : Cond.methodLink "DearVotesLaw" 98 ⟨"DearVotes", "bond", "(III)I"⟩ ∈ hx_ws := List.mem_filter.mpr ⟨List.mem_of_getElem? (i := 396) (by decide +kernel), rfl⟩
theorem tb_397 : Cond.instanceMethod ⟨"DearVotes", "bond", "(III)I"⟩ ∈ hx_ws := List.mem_filter.mpr ⟨List.mem_of_getElem? (i := 397) (by decide +kernel), rfl⟩
theorem tb_398 : Cond.selects "DearVotes" ⟨"DearVotes", "bond", "(III)I"⟩ ⟨"DearVotes", "bond", "(III)I"⟩ ∈ hx_ws := List.mem_filter.mpr ⟨List.mem_of_getElem? (i := 398) (by decide +kernel), rfl⟩
theorem tb_399 : Cond.code ⟨"DearVotes", "bond", "(III)I"⟩ prog_1_method_22_code 5 (Option.some Jvm.ClassFile.FieldType.int) ∈ hx_ws := List.mem_filter.mpr ⟨List.mem_of_getElem? (i := 399) (by decide +kernel), rfl⟩
theorem tb_400 : Cond.methodLink "DearVotesLaw" 102 ⟨"DearVotes", "matched", "(II)J"⟩ ∈ hx_ws := List.mem_filter.mpr ⟨List.mem_of_getElem? (i := 400) (by decide +kernel), rfl⟩
theorem tb_401 : Cond.instanceMethod ⟨"DearVotes", "matched", "(II)J"⟩ ∈ hx_ws := List.mem_filter.mpr ⟨List.mem_of_getElem? (i := 401) (by decide +kernel), rfl⟩
theorem tb_402 : Cond.selects "DearVotes" ⟨"DearVotes", "matched", "(II)J"⟩ ⟨"DearVotes", "matched", "(II)J"⟩ ∈ hx_ws := List.mem_filter.mpr ⟨List.mem_of_getElem? (i := 402) (by decide +kernel), rfl⟩
theorem tb_403 : Cond.code ⟨"DearVotes", "matched", "(II)J"⟩ prog_1_method_23_code 3 (Option.some Jvm.ClassFile.FieldType.long) ∈ hx_ws := List.mem_filter.mpr ⟨List.mem_of_getElem? (i := 403) (by decide +kernel), rfl⟩
theorem tb_404 : Cond.constantLong "DearVotes" 133 (-101) ∈ hx_ws := List.mem_filter.mpr ⟨List.mem_of_getElem? (i := 404) (by decide +kernel), rfl⟩
theorem tb_405 : Cond.constantLong "DearVotes" 135 (-102) ∈ hx_ws := List.mem_filter.mpr ⟨List.mem_of_getElem? (i := 405) (by decide +kernel), rfl⟩
theorem tb_406 : Cond.methodLink "DearVotes" 137 ⟨"DearVotes$Fund", "matchedLow", "(I)J"⟩ ∈ hx_ws := List.mem_filter.mpr ⟨List.mem_of_getElem? (i := 406) (by decide +kernel), rfl⟩
theorem tb_407 : Cond.instanceMethod ⟨"DearVotes$Fund", "matchedLow", "(I)J"⟩ ∈ hx_ws := List.mem_filter.mpr ⟨List.mem_of_getElem? (i := 407) (by decide +kernel), rfl⟩
theorem tb_408 : Cond.selects "DearVotes$Fund" ⟨"DearVotes$Fund", "matchedLow", "(I)J"⟩ ⟨"DearVotes$Fund", "matchedLow", "(I)J"⟩ ∈ hx_ws := List.mem_filter.mpr ⟨List.mem_of_getElem? (i := 408) (by decide +kernel), rfl⟩
theorem tb_409 : Cond.code ⟨"DearVotes$Fund", "matchedLow", "(I)J"⟩ prog_2_method_3_code 6 (Option.some Jvm.ClassFile.FieldType.long) ∈ hx_ws := List.mem_filter.mpr ⟨List.mem_of_getElem? (i := 409) (by decide +kernel), rfl⟩
theorem tb_410 : Cond.methodLink "DearVotes$Fund" 36 ⟨"DearVotes$Fund", "fineProduct", "(III)J"⟩ ∈ hx_ws := List.mem_filter.mpr ⟨List.mem_of_getElem? (i := 410) (by decide +kernel), rfl⟩
theorem tb_411 : Cond.privateMethod ⟨"DearVotes$Fund", "fineProduct", "(III)J"⟩ ∈ lw_tbl := List.mem_of_getElem? (i := 411) (by decide +kernel)
theorem tb_412 : Cond.instanceMethod ⟨"DearVotes$Fund", "fineProduct", "(III)J"⟩ ∈ hx_ws := List.mem_filter.mpr ⟨List.mem_of_getElem? (i := 412) (by decide +kernel), rfl⟩
theorem tb_413 : Cond.code ⟨"DearVotes$Fund", "fineProduct", "(III)J"⟩ prog_2_method_6_code 4 (Option.some Jvm.ClassFile.FieldType.long) ∈ hx_ws := List.mem_filter.mpr ⟨List.mem_of_getElem? (i := 413) (by decide +kernel), rfl⟩
theorem tb_414 : Cond.constantLong "DearVotes$Fund" 53 65536 ∈ hx_ws := List.mem_filter.mpr ⟨List.mem_of_getElem? (i := 414) (by decide +kernel), rfl⟩
theorem tb_415 : Cond.methodLink "DearVotes$Fund" 40 ⟨"DearVotes$Fund", "root", "(J)J"⟩ ∈ hx_ws := List.mem_filter.mpr ⟨List.mem_of_getElem? (i := 415) (by decide +kernel), rfl⟩
theorem tb_416 : Cond.static ⟨"DearVotes$Fund", "root", "(J)J"⟩ ∈ hx_ws := List.mem_filter.mpr ⟨List.mem_of_getElem? (i := 416) (by decide +kernel), rfl⟩
theorem tb_417 : Cond.code ⟨"DearVotes$Fund", "root", "(J)J"⟩ prog_2_method_7_code 6 (Option.some Jvm.ClassFile.FieldType.long) ∈ hx_ws := List.mem_filter.mpr ⟨List.mem_of_getElem? (i := 417) (by decide +kernel), rfl⟩
theorem tb_418 : Cond.constantLong "DearVotes$Fund" 55 268435456 ∈ hx_ws := List.mem_filter.mpr ⟨List.mem_of_getElem? (i := 418) (by decide +kernel), rfl⟩
theorem tb_419 : Cond.constantLong "DearVotes$Fund" 44 2 ∈ hx_ws := List.mem_filter.mpr ⟨List.mem_of_getElem? (i := 419) (by decide +kernel), rfl⟩
theorem tb_420 : Cond.constantLong "DearVotes$Fund" 46 256000 ∈ hx_ws := List.mem_filter.mpr ⟨List.mem_of_getElem? (i := 420) (by decide +kernel), rfl⟩
theorem tb_421 : Cond.methodLink "DearVotes" 141 ⟨"DearVotes$Fund", "matchedHigh", "(I)J"⟩ ∈ hx_ws := List.mem_filter.mpr ⟨List.mem_of_getElem? (i := 421) (by decide +kernel), rfl⟩
theorem tb_422 : Cond.instanceMethod ⟨"DearVotes$Fund", "matchedHigh", "(I)J"⟩ ∈ hx_ws := List.mem_filter.mpr ⟨List.mem_of_getElem? (i := 422) (by decide +kernel), rfl⟩
theorem tb_423 : Cond.selects "DearVotes$Fund" ⟨"DearVotes$Fund", "matchedHigh", "(I)J"⟩ ⟨"DearVotes$Fund", "matchedHigh", "(I)J"⟩ ∈ hx_ws := List.mem_filter.mpr ⟨List.mem_of_getElem? (i := 423) (by decide +kernel), rfl⟩
theorem tb_424 : Cond.code ⟨"DearVotes$Fund", "matchedHigh", "(I)J"⟩ prog_2_method_5_code 6 (Option.some Jvm.ClassFile.FieldType.long) ∈ hx_ws := List.mem_filter.mpr ⟨List.mem_of_getElem? (i := 424) (by decide +kernel), rfl⟩
theorem tb_425 : Cond.methodLink "DearVotes$Fund" 50 ⟨"DearVotes$Fund", "rootAbove", "(J)J"⟩ ∈ hx_ws := List.mem_filter.mpr ⟨List.mem_of_getElem? (i := 425) (by decide +kernel), rfl⟩
theorem tb_426 : Cond.static ⟨"DearVotes$Fund", "rootAbove", "(J)J"⟩ ∈ hx_ws := List.mem_filter.mpr ⟨List.mem_of_getElem? (i := 426) (by decide +kernel), rfl⟩
theorem tb_427 : Cond.code ⟨"DearVotes$Fund", "rootAbove", "(J)J"⟩ prog_2_method_8_code 4 (Option.some Jvm.ClassFile.FieldType.long) ∈ hx_ws := List.mem_filter.mpr ⟨List.mem_of_getElem? (i := 427) (by decide +kernel), rfl⟩
theorem tb_428 : Cond.methodLink "DearVotesLaw" 109 ⟨"DearVotes", "share", "(IJ)J"⟩ ∈ hx_ws := List.mem_filter.mpr ⟨List.mem_of_getElem? (i := 428) (by decide +kernel), rfl⟩
theorem tb_429 : Cond.instanceMethod ⟨"DearVotes", "share", "(IJ)J"⟩ ∈ hx_ws := List.mem_filter.mpr ⟨List.mem_of_getElem? (i := 429) (by decide +kernel), rfl⟩
theorem tb_430 : Cond.selects "DearVotes" ⟨"DearVotes", "share", "(IJ)J"⟩ ⟨"DearVotes", "share", "(IJ)J"⟩ ∈ hx_ws := List.mem_filter.mpr ⟨List.mem_of_getElem? (i := 430) (by decide +kernel), rfl⟩
theorem tb_431 : Cond.code ⟨"DearVotes", "share", "(IJ)J"⟩ prog_1_method_24_code 4 (Option.some Jvm.ClassFile.FieldType.long) ∈ hx_ws := List.mem_filter.mpr ⟨List.mem_of_getElem? (i := 431) (by decide +kernel), rfl⟩
theorem tb_432 : Cond.constantLong "DearVotes" 144 1000000000 ∈ hx_ws := List.mem_filter.mpr ⟨List.mem_of_getElem? (i := 432) (by decide +kernel), rfl⟩
theorem tb_433 : Cond.methodLink "DearVotes" 146 ⟨"DearVotes$Fund", "shareOf", "(IJ)J"⟩ ∈ hx_ws := List.mem_filter.mpr ⟨List.mem_of_getElem? (i := 433) (by decide +kernel), rfl⟩
theorem tb_434 : Cond.instanceMethod ⟨"DearVotes$Fund", "shareOf", "(IJ)J"⟩ ∈ hx_ws := List.mem_filter.mpr ⟨List.mem_of_getElem? (i := 434) (by decide +kernel), rfl⟩
theorem tb_435 : Cond.selects "DearVotes$Fund" ⟨"DearVotes$Fund", "shareOf", "(IJ)J"⟩ ⟨"DearVotes$Fund", "shareOf", "(IJ)J"⟩ ∈ hx_ws := List.mem_filter.mpr ⟨List.mem_of_getElem? (i := 435) (by decide +kernel), rfl⟩
theorem tb_436 : Cond.code ⟨"DearVotes$Fund", "shareOf", "(IJ)J"⟩ prog_2_method_9_code 14 (Option.some Jvm.ClassFile.FieldType.long) ∈ hx_ws := List.mem_filter.mpr ⟨List.mem_of_getElem? (i := 436) (by decide +kernel), rfl⟩
theorem tb_437 : Cond.methodLink "DearVotes$Fund" 57 ⟨"DearVotes$Fund", "matchedLow", "(I)J"⟩ ∈ hx_ws := List.mem_filter.mpr ⟨List.mem_of_getElem? (i := 437) (by decide +kernel), rfl⟩
theorem tb_438 : Cond.methodLink "DearVotesLaw" 114 ⟨"DearVotes", "damped", "(I)J"⟩ ∈ hx_ws := List.mem_filter.mpr ⟨List.mem_of_getElem? (i := 438) (by decide +kernel), rfl⟩
theorem tb_439 : Cond.instanceMethod ⟨"DearVotes", "damped", "(I)J"⟩ ∈ hx_ws := List.mem_filter.mpr ⟨List.mem_of_getElem? (i := 439) (by decide +kernel), rfl⟩
theorem tb_440 : Cond.selects "DearVotes" ⟨"DearVotes", "damped", "(I)J"⟩ ⟨"DearVotes", "damped", "(I)J"⟩ ∈ hx_ws := List.mem_filter.mpr ⟨List.mem_of_getElem? (i := 440) (by decide +kernel), rfl⟩
theorem tb_441 : Cond.code ⟨"DearVotes", "damped", "(I)J"⟩ prog_1_method_25_code 2 (Option.some Jvm.ClassFile.FieldType.long) ∈ hx_ws := List.mem_filter.mpr ⟨List.mem_of_getElem? (i := 441) (by decide +kernel), rfl⟩
theorem tb_442 : Cond.methodLink "DearVotes" 150 ⟨"DearVotes$Fund", "matchedUndamped", "(I)J"⟩ ∈ hx_ws := List.mem_filter.mpr ⟨List.mem_of_getElem? (i := 442) (by decide +kernel), rfl⟩
theorem tb_443 : Cond.instanceMethod ⟨"DearVotes$Fund", "matchedUndamped", "(I)J"⟩ ∈ hx_ws := List.mem_filter.mpr ⟨List.mem_of_getElem? (i := 443) (by decide +kernel), rfl⟩
theorem tb_444 : Cond.selects "DearVotes$Fund" ⟨"DearVotes$Fund", "matchedUndamped", "(I)J"⟩ ⟨"DearVotes$Fund", "matchedUndamped", "(I)J"⟩ ∈ hx_ws := List.mem_filter.mpr ⟨List.mem_of_getElem? (i := 444) (by decide +kernel), rfl⟩
theorem tb_445 : Cond.code ⟨"DearVotes$Fund", "matchedUndamped", "(I)J"⟩ prog_2_method_4_code 6 (Option.some Jvm.ClassFile.FieldType.long) ∈ hx_ws := List.mem_filter.mpr ⟨List.mem_of_getElem? (i := 445) (by decide +kernel), rfl⟩
theorem tb_446 : Cond.constantLong "DearVotes$Fund" 48 1000 ∈ hx_ws := List.mem_filter.mpr ⟨List.mem_of_getElem? (i := 446) (by decide +kernel), rfl⟩
theorem tb_447 : Cond.methodLink "DearVotesLaw" 119 ⟨"DearVotes", "likeness", "(II)I"⟩ ∈ hx_ws := List.mem_filter.mpr ⟨List.mem_of_getElem? (i := 447) (by decide +kernel), rfl⟩
theorem tb_448 : Cond.instanceMethod ⟨"DearVotes", "likeness", "(II)I"⟩ ∈ hx_ws := List.mem_filter.mpr ⟨List.mem_of_getElem? (i := 448) (by decide +kernel), rfl⟩
theorem tb_449 : Cond.selects "DearVotes" ⟨"DearVotes", "likeness", "(II)I"⟩ ⟨"DearVotes", "likeness", "(II)I"⟩ ∈ hx_ws := List.mem_filter.mpr ⟨List.mem_of_getElem? (i := 449) (by decide +kernel), rfl⟩
theorem tb_450 : Cond.code ⟨"DearVotes", "likeness", "(II)I"⟩ prog_1_method_26_code 3 (Option.some Jvm.ClassFile.FieldType.int) ∈ hx_ws := List.mem_filter.mpr ⟨List.mem_of_getElem? (i := 450) (by decide +kernel), rfl⟩
theorem tb_451 : Cond.methodLink "DearVotes" 153 ⟨"DearVotes$House", "likenessOf", "(II)I"⟩ ∈ hx_ws := List.mem_filter.mpr ⟨List.mem_of_getElem? (i := 451) (by decide +kernel), rfl⟩
theorem tb_452 : Cond.instanceMethod ⟨"DearVotes$House", "likenessOf", "(II)I"⟩ ∈ hx_ws := List.mem_filter.mpr ⟨List.mem_of_getElem? (i := 452) (by decide +kernel), rfl⟩
theorem tb_453 : Cond.selects "DearVotes$House" ⟨"DearVotes$House", "likenessOf", "(II)I"⟩ ⟨"DearVotes$House", "likenessOf", "(II)I"⟩ ∈ hx_ws := List.mem_filter.mpr ⟨List.mem_of_getElem? (i := 453) (by decide +kernel), rfl⟩
theorem tb_454 : Cond.code ⟨"DearVotes$House", "likenessOf", "(II)I"⟩ prog_3_method_13_code 8 (Option.some Jvm.ClassFile.FieldType.int) ∈ hx_ws := List.mem_filter.mpr ⟨List.mem_of_getElem? (i := 454) (by decide +kernel), rfl⟩
theorem tb_455 : Cond.methodLink "DearVotes$House" 53 ⟨"DearVotes$House", "costOf", "(I)I"⟩ ∈ hx_ws := List.mem_filter.mpr ⟨List.mem_of_getElem? (i := 455) (by decide +kernel), rfl⟩
theorem tb_456 : Cond.constantLong "DearVotes$House" 56 1000 ∈ hx_ws := List.mem_filter.mpr ⟨List.mem_of_getElem? (i := 456) (by decide +kernel), rfl⟩
theorem tb_457 : Cond.methodLink "DearVotesLaw" 123 ⟨"DearVotes", "group", "(II)I"⟩ ∈ hx_ws := List.mem_filter.mpr ⟨List.mem_of_getElem? (i := 457) (by decide +kernel), rfl⟩
theorem tb_458 : Cond.instanceMethod ⟨"DearVotes", "group", "(II)I"⟩ ∈ hx_ws := List.mem_filter.mpr ⟨List.mem_of_getElem? (i := 458) (by decide +kernel), rfl⟩
theorem tb_459 : Cond.selects "DearVotes" ⟨"DearVotes", "group", "(II)I"⟩ ⟨"DearVotes", "group", "(II)I"⟩ ∈ hx_ws := List.mem_filter.mpr ⟨List.mem_of_getElem? (i := 459) (by decide +kernel), rfl⟩
theorem tb_460 : Cond.code ⟨"DearVotes", "group", "(II)I"⟩ prog_1_method_27_code 3 (Option.some Jvm.ClassFile.FieldType.int) ∈ hx_ws := List.mem_filter.mpr ⟨List.mem_of_getElem? (i := 460) (by decide +kernel), rfl⟩
theorem tb_461 : Cond.methodLink "DearVotes" 156 ⟨"DearVotes$House", "groupOf", "(II)I"⟩ ∈ hx_ws := List.mem_filter.mpr ⟨List.mem_of_getElem? (i := 461) (by decide +kernel), rfl⟩
theorem tb_462 : Cond.instanceMethod ⟨"DearVotes$House", "groupOf", "(II)I"⟩ ∈ hx_ws := List.mem_filter.mpr ⟨List.mem_of_getElem? (i := 462) (by decide +kernel), rfl⟩
theorem tb_463 : Cond.selects "DearVotes$House" ⟨"DearVotes$House", "groupOf", "(II)I"⟩ ⟨"DearVotes$House", "groupOf", "(II)I"⟩ ∈ hx_ws := List.mem_filter.mpr ⟨List.mem_of_getElem? (i := 463) (by decide +kernel), rfl⟩
theorem tb_464 : Cond.code ⟨"DearVotes$House", "groupOf", "(II)I"⟩ prog_3_method_14_code 7 (Option.some Jvm.ClassFile.FieldType.int) ∈ hx_ws := List.mem_filter.mpr ⟨List.mem_of_getElem? (i := 464) (by decide +kernel), rfl⟩
theorem tb_465 : Cond.methodLink "DearVotes$House" 58 ⟨"DearVotes$House", "alikeTo", "(II)I"⟩ ∈ hx_ws := List.mem_filter.mpr ⟨List.mem_of_getElem? (i := 465) (by decide +kernel), rfl⟩
theorem tb_466 : Cond.instanceMethod ⟨"DearVotes$House", "alikeTo", "(II)I"⟩ ∈ hx_ws := List.mem_filter.mpr ⟨List.mem_of_getElem? (i := 466) (by decide +kernel), rfl⟩
theorem tb_467 : Cond.selects "DearVotes$House" ⟨"DearVotes$House", "alikeTo", "(II)I"⟩ ⟨"DearVotes$House", "alikeTo", "(II)I"⟩ ∈ hx_ws := List.mem_filter.mpr ⟨List.mem_of_getElem? (i := 467) (by decide +kernel), rfl⟩
theorem tb_468 : Cond.code ⟨"DearVotes$House", "alikeTo", "(II)I"⟩ prog_3_method_15_code 5 (Option.some Jvm.ClassFile.FieldType.int) ∈ hx_ws := List.mem_filter.mpr ⟨List.mem_of_getElem? (i := 468) (by decide +kernel), rfl⟩
theorem tb_469 : Cond.methodLink "DearVotes$House" 61 ⟨"DearVotes$House", "likenessOf", "(II)I"⟩ ∈ hx_ws := List.mem_filter.mpr ⟨List.mem_of_getElem? (i := 469) (by decide +kernel), rfl⟩
theorem tb_470 : Cond.methodLink "DearVotesLaw" 127 ⟨"DearVotes", "count", "(I)I"⟩ ∈ hx_ws := List.mem_filter.mpr ⟨List.mem_of_getElem? (i := 470) (by decide +kernel), rfl⟩
theorem tb_471 : Cond.instanceMethod ⟨"DearVotes", "count", "(I)I"⟩ ∈ hx_ws := List.mem_filter.mpr ⟨List.mem_of_getElem? (i := 471) (by decide +kernel), rfl⟩
theorem tb_472 : Cond.selects "DearVotes" ⟨"DearVotes", "count", "(I)I"⟩ ⟨"DearVotes", "count", "(I)I"⟩ ∈ hx_ws := List.mem_filter.mpr ⟨List.mem_of_getElem? (i := 472) (by decide +kernel), rfl⟩
theorem tb_473 : Cond.code ⟨"DearVotes", "count", "(I)I"⟩ prog_1_method_28_code 2 (Option.some Jvm.ClassFile.FieldType.int) ∈ hx_ws := List.mem_filter.mpr ⟨List.mem_of_getElem? (i := 473) (by decide +kernel), rfl⟩
theorem tb_474 : Cond.methodLink "DearVotes" 159 ⟨"DearVotes$House", "peoplePresent", "()I"⟩ ∈ hx_ws := List.mem_filter.mpr ⟨List.mem_of_getElem? (i := 474) (by decide +kernel), rfl⟩
theorem tb_475 : Cond.instanceMethod ⟨"DearVotes$House", "peoplePresent", "()I"⟩ ∈ hx_ws := List.mem_filter.mpr ⟨List.mem_of_getElem? (i := 475) (by decide +kernel), rfl⟩
theorem tb_476 : Cond.selects "DearVotes$House" ⟨"DearVotes$House", "peoplePresent", "()I"⟩ ⟨"DearVotes$House", "peoplePresent", "()I"⟩ ∈ hx_ws := List.mem_filter.mpr ⟨List.mem_of_getElem? (i := 476) (by decide +kernel), rfl⟩
theorem tb_477 : Cond.code ⟨"DearVotes$House", "peoplePresent", "()I"⟩ prog_3_method_5_code 3 (Option.some Jvm.ClassFile.FieldType.int) ∈ hx_ws := List.mem_filter.mpr ⟨List.mem_of_getElem? (i := 477) (by decide +kernel), rfl⟩
theorem tb_478 : Cond.methodLink "DearVotesLaw" 131 ⟨"DearVotes", "digest", "()J"⟩ ∈ hx_ws := List.mem_filter.mpr ⟨List.mem_of_getElem? (i := 478) (by decide +kernel), rfl⟩
theorem tb_479 : Cond.instanceMethod ⟨"DearVotes", "digest", "()J"⟩ ∈ hx_ws := List.mem_filter.mpr ⟨List.mem_of_getElem? (i := 479) (by decide +kernel), rfl⟩
theorem tb_480 : Cond.selects "DearVotes" ⟨"DearVotes", "digest", "()J"⟩ ⟨"DearVotes", "digest", "()J"⟩ ∈ hx_ws := List.mem_filter.mpr ⟨List.mem_of_getElem? (i := 480) (by decide +kernel), rfl⟩
theorem tb_481 : Cond.code ⟨"DearVotes", "digest", "()J"⟩ prog_1_method_29_code 4 (Option.some Jvm.ClassFile.FieldType.long) ∈ hx_ws := List.mem_filter.mpr ⟨List.mem_of_getElem? (i := 481) (by decide +kernel), rfl⟩
theorem tb_482 : Cond.constantLong "DearVotes" 169 103 ∈ hx_ws := List.mem_filter.mpr ⟨List.mem_of_getElem? (i := 482) (by decide +kernel), rfl⟩
theorem tb_483 : Cond.methodLink "DearVotes" 171 ⟨"DearVotes$House", "digestPerson", "(JI)J"⟩ ∈ hx_ws := List.mem_filter.mpr ⟨List.mem_of_getElem? (i := 483) (by decide +kernel), rfl⟩
theorem tb_484 : Cond.instanceMethod ⟨"DearVotes$House", "digestPerson", "(JI)J"⟩ ∈ hx_ws := List.mem_filter.mpr ⟨List.mem_of_getElem? (i := 484) (by decide +kernel), rfl⟩
theorem tb_485 : Cond.selects "DearVotes$House" ⟨"DearVotes$House", "digestPerson", "(JI)J"⟩ ⟨"DearVotes$House", "digestPerson", "(JI)J"⟩ ∈ hx_ws := List.mem_filter.mpr ⟨List.mem_of_getElem? (i := 485) (by decide +kernel), rfl⟩
theorem tb_486 : Cond.code ⟨"DearVotes$House", "digestPerson", "(JI)J"⟩ prog_3_method_17_code 7 (Option.some Jvm.ClassFile.FieldType.long) ∈ hx_ws := List.mem_filter.mpr ⟨List.mem_of_getElem? (i := 486) (by decide +kernel), rfl⟩
theorem tb_487 : Cond.constantLong "DearVotes$House" 68 31 ∈ hx_ws := List.mem_filter.mpr ⟨List.mem_of_getElem? (i := 487) (by decide +kernel), rfl⟩
theorem tb_488 : Cond.methodLink "DearVotes" 175 ⟨"DearVotes$Fund", "digestPerson", "(JI)J"⟩ ∈ hx_ws := List.mem_filter.mpr ⟨List.mem_of_getElem? (i := 488) (by decide +kernel), rfl⟩
theorem tb_489 : Cond.instanceMethod ⟨"DearVotes$Fund", "digestPerson", "(JI)J"⟩ ∈ hx_ws := List.mem_filter.mpr ⟨List.mem_of_getElem? (i := 489) (by decide +kernel), rfl⟩
theorem tb_490 : Cond.selects "DearVotes$Fund" ⟨"DearVotes$Fund", "digestPerson", "(JI)J"⟩ ⟨"DearVotes$Fund", "digestPerson", "(JI)J"⟩ ∈ hx_ws := List.mem_filter.mpr ⟨List.mem_of_getElem? (i := 490) (by decide +kernel), rfl⟩
theorem tb_491 : Cond.code ⟨"DearVotes$Fund", "digestPerson", "(JI)J"⟩ prog_2_method_10_code 7 (Option.some Jvm.ClassFile.FieldType.long) ∈ hx_ws := List.mem_filter.mpr ⟨List.mem_of_getElem? (i := 491) (by decide +kernel), rfl⟩
theorem tb_492 : Cond.constantLong "DearVotes$Fund" 61 31 ∈ hx_ws := List.mem_filter.mpr ⟨List.mem_of_getElem? (i := 492) (by decide +kernel), rfl⟩
theorem tb_493 : Cond.constantLong "DearVotes" 176 31 ∈ hx_ws := List.mem_filter.mpr ⟨List.mem_of_getElem? (i := 493) (by decide +kernel), rfl⟩
theorem tb_494 : Cond.classLink "DearVotesLaw" 10 "DearVotesModel" ∈ hx_ws := List.mem_filter.mpr ⟨List.mem_of_getElem? (i := 494) (by decide +kernel), rfl⟩
theorem tb_495 : Cond.instantiable "DearVotesModel" 25 ∈ hx_ws := List.mem_filter.mpr ⟨List.mem_of_getElem? (i := 495) (by decide +kernel), rfl⟩
theorem tb_496 : Cond.methodLink "DearVotesLaw" 12 ⟨"DearVotesModel", "<init>", "()V"⟩ ∈ hx_ws := List.mem_filter.mpr ⟨List.mem_of_getElem? (i := 496) (by decide +kernel), rfl⟩
theorem tb_497 : Cond.instanceMethod ⟨"DearVotesModel", "<init>", "()V"⟩ ∈ hx_ws := List.mem_filter.mpr ⟨List.mem_of_getElem? (i := 497) (by decide +kernel), rfl⟩
theorem tb_498 : Cond.code ⟨"DearVotesModel", "<init>", "()V"⟩ prog_7_method_1_code 2 (Option.none : Option Jvm.ClassFile.FieldType) ∈ hx_ws := List.mem_filter.mpr ⟨List.mem_of_getElem? (i := 498) (by decide +kernel), rfl⟩
theorem tb_499 : Cond.methodLink "DearVotesModel" 1 ⟨"java/lang/Object", "<init>", "()V"⟩ ∈ hx_ws := List.mem_filter.mpr ⟨List.mem_of_getElem? (i := 499) (by decide +kernel), rfl⟩
theorem tb_500 : Cond.fieldLink "DearVotesModel" 51 "DearVotesModel" "people" "I" ∈ hx_ws := List.mem_filter.mpr ⟨List.mem_of_getElem? (i := 500) (by decide +kernel), rfl⟩
theorem tb_501 : Cond.fieldLink "DearVotesModel" 59 "DearVotesModel" "questions" "I" ∈ hx_ws := List.mem_filter.mpr ⟨List.mem_of_getElem? (i := 501) (by decide +kernel), rfl⟩
theorem tb_502 : Cond.fieldLink "DearVotesModel" 62 "DearVotesModel" "projects" "I" ∈ hx_ws := List.mem_filter.mpr ⟨List.mem_of_getElem? (i := 502) (by decide +kernel), rfl⟩
theorem tb_503 : Cond.fieldLink "DearVotesModel" 65 "DearVotesModel" "seed" "I" ∈ hx_ws := List.mem_filter.mpr ⟨List.mem_of_getElem? (i := 503) (by decide +kernel), rfl⟩
theorem tb_504 : Cond.fieldLink "DearVotesModel" 7 "DearVotesModel" "budgets" "[I" ∈ hx_ws := List.mem_filter.mpr ⟨List.mem_of_getElem? (i := 504) (by decide +kernel), rfl⟩
theorem tb_505 : Cond.fieldLink "DearVotesModel" 13 "DearVotesModel" "isHere" "[Z" ∈ hx_ws := List.mem_filter.mpr ⟨List.mem_of_getElem? (i := 505) (by decide +kernel), rfl⟩
theorem tb_506 : Cond.fieldLink "DearVotesModel" 17 "DearVotesModel" "votes" "[I" ∈ hx_ws := List.mem_filter.mpr ⟨List.mem_of_getElem? (i := 506) (by decide +kernel), rfl⟩
theorem tb_507 : Cond.fieldLink "DearVotesModel" 20 "DearVotesModel" "worths" "[I" ∈ hx_ws := List.mem_filter.mpr ⟨List.mem_of_getElem? (i := 507) (by decide +kernel), rfl⟩
theorem tb_508 : Cond.fieldLink "DearVotesModel" 23 "DearVotesModel" "gifts" "[I" ∈ hx_ws := List.mem_filter.mpr ⟨List.mem_of_getElem? (i := 508) (by decide +kernel), rfl⟩
theorem tb_509 : Cond.fieldLink "DearVotesModel" 26 "DearVotesModel" "bonds" "[I" ∈ hx_ws := List.mem_filter.mpr ⟨List.mem_of_getElem? (i := 509) (by decide +kernel), rfl⟩
theorem tb_510 : Cond.fieldLink "DearVotesModel" 129 "DearVotesModel" "rounds" "I" ∈ hx_ws := List.mem_filter.mpr ⟨List.mem_of_getElem? (i := 510) (by decide +kernel), rfl⟩
theorem tb_511 : Cond.fieldLink "DearVotesModel" 132 "DearVotesModel" "changes" "I" ∈ hx_ws := List.mem_filter.mpr ⟨List.mem_of_getElem? (i := 511) (by decide +kernel), rfl⟩
theorem tb_512 : Cond.fieldLink "DearVotesModel" 120 "DearVotesModel" "ended" "I" ∈ hx_ws := List.mem_filter.mpr ⟨List.mem_of_getElem? (i := 512) (by decide +kernel), rfl⟩
theorem tb_513 : Cond.fieldLink "DearVotesModel" 123 "DearVotesModel" "ring" "I" ∈ hx_ws := List.mem_filter.mpr ⟨List.mem_of_getElem? (i := 513) (by decide +kernel), rfl⟩
theorem tb_514 : Cond.fieldLink "DearVotesModel" 29 "DearVotesModel" "cheapest" "[I" ∈ hx_ws := List.mem_filter.mpr ⟨List.mem_of_getElem? (i := 514) (by decide +kernel), rfl⟩
theorem tb_515 : Cond.fieldLink "DearVotesModel" 32 "DearVotesModel" "may" "[Z" ∈ hx_ws := List.mem_filter.mpr ⟨List.mem_of_getElem? (i := 515) (by decide +kernel), rfl⟩
theorem tb_516 : Cond.fieldLink "DearVotesModel" 35 "DearVotesModel" "bestVoices" "[I" ∈ hx_ws := List.mem_filter.mpr ⟨List.mem_of_getElem? (i := 516) (by decide +kernel), rfl⟩
theorem tb_517 : Cond.fieldLink "DearVotesModel" 38 "DearVotesModel" "tryVoices" "[I" ∈ hx_ws := List.mem_filter.mpr ⟨List.mem_of_getElem? (i := 517) (by decide +kernel), rfl⟩
theorem tb_518 : Cond.fieldLink "DearVotesModel" 99 "DearVotesModel" "bestGain" "I" ∈ hx_ws := List.mem_filter.mpr ⟨List.mem_of_getElem? (i := 518) (by decide +kernel), rfl⟩
theorem tb_519 : Cond.fieldLink "DearVotesModel" 102 "DearVotesModel" "bestCost" "I" ∈ hx_ws := List.mem_filter.mpr ⟨List.mem_of_getElem? (i := 519) (by decide +kernel), rfl⟩
theorem tb_520 : Cond.fieldLink "DearVotesModel" 95 "DearVotesModel" "hasBest" "Z" ∈ hx_ws := List.mem_filter.mpr ⟨List.mem_of_getElem? (i := 520) (by decide +kernel), rfl⟩
theorem tb_521 : Cond.fieldLink "DearVotesModel" 41 "DearVotesModel" "past" "[I" ∈ hx_ws := List.mem_filter.mpr ⟨List.mem_of_getElem? (i := 521) (by decide +kernel), rfl⟩
theorem tb_522 : Cond.fieldLink "DearVotesModel" 44 "DearVotesModel" "parts" "[J" ∈ hx_ws := List.mem_filter.mpr ⟨List.mem_of_getElem? (i := 522) (by decide +kernel), rfl⟩
theorem tb_523 : Cond.fieldLink "DearVotesModel" 48 "DearVotesModel" "rests" "[J" ∈ hx_ws := List.mem_filter.mpr ⟨List.mem_of_getElem? (i := 523) (by decide +kernel), rfl⟩
theorem tb_524 : Cond.fieldLink "DearVotesModel" 173 "DearVotesModel" "h" "J" ∈ hx_ws := List.mem_filter.mpr ⟨List.mem_of_getElem? (i := 524) (by decide +kernel), rfl⟩
theorem tb_525 : Cond.lays "DearVotesModel" "DearVotesModel" "people" "I" ∈ hx_ws := List.mem_filter.mpr ⟨List.mem_of_getElem? (i := 525) (by decide +kernel), rfl⟩
theorem tb_526 : Cond.soleField "DearVotesModel" "people" ∈ hx_ws := List.mem_filter.mpr ⟨List.mem_of_getElem? (i := 526) (by decide +kernel), rfl⟩
theorem tb_527 : Cond.lays "DearVotesModel" "DearVotesModel" "questions" "I" ∈ hx_ws := List.mem_filter.mpr ⟨List.mem_of_getElem? (i := 527) (by decide +kernel), rfl⟩
theorem tb_528 : Cond.soleField "DearVotesModel" "questions" ∈ hx_ws := List.mem_filter.mpr ⟨List.mem_of_getElem? (i := 528) (by decide +kernel), rfl⟩
theorem tb_529 : Cond.lays "DearVotesModel" "DearVotesModel" "projects" "I" ∈ hx_ws := List.mem_filter.mpr ⟨List.mem_of_getElem? (i := 529) (by decide +kernel), rfl⟩
theorem tb_530 : Cond.soleField "DearVotesModel" "projects" ∈ hx_ws := List.mem_filter.mpr ⟨List.mem_of_getElem? (i := 530) (by decide +kernel), rfl⟩
theorem tb_531 : Cond.lays "DearVotesModel" "DearVotesModel" "seed" "I" ∈ hx_ws := List.mem_filter.mpr ⟨List.mem_of_getElem? (i := 531) (by decide +kernel), rfl⟩
theorem tb_532 : Cond.soleField "DearVotesModel" "seed" ∈ hx_ws := List.mem_filter.mpr ⟨List.mem_of_getElem? (i := 532) (by decide +kernel), rfl⟩
theorem tb_533 : Cond.laysFinal "DearVotesModel" "DearVotesModel" "budgets" "[I" ∈ hx_ws := List.mem_filter.mpr ⟨List.mem_of_getElem? (i := 533) (by decide +kernel), rfl⟩
theorem tb_534 : Cond.soleField "DearVotesModel" "budgets" ∈ hx_ws := List.mem_filter.mpr ⟨List.mem_of_getElem? (i := 534) (by decide +kernel), rfl⟩
theorem tb_535 : Cond.laysFinal "DearVotesModel" "DearVotesModel" "isHere" "[Z" ∈ hx_ws := List.mem_filter.mpr ⟨List.mem_of_getElem? (i := 535) (by decide +kernel), rfl⟩
theorem tb_536 : Cond.soleField "DearVotesModel" "isHere" ∈ hx_ws := List.mem_filter.mpr ⟨List.mem_of_getElem? (i := 536) (by decide +kernel), rfl⟩
theorem tb_537 : Cond.laysFinal "DearVotesModel" "DearVotesModel" "votes" "[I" ∈ hx_ws := List.mem_filter.mpr ⟨List.mem_of_getElem? (i := 537) (by decide +kernel), rfl⟩
theorem tb_538 : Cond.soleField "DearVotesModel" "votes" ∈ hx_ws := List.mem_filter.mpr ⟨List.mem_of_getElem? (i := 538) (by decide +kernel), rfl⟩
theorem tb_539 : Cond.laysFinal "DearVotesModel" "DearVotesModel" "worths" "[I" ∈ hx_ws := List.mem_filter.mpr ⟨List.mem_of_getElem? (i := 539) (by decide +kernel), rfl⟩
theorem tb_540 : Cond.soleField "DearVotesModel" "worths" ∈ hx_ws := List.mem_filter.mpr ⟨List.mem_of_getElem? (i := 540) (by decide +kernel), rfl⟩
theorem tb_541 : Cond.laysFinal "DearVotesModel" "DearVotesModel" "gifts" "[I" ∈ hx_ws := List.mem_filter.mpr ⟨List.mem_of_getElem? (i := 541) (by decide +kernel), rfl⟩
theorem tb_542 : Cond.soleField "DearVotesModel" "gifts" ∈ hx_ws := List.mem_filter.mpr ⟨List.mem_of_getElem? (i := 542) (by decide +kernel), rfl⟩
theorem tb_543 : Cond.laysFinal "DearVotesModel" "DearVotesModel" "bonds" "[I" ∈ hx_ws := List.mem_filter.mpr ⟨List.mem_of_getElem? (i := 543) (by decide +kernel), rfl⟩
theorem tb_544 : Cond.soleField "DearVotesModel" "bonds" ∈ hx_ws := List.mem_filter.mpr ⟨List.mem_of_getElem? (i := 544) (by decide +kernel), rfl⟩
theorem tb_545 : Cond.lays "DearVotesModel" "DearVotesModel" "rounds" "I" ∈ hx_ws := List.mem_filter.mpr ⟨List.mem_of_getElem? (i := 545) (by decide +kernel), rfl⟩
theorem tb_546 : Cond.soleField "DearVotesModel" "rounds" ∈ hx_ws := List.mem_filter.mpr ⟨List.mem_of_getElem? (i := 546) (by decide +kernel), rfl⟩
theorem tb_547 : Cond.lays "DearVotesModel" "DearVotesModel" "changes" "I" ∈ hx_ws := List.mem_filter.mpr ⟨List.mem_of_getElem? (i := 547) (by decide +kernel), rfl⟩
theorem tb_548 : Cond.soleField "DearVotesModel" "changes" ∈ hx_ws := List.mem_filter.mpr ⟨List.mem_of_getElem? (i := 548) (by decide +kernel), rfl⟩
theorem tb_549 : Cond.lays "DearVotesModel" "DearVotesModel" "ended" "I" ∈ hx_ws := List.mem_filter.mpr ⟨List.mem_of_getElem? (i := 549) (by decide +kernel), rfl⟩
theorem tb_550 : Cond.soleField "DearVotesModel" "ended" ∈ hx_ws := List.mem_filter.mpr ⟨List.mem_of_getElem? (i := 550) (by decide +kernel), rfl⟩
theorem tb_551 : Cond.lays "DearVotesModel" "DearVotesModel" "ring" "I" ∈ hx_ws := List.mem_filter.mpr ⟨List.mem_of_getElem? (i := 551) (by decide +kernel), rfl⟩
theorem tb_552 : Cond.soleField "DearVotesModel" "ring" ∈ hx_ws := List.mem_filter.mpr ⟨List.mem_of_getElem? (i := 552) (by decide +kernel), rfl⟩
theorem tb_553 : Cond.laysFinal "DearVotesModel" "DearVotesModel" "cheapest" "[I" ∈ hx_ws := List.mem_filter.mpr ⟨List.mem_of_getElem? (i := 553) (by decide +kernel), rfl⟩
theorem tb_554 : Cond.soleField "DearVotesModel" "cheapest" ∈ hx_ws := List.mem_filter.mpr ⟨List.mem_of_getElem? (i := 554) (by decide +kernel), rfl⟩
theorem tb_555 : Cond.laysFinal "DearVotesModel" "DearVotesModel" "may" "[Z" ∈ hx_ws := List.mem_filter.mpr ⟨List.mem_of_getElem? (i := 555) (by decide +kernel), rfl⟩
theorem tb_556 : Cond.soleField "DearVotesModel" "may" ∈ hx_ws := List.mem_filter.mpr ⟨List.mem_of_getElem? (i := 556) (by decide +kernel), rfl⟩
theorem tb_557 : Cond.laysFinal "DearVotesModel" "DearVotesModel" "bestVoices" "[I" ∈ hx_ws := List.mem_filter.mpr ⟨List.mem_of_getElem? (i := 557) (by decide +kernel), rfl⟩
theorem tb_558 : Cond.soleField "DearVotesModel" "bestVoices" ∈ hx_ws := List.mem_filter.mpr ⟨List.mem_of_getElem? (i := 558) (by decide +kernel), rfl⟩
theorem tb_559 : Cond.laysFinal "DearVotesModel" "DearVotesModel" "tryVoices" "[I" ∈ hx_ws := List.mem_filter.mpr ⟨List.mem_of_getElem? (i := 559) (by decide +kernel), rfl⟩
theorem tb_560 : Cond.soleField "DearVotesModel" "tryVoices" ∈ hx_ws := List.mem_filter.mpr ⟨List.mem_of_getElem? (i := 560) (by decide +kernel), rfl⟩
theorem tb_561 : Cond.lays "DearVotesModel" "DearVotesModel" "bestGain" "I" ∈ hx_ws := List.mem_filter.mpr ⟨List.mem_of_getElem? (i := 561) (by decide +kernel), rfl⟩
theorem tb_562 : Cond.soleField "DearVotesModel" "bestGain" ∈ hx_ws := List.mem_filter.mpr ⟨List.mem_of_getElem? (i := 562) (by decide +kernel), rfl⟩
theorem tb_563 : Cond.lays "DearVotesModel" "DearVotesModel" "bestCost" "I" ∈ hx_ws := List.mem_filter.mpr ⟨List.mem_of_getElem? (i := 563) (by decide +kernel), rfl⟩
theorem tb_564 : Cond.soleField "DearVotesModel" "bestCost" ∈ hx_ws := List.mem_filter.mpr ⟨List.mem_of_getElem? (i := 564) (by decide +kernel), rfl⟩
theorem tb_565 : Cond.lays "DearVotesModel" "DearVotesModel" "hasBest" "Z" ∈ hx_ws := List.mem_filter.mpr ⟨List.mem_of_getElem? (i := 565) (by decide +kernel), rfl⟩
theorem tb_566 : Cond.soleField "DearVotesModel" "hasBest" ∈ hx_ws := List.mem_filter.mpr ⟨List.mem_of_getElem? (i := 566) (by decide +kernel), rfl⟩
theorem tb_567 : Cond.laysFinal "DearVotesModel" "DearVotesModel" "past" "[I" ∈ hx_ws := List.mem_filter.mpr ⟨List.mem_of_getElem? (i := 567) (by decide +kernel), rfl⟩
theorem tb_568 : Cond.soleField "DearVotesModel" "past" ∈ hx_ws := List.mem_filter.mpr ⟨List.mem_of_getElem? (i := 568) (by decide +kernel), rfl⟩
theorem tb_569 : Cond.laysFinal "DearVotesModel" "DearVotesModel" "parts" "[J" ∈ hx_ws := List.mem_filter.mpr ⟨List.mem_of_getElem? (i := 569) (by decide +kernel), rfl⟩
theorem tb_570 : Cond.soleField "DearVotesModel" "parts" ∈ hx_ws := List.mem_filter.mpr ⟨List.mem_of_getElem? (i := 570) (by decide +kernel), rfl⟩
theorem tb_571 : Cond.laysFinal "DearVotesModel" "DearVotesModel" "rests" "[J" ∈ hx_ws := List.mem_filter.mpr ⟨List.mem_of_getElem? (i := 571) (by decide +kernel), rfl⟩
theorem tb_572 : Cond.soleField "DearVotesModel" "rests" ∈ hx_ws := List.mem_filter.mpr ⟨List.mem_of_getElem? (i := 572) (by decide +kernel), rfl⟩
theorem tb_573 : Cond.lays "DearVotesModel" "DearVotesModel" "h" "J" ∈ hx_ws := List.mem_filter.mpr ⟨List.mem_of_getElem? (i := 573) (by decide +kernel), rfl⟩
theorem tb_574 : Cond.soleField "DearVotesModel" "h" ∈ hx_ws := List.mem_filter.mpr ⟨List.mem_of_getElem? (i := 574) (by decide +kernel), rfl⟩
theorem tb_575 : Cond.superclass "DearVotesModel" "java/lang/Object" ∈ hx_ws := List.mem_filter.mpr ⟨List.mem_of_getElem? (i := 575) (by decide +kernel), rfl⟩
theorem tb_576 : Cond.methodLink "DearVotesLaw" 17 ⟨"DearVotesModel", "person", "(I)I"⟩ ∈ hx_ws := List.mem_filter.mpr ⟨List.mem_of_getElem? (i := 576) (by decide +kernel), rfl⟩
theorem tb_577 : Cond.instanceMethod ⟨"DearVotesModel", "person", "(I)I"⟩ ∈ hx_ws := List.mem_filter.mpr ⟨List.mem_of_getElem? (i := 577) (by decide +kernel), rfl⟩
theorem tb_578 : Cond.selects "DearVotesModel" ⟨"DearVotesModel", "person", "(I)I"⟩ ⟨"DearVotesModel", "person", "(I)I"⟩ ∈ hx_ws := List.mem_filter.mpr ⟨List.mem_of_getElem? (i := 578) (by decide +kernel), rfl⟩
theorem tb_579 : Cond.code ⟨"DearVotesModel", "person", "(I)I"⟩ prog_7_method_7_code 2 (Option.some Jvm.ClassFile.FieldType.int) ∈ hx_ws := List.mem_filter.mpr ⟨List.mem_of_getElem? (i := 579) (by decide +kernel), rfl⟩
theorem tb_580 : Cond.methodLink "DearVotesModel" 55 ⟨"DearVotesModel", "in", "(III)Z"⟩ ∈ hx_ws := List.mem_filter.mpr ⟨List.mem_of_getElem? (i := 580) (by decide +kernel), rfl⟩
theorem tb_581 : Cond.static ⟨"DearVotesModel", "in", "(III)Z"⟩ ∈ hx_ws := List.mem_filter.mpr ⟨List.mem_of_getElem? (i := 581) (by decide +kernel), rfl⟩
theorem tb_582 : Cond.code ⟨"DearVotesModel", "in", "(III)Z"⟩ prog_7_method_3_code 3 (Option.some Jvm.ClassFile.FieldType.boolean) ∈ hx_ws := List.mem_filter.mpr ⟨List.mem_of_getElem? (i := 582) (by decide +kernel), rfl⟩
theorem tb_583 : Cond.methodLink "DearVotesLaw" 22 ⟨"DearVotesModel", "question", "()I"⟩ ∈ hx_ws := List.mem_filter.mpr ⟨List.mem_of_getElem? (i := 583) (by decide +kernel), rfl⟩
theorem tb_584 : Cond.instanceMethod ⟨"DearVotesModel", "question", "()I"⟩ ∈ hx_ws := List.mem_filter.mpr ⟨List.mem_of_getElem? (i := 584) (by decide +kernel), rfl⟩
theorem tb_585 : Cond.selects "DearVotesModel" ⟨"DearVotesModel", "question", "()I"⟩ ⟨"DearVotesModel", "question", "()I"⟩ ∈ hx_ws := List.mem_filter.mpr ⟨List.mem_of_getElem? (i := 585) (by decide +kernel), rfl⟩
theorem tb_586 : Cond.code ⟨"DearVotesModel", "question", "()I"⟩ prog_7_method_8_code 1 (Option.some Jvm.ClassFile.FieldType.int) ∈ hx_ws := List.mem_filter.mpr ⟨List.mem_of_getElem? (i := 586) (by decide +kernel), rfl⟩
theorem tb_587 : Cond.methodLink "DearVotesLaw" 26 ⟨"DearVotesModel", "project", "()I"⟩ ∈ hx_ws := List.mem_filter.mpr ⟨List.mem_of_getElem? (i := 587) (by decide +kernel), rfl⟩
theorem tb_588 : Cond.instanceMethod ⟨"DearVotesModel", "project", "()I"⟩ ∈ hx_ws := List.mem_filter.mpr ⟨List.mem_of_getElem? (i := 588) (by decide +kernel), rfl⟩
theorem tb_589 : Cond.selects "DearVotesModel" ⟨"DearVotesModel", "project", "()I"⟩ ⟨"DearVotesModel", "project", "()I"⟩ ∈ hx_ws := List.mem_filter.mpr ⟨List.mem_of_getElem? (i := 589) (by decide +kernel), rfl⟩
theorem tb_590 : Cond.code ⟨"DearVotesModel", "project", "()I"⟩ prog_7_method_9_code 1 (Option.some Jvm.ClassFile.FieldType.int) ∈ hx_ws := List.mem_filter.mpr ⟨List.mem_of_getElem? (i := 590) (by decide +kernel), rfl⟩
theorem tb_591 : Cond.methodLink "DearVotesLaw" 30 ⟨"DearVotesModel", "seed", "(I)I"⟩ ∈ hx_ws := List.mem_filter.mpr ⟨List.mem_of_getElem? (i := 591) (by decide +kernel), rfl⟩
theorem tb_592 : Cond.instanceMethod ⟨"DearVotesModel", "seed", "(I)I"⟩ ∈ hx_ws := List.mem_filter.mpr ⟨List.mem_of_getElem? (i := 592) (by decide +kernel), rfl⟩
theorem tb_593 : Cond.selects "DearVotesModel" ⟨"DearVotesModel", "seed", "(I)I"⟩ ⟨"DearVotesModel", "seed", "(I)I"⟩ ∈ hx_ws := List.mem_filter.mpr ⟨List.mem_of_getElem? (i := 593) (by decide +kernel), rfl⟩
theorem tb_594 : Cond.code ⟨"DearVotesModel", "seed", "(I)I"⟩ prog_7_method_10_code 3 (Option.some Jvm.ClassFile.FieldType.int) ∈ hx_ws := List.mem_filter.mpr ⟨List.mem_of_getElem? (i := 594) (by decide +kernel), rfl⟩
theorem tb_595 : Cond.methodLink "DearVotesLaw" 35 ⟨"DearVotesModel", "vote", "(III)I"⟩ ∈ hx_ws := List.mem_filter.mpr ⟨List.mem_of_getElem? (i := 595) (by decide +kernel), rfl⟩
theorem tb_596 : Cond.instanceMethod ⟨"DearVotesModel", "vote", "(III)I"⟩ ∈ hx_ws := List.mem_filter.mpr ⟨List.mem_of_getElem? (i := 596) (by decide +kernel), rfl⟩
theorem tb_597 : Cond.selects "DearVotesModel" ⟨"DearVotesModel", "vote", "(III)I"⟩ ⟨"DearVotesModel", "vote", "(III)I"⟩ ∈ hx_ws := List.mem_filter.mpr ⟨List.mem_of_getElem? (i := 597) (by decide +kernel), rfl⟩
theorem tb_598 : Cond.code ⟨"DearVotesModel", "vote", "(III)I"⟩ prog_7_method_12_code 6 (Option.some Jvm.ClassFile.FieldType.int) ∈ hx_ws := List.mem_filter.mpr ⟨List.mem_of_getElem? (i := 598) (by decide +kernel), rfl⟩
theorem tb_599 : Cond.methodLink "DearVotesModel" 68 ⟨"DearVotesModel", "isPerson", "(I)Z"⟩ ∈ hx_ws := List.mem_filter.mpr ⟨List.mem_of_getElem? (i := 599) (by decide +kernel), rfl⟩
theorem tb_600 : Cond.privateMethod ⟨"DearVotesModel", "isPerson", "(I)Z"⟩ ∈ lw_tbl := List.mem_of_getElem? (i := 600) (by decide +kernel)
theorem tb_601 : Cond.instanceMethod ⟨"DearVotesModel", "isPerson", "(I)Z"⟩ ∈ hx_ws := List.mem_filter.mpr ⟨List.mem_of_getElem? (i := 601) (by decide +kernel), rfl⟩
theorem tb_602 : Cond.code ⟨"DearVotesModel", "isPerson", "(I)Z"⟩ prog_7_method_4_code 2 (Option.some Jvm.ClassFile.FieldType.boolean) ∈ hx_ws := List.mem_filter.mpr ⟨List.mem_of_getElem? (i := 602) (by decide +kernel), rfl⟩
theorem tb_603 : Cond.methodLink "DearVotesModel" 72 ⟨"DearVotesModel", "isQuestion", "(I)Z"⟩ ∈ hx_ws := List.mem_filter.mpr ⟨List.mem_of_getElem? (i := 603) (by decide +kernel), rfl⟩
theorem tb_604 : Cond.privateMethod ⟨"DearVotesModel", "isQuestion", "(I)Z"⟩ ∈ lw_tbl := List.mem_of_getElem? (i := 604) (by decide +kernel)
theorem tb_605 : Cond.instanceMethod ⟨"DearVotesModel", "isQuestion", "(I)Z"⟩ ∈ hx_ws := List.mem_filter.mpr ⟨List.mem_of_getElem? (i := 605) (by decide +kernel), rfl⟩
theorem tb_606 : Cond.code ⟨"DearVotesModel", "isQuestion", "(I)Z"⟩ prog_7_method_5_code 2 (Option.some Jvm.ClassFile.FieldType.boolean) ∈ hx_ws := List.mem_filter.mpr ⟨List.mem_of_getElem? (i := 606) (by decide +kernel), rfl⟩
theorem tb_607 : Cond.methodLink "DearVotesModel" 75 ⟨"DearVotesModel", "costOf", "(I)I"⟩ ∈ hx_ws := List.mem_filter.mpr ⟨List.mem_of_getElem? (i := 607) (by decide +kernel), rfl⟩
theorem tb_608 : Cond.privateMethod ⟨"DearVotesModel", "costOf", "(I)I"⟩ ∈ lw_tbl := List.mem_of_getElem? (i := 608) (by decide +kernel)
theorem tb_609 : Cond.instanceMethod ⟨"DearVotesModel", "costOf", "(I)I"⟩ ∈ hx_ws := List.mem_filter.mpr ⟨List.mem_of_getElem? (i := 609) (by decide +kernel), rfl⟩
theorem tb_610 : Cond.code ⟨"DearVotesModel", "costOf", "(I)I"⟩ prog_7_method_11_code 4 (Option.some Jvm.ClassFile.FieldType.int) ∈ hx_ws := List.mem_filter.mpr ⟨List.mem_of_getElem? (i := 610) (by decide +kernel), rfl⟩
theorem tb_611 : Cond.methodLink "DearVotesLaw" 39 ⟨"DearVotesModel", "worth", "(III)I"⟩ ∈ hx_ws := List.mem_filter.mpr ⟨List.mem_of_getElem? (i := 611) (by decide +kernel), rfl⟩
theorem tb_612 : Cond.instanceMethod ⟨"DearVotesModel", "worth", "(III)I"⟩ ∈ hx_ws := List.mem_filter.mpr ⟨List.mem_of_getElem? (i := 612) (by decide +kernel), rfl⟩
theorem tb_613 : Cond.selects "DearVotesModel" ⟨"DearVotesModel", "worth", "(III)I"⟩ ⟨"DearVotesModel", "worth", "(III)I"⟩ ∈ hx_ws := List.mem_filter.mpr ⟨List.mem_of_getElem? (i := 613) (by decide +kernel), rfl⟩
theorem tb_614 : Cond.code ⟨"DearVotesModel", "worth", "(III)I"⟩ prog_7_method_13_code 5 (Option.some Jvm.ClassFile.FieldType.int) ∈ hx_ws := List.mem_filter.mpr ⟨List.mem_of_getElem? (i := 614) (by decide +kernel), rfl⟩
theorem tb_615 : Cond.methodLink "DearVotesLaw" 44 ⟨"DearVotesModel", "here", "(IZ)I"⟩ ∈ hx_ws := List.mem_filter.mpr ⟨List.mem_of_getElem? (i := 615) (by decide +kernel), rfl⟩
theorem tb_616 : Cond.instanceMethod ⟨"DearVotesModel", "here", "(IZ)I"⟩ ∈ hx_ws := List.mem_filter.mpr ⟨List.mem_of_getElem? (i := 616) (by decide +kernel), rfl⟩
theorem tb_617 : Cond.selects "DearVotesModel" ⟨"DearVotesModel", "here", "(IZ)I"⟩ ⟨"DearVotesModel", "here", "(IZ)I"⟩ ∈ hx_ws := List.mem_filter.mpr ⟨List.mem_of_getElem? (i := 617) (by decide +kernel), rfl⟩
theorem tb_618 : Cond.code ⟨"DearVotesModel", "here", "(IZ)I"⟩ prog_7_method_14_code 4 (Option.some Jvm.ClassFile.FieldType.int) ∈ hx_ws := List.mem_filter.mpr ⟨List.mem_of_getElem? (i := 618) (by decide +kernel), rfl⟩
theorem tb_619 : Cond.methodLink "DearVotesLaw" 49 ⟨"DearVotesModel", "voices", "(II)I"⟩ ∈ hx_ws := List.mem_filter.mpr ⟨List.mem_of_getElem? (i := 619) (by decide +kernel), rfl⟩
theorem tb_620 : Cond.instanceMethod ⟨"DearVotesModel", "voices", "(II)I"⟩ ∈ hx_ws := List.mem_filter.mpr ⟨List.mem_of_getElem? (i := 620) (by decide +kernel), rfl⟩
theorem tb_621 : Cond.selects "DearVotesModel" ⟨"DearVotesModel", "voices", "(II)I"⟩ ⟨"DearVotesModel", "voices", "(II)I"⟩ ∈ hx_ws := List.mem_filter.mpr ⟨List.mem_of_getElem? (i := 621) (by decide +kernel), rfl⟩
theorem tb_622 : Cond.code ⟨"DearVotesModel", "voices", "(II)I"⟩ prog_7_method_15_code 3 (Option.some Jvm.ClassFile.FieldType.int) ∈ hx_ws := List.mem_filter.mpr ⟨List.mem_of_getElem? (i := 622) (by decide +kernel), rfl⟩
theorem tb_623 : Cond.methodLink "DearVotesLaw" 53 ⟨"DearVotesModel", "cost", "(I)I"⟩ ∈ hx_ws := List.mem_filter.mpr ⟨List.mem_of_getElem? (i := 623) (by decide +kernel), rfl⟩
theorem tb_624 : Cond.instanceMethod ⟨"DearVotesModel", "cost", "(I)I"⟩ ∈ hx_ws := List.mem_filter.mpr ⟨List.mem_of_getElem? (i := 624) (by decide +kernel), rfl⟩
theorem tb_625 : Cond.selects "DearVotesModel" ⟨"DearVotesModel", "cost", "(I)I"⟩ ⟨"DearVotesModel", "cost", "(I)I"⟩ ∈ hx_ws := List.mem_filter.mpr ⟨List.mem_of_getElem? (i := 625) (by decide +kernel), rfl⟩
theorem tb_626 : Cond.code ⟨"DearVotesModel", "cost", "(I)I"⟩ prog_7_method_16_code 2 (Option.some Jvm.ClassFile.FieldType.int) ∈ hx_ws := List.mem_filter.mpr ⟨List.mem_of_getElem? (i := 626) (by decide +kernel), rfl⟩
theorem tb_627 : Cond.methodLink "DearVotesLaw" 57 ⟨"DearVotesModel", "total", "(I)I"⟩ ∈ hx_ws := List.mem_filter.mpr ⟨List.mem_of_getElem? (i := 627) (by decide +kernel), rfl⟩
theorem tb_628 : Cond.instanceMethod ⟨"DearVotesModel", "total", "(I)I"⟩ ∈ hx_ws := List.mem_filter.mpr ⟨List.mem_of_getElem? (i := 628) (by decide +kernel), rfl⟩
theorem tb_629 : Cond.selects "DearVotesModel" ⟨"DearVotesModel", "total", "(I)I"⟩ ⟨"DearVotesModel", "total", "(I)I"⟩ ∈ hx_ws := List.mem_filter.mpr ⟨List.mem_of_getElem? (i := 629) (by decide +kernel), rfl⟩
theorem tb_630 : Cond.code ⟨"DearVotesModel", "total", "(I)I"⟩ prog_7_method_18_code 2 (Option.some Jvm.ClassFile.FieldType.int) ∈ hx_ws := List.mem_filter.mpr ⟨List.mem_of_getElem? (i := 630) (by decide +kernel), rfl⟩
theorem tb_631 : Cond.methodLink "DearVotesModel" 79 ⟨"DearVotesModel", "others", "(II)I"⟩ ∈ hx_ws := List.mem_filter.mpr ⟨List.mem_of_getElem? (i := 631) (by decide +kernel), rfl⟩
theorem tb_632 : Cond.privateMethod ⟨"DearVotesModel", "others", "(II)I"⟩ ∈ lw_tbl := List.mem_of_getElem? (i := 632) (by decide +kernel)
theorem tb_633 : Cond.instanceMethod ⟨"DearVotesModel", "others", "(II)I"⟩ ∈ hx_ws := List.mem_filter.mpr ⟨List.mem_of_getElem? (i := 633) (by decide +kernel), rfl⟩
theorem tb_634 : Cond.code ⟨"DearVotesModel", "others", "(II)I"⟩ prog_7_method_17_code 5 (Option.some Jvm.ClassFile.FieldType.int) ∈ hx_ws := List.mem_filter.mpr ⟨List.mem_of_getElem? (i := 634) (by decide +kernel), rfl⟩
theorem tb_635 : Cond.methodLink "DearVotesLaw" 61 ⟨"DearVotesModel", "result", "(I)I"⟩ ∈ hx_ws := List.mem_filter.mpr ⟨List.mem_of_getElem? (i := 635) (by decide +kernel), rfl⟩
theorem tb_636 : Cond.instanceMethod ⟨"DearVotesModel", "result", "(I)I"⟩ ∈ hx_ws := List.mem_filter.mpr ⟨List.mem_of_getElem? (i := 636) (by decide +kernel), rfl⟩
theorem tb_637 : Cond.selects "DearVotesModel" ⟨"DearVotesModel", "result", "(I)I"⟩ ⟨"DearVotesModel", "result", "(I)I"⟩ ∈ hx_ws := List.mem_filter.mpr ⟨List.mem_of_getElem? (i := 637) (by decide +kernel), rfl⟩
theorem tb_638 : Cond.code ⟨"DearVotesModel", "result", "(I)I"⟩ prog_7_method_20_code 2 (Option.some Jvm.ClassFile.FieldType.int) ∈ hx_ws := List.mem_filter.mpr ⟨List.mem_of_getElem? (i := 638) (by decide +kernel), rfl⟩
theorem tb_639 : Cond.methodLink "DearVotesModel" 85 ⟨"DearVotesModel", "resultOf", "(II)I"⟩ ∈ hx_ws := List.mem_filter.mpr ⟨List.mem_of_getElem? (i := 639) (by decide +kernel), rfl⟩
theorem tb_640 : Cond.privateMethod ⟨"DearVotesModel", "resultOf", "(II)I"⟩ ∈ lw_tbl := List.mem_of_getElem? (i := 640) (by decide +kernel)
theorem tb_641 : Cond.instanceMethod ⟨"DearVotesModel", "resultOf", "(II)I"⟩ ∈ hx_ws := List.mem_filter.mpr ⟨List.mem_of_getElem? (i := 641) (by decide +kernel), rfl⟩
theorem tb_642 : Cond.code ⟨"DearVotesModel", "resultOf", "(II)I"⟩ prog_7_method_19_code 5 (Option.some Jvm.ClassFile.FieldType.int) ∈ hx_ws := List.mem_filter.mpr ⟨List.mem_of_getElem? (i := 642) (by decide +kernel), rfl⟩
theorem tb_643 : Cond.constant "DearVotesModel" 83 1664525 ∈ hx_ws := List.mem_filter.mpr ⟨List.mem_of_getElem? (i := 643) (by decide +kernel), rfl⟩
theorem tb_644 : Cond.constant "DearVotesModel" 84 1013904223 ∈ hx_ws := List.mem_filter.mpr ⟨List.mem_of_getElem? (i := 644) (by decide +kernel), rfl⟩
theorem tb_645 : Cond.methodLink "DearVotesLaw" 65 ⟨"DearVotesModel", "gain", "(I)I"⟩ ∈ hx_ws := List.mem_filter.mpr ⟨List.mem_of_getElem? (i := 645) (by decide +kernel), rfl⟩
theorem tb_646 : Cond.instanceMethod ⟨"DearVotesModel", "gain", "(I)I"⟩ ∈ hx_ws := List.mem_filter.mpr ⟨List.mem_of_getElem? (i := 646) (by decide +kernel), rfl⟩
theorem tb_647 : Cond.selects "DearVotesModel" ⟨"DearVotesModel", "gain", "(I)I"⟩ ⟨"DearVotesModel", "gain", "(I)I"⟩ ∈ hx_ws := List.mem_filter.mpr ⟨List.mem_of_getElem? (i := 647) (by decide +kernel), rfl⟩
theorem tb_648 : Cond.code ⟨"DearVotesModel", "gain", "(I)I"⟩ prog_7_method_23_code 2 (Option.some Jvm.ClassFile.FieldType.int) ∈ hx_ws := List.mem_filter.mpr ⟨List.mem_of_getElem? (i := 648) (by decide +kernel), rfl⟩
theorem tb_649 : Cond.methodLink "DearVotesModel" 91 ⟨"DearVotesModel", "gainOf", "(I)I"⟩ ∈ hx_ws := List.mem_filter.mpr ⟨List.mem_of_getElem? (i := 649) (by decide +kernel), rfl⟩
theorem tb_650 : Cond.privateMethod ⟨"DearVotesModel", "gainOf", "(I)I"⟩ ∈ lw_tbl := List.mem_of_getElem? (i := 650) (by decide +kernel)
theorem tb_651 : Cond.instanceMethod ⟨"DearVotesModel", "gainOf", "(I)I"⟩ ∈ hx_ws := List.mem_filter.mpr ⟨List.mem_of_getElem? (i := 651) (by decide +kernel), rfl⟩
theorem tb_652 : Cond.code ⟨"DearVotesModel", "gainOf", "(I)I"⟩ prog_7_method_22_code 4 (Option.some Jvm.ClassFile.FieldType.int) ∈ hx_ws := List.mem_filter.mpr ⟨List.mem_of_getElem? (i := 652) (by decide +kernel), rfl⟩
theorem tb_653 : Cond.methodLink "DearVotesModel" 88 ⟨"DearVotesModel", "gainBy", "(II)I"⟩ ∈ hx_ws := List.mem_filter.mpr ⟨List.mem_of_getElem? (i := 653) (by decide +kernel), rfl⟩
theorem tb_654 : Cond.static ⟨"DearVotesModel", "gainBy", "(II)I"⟩ ∈ hx_ws := List.mem_filter.mpr ⟨List.mem_of_getElem? (i := 654) (by decide +kernel), rfl⟩
theorem tb_655 : Cond.code ⟨"DearVotesModel", "gainBy", "(II)I"⟩ prog_7_method_21_code 2 (Option.some Jvm.ClassFile.FieldType.int) ∈ hx_ws := List.mem_filter.mpr ⟨List.mem_of_getElem? (i := 655) (by decide +kernel), rfl⟩
theorem tb_656 : Cond.constant "DearVotesModel" 94 (-2000000) ∈ hx_ws := List.mem_filter.mpr ⟨List.mem_of_getElem? (i := 656) (by decide +kernel), rfl⟩
theorem tb_657 : Cond.methodLink "DearVotesLaw" 69 ⟨"DearVotesModel", "swings", "(I)I"⟩ ∈ hx_ws := List.mem_filter.mpr ⟨List.mem_of_getElem? (i := 657) (by decide +kernel), rfl⟩
theorem tb_658 : Cond.instanceMethod ⟨"DearVotesModel", "swings", "(I)I"⟩ ∈ hx_ws := List.mem_filter.mpr ⟨List.mem_of_getElem? (i := 658) (by decide +kernel), rfl⟩
theorem tb_659 : Cond.selects "DearVotesModel" ⟨"DearVotesModel", "swings", "(I)I"⟩ ⟨"DearVotesModel", "swings", "(I)I"⟩ ∈ hx_ws := List.mem_filter.mpr ⟨List.mem_of_getElem? (i := 659) (by decide +kernel), rfl⟩
theorem tb_660 : Cond.code ⟨"DearVotesModel", "swings", "(I)I"⟩ prog_7_method_24_code 5 (Option.some Jvm.ClassFile.FieldType.int) ∈ hx_ws := List.mem_filter.mpr ⟨List.mem_of_getElem? (i := 660) (by decide +kernel), rfl⟩
theorem tb_661 : Cond.methodLink "DearVotesLaw" 73 ⟨"DearVotesModel", "best", "(I)I"⟩ ∈ hx_ws := List.mem_filter.mpr ⟨List.mem_of_getElem? (i := 661) (by decide +kernel), rfl⟩
theorem tb_662 : Cond.instanceMethod ⟨"DearVotesModel", "best", "(I)I"⟩ ∈ hx_ws := List.mem_filter.mpr ⟨List.mem_of_getElem? (i := 662) (by decide +kernel), rfl⟩
theorem tb_663 : Cond.selects "DearVotesModel" ⟨"DearVotesModel", "best", "(I)I"⟩ ⟨"DearVotesModel", "best", "(I)I"⟩ ∈ hx_ws := List.mem_filter.mpr ⟨List.mem_of_getElem? (i := 663) (by decide +kernel), rfl⟩
theorem tb_664 : Cond.code ⟨"DearVotesModel", "best", "(I)I"⟩ prog_7_method_28_code 2 (Option.some Jvm.ClassFile.FieldType.int) ∈ hx_ws := List.mem_filter.mpr ⟨List.mem_of_getElem? (i := 664) (by decide +kernel), rfl⟩
theorem tb_665 : Cond.methodLink "DearVotesModel" 113 ⟨"DearVotesModel", "find", "(I)V"⟩ ∈ hx_ws := List.mem_filter.mpr ⟨List.mem_of_getElem? (i := 665) (by decide +kernel), rfl⟩
theorem tb_666 : Cond.privateMethod ⟨"DearVotesModel", "find", "(I)V"⟩ ∈ lw_tbl := List.mem_of_getElem? (i := 666) (by decide +kernel)
theorem tb_667 : Cond.instanceMethod ⟨"DearVotesModel", "find", "(I)V"⟩ ∈ hx_ws := List.mem_filter.mpr ⟨List.mem_of_getElem? (i := 667) (by decide +kernel), rfl⟩
theorem tb_668 : Cond.code ⟨"DearVotesModel", "find", "(I)V"⟩ prog_7_method_27_code 11 (Option.none : Option Jvm.ClassFile.FieldType) ∈ hx_ws := List.mem_filter.mpr ⟨List.mem_of_getElem? (i := 668) (by decide +kernel), rfl⟩
theorem tb_669 : Cond.methodLink "DearVotesModel" 105 ⟨"DearVotesModel", "end", "(II)V"⟩ ∈ hx_ws := List.mem_filter.mpr ⟨List.mem_of_getElem? (i := 669) (by decide +kernel), rfl⟩
theorem tb_670 : Cond.privateMethod ⟨"DearVotesModel", "end", "(II)V"⟩ ∈ lw_tbl := List.mem_of_getElem? (i := 670) (by decide +kernel)
theorem tb_671 : Cond.instanceMethod ⟨"DearVotesModel", "end", "(II)V"⟩ ∈ hx_ws := List.mem_filter.mpr ⟨List.mem_of_getElem? (i := 671) (by decide +kernel), rfl⟩
theorem tb_672 : Cond.code ⟨"DearVotesModel", "end", "(II)V"⟩ prog_7_method_25_code 3 (Option.none : Option Jvm.ClassFile.FieldType) ∈ hx_ws := List.mem_filter.mpr ⟨List.mem_of_getElem? (i := 672) (by decide +kernel), rfl⟩
theorem tb_673 : Cond.methodLink "DearVotesModel" 109 ⟨"DearVotesModel", "isBetter", "(II)Z"⟩ ∈ hx_ws := List.mem_filter.mpr ⟨List.mem_of_getElem? (i := 673) (by decide +kernel), rfl⟩
theorem tb_674 : Cond.privateMethod ⟨"DearVotesModel", "isBetter", "(II)Z"⟩ ∈ lw_tbl := List.mem_of_getElem? (i := 674) (by decide +kernel)
theorem tb_675 : Cond.instanceMethod ⟨"DearVotesModel", "isBetter", "(II)Z"⟩ ∈ hx_ws := List.mem_filter.mpr ⟨List.mem_of_getElem? (i := 675) (by decide +kernel), rfl⟩
theorem tb_676 : Cond.code ⟨"DearVotesModel", "isBetter", "(II)Z"⟩ prog_7_method_26_code 4 (Option.some Jvm.ClassFile.FieldType.boolean) ∈ hx_ws := List.mem_filter.mpr ⟨List.mem_of_getElem? (i := 676) (by decide +kernel), rfl⟩
theorem tb_677 : Cond.methodLink "DearVotesLaw" 77 ⟨"DearVotesModel", "answer", "(II)I"⟩ ∈ hx_ws := List.mem_filter.mpr ⟨List.mem_of_getElem? (i := 677) (by decide +kernel), rfl⟩
theorem tb_678 : Cond.instanceMethod ⟨"DearVotesModel", "answer", "(II)I"⟩ ∈ hx_ws := List.mem_filter.mpr ⟨List.mem_of_getElem? (i := 678) (by decide +kernel), rfl⟩
theorem tb_679 : Cond.selects "DearVotesModel" ⟨"DearVotesModel", "answer", "(II)I"⟩ ⟨"DearVotesModel", "answer", "(II)I"⟩ ∈ hx_ws := List.mem_filter.mpr ⟨List.mem_of_getElem? (i := 679) (by decide +kernel), rfl⟩
theorem tb_680 : Cond.code ⟨"DearVotesModel", "answer", "(II)I"⟩ prog_7_method_29_code 3 (Option.some Jvm.ClassFile.FieldType.int) ∈ hx_ws := List.mem_filter.mpr ⟨List.mem_of_getElem? (i := 680) (by decide +kernel), rfl⟩
theorem tb_681 : Cond.methodLink "DearVotesLaw" 81 ⟨"DearVotesModel", "take", "(I)I"⟩ ∈ hx_ws := List.mem_filter.mpr ⟨List.mem_of_getElem? (i := 681) (by decide +kernel), rfl⟩
theorem tb_682 : Cond.instanceMethod ⟨"DearVotesModel", "take", "(I)I"⟩ ∈ hx_ws := List.mem_filter.mpr ⟨List.mem_of_getElem? (i := 682) (by decide +kernel), rfl⟩
theorem tb_683 : Cond.selects "DearVotesModel" ⟨"DearVotesModel", "take", "(I)I"⟩ ⟨"DearVotesModel", "take", "(I)I"⟩ ∈ hx_ws := List.mem_filter.mpr ⟨List.mem_of_getElem? (i := 683) (by decide +kernel), rfl⟩
theorem tb_684 : Cond.code ⟨"DearVotesModel", "take", "(I)I"⟩ prog_7_method_31_code 2 (Option.some Jvm.ClassFile.FieldType.int) ∈ hx_ws := List.mem_filter.mpr ⟨List.mem_of_getElem? (i := 684) (by decide +kernel), rfl⟩
theorem tb_685 : Cond.methodLink "DearVotesModel" 117 ⟨"DearVotesModel", "adopt", "(I)V"⟩ ∈ hx_ws := List.mem_filter.mpr ⟨List.mem_of_getElem? (i := 685) (by decide +kernel), rfl⟩
theorem tb_686 : Cond.privateMethod ⟨"DearVotesModel", "adopt", "(I)V"⟩ ∈ lw_tbl := List.mem_of_getElem? (i := 686) (by decide +kernel)
theorem tb_687 : Cond.instanceMethod ⟨"DearVotesModel", "adopt", "(I)V"⟩ ∈ hx_ws := List.mem_filter.mpr ⟨List.mem_of_getElem? (i := 687) (by decide +kernel), rfl⟩
theorem tb_688 : Cond.code ⟨"DearVotesModel", "adopt", "(I)V"⟩ prog_7_method_30_code 3 (Option.none : Option Jvm.ClassFile.FieldType) ∈ hx_ws := List.mem_filter.mpr ⟨List.mem_of_getElem? (i := 688) (by decide +kernel), rfl⟩
theorem tb_689 : Cond.methodLink "DearVotesLaw" 85 ⟨"DearVotesModel", "play", "(I)I"⟩ ∈ hx_ws := List.mem_filter.mpr ⟨List.mem_of_getElem? (i := 689) (by decide +kernel), rfl⟩
theorem tb_690 : Cond.instanceMethod ⟨"DearVotesModel", "play", "(I)I"⟩ ∈ hx_ws := List.mem_filter.mpr ⟨List.mem_of_getElem? (i := 690) (by decide +kernel), rfl⟩
theorem tb_691 : Cond.selects "DearVotesModel" ⟨"DearVotesModel", "play", "(I)I"⟩ ⟨"DearVotesModel", "play", "(I)I"⟩ ∈ hx_ws := List.mem_filter.mpr ⟨List.mem_of_getElem? (i := 691) (by decide +kernel), rfl⟩
theorem tb_692 : Cond.code ⟨"DearVotesModel", "play", "(I)I"⟩ prog_7_method_34_code 5 (Option.some Jvm.ClassFile.FieldType.int) ∈ hx_ws := List.mem_filter.mpr ⟨List.mem_of_getElem? (i := 692) (by decide +kernel), rfl⟩
theorem tb_693 : Cond.methodLink "DearVotesModel" 126 ⟨"DearVotesModel", "keep", "(I)V"⟩ ∈ hx_ws := List.mem_filter.mpr ⟨List.mem_of_getElem? (i := 693) (by decide +kernel), rfl⟩
theorem tb_694 : Cond.privateMethod ⟨"DearVotesModel", "keep", "(I)V"⟩ ∈ lw_tbl := List.mem_of_getElem? (i := 694) (by decide +kernel)
theorem tb_695 : Cond.instanceMethod ⟨"DearVotesModel", "keep", "(I)V"⟩ ∈ hx_ws := List.mem_filter.mpr ⟨List.mem_of_getElem? (i := 695) (by decide +kernel), rfl⟩
theorem tb_696 : Cond.code ⟨"DearVotesModel", "keep", "(I)V"⟩ prog_7_method_33_code 3 (Option.none : Option Jvm.ClassFile.FieldType) ∈ hx_ws := List.mem_filter.mpr ⟨List.mem_of_getElem? (i := 696) (by decide +kernel), rfl⟩
theorem tb_697 : Cond.methodLink "DearVotesModel" 135 ⟨"DearVotesModel", "isAsBehind", "(I)Z"⟩ ∈ hx_ws := List.mem_filter.mpr ⟨List.mem_of_getElem? (i := 697) (by decide +kernel), rfl⟩
theorem tb_698 : Cond.privateMethod ⟨"DearVotesModel", "isAsBehind", "(I)Z"⟩ ∈ lw_tbl := List.mem_of_getElem? (i := 698) (by decide +kernel)
theorem tb_699 : Cond.instanceMethod ⟨"DearVotesModel", "isAsBehind", "(I)Z"⟩ ∈ hx_ws := List.mem_filter.mpr ⟨List.mem_of_getElem? (i := 699) (by decide +kernel), rfl⟩
theorem tb_700 : Cond.code ⟨"DearVotesModel", "isAsBehind", "(I)Z"⟩ prog_7_method_32_code 4 (Option.some Jvm.ClassFile.FieldType.boolean) ∈ hx_ws := List.mem_filter.mpr ⟨List.mem_of_getElem? (i := 700) (by decide +kernel), rfl⟩
theorem tb_701 : Cond.methodLink "DearVotesLaw" 89 ⟨"DearVotesModel", "ended", "()I"⟩ ∈ hx_ws := List.mem_filter.mpr ⟨List.mem_of_getElem? (i := 701) (by decide +kernel), rfl⟩
theorem tb_702 : Cond.instanceMethod ⟨"DearVotesModel", "ended", "()I"⟩ ∈ hx_ws := List.mem_filter.mpr ⟨List.mem_of_getElem? (i := 702) (by decide +kernel), rfl⟩
theorem tb_703 : Cond.selects "DearVotesModel" ⟨"DearVotesModel", "ended", "()I"⟩ ⟨"DearVotesModel", "ended", "()I"⟩ ∈ hx_ws := List.mem_filter.mpr ⟨List.mem_of_getElem? (i := 703) (by decide +kernel), rfl⟩
theorem tb_704 : Cond.code ⟨"DearVotesModel", "ended", "()I"⟩ prog_7_method_35_code 1 (Option.some Jvm.ClassFile.FieldType.int) ∈ hx_ws := List.mem_filter.mpr ⟨List.mem_of_getElem? (i := 704) (by decide +kernel), rfl⟩
theorem tb_705 : Cond.methodLink "DearVotesLaw" 93 ⟨"DearVotesModel", "ring", "()I"⟩ ∈ hx_ws := List.mem_filter.mpr ⟨List.mem_of_getElem? (i := 705) (by decide +kernel), rfl⟩
theorem tb_706 : Cond.instanceMethod ⟨"DearVotesModel", "ring", "()I"⟩ ∈ hx_ws := List.mem_filter.mpr ⟨List.mem_of_getElem? (i := 706) (by decide +kernel), rfl⟩
theorem tb_707 : Cond.selects "DearVotesModel" ⟨"DearVotesModel", "ring", "()I"⟩ ⟨"DearVotesModel", "ring", "()I"⟩ ∈ hx_ws := List.mem_filter.mpr ⟨List.mem_of_getElem? (i := 707) (by decide +kernel), rfl⟩
theorem tb_708 : Cond.code ⟨"DearVotesModel", "ring", "()I"⟩ prog_7_method_36_code 1 (Option.some Jvm.ClassFile.FieldType.int) ∈ hx_ws := List.mem_filter.mpr ⟨List.mem_of_getElem? (i := 708) (by decide +kernel), rfl⟩
theorem tb_709 : Cond.methodLink "DearVotesLaw" 97 ⟨"DearVotesModel", "gift", "(III)I"⟩ ∈ hx_ws := List.mem_filter.mpr ⟨List.mem_of_getElem? (i := 709) (by decide +kernel), rfl⟩
theorem tb_710 : Cond.instanceMethod ⟨"DearVotesModel", "gift", "(III)I"⟩ ∈ hx_ws := List.mem_filter.mpr ⟨List.mem_of_getElem? (i := 710) (by decide +kernel), rfl⟩
theorem tb_711 : Cond.selects "DearVotesModel" ⟨"DearVotesModel", "gift", "(III)I"⟩ ⟨"DearVotesModel", "gift", "(III)I"⟩ ∈ hx_ws := List.mem_filter.mpr ⟨List.mem_of_getElem? (i := 711) (by decide +kernel), rfl⟩
theorem tb_712 : Cond.code ⟨"DearVotesModel", "gift", "(III)I"⟩ prog_7_method_37_code 5 (Option.some Jvm.ClassFile.FieldType.int) ∈ hx_ws := List.mem_filter.mpr ⟨List.mem_of_getElem? (i := 712) (by decide +kernel), rfl⟩
theorem tb_713 : Cond.methodLink "DearVotesModel" 138 ⟨"DearVotesModel", "isProject", "(I)Z"⟩ ∈ hx_ws := List.mem_filter.mpr ⟨List.mem_of_getElem? (i := 713) (by decide +kernel), rfl⟩
theorem tb_714 : Cond.privateMethod ⟨"DearVotesModel", "isProject", "(I)Z"⟩ ∈ lw_tbl := List.mem_of_getElem? (i := 714) (by decide +kernel)
theorem tb_715 : Cond.instanceMethod ⟨"DearVotesModel", "isProject", "(I)Z"⟩ ∈ hx_ws := List.mem_filter.mpr ⟨List.mem_of_getElem? (i := 715) (by decide +kernel), rfl⟩
theorem tb_716 : Cond.code ⟨"DearVotesModel", "isProject", "(I)Z"⟩ prog_7_method_6_code 2 (Option.some Jvm.ClassFile.FieldType.boolean) ∈ hx_ws := List.mem_filter.mpr ⟨List.mem_of_getElem? (i := 716) (by decide +kernel), rfl⟩
theorem tb_717 : Cond.constant "DearVotesModel" 141 1000000 ∈ hx_ws := List.mem_filter.mpr ⟨List.mem_of_getElem? (i := 717) (by decide +kernel), rfl⟩
theorem tb_718 : Cond.methodLink "DearVotesLaw" 101 ⟨"DearVotesModel", "bond", "(III)I"⟩ ∈ hx_ws := List.mem_filter.mpr ⟨List.mem_of_getElem? (i := 718) (by decide +kernel), rfl⟩
theorem tb_719 : Cond.instanceMethod ⟨"DearVotesModel", "bond", "(III)I"⟩ ∈ hx_ws := List.mem_filter.mpr ⟨List.mem_of_getElem? (i := 719) (by decide +kernel), rfl⟩
theorem tb_720 : Cond.selects "DearVotesModel" ⟨"DearVotesModel", "bond", "(III)I"⟩ ⟨"DearVotesModel", "bond", "(III)I"⟩ ∈ hx_ws := List.mem_filter.mpr ⟨List.mem_of_getElem? (i := 720) (by decide +kernel), rfl⟩
theorem tb_721 : Cond.code ⟨"DearVotesModel", "bond", "(III)I"⟩ prog_7_method_38_code 5 (Option.some Jvm.ClassFile.FieldType.int) ∈ hx_ws := List.mem_filter.mpr ⟨List.mem_of_getElem? (i := 721) (by decide +kernel), rfl⟩
theorem tb_722 : Cond.methodLink "DearVotesLaw" 106 ⟨"DearVotesModel", "matched", "(II)J"⟩ ∈ hx_ws := List.mem_filter.mpr ⟨List.mem_of_getElem? (i := 722) (by decide +kernel), rfl⟩
theorem tb_723 : Cond.instanceMethod ⟨"DearVotesModel", "matched", "(II)J"⟩ ∈ hx_ws := List.mem_filter.mpr ⟨List.mem_of_getElem? (i := 723) (by decide +kernel), rfl⟩
theorem tb_724 : Cond.selects "DearVotesModel" ⟨"DearVotesModel", "matched", "(II)J"⟩ ⟨"DearVotesModel", "matched", "(II)J"⟩ ∈ hx_ws := List.mem_filter.mpr ⟨List.mem_of_getElem? (i := 724) (by decide +kernel), rfl⟩
theorem tb_725 : Cond.code ⟨"DearVotesModel", "matched", "(II)J"⟩ prog_7_method_41_code 3 (Option.some Jvm.ClassFile.FieldType.long) ∈ hx_ws := List.mem_filter.mpr ⟨List.mem_of_getElem? (i := 725) (by decide +kernel), rfl⟩
theorem tb_726 : Cond.constantLong "DearVotesModel" 156 (-101) ∈ hx_ws := List.mem_filter.mpr ⟨List.mem_of_getElem? (i := 726) (by decide +kernel), rfl⟩
theorem tb_727 : Cond.methodLink "DearVotesModel" 158 ⟨"DearVotesModel", "matchedOf", "(IIZ)J"⟩ ∈ hx_ws := List.mem_filter.mpr ⟨List.mem_of_getElem? (i := 727) (by decide +kernel), rfl⟩
theorem tb_728 : Cond.privateMethod ⟨"DearVotesModel", "matchedOf", "(IIZ)J"⟩ ∈ lw_tbl := List.mem_of_getElem? (i := 728) (by decide +kernel)
theorem tb_729 : Cond.instanceMethod ⟨"DearVotesModel", "matchedOf", "(IIZ)J"⟩ ∈ hx_ws := List.mem_filter.mpr ⟨List.mem_of_getElem? (i := 729) (by decide +kernel), rfl⟩
theorem tb_730 : Cond.code ⟨"DearVotesModel", "matchedOf", "(IIZ)J"⟩ prog_7_method_40_code 14 (Option.some Jvm.ClassFile.FieldType.long) ∈ hx_ws := List.mem_filter.mpr ⟨List.mem_of_getElem? (i := 730) (by decide +kernel), rfl⟩
theorem tb_731 : Cond.constantLong "DearVotesModel" 142 65536 ∈ hx_ws := List.mem_filter.mpr ⟨List.mem_of_getElem? (i := 731) (by decide +kernel), rfl⟩
theorem tb_732 : Cond.constantLong "DearVotesModel" 144 1000 ∈ hx_ws := List.mem_filter.mpr ⟨List.mem_of_getElem? (i := 732) (by decide +kernel), rfl⟩
theorem tb_733 : Cond.methodLink "DearVotesModel" 146 ⟨"DearVotesModel", "root", "(J)J"⟩ ∈ hx_ws := List.mem_filter.mpr ⟨List.mem_of_getElem? (i := 733) (by decide +kernel), rfl⟩
theorem tb_734 : Cond.static ⟨"DearVotesModel", "root", "(J)J"⟩ ∈ hx_ws := List.mem_filter.mpr ⟨List.mem_of_getElem? (i := 734) (by decide +kernel), rfl⟩
theorem tb_735 : Cond.code ⟨"DearVotesModel", "root", "(J)J"⟩ prog_7_method_39_code 7 (Option.some Jvm.ClassFile.FieldType.long) ∈ hx_ws := List.mem_filter.mpr ⟨List.mem_of_getElem? (i := 735) (by decide +kernel), rfl⟩
theorem tb_736 : Cond.constantLong "DearVotesModel" 150 2 ∈ hx_ws := List.mem_filter.mpr ⟨List.mem_of_getElem? (i := 736) (by decide +kernel), rfl⟩
theorem tb_737 : Cond.constantLong "DearVotesModel" 152 255999 ∈ hx_ws := List.mem_filter.mpr ⟨List.mem_of_getElem? (i := 737) (by decide +kernel), rfl⟩
theorem tb_738 : Cond.constantLong "DearVotesModel" 154 256000 ∈ hx_ws := List.mem_filter.mpr ⟨List.mem_of_getElem? (i := 738) (by decide +kernel), rfl⟩
theorem tb_739 : Cond.constantLong "DearVotesModel" 162 (-102) ∈ hx_ws := List.mem_filter.mpr ⟨List.mem_of_getElem? (i := 739) (by decide +kernel), rfl⟩
theorem tb_740 : Cond.methodLink "DearVotesLaw" 113 ⟨"DearVotesModel", "share", "(IJ)J"⟩ ∈ hx_ws := List.mem_filter.mpr ⟨List.mem_of_getElem? (i := 740) (by decide +kernel), rfl⟩
theorem tb_741 : Cond.instanceMethod ⟨"DearVotesModel", "share", "(IJ)J"⟩ ∈ hx_ws := List.mem_filter.mpr ⟨List.mem_of_getElem? (i := 741) (by decide +kernel), rfl⟩
theorem tb_742 : Cond.selects "DearVotesModel" ⟨"DearVotesModel", "share", "(IJ)J"⟩ ⟨"DearVotesModel", "share", "(IJ)J"⟩ ∈ hx_ws := List.mem_filter.mpr ⟨List.mem_of_getElem? (i := 742) (by decide +kernel), rfl⟩
theorem tb_743 : Cond.code ⟨"DearVotesModel", "share", "(IJ)J"⟩ prog_7_method_42_code 10 (Option.some Jvm.ClassFile.FieldType.long) ∈ hx_ws := List.mem_filter.mpr ⟨List.mem_of_getElem? (i := 743) (by decide +kernel), rfl⟩
theorem tb_744 : Cond.constantLong "DearVotesModel" 164 1000000000 ∈ hx_ws := List.mem_filter.mpr ⟨List.mem_of_getElem? (i := 744) (by decide +kernel), rfl⟩
theorem tb_745 : Cond.constantLong "DearVotesModel" 166 (-1) ∈ hx_ws := List.mem_filter.mpr ⟨List.mem_of_getElem? (i := 745) (by decide +kernel), rfl⟩
theorem tb_746 : Cond.methodLink "DearVotesLaw" 118 ⟨"DearVotesModel", "damped", "(I)J"⟩ ∈ hx_ws := List.mem_filter.mpr ⟨List.mem_of_getElem? (i := 746) (by decide +kernel), rfl⟩
theorem tb_747 : Cond.instanceMethod ⟨"DearVotesModel", "damped", "(I)J"⟩ ∈ hx_ws := List.mem_filter.mpr ⟨List.mem_of_getElem? (i := 747) (by decide +kernel), rfl⟩
theorem tb_748 : Cond.selects "DearVotesModel" ⟨"DearVotesModel", "damped", "(I)J"⟩ ⟨"DearVotesModel", "damped", "(I)J"⟩ ∈ hx_ws := List.mem_filter.mpr ⟨List.mem_of_getElem? (i := 748) (by decide +kernel), rfl⟩
theorem tb_749 : Cond.code ⟨"DearVotesModel", "damped", "(I)J"⟩ prog_7_method_43_code 2 (Option.some Jvm.ClassFile.FieldType.long) ∈ hx_ws := List.mem_filter.mpr ⟨List.mem_of_getElem? (i := 749) (by decide +kernel), rfl⟩
theorem tb_750 : Cond.methodLink "DearVotesLaw" 122 ⟨"DearVotesModel", "likeness", "(II)I"⟩ ∈ hx_ws := List.mem_filter.mpr ⟨List.mem_of_getElem? (i := 750) (by decide +kernel), rfl⟩
theorem tb_751 : Cond.instanceMethod ⟨"DearVotesModel", "likeness", "(II)I"⟩ ∈ hx_ws := List.mem_filter.mpr ⟨List.mem_of_getElem? (i := 751) (by decide +kernel), rfl⟩
theorem tb_752 : Cond.selects "DearVotesModel" ⟨"DearVotesModel", "likeness", "(II)I"⟩ ⟨"DearVotesModel", "likeness", "(II)I"⟩ ∈ hx_ws := List.mem_filter.mpr ⟨List.mem_of_getElem? (i := 752) (by decide +kernel), rfl⟩
theorem tb_753 : Cond.code ⟨"DearVotesModel", "likeness", "(II)I"⟩ prog_7_method_45_code 3 (Option.some Jvm.ClassFile.FieldType.int) ∈ hx_ws := List.mem_filter.mpr ⟨List.mem_of_getElem? (i := 753) (by decide +kernel), rfl⟩
theorem tb_754 : Cond.methodLink "DearVotesModel" 168 ⟨"DearVotesModel", "likenessOf", "(II)I"⟩ ∈ hx_ws := List.mem_filter.mpr ⟨List.mem_of_getElem? (i := 754) (by decide +kernel), rfl⟩
theorem tb_755 : Cond.privateMethod ⟨"DearVotesModel", "likenessOf", "(II)I"⟩ ∈ lw_tbl := List.mem_of_getElem? (i := 755) (by decide +kernel)
theorem tb_756 : Cond.instanceMethod ⟨"DearVotesModel", "likenessOf", "(II)I"⟩ ∈ hx_ws := List.mem_filter.mpr ⟨List.mem_of_getElem? (i := 756) (by decide +kernel), rfl⟩
theorem tb_757 : Cond.code ⟨"DearVotesModel", "likenessOf", "(II)I"⟩ prog_7_method_44_code 8 (Option.some Jvm.ClassFile.FieldType.int) ∈ hx_ws := List.mem_filter.mpr ⟨List.mem_of_getElem? (i := 757) (by decide +kernel), rfl⟩
theorem tb_758 : Cond.methodLink "DearVotesLaw" 126 ⟨"DearVotesModel", "group", "(II)I"⟩ ∈ hx_ws := List.mem_filter.mpr ⟨List.mem_of_getElem? (i := 758) (by decide +kernel), rfl⟩
theorem tb_759 : Cond.instanceMethod ⟨"DearVotesModel", "group", "(II)I"⟩ ∈ hx_ws := List.mem_filter.mpr ⟨List.mem_of_getElem? (i := 759) (by decide +kernel), rfl⟩
theorem tb_760 : Cond.selects "DearVotesModel" ⟨"DearVotesModel", "group", "(II)I"⟩ ⟨"DearVotesModel", "group", "(II)I"⟩ ∈ hx_ws := List.mem_filter.mpr ⟨List.mem_of_getElem? (i := 760) (by decide +kernel), rfl⟩
theorem tb_761 : Cond.code ⟨"DearVotesModel", "group", "(II)I"⟩ prog_7_method_46_code 7 (Option.some Jvm.ClassFile.FieldType.int) ∈ hx_ws := List.mem_filter.mpr ⟨List.mem_of_getElem? (i := 761) (by decide +kernel), rfl⟩
theorem tb_762 : Cond.methodLink "DearVotesLaw" 130 ⟨"DearVotesModel", "count", "(I)I"⟩ ∈ hx_ws := List.mem_filter.mpr ⟨List.mem_of_getElem? (i := 762) (by decide +kernel), rfl⟩
theorem tb_763 : Cond.instanceMethod ⟨"DearVotesModel", "count", "(I)I"⟩ ∈ hx_ws := List.mem_filter.mpr ⟨List.mem_of_getElem? (i := 763) (by decide +kernel), rfl⟩
theorem tb_764 : Cond.selects "DearVotesModel" ⟨"DearVotesModel", "count", "(I)I"⟩ ⟨"DearVotesModel", "count", "(I)I"⟩ ∈ hx_ws := List.mem_filter.mpr ⟨List.mem_of_getElem? (i := 764) (by decide +kernel), rfl⟩
theorem tb_765 : Cond.code ⟨"DearVotesModel", "count", "(I)I"⟩ prog_7_method_47_code 4 (Option.some Jvm.ClassFile.FieldType.int) ∈ hx_ws := List.mem_filter.mpr ⟨List.mem_of_getElem? (i := 765) (by decide +kernel), rfl⟩
theorem tb_766 : Cond.methodLink "DearVotesLaw" 135 ⟨"DearVotesModel", "digest", "()J"⟩ ∈ hx_ws := List.mem_filter.mpr ⟨List.mem_of_getElem? (i := 766) (by decide +kernel), rfl⟩
theorem tb_767 : Cond.instanceMethod ⟨"DearVotesModel", "digest", "()J"⟩ ∈ hx_ws := List.mem_filter.mpr ⟨List.mem_of_getElem? (i := 767) (by decide +kernel), rfl⟩
theorem tb_768 : Cond.selects "DearVotesModel" ⟨"DearVotesModel", "digest", "()J"⟩ ⟨"DearVotesModel", "digest", "()J"⟩ ∈ hx_ws := List.mem_filter.mpr ⟨List.mem_of_getElem? (i := 768) (by decide +kernel), rfl⟩
theorem tb_769 : Cond.code ⟨"DearVotesModel", "digest", "()J"⟩ prog_7_method_49_code 3 (Option.some Jvm.ClassFile.FieldType.long) ∈ hx_ws := List.mem_filter.mpr ⟨List.mem_of_getElem? (i := 769) (by decide +kernel), rfl⟩
theorem tb_770 : Cond.constantLong "DearVotesModel" 177 103 ∈ hx_ws := List.mem_filter.mpr ⟨List.mem_of_getElem? (i := 770) (by decide +kernel), rfl⟩
theorem tb_771 : Cond.methodLink "DearVotesModel" 179 ⟨"DearVotesModel", "mix", "(J)V"⟩ ∈ hx_ws := List.mem_filter.mpr ⟨List.mem_of_getElem? (i := 771) (by decide +kernel), rfl⟩
theorem tb_772 : Cond.privateMethod ⟨"DearVotesModel", "mix", "(J)V"⟩ ∈ lw_tbl := List.mem_of_getElem? (i := 772) (by decide +kernel)
theorem tb_773 : Cond.instanceMethod ⟨"DearVotesModel", "mix", "(J)V"⟩ ∈ hx_ws := List.mem_filter.mpr ⟨List.mem_of_getElem? (i := 773) (by decide +kernel), rfl⟩
theorem tb_774 : Cond.code ⟨"DearVotesModel", "mix", "(J)V"⟩ prog_7_method_48_code 3 (Option.none : Option Jvm.ClassFile.FieldType) ∈ hx_ws := List.mem_filter.mpr ⟨List.mem_of_getElem? (i := 774) (by decide +kernel), rfl⟩
theorem tb_775 : Cond.constantLong "DearVotesModel" 171 31 ∈ hx_ws := List.mem_filter.mpr ⟨List.mem_of_getElem? (i := 775) (by decide +kernel), rfl⟩
theorem tb_776 : Cond.constantLong "DearVotesLaw" 107 4294967295 ∈ hx_ws := List.mem_filter.mpr ⟨List.mem_of_getElem? (i := 776) (by decide +kernel), rfl⟩
theorem inX0 : ∀ w ∈ wsX00, w ∈ hx_ws := (List.forall_mem_cons.mpr ⟨tb_178, List.forall_mem_cons.mpr ⟨tb_180, List.forall_mem_cons.mpr ⟨tb_182, List.forall_mem_cons.mpr ⟨tb_184, List.forall_mem_cons.mpr ⟨tb_186, fun _ h => absurd h List.not_mem_nil⟩⟩⟩⟩⟩ : ∀ w ∈ ([Cond.laysFinal "DearVotes$Fund" "DearVotes$Fund" "house" "LDearVotes$House;", Cond.lays "DearVotes$Fund" "DearVotes$Fund" "projects" "I", Cond.laysFinal "DearVotes$Fund" "DearVotes$Fund" "gifts" "[[I", Cond.laysFinal "DearVotes$Fund" "DearVotes$Fund" "bonds" "[[I", Cond.laysFinal "DearVotes$Fund" "DearVotes$Fund" "lows" "[J"] : List Cond), w ∈ hx_ws)
theorem inX1 : ∀ w ∈ wsX10, w ∈ hx_ws := (List.forall_mem_cons.mpr ⟨tb_70, List.forall_mem_cons.mpr ⟨tb_72, List.forall_mem_cons.mpr ⟨tb_74, List.forall_mem_cons.mpr ⟨tb_76, List.forall_mem_cons.mpr ⟨tb_78, List.forall_mem_cons.mpr ⟨tb_80, List.forall_mem_cons.mpr ⟨tb_82, fun _ h => absurd h List.not_mem_nil⟩⟩⟩⟩⟩⟩⟩ : ∀ w ∈ ([Cond.lays "DearVotes$House" "DearVotes$House" "people" "I", Cond.lays "DearVotes$House" "DearVotes$House" "questions" "I", Cond.lays "DearVotes$House" "DearVotes$House" "seed" "I", Cond.laysFinal "DearVotes$House" "DearVotes$House" "budgets" "[I", Cond.laysFinal "DearVotes$House" "DearVotes$House" "present" "[Z", Cond.laysFinal "DearVotes$House" "DearVotes$House" "voices" "[[I", Cond.laysFinal "DearVotes$House" "DearVotes$House" "worths" "[[I"] : List Cond), w ∈ hx_ws)
theorem inX2 : ∀ w ∈ wsX20, w ∈ hx_ws := (List.forall_mem_cons.mpr ⟨tb_147, List.forall_mem_cons.mpr ⟨tb_149, List.forall_mem_cons.mpr ⟨tb_151, List.forall_mem_cons.mpr ⟨tb_153, List.forall_mem_cons.mpr ⟨tb_155, List.forall_mem_cons.mpr ⟨tb_157, List.forall_mem_cons.mpr ⟨tb_159, fun _ h => absurd h List.not_mem_nil⟩⟩⟩⟩⟩⟩⟩ : ∀ w ∈ ([Cond.laysFinal "DearVotes$Rounds" "DearVotes$Rounds" "house" "LDearVotes$House;", Cond.laysFinal "DearVotes$Rounds" "DearVotes$Rounds" "search" "LDearVotes$Search;", Cond.laysFinal "DearVotes$Rounds" "DearVotes$Rounds" "trail" "[[J", Cond.lays "DearVotes$Rounds" "DearVotes$Rounds" "doneEver" "I", Cond.lays "DearVotes$Rounds" "DearVotes$Rounds" "changesEver" "I", Cond.lays "DearVotes$Rounds" "DearVotes$Rounds" "ending" "I", Cond.lays "DearVotes$Rounds" "DearVotes$Rounds" "ringLength" "I"] : List Cond), w ∈ hx_ws)
theorem inX3 : ∀ w ∈ wsX30, w ∈ hx_ws := (List.forall_mem_cons.mpr ⟨tb_107, List.forall_mem_cons.mpr ⟨tb_109, List.forall_mem_cons.mpr ⟨tb_111, List.forall_mem_cons.mpr ⟨tb_113, List.forall_mem_cons.mpr ⟨tb_115, List.forall_mem_cons.mpr ⟨tb_117, List.forall_mem_cons.mpr ⟨tb_119, List.forall_mem_cons.mpr ⟨tb_121, List.forall_mem_cons.mpr ⟨tb_123, List.forall_mem_cons.mpr ⟨tb_125, fun _ h => absurd h List.not_mem_nil⟩⟩⟩⟩⟩⟩⟩⟩⟩⟩ : ∀ w ∈ ([Cond.laysFinal "DearVotes$Search" "DearVotes$Search" "house" "LDearVotes$House;", Cond.laysFinal "DearVotes$Search" "DearVotes$Search" "choices" "[I", Cond.laysFinal "DearVotes$Search" "DearVotes$Search" "choiceVoices" "[[I", Cond.laysFinal "DearVotes$Search" "DearVotes$Search" "choiceGains" "[[I", Cond.laysFinal "DearVotes$Search" "DearVotes$Search" "gainAhead" "[I", Cond.laysFinal "DearVotes$Search" "DearVotes$Search" "tried" "[I", Cond.laysFinal "DearVotes$Search" "DearVotes$Search" "found" "[I", Cond.lays "DearVotes$Search" "DearVotes$Search" "foundGain" "I", Cond.lays "DearVotes$Search" "DearVotes$Search" "foundCost" "I", Cond.lays "DearVotes$Search" "DearVotes$Search" "budget" "I"] : List Cond), w ∈ hx_ws)
theorem inX4 : ∀ w ∈ wsX40, w ∈ hx_ws := (List.forall_mem_cons.mpr ⟨tb_193, List.forall_mem_cons.mpr ⟨tb_195, List.forall_mem_cons.mpr ⟨tb_197, List.forall_mem_cons.mpr ⟨tb_199, fun _ h => absurd h List.not_mem_nil⟩⟩⟩⟩ : ∀ w ∈ ([Cond.laysFinal "DearVotes" "DearVotes" "house" "LDearVotes$House;", Cond.laysFinal "DearVotes" "DearVotes" "search" "LDearVotes$Search;", Cond.laysFinal "DearVotes" "DearVotes" "rounds" "LDearVotes$Rounds;", Cond.laysFinal "DearVotes" "DearVotes" "fund" "LDearVotes$Fund;"] : List Cond), w ∈ hx_ws)
theorem inX5 : ∀ w ∈ wsX50, w ∈ hx_ws := (List.forall_mem_cons.mpr ⟨tb_525, List.forall_mem_cons.mpr ⟨tb_527, List.forall_mem_cons.mpr ⟨tb_529, List.forall_mem_cons.mpr ⟨tb_531, List.forall_mem_cons.mpr ⟨tb_533, List.forall_mem_cons.mpr ⟨tb_535, List.forall_mem_cons.mpr ⟨tb_537, List.forall_mem_cons.mpr ⟨tb_539, List.forall_mem_cons.mpr ⟨tb_541, List.forall_mem_cons.mpr ⟨tb_543, List.forall_mem_cons.mpr ⟨tb_545, List.forall_mem_cons.mpr ⟨tb_547, List.forall_mem_cons.mpr ⟨tb_549, List.forall_mem_cons.mpr ⟨tb_551, List.forall_mem_cons.mpr ⟨tb_553, List.forall_mem_cons.mpr ⟨tb_555, List.forall_mem_cons.mpr ⟨tb_557, List.forall_mem_cons.mpr ⟨tb_559, List.forall_mem_cons.mpr ⟨tb_561, List.forall_mem_cons.mpr ⟨tb_563, List.forall_mem_cons.mpr ⟨tb_565, List.forall_mem_cons.mpr ⟨tb_567, List.forall_mem_cons.mpr ⟨tb_569, List.forall_mem_cons.mpr ⟨tb_571, List.forall_mem_cons.mpr ⟨tb_573, fun _ h => absurd h List.not_mem_nil⟩⟩⟩⟩⟩⟩⟩⟩⟩⟩⟩⟩⟩⟩⟩⟩⟩⟩⟩⟩⟩⟩⟩⟩⟩ : ∀ w ∈ ([Cond.lays "DearVotesModel" "DearVotesModel" "people" "I", Cond.lays "DearVotesModel" "DearVotesModel" "questions" "I", Cond.lays "DearVotesModel" "DearVotesModel" "projects" "I", Cond.lays "DearVotesModel" "DearVotesModel" "seed" "I", Cond.laysFinal "DearVotesModel" "DearVotesModel" "budgets" "[I", Cond.laysFinal "DearVotesModel" "DearVotesModel" "isHere" "[Z", Cond.laysFinal "DearVotesModel" "DearVotesModel" "votes" "[I", Cond.laysFinal "DearVotesModel" "DearVotesModel" "worths" "[I", Cond.laysFinal "DearVotesModel" "DearVotesModel" "gifts" "[I", Cond.laysFinal "DearVotesModel" "DearVotesModel" "bonds" "[I", Cond.lays "DearVotesModel" "DearVotesModel" "rounds" "I", Cond.lays "DearVotesModel" "DearVotesModel" "changes" "I", Cond.lays "DearVotesModel" "DearVotesModel" "ended" "I", Cond.lays "DearVotesModel" "DearVotesModel" "ring" "I", Cond.laysFinal "DearVotesModel" "DearVotesModel" "cheapest" "[I", Cond.laysFinal "DearVotesModel" "DearVotesModel" "may" "[Z", Cond.laysFinal "DearVotesModel" "DearVotesModel" "bestVoices" "[I", Cond.laysFinal "DearVotesModel" "DearVotesModel" "tryVoices" "[I", Cond.lays "DearVotesModel" "DearVotesModel" "bestGain" "I", Cond.lays "DearVotesModel" "DearVotesModel" "bestCost" "I", Cond.lays "DearVotesModel" "DearVotesModel" "hasBest" "Z", Cond.laysFinal "DearVotesModel" "DearVotesModel" "past" "[I", Cond.laysFinal "DearVotesModel" "DearVotesModel" "parts" "[J", Cond.laysFinal "DearVotesModel" "DearVotesModel" "rests" "[J", Cond.lays "DearVotesModel" "DearVotesModel" "h" "J"] : List Cond), w ∈ hx_ws)
