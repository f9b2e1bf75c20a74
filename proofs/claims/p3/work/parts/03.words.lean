-- words by their places in the tables, and what the methods called want
theorem tc_1 {w : Cond} (h : w ∈ tables_1_1) : w ∈ tables_1 := List.mem_append_left _ h
theorem tc_2 {w : Cond} (h : w ∈ tables_1_2) : w ∈ tables_1 := List.mem_append_right _ (List.mem_append_left _ h)
theorem tc_3 {w : Cond} (h : w ∈ tables_1_3) : w ∈ tables_1 := List.mem_append_right _ (List.mem_append_right _ (List.mem_append_left _ h))
theorem tc_4 {w : Cond} (h : w ∈ tables_1_4) : w ∈ tables_1 := List.mem_append_right _ (List.mem_append_right _ (List.mem_append_right _ (List.mem_append_left _ h)))
theorem tc_5 {w : Cond} (h : w ∈ tables_1_5) : w ∈ tables_1 := List.mem_append_right _ (List.mem_append_right _ (List.mem_append_right _ (List.mem_append_right _ (List.mem_append_left _ h))))
theorem tc_6 {w : Cond} (h : w ∈ tables_1_6) : w ∈ tables_1 := List.mem_append_right _ (List.mem_append_right _ (List.mem_append_right _ (List.mem_append_right _ (List.mem_append_right _ (List.mem_append_left _ h)))))
theorem tc_7 {w : Cond} (h : w ∈ tables_1_7) : w ∈ tables_1 := List.mem_append_right _ (List.mem_append_right _ (List.mem_append_right _ (List.mem_append_right _ (List.mem_append_right _ (List.mem_append_right _ (List.mem_append_left _ h))))))
theorem tc_8 {w : Cond} (h : w ∈ tables_1_8) : w ∈ tables_1 := List.mem_append_right _ (List.mem_append_right _ (List.mem_append_right _ (List.mem_append_right _ (List.mem_append_right _ (List.mem_append_right _ (List.mem_append_right _ (List.mem_append_left _ h)))))))
theorem tc_9 {w : Cond} (h : w ∈ tables_1_9) : w ∈ tables_1 := List.mem_append_right _ (List.mem_append_right _ (List.mem_append_right _ (List.mem_append_right _ (List.mem_append_right _ (List.mem_append_right _ (List.mem_append_right _ (List.mem_append_right _ (List.mem_append_left _ h))))))))
theorem tc_10 {w : Cond} (h : w ∈ tables_1_10) : w ∈ tables_1 := List.mem_append_right _ (List.mem_append_right _ (List.mem_append_right _ (List.mem_append_right _ (List.mem_append_right _ (List.mem_append_right _ (List.mem_append_right _ (List.mem_append_right _ (List.mem_append_right _ (List.mem_append_left _ h)))))))))
theorem tc_11 {w : Cond} (h : w ∈ tables_1_11) : w ∈ tables_1 := List.mem_append_right _ (List.mem_append_right _ (List.mem_append_right _ (List.mem_append_right _ (List.mem_append_right _ (List.mem_append_right _ (List.mem_append_right _ (List.mem_append_right _ (List.mem_append_right _ (List.mem_append_right _ (List.mem_append_left _ h))))))))))
theorem tc_12 {w : Cond} (h : w ∈ tables_1_12) : w ∈ tables_1 := List.mem_append_right _ (List.mem_append_right _ (List.mem_append_right _ (List.mem_append_right _ (List.mem_append_right _ (List.mem_append_right _ (List.mem_append_right _ (List.mem_append_right _ (List.mem_append_right _ (List.mem_append_right _ (List.mem_append_right _ (List.mem_append_left _ h)))))))))))
theorem tc_13 {w : Cond} (h : w ∈ tables_1_13) : w ∈ tables_1 := List.mem_append_right _ (List.mem_append_right _ (List.mem_append_right _ (List.mem_append_right _ (List.mem_append_right _ (List.mem_append_right _ (List.mem_append_right _ (List.mem_append_right _ (List.mem_append_right _ (List.mem_append_right _ (List.mem_append_right _ (List.mem_append_right _ (List.mem_append_left _ h))))))))))))
theorem tc_14 {w : Cond} (h : w ∈ tables_1_14) : w ∈ tables_1 := List.mem_append_right _ (List.mem_append_right _ (List.mem_append_right _ (List.mem_append_right _ (List.mem_append_right _ (List.mem_append_right _ (List.mem_append_right _ (List.mem_append_right _ (List.mem_append_right _ (List.mem_append_right _ (List.mem_append_right _ (List.mem_append_right _ (List.mem_append_right _ (h)))))))))))))
theorem tw_0 : (Cond.initialized "ProofLibraryLaw") ∈ TB := TB_m (tc_1 (List.mem_of_getElem? (i := 0) rfl)) rfl
theorem tw_1 : (Cond.initialized "ProofLibrary") ∈ TB := TB_m (tc_1 (List.mem_of_getElem? (i := 1) rfl)) rfl
theorem tw_2 : (Cond.initialized "ProofLibrary$Library") ∈ TB := TB_m (tc_1 (List.mem_of_getElem? (i := 2) rfl)) rfl
theorem tw_3 : (Cond.initialized "ProofLibrary$Scopes") ∈ TB := TB_m (tc_1 (List.mem_of_getElem? (i := 3) rfl)) rfl
theorem tw_4 : (Cond.initialized "java/util/Arrays") ∈ TB := TB_m (tc_1 (List.mem_of_getElem? (i := 4) rfl)) rfl
theorem tw_5 : (Cond.initialized "ProofLibrary$Assertions") ∈ TB := TB_m (tc_1 (List.mem_of_getElem? (i := 5) rfl)) rfl
theorem tw_6 : (Cond.initialized "ProofLibrary$Pile") ∈ TB := TB_m (tc_1 (List.mem_of_getElem? (i := 6) rfl)) rfl
theorem tw_7 : (Cond.initialized "ProofLibrary$Reader") ∈ TB := TB_m (tc_1 (List.mem_of_getElem? (i := 7) rfl)) rfl
theorem tw_8 : (Cond.initialized "ProofLibrary$Steps") ∈ TB := TB_m (tc_1 (List.mem_of_getElem? (i := 8) rfl)) rfl
theorem tw_9 : (Cond.initialized "ProofLibrary$Packer") ∈ TB := TB_m (tc_1 (List.mem_of_getElem? (i := 9) rfl)) rfl
theorem tw_10 : (Cond.initialized "ProofLibrary$Rules") ∈ TB := TB_m (tc_1 (List.mem_of_getElem? (i := 10) rfl)) rfl
theorem tw_11 : (Cond.initialized "ProofLibrary$Chart") ∈ TB := TB_m (tc_1 (List.mem_of_getElem? (i := 11) rfl)) rfl
theorem tw_12 : (Cond.initialized "ProofLibrary$Tree") ∈ TB := TB_m (tc_1 (List.mem_of_getElem? (i := 12) rfl)) rfl
theorem tw_13 : (Cond.initialized "ProofLibrary$Definitions") ∈ TB := TB_m (tc_1 (List.mem_of_getElem? (i := 13) rfl)) rfl
theorem tw_14 : (Cond.initialized "ProofLibrary$Paper") ∈ TB := TB_m (tc_1 (List.mem_of_getElem? (i := 14) rfl)) rfl
theorem tw_15 : (Cond.initialized "ProofLibraryModel") ∈ TB := TB_m (tc_1 (List.mem_of_getElem? (i := 15) rfl)) rfl
theorem tw_16 : (Cond.initialized "java/lang/Math") ∈ TB := TB_m (tc_1 (List.mem_of_getElem? (i := 16) rfl)) rfl
theorem tw_17 : (Cond.initialized "java/lang/System") ∈ TB := TB_m (tc_1 (List.mem_of_getElem? (i := 17) rfl)) rfl
theorem tw_18 : (Cond.initialized "java/lang/Number") ∈ TB := TB_m (tc_1 (List.mem_of_getElem? (i := 18) rfl)) rfl
theorem tw_19 : (Cond.initialized "java/lang/Long") ∈ TB := TB_m (tc_1 (List.mem_of_getElem? (i := 19) rfl)) rfl
theorem tw_20 : (Cond.initialized "java/lang/Integer") ∈ TB := TB_m (tc_1 (List.mem_of_getElem? (i := 20) rfl)) rfl
theorem tw_21 : (Cond.classLink "ProofLibraryLaw" 7 "ProofLibrary") ∈ TB := TB_m (tc_1 (List.mem_of_getElem? (i := 21) rfl)) rfl
theorem tw_22 : (Cond.instantiable "ProofLibrary" 16) ∈ TB := TB_m (tc_1 (List.mem_of_getElem? (i := 22) rfl)) rfl
theorem tw_23 : (Cond.methodLink "ProofLibraryLaw" 9 ⟨"ProofLibrary", "<init>", "()V"⟩) ∈ TB := TB_m (tc_1 (List.mem_of_getElem? (i := 23) rfl)) rfl
theorem tw_24 : (Cond.instanceMethod ⟨"ProofLibrary", "<init>", "()V"⟩) ∈ TB := TB_m (tc_1 (List.mem_of_getElem? (i := 24) rfl)) rfl
theorem tw_25 : (Cond.code ⟨"ProofLibrary", "<init>", "()V"⟩ prog_1_method_1_code 1 none) ∈ TB := TB_m (tc_1 (List.mem_of_getElem? (i := 25) rfl)) rfl
theorem tw_26 : (Cond.methodLink "ProofLibrary" 3 ⟨"java/lang/Object", "<init>", "()V"⟩) ∈ TB := TB_m (tc_1 (List.mem_of_getElem? (i := 26) rfl)) rfl
theorem tw_27 : (Cond.instanceMethod ⟨"java/lang/Object", "<init>", "()V"⟩) ∈ TB := TB_m (tc_1 (List.mem_of_getElem? (i := 27) rfl)) rfl
theorem tw_28 : (Cond.code ⟨"java/lang/Object", "<init>", "()V"⟩ object_method_1_code 1 none) ∈ TB := TB_m (tc_1 (List.mem_of_getElem? (i := 28) rfl)) rfl
theorem tw_29 : (Cond.constant "ProofLibrary" 9 60000) ∈ TB := TB_m (tc_1 (List.mem_of_getElem? (i := 29) rfl)) rfl
theorem tw_30 : (Cond.classLink "ProofLibrary" 22 "ProofLibrary$Library") ∈ TB := TB_m (tc_1 (List.mem_of_getElem? (i := 30) rfl)) rfl
theorem tw_31 : (Cond.instantiable "ProofLibrary$Library" 21) ∈ TB := TB_m (tc_1 (List.mem_of_getElem? (i := 31) rfl)) rfl
theorem tw_32 : (Cond.methodLink "ProofLibrary" 24 ⟨"ProofLibrary$Library", "<init>", "()V"⟩) ∈ TB := TB_m (tc_1 (List.mem_of_getElem? (i := 32) rfl)) rfl
theorem tw_33 : (Cond.instanceMethod ⟨"ProofLibrary$Library", "<init>", "()V"⟩) ∈ TB := TB_m (tc_1 (List.mem_of_getElem? (i := 33) rfl)) rfl
theorem tw_34 : (Cond.code ⟨"ProofLibrary$Library", "<init>", "()V"⟩ prog_5_method_1_code 1 none) ∈ TB := TB_m (tc_1 (List.mem_of_getElem? (i := 34) rfl)) rfl
theorem tw_35 : (Cond.methodLink "ProofLibrary$Library" 3 ⟨"java/lang/Object", "<init>", "()V"⟩) ∈ TB := TB_m (tc_1 (List.mem_of_getElem? (i := 35) rfl)) rfl
theorem tw_36 : (Cond.fieldLink "ProofLibrary$Library" 9 "ProofLibrary$Library" "letters" "[C") ∈ TB := TB_m (tc_1 (List.mem_of_getElem? (i := 36) rfl)) rfl
theorem tn_37 : (Cond.fieldLinkNest "ProofLibrary$Paper" 43 "ProofLibrary$Library" "letters" "[C" "ProofLibrary") ∈ NB := NB_m (tc_1 (List.mem_of_getElem? (i := 37) rfl)) rfl
theorem tw_38 : (Cond.fieldLink "ProofLibrary$Library" 15 "ProofLibrary$Library" "nameAt" "[I") ∈ TB := TB_m (tc_1 (List.mem_of_getElem? (i := 38) rfl)) rfl
theorem tn_39 : (Cond.fieldLinkNest "ProofLibrary$Paper" 37 "ProofLibrary$Library" "nameAt" "[I" "ProofLibrary") ∈ NB := NB_m (tc_1 (List.mem_of_getElem? (i := 39) rfl)) rfl
theorem tw_40 : (Cond.fieldLink "ProofLibrary$Library" 19 "ProofLibrary$Library" "meaning" "[I") ∈ TB := TB_m (tc_1 (List.mem_of_getElem? (i := 40) rfl)) rfl
theorem tw_41 : (Cond.fieldLink "ProofLibrary$Library" 22 "ProofLibrary$Library" "nextName" "[I") ∈ TB := TB_m (tc_1 (List.mem_of_getElem? (i := 41) rfl)) rfl
theorem tw_42 : (Cond.fieldLink "ProofLibrary$Library" 25 "ProofLibrary$Library" "heads" "[I") ∈ TB := TB_m (tc_1 (List.mem_of_getElem? (i := 42) rfl)) rfl
theorem tw_43 : (Cond.fieldLink "ProofLibrary$Library" 86 "ProofLibrary$Library" "names" "I") ∈ TB := TB_m (tc_1 (List.mem_of_getElem? (i := 43) rfl)) rfl
theorem tw_44 : (Cond.fieldLink "ProofLibrary$Library" 28 "ProofLibrary$Library" "symbolName" "[I") ∈ TB := TB_m (tc_1 (List.mem_of_getElem? (i := 44) rfl)) rfl
theorem tn_45 : (Cond.fieldLinkNest "ProofLibrary$Paper" 46 "ProofLibrary$Library" "symbolName" "[I" "ProofLibrary") ∈ NB := NB_m (tc_1 (List.mem_of_getElem? (i := 45) rfl)) rfl
theorem tw_46 : (Cond.fieldLink "ProofLibrary$Library" 31 "ProofLibrary$Library" "variable" "[Z") ∈ TB := TB_m (tc_1 (List.mem_of_getElem? (i := 46) rfl)) rfl
theorem tn_47 : (Cond.fieldLinkNest "ProofLibrary$Rules" 95 "ProofLibrary$Library" "variable" "[Z" "ProofLibrary") ∈ NB := NB_m (tc_1 (List.mem_of_getElem? (i := 47) rfl)) rfl
theorem tn_48 : (Cond.fieldLinkNest "ProofLibrary$Pile" 125 "ProofLibrary$Library" "variable" "[Z" "ProofLibrary") ∈ NB := NB_m (tc_1 (List.mem_of_getElem? (i := 48) rfl)) rfl
theorem tn_49 : (Cond.fieldLinkNest "ProofLibrary" 180 "ProofLibrary$Library" "variable" "[Z" "ProofLibrary") ∈ NB := NB_m (tc_1 (List.mem_of_getElem? (i := 49) rfl)) rfl
theorem tn_50 : (Cond.fieldLinkNest "ProofLibrary$Scopes" 102 "ProofLibrary$Library" "variable" "[Z" "ProofLibrary") ∈ NB := NB_m (tc_1 (List.mem_of_getElem? (i := 50) rfl)) rfl
theorem tn_51 : (Cond.fieldLinkNest "ProofLibrary$Reader" 234 "ProofLibrary$Library" "variable" "[Z" "ProofLibrary") ∈ NB := NB_m (tc_1 (List.mem_of_getElem? (i := 51) rfl)) rfl
theorem tw_52 : (Cond.fieldLink "ProofLibrary$Library" 35 "ProofLibrary$Library" "firstFloat" "[I") ∈ TB := TB_m (tc_1 (List.mem_of_getElem? (i := 52) rfl)) rfl
theorem tn_53 : (Cond.fieldLinkNest "ProofLibrary$Chart" 100 "ProofLibrary$Library" "firstFloat" "[I" "ProofLibrary") ∈ NB := NB_m (tc_1 (List.mem_of_getElem? (i := 53) rfl)) rfl
theorem tn_54 : (Cond.fieldLinkNest "ProofLibrary$Reader" 272 "ProofLibrary$Library" "firstFloat" "[I" "ProofLibrary") ∈ NB := NB_m (tc_1 (List.mem_of_getElem? (i := 54) rfl)) rfl
theorem tw_55 : (Cond.fieldLink "ProofLibrary$Library" 38 "ProofLibrary$Library" "rank" "[I") ∈ TB := TB_m (tc_1 (List.mem_of_getElem? (i := 55) rfl)) rfl
theorem tn_56 : (Cond.fieldLinkNest "ProofLibrary$Tree" 95 "ProofLibrary$Library" "rank" "[I" "ProofLibrary") ∈ NB := NB_m (tc_1 (List.mem_of_getElem? (i := 56) rfl)) rfl
theorem tn_57 : (Cond.fieldLinkNest "ProofLibrary$Rules" 122 "ProofLibrary$Library" "rank" "[I" "ProofLibrary") ∈ NB := NB_m (tc_1 (List.mem_of_getElem? (i := 57) rfl)) rfl
theorem tn_58 : (Cond.fieldLinkNest "ProofLibrary$Reader" 263 "ProofLibrary$Library" "rank" "[I" "ProofLibrary") ∈ NB := NB_m (tc_1 (List.mem_of_getElem? (i := 58) rfl)) rfl
theorem tw_59 : (Cond.fieldLink "ProofLibrary$Library" 41 "ProofLibrary$Library" "ranked" "[I") ∈ TB := TB_m (tc_1 (List.mem_of_getElem? (i := 59) rfl)) rfl
theorem tn_60 : (Cond.fieldLinkNest "ProofLibrary$Chart" 112 "ProofLibrary$Library" "ranks" "I" "ProofLibrary") ∈ NB := NB_m (tc_1 (List.mem_of_getElem? (i := 60) rfl)) rfl
theorem tw_61 : (Cond.fieldLink "ProofLibrary$Library" 103 "ProofLibrary$Library" "ranks" "I") ∈ TB := TB_m (tc_1 (List.mem_of_getElem? (i := 61) rfl)) rfl
theorem tn_62 : (Cond.fieldLinkNest "ProofLibrary$Reader" 266 "ProofLibrary$Library" "ranks" "I" "ProofLibrary") ∈ NB := NB_m (tc_1 (List.mem_of_getElem? (i := 62) rfl)) rfl
theorem tn_63 : (Cond.fieldLinkNest "ProofLibrary" 144 "ProofLibrary$Library" "symbols" "I" "ProofLibrary") ∈ NB := NB_m (tc_1 (List.mem_of_getElem? (i := 63) rfl)) rfl
theorem tw_64 : (Cond.fieldLink "ProofLibrary$Library" 90 "ProofLibrary$Library" "symbols" "I") ∈ TB := TB_m (tc_1 (List.mem_of_getElem? (i := 64) rfl)) rfl
theorem tn_65 : (Cond.fieldLinkNest "ProofLibrary$Reader" 225 "ProofLibrary$Library" "symbols" "I" "ProofLibrary") ∈ NB := NB_m (tc_1 (List.mem_of_getElem? (i := 65) rfl)) rfl
theorem tw_66 : (Cond.fieldLink "ProofLibrary$Library" 44 "ProofLibrary$Library" "labelName" "[I") ∈ TB := TB_m (tc_1 (List.mem_of_getElem? (i := 66) rfl)) rfl
theorem tn_67 : (Cond.fieldLinkNest "ProofLibrary" 263 "ProofLibrary$Library" "labelName" "[I" "ProofLibrary") ∈ NB := NB_m (tc_1 (List.mem_of_getElem? (i := 67) rfl)) rfl
theorem tw_68 : (Cond.fieldLink "ProofLibrary$Library" 47 "ProofLibrary$Library" "kind" "[I") ∈ TB := TB_m (tc_1 (List.mem_of_getElem? (i := 68) rfl)) rfl
theorem tn_69 : (Cond.fieldLinkNest "ProofLibrary$Tree" 71 "ProofLibrary$Library" "kind" "[I" "ProofLibrary") ∈ NB := NB_m (tc_1 (List.mem_of_getElem? (i := 69) rfl)) rfl
theorem tn_70 : (Cond.fieldLinkNest "ProofLibrary$Pile" 76 "ProofLibrary$Library" "kind" "[I" "ProofLibrary") ∈ NB := NB_m (tc_1 (List.mem_of_getElem? (i := 70) rfl)) rfl
theorem tn_71 : (Cond.fieldLinkNest "ProofLibrary$Definitions" 115 "ProofLibrary$Library" "kind" "[I" "ProofLibrary") ∈ NB := NB_m (tc_1 (List.mem_of_getElem? (i := 71) rfl)) rfl
theorem tn_72 : (Cond.fieldLinkNest "ProofLibrary$Rules" 99 "ProofLibrary$Library" "kind" "[I" "ProofLibrary") ∈ NB := NB_m (tc_1 (List.mem_of_getElem? (i := 72) rfl)) rfl
theorem tn_73 : (Cond.fieldLinkNest "ProofLibrary$Assertions" 95 "ProofLibrary$Library" "kind" "[I" "ProofLibrary") ∈ NB := NB_m (tc_1 (List.mem_of_getElem? (i := 73) rfl)) rfl
theorem tn_74 : (Cond.fieldLinkNest "ProofLibrary$Scopes" 77 "ProofLibrary$Library" "kind" "[I" "ProofLibrary") ∈ NB := NB_m (tc_1 (List.mem_of_getElem? (i := 74) rfl)) rfl
theorem tn_75 : (Cond.fieldLinkNest "ProofLibrary" 165 "ProofLibrary$Library" "kind" "[I" "ProofLibrary") ∈ NB := NB_m (tc_1 (List.mem_of_getElem? (i := 75) rfl)) rfl
theorem tn_76 : (Cond.fieldLinkNest "ProofLibrary$Steps" 107 "ProofLibrary$Library" "kind" "[I" "ProofLibrary") ∈ NB := NB_m (tc_1 (List.mem_of_getElem? (i := 76) rfl)) rfl
theorem tw_77 : (Cond.fieldLink "ProofLibrary$Library" 50 "ProofLibrary$Library" "at" "[I") ∈ TB := TB_m (tc_1 (List.mem_of_getElem? (i := 77) rfl)) rfl
theorem tn_78 : (Cond.fieldLinkNest "ProofLibrary$Chart" 80 "ProofLibrary$Library" "at" "[I" "ProofLibrary") ∈ NB := NB_m (tc_1 (List.mem_of_getElem? (i := 78) rfl)) rfl
theorem tn_79 : (Cond.fieldLinkNest "ProofLibrary$Tree" 101 "ProofLibrary$Library" "at" "[I" "ProofLibrary") ∈ NB := NB_m (tc_1 (List.mem_of_getElem? (i := 79) rfl)) rfl
theorem tn_80 : (Cond.fieldLinkNest "ProofLibrary$Pile" 92 "ProofLibrary$Library" "at" "[I" "ProofLibrary") ∈ NB := NB_m (tc_1 (List.mem_of_getElem? (i := 80) rfl)) rfl
theorem tn_81 : (Cond.fieldLinkNest "ProofLibrary$Rules" 110 "ProofLibrary$Library" "at" "[I" "ProofLibrary") ∈ NB := NB_m (tc_1 (List.mem_of_getElem? (i := 81) rfl)) rfl
theorem tn_82 : (Cond.fieldLinkNest "ProofLibrary$Definitions" 158 "ProofLibrary$Library" "at" "[I" "ProofLibrary") ∈ NB := NB_m (tc_1 (List.mem_of_getElem? (i := 82) rfl)) rfl
theorem tn_83 : (Cond.fieldLinkNest "ProofLibrary" 174 "ProofLibrary$Library" "at" "[I" "ProofLibrary") ∈ NB := NB_m (tc_1 (List.mem_of_getElem? (i := 83) rfl)) rfl
theorem tn_84 : (Cond.fieldLinkNest "ProofLibrary$Scopes" 93 "ProofLibrary$Library" "at" "[I" "ProofLibrary") ∈ NB := NB_m (tc_1 (List.mem_of_getElem? (i := 84) rfl)) rfl
theorem tw_85 : (Cond.fieldLink "ProofLibrary$Library" 53 "ProofLibrary$Library" "text" "[I") ∈ TB := TB_m (tc_1 (List.mem_of_getElem? (i := 85) rfl)) rfl
theorem tn_86 : (Cond.fieldLinkNest "ProofLibrary$Chart" 77 "ProofLibrary$Library" "text" "[I" "ProofLibrary") ∈ NB := NB_m (tc_1 (List.mem_of_getElem? (i := 86) rfl)) rfl
theorem tn_87 : (Cond.fieldLinkNest "ProofLibrary$Pile" 93 "ProofLibrary$Library" "text" "[I" "ProofLibrary") ∈ NB := NB_m (tc_1 (List.mem_of_getElem? (i := 87) rfl)) rfl
theorem tn_88 : (Cond.fieldLinkNest "ProofLibrary$Tree" 111 "ProofLibrary$Library" "text" "[I" "ProofLibrary") ∈ NB := NB_m (tc_1 (List.mem_of_getElem? (i := 88) rfl)) rfl
theorem tn_89 : (Cond.fieldLinkNest "ProofLibrary$Rules" 119 "ProofLibrary$Library" "text" "[I" "ProofLibrary") ∈ NB := NB_m (tc_1 (List.mem_of_getElem? (i := 89) rfl)) rfl
theorem tn_90 : (Cond.fieldLinkNest "ProofLibrary" 171 "ProofLibrary$Library" "text" "[I" "ProofLibrary") ∈ NB := NB_m (tc_1 (List.mem_of_getElem? (i := 90) rfl)) rfl
theorem tn_91 : (Cond.fieldLinkNest "ProofLibrary$Scopes" 99 "ProofLibrary$Library" "text" "[I" "ProofLibrary") ∈ NB := NB_m (tc_1 (List.mem_of_getElem? (i := 91) rfl)) rfl
theorem tn_92 : (Cond.fieldLinkNest "ProofLibrary$Definitions" 227 "ProofLibrary$Library" "text" "[I" "ProofLibrary") ∈ NB := NB_m (tc_1 (List.mem_of_getElem? (i := 92) rfl)) rfl
theorem tw_93 : (Cond.fieldLink "ProofLibrary$Library" 56 "ProofLibrary$Library" "floats" "[I") ∈ TB := TB_m (tc_1 (List.mem_of_getElem? (i := 93) rfl)) rfl
theorem tn_94 : (Cond.fieldLinkNest "ProofLibrary$Chart" 83 "ProofLibrary$Library" "floats" "[I" "ProofLibrary") ∈ NB := NB_m (tc_1 (List.mem_of_getElem? (i := 94) rfl)) rfl
theorem tn_95 : (Cond.fieldLinkNest "ProofLibrary$Pile" 96 "ProofLibrary$Library" "floats" "[I" "ProofLibrary") ∈ NB := NB_m (tc_1 (List.mem_of_getElem? (i := 95) rfl)) rfl
theorem tn_96 : (Cond.fieldLinkNest "ProofLibrary$Rules" 113 "ProofLibrary$Library" "floats" "[I" "ProofLibrary") ∈ NB := NB_m (tc_1 (List.mem_of_getElem? (i := 96) rfl)) rfl
theorem tn_97 : (Cond.fieldLinkNest "ProofLibrary$Tree" 114 "ProofLibrary$Library" "floats" "[I" "ProofLibrary") ∈ NB := NB_m (tc_1 (List.mem_of_getElem? (i := 97) rfl)) rfl
theorem tn_98 : (Cond.fieldLinkNest "ProofLibrary$Definitions" 161 "ProofLibrary$Library" "floats" "[I" "ProofLibrary") ∈ NB := NB_m (tc_1 (List.mem_of_getElem? (i := 98) rfl)) rfl
theorem tn_99 : (Cond.fieldLinkNest "ProofLibrary$Scopes" 96 "ProofLibrary$Library" "floats" "[I" "ProofLibrary") ∈ NB := NB_m (tc_1 (List.mem_of_getElem? (i := 99) rfl)) rfl
theorem tn_100 : (Cond.fieldLinkNest "ProofLibrary" 412 "ProofLibrary$Library" "floats" "[I" "ProofLibrary") ∈ NB := NB_m (tc_1 (List.mem_of_getElem? (i := 100) rfl)) rfl
theorem tw_101 : (Cond.fieldLink "ProofLibrary$Library" 100 "ProofLibrary$Library" "used" "I") ∈ TB := TB_m (tc_1 (List.mem_of_getElem? (i := 101) rfl)) rfl
theorem tn_102 : (Cond.fieldLinkNest "ProofLibrary$Reader" 248 "ProofLibrary$Library" "used" "I" "ProofLibrary") ∈ NB := NB_m (tc_1 (List.mem_of_getElem? (i := 102) rfl)) rfl
theorem tn_103 : (Cond.fieldLinkNest "ProofLibrary$Rules" 74 "ProofLibrary$Library" "statements" "I" "ProofLibrary") ∈ NB := NB_m (tc_1 (List.mem_of_getElem? (i := 103) rfl)) rfl
theorem tn_104 : (Cond.fieldLinkNest "ProofLibrary$Chart" 103 "ProofLibrary$Library" "statements" "I" "ProofLibrary") ∈ NB := NB_m (tc_1 (List.mem_of_getElem? (i := 104) rfl)) rfl
theorem tn_105 : (Cond.fieldLinkNest "ProofLibrary" 141 "ProofLibrary$Library" "statements" "I" "ProofLibrary") ∈ NB := NB_m (tc_1 (List.mem_of_getElem? (i := 105) rfl)) rfl
theorem tw_106 : (Cond.fieldLink "ProofLibrary$Library" 97 "ProofLibrary$Library" "statements" "I") ∈ TB := TB_m (tc_1 (List.mem_of_getElem? (i := 106) rfl)) rfl
theorem tn_107 : (Cond.fieldLinkNest "ProofLibrary$Reader" 152 "ProofLibrary$Library" "statements" "I" "ProofLibrary") ∈ NB := NB_m (tc_1 (List.mem_of_getElem? (i := 107) rfl)) rfl
theorem tn_108 : (Cond.fieldLinkNest "ProofLibrary$Assertions" 136 "ProofLibrary$Library" "statements" "I" "ProofLibrary") ∈ NB := NB_m (tc_1 (List.mem_of_getElem? (i := 108) rfl)) rfl
theorem tw_109 : (Cond.fieldLink "ProofLibrary$Library" 59 "ProofLibrary$Library" "kept" "[I") ∈ TB := TB_m (tc_1 (List.mem_of_getElem? (i := 109) rfl)) rfl
theorem tw_110 : (Cond.laysFinal "ProofLibrary$Library" "ProofLibrary$Library" "letters" "[C") ∈ TB := TB_m (tc_1 (List.mem_of_getElem? (i := 110) rfl)) rfl
theorem tw_112 : (Cond.laysFinal "ProofLibrary$Library" "ProofLibrary$Library" "nameAt" "[I") ∈ TB := TB_m (tc_1 (List.mem_of_getElem? (i := 112) rfl)) rfl
theorem tw_114 : (Cond.laysFinal "ProofLibrary$Library" "ProofLibrary$Library" "meaning" "[I") ∈ TB := TB_m (tc_1 (List.mem_of_getElem? (i := 114) rfl)) rfl
theorem tw_116 : (Cond.laysFinal "ProofLibrary$Library" "ProofLibrary$Library" "nextName" "[I") ∈ TB := TB_m (tc_1 (List.mem_of_getElem? (i := 116) rfl)) rfl
theorem tw_118 : (Cond.laysFinal "ProofLibrary$Library" "ProofLibrary$Library" "heads" "[I") ∈ TB := TB_m (tc_1 (List.mem_of_getElem? (i := 118) rfl)) rfl
theorem tw_120 : (Cond.lays "ProofLibrary$Library" "ProofLibrary$Library" "names" "I") ∈ TB := TB_m (tc_1 (List.mem_of_getElem? (i := 120) rfl)) rfl
theorem tw_122 : (Cond.laysFinal "ProofLibrary$Library" "ProofLibrary$Library" "symbolName" "[I") ∈ TB := TB_m (tc_1 (List.mem_of_getElem? (i := 122) rfl)) rfl
theorem tw_124 : (Cond.laysFinal "ProofLibrary$Library" "ProofLibrary$Library" "variable" "[Z") ∈ TB := TB_m (tc_1 (List.mem_of_getElem? (i := 124) rfl)) rfl
theorem tw_126 : (Cond.laysFinal "ProofLibrary$Library" "ProofLibrary$Library" "firstFloat" "[I") ∈ TB := TB_m (tc_1 (List.mem_of_getElem? (i := 126) rfl)) rfl
theorem tw_128 : (Cond.laysFinal "ProofLibrary$Library" "ProofLibrary$Library" "rank" "[I") ∈ TB := TB_m (tc_1 (List.mem_of_getElem? (i := 128) rfl)) rfl
theorem tw_130 : (Cond.laysFinal "ProofLibrary$Library" "ProofLibrary$Library" "ranked" "[I") ∈ TB := TB_m (tc_1 (List.mem_of_getElem? (i := 130) rfl)) rfl
theorem tw_132 : (Cond.lays "ProofLibrary$Library" "ProofLibrary$Library" "ranks" "I") ∈ TB := TB_m (tc_1 (List.mem_of_getElem? (i := 132) rfl)) rfl
theorem tw_134 : (Cond.lays "ProofLibrary$Library" "ProofLibrary$Library" "symbols" "I") ∈ TB := TB_m (tc_1 (List.mem_of_getElem? (i := 134) rfl)) rfl
theorem tw_136 : (Cond.laysFinal "ProofLibrary$Library" "ProofLibrary$Library" "labelName" "[I") ∈ TB := TB_m (tc_1 (List.mem_of_getElem? (i := 136) rfl)) rfl
theorem tw_138 : (Cond.laysFinal "ProofLibrary$Library" "ProofLibrary$Library" "kind" "[I") ∈ TB := TB_m (tc_1 (List.mem_of_getElem? (i := 138) rfl)) rfl
theorem tw_140 : (Cond.laysFinal "ProofLibrary$Library" "ProofLibrary$Library" "at" "[I") ∈ TB := TB_m (tc_1 (List.mem_of_getElem? (i := 140) rfl)) rfl
theorem tw_142 : (Cond.laysFinal "ProofLibrary$Library" "ProofLibrary$Library" "text" "[I") ∈ TB := TB_m (tc_1 (List.mem_of_getElem? (i := 142) rfl)) rfl
theorem tw_144 : (Cond.laysFinal "ProofLibrary$Library" "ProofLibrary$Library" "floats" "[I") ∈ TB := TB_m (tc_1 (List.mem_of_getElem? (i := 144) rfl)) rfl
theorem tw_146 : (Cond.lays "ProofLibrary$Library" "ProofLibrary$Library" "used" "I") ∈ TB := TB_m (tc_1 (List.mem_of_getElem? (i := 146) rfl)) rfl
theorem tw_148 : (Cond.lays "ProofLibrary$Library" "ProofLibrary$Library" "statements" "I") ∈ TB := TB_m (tc_1 (List.mem_of_getElem? (i := 148) rfl)) rfl
theorem tw_150 : (Cond.laysFinal "ProofLibrary$Library" "ProofLibrary$Library" "kept" "[I") ∈ TB := TB_m (tc_1 (List.mem_of_getElem? (i := 150) rfl)) rfl
theorem tw_153 : (Cond.arrayClass .char) ∈ TB := TB_m (tc_1 (List.mem_of_getElem? (i := 153) rfl)) rfl
theorem tw_154 : (Cond.arrayClass .int) ∈ TB := TB_m (tc_1 (List.mem_of_getElem? (i := 154) rfl)) rfl
theorem tw_155 : (Cond.arrayClass .boolean) ∈ TB := TB_m (tc_1 (List.mem_of_getElem? (i := 155) rfl)) rfl
theorem tw_156 : (Cond.classLink "ProofLibrary" 29 "ProofLibrary$Scopes") ∈ TB := TB_m (tc_1 (List.mem_of_getElem? (i := 156) rfl)) rfl
theorem tw_157 : (Cond.instantiable "ProofLibrary$Scopes" 16) ∈ TB := TB_m (tc_1 (List.mem_of_getElem? (i := 157) rfl)) rfl
theorem tw_158 : (Cond.methodLink "ProofLibrary" 31 ⟨"ProofLibrary$Scopes", "<init>", "(LProofLibrary$Library;)V"⟩) ∈ TB := TB_m (tc_1 (List.mem_of_getElem? (i := 158) rfl)) rfl
theorem tw_159 : (Cond.instanceMethod ⟨"ProofLibrary$Scopes", "<init>", "(LProofLibrary$Library;)V"⟩) ∈ TB := TB_m (tc_1 (List.mem_of_getElem? (i := 159) rfl)) rfl
theorem tw_160 : (Cond.code ⟨"ProofLibrary$Scopes", "<init>", "(LProofLibrary$Library;)V"⟩ prog_11_method_1_code 2 none) ∈ TB := TB_m (tc_1 (List.mem_of_getElem? (i := 160) rfl)) rfl
theorem tw_161 : (Cond.methodLink "ProofLibrary$Scopes" 3 ⟨"java/lang/Object", "<init>", "()V"⟩) ∈ TB := TB_m (tc_1 (List.mem_of_getElem? (i := 161) rfl)) rfl
theorem tw_162 : (Cond.methodLink "ProofLibrary$Scopes" 48 ⟨"java/util/Arrays", "fill", "([II)V"⟩) ∈ TB := TB_m (tc_1 (List.mem_of_getElem? (i := 162) rfl)) rfl
theorem tw_163 : (Cond.static ⟨"java/util/Arrays", "fill", "([II)V"⟩) ∈ TB := TB_m (tc_1 (List.mem_of_getElem? (i := 163) rfl)) rfl
theorem tw_164 : (Cond.code ⟨"java/util/Arrays", "fill", "([II)V"⟩ prog_22_method_103_code 4 none) ∈ TB := TB_m (tc_1 (List.mem_of_getElem? (i := 164) rfl)) rfl
theorem tw_165 : (Cond.fieldLink "ProofLibrary$Scopes" 44 "ProofLibrary$Scopes" "library" "LProofLibrary$Library;") ∈ TB := TB_m (tc_1 (List.mem_of_getElem? (i := 165) rfl)) rfl
theorem tw_166 : (Cond.fieldLink "ProofLibrary$Scopes" 9 "ProofLibrary$Scopes" "active" "[Z") ∈ TB := TB_m (tc_1 (List.mem_of_getElem? (i := 166) rfl)) rfl
theorem tw_167 : (Cond.fieldLink "ProofLibrary$Scopes" 15 "ProofLibrary$Scopes" "activeFloat" "[I") ∈ TB := TB_m (tc_1 (List.mem_of_getElem? (i := 167) rfl)) rfl
theorem tn_168 : (Cond.fieldLinkNest "ProofLibrary$Reader" 257 "ProofLibrary$Scopes" "activeFloat" "[I" "ProofLibrary") ∈ NB := NB_m (tc_1 (List.mem_of_getElem? (i := 168) rfl)) rfl
theorem tw_169 : (Cond.fieldLink "ProofLibrary$Scopes" 19 "ProofLibrary$Scopes" "variables" "[I") ∈ TB := TB_m (tc_1 (List.mem_of_getElem? (i := 169) rfl)) rfl
theorem tw_170 : (Cond.fieldLink "ProofLibrary$Scopes" 64 "ProofLibrary$Scopes" "variableCount" "I") ∈ TB := TB_m (tc_1 (List.mem_of_getElem? (i := 170) rfl)) rfl
theorem tw_171 : (Cond.fieldLink "ProofLibrary$Scopes" 22 "ProofLibrary$Scopes" "holds" "[Z") ∈ TB := TB_m (tc_1 (List.mem_of_getElem? (i := 171) rfl)) rfl
theorem tn_172 : (Cond.fieldLinkNest "ProofLibrary$Steps" 112 "ProofLibrary$Scopes" "holds" "[Z" "ProofLibrary") ∈ NB := NB_m (tc_1 (List.mem_of_getElem? (i := 172) rfl)) rfl
theorem tw_173 : (Cond.fieldLink "ProofLibrary$Scopes" 25 "ProofLibrary$Scopes" "hypotheses" "[I") ∈ TB := TB_m (tc_1 (List.mem_of_getElem? (i := 173) rfl)) rfl
theorem tn_174 : (Cond.fieldLinkNest "ProofLibrary$Assertions" 94 "ProofLibrary$Scopes" "hypotheses" "[I" "ProofLibrary") ∈ NB := NB_m (tc_1 (List.mem_of_getElem? (i := 174) rfl)) rfl
theorem tn_175 : (Cond.fieldLinkNest "ProofLibrary$Assertions" 91 "ProofLibrary$Scopes" "hypothesisCount" "I" "ProofLibrary") ∈ NB := NB_m (tc_1 (List.mem_of_getElem? (i := 175) rfl)) rfl
theorem tw_176 : (Cond.fieldLink "ProofLibrary$Scopes" 67 "ProofLibrary$Scopes" "hypothesisCount" "I") ∈ TB := TB_m (tc_1 (List.mem_of_getElem? (i := 176) rfl)) rfl
theorem tw_177 : (Cond.fieldLink "ProofLibrary$Scopes" 28 "ProofLibrary$Scopes" "pairX" "[I") ∈ TB := TB_m (tc_1 (List.mem_of_getElem? (i := 177) rfl)) rfl
theorem tn_178 : (Cond.fieldLinkNest "ProofLibrary$Assertions" 110 "ProofLibrary$Scopes" "pairX" "[I" "ProofLibrary") ∈ NB := NB_m (tc_1 (List.mem_of_getElem? (i := 178) rfl)) rfl
theorem tw_179 : (Cond.fieldLink "ProofLibrary$Scopes" 31 "ProofLibrary$Scopes" "pairY" "[I") ∈ TB := TB_m (tc_1 (List.mem_of_getElem? (i := 179) rfl)) rfl
theorem tn_180 : (Cond.fieldLinkNest "ProofLibrary$Assertions" 113 "ProofLibrary$Scopes" "pairY" "[I" "ProofLibrary") ∈ NB := NB_m (tc_1 (List.mem_of_getElem? (i := 180) rfl)) rfl
theorem tn_181 : (Cond.fieldLinkNest "ProofLibrary$Assertions" 107 "ProofLibrary$Scopes" "pairCount" "I" "ProofLibrary") ∈ NB := NB_m (tc_1 (List.mem_of_getElem? (i := 181) rfl)) rfl
theorem tw_182 : (Cond.fieldLink "ProofLibrary$Scopes" 70 "ProofLibrary$Scopes" "pairCount" "I") ∈ TB := TB_m (tc_1 (List.mem_of_getElem? (i := 182) rfl)) rfl
theorem tn_183 : (Cond.fieldLinkNest "ProofLibrary$Reader" 241 "ProofLibrary$Scopes" "pairCount" "I" "ProofLibrary") ∈ NB := NB_m (tc_1 (List.mem_of_getElem? (i := 183) rfl)) rfl
theorem tw_184 : (Cond.fieldLink "ProofLibrary$Scopes" 34 "ProofLibrary$Scopes" "apartBits" "[J") ∈ TB := TB_m (tc_1 (List.mem_of_getElem? (i := 184) rfl)) rfl
theorem tw_185 : (Cond.fieldLink "ProofLibrary$Scopes" 38 "ProofLibrary$Scopes" "marks" "[I") ∈ TB := TB_m (tc_1 (List.mem_of_getElem? (i := 185) rfl)) rfl
theorem tw_186 : (Cond.fieldLink "ProofLibrary$Scopes" 54 "ProofLibrary$Scopes" "depth" "I") ∈ TB := TB_m (tc_1 (List.mem_of_getElem? (i := 186) rfl)) rfl
theorem tn_187 : (Cond.fieldLinkNest "ProofLibrary$Reader" 84 "ProofLibrary$Scopes" "depth" "I" "ProofLibrary") ∈ NB := NB_m (tc_1 (List.mem_of_getElem? (i := 187) rfl)) rfl
theorem tw_188 : (Cond.fieldLink "ProofLibrary$Scopes" 41 "ProofLibrary$Scopes" "met" "[I") ∈ TB := TB_m (tc_1 (List.mem_of_getElem? (i := 188) rfl)) rfl
theorem tw_189 : (Cond.fieldLink "ProofLibrary$Scopes" 86 "ProofLibrary$Scopes" "turn" "I") ∈ TB := TB_m (tc_1 (List.mem_of_getElem? (i := 189) rfl)) rfl
theorem tw_190 : (Cond.laysFinal "ProofLibrary$Scopes" "ProofLibrary$Scopes" "library" "LProofLibrary$Library;") ∈ TB := TB_m (tc_1 (List.mem_of_getElem? (i := 190) rfl)) rfl
theorem tw_192 : (Cond.laysFinal "ProofLibrary$Scopes" "ProofLibrary$Scopes" "active" "[Z") ∈ TB := TB_m (tc_1 (List.mem_of_getElem? (i := 192) rfl)) rfl
theorem tw_194 : (Cond.laysFinal "ProofLibrary$Scopes" "ProofLibrary$Scopes" "activeFloat" "[I") ∈ TB := TB_m (tc_1 (List.mem_of_getElem? (i := 194) rfl)) rfl
theorem tw_196 : (Cond.laysFinal "ProofLibrary$Scopes" "ProofLibrary$Scopes" "variables" "[I") ∈ TB := TB_m (tc_1 (List.mem_of_getElem? (i := 196) rfl)) rfl
theorem tw_198 : (Cond.lays "ProofLibrary$Scopes" "ProofLibrary$Scopes" "variableCount" "I") ∈ TB := TB_m (tc_1 (List.mem_of_getElem? (i := 198) rfl)) rfl
theorem tw_200 : (Cond.laysFinal "ProofLibrary$Scopes" "ProofLibrary$Scopes" "holds" "[Z") ∈ TB := TB_m (tc_1 (List.mem_of_getElem? (i := 200) rfl)) rfl
theorem tw_202 : (Cond.laysFinal "ProofLibrary$Scopes" "ProofLibrary$Scopes" "hypotheses" "[I") ∈ TB := TB_m (tc_1 (List.mem_of_getElem? (i := 202) rfl)) rfl
theorem tw_204 : (Cond.lays "ProofLibrary$Scopes" "ProofLibrary$Scopes" "hypothesisCount" "I") ∈ TB := TB_m (tc_1 (List.mem_of_getElem? (i := 204) rfl)) rfl
theorem tw_206 : (Cond.laysFinal "ProofLibrary$Scopes" "ProofLibrary$Scopes" "pairX" "[I") ∈ TB := TB_m (tc_1 (List.mem_of_getElem? (i := 206) rfl)) rfl
theorem tw_208 : (Cond.laysFinal "ProofLibrary$Scopes" "ProofLibrary$Scopes" "pairY" "[I") ∈ TB := TB_m (tc_1 (List.mem_of_getElem? (i := 208) rfl)) rfl
theorem tw_210 : (Cond.lays "ProofLibrary$Scopes" "ProofLibrary$Scopes" "pairCount" "I") ∈ TB := TB_m (tc_1 (List.mem_of_getElem? (i := 210) rfl)) rfl
theorem tw_212 : (Cond.laysFinal "ProofLibrary$Scopes" "ProofLibrary$Scopes" "apartBits" "[J") ∈ TB := TB_m (tc_1 (List.mem_of_getElem? (i := 212) rfl)) rfl
theorem tw_214 : (Cond.laysFinal "ProofLibrary$Scopes" "ProofLibrary$Scopes" "marks" "[I") ∈ TB := TB_m (tc_1 (List.mem_of_getElem? (i := 214) rfl)) rfl
theorem tw_216 : (Cond.lays "ProofLibrary$Scopes" "ProofLibrary$Scopes" "depth" "I") ∈ TB := TB_m (tc_1 (List.mem_of_getElem? (i := 216) rfl)) rfl
theorem tw_218 : (Cond.laysFinal "ProofLibrary$Scopes" "ProofLibrary$Scopes" "met" "[I") ∈ TB := TB_m (tc_1 (List.mem_of_getElem? (i := 218) rfl)) rfl
theorem tw_220 : (Cond.lays "ProofLibrary$Scopes" "ProofLibrary$Scopes" "turn" "I") ∈ TB := TB_m (tc_1 (List.mem_of_getElem? (i := 220) rfl)) rfl
theorem tw_223 : (Cond.arrayClass .long) ∈ TB := TB_m (tc_1 (List.mem_of_getElem? (i := 223) rfl)) rfl
theorem tw_224 : (Cond.classLink "ProofLibrary" 38 "ProofLibrary$Assertions") ∈ TB := TB_m (tc_1 (List.mem_of_getElem? (i := 224) rfl)) rfl
theorem tw_225 : (Cond.instantiable "ProofLibrary$Assertions" 20) ∈ TB := TB_m (tc_1 (List.mem_of_getElem? (i := 225) rfl)) rfl
theorem tw_226 : (Cond.methodLink "ProofLibrary" 40 ⟨"ProofLibrary$Assertions", "<init>", "(LProofLibrary$Library;LProofLibrary$Scopes;)V"⟩) ∈ TB := TB_m (tc_1 (List.mem_of_getElem? (i := 226) rfl)) rfl
theorem tw_227 : (Cond.instanceMethod ⟨"ProofLibrary$Assertions", "<init>", "(LProofLibrary$Library;LProofLibrary$Scopes;)V"⟩) ∈ TB := TB_m (tc_1 (List.mem_of_getElem? (i := 227) rfl)) rfl
theorem tw_228 : (Cond.code ⟨"ProofLibrary$Assertions", "<init>", "(LProofLibrary$Library;LProofLibrary$Scopes;)V"⟩ prog_2_method_1_code 3 none) ∈ TB := TB_m (tc_1 (List.mem_of_getElem? (i := 228) rfl)) rfl
theorem tw_229 : (Cond.methodLink "ProofLibrary$Assertions" 3 ⟨"java/lang/Object", "<init>", "()V"⟩) ∈ TB := TB_m (tc_1 (List.mem_of_getElem? (i := 229) rfl)) rfl
theorem tw_230 : (Cond.constant "ProofLibrary$Assertions" 18 90000) ∈ TB := TB_m (tc_1 (List.mem_of_getElem? (i := 230) rfl)) rfl
theorem tw_231 : (Cond.constant "ProofLibrary$Assertions" 50 36000) ∈ TB := TB_m (tc_1 (List.mem_of_getElem? (i := 231) rfl)) rfl
theorem tw_232 : (Cond.fieldLink "ProofLibrary$Assertions" 57 "ProofLibrary$Assertions" "library" "LProofLibrary$Library;") ∈ TB := TB_m (tc_1 (List.mem_of_getElem? (i := 232) rfl)) rfl
theorem tw_233 : (Cond.fieldLink "ProofLibrary$Assertions" 61 "ProofLibrary$Assertions" "scopes" "LProofLibrary$Scopes;") ∈ TB := TB_m (tc_1 (List.mem_of_getElem? (i := 233) rfl)) rfl
theorem tw_234 : (Cond.fieldLink "ProofLibrary$Assertions" 9 "ProofLibrary$Assertions" "frameAt" "[I") ∈ TB := TB_m (tc_1 (List.mem_of_getElem? (i := 234) rfl)) rfl
theorem tn_235 : (Cond.fieldLinkNest "ProofLibrary$Tree" 80 "ProofLibrary$Assertions" "frameAt" "[I" "ProofLibrary") ∈ NB := NB_m (tc_1 (List.mem_of_getElem? (i := 235) rfl)) rfl
theorem tn_236 : (Cond.fieldLinkNest "ProofLibrary$Pile" 70 "ProofLibrary$Assertions" "frameAt" "[I" "ProofLibrary") ∈ NB := NB_m (tc_1 (List.mem_of_getElem? (i := 236) rfl)) rfl
theorem tn_237 : (Cond.fieldLinkNest "ProofLibrary$Definitions" 167 "ProofLibrary$Assertions" "frameAt" "[I" "ProofLibrary") ∈ NB := NB_m (tc_1 (List.mem_of_getElem? (i := 237) rfl)) rfl
theorem tn_238 : (Cond.fieldLinkNest "ProofLibrary$Packer" 130 "ProofLibrary$Assertions" "frameAt" "[I" "ProofLibrary") ∈ NB := NB_m (tc_1 (List.mem_of_getElem? (i := 238) rfl)) rfl
theorem tn_239 : (Cond.fieldLinkNest "ProofLibrary" 212 "ProofLibrary$Assertions" "frameAt" "[I" "ProofLibrary") ∈ NB := NB_m (tc_1 (List.mem_of_getElem? (i := 239) rfl)) rfl
theorem tn_240 : (Cond.fieldLinkNest "ProofLibrary$Steps" 144 "ProofLibrary$Assertions" "frameAt" "[I" "ProofLibrary") ∈ NB := NB_m (tc_2 (List.mem_of_getElem? (i := 0) rfl)) rfl
theorem tw_241 : (Cond.fieldLink "ProofLibrary$Assertions" 15 "ProofLibrary$Assertions" "frameSize" "[I") ∈ TB := TB_m (tc_2 (List.mem_of_getElem? (i := 1) rfl)) rfl
theorem tn_242 : (Cond.fieldLinkNest "ProofLibrary$Tree" 85 "ProofLibrary$Assertions" "frameSize" "[I" "ProofLibrary") ∈ NB := NB_m (tc_2 (List.mem_of_getElem? (i := 2) rfl)) rfl
theorem tn_243 : (Cond.fieldLinkNest "ProofLibrary$Pile" 62 "ProofLibrary$Assertions" "frameSize" "[I" "ProofLibrary") ∈ NB := NB_m (tc_2 (List.mem_of_getElem? (i := 3) rfl)) rfl
theorem tn_244 : (Cond.fieldLinkNest "ProofLibrary$Rules" 116 "ProofLibrary$Assertions" "frameSize" "[I" "ProofLibrary") ∈ NB := NB_m (tc_2 (List.mem_of_getElem? (i := 4) rfl)) rfl
theorem tn_245 : (Cond.fieldLinkNest "ProofLibrary$Definitions" 155 "ProofLibrary$Assertions" "frameSize" "[I" "ProofLibrary") ∈ NB := NB_m (tc_2 (List.mem_of_getElem? (i := 5) rfl)) rfl
theorem tn_246 : (Cond.fieldLinkNest "ProofLibrary$Packer" 124 "ProofLibrary$Assertions" "frameSize" "[I" "ProofLibrary") ∈ NB := NB_m (tc_2 (List.mem_of_getElem? (i := 6) rfl)) rfl
theorem tn_247 : (Cond.fieldLinkNest "ProofLibrary" 200 "ProofLibrary$Assertions" "frameSize" "[I" "ProofLibrary") ∈ NB := NB_m (tc_2 (List.mem_of_getElem? (i := 7) rfl)) rfl
theorem tn_248 : (Cond.fieldLinkNest "ProofLibrary$Steps" 138 "ProofLibrary$Assertions" "frameSize" "[I" "ProofLibrary") ∈ NB := NB_m (tc_2 (List.mem_of_getElem? (i := 8) rfl)) rfl
theorem tw_249 : (Cond.fieldLink "ProofLibrary$Assertions" 19 "ProofLibrary$Assertions" "hypotheses" "[I") ∈ TB := TB_m (tc_2 (List.mem_of_getElem? (i := 9) rfl)) rfl
theorem tn_250 : (Cond.fieldLinkNest "ProofLibrary$Tree" 88 "ProofLibrary$Assertions" "hypotheses" "[I" "ProofLibrary") ∈ NB := NB_m (tc_2 (List.mem_of_getElem? (i := 10) rfl)) rfl
theorem tn_251 : (Cond.fieldLinkNest "ProofLibrary$Pile" 67 "ProofLibrary$Assertions" "hypotheses" "[I" "ProofLibrary") ∈ NB := NB_m (tc_2 (List.mem_of_getElem? (i := 11) rfl)) rfl
theorem tn_252 : (Cond.fieldLinkNest "ProofLibrary$Definitions" 164 "ProofLibrary$Assertions" "hypotheses" "[I" "ProofLibrary") ∈ NB := NB_m (tc_2 (List.mem_of_getElem? (i := 12) rfl)) rfl
theorem tn_253 : (Cond.fieldLinkNest "ProofLibrary$Packer" 127 "ProofLibrary$Assertions" "hypotheses" "[I" "ProofLibrary") ∈ NB := NB_m (tc_2 (List.mem_of_getElem? (i := 13) rfl)) rfl
theorem tn_254 : (Cond.fieldLinkNest "ProofLibrary" 209 "ProofLibrary$Assertions" "hypotheses" "[I" "ProofLibrary") ∈ NB := NB_m (tc_2 (List.mem_of_getElem? (i := 14) rfl)) rfl
theorem tn_255 : (Cond.fieldLinkNest "ProofLibrary$Steps" 141 "ProofLibrary$Assertions" "hypotheses" "[I" "ProofLibrary") ∈ NB := NB_m (tc_2 (List.mem_of_getElem? (i := 15) rfl)) rfl
theorem tw_256 : (Cond.fieldLink "ProofLibrary$Assertions" 65 "ProofLibrary$Assertions" "hypothesesUsed" "I") ∈ TB := TB_m (tc_2 (List.mem_of_getElem? (i := 16) rfl)) rfl
theorem tw_257 : (Cond.fieldLink "ProofLibrary$Assertions" 22 "ProofLibrary$Assertions" "pairAt" "[I") ∈ TB := TB_m (tc_2 (List.mem_of_getElem? (i := 17) rfl)) rfl
theorem tn_258 : (Cond.fieldLinkNest "ProofLibrary$Pile" 103 "ProofLibrary$Assertions" "pairAt" "[I" "ProofLibrary") ∈ NB := NB_m (tc_2 (List.mem_of_getElem? (i := 18) rfl)) rfl
theorem tw_259 : (Cond.fieldLink "ProofLibrary$Assertions" 25 "ProofLibrary$Assertions" "pairSize" "[I") ∈ TB := TB_m (tc_2 (List.mem_of_getElem? (i := 19) rfl)) rfl
theorem tn_260 : (Cond.fieldLinkNest "ProofLibrary$Pile" 106 "ProofLibrary$Assertions" "pairSize" "[I" "ProofLibrary") ∈ NB := NB_m (tc_2 (List.mem_of_getElem? (i := 20) rfl)) rfl
theorem tn_261 : (Cond.fieldLinkNest "ProofLibrary" 203 "ProofLibrary$Assertions" "pairSize" "[I" "ProofLibrary") ∈ NB := NB_m (tc_2 (List.mem_of_getElem? (i := 21) rfl)) rfl
theorem tw_262 : (Cond.fieldLink "ProofLibrary$Assertions" 28 "ProofLibrary$Assertions" "pair" "[I") ∈ TB := TB_m (tc_2 (List.mem_of_getElem? (i := 22) rfl)) rfl
theorem tw_263 : (Cond.fieldLink "ProofLibrary$Assertions" 69 "ProofLibrary$Assertions" "pairs" "I") ∈ TB := TB_m (tc_2 (List.mem_of_getElem? (i := 23) rfl)) rfl
theorem tn_264 : (Cond.fieldLinkNest "ProofLibrary" 158 "ProofLibrary$Assertions" "pairs" "I" "ProofLibrary") ∈ NB := NB_m (tc_2 (List.mem_of_getElem? (i := 24) rfl)) rfl
theorem tw_265 : (Cond.fieldLink "ProofLibrary$Assertions" 31 "ProofLibrary$Assertions" "rowAt" "[I") ∈ TB := TB_m (tc_2 (List.mem_of_getElem? (i := 25) rfl)) rfl
theorem tn_266 : (Cond.fieldLinkNest "ProofLibrary$Packer" 57 "ProofLibrary$Assertions" "rowAt" "[I" "ProofLibrary") ∈ NB := NB_m (tc_2 (List.mem_of_getElem? (i := 26) rfl)) rfl
theorem tn_267 : (Cond.fieldLinkNest "ProofLibrary$Pile" 147 "ProofLibrary$Assertions" "rowAt" "[I" "ProofLibrary") ∈ NB := NB_m (tc_2 (List.mem_of_getElem? (i := 27) rfl)) rfl
theorem tn_268 : (Cond.fieldLinkNest "ProofLibrary" 232 "ProofLibrary$Assertions" "rowAt" "[I" "ProofLibrary") ∈ NB := NB_m (tc_2 (List.mem_of_getElem? (i := 28) rfl)) rfl
theorem tw_269 : (Cond.fieldLink "ProofLibrary$Assertions" 34 "ProofLibrary$Assertions" "rowCount" "[I") ∈ TB := TB_m (tc_2 (List.mem_of_getElem? (i := 29) rfl)) rfl
theorem tn_270 : (Cond.fieldLinkNest "ProofLibrary$Packer" 66 "ProofLibrary$Assertions" "rowCount" "[I" "ProofLibrary") ∈ NB := NB_m (tc_2 (List.mem_of_getElem? (i := 30) rfl)) rfl
theorem tn_271 : (Cond.fieldLinkNest "ProofLibrary$Pile" 150 "ProofLibrary$Assertions" "rowCount" "[I" "ProofLibrary") ∈ NB := NB_m (tc_2 (List.mem_of_getElem? (i := 31) rfl)) rfl
theorem tn_272 : (Cond.fieldLinkNest "ProofLibrary" 222 "ProofLibrary$Assertions" "rowCount" "[I" "ProofLibrary") ∈ NB := NB_m (tc_2 (List.mem_of_getElem? (i := 32) rfl)) rfl
theorem tw_273 : (Cond.fieldLink "ProofLibrary$Assertions" 37 "ProofLibrary$Assertions" "rowStatement" "[I") ∈ TB := TB_m (tc_2 (List.mem_of_getElem? (i := 33) rfl)) rfl
theorem tn_274 : (Cond.fieldLinkNest "ProofLibrary$Packer" 94 "ProofLibrary$Assertions" "rowStatement" "[I" "ProofLibrary") ∈ NB := NB_m (tc_2 (List.mem_of_getElem? (i := 34) rfl)) rfl
theorem tn_275 : (Cond.fieldLinkNest "ProofLibrary$Pile" 162 "ProofLibrary$Assertions" "rowStatement" "[I" "ProofLibrary") ∈ NB := NB_m (tc_2 (List.mem_of_getElem? (i := 35) rfl)) rfl
theorem tn_276 : (Cond.fieldLinkNest "ProofLibrary" 229 "ProofLibrary$Assertions" "rowStatement" "[I" "ProofLibrary") ∈ NB := NB_m (tc_2 (List.mem_of_getElem? (i := 36) rfl)) rfl
theorem tn_277 : (Cond.fieldLinkNest "ProofLibrary$Steps" 203 "ProofLibrary$Assertions" "rowStatement" "[I" "ProofLibrary") ∈ NB := NB_m (tc_2 (List.mem_of_getElem? (i := 37) rfl)) rfl
theorem tw_278 : (Cond.fieldLink "ProofLibrary$Assertions" 40 "ProofLibrary$Assertions" "childAt" "[I") ∈ TB := TB_m (tc_2 (List.mem_of_getElem? (i := 38) rfl)) rfl
theorem tn_279 : (Cond.fieldLinkNest "ProofLibrary$Packer" 97 "ProofLibrary$Assertions" "childAt" "[I" "ProofLibrary") ∈ NB := NB_m (tc_2 (List.mem_of_getElem? (i := 39) rfl)) rfl
theorem tn_280 : (Cond.fieldLinkNest "ProofLibrary$Pile" 159 "ProofLibrary$Assertions" "childAt" "[I" "ProofLibrary") ∈ NB := NB_m (tc_2 (List.mem_of_getElem? (i := 40) rfl)) rfl
theorem tn_281 : (Cond.fieldLinkNest "ProofLibrary$Steps" 185 "ProofLibrary$Assertions" "childAt" "[I" "ProofLibrary") ∈ NB := NB_m (tc_2 (List.mem_of_getElem? (i := 41) rfl)) rfl
theorem tn_282 : (Cond.fieldLinkNest "ProofLibrary" 241 "ProofLibrary$Assertions" "childAt" "[I" "ProofLibrary") ∈ NB := NB_m (tc_2 (List.mem_of_getElem? (i := 42) rfl)) rfl
theorem tw_283 : (Cond.fieldLink "ProofLibrary$Assertions" 43 "ProofLibrary$Assertions" "children" "[I") ∈ TB := TB_m (tc_2 (List.mem_of_getElem? (i := 43) rfl)) rfl
theorem tn_284 : (Cond.fieldLinkNest "ProofLibrary$Pile" 73 "ProofLibrary$Assertions" "children" "[I" "ProofLibrary") ∈ NB := NB_m (tc_2 (List.mem_of_getElem? (i := 44) rfl)) rfl
theorem tn_285 : (Cond.fieldLinkNest "ProofLibrary$Packer" 101 "ProofLibrary$Assertions" "children" "[I" "ProofLibrary") ∈ NB := NB_m (tc_2 (List.mem_of_getElem? (i := 45) rfl)) rfl
theorem tn_286 : (Cond.fieldLinkNest "ProofLibrary$Steps" 191 "ProofLibrary$Assertions" "children" "[I" "ProofLibrary") ∈ NB := NB_m (tc_2 (List.mem_of_getElem? (i := 46) rfl)) rfl
theorem tn_287 : (Cond.fieldLinkNest "ProofLibrary" 238 "ProofLibrary$Assertions" "children" "[I" "ProofLibrary") ∈ NB := NB_m (tc_2 (List.mem_of_getElem? (i := 47) rfl)) rfl
theorem tw_288 : (Cond.fieldLink "ProofLibrary$Assertions" 72 "ProofLibrary$Assertions" "rowsUsed" "I") ∈ TB := TB_m (tc_2 (List.mem_of_getElem? (i := 48) rfl)) rfl
theorem tn_289 : (Cond.fieldLinkNest "ProofLibrary$Steps" 182 "ProofLibrary$Assertions" "rowsUsed" "I" "ProofLibrary") ∈ NB := NB_m (tc_2 (List.mem_of_getElem? (i := 49) rfl)) rfl
theorem tw_290 : (Cond.fieldLink "ProofLibrary$Assertions" 75 "ProofLibrary$Assertions" "steps" "I") ∈ TB := TB_m (tc_2 (List.mem_of_getElem? (i := 50) rfl)) rfl
theorem tn_291 : (Cond.fieldLinkNest "ProofLibrary$Steps" 69 "ProofLibrary$Assertions" "steps" "I" "ProofLibrary") ∈ NB := NB_m (tc_2 (List.mem_of_getElem? (i := 51) rfl)) rfl
theorem tn_292 : (Cond.fieldLinkNest "ProofLibrary" 155 "ProofLibrary$Assertions" "steps" "I" "ProofLibrary") ∈ NB := NB_m (tc_2 (List.mem_of_getElem? (i := 52) rfl)) rfl
theorem tw_293 : (Cond.fieldLink "ProofLibrary$Assertions" 46 "ProofLibrary$Assertions" "rowLabels" "[J") ∈ TB := TB_m (tc_2 (List.mem_of_getElem? (i := 53) rfl)) rfl
theorem tw_294 : (Cond.fieldLink "ProofLibrary$Assertions" 51 "ProofLibrary$Assertions" "rests" "[J") ∈ TB := TB_m (tc_2 (List.mem_of_getElem? (i := 54) rfl)) rfl
theorem tw_295 : (Cond.fieldLink "ProofLibrary$Assertions" 54 "ProofLibrary$Assertions" "kept" "[I") ∈ TB := TB_m (tc_2 (List.mem_of_getElem? (i := 55) rfl)) rfl
theorem tw_296 : (Cond.laysFinal "ProofLibrary$Assertions" "ProofLibrary$Assertions" "library" "LProofLibrary$Library;") ∈ TB := TB_m (tc_2 (List.mem_of_getElem? (i := 56) rfl)) rfl
theorem tw_298 : (Cond.laysFinal "ProofLibrary$Assertions" "ProofLibrary$Assertions" "scopes" "LProofLibrary$Scopes;") ∈ TB := TB_m (tc_2 (List.mem_of_getElem? (i := 58) rfl)) rfl
theorem tw_300 : (Cond.laysFinal "ProofLibrary$Assertions" "ProofLibrary$Assertions" "frameAt" "[I") ∈ TB := TB_m (tc_2 (List.mem_of_getElem? (i := 60) rfl)) rfl
theorem tw_302 : (Cond.laysFinal "ProofLibrary$Assertions" "ProofLibrary$Assertions" "frameSize" "[I") ∈ TB := TB_m (tc_2 (List.mem_of_getElem? (i := 62) rfl)) rfl
theorem tw_304 : (Cond.laysFinal "ProofLibrary$Assertions" "ProofLibrary$Assertions" "hypotheses" "[I") ∈ TB := TB_m (tc_2 (List.mem_of_getElem? (i := 64) rfl)) rfl
theorem tw_306 : (Cond.lays "ProofLibrary$Assertions" "ProofLibrary$Assertions" "hypothesesUsed" "I") ∈ TB := TB_m (tc_2 (List.mem_of_getElem? (i := 66) rfl)) rfl
theorem tw_308 : (Cond.laysFinal "ProofLibrary$Assertions" "ProofLibrary$Assertions" "pairAt" "[I") ∈ TB := TB_m (tc_2 (List.mem_of_getElem? (i := 68) rfl)) rfl
theorem tw_310 : (Cond.laysFinal "ProofLibrary$Assertions" "ProofLibrary$Assertions" "pairSize" "[I") ∈ TB := TB_m (tc_2 (List.mem_of_getElem? (i := 70) rfl)) rfl
theorem tw_312 : (Cond.laysFinal "ProofLibrary$Assertions" "ProofLibrary$Assertions" "pair" "[I") ∈ TB := TB_m (tc_2 (List.mem_of_getElem? (i := 72) rfl)) rfl
theorem tw_314 : (Cond.lays "ProofLibrary$Assertions" "ProofLibrary$Assertions" "pairs" "I") ∈ TB := TB_m (tc_2 (List.mem_of_getElem? (i := 74) rfl)) rfl
theorem tw_316 : (Cond.laysFinal "ProofLibrary$Assertions" "ProofLibrary$Assertions" "rowAt" "[I") ∈ TB := TB_m (tc_2 (List.mem_of_getElem? (i := 76) rfl)) rfl
theorem tw_318 : (Cond.laysFinal "ProofLibrary$Assertions" "ProofLibrary$Assertions" "rowCount" "[I") ∈ TB := TB_m (tc_2 (List.mem_of_getElem? (i := 78) rfl)) rfl
theorem tw_320 : (Cond.laysFinal "ProofLibrary$Assertions" "ProofLibrary$Assertions" "rowStatement" "[I") ∈ TB := TB_m (tc_2 (List.mem_of_getElem? (i := 80) rfl)) rfl
theorem tw_322 : (Cond.laysFinal "ProofLibrary$Assertions" "ProofLibrary$Assertions" "childAt" "[I") ∈ TB := TB_m (tc_2 (List.mem_of_getElem? (i := 82) rfl)) rfl
theorem tw_324 : (Cond.laysFinal "ProofLibrary$Assertions" "ProofLibrary$Assertions" "children" "[I") ∈ TB := TB_m (tc_2 (List.mem_of_getElem? (i := 84) rfl)) rfl
theorem tw_326 : (Cond.lays "ProofLibrary$Assertions" "ProofLibrary$Assertions" "rowsUsed" "I") ∈ TB := TB_m (tc_2 (List.mem_of_getElem? (i := 86) rfl)) rfl
theorem tw_328 : (Cond.lays "ProofLibrary$Assertions" "ProofLibrary$Assertions" "steps" "I") ∈ TB := TB_m (tc_2 (List.mem_of_getElem? (i := 88) rfl)) rfl
theorem tw_330 : (Cond.laysFinal "ProofLibrary$Assertions" "ProofLibrary$Assertions" "rowLabels" "[J") ∈ TB := TB_m (tc_2 (List.mem_of_getElem? (i := 90) rfl)) rfl
theorem tw_332 : (Cond.laysFinal "ProofLibrary$Assertions" "ProofLibrary$Assertions" "rests" "[J") ∈ TB := TB_m (tc_2 (List.mem_of_getElem? (i := 92) rfl)) rfl
theorem tw_334 : (Cond.laysFinal "ProofLibrary$Assertions" "ProofLibrary$Assertions" "kept" "[I") ∈ TB := TB_m (tc_2 (List.mem_of_getElem? (i := 94) rfl)) rfl
theorem tw_337 : (Cond.classLink "ProofLibrary" 47 "ProofLibrary$Pile") ∈ TB := TB_m (tc_2 (List.mem_of_getElem? (i := 97) rfl)) rfl
theorem tw_338 : (Cond.instantiable "ProofLibrary$Pile" 17) ∈ TB := TB_m (tc_2 (List.mem_of_getElem? (i := 98) rfl)) rfl
theorem tw_339 : (Cond.methodLink "ProofLibrary" 49 ⟨"ProofLibrary$Pile", "<init>", "(LProofLibrary$Library;LProofLibrary$Assertions;LProofLibrary$Scopes;)V"⟩) ∈ TB := TB_m (tc_2 (List.mem_of_getElem? (i := 99) rfl)) rfl
theorem tw_340 : (Cond.instanceMethod ⟨"ProofLibrary$Pile", "<init>", "(LProofLibrary$Library;LProofLibrary$Assertions;LProofLibrary$Scopes;)V"⟩) ∈ TB := TB_m (tc_2 (List.mem_of_getElem? (i := 100) rfl)) rfl
theorem tw_341 : (Cond.code ⟨"ProofLibrary$Pile", "<init>", "(LProofLibrary$Library;LProofLibrary$Assertions;LProofLibrary$Scopes;)V"⟩ prog_8_method_1_code 4 none) ∈ TB := TB_m (tc_2 (List.mem_of_getElem? (i := 101) rfl)) rfl
theorem tw_342 : (Cond.methodLink "ProofLibrary$Pile" 3 ⟨"java/lang/Object", "<init>", "()V"⟩) ∈ TB := TB_m (tc_2 (List.mem_of_getElem? (i := 102) rfl)) rfl
theorem tw_343 : (Cond.constant "ProofLibrary$Pile" 11 42000) ∈ TB := TB_m (tc_2 (List.mem_of_getElem? (i := 103) rfl)) rfl
theorem tw_344 : (Cond.fieldLink "ProofLibrary$Pile" 43 "ProofLibrary$Pile" "library" "LProofLibrary$Library;") ∈ TB := TB_m (tc_2 (List.mem_of_getElem? (i := 104) rfl)) rfl
theorem tw_345 : (Cond.fieldLink "ProofLibrary$Pile" 47 "ProofLibrary$Pile" "assertions" "LProofLibrary$Assertions;") ∈ TB := TB_m (tc_2 (List.mem_of_getElem? (i := 105) rfl)) rfl
theorem tw_346 : (Cond.fieldLink "ProofLibrary$Pile" 51 "ProofLibrary$Pile" "scopes" "LProofLibrary$Scopes;") ∈ TB := TB_m (tc_2 (List.mem_of_getElem? (i := 106) rfl)) rfl
theorem tw_347 : (Cond.fieldLink "ProofLibrary$Pile" 12 "ProofLibrary$Pile" "data" "[I") ∈ TB := TB_m (tc_2 (List.mem_of_getElem? (i := 107) rfl)) rfl
theorem tn_348 : (Cond.fieldLinkNest "ProofLibrary$Definitions" 198 "ProofLibrary$Pile" "data" "[I" "ProofLibrary") ∈ NB := NB_m (tc_2 (List.mem_of_getElem? (i := 108) rfl)) rfl
theorem tn_349 : (Cond.fieldLinkNest "ProofLibrary" 297 "ProofLibrary$Pile" "data" "[I" "ProofLibrary") ∈ NB := NB_m (tc_2 (List.mem_of_getElem? (i := 109) rfl)) rfl
theorem tw_350 : (Cond.fieldLink "ProofLibrary$Pile" 55 "ProofLibrary$Pile" "low" "I") ∈ TB := TB_m (tc_2 (List.mem_of_getElem? (i := 110) rfl)) rfl
theorem tn_351 : (Cond.fieldLinkNest "ProofLibrary$Definitions" 220 "ProofLibrary$Pile" "low" "I" "ProofLibrary") ∈ NB := NB_m (tc_2 (List.mem_of_getElem? (i := 111) rfl)) rfl
theorem tw_352 : (Cond.fieldLink "ProofLibrary$Pile" 59 "ProofLibrary$Pile" "high" "I") ∈ TB := TB_m (tc_2 (List.mem_of_getElem? (i := 112) rfl)) rfl
theorem tw_353 : (Cond.fieldLink "ProofLibrary$Pile" 16 "ProofLibrary$Pile" "at" "[I") ∈ TB := TB_m (tc_2 (List.mem_of_getElem? (i := 113) rfl)) rfl
theorem tn_354 : (Cond.fieldLinkNest "ProofLibrary$Definitions" 201 "ProofLibrary$Pile" "at" "[I" "ProofLibrary") ∈ NB := NB_m (tc_2 (List.mem_of_getElem? (i := 114) rfl)) rfl
theorem tn_355 : (Cond.fieldLinkNest "ProofLibrary" 300 "ProofLibrary$Pile" "at" "[I" "ProofLibrary") ∈ NB := NB_m (tc_2 (List.mem_of_getElem? (i := 115) rfl)) rfl
theorem tw_356 : (Cond.fieldLink "ProofLibrary$Pile" 19 "ProofLibrary$Pile" "size" "[I") ∈ TB := TB_m (tc_2 (List.mem_of_getElem? (i := 116) rfl)) rfl
theorem tn_357 : (Cond.fieldLinkNest "ProofLibrary$Definitions" 190 "ProofLibrary$Pile" "size" "[I" "ProofLibrary") ∈ NB := NB_m (tc_2 (List.mem_of_getElem? (i := 117) rfl)) rfl
theorem tn_358 : (Cond.fieldLinkNest "ProofLibrary$Steps" 206 "ProofLibrary$Pile" "size" "[I" "ProofLibrary") ∈ NB := NB_m (tc_2 (List.mem_of_getElem? (i := 118) rfl)) rfl
theorem tn_359 : (Cond.fieldLinkNest "ProofLibrary" 301 "ProofLibrary$Pile" "size" "[I" "ProofLibrary") ∈ NB := NB_m (tc_2 (List.mem_of_getElem? (i := 119) rfl)) rfl
theorem tw_360 : (Cond.fieldLink "ProofLibrary$Pile" 22 "ProofLibrary$Pile" "uses" "[I") ∈ TB := TB_m (tc_2 (List.mem_of_getElem? (i := 120) rfl)) rfl
theorem tw_361 : (Cond.fieldLink "ProofLibrary$Pile" 25 "ProofLibrary$Pile" "built" "[I") ∈ TB := TB_m (tc_2 (List.mem_of_getElem? (i := 121) rfl)) rfl
theorem tn_362 : (Cond.fieldLinkNest "ProofLibrary$Definitions" 211 "ProofLibrary$Pile" "built" "[I" "ProofLibrary") ∈ NB := NB_m (tc_2 (List.mem_of_getElem? (i := 122) rfl)) rfl
theorem tw_363 : (Cond.fieldLink "ProofLibrary$Pile" 132 "ProofLibrary$Pile" "builtSize" "I") ∈ TB := TB_m (tc_2 (List.mem_of_getElem? (i := 123) rfl)) rfl
theorem tn_364 : (Cond.fieldLinkNest "ProofLibrary$Definitions" 214 "ProofLibrary$Pile" "builtSize" "I" "ProofLibrary") ∈ NB := NB_m (tc_2 (List.mem_of_getElem? (i := 124) rfl)) rfl
theorem tw_365 : (Cond.fieldLink "ProofLibrary$Pile" 28 "ProofLibrary$Pile" "becomesAt" "[I") ∈ TB := TB_m (tc_2 (List.mem_of_getElem? (i := 125) rfl)) rfl
theorem tw_366 : (Cond.fieldLink "ProofLibrary$Pile" 31 "ProofLibrary$Pile" "becomesSize" "[I") ∈ TB := TB_m (tc_2 (List.mem_of_getElem? (i := 126) rfl)) rfl
theorem tw_367 : (Cond.fieldLink "ProofLibrary$Pile" 34 "ProofLibrary$Pile" "met" "[I") ∈ TB := TB_m (tc_2 (List.mem_of_getElem? (i := 127) rfl)) rfl
theorem tw_368 : (Cond.fieldLink "ProofLibrary$Pile" 122 "ProofLibrary$Pile" "turn" "I") ∈ TB := TB_m (tc_2 (List.mem_of_getElem? (i := 128) rfl)) rfl
theorem tw_369 : (Cond.fieldLink "ProofLibrary$Pile" 37 "ProofLibrary$Pile" "variablesX" "[I") ∈ TB := TB_m (tc_2 (List.mem_of_getElem? (i := 129) rfl)) rfl
theorem tw_370 : (Cond.fieldLink "ProofLibrary$Pile" 40 "ProofLibrary$Pile" "variablesY" "[I") ∈ TB := TB_m (tc_2 (List.mem_of_getElem? (i := 130) rfl)) rfl
theorem tw_371 : (Cond.laysFinal "ProofLibrary$Pile" "ProofLibrary$Pile" "library" "LProofLibrary$Library;") ∈ TB := TB_m (tc_2 (List.mem_of_getElem? (i := 131) rfl)) rfl
theorem tw_373 : (Cond.laysFinal "ProofLibrary$Pile" "ProofLibrary$Pile" "assertions" "LProofLibrary$Assertions;") ∈ TB := TB_m (tc_2 (List.mem_of_getElem? (i := 133) rfl)) rfl
theorem tw_375 : (Cond.laysFinal "ProofLibrary$Pile" "ProofLibrary$Pile" "scopes" "LProofLibrary$Scopes;") ∈ TB := TB_m (tc_2 (List.mem_of_getElem? (i := 135) rfl)) rfl
theorem tw_377 : (Cond.laysFinal "ProofLibrary$Pile" "ProofLibrary$Pile" "data" "[I") ∈ TB := TB_m (tc_2 (List.mem_of_getElem? (i := 137) rfl)) rfl
theorem tw_379 : (Cond.lays "ProofLibrary$Pile" "ProofLibrary$Pile" "low" "I") ∈ TB := TB_m (tc_2 (List.mem_of_getElem? (i := 139) rfl)) rfl
theorem tw_381 : (Cond.lays "ProofLibrary$Pile" "ProofLibrary$Pile" "high" "I") ∈ TB := TB_m (tc_2 (List.mem_of_getElem? (i := 141) rfl)) rfl
theorem tw_383 : (Cond.laysFinal "ProofLibrary$Pile" "ProofLibrary$Pile" "at" "[I") ∈ TB := TB_m (tc_2 (List.mem_of_getElem? (i := 143) rfl)) rfl
theorem tw_385 : (Cond.laysFinal "ProofLibrary$Pile" "ProofLibrary$Pile" "size" "[I") ∈ TB := TB_m (tc_2 (List.mem_of_getElem? (i := 145) rfl)) rfl
theorem tw_387 : (Cond.laysFinal "ProofLibrary$Pile" "ProofLibrary$Pile" "uses" "[I") ∈ TB := TB_m (tc_2 (List.mem_of_getElem? (i := 147) rfl)) rfl
theorem tw_389 : (Cond.laysFinal "ProofLibrary$Pile" "ProofLibrary$Pile" "built" "[I") ∈ TB := TB_m (tc_2 (List.mem_of_getElem? (i := 149) rfl)) rfl
theorem tw_391 : (Cond.lays "ProofLibrary$Pile" "ProofLibrary$Pile" "builtSize" "I") ∈ TB := TB_m (tc_2 (List.mem_of_getElem? (i := 151) rfl)) rfl
theorem tw_393 : (Cond.laysFinal "ProofLibrary$Pile" "ProofLibrary$Pile" "becomesAt" "[I") ∈ TB := TB_m (tc_2 (List.mem_of_getElem? (i := 153) rfl)) rfl
theorem tw_395 : (Cond.laysFinal "ProofLibrary$Pile" "ProofLibrary$Pile" "becomesSize" "[I") ∈ TB := TB_m (tc_2 (List.mem_of_getElem? (i := 155) rfl)) rfl
theorem tw_397 : (Cond.laysFinal "ProofLibrary$Pile" "ProofLibrary$Pile" "met" "[I") ∈ TB := TB_m (tc_2 (List.mem_of_getElem? (i := 157) rfl)) rfl
theorem tw_399 : (Cond.lays "ProofLibrary$Pile" "ProofLibrary$Pile" "turn" "I") ∈ TB := TB_m (tc_2 (List.mem_of_getElem? (i := 159) rfl)) rfl
theorem tw_401 : (Cond.laysFinal "ProofLibrary$Pile" "ProofLibrary$Pile" "variablesX" "[I") ∈ TB := TB_m (tc_2 (List.mem_of_getElem? (i := 161) rfl)) rfl
theorem tw_403 : (Cond.laysFinal "ProofLibrary$Pile" "ProofLibrary$Pile" "variablesY" "[I") ∈ TB := TB_m (tc_2 (List.mem_of_getElem? (i := 163) rfl)) rfl
theorem tw_406 : (Cond.classLink "ProofLibrary" 56 "ProofLibrary$Reader") ∈ TB := TB_m (tc_2 (List.mem_of_getElem? (i := 166) rfl)) rfl
theorem tw_407 : (Cond.instantiable "ProofLibrary$Reader" 13) ∈ TB := TB_m (tc_2 (List.mem_of_getElem? (i := 167) rfl)) rfl
theorem tw_408 : (Cond.classLink "ProofLibrary" 58 "ProofLibrary$Steps") ∈ TB := TB_m (tc_2 (List.mem_of_getElem? (i := 168) rfl)) rfl
theorem tw_409 : (Cond.instantiable "ProofLibrary$Steps" 21) ∈ TB := TB_m (tc_2 (List.mem_of_getElem? (i := 169) rfl)) rfl
theorem tw_410 : (Cond.methodLink "ProofLibrary" 60 ⟨"ProofLibrary$Steps", "<init>", "(LProofLibrary$Library;LProofLibrary$Assertions;LProofLibrary$Scopes;LProofLibrary$Pile;)V"⟩) ∈ TB := TB_m (tc_2 (List.mem_of_getElem? (i := 170) rfl)) rfl
theorem tw_411 : (Cond.instanceMethod ⟨"ProofLibrary$Steps", "<init>", "(LProofLibrary$Library;LProofLibrary$Assertions;LProofLibrary$Scopes;LProofLibrary$Pile;)V"⟩) ∈ TB := TB_m (tc_2 (List.mem_of_getElem? (i := 171) rfl)) rfl
theorem tw_412 : (Cond.code ⟨"ProofLibrary$Steps", "<init>", "(LProofLibrary$Library;LProofLibrary$Assertions;LProofLibrary$Scopes;LProofLibrary$Pile;)V"⟩ prog_12_method_1_code 5 none) ∈ TB := TB_m (tc_2 (List.mem_of_getElem? (i := 172) rfl)) rfl
theorem tw_413 : (Cond.methodLink "ProofLibrary$Steps" 3 ⟨"java/lang/Object", "<init>", "()V"⟩) ∈ TB := TB_m (tc_2 (List.mem_of_getElem? (i := 173) rfl)) rfl
theorem tw_414 : (Cond.fieldLink "ProofLibrary$Steps" 27 "ProofLibrary$Steps" "library" "LProofLibrary$Library;") ∈ TB := TB_m (tc_2 (List.mem_of_getElem? (i := 174) rfl)) rfl
theorem tw_415 : (Cond.fieldLink "ProofLibrary$Steps" 31 "ProofLibrary$Steps" "assertions" "LProofLibrary$Assertions;") ∈ TB := TB_m (tc_2 (List.mem_of_getElem? (i := 175) rfl)) rfl
theorem tw_416 : (Cond.fieldLink "ProofLibrary$Steps" 35 "ProofLibrary$Steps" "scopes" "LProofLibrary$Scopes;") ∈ TB := TB_m (tc_2 (List.mem_of_getElem? (i := 176) rfl)) rfl
theorem tw_417 : (Cond.fieldLink "ProofLibrary$Steps" 39 "ProofLibrary$Steps" "pile" "LProofLibrary$Pile;") ∈ TB := TB_m (tc_2 (List.mem_of_getElem? (i := 177) rfl)) rfl
theorem tw_418 : (Cond.fieldLink "ProofLibrary$Steps" 9 "ProofLibrary$Steps" "steps" "[I") ∈ TB := TB_m (tc_2 (List.mem_of_getElem? (i := 178) rfl)) rfl
theorem tw_419 : (Cond.fieldLink "ProofLibrary$Steps" 15 "ProofLibrary$Steps" "places" "[I") ∈ TB := TB_m (tc_2 (List.mem_of_getElem? (i := 179) rfl)) rfl
theorem tw_420 : (Cond.fieldLink "ProofLibrary$Steps" 50 "ProofLibrary$Steps" "count" "I") ∈ TB := TB_m (tc_2 (List.mem_of_getElem? (i := 180) rfl)) rfl
theorem tw_421 : (Cond.fieldLink "ProofLibrary$Steps" 18 "ProofLibrary$Steps" "listed" "[I") ∈ TB := TB_m (tc_2 (List.mem_of_getElem? (i := 181) rfl)) rfl
theorem tw_422 : (Cond.fieldLink "ProofLibrary$Steps" 53 "ProofLibrary$Steps" "listedCount" "I") ∈ TB := TB_m (tc_2 (List.mem_of_getElem? (i := 182) rfl)) rfl
theorem tw_423 : (Cond.fieldLink "ProofLibrary$Steps" 56 "ProofLibrary$Steps" "savedCount" "I") ∈ TB := TB_m (tc_2 (List.mem_of_getElem? (i := 183) rfl)) rfl
theorem tw_424 : (Cond.fieldLink "ProofLibrary$Steps" 43 "ProofLibrary$Steps" "theorem" "I") ∈ TB := TB_m (tc_2 (List.mem_of_getElem? (i := 184) rfl)) rfl
theorem tw_425 : (Cond.fieldLink "ProofLibrary$Steps" 47 "ProofLibrary$Steps" "form" "I") ∈ TB := TB_m (tc_2 (List.mem_of_getElem? (i := 185) rfl)) rfl
theorem tw_426 : (Cond.fieldLink "ProofLibrary$Steps" 59 "ProofLibrary$Steps" "number" "I") ∈ TB := TB_m (tc_2 (List.mem_of_getElem? (i := 186) rfl)) rfl
theorem tw_427 : (Cond.fieldLink "ProofLibrary$Steps" 62 "ProofLibrary$Steps" "afterAssertion" "Z") ∈ TB := TB_m (tc_2 (List.mem_of_getElem? (i := 187) rfl)) rfl
theorem tw_428 : (Cond.fieldLink "ProofLibrary$Steps" 66 "ProofLibrary$Steps" "open" "Z") ∈ TB := TB_m (tc_2 (List.mem_of_getElem? (i := 188) rfl)) rfl
theorem tn_429 : (Cond.fieldLinkNest "ProofLibrary$Reader" 184 "ProofLibrary$Steps" "open" "Z" "ProofLibrary") ∈ NB := NB_m (tc_2 (List.mem_of_getElem? (i := 189) rfl)) rfl
theorem tn_430 : (Cond.fieldLinkNest "ProofLibrary$Reader" 124 "ProofLibrary$Steps" "place" "I" "ProofLibrary") ∈ NB := NB_m (tc_2 (List.mem_of_getElem? (i := 190) rfl)) rfl
theorem tw_431 : (Cond.fieldLink "ProofLibrary$Steps" 73 "ProofLibrary$Steps" "place" "I") ∈ TB := TB_m (tc_2 (List.mem_of_getElem? (i := 191) rfl)) rfl
theorem tw_432 : (Cond.fieldLink "ProofLibrary$Steps" 21 "ProofLibrary$Steps" "pileRow" "[I") ∈ TB := TB_m (tc_2 (List.mem_of_getElem? (i := 192) rfl)) rfl
theorem tw_433 : (Cond.fieldLink "ProofLibrary$Steps" 161 "ProofLibrary$Steps" "pileRows" "I") ∈ TB := TB_m (tc_2 (List.mem_of_getElem? (i := 193) rfl)) rfl
theorem tw_434 : (Cond.fieldLink "ProofLibrary$Steps" 24 "ProofLibrary$Steps" "savedRow" "[I") ∈ TB := TB_m (tc_2 (List.mem_of_getElem? (i := 194) rfl)) rfl
theorem tw_435 : (Cond.fieldLink "ProofLibrary$Steps" 164 "ProofLibrary$Steps" "symbols" "I") ∈ TB := TB_m (tc_2 (List.mem_of_getElem? (i := 195) rfl)) rfl
theorem tw_436 : (Cond.fieldLink "ProofLibrary$Steps" 167 "ProofLibrary$Steps" "rows" "I") ∈ TB := TB_m (tc_2 (List.mem_of_getElem? (i := 196) rfl)) rfl
theorem tw_437 : (Cond.laysFinal "ProofLibrary$Steps" "ProofLibrary$Steps" "library" "LProofLibrary$Library;") ∈ TB := TB_m (tc_2 (List.mem_of_getElem? (i := 197) rfl)) rfl
theorem tw_439 : (Cond.laysFinal "ProofLibrary$Steps" "ProofLibrary$Steps" "assertions" "LProofLibrary$Assertions;") ∈ TB := TB_m (tc_2 (List.mem_of_getElem? (i := 199) rfl)) rfl
theorem tw_441 : (Cond.laysFinal "ProofLibrary$Steps" "ProofLibrary$Steps" "scopes" "LProofLibrary$Scopes;") ∈ TB := TB_m (tc_2 (List.mem_of_getElem? (i := 201) rfl)) rfl
theorem tw_443 : (Cond.laysFinal "ProofLibrary$Steps" "ProofLibrary$Steps" "pile" "LProofLibrary$Pile;") ∈ TB := TB_m (tc_2 (List.mem_of_getElem? (i := 203) rfl)) rfl
theorem tw_445 : (Cond.laysFinal "ProofLibrary$Steps" "ProofLibrary$Steps" "steps" "[I") ∈ TB := TB_m (tc_2 (List.mem_of_getElem? (i := 205) rfl)) rfl
theorem tw_447 : (Cond.laysFinal "ProofLibrary$Steps" "ProofLibrary$Steps" "places" "[I") ∈ TB := TB_m (tc_2 (List.mem_of_getElem? (i := 207) rfl)) rfl
theorem tw_449 : (Cond.lays "ProofLibrary$Steps" "ProofLibrary$Steps" "count" "I") ∈ TB := TB_m (tc_2 (List.mem_of_getElem? (i := 209) rfl)) rfl
theorem tw_451 : (Cond.laysFinal "ProofLibrary$Steps" "ProofLibrary$Steps" "listed" "[I") ∈ TB := TB_m (tc_2 (List.mem_of_getElem? (i := 211) rfl)) rfl
theorem tw_453 : (Cond.lays "ProofLibrary$Steps" "ProofLibrary$Steps" "listedCount" "I") ∈ TB := TB_m (tc_2 (List.mem_of_getElem? (i := 213) rfl)) rfl
theorem tw_455 : (Cond.lays "ProofLibrary$Steps" "ProofLibrary$Steps" "savedCount" "I") ∈ TB := TB_m (tc_2 (List.mem_of_getElem? (i := 215) rfl)) rfl
theorem tw_457 : (Cond.lays "ProofLibrary$Steps" "ProofLibrary$Steps" "theorem" "I") ∈ TB := TB_m (tc_2 (List.mem_of_getElem? (i := 217) rfl)) rfl
theorem tw_459 : (Cond.lays "ProofLibrary$Steps" "ProofLibrary$Steps" "form" "I") ∈ TB := TB_m (tc_2 (List.mem_of_getElem? (i := 219) rfl)) rfl
theorem tw_461 : (Cond.lays "ProofLibrary$Steps" "ProofLibrary$Steps" "number" "I") ∈ TB := TB_m (tc_2 (List.mem_of_getElem? (i := 221) rfl)) rfl
theorem tw_463 : (Cond.lays "ProofLibrary$Steps" "ProofLibrary$Steps" "afterAssertion" "Z") ∈ TB := TB_m (tc_2 (List.mem_of_getElem? (i := 223) rfl)) rfl
theorem tw_465 : (Cond.lays "ProofLibrary$Steps" "ProofLibrary$Steps" "open" "Z") ∈ TB := TB_m (tc_2 (List.mem_of_getElem? (i := 225) rfl)) rfl
theorem tw_467 : (Cond.lays "ProofLibrary$Steps" "ProofLibrary$Steps" "place" "I") ∈ TB := TB_m (tc_2 (List.mem_of_getElem? (i := 227) rfl)) rfl
theorem tw_469 : (Cond.laysFinal "ProofLibrary$Steps" "ProofLibrary$Steps" "pileRow" "[I") ∈ TB := TB_m (tc_2 (List.mem_of_getElem? (i := 229) rfl)) rfl
theorem tw_471 : (Cond.lays "ProofLibrary$Steps" "ProofLibrary$Steps" "pileRows" "I") ∈ TB := TB_m (tc_2 (List.mem_of_getElem? (i := 231) rfl)) rfl
theorem tw_473 : (Cond.laysFinal "ProofLibrary$Steps" "ProofLibrary$Steps" "savedRow" "[I") ∈ TB := TB_m (tc_2 (List.mem_of_getElem? (i := 233) rfl)) rfl
theorem tw_475 : (Cond.lays "ProofLibrary$Steps" "ProofLibrary$Steps" "symbols" "I") ∈ TB := TB_m (tc_2 (List.mem_of_getElem? (i := 235) rfl)) rfl
theorem tw_477 : (Cond.lays "ProofLibrary$Steps" "ProofLibrary$Steps" "rows" "I") ∈ TB := TB_m (tc_2 (List.mem_of_getElem? (i := 237) rfl)) rfl
theorem tw_480 : (Cond.methodLink "ProofLibrary" 63 ⟨"ProofLibrary$Reader", "<init>", "(LProofLibrary$Library;LProofLibrary$Assertions;LProofLibrary$Scopes;LProofLibrary$Steps;)V"⟩) ∈ TB := TB_m (tc_3 (List.mem_of_getElem? (i := 0) rfl)) rfl
theorem tw_481 : (Cond.instanceMethod ⟨"ProofLibrary$Reader", "<init>", "(LProofLibrary$Library;LProofLibrary$Assertions;LProofLibrary$Scopes;LProofLibrary$Steps;)V"⟩) ∈ TB := TB_m (tc_3 (List.mem_of_getElem? (i := 1) rfl)) rfl
theorem tw_482 : (Cond.code ⟨"ProofLibrary$Reader", "<init>", "(LProofLibrary$Library;LProofLibrary$Assertions;LProofLibrary$Scopes;LProofLibrary$Steps;)V"⟩ prog_9_method_1_code 5 none) ∈ TB := TB_m (tc_3 (List.mem_of_getElem? (i := 2) rfl)) rfl
theorem tw_483 : (Cond.methodLink "ProofLibrary$Reader" 3 ⟨"java/lang/Object", "<init>", "()V"⟩) ∈ TB := TB_m (tc_3 (List.mem_of_getElem? (i := 3) rfl)) rfl
theorem tw_484 : (Cond.fieldLink "ProofLibrary$Reader" 15 "ProofLibrary$Reader" "library" "LProofLibrary$Library;") ∈ TB := TB_m (tc_3 (List.mem_of_getElem? (i := 4) rfl)) rfl
theorem tw_485 : (Cond.fieldLink "ProofLibrary$Reader" 19 "ProofLibrary$Reader" "assertions" "LProofLibrary$Assertions;") ∈ TB := TB_m (tc_3 (List.mem_of_getElem? (i := 5) rfl)) rfl
theorem tw_486 : (Cond.fieldLink "ProofLibrary$Reader" 23 "ProofLibrary$Reader" "scopes" "LProofLibrary$Scopes;") ∈ TB := TB_m (tc_3 (List.mem_of_getElem? (i := 6) rfl)) rfl
theorem tw_487 : (Cond.fieldLink "ProofLibrary$Reader" 27 "ProofLibrary$Reader" "steps" "LProofLibrary$Steps;") ∈ TB := TB_m (tc_3 (List.mem_of_getElem? (i := 7) rfl)) rfl
theorem tw_488 : (Cond.fieldLink "ProofLibrary$Reader" 9 "ProofLibrary$Reader" "disjoint" "[I") ∈ TB := TB_m (tc_3 (List.mem_of_getElem? (i := 8) rfl)) rfl
theorem tw_489 : (Cond.fieldLink "ProofLibrary$Reader" 71 "ProofLibrary$Reader" "source" "[C") ∈ TB := TB_m (tc_3 (List.mem_of_getElem? (i := 9) rfl)) rfl
theorem tw_490 : (Cond.fieldLink "ProofLibrary$Reader" 42 "ProofLibrary$Reader" "place" "I") ∈ TB := TB_m (tc_3 (List.mem_of_getElem? (i := 10) rfl)) rfl
theorem tn_491 : (Cond.fieldLinkNest "ProofLibrary" 135 "ProofLibrary$Reader" "place" "I" "ProofLibrary") ∈ NB := NB_m (tc_3 (List.mem_of_getElem? (i := 11) rfl)) rfl
theorem tw_492 : (Cond.fieldLink "ProofLibrary$Reader" 75 "ProofLibrary$Reader" "comment" "Z") ∈ TB := TB_m (tc_3 (List.mem_of_getElem? (i := 12) rfl)) rfl
theorem tw_493 : (Cond.fieldLink "ProofLibrary$Reader" 50 "ProofLibrary$Reader" "state" "I") ∈ TB := TB_m (tc_3 (List.mem_of_getElem? (i := 13) rfl)) rfl
theorem tw_494 : (Cond.fieldLink "ProofLibrary$Reader" 140 "ProofLibrary$Reader" "items" "I") ∈ TB := TB_m (tc_3 (List.mem_of_getElem? (i := 14) rfl)) rfl
theorem tw_495 : (Cond.fieldLink "ProofLibrary$Reader" 143 "ProofLibrary$Reader" "kind" "I") ∈ TB := TB_m (tc_3 (List.mem_of_getElem? (i := 15) rfl)) rfl
theorem tw_496 : (Cond.fieldLink "ProofLibrary$Reader" 107 "ProofLibrary$Reader" "namedSymbol" "I") ∈ TB := TB_m (tc_3 (List.mem_of_getElem? (i := 16) rfl)) rfl
theorem tw_497 : (Cond.fieldLink "ProofLibrary$Reader" 113 "ProofLibrary$Reader" "namedStatement" "I") ∈ TB := TB_m (tc_3 (List.mem_of_getElem? (i := 17) rfl)) rfl
theorem tw_498 : (Cond.laysFinal "ProofLibrary$Reader" "ProofLibrary$Reader" "library" "LProofLibrary$Library;") ∈ TB := TB_m (tc_3 (List.mem_of_getElem? (i := 18) rfl)) rfl
theorem tw_500 : (Cond.laysFinal "ProofLibrary$Reader" "ProofLibrary$Reader" "assertions" "LProofLibrary$Assertions;") ∈ TB := TB_m (tc_3 (List.mem_of_getElem? (i := 20) rfl)) rfl
theorem tw_502 : (Cond.laysFinal "ProofLibrary$Reader" "ProofLibrary$Reader" "scopes" "LProofLibrary$Scopes;") ∈ TB := TB_m (tc_3 (List.mem_of_getElem? (i := 22) rfl)) rfl
theorem tw_504 : (Cond.laysFinal "ProofLibrary$Reader" "ProofLibrary$Reader" "steps" "LProofLibrary$Steps;") ∈ TB := TB_m (tc_3 (List.mem_of_getElem? (i := 24) rfl)) rfl
theorem tw_506 : (Cond.laysFinal "ProofLibrary$Reader" "ProofLibrary$Reader" "disjoint" "[I") ∈ TB := TB_m (tc_3 (List.mem_of_getElem? (i := 26) rfl)) rfl
theorem tw_508 : (Cond.lays "ProofLibrary$Reader" "ProofLibrary$Reader" "source" "[C") ∈ TB := TB_m (tc_3 (List.mem_of_getElem? (i := 28) rfl)) rfl
theorem tw_510 : (Cond.lays "ProofLibrary$Reader" "ProofLibrary$Reader" "place" "I") ∈ TB := TB_m (tc_3 (List.mem_of_getElem? (i := 30) rfl)) rfl
theorem tw_512 : (Cond.lays "ProofLibrary$Reader" "ProofLibrary$Reader" "comment" "Z") ∈ TB := TB_m (tc_3 (List.mem_of_getElem? (i := 32) rfl)) rfl
theorem tw_514 : (Cond.lays "ProofLibrary$Reader" "ProofLibrary$Reader" "state" "I") ∈ TB := TB_m (tc_3 (List.mem_of_getElem? (i := 34) rfl)) rfl
theorem tw_516 : (Cond.lays "ProofLibrary$Reader" "ProofLibrary$Reader" "items" "I") ∈ TB := TB_m (tc_3 (List.mem_of_getElem? (i := 36) rfl)) rfl
theorem tw_518 : (Cond.lays "ProofLibrary$Reader" "ProofLibrary$Reader" "kind" "I") ∈ TB := TB_m (tc_3 (List.mem_of_getElem? (i := 38) rfl)) rfl
theorem tw_520 : (Cond.lays "ProofLibrary$Reader" "ProofLibrary$Reader" "namedSymbol" "I") ∈ TB := TB_m (tc_3 (List.mem_of_getElem? (i := 40) rfl)) rfl
theorem tw_522 : (Cond.lays "ProofLibrary$Reader" "ProofLibrary$Reader" "namedStatement" "I") ∈ TB := TB_m (tc_3 (List.mem_of_getElem? (i := 42) rfl)) rfl
theorem tw_525 : (Cond.classLink "ProofLibrary" 70 "ProofLibrary$Packer") ∈ TB := TB_m (tc_3 (List.mem_of_getElem? (i := 45) rfl)) rfl
theorem tw_526 : (Cond.instantiable "ProofLibrary$Packer" 19) ∈ TB := TB_m (tc_3 (List.mem_of_getElem? (i := 46) rfl)) rfl
theorem tw_527 : (Cond.methodLink "ProofLibrary" 72 ⟨"ProofLibrary$Packer", "<init>", "(LProofLibrary$Library;LProofLibrary$Assertions;)V"⟩) ∈ TB := TB_m (tc_3 (List.mem_of_getElem? (i := 47) rfl)) rfl
theorem tw_528 : (Cond.instanceMethod ⟨"ProofLibrary$Packer", "<init>", "(LProofLibrary$Library;LProofLibrary$Assertions;)V"⟩) ∈ TB := TB_m (tc_3 (List.mem_of_getElem? (i := 48) rfl)) rfl
theorem tw_529 : (Cond.code ⟨"ProofLibrary$Packer", "<init>", "(LProofLibrary$Library;LProofLibrary$Assertions;)V"⟩ prog_6_method_1_code 3 none) ∈ TB := TB_m (tc_3 (List.mem_of_getElem? (i := 49) rfl)) rfl
theorem tw_530 : (Cond.methodLink "ProofLibrary$Packer" 3 ⟨"java/lang/Object", "<init>", "()V"⟩) ∈ TB := TB_m (tc_3 (List.mem_of_getElem? (i := 50) rfl)) rfl
theorem tw_531 : (Cond.constant "ProofLibrary$Packer" 15 32768) ∈ TB := TB_m (tc_3 (List.mem_of_getElem? (i := 51) rfl)) rfl
theorem tw_532 : (Cond.fieldLink "ProofLibrary$Packer" 49 "ProofLibrary$Packer" "library" "LProofLibrary$Library;") ∈ TB := TB_m (tc_3 (List.mem_of_getElem? (i := 52) rfl)) rfl
theorem tw_533 : (Cond.fieldLink "ProofLibrary$Packer" 53 "ProofLibrary$Packer" "assertions" "LProofLibrary$Assertions;") ∈ TB := TB_m (tc_3 (List.mem_of_getElem? (i := 53) rfl)) rfl
theorem tw_534 : (Cond.fieldLink "ProofLibrary$Packer" 9 "ProofLibrary$Packer" "sameAs" "[I") ∈ TB := TB_m (tc_3 (List.mem_of_getElem? (i := 54) rfl)) rfl
theorem tw_535 : (Cond.fieldLink "ProofLibrary$Packer" 16 "ProofLibrary$Packer" "heads" "[I") ∈ TB := TB_m (tc_3 (List.mem_of_getElem? (i := 55) rfl)) rfl
theorem tw_536 : (Cond.fieldLink "ProofLibrary$Packer" 19 "ProofLibrary$Packer" "nextRow" "[I") ∈ TB := TB_m (tc_3 (List.mem_of_getElem? (i := 56) rfl)) rfl
theorem tw_537 : (Cond.fieldLink "ProofLibrary$Packer" 22 "ProofLibrary$Packer" "tellings" "[I") ∈ TB := TB_m (tc_3 (List.mem_of_getElem? (i := 57) rfl)) rfl
theorem tw_538 : (Cond.fieldLink "ProofLibrary$Packer" 25 "ProofLibrary$Packer" "numbers" "[I") ∈ TB := TB_m (tc_3 (List.mem_of_getElem? (i := 58) rfl)) rfl
theorem tw_539 : (Cond.fieldLink "ProofLibrary$Packer" 28 "ProofLibrary$Packer" "labelNumbers" "[I") ∈ TB := TB_m (tc_3 (List.mem_of_getElem? (i := 59) rfl)) rfl
theorem tw_540 : (Cond.fieldLink "ProofLibrary$Packer" 31 "ProofLibrary$Packer" "listed" "[I") ∈ TB := TB_m (tc_3 (List.mem_of_getElem? (i := 60) rfl)) rfl
theorem tn_541 : (Cond.fieldLinkNest "ProofLibrary" 317 "ProofLibrary$Packer" "listed" "[I" "ProofLibrary") ∈ NB := NB_m (tc_3 (List.mem_of_getElem? (i := 61) rfl)) rfl
theorem tw_542 : (Cond.fieldLink "ProofLibrary$Packer" 133 "ProofLibrary$Packer" "listedCount" "I") ∈ TB := TB_m (tc_3 (List.mem_of_getElem? (i := 62) rfl)) rfl
theorem tn_543 : (Cond.fieldLinkNest "ProofLibrary" 314 "ProofLibrary$Packer" "listedCount" "I" "ProofLibrary") ∈ NB := NB_m (tc_3 (List.mem_of_getElem? (i := 63) rfl)) rfl
theorem tw_544 : (Cond.fieldLink "ProofLibrary$Packer" 34 "ProofLibrary$Packer" "told" "[I") ∈ TB := TB_m (tc_3 (List.mem_of_getElem? (i := 64) rfl)) rfl
theorem tw_545 : (Cond.fieldLink "ProofLibrary$Packer" 108 "ProofLibrary$Packer" "toldCount" "I") ∈ TB := TB_m (tc_3 (List.mem_of_getElem? (i := 65) rfl)) rfl
theorem tn_546 : (Cond.fieldLinkNest "ProofLibrary" 323 "ProofLibrary$Packer" "toldCount" "I" "ProofLibrary") ∈ NB := NB_m (tc_3 (List.mem_of_getElem? (i := 66) rfl)) rfl
theorem tw_547 : (Cond.fieldLink "ProofLibrary$Packer" 37 "ProofLibrary$Packer" "stackRow" "[I") ∈ TB := TB_m (tc_3 (List.mem_of_getElem? (i := 67) rfl)) rfl
theorem tw_548 : (Cond.fieldLink "ProofLibrary$Packer" 40 "ProofLibrary$Packer" "stackNext" "[I") ∈ TB := TB_m (tc_3 (List.mem_of_getElem? (i := 68) rfl)) rfl
theorem tw_549 : (Cond.fieldLink "ProofLibrary$Packer" 111 "ProofLibrary$Packer" "depth" "I") ∈ TB := TB_m (tc_3 (List.mem_of_getElem? (i := 69) rfl)) rfl
theorem tw_550 : (Cond.fieldLink "ProofLibrary$Packer" 43 "ProofLibrary$Packer" "full" "[I") ∈ TB := TB_m (tc_3 (List.mem_of_getElem? (i := 70) rfl)) rfl
theorem tw_551 : (Cond.fieldLink "ProofLibrary$Packer" 152 "ProofLibrary$Packer" "fullCount" "I") ∈ TB := TB_m (tc_3 (List.mem_of_getElem? (i := 71) rfl)) rfl
theorem tw_552 : (Cond.fieldLink "ProofLibrary$Packer" 46 "ProofLibrary$Packer" "starts" "[I") ∈ TB := TB_m (tc_3 (List.mem_of_getElem? (i := 72) rfl)) rfl
theorem tw_553 : (Cond.fieldLink "ProofLibrary$Packer" 62 "ProofLibrary$Packer" "base" "I") ∈ TB := TB_m (tc_3 (List.mem_of_getElem? (i := 73) rfl)) rfl
theorem tw_554 : (Cond.laysFinal "ProofLibrary$Packer" "ProofLibrary$Packer" "library" "LProofLibrary$Library;") ∈ TB := TB_m (tc_3 (List.mem_of_getElem? (i := 74) rfl)) rfl
theorem tw_556 : (Cond.laysFinal "ProofLibrary$Packer" "ProofLibrary$Packer" "assertions" "LProofLibrary$Assertions;") ∈ TB := TB_m (tc_3 (List.mem_of_getElem? (i := 76) rfl)) rfl
theorem tw_558 : (Cond.laysFinal "ProofLibrary$Packer" "ProofLibrary$Packer" "sameAs" "[I") ∈ TB := TB_m (tc_3 (List.mem_of_getElem? (i := 78) rfl)) rfl
theorem tw_560 : (Cond.laysFinal "ProofLibrary$Packer" "ProofLibrary$Packer" "heads" "[I") ∈ TB := TB_m (tc_3 (List.mem_of_getElem? (i := 80) rfl)) rfl
theorem tw_562 : (Cond.laysFinal "ProofLibrary$Packer" "ProofLibrary$Packer" "nextRow" "[I") ∈ TB := TB_m (tc_3 (List.mem_of_getElem? (i := 82) rfl)) rfl
theorem tw_564 : (Cond.laysFinal "ProofLibrary$Packer" "ProofLibrary$Packer" "tellings" "[I") ∈ TB := TB_m (tc_3 (List.mem_of_getElem? (i := 84) rfl)) rfl
theorem tw_566 : (Cond.laysFinal "ProofLibrary$Packer" "ProofLibrary$Packer" "numbers" "[I") ∈ TB := TB_m (tc_3 (List.mem_of_getElem? (i := 86) rfl)) rfl
theorem tw_568 : (Cond.laysFinal "ProofLibrary$Packer" "ProofLibrary$Packer" "labelNumbers" "[I") ∈ TB := TB_m (tc_3 (List.mem_of_getElem? (i := 88) rfl)) rfl
theorem tw_570 : (Cond.laysFinal "ProofLibrary$Packer" "ProofLibrary$Packer" "listed" "[I") ∈ TB := TB_m (tc_3 (List.mem_of_getElem? (i := 90) rfl)) rfl
theorem tw_572 : (Cond.lays "ProofLibrary$Packer" "ProofLibrary$Packer" "listedCount" "I") ∈ TB := TB_m (tc_3 (List.mem_of_getElem? (i := 92) rfl)) rfl
theorem tw_574 : (Cond.laysFinal "ProofLibrary$Packer" "ProofLibrary$Packer" "told" "[I") ∈ TB := TB_m (tc_3 (List.mem_of_getElem? (i := 94) rfl)) rfl
theorem tw_576 : (Cond.lays "ProofLibrary$Packer" "ProofLibrary$Packer" "toldCount" "I") ∈ TB := TB_m (tc_3 (List.mem_of_getElem? (i := 96) rfl)) rfl
theorem tw_578 : (Cond.laysFinal "ProofLibrary$Packer" "ProofLibrary$Packer" "stackRow" "[I") ∈ TB := TB_m (tc_3 (List.mem_of_getElem? (i := 98) rfl)) rfl
theorem tw_580 : (Cond.laysFinal "ProofLibrary$Packer" "ProofLibrary$Packer" "stackNext" "[I") ∈ TB := TB_m (tc_3 (List.mem_of_getElem? (i := 100) rfl)) rfl
theorem tw_582 : (Cond.lays "ProofLibrary$Packer" "ProofLibrary$Packer" "depth" "I") ∈ TB := TB_m (tc_3 (List.mem_of_getElem? (i := 102) rfl)) rfl
theorem tw_584 : (Cond.laysFinal "ProofLibrary$Packer" "ProofLibrary$Packer" "full" "[I") ∈ TB := TB_m (tc_3 (List.mem_of_getElem? (i := 104) rfl)) rfl
theorem tw_586 : (Cond.lays "ProofLibrary$Packer" "ProofLibrary$Packer" "fullCount" "I") ∈ TB := TB_m (tc_3 (List.mem_of_getElem? (i := 106) rfl)) rfl
theorem tw_588 : (Cond.laysFinal "ProofLibrary$Packer" "ProofLibrary$Packer" "starts" "[I") ∈ TB := TB_m (tc_3 (List.mem_of_getElem? (i := 108) rfl)) rfl
theorem tw_590 : (Cond.lays "ProofLibrary$Packer" "ProofLibrary$Packer" "base" "I") ∈ TB := TB_m (tc_3 (List.mem_of_getElem? (i := 110) rfl)) rfl
theorem tw_593 : (Cond.classLink "ProofLibrary" 79 "ProofLibrary$Rules") ∈ TB := TB_m (tc_3 (List.mem_of_getElem? (i := 113) rfl)) rfl
theorem tw_594 : (Cond.instantiable "ProofLibrary$Rules" 17) ∈ TB := TB_m (tc_3 (List.mem_of_getElem? (i := 114) rfl)) rfl
theorem tw_595 : (Cond.methodLink "ProofLibrary" 81 ⟨"ProofLibrary$Rules", "<init>", "(LProofLibrary$Library;LProofLibrary$Assertions;)V"⟩) ∈ TB := TB_m (tc_3 (List.mem_of_getElem? (i := 115) rfl)) rfl
theorem tw_596 : (Cond.instanceMethod ⟨"ProofLibrary$Rules", "<init>", "(LProofLibrary$Library;LProofLibrary$Assertions;)V"⟩) ∈ TB := TB_m (tc_3 (List.mem_of_getElem? (i := 116) rfl)) rfl
theorem tw_597 : (Cond.code ⟨"ProofLibrary$Rules", "<init>", "(LProofLibrary$Library;LProofLibrary$Assertions;)V"⟩ prog_10_method_1_code 3 none) ∈ TB := TB_m (tc_3 (List.mem_of_getElem? (i := 117) rfl)) rfl
theorem tw_598 : (Cond.methodLink "ProofLibrary$Rules" 3 ⟨"java/lang/Object", "<init>", "()V"⟩) ∈ TB := TB_m (tc_3 (List.mem_of_getElem? (i := 118) rfl)) rfl
theorem tw_599 : (Cond.fieldLink "ProofLibrary$Rules" 52 "ProofLibrary$Rules" "library" "LProofLibrary$Library;") ∈ TB := TB_m (tc_3 (List.mem_of_getElem? (i := 119) rfl)) rfl
theorem tw_600 : (Cond.fieldLink "ProofLibrary$Rules" 56 "ProofLibrary$Rules" "assertions" "LProofLibrary$Assertions;") ∈ TB := TB_m (tc_3 (List.mem_of_getElem? (i := 120) rfl)) rfl
theorem tw_601 : (Cond.fieldLink "ProofLibrary$Rules" 9 "ProofLibrary$Rules" "firstChild" "[I") ∈ TB := TB_m (tc_3 (List.mem_of_getElem? (i := 121) rfl)) rfl
theorem tn_602 : (Cond.fieldLinkNest "ProofLibrary$Chart" 147 "ProofLibrary$Rules" "firstChild" "[I" "ProofLibrary") ∈ NB := NB_m (tc_3 (List.mem_of_getElem? (i := 122) rfl)) rfl
theorem tw_603 : (Cond.fieldLink "ProofLibrary$Rules" 15 "ProofLibrary$Rules" "sibling" "[I") ∈ TB := TB_m (tc_3 (List.mem_of_getElem? (i := 123) rfl)) rfl
theorem tn_604 : (Cond.fieldLinkNest "ProofLibrary$Chart" 151 "ProofLibrary$Rules" "sibling" "[I" "ProofLibrary") ∈ NB := NB_m (tc_3 (List.mem_of_getElem? (i := 124) rfl)) rfl
theorem tw_605 : (Cond.fieldLink "ProofLibrary$Rules" 18 "ProofLibrary$Rules" "key" "[I") ∈ TB := TB_m (tc_3 (List.mem_of_getElem? (i := 125) rfl)) rfl
theorem tn_606 : (Cond.fieldLinkNest "ProofLibrary$Chart" 157 "ProofLibrary$Rules" "key" "[I" "ProofLibrary") ∈ NB := NB_m (tc_3 (List.mem_of_getElem? (i := 126) rfl)) rfl
theorem tw_607 : (Cond.fieldLink "ProofLibrary$Rules" 21 "ProofLibrary$Rules" "born" "[I") ∈ TB := TB_m (tc_3 (List.mem_of_getElem? (i := 127) rfl)) rfl
theorem tn_608 : (Cond.fieldLinkNest "ProofLibrary$Chart" 140 "ProofLibrary$Rules" "born" "[I" "ProofLibrary") ∈ NB := NB_m (tc_3 (List.mem_of_getElem? (i := 128) rfl)) rfl
theorem tw_609 : (Cond.fieldLink "ProofLibrary$Rules" 24 "ProofLibrary$Rules" "firstRule" "[I") ∈ TB := TB_m (tc_3 (List.mem_of_getElem? (i := 129) rfl)) rfl
theorem tn_610 : (Cond.fieldLinkNest "ProofLibrary$Chart" 160 "ProofLibrary$Rules" "firstRule" "[I" "ProofLibrary") ∈ NB := NB_m (tc_3 (List.mem_of_getElem? (i := 130) rfl)) rfl
theorem tw_611 : (Cond.fieldLink "ProofLibrary$Rules" 27 "ProofLibrary$Rules" "nextRule" "[I") ∈ TB := TB_m (tc_3 (List.mem_of_getElem? (i := 131) rfl)) rfl
theorem tn_612 : (Cond.fieldLinkNest "ProofLibrary$Chart" 163 "ProofLibrary$Rules" "nextRule" "[I" "ProofLibrary") ∈ NB := NB_m (tc_3 (List.mem_of_getElem? (i := 132) rfl)) rfl
theorem tw_613 : (Cond.fieldLink "ProofLibrary$Rules" 30 "ProofLibrary$Rules" "nodes" "I") ∈ TB := TB_m (tc_3 (List.mem_of_getElem? (i := 133) rfl)) rfl
theorem tw_614 : (Cond.fieldLink "ProofLibrary$Rules" 34 "ProofLibrary$Rules" "atConstant" "[I") ∈ TB := TB_m (tc_3 (List.mem_of_getElem? (i := 134) rfl)) rfl
theorem tn_615 : (Cond.fieldLinkNest "ProofLibrary$Chart" 122 "ProofLibrary$Rules" "atConstant" "[I" "ProofLibrary") ∈ NB := NB_m (tc_3 (List.mem_of_getElem? (i := 135) rfl)) rfl
theorem tw_616 : (Cond.fieldLink "ProofLibrary$Rules" 37 "ProofLibrary$Rules" "atSort" "[I") ∈ TB := TB_m (tc_3 (List.mem_of_getElem? (i := 136) rfl)) rfl
theorem tn_617 : (Cond.fieldLinkNest "ProofLibrary$Chart" 133 "ProofLibrary$Rules" "atSort" "[I" "ProofLibrary") ∈ NB := NB_m (tc_3 (List.mem_of_getElem? (i := 137) rfl)) rfl
theorem tw_618 : (Cond.fieldLink "ProofLibrary$Rules" 40 "ProofLibrary$Rules" "unitRule" "[I") ∈ TB := TB_m (tc_3 (List.mem_of_getElem? (i := 138) rfl)) rfl
theorem tn_619 : (Cond.fieldLinkNest "ProofLibrary$Chart" 179 "ProofLibrary$Rules" "unitRule" "[I" "ProofLibrary") ∈ NB := NB_m (tc_3 (List.mem_of_getElem? (i := 139) rfl)) rfl
theorem tw_620 : (Cond.fieldLink "ProofLibrary$Rules" 43 "ProofLibrary$Rules" "unitFrom" "[I") ∈ TB := TB_m (tc_3 (List.mem_of_getElem? (i := 140) rfl)) rfl
theorem tn_621 : (Cond.fieldLinkNest "ProofLibrary$Chart" 182 "ProofLibrary$Rules" "unitFrom" "[I" "ProofLibrary") ∈ NB := NB_m (tc_3 (List.mem_of_getElem? (i := 141) rfl)) rfl
theorem tw_622 : (Cond.fieldLink "ProofLibrary$Rules" 129 "ProofLibrary$Rules" "units" "I") ∈ TB := TB_m (tc_3 (List.mem_of_getElem? (i := 142) rfl)) rfl
theorem tn_623 : (Cond.fieldLinkNest "ProofLibrary$Chart" 176 "ProofLibrary$Rules" "units" "I" "ProofLibrary") ∈ NB := NB_m (tc_3 (List.mem_of_getElem? (i := 143) rfl)) rfl
theorem tw_624 : (Cond.fieldLink "ProofLibrary$Rules" 71 "ProofLibrary$Rules" "learned" "I") ∈ TB := TB_m (tc_3 (List.mem_of_getElem? (i := 144) rfl)) rfl
theorem tw_625 : (Cond.fieldLink "ProofLibrary$Rules" 46 "ProofLibrary$Rules" "provable" "I") ∈ TB := TB_m (tc_3 (List.mem_of_getElem? (i := 145) rfl)) rfl
theorem tn_626 : (Cond.fieldLinkNest "ProofLibrary$Definitions" 89 "ProofLibrary$Rules" "provable" "I" "ProofLibrary") ∈ NB := NB_m (tc_3 (List.mem_of_getElem? (i := 146) rfl)) rfl
theorem tw_627 : (Cond.fieldLink "ProofLibrary$Rules" 49 "ProofLibrary$Rules" "wff" "I") ∈ TB := TB_m (tc_3 (List.mem_of_getElem? (i := 147) rfl)) rfl
theorem tw_628 : (Cond.laysFinal "ProofLibrary$Rules" "ProofLibrary$Rules" "library" "LProofLibrary$Library;") ∈ TB := TB_m (tc_3 (List.mem_of_getElem? (i := 148) rfl)) rfl
theorem tw_630 : (Cond.laysFinal "ProofLibrary$Rules" "ProofLibrary$Rules" "assertions" "LProofLibrary$Assertions;") ∈ TB := TB_m (tc_3 (List.mem_of_getElem? (i := 150) rfl)) rfl
theorem tw_632 : (Cond.laysFinal "ProofLibrary$Rules" "ProofLibrary$Rules" "firstChild" "[I") ∈ TB := TB_m (tc_3 (List.mem_of_getElem? (i := 152) rfl)) rfl
theorem tw_634 : (Cond.laysFinal "ProofLibrary$Rules" "ProofLibrary$Rules" "sibling" "[I") ∈ TB := TB_m (tc_3 (List.mem_of_getElem? (i := 154) rfl)) rfl
theorem tw_636 : (Cond.laysFinal "ProofLibrary$Rules" "ProofLibrary$Rules" "key" "[I") ∈ TB := TB_m (tc_3 (List.mem_of_getElem? (i := 156) rfl)) rfl
theorem tw_638 : (Cond.laysFinal "ProofLibrary$Rules" "ProofLibrary$Rules" "born" "[I") ∈ TB := TB_m (tc_3 (List.mem_of_getElem? (i := 158) rfl)) rfl
theorem tw_640 : (Cond.laysFinal "ProofLibrary$Rules" "ProofLibrary$Rules" "firstRule" "[I") ∈ TB := TB_m (tc_3 (List.mem_of_getElem? (i := 160) rfl)) rfl
theorem tw_642 : (Cond.laysFinal "ProofLibrary$Rules" "ProofLibrary$Rules" "nextRule" "[I") ∈ TB := TB_m (tc_3 (List.mem_of_getElem? (i := 162) rfl)) rfl
theorem tw_644 : (Cond.lays "ProofLibrary$Rules" "ProofLibrary$Rules" "nodes" "I") ∈ TB := TB_m (tc_3 (List.mem_of_getElem? (i := 164) rfl)) rfl
theorem tw_646 : (Cond.laysFinal "ProofLibrary$Rules" "ProofLibrary$Rules" "atConstant" "[I") ∈ TB := TB_m (tc_3 (List.mem_of_getElem? (i := 166) rfl)) rfl
theorem tw_648 : (Cond.laysFinal "ProofLibrary$Rules" "ProofLibrary$Rules" "atSort" "[I") ∈ TB := TB_m (tc_3 (List.mem_of_getElem? (i := 168) rfl)) rfl
theorem tw_650 : (Cond.laysFinal "ProofLibrary$Rules" "ProofLibrary$Rules" "unitRule" "[I") ∈ TB := TB_m (tc_3 (List.mem_of_getElem? (i := 170) rfl)) rfl
theorem tw_652 : (Cond.laysFinal "ProofLibrary$Rules" "ProofLibrary$Rules" "unitFrom" "[I") ∈ TB := TB_m (tc_3 (List.mem_of_getElem? (i := 172) rfl)) rfl
theorem tw_654 : (Cond.lays "ProofLibrary$Rules" "ProofLibrary$Rules" "units" "I") ∈ TB := TB_m (tc_3 (List.mem_of_getElem? (i := 174) rfl)) rfl
theorem tw_656 : (Cond.lays "ProofLibrary$Rules" "ProofLibrary$Rules" "learned" "I") ∈ TB := TB_m (tc_3 (List.mem_of_getElem? (i := 176) rfl)) rfl
theorem tw_658 : (Cond.lays "ProofLibrary$Rules" "ProofLibrary$Rules" "provable" "I") ∈ TB := TB_m (tc_3 (List.mem_of_getElem? (i := 178) rfl)) rfl
theorem tw_660 : (Cond.lays "ProofLibrary$Rules" "ProofLibrary$Rules" "wff" "I") ∈ TB := TB_m (tc_3 (List.mem_of_getElem? (i := 180) rfl)) rfl
theorem tw_663 : (Cond.classLink "ProofLibrary" 86 "ProofLibrary$Chart") ∈ TB := TB_m (tc_3 (List.mem_of_getElem? (i := 183) rfl)) rfl
theorem tw_664 : (Cond.instantiable "ProofLibrary$Chart" 18) ∈ TB := TB_m (tc_3 (List.mem_of_getElem? (i := 184) rfl)) rfl
theorem tw_665 : (Cond.methodLink "ProofLibrary" 88 ⟨"ProofLibrary$Chart", "<init>", "(LProofLibrary$Library;LProofLibrary$Rules;)V"⟩) ∈ TB := TB_m (tc_3 (List.mem_of_getElem? (i := 185) rfl)) rfl
theorem tw_666 : (Cond.instanceMethod ⟨"ProofLibrary$Chart", "<init>", "(LProofLibrary$Library;LProofLibrary$Rules;)V"⟩) ∈ TB := TB_m (tc_3 (List.mem_of_getElem? (i := 186) rfl)) rfl
theorem tw_667 : (Cond.code ⟨"ProofLibrary$Chart", "<init>", "(LProofLibrary$Library;LProofLibrary$Rules;)V"⟩ prog_3_method_1_code 3 none) ∈ TB := TB_m (tc_3 (List.mem_of_getElem? (i := 187) rfl)) rfl
theorem tw_668 : (Cond.methodLink "ProofLibrary$Chart" 3 ⟨"java/lang/Object", "<init>", "()V"⟩) ∈ TB := TB_m (tc_3 (List.mem_of_getElem? (i := 188) rfl)) rfl
theorem tw_669 : (Cond.constant "ProofLibrary$Chart" 28 177000) ∈ TB := TB_m (tc_3 (List.mem_of_getElem? (i := 189) rfl)) rfl
theorem tw_670 : (Cond.fieldLink "ProofLibrary$Chart" 50 "ProofLibrary$Chart" "library" "LProofLibrary$Library;") ∈ TB := TB_m (tc_3 (List.mem_of_getElem? (i := 190) rfl)) rfl
theorem tw_671 : (Cond.fieldLink "ProofLibrary$Chart" 54 "ProofLibrary$Chart" "rules" "LProofLibrary$Rules;") ∈ TB := TB_m (tc_3 (List.mem_of_getElem? (i := 191) rfl)) rfl
theorem tw_672 : (Cond.fieldLink "ProofLibrary$Chart" 9 "ProofLibrary$Chart" "row" "[I") ∈ TB := TB_m (tc_3 (List.mem_of_getElem? (i := 192) rfl)) rfl
theorem tn_673 : (Cond.fieldLinkNest "ProofLibrary$Tree" 157 "ProofLibrary$Chart" "row" "[I" "ProofLibrary") ∈ NB := NB_m (tc_3 (List.mem_of_getElem? (i := 193) rfl)) rfl
theorem tn_674 : (Cond.fieldLinkNest "ProofLibrary" 415 "ProofLibrary$Chart" "row" "[I" "ProofLibrary") ∈ NB := NB_m (tc_3 (List.mem_of_getElem? (i := 194) rfl)) rfl
theorem tw_675 : (Cond.fieldLink "ProofLibrary$Chart" 15 "ProofLibrary$Chart" "leaf" "[I") ∈ TB := TB_m (tc_3 (List.mem_of_getElem? (i := 195) rfl)) rfl
theorem tw_676 : (Cond.fieldLink "ProofLibrary$Chart" 73 "ProofLibrary$Chart" "length" "I") ∈ TB := TB_m (tc_3 (List.mem_of_getElem? (i := 196) rfl)) rfl
theorem tn_677 : (Cond.fieldLinkNest "ProofLibrary$Tree" 61 "ProofLibrary$Chart" "length" "I" "ProofLibrary") ∈ NB := NB_m (tc_3 (List.mem_of_getElem? (i := 197) rfl)) rfl
theorem tw_678 : (Cond.fieldLink "ProofLibrary$Chart" 86 "ProofLibrary$Chart" "limit" "I") ∈ TB := TB_m (tc_3 (List.mem_of_getElem? (i := 198) rfl)) rfl
theorem tn_679 : (Cond.fieldLinkNest "ProofLibrary$Tree" 56 "ProofLibrary$Chart" "goal" "I" "ProofLibrary") ∈ NB := NB_m (tc_3 (List.mem_of_getElem? (i := 199) rfl)) rfl
theorem tw_680 : (Cond.fieldLink "ProofLibrary$Chart" 97 "ProofLibrary$Chart" "goal" "I") ∈ TB := TB_m (tc_3 (List.mem_of_getElem? (i := 200) rfl)) rfl
theorem tw_681 : (Cond.fieldLink "ProofLibrary$Chart" 18 "ProofLibrary$Chart" "where" "[J") ∈ TB := TB_m (tc_3 (List.mem_of_getElem? (i := 201) rfl)) rfl
theorem tn_682 : (Cond.fieldLinkNest "ProofLibrary$Tree" 135 "ProofLibrary$Chart" "where" "[J" "ProofLibrary") ∈ NB := NB_m (tc_3 (List.mem_of_getElem? (i := 202) rfl)) rfl
theorem tw_683 : (Cond.fieldLink "ProofLibrary$Chart" 22 "ProofLibrary$Chart" "has" "[J") ∈ TB := TB_m (tc_3 (List.mem_of_getElem? (i := 203) rfl)) rfl
theorem tn_684 : (Cond.fieldLinkNest "ProofLibrary$Tree" 117 "ProofLibrary$Chart" "has" "[J" "ProofLibrary") ∈ NB := NB_m (tc_3 (List.mem_of_getElem? (i := 204) rfl)) rfl
theorem tw_685 : (Cond.fieldLink "ProofLibrary$Chart" 25 "ProofLibrary$Chart" "several" "[J") ∈ TB := TB_m (tc_3 (List.mem_of_getElem? (i := 205) rfl)) rfl
theorem tw_686 : (Cond.fieldLink "ProofLibrary$Chart" 29 "ProofLibrary$Chart" "madeBy" "[I") ∈ TB := TB_m (tc_3 (List.mem_of_getElem? (i := 206) rfl)) rfl
theorem tw_687 : (Cond.fieldLink "ProofLibrary$Chart" 106 "ProofLibrary$Chart" "start" "I") ∈ TB := TB_m (tc_3 (List.mem_of_getElem? (i := 207) rfl)) rfl
theorem tw_688 : (Cond.fieldLink "ProofLibrary$Chart" 32 "ProofLibrary$Chart" "stackNode" "[I") ∈ TB := TB_m (tc_3 (List.mem_of_getElem? (i := 208) rfl)) rfl
theorem tw_689 : (Cond.fieldLink "ProofLibrary$Chart" 35 "ProofLibrary$Chart" "stackHas" "[J") ∈ TB := TB_m (tc_3 (List.mem_of_getElem? (i := 209) rfl)) rfl
theorem tw_690 : (Cond.fieldLink "ProofLibrary$Chart" 38 "ProofLibrary$Chart" "stackSeveral" "[J") ∈ TB := TB_m (tc_3 (List.mem_of_getElem? (i := 210) rfl)) rfl
theorem tw_691 : (Cond.fieldLink "ProofLibrary$Chart" 41 "ProofLibrary$Chart" "base" "[I") ∈ TB := TB_m (tc_3 (List.mem_of_getElem? (i := 211) rfl)) rfl
theorem tw_692 : (Cond.fieldLink "ProofLibrary$Chart" 44 "ProofLibrary$Chart" "total" "[I") ∈ TB := TB_m (tc_3 (List.mem_of_getElem? (i := 212) rfl)) rfl
theorem tw_693 : (Cond.fieldLink "ProofLibrary$Chart" 47 "ProofLibrary$Chart" "next" "[I") ∈ TB := TB_m (tc_3 (List.mem_of_getElem? (i := 213) rfl)) rfl
theorem tw_694 : (Cond.laysFinal "ProofLibrary$Chart" "ProofLibrary$Chart" "library" "LProofLibrary$Library;") ∈ TB := TB_m (tc_3 (List.mem_of_getElem? (i := 214) rfl)) rfl
theorem tw_696 : (Cond.laysFinal "ProofLibrary$Chart" "ProofLibrary$Chart" "rules" "LProofLibrary$Rules;") ∈ TB := TB_m (tc_3 (List.mem_of_getElem? (i := 216) rfl)) rfl
theorem tw_698 : (Cond.laysFinal "ProofLibrary$Chart" "ProofLibrary$Chart" "row" "[I") ∈ TB := TB_m (tc_3 (List.mem_of_getElem? (i := 218) rfl)) rfl
theorem tw_700 : (Cond.laysFinal "ProofLibrary$Chart" "ProofLibrary$Chart" "leaf" "[I") ∈ TB := TB_m (tc_3 (List.mem_of_getElem? (i := 220) rfl)) rfl
theorem tw_702 : (Cond.lays "ProofLibrary$Chart" "ProofLibrary$Chart" "length" "I") ∈ TB := TB_m (tc_3 (List.mem_of_getElem? (i := 222) rfl)) rfl
theorem tw_704 : (Cond.lays "ProofLibrary$Chart" "ProofLibrary$Chart" "limit" "I") ∈ TB := TB_m (tc_3 (List.mem_of_getElem? (i := 224) rfl)) rfl
theorem tw_706 : (Cond.lays "ProofLibrary$Chart" "ProofLibrary$Chart" "goal" "I") ∈ TB := TB_m (tc_3 (List.mem_of_getElem? (i := 226) rfl)) rfl
theorem tw_708 : (Cond.laysFinal "ProofLibrary$Chart" "ProofLibrary$Chart" "where" "[J") ∈ TB := TB_m (tc_3 (List.mem_of_getElem? (i := 228) rfl)) rfl
theorem tw_710 : (Cond.laysFinal "ProofLibrary$Chart" "ProofLibrary$Chart" "has" "[J") ∈ TB := TB_m (tc_3 (List.mem_of_getElem? (i := 230) rfl)) rfl
theorem tw_712 : (Cond.laysFinal "ProofLibrary$Chart" "ProofLibrary$Chart" "several" "[J") ∈ TB := TB_m (tc_3 (List.mem_of_getElem? (i := 232) rfl)) rfl
theorem tw_714 : (Cond.laysFinal "ProofLibrary$Chart" "ProofLibrary$Chart" "madeBy" "[I") ∈ TB := TB_m (tc_3 (List.mem_of_getElem? (i := 234) rfl)) rfl
theorem tw_716 : (Cond.lays "ProofLibrary$Chart" "ProofLibrary$Chart" "start" "I") ∈ TB := TB_m (tc_3 (List.mem_of_getElem? (i := 236) rfl)) rfl
theorem tw_718 : (Cond.laysFinal "ProofLibrary$Chart" "ProofLibrary$Chart" "stackNode" "[I") ∈ TB := TB_m (tc_3 (List.mem_of_getElem? (i := 238) rfl)) rfl
theorem tw_720 : (Cond.laysFinal "ProofLibrary$Chart" "ProofLibrary$Chart" "stackHas" "[J") ∈ TB := TB_m (tc_4 (List.mem_of_getElem? (i := 0) rfl)) rfl
theorem tw_722 : (Cond.laysFinal "ProofLibrary$Chart" "ProofLibrary$Chart" "stackSeveral" "[J") ∈ TB := TB_m (tc_4 (List.mem_of_getElem? (i := 2) rfl)) rfl
theorem tw_724 : (Cond.laysFinal "ProofLibrary$Chart" "ProofLibrary$Chart" "base" "[I") ∈ TB := TB_m (tc_4 (List.mem_of_getElem? (i := 4) rfl)) rfl
theorem tw_726 : (Cond.laysFinal "ProofLibrary$Chart" "ProofLibrary$Chart" "total" "[I") ∈ TB := TB_m (tc_4 (List.mem_of_getElem? (i := 6) rfl)) rfl
theorem tw_728 : (Cond.laysFinal "ProofLibrary$Chart" "ProofLibrary$Chart" "next" "[I") ∈ TB := TB_m (tc_4 (List.mem_of_getElem? (i := 8) rfl)) rfl
theorem tw_731 : (Cond.classLink "ProofLibrary" 95 "ProofLibrary$Tree") ∈ TB := TB_m (tc_4 (List.mem_of_getElem? (i := 11) rfl)) rfl
theorem tw_732 : (Cond.instantiable "ProofLibrary$Tree" 15) ∈ TB := TB_m (tc_4 (List.mem_of_getElem? (i := 12) rfl)) rfl
theorem tw_733 : (Cond.methodLink "ProofLibrary" 97 ⟨"ProofLibrary$Tree", "<init>", "(LProofLibrary$Library;LProofLibrary$Assertions;LProofLibrary$Chart;)V"⟩) ∈ TB := TB_m (tc_4 (List.mem_of_getElem? (i := 13) rfl)) rfl
theorem tw_734 : (Cond.instanceMethod ⟨"ProofLibrary$Tree", "<init>", "(LProofLibrary$Library;LProofLibrary$Assertions;LProofLibrary$Chart;)V"⟩) ∈ TB := TB_m (tc_4 (List.mem_of_getElem? (i := 14) rfl)) rfl
theorem tw_735 : (Cond.code ⟨"ProofLibrary$Tree", "<init>", "(LProofLibrary$Library;LProofLibrary$Assertions;LProofLibrary$Chart;)V"⟩ prog_13_method_1_code 4 none) ∈ TB := TB_m (tc_4 (List.mem_of_getElem? (i := 15) rfl)) rfl
theorem tw_736 : (Cond.methodLink "ProofLibrary$Tree" 3 ⟨"java/lang/Object", "<init>", "()V"⟩) ∈ TB := TB_m (tc_4 (List.mem_of_getElem? (i := 16) rfl)) rfl
theorem tw_737 : (Cond.fieldLink "ProofLibrary$Tree" 40 "ProofLibrary$Tree" "library" "LProofLibrary$Library;") ∈ TB := TB_m (tc_4 (List.mem_of_getElem? (i := 17) rfl)) rfl
theorem tw_738 : (Cond.fieldLink "ProofLibrary$Tree" 44 "ProofLibrary$Tree" "assertions" "LProofLibrary$Assertions;") ∈ TB := TB_m (tc_4 (List.mem_of_getElem? (i := 18) rfl)) rfl
theorem tw_739 : (Cond.fieldLink "ProofLibrary$Tree" 48 "ProofLibrary$Tree" "chart" "LProofLibrary$Chart;") ∈ TB := TB_m (tc_4 (List.mem_of_getElem? (i := 19) rfl)) rfl
theorem tw_740 : (Cond.fieldLink "ProofLibrary$Tree" 9 "ProofLibrary$Tree" "rule" "[I") ∈ TB := TB_m (tc_4 (List.mem_of_getElem? (i := 20) rfl)) rfl
theorem tn_741 : (Cond.fieldLinkNest "ProofLibrary$Definitions" 127 "ProofLibrary$Tree" "rule" "[I" "ProofLibrary") ∈ NB := NB_m (tc_4 (List.mem_of_getElem? (i := 21) rfl)) rfl
theorem tn_742 : (Cond.fieldLinkNest "ProofLibrary" 354 "ProofLibrary$Tree" "rule" "[I" "ProofLibrary") ∈ NB := NB_m (tc_4 (List.mem_of_getElem? (i := 22) rfl)) rfl
theorem tw_743 : (Cond.fieldLink "ProofLibrary$Tree" 15 "ProofLibrary$Tree" "from" "[I") ∈ TB := TB_m (tc_4 (List.mem_of_getElem? (i := 23) rfl)) rfl
theorem tw_744 : (Cond.fieldLink "ProofLibrary$Tree" 18 "ProofLibrary$Tree" "to" "[I") ∈ TB := TB_m (tc_4 (List.mem_of_getElem? (i := 24) rfl)) rfl
theorem tw_745 : (Cond.fieldLink "ProofLibrary$Tree" 52 "ProofLibrary$Tree" "size" "I") ∈ TB := TB_m (tc_4 (List.mem_of_getElem? (i := 25) rfl)) rfl
theorem tn_746 : (Cond.fieldLinkNest "ProofLibrary$Definitions" 139 "ProofLibrary$Tree" "size" "I" "ProofLibrary") ∈ NB := NB_m (tc_4 (List.mem_of_getElem? (i := 26) rfl)) rfl
theorem tn_747 : (Cond.fieldLinkNest "ProofLibrary" 352 "ProofLibrary$Tree" "size" "I" "ProofLibrary") ∈ NB := NB_m (tc_4 (List.mem_of_getElem? (i := 27) rfl)) rfl
theorem tw_748 : (Cond.fieldLink "ProofLibrary$Tree" 21 "ProofLibrary$Tree" "pattern" "[I") ∈ TB := TB_m (tc_4 (List.mem_of_getElem? (i := 28) rfl)) rfl
theorem tw_749 : (Cond.fieldLink "ProofLibrary$Tree" 144 "ProofLibrary$Tree" "patternSize" "I") ∈ TB := TB_m (tc_4 (List.mem_of_getElem? (i := 29) rfl)) rfl
theorem tw_750 : (Cond.fieldLink "ProofLibrary$Tree" 24 "ProofLibrary$Tree" "cells" "[I") ∈ TB := TB_m (tc_4 (List.mem_of_getElem? (i := 30) rfl)) rfl
theorem tw_751 : (Cond.fieldLink "ProofLibrary$Tree" 27 "ProofLibrary$Tree" "fits" "[J") ∈ TB := TB_m (tc_4 (List.mem_of_getElem? (i := 31) rfl)) rfl
theorem tw_752 : (Cond.fieldLink "ProofLibrary$Tree" 31 "ProofLibrary$Tree" "spanFrom" "[I") ∈ TB := TB_m (tc_4 (List.mem_of_getElem? (i := 32) rfl)) rfl
theorem tn_753 : (Cond.fieldLinkNest "ProofLibrary" 418 "ProofLibrary$Tree" "spanFrom" "[I" "ProofLibrary") ∈ NB := NB_m (tc_4 (List.mem_of_getElem? (i := 33) rfl)) rfl
theorem tw_754 : (Cond.fieldLink "ProofLibrary$Tree" 34 "ProofLibrary$Tree" "spanTo" "[I") ∈ TB := TB_m (tc_4 (List.mem_of_getElem? (i := 34) rfl)) rfl
theorem tn_755 : (Cond.fieldLinkNest "ProofLibrary" 421 "ProofLibrary$Tree" "spanTo" "[I" "ProofLibrary") ∈ NB := NB_m (tc_4 (List.mem_of_getElem? (i := 35) rfl)) rfl
theorem tw_756 : (Cond.fieldLink "ProofLibrary$Tree" 37 "ProofLibrary$Tree" "bound" "[I") ∈ TB := TB_m (tc_4 (List.mem_of_getElem? (i := 36) rfl)) rfl
theorem tw_757 : (Cond.fieldLink "ProofLibrary$Tree" 147 "ProofLibrary$Tree" "turn" "I") ∈ TB := TB_m (tc_4 (List.mem_of_getElem? (i := 37) rfl)) rfl
theorem tw_758 : (Cond.laysFinal "ProofLibrary$Tree" "ProofLibrary$Tree" "library" "LProofLibrary$Library;") ∈ TB := TB_m (tc_4 (List.mem_of_getElem? (i := 38) rfl)) rfl
theorem tw_760 : (Cond.laysFinal "ProofLibrary$Tree" "ProofLibrary$Tree" "assertions" "LProofLibrary$Assertions;") ∈ TB := TB_m (tc_4 (List.mem_of_getElem? (i := 40) rfl)) rfl
theorem tw_762 : (Cond.laysFinal "ProofLibrary$Tree" "ProofLibrary$Tree" "chart" "LProofLibrary$Chart;") ∈ TB := TB_m (tc_4 (List.mem_of_getElem? (i := 42) rfl)) rfl
theorem tw_764 : (Cond.laysFinal "ProofLibrary$Tree" "ProofLibrary$Tree" "rule" "[I") ∈ TB := TB_m (tc_4 (List.mem_of_getElem? (i := 44) rfl)) rfl
theorem tw_766 : (Cond.laysFinal "ProofLibrary$Tree" "ProofLibrary$Tree" "from" "[I") ∈ TB := TB_m (tc_4 (List.mem_of_getElem? (i := 46) rfl)) rfl
theorem tw_768 : (Cond.laysFinal "ProofLibrary$Tree" "ProofLibrary$Tree" "to" "[I") ∈ TB := TB_m (tc_4 (List.mem_of_getElem? (i := 48) rfl)) rfl
theorem tw_770 : (Cond.lays "ProofLibrary$Tree" "ProofLibrary$Tree" "size" "I") ∈ TB := TB_m (tc_4 (List.mem_of_getElem? (i := 50) rfl)) rfl
theorem tw_772 : (Cond.laysFinal "ProofLibrary$Tree" "ProofLibrary$Tree" "pattern" "[I") ∈ TB := TB_m (tc_4 (List.mem_of_getElem? (i := 52) rfl)) rfl
theorem tw_774 : (Cond.lays "ProofLibrary$Tree" "ProofLibrary$Tree" "patternSize" "I") ∈ TB := TB_m (tc_4 (List.mem_of_getElem? (i := 54) rfl)) rfl
theorem tw_776 : (Cond.laysFinal "ProofLibrary$Tree" "ProofLibrary$Tree" "cells" "[I") ∈ TB := TB_m (tc_4 (List.mem_of_getElem? (i := 56) rfl)) rfl
theorem tw_778 : (Cond.laysFinal "ProofLibrary$Tree" "ProofLibrary$Tree" "fits" "[J") ∈ TB := TB_m (tc_4 (List.mem_of_getElem? (i := 58) rfl)) rfl
theorem tw_780 : (Cond.laysFinal "ProofLibrary$Tree" "ProofLibrary$Tree" "spanFrom" "[I") ∈ TB := TB_m (tc_4 (List.mem_of_getElem? (i := 60) rfl)) rfl
theorem tw_782 : (Cond.laysFinal "ProofLibrary$Tree" "ProofLibrary$Tree" "spanTo" "[I") ∈ TB := TB_m (tc_4 (List.mem_of_getElem? (i := 62) rfl)) rfl
theorem tw_784 : (Cond.laysFinal "ProofLibrary$Tree" "ProofLibrary$Tree" "bound" "[I") ∈ TB := TB_m (tc_4 (List.mem_of_getElem? (i := 64) rfl)) rfl
theorem tw_786 : (Cond.lays "ProofLibrary$Tree" "ProofLibrary$Tree" "turn" "I") ∈ TB := TB_m (tc_4 (List.mem_of_getElem? (i := 66) rfl)) rfl
theorem tw_789 : (Cond.classLink "ProofLibrary" 104 "ProofLibrary$Definitions") ∈ TB := TB_m (tc_4 (List.mem_of_getElem? (i := 69) rfl)) rfl
theorem tw_790 : (Cond.instantiable "ProofLibrary$Definitions" 21) ∈ TB := TB_m (tc_4 (List.mem_of_getElem? (i := 70) rfl)) rfl
theorem tw_791 : (Cond.methodLink "ProofLibrary" 106 ⟨"ProofLibrary$Definitions", "<init>", "(LProofLibrary$Library;LProofLibrary$Assertions;LProofLibrary$Rules;LProofLibrary$Chart;LProofLibrary$Tree;LProofLibrary$Pile;)V"⟩) ∈ TB := TB_m (tc_4 (List.mem_of_getElem? (i := 71) rfl)) rfl
theorem tw_792 : (Cond.instanceMethod ⟨"ProofLibrary$Definitions", "<init>", "(LProofLibrary$Library;LProofLibrary$Assertions;LProofLibrary$Rules;LProofLibrary$Chart;LProofLibrary$Tree;LProofLibrary$Pile;)V"⟩) ∈ TB := TB_m (tc_4 (List.mem_of_getElem? (i := 72) rfl)) rfl
theorem tw_793 : (Cond.code ⟨"ProofLibrary$Definitions", "<init>", "(LProofLibrary$Library;LProofLibrary$Assertions;LProofLibrary$Rules;LProofLibrary$Chart;LProofLibrary$Tree;LProofLibrary$Pile;)V"⟩ prog_4_method_1_code 7 none) ∈ TB := TB_m (tc_4 (List.mem_of_getElem? (i := 73) rfl)) rfl
theorem tw_794 : (Cond.methodLink "ProofLibrary$Definitions" 3 ⟨"java/lang/Object", "<init>", "()V"⟩) ∈ TB := TB_m (tc_4 (List.mem_of_getElem? (i := 74) rfl)) rfl
theorem tw_795 : (Cond.fieldLink "ProofLibrary$Definitions" 40 "ProofLibrary$Definitions" "library" "LProofLibrary$Library;") ∈ TB := TB_m (tc_4 (List.mem_of_getElem? (i := 75) rfl)) rfl
theorem tw_796 : (Cond.fieldLink "ProofLibrary$Definitions" 44 "ProofLibrary$Definitions" "assertions" "LProofLibrary$Assertions;") ∈ TB := TB_m (tc_4 (List.mem_of_getElem? (i := 76) rfl)) rfl
theorem tw_797 : (Cond.fieldLink "ProofLibrary$Definitions" 48 "ProofLibrary$Definitions" "rules" "LProofLibrary$Rules;") ∈ TB := TB_m (tc_4 (List.mem_of_getElem? (i := 77) rfl)) rfl
theorem tw_798 : (Cond.fieldLink "ProofLibrary$Definitions" 52 "ProofLibrary$Definitions" "chart" "LProofLibrary$Chart;") ∈ TB := TB_m (tc_4 (List.mem_of_getElem? (i := 78) rfl)) rfl
theorem tw_799 : (Cond.fieldLink "ProofLibrary$Definitions" 56 "ProofLibrary$Definitions" "tree" "LProofLibrary$Tree;") ∈ TB := TB_m (tc_4 (List.mem_of_getElem? (i := 79) rfl)) rfl
theorem tw_800 : (Cond.fieldLink "ProofLibrary$Definitions" 60 "ProofLibrary$Definitions" "pile" "LProofLibrary$Pile;") ∈ TB := TB_m (tc_4 (List.mem_of_getElem? (i := 80) rfl)) rfl
theorem tw_801 : (Cond.fieldLink "ProofLibrary$Definitions" 80 "ProofLibrary$Definitions" "studied" "I") ∈ TB := TB_m (tc_4 (List.mem_of_getElem? (i := 81) rfl)) rfl
theorem tw_802 : (Cond.fieldLink "ProofLibrary$Definitions" 9 "ProofLibrary$Definitions" "firstUse" "[I") ∈ TB := TB_m (tc_4 (List.mem_of_getElem? (i := 82) rfl)) rfl
theorem tw_803 : (Cond.fieldLink "ProofLibrary$Definitions" 15 "ProofLibrary$Definitions" "needed" "[I") ∈ TB := TB_m (tc_4 (List.mem_of_getElem? (i := 83) rfl)) rfl
theorem tw_804 : (Cond.fieldLink "ProofLibrary$Definitions" 18 "ProofLibrary$Definitions" "target" "[I") ∈ TB := TB_m (tc_4 (List.mem_of_getElem? (i := 84) rfl)) rfl
theorem tw_805 : (Cond.fieldLink "ProofLibrary$Definitions" 21 "ProofLibrary$Definitions" "definedBy" "[I") ∈ TB := TB_m (tc_4 (List.mem_of_getElem? (i := 85) rfl)) rfl
theorem tw_806 : (Cond.fieldLink "ProofLibrary$Definitions" 24 "ProofLibrary$Definitions" "equality" "[Z") ∈ TB := TB_m (tc_4 (List.mem_of_getElem? (i := 86) rfl)) rfl
theorem tw_807 : (Cond.fieldLink "ProofLibrary$Definitions" 64 "ProofLibrary$Definitions" "equalities" "I") ∈ TB := TB_m (tc_4 (List.mem_of_getElem? (i := 87) rfl)) rfl
theorem tw_808 : (Cond.fieldLink "ProofLibrary$Definitions" 74 "ProofLibrary$Definitions" "prepared" "I") ∈ TB := TB_m (tc_4 (List.mem_of_getElem? (i := 88) rfl)) rfl
theorem tw_809 : (Cond.fieldLink "ProofLibrary$Definitions" 28 "ProofLibrary$Definitions" "bodies" "[I") ∈ TB := TB_m (tc_4 (List.mem_of_getElem? (i := 89) rfl)) rfl
theorem tw_810 : (Cond.fieldLink "ProofLibrary$Definitions" 31 "ProofLibrary$Definitions" "bodyAt" "[I") ∈ TB := TB_m (tc_4 (List.mem_of_getElem? (i := 90) rfl)) rfl
theorem tw_811 : (Cond.fieldLink "ProofLibrary$Definitions" 34 "ProofLibrary$Definitions" "bodySize" "[I") ∈ TB := TB_m (tc_4 (List.mem_of_getElem? (i := 91) rfl)) rfl
theorem tw_812 : (Cond.fieldLink "ProofLibrary$Definitions" 77 "ProofLibrary$Definitions" "bodiesUsed" "I") ∈ TB := TB_m (tc_4 (List.mem_of_getElem? (i := 92) rfl)) rfl
theorem tw_813 : (Cond.fieldLink "ProofLibrary$Definitions" 37 "ProofLibrary$Definitions" "slots" "[I") ∈ TB := TB_m (tc_4 (List.mem_of_getElem? (i := 93) rfl)) rfl
theorem tw_814 : (Cond.fieldLink "ProofLibrary$Definitions" 130 "ProofLibrary$Definitions" "firstTree" "I") ∈ TB := TB_m (tc_4 (List.mem_of_getElem? (i := 94) rfl)) rfl
theorem tw_815 : (Cond.fieldLink "ProofLibrary$Definitions" 173 "ProofLibrary$Definitions" "secondTree" "I") ∈ TB := TB_m (tc_4 (List.mem_of_getElem? (i := 95) rfl)) rfl
theorem tw_816 : (Cond.laysFinal "ProofLibrary$Definitions" "ProofLibrary$Definitions" "library" "LProofLibrary$Library;") ∈ TB := TB_m (tc_4 (List.mem_of_getElem? (i := 96) rfl)) rfl
theorem tw_818 : (Cond.laysFinal "ProofLibrary$Definitions" "ProofLibrary$Definitions" "assertions" "LProofLibrary$Assertions;") ∈ TB := TB_m (tc_4 (List.mem_of_getElem? (i := 98) rfl)) rfl
theorem tw_820 : (Cond.laysFinal "ProofLibrary$Definitions" "ProofLibrary$Definitions" "rules" "LProofLibrary$Rules;") ∈ TB := TB_m (tc_4 (List.mem_of_getElem? (i := 100) rfl)) rfl
theorem tw_822 : (Cond.laysFinal "ProofLibrary$Definitions" "ProofLibrary$Definitions" "chart" "LProofLibrary$Chart;") ∈ TB := TB_m (tc_4 (List.mem_of_getElem? (i := 102) rfl)) rfl
theorem tw_824 : (Cond.laysFinal "ProofLibrary$Definitions" "ProofLibrary$Definitions" "tree" "LProofLibrary$Tree;") ∈ TB := TB_m (tc_4 (List.mem_of_getElem? (i := 104) rfl)) rfl
theorem tw_826 : (Cond.laysFinal "ProofLibrary$Definitions" "ProofLibrary$Definitions" "pile" "LProofLibrary$Pile;") ∈ TB := TB_m (tc_4 (List.mem_of_getElem? (i := 106) rfl)) rfl
theorem tw_828 : (Cond.lays "ProofLibrary$Definitions" "ProofLibrary$Definitions" "studied" "I") ∈ TB := TB_m (tc_4 (List.mem_of_getElem? (i := 108) rfl)) rfl
theorem tw_830 : (Cond.laysFinal "ProofLibrary$Definitions" "ProofLibrary$Definitions" "firstUse" "[I") ∈ TB := TB_m (tc_4 (List.mem_of_getElem? (i := 110) rfl)) rfl
theorem tw_832 : (Cond.laysFinal "ProofLibrary$Definitions" "ProofLibrary$Definitions" "needed" "[I") ∈ TB := TB_m (tc_4 (List.mem_of_getElem? (i := 112) rfl)) rfl
theorem tw_834 : (Cond.laysFinal "ProofLibrary$Definitions" "ProofLibrary$Definitions" "target" "[I") ∈ TB := TB_m (tc_4 (List.mem_of_getElem? (i := 114) rfl)) rfl
theorem tw_836 : (Cond.laysFinal "ProofLibrary$Definitions" "ProofLibrary$Definitions" "definedBy" "[I") ∈ TB := TB_m (tc_4 (List.mem_of_getElem? (i := 116) rfl)) rfl
theorem tw_838 : (Cond.laysFinal "ProofLibrary$Definitions" "ProofLibrary$Definitions" "equality" "[Z") ∈ TB := TB_m (tc_4 (List.mem_of_getElem? (i := 118) rfl)) rfl
theorem tw_840 : (Cond.lays "ProofLibrary$Definitions" "ProofLibrary$Definitions" "equalities" "I") ∈ TB := TB_m (tc_4 (List.mem_of_getElem? (i := 120) rfl)) rfl
theorem tw_842 : (Cond.lays "ProofLibrary$Definitions" "ProofLibrary$Definitions" "prepared" "I") ∈ TB := TB_m (tc_4 (List.mem_of_getElem? (i := 122) rfl)) rfl
theorem tw_844 : (Cond.lays "ProofLibrary$Definitions" "ProofLibrary$Definitions" "bodies" "[I") ∈ TB := TB_m (tc_4 (List.mem_of_getElem? (i := 124) rfl)) rfl
theorem tw_846 : (Cond.laysFinal "ProofLibrary$Definitions" "ProofLibrary$Definitions" "bodyAt" "[I") ∈ TB := TB_m (tc_4 (List.mem_of_getElem? (i := 126) rfl)) rfl
theorem tw_848 : (Cond.laysFinal "ProofLibrary$Definitions" "ProofLibrary$Definitions" "bodySize" "[I") ∈ TB := TB_m (tc_4 (List.mem_of_getElem? (i := 128) rfl)) rfl
theorem tw_850 : (Cond.lays "ProofLibrary$Definitions" "ProofLibrary$Definitions" "bodiesUsed" "I") ∈ TB := TB_m (tc_4 (List.mem_of_getElem? (i := 130) rfl)) rfl
theorem tw_852 : (Cond.laysFinal "ProofLibrary$Definitions" "ProofLibrary$Definitions" "slots" "[I") ∈ TB := TB_m (tc_4 (List.mem_of_getElem? (i := 132) rfl)) rfl
theorem tw_854 : (Cond.lays "ProofLibrary$Definitions" "ProofLibrary$Definitions" "firstTree" "I") ∈ TB := TB_m (tc_4 (List.mem_of_getElem? (i := 134) rfl)) rfl
theorem tw_856 : (Cond.lays "ProofLibrary$Definitions" "ProofLibrary$Definitions" "secondTree" "I") ∈ TB := TB_m (tc_4 (List.mem_of_getElem? (i := 136) rfl)) rfl
theorem tw_859 : (Cond.classLink "ProofLibrary" 113 "ProofLibrary$Paper") ∈ TB := TB_m (tc_4 (List.mem_of_getElem? (i := 139) rfl)) rfl
theorem tw_860 : (Cond.instantiable "ProofLibrary$Paper" 6) ∈ TB := TB_m (tc_4 (List.mem_of_getElem? (i := 140) rfl)) rfl
theorem tw_861 : (Cond.methodLink "ProofLibrary" 115 ⟨"ProofLibrary$Paper", "<init>", "(LProofLibrary$Library;)V"⟩) ∈ TB := TB_m (tc_4 (List.mem_of_getElem? (i := 141) rfl)) rfl
theorem tw_862 : (Cond.instanceMethod ⟨"ProofLibrary$Paper", "<init>", "(LProofLibrary$Library;)V"⟩) ∈ TB := TB_m (tc_4 (List.mem_of_getElem? (i := 142) rfl)) rfl
theorem tw_863 : (Cond.code ⟨"ProofLibrary$Paper", "<init>", "(LProofLibrary$Library;)V"⟩ prog_7_method_1_code 2 none) ∈ TB := TB_m (tc_4 (List.mem_of_getElem? (i := 143) rfl)) rfl
theorem tw_864 : (Cond.methodLink "ProofLibrary$Paper" 3 ⟨"java/lang/Object", "<init>", "()V"⟩) ∈ TB := TB_m (tc_4 (List.mem_of_getElem? (i := 144) rfl)) rfl
theorem tw_865 : (Cond.fieldLink "ProofLibrary$Paper" 18 "ProofLibrary$Paper" "library" "LProofLibrary$Library;") ∈ TB := TB_m (tc_4 (List.mem_of_getElem? (i := 145) rfl)) rfl
theorem tw_866 : (Cond.fieldLink "ProofLibrary$Paper" 9 "ProofLibrary$Paper" "draft" "[C") ∈ TB := TB_m (tc_4 (List.mem_of_getElem? (i := 146) rfl)) rfl
theorem tw_867 : (Cond.fieldLink "ProofLibrary$Paper" 22 "ProofLibrary$Paper" "draftLength" "I") ∈ TB := TB_m (tc_4 (List.mem_of_getElem? (i := 147) rfl)) rfl
theorem tw_868 : (Cond.fieldLink "ProofLibrary$Paper" 26 "ProofLibrary$Paper" "overflow" "Z") ∈ TB := TB_m (tc_4 (List.mem_of_getElem? (i := 148) rfl)) rfl
theorem tw_869 : (Cond.fieldLink "ProofLibrary$Paper" 15 "ProofLibrary$Paper" "shown" "[C") ∈ TB := TB_m (tc_4 (List.mem_of_getElem? (i := 149) rfl)) rfl
theorem tw_870 : (Cond.fieldLink "ProofLibrary$Paper" 57 "ProofLibrary$Paper" "shownLength" "I") ∈ TB := TB_m (tc_4 (List.mem_of_getElem? (i := 150) rfl)) rfl
theorem tw_871 : (Cond.laysFinal "ProofLibrary$Paper" "ProofLibrary$Paper" "library" "LProofLibrary$Library;") ∈ TB := TB_m (tc_4 (List.mem_of_getElem? (i := 151) rfl)) rfl
theorem tw_873 : (Cond.lays "ProofLibrary$Paper" "ProofLibrary$Paper" "draft" "[C") ∈ TB := TB_m (tc_4 (List.mem_of_getElem? (i := 153) rfl)) rfl
theorem tw_875 : (Cond.lays "ProofLibrary$Paper" "ProofLibrary$Paper" "draftLength" "I") ∈ TB := TB_m (tc_4 (List.mem_of_getElem? (i := 155) rfl)) rfl
theorem tw_877 : (Cond.lays "ProofLibrary$Paper" "ProofLibrary$Paper" "overflow" "Z") ∈ TB := TB_m (tc_4 (List.mem_of_getElem? (i := 157) rfl)) rfl
theorem tw_879 : (Cond.lays "ProofLibrary$Paper" "ProofLibrary$Paper" "shown" "[C") ∈ TB := TB_m (tc_4 (List.mem_of_getElem? (i := 159) rfl)) rfl
theorem tw_881 : (Cond.lays "ProofLibrary$Paper" "ProofLibrary$Paper" "shownLength" "I") ∈ TB := TB_m (tc_4 (List.mem_of_getElem? (i := 161) rfl)) rfl
theorem tw_884 : (Cond.fieldLink "ProofLibrary" 10 "ProofLibrary" "tape" "[C") ∈ TB := TB_m (tc_4 (List.mem_of_getElem? (i := 164) rfl)) rfl
theorem tw_885 : (Cond.fieldLink "ProofLibrary" 120 "ProofLibrary" "tapeLength" "I") ∈ TB := TB_m (tc_4 (List.mem_of_getElem? (i := 165) rfl)) rfl
theorem tw_886 : (Cond.fieldLink "ProofLibrary" 123 "ProofLibrary" "canEnd" "Z") ∈ TB := TB_m (tc_4 (List.mem_of_getElem? (i := 166) rfl)) rfl
theorem tw_887 : (Cond.fieldLink "ProofLibrary" 14 "ProofLibrary" "faultPlace" "I") ∈ TB := TB_m (tc_4 (List.mem_of_getElem? (i := 167) rfl)) rfl
theorem tw_888 : (Cond.fieldLink "ProofLibrary" 18 "ProofLibrary" "asked" "[I") ∈ TB := TB_m (tc_4 (List.mem_of_getElem? (i := 168) rfl)) rfl
theorem tw_889 : (Cond.fieldLink "ProofLibrary" 25 "ProofLibrary" "library" "LProofLibrary$Library;") ∈ TB := TB_m (tc_4 (List.mem_of_getElem? (i := 169) rfl)) rfl
theorem tw_890 : (Cond.fieldLink "ProofLibrary" 34 "ProofLibrary" "scopes" "LProofLibrary$Scopes;") ∈ TB := TB_m (tc_4 (List.mem_of_getElem? (i := 170) rfl)) rfl
theorem tw_891 : (Cond.fieldLink "ProofLibrary" 43 "ProofLibrary" "assertions" "LProofLibrary$Assertions;") ∈ TB := TB_m (tc_4 (List.mem_of_getElem? (i := 171) rfl)) rfl
theorem tw_892 : (Cond.fieldLink "ProofLibrary" 52 "ProofLibrary" "pile" "LProofLibrary$Pile;") ∈ TB := TB_m (tc_4 (List.mem_of_getElem? (i := 172) rfl)) rfl
theorem tw_893 : (Cond.fieldLink "ProofLibrary" 66 "ProofLibrary" "reader" "LProofLibrary$Reader;") ∈ TB := TB_m (tc_4 (List.mem_of_getElem? (i := 173) rfl)) rfl
theorem tw_894 : (Cond.fieldLink "ProofLibrary" 75 "ProofLibrary" "packer" "LProofLibrary$Packer;") ∈ TB := TB_m (tc_4 (List.mem_of_getElem? (i := 174) rfl)) rfl
theorem tw_895 : (Cond.fieldLink "ProofLibrary" 82 "ProofLibrary" "rules" "LProofLibrary$Rules;") ∈ TB := TB_m (tc_4 (List.mem_of_getElem? (i := 175) rfl)) rfl
theorem tw_896 : (Cond.fieldLink "ProofLibrary" 91 "ProofLibrary" "chart" "LProofLibrary$Chart;") ∈ TB := TB_m (tc_4 (List.mem_of_getElem? (i := 176) rfl)) rfl
theorem tw_897 : (Cond.fieldLink "ProofLibrary" 100 "ProofLibrary" "tree" "LProofLibrary$Tree;") ∈ TB := TB_m (tc_4 (List.mem_of_getElem? (i := 177) rfl)) rfl
theorem tw_898 : (Cond.fieldLink "ProofLibrary" 109 "ProofLibrary" "definitions" "LProofLibrary$Definitions;") ∈ TB := TB_m (tc_4 (List.mem_of_getElem? (i := 178) rfl)) rfl
theorem tw_899 : (Cond.fieldLink "ProofLibrary" 116 "ProofLibrary" "paper" "LProofLibrary$Paper;") ∈ TB := TB_m (tc_4 (List.mem_of_getElem? (i := 179) rfl)) rfl
theorem tw_900 : (Cond.laysFinal "ProofLibrary" "ProofLibrary" "tape" "[C") ∈ TB := TB_m (tc_4 (List.mem_of_getElem? (i := 180) rfl)) rfl
theorem tw_902 : (Cond.lays "ProofLibrary" "ProofLibrary" "tapeLength" "I") ∈ TB := TB_m (tc_4 (List.mem_of_getElem? (i := 182) rfl)) rfl
theorem tw_904 : (Cond.lays "ProofLibrary" "ProofLibrary" "canEnd" "Z") ∈ TB := TB_m (tc_4 (List.mem_of_getElem? (i := 184) rfl)) rfl
theorem tw_906 : (Cond.lays "ProofLibrary" "ProofLibrary" "faultPlace" "I") ∈ TB := TB_m (tc_4 (List.mem_of_getElem? (i := 186) rfl)) rfl
theorem tw_908 : (Cond.laysFinal "ProofLibrary" "ProofLibrary" "asked" "[I") ∈ TB := TB_m (tc_4 (List.mem_of_getElem? (i := 188) rfl)) rfl
theorem tw_910 : (Cond.laysFinal "ProofLibrary" "ProofLibrary" "library" "LProofLibrary$Library;") ∈ TB := TB_m (tc_4 (List.mem_of_getElem? (i := 190) rfl)) rfl
theorem tw_912 : (Cond.laysFinal "ProofLibrary" "ProofLibrary" "scopes" "LProofLibrary$Scopes;") ∈ TB := TB_m (tc_4 (List.mem_of_getElem? (i := 192) rfl)) rfl
theorem tw_914 : (Cond.laysFinal "ProofLibrary" "ProofLibrary" "assertions" "LProofLibrary$Assertions;") ∈ TB := TB_m (tc_4 (List.mem_of_getElem? (i := 194) rfl)) rfl
theorem tw_916 : (Cond.laysFinal "ProofLibrary" "ProofLibrary" "pile" "LProofLibrary$Pile;") ∈ TB := TB_m (tc_4 (List.mem_of_getElem? (i := 196) rfl)) rfl
theorem tw_918 : (Cond.laysFinal "ProofLibrary" "ProofLibrary" "reader" "LProofLibrary$Reader;") ∈ TB := TB_m (tc_4 (List.mem_of_getElem? (i := 198) rfl)) rfl
theorem tw_920 : (Cond.laysFinal "ProofLibrary" "ProofLibrary" "packer" "LProofLibrary$Packer;") ∈ TB := TB_m (tc_4 (List.mem_of_getElem? (i := 200) rfl)) rfl
theorem tw_922 : (Cond.laysFinal "ProofLibrary" "ProofLibrary" "rules" "LProofLibrary$Rules;") ∈ TB := TB_m (tc_4 (List.mem_of_getElem? (i := 202) rfl)) rfl
theorem tw_924 : (Cond.laysFinal "ProofLibrary" "ProofLibrary" "chart" "LProofLibrary$Chart;") ∈ TB := TB_m (tc_4 (List.mem_of_getElem? (i := 204) rfl)) rfl
theorem tw_926 : (Cond.laysFinal "ProofLibrary" "ProofLibrary" "tree" "LProofLibrary$Tree;") ∈ TB := TB_m (tc_4 (List.mem_of_getElem? (i := 206) rfl)) rfl
theorem tw_928 : (Cond.laysFinal "ProofLibrary" "ProofLibrary" "definitions" "LProofLibrary$Definitions;") ∈ TB := TB_m (tc_4 (List.mem_of_getElem? (i := 208) rfl)) rfl
theorem tw_930 : (Cond.laysFinal "ProofLibrary" "ProofLibrary" "paper" "LProofLibrary$Paper;") ∈ TB := TB_m (tc_4 (List.mem_of_getElem? (i := 210) rfl)) rfl
theorem tw_933 : (Cond.methodLink "ProofLibraryLaw" 13 ⟨"ProofLibrary", "feed", "(IIIII)I"⟩) ∈ TB := TB_m (tc_4 (List.mem_of_getElem? (i := 213) rfl)) rfl
theorem tw_934 : (Cond.instanceMethod ⟨"ProofLibrary", "feed", "(IIIII)I"⟩) ∈ TB := TB_m (tc_4 (List.mem_of_getElem? (i := 214) rfl)) rfl
theorem tw_935 : (Cond.selects "ProofLibrary" ⟨"ProofLibrary", "feed", "(IIIII)I"⟩ ⟨"ProofLibrary", "feed", "(IIIII)I"⟩) ∈ TB := TB_m (tc_4 (List.mem_of_getElem? (i := 215) rfl)) rfl
theorem tw_936 : (Cond.code ⟨"ProofLibrary", "feed", "(IIIII)I"⟩ prog_1_method_2_code 6 (some .int)) ∈ TB := TB_m (tc_4 (List.mem_of_getElem? (i := 216) rfl)) rfl
theorem tw_937 : (Cond.methodLink "ProofLibrary" 127 ⟨"ProofLibrary", "putFour", "(I)V"⟩) ∈ TB := TB_m (tc_4 (List.mem_of_getElem? (i := 217) rfl)) rfl
theorem tw_939 : (Cond.instanceMethod ⟨"ProofLibrary", "putFour", "(I)V"⟩) ∈ TB := TB_m (tc_4 (List.mem_of_getElem? (i := 219) rfl)) rfl
theorem tw_940 : (Cond.code ⟨"ProofLibrary", "putFour", "(I)V"⟩ prog_1_method_3_code 3 none) ∈ TB := TB_m (tc_4 (List.mem_of_getElem? (i := 220) rfl)) rfl
theorem tw_941 : (Cond.methodLink "ProofLibraryLaw" 18 ⟨"ProofLibrary", "end", "(I)I"⟩) ∈ TB := TB_m (tc_4 (List.mem_of_getElem? (i := 221) rfl)) rfl
theorem tw_942 : (Cond.instanceMethod ⟨"ProofLibrary", "end", "(I)I"⟩) ∈ TB := TB_m (tc_4 (List.mem_of_getElem? (i := 222) rfl)) rfl
theorem tw_943 : (Cond.selects "ProofLibrary" ⟨"ProofLibrary", "end", "(I)I"⟩ ⟨"ProofLibrary", "end", "(I)I"⟩) ∈ TB := TB_m (tc_4 (List.mem_of_getElem? (i := 223) rfl)) rfl
theorem tw_944 : (Cond.code ⟨"ProofLibrary", "end", "(I)I"⟩ prog_1_method_4_code 2 (some .int)) ∈ TB := TB_m (tc_4 (List.mem_of_getElem? (i := 224) rfl)) rfl
theorem tw_945 : (Cond.methodLink "ProofLibraryLaw" 23 ⟨"ProofLibrary", "read", "()I"⟩) ∈ TB := TB_m (tc_4 (List.mem_of_getElem? (i := 225) rfl)) rfl
theorem tw_946 : (Cond.instanceMethod ⟨"ProofLibrary", "read", "()I"⟩) ∈ TB := TB_m (tc_4 (List.mem_of_getElem? (i := 226) rfl)) rfl
theorem tw_947 : (Cond.selects "ProofLibrary" ⟨"ProofLibrary", "read", "()I"⟩ ⟨"ProofLibrary", "read", "()I"⟩) ∈ TB := TB_m (tc_4 (List.mem_of_getElem? (i := 227) rfl)) rfl
theorem tw_948 : (Cond.code ⟨"ProofLibrary", "read", "()I"⟩ prog_1_method_5_code 2 (some .int)) ∈ TB := TB_m (tc_4 (List.mem_of_getElem? (i := 228) rfl)) rfl
theorem tw_949 : (Cond.methodLink "ProofLibrary" 131 ⟨"ProofLibrary$Reader", "readText", "([CI)I"⟩) ∈ TB := TB_m (tc_4 (List.mem_of_getElem? (i := 229) rfl)) rfl
theorem tw_950 : (Cond.instanceMethod ⟨"ProofLibrary$Reader", "readText", "([CI)I"⟩) ∈ TB := TB_m (tc_4 (List.mem_of_getElem? (i := 230) rfl)) rfl
theorem tw_951 : (Cond.selects "ProofLibrary$Reader" ⟨"ProofLibrary$Reader", "readText", "([CI)I"⟩ ⟨"ProofLibrary$Reader", "readText", "([CI)I"⟩) ∈ TB := TB_m (tc_4 (List.mem_of_getElem? (i := 231) rfl)) rfl
theorem tw_952 : (Cond.code ⟨"ProofLibrary$Reader", "readText", "([CI)I"⟩ prog_9_method_2_code 7 (some .int)) ∈ TB := TB_m (tc_4 (List.mem_of_getElem? (i := 232) rfl)) rfl
theorem tw_953 : (Cond.methodLink "ProofLibrary$Reader" 31 ⟨"ProofLibrary$Reader", "begin", "([C)V"⟩) ∈ TB := TB_m (tc_4 (List.mem_of_getElem? (i := 233) rfl)) rfl
theorem tw_955 : (Cond.instanceMethod ⟨"ProofLibrary$Reader", "begin", "([C)V"⟩) ∈ TB := TB_m (tc_4 (List.mem_of_getElem? (i := 235) rfl)) rfl
theorem tw_956 : (Cond.code ⟨"ProofLibrary$Reader", "begin", "([C)V"⟩ prog_9_method_3_code 2 none) ∈ TB := TB_m (tc_4 (List.mem_of_getElem? (i := 236) rfl)) rfl
theorem tw_957 : (Cond.methodLink "ProofLibrary$Reader" 79 ⟨"ProofLibrary$Library", "keep", "()V"⟩) ∈ TB := TB_m (tc_4 (List.mem_of_getElem? (i := 237) rfl)) rfl
theorem tw_958 : (Cond.instanceMethod ⟨"ProofLibrary$Library", "keep", "()V"⟩) ∈ TB := TB_m (tc_4 (List.mem_of_getElem? (i := 238) rfl)) rfl
theorem tw_959 : (Cond.selects "ProofLibrary$Library" ⟨"ProofLibrary$Library", "keep", "()V"⟩ ⟨"ProofLibrary$Library", "keep", "()V"⟩) ∈ TB := TB_m (tc_4 (List.mem_of_getElem? (i := 239) rfl)) rfl
theorem tw_960 : (Cond.code ⟨"ProofLibrary$Library", "keep", "()V"⟩ prog_5_method_25_code 1 none) ∈ TB := TB_m (tc_5 (List.mem_of_getElem? (i := 0) rfl)) rfl
theorem tw_961 : (Cond.methodLink "ProofLibrary$Reader" 82 ⟨"ProofLibrary$Assertions", "keep", "()V"⟩) ∈ TB := TB_m (tc_5 (List.mem_of_getElem? (i := 1) rfl)) rfl
theorem tw_962 : (Cond.instanceMethod ⟨"ProofLibrary$Assertions", "keep", "()V"⟩) ∈ TB := TB_m (tc_5 (List.mem_of_getElem? (i := 2) rfl)) rfl
theorem tw_963 : (Cond.selects "ProofLibrary$Assertions" ⟨"ProofLibrary$Assertions", "keep", "()V"⟩ ⟨"ProofLibrary$Assertions", "keep", "()V"⟩) ∈ TB := TB_m (tc_5 (List.mem_of_getElem? (i := 3) rfl)) rfl
theorem tw_964 : (Cond.code ⟨"ProofLibrary$Assertions", "keep", "()V"⟩ prog_2_method_2_code 1 none) ∈ TB := TB_m (tc_5 (List.mem_of_getElem? (i := 4) rfl)) rfl
theorem tw_965 : (Cond.methodLink "ProofLibrary$Reader" 83 ⟨"ProofLibrary$Scopes", "keep", "()V"⟩) ∈ TB := TB_m (tc_5 (List.mem_of_getElem? (i := 5) rfl)) rfl
theorem tw_966 : (Cond.instanceMethod ⟨"ProofLibrary$Scopes", "keep", "()V"⟩) ∈ TB := TB_m (tc_5 (List.mem_of_getElem? (i := 6) rfl)) rfl
theorem tw_967 : (Cond.selects "ProofLibrary$Scopes" ⟨"ProofLibrary$Scopes", "keep", "()V"⟩ ⟨"ProofLibrary$Scopes", "keep", "()V"⟩) ∈ TB := TB_m (tc_5 (List.mem_of_getElem? (i := 7) rfl)) rfl
theorem tw_968 : (Cond.code ⟨"ProofLibrary$Scopes", "keep", "()V"⟩ prog_11_method_2_code 1 none) ∈ TB := TB_m (tc_5 (List.mem_of_getElem? (i := 8) rfl)) rfl
theorem tw_969 : (Cond.methodLink "ProofLibrary$Scopes" 58 ⟨"ProofLibrary$Scopes", "mark", "()V"⟩) ∈ TB := TB_m (tc_5 (List.mem_of_getElem? (i := 9) rfl)) rfl
theorem tw_971 : (Cond.instanceMethod ⟨"ProofLibrary$Scopes", "mark", "()V"⟩) ∈ TB := TB_m (tc_5 (List.mem_of_getElem? (i := 11) rfl)) rfl
theorem tw_972 : (Cond.code ⟨"ProofLibrary$Scopes", "mark", "()V"⟩ prog_11_method_6_code 1 none) ∈ TB := TB_m (tc_5 (List.mem_of_getElem? (i := 12) rfl)) rfl
theorem tn_973 : (Cond.methodLinkNest "ProofLibrary$Reader" 35 ⟨"ProofLibrary", "skipBlanks", "([CII)I"⟩ "ProofLibrary") ∈ NB := NB_m (tc_5 (List.mem_of_getElem? (i := 13) rfl)) rfl
theorem tw_974 : (Cond.static ⟨"ProofLibrary", "skipBlanks", "([CII)I"⟩) ∈ TB := TB_m (tc_5 (List.mem_of_getElem? (i := 14) rfl)) rfl
theorem tw_975 : (Cond.code ⟨"ProofLibrary", "skipBlanks", "([CII)I"⟩ prog_1_method_46_code 4 (some .int)) ∈ TB := TB_m (tc_5 (List.mem_of_getElem? (i := 15) rfl)) rfl
theorem tw_976 : (Cond.methodLink "ProofLibrary" 443 ⟨"ProofLibrary", "isBlank", "(I)Z"⟩) ∈ TB := TB_m (tc_5 (List.mem_of_getElem? (i := 16) rfl)) rfl
theorem tw_977 : (Cond.static ⟨"ProofLibrary", "isBlank", "(I)Z"⟩) ∈ TB := TB_m (tc_5 (List.mem_of_getElem? (i := 17) rfl)) rfl
theorem tw_978 : (Cond.code ⟨"ProofLibrary", "isBlank", "(I)Z"⟩ prog_1_method_43_code 1 (some .boolean)) ∈ TB := TB_m (tc_5 (List.mem_of_getElem? (i := 18) rfl)) rfl
theorem tn_979 : (Cond.methodLinkNest "ProofLibrary$Reader" 39 ⟨"ProofLibrary", "tokenEnd", "([CII)I"⟩ "ProofLibrary") ∈ NB := NB_m (tc_5 (List.mem_of_getElem? (i := 19) rfl)) rfl
theorem tw_980 : (Cond.static ⟨"ProofLibrary", "tokenEnd", "([CII)I"⟩) ∈ TB := TB_m (tc_5 (List.mem_of_getElem? (i := 20) rfl)) rfl
theorem tw_981 : (Cond.code ⟨"ProofLibrary", "tokenEnd", "([CII)I"⟩ prog_1_method_47_code 4 (some .int)) ∈ TB := TB_m (tc_5 (List.mem_of_getElem? (i := 21) rfl)) rfl
theorem tw_982 : (Cond.methodLink "ProofLibrary" 446 ⟨"ProofLibrary", "isVisible", "(I)Z"⟩) ∈ TB := TB_m (tc_5 (List.mem_of_getElem? (i := 22) rfl)) rfl
theorem tw_983 : (Cond.static ⟨"ProofLibrary", "isVisible", "(I)Z"⟩) ∈ TB := TB_m (tc_5 (List.mem_of_getElem? (i := 23) rfl)) rfl
theorem tw_984 : (Cond.code ⟨"ProofLibrary", "isVisible", "(I)Z"⟩ prog_1_method_44_code 1 (some .boolean)) ∈ TB := TB_m (tc_5 (List.mem_of_getElem? (i := 24) rfl)) rfl
theorem tw_985 : (Cond.methodLink "ProofLibrary$Reader" 46 ⟨"ProofLibrary$Reader", "token", "(II)I"⟩) ∈ TB := TB_m (tc_5 (List.mem_of_getElem? (i := 25) rfl)) rfl
theorem tw_987 : (Cond.instanceMethod ⟨"ProofLibrary$Reader", "token", "(II)I"⟩) ∈ TB := TB_m (tc_5 (List.mem_of_getElem? (i := 27) rfl)) rfl
theorem tw_988 : (Cond.code ⟨"ProofLibrary$Reader", "token", "(II)I"⟩ prog_9_method_5_code 7 (some .int)) ∈ TB := TB_m (tc_5 (List.mem_of_getElem? (i := 28) rfl)) rfl
theorem tw_989 : (Cond.methodLink "ProofLibrary$Reader" 87 ⟨"ProofLibrary$Reader", "hasCommentMark", "(II)Z"⟩) ∈ TB := TB_m (tc_5 (List.mem_of_getElem? (i := 29) rfl)) rfl
theorem tw_991 : (Cond.instanceMethod ⟨"ProofLibrary$Reader", "hasCommentMark", "(II)Z"⟩) ∈ TB := TB_m (tc_5 (List.mem_of_getElem? (i := 31) rfl)) rfl
theorem tw_992 : (Cond.code ⟨"ProofLibrary$Reader", "hasCommentMark", "(II)Z"⟩ prog_9_method_6_code 4 (some .boolean)) ∈ TB := TB_m (tc_5 (List.mem_of_getElem? (i := 32) rfl)) rfl
theorem tw_993 : (Cond.methodLink "ProofLibrary$Reader" 91 ⟨"ProofLibrary$Reader", "endRow", "()I"⟩) ∈ TB := TB_m (tc_5 (List.mem_of_getElem? (i := 33) rfl)) rfl
theorem tw_995 : (Cond.instanceMethod ⟨"ProofLibrary$Reader", "endRow", "()I"⟩) ∈ TB := TB_m (tc_5 (List.mem_of_getElem? (i := 35) rfl)) rfl
theorem tw_996 : (Cond.code ⟨"ProofLibrary$Reader", "endRow", "()I"⟩ prog_9_method_14_code 1 (some .int)) ∈ TB := TB_m (tc_5 (List.mem_of_getElem? (i := 36) rfl)) rfl
theorem tw_997 : (Cond.methodLink "ProofLibrary$Reader" 162 ⟨"ProofLibrary$Reader", "endDeclaration", "(I)I"⟩) ∈ TB := TB_m (tc_5 (List.mem_of_getElem? (i := 37) rfl)) rfl
theorem tw_999 : (Cond.instanceMethod ⟨"ProofLibrary$Reader", "endDeclaration", "(I)I"⟩) ∈ TB := TB_m (tc_5 (List.mem_of_getElem? (i := 39) rfl)) rfl
theorem tw_1000 : (Cond.code ⟨"ProofLibrary$Reader", "endDeclaration", "(I)I"⟩ prog_9_method_15_code 2 (some .int)) ∈ TB := TB_m (tc_5 (List.mem_of_getElem? (i := 40) rfl)) rfl
theorem tw_1001 : (Cond.methodLink "ProofLibrary$Reader" 165 ⟨"ProofLibrary$Reader", "endStatement", "()I"⟩) ∈ TB := TB_m (tc_5 (List.mem_of_getElem? (i := 41) rfl)) rfl
theorem tw_1003 : (Cond.instanceMethod ⟨"ProofLibrary$Reader", "endStatement", "()I"⟩) ∈ TB := TB_m (tc_5 (List.mem_of_getElem? (i := 43) rfl)) rfl
theorem tw_1004 : (Cond.code ⟨"ProofLibrary$Reader", "endStatement", "()I"⟩ prog_9_method_16_code 3 (some .int)) ∈ TB := TB_m (tc_5 (List.mem_of_getElem? (i := 44) rfl)) rfl
theorem tw_1005 : (Cond.methodLink "ProofLibrary$Reader" 155 ⟨"ProofLibrary$Assertions", "makeFrame", "(I)Z"⟩) ∈ TB := TB_m (tc_5 (List.mem_of_getElem? (i := 45) rfl)) rfl
theorem tw_1006 : (Cond.instanceMethod ⟨"ProofLibrary$Assertions", "makeFrame", "(I)Z"⟩) ∈ TB := TB_m (tc_5 (List.mem_of_getElem? (i := 46) rfl)) rfl
theorem tw_1007 : (Cond.selects "ProofLibrary$Assertions" ⟨"ProofLibrary$Assertions", "makeFrame", "(I)Z"⟩ ⟨"ProofLibrary$Assertions", "makeFrame", "(I)Z"⟩) ∈ TB := TB_m (tc_5 (List.mem_of_getElem? (i := 47) rfl)) rfl
theorem tw_1008 : (Cond.code ⟨"ProofLibrary$Assertions", "makeFrame", "(I)Z"⟩ prog_2_method_4_code 3 (some .boolean)) ∈ TB := TB_m (tc_5 (List.mem_of_getElem? (i := 48) rfl)) rfl
theorem tw_1009 : (Cond.methodLink "ProofLibrary$Assertions" 78 ⟨"ProofLibrary$Scopes", "markFrame", "(I)V"⟩) ∈ TB := TB_m (tc_5 (List.mem_of_getElem? (i := 49) rfl)) rfl
theorem tw_1010 : (Cond.instanceMethod ⟨"ProofLibrary$Scopes", "markFrame", "(I)V"⟩) ∈ TB := TB_m (tc_5 (List.mem_of_getElem? (i := 50) rfl)) rfl
theorem tw_1011 : (Cond.selects "ProofLibrary$Scopes" ⟨"ProofLibrary$Scopes", "markFrame", "(I)V"⟩ ⟨"ProofLibrary$Scopes", "markFrame", "(I)V"⟩) ∈ TB := TB_m (tc_5 (List.mem_of_getElem? (i := 51) rfl)) rfl
theorem tw_1012 : (Cond.code ⟨"ProofLibrary$Scopes", "markFrame", "(I)V"⟩ prog_11_method_13_code 3 none) ∈ TB := TB_m (tc_5 (List.mem_of_getElem? (i := 52) rfl)) rfl
theorem tw_1013 : (Cond.methodLink "ProofLibrary$Scopes" 89 ⟨"ProofLibrary$Scopes", "markVariables", "(I)V"⟩) ∈ TB := TB_m (tc_5 (List.mem_of_getElem? (i := 53) rfl)) rfl
theorem tw_1015 : (Cond.instanceMethod ⟨"ProofLibrary$Scopes", "markVariables", "(I)V"⟩) ∈ TB := TB_m (tc_5 (List.mem_of_getElem? (i := 55) rfl)) rfl
theorem tw_1016 : (Cond.code ⟨"ProofLibrary$Scopes", "markVariables", "(I)V"⟩ prog_11_method_14_code 3 none) ∈ TB := TB_m (tc_5 (List.mem_of_getElem? (i := 56) rfl)) rfl
theorem tw_1017 : (Cond.methodLink "ProofLibrary$Assertions" 84 ⟨"ProofLibrary$Assertions", "takeHypotheses", "(I)Z"⟩) ∈ TB := TB_m (tc_5 (List.mem_of_getElem? (i := 57) rfl)) rfl
theorem tw_1019 : (Cond.instanceMethod ⟨"ProofLibrary$Assertions", "takeHypotheses", "(I)Z"⟩) ∈ TB := TB_m (tc_5 (List.mem_of_getElem? (i := 59) rfl)) rfl
theorem tw_1020 : (Cond.code ⟨"ProofLibrary$Assertions", "takeHypotheses", "(I)Z"⟩ prog_2_method_5_code 4 (some .boolean)) ∈ TB := TB_m (tc_5 (List.mem_of_getElem? (i := 60) rfl)) rfl
theorem tw_1021 : (Cond.methodLink "ProofLibrary$Assertions" 100 ⟨"ProofLibrary$Library", "variableOf", "(I)I"⟩) ∈ TB := TB_m (tc_5 (List.mem_of_getElem? (i := 61) rfl)) rfl
theorem tw_1022 : (Cond.instanceMethod ⟨"ProofLibrary$Library", "variableOf", "(I)I"⟩) ∈ TB := TB_m (tc_5 (List.mem_of_getElem? (i := 62) rfl)) rfl
theorem tw_1023 : (Cond.selects "ProofLibrary$Library" ⟨"ProofLibrary$Library", "variableOf", "(I)I"⟩ ⟨"ProofLibrary$Library", "variableOf", "(I)I"⟩) ∈ TB := TB_m (tc_5 (List.mem_of_getElem? (i := 63) rfl)) rfl
theorem tw_1024 : (Cond.code ⟨"ProofLibrary$Library", "variableOf", "(I)I"⟩ prog_5_method_16_code 2 (some .int)) ∈ TB := TB_m (tc_5 (List.mem_of_getElem? (i := 64) rfl)) rfl
theorem tw_1025 : (Cond.methodLink "ProofLibrary$Assertions" 104 ⟨"ProofLibrary$Scopes", "isInFrame", "(I)Z"⟩) ∈ TB := TB_m (tc_5 (List.mem_of_getElem? (i := 65) rfl)) rfl
theorem tw_1026 : (Cond.instanceMethod ⟨"ProofLibrary$Scopes", "isInFrame", "(I)Z"⟩) ∈ TB := TB_m (tc_5 (List.mem_of_getElem? (i := 66) rfl)) rfl
theorem tw_1027 : (Cond.selects "ProofLibrary$Scopes" ⟨"ProofLibrary$Scopes", "isInFrame", "(I)Z"⟩ ⟨"ProofLibrary$Scopes", "isInFrame", "(I)Z"⟩) ∈ TB := TB_m (tc_5 (List.mem_of_getElem? (i := 67) rfl)) rfl
theorem tw_1028 : (Cond.code ⟨"ProofLibrary$Scopes", "isInFrame", "(I)Z"⟩ prog_11_method_15_code 2 (some .boolean)) ∈ TB := TB_m (tc_5 (List.mem_of_getElem? (i := 68) rfl)) rfl
theorem tw_1029 : (Cond.methodLink "ProofLibrary$Assertions" 88 ⟨"ProofLibrary$Assertions", "takePairs", "(I)Z"⟩) ∈ TB := TB_m (tc_5 (List.mem_of_getElem? (i := 69) rfl)) rfl
theorem tw_1031 : (Cond.instanceMethod ⟨"ProofLibrary$Assertions", "takePairs", "(I)Z"⟩) ∈ TB := TB_m (tc_5 (List.mem_of_getElem? (i := 71) rfl)) rfl
theorem tw_1032 : (Cond.code ⟨"ProofLibrary$Assertions", "takePairs", "(I)Z"⟩ prog_2_method_6_code 5 (some .boolean)) ∈ TB := TB_m (tc_5 (List.mem_of_getElem? (i := 72) rfl)) rfl
theorem tw_1033 : (Cond.methodLink "ProofLibrary$Reader" 171 ⟨"ProofLibrary$Library", "add", "(I)V"⟩) ∈ TB := TB_m (tc_5 (List.mem_of_getElem? (i := 73) rfl)) rfl
theorem tw_1034 : (Cond.instanceMethod ⟨"ProofLibrary$Library", "add", "(I)V"⟩) ∈ TB := TB_m (tc_5 (List.mem_of_getElem? (i := 74) rfl)) rfl
theorem tw_1035 : (Cond.selects "ProofLibrary$Library" ⟨"ProofLibrary$Library", "add", "(I)V"⟩ ⟨"ProofLibrary$Library", "add", "(I)V"⟩) ∈ TB := TB_m (tc_5 (List.mem_of_getElem? (i := 75) rfl)) rfl
theorem tw_1036 : (Cond.code ⟨"ProofLibrary$Library", "add", "(I)V"⟩ prog_5_method_15_code 2 none) ∈ TB := TB_m (tc_5 (List.mem_of_getElem? (i := 76) rfl)) rfl
theorem tw_1037 : (Cond.methodLink "ProofLibrary$Library" 106 ⟨"ProofLibrary$Library", "variableOf", "(I)I"⟩) ∈ TB := TB_m (tc_5 (List.mem_of_getElem? (i := 77) rfl)) rfl
theorem tw_1038 : (Cond.methodLink "ProofLibrary$Reader" 174 ⟨"ProofLibrary$Scopes", "addHypothesis", "(I)V"⟩) ∈ TB := TB_m (tc_5 (List.mem_of_getElem? (i := 78) rfl)) rfl
theorem tw_1039 : (Cond.instanceMethod ⟨"ProofLibrary$Scopes", "addHypothesis", "(I)V"⟩) ∈ TB := TB_m (tc_5 (List.mem_of_getElem? (i := 79) rfl)) rfl
theorem tw_1040 : (Cond.selects "ProofLibrary$Scopes" ⟨"ProofLibrary$Scopes", "addHypothesis", "(I)V"⟩ ⟨"ProofLibrary$Scopes", "addHypothesis", "(I)V"⟩) ∈ TB := TB_m (tc_5 (List.mem_of_getElem? (i := 80) rfl)) rfl
theorem tw_1041 : (Cond.code ⟨"ProofLibrary$Scopes", "addHypothesis", "(I)V"⟩ prog_11_method_9_code 2 none) ∈ TB := TB_m (tc_5 (List.mem_of_getElem? (i := 81) rfl)) rfl
theorem tw_1042 : (Cond.methodLink "ProofLibrary$Scopes" 82 ⟨"ProofLibrary$Library", "variableOf", "(I)I"⟩) ∈ TB := TB_m (tc_5 (List.mem_of_getElem? (i := 82) rfl)) rfl
theorem tw_1043 : (Cond.methodLink "ProofLibrary$Reader" 168 ⟨"ProofLibrary$Reader", "endProof", "()I"⟩) ∈ TB := TB_m (tc_5 (List.mem_of_getElem? (i := 83) rfl)) rfl
theorem tw_1045 : (Cond.instanceMethod ⟨"ProofLibrary$Reader", "endProof", "()I"⟩) ∈ TB := TB_m (tc_5 (List.mem_of_getElem? (i := 85) rfl)) rfl
theorem tw_1046 : (Cond.code ⟨"ProofLibrary$Reader", "endProof", "()I"⟩ prog_9_method_17_code 1 (some .int)) ∈ TB := TB_m (tc_5 (List.mem_of_getElem? (i := 86) rfl)) rfl
theorem tw_1047 : (Cond.methodLink "ProofLibrary$Reader" 177 ⟨"ProofLibrary$Steps", "isListing", "()Z"⟩) ∈ TB := TB_m (tc_5 (List.mem_of_getElem? (i := 87) rfl)) rfl
theorem tw_1048 : (Cond.instanceMethod ⟨"ProofLibrary$Steps", "isListing", "()Z"⟩) ∈ TB := TB_m (tc_5 (List.mem_of_getElem? (i := 88) rfl)) rfl
theorem tw_1049 : (Cond.selects "ProofLibrary$Steps" ⟨"ProofLibrary$Steps", "isListing", "()Z"⟩ ⟨"ProofLibrary$Steps", "isListing", "()Z"⟩) ∈ TB := TB_m (tc_5 (List.mem_of_getElem? (i := 89) rfl)) rfl
theorem tw_1050 : (Cond.code ⟨"ProofLibrary$Steps", "isListing", "()Z"⟩ prog_12_method_3_code 1 (some .boolean)) ∈ TB := TB_m (tc_5 (List.mem_of_getElem? (i := 90) rfl)) rfl
theorem tw_1051 : (Cond.methodLink "ProofLibrary$Reader" 181 ⟨"ProofLibrary$Steps", "isWithinNumber", "()Z"⟩) ∈ TB := TB_m (tc_5 (List.mem_of_getElem? (i := 91) rfl)) rfl
theorem tw_1052 : (Cond.instanceMethod ⟨"ProofLibrary$Steps", "isWithinNumber", "()Z"⟩) ∈ TB := TB_m (tc_5 (List.mem_of_getElem? (i := 92) rfl)) rfl
theorem tw_1053 : (Cond.selects "ProofLibrary$Steps" ⟨"ProofLibrary$Steps", "isWithinNumber", "()Z"⟩ ⟨"ProofLibrary$Steps", "isWithinNumber", "()Z"⟩) ∈ TB := TB_m (tc_5 (List.mem_of_getElem? (i := 93) rfl)) rfl
theorem tw_1054 : (Cond.code ⟨"ProofLibrary$Steps", "isWithinNumber", "()Z"⟩ prog_12_method_4_code 1 (some .boolean)) ∈ TB := TB_m (tc_5 (List.mem_of_getElem? (i := 94) rfl)) rfl
theorem tw_1055 : (Cond.methodLink "ProofLibrary$Reader" 94 ⟨"ProofLibrary$Reader", "keyword", "(I)I"⟩) ∈ TB := TB_m (tc_5 (List.mem_of_getElem? (i := 95) rfl)) rfl
theorem tw_1057 : (Cond.instanceMethod ⟨"ProofLibrary$Reader", "keyword", "(I)I"⟩) ∈ TB := TB_m (tc_5 (List.mem_of_getElem? (i := 97) rfl)) rfl
theorem tw_1058 : (Cond.code ⟨"ProofLibrary$Reader", "keyword", "(I)I"⟩ prog_9_method_8_code 2 (some .int)) ∈ TB := TB_m (tc_5 (List.mem_of_getElem? (i := 98) rfl)) rfl
theorem tw_1059 : (Cond.methodLink "ProofLibrary$Reader" 125 ⟨"ProofLibrary$Reader", "declaration", "(I)I"⟩) ∈ TB := TB_m (tc_5 (List.mem_of_getElem? (i := 99) rfl)) rfl
theorem tw_1061 : (Cond.instanceMethod ⟨"ProofLibrary$Reader", "declaration", "(I)I"⟩) ∈ TB := TB_m (tc_5 (List.mem_of_getElem? (i := 101) rfl)) rfl
theorem tw_1062 : (Cond.code ⟨"ProofLibrary$Reader", "declaration", "(I)I"⟩ prog_9_method_9_code 2 (some .int)) ∈ TB := TB_m (tc_5 (List.mem_of_getElem? (i := 102) rfl)) rfl
theorem tw_1063 : (Cond.methodLink "ProofLibrary$Reader" 128 ⟨"ProofLibrary$Reader", "statement", "(I)I"⟩) ∈ TB := TB_m (tc_5 (List.mem_of_getElem? (i := 103) rfl)) rfl
theorem tw_1065 : (Cond.instanceMethod ⟨"ProofLibrary$Reader", "statement", "(I)I"⟩) ∈ TB := TB_m (tc_5 (List.mem_of_getElem? (i := 105) rfl)) rfl
theorem tw_1066 : (Cond.code ⟨"ProofLibrary$Reader", "statement", "(I)I"⟩ prog_9_method_10_code 2 (some .int)) ∈ TB := TB_m (tc_5 (List.mem_of_getElem? (i := 106) rfl)) rfl
theorem tw_1067 : (Cond.methodLink "ProofLibrary$Reader" 131 ⟨"ProofLibrary$Reader", "proof", "()I"⟩) ∈ TB := TB_m (tc_5 (List.mem_of_getElem? (i := 107) rfl)) rfl
theorem tw_1069 : (Cond.instanceMethod ⟨"ProofLibrary$Reader", "proof", "()I"⟩) ∈ TB := TB_m (tc_5 (List.mem_of_getElem? (i := 109) rfl)) rfl
theorem tw_1070 : (Cond.code ⟨"ProofLibrary$Reader", "proof", "()I"⟩ prog_9_method_13_code 1 (some .int)) ∈ TB := TB_m (tc_5 (List.mem_of_getElem? (i := 110) rfl)) rfl
theorem tw_1071 : (Cond.methodLink "ProofLibrary$Reader" 159 ⟨"ProofLibrary$Steps", "begin", "(I)V"⟩) ∈ TB := TB_m (tc_5 (List.mem_of_getElem? (i := 111) rfl)) rfl
theorem tw_1072 : (Cond.instanceMethod ⟨"ProofLibrary$Steps", "begin", "(I)V"⟩) ∈ TB := TB_m (tc_5 (List.mem_of_getElem? (i := 112) rfl)) rfl
theorem tw_1073 : (Cond.selects "ProofLibrary$Steps" ⟨"ProofLibrary$Steps", "begin", "(I)V"⟩ ⟨"ProofLibrary$Steps", "begin", "(I)V"⟩) ∈ TB := TB_m (tc_5 (List.mem_of_getElem? (i := 113) rfl)) rfl
theorem tw_1074 : (Cond.code ⟨"ProofLibrary$Steps", "begin", "(I)V"⟩ prog_12_method_2_code 2 none) ∈ TB := TB_m (tc_5 (List.mem_of_getElem? (i := 114) rfl)) rfl
theorem tw_1075 : (Cond.methodLink "ProofLibrary$Reader" 134 ⟨"ProofLibrary$Reader", "openScope", "()I"⟩) ∈ TB := TB_m (tc_5 (List.mem_of_getElem? (i := 115) rfl)) rfl
theorem tw_1077 : (Cond.instanceMethod ⟨"ProofLibrary$Reader", "openScope", "()I"⟩) ∈ TB := TB_m (tc_5 (List.mem_of_getElem? (i := 117) rfl)) rfl
theorem tw_1078 : (Cond.code ⟨"ProofLibrary$Reader", "openScope", "()I"⟩ prog_9_method_11_code 1 (some .int)) ∈ TB := TB_m (tc_5 (List.mem_of_getElem? (i := 118) rfl)) rfl
theorem tw_1079 : (Cond.methodLink "ProofLibrary$Reader" 146 ⟨"ProofLibrary$Scopes", "open", "()V"⟩) ∈ TB := TB_m (tc_5 (List.mem_of_getElem? (i := 119) rfl)) rfl
theorem tw_1080 : (Cond.instanceMethod ⟨"ProofLibrary$Scopes", "open", "()V"⟩) ∈ TB := TB_m (tc_5 (List.mem_of_getElem? (i := 120) rfl)) rfl
theorem tw_1081 : (Cond.selects "ProofLibrary$Scopes" ⟨"ProofLibrary$Scopes", "open", "()V"⟩ ⟨"ProofLibrary$Scopes", "open", "()V"⟩) ∈ TB := TB_m (tc_5 (List.mem_of_getElem? (i := 121) rfl)) rfl
theorem tw_1082 : (Cond.code ⟨"ProofLibrary$Scopes", "open", "()V"⟩ prog_11_method_4_code 1 none) ∈ TB := TB_m (tc_5 (List.mem_of_getElem? (i := 122) rfl)) rfl
theorem tw_1083 : (Cond.methodLink "ProofLibrary$Reader" 137 ⟨"ProofLibrary$Reader", "closeScope", "()I"⟩) ∈ TB := TB_m (tc_5 (List.mem_of_getElem? (i := 123) rfl)) rfl
theorem tw_1085 : (Cond.instanceMethod ⟨"ProofLibrary$Reader", "closeScope", "()I"⟩) ∈ TB := TB_m (tc_5 (List.mem_of_getElem? (i := 125) rfl)) rfl
theorem tw_1086 : (Cond.code ⟨"ProofLibrary$Reader", "closeScope", "()I"⟩ prog_9_method_12_code 1 (some .int)) ∈ TB := TB_m (tc_5 (List.mem_of_getElem? (i := 126) rfl)) rfl
theorem tw_1087 : (Cond.methodLink "ProofLibrary$Reader" 149 ⟨"ProofLibrary$Scopes", "close", "()V"⟩) ∈ TB := TB_m (tc_5 (List.mem_of_getElem? (i := 127) rfl)) rfl
theorem tw_1088 : (Cond.instanceMethod ⟨"ProofLibrary$Scopes", "close", "()V"⟩) ∈ TB := TB_m (tc_5 (List.mem_of_getElem? (i := 128) rfl)) rfl
theorem tw_1089 : (Cond.selects "ProofLibrary$Scopes" ⟨"ProofLibrary$Scopes", "close", "()V"⟩ ⟨"ProofLibrary$Scopes", "close", "()V"⟩) ∈ TB := TB_m (tc_5 (List.mem_of_getElem? (i := 129) rfl)) rfl
theorem tw_1090 : (Cond.code ⟨"ProofLibrary$Scopes", "close", "()V"⟩ prog_11_method_5_code 1 none) ∈ TB := TB_m (tc_5 (List.mem_of_getElem? (i := 130) rfl)) rfl
theorem tw_1091 : (Cond.methodLink "ProofLibrary$Scopes" 61 ⟨"ProofLibrary$Scopes", "cut", "()V"⟩) ∈ TB := TB_m (tc_5 (List.mem_of_getElem? (i := 131) rfl)) rfl
theorem tw_1093 : (Cond.instanceMethod ⟨"ProofLibrary$Scopes", "cut", "()V"⟩) ∈ TB := TB_m (tc_5 (List.mem_of_getElem? (i := 133) rfl)) rfl
theorem tw_1094 : (Cond.code ⟨"ProofLibrary$Scopes", "cut", "()V"⟩ prog_11_method_7_code 2 none) ∈ TB := TB_m (tc_5 (List.mem_of_getElem? (i := 134) rfl)) rfl
theorem tw_1095 : (Cond.methodLink "ProofLibrary$Scopes" 73 ⟨"ProofLibrary$Scopes", "turnPair", "(II)V"⟩) ∈ TB := TB_m (tc_5 (List.mem_of_getElem? (i := 135) rfl)) rfl
theorem tw_1097 : (Cond.instanceMethod ⟨"ProofLibrary$Scopes", "turnPair", "(II)V"⟩) ∈ TB := TB_m (tc_5 (List.mem_of_getElem? (i := 137) rfl)) rfl
theorem tw_1098 : (Cond.code ⟨"ProofLibrary$Scopes", "turnPair", "(II)V"⟩ prog_11_method_11_code 3 none) ∈ TB := TB_m (tc_5 (List.mem_of_getElem? (i := 138) rfl)) rfl
theorem tw_1099 : (Cond.methodLink "ProofLibrary$Reader" 98 ⟨"ProofLibrary$Reader", "hasDollar", "(II)Z"⟩) ∈ TB := TB_m (tc_5 (List.mem_of_getElem? (i := 139) rfl)) rfl
theorem tw_1101 : (Cond.instanceMethod ⟨"ProofLibrary$Reader", "hasDollar", "(II)Z"⟩) ∈ TB := TB_m (tc_5 (List.mem_of_getElem? (i := 141) rfl)) rfl
theorem tw_1102 : (Cond.code ⟨"ProofLibrary$Reader", "hasDollar", "(II)Z"⟩ prog_9_method_7_code 4 (some .boolean)) ∈ TB := TB_m (tc_5 (List.mem_of_getElem? (i := 142) rfl)) rfl
theorem tw_1103 : (Cond.methodLink "ProofLibrary$Reader" 101 ⟨"ProofLibrary$Library", "nameOf", "([CII)I"⟩) ∈ TB := TB_m (tc_5 (List.mem_of_getElem? (i := 143) rfl)) rfl
theorem tw_1104 : (Cond.instanceMethod ⟨"ProofLibrary$Library", "nameOf", "([CII)I"⟩) ∈ TB := TB_m (tc_5 (List.mem_of_getElem? (i := 144) rfl)) rfl
theorem tw_1105 : (Cond.selects "ProofLibrary$Library" ⟨"ProofLibrary$Library", "nameOf", "([CII)I"⟩ ⟨"ProofLibrary$Library", "nameOf", "([CII)I"⟩) ∈ TB := TB_m (tc_5 (List.mem_of_getElem? (i := 145) rfl)) rfl
theorem tw_1106 : (Cond.code ⟨"ProofLibrary$Library", "nameOf", "([CII)I"⟩ prog_5_method_3_code 6 (some .int)) ∈ TB := TB_m (tc_5 (List.mem_of_getElem? (i := 146) rfl)) rfl
theorem tw_1107 : (Cond.methodLink "ProofLibrary$Library" 62 ⟨"ProofLibrary$Library", "bucket", "([CII)I"⟩) ∈ TB := TB_m (tc_5 (List.mem_of_getElem? (i := 147) rfl)) rfl
theorem tw_1108 : (Cond.static ⟨"ProofLibrary$Library", "bucket", "([CII)I"⟩) ∈ TB := TB_m (tc_5 (List.mem_of_getElem? (i := 148) rfl)) rfl
theorem tw_1109 : (Cond.code ⟨"ProofLibrary$Library", "bucket", "([CII)I"⟩ prog_5_method_2_code 5 (some .int)) ∈ TB := TB_m (tc_5 (List.mem_of_getElem? (i := 149) rfl)) rfl
theorem tw_1110 : (Cond.methodLink "ProofLibrary$Library" 66 ⟨"ProofLibrary$Library", "isName", "(I[CII)Z"⟩) ∈ TB := TB_m (tc_5 (List.mem_of_getElem? (i := 150) rfl)) rfl
theorem tw_1112 : (Cond.instanceMethod ⟨"ProofLibrary$Library", "isName", "(I[CII)Z"⟩) ∈ TB := TB_m (tc_5 (List.mem_of_getElem? (i := 152) rfl)) rfl
theorem tw_1113 : (Cond.code ⟨"ProofLibrary$Library", "isName", "(I[CII)Z"⟩ prog_5_method_4_code 7 (some .boolean)) ∈ TB := TB_m (tc_5 (List.mem_of_getElem? (i := 153) rfl)) rfl
theorem tw_1114 : (Cond.methodLink "ProofLibrary$Reader" 104 ⟨"ProofLibrary$Library", "symbolOf", "(I)I"⟩) ∈ TB := TB_m (tc_5 (List.mem_of_getElem? (i := 154) rfl)) rfl
theorem tw_1115 : (Cond.instanceMethod ⟨"ProofLibrary$Library", "symbolOf", "(I)I"⟩) ∈ TB := TB_m (tc_5 (List.mem_of_getElem? (i := 155) rfl)) rfl
theorem tw_1116 : (Cond.selects "ProofLibrary$Library" ⟨"ProofLibrary$Library", "symbolOf", "(I)I"⟩ ⟨"ProofLibrary$Library", "symbolOf", "(I)I"⟩) ∈ TB := TB_m (tc_5 (List.mem_of_getElem? (i := 156) rfl)) rfl
theorem tw_1117 : (Cond.code ⟨"ProofLibrary$Library", "symbolOf", "(I)I"⟩ prog_5_method_6_code 2 (some .int)) ∈ TB := TB_m (tc_5 (List.mem_of_getElem? (i := 157) rfl)) rfl
theorem tw_1118 : (Cond.methodLink "ProofLibrary$Library" 70 ⟨"java/lang/Math", "max", "(II)I"⟩) ∈ TB := TB_m (tc_5 (List.mem_of_getElem? (i := 158) rfl)) rfl
theorem tw_1119 : (Cond.static ⟨"java/lang/Math", "max", "(II)I"⟩) ∈ TB := TB_m (tc_5 (List.mem_of_getElem? (i := 159) rfl)) rfl
theorem tw_1120 : (Cond.code ⟨"java/lang/Math", "max", "(II)I"⟩ prog_19_method_65_code 2 (some .int)) ∈ TB := TB_m (tc_5 (List.mem_of_getElem? (i := 160) rfl)) rfl
theorem tw_1121 : (Cond.methodLink "ProofLibrary$Reader" 110 ⟨"ProofLibrary$Library", "statementOf", "(I)I"⟩) ∈ TB := TB_m (tc_5 (List.mem_of_getElem? (i := 161) rfl)) rfl
theorem tw_1122 : (Cond.instanceMethod ⟨"ProofLibrary$Library", "statementOf", "(I)I"⟩) ∈ TB := TB_m (tc_5 (List.mem_of_getElem? (i := 162) rfl)) rfl
theorem tw_1123 : (Cond.selects "ProofLibrary$Library" ⟨"ProofLibrary$Library", "statementOf", "(I)I"⟩ ⟨"ProofLibrary$Library", "statementOf", "(I)I"⟩) ∈ TB := TB_m (tc_5 (List.mem_of_getElem? (i := 163) rfl)) rfl
theorem tw_1124 : (Cond.code ⟨"ProofLibrary$Library", "statementOf", "(I)I"⟩ prog_5_method_5_code 2 (some .int)) ∈ TB := TB_m (tc_5 (List.mem_of_getElem? (i := 164) rfl)) rfl
theorem tw_1125 : (Cond.methodLink "ProofLibrary$Reader" 116 ⟨"ProofLibrary$Reader", "word", "(II)I"⟩) ∈ TB := TB_m (tc_5 (List.mem_of_getElem? (i := 165) rfl)) rfl
theorem tw_1127 : (Cond.instanceMethod ⟨"ProofLibrary$Reader", "word", "(II)I"⟩) ∈ TB := TB_m (tc_5 (List.mem_of_getElem? (i := 167) rfl)) rfl
theorem tw_1128 : (Cond.code ⟨"ProofLibrary$Reader", "word", "(II)I"⟩ prog_9_method_19_code 3 (some .int)) ∈ TB := TB_m (tc_5 (List.mem_of_getElem? (i := 168) rfl)) rfl
theorem tw_1129 : (Cond.methodLink "ProofLibrary$Reader" 192 ⟨"ProofLibrary$Reader", "label", "(II)I"⟩) ∈ TB := TB_m (tc_5 (List.mem_of_getElem? (i := 169) rfl)) rfl
theorem tw_1131 : (Cond.instanceMethod ⟨"ProofLibrary$Reader", "label", "(II)I"⟩) ∈ TB := TB_m (tc_5 (List.mem_of_getElem? (i := 171) rfl)) rfl
theorem tw_1132 : (Cond.code ⟨"ProofLibrary$Reader", "label", "(II)I"⟩ prog_9_method_20_code 3 (some .int)) ∈ TB := TB_m (tc_5 (List.mem_of_getElem? (i := 172) rfl)) rfl
theorem tw_1133 : (Cond.methodLink "ProofLibrary$Reader" 207 ⟨"ProofLibrary$Library", "hasRoomForName", "(I)Z"⟩) ∈ TB := TB_m (tc_5 (List.mem_of_getElem? (i := 173) rfl)) rfl
theorem tw_1134 : (Cond.instanceMethod ⟨"ProofLibrary$Library", "hasRoomForName", "(I)Z"⟩) ∈ TB := TB_m (tc_5 (List.mem_of_getElem? (i := 174) rfl)) rfl
theorem tw_1135 : (Cond.selects "ProofLibrary$Library" ⟨"ProofLibrary$Library", "hasRoomForName", "(I)Z"⟩ ⟨"ProofLibrary$Library", "hasRoomForName", "(I)Z"⟩) ∈ TB := TB_m (tc_5 (List.mem_of_getElem? (i := 175) rfl)) rfl
theorem tw_1136 : (Cond.code ⟨"ProofLibrary$Library", "hasRoomForName", "(I)Z"⟩ prog_5_method_9_code 2 (some .boolean)) ∈ TB := TB_m (tc_5 (List.mem_of_getElem? (i := 176) rfl)) rfl
theorem tn_1137 : (Cond.methodLinkNest "ProofLibrary$Reader" 210 ⟨"ProofLibrary", "isLabel", "([CII)Z"⟩ "ProofLibrary") ∈ NB := NB_m (tc_5 (List.mem_of_getElem? (i := 177) rfl)) rfl
theorem tw_1138 : (Cond.static ⟨"ProofLibrary", "isLabel", "([CII)Z"⟩) ∈ TB := TB_m (tc_5 (List.mem_of_getElem? (i := 178) rfl)) rfl
theorem tw_1139 : (Cond.code ⟨"ProofLibrary", "isLabel", "([CII)Z"⟩ prog_1_method_48_code 4 (some .boolean)) ∈ TB := TB_m (tc_5 (List.mem_of_getElem? (i := 179) rfl)) rfl
theorem tw_1140 : (Cond.methodLink "ProofLibrary" 449 ⟨"ProofLibrary", "isLabelCharacter", "(I)Z"⟩) ∈ TB := TB_m (tc_5 (List.mem_of_getElem? (i := 180) rfl)) rfl
theorem tw_1141 : (Cond.static ⟨"ProofLibrary", "isLabelCharacter", "(I)Z"⟩) ∈ TB := TB_m (tc_5 (List.mem_of_getElem? (i := 181) rfl)) rfl
theorem tw_1142 : (Cond.code ⟨"ProofLibrary", "isLabelCharacter", "(I)Z"⟩ prog_1_method_45_code 2 (some .boolean)) ∈ TB := TB_m (tc_5 (List.mem_of_getElem? (i := 182) rfl)) rfl
theorem tw_1143 : (Cond.methodLink "ProofLibrary$Reader" 214 ⟨"ProofLibrary$Library", "addLabel", "([CII)V"⟩) ∈ TB := TB_m (tc_5 (List.mem_of_getElem? (i := 183) rfl)) rfl
theorem tw_1144 : (Cond.instanceMethod ⟨"ProofLibrary$Library", "addLabel", "([CII)V"⟩) ∈ TB := TB_m (tc_5 (List.mem_of_getElem? (i := 184) rfl)) rfl
theorem tw_1145 : (Cond.selects "ProofLibrary$Library" ⟨"ProofLibrary$Library", "addLabel", "([CII)V"⟩ ⟨"ProofLibrary$Library", "addLabel", "([CII)V"⟩) ∈ TB := TB_m (tc_5 (List.mem_of_getElem? (i := 185) rfl)) rfl
theorem tw_1146 : (Cond.code ⟨"ProofLibrary$Library", "addLabel", "([CII)V"⟩ prog_5_method_12_code 4 none) ∈ TB := TB_m (tc_5 (List.mem_of_getElem? (i := 186) rfl)) rfl
theorem tw_1147 : (Cond.methodLink "ProofLibrary$Library" 93 ⟨"ProofLibrary$Library", "addName", "([CIII)V"⟩) ∈ TB := TB_m (tc_5 (List.mem_of_getElem? (i := 187) rfl)) rfl
theorem tw_1149 : (Cond.instanceMethod ⟨"ProofLibrary$Library", "addName", "([CIII)V"⟩) ∈ TB := TB_m (tc_5 (List.mem_of_getElem? (i := 189) rfl)) rfl
theorem tw_1150 : (Cond.code ⟨"ProofLibrary$Library", "addName", "([CIII)V"⟩ prog_5_method_10_code 7 none) ∈ TB := TB_m (tc_5 (List.mem_of_getElem? (i := 190) rfl)) rfl
theorem tw_1151 : (Cond.methodLink "ProofLibrary$Reader" 195 ⟨"ProofLibrary$Reader", "declareConstant", "(II)I"⟩) ∈ TB := TB_m (tc_5 (List.mem_of_getElem? (i := 191) rfl)) rfl
theorem tw_1153 : (Cond.instanceMethod ⟨"ProofLibrary$Reader", "declareConstant", "(II)I"⟩) ∈ TB := TB_m (tc_5 (List.mem_of_getElem? (i := 193) rfl)) rfl
theorem tw_1154 : (Cond.code ⟨"ProofLibrary$Reader", "declareConstant", "(II)I"⟩ prog_9_method_21_code 4 (some .int)) ∈ TB := TB_m (tc_5 (List.mem_of_getElem? (i := 194) rfl)) rfl
theorem tw_1155 : (Cond.methodLink "ProofLibrary$Reader" 218 ⟨"ProofLibrary$Reader", "faultOfNewSymbol", "(I)I"⟩) ∈ TB := TB_m (tc_5 (List.mem_of_getElem? (i := 195) rfl)) rfl
theorem tw_1157 : (Cond.instanceMethod ⟨"ProofLibrary$Reader", "faultOfNewSymbol", "(I)I"⟩) ∈ TB := TB_m (tc_5 (List.mem_of_getElem? (i := 197) rfl)) rfl
theorem tw_1158 : (Cond.code ⟨"ProofLibrary$Reader", "faultOfNewSymbol", "(I)I"⟩ prog_9_method_22_code 2 (some .int)) ∈ TB := TB_m (tc_5 (List.mem_of_getElem? (i := 198) rfl)) rfl
theorem tw_1159 : (Cond.methodLink "ProofLibrary$Reader" 221 ⟨"ProofLibrary$Library", "addSymbol", "([CIIZ)I"⟩) ∈ TB := TB_m (tc_5 (List.mem_of_getElem? (i := 199) rfl)) rfl
theorem tw_1160 : (Cond.instanceMethod ⟨"ProofLibrary$Library", "addSymbol", "([CIIZ)I"⟩) ∈ TB := TB_m (tc_5 (List.mem_of_getElem? (i := 200) rfl)) rfl
theorem tw_1161 : (Cond.selects "ProofLibrary$Library" ⟨"ProofLibrary$Library", "addSymbol", "([CIIZ)I"⟩ ⟨"ProofLibrary$Library", "addSymbol", "([CIIZ)I"⟩) ∈ TB := TB_m (tc_5 (List.mem_of_getElem? (i := 201) rfl)) rfl
theorem tw_1162 : (Cond.code ⟨"ProofLibrary$Library", "addSymbol", "([CIIZ)I"⟩ prog_5_method_11_code 5 (some .int)) ∈ TB := TB_m (tc_5 (List.mem_of_getElem? (i := 202) rfl)) rfl
theorem tw_1163 : (Cond.methodLink "ProofLibrary$Reader" 198 ⟨"ProofLibrary$Reader", "declareVariable", "(II)I"⟩) ∈ TB := TB_m (tc_5 (List.mem_of_getElem? (i := 203) rfl)) rfl
theorem tw_1165 : (Cond.instanceMethod ⟨"ProofLibrary$Reader", "declareVariable", "(II)I"⟩) ∈ TB := TB_m (tc_5 (List.mem_of_getElem? (i := 205) rfl)) rfl
theorem tw_1166 : (Cond.code ⟨"ProofLibrary$Reader", "declareVariable", "(II)I"⟩ prog_9_method_23_code 5 (some .int)) ∈ TB := TB_m (tc_5 (List.mem_of_getElem? (i := 206) rfl)) rfl
theorem tw_1167 : (Cond.methodLink "ProofLibrary$Reader" 228 ⟨"ProofLibrary$Scopes", "isKnown", "(I)Z"⟩) ∈ TB := TB_m (tc_5 (List.mem_of_getElem? (i := 207) rfl)) rfl
theorem tw_1168 : (Cond.instanceMethod ⟨"ProofLibrary$Scopes", "isKnown", "(I)Z"⟩) ∈ TB := TB_m (tc_5 (List.mem_of_getElem? (i := 208) rfl)) rfl
theorem tw_1169 : (Cond.selects "ProofLibrary$Scopes" ⟨"ProofLibrary$Scopes", "isKnown", "(I)Z"⟩ ⟨"ProofLibrary$Scopes", "isKnown", "(I)Z"⟩) ∈ TB := TB_m (tc_5 (List.mem_of_getElem? (i := 209) rfl)) rfl
theorem tw_1170 : (Cond.code ⟨"ProofLibrary$Scopes", "isKnown", "(I)Z"⟩ prog_11_method_16_code 2 (some .boolean)) ∈ TB := TB_m (tc_5 (List.mem_of_getElem? (i := 210) rfl)) rfl
theorem tw_1171 : (Cond.methodLink "ProofLibrary$Reader" 231 ⟨"ProofLibrary$Scopes", "addVariable", "(I)V"⟩) ∈ TB := TB_m (tc_5 (List.mem_of_getElem? (i := 211) rfl)) rfl
theorem tw_1172 : (Cond.instanceMethod ⟨"ProofLibrary$Scopes", "addVariable", "(I)V"⟩) ∈ TB := TB_m (tc_5 (List.mem_of_getElem? (i := 212) rfl)) rfl
theorem tw_1173 : (Cond.selects "ProofLibrary$Scopes" ⟨"ProofLibrary$Scopes", "addVariable", "(I)V"⟩ ⟨"ProofLibrary$Scopes", "addVariable", "(I)V"⟩) ∈ TB := TB_m (tc_5 (List.mem_of_getElem? (i := 213) rfl)) rfl
theorem tw_1174 : (Cond.code ⟨"ProofLibrary$Scopes", "addVariable", "(I)V"⟩ prog_11_method_8_code 2 none) ∈ TB := TB_m (tc_5 (List.mem_of_getElem? (i := 214) rfl)) rfl
theorem tw_1175 : (Cond.methodLink "ProofLibrary$Reader" 201 ⟨"ProofLibrary$Reader", "takeApart", "(I)I"⟩) ∈ TB := TB_m (tc_5 (List.mem_of_getElem? (i := 215) rfl)) rfl
theorem tw_1177 : (Cond.instanceMethod ⟨"ProofLibrary$Reader", "takeApart", "(I)I"⟩) ∈ TB := TB_m (tc_5 (List.mem_of_getElem? (i := 217) rfl)) rfl
theorem tw_1178 : (Cond.code ⟨"ProofLibrary$Reader", "takeApart", "(I)I"⟩ prog_9_method_24_code 3 (some .int)) ∈ TB := TB_m (tc_5 (List.mem_of_getElem? (i := 218) rfl)) rfl
theorem tw_1179 : (Cond.methodLink "ProofLibrary$Reader" 238 ⟨"ProofLibrary$Scopes", "areApart", "(II)Z"⟩) ∈ TB := TB_m (tc_5 (List.mem_of_getElem? (i := 219) rfl)) rfl
theorem tw_1180 : (Cond.instanceMethod ⟨"ProofLibrary$Scopes", "areApart", "(II)Z"⟩) ∈ TB := TB_m (tc_5 (List.mem_of_getElem? (i := 220) rfl)) rfl
theorem tw_1181 : (Cond.selects "ProofLibrary$Scopes" ⟨"ProofLibrary$Scopes", "areApart", "(II)Z"⟩ ⟨"ProofLibrary$Scopes", "areApart", "(II)Z"⟩) ∈ TB := TB_m (tc_5 (List.mem_of_getElem? (i := 221) rfl)) rfl
theorem tw_1182 : (Cond.code ⟨"ProofLibrary$Scopes", "areApart", "(II)Z"⟩ prog_11_method_12_code 3 (some .boolean)) ∈ TB := TB_m (tc_5 (List.mem_of_getElem? (i := 222) rfl)) rfl
theorem tw_1183 : (Cond.methodLink "ProofLibrary$Reader" 244 ⟨"ProofLibrary$Scopes", "addPair", "(II)V"⟩) ∈ TB := TB_m (tc_5 (List.mem_of_getElem? (i := 223) rfl)) rfl
theorem tw_1184 : (Cond.instanceMethod ⟨"ProofLibrary$Scopes", "addPair", "(II)V"⟩) ∈ TB := TB_m (tc_5 (List.mem_of_getElem? (i := 224) rfl)) rfl
theorem tw_1185 : (Cond.selects "ProofLibrary$Scopes" ⟨"ProofLibrary$Scopes", "addPair", "(II)V"⟩ ⟨"ProofLibrary$Scopes", "addPair", "(II)V"⟩) ∈ TB := TB_m (tc_5 (List.mem_of_getElem? (i := 225) rfl)) rfl
theorem tw_1186 : (Cond.code ⟨"ProofLibrary$Scopes", "addPair", "(II)V"⟩ prog_11_method_10_code 3 none) ∈ TB := TB_m (tc_5 (List.mem_of_getElem? (i := 226) rfl)) rfl
theorem tw_1187 : (Cond.methodLink "ProofLibrary$Reader" 204 ⟨"ProofLibrary$Reader", "takeSymbol", "(I)I"⟩) ∈ TB := TB_m (tc_5 (List.mem_of_getElem? (i := 227) rfl)) rfl
theorem tw_1189 : (Cond.instanceMethod ⟨"ProofLibrary$Reader", "takeSymbol", "(I)I"⟩) ∈ TB := TB_m (tc_5 (List.mem_of_getElem? (i := 229) rfl)) rfl
theorem tw_1190 : (Cond.code ⟨"ProofLibrary$Reader", "takeSymbol", "(I)I"⟩ prog_9_method_25_code 2 (some .int)) ∈ TB := TB_m (tc_5 (List.mem_of_getElem? (i := 230) rfl)) rfl
theorem tw_1191 : (Cond.methodLink "ProofLibrary$Reader" 251 ⟨"ProofLibrary$Reader", "firstSymbol", "(I)I"⟩) ∈ TB := TB_m (tc_5 (List.mem_of_getElem? (i := 231) rfl)) rfl
theorem tw_1193 : (Cond.instanceMethod ⟨"ProofLibrary$Reader", "firstSymbol", "(I)I"⟩) ∈ TB := TB_m (tc_5 (List.mem_of_getElem? (i := 233) rfl)) rfl
theorem tw_1194 : (Cond.code ⟨"ProofLibrary$Reader", "firstSymbol", "(I)I"⟩ prog_9_method_26_code 3 (some .int)) ∈ TB := TB_m (tc_5 (List.mem_of_getElem? (i := 234) rfl)) rfl
theorem tw_1195 : (Cond.methodLink "ProofLibrary$Reader" 269 ⟨"ProofLibrary$Library", "giveRank", "(I)V"⟩) ∈ TB := TB_m (tc_5 (List.mem_of_getElem? (i := 235) rfl)) rfl
theorem tw_1196 : (Cond.instanceMethod ⟨"ProofLibrary$Library", "giveRank", "(I)V"⟩) ∈ TB := TB_m (tc_5 (List.mem_of_getElem? (i := 236) rfl)) rfl
theorem tw_1197 : (Cond.selects "ProofLibrary$Library" ⟨"ProofLibrary$Library", "giveRank", "(I)V"⟩ ⟨"ProofLibrary$Library", "giveRank", "(I)V"⟩) ∈ TB := TB_m (tc_5 (List.mem_of_getElem? (i := 237) rfl)) rfl
theorem tw_1198 : (Cond.code ⟨"ProofLibrary$Library", "giveRank", "(I)V"⟩ prog_5_method_14_code 2 none) ∈ TB := TB_m (tc_5 (List.mem_of_getElem? (i := 238) rfl)) rfl
theorem tw_1199 : (Cond.methodLink "ProofLibrary$Reader" 260 ⟨"ProofLibrary$Library", "append", "(II)V"⟩) ∈ TB := TB_m (tc_5 (List.mem_of_getElem? (i := 239) rfl)) rfl
theorem tw_1200 : (Cond.instanceMethod ⟨"ProofLibrary$Library", "append", "(II)V"⟩) ∈ TB := TB_m (tc_6 (List.mem_of_getElem? (i := 0) rfl)) rfl
theorem tw_1201 : (Cond.selects "ProofLibrary$Library" ⟨"ProofLibrary$Library", "append", "(II)V"⟩ ⟨"ProofLibrary$Library", "append", "(II)V"⟩) ∈ TB := TB_m (tc_6 (List.mem_of_getElem? (i := 1) rfl)) rfl
theorem tw_1202 : (Cond.code ⟨"ProofLibrary$Library", "append", "(II)V"⟩ prog_5_method_13_code 3 none) ∈ TB := TB_m (tc_6 (List.mem_of_getElem? (i := 2) rfl)) rfl
theorem tw_1203 : (Cond.methodLink "ProofLibrary$Reader" 254 ⟨"ProofLibrary$Reader", "floatingVariable", "(I)I"⟩) ∈ TB := TB_m (tc_6 (List.mem_of_getElem? (i := 3) rfl)) rfl
theorem tw_1205 : (Cond.instanceMethod ⟨"ProofLibrary$Reader", "floatingVariable", "(I)I"⟩) ∈ TB := TB_m (tc_6 (List.mem_of_getElem? (i := 5) rfl)) rfl
theorem tw_1206 : (Cond.code ⟨"ProofLibrary$Reader", "floatingVariable", "(I)I"⟩ prog_9_method_27_code 4 (some .int)) ∈ TB := TB_m (tc_6 (List.mem_of_getElem? (i := 6) rfl)) rfl
theorem tw_1207 : (Cond.methodLink "ProofLibrary$Reader" 275 ⟨"ProofLibrary$Library", "typeOf", "(I)I"⟩) ∈ TB := TB_m (tc_6 (List.mem_of_getElem? (i := 7) rfl)) rfl
theorem tw_1208 : (Cond.instanceMethod ⟨"ProofLibrary$Library", "typeOf", "(I)I"⟩) ∈ TB := TB_m (tc_6 (List.mem_of_getElem? (i := 8) rfl)) rfl
theorem tw_1209 : (Cond.selects "ProofLibrary$Library" ⟨"ProofLibrary$Library", "typeOf", "(I)I"⟩ ⟨"ProofLibrary$Library", "typeOf", "(I)I"⟩) ∈ TB := TB_m (tc_6 (List.mem_of_getElem? (i := 9) rfl)) rfl
theorem tw_1210 : (Cond.code ⟨"ProofLibrary$Library", "typeOf", "(I)I"⟩ prog_5_method_17_code 2 (some .int)) ∈ TB := TB_m (tc_6 (List.mem_of_getElem? (i := 10) rfl)) rfl
theorem tw_1211 : (Cond.methodLink "ProofLibrary$Reader" 119 ⟨"ProofLibrary$Steps", "word", "([CIII)I"⟩) ∈ TB := TB_m (tc_6 (List.mem_of_getElem? (i := 11) rfl)) rfl
theorem tw_1212 : (Cond.instanceMethod ⟨"ProofLibrary$Steps", "word", "([CIII)I"⟩) ∈ TB := TB_m (tc_6 (List.mem_of_getElem? (i := 12) rfl)) rfl
theorem tw_1213 : (Cond.selects "ProofLibrary$Steps" ⟨"ProofLibrary$Steps", "word", "([CIII)I"⟩ ⟨"ProofLibrary$Steps", "word", "([CIII)I"⟩) ∈ TB := TB_m (tc_6 (List.mem_of_getElem? (i := 13) rfl)) rfl
theorem tw_1214 : (Cond.code ⟨"ProofLibrary$Steps", "word", "([CIII)I"⟩ prog_12_method_6_code 5 (some .int)) ∈ TB := TB_m (tc_6 (List.mem_of_getElem? (i := 14) rfl)) rfl
theorem tw_1215 : (Cond.methodLink "ProofLibrary$Steps" 76 ⟨"ProofLibrary$Steps", "isOne", "([CIII)Z"⟩) ∈ TB := TB_m (tc_6 (List.mem_of_getElem? (i := 15) rfl)) rfl
theorem tw_1216 : (Cond.static ⟨"ProofLibrary$Steps", "isOne", "([CIII)Z"⟩) ∈ TB := TB_m (tc_6 (List.mem_of_getElem? (i := 16) rfl)) rfl
theorem tw_1217 : (Cond.code ⟨"ProofLibrary$Steps", "isOne", "([CIII)Z"⟩ prog_12_method_7_code 4 (some .boolean)) ∈ TB := TB_m (tc_6 (List.mem_of_getElem? (i := 17) rfl)) rfl
theorem tw_1218 : (Cond.methodLink "ProofLibrary$Steps" 80 ⟨"ProofLibrary$Steps", "plainStep", "([CIII)I"⟩) ∈ TB := TB_m (tc_6 (List.mem_of_getElem? (i := 18) rfl)) rfl
theorem tw_1220 : (Cond.instanceMethod ⟨"ProofLibrary$Steps", "plainStep", "([CIII)I"⟩) ∈ TB := TB_m (tc_6 (List.mem_of_getElem? (i := 20) rfl)) rfl
theorem tw_1221 : (Cond.code ⟨"ProofLibrary$Steps", "plainStep", "([CIII)I"⟩ prog_12_method_8_code 5 (some .int)) ∈ TB := TB_m (tc_6 (List.mem_of_getElem? (i := 21) rfl)) rfl
theorem tw_1222 : (Cond.methodLink "ProofLibrary$Steps" 91 ⟨"ProofLibrary$Steps", "isFull", "()Z"⟩) ∈ TB := TB_m (tc_6 (List.mem_of_getElem? (i := 22) rfl)) rfl
theorem tw_1224 : (Cond.instanceMethod ⟨"ProofLibrary$Steps", "isFull", "()Z"⟩) ∈ TB := TB_m (tc_6 (List.mem_of_getElem? (i := 24) rfl)) rfl
theorem tw_1225 : (Cond.code ⟨"ProofLibrary$Steps", "isFull", "()Z"⟩ prog_12_method_5_code 1 (some .boolean)) ∈ TB := TB_m (tc_6 (List.mem_of_getElem? (i := 25) rfl)) rfl
theorem tn_1226 : (Cond.methodLinkNest "ProofLibrary$Steps" 95 ⟨"ProofLibrary", "isLabel", "([CII)Z"⟩ "ProofLibrary") ∈ NB := NB_m (tc_6 (List.mem_of_getElem? (i := 26) rfl)) rfl
theorem tw_1227 : (Cond.methodLink "ProofLibrary$Steps" 99 ⟨"ProofLibrary$Steps", "isUsable", "(I)Z"⟩) ∈ TB := TB_m (tc_6 (List.mem_of_getElem? (i := 27) rfl)) rfl
theorem tw_1229 : (Cond.instanceMethod ⟨"ProofLibrary$Steps", "isUsable", "(I)Z"⟩) ∈ TB := TB_m (tc_6 (List.mem_of_getElem? (i := 29) rfl)) rfl
theorem tw_1230 : (Cond.code ⟨"ProofLibrary$Steps", "isUsable", "(I)Z"⟩ prog_12_method_9_code 2 (some .boolean)) ∈ TB := TB_m (tc_6 (List.mem_of_getElem? (i := 30) rfl)) rfl
theorem tw_1231 : (Cond.methodLink "ProofLibrary$Steps" 103 ⟨"ProofLibrary$Steps", "addStep", "(I)V"⟩) ∈ TB := TB_m (tc_6 (List.mem_of_getElem? (i := 31) rfl)) rfl
theorem tw_1233 : (Cond.instanceMethod ⟨"ProofLibrary$Steps", "addStep", "(I)V"⟩) ∈ TB := TB_m (tc_6 (List.mem_of_getElem? (i := 33) rfl)) rfl
theorem tw_1234 : (Cond.code ⟨"ProofLibrary$Steps", "addStep", "(I)V"⟩ prog_12_method_10_code 2 none) ∈ TB := TB_m (tc_6 (List.mem_of_getElem? (i := 34) rfl)) rfl
theorem tw_1235 : (Cond.methodLink "ProofLibrary$Steps" 84 ⟨"ProofLibrary$Steps", "listLabel", "([CIII)I"⟩) ∈ TB := TB_m (tc_6 (List.mem_of_getElem? (i := 35) rfl)) rfl
theorem tw_1237 : (Cond.instanceMethod ⟨"ProofLibrary$Steps", "listLabel", "([CIII)I"⟩) ∈ TB := TB_m (tc_6 (List.mem_of_getElem? (i := 37) rfl)) rfl
theorem tw_1238 : (Cond.code ⟨"ProofLibrary$Steps", "listLabel", "([CIII)I"⟩ prog_12_method_11_code 5 (some .int)) ∈ TB := TB_m (tc_6 (List.mem_of_getElem? (i := 38) rfl)) rfl
theorem tw_1239 : (Cond.methodLink "ProofLibrary$Steps" 118 ⟨"ProofLibrary$Assertions", "placeInFrame", "(II)I"⟩) ∈ TB := TB_m (tc_6 (List.mem_of_getElem? (i := 39) rfl)) rfl
theorem tw_1240 : (Cond.instanceMethod ⟨"ProofLibrary$Assertions", "placeInFrame", "(II)I"⟩) ∈ TB := TB_m (tc_6 (List.mem_of_getElem? (i := 40) rfl)) rfl
theorem tw_1241 : (Cond.selects "ProofLibrary$Assertions" ⟨"ProofLibrary$Assertions", "placeInFrame", "(II)I"⟩ ⟨"ProofLibrary$Assertions", "placeInFrame", "(II)I"⟩) ∈ TB := TB_m (tc_6 (List.mem_of_getElem? (i := 41) rfl)) rfl
theorem tw_1242 : (Cond.code ⟨"ProofLibrary$Assertions", "placeInFrame", "(II)I"⟩ prog_2_method_7_code 4 (some .int)) ∈ TB := TB_m (tc_6 (List.mem_of_getElem? (i := 42) rfl)) rfl
theorem tw_1243 : (Cond.methodLink "ProofLibrary$Steps" 122 ⟨"ProofLibrary$Steps", "isListed", "(I)Z"⟩) ∈ TB := TB_m (tc_6 (List.mem_of_getElem? (i := 43) rfl)) rfl
theorem tw_1245 : (Cond.instanceMethod ⟨"ProofLibrary$Steps", "isListed", "(I)Z"⟩) ∈ TB := TB_m (tc_6 (List.mem_of_getElem? (i := 45) rfl)) rfl
theorem tw_1246 : (Cond.code ⟨"ProofLibrary$Steps", "isListed", "(I)Z"⟩ prog_12_method_12_code 3 (some .boolean)) ∈ TB := TB_m (tc_6 (List.mem_of_getElem? (i := 46) rfl)) rfl
theorem tw_1247 : (Cond.methodLink "ProofLibrary$Steps" 87 ⟨"ProofLibrary$Steps", "letters", "([CII)I"⟩) ∈ TB := TB_m (tc_6 (List.mem_of_getElem? (i := 47) rfl)) rfl
theorem tw_1249 : (Cond.instanceMethod ⟨"ProofLibrary$Steps", "letters", "([CII)I"⟩) ∈ TB := TB_m (tc_6 (List.mem_of_getElem? (i := 49) rfl)) rfl
theorem tw_1250 : (Cond.code ⟨"ProofLibrary$Steps", "letters", "([CII)I"⟩ prog_12_method_13_code 6 (some .int)) ∈ TB := TB_m (tc_6 (List.mem_of_getElem? (i := 50) rfl)) rfl
theorem tw_1251 : (Cond.methodLink "ProofLibrary$Steps" 125 ⟨"ProofLibrary$Steps", "letter", "(I)I"⟩) ∈ TB := TB_m (tc_6 (List.mem_of_getElem? (i := 51) rfl)) rfl
theorem tw_1253 : (Cond.instanceMethod ⟨"ProofLibrary$Steps", "letter", "(I)I"⟩) ∈ TB := TB_m (tc_6 (List.mem_of_getElem? (i := 53) rfl)) rfl
theorem tw_1254 : (Cond.code ⟨"ProofLibrary$Steps", "letter", "(I)I"⟩ prog_12_method_14_code 3 (some .int)) ∈ TB := TB_m (tc_6 (List.mem_of_getElem? (i := 54) rfl)) rfl
theorem tw_1255 : (Cond.methodLink "ProofLibrary$Steps" 129 ⟨"ProofLibrary$Steps", "save", "()I"⟩) ∈ TB := TB_m (tc_6 (List.mem_of_getElem? (i := 55) rfl)) rfl
theorem tw_1257 : (Cond.instanceMethod ⟨"ProofLibrary$Steps", "save", "()I"⟩) ∈ TB := TB_m (tc_6 (List.mem_of_getElem? (i := 57) rfl)) rfl
theorem tw_1258 : (Cond.code ⟨"ProofLibrary$Steps", "save", "()I"⟩ prog_12_method_15_code 1 (some .int)) ∈ TB := TB_m (tc_6 (List.mem_of_getElem? (i := 58) rfl)) rfl
theorem tw_1259 : (Cond.constant "ProofLibrary$Steps" 137 65536) ∈ TB := TB_m (tc_6 (List.mem_of_getElem? (i := 59) rfl)) rfl
theorem tw_1260 : (Cond.methodLink "ProofLibrary$Steps" 133 ⟨"ProofLibrary$Steps", "endNumber", "(I)I"⟩) ∈ TB := TB_m (tc_6 (List.mem_of_getElem? (i := 60) rfl)) rfl
theorem tw_1262 : (Cond.instanceMethod ⟨"ProofLibrary$Steps", "endNumber", "(I)I"⟩) ∈ TB := TB_m (tc_6 (List.mem_of_getElem? (i := 62) rfl)) rfl
theorem tw_1263 : (Cond.code ⟨"ProofLibrary$Steps", "endNumber", "(I)I"⟩ prog_12_method_16_code 4 (some .int)) ∈ TB := TB_m (tc_6 (List.mem_of_getElem? (i := 63) rfl)) rfl
theorem tw_1264 : (Cond.constant "ProofLibrary$Steps" 136 1000000) ∈ TB := TB_m (tc_6 (List.mem_of_getElem? (i := 64) rfl)) rfl
theorem tw_1265 : (Cond.methodLink "ProofLibrary$Reader" 53 ⟨"ProofLibrary$Reader", "endTheorem", "()I"⟩) ∈ TB := TB_m (tc_6 (List.mem_of_getElem? (i := 65) rfl)) rfl
theorem tw_1267 : (Cond.instanceMethod ⟨"ProofLibrary$Reader", "endTheorem", "()I"⟩) ∈ TB := TB_m (tc_6 (List.mem_of_getElem? (i := 67) rfl)) rfl
theorem tw_1268 : (Cond.code ⟨"ProofLibrary$Reader", "endTheorem", "()I"⟩ prog_9_method_18_code 2 (some .int)) ∈ TB := TB_m (tc_6 (List.mem_of_getElem? (i := 68) rfl)) rfl
theorem tw_1269 : (Cond.methodLink "ProofLibrary$Reader" 186 ⟨"ProofLibrary$Steps", "goThrough", "(I)I"⟩) ∈ TB := TB_m (tc_6 (List.mem_of_getElem? (i := 69) rfl)) rfl
theorem tw_1270 : (Cond.instanceMethod ⟨"ProofLibrary$Steps", "goThrough", "(I)I"⟩) ∈ TB := TB_m (tc_6 (List.mem_of_getElem? (i := 70) rfl)) rfl
theorem tw_1271 : (Cond.selects "ProofLibrary$Steps" ⟨"ProofLibrary$Steps", "goThrough", "(I)I"⟩ ⟨"ProofLibrary$Steps", "goThrough", "(I)I"⟩) ∈ TB := TB_m (tc_6 (List.mem_of_getElem? (i := 71) rfl)) rfl
theorem tw_1272 : (Cond.code ⟨"ProofLibrary$Steps", "goThrough", "(I)I"⟩ prog_12_method_18_code 4 (some .int)) ∈ TB := TB_m (tc_6 (List.mem_of_getElem? (i := 72) rfl)) rfl
theorem tw_1273 : (Cond.methodLink "ProofLibrary$Steps" 156 ⟨"ProofLibrary$Pile", "clear", "()V"⟩) ∈ TB := TB_m (tc_6 (List.mem_of_getElem? (i := 73) rfl)) rfl
theorem tw_1274 : (Cond.instanceMethod ⟨"ProofLibrary$Pile", "clear", "()V"⟩) ∈ TB := TB_m (tc_6 (List.mem_of_getElem? (i := 74) rfl)) rfl
theorem tw_1275 : (Cond.selects "ProofLibrary$Pile" ⟨"ProofLibrary$Pile", "clear", "()V"⟩ ⟨"ProofLibrary$Pile", "clear", "()V"⟩) ∈ TB := TB_m (tc_6 (List.mem_of_getElem? (i := 75) rfl)) rfl
theorem tw_1276 : (Cond.code ⟨"ProofLibrary$Pile", "clear", "()V"⟩ prog_8_method_2_code 1 none) ∈ TB := TB_m (tc_6 (List.mem_of_getElem? (i := 76) rfl)) rfl
theorem tw_1277 : (Cond.methodLink "ProofLibrary$Steps" 170 ⟨"ProofLibrary$Steps", "putAgain", "(I)I"⟩) ∈ TB := TB_m (tc_6 (List.mem_of_getElem? (i := 77) rfl)) rfl
theorem tw_1279 : (Cond.instanceMethod ⟨"ProofLibrary$Steps", "putAgain", "(I)I"⟩) ∈ TB := TB_m (tc_6 (List.mem_of_getElem? (i := 79) rfl)) rfl
theorem tw_1280 : (Cond.code ⟨"ProofLibrary$Steps", "putAgain", "(I)I"⟩ prog_12_method_21_code 2 (some .int)) ∈ TB := TB_m (tc_6 (List.mem_of_getElem? (i := 80) rfl)) rfl
theorem tw_1281 : (Cond.constant "ProofLibrary$Steps" 220 40000) ∈ TB := TB_m (tc_6 (List.mem_of_getElem? (i := 81) rfl)) rfl
theorem tw_1282 : (Cond.methodLink "ProofLibrary$Steps" 173 ⟨"ProofLibrary$Steps", "take", "(I)I"⟩) ∈ TB := TB_m (tc_6 (List.mem_of_getElem? (i := 82) rfl)) rfl
theorem tw_1284 : (Cond.instanceMethod ⟨"ProofLibrary$Steps", "take", "(I)I"⟩) ∈ TB := TB_m (tc_6 (List.mem_of_getElem? (i := 84) rfl)) rfl
theorem tw_1285 : (Cond.code ⟨"ProofLibrary$Steps", "take", "(I)I"⟩ prog_12_method_19_code 7 (some .int)) ∈ TB := TB_m (tc_6 (List.mem_of_getElem? (i := 85) rfl)) rfl
theorem tw_1286 : (Cond.constant "ProofLibrary$Steps" 147 65535) ∈ TB := TB_m (tc_6 (List.mem_of_getElem? (i := 86) rfl)) rfl
theorem tw_1287 : (Cond.methodLink "ProofLibrary$Steps" 188 ⟨"ProofLibrary$Pile", "buildHypothesis", "(I)V"⟩) ∈ TB := TB_m (tc_6 (List.mem_of_getElem? (i := 87) rfl)) rfl
theorem tw_1288 : (Cond.instanceMethod ⟨"ProofLibrary$Pile", "buildHypothesis", "(I)V"⟩) ∈ TB := TB_m (tc_6 (List.mem_of_getElem? (i := 88) rfl)) rfl
theorem tw_1289 : (Cond.selects "ProofLibrary$Pile" ⟨"ProofLibrary$Pile", "buildHypothesis", "(I)V"⟩ ⟨"ProofLibrary$Pile", "buildHypothesis", "(I)V"⟩) ∈ TB := TB_m (tc_6 (List.mem_of_getElem? (i := 89) rfl)) rfl
theorem tw_1290 : (Cond.code ⟨"ProofLibrary$Pile", "buildHypothesis", "(I)V"⟩ prog_8_method_10_code 2 none) ∈ TB := TB_m (tc_6 (List.mem_of_getElem? (i := 90) rfl)) rfl
theorem tw_1291 : (Cond.methodLink "ProofLibrary$Pile" 141 ⟨"ProofLibrary$Library", "lengthOf", "(I)I"⟩) ∈ TB := TB_m (tc_6 (List.mem_of_getElem? (i := 91) rfl)) rfl
theorem tw_1292 : (Cond.instanceMethod ⟨"ProofLibrary$Library", "lengthOf", "(I)I"⟩) ∈ TB := TB_m (tc_6 (List.mem_of_getElem? (i := 92) rfl)) rfl
theorem tw_1293 : (Cond.selects "ProofLibrary$Library" ⟨"ProofLibrary$Library", "lengthOf", "(I)I"⟩ ⟨"ProofLibrary$Library", "lengthOf", "(I)I"⟩) ∈ TB := TB_m (tc_6 (List.mem_of_getElem? (i := 93) rfl)) rfl
theorem tw_1294 : (Cond.code ⟨"ProofLibrary$Library", "lengthOf", "(I)I"⟩ prog_5_method_18_code 2 (some .int)) ∈ TB := TB_m (tc_6 (List.mem_of_getElem? (i := 94) rfl)) rfl
theorem tw_1295 : (Cond.methodLink "ProofLibrary$Pile" 135 ⟨"java/lang/System", "arraycopy", "(Ljava/lang/Object;ILjava/lang/Object;II)V"⟩) ∈ TB := TB_m (tc_6 (List.mem_of_getElem? (i := 95) rfl)) rfl
theorem tw_1296 : (Cond.static ⟨"java/lang/System", "arraycopy", "(Ljava/lang/Object;ILjava/lang/Object;II)V"⟩) ∈ TB := TB_m (tc_6 (List.mem_of_getElem? (i := 96) rfl)) rfl
theorem tw_1297 : (Cond.native ⟨"java/lang/System", "arraycopy", "(Ljava/lang/Object;ILjava/lang/Object;II)V"⟩) ∈ TB := TB_m (tc_6 (List.mem_of_getElem? (i := 97) rfl)) rfl
theorem tw_1298 : (Cond.methodLink "ProofLibrary$Steps" 194 ⟨"ProofLibrary$Pile", "bind", "(II)Z"⟩) ∈ TB := TB_m (tc_6 (List.mem_of_getElem? (i := 98) rfl)) rfl
theorem tw_1299 : (Cond.instanceMethod ⟨"ProofLibrary$Pile", "bind", "(II)Z"⟩) ∈ TB := TB_m (tc_6 (List.mem_of_getElem? (i := 99) rfl)) rfl
theorem tw_1300 : (Cond.selects "ProofLibrary$Pile" ⟨"ProofLibrary$Pile", "bind", "(II)Z"⟩ ⟨"ProofLibrary$Pile", "bind", "(II)Z"⟩) ∈ TB := TB_m (tc_6 (List.mem_of_getElem? (i := 100) rfl)) rfl
theorem tw_1301 : (Cond.code ⟨"ProofLibrary$Pile", "bind", "(II)Z"⟩ prog_8_method_3_code 6 (some .boolean)) ∈ TB := TB_m (tc_6 (List.mem_of_getElem? (i := 101) rfl)) rfl
theorem tw_1302 : (Cond.methodLink "ProofLibrary$Pile" 81 ⟨"ProofLibrary$Pile", "isEssential", "(II)Z"⟩) ∈ TB := TB_m (tc_6 (List.mem_of_getElem? (i := 102) rfl)) rfl
theorem tw_1304 : (Cond.instanceMethod ⟨"ProofLibrary$Pile", "isEssential", "(II)Z"⟩) ∈ TB := TB_m (tc_6 (List.mem_of_getElem? (i := 104) rfl)) rfl
theorem tw_1305 : (Cond.code ⟨"ProofLibrary$Pile", "isEssential", "(II)Z"⟩ prog_8_method_4_code 9 (some .boolean)) ∈ TB := TB_m (tc_6 (List.mem_of_getElem? (i := 105) rfl)) rfl
theorem tw_1306 : (Cond.methodLink "ProofLibrary$Pile" 99 ⟨"ProofLibrary$Pile", "isSame", "(III)Z"⟩) ∈ TB := TB_m (tc_6 (List.mem_of_getElem? (i := 106) rfl)) rfl
theorem tw_1308 : (Cond.instanceMethod ⟨"ProofLibrary$Pile", "isSame", "(III)Z"⟩) ∈ TB := TB_m (tc_6 (List.mem_of_getElem? (i := 108) rfl)) rfl
theorem tw_1309 : (Cond.code ⟨"ProofLibrary$Pile", "isSame", "(III)Z"⟩ prog_8_method_5_code 5 (some .boolean)) ∈ TB := TB_m (tc_6 (List.mem_of_getElem? (i := 109) rfl)) rfl
theorem tw_1310 : (Cond.methodLink "ProofLibrary$Pile" 85 ⟨"ProofLibrary$Library", "typeOf", "(I)I"⟩) ∈ TB := TB_m (tc_6 (List.mem_of_getElem? (i := 110) rfl)) rfl
theorem tw_1311 : (Cond.methodLink "ProofLibrary$Pile" 89 ⟨"ProofLibrary$Library", "variableOf", "(I)I"⟩) ∈ TB := TB_m (tc_6 (List.mem_of_getElem? (i := 111) rfl)) rfl
theorem tw_1312 : (Cond.methodLink "ProofLibrary$Steps" 197 ⟨"ProofLibrary$Pile", "keepsApart", "(I)Z"⟩) ∈ TB := TB_m (tc_6 (List.mem_of_getElem? (i := 112) rfl)) rfl
theorem tw_1313 : (Cond.instanceMethod ⟨"ProofLibrary$Pile", "keepsApart", "(I)Z"⟩) ∈ TB := TB_m (tc_6 (List.mem_of_getElem? (i := 113) rfl)) rfl
theorem tw_1314 : (Cond.selects "ProofLibrary$Pile" ⟨"ProofLibrary$Pile", "keepsApart", "(I)Z"⟩ ⟨"ProofLibrary$Pile", "keepsApart", "(I)Z"⟩) ∈ TB := TB_m (tc_6 (List.mem_of_getElem? (i := 114) rfl)) rfl
theorem tw_1315 : (Cond.code ⟨"ProofLibrary$Pile", "keepsApart", "(I)Z"⟩ prog_8_method_6_code 5 (some .boolean)) ∈ TB := TB_m (tc_6 (List.mem_of_getElem? (i := 115) rfl)) rfl
theorem tw_1316 : (Cond.methodLink "ProofLibrary$Pile" 109 ⟨"ProofLibrary$Assertions", "firstOf", "(I)I"⟩) ∈ TB := TB_m (tc_6 (List.mem_of_getElem? (i := 116) rfl)) rfl
theorem tw_1317 : (Cond.instanceMethod ⟨"ProofLibrary$Assertions", "firstOf", "(I)I"⟩) ∈ TB := TB_m (tc_6 (List.mem_of_getElem? (i := 117) rfl)) rfl
theorem tw_1318 : (Cond.selects "ProofLibrary$Assertions" ⟨"ProofLibrary$Assertions", "firstOf", "(I)I"⟩ ⟨"ProofLibrary$Assertions", "firstOf", "(I)I"⟩) ∈ TB := TB_m (tc_6 (List.mem_of_getElem? (i := 118) rfl)) rfl
theorem tw_1319 : (Cond.code ⟨"ProofLibrary$Assertions", "firstOf", "(I)I"⟩ prog_2_method_10_code 2 (some .int)) ∈ TB := TB_m (tc_6 (List.mem_of_getElem? (i := 119) rfl)) rfl
theorem tw_1320 : (Cond.methodLink "ProofLibrary$Pile" 112 ⟨"ProofLibrary$Pile", "gather", "(I[I)I"⟩) ∈ TB := TB_m (tc_6 (List.mem_of_getElem? (i := 120) rfl)) rfl
theorem tw_1322 : (Cond.instanceMethod ⟨"ProofLibrary$Pile", "gather", "(I[I)I"⟩) ∈ TB := TB_m (tc_6 (List.mem_of_getElem? (i := 122) rfl)) rfl
theorem tw_1323 : (Cond.code ⟨"ProofLibrary$Pile", "gather", "(I[I)I"⟩ prog_8_method_7_code 6 (some .int)) ∈ TB := TB_m (tc_6 (List.mem_of_getElem? (i := 123) rfl)) rfl
theorem tw_1324 : (Cond.methodLink "ProofLibrary$Pile" 116 ⟨"ProofLibrary$Assertions", "secondOf", "(I)I"⟩) ∈ TB := TB_m (tc_6 (List.mem_of_getElem? (i := 124) rfl)) rfl
theorem tw_1325 : (Cond.instanceMethod ⟨"ProofLibrary$Assertions", "secondOf", "(I)I"⟩) ∈ TB := TB_m (tc_6 (List.mem_of_getElem? (i := 125) rfl)) rfl
theorem tw_1326 : (Cond.selects "ProofLibrary$Assertions" ⟨"ProofLibrary$Assertions", "secondOf", "(I)I"⟩ ⟨"ProofLibrary$Assertions", "secondOf", "(I)I"⟩) ∈ TB := TB_m (tc_6 (List.mem_of_getElem? (i := 126) rfl)) rfl
theorem tw_1327 : (Cond.code ⟨"ProofLibrary$Assertions", "secondOf", "(I)I"⟩ prog_2_method_11_code 2 (some .int)) ∈ TB := TB_m (tc_6 (List.mem_of_getElem? (i := 127) rfl)) rfl
theorem tw_1328 : (Cond.methodLink "ProofLibrary$Pile" 119 ⟨"ProofLibrary$Pile", "areApart", "(II)Z"⟩) ∈ TB := TB_m (tc_6 (List.mem_of_getElem? (i := 128) rfl)) rfl
theorem tw_1330 : (Cond.instanceMethod ⟨"ProofLibrary$Pile", "areApart", "(II)Z"⟩) ∈ TB := TB_m (tc_6 (List.mem_of_getElem? (i := 130) rfl)) rfl
theorem tw_1331 : (Cond.code ⟨"ProofLibrary$Pile", "areApart", "(II)Z"⟩ prog_8_method_8_code 5 (some .boolean)) ∈ TB := TB_m (tc_6 (List.mem_of_getElem? (i := 131) rfl)) rfl
theorem tw_1332 : (Cond.methodLink "ProofLibrary$Pile" 129 ⟨"ProofLibrary$Scopes", "areApart", "(II)Z"⟩) ∈ TB := TB_m (tc_6 (List.mem_of_getElem? (i := 132) rfl)) rfl
theorem tw_1333 : (Cond.methodLink "ProofLibrary$Steps" 200 ⟨"ProofLibrary$Pile", "build", "(I)Z"⟩) ∈ TB := TB_m (tc_6 (List.mem_of_getElem? (i := 133) rfl)) rfl
theorem tw_1334 : (Cond.instanceMethod ⟨"ProofLibrary$Pile", "build", "(I)Z"⟩) ∈ TB := TB_m (tc_6 (List.mem_of_getElem? (i := 134) rfl)) rfl
theorem tw_1335 : (Cond.selects "ProofLibrary$Pile" ⟨"ProofLibrary$Pile", "build", "(I)Z"⟩ ⟨"ProofLibrary$Pile", "build", "(I)Z"⟩) ∈ TB := TB_m (tc_6 (List.mem_of_getElem? (i := 135) rfl)) rfl
theorem tw_1336 : (Cond.code ⟨"ProofLibrary$Pile", "build", "(I)Z"⟩ prog_8_method_9_code 5 (some .boolean)) ∈ TB := TB_m (tc_6 (List.mem_of_getElem? (i := 136) rfl)) rfl
theorem tw_1337 : (Cond.methodLink "ProofLibrary$Steps" 209 ⟨"ProofLibrary$Pile", "drop", "(II)V"⟩) ∈ TB := TB_m (tc_6 (List.mem_of_getElem? (i := 137) rfl)) rfl
theorem tw_1338 : (Cond.instanceMethod ⟨"ProofLibrary$Pile", "drop", "(II)V"⟩) ∈ TB := TB_m (tc_6 (List.mem_of_getElem? (i := 138) rfl)) rfl
theorem tw_1339 : (Cond.selects "ProofLibrary$Pile" ⟨"ProofLibrary$Pile", "drop", "(II)V"⟩ ⟨"ProofLibrary$Pile", "drop", "(II)V"⟩) ∈ TB := TB_m (tc_6 (List.mem_of_getElem? (i := 139) rfl)) rfl
theorem tw_1340 : (Cond.code ⟨"ProofLibrary$Pile", "drop", "(II)V"⟩ prog_8_method_11_code 5 none) ∈ TB := TB_m (tc_6 (List.mem_of_getElem? (i := 140) rfl)) rfl
theorem tw_1341 : (Cond.methodLink "ProofLibrary$Steps" 212 ⟨"ProofLibrary$Steps", "putNew", "(Z)I"⟩) ∈ TB := TB_m (tc_6 (List.mem_of_getElem? (i := 141) rfl)) rfl
theorem tw_1343 : (Cond.instanceMethod ⟨"ProofLibrary$Steps", "putNew", "(Z)I"⟩) ∈ TB := TB_m (tc_6 (List.mem_of_getElem? (i := 143) rfl)) rfl
theorem tw_1344 : (Cond.code ⟨"ProofLibrary$Steps", "putNew", "(Z)I"⟩ prog_12_method_20_code 4 (some .int)) ∈ TB := TB_m (tc_6 (List.mem_of_getElem? (i := 144) rfl)) rfl
theorem tw_1345 : (Cond.methodLink "ProofLibrary$Steps" 216 ⟨"ProofLibrary$Pile", "put", "(IZ)Z"⟩) ∈ TB := TB_m (tc_6 (List.mem_of_getElem? (i := 145) rfl)) rfl
theorem tw_1346 : (Cond.instanceMethod ⟨"ProofLibrary$Pile", "put", "(IZ)Z"⟩) ∈ TB := TB_m (tc_6 (List.mem_of_getElem? (i := 146) rfl)) rfl
theorem tw_1347 : (Cond.selects "ProofLibrary$Pile" ⟨"ProofLibrary$Pile", "put", "(IZ)Z"⟩ ⟨"ProofLibrary$Pile", "put", "(IZ)Z"⟩) ∈ TB := TB_m (tc_6 (List.mem_of_getElem? (i := 147) rfl)) rfl
theorem tw_1348 : (Cond.code ⟨"ProofLibrary$Pile", "put", "(IZ)Z"⟩ prog_8_method_12_code 3 (some .boolean)) ∈ TB := TB_m (tc_6 (List.mem_of_getElem? (i := 148) rfl)) rfl
theorem tw_1349 : (Cond.methodLink "ProofLibrary$Steps" 176 ⟨"ProofLibrary$Pile", "isStatement", "(II)Z"⟩) ∈ TB := TB_m (tc_6 (List.mem_of_getElem? (i := 149) rfl)) rfl
theorem tw_1350 : (Cond.instanceMethod ⟨"ProofLibrary$Pile", "isStatement", "(II)Z"⟩) ∈ TB := TB_m (tc_6 (List.mem_of_getElem? (i := 150) rfl)) rfl
theorem tw_1351 : (Cond.selects "ProofLibrary$Pile" ⟨"ProofLibrary$Pile", "isStatement", "(II)Z"⟩ ⟨"ProofLibrary$Pile", "isStatement", "(II)Z"⟩) ∈ TB := TB_m (tc_6 (List.mem_of_getElem? (i := 151) rfl)) rfl
theorem tw_1352 : (Cond.code ⟨"ProofLibrary$Pile", "isStatement", "(II)Z"⟩ prog_8_method_13_code 4 (some .boolean)) ∈ TB := TB_m (tc_6 (List.mem_of_getElem? (i := 152) rfl)) rfl
theorem tw_1353 : (Cond.methodLink "ProofLibrary$Steps" 179 ⟨"ProofLibrary$Assertions", "keepRows", "(II)V"⟩) ∈ TB := TB_m (tc_6 (List.mem_of_getElem? (i := 153) rfl)) rfl
theorem tw_1354 : (Cond.instanceMethod ⟨"ProofLibrary$Assertions", "keepRows", "(II)V"⟩) ∈ TB := TB_m (tc_6 (List.mem_of_getElem? (i := 154) rfl)) rfl
theorem tw_1355 : (Cond.selects "ProofLibrary$Assertions" ⟨"ProofLibrary$Assertions", "keepRows", "(II)V"⟩ ⟨"ProofLibrary$Assertions", "keepRows", "(II)V"⟩) ∈ TB := TB_m (tc_6 (List.mem_of_getElem? (i := 155) rfl)) rfl
theorem tw_1356 : (Cond.code ⟨"ProofLibrary$Assertions", "keepRows", "(II)V"⟩ prog_2_method_13_code 7 none) ∈ TB := TB_m (tc_6 (List.mem_of_getElem? (i := 156) rfl)) rfl
theorem tw_1357 : (Cond.constantLong "ProofLibrary$Assertions" 122 1000000000000000001) ∈ TB := TB_m (tc_6 (List.mem_of_getElem? (i := 157) rfl)) rfl
theorem tw_1358 : (Cond.methodLink "ProofLibrary$Assertions" 124 ⟨"java/lang/Math", "min", "(JJ)J"⟩) ∈ TB := TB_m (tc_6 (List.mem_of_getElem? (i := 158) rfl)) rfl
theorem tw_1359 : (Cond.static ⟨"java/lang/Math", "min", "(JJ)J"⟩) ∈ TB := TB_m (tc_6 (List.mem_of_getElem? (i := 159) rfl)) rfl
theorem tw_1360 : (Cond.code ⟨"java/lang/Math", "min", "(JJ)J"⟩ prog_19_method_70_code 4 (some .long)) ∈ TB := TB_m (tc_6 (List.mem_of_getElem? (i := 160) rfl)) rfl
theorem tw_1361 : (Cond.methodLink "ProofLibrary$Reader" 189 ⟨"ProofLibrary$Steps", "noteRests", "()V"⟩) ∈ TB := TB_m (tc_6 (List.mem_of_getElem? (i := 161) rfl)) rfl
theorem tw_1362 : (Cond.instanceMethod ⟨"ProofLibrary$Steps", "noteRests", "()V"⟩) ∈ TB := TB_m (tc_6 (List.mem_of_getElem? (i := 162) rfl)) rfl
theorem tw_1363 : (Cond.selects "ProofLibrary$Steps" ⟨"ProofLibrary$Steps", "noteRests", "()V"⟩ ⟨"ProofLibrary$Steps", "noteRests", "()V"⟩) ∈ TB := TB_m (tc_6 (List.mem_of_getElem? (i := 163) rfl)) rfl
theorem tw_1364 : (Cond.code ⟨"ProofLibrary$Steps", "noteRests", "()V"⟩ prog_12_method_17_code 3 none) ∈ TB := TB_m (tc_6 (List.mem_of_getElem? (i := 164) rfl)) rfl
theorem tw_1365 : (Cond.methodLink "ProofLibrary$Steps" 148 ⟨"ProofLibrary$Assertions", "restsOn", "(II)Z"⟩) ∈ TB := TB_m (tc_6 (List.mem_of_getElem? (i := 165) rfl)) rfl
theorem tw_1366 : (Cond.instanceMethod ⟨"ProofLibrary$Assertions", "restsOn", "(II)Z"⟩) ∈ TB := TB_m (tc_6 (List.mem_of_getElem? (i := 166) rfl)) rfl
theorem tw_1367 : (Cond.selects "ProofLibrary$Assertions" ⟨"ProofLibrary$Assertions", "restsOn", "(II)Z"⟩ ⟨"ProofLibrary$Assertions", "restsOn", "(II)Z"⟩) ∈ TB := TB_m (tc_6 (List.mem_of_getElem? (i := 167) rfl)) rfl
theorem tw_1368 : (Cond.code ⟨"ProofLibrary$Assertions", "restsOn", "(II)Z"⟩ prog_2_method_16_code 3 (some .boolean)) ∈ TB := TB_m (tc_6 (List.mem_of_getElem? (i := 168) rfl)) rfl
theorem tw_1369 : (Cond.methodLink "ProofLibrary$Steps" 152 ⟨"ProofLibrary$Assertions", "addRest", "(II)V"⟩) ∈ TB := TB_m (tc_6 (List.mem_of_getElem? (i := 169) rfl)) rfl
theorem tw_1370 : (Cond.instanceMethod ⟨"ProofLibrary$Assertions", "addRest", "(II)V"⟩) ∈ TB := TB_m (tc_6 (List.mem_of_getElem? (i := 170) rfl)) rfl
theorem tw_1371 : (Cond.selects "ProofLibrary$Assertions" ⟨"ProofLibrary$Assertions", "addRest", "(II)V"⟩ ⟨"ProofLibrary$Assertions", "addRest", "(II)V"⟩) ∈ TB := TB_m (tc_6 (List.mem_of_getElem? (i := 171) rfl)) rfl
theorem tw_1372 : (Cond.code ⟨"ProofLibrary$Assertions", "addRest", "(II)V"⟩ prog_2_method_15_code 4 none) ∈ TB := TB_m (tc_6 (List.mem_of_getElem? (i := 172) rfl)) rfl
theorem tw_1373 : (Cond.methodLink "ProofLibrary$Reader" 57 ⟨"ProofLibrary$Reader", "faultAtEnd", "()I"⟩) ∈ TB := TB_m (tc_6 (List.mem_of_getElem? (i := 173) rfl)) rfl
theorem tw_1375 : (Cond.instanceMethod ⟨"ProofLibrary$Reader", "faultAtEnd", "()I"⟩) ∈ TB := TB_m (tc_6 (List.mem_of_getElem? (i := 175) rfl)) rfl
theorem tw_1376 : (Cond.code ⟨"ProofLibrary$Reader", "faultAtEnd", "()I"⟩ prog_9_method_4_code 1 (some .int)) ∈ TB := TB_m (tc_6 (List.mem_of_getElem? (i := 176) rfl)) rfl
theorem tw_1377 : (Cond.methodLink "ProofLibrary$Reader" 60 ⟨"ProofLibrary$Library", "goBack", "()V"⟩) ∈ TB := TB_m (tc_6 (List.mem_of_getElem? (i := 177) rfl)) rfl
theorem tw_1378 : (Cond.instanceMethod ⟨"ProofLibrary$Library", "goBack", "()V"⟩) ∈ TB := TB_m (tc_6 (List.mem_of_getElem? (i := 178) rfl)) rfl
theorem tw_1379 : (Cond.selects "ProofLibrary$Library" ⟨"ProofLibrary$Library", "goBack", "()V"⟩ ⟨"ProofLibrary$Library", "goBack", "()V"⟩) ∈ TB := TB_m (tc_6 (List.mem_of_getElem? (i := 179) rfl)) rfl
theorem tw_1380 : (Cond.code ⟨"ProofLibrary$Library", "goBack", "()V"⟩ prog_5_method_26_code 2 none) ∈ TB := TB_m (tc_6 (List.mem_of_getElem? (i := 180) rfl)) rfl
theorem tw_1381 : (Cond.methodLink "ProofLibrary$Reader" 65 ⟨"ProofLibrary$Assertions", "goBack", "()V"⟩) ∈ TB := TB_m (tc_6 (List.mem_of_getElem? (i := 181) rfl)) rfl
theorem tw_1382 : (Cond.instanceMethod ⟨"ProofLibrary$Assertions", "goBack", "()V"⟩) ∈ TB := TB_m (tc_6 (List.mem_of_getElem? (i := 182) rfl)) rfl
theorem tw_1383 : (Cond.selects "ProofLibrary$Assertions" ⟨"ProofLibrary$Assertions", "goBack", "()V"⟩ ⟨"ProofLibrary$Assertions", "goBack", "()V"⟩) ∈ TB := TB_m (tc_6 (List.mem_of_getElem? (i := 183) rfl)) rfl
theorem tw_1384 : (Cond.code ⟨"ProofLibrary$Assertions", "goBack", "()V"⟩ prog_2_method_3_code 1 none) ∈ TB := TB_m (tc_6 (List.mem_of_getElem? (i := 184) rfl)) rfl
theorem tw_1385 : (Cond.methodLink "ProofLibrary$Reader" 68 ⟨"ProofLibrary$Scopes", "goBack", "()V"⟩) ∈ TB := TB_m (tc_6 (List.mem_of_getElem? (i := 185) rfl)) rfl
theorem tw_1386 : (Cond.instanceMethod ⟨"ProofLibrary$Scopes", "goBack", "()V"⟩) ∈ TB := TB_m (tc_6 (List.mem_of_getElem? (i := 186) rfl)) rfl
theorem tw_1387 : (Cond.selects "ProofLibrary$Scopes" ⟨"ProofLibrary$Scopes", "goBack", "()V"⟩ ⟨"ProofLibrary$Scopes", "goBack", "()V"⟩) ∈ TB := TB_m (tc_6 (List.mem_of_getElem? (i := 187) rfl)) rfl
theorem tw_1388 : (Cond.code ⟨"ProofLibrary$Scopes", "goBack", "()V"⟩ prog_11_method_3_code 1 none) ∈ TB := TB_m (tc_6 (List.mem_of_getElem? (i := 188) rfl)) rfl
theorem tw_1389 : (Cond.methodLink "ProofLibrary" 138 ⟨"ProofLibrary", "useTape", "()V"⟩) ∈ TB := TB_m (tc_6 (List.mem_of_getElem? (i := 189) rfl)) rfl
theorem tw_1391 : (Cond.instanceMethod ⟨"ProofLibrary", "useTape", "()V"⟩) ∈ TB := TB_m (tc_6 (List.mem_of_getElem? (i := 191) rfl)) rfl
theorem tw_1392 : (Cond.code ⟨"ProofLibrary", "useTape", "()V"⟩ prog_1_method_6_code 1 none) ∈ TB := TB_m (tc_6 (List.mem_of_getElem? (i := 192) rfl)) rfl
theorem tw_1393 : (Cond.methodLink "ProofLibraryLaw" 28 ⟨"ProofLibrary", "place", "()I"⟩) ∈ TB := TB_m (tc_6 (List.mem_of_getElem? (i := 193) rfl)) rfl
theorem tw_1394 : (Cond.instanceMethod ⟨"ProofLibrary", "place", "()I"⟩) ∈ TB := TB_m (tc_6 (List.mem_of_getElem? (i := 194) rfl)) rfl
theorem tw_1395 : (Cond.selects "ProofLibrary" ⟨"ProofLibrary", "place", "()I"⟩ ⟨"ProofLibrary", "place", "()I"⟩) ∈ TB := TB_m (tc_6 (List.mem_of_getElem? (i := 195) rfl)) rfl
theorem tw_1396 : (Cond.code ⟨"ProofLibrary", "place", "()I"⟩ prog_1_method_7_code 1 (some .int)) ∈ TB := TB_m (tc_6 (List.mem_of_getElem? (i := 196) rfl)) rfl
theorem tw_1397 : (Cond.methodLink "ProofLibraryLaw" 32 ⟨"ProofLibrary", "count", "(I)I"⟩) ∈ TB := TB_m (tc_6 (List.mem_of_getElem? (i := 197) rfl)) rfl
theorem tw_1398 : (Cond.instanceMethod ⟨"ProofLibrary", "count", "(I)I"⟩) ∈ TB := TB_m (tc_6 (List.mem_of_getElem? (i := 198) rfl)) rfl
theorem tw_1399 : (Cond.selects "ProofLibrary" ⟨"ProofLibrary", "count", "(I)I"⟩ ⟨"ProofLibrary", "count", "(I)I"⟩) ∈ TB := TB_m (tc_6 (List.mem_of_getElem? (i := 199) rfl)) rfl
theorem tw_1400 : (Cond.code ⟨"ProofLibrary", "count", "(I)I"⟩ prog_1_method_8_code 2 (some .int)) ∈ TB := TB_m (tc_6 (List.mem_of_getElem? (i := 200) rfl)) rfl
theorem tw_1401 : (Cond.methodLink "ProofLibrary" 147 ⟨"ProofLibrary$Library", "constants", "()I"⟩) ∈ TB := TB_m (tc_6 (List.mem_of_getElem? (i := 201) rfl)) rfl
theorem tw_1402 : (Cond.instanceMethod ⟨"ProofLibrary$Library", "constants", "()I"⟩) ∈ TB := TB_m (tc_6 (List.mem_of_getElem? (i := 202) rfl)) rfl
theorem tw_1403 : (Cond.selects "ProofLibrary$Library" ⟨"ProofLibrary$Library", "constants", "()I"⟩ ⟨"ProofLibrary$Library", "constants", "()I"⟩) ∈ TB := TB_m (tc_6 (List.mem_of_getElem? (i := 203) rfl)) rfl
theorem tw_1404 : (Cond.code ⟨"ProofLibrary$Library", "constants", "()I"⟩ prog_5_method_23_code 3 (some .int)) ∈ TB := TB_m (tc_6 (List.mem_of_getElem? (i := 204) rfl)) rfl
theorem tw_1405 : (Cond.methodLink "ProofLibrary" 151 ⟨"ProofLibrary$Library", "ofKind", "(I)I"⟩) ∈ TB := TB_m (tc_6 (List.mem_of_getElem? (i := 205) rfl)) rfl
theorem tw_1406 : (Cond.instanceMethod ⟨"ProofLibrary$Library", "ofKind", "(I)I"⟩) ∈ TB := TB_m (tc_6 (List.mem_of_getElem? (i := 206) rfl)) rfl
theorem tw_1407 : (Cond.selects "ProofLibrary$Library" ⟨"ProofLibrary$Library", "ofKind", "(I)I"⟩ ⟨"ProofLibrary$Library", "ofKind", "(I)I"⟩) ∈ TB := TB_m (tc_6 (List.mem_of_getElem? (i := 207) rfl)) rfl
theorem tw_1408 : (Cond.code ⟨"ProofLibrary$Library", "ofKind", "(I)I"⟩ prog_5_method_24_code 4 (some .int)) ∈ TB := TB_m (tc_6 (List.mem_of_getElem? (i := 208) rfl)) rfl
theorem tw_1409 : (Cond.methodLink "ProofLibraryLaw" 36 ⟨"ProofLibrary", "kind", "(I)I"⟩) ∈ TB := TB_m (tc_6 (List.mem_of_getElem? (i := 209) rfl)) rfl
theorem tw_1410 : (Cond.instanceMethod ⟨"ProofLibrary", "kind", "(I)I"⟩) ∈ TB := TB_m (tc_6 (List.mem_of_getElem? (i := 210) rfl)) rfl
theorem tw_1411 : (Cond.selects "ProofLibrary" ⟨"ProofLibrary", "kind", "(I)I"⟩ ⟨"ProofLibrary", "kind", "(I)I"⟩) ∈ TB := TB_m (tc_6 (List.mem_of_getElem? (i := 211) rfl)) rfl
theorem tw_1412 : (Cond.code ⟨"ProofLibrary", "kind", "(I)I"⟩ prog_1_method_9_code 2 (some .int)) ∈ TB := TB_m (tc_6 (List.mem_of_getElem? (i := 212) rfl)) rfl
theorem tw_1413 : (Cond.methodLink "ProofLibrary" 161 ⟨"ProofLibrary$Library", "isStatement", "(I)Z"⟩) ∈ TB := TB_m (tc_6 (List.mem_of_getElem? (i := 213) rfl)) rfl
theorem tw_1414 : (Cond.instanceMethod ⟨"ProofLibrary$Library", "isStatement", "(I)Z"⟩) ∈ TB := TB_m (tc_6 (List.mem_of_getElem? (i := 214) rfl)) rfl
theorem tw_1415 : (Cond.selects "ProofLibrary$Library" ⟨"ProofLibrary$Library", "isStatement", "(I)Z"⟩ ⟨"ProofLibrary$Library", "isStatement", "(I)Z"⟩) ∈ TB := TB_m (tc_6 (List.mem_of_getElem? (i := 215) rfl)) rfl
theorem tw_1416 : (Cond.code ⟨"ProofLibrary$Library", "isStatement", "(I)Z"⟩ prog_5_method_19_code 2 (some .boolean)) ∈ TB := TB_m (tc_6 (List.mem_of_getElem? (i := 216) rfl)) rfl
theorem tw_1417 : (Cond.methodLink "ProofLibraryLaw" 40 ⟨"ProofLibrary", "length", "(I)I"⟩) ∈ TB := TB_m (tc_6 (List.mem_of_getElem? (i := 217) rfl)) rfl
theorem tw_1418 : (Cond.instanceMethod ⟨"ProofLibrary", "length", "(I)I"⟩) ∈ TB := TB_m (tc_6 (List.mem_of_getElem? (i := 218) rfl)) rfl
theorem tw_1419 : (Cond.selects "ProofLibrary" ⟨"ProofLibrary", "length", "(I)I"⟩ ⟨"ProofLibrary", "length", "(I)I"⟩) ∈ TB := TB_m (tc_6 (List.mem_of_getElem? (i := 219) rfl)) rfl
theorem tw_1420 : (Cond.code ⟨"ProofLibrary", "length", "(I)I"⟩ prog_1_method_10_code 2 (some .int)) ∈ TB := TB_m (tc_6 (List.mem_of_getElem? (i := 220) rfl)) rfl
theorem tw_1421 : (Cond.methodLink "ProofLibrary" 168 ⟨"ProofLibrary$Library", "lengthOf", "(I)I"⟩) ∈ TB := TB_m (tc_6 (List.mem_of_getElem? (i := 221) rfl)) rfl
theorem tw_1422 : (Cond.methodLink "ProofLibraryLaw" 44 ⟨"ProofLibrary", "symbol", "(II)I"⟩) ∈ TB := TB_m (tc_6 (List.mem_of_getElem? (i := 222) rfl)) rfl
theorem tw_1423 : (Cond.instanceMethod ⟨"ProofLibrary", "symbol", "(II)I"⟩) ∈ TB := TB_m (tc_6 (List.mem_of_getElem? (i := 223) rfl)) rfl
theorem tw_1424 : (Cond.selects "ProofLibrary" ⟨"ProofLibrary", "symbol", "(II)I"⟩ ⟨"ProofLibrary", "symbol", "(II)I"⟩) ∈ TB := TB_m (tc_6 (List.mem_of_getElem? (i := 224) rfl)) rfl
theorem tw_1425 : (Cond.code ⟨"ProofLibrary", "symbol", "(II)I"⟩ prog_1_method_11_code 3 (some .int)) ∈ TB := TB_m (tc_6 (List.mem_of_getElem? (i := 225) rfl)) rfl
theorem tw_1426 : (Cond.methodLink "ProofLibraryLaw" 49 ⟨"ProofLibrary", "variable", "(I)I"⟩) ∈ TB := TB_m (tc_6 (List.mem_of_getElem? (i := 226) rfl)) rfl
theorem tw_1427 : (Cond.instanceMethod ⟨"ProofLibrary", "variable", "(I)I"⟩) ∈ TB := TB_m (tc_6 (List.mem_of_getElem? (i := 227) rfl)) rfl
theorem tw_1428 : (Cond.selects "ProofLibrary" ⟨"ProofLibrary", "variable", "(I)I"⟩ ⟨"ProofLibrary", "variable", "(I)I"⟩) ∈ TB := TB_m (tc_6 (List.mem_of_getElem? (i := 228) rfl)) rfl
theorem tw_1429 : (Cond.code ⟨"ProofLibrary", "variable", "(I)I"⟩ prog_1_method_12_code 2 (some .int)) ∈ TB := TB_m (tc_6 (List.mem_of_getElem? (i := 229) rfl)) rfl
theorem tw_1430 : (Cond.methodLink "ProofLibrary" 177 ⟨"ProofLibrary$Library", "isSymbol", "(I)Z"⟩) ∈ TB := TB_m (tc_6 (List.mem_of_getElem? (i := 230) rfl)) rfl
theorem tw_1431 : (Cond.instanceMethod ⟨"ProofLibrary$Library", "isSymbol", "(I)Z"⟩) ∈ TB := TB_m (tc_6 (List.mem_of_getElem? (i := 231) rfl)) rfl
theorem tw_1432 : (Cond.selects "ProofLibrary$Library" ⟨"ProofLibrary$Library", "isSymbol", "(I)Z"⟩ ⟨"ProofLibrary$Library", "isSymbol", "(I)Z"⟩) ∈ TB := TB_m (tc_6 (List.mem_of_getElem? (i := 232) rfl)) rfl
theorem tw_1433 : (Cond.code ⟨"ProofLibrary$Library", "isSymbol", "(I)Z"⟩ prog_5_method_22_code 2 (some .boolean)) ∈ TB := TB_m (tc_6 (List.mem_of_getElem? (i := 233) rfl)) rfl
theorem tw_1434 : (Cond.methodLink "ProofLibraryLaw" 53 ⟨"ProofLibrary", "find", "(I)I"⟩) ∈ TB := TB_m (tc_6 (List.mem_of_getElem? (i := 234) rfl)) rfl
theorem tw_1435 : (Cond.instanceMethod ⟨"ProofLibrary", "find", "(I)I"⟩) ∈ TB := TB_m (tc_6 (List.mem_of_getElem? (i := 235) rfl)) rfl
theorem tw_1436 : (Cond.selects "ProofLibrary" ⟨"ProofLibrary", "find", "(I)I"⟩ ⟨"ProofLibrary", "find", "(I)I"⟩) ∈ TB := TB_m (tc_6 (List.mem_of_getElem? (i := 236) rfl)) rfl
theorem tw_1437 : (Cond.code ⟨"ProofLibrary", "find", "(I)I"⟩ prog_1_method_13_code 5 (some .int)) ∈ TB := TB_m (tc_6 (List.mem_of_getElem? (i := 237) rfl)) rfl
theorem tw_1438 : (Cond.methodLink "ProofLibrary" 184 ⟨"ProofLibrary", "skipBlanks", "([CII)I"⟩) ∈ TB := TB_m (tc_6 (List.mem_of_getElem? (i := 238) rfl)) rfl
theorem tw_1439 : (Cond.methodLink "ProofLibrary" 188 ⟨"ProofLibrary", "tokenEnd", "([CII)I"⟩) ∈ TB := TB_m (tc_6 (List.mem_of_getElem? (i := 239) rfl)) rfl
theorem tw_1440 : (Cond.methodLink "ProofLibrary" 191 ⟨"ProofLibrary$Library", "statementNamed", "([CII)I"⟩) ∈ TB := TB_m (tc_7 (List.mem_of_getElem? (i := 0) rfl)) rfl
theorem tw_1441 : (Cond.instanceMethod ⟨"ProofLibrary$Library", "statementNamed", "([CII)I"⟩) ∈ TB := TB_m (tc_7 (List.mem_of_getElem? (i := 1) rfl)) rfl
theorem tw_1442 : (Cond.selects "ProofLibrary$Library" ⟨"ProofLibrary$Library", "statementNamed", "([CII)I"⟩ ⟨"ProofLibrary$Library", "statementNamed", "([CII)I"⟩) ∈ TB := TB_m (tc_7 (List.mem_of_getElem? (i := 2) rfl)) rfl
theorem tw_1443 : (Cond.code ⟨"ProofLibrary$Library", "statementNamed", "([CII)I"⟩ prog_5_method_7_code 4 (some .int)) ∈ TB := TB_m (tc_7 (List.mem_of_getElem? (i := 3) rfl)) rfl
theorem tw_1444 : (Cond.methodLink "ProofLibrary$Library" 76 ⟨"ProofLibrary$Library", "nameOf", "([CII)I"⟩) ∈ TB := TB_m (tc_7 (List.mem_of_getElem? (i := 4) rfl)) rfl
theorem tw_1445 : (Cond.methodLink "ProofLibrary$Library" 79 ⟨"ProofLibrary$Library", "statementOf", "(I)I"⟩) ∈ TB := TB_m (tc_7 (List.mem_of_getElem? (i := 5) rfl)) rfl
theorem tw_1446 : (Cond.methodLink "ProofLibrary" 194 ⟨"ProofLibrary$Library", "symbolNamed", "([CII)I"⟩) ∈ TB := TB_m (tc_7 (List.mem_of_getElem? (i := 6) rfl)) rfl
theorem tw_1447 : (Cond.instanceMethod ⟨"ProofLibrary$Library", "symbolNamed", "([CII)I"⟩) ∈ TB := TB_m (tc_7 (List.mem_of_getElem? (i := 7) rfl)) rfl
theorem tw_1448 : (Cond.selects "ProofLibrary$Library" ⟨"ProofLibrary$Library", "symbolNamed", "([CII)I"⟩ ⟨"ProofLibrary$Library", "symbolNamed", "([CII)I"⟩) ∈ TB := TB_m (tc_7 (List.mem_of_getElem? (i := 8) rfl)) rfl
theorem tw_1449 : (Cond.code ⟨"ProofLibrary$Library", "symbolNamed", "([CII)I"⟩ prog_5_method_8_code 4 (some .int)) ∈ TB := TB_m (tc_7 (List.mem_of_getElem? (i := 9) rfl)) rfl
theorem tw_1450 : (Cond.methodLink "ProofLibrary$Library" 83 ⟨"ProofLibrary$Library", "symbolOf", "(I)I"⟩) ∈ TB := TB_m (tc_7 (List.mem_of_getElem? (i := 10) rfl)) rfl
theorem tw_1451 : (Cond.methodLink "ProofLibraryLaw" 57 ⟨"ProofLibrary", "frame", "(II)I"⟩) ∈ TB := TB_m (tc_7 (List.mem_of_getElem? (i := 11) rfl)) rfl
theorem tw_1452 : (Cond.instanceMethod ⟨"ProofLibrary", "frame", "(II)I"⟩) ∈ TB := TB_m (tc_7 (List.mem_of_getElem? (i := 12) rfl)) rfl
theorem tw_1453 : (Cond.selects "ProofLibrary" ⟨"ProofLibrary", "frame", "(II)I"⟩ ⟨"ProofLibrary", "frame", "(II)I"⟩) ∈ TB := TB_m (tc_7 (List.mem_of_getElem? (i := 13) rfl)) rfl
theorem tw_1454 : (Cond.code ⟨"ProofLibrary", "frame", "(II)I"⟩ prog_1_method_14_code 3 (some .int)) ∈ TB := TB_m (tc_7 (List.mem_of_getElem? (i := 14) rfl)) rfl
theorem tw_1455 : (Cond.methodLink "ProofLibrary" 197 ⟨"ProofLibrary$Library", "isAssertion", "(I)Z"⟩) ∈ TB := TB_m (tc_7 (List.mem_of_getElem? (i := 15) rfl)) rfl
theorem tw_1456 : (Cond.instanceMethod ⟨"ProofLibrary$Library", "isAssertion", "(I)Z"⟩) ∈ TB := TB_m (tc_7 (List.mem_of_getElem? (i := 16) rfl)) rfl
theorem tw_1457 : (Cond.selects "ProofLibrary$Library" ⟨"ProofLibrary$Library", "isAssertion", "(I)Z"⟩ ⟨"ProofLibrary$Library", "isAssertion", "(I)Z"⟩) ∈ TB := TB_m (tc_7 (List.mem_of_getElem? (i := 17) rfl)) rfl
theorem tw_1458 : (Cond.code ⟨"ProofLibrary$Library", "isAssertion", "(I)Z"⟩ prog_5_method_20_code 2 (some .boolean)) ∈ TB := TB_m (tc_7 (List.mem_of_getElem? (i := 18) rfl)) rfl
theorem tw_1459 : (Cond.methodLink "ProofLibrary$Library" 109 ⟨"ProofLibrary$Library", "isStatement", "(I)Z"⟩) ∈ TB := TB_m (tc_7 (List.mem_of_getElem? (i := 19) rfl)) rfl
theorem tw_1460 : (Cond.methodLink "ProofLibrary" 206 ⟨"ProofLibrary$Assertions", "restCount", "(I)I"⟩) ∈ TB := TB_m (tc_7 (List.mem_of_getElem? (i := 20) rfl)) rfl
theorem tw_1461 : (Cond.instanceMethod ⟨"ProofLibrary$Assertions", "restCount", "(I)I"⟩) ∈ TB := TB_m (tc_7 (List.mem_of_getElem? (i := 21) rfl)) rfl
theorem tw_1462 : (Cond.selects "ProofLibrary$Assertions" ⟨"ProofLibrary$Assertions", "restCount", "(I)I"⟩ ⟨"ProofLibrary$Assertions", "restCount", "(I)I"⟩) ∈ TB := TB_m (tc_7 (List.mem_of_getElem? (i := 22) rfl)) rfl
theorem tw_1463 : (Cond.code ⟨"ProofLibrary$Assertions", "restCount", "(I)I"⟩ prog_2_method_17_code 4 (some .int)) ∈ TB := TB_m (tc_7 (List.mem_of_getElem? (i := 23) rfl)) rfl
theorem tw_1464 : (Cond.methodLink "ProofLibrary$Assertions" 130 ⟨"java/lang/Long", "bitCount", "(J)I"⟩) ∈ TB := TB_m (tc_7 (List.mem_of_getElem? (i := 24) rfl)) rfl
theorem tw_1465 : (Cond.static ⟨"java/lang/Long", "bitCount", "(J)I"⟩) ∈ TB := TB_m (tc_7 (List.mem_of_getElem? (i := 25) rfl)) rfl
theorem tw_1466 : (Cond.code ⟨"java/lang/Long", "bitCount", "(J)I"⟩ prog_18_method_50_code 2 (some .int)) ∈ TB := TB_m (tc_7 (List.mem_of_getElem? (i := 26) rfl)) rfl
theorem tw_1467 : (Cond.constantLong "java/lang/Long" 314 6148914691236517205) ∈ TB := TB_m (tc_7 (List.mem_of_getElem? (i := 27) rfl)) rfl
theorem tw_1468 : (Cond.constantLong "java/lang/Long" 316 3689348814741910323) ∈ TB := TB_m (tc_7 (List.mem_of_getElem? (i := 28) rfl)) rfl
theorem tw_1469 : (Cond.constantLong "java/lang/Long" 318 1085102592571150095) ∈ TB := TB_m (tc_7 (List.mem_of_getElem? (i := 29) rfl)) rfl
theorem tw_1470 : (Cond.methodLink "ProofLibraryLaw" 61 ⟨"ProofLibrary", "hypothesis", "(II)I"⟩) ∈ TB := TB_m (tc_7 (List.mem_of_getElem? (i := 30) rfl)) rfl
theorem tw_1471 : (Cond.instanceMethod ⟨"ProofLibrary", "hypothesis", "(II)I"⟩) ∈ TB := TB_m (tc_7 (List.mem_of_getElem? (i := 31) rfl)) rfl
theorem tw_1472 : (Cond.selects "ProofLibrary" ⟨"ProofLibrary", "hypothesis", "(II)I"⟩ ⟨"ProofLibrary", "hypothesis", "(II)I"⟩) ∈ TB := TB_m (tc_7 (List.mem_of_getElem? (i := 32) rfl)) rfl
theorem tw_1473 : (Cond.code ⟨"ProofLibrary", "hypothesis", "(II)I"⟩ prog_1_method_15_code 3 (some .int)) ∈ TB := TB_m (tc_7 (List.mem_of_getElem? (i := 33) rfl)) rfl
theorem tw_1474 : (Cond.methodLink "ProofLibraryLaw" 65 ⟨"ProofLibrary", "apart", "(III)I"⟩) ∈ TB := TB_m (tc_7 (List.mem_of_getElem? (i := 34) rfl)) rfl
theorem tw_1475 : (Cond.instanceMethod ⟨"ProofLibrary", "apart", "(III)I"⟩) ∈ TB := TB_m (tc_7 (List.mem_of_getElem? (i := 35) rfl)) rfl
theorem tw_1476 : (Cond.selects "ProofLibrary" ⟨"ProofLibrary", "apart", "(III)I"⟩ ⟨"ProofLibrary", "apart", "(III)I"⟩) ∈ TB := TB_m (tc_7 (List.mem_of_getElem? (i := 36) rfl)) rfl
theorem tw_1477 : (Cond.code ⟨"ProofLibrary", "apart", "(III)I"⟩ prog_1_method_16_code 4 (some .int)) ∈ TB := TB_m (tc_7 (List.mem_of_getElem? (i := 37) rfl)) rfl
theorem tw_1478 : (Cond.methodLink "ProofLibrary" 215 ⟨"ProofLibrary$Assertions", "isPair", "(III)Z"⟩) ∈ TB := TB_m (tc_7 (List.mem_of_getElem? (i := 38) rfl)) rfl
theorem tw_1479 : (Cond.instanceMethod ⟨"ProofLibrary$Assertions", "isPair", "(III)Z"⟩) ∈ TB := TB_m (tc_7 (List.mem_of_getElem? (i := 39) rfl)) rfl
theorem tw_1480 : (Cond.selects "ProofLibrary$Assertions" ⟨"ProofLibrary$Assertions", "isPair", "(III)Z"⟩ ⟨"ProofLibrary$Assertions", "isPair", "(III)Z"⟩) ∈ TB := TB_m (tc_7 (List.mem_of_getElem? (i := 40) rfl)) rfl
theorem tw_1481 : (Cond.code ⟨"ProofLibrary$Assertions", "isPair", "(III)Z"⟩ prog_2_method_9_code 7 (some .boolean)) ∈ TB := TB_m (tc_7 (List.mem_of_getElem? (i := 41) rfl)) rfl
theorem tw_1482 : (Cond.methodLink "ProofLibrary$Assertions" 116 ⟨"ProofLibrary$Assertions", "firstOf", "(I)I"⟩) ∈ TB := TB_m (tc_7 (List.mem_of_getElem? (i := 42) rfl)) rfl
theorem tw_1483 : (Cond.methodLink "ProofLibrary$Assertions" 119 ⟨"ProofLibrary$Assertions", "secondOf", "(I)I"⟩) ∈ TB := TB_m (tc_7 (List.mem_of_getElem? (i := 43) rfl)) rfl
theorem tw_1484 : (Cond.methodLink "ProofLibraryLaw" 70 ⟨"ProofLibrary", "rows", "(I)I"⟩) ∈ TB := TB_m (tc_7 (List.mem_of_getElem? (i := 44) rfl)) rfl
theorem tw_1485 : (Cond.instanceMethod ⟨"ProofLibrary", "rows", "(I)I"⟩) ∈ TB := TB_m (tc_7 (List.mem_of_getElem? (i := 45) rfl)) rfl
theorem tw_1486 : (Cond.selects "ProofLibrary" ⟨"ProofLibrary", "rows", "(I)I"⟩ ⟨"ProofLibrary", "rows", "(I)I"⟩) ∈ TB := TB_m (tc_7 (List.mem_of_getElem? (i := 46) rfl)) rfl
theorem tw_1487 : (Cond.code ⟨"ProofLibrary", "rows", "(I)I"⟩ prog_1_method_17_code 2 (some .int)) ∈ TB := TB_m (tc_7 (List.mem_of_getElem? (i := 47) rfl)) rfl
theorem tw_1488 : (Cond.methodLink "ProofLibrary" 219 ⟨"ProofLibrary$Library", "isProved", "(I)Z"⟩) ∈ TB := TB_m (tc_7 (List.mem_of_getElem? (i := 48) rfl)) rfl
theorem tw_1489 : (Cond.instanceMethod ⟨"ProofLibrary$Library", "isProved", "(I)Z"⟩) ∈ TB := TB_m (tc_7 (List.mem_of_getElem? (i := 49) rfl)) rfl
theorem tw_1490 : (Cond.selects "ProofLibrary$Library" ⟨"ProofLibrary$Library", "isProved", "(I)Z"⟩ ⟨"ProofLibrary$Library", "isProved", "(I)Z"⟩) ∈ TB := TB_m (tc_7 (List.mem_of_getElem? (i := 50) rfl)) rfl
theorem tw_1491 : (Cond.code ⟨"ProofLibrary$Library", "isProved", "(I)Z"⟩ prog_5_method_21_code 2 (some .boolean)) ∈ TB := TB_m (tc_7 (List.mem_of_getElem? (i := 51) rfl)) rfl
theorem tw_1492 : (Cond.methodLink "ProofLibraryLaw" 74 ⟨"ProofLibrary", "row", "(II)I"⟩) ∈ TB := TB_m (tc_7 (List.mem_of_getElem? (i := 52) rfl)) rfl
theorem tw_1493 : (Cond.instanceMethod ⟨"ProofLibrary", "row", "(II)I"⟩) ∈ TB := TB_m (tc_7 (List.mem_of_getElem? (i := 53) rfl)) rfl
theorem tw_1494 : (Cond.selects "ProofLibrary" ⟨"ProofLibrary", "row", "(II)I"⟩ ⟨"ProofLibrary", "row", "(II)I"⟩) ∈ TB := TB_m (tc_7 (List.mem_of_getElem? (i := 54) rfl)) rfl
theorem tw_1495 : (Cond.code ⟨"ProofLibrary", "row", "(II)I"⟩ prog_1_method_19_code 3 (some .int)) ∈ TB := TB_m (tc_7 (List.mem_of_getElem? (i := 55) rfl)) rfl
theorem tw_1496 : (Cond.methodLink "ProofLibrary" 225 ⟨"ProofLibrary", "isRow", "(II)Z"⟩) ∈ TB := TB_m (tc_7 (List.mem_of_getElem? (i := 56) rfl)) rfl
theorem tw_1498 : (Cond.instanceMethod ⟨"ProofLibrary", "isRow", "(II)Z"⟩) ∈ TB := TB_m (tc_7 (List.mem_of_getElem? (i := 58) rfl)) rfl
theorem tw_1499 : (Cond.code ⟨"ProofLibrary", "isRow", "(II)Z"⟩ prog_1_method_18_code 3 (some .boolean)) ∈ TB := TB_m (tc_7 (List.mem_of_getElem? (i := 59) rfl)) rfl
theorem tw_1500 : (Cond.methodLink "ProofLibraryLaw" 78 ⟨"ProofLibrary", "from", "(III)I"⟩) ∈ TB := TB_m (tc_7 (List.mem_of_getElem? (i := 60) rfl)) rfl
theorem tw_1501 : (Cond.instanceMethod ⟨"ProofLibrary", "from", "(III)I"⟩) ∈ TB := TB_m (tc_7 (List.mem_of_getElem? (i := 61) rfl)) rfl
theorem tw_1502 : (Cond.selects "ProofLibrary" ⟨"ProofLibrary", "from", "(III)I"⟩ ⟨"ProofLibrary", "from", "(III)I"⟩) ∈ TB := TB_m (tc_7 (List.mem_of_getElem? (i := 62) rfl)) rfl
theorem tw_1503 : (Cond.code ⟨"ProofLibrary", "from", "(III)I"⟩ prog_1_method_20_code 5 (some .int)) ∈ TB := TB_m (tc_7 (List.mem_of_getElem? (i := 63) rfl)) rfl
theorem tw_1504 : (Cond.methodLink "ProofLibrary" 235 ⟨"ProofLibrary$Assertions", "childCount", "(I)I"⟩) ∈ TB := TB_m (tc_7 (List.mem_of_getElem? (i := 64) rfl)) rfl
theorem tw_1505 : (Cond.instanceMethod ⟨"ProofLibrary$Assertions", "childCount", "(I)I"⟩) ∈ TB := TB_m (tc_7 (List.mem_of_getElem? (i := 65) rfl)) rfl
theorem tw_1506 : (Cond.selects "ProofLibrary$Assertions" ⟨"ProofLibrary$Assertions", "childCount", "(I)I"⟩ ⟨"ProofLibrary$Assertions", "childCount", "(I)I"⟩) ∈ TB := TB_m (tc_7 (List.mem_of_getElem? (i := 66) rfl)) rfl
theorem tw_1507 : (Cond.code ⟨"ProofLibrary$Assertions", "childCount", "(I)I"⟩ prog_2_method_12_code 2 (some .int)) ∈ TB := TB_m (tc_7 (List.mem_of_getElem? (i := 67) rfl)) rfl
theorem tw_1508 : (Cond.methodLink "ProofLibraryLaw" 82 ⟨"ProofLibrary", "rests", "(II)I"⟩) ∈ TB := TB_m (tc_7 (List.mem_of_getElem? (i := 68) rfl)) rfl
theorem tw_1509 : (Cond.instanceMethod ⟨"ProofLibrary", "rests", "(II)I"⟩) ∈ TB := TB_m (tc_7 (List.mem_of_getElem? (i := 69) rfl)) rfl
theorem tw_1510 : (Cond.selects "ProofLibrary" ⟨"ProofLibrary", "rests", "(II)I"⟩ ⟨"ProofLibrary", "rests", "(II)I"⟩) ∈ TB := TB_m (tc_7 (List.mem_of_getElem? (i := 70) rfl)) rfl
theorem tw_1511 : (Cond.code ⟨"ProofLibrary", "rests", "(II)I"⟩ prog_1_method_21_code 3 (some .int)) ∈ TB := TB_m (tc_7 (List.mem_of_getElem? (i := 71) rfl)) rfl
theorem tw_1512 : (Cond.methodLink "ProofLibrary" 244 ⟨"ProofLibrary$Assertions", "restsOn", "(II)Z"⟩) ∈ TB := TB_m (tc_7 (List.mem_of_getElem? (i := 72) rfl)) rfl
theorem tw_1513 : (Cond.methodLink "ProofLibraryLaw" 86 ⟨"ProofLibrary", "size", "(I)J"⟩) ∈ TB := TB_m (tc_7 (List.mem_of_getElem? (i := 73) rfl)) rfl
theorem tw_1514 : (Cond.instanceMethod ⟨"ProofLibrary", "size", "(I)J"⟩) ∈ TB := TB_m (tc_7 (List.mem_of_getElem? (i := 74) rfl)) rfl
theorem tw_1515 : (Cond.selects "ProofLibrary" ⟨"ProofLibrary", "size", "(I)J"⟩ ⟨"ProofLibrary", "size", "(I)J"⟩) ∈ TB := TB_m (tc_7 (List.mem_of_getElem? (i := 75) rfl)) rfl
theorem tw_1516 : (Cond.code ⟨"ProofLibrary", "size", "(I)J"⟩ prog_1_method_22_code 4 (some .long)) ∈ TB := TB_m (tc_7 (List.mem_of_getElem? (i := 76) rfl)) rfl
theorem tw_1517 : (Cond.constantLong "ProofLibrary" 247 (-1)) ∈ TB := TB_m (tc_7 (List.mem_of_getElem? (i := 77) rfl)) rfl
theorem tw_1518 : (Cond.methodLink "ProofLibrary" 249 ⟨"ProofLibrary$Assertions", "labelsOf", "(I)J"⟩) ∈ TB := TB_m (tc_7 (List.mem_of_getElem? (i := 78) rfl)) rfl
theorem tw_1519 : (Cond.instanceMethod ⟨"ProofLibrary$Assertions", "labelsOf", "(I)J"⟩) ∈ TB := TB_m (tc_7 (List.mem_of_getElem? (i := 79) rfl)) rfl
theorem tw_1520 : (Cond.selects "ProofLibrary$Assertions" ⟨"ProofLibrary$Assertions", "labelsOf", "(I)J"⟩ ⟨"ProofLibrary$Assertions", "labelsOf", "(I)J"⟩) ∈ TB := TB_m (tc_7 (List.mem_of_getElem? (i := 80) rfl)) rfl
theorem tw_1521 : (Cond.code ⟨"ProofLibrary$Assertions", "labelsOf", "(I)J"⟩ prog_2_method_14_code 2 (some .long)) ∈ TB := TB_m (tc_7 (List.mem_of_getElem? (i := 81) rfl)) rfl
theorem tw_1522 : (Cond.constantLong "ProofLibrary" 253 1000000000000000000) ∈ TB := TB_m (tc_7 (List.mem_of_getElem? (i := 82) rfl)) rfl
theorem tw_1523 : (Cond.constantLong "ProofLibrary" 255 (-2)) ∈ TB := TB_m (tc_7 (List.mem_of_getElem? (i := 83) rfl)) rfl
theorem tw_1524 : (Cond.methodLink "ProofLibraryLaw" 91 ⟨"ProofLibrary", "print", "(III)I"⟩) ∈ TB := TB_m (tc_7 (List.mem_of_getElem? (i := 84) rfl)) rfl
theorem tw_1525 : (Cond.instanceMethod ⟨"ProofLibrary", "print", "(III)I"⟩) ∈ TB := TB_m (tc_7 (List.mem_of_getElem? (i := 85) rfl)) rfl
theorem tw_1526 : (Cond.selects "ProofLibrary" ⟨"ProofLibrary", "print", "(III)I"⟩ ⟨"ProofLibrary", "print", "(III)I"⟩) ∈ TB := TB_m (tc_7 (List.mem_of_getElem? (i := 86) rfl)) rfl
theorem tw_1527 : (Cond.code ⟨"ProofLibrary", "print", "(III)I"⟩ prog_1_method_23_code 4 (some .int)) ∈ TB := TB_m (tc_7 (List.mem_of_getElem? (i := 87) rfl)) rfl
theorem tw_1528 : (Cond.methodLink "ProofLibrary" 257 ⟨"ProofLibrary", "printSymbol", "(I)I"⟩) ∈ TB := TB_m (tc_7 (List.mem_of_getElem? (i := 88) rfl)) rfl
theorem tw_1530 : (Cond.instanceMethod ⟨"ProofLibrary", "printSymbol", "(I)I"⟩) ∈ TB := TB_m (tc_7 (List.mem_of_getElem? (i := 90) rfl)) rfl
theorem tw_1531 : (Cond.code ⟨"ProofLibrary", "printSymbol", "(I)I"⟩ prog_1_method_24_code 2 (some .int)) ∈ TB := TB_m (tc_7 (List.mem_of_getElem? (i := 91) rfl)) rfl
theorem tw_1532 : (Cond.methodLink "ProofLibrary" 260 ⟨"ProofLibrary$Paper", "begin", "()V"⟩) ∈ TB := TB_m (tc_7 (List.mem_of_getElem? (i := 92) rfl)) rfl
theorem tw_1533 : (Cond.instanceMethod ⟨"ProofLibrary$Paper", "begin", "()V"⟩) ∈ TB := TB_m (tc_7 (List.mem_of_getElem? (i := 93) rfl)) rfl
theorem tw_1534 : (Cond.selects "ProofLibrary$Paper" ⟨"ProofLibrary$Paper", "begin", "()V"⟩ ⟨"ProofLibrary$Paper", "begin", "()V"⟩) ∈ TB := TB_m (tc_7 (List.mem_of_getElem? (i := 94) rfl)) rfl
theorem tw_1535 : (Cond.code ⟨"ProofLibrary$Paper", "begin", "()V"⟩ prog_7_method_2_code 1 none) ∈ TB := TB_m (tc_7 (List.mem_of_getElem? (i := 95) rfl)) rfl
theorem tw_1536 : (Cond.methodLink "ProofLibrary" 291 ⟨"ProofLibrary$Paper", "putSymbol", "(I)V"⟩) ∈ TB := TB_m (tc_7 (List.mem_of_getElem? (i := 96) rfl)) rfl
theorem tw_1537 : (Cond.instanceMethod ⟨"ProofLibrary$Paper", "putSymbol", "(I)V"⟩) ∈ TB := TB_m (tc_7 (List.mem_of_getElem? (i := 97) rfl)) rfl
theorem tw_1538 : (Cond.selects "ProofLibrary$Paper" ⟨"ProofLibrary$Paper", "putSymbol", "(I)V"⟩ ⟨"ProofLibrary$Paper", "putSymbol", "(I)V"⟩) ∈ TB := TB_m (tc_7 (List.mem_of_getElem? (i := 98) rfl)) rfl
theorem tw_1539 : (Cond.code ⟨"ProofLibrary$Paper", "putSymbol", "(I)V"⟩ prog_7_method_7_code 2 none) ∈ TB := TB_m (tc_7 (List.mem_of_getElem? (i := 99) rfl)) rfl
theorem tw_1540 : (Cond.methodLink "ProofLibrary$Paper" 49 ⟨"ProofLibrary$Paper", "putName", "(I)V"⟩) ∈ TB := TB_m (tc_7 (List.mem_of_getElem? (i := 100) rfl)) rfl
theorem tw_1541 : (Cond.instanceMethod ⟨"ProofLibrary$Paper", "putName", "(I)V"⟩) ∈ TB := TB_m (tc_7 (List.mem_of_getElem? (i := 101) rfl)) rfl
theorem tw_1542 : (Cond.selects "ProofLibrary$Paper" ⟨"ProofLibrary$Paper", "putName", "(I)V"⟩ ⟨"ProofLibrary$Paper", "putName", "(I)V"⟩) ∈ TB := TB_m (tc_7 (List.mem_of_getElem? (i := 102) rfl)) rfl
theorem tw_1543 : (Cond.code ⟨"ProofLibrary$Paper", "putName", "(I)V"⟩ prog_7_method_6_code 3 none) ∈ TB := TB_m (tc_7 (List.mem_of_getElem? (i := 103) rfl)) rfl
theorem tw_1544 : (Cond.methodLink "ProofLibrary$Paper" 34 ⟨"ProofLibrary$Paper", "putBlank", "()V"⟩) ∈ TB := TB_m (tc_7 (List.mem_of_getElem? (i := 104) rfl)) rfl
theorem tw_1545 : (Cond.instanceMethod ⟨"ProofLibrary$Paper", "putBlank", "()V"⟩) ∈ TB := TB_m (tc_7 (List.mem_of_getElem? (i := 105) rfl)) rfl
theorem tw_1546 : (Cond.selects "ProofLibrary$Paper" ⟨"ProofLibrary$Paper", "putBlank", "()V"⟩ ⟨"ProofLibrary$Paper", "putBlank", "()V"⟩) ∈ TB := TB_m (tc_7 (List.mem_of_getElem? (i := 106) rfl)) rfl
theorem tw_1547 : (Cond.code ⟨"ProofLibrary$Paper", "putBlank", "()V"⟩ prog_7_method_4_code 1 none) ∈ TB := TB_m (tc_7 (List.mem_of_getElem? (i := 107) rfl)) rfl
theorem tw_1548 : (Cond.methodLink "ProofLibrary$Paper" 30 ⟨"ProofLibrary$Paper", "put", "(I)V"⟩) ∈ TB := TB_m (tc_7 (List.mem_of_getElem? (i := 108) rfl)) rfl
theorem tw_1549 : (Cond.instanceMethod ⟨"ProofLibrary$Paper", "put", "(I)V"⟩) ∈ TB := TB_m (tc_7 (List.mem_of_getElem? (i := 109) rfl)) rfl
theorem tw_1550 : (Cond.selects "ProofLibrary$Paper" ⟨"ProofLibrary$Paper", "put", "(I)V"⟩ ⟨"ProofLibrary$Paper", "put", "(I)V"⟩) ∈ TB := TB_m (tc_7 (List.mem_of_getElem? (i := 110) rfl)) rfl
theorem tw_1551 : (Cond.code ⟨"ProofLibrary$Paper", "put", "(I)V"⟩ prog_7_method_3_code 2 none) ∈ TB := TB_m (tc_7 (List.mem_of_getElem? (i := 111) rfl)) rfl
theorem tw_1552 : (Cond.methodLink "ProofLibrary" 269 ⟨"ProofLibrary$Paper", "finish", "()I"⟩) ∈ TB := TB_m (tc_7 (List.mem_of_getElem? (i := 112) rfl)) rfl
theorem tw_1553 : (Cond.instanceMethod ⟨"ProofLibrary$Paper", "finish", "()I"⟩) ∈ TB := TB_m (tc_7 (List.mem_of_getElem? (i := 113) rfl)) rfl
theorem tw_1554 : (Cond.selects "ProofLibrary$Paper" ⟨"ProofLibrary$Paper", "finish", "()I"⟩ ⟨"ProofLibrary$Paper", "finish", "()I"⟩) ∈ TB := TB_m (tc_7 (List.mem_of_getElem? (i := 114) rfl)) rfl
theorem tw_1555 : (Cond.code ⟨"ProofLibrary$Paper", "finish", "()I"⟩ prog_7_method_10_code 2 (some .int)) ∈ TB := TB_m (tc_7 (List.mem_of_getElem? (i := 115) rfl)) rfl
theorem tw_1556 : (Cond.methodLink "ProofLibrary" 266 ⟨"ProofLibrary$Paper", "putName", "(I)V"⟩) ∈ TB := TB_m (tc_7 (List.mem_of_getElem? (i := 116) rfl)) rfl
theorem tw_1557 : (Cond.methodLink "ProofLibrary" 272 ⟨"ProofLibrary", "printStatement", "(I)I"⟩) ∈ TB := TB_m (tc_7 (List.mem_of_getElem? (i := 117) rfl)) rfl
theorem tw_1559 : (Cond.instanceMethod ⟨"ProofLibrary", "printStatement", "(I)I"⟩) ∈ TB := TB_m (tc_7 (List.mem_of_getElem? (i := 119) rfl)) rfl
theorem tw_1560 : (Cond.code ⟨"ProofLibrary", "printStatement", "(I)I"⟩ prog_1_method_25_code 3 (some .int)) ∈ TB := TB_m (tc_7 (List.mem_of_getElem? (i := 120) rfl)) rfl
theorem tw_1561 : (Cond.methodLink "ProofLibrary" 275 ⟨"ProofLibrary", "printRow", "(II)I"⟩) ∈ TB := TB_m (tc_7 (List.mem_of_getElem? (i := 121) rfl)) rfl
theorem tw_1563 : (Cond.instanceMethod ⟨"ProofLibrary", "printRow", "(II)I"⟩) ∈ TB := TB_m (tc_7 (List.mem_of_getElem? (i := 123) rfl)) rfl
theorem tw_1564 : (Cond.code ⟨"ProofLibrary", "printRow", "(II)I"⟩ prog_1_method_26_code 3 (some .int)) ∈ TB := TB_m (tc_7 (List.mem_of_getElem? (i := 124) rfl)) rfl
theorem tw_1565 : (Cond.methodLink "ProofLibrary" 294 ⟨"ProofLibrary$Pile", "goAgain", "(II)Z"⟩) ∈ TB := TB_m (tc_7 (List.mem_of_getElem? (i := 125) rfl)) rfl
theorem tw_1566 : (Cond.instanceMethod ⟨"ProofLibrary$Pile", "goAgain", "(II)Z"⟩) ∈ TB := TB_m (tc_7 (List.mem_of_getElem? (i := 126) rfl)) rfl
theorem tw_1567 : (Cond.selects "ProofLibrary$Pile" ⟨"ProofLibrary$Pile", "goAgain", "(II)Z"⟩ ⟨"ProofLibrary$Pile", "goAgain", "(II)Z"⟩) ∈ TB := TB_m (tc_7 (List.mem_of_getElem? (i := 127) rfl)) rfl
theorem tw_1568 : (Cond.code ⟨"ProofLibrary$Pile", "goAgain", "(II)Z"⟩ prog_8_method_14_code 8 (some .boolean)) ∈ TB := TB_m (tc_7 (List.mem_of_getElem? (i := 128) rfl)) rfl
theorem tw_1569 : (Cond.methodLink "ProofLibrary$Pile" 144 ⟨"ProofLibrary$Pile", "clear", "()V"⟩) ∈ TB := TB_m (tc_7 (List.mem_of_getElem? (i := 129) rfl)) rfl
theorem tw_1570 : (Cond.methodLink "ProofLibrary$Pile" 153 ⟨"java/util/Arrays", "fill", "([IIII)V"⟩) ∈ TB := TB_m (tc_7 (List.mem_of_getElem? (i := 130) rfl)) rfl
theorem tw_1571 : (Cond.static ⟨"java/util/Arrays", "fill", "([IIII)V"⟩) ∈ TB := TB_m (tc_7 (List.mem_of_getElem? (i := 131) rfl)) rfl
theorem tw_1572 : (Cond.code ⟨"java/util/Arrays", "fill", "([IIII)V"⟩ prog_22_method_104_code 5 none) ∈ TB := TB_m (tc_7 (List.mem_of_getElem? (i := 132) rfl)) rfl
theorem tw_1573 : (Cond.methodLink "java/util/Arrays" 13 ⟨"java/util/Arrays", "rangeCheck", "(III)V"⟩) ∈ TB := TB_m (tc_7 (List.mem_of_getElem? (i := 133) rfl)) rfl
theorem tw_1574 : (Cond.static ⟨"java/util/Arrays", "rangeCheck", "(III)V"⟩) ∈ TB := TB_m (tc_7 (List.mem_of_getElem? (i := 134) rfl)) rfl
theorem tw_1575 : (Cond.code ⟨"java/util/Arrays", "rangeCheck", "(III)V"⟩ prog_22_method_30_code 3 none) ∈ TB := TB_m (tc_7 (List.mem_of_getElem? (i := 135) rfl)) rfl
theorem tw_1576 : (Cond.methodLink "ProofLibrary$Pile" 165 ⟨"ProofLibrary$Pile", "buildHypothesis", "(I)V"⟩) ∈ TB := TB_m (tc_7 (List.mem_of_getElem? (i := 136) rfl)) rfl
theorem tw_1577 : (Cond.methodLink "ProofLibrary$Pile" 169 ⟨"ProofLibrary$Pile", "bind", "(II)Z"⟩) ∈ TB := TB_m (tc_7 (List.mem_of_getElem? (i := 137) rfl)) rfl
theorem tw_1578 : (Cond.methodLink "ProofLibrary$Pile" 172 ⟨"ProofLibrary$Pile", "build", "(I)Z"⟩) ∈ TB := TB_m (tc_7 (List.mem_of_getElem? (i := 138) rfl)) rfl
theorem tw_1579 : (Cond.methodLink "ProofLibrary$Pile" 176 ⟨"ProofLibrary$Assertions", "childCount", "(I)I"⟩) ∈ TB := TB_m (tc_7 (List.mem_of_getElem? (i := 139) rfl)) rfl
theorem tw_1580 : (Cond.methodLink "ProofLibrary$Pile" 179 ⟨"ProofLibrary$Pile", "drop", "(II)V"⟩) ∈ TB := TB_m (tc_7 (List.mem_of_getElem? (i := 140) rfl)) rfl
theorem tw_1581 : (Cond.methodLink "ProofLibrary$Pile" 183 ⟨"ProofLibrary$Pile", "put", "(IZ)Z"⟩) ∈ TB := TB_m (tc_7 (List.mem_of_getElem? (i := 141) rfl)) rfl
theorem tw_1582 : (Cond.methodLink "ProofLibrary" 304 ⟨"ProofLibrary$Paper", "putSymbols", "([III)V"⟩) ∈ TB := TB_m (tc_7 (List.mem_of_getElem? (i := 142) rfl)) rfl
theorem tw_1583 : (Cond.instanceMethod ⟨"ProofLibrary$Paper", "putSymbols", "([III)V"⟩) ∈ TB := TB_m (tc_7 (List.mem_of_getElem? (i := 143) rfl)) rfl
theorem tw_1584 : (Cond.selects "ProofLibrary$Paper" ⟨"ProofLibrary$Paper", "putSymbols", "([III)V"⟩ ⟨"ProofLibrary$Paper", "putSymbols", "([III)V"⟩) ∈ TB := TB_m (tc_7 (List.mem_of_getElem? (i := 144) rfl)) rfl
theorem tw_1585 : (Cond.code ⟨"ProofLibrary$Paper", "putSymbols", "([III)V"⟩ prog_7_method_8_code 5 none) ∈ TB := TB_m (tc_7 (List.mem_of_getElem? (i := 145) rfl)) rfl
theorem tw_1586 : (Cond.methodLink "ProofLibrary$Paper" 52 ⟨"ProofLibrary$Paper", "putSymbol", "(I)V"⟩) ∈ TB := TB_m (tc_7 (List.mem_of_getElem? (i := 146) rfl)) rfl
theorem tw_1587 : (Cond.methodLink "ProofLibrary" 279 ⟨"ProofLibrary", "printPacked", "(I)I"⟩) ∈ TB := TB_m (tc_7 (List.mem_of_getElem? (i := 147) rfl)) rfl
theorem tw_1589 : (Cond.instanceMethod ⟨"ProofLibrary", "printPacked", "(I)I"⟩) ∈ TB := TB_m (tc_7 (List.mem_of_getElem? (i := 149) rfl)) rfl
theorem tw_1590 : (Cond.code ⟨"ProofLibrary", "printPacked", "(I)I"⟩ prog_1_method_27_code 3 (some .int)) ∈ TB := TB_m (tc_7 (List.mem_of_getElem? (i := 150) rfl)) rfl
theorem tw_1591 : (Cond.methodLink "ProofLibrary" 308 ⟨"ProofLibrary$Packer", "pack", "(I)V"⟩) ∈ TB := TB_m (tc_7 (List.mem_of_getElem? (i := 151) rfl)) rfl
theorem tw_1592 : (Cond.instanceMethod ⟨"ProofLibrary$Packer", "pack", "(I)V"⟩) ∈ TB := TB_m (tc_7 (List.mem_of_getElem? (i := 152) rfl)) rfl
theorem tw_1593 : (Cond.selects "ProofLibrary$Packer" ⟨"ProofLibrary$Packer", "pack", "(I)V"⟩ ⟨"ProofLibrary$Packer", "pack", "(I)V"⟩) ∈ TB := TB_m (tc_7 (List.mem_of_getElem? (i := 153) rfl)) rfl
theorem tw_1594 : (Cond.code ⟨"ProofLibrary$Packer", "pack", "(I)V"⟩ prog_6_method_2_code 2 none) ∈ TB := TB_m (tc_7 (List.mem_of_getElem? (i := 154) rfl)) rfl
theorem tw_1595 : (Cond.methodLink "ProofLibrary$Packer" 69 ⟨"ProofLibrary$Packer", "findSame", "(I)V"⟩) ∈ TB := TB_m (tc_7 (List.mem_of_getElem? (i := 155) rfl)) rfl
theorem tw_1597 : (Cond.instanceMethod ⟨"ProofLibrary$Packer", "findSame", "(I)V"⟩) ∈ TB := TB_m (tc_7 (List.mem_of_getElem? (i := 157) rfl)) rfl
theorem tw_1598 : (Cond.code ⟨"ProofLibrary$Packer", "findSame", "(I)V"⟩ prog_6_method_4_code 7 none) ∈ TB := TB_m (tc_7 (List.mem_of_getElem? (i := 158) rfl)) rfl
theorem tw_1599 : (Cond.methodLink "ProofLibrary$Packer" 73 ⟨"java/util/Arrays", "fill", "([IIII)V"⟩) ∈ TB := TB_m (tc_7 (List.mem_of_getElem? (i := 159) rfl)) rfl
theorem tw_1600 : (Cond.methodLink "ProofLibrary$Packer" 86 ⟨"ProofLibrary$Packer", "hash", "(I)I"⟩) ∈ TB := TB_m (tc_7 (List.mem_of_getElem? (i := 160) rfl)) rfl
theorem tw_1602 : (Cond.instanceMethod ⟨"ProofLibrary$Packer", "hash", "(I)I"⟩) ∈ TB := TB_m (tc_7 (List.mem_of_getElem? (i := 162) rfl)) rfl
theorem tw_1603 : (Cond.code ⟨"ProofLibrary$Packer", "hash", "(I)I"⟩ prog_6_method_5_code 4 (some .int)) ∈ TB := TB_m (tc_7 (List.mem_of_getElem? (i := 163) rfl)) rfl
theorem tw_1604 : (Cond.constant "ProofLibrary$Packer" 100 1000003) ∈ TB := TB_m (tc_7 (List.mem_of_getElem? (i := 164) rfl)) rfl
theorem tw_1605 : (Cond.constant "ProofLibrary$Packer" 104 (-1640531535)) ∈ TB := TB_m (tc_7 (List.mem_of_getElem? (i := 165) rfl)) rfl
theorem tw_1606 : (Cond.methodLink "ProofLibrary$Packer" 90 ⟨"ProofLibrary$Packer", "isAlike", "(II)Z"⟩) ∈ TB := TB_m (tc_7 (List.mem_of_getElem? (i := 166) rfl)) rfl
theorem tw_1608 : (Cond.instanceMethod ⟨"ProofLibrary$Packer", "isAlike", "(II)Z"⟩) ∈ TB := TB_m (tc_7 (List.mem_of_getElem? (i := 168) rfl)) rfl
theorem tw_1609 : (Cond.code ⟨"ProofLibrary$Packer", "isAlike", "(II)Z"⟩ prog_6_method_6_code 6 (some .boolean)) ∈ TB := TB_m (tc_7 (List.mem_of_getElem? (i := 169) rfl)) rfl
theorem tw_1610 : (Cond.methodLink "ProofLibrary$Packer" 105 ⟨"ProofLibrary$Assertions", "childCount", "(I)I"⟩) ∈ TB := TB_m (tc_7 (List.mem_of_getElem? (i := 170) rfl)) rfl
theorem tw_1611 : (Cond.methodLink "ProofLibrary$Packer" 79 ⟨"ProofLibrary$Packer", "walk", "(IZ)V"⟩) ∈ TB := TB_m (tc_7 (List.mem_of_getElem? (i := 171) rfl)) rfl
theorem tw_1613 : (Cond.instanceMethod ⟨"ProofLibrary$Packer", "walk", "(IZ)V"⟩) ∈ TB := TB_m (tc_7 (List.mem_of_getElem? (i := 173) rfl)) rfl
theorem tw_1614 : (Cond.code ⟨"ProofLibrary$Packer", "walk", "(IZ)V"⟩ prog_6_method_7_code 6 none) ∈ TB := TB_m (tc_7 (List.mem_of_getElem? (i := 174) rfl)) rfl
theorem tw_1615 : (Cond.methodLink "ProofLibrary$Packer" 114 ⟨"ProofLibrary$Packer", "enter", "(IZ)V"⟩) ∈ TB := TB_m (tc_7 (List.mem_of_getElem? (i := 175) rfl)) rfl
theorem tw_1617 : (Cond.instanceMethod ⟨"ProofLibrary$Packer", "enter", "(IZ)V"⟩) ∈ TB := TB_m (tc_7 (List.mem_of_getElem? (i := 177) rfl)) rfl
theorem tw_1618 : (Cond.code ⟨"ProofLibrary$Packer", "enter", "(IZ)V"⟩ prog_6_method_8_code 3 none) ∈ TB := TB_m (tc_7 (List.mem_of_getElem? (i := 178) rfl)) rfl
theorem tw_1619 : (Cond.methodLink "ProofLibrary$Packer" 118 ⟨"ProofLibrary$Packer", "tell", "(I)V"⟩) ∈ TB := TB_m (tc_7 (List.mem_of_getElem? (i := 179) rfl)) rfl
theorem tw_1621 : (Cond.instanceMethod ⟨"ProofLibrary$Packer", "tell", "(I)V"⟩) ∈ TB := TB_m (tc_7 (List.mem_of_getElem? (i := 181) rfl)) rfl
theorem tw_1622 : (Cond.code ⟨"ProofLibrary$Packer", "tell", "(I)V"⟩ prog_6_method_9_code 2 none) ∈ TB := TB_m (tc_7 (List.mem_of_getElem? (i := 182) rfl)) rfl
theorem tw_1623 : (Cond.constant "ProofLibrary$Packer" 117 1000000) ∈ TB := TB_m (tc_7 (List.mem_of_getElem? (i := 183) rfl)) rfl
theorem tw_1624 : (Cond.methodLink "ProofLibrary$Packer" 83 ⟨"ProofLibrary$Packer", "giveNumbers", "(I)V"⟩) ∈ TB := TB_m (tc_7 (List.mem_of_getElem? (i := 184) rfl)) rfl
theorem tw_1626 : (Cond.instanceMethod ⟨"ProofLibrary$Packer", "giveNumbers", "(I)V"⟩) ∈ TB := TB_m (tc_7 (List.mem_of_getElem? (i := 186) rfl)) rfl
theorem tw_1627 : (Cond.code ⟨"ProofLibrary$Packer", "giveNumbers", "(I)V"⟩ prog_6_method_10_code 5 none) ∈ TB := TB_m (tc_7 (List.mem_of_getElem? (i := 187) rfl)) rfl
theorem tw_1628 : (Cond.methodLink "ProofLibrary$Packer" 121 ⟨"java/util/Arrays", "fill", "([II)V"⟩) ∈ TB := TB_m (tc_7 (List.mem_of_getElem? (i := 188) rfl)) rfl
theorem tw_1629 : (Cond.methodLink "ProofLibrary$Packer" 136 ⟨"ProofLibrary$Packer", "statementOf", "(I)I"⟩) ∈ TB := TB_m (tc_7 (List.mem_of_getElem? (i := 189) rfl)) rfl
theorem tw_1630 : (Cond.instanceMethod ⟨"ProofLibrary$Packer", "statementOf", "(I)I"⟩) ∈ TB := TB_m (tc_7 (List.mem_of_getElem? (i := 190) rfl)) rfl
theorem tw_1631 : (Cond.selects "ProofLibrary$Packer" ⟨"ProofLibrary$Packer", "statementOf", "(I)I"⟩ ⟨"ProofLibrary$Packer", "statementOf", "(I)I"⟩) ∈ TB := TB_m (tc_7 (List.mem_of_getElem? (i := 191) rfl)) rfl
theorem tw_1632 : (Cond.code ⟨"ProofLibrary$Packer", "statementOf", "(I)I"⟩ prog_6_method_11_code 2 (some .int)) ∈ TB := TB_m (tc_7 (List.mem_of_getElem? (i := 192) rfl)) rfl
theorem tw_1633 : (Cond.methodLink "ProofLibrary$Packer" 139 ⟨"ProofLibrary$Packer", "saves", "(I)Z"⟩) ∈ TB := TB_m (tc_7 (List.mem_of_getElem? (i := 193) rfl)) rfl
theorem tw_1634 : (Cond.instanceMethod ⟨"ProofLibrary$Packer", "saves", "(I)Z"⟩) ∈ TB := TB_m (tc_7 (List.mem_of_getElem? (i := 194) rfl)) rfl
theorem tw_1635 : (Cond.selects "ProofLibrary$Packer" ⟨"ProofLibrary$Packer", "saves", "(I)Z"⟩ ⟨"ProofLibrary$Packer", "saves", "(I)Z"⟩) ∈ TB := TB_m (tc_7 (List.mem_of_getElem? (i := 195) rfl)) rfl
theorem tw_1636 : (Cond.code ⟨"ProofLibrary$Packer", "saves", "(I)Z"⟩ prog_6_method_13_code 2 (some .boolean)) ∈ TB := TB_m (tc_7 (List.mem_of_getElem? (i := 196) rfl)) rfl
theorem tw_1637 : (Cond.methodLink "ProofLibrary" 311 ⟨"ProofLibrary$Paper", "putToken", "(I)V"⟩) ∈ TB := TB_m (tc_7 (List.mem_of_getElem? (i := 197) rfl)) rfl
theorem tw_1638 : (Cond.instanceMethod ⟨"ProofLibrary$Paper", "putToken", "(I)V"⟩) ∈ TB := TB_m (tc_7 (List.mem_of_getElem? (i := 198) rfl)) rfl
theorem tw_1639 : (Cond.selects "ProofLibrary$Paper" ⟨"ProofLibrary$Paper", "putToken", "(I)V"⟩ ⟨"ProofLibrary$Paper", "putToken", "(I)V"⟩) ∈ TB := TB_m (tc_7 (List.mem_of_getElem? (i := 199) rfl)) rfl
theorem tw_1640 : (Cond.code ⟨"ProofLibrary$Paper", "putToken", "(I)V"⟩ prog_7_method_5_code 2 none) ∈ TB := TB_m (tc_7 (List.mem_of_getElem? (i := 200) rfl)) rfl
theorem tw_1641 : (Cond.methodLink "ProofLibrary" 320 ⟨"ProofLibrary$Paper", "putBlank", "()V"⟩) ∈ TB := TB_m (tc_7 (List.mem_of_getElem? (i := 201) rfl)) rfl
theorem tw_1642 : (Cond.methodLink "ProofLibrary" 326 ⟨"ProofLibrary$Packer", "numberOf", "(I)I"⟩) ∈ TB := TB_m (tc_7 (List.mem_of_getElem? (i := 202) rfl)) rfl
theorem tw_1643 : (Cond.instanceMethod ⟨"ProofLibrary$Packer", "numberOf", "(I)I"⟩) ∈ TB := TB_m (tc_7 (List.mem_of_getElem? (i := 203) rfl)) rfl
theorem tw_1644 : (Cond.selects "ProofLibrary$Packer" ⟨"ProofLibrary$Packer", "numberOf", "(I)I"⟩ ⟨"ProofLibrary$Packer", "numberOf", "(I)I"⟩) ∈ TB := TB_m (tc_7 (List.mem_of_getElem? (i := 204) rfl)) rfl
theorem tw_1645 : (Cond.code ⟨"ProofLibrary$Packer", "numberOf", "(I)I"⟩ prog_6_method_12_code 2 (some .int)) ∈ TB := TB_m (tc_7 (List.mem_of_getElem? (i := 205) rfl)) rfl
theorem tw_1646 : (Cond.methodLink "ProofLibrary" 329 ⟨"ProofLibrary$Paper", "putNumber", "(I)V"⟩) ∈ TB := TB_m (tc_7 (List.mem_of_getElem? (i := 206) rfl)) rfl
theorem tw_1647 : (Cond.instanceMethod ⟨"ProofLibrary$Paper", "putNumber", "(I)V"⟩) ∈ TB := TB_m (tc_7 (List.mem_of_getElem? (i := 207) rfl)) rfl
theorem tw_1648 : (Cond.selects "ProofLibrary$Paper" ⟨"ProofLibrary$Paper", "putNumber", "(I)V"⟩ ⟨"ProofLibrary$Paper", "putNumber", "(I)V"⟩) ∈ TB := TB_m (tc_7 (List.mem_of_getElem? (i := 208) rfl)) rfl
theorem tw_1649 : (Cond.code ⟨"ProofLibrary$Paper", "putNumber", "(I)V"⟩ prog_7_method_9_code 6 none) ∈ TB := TB_m (tc_7 (List.mem_of_getElem? (i := 209) rfl)) rfl
theorem tw_1650 : (Cond.constantLong "ProofLibrary$Paper" 55 5) ∈ TB := TB_m (tc_7 (List.mem_of_getElem? (i := 210) rfl)) rfl
theorem tw_1651 : (Cond.methodLink "ProofLibrary" 332 ⟨"ProofLibrary$Packer", "saves", "(I)Z"⟩) ∈ TB := TB_m (tc_7 (List.mem_of_getElem? (i := 211) rfl)) rfl
theorem tw_1652 : (Cond.methodLink "ProofLibrary" 335 ⟨"ProofLibrary$Paper", "put", "(I)V"⟩) ∈ TB := TB_m (tc_7 (List.mem_of_getElem? (i := 212) rfl)) rfl
theorem tw_1653 : (Cond.methodLink "ProofLibrary" 282 ⟨"ProofLibrary", "printUnpacked", "(I)I"⟩) ∈ TB := TB_m (tc_7 (List.mem_of_getElem? (i := 213) rfl)) rfl
theorem tw_1655 : (Cond.instanceMethod ⟨"ProofLibrary", "printUnpacked", "(I)I"⟩) ∈ TB := TB_m (tc_7 (List.mem_of_getElem? (i := 215) rfl)) rfl
theorem tw_1656 : (Cond.code ⟨"ProofLibrary", "printUnpacked", "(I)I"⟩ prog_1_method_28_code 3 (some .int)) ∈ TB := TB_m (tc_7 (List.mem_of_getElem? (i := 216) rfl)) rfl
theorem tw_1657 : (Cond.constantLong "ProofLibrary" 338 4000) ∈ TB := TB_m (tc_7 (List.mem_of_getElem? (i := 217) rfl)) rfl
theorem tw_1658 : (Cond.methodLink "ProofLibrary" 340 ⟨"ProofLibrary$Packer", "unpack", "(I)V"⟩) ∈ TB := TB_m (tc_7 (List.mem_of_getElem? (i := 218) rfl)) rfl
theorem tw_1659 : (Cond.instanceMethod ⟨"ProofLibrary$Packer", "unpack", "(I)V"⟩) ∈ TB := TB_m (tc_7 (List.mem_of_getElem? (i := 219) rfl)) rfl
theorem tw_1660 : (Cond.selects "ProofLibrary$Packer" ⟨"ProofLibrary$Packer", "unpack", "(I)V"⟩ ⟨"ProofLibrary$Packer", "unpack", "(I)V"⟩) ∈ TB := TB_m (tc_7 (List.mem_of_getElem? (i := 220) rfl)) rfl
theorem tw_1661 : (Cond.code ⟨"ProofLibrary$Packer", "unpack", "(I)V"⟩ prog_6_method_3_code 2 none) ∈ TB := TB_m (tc_7 (List.mem_of_getElem? (i := 221) rfl)) rfl
theorem tw_1662 : (Cond.methodLink "ProofLibrary" 343 ⟨"ProofLibrary$Packer", "statementOf", "(I)I"⟩) ∈ TB := TB_m (tc_7 (List.mem_of_getElem? (i := 222) rfl)) rfl
theorem tw_1663 : (Cond.methodLink "ProofLibrary" 285 ⟨"ProofLibrary", "printTree", "(I)I"⟩) ∈ TB := TB_m (tc_7 (List.mem_of_getElem? (i := 223) rfl)) rfl
theorem tw_1665 : (Cond.instanceMethod ⟨"ProofLibrary", "printTree", "(I)I"⟩) ∈ TB := TB_m (tc_7 (List.mem_of_getElem? (i := 225) rfl)) rfl
theorem tw_1666 : (Cond.code ⟨"ProofLibrary", "printTree", "(I)I"⟩ prog_1_method_29_code 4 (some .int)) ∈ TB := TB_m (tc_7 (List.mem_of_getElem? (i := 226) rfl)) rfl
theorem tw_1667 : (Cond.methodLink "ProofLibrary" 346 ⟨"ProofLibrary", "treesOf", "(I)I"⟩) ∈ TB := TB_m (tc_7 (List.mem_of_getElem? (i := 227) rfl)) rfl
theorem tw_1669 : (Cond.instanceMethod ⟨"ProofLibrary", "treesOf", "(I)I"⟩) ∈ TB := TB_m (tc_7 (List.mem_of_getElem? (i := 229) rfl)) rfl
theorem tw_1670 : (Cond.code ⟨"ProofLibrary", "treesOf", "(I)I"⟩ prog_1_method_33_code 2 (some .int)) ∈ TB := TB_m (tc_7 (List.mem_of_getElem? (i := 230) rfl)) rfl
theorem tw_1671 : (Cond.methodLink "ProofLibrary" 357 ⟨"ProofLibrary$Rules", "learn", "()V"⟩) ∈ TB := TB_m (tc_7 (List.mem_of_getElem? (i := 231) rfl)) rfl
theorem tw_1672 : (Cond.instanceMethod ⟨"ProofLibrary$Rules", "learn", "()V"⟩) ∈ TB := TB_m (tc_7 (List.mem_of_getElem? (i := 232) rfl)) rfl
theorem tw_1673 : (Cond.selects "ProofLibrary$Rules" ⟨"ProofLibrary$Rules", "learn", "()V"⟩ ⟨"ProofLibrary$Rules", "learn", "()V"⟩) ∈ TB := TB_m (tc_7 (List.mem_of_getElem? (i := 233) rfl)) rfl
theorem tw_1674 : (Cond.code ⟨"ProofLibrary$Rules", "learn", "()V"⟩ prog_10_method_2_code 2 none) ∈ TB := TB_m (tc_7 (List.mem_of_getElem? (i := 234) rfl)) rfl
theorem tn_1675 : (Cond.fieldLinkNest "ProofLibrary$Rules" 60 "ProofLibrary" "PROVABLE_NAME" "[C" "ProofLibrary") ∈ NB := NB_m (tc_7 (List.mem_of_getElem? (i := 235) rfl)) rfl
theorem tw_1677 : (Cond.methodLink "ProofLibrary$Rules" 64 ⟨"ProofLibrary$Rules", "constantNamed", "([C)I"⟩) ∈ TB := TB_m (tc_7 (List.mem_of_getElem? (i := 237) rfl)) rfl
theorem tw_1679 : (Cond.instanceMethod ⟨"ProofLibrary$Rules", "constantNamed", "([C)I"⟩) ∈ TB := TB_m (tc_7 (List.mem_of_getElem? (i := 239) rfl)) rfl
theorem tw_1680 : (Cond.code ⟨"ProofLibrary$Rules", "constantNamed", "([C)I"⟩ prog_10_method_3_code 3 (some .int)) ∈ TB := TB_m (tc_8 (List.mem_of_getElem? (i := 0) rfl)) rfl
theorem tw_1681 : (Cond.methodLink "ProofLibrary$Rules" 91 ⟨"ProofLibrary$Library", "symbolNamed", "([CII)I"⟩) ∈ TB := TB_m (tc_8 (List.mem_of_getElem? (i := 1) rfl)) rfl
theorem tn_1682 : (Cond.fieldLinkNest "ProofLibrary$Rules" 68 "ProofLibrary" "WFF_NAME" "[C" "ProofLibrary") ∈ NB := NB_m (tc_8 (List.mem_of_getElem? (i := 2) rfl)) rfl
theorem tw_1684 : (Cond.methodLink "ProofLibrary$Rules" 79 ⟨"ProofLibrary$Library", "lengthOf", "(I)I"⟩) ∈ TB := TB_m (tc_8 (List.mem_of_getElem? (i := 4) rfl)) rfl
theorem tw_1685 : (Cond.methodLink "ProofLibrary$Rules" 83 ⟨"ProofLibrary$Rules", "isRule", "(I)Z"⟩) ∈ TB := TB_m (tc_8 (List.mem_of_getElem? (i := 5) rfl)) rfl
theorem tw_1686 : (Cond.instanceMethod ⟨"ProofLibrary$Rules", "isRule", "(I)Z"⟩) ∈ TB := TB_m (tc_8 (List.mem_of_getElem? (i := 6) rfl)) rfl
theorem tw_1687 : (Cond.selects "ProofLibrary$Rules" ⟨"ProofLibrary$Rules", "isRule", "(I)Z"⟩ ⟨"ProofLibrary$Rules", "isRule", "(I)Z"⟩) ∈ TB := TB_m (tc_8 (List.mem_of_getElem? (i := 7) rfl)) rfl
theorem tw_1688 : (Cond.code ⟨"ProofLibrary$Rules", "isRule", "(I)Z"⟩ prog_10_method_4_code 5 (some .boolean)) ∈ TB := TB_m (tc_8 (List.mem_of_getElem? (i := 8) rfl)) rfl
theorem tw_1689 : (Cond.methodLink "ProofLibrary$Rules" 102 ⟨"ProofLibrary$Library", "typeOf", "(I)I"⟩) ∈ TB := TB_m (tc_8 (List.mem_of_getElem? (i := 9) rfl)) rfl
theorem tw_1690 : (Cond.methodLink "ProofLibrary$Rules" 105 ⟨"ProofLibrary$Assertions", "hasEssential", "(I)Z"⟩) ∈ TB := TB_m (tc_8 (List.mem_of_getElem? (i := 10) rfl)) rfl
theorem tw_1691 : (Cond.instanceMethod ⟨"ProofLibrary$Assertions", "hasEssential", "(I)Z"⟩) ∈ TB := TB_m (tc_8 (List.mem_of_getElem? (i := 11) rfl)) rfl
theorem tw_1692 : (Cond.selects "ProofLibrary$Assertions" ⟨"ProofLibrary$Assertions", "hasEssential", "(I)Z"⟩ ⟨"ProofLibrary$Assertions", "hasEssential", "(I)Z"⟩) ∈ TB := TB_m (tc_8 (List.mem_of_getElem? (i := 12) rfl)) rfl
theorem tw_1693 : (Cond.code ⟨"ProofLibrary$Assertions", "hasEssential", "(I)Z"⟩ prog_2_method_8_code 3 (some .boolean)) ∈ TB := TB_m (tc_8 (List.mem_of_getElem? (i := 13) rfl)) rfl
theorem tw_1694 : (Cond.methodLink "ProofLibrary$Rules" 87 ⟨"ProofLibrary$Rules", "insert", "(I)V"⟩) ∈ TB := TB_m (tc_8 (List.mem_of_getElem? (i := 14) rfl)) rfl
theorem tw_1696 : (Cond.instanceMethod ⟨"ProofLibrary$Rules", "insert", "(I)V"⟩) ∈ TB := TB_m (tc_8 (List.mem_of_getElem? (i := 16) rfl)) rfl
theorem tw_1697 : (Cond.code ⟨"ProofLibrary$Rules", "insert", "(I)V"⟩ prog_10_method_5_code 5 none) ∈ TB := TB_m (tc_8 (List.mem_of_getElem? (i := 17) rfl)) rfl
theorem tw_1698 : (Cond.methodLink "ProofLibrary$Rules" 125 ⟨"ProofLibrary$Rules", "child", "(III)I"⟩) ∈ TB := TB_m (tc_8 (List.mem_of_getElem? (i := 18) rfl)) rfl
theorem tw_1700 : (Cond.instanceMethod ⟨"ProofLibrary$Rules", "child", "(III)I"⟩) ∈ TB := TB_m (tc_8 (List.mem_of_getElem? (i := 20) rfl)) rfl
theorem tw_1701 : (Cond.code ⟨"ProofLibrary$Rules", "child", "(III)I"⟩ prog_10_method_6_code 6 (some .int)) ∈ TB := TB_m (tc_8 (List.mem_of_getElem? (i := 21) rfl)) rfl
theorem tw_1702 : (Cond.methodLink "ProofLibrary" 372 ⟨"ProofLibrary$Chart", "takeStatement", "(I)V"⟩) ∈ TB := TB_m (tc_8 (List.mem_of_getElem? (i := 22) rfl)) rfl
theorem tw_1703 : (Cond.instanceMethod ⟨"ProofLibrary$Chart", "takeStatement", "(I)V"⟩) ∈ TB := TB_m (tc_8 (List.mem_of_getElem? (i := 23) rfl)) rfl
theorem tw_1704 : (Cond.selects "ProofLibrary$Chart" ⟨"ProofLibrary$Chart", "takeStatement", "(I)V"⟩ ⟨"ProofLibrary$Chart", "takeStatement", "(I)V"⟩) ∈ TB := TB_m (tc_8 (List.mem_of_getElem? (i := 24) rfl)) rfl
theorem tw_1705 : (Cond.code ⟨"ProofLibrary$Chart", "takeStatement", "(I)V"⟩ prog_3_method_2_code 3 none) ∈ TB := TB_m (tc_8 (List.mem_of_getElem? (i := 25) rfl)) rfl
theorem tw_1706 : (Cond.methodLink "ProofLibrary$Chart" 58 ⟨"ProofLibrary$Chart", "forgetRow", "()V"⟩) ∈ TB := TB_m (tc_8 (List.mem_of_getElem? (i := 26) rfl)) rfl
theorem tw_1708 : (Cond.instanceMethod ⟨"ProofLibrary$Chart", "forgetRow", "()V"⟩) ∈ TB := TB_m (tc_8 (List.mem_of_getElem? (i := 28) rfl)) rfl
theorem tw_1709 : (Cond.code ⟨"ProofLibrary$Chart", "forgetRow", "()V"⟩ prog_3_method_4_code 2 none) ∈ TB := TB_m (tc_8 (List.mem_of_getElem? (i := 29) rfl)) rfl
theorem tw_1710 : (Cond.methodLink "ProofLibrary$Chart" 61 ⟨"ProofLibrary$Library", "lengthOf", "(I)I"⟩) ∈ TB := TB_m (tc_8 (List.mem_of_getElem? (i := 30) rfl)) rfl
theorem tw_1711 : (Cond.methodLink "ProofLibrary$Chart" 67 ⟨"java/lang/Math", "min", "(II)I"⟩) ∈ TB := TB_m (tc_8 (List.mem_of_getElem? (i := 31) rfl)) rfl
theorem tw_1712 : (Cond.static ⟨"java/lang/Math", "min", "(II)I"⟩) ∈ TB := TB_m (tc_8 (List.mem_of_getElem? (i := 32) rfl)) rfl
theorem tw_1713 : (Cond.code ⟨"java/lang/Math", "min", "(II)I"⟩ prog_19_method_69_code 2 (some .int)) ∈ TB := TB_m (tc_8 (List.mem_of_getElem? (i := 33) rfl)) rfl
theorem tw_1714 : (Cond.methodLink "ProofLibrary$Chart" 89 ⟨"ProofLibrary$Library", "typeOf", "(I)I"⟩) ∈ TB := TB_m (tc_8 (List.mem_of_getElem? (i := 34) rfl)) rfl
theorem tw_1715 : (Cond.methodLink "ProofLibrary$Chart" 92 ⟨"ProofLibrary$Rules", "goalRank", "(I)I"⟩) ∈ TB := TB_m (tc_8 (List.mem_of_getElem? (i := 35) rfl)) rfl
theorem tw_1716 : (Cond.instanceMethod ⟨"ProofLibrary$Rules", "goalRank", "(I)I"⟩) ∈ TB := TB_m (tc_8 (List.mem_of_getElem? (i := 36) rfl)) rfl
theorem tw_1717 : (Cond.selects "ProofLibrary$Rules" ⟨"ProofLibrary$Rules", "goalRank", "(I)I"⟩ ⟨"ProofLibrary$Rules", "goalRank", "(I)I"⟩) ∈ TB := TB_m (tc_8 (List.mem_of_getElem? (i := 37) rfl)) rfl
theorem tw_1718 : (Cond.code ⟨"ProofLibrary$Rules", "goalRank", "(I)I"⟩ prog_10_method_8_code 3 (some .int)) ∈ TB := TB_m (tc_8 (List.mem_of_getElem? (i := 38) rfl)) rfl
theorem tw_1719 : (Cond.methodLink "ProofLibrary" 375 ⟨"ProofLibrary$Chart", "countTrees", "()I"⟩) ∈ TB := TB_m (tc_8 (List.mem_of_getElem? (i := 39) rfl)) rfl
theorem tw_1720 : (Cond.instanceMethod ⟨"ProofLibrary$Chart", "countTrees", "()I"⟩) ∈ TB := TB_m (tc_8 (List.mem_of_getElem? (i := 40) rfl)) rfl
theorem tw_1721 : (Cond.selects "ProofLibrary$Chart" ⟨"ProofLibrary$Chart", "countTrees", "()I"⟩ ⟨"ProofLibrary$Chart", "countTrees", "()I"⟩) ∈ TB := TB_m (tc_8 (List.mem_of_getElem? (i := 41) rfl)) rfl
theorem tw_1722 : (Cond.code ⟨"ProofLibrary$Chart", "countTrees", "()I"⟩ prog_3_method_5_code 2 (some .int)) ∈ TB := TB_m (tc_8 (List.mem_of_getElem? (i := 42) rfl)) rfl
theorem tw_1723 : (Cond.methodLink "ProofLibrary$Chart" 109 ⟨"ProofLibrary$Chart", "parseFromStart", "()V"⟩) ∈ TB := TB_m (tc_8 (List.mem_of_getElem? (i := 43) rfl)) rfl
theorem tw_1725 : (Cond.instanceMethod ⟨"ProofLibrary$Chart", "parseFromStart", "()V"⟩) ∈ TB := TB_m (tc_8 (List.mem_of_getElem? (i := 45) rfl)) rfl
theorem tw_1726 : (Cond.code ⟨"ProofLibrary$Chart", "parseFromStart", "()V"⟩ prog_3_method_7_code 5 none) ∈ TB := TB_m (tc_8 (List.mem_of_getElem? (i := 46) rfl)) rfl
theorem tw_1727 : (Cond.methodLink "ProofLibrary$Chart" 115 ⟨"ProofLibrary$Rules", "sortRank", "(I)I"⟩) ∈ TB := TB_m (tc_8 (List.mem_of_getElem? (i := 47) rfl)) rfl
theorem tw_1728 : (Cond.instanceMethod ⟨"ProofLibrary$Rules", "sortRank", "(I)I"⟩) ∈ TB := TB_m (tc_8 (List.mem_of_getElem? (i := 48) rfl)) rfl
theorem tw_1729 : (Cond.selects "ProofLibrary$Rules" ⟨"ProofLibrary$Rules", "sortRank", "(I)I"⟩ ⟨"ProofLibrary$Rules", "sortRank", "(I)I"⟩) ∈ TB := TB_m (tc_8 (List.mem_of_getElem? (i := 49) rfl)) rfl
theorem tw_1730 : (Cond.code ⟨"ProofLibrary$Rules", "sortRank", "(I)I"⟩ prog_10_method_7_code 2 (some .int)) ∈ TB := TB_m (tc_8 (List.mem_of_getElem? (i := 50) rfl)) rfl
theorem tw_1731 : (Cond.methodLink "ProofLibrary$Chart" 118 ⟨"ProofLibrary$Chart", "add", "(IJJI)V"⟩) ∈ TB := TB_m (tc_8 (List.mem_of_getElem? (i := 51) rfl)) rfl
theorem tw_1733 : (Cond.instanceMethod ⟨"ProofLibrary$Chart", "add", "(IJJI)V"⟩) ∈ TB := TB_m (tc_8 (List.mem_of_getElem? (i := 53) rfl)) rfl
theorem tw_1734 : (Cond.code ⟨"ProofLibrary$Chart", "add", "(IJJI)V"⟩ prog_3_method_11_code 11 none) ∈ TB := TB_m (tc_8 (List.mem_of_getElem? (i := 54) rfl)) rfl
theorem tw_1735 : (Cond.constantLong "ProofLibrary$Chart" 166 (-1)) ∈ TB := TB_m (tc_8 (List.mem_of_getElem? (i := 55) rfl)) rfl
theorem tw_1736 : (Cond.methodLink "ProofLibrary$Chart" 125 ⟨"ProofLibrary$Chart", "walk", "(IJJZ)V"⟩) ∈ TB := TB_m (tc_8 (List.mem_of_getElem? (i := 56) rfl)) rfl
theorem tw_1738 : (Cond.instanceMethod ⟨"ProofLibrary$Chart", "walk", "(IJJZ)V"⟩) ∈ TB := TB_m (tc_8 (List.mem_of_getElem? (i := 58) rfl)) rfl
theorem tw_1739 : (Cond.code ⟨"ProofLibrary$Chart", "walk", "(IJJZ)V"⟩ prog_3_method_8_code 10 none) ∈ TB := TB_m (tc_8 (List.mem_of_getElem? (i := 59) rfl)) rfl
theorem tw_1740 : (Cond.methodLink "ProofLibrary$Chart" 143 ⟨"ProofLibrary$Chart", "addRules", "(IJJ)V"⟩) ∈ TB := TB_m (tc_8 (List.mem_of_getElem? (i := 60) rfl)) rfl
theorem tw_1742 : (Cond.instanceMethod ⟨"ProofLibrary$Chart", "addRules", "(IJJ)V"⟩) ∈ TB := TB_m (tc_8 (List.mem_of_getElem? (i := 62) rfl)) rfl
theorem tw_1743 : (Cond.code ⟨"ProofLibrary$Chart", "addRules", "(IJJ)V"⟩ prog_3_method_10_code 8 none) ∈ TB := TB_m (tc_8 (List.mem_of_getElem? (i := 63) rfl)) rfl
theorem tw_1744 : (Cond.constant "ProofLibrary$Chart" 150 1000000) ∈ TB := TB_m (tc_8 (List.mem_of_getElem? (i := 64) rfl)) rfl
theorem tw_1745 : (Cond.methodLink "ProofLibrary$Chart" 154 ⟨"ProofLibrary$Chart", "step", "(II)Z"⟩) ∈ TB := TB_m (tc_8 (List.mem_of_getElem? (i := 65) rfl)) rfl
theorem tw_1747 : (Cond.instanceMethod ⟨"ProofLibrary$Chart", "step", "(II)Z"⟩) ∈ TB := TB_m (tc_8 (List.mem_of_getElem? (i := 67) rfl)) rfl
theorem tw_1748 : (Cond.code ⟨"ProofLibrary$Chart", "step", "(II)Z"⟩ prog_3_method_9_code 16 (some .boolean)) ∈ TB := TB_m (tc_8 (List.mem_of_getElem? (i := 68) rfl)) rfl
theorem tw_1749 : (Cond.methodLink "ProofLibrary$Chart" 129 ⟨"ProofLibrary$Chart", "addUnits", "(I)V"⟩) ∈ TB := TB_m (tc_8 (List.mem_of_getElem? (i := 69) rfl)) rfl
theorem tw_1751 : (Cond.instanceMethod ⟨"ProofLibrary$Chart", "addUnits", "(I)V"⟩) ∈ TB := TB_m (tc_8 (List.mem_of_getElem? (i := 71) rfl)) rfl
theorem tw_1752 : (Cond.code ⟨"ProofLibrary$Chart", "addUnits", "(I)V"⟩ prog_3_method_13_code 5 none) ∈ TB := TB_m (tc_8 (List.mem_of_getElem? (i := 72) rfl)) rfl
theorem tw_1753 : (Cond.methodLink "ProofLibrary$Chart" 168 ⟨"ProofLibrary$Chart", "hasUnits", "(I)Z"⟩) ∈ TB := TB_m (tc_8 (List.mem_of_getElem? (i := 73) rfl)) rfl
theorem tw_1755 : (Cond.instanceMethod ⟨"ProofLibrary$Chart", "hasUnits", "(I)Z"⟩) ∈ TB := TB_m (tc_8 (List.mem_of_getElem? (i := 75) rfl)) rfl
theorem tw_1756 : (Cond.code ⟨"ProofLibrary$Chart", "hasUnits", "(I)Z"⟩ prog_3_method_14_code 3 (some .boolean)) ∈ TB := TB_m (tc_8 (List.mem_of_getElem? (i := 76) rfl)) rfl
theorem tw_1757 : (Cond.methodLink "ProofLibrary$Chart" 136 ⟨"ProofLibrary$Chart", "reaches", "(II)Z"⟩) ∈ TB := TB_m (tc_8 (List.mem_of_getElem? (i := 77) rfl)) rfl
theorem tw_1759 : (Cond.instanceMethod ⟨"ProofLibrary$Chart", "reaches", "(II)Z"⟩) ∈ TB := TB_m (tc_8 (List.mem_of_getElem? (i := 79) rfl)) rfl
theorem tw_1760 : (Cond.code ⟨"ProofLibrary$Chart", "reaches", "(II)Z"⟩ prog_3_method_6_code 3 (some .boolean)) ∈ TB := TB_m (tc_8 (List.mem_of_getElem? (i := 80) rfl)) rfl
theorem tw_1761 : (Cond.methodLink "ProofLibrary$Chart" 172 ⟨"ProofLibrary$Chart", "countUnits", "()Z"⟩) ∈ TB := TB_m (tc_8 (List.mem_of_getElem? (i := 81) rfl)) rfl
theorem tw_1763 : (Cond.instanceMethod ⟨"ProofLibrary$Chart", "countUnits", "()Z"⟩) ∈ TB := TB_m (tc_8 (List.mem_of_getElem? (i := 83) rfl)) rfl
theorem tw_1764 : (Cond.code ⟨"ProofLibrary$Chart", "countUnits", "()Z"⟩ prog_3_method_15_code 3 (some .boolean)) ∈ TB := TB_m (tc_8 (List.mem_of_getElem? (i := 84) rfl)) rfl
theorem tw_1765 : (Cond.methodLink "ProofLibrary" 349 ⟨"ProofLibrary$Tree", "grow", "()V"⟩) ∈ TB := TB_m (tc_8 (List.mem_of_getElem? (i := 85) rfl)) rfl
theorem tw_1766 : (Cond.instanceMethod ⟨"ProofLibrary$Tree", "grow", "()V"⟩) ∈ TB := TB_m (tc_8 (List.mem_of_getElem? (i := 86) rfl)) rfl
theorem tw_1767 : (Cond.selects "ProofLibrary$Tree" ⟨"ProofLibrary$Tree", "grow", "()V"⟩ ⟨"ProofLibrary$Tree", "grow", "()V"⟩) ∈ TB := TB_m (tc_8 (List.mem_of_getElem? (i := 87) rfl)) rfl
theorem tw_1768 : (Cond.code ⟨"ProofLibrary$Tree", "grow", "()V"⟩ prog_13_method_2_code 11 none) ∈ TB := TB_m (tc_8 (List.mem_of_getElem? (i := 88) rfl)) rfl
theorem tw_1769 : (Cond.methodLink "ProofLibrary$Tree" 64 ⟨"ProofLibrary$Tree", "cell", "(III)I"⟩) ∈ TB := TB_m (tc_8 (List.mem_of_getElem? (i := 89) rfl)) rfl
theorem tw_1770 : (Cond.static ⟨"ProofLibrary$Tree", "cell", "(III)I"⟩) ∈ TB := TB_m (tc_8 (List.mem_of_getElem? (i := 90) rfl)) rfl
theorem tw_1771 : (Cond.code ⟨"ProofLibrary$Tree", "cell", "(III)I"⟩ prog_13_method_3_code 3 (some .int)) ∈ TB := TB_m (tc_8 (List.mem_of_getElem? (i := 91) rfl)) rfl
theorem tw_1772 : (Cond.methodLink "ProofLibrary$Tree" 68 ⟨"ProofLibrary$Chart", "ruleOf", "(III)I"⟩) ∈ TB := TB_m (tc_8 (List.mem_of_getElem? (i := 92) rfl)) rfl
theorem tw_1773 : (Cond.instanceMethod ⟨"ProofLibrary$Chart", "ruleOf", "(III)I"⟩) ∈ TB := TB_m (tc_8 (List.mem_of_getElem? (i := 93) rfl)) rfl
theorem tw_1774 : (Cond.selects "ProofLibrary$Chart" ⟨"ProofLibrary$Chart", "ruleOf", "(III)I"⟩ ⟨"ProofLibrary$Chart", "ruleOf", "(III)I"⟩) ∈ TB := TB_m (tc_8 (List.mem_of_getElem? (i := 94) rfl)) rfl
theorem tw_1775 : (Cond.code ⟨"ProofLibrary$Chart", "ruleOf", "(III)I"⟩ prog_3_method_12_code 4 (some .int)) ∈ TB := TB_m (tc_8 (List.mem_of_getElem? (i := 95) rfl)) rfl
theorem tw_1776 : (Cond.methodLink "ProofLibrary$Tree" 76 ⟨"ProofLibrary$Tree", "part", "(III)V"⟩) ∈ TB := TB_m (tc_8 (List.mem_of_getElem? (i := 96) rfl)) rfl
theorem tw_1778 : (Cond.instanceMethod ⟨"ProofLibrary$Tree", "part", "(III)V"⟩) ∈ TB := TB_m (tc_8 (List.mem_of_getElem? (i := 98) rfl)) rfl
theorem tw_1779 : (Cond.code ⟨"ProofLibrary$Tree", "part", "(III)V"⟩ prog_13_method_4_code 12 none) ∈ TB := TB_m (tc_8 (List.mem_of_getElem? (i := 99) rfl)) rfl
theorem tw_1780 : (Cond.methodLink "ProofLibrary$Tree" 104 ⟨"ProofLibrary$Library", "lengthOf", "(I)I"⟩) ∈ TB := TB_m (tc_8 (List.mem_of_getElem? (i := 100) rfl)) rfl
theorem tw_1781 : (Cond.methodLink "ProofLibrary$Tree" 107 ⟨"ProofLibrary$Tree", "startsOf", "(IJII)J"⟩) ∈ TB := TB_m (tc_8 (List.mem_of_getElem? (i := 101) rfl)) rfl
theorem tw_1783 : (Cond.instanceMethod ⟨"ProofLibrary$Tree", "startsOf", "(IJII)J"⟩) ∈ TB := TB_m (tc_8 (List.mem_of_getElem? (i := 103) rfl)) rfl
theorem tw_1784 : (Cond.code ⟨"ProofLibrary$Tree", "startsOf", "(IJII)J"⟩ prog_13_method_6_code 10 (some .long)) ∈ TB := TB_m (tc_8 (List.mem_of_getElem? (i := 104) rfl)) rfl
theorem tw_1785 : (Cond.methodLink "ProofLibrary$Tree" 120 ⟨"ProofLibrary$Tree", "sortOf", "(I)I"⟩) ∈ TB := TB_m (tc_8 (List.mem_of_getElem? (i := 105) rfl)) rfl
theorem tw_1787 : (Cond.instanceMethod ⟨"ProofLibrary$Tree", "sortOf", "(I)I"⟩) ∈ TB := TB_m (tc_8 (List.mem_of_getElem? (i := 107) rfl)) rfl
theorem tw_1788 : (Cond.code ⟨"ProofLibrary$Tree", "sortOf", "(I)I"⟩ prog_13_method_5_code 3 (some .int)) ∈ TB := TB_m (tc_8 (List.mem_of_getElem? (i := 108) rfl)) rfl
theorem tw_1789 : (Cond.methodLink "ProofLibrary$Tree" 123 ⟨"java/lang/Long", "numberOfTrailingZeros", "(J)I"⟩) ∈ TB := TB_m (tc_8 (List.mem_of_getElem? (i := 109) rfl)) rfl
theorem tw_1790 : (Cond.static ⟨"java/lang/Long", "numberOfTrailingZeros", "(J)I"⟩) ∈ TB := TB_m (tc_8 (List.mem_of_getElem? (i := 110) rfl)) rfl
theorem tw_1791 : (Cond.code ⟨"java/lang/Long", "numberOfTrailingZeros", "(J)I"⟩ prog_18_method_49_code 3 (some .int)) ∈ TB := TB_m (tc_8 (List.mem_of_getElem? (i := 111) rfl)) rfl
theorem tw_1792 : (Cond.methodLink "java/lang/Long" 311 ⟨"java/lang/Integer", "numberOfTrailingZeros", "(I)I"⟩) ∈ TB := TB_m (tc_8 (List.mem_of_getElem? (i := 112) rfl)) rfl
theorem tw_1793 : (Cond.static ⟨"java/lang/Integer", "numberOfTrailingZeros", "(I)I"⟩) ∈ TB := TB_m (tc_8 (List.mem_of_getElem? (i := 113) rfl)) rfl
theorem tw_1794 : (Cond.code ⟨"java/lang/Integer", "numberOfTrailingZeros", "(I)I"⟩ prog_17_method_48_code 2 (some .int)) ∈ TB := TB_m (tc_8 (List.mem_of_getElem? (i := 114) rfl)) rfl
theorem tw_1795 : (Cond.constant "java/lang/Integer" 264 65536) ∈ TB := TB_m (tc_8 (List.mem_of_getElem? (i := 115) rfl)) rfl
theorem tw_1796 : (Cond.methodLink "ProofLibrary$Tree" 129 ⟨"java/lang/Math", "min", "(II)I"⟩) ∈ TB := TB_m (tc_8 (List.mem_of_getElem? (i := 116) rfl)) rfl
theorem tw_1797 : (Cond.methodLink "ProofLibrary$Tree" 91 ⟨"ProofLibrary$Library", "variableOf", "(I)I"⟩) ∈ TB := TB_m (tc_8 (List.mem_of_getElem? (i := 117) rfl)) rfl
theorem tw_1798 : (Cond.methodLink "ProofLibrary$Tree" 98 ⟨"ProofLibrary$Library", "typeOf", "(I)I"⟩) ∈ TB := TB_m (tc_8 (List.mem_of_getElem? (i := 118) rfl)) rfl
theorem tw_1799 : (Cond.methodLink "ProofLibrary" 288 ⟨"ProofLibrary", "printWithout", "(I)I"⟩) ∈ TB := TB_m (tc_8 (List.mem_of_getElem? (i := 119) rfl)) rfl
theorem tw_1801 : (Cond.instanceMethod ⟨"ProofLibrary", "printWithout", "(I)I"⟩) ∈ TB := TB_m (tc_8 (List.mem_of_getElem? (i := 121) rfl)) rfl
theorem tw_1802 : (Cond.code ⟨"ProofLibrary", "printWithout", "(I)I"⟩ prog_1_method_30_code 2 (some .int)) ∈ TB := TB_m (tc_8 (List.mem_of_getElem? (i := 122) rfl)) rfl
theorem tw_1803 : (Cond.methodLink "ProofLibrary" 360 ⟨"ProofLibrary$Definitions", "study", "(I)V"⟩) ∈ TB := TB_m (tc_8 (List.mem_of_getElem? (i := 123) rfl)) rfl
theorem tw_1804 : (Cond.instanceMethod ⟨"ProofLibrary$Definitions", "study", "(I)V"⟩) ∈ TB := TB_m (tc_8 (List.mem_of_getElem? (i := 124) rfl)) rfl
theorem tw_1805 : (Cond.selects "ProofLibrary$Definitions" ⟨"ProofLibrary$Definitions", "study", "(I)V"⟩ ⟨"ProofLibrary$Definitions", "study", "(I)V"⟩) ∈ TB := TB_m (tc_8 (List.mem_of_getElem? (i := 125) rfl)) rfl
theorem tw_1806 : (Cond.code ⟨"ProofLibrary$Definitions", "study", "(I)V"⟩ prog_4_method_3_code 3 none) ∈ TB := TB_m (tc_8 (List.mem_of_getElem? (i := 126) rfl)) rfl
theorem tw_1807 : (Cond.methodLink "ProofLibrary$Definitions" 83 ⟨"ProofLibrary$Library", "typeOf", "(I)I"⟩) ∈ TB := TB_m (tc_8 (List.mem_of_getElem? (i := 127) rfl)) rfl
theorem tw_1808 : (Cond.methodLink "ProofLibrary$Definitions" 94 ⟨"ProofLibrary$Library", "lengthOf", "(I)I"⟩) ∈ TB := TB_m (tc_8 (List.mem_of_getElem? (i := 128) rfl)) rfl
theorem tw_1809 : (Cond.methodLink "ProofLibrary$Definitions" 97 ⟨"ProofLibrary$Chart", "takeStatement", "(I)V"⟩) ∈ TB := TB_m (tc_8 (List.mem_of_getElem? (i := 129) rfl)) rfl
theorem tw_1810 : (Cond.methodLink "ProofLibrary$Definitions" 103 ⟨"ProofLibrary$Chart", "countTrees", "()I"⟩) ∈ TB := TB_m (tc_8 (List.mem_of_getElem? (i := 130) rfl)) rfl
theorem tw_1811 : (Cond.methodLink "ProofLibrary$Definitions" 107 ⟨"ProofLibrary$Tree", "grow", "()V"⟩) ∈ TB := TB_m (tc_8 (List.mem_of_getElem? (i := 131) rfl)) rfl
theorem tw_1812 : (Cond.methodLink "ProofLibrary$Definitions" 112 ⟨"ProofLibrary$Definitions", "noteUses", "(I)V"⟩) ∈ TB := TB_m (tc_8 (List.mem_of_getElem? (i := 132) rfl)) rfl
theorem tw_1814 : (Cond.instanceMethod ⟨"ProofLibrary$Definitions", "noteUses", "(I)V"⟩) ∈ TB := TB_m (tc_8 (List.mem_of_getElem? (i := 134) rfl)) rfl
theorem tw_1815 : (Cond.code ⟨"ProofLibrary$Definitions", "noteUses", "(I)V"⟩ prog_4_method_4_code 3 none) ∈ TB := TB_m (tc_8 (List.mem_of_getElem? (i := 135) rfl)) rfl
theorem tw_1816 : (Cond.methodLink "ProofLibrary$Definitions" 118 ⟨"ProofLibrary$Assertions", "hasEssential", "(I)Z"⟩) ∈ TB := TB_m (tc_8 (List.mem_of_getElem? (i := 136) rfl)) rfl
theorem tw_1817 : (Cond.methodLink "ProofLibrary$Definitions" 124 ⟨"ProofLibrary$Definitions", "canDefine", "(I)Z"⟩) ∈ TB := TB_m (tc_8 (List.mem_of_getElem? (i := 137) rfl)) rfl
theorem tw_1819 : (Cond.instanceMethod ⟨"ProofLibrary$Definitions", "canDefine", "(I)Z"⟩) ∈ TB := TB_m (tc_8 (List.mem_of_getElem? (i := 139) rfl)) rfl
theorem tw_1820 : (Cond.code ⟨"ProofLibrary$Definitions", "canDefine", "(I)Z"⟩ prog_4_method_5_code 4 (some .boolean)) ∈ TB := TB_m (tc_8 (List.mem_of_getElem? (i := 140) rfl)) rfl
theorem tw_1821 : (Cond.methodLink "ProofLibrary$Definitions" 142 ⟨"ProofLibrary$Definitions", "partSides", "()Z"⟩) ∈ TB := TB_m (tc_8 (List.mem_of_getElem? (i := 141) rfl)) rfl
theorem tw_1823 : (Cond.instanceMethod ⟨"ProofLibrary$Definitions", "partSides", "()Z"⟩) ∈ TB := TB_m (tc_8 (List.mem_of_getElem? (i := 143) rfl)) rfl
theorem tw_1824 : (Cond.code ⟨"ProofLibrary$Definitions", "partSides", "()Z"⟩ prog_4_method_6_code 5 (some .boolean)) ∈ TB := TB_m (tc_8 (List.mem_of_getElem? (i := 144) rfl)) rfl
theorem tw_1825 : (Cond.methodLink "ProofLibrary$Definitions" 170 ⟨"ProofLibrary$Tree", "behind", "(I)I"⟩) ∈ TB := TB_m (tc_8 (List.mem_of_getElem? (i := 145) rfl)) rfl
theorem tw_1826 : (Cond.instanceMethod ⟨"ProofLibrary$Tree", "behind", "(I)I"⟩) ∈ TB := TB_m (tc_8 (List.mem_of_getElem? (i := 146) rfl)) rfl
theorem tw_1827 : (Cond.selects "ProofLibrary$Tree" ⟨"ProofLibrary$Tree", "behind", "(I)I"⟩ ⟨"ProofLibrary$Tree", "behind", "(I)I"⟩) ∈ TB := TB_m (tc_8 (List.mem_of_getElem? (i := 147) rfl)) rfl
theorem tw_1828 : (Cond.code ⟨"ProofLibrary$Tree", "behind", "(I)I"⟩ prog_13_method_7_code 5 (some .int)) ∈ TB := TB_m (tc_8 (List.mem_of_getElem? (i := 148) rfl)) rfl
theorem tw_1829 : (Cond.methodLink "ProofLibrary$Definitions" 146 ⟨"ProofLibrary$Definitions", "fillSlots", "(I)Z"⟩) ∈ TB := TB_m (tc_8 (List.mem_of_getElem? (i := 149) rfl)) rfl
theorem tw_1831 : (Cond.instanceMethod ⟨"ProofLibrary$Definitions", "fillSlots", "(I)Z"⟩) ∈ TB := TB_m (tc_8 (List.mem_of_getElem? (i := 151) rfl)) rfl
theorem tw_1832 : (Cond.code ⟨"ProofLibrary$Definitions", "fillSlots", "(I)Z"⟩ prog_4_method_7_code 5 (some .boolean)) ∈ TB := TB_m (tc_8 (List.mem_of_getElem? (i := 152) rfl)) rfl
theorem tw_1833 : (Cond.methodLink "ProofLibrary$Definitions" 176 ⟨"ProofLibrary$Library", "variableOf", "(I)I"⟩) ∈ TB := TB_m (tc_8 (List.mem_of_getElem? (i := 153) rfl)) rfl
theorem tw_1834 : (Cond.methodLink "ProofLibrary$Definitions" 149 ⟨"ProofLibrary$Definitions", "secondHasNoOther", "(I)Z"⟩) ∈ TB := TB_m (tc_8 (List.mem_of_getElem? (i := 154) rfl)) rfl
theorem tw_1836 : (Cond.instanceMethod ⟨"ProofLibrary$Definitions", "secondHasNoOther", "(I)Z"⟩) ∈ TB := TB_m (tc_8 (List.mem_of_getElem? (i := 156) rfl)) rfl
theorem tw_1837 : (Cond.code ⟨"ProofLibrary$Definitions", "secondHasNoOther", "(I)Z"⟩ prog_4_method_9_code 5 (some .boolean)) ∈ TB := TB_m (tc_8 (List.mem_of_getElem? (i := 157) rfl)) rfl
theorem tw_1838 : (Cond.methodLink "ProofLibrary$Definitions" 152 ⟨"ProofLibrary$Definitions", "clearSlots", "(I)V"⟩) ∈ TB := TB_m (tc_8 (List.mem_of_getElem? (i := 158) rfl)) rfl
theorem tw_1840 : (Cond.instanceMethod ⟨"ProofLibrary$Definitions", "clearSlots", "(I)V"⟩) ∈ TB := TB_m (tc_8 (List.mem_of_getElem? (i := 160) rfl)) rfl
theorem tw_1841 : (Cond.code ⟨"ProofLibrary$Definitions", "clearSlots", "(I)V"⟩ prog_4_method_8_code 4 none) ∈ TB := TB_m (tc_8 (List.mem_of_getElem? (i := 161) rfl)) rfl
theorem tw_1842 : (Cond.methodLink "ProofLibrary$Definitions" 133 ⟨"java/lang/Math", "max", "(II)I"⟩) ∈ TB := TB_m (tc_8 (List.mem_of_getElem? (i := 162) rfl)) rfl
theorem tw_1843 : (Cond.methodLink "ProofLibrary" 363 ⟨"ProofLibrary$Definitions", "prepare", "(I)V"⟩) ∈ TB := TB_m (tc_8 (List.mem_of_getElem? (i := 163) rfl)) rfl
theorem tw_1844 : (Cond.instanceMethod ⟨"ProofLibrary$Definitions", "prepare", "(I)V"⟩) ∈ TB := TB_m (tc_8 (List.mem_of_getElem? (i := 164) rfl)) rfl
theorem tw_1845 : (Cond.selects "ProofLibrary$Definitions" ⟨"ProofLibrary$Definitions", "prepare", "(I)V"⟩ ⟨"ProofLibrary$Definitions", "prepare", "(I)V"⟩) ∈ TB := TB_m (tc_8 (List.mem_of_getElem? (i := 165) rfl)) rfl
theorem tw_1846 : (Cond.code ⟨"ProofLibrary$Definitions", "prepare", "(I)V"⟩ prog_4_method_11_code 4 none) ∈ TB := TB_m (tc_8 (List.mem_of_getElem? (i := 166) rfl)) rfl
theorem tw_1847 : (Cond.methodLink "ProofLibrary$Definitions" 179 ⟨"ProofLibrary$Definitions", "definedRule", "(I)I"⟩) ∈ TB := TB_m (tc_8 (List.mem_of_getElem? (i := 167) rfl)) rfl
theorem tw_1848 : (Cond.instanceMethod ⟨"ProofLibrary$Definitions", "definedRule", "(I)I"⟩) ∈ TB := TB_m (tc_8 (List.mem_of_getElem? (i := 168) rfl)) rfl
theorem tw_1849 : (Cond.selects "ProofLibrary$Definitions" ⟨"ProofLibrary$Definitions", "definedRule", "(I)I"⟩ ⟨"ProofLibrary$Definitions", "definedRule", "(I)I"⟩) ∈ TB := TB_m (tc_8 (List.mem_of_getElem? (i := 169) rfl)) rfl
theorem tw_1850 : (Cond.code ⟨"ProofLibrary$Definitions", "definedRule", "(I)I"⟩ prog_4_method_10_code 2 (some .int)) ∈ TB := TB_m (tc_8 (List.mem_of_getElem? (i := 170) rfl)) rfl
theorem tw_1851 : (Cond.methodLink "ProofLibrary$Definitions" 182 ⟨"ProofLibrary$Definitions", "makeBody", "(II)V"⟩) ∈ TB := TB_m (tc_8 (List.mem_of_getElem? (i := 171) rfl)) rfl
theorem tw_1853 : (Cond.instanceMethod ⟨"ProofLibrary$Definitions", "makeBody", "(II)V"⟩) ∈ TB := TB_m (tc_8 (List.mem_of_getElem? (i := 173) rfl)) rfl
theorem tw_1854 : (Cond.code ⟨"ProofLibrary$Definitions", "makeBody", "(II)V"⟩ prog_4_method_12_code 5 none) ∈ TB := TB_m (tc_8 (List.mem_of_getElem? (i := 174) rfl)) rfl
theorem tw_1855 : (Cond.methodLink "ProofLibrary$Definitions" 186 ⟨"ProofLibrary$Definitions", "evaluate", "(III)Z"⟩) ∈ TB := TB_m (tc_8 (List.mem_of_getElem? (i := 175) rfl)) rfl
theorem tw_1856 : (Cond.instanceMethod ⟨"ProofLibrary$Definitions", "evaluate", "(III)Z"⟩) ∈ TB := TB_m (tc_8 (List.mem_of_getElem? (i := 176) rfl)) rfl
theorem tw_1857 : (Cond.selects "ProofLibrary$Definitions" ⟨"ProofLibrary$Definitions", "evaluate", "(III)Z"⟩ ⟨"ProofLibrary$Definitions", "evaluate", "(III)Z"⟩) ∈ TB := TB_m (tc_8 (List.mem_of_getElem? (i := 177) rfl)) rfl
theorem tw_1858 : (Cond.code ⟨"ProofLibrary$Definitions", "evaluate", "(III)Z"⟩ prog_4_method_13_code 9 (some .boolean)) ∈ TB := TB_m (tc_8 (List.mem_of_getElem? (i := 178) rfl)) rfl
theorem tw_1859 : (Cond.methodLink "ProofLibrary$Definitions" 208 ⟨"ProofLibrary$Pile", "clear", "()V"⟩) ∈ TB := TB_m (tc_8 (List.mem_of_getElem? (i := 179) rfl)) rfl
theorem tw_1860 : (Cond.methodLink "ProofLibrary$Definitions" 217 ⟨"ProofLibrary$Definitions", "compose", "(III)Z"⟩) ∈ TB := TB_m (tc_8 (List.mem_of_getElem? (i := 180) rfl)) rfl
theorem tw_1862 : (Cond.instanceMethod ⟨"ProofLibrary$Definitions", "compose", "(III)Z"⟩) ∈ TB := TB_m (tc_8 (List.mem_of_getElem? (i := 182) rfl)) rfl
theorem tw_1863 : (Cond.code ⟨"ProofLibrary$Definitions", "compose", "(III)Z"⟩ prog_4_method_14_code 7 (some .boolean)) ∈ TB := TB_m (tc_8 (List.mem_of_getElem? (i := 183) rfl)) rfl
theorem tw_1864 : (Cond.methodLink "ProofLibrary$Definitions" 230 ⟨"ProofLibrary$Definitions", "composeSymbol", "(I)Z"⟩) ∈ TB := TB_m (tc_8 (List.mem_of_getElem? (i := 184) rfl)) rfl
theorem tw_1866 : (Cond.instanceMethod ⟨"ProofLibrary$Definitions", "composeSymbol", "(I)Z"⟩) ∈ TB := TB_m (tc_8 (List.mem_of_getElem? (i := 186) rfl)) rfl
theorem tw_1867 : (Cond.code ⟨"ProofLibrary$Definitions", "composeSymbol", "(I)Z"⟩ prog_4_method_15_code 2 (some .boolean)) ∈ TB := TB_m (tc_8 (List.mem_of_getElem? (i := 187) rfl)) rfl
theorem tw_1868 : (Cond.methodLink "ProofLibrary$Definitions" 233 ⟨"ProofLibrary$Assertions", "placeInFrame", "(II)I"⟩) ∈ TB := TB_m (tc_8 (List.mem_of_getElem? (i := 188) rfl)) rfl
theorem tw_1869 : (Cond.methodLink "ProofLibrary$Definitions" 236 ⟨"ProofLibrary$Definitions", "composeRow", "(I)Z"⟩) ∈ TB := TB_m (tc_8 (List.mem_of_getElem? (i := 189) rfl)) rfl
theorem tw_1871 : (Cond.instanceMethod ⟨"ProofLibrary$Definitions", "composeRow", "(I)Z"⟩) ∈ TB := TB_m (tc_8 (List.mem_of_getElem? (i := 191) rfl)) rfl
theorem tw_1872 : (Cond.code ⟨"ProofLibrary$Definitions", "composeRow", "(I)Z"⟩ prog_4_method_16_code 3 (some .boolean)) ∈ TB := TB_m (tc_8 (List.mem_of_getElem? (i := 192) rfl)) rfl
theorem tw_1873 : (Cond.methodLink "ProofLibrary$Definitions" 202 ⟨"java/lang/System", "arraycopy", "(Ljava/lang/Object;ILjava/lang/Object;II)V"⟩) ∈ TB := TB_m (tc_8 (List.mem_of_getElem? (i := 193) rfl)) rfl
theorem tw_1874 : (Cond.methodLink "ProofLibrary$Definitions" 223 ⟨"ProofLibrary$Pile", "put", "(IZ)Z"⟩) ∈ TB := TB_m (tc_8 (List.mem_of_getElem? (i := 194) rfl)) rfl
theorem tw_1875 : (Cond.methodLink "ProofLibrary$Definitions" 194 ⟨"java/util/Arrays", "copyOf", "([II)[I"⟩) ∈ TB := TB_m (tc_8 (List.mem_of_getElem? (i := 195) rfl)) rfl
theorem tw_1876 : (Cond.static ⟨"java/util/Arrays", "copyOf", "([II)[I"⟩) ∈ TB := TB_m (tc_8 (List.mem_of_getElem? (i := 196) rfl)) rfl
theorem tw_1877 : (Cond.code ⟨"java/util/Arrays", "copyOf", "([II)[I"⟩ prog_22_method_123_code 3 (some (.array .int))) ∈ TB := TB_m (tc_8 (List.mem_of_getElem? (i := 197) rfl)) rfl
theorem tw_1878 : (Cond.methodLink "java/util/Arrays" 316 ⟨"[I", "clone", "()Ljava/lang/Object;"⟩) ∈ TB := TB_m (tc_8 (List.mem_of_getElem? (i := 198) rfl)) rfl
theorem tw_1879 : (Cond.sameMethod "[I" "java/lang/Object" "clone" "()Ljava/lang/Object;") ∈ TB := TB_m (tc_8 (List.mem_of_getElem? (i := 199) rfl)) rfl
theorem tw_1880 : (Cond.native ⟨"java/lang/Object", "clone", "()Ljava/lang/Object;"⟩) ∈ TB := TB_m (tc_8 (List.mem_of_getElem? (i := 200) rfl)) rfl
theorem tw_1881 : (Cond.instanceMethod ⟨"java/lang/Object", "clone", "()Ljava/lang/Object;"⟩) ∈ TB := TB_m (tc_8 (List.mem_of_getElem? (i := 201) rfl)) rfl
theorem tw_1882 : (Cond.selects "[I" ⟨"[I", "clone", "()Ljava/lang/Object;"⟩ ⟨"java/lang/Object", "clone", "()Ljava/lang/Object;"⟩) ∈ TB := TB_m (tc_8 (List.mem_of_getElem? (i := 202) rfl)) rfl
theorem tw_1884 : (Cond.classLink "java/util/Arrays" 317 "[I") ∈ TB := TB_m (tc_8 (List.mem_of_getElem? (i := 204) rfl)) rfl
theorem tw_1885 : (Cond.methodLink "java/util/Arrays" 304 ⟨"java/lang/Math", "min", "(II)I"⟩) ∈ TB := TB_m (tc_8 (List.mem_of_getElem? (i := 205) rfl)) rfl
theorem tw_1886 : (Cond.methodLink "java/util/Arrays" 150 ⟨"java/lang/System", "arraycopy", "(Ljava/lang/Object;ILjava/lang/Object;II)V"⟩) ∈ TB := TB_m (tc_8 (List.mem_of_getElem? (i := 206) rfl)) rfl
theorem tw_1887 : (Cond.methodLink "ProofLibrary" 366 ⟨"ProofLibrary$Definitions", "evaluate", "(III)Z"⟩) ∈ TB := TB_m (tc_8 (List.mem_of_getElem? (i := 207) rfl)) rfl
theorem tw_1888 : (Cond.methodLink "ProofLibraryLaw" 95 ⟨"ProofLibrary", "character", "(I)I"⟩) ∈ TB := TB_m (tc_8 (List.mem_of_getElem? (i := 208) rfl)) rfl
theorem tw_1889 : (Cond.instanceMethod ⟨"ProofLibrary", "character", "(I)I"⟩) ∈ TB := TB_m (tc_8 (List.mem_of_getElem? (i := 209) rfl)) rfl
theorem tw_1890 : (Cond.selects "ProofLibrary" ⟨"ProofLibrary", "character", "(I)I"⟩ ⟨"ProofLibrary", "character", "(I)I"⟩) ∈ TB := TB_m (tc_8 (List.mem_of_getElem? (i := 210) rfl)) rfl
theorem tw_1891 : (Cond.code ⟨"ProofLibrary", "character", "(I)I"⟩ prog_1_method_31_code 2 (some .int)) ∈ TB := TB_m (tc_8 (List.mem_of_getElem? (i := 211) rfl)) rfl
theorem tw_1892 : (Cond.methodLink "ProofLibrary" 369 ⟨"ProofLibrary$Paper", "shown", "(I)I"⟩) ∈ TB := TB_m (tc_8 (List.mem_of_getElem? (i := 212) rfl)) rfl
theorem tw_1893 : (Cond.instanceMethod ⟨"ProofLibrary$Paper", "shown", "(I)I"⟩) ∈ TB := TB_m (tc_8 (List.mem_of_getElem? (i := 213) rfl)) rfl
theorem tw_1894 : (Cond.selects "ProofLibrary$Paper" ⟨"ProofLibrary$Paper", "shown", "(I)I"⟩ ⟨"ProofLibrary$Paper", "shown", "(I)I"⟩) ∈ TB := TB_m (tc_8 (List.mem_of_getElem? (i := 214) rfl)) rfl
theorem tw_1895 : (Cond.code ⟨"ProofLibrary$Paper", "shown", "(I)I"⟩ prog_7_method_11_code 2 (some .int)) ∈ TB := TB_m (tc_8 (List.mem_of_getElem? (i := 215) rfl)) rfl
theorem tw_1896 : (Cond.methodLink "ProofLibraryLaw" 99 ⟨"ProofLibrary", "trees", "(I)I"⟩) ∈ TB := TB_m (tc_8 (List.mem_of_getElem? (i := 216) rfl)) rfl
theorem tw_1897 : (Cond.instanceMethod ⟨"ProofLibrary", "trees", "(I)I"⟩) ∈ TB := TB_m (tc_8 (List.mem_of_getElem? (i := 217) rfl)) rfl
theorem tw_1898 : (Cond.selects "ProofLibrary" ⟨"ProofLibrary", "trees", "(I)I"⟩ ⟨"ProofLibrary", "trees", "(I)I"⟩) ∈ TB := TB_m (tc_8 (List.mem_of_getElem? (i := 218) rfl)) rfl
theorem tw_1899 : (Cond.code ⟨"ProofLibrary", "trees", "(I)I"⟩ prog_1_method_32_code 2 (some .int)) ∈ TB := TB_m (tc_8 (List.mem_of_getElem? (i := 219) rfl)) rfl
theorem tw_1900 : (Cond.methodLink "ProofLibraryLaw" 103 ⟨"ProofLibrary", "equate", "(I)I"⟩) ∈ TB := TB_m (tc_8 (List.mem_of_getElem? (i := 220) rfl)) rfl
theorem tw_1901 : (Cond.instanceMethod ⟨"ProofLibrary", "equate", "(I)I"⟩) ∈ TB := TB_m (tc_8 (List.mem_of_getElem? (i := 221) rfl)) rfl
theorem tw_1902 : (Cond.selects "ProofLibrary" ⟨"ProofLibrary", "equate", "(I)I"⟩ ⟨"ProofLibrary", "equate", "(I)I"⟩) ∈ TB := TB_m (tc_8 (List.mem_of_getElem? (i := 222) rfl)) rfl
theorem tw_1903 : (Cond.code ⟨"ProofLibrary", "equate", "(I)I"⟩ prog_1_method_34_code 2 (some .int)) ∈ TB := TB_m (tc_8 (List.mem_of_getElem? (i := 223) rfl)) rfl
theorem tw_1904 : (Cond.methodLink "ProofLibrary" 378 ⟨"ProofLibrary$Rules", "isRule", "(I)Z"⟩) ∈ TB := TB_m (tc_8 (List.mem_of_getElem? (i := 224) rfl)) rfl
theorem tw_1905 : (Cond.methodLink "ProofLibrary" 381 ⟨"ProofLibrary$Definitions", "turn", "(I)I"⟩) ∈ TB := TB_m (tc_8 (List.mem_of_getElem? (i := 225) rfl)) rfl
theorem tw_1906 : (Cond.instanceMethod ⟨"ProofLibrary$Definitions", "turn", "(I)I"⟩) ∈ TB := TB_m (tc_8 (List.mem_of_getElem? (i := 226) rfl)) rfl
theorem tw_1907 : (Cond.selects "ProofLibrary$Definitions" ⟨"ProofLibrary$Definitions", "turn", "(I)I"⟩ ⟨"ProofLibrary$Definitions", "turn", "(I)I"⟩) ∈ TB := TB_m (tc_8 (List.mem_of_getElem? (i := 227) rfl)) rfl
theorem tw_1908 : (Cond.code ⟨"ProofLibrary$Definitions", "turn", "(I)I"⟩ prog_4_method_2_code 2 (some .int)) ∈ TB := TB_m (tc_8 (List.mem_of_getElem? (i := 228) rfl)) rfl
theorem tw_1909 : (Cond.methodLink "ProofLibrary$Definitions" 68 ⟨"java/util/Arrays", "fill", "([II)V"⟩) ∈ TB := TB_m (tc_8 (List.mem_of_getElem? (i := 229) rfl)) rfl
theorem tw_1910 : (Cond.methodLink "ProofLibraryLaw" 107 ⟨"ProofLibrary", "definition", "(I)I"⟩) ∈ TB := TB_m (tc_8 (List.mem_of_getElem? (i := 230) rfl)) rfl
theorem tw_1911 : (Cond.instanceMethod ⟨"ProofLibrary", "definition", "(I)I"⟩) ∈ TB := TB_m (tc_8 (List.mem_of_getElem? (i := 231) rfl)) rfl
theorem tw_1912 : (Cond.selects "ProofLibrary" ⟨"ProofLibrary", "definition", "(I)I"⟩ ⟨"ProofLibrary", "definition", "(I)I"⟩) ∈ TB := TB_m (tc_8 (List.mem_of_getElem? (i := 232) rfl)) rfl
theorem tw_1913 : (Cond.code ⟨"ProofLibrary", "definition", "(I)I"⟩ prog_1_method_35_code 2 (some .int)) ∈ TB := TB_m (tc_8 (List.mem_of_getElem? (i := 233) rfl)) rfl
theorem tw_1914 : (Cond.methodLink "ProofLibrary" 384 ⟨"ProofLibrary$Definitions", "definedRule", "(I)I"⟩) ∈ TB := TB_m (tc_8 (List.mem_of_getElem? (i := 234) rfl)) rfl
theorem tw_1915 : (Cond.methodLink "ProofLibraryLaw" 111 ⟨"ProofLibrary", "apply", "(I)I"⟩) ∈ TB := TB_m (tc_8 (List.mem_of_getElem? (i := 235) rfl)) rfl
theorem tw_1916 : (Cond.instanceMethod ⟨"ProofLibrary", "apply", "(I)I"⟩) ∈ TB := TB_m (tc_8 (List.mem_of_getElem? (i := 236) rfl)) rfl
theorem tw_1917 : (Cond.selects "ProofLibrary" ⟨"ProofLibrary", "apply", "(I)I"⟩ ⟨"ProofLibrary", "apply", "(I)I"⟩) ∈ TB := TB_m (tc_8 (List.mem_of_getElem? (i := 237) rfl)) rfl
theorem tw_1918 : (Cond.code ⟨"ProofLibrary", "apply", "(I)I"⟩ prog_1_method_36_code 3 (some .int)) ∈ TB := TB_m (tc_8 (List.mem_of_getElem? (i := 238) rfl)) rfl
theorem tw_1919 : (Cond.methodLink "ProofLibrary" 387 ⟨"ProofLibrary", "takeRow", "()I"⟩) ∈ TB := TB_m (tc_8 (List.mem_of_getElem? (i := 239) rfl)) rfl
theorem tw_1921 : (Cond.instanceMethod ⟨"ProofLibrary", "takeRow", "()I"⟩) ∈ TB := TB_m (tc_9 (List.mem_of_getElem? (i := 1) rfl)) rfl
theorem tw_1922 : (Cond.code ⟨"ProofLibrary", "takeRow", "()I"⟩ prog_1_method_37_code 7 (some .int)) ∈ TB := TB_m (tc_9 (List.mem_of_getElem? (i := 2) rfl)) rfl
theorem tw_1923 : (Cond.methodLink "ProofLibrary" 390 ⟨"ProofLibrary$Library", "typeOf", "(I)I"⟩) ∈ TB := TB_m (tc_9 (List.mem_of_getElem? (i := 3) rfl)) rfl
theorem tw_1924 : (Cond.methodLink "ProofLibrary" 393 ⟨"ProofLibrary$Tree", "keepPattern", "()V"⟩) ∈ TB := TB_m (tc_9 (List.mem_of_getElem? (i := 4) rfl)) rfl
theorem tw_1925 : (Cond.instanceMethod ⟨"ProofLibrary$Tree", "keepPattern", "()V"⟩) ∈ TB := TB_m (tc_9 (List.mem_of_getElem? (i := 5) rfl)) rfl
theorem tw_1926 : (Cond.selects "ProofLibrary$Tree" ⟨"ProofLibrary$Tree", "keepPattern", "()V"⟩ ⟨"ProofLibrary$Tree", "keepPattern", "()V"⟩) ∈ TB := TB_m (tc_9 (List.mem_of_getElem? (i := 6) rfl)) rfl
theorem tw_1927 : (Cond.code ⟨"ProofLibrary$Tree", "keepPattern", "()V"⟩ prog_13_method_8_code 1 none) ∈ TB := TB_m (tc_9 (List.mem_of_getElem? (i := 7) rfl)) rfl
theorem tw_1928 : (Cond.methodLink "ProofLibrary$Tree" 138 ⟨"java/lang/System", "arraycopy", "(Ljava/lang/Object;ILjava/lang/Object;II)V"⟩) ∈ TB := TB_m (tc_9 (List.mem_of_getElem? (i := 8) rfl)) rfl
theorem tw_1929 : (Cond.methodLink "ProofLibrary" 396 ⟨"ProofLibrary$Chart", "takeRow", "([II)V"⟩) ∈ TB := TB_m (tc_9 (List.mem_of_getElem? (i := 9) rfl)) rfl
theorem tw_1930 : (Cond.instanceMethod ⟨"ProofLibrary$Chart", "takeRow", "([II)V"⟩) ∈ TB := TB_m (tc_9 (List.mem_of_getElem? (i := 10) rfl)) rfl
theorem tw_1931 : (Cond.selects "ProofLibrary$Chart" ⟨"ProofLibrary$Chart", "takeRow", "([II)V"⟩ ⟨"ProofLibrary$Chart", "takeRow", "([II)V"⟩) ∈ TB := TB_m (tc_9 (List.mem_of_getElem? (i := 11) rfl)) rfl
theorem tw_1932 : (Cond.code ⟨"ProofLibrary$Chart", "takeRow", "([II)V"⟩ prog_3_method_3_code 4 none) ∈ TB := TB_m (tc_9 (List.mem_of_getElem? (i := 12) rfl)) rfl
theorem tw_1933 : (Cond.methodLink "ProofLibrary" 399 ⟨"ProofLibrary$Tree", "fitsPattern", "()Z"⟩) ∈ TB := TB_m (tc_9 (List.mem_of_getElem? (i := 13) rfl)) rfl
theorem tw_1934 : (Cond.instanceMethod ⟨"ProofLibrary$Tree", "fitsPattern", "()Z"⟩) ∈ TB := TB_m (tc_9 (List.mem_of_getElem? (i := 14) rfl)) rfl
theorem tw_1935 : (Cond.selects "ProofLibrary$Tree" ⟨"ProofLibrary$Tree", "fitsPattern", "()Z"⟩ ⟨"ProofLibrary$Tree", "fitsPattern", "()Z"⟩) ∈ TB := TB_m (tc_9 (List.mem_of_getElem? (i := 15) rfl)) rfl
theorem tw_1936 : (Cond.code ⟨"ProofLibrary$Tree", "fitsPattern", "()Z"⟩ prog_13_method_9_code 4 (some .boolean)) ∈ TB := TB_m (tc_9 (List.mem_of_getElem? (i := 16) rfl)) rfl
theorem tw_1937 : (Cond.methodLink "ProofLibrary$Tree" 150 ⟨"ProofLibrary$Tree", "binds", "(II)Z"⟩) ∈ TB := TB_m (tc_9 (List.mem_of_getElem? (i := 17) rfl)) rfl
theorem tw_1939 : (Cond.instanceMethod ⟨"ProofLibrary$Tree", "binds", "(II)Z"⟩) ∈ TB := TB_m (tc_9 (List.mem_of_getElem? (i := 19) rfl)) rfl
theorem tw_1940 : (Cond.code ⟨"ProofLibrary$Tree", "binds", "(II)Z"⟩ prog_13_method_10_code 5 (some .boolean)) ∈ TB := TB_m (tc_9 (List.mem_of_getElem? (i := 20) rfl)) rfl
theorem tw_1941 : (Cond.methodLink "ProofLibrary$Tree" 154 ⟨"ProofLibrary$Tree", "behind", "(I)I"⟩) ∈ TB := TB_m (tc_9 (List.mem_of_getElem? (i := 21) rfl)) rfl
theorem tw_1942 : (Cond.methodLink "ProofLibrary" 403 ⟨"ProofLibrary$Tree", "bindsEssentials", "(I)Z"⟩) ∈ TB := TB_m (tc_9 (List.mem_of_getElem? (i := 22) rfl)) rfl
theorem tw_1943 : (Cond.instanceMethod ⟨"ProofLibrary$Tree", "bindsEssentials", "(I)Z"⟩) ∈ TB := TB_m (tc_9 (List.mem_of_getElem? (i := 23) rfl)) rfl
theorem tw_1944 : (Cond.selects "ProofLibrary$Tree" ⟨"ProofLibrary$Tree", "bindsEssentials", "(I)Z"⟩ ⟨"ProofLibrary$Tree", "bindsEssentials", "(I)Z"⟩) ∈ TB := TB_m (tc_9 (List.mem_of_getElem? (i := 24) rfl)) rfl
theorem tw_1945 : (Cond.code ⟨"ProofLibrary$Tree", "bindsEssentials", "(I)Z"⟩ prog_13_method_11_code 5 (some .boolean)) ∈ TB := TB_m (tc_9 (List.mem_of_getElem? (i := 25) rfl)) rfl
theorem tw_1946 : (Cond.methodLink "ProofLibrary" 406 ⟨"ProofLibrary", "printEssentials", "(I)I"⟩) ∈ TB := TB_m (tc_9 (List.mem_of_getElem? (i := 26) rfl)) rfl
theorem tw_1948 : (Cond.instanceMethod ⟨"ProofLibrary", "printEssentials", "(I)I"⟩) ∈ TB := TB_m (tc_9 (List.mem_of_getElem? (i := 28) rfl)) rfl
theorem tw_1949 : (Cond.code ⟨"ProofLibrary", "printEssentials", "(I)I"⟩ prog_1_method_38_code 6 (some .int)) ∈ TB := TB_m (tc_9 (List.mem_of_getElem? (i := 29) rfl)) rfl
theorem tw_1950 : (Cond.methodLink "ProofLibrary" 409 ⟨"ProofLibrary", "printBound", "(I)V"⟩) ∈ TB := TB_m (tc_9 (List.mem_of_getElem? (i := 30) rfl)) rfl
theorem tw_1952 : (Cond.instanceMethod ⟨"ProofLibrary", "printBound", "(I)V"⟩) ∈ TB := TB_m (tc_9 (List.mem_of_getElem? (i := 32) rfl)) rfl
theorem tw_1953 : (Cond.code ⟨"ProofLibrary", "printBound", "(I)V"⟩ prog_1_method_39_code 4 none) ∈ TB := TB_m (tc_9 (List.mem_of_getElem? (i := 33) rfl)) rfl
theorem tw_1954 : (Cond.methodLink "ProofLibraryLaw" 115 ⟨"ProofLibrary", "check", "()I"⟩) ∈ TB := TB_m (tc_9 (List.mem_of_getElem? (i := 34) rfl)) rfl
theorem tw_1955 : (Cond.instanceMethod ⟨"ProofLibrary", "check", "()I"⟩) ∈ TB := TB_m (tc_9 (List.mem_of_getElem? (i := 35) rfl)) rfl
theorem tw_1956 : (Cond.selects "ProofLibrary" ⟨"ProofLibrary", "check", "()I"⟩ ⟨"ProofLibrary", "check", "()I"⟩) ∈ TB := TB_m (tc_9 (List.mem_of_getElem? (i := 36) rfl)) rfl
theorem tw_1957 : (Cond.code ⟨"ProofLibrary", "check", "()I"⟩ prog_1_method_40_code 2 (some .int)) ∈ TB := TB_m (tc_9 (List.mem_of_getElem? (i := 37) rfl)) rfl
theorem tw_1958 : (Cond.methodLink "ProofLibrary" 424 ⟨"ProofLibrary", "isSound", "(I)Z"⟩) ∈ TB := TB_m (tc_9 (List.mem_of_getElem? (i := 38) rfl)) rfl
theorem tw_1960 : (Cond.instanceMethod ⟨"ProofLibrary", "isSound", "(I)Z"⟩) ∈ TB := TB_m (tc_9 (List.mem_of_getElem? (i := 40) rfl)) rfl
theorem tw_1961 : (Cond.code ⟨"ProofLibrary", "isSound", "(I)Z"⟩ prog_1_method_41_code 3 (some .boolean)) ∈ TB := TB_m (tc_9 (List.mem_of_getElem? (i := 41) rfl)) rfl
theorem tw_1962 : (Cond.methodLink "ProofLibrary" 435 ⟨"ProofLibrary$Pile", "isStatement", "(II)Z"⟩) ∈ TB := TB_m (tc_9 (List.mem_of_getElem? (i := 42) rfl)) rfl
theorem tw_1963 : (Cond.methodLink "ProofLibrary" 437 ⟨"ProofLibrary$Packer", "comesBack", "(I)Z"⟩) ∈ TB := TB_m (tc_9 (List.mem_of_getElem? (i := 43) rfl)) rfl
theorem tw_1964 : (Cond.instanceMethod ⟨"ProofLibrary$Packer", "comesBack", "(I)Z"⟩) ∈ TB := TB_m (tc_9 (List.mem_of_getElem? (i := 44) rfl)) rfl
theorem tw_1965 : (Cond.selects "ProofLibrary$Packer" ⟨"ProofLibrary$Packer", "comesBack", "(I)Z"⟩ ⟨"ProofLibrary$Packer", "comesBack", "(I)Z"⟩) ∈ TB := TB_m (tc_9 (List.mem_of_getElem? (i := 45) rfl)) rfl
theorem tw_1966 : (Cond.code ⟨"ProofLibrary$Packer", "comesBack", "(I)Z"⟩ prog_6_method_14_code 3 (some .boolean)) ∈ TB := TB_m (tc_9 (List.mem_of_getElem? (i := 46) rfl)) rfl
theorem tw_1967 : (Cond.methodLink "ProofLibrary$Packer" 143 ⟨"ProofLibrary$Packer", "pack", "(I)V"⟩) ∈ TB := TB_m (tc_9 (List.mem_of_getElem? (i := 47) rfl)) rfl
theorem tw_1968 : (Cond.methodLink "ProofLibrary$Packer" 146 ⟨"ProofLibrary$Packer", "fill", "()Z"⟩) ∈ TB := TB_m (tc_9 (List.mem_of_getElem? (i := 48) rfl)) rfl
theorem tw_1970 : (Cond.instanceMethod ⟨"ProofLibrary$Packer", "fill", "()Z"⟩) ∈ TB := TB_m (tc_9 (List.mem_of_getElem? (i := 50) rfl)) rfl
theorem tw_1971 : (Cond.code ⟨"ProofLibrary$Packer", "fill", "()Z"⟩ prog_6_method_15_code 6 (some .boolean)) ∈ TB := TB_m (tc_9 (List.mem_of_getElem? (i := 51) rfl)) rfl
theorem tw_1972 : (Cond.methodLink "ProofLibrary$Packer" 155 ⟨"ProofLibrary$Packer", "fillIn", "(I)Z"⟩) ∈ TB := TB_m (tc_9 (List.mem_of_getElem? (i := 52) rfl)) rfl
theorem tw_1974 : (Cond.instanceMethod ⟨"ProofLibrary$Packer", "fillIn", "(I)Z"⟩) ∈ TB := TB_m (tc_9 (List.mem_of_getElem? (i := 54) rfl)) rfl
theorem tw_1975 : (Cond.code ⟨"ProofLibrary$Packer", "fillIn", "(I)Z"⟩ prog_6_method_16_code 5 (some .boolean)) ∈ TB := TB_m (tc_9 (List.mem_of_getElem? (i := 55) rfl)) rfl
theorem tw_1976 : (Cond.methodLink "ProofLibrary$Packer" 149 ⟨"ProofLibrary$Packer", "unpack", "(I)V"⟩) ∈ TB := TB_m (tc_9 (List.mem_of_getElem? (i := 56) rfl)) rfl
theorem tw_1977 : (Cond.methodLink "ProofLibrary" 440 ⟨"ProofLibrary$Assertions", "restsOnEarlier", "(I)Z"⟩) ∈ TB := TB_m (tc_9 (List.mem_of_getElem? (i := 57) rfl)) rfl
theorem tw_1978 : (Cond.instanceMethod ⟨"ProofLibrary$Assertions", "restsOnEarlier", "(I)Z"⟩) ∈ TB := TB_m (tc_9 (List.mem_of_getElem? (i := 58) rfl)) rfl
theorem tw_1979 : (Cond.selects "ProofLibrary$Assertions" ⟨"ProofLibrary$Assertions", "restsOnEarlier", "(I)Z"⟩ ⟨"ProofLibrary$Assertions", "restsOnEarlier", "(I)Z"⟩) ∈ TB := TB_m (tc_9 (List.mem_of_getElem? (i := 59) rfl)) rfl
theorem tw_1980 : (Cond.code ⟨"ProofLibrary$Assertions", "restsOnEarlier", "(I)Z"⟩ prog_2_method_18_code 3 (some .boolean)) ∈ TB := TB_m (tc_9 (List.mem_of_getElem? (i := 60) rfl)) rfl
theorem tw_1981 : (Cond.methodLink "ProofLibrary$Assertions" 139 ⟨"ProofLibrary$Assertions", "restsOn", "(II)Z"⟩) ∈ TB := TB_m (tc_9 (List.mem_of_getElem? (i := 61) rfl)) rfl
theorem tw_1982 : (Cond.methodLink "ProofLibrary" 427 ⟨"java/lang/Math", "max", "(II)I"⟩) ∈ TB := TB_m (tc_9 (List.mem_of_getElem? (i := 62) rfl)) rfl
theorem tw_1983 : (Cond.methodLink "ProofLibrary" 432 ⟨"ProofLibrary", "makesItsSymbols", "(I)Z"⟩) ∈ TB := TB_m (tc_9 (List.mem_of_getElem? (i := 63) rfl)) rfl
theorem tw_1985 : (Cond.instanceMethod ⟨"ProofLibrary", "makesItsSymbols", "(I)Z"⟩) ∈ TB := TB_m (tc_9 (List.mem_of_getElem? (i := 65) rfl)) rfl
theorem tw_1986 : (Cond.code ⟨"ProofLibrary", "makesItsSymbols", "(I)Z"⟩ prog_1_method_42_code 3 (some .boolean)) ∈ TB := TB_m (tc_9 (List.mem_of_getElem? (i := 66) rfl)) rfl
theorem tw_1987 : (Cond.classLink "ProofLibraryLaw" 10 "ProofLibraryModel") ∈ TB := TB_m (tc_9 (List.mem_of_getElem? (i := 67) rfl)) rfl
theorem tw_1988 : (Cond.instantiable "ProofLibraryModel" 170) ∈ TB := TB_m (tc_9 (List.mem_of_getElem? (i := 68) rfl)) rfl
theorem tw_1989 : (Cond.methodLink "ProofLibraryLaw" 12 ⟨"ProofLibraryModel", "<init>", "()V"⟩) ∈ TB := TB_m (tc_9 (List.mem_of_getElem? (i := 69) rfl)) rfl
theorem tw_1990 : (Cond.instanceMethod ⟨"ProofLibraryModel", "<init>", "()V"⟩) ∈ TB := TB_m (tc_9 (List.mem_of_getElem? (i := 70) rfl)) rfl
theorem tw_1991 : (Cond.code ⟨"ProofLibraryModel", "<init>", "()V"⟩ prog_15_method_1_code 1 none) ∈ TB := TB_m (tc_9 (List.mem_of_getElem? (i := 71) rfl)) rfl
theorem tw_1992 : (Cond.methodLink "ProofLibraryModel" 1 ⟨"java/lang/Object", "<init>", "()V"⟩) ∈ TB := TB_m (tc_9 (List.mem_of_getElem? (i := 72) rfl)) rfl
theorem tw_1993 : (Cond.constant "ProofLibraryModel" 7 60000) ∈ TB := TB_m (tc_9 (List.mem_of_getElem? (i := 73) rfl)) rfl
theorem tw_1994 : (Cond.constant "ProofLibraryModel" 72 90100) ∈ TB := TB_m (tc_9 (List.mem_of_getElem? (i := 74) rfl)) rfl
theorem tw_1995 : (Cond.constant "ProofLibraryModel" 103 36024) ∈ TB := TB_m (tc_9 (List.mem_of_getElem? (i := 75) rfl)) rfl
theorem tw_1996 : (Cond.constant "ProofLibraryModel" 150 42000) ∈ TB := TB_m (tc_9 (List.mem_of_getElem? (i := 76) rfl)) rfl
theorem tw_1997 : (Cond.constant "ProofLibraryModel" 196 120000) ∈ TB := TB_m (tc_9 (List.mem_of_getElem? (i := 77) rfl)) rfl
theorem tw_1998 : (Cond.constant "ProofLibraryModel" 221 40002) ∈ TB := TB_m (tc_9 (List.mem_of_getElem? (i := 78) rfl)) rfl
theorem tw_1999 : (Cond.constant "ProofLibraryModel" 234 65536) ∈ TB := TB_m (tc_9 (List.mem_of_getElem? (i := 79) rfl)) rfl
theorem tw_2000 : (Cond.constant "ProofLibraryModel" 253 372100) ∈ TB := TB_m (tc_9 (List.mem_of_getElem? (i := 80) rfl)) rfl
theorem tw_2001 : (Cond.constant "ProofLibraryModel" 347 460000) ∈ TB := TB_m (tc_9 (List.mem_of_getElem? (i := 81) rfl)) rfl
theorem tw_2002 : (Cond.methodLink "ProofLibraryModel" 376 ⟨"ProofLibraryModel", "clearTables", "()V"⟩) ∈ TB := TB_m (tc_9 (List.mem_of_getElem? (i := 82) rfl)) rfl
theorem tw_2004 : (Cond.instanceMethod ⟨"ProofLibraryModel", "clearTables", "()V"⟩) ∈ TB := TB_m (tc_9 (List.mem_of_getElem? (i := 84) rfl)) rfl
theorem tw_2005 : (Cond.code ⟨"ProofLibraryModel", "clearTables", "()V"⟩ prog_15_method_8_code 2 none) ∈ TB := TB_m (tc_9 (List.mem_of_getElem? (i := 85) rfl)) rfl
theorem tw_2006 : (Cond.fieldLink "ProofLibraryModel" 8 "ProofLibraryModel" "tape" "[I") ∈ TB := TB_m (tc_9 (List.mem_of_getElem? (i := 86) rfl)) rfl
theorem tw_2007 : (Cond.fieldLink "ProofLibraryModel" 379 "ProofLibraryModel" "tapeSize" "I") ∈ TB := TB_m (tc_9 (List.mem_of_getElem? (i := 87) rfl)) rfl
theorem tw_2008 : (Cond.fieldLink "ProofLibraryModel" 382 "ProofLibraryModel" "isFed" "Z") ∈ TB := TB_m (tc_9 (List.mem_of_getElem? (i := 88) rfl)) rfl
theorem tw_2009 : (Cond.fieldLink "ProofLibraryModel" 14 "ProofLibraryModel" "chars" "[I") ∈ TB := TB_m (tc_9 (List.mem_of_getElem? (i := 89) rfl)) rfl
theorem tw_2010 : (Cond.fieldLink "ProofLibraryModel" 400 "ProofLibraryModel" "charCount" "I") ∈ TB := TB_m (tc_9 (List.mem_of_getElem? (i := 90) rfl)) rfl
theorem tw_2011 : (Cond.fieldLink "ProofLibraryModel" 17 "ProofLibraryModel" "symbolAt" "[I") ∈ TB := TB_m (tc_9 (List.mem_of_getElem? (i := 91) rfl)) rfl
theorem tw_2012 : (Cond.fieldLink "ProofLibraryModel" 20 "ProofLibraryModel" "symbolSize" "[I") ∈ TB := TB_m (tc_9 (List.mem_of_getElem? (i := 92) rfl)) rfl
theorem tw_2013 : (Cond.fieldLink "ProofLibraryModel" 471 "ProofLibraryModel" "symbols" "I") ∈ TB := TB_m (tc_9 (List.mem_of_getElem? (i := 93) rfl)) rfl
theorem tw_2014 : (Cond.fieldLink "ProofLibraryModel" 23 "ProofLibraryModel" "labelAt" "[I") ∈ TB := TB_m (tc_9 (List.mem_of_getElem? (i := 94) rfl)) rfl
theorem tw_2015 : (Cond.fieldLink "ProofLibraryModel" 26 "ProofLibraryModel" "labelSize" "[I") ∈ TB := TB_m (tc_9 (List.mem_of_getElem? (i := 95) rfl)) rfl
theorem tw_2016 : (Cond.fieldLink "ProofLibraryModel" 29 "ProofLibraryModel" "symbolTable" "[I") ∈ TB := TB_m (tc_9 (List.mem_of_getElem? (i := 96) rfl)) rfl
theorem tw_2017 : (Cond.fieldLink "ProofLibraryModel" 32 "ProofLibraryModel" "labelTable" "[I") ∈ TB := TB_m (tc_9 (List.mem_of_getElem? (i := 97) rfl)) rfl
theorem tw_2018 : (Cond.fieldLink "ProofLibraryModel" 35 "ProofLibraryModel" "isVariable" "[Z") ∈ TB := TB_m (tc_9 (List.mem_of_getElem? (i := 98) rfl)) rfl
theorem tw_2019 : (Cond.fieldLink "ProofLibraryModel" 39 "ProofLibraryModel" "isActive" "[Z") ∈ TB := TB_m (tc_9 (List.mem_of_getElem? (i := 99) rfl)) rfl
theorem tw_2020 : (Cond.fieldLink "ProofLibraryModel" 42 "ProofLibraryModel" "typeOf" "[I") ∈ TB := TB_m (tc_9 (List.mem_of_getElem? (i := 100) rfl)) rfl
theorem tw_2021 : (Cond.fieldLink "ProofLibraryModel" 45 "ProofLibraryModel" "floatOf" "[I") ∈ TB := TB_m (tc_9 (List.mem_of_getElem? (i := 101) rfl)) rfl
theorem tw_2022 : (Cond.fieldLink "ProofLibraryModel" 48 "ProofLibraryModel" "begins" "[Z") ∈ TB := TB_m (tc_9 (List.mem_of_getElem? (i := 102) rfl)) rfl
theorem tw_2023 : (Cond.fieldLink "ProofLibraryModel" 536 "ProofLibraryModel" "beginnings" "I") ∈ TB := TB_m (tc_9 (List.mem_of_getElem? (i := 103) rfl)) rfl
theorem tw_2024 : (Cond.fieldLink "ProofLibraryModel" 512 "ProofLibraryModel" "statements" "I") ∈ TB := TB_m (tc_9 (List.mem_of_getElem? (i := 104) rfl)) rfl
theorem tw_2025 : (Cond.fieldLink "ProofLibraryModel" 51 "ProofLibraryModel" "kindOf" "[I") ∈ TB := TB_m (tc_9 (List.mem_of_getElem? (i := 105) rfl)) rfl
theorem tw_2026 : (Cond.fieldLink "ProofLibraryModel" 54 "ProofLibraryModel" "textAt" "[I") ∈ TB := TB_m (tc_9 (List.mem_of_getElem? (i := 106) rfl)) rfl
theorem tw_2027 : (Cond.fieldLink "ProofLibraryModel" 57 "ProofLibraryModel" "textSize" "[I") ∈ TB := TB_m (tc_9 (List.mem_of_getElem? (i := 107) rfl)) rfl
theorem tw_2028 : (Cond.fieldLink "ProofLibraryModel" 60 "ProofLibraryModel" "texts" "[I") ∈ TB := TB_m (tc_9 (List.mem_of_getElem? (i := 108) rfl)) rfl
theorem tw_2029 : (Cond.fieldLink "ProofLibraryModel" 63 "ProofLibraryModel" "floats" "[I") ∈ TB := TB_m (tc_9 (List.mem_of_getElem? (i := 109) rfl)) rfl
theorem tw_2030 : (Cond.fieldLink "ProofLibraryModel" 524 "ProofLibraryModel" "textCount" "I") ∈ TB := TB_m (tc_9 (List.mem_of_getElem? (i := 110) rfl)) rfl
theorem tw_2031 : (Cond.fieldLink "ProofLibraryModel" 66 "ProofLibraryModel" "hypAt" "[I") ∈ TB := TB_m (tc_9 (List.mem_of_getElem? (i := 111) rfl)) rfl
theorem tw_2032 : (Cond.fieldLink "ProofLibraryModel" 69 "ProofLibraryModel" "hypSize" "[I") ∈ TB := TB_m (tc_9 (List.mem_of_getElem? (i := 112) rfl)) rfl
theorem tw_2033 : (Cond.fieldLink "ProofLibraryModel" 73 "ProofLibraryModel" "hyps" "[I") ∈ TB := TB_m (tc_9 (List.mem_of_getElem? (i := 113) rfl)) rfl
theorem tw_2034 : (Cond.fieldLink "ProofLibraryModel" 527 "ProofLibraryModel" "hypCount" "I") ∈ TB := TB_m (tc_9 (List.mem_of_getElem? (i := 114) rfl)) rfl
theorem tw_2035 : (Cond.fieldLink "ProofLibraryModel" 76 "ProofLibraryModel" "pairAt" "[I") ∈ TB := TB_m (tc_9 (List.mem_of_getElem? (i := 115) rfl)) rfl
theorem tw_2036 : (Cond.fieldLink "ProofLibraryModel" 79 "ProofLibraryModel" "pairSize" "[I") ∈ TB := TB_m (tc_9 (List.mem_of_getElem? (i := 116) rfl)) rfl
theorem tw_2037 : (Cond.fieldLink "ProofLibraryModel" 82 "ProofLibraryModel" "pairA" "[I") ∈ TB := TB_m (tc_9 (List.mem_of_getElem? (i := 117) rfl)) rfl
theorem tw_2038 : (Cond.fieldLink "ProofLibraryModel" 85 "ProofLibraryModel" "pairB" "[I") ∈ TB := TB_m (tc_9 (List.mem_of_getElem? (i := 118) rfl)) rfl
theorem tw_2039 : (Cond.fieldLink "ProofLibraryModel" 530 "ProofLibraryModel" "pairCount" "I") ∈ TB := TB_m (tc_9 (List.mem_of_getElem? (i := 119) rfl)) rfl
theorem tw_2040 : (Cond.fieldLink "ProofLibraryModel" 88 "ProofLibraryModel" "stepAt" "[I") ∈ TB := TB_m (tc_9 (List.mem_of_getElem? (i := 120) rfl)) rfl
theorem tw_2041 : (Cond.fieldLink "ProofLibraryModel" 91 "ProofLibraryModel" "stepSize" "[I") ∈ TB := TB_m (tc_9 (List.mem_of_getElem? (i := 121) rfl)) rfl
theorem tw_2042 : (Cond.fieldLink "ProofLibraryModel" 94 "ProofLibraryModel" "steps" "[I") ∈ TB := TB_m (tc_9 (List.mem_of_getElem? (i := 122) rfl)) rfl
theorem tw_2043 : (Cond.fieldLink "ProofLibraryModel" 97 "ProofLibraryModel" "saves" "[Z") ∈ TB := TB_m (tc_9 (List.mem_of_getElem? (i := 123) rfl)) rfl
theorem tw_2044 : (Cond.fieldLink "ProofLibraryModel" 100 "ProofLibraryModel" "stepPlace" "[I") ∈ TB := TB_m (tc_9 (List.mem_of_getElem? (i := 124) rfl)) rfl
theorem tw_2045 : (Cond.fieldLink "ProofLibraryModel" 533 "ProofLibraryModel" "stepCount" "I") ∈ TB := TB_m (tc_9 (List.mem_of_getElem? (i := 125) rfl)) rfl
theorem tw_2046 : (Cond.fieldLink "ProofLibraryModel" 104 "ProofLibraryModel" "rest" "[J") ∈ TB := TB_m (tc_9 (List.mem_of_getElem? (i := 126) rfl)) rfl
theorem tw_2047 : (Cond.fieldLink "ProofLibraryModel" 370 "ProofLibraryModel" "wff" "I") ∈ TB := TB_m (tc_9 (List.mem_of_getElem? (i := 127) rfl)) rfl
theorem tw_2048 : (Cond.fieldLink "ProofLibraryModel" 373 "ProofLibraryModel" "turnstile" "I") ∈ TB := TB_m (tc_9 (List.mem_of_getElem? (i := 128) rfl)) rfl
theorem tw_2049 : (Cond.fieldLink "ProofLibraryModel" 108 "ProofLibraryModel" "activeVariables" "[I") ∈ TB := TB_m (tc_9 (List.mem_of_getElem? (i := 129) rfl)) rfl
theorem tw_2050 : (Cond.fieldLink "ProofLibraryModel" 405 "ProofLibraryModel" "activeVariableCount" "I") ∈ TB := TB_m (tc_9 (List.mem_of_getElem? (i := 130) rfl)) rfl
theorem tw_2051 : (Cond.fieldLink "ProofLibraryModel" 111 "ProofLibraryModel" "activeHyps" "[I") ∈ TB := TB_m (tc_9 (List.mem_of_getElem? (i := 131) rfl)) rfl
theorem tw_2052 : (Cond.fieldLink "ProofLibraryModel" 408 "ProofLibraryModel" "activeHypCount" "I") ∈ TB := TB_m (tc_9 (List.mem_of_getElem? (i := 132) rfl)) rfl
theorem tw_2053 : (Cond.fieldLink "ProofLibraryModel" 114 "ProofLibraryModel" "apartA" "[I") ∈ TB := TB_m (tc_9 (List.mem_of_getElem? (i := 133) rfl)) rfl
theorem tw_2054 : (Cond.fieldLink "ProofLibraryModel" 117 "ProofLibraryModel" "apartB" "[I") ∈ TB := TB_m (tc_9 (List.mem_of_getElem? (i := 134) rfl)) rfl
theorem tw_2055 : (Cond.fieldLink "ProofLibraryModel" 411 "ProofLibraryModel" "apartCount" "I") ∈ TB := TB_m (tc_9 (List.mem_of_getElem? (i := 135) rfl)) rfl
theorem tw_2056 : (Cond.fieldLink "ProofLibraryModel" 120 "ProofLibraryModel" "apartBits" "[J") ∈ TB := TB_m (tc_9 (List.mem_of_getElem? (i := 136) rfl)) rfl
theorem tw_2057 : (Cond.fieldLink "ProofLibraryModel" 677 "ProofLibraryModel" "scopes" "I") ∈ TB := TB_m (tc_9 (List.mem_of_getElem? (i := 137) rfl)) rfl
theorem tw_2058 : (Cond.fieldLink "ProofLibraryModel" 123 "ProofLibraryModel" "scopeVariables" "[I") ∈ TB := TB_m (tc_9 (List.mem_of_getElem? (i := 138) rfl)) rfl
theorem tw_2059 : (Cond.fieldLink "ProofLibraryModel" 126 "ProofLibraryModel" "scopeHyps" "[I") ∈ TB := TB_m (tc_9 (List.mem_of_getElem? (i := 139) rfl)) rfl
theorem tw_2060 : (Cond.fieldLink "ProofLibraryModel" 129 "ProofLibraryModel" "scopeApart" "[I") ∈ TB := TB_m (tc_9 (List.mem_of_getElem? (i := 140) rfl)) rfl
theorem tw_2061 : (Cond.fieldLink "ProofLibraryModel" 427 "ProofLibraryModel" "at" "I") ∈ TB := TB_m (tc_9 (List.mem_of_getElem? (i := 141) rfl)) rfl
theorem tw_2062 : (Cond.fieldLink "ProofLibraryModel" 424 "ProofLibraryModel" "tokenAt" "I") ∈ TB := TB_m (tc_9 (List.mem_of_getElem? (i := 142) rfl)) rfl
theorem tw_2063 : (Cond.fieldLink "ProofLibraryModel" 421 "ProofLibraryModel" "tokenSize" "I") ∈ TB := TB_m (tc_9 (List.mem_of_getElem? (i := 143) rfl)) rfl
theorem tw_2064 : (Cond.fieldLink "ProofLibraryModel" 452 "ProofLibraryModel" "token" "I") ∈ TB := TB_m (tc_9 (List.mem_of_getElem? (i := 144) rfl)) rfl
theorem tw_2065 : (Cond.fieldLink "ProofLibraryModel" 418 "ProofLibraryModel" "fault" "I") ∈ TB := TB_m (tc_9 (List.mem_of_getElem? (i := 145) rfl)) rfl
theorem tw_2066 : (Cond.fieldLink "ProofLibraryModel" 366 "ProofLibraryModel" "placeIs" "I") ∈ TB := TB_m (tc_9 (List.mem_of_getElem? (i := 146) rfl)) rfl
theorem tw_2067 : (Cond.fieldLink "ProofLibraryModel" 132 "ProofLibraryModel" "distinct" "[I") ∈ TB := TB_m (tc_9 (List.mem_of_getElem? (i := 147) rfl)) rfl
theorem tw_2068 : (Cond.fieldLink "ProofLibraryModel" 518 "ProofLibraryModel" "now" "I") ∈ TB := TB_m (tc_9 (List.mem_of_getElem? (i := 148) rfl)) rfl
theorem tw_2069 : (Cond.fieldLink "ProofLibraryModel" 135 "ProofLibraryModel" "isMarked" "[Z") ∈ TB := TB_m (tc_9 (List.mem_of_getElem? (i := 149) rfl)) rfl
theorem tw_2070 : (Cond.fieldLink "ProofLibraryModel" 554 "ProofLibraryModel" "isOpen" "Z") ∈ TB := TB_m (tc_9 (List.mem_of_getElem? (i := 150) rfl)) rfl
theorem tw_2071 : (Cond.fieldLink "ProofLibraryModel" 609 "ProofLibraryModel" "lastPlace" "I") ∈ TB := TB_m (tc_9 (List.mem_of_getElem? (i := 151) rfl)) rfl
theorem tw_2072 : (Cond.fieldLink "ProofLibraryModel" 138 "ProofLibraryModel" "packedLabels" "[I") ∈ TB := TB_m (tc_9 (List.mem_of_getElem? (i := 152) rfl)) rfl
theorem tw_2073 : (Cond.fieldLink "ProofLibraryModel" 563 "ProofLibraryModel" "packedCount" "I") ∈ TB := TB_m (tc_9 (List.mem_of_getElem? (i := 153) rfl)) rfl
theorem tw_2074 : (Cond.fieldLink "ProofLibraryModel" 576 "ProofLibraryModel" "sum" "I") ∈ TB := TB_m (tc_9 (List.mem_of_getElem? (i := 154) rfl)) rfl
theorem tw_2075 : (Cond.fieldLink "ProofLibraryModel" 579 "ProofLibraryModel" "inNumber" "Z") ∈ TB := TB_m (tc_9 (List.mem_of_getElem? (i := 155) rfl)) rfl
theorem tw_2076 : (Cond.fieldLink "ProofLibraryModel" 573 "ProofLibraryModel" "maySave" "Z") ∈ TB := TB_m (tc_9 (List.mem_of_getElem? (i := 156) rfl)) rfl
theorem tw_2077 : (Cond.fieldLink "ProofLibraryModel" 570 "ProofLibraryModel" "savedCount" "I") ∈ TB := TB_m (tc_9 (List.mem_of_getElem? (i := 157) rfl)) rfl
theorem tw_2078 : (Cond.fieldLink "ProofLibraryModel" 141 "ProofLibraryModel" "pileAt" "[I") ∈ TB := TB_m (tc_9 (List.mem_of_getElem? (i := 158) rfl)) rfl
theorem tw_2079 : (Cond.fieldLink "ProofLibraryModel" 144 "ProofLibraryModel" "pileSize" "[I") ∈ TB := TB_m (tc_9 (List.mem_of_getElem? (i := 159) rfl)) rfl
theorem tw_2080 : (Cond.fieldLink "ProofLibraryModel" 147 "ProofLibraryModel" "pileRow" "[I") ∈ TB := TB_m (tc_9 (List.mem_of_getElem? (i := 160) rfl)) rfl
theorem tw_2081 : (Cond.fieldLink "ProofLibraryModel" 621 "ProofLibraryModel" "piled" "I") ∈ TB := TB_m (tc_9 (List.mem_of_getElem? (i := 161) rfl)) rfl
theorem tw_2082 : (Cond.fieldLink "ProofLibraryModel" 151 "ProofLibraryModel" "pileSymbols" "[I") ∈ TB := TB_m (tc_9 (List.mem_of_getElem? (i := 162) rfl)) rfl
theorem tw_2083 : (Cond.fieldLink "ProofLibraryModel" 624 "ProofLibraryModel" "pileTop" "I") ∈ TB := TB_m (tc_9 (List.mem_of_getElem? (i := 163) rfl)) rfl
theorem tw_2084 : (Cond.fieldLink "ProofLibraryModel" 154 "ProofLibraryModel" "savedAt" "[I") ∈ TB := TB_m (tc_9 (List.mem_of_getElem? (i := 164) rfl)) rfl
theorem tw_2085 : (Cond.fieldLink "ProofLibraryModel" 157 "ProofLibraryModel" "savedSize" "[I") ∈ TB := TB_m (tc_9 (List.mem_of_getElem? (i := 165) rfl)) rfl
theorem tw_2086 : (Cond.fieldLink "ProofLibraryModel" 160 "ProofLibraryModel" "savedRow" "[I") ∈ TB := TB_m (tc_9 (List.mem_of_getElem? (i := 166) rfl)) rfl
theorem tw_2087 : (Cond.fieldLink "ProofLibraryModel" 650 "ProofLibraryModel" "savedRows" "I") ∈ TB := TB_m (tc_9 (List.mem_of_getElem? (i := 167) rfl)) rfl
theorem tw_2088 : (Cond.fieldLink "ProofLibraryModel" 163 "ProofLibraryModel" "savedSymbols" "[I") ∈ TB := TB_m (tc_9 (List.mem_of_getElem? (i := 168) rfl)) rfl
theorem tw_2089 : (Cond.fieldLink "ProofLibraryModel" 627 "ProofLibraryModel" "savedTop" "I") ∈ TB := TB_m (tc_9 (List.mem_of_getElem? (i := 169) rfl)) rfl
theorem tw_2090 : (Cond.fieldLink "ProofLibraryModel" 166 "ProofLibraryModel" "becomesAt" "[I") ∈ TB := TB_m (tc_9 (List.mem_of_getElem? (i := 170) rfl)) rfl
theorem tw_2091 : (Cond.fieldLink "ProofLibraryModel" 169 "ProofLibraryModel" "becomesSize" "[I") ∈ TB := TB_m (tc_9 (List.mem_of_getElem? (i := 171) rfl)) rfl
theorem tw_2092 : (Cond.fieldLink "ProofLibraryModel" 172 "ProofLibraryModel" "madeRow" "[I") ∈ TB := TB_m (tc_9 (List.mem_of_getElem? (i := 172) rfl)) rfl
theorem tw_2093 : (Cond.fieldLink "ProofLibraryModel" 634 "ProofLibraryModel" "made" "I") ∈ TB := TB_m (tc_9 (List.mem_of_getElem? (i := 173) rfl)) rfl
theorem tw_2094 : (Cond.fieldLink "ProofLibraryModel" 618 "ProofLibraryModel" "stepFault" "I") ∈ TB := TB_m (tc_9 (List.mem_of_getElem? (i := 174) rfl)) rfl
theorem tw_2095 : (Cond.fieldLink "ProofLibraryModel" 175 "ProofLibraryModel" "wasVariable" "[Z") ∈ TB := TB_m (tc_9 (List.mem_of_getElem? (i := 175) rfl)) rfl
theorem tw_2096 : (Cond.fieldLink "ProofLibraryModel" 178 "ProofLibraryModel" "wasActive" "[Z") ∈ TB := TB_m (tc_9 (List.mem_of_getElem? (i := 176) rfl)) rfl
theorem tw_2097 : (Cond.fieldLink "ProofLibraryModel" 181 "ProofLibraryModel" "wasBegin" "[Z") ∈ TB := TB_m (tc_9 (List.mem_of_getElem? (i := 177) rfl)) rfl
theorem tw_2098 : (Cond.fieldLink "ProofLibraryModel" 184 "ProofLibraryModel" "wasType" "[I") ∈ TB := TB_m (tc_9 (List.mem_of_getElem? (i := 178) rfl)) rfl
theorem tw_2099 : (Cond.fieldLink "ProofLibraryModel" 187 "ProofLibraryModel" "wasFloat" "[I") ∈ TB := TB_m (tc_9 (List.mem_of_getElem? (i := 179) rfl)) rfl
theorem tw_2100 : (Cond.fieldLink "ProofLibraryModel" 190 "ProofLibraryModel" "rowOf" "[I") ∈ TB := TB_m (tc_9 (List.mem_of_getElem? (i := 180) rfl)) rfl
theorem tw_2101 : (Cond.fieldLink "ProofLibraryModel" 193 "ProofLibraryModel" "rowFromAt" "[I") ∈ TB := TB_m (tc_9 (List.mem_of_getElem? (i := 181) rfl)) rfl
theorem tw_2102 : (Cond.fieldLink "ProofLibraryModel" 197 "ProofLibraryModel" "rowFroms" "[I") ∈ TB := TB_m (tc_9 (List.mem_of_getElem? (i := 182) rfl)) rfl
theorem tw_2103 : (Cond.fieldLink "ProofLibraryModel" 730 "ProofLibraryModel" "rowCount" "I") ∈ TB := TB_m (tc_9 (List.mem_of_getElem? (i := 183) rfl)) rfl
theorem tw_2104 : (Cond.fieldLink "ProofLibraryModel" 733 "ProofLibraryModel" "rowFromCount" "I") ∈ TB := TB_m (tc_9 (List.mem_of_getElem? (i := 184) rfl)) rfl
theorem tw_2105 : (Cond.fieldLink "ProofLibraryModel" 727 "ProofLibraryModel" "rowsOf" "I") ∈ TB := TB_m (tc_9 (List.mem_of_getElem? (i := 185) rfl)) rfl
theorem tw_2106 : (Cond.fieldLink "ProofLibraryModel" 200 "ProofLibraryModel" "sizes" "[J") ∈ TB := TB_m (tc_9 (List.mem_of_getElem? (i := 186) rfl)) rfl
theorem tw_2107 : (Cond.fieldLink "ProofLibraryModel" 203 "ProofLibraryModel" "draft" "[I") ∈ TB := TB_m (tc_9 (List.mem_of_getElem? (i := 187) rfl)) rfl
theorem tw_2108 : (Cond.fieldLink "ProofLibraryModel" 760 "ProofLibraryModel" "draftSize" "I") ∈ TB := TB_m (tc_9 (List.mem_of_getElem? (i := 188) rfl)) rfl
theorem tw_2109 : (Cond.fieldLink "ProofLibraryModel" 206 "ProofLibraryModel" "printed" "[I") ∈ TB := TB_m (tc_9 (List.mem_of_getElem? (i := 189) rfl)) rfl
theorem tw_2110 : (Cond.fieldLink "ProofLibraryModel" 772 "ProofLibraryModel" "printedSize" "I") ∈ TB := TB_m (tc_9 (List.mem_of_getElem? (i := 190) rfl)) rfl
theorem tw_2111 : (Cond.fieldLink "ProofLibraryModel" 209 "ProofLibraryModel" "sameAs" "[I") ∈ TB := TB_m (tc_9 (List.mem_of_getElem? (i := 191) rfl)) rfl
theorem tw_2112 : (Cond.fieldLink "ProofLibraryModel" 212 "ProofLibraryModel" "uses" "[I") ∈ TB := TB_m (tc_9 (List.mem_of_getElem? (i := 192) rfl)) rfl
theorem tw_2113 : (Cond.fieldLink "ProofLibraryModel" 215 "ProofLibraryModel" "numberOf" "[I") ∈ TB := TB_m (tc_9 (List.mem_of_getElem? (i := 193) rfl)) rfl
theorem tw_2114 : (Cond.fieldLink "ProofLibraryModel" 218 "ProofLibraryModel" "order" "[I") ∈ TB := TB_m (tc_9 (List.mem_of_getElem? (i := 194) rfl)) rfl
theorem tw_2115 : (Cond.fieldLink "ProofLibraryModel" 222 "ProofLibraryModel" "walk" "[I") ∈ TB := TB_m (tc_9 (List.mem_of_getElem? (i := 195) rfl)) rfl
theorem tw_2116 : (Cond.fieldLink "ProofLibraryModel" 225 "ProofLibraryModel" "walkKid" "[I") ∈ TB := TB_m (tc_9 (List.mem_of_getElem? (i := 196) rfl)) rfl
theorem tw_2117 : (Cond.fieldLink "ProofLibraryModel" 785 "ProofLibraryModel" "walked" "I") ∈ TB := TB_m (tc_9 (List.mem_of_getElem? (i := 197) rfl)) rfl
theorem tw_2118 : (Cond.fieldLink "ProofLibraryModel" 228 "ProofLibraryModel" "newLabels" "[I") ∈ TB := TB_m (tc_9 (List.mem_of_getElem? (i := 198) rfl)) rfl
theorem tw_2119 : (Cond.fieldLink "ProofLibraryModel" 231 "ProofLibraryModel" "labelNumber" "[I") ∈ TB := TB_m (tc_9 (List.mem_of_getElem? (i := 199) rfl)) rfl
theorem tw_2120 : (Cond.fieldLink "ProofLibraryModel" 800 "ProofLibraryModel" "newLabelCount" "I") ∈ TB := TB_m (tc_9 (List.mem_of_getElem? (i := 200) rfl)) rfl
theorem tw_2121 : (Cond.fieldLink "ProofLibraryModel" 235 "ProofLibraryModel" "sameTable" "[I") ∈ TB := TB_m (tc_9 (List.mem_of_getElem? (i := 201) rfl)) rfl
theorem tw_2122 : (Cond.fieldLink "ProofLibraryModel" 238 "ProofLibraryModel" "told" "[I") ∈ TB := TB_m (tc_9 (List.mem_of_getElem? (i := 202) rfl)) rfl
theorem tw_2123 : (Cond.fieldLink "ProofLibraryModel" 788 "ProofLibraryModel" "tolds" "I") ∈ TB := TB_m (tc_9 (List.mem_of_getElem? (i := 203) rfl)) rfl
theorem tw_2124 : (Cond.fieldLink "ProofLibraryModel" 241 "ProofLibraryModel" "sortOf" "[I") ∈ TB := TB_m (tc_9 (List.mem_of_getElem? (i := 204) rfl)) rfl
theorem tw_2125 : (Cond.fieldLink "ProofLibraryModel" 244 "ProofLibraryModel" "stretch" "[I") ∈ TB := TB_m (tc_9 (List.mem_of_getElem? (i := 205) rfl)) rfl
theorem tw_2126 : (Cond.fieldLink "ProofLibraryModel" 867 "ProofLibraryModel" "rowSize" "I") ∈ TB := TB_m (tc_9 (List.mem_of_getElem? (i := 206) rfl)) rfl
theorem tw_2127 : (Cond.fieldLink "ProofLibraryModel" 247 "ProofLibraryModel" "leafSort" "[I") ∈ TB := TB_m (tc_9 (List.mem_of_getElem? (i := 207) rfl)) rfl
theorem tw_2128 : (Cond.fieldLink "ProofLibraryModel" 250 "ProofLibraryModel" "leafIs" "[I") ∈ TB := TB_m (tc_9 (List.mem_of_getElem? (i := 208) rfl)) rfl
theorem tw_2129 : (Cond.fieldLink "ProofLibraryModel" 254 "ProofLibraryModel" "ways" "[I") ∈ TB := TB_m (tc_9 (List.mem_of_getElem? (i := 209) rfl)) rfl
theorem tw_2130 : (Cond.fieldLink "ProofLibraryModel" 814 "ProofLibraryModel" "sorts" "I") ∈ TB := TB_m (tc_9 (List.mem_of_getElem? (i := 210) rfl)) rfl
theorem tw_2131 : (Cond.fieldLink "ProofLibraryModel" 257 "ProofLibraryModel" "madeBy" "[I") ∈ TB := TB_m (tc_9 (List.mem_of_getElem? (i := 211) rfl)) rfl
theorem tw_2132 : (Cond.fieldLink "ProofLibraryModel" 260 "ProofLibraryModel" "startsOne" "[J") ∈ TB := TB_m (tc_9 (List.mem_of_getElem? (i := 212) rfl)) rfl
theorem tw_2133 : (Cond.fieldLink "ProofLibraryModel" 263 "ProofLibraryModel" "startsTwo" "[J") ∈ TB := TB_m (tc_9 (List.mem_of_getElem? (i := 213) rfl)) rfl
theorem tw_2134 : (Cond.fieldLink "ProofLibraryModel" 266 "ProofLibraryModel" "ruleStep" "[I") ∈ TB := TB_m (tc_9 (List.mem_of_getElem? (i := 214) rfl)) rfl
theorem tw_2135 : (Cond.fieldLink "ProofLibraryModel" 269 "ProofLibraryModel" "ruleUp" "[I") ∈ TB := TB_m (tc_9 (List.mem_of_getElem? (i := 215) rfl)) rfl
theorem tw_2136 : (Cond.fieldLink "ProofLibraryModel" 272 "ProofLibraryModel" "ruleKid" "[I") ∈ TB := TB_m (tc_9 (List.mem_of_getElem? (i := 216) rfl)) rfl
theorem tw_2137 : (Cond.fieldLink "ProofLibraryModel" 275 "ProofLibraryModel" "ruleNext" "[I") ∈ TB := TB_m (tc_9 (List.mem_of_getElem? (i := 217) rfl)) rfl
theorem tw_2138 : (Cond.fieldLink "ProofLibraryModel" 278 "ProofLibraryModel" "ruleFirst" "[I") ∈ TB := TB_m (tc_9 (List.mem_of_getElem? (i := 218) rfl)) rfl
theorem tw_2139 : (Cond.fieldLink "ProofLibraryModel" 281 "ProofLibraryModel" "ruleOther" "[I") ∈ TB := TB_m (tc_9 (List.mem_of_getElem? (i := 219) rfl)) rfl
theorem tw_2140 : (Cond.fieldLink "ProofLibraryModel" 284 "ProofLibraryModel" "ruleLeast" "[I") ∈ TB := TB_m (tc_9 (List.mem_of_getElem? (i := 220) rfl)) rfl
theorem tw_2141 : (Cond.fieldLink "ProofLibraryModel" 287 "ProofLibraryModel" "frontOne" "[J") ∈ TB := TB_m (tc_9 (List.mem_of_getElem? (i := 221) rfl)) rfl
theorem tw_2142 : (Cond.fieldLink "ProofLibraryModel" 290 "ProofLibraryModel" "frontTwo" "[J") ∈ TB := TB_m (tc_9 (List.mem_of_getElem? (i := 222) rfl)) rfl
theorem tw_2143 : (Cond.fieldLink "ProofLibraryModel" 824 "ProofLibraryModel" "ruleNodes" "I") ∈ TB := TB_m (tc_9 (List.mem_of_getElem? (i := 223) rfl)) rfl
theorem tw_2144 : (Cond.fieldLink "ProofLibraryModel" 293 "ProofLibraryModel" "units" "[I") ∈ TB := TB_m (tc_9 (List.mem_of_getElem? (i := 224) rfl)) rfl
theorem tw_2145 : (Cond.fieldLink "ProofLibraryModel" 834 "ProofLibraryModel" "unitCount" "I") ∈ TB := TB_m (tc_9 (List.mem_of_getElem? (i := 225) rfl)) rfl
theorem tw_2146 : (Cond.fieldLink "ProofLibraryModel" 846 "ProofLibraryModel" "isTreed" "Z") ∈ TB := TB_m (tc_9 (List.mem_of_getElem? (i := 226) rfl)) rfl
theorem tw_2147 : (Cond.fieldLink "ProofLibraryModel" 861 "ProofLibraryModel" "rowLimit" "I") ∈ TB := TB_m (tc_9 (List.mem_of_getElem? (i := 227) rfl)) rfl
theorem tw_2148 : (Cond.fieldLink "ProofLibraryModel" 296 "ProofLibraryModel" "front" "[I") ∈ TB := TB_m (tc_9 (List.mem_of_getElem? (i := 228) rfl)) rfl
theorem tw_2149 : (Cond.fieldLink "ProofLibraryModel" 299 "ProofLibraryModel" "nodeIs" "[I") ∈ TB := TB_m (tc_9 (List.mem_of_getElem? (i := 229) rfl)) rfl
theorem tw_2150 : (Cond.fieldLink "ProofLibraryModel" 302 "ProofLibraryModel" "nodeKids" "[I") ∈ TB := TB_m (tc_9 (List.mem_of_getElem? (i := 230) rfl)) rfl
theorem tw_2151 : (Cond.fieldLink "ProofLibraryModel" 305 "ProofLibraryModel" "nodeFrom" "[I") ∈ TB := TB_m (tc_9 (List.mem_of_getElem? (i := 231) rfl)) rfl
theorem tw_2152 : (Cond.fieldLink "ProofLibraryModel" 308 "ProofLibraryModel" "nodeTo" "[I") ∈ TB := TB_m (tc_9 (List.mem_of_getElem? (i := 232) rfl)) rfl
theorem tw_2153 : (Cond.fieldLink "ProofLibraryModel" 311 "ProofLibraryModel" "nodeSort" "[I") ∈ TB := TB_m (tc_9 (List.mem_of_getElem? (i := 233) rfl)) rfl
theorem tw_2154 : (Cond.fieldLink "ProofLibraryModel" 314 "ProofLibraryModel" "kids" "[I") ∈ TB := TB_m (tc_9 (List.mem_of_getElem? (i := 234) rfl)) rfl
theorem tw_2155 : (Cond.fieldLink "ProofLibraryModel" 876 "ProofLibraryModel" "nodes" "I") ∈ TB := TB_m (tc_9 (List.mem_of_getElem? (i := 235) rfl)) rfl
theorem tw_2156 : (Cond.fieldLink "ProofLibraryModel" 879 "ProofLibraryModel" "kidCount" "I") ∈ TB := TB_m (tc_9 (List.mem_of_getElem? (i := 236) rfl)) rfl
theorem tw_2157 : (Cond.fieldLink "ProofLibraryModel" 317 "ProofLibraryModel" "base" "[I") ∈ TB := TB_m (tc_9 (List.mem_of_getElem? (i := 237) rfl)) rfl
theorem tw_2158 : (Cond.fieldLink "ProofLibraryModel" 320 "ProofLibraryModel" "grown" "[I") ∈ TB := TB_m (tc_9 (List.mem_of_getElem? (i := 238) rfl)) rfl
theorem tw_2159 : (Cond.fieldLink "ProofLibraryModel" 323 "ProofLibraryModel" "treeCount" "[I") ∈ TB := TB_m (tc_9 (List.mem_of_getElem? (i := 239) rfl)) rfl
theorem tw_2160 : (Cond.fieldLink "ProofLibraryModel" 326 "ProofLibraryModel" "rulesIn" "[J") ∈ TB := TB_m (tc_10 (List.mem_of_getElem? (i := 0) rfl)) rfl
theorem tw_2161 : (Cond.fieldLink "ProofLibraryModel" 329 "ProofLibraryModel" "definitions" "[I") ∈ TB := TB_m (tc_10 (List.mem_of_getElem? (i := 1) rfl)) rfl
theorem tw_2162 : (Cond.fieldLink "ProofLibraryModel" 332 "ProofLibraryModel" "isEquality" "[Z") ∈ TB := TB_m (tc_10 (List.mem_of_getElem? (i := 2) rfl)) rfl
theorem tw_2163 : (Cond.fieldLink "ProofLibraryModel" 335 "ProofLibraryModel" "definer" "[I") ∈ TB := TB_m (tc_10 (List.mem_of_getElem? (i := 3) rfl)) rfl
theorem tw_2164 : (Cond.fieldLink "ProofLibraryModel" 338 "ProofLibraryModel" "isNeeded" "[Z") ∈ TB := TB_m (tc_10 (List.mem_of_getElem? (i := 4) rfl)) rfl
theorem tw_2165 : (Cond.fieldLink "ProofLibraryModel" 341 "ProofLibraryModel" "bareAt" "[I") ∈ TB := TB_m (tc_10 (List.mem_of_getElem? (i := 5) rfl)) rfl
theorem tw_2166 : (Cond.fieldLink "ProofLibraryModel" 344 "ProofLibraryModel" "bareMany" "[I") ∈ TB := TB_m (tc_10 (List.mem_of_getElem? (i := 6) rfl)) rfl
theorem tw_2167 : (Cond.fieldLink "ProofLibraryModel" 348 "ProofLibraryModel" "bare" "[I") ∈ TB := TB_m (tc_10 (List.mem_of_getElem? (i := 7) rfl)) rfl
theorem tw_2168 : (Cond.fieldLink "ProofLibraryModel" 952 "ProofLibraryModel" "bareSize" "I") ∈ TB := TB_m (tc_10 (List.mem_of_getElem? (i := 8) rfl)) rfl
theorem tw_2169 : (Cond.fieldLink "ProofLibraryModel" 351 "ProofLibraryModel" "tasks" "[I") ∈ TB := TB_m (tc_10 (List.mem_of_getElem? (i := 9) rfl)) rfl
theorem tw_2170 : (Cond.fieldLink "ProofLibraryModel" 946 "ProofLibraryModel" "taskMany" "I") ∈ TB := TB_m (tc_10 (List.mem_of_getElem? (i := 10) rfl)) rfl
theorem tw_2171 : (Cond.fieldLink "ProofLibraryModel" 354 "ProofLibraryModel" "given" "[I") ∈ TB := TB_m (tc_10 (List.mem_of_getElem? (i := 11) rfl)) rfl
theorem tw_2172 : (Cond.fieldLink "ProofLibraryModel" 357 "ProofLibraryModel" "boundFrom" "[I") ∈ TB := TB_m (tc_10 (List.mem_of_getElem? (i := 12) rfl)) rfl
theorem tw_2173 : (Cond.fieldLink "ProofLibraryModel" 360 "ProofLibraryModel" "boundTo" "[I") ∈ TB := TB_m (tc_10 (List.mem_of_getElem? (i := 13) rfl)) rfl
theorem tw_2174 : (Cond.fieldLink "ProofLibraryModel" 363 "ProofLibraryModel" "otherWalk" "[I") ∈ TB := TB_m (tc_10 (List.mem_of_getElem? (i := 14) rfl)) rfl
theorem tw_2175 : (Cond.laysFinal "ProofLibraryModel" "ProofLibraryModel" "tape" "[I") ∈ TB := TB_m (tc_10 (List.mem_of_getElem? (i := 15) rfl)) rfl
theorem tw_2177 : (Cond.lays "ProofLibraryModel" "ProofLibraryModel" "tapeSize" "I") ∈ TB := TB_m (tc_10 (List.mem_of_getElem? (i := 17) rfl)) rfl
theorem tw_2179 : (Cond.lays "ProofLibraryModel" "ProofLibraryModel" "isFed" "Z") ∈ TB := TB_m (tc_10 (List.mem_of_getElem? (i := 19) rfl)) rfl
theorem tw_2181 : (Cond.laysFinal "ProofLibraryModel" "ProofLibraryModel" "chars" "[I") ∈ TB := TB_m (tc_10 (List.mem_of_getElem? (i := 21) rfl)) rfl
theorem tw_2183 : (Cond.lays "ProofLibraryModel" "ProofLibraryModel" "charCount" "I") ∈ TB := TB_m (tc_10 (List.mem_of_getElem? (i := 23) rfl)) rfl
theorem tw_2185 : (Cond.laysFinal "ProofLibraryModel" "ProofLibraryModel" "symbolAt" "[I") ∈ TB := TB_m (tc_10 (List.mem_of_getElem? (i := 25) rfl)) rfl
theorem tw_2187 : (Cond.laysFinal "ProofLibraryModel" "ProofLibraryModel" "symbolSize" "[I") ∈ TB := TB_m (tc_10 (List.mem_of_getElem? (i := 27) rfl)) rfl
theorem tw_2189 : (Cond.lays "ProofLibraryModel" "ProofLibraryModel" "symbols" "I") ∈ TB := TB_m (tc_10 (List.mem_of_getElem? (i := 29) rfl)) rfl
theorem tw_2191 : (Cond.laysFinal "ProofLibraryModel" "ProofLibraryModel" "labelAt" "[I") ∈ TB := TB_m (tc_10 (List.mem_of_getElem? (i := 31) rfl)) rfl
theorem tw_2193 : (Cond.laysFinal "ProofLibraryModel" "ProofLibraryModel" "labelSize" "[I") ∈ TB := TB_m (tc_10 (List.mem_of_getElem? (i := 33) rfl)) rfl
theorem tw_2195 : (Cond.laysFinal "ProofLibraryModel" "ProofLibraryModel" "symbolTable" "[I") ∈ TB := TB_m (tc_10 (List.mem_of_getElem? (i := 35) rfl)) rfl
theorem tw_2197 : (Cond.laysFinal "ProofLibraryModel" "ProofLibraryModel" "labelTable" "[I") ∈ TB := TB_m (tc_10 (List.mem_of_getElem? (i := 37) rfl)) rfl
theorem tw_2199 : (Cond.laysFinal "ProofLibraryModel" "ProofLibraryModel" "isVariable" "[Z") ∈ TB := TB_m (tc_10 (List.mem_of_getElem? (i := 39) rfl)) rfl
theorem tw_2201 : (Cond.laysFinal "ProofLibraryModel" "ProofLibraryModel" "isActive" "[Z") ∈ TB := TB_m (tc_10 (List.mem_of_getElem? (i := 41) rfl)) rfl
theorem tw_2203 : (Cond.laysFinal "ProofLibraryModel" "ProofLibraryModel" "typeOf" "[I") ∈ TB := TB_m (tc_10 (List.mem_of_getElem? (i := 43) rfl)) rfl
theorem tw_2205 : (Cond.laysFinal "ProofLibraryModel" "ProofLibraryModel" "floatOf" "[I") ∈ TB := TB_m (tc_10 (List.mem_of_getElem? (i := 45) rfl)) rfl
theorem tw_2207 : (Cond.laysFinal "ProofLibraryModel" "ProofLibraryModel" "begins" "[Z") ∈ TB := TB_m (tc_10 (List.mem_of_getElem? (i := 47) rfl)) rfl
theorem tw_2209 : (Cond.lays "ProofLibraryModel" "ProofLibraryModel" "beginnings" "I") ∈ TB := TB_m (tc_10 (List.mem_of_getElem? (i := 49) rfl)) rfl
theorem tw_2211 : (Cond.lays "ProofLibraryModel" "ProofLibraryModel" "statements" "I") ∈ TB := TB_m (tc_10 (List.mem_of_getElem? (i := 51) rfl)) rfl
theorem tw_2213 : (Cond.laysFinal "ProofLibraryModel" "ProofLibraryModel" "kindOf" "[I") ∈ TB := TB_m (tc_10 (List.mem_of_getElem? (i := 53) rfl)) rfl
theorem tw_2215 : (Cond.laysFinal "ProofLibraryModel" "ProofLibraryModel" "textAt" "[I") ∈ TB := TB_m (tc_10 (List.mem_of_getElem? (i := 55) rfl)) rfl
theorem tw_2217 : (Cond.laysFinal "ProofLibraryModel" "ProofLibraryModel" "textSize" "[I") ∈ TB := TB_m (tc_10 (List.mem_of_getElem? (i := 57) rfl)) rfl
theorem tw_2219 : (Cond.laysFinal "ProofLibraryModel" "ProofLibraryModel" "texts" "[I") ∈ TB := TB_m (tc_10 (List.mem_of_getElem? (i := 59) rfl)) rfl
theorem tw_2221 : (Cond.laysFinal "ProofLibraryModel" "ProofLibraryModel" "floats" "[I") ∈ TB := TB_m (tc_10 (List.mem_of_getElem? (i := 61) rfl)) rfl
theorem tw_2223 : (Cond.lays "ProofLibraryModel" "ProofLibraryModel" "textCount" "I") ∈ TB := TB_m (tc_10 (List.mem_of_getElem? (i := 63) rfl)) rfl
theorem tw_2225 : (Cond.laysFinal "ProofLibraryModel" "ProofLibraryModel" "hypAt" "[I") ∈ TB := TB_m (tc_10 (List.mem_of_getElem? (i := 65) rfl)) rfl
theorem tw_2227 : (Cond.laysFinal "ProofLibraryModel" "ProofLibraryModel" "hypSize" "[I") ∈ TB := TB_m (tc_10 (List.mem_of_getElem? (i := 67) rfl)) rfl
theorem tw_2229 : (Cond.laysFinal "ProofLibraryModel" "ProofLibraryModel" "hyps" "[I") ∈ TB := TB_m (tc_10 (List.mem_of_getElem? (i := 69) rfl)) rfl
theorem tw_2231 : (Cond.lays "ProofLibraryModel" "ProofLibraryModel" "hypCount" "I") ∈ TB := TB_m (tc_10 (List.mem_of_getElem? (i := 71) rfl)) rfl
theorem tw_2233 : (Cond.laysFinal "ProofLibraryModel" "ProofLibraryModel" "pairAt" "[I") ∈ TB := TB_m (tc_10 (List.mem_of_getElem? (i := 73) rfl)) rfl
theorem tw_2235 : (Cond.laysFinal "ProofLibraryModel" "ProofLibraryModel" "pairSize" "[I") ∈ TB := TB_m (tc_10 (List.mem_of_getElem? (i := 75) rfl)) rfl
theorem tw_2237 : (Cond.laysFinal "ProofLibraryModel" "ProofLibraryModel" "pairA" "[I") ∈ TB := TB_m (tc_10 (List.mem_of_getElem? (i := 77) rfl)) rfl
theorem tw_2239 : (Cond.laysFinal "ProofLibraryModel" "ProofLibraryModel" "pairB" "[I") ∈ TB := TB_m (tc_10 (List.mem_of_getElem? (i := 79) rfl)) rfl
theorem tw_2241 : (Cond.lays "ProofLibraryModel" "ProofLibraryModel" "pairCount" "I") ∈ TB := TB_m (tc_10 (List.mem_of_getElem? (i := 81) rfl)) rfl
theorem tw_2243 : (Cond.laysFinal "ProofLibraryModel" "ProofLibraryModel" "stepAt" "[I") ∈ TB := TB_m (tc_10 (List.mem_of_getElem? (i := 83) rfl)) rfl
theorem tw_2245 : (Cond.laysFinal "ProofLibraryModel" "ProofLibraryModel" "stepSize" "[I") ∈ TB := TB_m (tc_10 (List.mem_of_getElem? (i := 85) rfl)) rfl
theorem tw_2247 : (Cond.laysFinal "ProofLibraryModel" "ProofLibraryModel" "steps" "[I") ∈ TB := TB_m (tc_10 (List.mem_of_getElem? (i := 87) rfl)) rfl
theorem tw_2249 : (Cond.laysFinal "ProofLibraryModel" "ProofLibraryModel" "saves" "[Z") ∈ TB := TB_m (tc_10 (List.mem_of_getElem? (i := 89) rfl)) rfl
theorem tw_2251 : (Cond.laysFinal "ProofLibraryModel" "ProofLibraryModel" "stepPlace" "[I") ∈ TB := TB_m (tc_10 (List.mem_of_getElem? (i := 91) rfl)) rfl
theorem tw_2253 : (Cond.lays "ProofLibraryModel" "ProofLibraryModel" "stepCount" "I") ∈ TB := TB_m (tc_10 (List.mem_of_getElem? (i := 93) rfl)) rfl
theorem tw_2255 : (Cond.laysFinal "ProofLibraryModel" "ProofLibraryModel" "rest" "[J") ∈ TB := TB_m (tc_10 (List.mem_of_getElem? (i := 95) rfl)) rfl
theorem tw_2257 : (Cond.lays "ProofLibraryModel" "ProofLibraryModel" "wff" "I") ∈ TB := TB_m (tc_10 (List.mem_of_getElem? (i := 97) rfl)) rfl
theorem tw_2259 : (Cond.lays "ProofLibraryModel" "ProofLibraryModel" "turnstile" "I") ∈ TB := TB_m (tc_10 (List.mem_of_getElem? (i := 99) rfl)) rfl
theorem tw_2261 : (Cond.laysFinal "ProofLibraryModel" "ProofLibraryModel" "activeVariables" "[I") ∈ TB := TB_m (tc_10 (List.mem_of_getElem? (i := 101) rfl)) rfl
theorem tw_2263 : (Cond.lays "ProofLibraryModel" "ProofLibraryModel" "activeVariableCount" "I") ∈ TB := TB_m (tc_10 (List.mem_of_getElem? (i := 103) rfl)) rfl
theorem tw_2265 : (Cond.laysFinal "ProofLibraryModel" "ProofLibraryModel" "activeHyps" "[I") ∈ TB := TB_m (tc_10 (List.mem_of_getElem? (i := 105) rfl)) rfl
theorem tw_2267 : (Cond.lays "ProofLibraryModel" "ProofLibraryModel" "activeHypCount" "I") ∈ TB := TB_m (tc_10 (List.mem_of_getElem? (i := 107) rfl)) rfl
theorem tw_2269 : (Cond.laysFinal "ProofLibraryModel" "ProofLibraryModel" "apartA" "[I") ∈ TB := TB_m (tc_10 (List.mem_of_getElem? (i := 109) rfl)) rfl
theorem tw_2271 : (Cond.laysFinal "ProofLibraryModel" "ProofLibraryModel" "apartB" "[I") ∈ TB := TB_m (tc_10 (List.mem_of_getElem? (i := 111) rfl)) rfl
theorem tw_2273 : (Cond.lays "ProofLibraryModel" "ProofLibraryModel" "apartCount" "I") ∈ TB := TB_m (tc_10 (List.mem_of_getElem? (i := 113) rfl)) rfl
theorem tw_2275 : (Cond.laysFinal "ProofLibraryModel" "ProofLibraryModel" "apartBits" "[J") ∈ TB := TB_m (tc_10 (List.mem_of_getElem? (i := 115) rfl)) rfl
theorem tw_2277 : (Cond.lays "ProofLibraryModel" "ProofLibraryModel" "scopes" "I") ∈ TB := TB_m (tc_10 (List.mem_of_getElem? (i := 117) rfl)) rfl
theorem tw_2279 : (Cond.laysFinal "ProofLibraryModel" "ProofLibraryModel" "scopeVariables" "[I") ∈ TB := TB_m (tc_10 (List.mem_of_getElem? (i := 119) rfl)) rfl
theorem tw_2281 : (Cond.laysFinal "ProofLibraryModel" "ProofLibraryModel" "scopeHyps" "[I") ∈ TB := TB_m (tc_10 (List.mem_of_getElem? (i := 121) rfl)) rfl
theorem tw_2283 : (Cond.laysFinal "ProofLibraryModel" "ProofLibraryModel" "scopeApart" "[I") ∈ TB := TB_m (tc_10 (List.mem_of_getElem? (i := 123) rfl)) rfl
theorem tw_2285 : (Cond.lays "ProofLibraryModel" "ProofLibraryModel" "at" "I") ∈ TB := TB_m (tc_10 (List.mem_of_getElem? (i := 125) rfl)) rfl
theorem tw_2287 : (Cond.lays "ProofLibraryModel" "ProofLibraryModel" "tokenAt" "I") ∈ TB := TB_m (tc_10 (List.mem_of_getElem? (i := 127) rfl)) rfl
theorem tw_2289 : (Cond.lays "ProofLibraryModel" "ProofLibraryModel" "tokenSize" "I") ∈ TB := TB_m (tc_10 (List.mem_of_getElem? (i := 129) rfl)) rfl
theorem tw_2291 : (Cond.lays "ProofLibraryModel" "ProofLibraryModel" "token" "I") ∈ TB := TB_m (tc_10 (List.mem_of_getElem? (i := 131) rfl)) rfl
theorem tw_2293 : (Cond.lays "ProofLibraryModel" "ProofLibraryModel" "fault" "I") ∈ TB := TB_m (tc_10 (List.mem_of_getElem? (i := 133) rfl)) rfl
theorem tw_2295 : (Cond.lays "ProofLibraryModel" "ProofLibraryModel" "placeIs" "I") ∈ TB := TB_m (tc_10 (List.mem_of_getElem? (i := 135) rfl)) rfl
theorem tw_2297 : (Cond.laysFinal "ProofLibraryModel" "ProofLibraryModel" "distinct" "[I") ∈ TB := TB_m (tc_10 (List.mem_of_getElem? (i := 137) rfl)) rfl
theorem tw_2299 : (Cond.lays "ProofLibraryModel" "ProofLibraryModel" "now" "I") ∈ TB := TB_m (tc_10 (List.mem_of_getElem? (i := 139) rfl)) rfl
theorem tw_2301 : (Cond.laysFinal "ProofLibraryModel" "ProofLibraryModel" "isMarked" "[Z") ∈ TB := TB_m (tc_10 (List.mem_of_getElem? (i := 141) rfl)) rfl
theorem tw_2303 : (Cond.lays "ProofLibraryModel" "ProofLibraryModel" "isOpen" "Z") ∈ TB := TB_m (tc_10 (List.mem_of_getElem? (i := 143) rfl)) rfl
theorem tw_2305 : (Cond.lays "ProofLibraryModel" "ProofLibraryModel" "lastPlace" "I") ∈ TB := TB_m (tc_10 (List.mem_of_getElem? (i := 145) rfl)) rfl
theorem tw_2307 : (Cond.laysFinal "ProofLibraryModel" "ProofLibraryModel" "packedLabels" "[I") ∈ TB := TB_m (tc_10 (List.mem_of_getElem? (i := 147) rfl)) rfl
theorem tw_2309 : (Cond.lays "ProofLibraryModel" "ProofLibraryModel" "packedCount" "I") ∈ TB := TB_m (tc_10 (List.mem_of_getElem? (i := 149) rfl)) rfl
theorem tw_2311 : (Cond.lays "ProofLibraryModel" "ProofLibraryModel" "sum" "I") ∈ TB := TB_m (tc_10 (List.mem_of_getElem? (i := 151) rfl)) rfl
theorem tw_2313 : (Cond.lays "ProofLibraryModel" "ProofLibraryModel" "inNumber" "Z") ∈ TB := TB_m (tc_10 (List.mem_of_getElem? (i := 153) rfl)) rfl
theorem tw_2315 : (Cond.lays "ProofLibraryModel" "ProofLibraryModel" "maySave" "Z") ∈ TB := TB_m (tc_10 (List.mem_of_getElem? (i := 155) rfl)) rfl
theorem tw_2317 : (Cond.lays "ProofLibraryModel" "ProofLibraryModel" "savedCount" "I") ∈ TB := TB_m (tc_10 (List.mem_of_getElem? (i := 157) rfl)) rfl
theorem tw_2319 : (Cond.laysFinal "ProofLibraryModel" "ProofLibraryModel" "pileAt" "[I") ∈ TB := TB_m (tc_10 (List.mem_of_getElem? (i := 159) rfl)) rfl
theorem tw_2321 : (Cond.laysFinal "ProofLibraryModel" "ProofLibraryModel" "pileSize" "[I") ∈ TB := TB_m (tc_10 (List.mem_of_getElem? (i := 161) rfl)) rfl
theorem tw_2323 : (Cond.laysFinal "ProofLibraryModel" "ProofLibraryModel" "pileRow" "[I") ∈ TB := TB_m (tc_10 (List.mem_of_getElem? (i := 163) rfl)) rfl
theorem tw_2325 : (Cond.lays "ProofLibraryModel" "ProofLibraryModel" "piled" "I") ∈ TB := TB_m (tc_10 (List.mem_of_getElem? (i := 165) rfl)) rfl
theorem tw_2327 : (Cond.laysFinal "ProofLibraryModel" "ProofLibraryModel" "pileSymbols" "[I") ∈ TB := TB_m (tc_10 (List.mem_of_getElem? (i := 167) rfl)) rfl
theorem tw_2329 : (Cond.lays "ProofLibraryModel" "ProofLibraryModel" "pileTop" "I") ∈ TB := TB_m (tc_10 (List.mem_of_getElem? (i := 169) rfl)) rfl
theorem tw_2331 : (Cond.laysFinal "ProofLibraryModel" "ProofLibraryModel" "savedAt" "[I") ∈ TB := TB_m (tc_10 (List.mem_of_getElem? (i := 171) rfl)) rfl
theorem tw_2333 : (Cond.laysFinal "ProofLibraryModel" "ProofLibraryModel" "savedSize" "[I") ∈ TB := TB_m (tc_10 (List.mem_of_getElem? (i := 173) rfl)) rfl
theorem tw_2335 : (Cond.laysFinal "ProofLibraryModel" "ProofLibraryModel" "savedRow" "[I") ∈ TB := TB_m (tc_10 (List.mem_of_getElem? (i := 175) rfl)) rfl
theorem tw_2337 : (Cond.lays "ProofLibraryModel" "ProofLibraryModel" "savedRows" "I") ∈ TB := TB_m (tc_10 (List.mem_of_getElem? (i := 177) rfl)) rfl
theorem tw_2339 : (Cond.laysFinal "ProofLibraryModel" "ProofLibraryModel" "savedSymbols" "[I") ∈ TB := TB_m (tc_10 (List.mem_of_getElem? (i := 179) rfl)) rfl
theorem tw_2341 : (Cond.lays "ProofLibraryModel" "ProofLibraryModel" "savedTop" "I") ∈ TB := TB_m (tc_10 (List.mem_of_getElem? (i := 181) rfl)) rfl
theorem tw_2343 : (Cond.laysFinal "ProofLibraryModel" "ProofLibraryModel" "becomesAt" "[I") ∈ TB := TB_m (tc_10 (List.mem_of_getElem? (i := 183) rfl)) rfl
theorem tw_2345 : (Cond.laysFinal "ProofLibraryModel" "ProofLibraryModel" "becomesSize" "[I") ∈ TB := TB_m (tc_10 (List.mem_of_getElem? (i := 185) rfl)) rfl
theorem tw_2347 : (Cond.laysFinal "ProofLibraryModel" "ProofLibraryModel" "madeRow" "[I") ∈ TB := TB_m (tc_10 (List.mem_of_getElem? (i := 187) rfl)) rfl
theorem tw_2349 : (Cond.lays "ProofLibraryModel" "ProofLibraryModel" "made" "I") ∈ TB := TB_m (tc_10 (List.mem_of_getElem? (i := 189) rfl)) rfl
theorem tw_2351 : (Cond.lays "ProofLibraryModel" "ProofLibraryModel" "stepFault" "I") ∈ TB := TB_m (tc_10 (List.mem_of_getElem? (i := 191) rfl)) rfl
theorem tw_2353 : (Cond.laysFinal "ProofLibraryModel" "ProofLibraryModel" "wasVariable" "[Z") ∈ TB := TB_m (tc_10 (List.mem_of_getElem? (i := 193) rfl)) rfl
theorem tw_2355 : (Cond.laysFinal "ProofLibraryModel" "ProofLibraryModel" "wasActive" "[Z") ∈ TB := TB_m (tc_10 (List.mem_of_getElem? (i := 195) rfl)) rfl
theorem tw_2357 : (Cond.laysFinal "ProofLibraryModel" "ProofLibraryModel" "wasBegin" "[Z") ∈ TB := TB_m (tc_10 (List.mem_of_getElem? (i := 197) rfl)) rfl
theorem tw_2359 : (Cond.laysFinal "ProofLibraryModel" "ProofLibraryModel" "wasType" "[I") ∈ TB := TB_m (tc_10 (List.mem_of_getElem? (i := 199) rfl)) rfl
theorem tw_2361 : (Cond.laysFinal "ProofLibraryModel" "ProofLibraryModel" "wasFloat" "[I") ∈ TB := TB_m (tc_10 (List.mem_of_getElem? (i := 201) rfl)) rfl
theorem tw_2363 : (Cond.laysFinal "ProofLibraryModel" "ProofLibraryModel" "rowOf" "[I") ∈ TB := TB_m (tc_10 (List.mem_of_getElem? (i := 203) rfl)) rfl
theorem tw_2365 : (Cond.laysFinal "ProofLibraryModel" "ProofLibraryModel" "rowFromAt" "[I") ∈ TB := TB_m (tc_10 (List.mem_of_getElem? (i := 205) rfl)) rfl
theorem tw_2367 : (Cond.laysFinal "ProofLibraryModel" "ProofLibraryModel" "rowFroms" "[I") ∈ TB := TB_m (tc_10 (List.mem_of_getElem? (i := 207) rfl)) rfl
theorem tw_2369 : (Cond.lays "ProofLibraryModel" "ProofLibraryModel" "rowCount" "I") ∈ TB := TB_m (tc_10 (List.mem_of_getElem? (i := 209) rfl)) rfl
theorem tw_2371 : (Cond.lays "ProofLibraryModel" "ProofLibraryModel" "rowFromCount" "I") ∈ TB := TB_m (tc_10 (List.mem_of_getElem? (i := 211) rfl)) rfl
theorem tw_2373 : (Cond.lays "ProofLibraryModel" "ProofLibraryModel" "rowsOf" "I") ∈ TB := TB_m (tc_10 (List.mem_of_getElem? (i := 213) rfl)) rfl
theorem tw_2375 : (Cond.laysFinal "ProofLibraryModel" "ProofLibraryModel" "sizes" "[J") ∈ TB := TB_m (tc_10 (List.mem_of_getElem? (i := 215) rfl)) rfl
theorem tw_2377 : (Cond.laysFinal "ProofLibraryModel" "ProofLibraryModel" "draft" "[I") ∈ TB := TB_m (tc_10 (List.mem_of_getElem? (i := 217) rfl)) rfl
theorem tw_2379 : (Cond.lays "ProofLibraryModel" "ProofLibraryModel" "draftSize" "I") ∈ TB := TB_m (tc_10 (List.mem_of_getElem? (i := 219) rfl)) rfl
theorem tw_2381 : (Cond.laysFinal "ProofLibraryModel" "ProofLibraryModel" "printed" "[I") ∈ TB := TB_m (tc_10 (List.mem_of_getElem? (i := 221) rfl)) rfl
theorem tw_2383 : (Cond.lays "ProofLibraryModel" "ProofLibraryModel" "printedSize" "I") ∈ TB := TB_m (tc_10 (List.mem_of_getElem? (i := 223) rfl)) rfl
theorem tw_2385 : (Cond.laysFinal "ProofLibraryModel" "ProofLibraryModel" "sameAs" "[I") ∈ TB := TB_m (tc_10 (List.mem_of_getElem? (i := 225) rfl)) rfl
theorem tw_2387 : (Cond.laysFinal "ProofLibraryModel" "ProofLibraryModel" "uses" "[I") ∈ TB := TB_m (tc_10 (List.mem_of_getElem? (i := 227) rfl)) rfl
theorem tw_2389 : (Cond.laysFinal "ProofLibraryModel" "ProofLibraryModel" "numberOf" "[I") ∈ TB := TB_m (tc_10 (List.mem_of_getElem? (i := 229) rfl)) rfl
theorem tw_2391 : (Cond.laysFinal "ProofLibraryModel" "ProofLibraryModel" "order" "[I") ∈ TB := TB_m (tc_10 (List.mem_of_getElem? (i := 231) rfl)) rfl
theorem tw_2393 : (Cond.lays "ProofLibraryModel" "ProofLibraryModel" "ordered" "I") ∈ TB := TB_m (tc_10 (List.mem_of_getElem? (i := 233) rfl)) rfl
theorem tw_2395 : (Cond.laysFinal "ProofLibraryModel" "ProofLibraryModel" "walk" "[I") ∈ TB := TB_m (tc_10 (List.mem_of_getElem? (i := 235) rfl)) rfl
theorem tw_2397 : (Cond.laysFinal "ProofLibraryModel" "ProofLibraryModel" "walkKid" "[I") ∈ TB := TB_m (tc_10 (List.mem_of_getElem? (i := 237) rfl)) rfl
theorem tw_2399 : (Cond.lays "ProofLibraryModel" "ProofLibraryModel" "walked" "I") ∈ TB := TB_m (tc_10 (List.mem_of_getElem? (i := 239) rfl)) rfl
theorem tw_2401 : (Cond.laysFinal "ProofLibraryModel" "ProofLibraryModel" "newLabels" "[I") ∈ TB := TB_m (tc_11 (List.mem_of_getElem? (i := 1) rfl)) rfl
theorem tw_2403 : (Cond.laysFinal "ProofLibraryModel" "ProofLibraryModel" "labelNumber" "[I") ∈ TB := TB_m (tc_11 (List.mem_of_getElem? (i := 3) rfl)) rfl
theorem tw_2405 : (Cond.lays "ProofLibraryModel" "ProofLibraryModel" "newLabelCount" "I") ∈ TB := TB_m (tc_11 (List.mem_of_getElem? (i := 5) rfl)) rfl
theorem tw_2407 : (Cond.laysFinal "ProofLibraryModel" "ProofLibraryModel" "sameTable" "[I") ∈ TB := TB_m (tc_11 (List.mem_of_getElem? (i := 7) rfl)) rfl
theorem tw_2409 : (Cond.laysFinal "ProofLibraryModel" "ProofLibraryModel" "told" "[I") ∈ TB := TB_m (tc_11 (List.mem_of_getElem? (i := 9) rfl)) rfl
theorem tw_2411 : (Cond.lays "ProofLibraryModel" "ProofLibraryModel" "tolds" "I") ∈ TB := TB_m (tc_11 (List.mem_of_getElem? (i := 11) rfl)) rfl
theorem tw_2413 : (Cond.laysFinal "ProofLibraryModel" "ProofLibraryModel" "sortOf" "[I") ∈ TB := TB_m (tc_11 (List.mem_of_getElem? (i := 13) rfl)) rfl
theorem tw_2415 : (Cond.laysFinal "ProofLibraryModel" "ProofLibraryModel" "stretch" "[I") ∈ TB := TB_m (tc_11 (List.mem_of_getElem? (i := 15) rfl)) rfl
theorem tw_2417 : (Cond.lays "ProofLibraryModel" "ProofLibraryModel" "rowSize" "I") ∈ TB := TB_m (tc_11 (List.mem_of_getElem? (i := 17) rfl)) rfl
theorem tw_2419 : (Cond.laysFinal "ProofLibraryModel" "ProofLibraryModel" "leafSort" "[I") ∈ TB := TB_m (tc_11 (List.mem_of_getElem? (i := 19) rfl)) rfl
theorem tw_2421 : (Cond.laysFinal "ProofLibraryModel" "ProofLibraryModel" "leafIs" "[I") ∈ TB := TB_m (tc_11 (List.mem_of_getElem? (i := 21) rfl)) rfl
theorem tw_2423 : (Cond.laysFinal "ProofLibraryModel" "ProofLibraryModel" "ways" "[I") ∈ TB := TB_m (tc_11 (List.mem_of_getElem? (i := 23) rfl)) rfl
theorem tw_2425 : (Cond.lays "ProofLibraryModel" "ProofLibraryModel" "sorts" "I") ∈ TB := TB_m (tc_11 (List.mem_of_getElem? (i := 25) rfl)) rfl
theorem tw_2427 : (Cond.laysFinal "ProofLibraryModel" "ProofLibraryModel" "madeBy" "[I") ∈ TB := TB_m (tc_11 (List.mem_of_getElem? (i := 27) rfl)) rfl
theorem tw_2429 : (Cond.laysFinal "ProofLibraryModel" "ProofLibraryModel" "startsOne" "[J") ∈ TB := TB_m (tc_11 (List.mem_of_getElem? (i := 29) rfl)) rfl
theorem tw_2431 : (Cond.laysFinal "ProofLibraryModel" "ProofLibraryModel" "startsTwo" "[J") ∈ TB := TB_m (tc_11 (List.mem_of_getElem? (i := 31) rfl)) rfl
theorem tw_2433 : (Cond.laysFinal "ProofLibraryModel" "ProofLibraryModel" "ruleStep" "[I") ∈ TB := TB_m (tc_11 (List.mem_of_getElem? (i := 33) rfl)) rfl
theorem tw_2435 : (Cond.laysFinal "ProofLibraryModel" "ProofLibraryModel" "ruleUp" "[I") ∈ TB := TB_m (tc_11 (List.mem_of_getElem? (i := 35) rfl)) rfl
theorem tw_2437 : (Cond.laysFinal "ProofLibraryModel" "ProofLibraryModel" "ruleKid" "[I") ∈ TB := TB_m (tc_11 (List.mem_of_getElem? (i := 37) rfl)) rfl
theorem tw_2439 : (Cond.laysFinal "ProofLibraryModel" "ProofLibraryModel" "ruleNext" "[I") ∈ TB := TB_m (tc_11 (List.mem_of_getElem? (i := 39) rfl)) rfl
theorem tw_2441 : (Cond.laysFinal "ProofLibraryModel" "ProofLibraryModel" "ruleFirst" "[I") ∈ TB := TB_m (tc_11 (List.mem_of_getElem? (i := 41) rfl)) rfl
theorem tw_2443 : (Cond.laysFinal "ProofLibraryModel" "ProofLibraryModel" "ruleOther" "[I") ∈ TB := TB_m (tc_11 (List.mem_of_getElem? (i := 43) rfl)) rfl
theorem tw_2445 : (Cond.laysFinal "ProofLibraryModel" "ProofLibraryModel" "ruleLeast" "[I") ∈ TB := TB_m (tc_11 (List.mem_of_getElem? (i := 45) rfl)) rfl
theorem tw_2447 : (Cond.laysFinal "ProofLibraryModel" "ProofLibraryModel" "frontOne" "[J") ∈ TB := TB_m (tc_11 (List.mem_of_getElem? (i := 47) rfl)) rfl
theorem tw_2449 : (Cond.laysFinal "ProofLibraryModel" "ProofLibraryModel" "frontTwo" "[J") ∈ TB := TB_m (tc_11 (List.mem_of_getElem? (i := 49) rfl)) rfl
theorem tw_2451 : (Cond.lays "ProofLibraryModel" "ProofLibraryModel" "ruleNodes" "I") ∈ TB := TB_m (tc_11 (List.mem_of_getElem? (i := 51) rfl)) rfl
theorem tw_2453 : (Cond.laysFinal "ProofLibraryModel" "ProofLibraryModel" "units" "[I") ∈ TB := TB_m (tc_11 (List.mem_of_getElem? (i := 53) rfl)) rfl
theorem tw_2455 : (Cond.lays "ProofLibraryModel" "ProofLibraryModel" "unitCount" "I") ∈ TB := TB_m (tc_11 (List.mem_of_getElem? (i := 55) rfl)) rfl
theorem tw_2457 : (Cond.lays "ProofLibraryModel" "ProofLibraryModel" "isTreed" "Z") ∈ TB := TB_m (tc_11 (List.mem_of_getElem? (i := 57) rfl)) rfl
theorem tw_2459 : (Cond.lays "ProofLibraryModel" "ProofLibraryModel" "rowLimit" "I") ∈ TB := TB_m (tc_11 (List.mem_of_getElem? (i := 59) rfl)) rfl
theorem tw_2461 : (Cond.laysFinal "ProofLibraryModel" "ProofLibraryModel" "front" "[I") ∈ TB := TB_m (tc_11 (List.mem_of_getElem? (i := 61) rfl)) rfl
theorem tw_2463 : (Cond.laysFinal "ProofLibraryModel" "ProofLibraryModel" "nodeIs" "[I") ∈ TB := TB_m (tc_11 (List.mem_of_getElem? (i := 63) rfl)) rfl
theorem tw_2465 : (Cond.laysFinal "ProofLibraryModel" "ProofLibraryModel" "nodeKids" "[I") ∈ TB := TB_m (tc_11 (List.mem_of_getElem? (i := 65) rfl)) rfl
theorem tw_2467 : (Cond.laysFinal "ProofLibraryModel" "ProofLibraryModel" "nodeFrom" "[I") ∈ TB := TB_m (tc_11 (List.mem_of_getElem? (i := 67) rfl)) rfl
theorem tw_2469 : (Cond.laysFinal "ProofLibraryModel" "ProofLibraryModel" "nodeTo" "[I") ∈ TB := TB_m (tc_11 (List.mem_of_getElem? (i := 69) rfl)) rfl
theorem tw_2471 : (Cond.laysFinal "ProofLibraryModel" "ProofLibraryModel" "nodeSort" "[I") ∈ TB := TB_m (tc_11 (List.mem_of_getElem? (i := 71) rfl)) rfl
theorem tw_2473 : (Cond.laysFinal "ProofLibraryModel" "ProofLibraryModel" "kids" "[I") ∈ TB := TB_m (tc_11 (List.mem_of_getElem? (i := 73) rfl)) rfl
theorem tw_2475 : (Cond.lays "ProofLibraryModel" "ProofLibraryModel" "nodes" "I") ∈ TB := TB_m (tc_11 (List.mem_of_getElem? (i := 75) rfl)) rfl
theorem tw_2477 : (Cond.lays "ProofLibraryModel" "ProofLibraryModel" "kidCount" "I") ∈ TB := TB_m (tc_11 (List.mem_of_getElem? (i := 77) rfl)) rfl
theorem tw_2479 : (Cond.laysFinal "ProofLibraryModel" "ProofLibraryModel" "base" "[I") ∈ TB := TB_m (tc_11 (List.mem_of_getElem? (i := 79) rfl)) rfl
theorem tw_2481 : (Cond.laysFinal "ProofLibraryModel" "ProofLibraryModel" "grown" "[I") ∈ TB := TB_m (tc_11 (List.mem_of_getElem? (i := 81) rfl)) rfl
theorem tw_2483 : (Cond.laysFinal "ProofLibraryModel" "ProofLibraryModel" "treeCount" "[I") ∈ TB := TB_m (tc_11 (List.mem_of_getElem? (i := 83) rfl)) rfl
theorem tw_2485 : (Cond.laysFinal "ProofLibraryModel" "ProofLibraryModel" "rulesIn" "[J") ∈ TB := TB_m (tc_11 (List.mem_of_getElem? (i := 85) rfl)) rfl
theorem tw_2487 : (Cond.laysFinal "ProofLibraryModel" "ProofLibraryModel" "definitions" "[I") ∈ TB := TB_m (tc_11 (List.mem_of_getElem? (i := 87) rfl)) rfl
theorem tw_2489 : (Cond.laysFinal "ProofLibraryModel" "ProofLibraryModel" "isEquality" "[Z") ∈ TB := TB_m (tc_11 (List.mem_of_getElem? (i := 89) rfl)) rfl
theorem tw_2491 : (Cond.laysFinal "ProofLibraryModel" "ProofLibraryModel" "definer" "[I") ∈ TB := TB_m (tc_11 (List.mem_of_getElem? (i := 91) rfl)) rfl
theorem tw_2493 : (Cond.laysFinal "ProofLibraryModel" "ProofLibraryModel" "isNeeded" "[Z") ∈ TB := TB_m (tc_11 (List.mem_of_getElem? (i := 93) rfl)) rfl
theorem tw_2495 : (Cond.laysFinal "ProofLibraryModel" "ProofLibraryModel" "bareAt" "[I") ∈ TB := TB_m (tc_11 (List.mem_of_getElem? (i := 95) rfl)) rfl
theorem tw_2497 : (Cond.laysFinal "ProofLibraryModel" "ProofLibraryModel" "bareMany" "[I") ∈ TB := TB_m (tc_11 (List.mem_of_getElem? (i := 97) rfl)) rfl
theorem tw_2499 : (Cond.laysFinal "ProofLibraryModel" "ProofLibraryModel" "bare" "[I") ∈ TB := TB_m (tc_11 (List.mem_of_getElem? (i := 99) rfl)) rfl
theorem tw_2501 : (Cond.lays "ProofLibraryModel" "ProofLibraryModel" "bareSize" "I") ∈ TB := TB_m (tc_11 (List.mem_of_getElem? (i := 101) rfl)) rfl
theorem tw_2503 : (Cond.laysFinal "ProofLibraryModel" "ProofLibraryModel" "tasks" "[I") ∈ TB := TB_m (tc_11 (List.mem_of_getElem? (i := 103) rfl)) rfl
theorem tw_2505 : (Cond.lays "ProofLibraryModel" "ProofLibraryModel" "taskMany" "I") ∈ TB := TB_m (tc_11 (List.mem_of_getElem? (i := 105) rfl)) rfl
theorem tw_2507 : (Cond.laysFinal "ProofLibraryModel" "ProofLibraryModel" "given" "[I") ∈ TB := TB_m (tc_11 (List.mem_of_getElem? (i := 107) rfl)) rfl
theorem tw_2509 : (Cond.laysFinal "ProofLibraryModel" "ProofLibraryModel" "boundFrom" "[I") ∈ TB := TB_m (tc_11 (List.mem_of_getElem? (i := 109) rfl)) rfl
theorem tw_2511 : (Cond.laysFinal "ProofLibraryModel" "ProofLibraryModel" "boundTo" "[I") ∈ TB := TB_m (tc_11 (List.mem_of_getElem? (i := 111) rfl)) rfl
theorem tw_2513 : (Cond.laysFinal "ProofLibraryModel" "ProofLibraryModel" "otherWalk" "[I") ∈ TB := TB_m (tc_11 (List.mem_of_getElem? (i := 113) rfl)) rfl
theorem tw_2516 : (Cond.methodLink "ProofLibraryLaw" 17 ⟨"ProofLibraryModel", "feed", "(IIIII)I"⟩) ∈ TB := TB_m (tc_11 (List.mem_of_getElem? (i := 116) rfl)) rfl
theorem tw_2517 : (Cond.instanceMethod ⟨"ProofLibraryModel", "feed", "(IIIII)I"⟩) ∈ TB := TB_m (tc_11 (List.mem_of_getElem? (i := 117) rfl)) rfl
theorem tw_2518 : (Cond.selects "ProofLibraryModel" ⟨"ProofLibraryModel", "feed", "(IIIII)I"⟩ ⟨"ProofLibraryModel", "feed", "(IIIII)I"⟩) ∈ TB := TB_m (tc_11 (List.mem_of_getElem? (i := 118) rfl)) rfl
theorem tw_2519 : (Cond.code ⟨"ProofLibraryModel", "feed", "(IIIII)I"⟩ prog_15_method_4_code 8 (some .int)) ∈ TB := TB_m (tc_11 (List.mem_of_getElem? (i := 119) rfl)) rfl
theorem tw_2520 : (Cond.methodLink "ProofLibraryLaw" 22 ⟨"ProofLibraryModel", "end", "(I)I"⟩) ∈ TB := TB_m (tc_11 (List.mem_of_getElem? (i := 120) rfl)) rfl
theorem tw_2521 : (Cond.instanceMethod ⟨"ProofLibraryModel", "end", "(I)I"⟩) ∈ TB := TB_m (tc_11 (List.mem_of_getElem? (i := 121) rfl)) rfl
theorem tw_2522 : (Cond.selects "ProofLibraryModel" ⟨"ProofLibraryModel", "end", "(I)I"⟩ ⟨"ProofLibraryModel", "end", "(I)I"⟩) ∈ TB := TB_m (tc_11 (List.mem_of_getElem? (i := 122) rfl)) rfl
theorem tw_2523 : (Cond.code ⟨"ProofLibraryModel", "end", "(I)I"⟩ prog_15_method_5_code 2 (some .int)) ∈ TB := TB_m (tc_11 (List.mem_of_getElem? (i := 123) rfl)) rfl
theorem tw_2524 : (Cond.constantLong "ProofLibraryModel" 386 19) ∈ TB := TB_m (tc_11 (List.mem_of_getElem? (i := 124) rfl)) rfl
theorem tw_2525 : (Cond.methodLink "ProofLibraryModel" 388 ⟨"ProofLibraryModel", "isIn", "(JJJ)Z"⟩) ∈ TB := TB_m (tc_11 (List.mem_of_getElem? (i := 125) rfl)) rfl
theorem tw_2526 : (Cond.static ⟨"ProofLibraryModel", "isIn", "(JJJ)Z"⟩) ∈ TB := TB_m (tc_11 (List.mem_of_getElem? (i := 126) rfl)) rfl
theorem tw_2527 : (Cond.code ⟨"ProofLibraryModel", "isIn", "(JJJ)Z"⟩ prog_15_method_3_code 6 (some .boolean)) ∈ TB := TB_m (tc_11 (List.mem_of_getElem? (i := 127) rfl)) rfl
theorem tw_2528 : (Cond.methodLink "ProofLibraryLaw" 27 ⟨"ProofLibraryModel", "read", "()I"⟩) ∈ TB := TB_m (tc_11 (List.mem_of_getElem? (i := 128) rfl)) rfl
theorem tw_2529 : (Cond.instanceMethod ⟨"ProofLibraryModel", "read", "()I"⟩) ∈ TB := TB_m (tc_11 (List.mem_of_getElem? (i := 129) rfl)) rfl
theorem tw_2530 : (Cond.selects "ProofLibraryModel" ⟨"ProofLibraryModel", "read", "()I"⟩ ⟨"ProofLibraryModel", "read", "()I"⟩) ∈ TB := TB_m (tc_11 (List.mem_of_getElem? (i := 130) rfl)) rfl
theorem tw_2531 : (Cond.code ⟨"ProofLibraryModel", "read", "()I"⟩ prog_15_method_69_code 7 (some .int)) ∈ TB := TB_m (tc_11 (List.mem_of_getElem? (i := 131) rfl)) rfl
theorem tw_2532 : (Cond.methodLink "ProofLibraryModel" 696 ⟨"ProofLibraryModel", "noteAll", "()V"⟩) ∈ TB := TB_m (tc_11 (List.mem_of_getElem? (i := 132) rfl)) rfl
theorem tw_2534 : (Cond.instanceMethod ⟨"ProofLibraryModel", "noteAll", "()V"⟩) ∈ TB := TB_m (tc_11 (List.mem_of_getElem? (i := 134) rfl)) rfl
theorem tw_2535 : (Cond.code ⟨"ProofLibraryModel", "noteAll", "()V"⟩ prog_15_method_67_code 2 none) ∈ TB := TB_m (tc_11 (List.mem_of_getElem? (i := 135) rfl)) rfl
theorem tw_2536 : (Cond.methodLink "ProofLibraryModel" 490 ⟨"ProofLibraryModel", "next", "()V"⟩) ∈ TB := TB_m (tc_11 (List.mem_of_getElem? (i := 136) rfl)) rfl
theorem tw_2538 : (Cond.instanceMethod ⟨"ProofLibraryModel", "next", "()V"⟩) ∈ TB := TB_m (tc_11 (List.mem_of_getElem? (i := 138) rfl)) rfl
theorem tw_2539 : (Cond.code ⟨"ProofLibraryModel", "next", "()V"⟩ prog_15_method_26_code 2 none) ∈ TB := TB_m (tc_11 (List.mem_of_getElem? (i := 139) rfl)) rfl
theorem tw_2540 : (Cond.methodLink "ProofLibraryModel" 441 ⟨"ProofLibraryModel", "nextRow", "()Z"⟩) ∈ TB := TB_m (tc_11 (List.mem_of_getElem? (i := 140) rfl)) rfl
theorem tw_2542 : (Cond.instanceMethod ⟨"ProofLibraryModel", "nextRow", "()Z"⟩) ∈ TB := TB_m (tc_11 (List.mem_of_getElem? (i := 142) rfl)) rfl
theorem tw_2543 : (Cond.code ⟨"ProofLibraryModel", "nextRow", "()Z"⟩ prog_15_method_22_code 1 (some .boolean)) ∈ TB := TB_m (tc_11 (List.mem_of_getElem? (i := 143) rfl)) rfl
theorem tw_2544 : (Cond.methodLink "ProofLibraryModel" 430 ⟨"ProofLibraryModel", "isBlank", "(I)Z"⟩) ∈ TB := TB_m (tc_11 (List.mem_of_getElem? (i := 144) rfl)) rfl
theorem tw_2545 : (Cond.static ⟨"ProofLibraryModel", "isBlank", "(I)Z"⟩) ∈ TB := TB_m (tc_11 (List.mem_of_getElem? (i := 145) rfl)) rfl
theorem tw_2546 : (Cond.code ⟨"ProofLibraryModel", "isBlank", "(I)Z"⟩ prog_15_method_6_code 1 (some .boolean)) ∈ TB := TB_m (tc_11 (List.mem_of_getElem? (i := 146) rfl)) rfl
theorem tw_2547 : (Cond.methodLink "ProofLibraryModel" 434 ⟨"ProofLibraryModel", "isSign", "(I)Z"⟩) ∈ TB := TB_m (tc_11 (List.mem_of_getElem? (i := 147) rfl)) rfl
theorem tw_2548 : (Cond.static ⟨"ProofLibraryModel", "isSign", "(I)Z"⟩) ∈ TB := TB_m (tc_11 (List.mem_of_getElem? (i := 148) rfl)) rfl
theorem tw_2549 : (Cond.code ⟨"ProofLibraryModel", "isSign", "(I)Z"⟩ prog_15_method_7_code 1 (some .boolean)) ∈ TB := TB_m (tc_11 (List.mem_of_getElem? (i := 149) rfl)) rfl
theorem tw_2550 : (Cond.methodLink "ProofLibraryModel" 437 ⟨"ProofLibraryModel", "fail", "(II)V"⟩) ∈ TB := TB_m (tc_11 (List.mem_of_getElem? (i := 150) rfl)) rfl
theorem tw_2552 : (Cond.instanceMethod ⟨"ProofLibraryModel", "fail", "(II)V"⟩) ∈ TB := TB_m (tc_11 (List.mem_of_getElem? (i := 152) rfl)) rfl
theorem tw_2553 : (Cond.code ⟨"ProofLibraryModel", "fail", "(II)V"⟩ prog_15_method_19_code 3 none) ∈ TB := TB_m (tc_11 (List.mem_of_getElem? (i := 153) rfl)) rfl
theorem tw_2554 : (Cond.methodLink "ProofLibraryModel" 445 ⟨"ProofLibraryModel", "isToken", "(I)Z"⟩) ∈ TB := TB_m (tc_11 (List.mem_of_getElem? (i := 154) rfl)) rfl
theorem tw_2556 : (Cond.instanceMethod ⟨"ProofLibraryModel", "isToken", "(I)Z"⟩) ∈ TB := TB_m (tc_11 (List.mem_of_getElem? (i := 156) rfl)) rfl
theorem tw_2557 : (Cond.code ⟨"ProofLibraryModel", "isToken", "(I)Z"⟩ prog_15_method_23_code 2 (some .boolean)) ∈ TB := TB_m (tc_11 (List.mem_of_getElem? (i := 157) rfl)) rfl
theorem tw_2558 : (Cond.methodLink "ProofLibraryModel" 455 ⟨"ProofLibraryModel", "skipComment", "()V"⟩) ∈ TB := TB_m (tc_11 (List.mem_of_getElem? (i := 158) rfl)) rfl
theorem tw_2560 : (Cond.instanceMethod ⟨"ProofLibraryModel", "skipComment", "()V"⟩) ∈ TB := TB_m (tc_11 (List.mem_of_getElem? (i := 160) rfl)) rfl
theorem tw_2561 : (Cond.code ⟨"ProofLibraryModel", "skipComment", "()V"⟩ prog_15_method_24_code 2 none) ∈ TB := TB_m (tc_11 (List.mem_of_getElem? (i := 161) rfl)) rfl
theorem tw_2562 : (Cond.methodLink "ProofLibraryModel" 448 ⟨"ProofLibraryModel", "hasDollar", "(II)Z"⟩) ∈ TB := TB_m (tc_11 (List.mem_of_getElem? (i := 162) rfl)) rfl
theorem tw_2564 : (Cond.instanceMethod ⟨"ProofLibraryModel", "hasDollar", "(II)Z"⟩) ∈ TB := TB_m (tc_11 (List.mem_of_getElem? (i := 164) rfl)) rfl
theorem tw_2565 : (Cond.code ⟨"ProofLibraryModel", "hasDollar", "(II)Z"⟩ prog_15_method_20_code 5 (some .boolean)) ∈ TB := TB_m (tc_11 (List.mem_of_getElem? (i := 165) rfl)) rfl
theorem tw_2566 : (Cond.methodLink "ProofLibraryModel" 458 ⟨"ProofLibraryModel", "hasSign", "(I)Z"⟩) ∈ TB := TB_m (tc_11 (List.mem_of_getElem? (i := 166) rfl)) rfl
theorem tw_2568 : (Cond.instanceMethod ⟨"ProofLibraryModel", "hasSign", "(I)Z"⟩) ∈ TB := TB_m (tc_11 (List.mem_of_getElem? (i := 168) rfl)) rfl
theorem tw_2569 : (Cond.code ⟨"ProofLibraryModel", "hasSign", "(I)Z"⟩ prog_15_method_21_code 4 (some .boolean)) ∈ TB := TB_m (tc_11 (List.mem_of_getElem? (i := 169) rfl)) rfl
theorem tw_2570 : (Cond.methodLink "ProofLibraryModel" 461 ⟨"ProofLibraryModel", "isKnown", "(I)Z"⟩) ∈ TB := TB_m (tc_11 (List.mem_of_getElem? (i := 170) rfl)) rfl
theorem tw_2571 : (Cond.static ⟨"ProofLibraryModel", "isKnown", "(I)Z"⟩) ∈ TB := TB_m (tc_11 (List.mem_of_getElem? (i := 171) rfl)) rfl
theorem tw_2572 : (Cond.code ⟨"ProofLibraryModel", "isKnown", "(I)Z"⟩ prog_15_method_25_code 1 (some .boolean)) ∈ TB := TB_m (tc_11 (List.mem_of_getElem? (i := 172) rfl)) rfl
theorem tw_2573 : (Cond.methodLink "ProofLibraryModel" 699 ⟨"ProofLibraryModel", "readStatement", "()V"⟩) ∈ TB := TB_m (tc_11 (List.mem_of_getElem? (i := 173) rfl)) rfl
theorem tw_2575 : (Cond.instanceMethod ⟨"ProofLibraryModel", "readStatement", "()V"⟩) ∈ TB := TB_m (tc_11 (List.mem_of_getElem? (i := 175) rfl)) rfl
theorem tw_2576 : (Cond.code ⟨"ProofLibraryModel", "readStatement", "()V"⟩ prog_15_method_66_code 1 none) ∈ TB := TB_m (tc_11 (List.mem_of_getElem? (i := 176) rfl)) rfl
theorem tw_2577 : (Cond.methodLink "ProofLibraryModel" 684 ⟨"ProofLibraryModel", "readLabelled", "()V"⟩) ∈ TB := TB_m (tc_11 (List.mem_of_getElem? (i := 177) rfl)) rfl
theorem tw_2579 : (Cond.instanceMethod ⟨"ProofLibraryModel", "readLabelled", "()V"⟩) ∈ TB := TB_m (tc_11 (List.mem_of_getElem? (i := 179) rfl)) rfl
theorem tw_2580 : (Cond.code ⟨"ProofLibraryModel", "readLabelled", "()V"⟩ prog_15_method_64_code 1 none) ∈ TB := TB_m (tc_11 (List.mem_of_getElem? (i := 180) rfl)) rfl
theorem tw_2581 : (Cond.methodLink "ProofLibraryModel" 668 ⟨"ProofLibraryModel", "readLabel", "()V"⟩) ∈ TB := TB_m (tc_11 (List.mem_of_getElem? (i := 181) rfl)) rfl
theorem tw_2583 : (Cond.instanceMethod ⟨"ProofLibraryModel", "readLabel", "()V"⟩) ∈ TB := TB_m (tc_11 (List.mem_of_getElem? (i := 183) rfl)) rfl
theorem tw_2584 : (Cond.code ⟨"ProofLibraryModel", "readLabel", "()V"⟩ prog_15_method_34_code 2 none) ∈ TB := TB_m (tc_11 (List.mem_of_getElem? (i := 184) rfl)) rfl
theorem tw_2585 : (Cond.methodLink "ProofLibraryModel" 474 ⟨"ProofLibraryModel", "failHere", "(I)V"⟩) ∈ TB := TB_m (tc_11 (List.mem_of_getElem? (i := 185) rfl)) rfl
theorem tw_2587 : (Cond.instanceMethod ⟨"ProofLibraryModel", "failHere", "(I)V"⟩) ∈ TB := TB_m (tc_11 (List.mem_of_getElem? (i := 187) rfl)) rfl
theorem tw_2588 : (Cond.code ⟨"ProofLibraryModel", "failHere", "(I)V"⟩ prog_15_method_27_code 2 none) ∈ TB := TB_m (tc_11 (List.mem_of_getElem? (i := 188) rfl)) rfl
theorem tw_2589 : (Cond.methodLink "ProofLibraryModel" 515 ⟨"ProofLibraryModel", "isLabelSign", "(I)Z"⟩) ∈ TB := TB_m (tc_11 (List.mem_of_getElem? (i := 189) rfl)) rfl
theorem tw_2590 : (Cond.static ⟨"ProofLibraryModel", "isLabelSign", "(I)Z"⟩) ∈ TB := TB_m (tc_11 (List.mem_of_getElem? (i := 190) rfl)) rfl
theorem tw_2591 : (Cond.code ⟨"ProofLibraryModel", "isLabelSign", "(I)Z"⟩ prog_15_method_33_code 1 (some .boolean)) ∈ TB := TB_m (tc_11 (List.mem_of_getElem? (i := 191) rfl)) rfl
theorem tw_2592 : (Cond.constantLong "ProofLibraryModel" 500 48) ∈ TB := TB_m (tc_11 (List.mem_of_getElem? (i := 192) rfl)) rfl
theorem tw_2593 : (Cond.constantLong "ProofLibraryModel" 502 57) ∈ TB := TB_m (tc_11 (List.mem_of_getElem? (i := 193) rfl)) rfl
theorem tw_2594 : (Cond.constantLong "ProofLibraryModel" 504 65) ∈ TB := TB_m (tc_11 (List.mem_of_getElem? (i := 194) rfl)) rfl
theorem tw_2595 : (Cond.constantLong "ProofLibraryModel" 506 90) ∈ TB := TB_m (tc_11 (List.mem_of_getElem? (i := 195) rfl)) rfl
theorem tw_2596 : (Cond.constantLong "ProofLibraryModel" 508 97) ∈ TB := TB_m (tc_11 (List.mem_of_getElem? (i := 196) rfl)) rfl
theorem tw_2597 : (Cond.constantLong "ProofLibraryModel" 510 122) ∈ TB := TB_m (tc_11 (List.mem_of_getElem? (i := 197) rfl)) rfl
theorem tw_2598 : (Cond.methodLink "ProofLibraryModel" 478 ⟨"ProofLibraryModel", "findLabel", "([III)I"⟩) ∈ TB := TB_m (tc_11 (List.mem_of_getElem? (i := 198) rfl)) rfl
theorem tw_2600 : (Cond.instanceMethod ⟨"ProofLibraryModel", "findLabel", "([III)I"⟩) ∈ TB := TB_m (tc_11 (List.mem_of_getElem? (i := 200) rfl)) rfl
theorem tw_2601 : (Cond.code ⟨"ProofLibraryModel", "findLabel", "([III)I"⟩ prog_15_method_12_code 6 (some .int)) ∈ TB := TB_m (tc_11 (List.mem_of_getElem? (i := 201) rfl)) rfl
theorem tw_2602 : (Cond.methodLink "ProofLibraryModel" 392 ⟨"ProofLibraryModel", "spot", "([III)I"⟩) ∈ TB := TB_m (tc_11 (List.mem_of_getElem? (i := 202) rfl)) rfl
theorem tw_2603 : (Cond.static ⟨"ProofLibraryModel", "spot", "([III)I"⟩) ∈ TB := TB_m (tc_11 (List.mem_of_getElem? (i := 203) rfl)) rfl
theorem tw_2604 : (Cond.code ⟨"ProofLibraryModel", "spot", "([III)I"⟩ prog_15_method_9_code 5 (some .int)) ∈ TB := TB_m (tc_11 (List.mem_of_getElem? (i := 204) rfl)) rfl
theorem tw_2605 : (Cond.methodLink "ProofLibraryModel" 396 ⟨"ProofLibraryModel", "isName", "(II[III)Z"⟩) ∈ TB := TB_m (tc_11 (List.mem_of_getElem? (i := 205) rfl)) rfl
theorem tw_2607 : (Cond.instanceMethod ⟨"ProofLibraryModel", "isName", "(II[III)Z"⟩) ∈ TB := TB_m (tc_11 (List.mem_of_getElem? (i := 207) rfl)) rfl
theorem tw_2608 : (Cond.code ⟨"ProofLibraryModel", "isName", "(II[III)Z"⟩ prog_15_method_10_code 7 (some .boolean)) ∈ TB := TB_m (tc_11 (List.mem_of_getElem? (i := 208) rfl)) rfl
theorem tw_2609 : (Cond.methodLink "ProofLibraryModel" 467 ⟨"ProofLibraryModel", "symbolHere", "()I"⟩) ∈ TB := TB_m (tc_11 (List.mem_of_getElem? (i := 209) rfl)) rfl
theorem tw_2611 : (Cond.instanceMethod ⟨"ProofLibraryModel", "symbolHere", "()I"⟩) ∈ TB := TB_m (tc_11 (List.mem_of_getElem? (i := 211) rfl)) rfl
theorem tw_2612 : (Cond.code ⟨"ProofLibraryModel", "symbolHere", "()I"⟩ prog_15_method_28_code 1 (some .int)) ∈ TB := TB_m (tc_11 (List.mem_of_getElem? (i := 212) rfl)) rfl
theorem tw_2613 : (Cond.methodLink "ProofLibraryModel" 464 ⟨"ProofLibraryModel", "findSymbol", "([III)I"⟩) ∈ TB := TB_m (tc_11 (List.mem_of_getElem? (i := 213) rfl)) rfl
theorem tw_2615 : (Cond.instanceMethod ⟨"ProofLibraryModel", "findSymbol", "([III)I"⟩) ∈ TB := TB_m (tc_11 (List.mem_of_getElem? (i := 215) rfl)) rfl
theorem tw_2616 : (Cond.code ⟨"ProofLibraryModel", "findSymbol", "([III)I"⟩ prog_15_method_11_code 6 (some .int)) ∈ TB := TB_m (tc_11 (List.mem_of_getElem? (i := 216) rfl)) rfl
theorem tw_2617 : (Cond.methodLink "ProofLibraryModel" 481 ⟨"ProofLibraryModel", "keepChars", "(II)V"⟩) ∈ TB := TB_m (tc_11 (List.mem_of_getElem? (i := 217) rfl)) rfl
theorem tw_2619 : (Cond.instanceMethod ⟨"ProofLibraryModel", "keepChars", "(II)V"⟩) ∈ TB := TB_m (tc_11 (List.mem_of_getElem? (i := 219) rfl)) rfl
theorem tw_2620 : (Cond.code ⟨"ProofLibraryModel", "keepChars", "(II)V"⟩ prog_15_method_15_code 4 none) ∈ TB := TB_m (tc_11 (List.mem_of_getElem? (i := 220) rfl)) rfl
theorem tw_2621 : (Cond.methodLink "ProofLibraryModel" 521 ⟨"ProofLibraryModel", "keepLabel", "(I)V"⟩) ∈ TB := TB_m (tc_11 (List.mem_of_getElem? (i := 221) rfl)) rfl
theorem tw_2623 : (Cond.instanceMethod ⟨"ProofLibraryModel", "keepLabel", "(I)V"⟩) ∈ TB := TB_m (tc_11 (List.mem_of_getElem? (i := 223) rfl)) rfl
theorem tw_2624 : (Cond.code ⟨"ProofLibraryModel", "keepLabel", "(I)V"⟩ prog_15_method_14_code 3 none) ∈ TB := TB_m (tc_11 (List.mem_of_getElem? (i := 224) rfl)) rfl
theorem tw_2625 : (Cond.methodLink "ProofLibraryModel" 671 ⟨"ProofLibraryModel", "readFloating", "()V"⟩) ∈ TB := TB_m (tc_11 (List.mem_of_getElem? (i := 225) rfl)) rfl
theorem tw_2627 : (Cond.instanceMethod ⟨"ProofLibraryModel", "readFloating", "()V"⟩) ∈ TB := TB_m (tc_11 (List.mem_of_getElem? (i := 227) rfl)) rfl
theorem tw_2628 : (Cond.code ⟨"ProofLibraryModel", "readFloating", "()V"⟩ prog_15_method_37_code 3 none) ∈ TB := TB_m (tc_11 (List.mem_of_getElem? (i := 228) rfl)) rfl
theorem tw_2629 : (Cond.methodLink "ProofLibraryModel" 542 ⟨"ProofLibraryModel", "readFirst", "()V"⟩) ∈ TB := TB_m (tc_11 (List.mem_of_getElem? (i := 229) rfl)) rfl
theorem tw_2631 : (Cond.instanceMethod ⟨"ProofLibraryModel", "readFirst", "()V"⟩) ∈ TB := TB_m (tc_11 (List.mem_of_getElem? (i := 231) rfl)) rfl
theorem tw_2632 : (Cond.code ⟨"ProofLibraryModel", "readFirst", "()V"⟩ prog_15_method_35_code 3 none) ∈ TB := TB_m (tc_11 (List.mem_of_getElem? (i := 232) rfl)) rfl
theorem tw_2633 : (Cond.methodLink "ProofLibraryModel" 539 ⟨"ProofLibraryModel", "addSymbol", "(II)V"⟩) ∈ TB := TB_m (tc_11 (List.mem_of_getElem? (i := 233) rfl)) rfl
theorem tw_2635 : (Cond.instanceMethod ⟨"ProofLibraryModel", "addSymbol", "(II)V"⟩) ∈ TB := TB_m (tc_11 (List.mem_of_getElem? (i := 235) rfl)) rfl
theorem tw_2636 : (Cond.code ⟨"ProofLibraryModel", "addSymbol", "(II)V"⟩ prog_15_method_36_code 3 none) ∈ TB := TB_m (tc_11 (List.mem_of_getElem? (i := 236) rfl)) rfl
theorem tw_2637 : (Cond.methodLink "ProofLibraryModel" 545 ⟨"ProofLibraryModel", "finish", "(I)V"⟩) ∈ TB := TB_m (tc_11 (List.mem_of_getElem? (i := 237) rfl)) rfl
theorem tw_2639 : (Cond.instanceMethod ⟨"ProofLibraryModel", "finish", "(I)V"⟩) ∈ TB := TB_m (tc_11 (List.mem_of_getElem? (i := 239) rfl)) rfl
theorem tw_2640 : (Cond.code ⟨"ProofLibraryModel", "finish", "(I)V"⟩ prog_15_method_39_code 2 none) ∈ TB := TB_m (tc_12 (List.mem_of_getElem? (i := 0) rfl)) rfl
theorem tw_2641 : (Cond.methodLink "ProofLibraryModel" 548 ⟨"ProofLibraryModel", "activate", "()V"⟩) ∈ TB := TB_m (tc_12 (List.mem_of_getElem? (i := 1) rfl)) rfl
theorem tw_2643 : (Cond.instanceMethod ⟨"ProofLibraryModel", "activate", "()V"⟩) ∈ TB := TB_m (tc_12 (List.mem_of_getElem? (i := 3) rfl)) rfl
theorem tw_2644 : (Cond.code ⟨"ProofLibraryModel", "activate", "()V"⟩ prog_15_method_38_code 1 none) ∈ TB := TB_m (tc_12 (List.mem_of_getElem? (i := 4) rfl)) rfl
theorem tw_2645 : (Cond.methodLink "ProofLibraryModel" 597 ⟨"ProofLibraryModel", "readSymbols", "(I)V"⟩) ∈ TB := TB_m (tc_12 (List.mem_of_getElem? (i := 5) rfl)) rfl
theorem tw_2647 : (Cond.instanceMethod ⟨"ProofLibraryModel", "readSymbols", "(I)V"⟩) ∈ TB := TB_m (tc_12 (List.mem_of_getElem? (i := 7) rfl)) rfl
theorem tw_2648 : (Cond.code ⟨"ProofLibraryModel", "readSymbols", "(I)V"⟩ prog_15_method_40_code 3 none) ∈ TB := TB_m (tc_12 (List.mem_of_getElem? (i := 8) rfl)) rfl
theorem tw_2649 : (Cond.methodLink "ProofLibraryModel" 674 ⟨"ProofLibraryModel", "readAssertion", "(Z)V"⟩) ∈ TB := TB_m (tc_12 (List.mem_of_getElem? (i := 9) rfl)) rfl
theorem tw_2651 : (Cond.instanceMethod ⟨"ProofLibraryModel", "readAssertion", "(Z)V"⟩) ∈ TB := TB_m (tc_12 (List.mem_of_getElem? (i := 11) rfl)) rfl
theorem tw_2652 : (Cond.code ⟨"ProofLibraryModel", "readAssertion", "(Z)V"⟩ prog_15_method_63_code 2 none) ∈ TB := TB_m (tc_12 (List.mem_of_getElem? (i := 12) rfl)) rfl
theorem tw_2653 : (Cond.methodLink "ProofLibraryModel" 665 ⟨"ProofLibraryModel", "readTheorem", "()V"⟩) ∈ TB := TB_m (tc_12 (List.mem_of_getElem? (i := 13) rfl)) rfl
theorem tw_2655 : (Cond.instanceMethod ⟨"ProofLibraryModel", "readTheorem", "()V"⟩) ∈ TB := TB_m (tc_12 (List.mem_of_getElem? (i := 15) rfl)) rfl
theorem tw_2656 : (Cond.code ⟨"ProofLibraryModel", "readTheorem", "()V"⟩ prog_15_method_51_code 1 none) ∈ TB := TB_m (tc_12 (List.mem_of_getElem? (i := 16) rfl)) rfl
theorem tw_2657 : (Cond.methodLink "ProofLibraryModel" 600 ⟨"ProofLibraryModel", "makeFrame", "()V"⟩) ∈ TB := TB_m (tc_12 (List.mem_of_getElem? (i := 17) rfl)) rfl
theorem tw_2659 : (Cond.instanceMethod ⟨"ProofLibraryModel", "makeFrame", "()V"⟩) ∈ TB := TB_m (tc_12 (List.mem_of_getElem? (i := 19) rfl)) rfl
theorem tw_2660 : (Cond.code ⟨"ProofLibraryModel", "makeFrame", "()V"⟩ prog_15_method_42_code 3 none) ∈ TB := TB_m (tc_12 (List.mem_of_getElem? (i := 20) rfl)) rfl
theorem tw_2661 : (Cond.methodLink "ProofLibraryModel" 551 ⟨"ProofLibraryModel", "markOf", "(I)V"⟩) ∈ TB := TB_m (tc_12 (List.mem_of_getElem? (i := 21) rfl)) rfl
theorem tw_2663 : (Cond.instanceMethod ⟨"ProofLibraryModel", "markOf", "(I)V"⟩) ∈ TB := TB_m (tc_12 (List.mem_of_getElem? (i := 23) rfl)) rfl
theorem tw_2664 : (Cond.code ⟨"ProofLibraryModel", "markOf", "(I)V"⟩ prog_15_method_41_code 3 none) ∈ TB := TB_m (tc_12 (List.mem_of_getElem? (i := 24) rfl)) rfl
theorem tw_2665 : (Cond.methodLink "ProofLibraryModel" 603 ⟨"ProofLibraryModel", "readPacked", "()V"⟩) ∈ TB := TB_m (tc_12 (List.mem_of_getElem? (i := 25) rfl)) rfl
theorem tw_2667 : (Cond.instanceMethod ⟨"ProofLibraryModel", "readPacked", "()V"⟩) ∈ TB := TB_m (tc_12 (List.mem_of_getElem? (i := 27) rfl)) rfl
theorem tw_2668 : (Cond.code ⟨"ProofLibraryModel", "readPacked", "()V"⟩ prog_15_method_50_code 2 none) ∈ TB := TB_m (tc_12 (List.mem_of_getElem? (i := 28) rfl)) rfl
theorem tw_2669 : (Cond.methodLink "ProofLibraryModel" 591 ⟨"ProofLibraryModel", "readPackedLabels", "()V"⟩) ∈ TB := TB_m (tc_12 (List.mem_of_getElem? (i := 29) rfl)) rfl
theorem tw_2671 : (Cond.instanceMethod ⟨"ProofLibraryModel", "readPackedLabels", "()V"⟩) ∈ TB := TB_m (tc_12 (List.mem_of_getElem? (i := 31) rfl)) rfl
theorem tw_2672 : (Cond.code ⟨"ProofLibraryModel", "readPackedLabels", "()V"⟩ prog_15_method_47_code 4 none) ∈ TB := TB_m (tc_12 (List.mem_of_getElem? (i := 32) rfl)) rfl
theorem tw_2673 : (Cond.methodLink "ProofLibraryModel" 557 ⟨"ProofLibraryModel", "stepHere", "()I"⟩) ∈ TB := TB_m (tc_12 (List.mem_of_getElem? (i := 33) rfl)) rfl
theorem tw_2675 : (Cond.instanceMethod ⟨"ProofLibraryModel", "stepHere", "()I"⟩) ∈ TB := TB_m (tc_12 (List.mem_of_getElem? (i := 35) rfl)) rfl
theorem tw_2676 : (Cond.code ⟨"ProofLibraryModel", "stepHere", "()I"⟩ prog_15_method_44_code 4 (some .int)) ∈ TB := TB_m (tc_12 (List.mem_of_getElem? (i := 36) rfl)) rfl
theorem tw_2677 : (Cond.methodLink "ProofLibraryModel" 566 ⟨"ProofLibraryModel", "isMandatory", "(II)Z"⟩) ∈ TB := TB_m (tc_12 (List.mem_of_getElem? (i := 37) rfl)) rfl
theorem tw_2679 : (Cond.instanceMethod ⟨"ProofLibraryModel", "isMandatory", "(II)Z"⟩) ∈ TB := TB_m (tc_12 (List.mem_of_getElem? (i := 39) rfl)) rfl
theorem tw_2680 : (Cond.code ⟨"ProofLibraryModel", "isMandatory", "(II)Z"⟩ prog_15_method_43_code 5 (some .boolean)) ∈ TB := TB_m (tc_12 (List.mem_of_getElem? (i := 40) rfl)) rfl
theorem tw_2681 : (Cond.methodLink "ProofLibraryModel" 594 ⟨"ProofLibraryModel", "readLetter", "(II)V"⟩) ∈ TB := TB_m (tc_12 (List.mem_of_getElem? (i := 41) rfl)) rfl
theorem tw_2683 : (Cond.instanceMethod ⟨"ProofLibraryModel", "readLetter", "(II)V"⟩) ∈ TB := TB_m (tc_12 (List.mem_of_getElem? (i := 43) rfl)) rfl
theorem tw_2684 : (Cond.code ⟨"ProofLibraryModel", "readLetter", "(II)V"⟩ prog_15_method_49_code 3 none) ∈ TB := TB_m (tc_12 (List.mem_of_getElem? (i := 44) rfl)) rfl
theorem tw_2685 : (Cond.constantLong "ProofLibraryModel" 582 84) ∈ TB := TB_m (tc_12 (List.mem_of_getElem? (i := 45) rfl)) rfl
theorem tw_2686 : (Cond.methodLink "ProofLibraryModel" 584 ⟨"ProofLibraryModel", "endNumber", "(II)V"⟩) ∈ TB := TB_m (tc_12 (List.mem_of_getElem? (i := 46) rfl)) rfl
theorem tw_2688 : (Cond.instanceMethod ⟨"ProofLibraryModel", "endNumber", "(II)V"⟩) ∈ TB := TB_m (tc_12 (List.mem_of_getElem? (i := 48) rfl)) rfl
theorem tw_2689 : (Cond.code ⟨"ProofLibraryModel", "endNumber", "(II)V"⟩ prog_15_method_48_code 7 none) ∈ TB := TB_m (tc_12 (List.mem_of_getElem? (i := 49) rfl)) rfl
theorem tw_2690 : (Cond.constant "ProofLibraryModel" 569 1000000) ∈ TB := TB_m (tc_12 (List.mem_of_getElem? (i := 50) rfl)) rfl
theorem tw_2691 : (Cond.methodLink "ProofLibraryModel" 560 ⟨"ProofLibraryModel", "addStep", "(II)V"⟩) ∈ TB := TB_m (tc_12 (List.mem_of_getElem? (i := 51) rfl)) rfl
theorem tw_2693 : (Cond.instanceMethod ⟨"ProofLibraryModel", "addStep", "(II)V"⟩) ∈ TB := TB_m (tc_12 (List.mem_of_getElem? (i := 53) rfl)) rfl
theorem tw_2694 : (Cond.code ⟨"ProofLibraryModel", "addStep", "(II)V"⟩ prog_15_method_45_code 3 none) ∈ TB := TB_m (tc_12 (List.mem_of_getElem? (i := 54) rfl)) rfl
theorem tw_2695 : (Cond.constantLong "ProofLibraryModel" 587 85) ∈ TB := TB_m (tc_12 (List.mem_of_getElem? (i := 55) rfl)) rfl
theorem tw_2696 : (Cond.constantLong "ProofLibraryModel" 589 89) ∈ TB := TB_m (tc_12 (List.mem_of_getElem? (i := 56) rfl)) rfl
theorem tw_2697 : (Cond.methodLink "ProofLibraryModel" 606 ⟨"ProofLibraryModel", "readPlain", "()V"⟩) ∈ TB := TB_m (tc_12 (List.mem_of_getElem? (i := 57) rfl)) rfl
theorem tw_2699 : (Cond.instanceMethod ⟨"ProofLibraryModel", "readPlain", "()V"⟩) ∈ TB := TB_m (tc_12 (List.mem_of_getElem? (i := 59) rfl)) rfl
theorem tw_2700 : (Cond.code ⟨"ProofLibraryModel", "readPlain", "()V"⟩ prog_15_method_46_code 2 none) ∈ TB := TB_m (tc_12 (List.mem_of_getElem? (i := 60) rfl)) rfl
theorem tw_2701 : (Cond.methodLink "ProofLibraryModel" 612 ⟨"ProofLibraryModel", "verify", "()V"⟩) ∈ TB := TB_m (tc_12 (List.mem_of_getElem? (i := 61) rfl)) rfl
theorem tw_2703 : (Cond.instanceMethod ⟨"ProofLibraryModel", "verify", "()V"⟩) ∈ TB := TB_m (tc_12 (List.mem_of_getElem? (i := 63) rfl)) rfl
theorem tw_2704 : (Cond.code ⟨"ProofLibraryModel", "verify", "()V"⟩ prog_15_method_61_code 3 none) ∈ TB := TB_m (tc_12 (List.mem_of_getElem? (i := 64) rfl)) rfl
theorem tw_2705 : (Cond.methodLink "ProofLibraryModel" 659 ⟨"ProofLibraryModel", "beginSteps", "()V"⟩) ∈ TB := TB_m (tc_12 (List.mem_of_getElem? (i := 65) rfl)) rfl
theorem tw_2707 : (Cond.instanceMethod ⟨"ProofLibraryModel", "beginSteps", "()V"⟩) ∈ TB := TB_m (tc_12 (List.mem_of_getElem? (i := 67) rfl)) rfl
theorem tw_2708 : (Cond.code ⟨"ProofLibraryModel", "beginSteps", "()V"⟩ prog_15_method_59_code 1 none) ∈ TB := TB_m (tc_12 (List.mem_of_getElem? (i := 68) rfl)) rfl
theorem tw_2709 : (Cond.methodLink "ProofLibraryModel" 662 ⟨"ProofLibraryModel", "doStep", "(IIZ)V"⟩) ∈ TB := TB_m (tc_12 (List.mem_of_getElem? (i := 69) rfl)) rfl
theorem tw_2711 : (Cond.instanceMethod ⟨"ProofLibraryModel", "doStep", "(IIZ)V"⟩) ∈ TB := TB_m (tc_12 (List.mem_of_getElem? (i := 71) rfl)) rfl
theorem tw_2712 : (Cond.code ⟨"ProofLibraryModel", "doStep", "(IIZ)V"⟩ prog_15_method_60_code 5 none) ∈ TB := TB_m (tc_12 (List.mem_of_getElem? (i := 72) rfl)) rfl
theorem tw_2713 : (Cond.methodLink "ProofLibraryModel" 646 ⟨"ProofLibraryModel", "pushRow", "([IIII)V"⟩) ∈ TB := TB_m (tc_12 (List.mem_of_getElem? (i := 73) rfl)) rfl
theorem tw_2715 : (Cond.instanceMethod ⟨"ProofLibraryModel", "pushRow", "([IIII)V"⟩) ∈ TB := TB_m (tc_12 (List.mem_of_getElem? (i := 75) rfl)) rfl
theorem tw_2716 : (Cond.code ⟨"ProofLibraryModel", "pushRow", "([IIII)V"⟩ prog_15_method_53_code 6 none) ∈ TB := TB_m (tc_12 (List.mem_of_getElem? (i := 76) rfl)) rfl
theorem tw_2717 : (Cond.constant "ProofLibraryModel" 630 40000) ∈ TB := TB_m (tc_12 (List.mem_of_getElem? (i := 77) rfl)) rfl
theorem tw_2718 : (Cond.methodLink "ProofLibraryModel" 631 ⟨"ProofLibraryModel", "wrong", "(I)V"⟩) ∈ TB := TB_m (tc_12 (List.mem_of_getElem? (i := 78) rfl)) rfl
theorem tw_2720 : (Cond.instanceMethod ⟨"ProofLibraryModel", "wrong", "(I)V"⟩) ∈ TB := TB_m (tc_12 (List.mem_of_getElem? (i := 80) rfl)) rfl
theorem tw_2721 : (Cond.code ⟨"ProofLibraryModel", "wrong", "(I)V"⟩ prog_15_method_52_code 2 none) ∈ TB := TB_m (tc_12 (List.mem_of_getElem? (i := 81) rfl)) rfl
theorem tw_2722 : (Cond.methodLink "ProofLibraryModel" 653 ⟨"ProofLibraryModel", "applyStep", "(IIZ)V"⟩) ∈ TB := TB_m (tc_12 (List.mem_of_getElem? (i := 82) rfl)) rfl
theorem tw_2724 : (Cond.instanceMethod ⟨"ProofLibraryModel", "applyStep", "(IIZ)V"⟩) ∈ TB := TB_m (tc_12 (List.mem_of_getElem? (i := 84) rfl)) rfl
theorem tw_2725 : (Cond.code ⟨"ProofLibraryModel", "applyStep", "(IIZ)V"⟩ prog_15_method_57_code 9 none) ∈ TB := TB_m (tc_12 (List.mem_of_getElem? (i := 85) rfl)) rfl
theorem tw_2726 : (Cond.methodLink "ProofLibraryModel" 637 ⟨"ProofLibraryModel", "replace", "(I)V"⟩) ∈ TB := TB_m (tc_12 (List.mem_of_getElem? (i := 86) rfl)) rfl
theorem tw_2728 : (Cond.instanceMethod ⟨"ProofLibraryModel", "replace", "(I)V"⟩) ∈ TB := TB_m (tc_12 (List.mem_of_getElem? (i := 88) rfl)) rfl
theorem tw_2729 : (Cond.code ⟨"ProofLibraryModel", "replace", "(I)V"⟩ prog_15_method_54_code 6 none) ∈ TB := TB_m (tc_12 (List.mem_of_getElem? (i := 89) rfl)) rfl
theorem tw_2730 : (Cond.methodLink "ProofLibraryModel" 640 ⟨"ProofLibraryModel", "isMade", "(II)Z"⟩) ∈ TB := TB_m (tc_12 (List.mem_of_getElem? (i := 90) rfl)) rfl
theorem tw_2732 : (Cond.instanceMethod ⟨"ProofLibraryModel", "isMade", "(II)Z"⟩) ∈ TB := TB_m (tc_12 (List.mem_of_getElem? (i := 92) rfl)) rfl
theorem tw_2733 : (Cond.code ⟨"ProofLibraryModel", "isMade", "(II)Z"⟩ prog_15_method_55_code 4 (some .boolean)) ∈ TB := TB_m (tc_12 (List.mem_of_getElem? (i := 93) rfl)) rfl
theorem tw_2734 : (Cond.methodLink "ProofLibraryModel" 643 ⟨"ProofLibraryModel", "areKept", "(II)Z"⟩) ∈ TB := TB_m (tc_12 (List.mem_of_getElem? (i := 94) rfl)) rfl
theorem tw_2736 : (Cond.instanceMethod ⟨"ProofLibraryModel", "areKept", "(II)Z"⟩) ∈ TB := TB_m (tc_12 (List.mem_of_getElem? (i := 96) rfl)) rfl
theorem tw_2737 : (Cond.code ⟨"ProofLibraryModel", "areKept", "(II)Z"⟩ prog_15_method_56_code 7 (some .boolean)) ∈ TB := TB_m (tc_12 (List.mem_of_getElem? (i := 97) rfl)) rfl
theorem tw_2738 : (Cond.methodLink "ProofLibraryModel" 497 ⟨"ProofLibraryModel", "areApart", "(II)Z"⟩) ∈ TB := TB_m (tc_12 (List.mem_of_getElem? (i := 98) rfl)) rfl
theorem tw_2740 : (Cond.instanceMethod ⟨"ProofLibraryModel", "areApart", "(II)Z"⟩) ∈ TB := TB_m (tc_12 (List.mem_of_getElem? (i := 100) rfl)) rfl
theorem tw_2741 : (Cond.code ⟨"ProofLibraryModel", "areApart", "(II)Z"⟩ prog_15_method_16_code 3 (some .boolean)) ∈ TB := TB_m (tc_12 (List.mem_of_getElem? (i := 101) rfl)) rfl
theorem tw_2742 : (Cond.methodLink "ProofLibraryModel" 656 ⟨"ProofLibraryModel", "saveTop", "()V"⟩) ∈ TB := TB_m (tc_12 (List.mem_of_getElem? (i := 102) rfl)) rfl
theorem tw_2744 : (Cond.instanceMethod ⟨"ProofLibraryModel", "saveTop", "()V"⟩) ∈ TB := TB_m (tc_12 (List.mem_of_getElem? (i := 104) rfl)) rfl
theorem tw_2745 : (Cond.code ⟨"ProofLibraryModel", "saveTop", "()V"⟩ prog_15_method_58_code 3 none) ∈ TB := TB_m (tc_12 (List.mem_of_getElem? (i := 105) rfl)) rfl
theorem tw_2746 : (Cond.methodLink "ProofLibraryModel" 615 ⟨"ProofLibraryModel", "restOf", "()V"⟩) ∈ TB := TB_m (tc_12 (List.mem_of_getElem? (i := 106) rfl)) rfl
theorem tw_2748 : (Cond.instanceMethod ⟨"ProofLibraryModel", "restOf", "()V"⟩) ∈ TB := TB_m (tc_12 (List.mem_of_getElem? (i := 108) rfl)) rfl
theorem tw_2749 : (Cond.code ⟨"ProofLibraryModel", "restOf", "()V"⟩ prog_15_method_62_code 4 none) ∈ TB := TB_m (tc_12 (List.mem_of_getElem? (i := 109) rfl)) rfl
theorem tw_2750 : (Cond.methodLink "ProofLibraryModel" 687 ⟨"ProofLibraryModel", "readDeclared", "(Z)V"⟩) ∈ TB := TB_m (tc_12 (List.mem_of_getElem? (i := 110) rfl)) rfl
theorem tw_2752 : (Cond.instanceMethod ⟨"ProofLibraryModel", "readDeclared", "(Z)V"⟩) ∈ TB := TB_m (tc_12 (List.mem_of_getElem? (i := 112) rfl)) rfl
theorem tw_2753 : (Cond.code ⟨"ProofLibraryModel", "readDeclared", "(Z)V"⟩ prog_15_method_31_code 3 none) ∈ TB := TB_m (tc_12 (List.mem_of_getElem? (i := 113) rfl)) rfl
theorem tw_2754 : (Cond.methodLink "ProofLibraryModel" 493 ⟨"ProofLibraryModel", "declare", "(Z)V"⟩) ∈ TB := TB_m (tc_12 (List.mem_of_getElem? (i := 114) rfl)) rfl
theorem tw_2756 : (Cond.instanceMethod ⟨"ProofLibraryModel", "declare", "(Z)V"⟩) ∈ TB := TB_m (tc_12 (List.mem_of_getElem? (i := 116) rfl)) rfl
theorem tw_2757 : (Cond.code ⟨"ProofLibraryModel", "declare", "(Z)V"⟩ prog_15_method_29_code 5 none) ∈ TB := TB_m (tc_12 (List.mem_of_getElem? (i := 117) rfl)) rfl
theorem tw_2758 : (Cond.methodLink "ProofLibraryModel" 484 ⟨"ProofLibraryModel", "keepSymbol", "(I)V"⟩) ∈ TB := TB_m (tc_12 (List.mem_of_getElem? (i := 118) rfl)) rfl
theorem tw_2760 : (Cond.instanceMethod ⟨"ProofLibraryModel", "keepSymbol", "(I)V"⟩) ∈ TB := TB_m (tc_12 (List.mem_of_getElem? (i := 120) rfl)) rfl
theorem tw_2761 : (Cond.code ⟨"ProofLibraryModel", "keepSymbol", "(I)V"⟩ prog_15_method_13_code 3 none) ∈ TB := TB_m (tc_12 (List.mem_of_getElem? (i := 121) rfl)) rfl
theorem tw_2762 : (Cond.methodLink "ProofLibraryModel" 487 ⟨"ProofLibraryModel", "markNamed", "(I)V"⟩) ∈ TB := TB_m (tc_12 (List.mem_of_getElem? (i := 122) rfl)) rfl
theorem tw_2764 : (Cond.instanceMethod ⟨"ProofLibraryModel", "markNamed", "(I)V"⟩) ∈ TB := TB_m (tc_12 (List.mem_of_getElem? (i := 124) rfl)) rfl
theorem tw_2765 : (Cond.code ⟨"ProofLibraryModel", "markNamed", "(I)V"⟩ prog_15_method_30_code 3 none) ∈ TB := TB_m (tc_12 (List.mem_of_getElem? (i := 125) rfl)) rfl
theorem tw_2766 : (Cond.methodLink "ProofLibraryModel" 690 ⟨"ProofLibraryModel", "readApart", "()V"⟩) ∈ TB := TB_m (tc_12 (List.mem_of_getElem? (i := 126) rfl)) rfl
theorem tw_2768 : (Cond.instanceMethod ⟨"ProofLibraryModel", "readApart", "()V"⟩) ∈ TB := TB_m (tc_12 (List.mem_of_getElem? (i := 128) rfl)) rfl
theorem tw_2769 : (Cond.code ⟨"ProofLibraryModel", "readApart", "()V"⟩ prog_15_method_32_code 5 none) ∈ TB := TB_m (tc_12 (List.mem_of_getElem? (i := 129) rfl)) rfl
theorem tw_2770 : (Cond.methodLink "ProofLibraryModel" 414 ⟨"ProofLibraryModel", "setApart", "(IIZ)V"⟩) ∈ TB := TB_m (tc_12 (List.mem_of_getElem? (i := 130) rfl)) rfl
theorem tw_2772 : (Cond.instanceMethod ⟨"ProofLibraryModel", "setApart", "(IIZ)V"⟩) ∈ TB := TB_m (tc_12 (List.mem_of_getElem? (i := 132) rfl)) rfl
theorem tw_2773 : (Cond.code ⟨"ProofLibraryModel", "setApart", "(IIZ)V"⟩ prog_15_method_17_code 8 none) ∈ TB := TB_m (tc_12 (List.mem_of_getElem? (i := 133) rfl)) rfl
theorem tw_2774 : (Cond.constantLong "ProofLibraryModel" 403 (-1)) ∈ TB := TB_m (tc_12 (List.mem_of_getElem? (i := 134) rfl)) rfl
theorem tw_2775 : (Cond.methodLink "ProofLibraryModel" 693 ⟨"ProofLibraryModel", "readScope", "(Z)V"⟩) ∈ TB := TB_m (tc_12 (List.mem_of_getElem? (i := 135) rfl)) rfl
theorem tw_2777 : (Cond.instanceMethod ⟨"ProofLibraryModel", "readScope", "(Z)V"⟩) ∈ TB := TB_m (tc_12 (List.mem_of_getElem? (i := 137) rfl)) rfl
theorem tw_2778 : (Cond.code ⟨"ProofLibraryModel", "readScope", "(Z)V"⟩ prog_15_method_65_code 2 none) ∈ TB := TB_m (tc_12 (List.mem_of_getElem? (i := 138) rfl)) rfl
theorem tw_2779 : (Cond.methodLink "ProofLibraryModel" 680 ⟨"ProofLibraryModel", "dropTo", "(III)V"⟩) ∈ TB := TB_m (tc_12 (List.mem_of_getElem? (i := 139) rfl)) rfl
theorem tw_2781 : (Cond.instanceMethod ⟨"ProofLibraryModel", "dropTo", "(III)V"⟩) ∈ TB := TB_m (tc_12 (List.mem_of_getElem? (i := 141) rfl)) rfl
theorem tw_2782 : (Cond.code ⟨"ProofLibraryModel", "dropTo", "(III)V"⟩ prog_15_method_18_code 5 none) ∈ TB := TB_m (tc_12 (List.mem_of_getElem? (i := 142) rfl)) rfl
theorem tw_2783 : (Cond.methodLink "ProofLibraryModel" 702 ⟨"ProofLibraryModel", "forgetText", "(IIIIII)V"⟩) ∈ TB := TB_m (tc_12 (List.mem_of_getElem? (i := 143) rfl)) rfl
theorem tw_2785 : (Cond.instanceMethod ⟨"ProofLibraryModel", "forgetText", "(IIIIII)V"⟩) ∈ TB := TB_m (tc_12 (List.mem_of_getElem? (i := 145) rfl)) rfl
theorem tw_2786 : (Cond.code ⟨"ProofLibraryModel", "forgetText", "(IIIIII)V"⟩ prog_15_method_68_code 8 none) ∈ TB := TB_m (tc_12 (List.mem_of_getElem? (i := 146) rfl)) rfl
theorem tw_2787 : (Cond.methodLink "ProofLibraryModel" 706 ⟨"ProofLibraryModel", "forgetTrees", "(I)V"⟩) ∈ TB := TB_m (tc_12 (List.mem_of_getElem? (i := 147) rfl)) rfl
theorem tw_2789 : (Cond.instanceMethod ⟨"ProofLibraryModel", "forgetTrees", "(I)V"⟩) ∈ TB := TB_m (tc_12 (List.mem_of_getElem? (i := 149) rfl)) rfl
theorem tw_2790 : (Cond.code ⟨"ProofLibraryModel", "forgetTrees", "(I)V"⟩ prog_15_method_135_code 3 none) ∈ TB := TB_m (tc_12 (List.mem_of_getElem? (i := 150) rfl)) rfl
theorem tw_2791 : (Cond.methodLink "ProofLibraryLaw" 31 ⟨"ProofLibraryModel", "place", "()I"⟩) ∈ TB := TB_m (tc_12 (List.mem_of_getElem? (i := 151) rfl)) rfl
theorem tw_2792 : (Cond.instanceMethod ⟨"ProofLibraryModel", "place", "()I"⟩) ∈ TB := TB_m (tc_12 (List.mem_of_getElem? (i := 152) rfl)) rfl
theorem tw_2793 : (Cond.selects "ProofLibraryModel" ⟨"ProofLibraryModel", "place", "()I"⟩ ⟨"ProofLibraryModel", "place", "()I"⟩) ∈ TB := TB_m (tc_12 (List.mem_of_getElem? (i := 153) rfl)) rfl
theorem tw_2794 : (Cond.code ⟨"ProofLibraryModel", "place", "()I"⟩ prog_15_method_70_code 1 (some .int)) ∈ TB := TB_m (tc_12 (List.mem_of_getElem? (i := 154) rfl)) rfl
theorem tw_2795 : (Cond.methodLink "ProofLibraryLaw" 35 ⟨"ProofLibraryModel", "count", "(I)I"⟩) ∈ TB := TB_m (tc_12 (List.mem_of_getElem? (i := 155) rfl)) rfl
theorem tw_2796 : (Cond.instanceMethod ⟨"ProofLibraryModel", "count", "(I)I"⟩) ∈ TB := TB_m (tc_12 (List.mem_of_getElem? (i := 156) rfl)) rfl
theorem tw_2797 : (Cond.selects "ProofLibraryModel" ⟨"ProofLibraryModel", "count", "(I)I"⟩ ⟨"ProofLibraryModel", "count", "(I)I"⟩) ∈ TB := TB_m (tc_12 (List.mem_of_getElem? (i := 157) rfl)) rfl
theorem tw_2798 : (Cond.code ⟨"ProofLibraryModel", "count", "(I)I"⟩ prog_15_method_74_code 6 (some .int)) ∈ TB := TB_m (tc_12 (List.mem_of_getElem? (i := 158) rfl)) rfl
theorem tw_2799 : (Cond.methodLink "ProofLibraryLaw" 39 ⟨"ProofLibraryModel", "kind", "(I)I"⟩) ∈ TB := TB_m (tc_12 (List.mem_of_getElem? (i := 159) rfl)) rfl
theorem tw_2800 : (Cond.instanceMethod ⟨"ProofLibraryModel", "kind", "(I)I"⟩) ∈ TB := TB_m (tc_12 (List.mem_of_getElem? (i := 160) rfl)) rfl
theorem tw_2801 : (Cond.selects "ProofLibraryModel" ⟨"ProofLibraryModel", "kind", "(I)I"⟩ ⟨"ProofLibraryModel", "kind", "(I)I"⟩) ∈ TB := TB_m (tc_12 (List.mem_of_getElem? (i := 161) rfl)) rfl
theorem tw_2802 : (Cond.code ⟨"ProofLibraryModel", "kind", "(I)I"⟩ prog_15_method_75_code 2 (some .int)) ∈ TB := TB_m (tc_12 (List.mem_of_getElem? (i := 162) rfl)) rfl
theorem tw_2803 : (Cond.methodLink "ProofLibraryModel" 709 ⟨"ProofLibraryModel", "isStatement", "(I)Z"⟩) ∈ TB := TB_m (tc_12 (List.mem_of_getElem? (i := 163) rfl)) rfl
theorem tw_2805 : (Cond.instanceMethod ⟨"ProofLibraryModel", "isStatement", "(I)Z"⟩) ∈ TB := TB_m (tc_12 (List.mem_of_getElem? (i := 165) rfl)) rfl
theorem tw_2806 : (Cond.code ⟨"ProofLibraryModel", "isStatement", "(I)Z"⟩ prog_15_method_71_code 2 (some .boolean)) ∈ TB := TB_m (tc_12 (List.mem_of_getElem? (i := 166) rfl)) rfl
theorem tw_2807 : (Cond.methodLink "ProofLibraryLaw" 43 ⟨"ProofLibraryModel", "length", "(I)I"⟩) ∈ TB := TB_m (tc_12 (List.mem_of_getElem? (i := 167) rfl)) rfl
theorem tw_2808 : (Cond.instanceMethod ⟨"ProofLibraryModel", "length", "(I)I"⟩) ∈ TB := TB_m (tc_12 (List.mem_of_getElem? (i := 168) rfl)) rfl
theorem tw_2809 : (Cond.selects "ProofLibraryModel" ⟨"ProofLibraryModel", "length", "(I)I"⟩ ⟨"ProofLibraryModel", "length", "(I)I"⟩) ∈ TB := TB_m (tc_12 (List.mem_of_getElem? (i := 169) rfl)) rfl
theorem tw_2810 : (Cond.code ⟨"ProofLibraryModel", "length", "(I)I"⟩ prog_15_method_76_code 2 (some .int)) ∈ TB := TB_m (tc_12 (List.mem_of_getElem? (i := 170) rfl)) rfl
theorem tw_2811 : (Cond.methodLink "ProofLibraryLaw" 48 ⟨"ProofLibraryModel", "symbol", "(II)I"⟩) ∈ TB := TB_m (tc_12 (List.mem_of_getElem? (i := 171) rfl)) rfl
theorem tw_2812 : (Cond.instanceMethod ⟨"ProofLibraryModel", "symbol", "(II)I"⟩) ∈ TB := TB_m (tc_12 (List.mem_of_getElem? (i := 172) rfl)) rfl
theorem tw_2813 : (Cond.selects "ProofLibraryModel" ⟨"ProofLibraryModel", "symbol", "(II)I"⟩ ⟨"ProofLibraryModel", "symbol", "(II)I"⟩) ∈ TB := TB_m (tc_12 (List.mem_of_getElem? (i := 173) rfl)) rfl
theorem tw_2814 : (Cond.code ⟨"ProofLibraryModel", "symbol", "(II)I"⟩ prog_15_method_77_code 3 (some .int)) ∈ TB := TB_m (tc_12 (List.mem_of_getElem? (i := 174) rfl)) rfl
theorem tw_2815 : (Cond.methodLink "ProofLibraryLaw" 52 ⟨"ProofLibraryModel", "variable", "(I)I"⟩) ∈ TB := TB_m (tc_12 (List.mem_of_getElem? (i := 175) rfl)) rfl
theorem tw_2816 : (Cond.instanceMethod ⟨"ProofLibraryModel", "variable", "(I)I"⟩) ∈ TB := TB_m (tc_12 (List.mem_of_getElem? (i := 176) rfl)) rfl
theorem tw_2817 : (Cond.selects "ProofLibraryModel" ⟨"ProofLibraryModel", "variable", "(I)I"⟩ ⟨"ProofLibraryModel", "variable", "(I)I"⟩) ∈ TB := TB_m (tc_12 (List.mem_of_getElem? (i := 177) rfl)) rfl
theorem tw_2818 : (Cond.code ⟨"ProofLibraryModel", "variable", "(I)I"⟩ prog_15_method_78_code 2 (some .int)) ∈ TB := TB_m (tc_12 (List.mem_of_getElem? (i := 178) rfl)) rfl
theorem tw_2819 : (Cond.methodLink "ProofLibraryLaw" 56 ⟨"ProofLibraryModel", "find", "(I)I"⟩) ∈ TB := TB_m (tc_12 (List.mem_of_getElem? (i := 179) rfl)) rfl
theorem tw_2820 : (Cond.instanceMethod ⟨"ProofLibraryModel", "find", "(I)I"⟩) ∈ TB := TB_m (tc_12 (List.mem_of_getElem? (i := 180) rfl)) rfl
theorem tw_2821 : (Cond.selects "ProofLibraryModel" ⟨"ProofLibraryModel", "find", "(I)I"⟩ ⟨"ProofLibraryModel", "find", "(I)I"⟩) ∈ TB := TB_m (tc_12 (List.mem_of_getElem? (i := 181) rfl)) rfl
theorem tw_2822 : (Cond.code ⟨"ProofLibraryModel", "find", "(I)I"⟩ prog_15_method_81_code 7 (some .int)) ∈ TB := TB_m (tc_12 (List.mem_of_getElem? (i := 182) rfl)) rfl
theorem tw_2823 : (Cond.methodLink "ProofLibraryModel" 712 ⟨"ProofLibraryModel", "rowFrom", "(I)I"⟩) ∈ TB := TB_m (tc_12 (List.mem_of_getElem? (i := 183) rfl)) rfl
theorem tw_2825 : (Cond.instanceMethod ⟨"ProofLibraryModel", "rowFrom", "(I)I"⟩) ∈ TB := TB_m (tc_12 (List.mem_of_getElem? (i := 185) rfl)) rfl
theorem tw_2826 : (Cond.code ⟨"ProofLibraryModel", "rowFrom", "(I)I"⟩ prog_15_method_79_code 2 (some .int)) ∈ TB := TB_m (tc_12 (List.mem_of_getElem? (i := 186) rfl)) rfl
theorem tw_2827 : (Cond.methodLink "ProofLibraryModel" 716 ⟨"ProofLibraryModel", "useTape", "()V"⟩) ∈ TB := TB_m (tc_12 (List.mem_of_getElem? (i := 187) rfl)) rfl
theorem tw_2829 : (Cond.instanceMethod ⟨"ProofLibraryModel", "useTape", "()V"⟩) ∈ TB := TB_m (tc_12 (List.mem_of_getElem? (i := 189) rfl)) rfl
theorem tw_2830 : (Cond.code ⟨"ProofLibraryModel", "useTape", "()V"⟩ prog_15_method_80_code 1 none) ∈ TB := TB_m (tc_12 (List.mem_of_getElem? (i := 190) rfl)) rfl
theorem tw_2831 : (Cond.methodLink "ProofLibraryLaw" 60 ⟨"ProofLibraryModel", "frame", "(II)I"⟩) ∈ TB := TB_m (tc_12 (List.mem_of_getElem? (i := 191) rfl)) rfl
theorem tw_2832 : (Cond.instanceMethod ⟨"ProofLibraryModel", "frame", "(II)I"⟩) ∈ TB := TB_m (tc_12 (List.mem_of_getElem? (i := 192) rfl)) rfl
theorem tw_2833 : (Cond.selects "ProofLibraryModel" ⟨"ProofLibraryModel", "frame", "(II)I"⟩ ⟨"ProofLibraryModel", "frame", "(II)I"⟩) ∈ TB := TB_m (tc_12 (List.mem_of_getElem? (i := 193) rfl)) rfl
theorem tw_2834 : (Cond.code ⟨"ProofLibraryModel", "frame", "(II)I"⟩ prog_15_method_83_code 3 (some .int)) ∈ TB := TB_m (tc_12 (List.mem_of_getElem? (i := 194) rfl)) rfl
theorem tw_2835 : (Cond.methodLink "ProofLibraryModel" 719 ⟨"ProofLibraryModel", "isAssertion", "(I)Z"⟩) ∈ TB := TB_m (tc_12 (List.mem_of_getElem? (i := 195) rfl)) rfl
theorem tw_2837 : (Cond.instanceMethod ⟨"ProofLibraryModel", "isAssertion", "(I)Z"⟩) ∈ TB := TB_m (tc_12 (List.mem_of_getElem? (i := 197) rfl)) rfl
theorem tw_2838 : (Cond.code ⟨"ProofLibraryModel", "isAssertion", "(I)Z"⟩ prog_15_method_72_code 2 (some .boolean)) ∈ TB := TB_m (tc_12 (List.mem_of_getElem? (i := 198) rfl)) rfl
theorem tw_2839 : (Cond.constantLong "ProofLibraryModel" 722 2) ∈ TB := TB_m (tc_12 (List.mem_of_getElem? (i := 199) rfl)) rfl
theorem tw_2840 : (Cond.methodLink "ProofLibraryModel" 724 ⟨"ProofLibraryModel", "resting", "(I)I"⟩) ∈ TB := TB_m (tc_12 (List.mem_of_getElem? (i := 200) rfl)) rfl
theorem tw_2842 : (Cond.instanceMethod ⟨"ProofLibraryModel", "resting", "(I)I"⟩) ∈ TB := TB_m (tc_12 (List.mem_of_getElem? (i := 202) rfl)) rfl
theorem tw_2843 : (Cond.code ⟨"ProofLibraryModel", "resting", "(I)I"⟩ prog_15_method_82_code 4 (some .int)) ∈ TB := TB_m (tc_12 (List.mem_of_getElem? (i := 203) rfl)) rfl
theorem tw_2844 : (Cond.methodLink "ProofLibraryLaw" 64 ⟨"ProofLibraryModel", "hypothesis", "(II)I"⟩) ∈ TB := TB_m (tc_12 (List.mem_of_getElem? (i := 204) rfl)) rfl
theorem tw_2845 : (Cond.instanceMethod ⟨"ProofLibraryModel", "hypothesis", "(II)I"⟩) ∈ TB := TB_m (tc_12 (List.mem_of_getElem? (i := 205) rfl)) rfl
theorem tw_2846 : (Cond.selects "ProofLibraryModel" ⟨"ProofLibraryModel", "hypothesis", "(II)I"⟩ ⟨"ProofLibraryModel", "hypothesis", "(II)I"⟩) ∈ TB := TB_m (tc_12 (List.mem_of_getElem? (i := 206) rfl)) rfl
theorem tw_2847 : (Cond.code ⟨"ProofLibraryModel", "hypothesis", "(II)I"⟩ prog_15_method_84_code 3 (some .int)) ∈ TB := TB_m (tc_12 (List.mem_of_getElem? (i := 207) rfl)) rfl
theorem tw_2848 : (Cond.methodLink "ProofLibraryLaw" 69 ⟨"ProofLibraryModel", "apart", "(III)I"⟩) ∈ TB := TB_m (tc_12 (List.mem_of_getElem? (i := 208) rfl)) rfl
theorem tw_2849 : (Cond.instanceMethod ⟨"ProofLibraryModel", "apart", "(III)I"⟩) ∈ TB := TB_m (tc_12 (List.mem_of_getElem? (i := 209) rfl)) rfl
theorem tw_2850 : (Cond.selects "ProofLibraryModel" ⟨"ProofLibraryModel", "apart", "(III)I"⟩ ⟨"ProofLibraryModel", "apart", "(III)I"⟩) ∈ TB := TB_m (tc_12 (List.mem_of_getElem? (i := 210) rfl)) rfl
theorem tw_2851 : (Cond.code ⟨"ProofLibraryModel", "apart", "(III)I"⟩ prog_15_method_85_code 5 (some .int)) ∈ TB := TB_m (tc_12 (List.mem_of_getElem? (i := 211) rfl)) rfl
theorem tw_2852 : (Cond.methodLink "ProofLibraryLaw" 73 ⟨"ProofLibraryModel", "rows", "(I)I"⟩) ∈ TB := TB_m (tc_12 (List.mem_of_getElem? (i := 212) rfl)) rfl
theorem tw_2853 : (Cond.instanceMethod ⟨"ProofLibraryModel", "rows", "(I)I"⟩) ∈ TB := TB_m (tc_12 (List.mem_of_getElem? (i := 213) rfl)) rfl
theorem tw_2854 : (Cond.selects "ProofLibraryModel" ⟨"ProofLibraryModel", "rows", "(I)I"⟩ ⟨"ProofLibraryModel", "rows", "(I)I"⟩) ∈ TB := TB_m (tc_12 (List.mem_of_getElem? (i := 214) rfl)) rfl
theorem tw_2855 : (Cond.code ⟨"ProofLibraryModel", "rows", "(I)I"⟩ prog_15_method_88_code 2 (some .int)) ∈ TB := TB_m (tc_12 (List.mem_of_getElem? (i := 215) rfl)) rfl
theorem tw_2856 : (Cond.methodLink "ProofLibraryModel" 736 ⟨"ProofLibraryModel", "isProved", "(I)Z"⟩) ∈ TB := TB_m (tc_12 (List.mem_of_getElem? (i := 216) rfl)) rfl
theorem tw_2858 : (Cond.instanceMethod ⟨"ProofLibraryModel", "isProved", "(I)Z"⟩) ∈ TB := TB_m (tc_12 (List.mem_of_getElem? (i := 218) rfl)) rfl
theorem tw_2859 : (Cond.code ⟨"ProofLibraryModel", "isProved", "(I)Z"⟩ prog_15_method_73_code 2 (some .boolean)) ∈ TB := TB_m (tc_12 (List.mem_of_getElem? (i := 219) rfl)) rfl
theorem tw_2860 : (Cond.methodLink "ProofLibraryModel" 739 ⟨"ProofLibraryModel", "makeRows", "(I)V"⟩) ∈ TB := TB_m (tc_12 (List.mem_of_getElem? (i := 220) rfl)) rfl
theorem tw_2862 : (Cond.instanceMethod ⟨"ProofLibraryModel", "makeRows", "(I)V"⟩) ∈ TB := TB_m (tc_12 (List.mem_of_getElem? (i := 222) rfl)) rfl
theorem tw_2863 : (Cond.code ⟨"ProofLibraryModel", "makeRows", "(I)V"⟩ prog_15_method_86_code 6 none) ∈ TB := TB_m (tc_12 (List.mem_of_getElem? (i := 223) rfl)) rfl
theorem tw_2864 : (Cond.methodLink "ProofLibraryLaw" 77 ⟨"ProofLibraryModel", "row", "(II)I"⟩) ∈ TB := TB_m (tc_12 (List.mem_of_getElem? (i := 224) rfl)) rfl
theorem tw_2865 : (Cond.instanceMethod ⟨"ProofLibraryModel", "row", "(II)I"⟩) ∈ TB := TB_m (tc_12 (List.mem_of_getElem? (i := 225) rfl)) rfl
theorem tw_2866 : (Cond.selects "ProofLibraryModel" ⟨"ProofLibraryModel", "row", "(II)I"⟩ ⟨"ProofLibraryModel", "row", "(II)I"⟩) ∈ TB := TB_m (tc_12 (List.mem_of_getElem? (i := 226) rfl)) rfl
theorem tw_2867 : (Cond.code ⟨"ProofLibraryModel", "row", "(II)I"⟩ prog_15_method_90_code 3 (some .int)) ∈ TB := TB_m (tc_12 (List.mem_of_getElem? (i := 227) rfl)) rfl
theorem tw_2868 : (Cond.methodLink "ProofLibraryModel" 745 ⟨"ProofLibraryModel", "isRow", "(II)Z"⟩) ∈ TB := TB_m (tc_12 (List.mem_of_getElem? (i := 228) rfl)) rfl
theorem tw_2870 : (Cond.instanceMethod ⟨"ProofLibraryModel", "isRow", "(II)Z"⟩) ∈ TB := TB_m (tc_12 (List.mem_of_getElem? (i := 230) rfl)) rfl
theorem tw_2871 : (Cond.code ⟨"ProofLibraryModel", "isRow", "(II)Z"⟩ prog_15_method_89_code 3 (some .boolean)) ∈ TB := TB_m (tc_12 (List.mem_of_getElem? (i := 231) rfl)) rfl
theorem tw_2872 : (Cond.methodLink "ProofLibraryModel" 742 ⟨"ProofLibraryModel", "rows", "(I)I"⟩) ∈ TB := TB_m (tc_12 (List.mem_of_getElem? (i := 232) rfl)) rfl
theorem tw_2873 : (Cond.methodLink "ProofLibraryLaw" 81 ⟨"ProofLibraryModel", "from", "(III)I"⟩) ∈ TB := TB_m (tc_12 (List.mem_of_getElem? (i := 233) rfl)) rfl
theorem tw_2874 : (Cond.instanceMethod ⟨"ProofLibraryModel", "from", "(III)I"⟩) ∈ TB := TB_m (tc_12 (List.mem_of_getElem? (i := 234) rfl)) rfl
theorem tw_2875 : (Cond.selects "ProofLibraryModel" ⟨"ProofLibraryModel", "from", "(III)I"⟩ ⟨"ProofLibraryModel", "from", "(III)I"⟩) ∈ TB := TB_m (tc_12 (List.mem_of_getElem? (i := 235) rfl)) rfl
theorem tw_2876 : (Cond.code ⟨"ProofLibraryModel", "from", "(III)I"⟩ prog_15_method_91_code 4 (some .int)) ∈ TB := TB_m (tc_12 (List.mem_of_getElem? (i := 236) rfl)) rfl
theorem tw_2877 : (Cond.methodLink "ProofLibraryModel" 748 ⟨"ProofLibraryModel", "rowWidth", "(I)I"⟩) ∈ TB := TB_m (tc_12 (List.mem_of_getElem? (i := 237) rfl)) rfl
theorem tw_2879 : (Cond.instanceMethod ⟨"ProofLibraryModel", "rowWidth", "(I)I"⟩) ∈ TB := TB_m (tc_12 (List.mem_of_getElem? (i := 239) rfl)) rfl
theorem tw_2880 : (Cond.code ⟨"ProofLibraryModel", "rowWidth", "(I)I"⟩ prog_15_method_87_code 3 (some .int)) ∈ TB := TB_m (tc_13 (List.mem_of_getElem? (i := 0) rfl)) rfl
theorem tw_2881 : (Cond.methodLink "ProofLibraryLaw" 85 ⟨"ProofLibraryModel", "rests", "(II)I"⟩) ∈ TB := TB_m (tc_13 (List.mem_of_getElem? (i := 1) rfl)) rfl
theorem tw_2882 : (Cond.instanceMethod ⟨"ProofLibraryModel", "rests", "(II)I"⟩) ∈ TB := TB_m (tc_13 (List.mem_of_getElem? (i := 2) rfl)) rfl
theorem tw_2883 : (Cond.selects "ProofLibraryModel" ⟨"ProofLibraryModel", "rests", "(II)I"⟩ ⟨"ProofLibraryModel", "rests", "(II)I"⟩) ∈ TB := TB_m (tc_13 (List.mem_of_getElem? (i := 3) rfl)) rfl
theorem tw_2884 : (Cond.code ⟨"ProofLibraryModel", "rests", "(II)I"⟩ prog_15_method_92_code 3 (some .int)) ∈ TB := TB_m (tc_13 (List.mem_of_getElem? (i := 4) rfl)) rfl
theorem tw_2885 : (Cond.methodLink "ProofLibraryLaw" 90 ⟨"ProofLibraryModel", "size", "(I)J"⟩) ∈ TB := TB_m (tc_13 (List.mem_of_getElem? (i := 5) rfl)) rfl
theorem tw_2886 : (Cond.instanceMethod ⟨"ProofLibraryModel", "size", "(I)J"⟩) ∈ TB := TB_m (tc_13 (List.mem_of_getElem? (i := 6) rfl)) rfl
theorem tw_2887 : (Cond.selects "ProofLibraryModel" ⟨"ProofLibraryModel", "size", "(I)J"⟩ ⟨"ProofLibraryModel", "size", "(I)J"⟩) ∈ TB := TB_m (tc_13 (List.mem_of_getElem? (i := 7) rfl)) rfl
theorem tw_2888 : (Cond.code ⟨"ProofLibraryModel", "size", "(I)J"⟩ prog_15_method_94_code 2 (some .long)) ∈ TB := TB_m (tc_13 (List.mem_of_getElem? (i := 8) rfl)) rfl
theorem tw_2889 : (Cond.methodLink "ProofLibraryModel" 755 ⟨"ProofLibraryModel", "makeSizes", "(I)V"⟩) ∈ TB := TB_m (tc_13 (List.mem_of_getElem? (i := 9) rfl)) rfl
theorem tw_2891 : (Cond.instanceMethod ⟨"ProofLibraryModel", "makeSizes", "(I)V"⟩) ∈ TB := TB_m (tc_13 (List.mem_of_getElem? (i := 11) rfl)) rfl
theorem tw_2892 : (Cond.code ⟨"ProofLibraryModel", "makeSizes", "(I)V"⟩ prog_15_method_93_code 6 none) ∈ TB := TB_m (tc_13 (List.mem_of_getElem? (i := 12) rfl)) rfl
theorem tw_2893 : (Cond.constantLong "ProofLibraryModel" 751 1000000000000000000) ∈ TB := TB_m (tc_13 (List.mem_of_getElem? (i := 13) rfl)) rfl
theorem tw_2894 : (Cond.constantLong "ProofLibraryModel" 753 1000000000000000001) ∈ TB := TB_m (tc_13 (List.mem_of_getElem? (i := 14) rfl)) rfl
theorem tw_2895 : (Cond.constantLong "ProofLibraryModel" 758 (-2)) ∈ TB := TB_m (tc_13 (List.mem_of_getElem? (i := 15) rfl)) rfl
theorem tw_2896 : (Cond.methodLink "ProofLibraryLaw" 98 ⟨"ProofLibraryModel", "character", "(I)I"⟩) ∈ TB := TB_m (tc_13 (List.mem_of_getElem? (i := 16) rfl)) rfl
theorem tw_2897 : (Cond.instanceMethod ⟨"ProofLibraryModel", "character", "(I)I"⟩) ∈ TB := TB_m (tc_13 (List.mem_of_getElem? (i := 17) rfl)) rfl
theorem tw_2898 : (Cond.selects "ProofLibraryModel" ⟨"ProofLibraryModel", "character", "(I)I"⟩ ⟨"ProofLibraryModel", "character", "(I)I"⟩) ∈ TB := TB_m (tc_13 (List.mem_of_getElem? (i := 18) rfl)) rfl
theorem tw_2899 : (Cond.code ⟨"ProofLibraryModel", "character", "(I)I"⟩ prog_15_method_101_code 2 (some .int)) ∈ TB := TB_m (tc_13 (List.mem_of_getElem? (i := 19) rfl)) rfl
theorem tw_2900 : (Cond.methodLink "ProofLibraryLaw" 102 ⟨"ProofLibraryModel", "trees", "(I)I"⟩) ∈ TB := TB_m (tc_13 (List.mem_of_getElem? (i := 20) rfl)) rfl
theorem tw_2901 : (Cond.instanceMethod ⟨"ProofLibraryModel", "trees", "(I)I"⟩) ∈ TB := TB_m (tc_13 (List.mem_of_getElem? (i := 21) rfl)) rfl
theorem tw_2902 : (Cond.selects "ProofLibraryModel" ⟨"ProofLibraryModel", "trees", "(I)I"⟩ ⟨"ProofLibraryModel", "trees", "(I)I"⟩) ∈ TB := TB_m (tc_13 (List.mem_of_getElem? (i := 22) rfl)) rfl
theorem tw_2903 : (Cond.code ⟨"ProofLibraryModel", "trees", "(I)I"⟩ prog_15_method_138_code 2 (some .int)) ∈ TB := TB_m (tc_13 (List.mem_of_getElem? (i := 23) rfl)) rfl
theorem tw_2904 : (Cond.methodLink "ProofLibraryModel" 912 ⟨"ProofLibraryModel", "countTrees", "(I)I"⟩) ∈ TB := TB_m (tc_13 (List.mem_of_getElem? (i := 24) rfl)) rfl
theorem tw_2906 : (Cond.instanceMethod ⟨"ProofLibraryModel", "countTrees", "(I)I"⟩) ∈ TB := TB_m (tc_13 (List.mem_of_getElem? (i := 26) rfl)) rfl
theorem tw_2907 : (Cond.code ⟨"ProofLibraryModel", "countTrees", "(I)I"⟩ prog_15_method_137_code 6 (some .int)) ∈ TB := TB_m (tc_13 (List.mem_of_getElem? (i := 27) rfl)) rfl
theorem tw_2908 : (Cond.methodLink "ProofLibraryModel" 909 ⟨"ProofLibraryModel", "treeOf", "(I)I"⟩) ∈ TB := TB_m (tc_13 (List.mem_of_getElem? (i := 28) rfl)) rfl
theorem tw_2910 : (Cond.instanceMethod ⟨"ProofLibraryModel", "treeOf", "(I)I"⟩) ∈ TB := TB_m (tc_13 (List.mem_of_getElem? (i := 30) rfl)) rfl
theorem tw_2911 : (Cond.code ⟨"ProofLibraryModel", "treeOf", "(I)I"⟩ prog_15_method_136_code 4 (some .int)) ∈ TB := TB_m (tc_13 (List.mem_of_getElem? (i := 31) rfl)) rfl
theorem tw_2912 : (Cond.methodLink "ProofLibraryModel" 897 ⟨"ProofLibraryModel", "takeStatement", "(I)V"⟩) ∈ TB := TB_m (tc_13 (List.mem_of_getElem? (i := 32) rfl)) rfl
theorem tw_2914 : (Cond.instanceMethod ⟨"ProofLibraryModel", "takeStatement", "(I)V"⟩) ∈ TB := TB_m (tc_13 (List.mem_of_getElem? (i := 34) rfl)) rfl
theorem tw_2915 : (Cond.code ⟨"ProofLibraryModel", "takeStatement", "(I)V"⟩ prog_15_method_129_code 4 none) ∈ TB := TB_m (tc_13 (List.mem_of_getElem? (i := 35) rfl)) rfl
theorem tw_2916 : (Cond.methodLink "ProofLibraryModel" 873 ⟨"ProofLibraryModel", "findSorts", "()V"⟩) ∈ TB := TB_m (tc_13 (List.mem_of_getElem? (i := 36) rfl)) rfl
theorem tw_2918 : (Cond.instanceMethod ⟨"ProofLibraryModel", "findSorts", "()V"⟩) ∈ TB := TB_m (tc_13 (List.mem_of_getElem? (i := 38) rfl)) rfl
theorem tw_2919 : (Cond.code ⟨"ProofLibraryModel", "findSorts", "()V"⟩ prog_15_method_113_code 2 none) ∈ TB := TB_m (tc_13 (List.mem_of_getElem? (i := 39) rfl)) rfl
theorem tw_2920 : (Cond.methodLink "ProofLibraryModel" 811 ⟨"ProofLibraryModel", "isSort", "(I)Z"⟩) ∈ TB := TB_m (tc_13 (List.mem_of_getElem? (i := 40) rfl)) rfl
theorem tw_2922 : (Cond.instanceMethod ⟨"ProofLibraryModel", "isSort", "(I)Z"⟩) ∈ TB := TB_m (tc_13 (List.mem_of_getElem? (i := 42) rfl)) rfl
theorem tw_2923 : (Cond.code ⟨"ProofLibraryModel", "isSort", "(I)Z"⟩ prog_15_method_111_code 2 (some .boolean)) ∈ TB := TB_m (tc_13 (List.mem_of_getElem? (i := 43) rfl)) rfl
theorem tw_2924 : (Cond.methodLink "ProofLibraryModel" 900 ⟨"ProofLibraryModel", "treeSort", "(I)I"⟩) ∈ TB := TB_m (tc_13 (List.mem_of_getElem? (i := 44) rfl)) rfl
theorem tw_2926 : (Cond.instanceMethod ⟨"ProofLibraryModel", "treeSort", "(I)I"⟩) ∈ TB := TB_m (tc_13 (List.mem_of_getElem? (i := 46) rfl)) rfl
theorem tw_2927 : (Cond.code ⟨"ProofLibraryModel", "treeSort", "(I)I"⟩ prog_15_method_128_code 2 (some .int)) ∈ TB := TB_m (tc_13 (List.mem_of_getElem? (i := 47) rfl)) rfl
theorem tw_2928 : (Cond.methodLink "ProofLibraryModel" 903 ⟨"ProofLibraryModel", "countWays", "(II)I"⟩) ∈ TB := TB_m (tc_13 (List.mem_of_getElem? (i := 48) rfl)) rfl
theorem tw_2930 : (Cond.instanceMethod ⟨"ProofLibraryModel", "countWays", "(II)I"⟩) ∈ TB := TB_m (tc_13 (List.mem_of_getElem? (i := 50) rfl)) rfl
theorem tw_2931 : (Cond.code ⟨"ProofLibraryModel", "countWays", "(II)I"⟩ prog_15_method_127_code 6 (some .int)) ∈ TB := TB_m (tc_13 (List.mem_of_getElem? (i := 51) rfl)) rfl
theorem tw_2932 : (Cond.methodLink "ProofLibraryModel" 864 ⟨"ProofLibraryModel", "treeRules", "()V"⟩) ∈ TB := TB_m (tc_13 (List.mem_of_getElem? (i := 52) rfl)) rfl
theorem tw_2934 : (Cond.instanceMethod ⟨"ProofLibraryModel", "treeRules", "()V"⟩) ∈ TB := TB_m (tc_13 (List.mem_of_getElem? (i := 54) rfl)) rfl
theorem tw_2935 : (Cond.code ⟨"ProofLibraryModel", "treeRules", "()V"⟩ prog_15_method_121_code 2 none) ∈ TB := TB_m (tc_13 (List.mem_of_getElem? (i := 55) rfl)) rfl
theorem tw_2936 : (Cond.methodLink "ProofLibraryModel" 827 ⟨"ProofLibraryModel", "newRuleNode", "(II)I"⟩) ∈ TB := TB_m (tc_13 (List.mem_of_getElem? (i := 56) rfl)) rfl
theorem tw_2938 : (Cond.instanceMethod ⟨"ProofLibraryModel", "newRuleNode", "(II)I"⟩) ∈ TB := TB_m (tc_13 (List.mem_of_getElem? (i := 58) rfl)) rfl
theorem tw_2939 : (Cond.code ⟨"ProofLibraryModel", "newRuleNode", "(II)I"⟩ prog_15_method_118_code 4 (some .int)) ∈ TB := TB_m (tc_13 (List.mem_of_getElem? (i := 59) rfl)) rfl
theorem tw_2940 : (Cond.methodLink "ProofLibraryModel" 837 ⟨"ProofLibraryModel", "isRule", "(I)Z"⟩) ∈ TB := TB_m (tc_13 (List.mem_of_getElem? (i := 60) rfl)) rfl
theorem tw_2942 : (Cond.instanceMethod ⟨"ProofLibraryModel", "isRule", "(I)Z"⟩) ∈ TB := TB_m (tc_13 (List.mem_of_getElem? (i := 62) rfl)) rfl
theorem tw_2943 : (Cond.code ⟨"ProofLibraryModel", "isRule", "(I)Z"⟩ prog_15_method_112_code 5 (some .boolean)) ∈ TB := TB_m (tc_13 (List.mem_of_getElem? (i := 63) rfl)) rfl
theorem tw_2944 : (Cond.methodLink "ProofLibraryModel" 840 ⟨"ProofLibraryModel", "isUnit", "(I)Z"⟩) ∈ TB := TB_m (tc_13 (List.mem_of_getElem? (i := 64) rfl)) rfl
theorem tw_2946 : (Cond.instanceMethod ⟨"ProofLibraryModel", "isUnit", "(I)Z"⟩) ∈ TB := TB_m (tc_13 (List.mem_of_getElem? (i := 66) rfl)) rfl
theorem tw_2947 : (Cond.code ⟨"ProofLibraryModel", "isUnit", "(I)Z"⟩ prog_15_method_117_code 2 (some .boolean)) ∈ TB := TB_m (tc_13 (List.mem_of_getElem? (i := 67) rfl)) rfl
theorem tw_2948 : (Cond.methodLink "ProofLibraryModel" 843 ⟨"ProofLibraryModel", "treeRule", "(I)V"⟩) ∈ TB := TB_m (tc_13 (List.mem_of_getElem? (i := 68) rfl)) rfl
theorem tw_2950 : (Cond.instanceMethod ⟨"ProofLibraryModel", "treeRule", "(I)V"⟩) ∈ TB := TB_m (tc_13 (List.mem_of_getElem? (i := 70) rfl)) rfl
theorem tw_2951 : (Cond.code ⟨"ProofLibraryModel", "treeRule", "(I)V"⟩ prog_15_method_120_code 5 none) ∈ TB := TB_m (tc_13 (List.mem_of_getElem? (i := 71) rfl)) rfl
theorem tw_2952 : (Cond.methodLink "ProofLibraryModel" 831 ⟨"ProofLibraryModel", "stepBelow", "(II)I"⟩) ∈ TB := TB_m (tc_13 (List.mem_of_getElem? (i := 72) rfl)) rfl
theorem tw_2954 : (Cond.instanceMethod ⟨"ProofLibraryModel", "stepBelow", "(II)I"⟩) ∈ TB := TB_m (tc_13 (List.mem_of_getElem? (i := 74) rfl)) rfl
theorem tw_2955 : (Cond.code ⟨"ProofLibraryModel", "stepBelow", "(II)I"⟩ prog_15_method_119_code 5 (some .int)) ∈ TB := TB_m (tc_13 (List.mem_of_getElem? (i := 75) rfl)) rfl
theorem tw_2956 : (Cond.methodLink "ProofLibraryModel" 817 ⟨"ProofLibraryModel", "wayAt", "(III)I"⟩) ∈ TB := TB_m (tc_13 (List.mem_of_getElem? (i := 76) rfl)) rfl
theorem tw_2958 : (Cond.instanceMethod ⟨"ProofLibraryModel", "wayAt", "(III)I"⟩) ∈ TB := TB_m (tc_13 (List.mem_of_getElem? (i := 78) rfl)) rfl
theorem tw_2959 : (Cond.code ⟨"ProofLibraryModel", "wayAt", "(III)I"⟩ prog_15_method_114_code 4 (some .int)) ∈ TB := TB_m (tc_13 (List.mem_of_getElem? (i := 79) rfl)) rfl
theorem tw_2960 : (Cond.methodLink "ProofLibraryModel" 849 ⟨"ProofLibraryModel", "isSortNode", "(I)Z"⟩) ∈ TB := TB_m (tc_13 (List.mem_of_getElem? (i := 80) rfl)) rfl
theorem tw_2962 : (Cond.instanceMethod ⟨"ProofLibraryModel", "isSortNode", "(I)Z"⟩) ∈ TB := TB_m (tc_13 (List.mem_of_getElem? (i := 82) rfl)) rfl
theorem tw_2963 : (Cond.code ⟨"ProofLibraryModel", "isSortNode", "(I)Z"⟩ prog_15_method_124_code 2 (some .boolean)) ∈ TB := TB_m (tc_13 (List.mem_of_getElem? (i := 83) rfl)) rfl
theorem tw_2964 : (Cond.methodLink "ProofLibraryModel" 870 ⟨"ProofLibraryModel", "countStretch", "(III)V"⟩) ∈ TB := TB_m (tc_13 (List.mem_of_getElem? (i := 84) rfl)) rfl
theorem tw_2966 : (Cond.instanceMethod ⟨"ProofLibraryModel", "countStretch", "(III)V"⟩) ∈ TB := TB_m (tc_13 (List.mem_of_getElem? (i := 86) rfl)) rfl
theorem tw_2967 : (Cond.code ⟨"ProofLibraryModel", "countStretch", "(III)V"⟩ prog_15_method_126_code 8 none) ∈ TB := TB_m (tc_13 (List.mem_of_getElem? (i := 87) rfl)) rfl
theorem tw_2968 : (Cond.methodLink "ProofLibraryModel" 852 ⟨"ProofLibraryModel", "isFirstVariable", "(I)Z"⟩) ∈ TB := TB_m (tc_13 (List.mem_of_getElem? (i := 88) rfl)) rfl
theorem tw_2970 : (Cond.instanceMethod ⟨"ProofLibraryModel", "isFirstVariable", "(I)Z"⟩) ∈ TB := TB_m (tc_13 (List.mem_of_getElem? (i := 90) rfl)) rfl
theorem tw_2971 : (Cond.code ⟨"ProofLibraryModel", "isFirstVariable", "(I)Z"⟩ prog_15_method_125_code 2 (some .boolean)) ∈ TB := TB_m (tc_13 (List.mem_of_getElem? (i := 91) rfl)) rfl
theorem tw_2972 : (Cond.methodLink "ProofLibraryModel" 855 ⟨"ProofLibraryModel", "goTo", "(II)V"⟩) ∈ TB := TB_m (tc_13 (List.mem_of_getElem? (i := 92) rfl)) rfl
theorem tw_2974 : (Cond.instanceMethod ⟨"ProofLibraryModel", "goTo", "(II)V"⟩) ∈ TB := TB_m (tc_13 (List.mem_of_getElem? (i := 94) rfl)) rfl
theorem tw_2975 : (Cond.code ⟨"ProofLibraryModel", "goTo", "(II)V"⟩ prog_15_method_123_code 13 none) ∈ TB := TB_m (tc_13 (List.mem_of_getElem? (i := 95) rfl)) rfl
theorem tw_2976 : (Cond.methodLink "ProofLibraryModel" 821 ⟨"ProofLibraryModel", "capped", "(I)I"⟩) ∈ TB := TB_m (tc_13 (List.mem_of_getElem? (i := 96) rfl)) rfl
theorem tw_2977 : (Cond.static ⟨"ProofLibraryModel", "capped", "(I)I"⟩) ∈ TB := TB_m (tc_13 (List.mem_of_getElem? (i := 97) rfl)) rfl
theorem tw_2978 : (Cond.code ⟨"ProofLibraryModel", "capped", "(I)I"⟩ prog_15_method_115_code 1 (some .int)) ∈ TB := TB_m (tc_13 (List.mem_of_getElem? (i := 98) rfl)) rfl
theorem tw_2979 : (Cond.methodLink "ProofLibraryModel" 858 ⟨"ProofLibraryModel", "closeUnits", "(III)V"⟩) ∈ TB := TB_m (tc_13 (List.mem_of_getElem? (i := 99) rfl)) rfl
theorem tw_2981 : (Cond.instanceMethod ⟨"ProofLibraryModel", "closeUnits", "(III)V"⟩) ∈ TB := TB_m (tc_13 (List.mem_of_getElem? (i := 101) rfl)) rfl
theorem tw_2982 : (Cond.code ⟨"ProofLibraryModel", "closeUnits", "(III)V"⟩ prog_15_method_122_code 8 none) ∈ TB := TB_m (tc_13 (List.mem_of_getElem? (i := 102) rfl)) rfl
theorem tw_2983 : (Cond.methodLink "ProofLibraryModel" 906 ⟨"ProofLibraryModel", "makeTree", "(I)I"⟩) ∈ TB := TB_m (tc_13 (List.mem_of_getElem? (i := 103) rfl)) rfl
theorem tw_2985 : (Cond.instanceMethod ⟨"ProofLibraryModel", "makeTree", "(I)I"⟩) ∈ TB := TB_m (tc_13 (List.mem_of_getElem? (i := 105) rfl)) rfl
theorem tw_2986 : (Cond.code ⟨"ProofLibraryModel", "makeTree", "(I)I"⟩ prog_15_method_134_code 4 (some .int)) ∈ TB := TB_m (tc_13 (List.mem_of_getElem? (i := 106) rfl)) rfl
theorem tw_2987 : (Cond.methodLink "ProofLibraryModel" 882 ⟨"ProofLibraryModel", "newNode", "(III)I"⟩) ∈ TB := TB_m (tc_13 (List.mem_of_getElem? (i := 107) rfl)) rfl
theorem tw_2989 : (Cond.instanceMethod ⟨"ProofLibraryModel", "newNode", "(III)I"⟩) ∈ TB := TB_m (tc_13 (List.mem_of_getElem? (i := 109) rfl)) rfl
theorem tw_2990 : (Cond.code ⟨"ProofLibraryModel", "newNode", "(III)I"⟩ prog_15_method_130_code 4 (some .int)) ∈ TB := TB_m (tc_13 (List.mem_of_getElem? (i := 110) rfl)) rfl
theorem tw_2991 : (Cond.methodLink "ProofLibraryModel" 894 ⟨"ProofLibraryModel", "lookAt", "(I)V"⟩) ∈ TB := TB_m (tc_13 (List.mem_of_getElem? (i := 111) rfl)) rfl
theorem tw_2993 : (Cond.instanceMethod ⟨"ProofLibraryModel", "lookAt", "(I)V"⟩) ∈ TB := TB_m (tc_13 (List.mem_of_getElem? (i := 113) rfl)) rfl
theorem tw_2994 : (Cond.code ⟨"ProofLibraryModel", "lookAt", "(I)V"⟩ prog_15_method_133_code 8 none) ∈ TB := TB_m (tc_13 (List.mem_of_getElem? (i := 114) rfl)) rfl
theorem tw_2995 : (Cond.methodLink "ProofLibraryModel" 891 ⟨"ProofLibraryModel", "part", "(II)V"⟩) ∈ TB := TB_m (tc_13 (List.mem_of_getElem? (i := 115) rfl)) rfl
theorem tw_2997 : (Cond.instanceMethod ⟨"ProofLibraryModel", "part", "(II)V"⟩) ∈ TB := TB_m (tc_13 (List.mem_of_getElem? (i := 117) rfl)) rfl
theorem tw_2998 : (Cond.code ⟨"ProofLibraryModel", "part", "(II)V"⟩ prog_15_method_132_code 10 none) ∈ TB := TB_m (tc_13 (List.mem_of_getElem? (i := 118) rfl)) rfl
theorem tw_2999 : (Cond.methodLink "ProofLibraryModel" 885 ⟨"ProofLibraryModel", "match", "(III)I"⟩) ∈ TB := TB_m (tc_13 (List.mem_of_getElem? (i := 119) rfl)) rfl
theorem tw_3001 : (Cond.instanceMethod ⟨"ProofLibraryModel", "match", "(III)I"⟩) ∈ TB := TB_m (tc_13 (List.mem_of_getElem? (i := 121) rfl)) rfl
theorem tw_3002 : (Cond.code ⟨"ProofLibraryModel", "match", "(III)I"⟩ prog_15_method_116_code 15 (some .int)) ∈ TB := TB_m (tc_13 (List.mem_of_getElem? (i := 122) rfl)) rfl
theorem tw_3003 : (Cond.methodLink "ProofLibraryModel" 888 ⟨"ProofLibraryModel", "hypOf", "(II)I"⟩) ∈ TB := TB_m (tc_13 (List.mem_of_getElem? (i := 123) rfl)) rfl
theorem tw_3005 : (Cond.instanceMethod ⟨"ProofLibraryModel", "hypOf", "(II)I"⟩) ∈ TB := TB_m (tc_13 (List.mem_of_getElem? (i := 125) rfl)) rfl
theorem tw_3006 : (Cond.code ⟨"ProofLibraryModel", "hypOf", "(II)I"⟩ prog_15_method_131_code 4 (some .int)) ∈ TB := TB_m (tc_13 (List.mem_of_getElem? (i := 126) rfl)) rfl
theorem tw_3007 : (Cond.methodLink "ProofLibraryLaw" 106 ⟨"ProofLibraryModel", "equate", "(I)I"⟩) ∈ TB := TB_m (tc_13 (List.mem_of_getElem? (i := 127) rfl)) rfl
theorem tw_3008 : (Cond.instanceMethod ⟨"ProofLibraryModel", "equate", "(I)I"⟩) ∈ TB := TB_m (tc_13 (List.mem_of_getElem? (i := 128) rfl)) rfl
theorem tw_3009 : (Cond.selects "ProofLibraryModel" ⟨"ProofLibraryModel", "equate", "(I)I"⟩ ⟨"ProofLibraryModel", "equate", "(I)I"⟩) ∈ TB := TB_m (tc_13 (List.mem_of_getElem? (i := 129) rfl)) rfl
theorem tw_3010 : (Cond.code ⟨"ProofLibraryModel", "equate", "(I)I"⟩ prog_15_method_142_code 4 (some .int)) ∈ TB := TB_m (tc_13 (List.mem_of_getElem? (i := 130) rfl)) rfl
theorem tw_3011 : (Cond.methodLink "ProofLibraryModel" 915 ⟨"ProofLibraryModel", "variablesOf", "(I)I"⟩) ∈ TB := TB_m (tc_13 (List.mem_of_getElem? (i := 131) rfl)) rfl
theorem tw_3013 : (Cond.instanceMethod ⟨"ProofLibraryModel", "variablesOf", "(I)I"⟩) ∈ TB := TB_m (tc_13 (List.mem_of_getElem? (i := 133) rfl)) rfl
theorem tw_3014 : (Cond.code ⟨"ProofLibraryModel", "variablesOf", "(I)I"⟩ prog_15_method_141_code 4 (some .int)) ∈ TB := TB_m (tc_13 (List.mem_of_getElem? (i := 134) rfl)) rfl
theorem tw_3015 : (Cond.methodLink "ProofLibraryLaw" 110 ⟨"ProofLibraryModel", "definition", "(I)I"⟩) ∈ TB := TB_m (tc_13 (List.mem_of_getElem? (i := 135) rfl)) rfl
theorem tw_3016 : (Cond.instanceMethod ⟨"ProofLibraryModel", "definition", "(I)I"⟩) ∈ TB := TB_m (tc_13 (List.mem_of_getElem? (i := 136) rfl)) rfl
theorem tw_3017 : (Cond.selects "ProofLibraryModel" ⟨"ProofLibraryModel", "definition", "(I)I"⟩ ⟨"ProofLibraryModel", "definition", "(I)I"⟩) ∈ TB := TB_m (tc_13 (List.mem_of_getElem? (i := 137) rfl)) rfl
theorem tw_3018 : (Cond.code ⟨"ProofLibraryModel", "definition", "(I)I"⟩ prog_15_method_150_code 2 (some .int)) ∈ TB := TB_m (tc_13 (List.mem_of_getElem? (i := 138) rfl)) rfl
theorem tw_3019 : (Cond.methodLink "ProofLibraryModel" 937 ⟨"ProofLibraryModel", "definitionOf", "(I)I"⟩) ∈ TB := TB_m (tc_13 (List.mem_of_getElem? (i := 139) rfl)) rfl
theorem tw_3021 : (Cond.instanceMethod ⟨"ProofLibraryModel", "definitionOf", "(I)I"⟩) ∈ TB := TB_m (tc_13 (List.mem_of_getElem? (i := 141) rfl)) rfl
theorem tw_3022 : (Cond.code ⟨"ProofLibraryModel", "definitionOf", "(I)I"⟩ prog_15_method_149_code 2 (some .int)) ∈ TB := TB_m (tc_13 (List.mem_of_getElem? (i := 142) rfl)) rfl
theorem tw_3023 : (Cond.methodLink "ProofLibraryModel" 934 ⟨"ProofLibraryModel", "findDefinition", "(I)I"⟩) ∈ TB := TB_m (tc_13 (List.mem_of_getElem? (i := 143) rfl)) rfl
theorem tw_3025 : (Cond.instanceMethod ⟨"ProofLibraryModel", "findDefinition", "(I)I"⟩) ∈ TB := TB_m (tc_13 (List.mem_of_getElem? (i := 145) rfl)) rfl
theorem tw_3026 : (Cond.code ⟨"ProofLibraryModel", "findDefinition", "(I)I"⟩ prog_15_method_148_code 11 (some .int)) ∈ TB := TB_m (tc_13 (List.mem_of_getElem? (i := 146) rfl)) rfl
theorem tw_3027 : (Cond.methodLink "ProofLibraryModel" 921 ⟨"ProofLibraryModel", "firstSide", "(I)I"⟩) ∈ TB := TB_m (tc_13 (List.mem_of_getElem? (i := 147) rfl)) rfl
theorem tw_3029 : (Cond.instanceMethod ⟨"ProofLibraryModel", "firstSide", "(I)I"⟩) ∈ TB := TB_m (tc_13 (List.mem_of_getElem? (i := 149) rfl)) rfl
theorem tw_3030 : (Cond.code ⟨"ProofLibraryModel", "firstSide", "(I)I"⟩ prog_15_method_143_code 3 (some .int)) ∈ TB := TB_m (tc_13 (List.mem_of_getElem? (i := 150) rfl)) rfl
theorem tw_3031 : (Cond.methodLink "ProofLibraryModel" 924 ⟨"ProofLibraryModel", "isFlat", "(I)Z"⟩) ∈ TB := TB_m (tc_13 (List.mem_of_getElem? (i := 151) rfl)) rfl
theorem tw_3033 : (Cond.instanceMethod ⟨"ProofLibraryModel", "isFlat", "(I)Z"⟩) ∈ TB := TB_m (tc_13 (List.mem_of_getElem? (i := 153) rfl)) rfl
theorem tw_3034 : (Cond.code ⟨"ProofLibraryModel", "isFlat", "(I)Z"⟩ prog_15_method_146_code 6 (some .boolean)) ∈ TB := TB_m (tc_13 (List.mem_of_getElem? (i := 154) rfl)) rfl
theorem tw_3035 : (Cond.methodLink "ProofLibraryModel" 927 ⟨"ProofLibraryModel", "isPlain", "(III)Z"⟩) ∈ TB := TB_m (tc_13 (List.mem_of_getElem? (i := 155) rfl)) rfl
theorem tw_3037 : (Cond.instanceMethod ⟨"ProofLibraryModel", "isPlain", "(III)Z"⟩) ∈ TB := TB_m (tc_13 (List.mem_of_getElem? (i := 157) rfl)) rfl
theorem tw_3038 : (Cond.code ⟨"ProofLibraryModel", "isPlain", "(III)Z"⟩ prog_15_method_147_code 8 (some .boolean)) ∈ TB := TB_m (tc_13 (List.mem_of_getElem? (i := 158) rfl)) rfl
theorem tw_3039 : (Cond.methodLink "ProofLibraryModel" 791 ⟨"ProofLibraryModel", "enter", "(I)V"⟩) ∈ TB := TB_m (tc_13 (List.mem_of_getElem? (i := 159) rfl)) rfl
theorem tw_3041 : (Cond.instanceMethod ⟨"ProofLibraryModel", "enter", "(I)V"⟩) ∈ TB := TB_m (tc_13 (List.mem_of_getElem? (i := 161) rfl)) rfl
theorem tw_3042 : (Cond.code ⟨"ProofLibraryModel", "enter", "(I)V"⟩ prog_15_method_106_code 2 none) ∈ TB := TB_m (tc_13 (List.mem_of_getElem? (i := 162) rfl)) rfl
theorem tw_3043 : (Cond.methodLink "ProofLibraryModel" 918 ⟨"ProofLibraryModel", "hasLeaf", "(II)Z"⟩) ∈ TB := TB_m (tc_13 (List.mem_of_getElem? (i := 163) rfl)) rfl
theorem tw_3045 : (Cond.instanceMethod ⟨"ProofLibraryModel", "hasLeaf", "(II)Z"⟩) ∈ TB := TB_m (tc_13 (List.mem_of_getElem? (i := 165) rfl)) rfl
theorem tw_3046 : (Cond.code ⟨"ProofLibraryModel", "hasLeaf", "(II)Z"⟩ prog_15_method_145_code 5 (some .boolean)) ∈ TB := TB_m (tc_13 (List.mem_of_getElem? (i := 166) rfl)) rfl
theorem tw_3047 : (Cond.methodLink "ProofLibraryModel" 931 ⟨"ProofLibraryModel", "isUsedBefore", "(II)Z"⟩) ∈ TB := TB_m (tc_13 (List.mem_of_getElem? (i := 167) rfl)) rfl
theorem tw_3049 : (Cond.instanceMethod ⟨"ProofLibraryModel", "isUsedBefore", "(II)Z"⟩) ∈ TB := TB_m (tc_13 (List.mem_of_getElem? (i := 169) rfl)) rfl
theorem tw_3050 : (Cond.code ⟨"ProofLibraryModel", "isUsedBefore", "(II)Z"⟩ prog_15_method_144_code 5 (some .boolean)) ∈ TB := TB_m (tc_13 (List.mem_of_getElem? (i := 170) rfl)) rfl
theorem tw_3051 : (Cond.methodLink "ProofLibraryLaw" 94 ⟨"ProofLibraryModel", "print", "(III)I"⟩) ∈ TB := TB_m (tc_13 (List.mem_of_getElem? (i := 171) rfl)) rfl
theorem tw_3052 : (Cond.instanceMethod ⟨"ProofLibraryModel", "print", "(III)I"⟩) ∈ TB := TB_m (tc_13 (List.mem_of_getElem? (i := 172) rfl)) rfl
theorem tw_3053 : (Cond.selects "ProofLibraryModel" ⟨"ProofLibraryModel", "print", "(III)I"⟩ ⟨"ProofLibraryModel", "print", "(III)I"⟩) ∈ TB := TB_m (tc_13 (List.mem_of_getElem? (i := 173) rfl)) rfl
theorem tw_3054 : (Cond.code ⟨"ProofLibraryModel", "print", "(III)I"⟩ prog_15_method_160_code 4 (some .int)) ∈ TB := TB_m (tc_13 (List.mem_of_getElem? (i := 174) rfl)) rfl
theorem tw_3055 : (Cond.methodLink "ProofLibraryModel" 964 ⟨"ProofLibraryModel", "beginTrees", "()V"⟩) ∈ TB := TB_m (tc_13 (List.mem_of_getElem? (i := 175) rfl)) rfl
theorem tw_3057 : (Cond.instanceMethod ⟨"ProofLibraryModel", "beginTrees", "()V"⟩) ∈ TB := TB_m (tc_13 (List.mem_of_getElem? (i := 177) rfl)) rfl
theorem tw_3058 : (Cond.code ⟨"ProofLibraryModel", "beginTrees", "()V"⟩ prog_15_method_139_code 1 none) ∈ TB := TB_m (tc_13 (List.mem_of_getElem? (i := 178) rfl)) rfl
theorem tw_3059 : (Cond.methodLink "ProofLibraryModel" 803 ⟨"ProofLibraryModel", "putLabel", "(I)V"⟩) ∈ TB := TB_m (tc_13 (List.mem_of_getElem? (i := 179) rfl)) rfl
theorem tw_3061 : (Cond.instanceMethod ⟨"ProofLibraryModel", "putLabel", "(I)V"⟩) ∈ TB := TB_m (tc_13 (List.mem_of_getElem? (i := 181) rfl)) rfl
theorem tw_3062 : (Cond.code ⟨"ProofLibraryModel", "putLabel", "(I)V"⟩ prog_15_method_99_code 2 none) ∈ TB := TB_m (tc_13 (List.mem_of_getElem? (i := 182) rfl)) rfl
theorem tw_3063 : (Cond.methodLink "ProofLibraryModel" 766 ⟨"ProofLibraryModel", "putBlank", "()V"⟩) ∈ TB := TB_m (tc_13 (List.mem_of_getElem? (i := 183) rfl)) rfl
theorem tw_3065 : (Cond.instanceMethod ⟨"ProofLibraryModel", "putBlank", "()V"⟩) ∈ TB := TB_m (tc_13 (List.mem_of_getElem? (i := 185) rfl)) rfl
theorem tw_3066 : (Cond.code ⟨"ProofLibraryModel", "putBlank", "()V"⟩ prog_15_method_96_code 1 none) ∈ TB := TB_m (tc_13 (List.mem_of_getElem? (i := 186) rfl)) rfl
theorem tw_3067 : (Cond.methodLink "ProofLibraryModel" 763 ⟨"ProofLibraryModel", "put", "(I)V"⟩) ∈ TB := TB_m (tc_13 (List.mem_of_getElem? (i := 187) rfl)) rfl
theorem tw_3069 : (Cond.instanceMethod ⟨"ProofLibraryModel", "put", "(I)V"⟩) ∈ TB := TB_m (tc_13 (List.mem_of_getElem? (i := 189) rfl)) rfl
theorem tw_3070 : (Cond.code ⟨"ProofLibraryModel", "put", "(I)V"⟩ prog_15_method_95_code 2 none) ∈ TB := TB_m (tc_13 (List.mem_of_getElem? (i := 190) rfl)) rfl
theorem tw_3071 : (Cond.methodLink "ProofLibraryModel" 769 ⟨"ProofLibraryModel", "putName", "(II)V"⟩) ∈ TB := TB_m (tc_13 (List.mem_of_getElem? (i := 191) rfl)) rfl
theorem tw_3073 : (Cond.instanceMethod ⟨"ProofLibraryModel", "putName", "(II)V"⟩) ∈ TB := TB_m (tc_13 (List.mem_of_getElem? (i := 193) rfl)) rfl
theorem tw_3074 : (Cond.code ⟨"ProofLibraryModel", "putName", "(II)V"⟩ prog_15_method_97_code 4 none) ∈ TB := TB_m (tc_13 (List.mem_of_getElem? (i := 194) rfl)) rfl
theorem tw_3075 : (Cond.methodLink "ProofLibraryModel" 778 ⟨"ProofLibraryModel", "keepDraft", "()I"⟩) ∈ TB := TB_m (tc_13 (List.mem_of_getElem? (i := 195) rfl)) rfl
theorem tw_3077 : (Cond.instanceMethod ⟨"ProofLibraryModel", "keepDraft", "()I"⟩) ∈ TB := TB_m (tc_13 (List.mem_of_getElem? (i := 197) rfl)) rfl
theorem tw_3078 : (Cond.code ⟨"ProofLibraryModel", "keepDraft", "()I"⟩ prog_15_method_100_code 2 (some .int)) ∈ TB := TB_m (tc_13 (List.mem_of_getElem? (i := 198) rfl)) rfl
theorem tw_3079 : (Cond.methodLink "ProofLibraryModel" 775 ⟨"ProofLibraryModel", "putSymbol", "(I)V"⟩) ∈ TB := TB_m (tc_13 (List.mem_of_getElem? (i := 199) rfl)) rfl
theorem tw_3081 : (Cond.instanceMethod ⟨"ProofLibraryModel", "putSymbol", "(I)V"⟩) ∈ TB := TB_m (tc_13 (List.mem_of_getElem? (i := 201) rfl)) rfl
theorem tw_3082 : (Cond.code ⟨"ProofLibraryModel", "putSymbol", "(I)V"⟩ prog_15_method_98_code 2 none) ∈ TB := TB_m (tc_13 (List.mem_of_getElem? (i := 202) rfl)) rfl
theorem tw_3083 : (Cond.methodLink "ProofLibraryModel" 976 ⟨"ProofLibraryModel", "printTexts", "(I)I"⟩) ∈ TB := TB_m (tc_13 (List.mem_of_getElem? (i := 203) rfl)) rfl
theorem tw_3085 : (Cond.instanceMethod ⟨"ProofLibraryModel", "printTexts", "(I)I"⟩) ∈ TB := TB_m (tc_13 (List.mem_of_getElem? (i := 205) rfl)) rfl
theorem tw_3086 : (Cond.code ⟨"ProofLibraryModel", "printTexts", "(I)I"⟩ prog_15_method_102_code 3 (some .int)) ∈ TB := TB_m (tc_13 (List.mem_of_getElem? (i := 206) rfl)) rfl
theorem tw_3087 : (Cond.methodLink "ProofLibraryModel" 979 ⟨"ProofLibraryModel", "printRow", "(II)I"⟩) ∈ TB := TB_m (tc_13 (List.mem_of_getElem? (i := 207) rfl)) rfl
theorem tw_3089 : (Cond.instanceMethod ⟨"ProofLibraryModel", "printRow", "(II)I"⟩) ∈ TB := TB_m (tc_13 (List.mem_of_getElem? (i := 209) rfl)) rfl
theorem tw_3090 : (Cond.code ⟨"ProofLibraryModel", "printRow", "(II)I"⟩ prog_15_method_103_code 6 (some .int)) ∈ TB := TB_m (tc_13 (List.mem_of_getElem? (i := 210) rfl)) rfl
theorem tw_3091 : (Cond.methodLink "ProofLibraryModel" 982 ⟨"ProofLibraryModel", "printPacked", "(I)I"⟩) ∈ TB := TB_m (tc_13 (List.mem_of_getElem? (i := 211) rfl)) rfl
theorem tw_3093 : (Cond.instanceMethod ⟨"ProofLibraryModel", "printPacked", "(I)I"⟩) ∈ TB := TB_m (tc_13 (List.mem_of_getElem? (i := 213) rfl)) rfl
theorem tw_3094 : (Cond.code ⟨"ProofLibraryModel", "printPacked", "(I)I"⟩ prog_15_method_109_code 5 (some .int)) ∈ TB := TB_m (tc_13 (List.mem_of_getElem? (i := 214) rfl)) rfl
theorem tw_3095 : (Cond.methodLink "ProofLibraryModel" 794 ⟨"ProofLibraryModel", "findSame", "()V"⟩) ∈ TB := TB_m (tc_13 (List.mem_of_getElem? (i := 215) rfl)) rfl
theorem tw_3097 : (Cond.instanceMethod ⟨"ProofLibraryModel", "findSame", "()V"⟩) ∈ TB := TB_m (tc_13 (List.mem_of_getElem? (i := 217) rfl)) rfl
theorem tw_3098 : (Cond.code ⟨"ProofLibraryModel", "findSame", "()V"⟩ prog_15_method_105_code 4 none) ∈ TB := TB_m (tc_13 (List.mem_of_getElem? (i := 218) rfl)) rfl
theorem tw_3099 : (Cond.constant "ProofLibraryModel" 781 65535) ∈ TB := TB_m (tc_13 (List.mem_of_getElem? (i := 219) rfl)) rfl
theorem tw_3100 : (Cond.methodLink "ProofLibraryModel" 782 ⟨"ProofLibraryModel", "areSame", "(II)Z"⟩) ∈ TB := TB_m (tc_13 (List.mem_of_getElem? (i := 220) rfl)) rfl
theorem tw_3102 : (Cond.instanceMethod ⟨"ProofLibraryModel", "areSame", "(II)Z"⟩) ∈ TB := TB_m (tc_13 (List.mem_of_getElem? (i := 222) rfl)) rfl
theorem tw_3103 : (Cond.code ⟨"ProofLibraryModel", "areSame", "(II)Z"⟩ prog_15_method_104_code 4 (some .boolean)) ∈ TB := TB_m (tc_13 (List.mem_of_getElem? (i := 223) rfl)) rfl
theorem tw_3104 : (Cond.methodLink "ProofLibraryModel" 797 ⟨"ProofLibraryModel", "tellSteps", "()V"⟩) ∈ TB := TB_m (tc_13 (List.mem_of_getElem? (i := 224) rfl)) rfl
theorem tw_3106 : (Cond.instanceMethod ⟨"ProofLibraryModel", "tellSteps", "()V"⟩) ∈ TB := TB_m (tc_13 (List.mem_of_getElem? (i := 226) rfl)) rfl
theorem tw_3107 : (Cond.code ⟨"ProofLibraryModel", "tellSteps", "()V"⟩ prog_15_method_107_code 4 none) ∈ TB := TB_m (tc_13 (List.mem_of_getElem? (i := 227) rfl)) rfl
theorem tw_3108 : (Cond.methodLink "ProofLibraryModel" 806 ⟨"ProofLibraryModel", "putNumber", "(I)V"⟩) ∈ TB := TB_m (tc_13 (List.mem_of_getElem? (i := 228) rfl)) rfl
theorem tw_3110 : (Cond.instanceMethod ⟨"ProofLibraryModel", "putNumber", "(I)V"⟩) ∈ TB := TB_m (tc_13 (List.mem_of_getElem? (i := 230) rfl)) rfl
theorem tw_3111 : (Cond.code ⟨"ProofLibraryModel", "putNumber", "(I)V"⟩ prog_15_method_108_code 8 none) ∈ TB := TB_m (tc_13 (List.mem_of_getElem? (i := 231) rfl)) rfl
theorem tw_3112 : (Cond.methodLink "ProofLibraryModel" 985 ⟨"ProofLibraryModel", "printPlain", "(I)I"⟩) ∈ TB := TB_m (tc_13 (List.mem_of_getElem? (i := 232) rfl)) rfl
theorem tw_3114 : (Cond.instanceMethod ⟨"ProofLibraryModel", "printPlain", "(I)I"⟩) ∈ TB := TB_m (tc_13 (List.mem_of_getElem? (i := 234) rfl)) rfl
theorem tw_3115 : (Cond.code ⟨"ProofLibraryModel", "printPlain", "(I)I"⟩ prog_15_method_110_code 4 (some .int)) ∈ TB := TB_m (tc_13 (List.mem_of_getElem? (i := 235) rfl)) rfl
theorem tw_3116 : (Cond.constantLong "ProofLibraryModel" 809 4000) ∈ TB := TB_m (tc_13 (List.mem_of_getElem? (i := 236) rfl)) rfl
theorem tw_3117 : (Cond.methodLink "ProofLibraryModel" 988 ⟨"ProofLibraryModel", "printTree", "(II)I"⟩) ∈ TB := TB_m (tc_13 (List.mem_of_getElem? (i := 237) rfl)) rfl
theorem tw_3119 : (Cond.instanceMethod ⟨"ProofLibraryModel", "printTree", "(II)I"⟩) ∈ TB := TB_m (tc_13 (List.mem_of_getElem? (i := 239) rfl)) rfl
theorem tw_3120 : (Cond.code ⟨"ProofLibraryModel", "printTree", "(II)I"⟩ prog_15_method_159_code 3 (some .int)) ∈ TB := TB_m (tc_14 (List.mem_of_getElem? (i := 0) rfl)) rfl
theorem tw_3121 : (Cond.methodLink "ProofLibraryModel" 970 ⟨"ProofLibraryModel", "printBare", "(I)I"⟩) ∈ TB := TB_m (tc_14 (List.mem_of_getElem? (i := 1) rfl)) rfl
theorem tw_3123 : (Cond.instanceMethod ⟨"ProofLibraryModel", "printBare", "(I)I"⟩) ∈ TB := TB_m (tc_14 (List.mem_of_getElem? (i := 3) rfl)) rfl
theorem tw_3124 : (Cond.code ⟨"ProofLibraryModel", "printBare", "(I)I"⟩ prog_15_method_158_code 6 (some .int)) ∈ TB := TB_m (tc_14 (List.mem_of_getElem? (i := 4) rfl)) rfl
theorem tw_3125 : (Cond.methodLink "ProofLibraryModel" 961 ⟨"ProofLibraryModel", "findDefiners", "(I)V"⟩) ∈ TB := TB_m (tc_14 (List.mem_of_getElem? (i := 5) rfl)) rfl
theorem tw_3127 : (Cond.instanceMethod ⟨"ProofLibraryModel", "findDefiners", "(I)V"⟩) ∈ TB := TB_m (tc_14 (List.mem_of_getElem? (i := 7) rfl)) rfl
theorem tw_3128 : (Cond.code ⟨"ProofLibraryModel", "findDefiners", "(I)V"⟩ prog_15_method_153_code 4 none) ∈ TB := TB_m (tc_14 (List.mem_of_getElem? (i := 8) rfl)) rfl
theorem tw_3129 : (Cond.methodLink "ProofLibraryModel" 940 ⟨"ProofLibraryModel", "ruleOf", "(I)I"⟩) ∈ TB := TB_m (tc_14 (List.mem_of_getElem? (i := 9) rfl)) rfl
theorem tw_3131 : (Cond.instanceMethod ⟨"ProofLibraryModel", "ruleOf", "(I)I"⟩) ∈ TB := TB_m (tc_14 (List.mem_of_getElem? (i := 11) rfl)) rfl
theorem tw_3132 : (Cond.code ⟨"ProofLibraryModel", "ruleOf", "(I)I"⟩ prog_15_method_151_code 2 (some .int)) ∈ TB := TB_m (tc_14 (List.mem_of_getElem? (i := 12) rfl)) rfl
theorem tw_3133 : (Cond.methodLink "ProofLibraryModel" 943 ⟨"ProofLibraryModel", "needRules", "(II)V"⟩) ∈ TB := TB_m (tc_14 (List.mem_of_getElem? (i := 13) rfl)) rfl
theorem tw_3135 : (Cond.instanceMethod ⟨"ProofLibraryModel", "needRules", "(II)V"⟩) ∈ TB := TB_m (tc_14 (List.mem_of_getElem? (i := 15) rfl)) rfl
theorem tw_3136 : (Cond.code ⟨"ProofLibraryModel", "needRules", "(II)V"⟩ prog_15_method_152_code 4 none) ∈ TB := TB_m (tc_14 (List.mem_of_getElem? (i := 16) rfl)) rfl
theorem tw_3137 : (Cond.methodLink "ProofLibraryModel" 967 ⟨"ProofLibraryModel", "tellBare", "(II)I"⟩) ∈ TB := TB_m (tc_14 (List.mem_of_getElem? (i := 17) rfl)) rfl
theorem tw_3139 : (Cond.instanceMethod ⟨"ProofLibraryModel", "tellBare", "(II)I"⟩) ∈ TB := TB_m (tc_14 (List.mem_of_getElem? (i := 19) rfl)) rfl
theorem tw_3140 : (Cond.code ⟨"ProofLibraryModel", "tellBare", "(II)I"⟩ prog_15_method_157_code 5 (some .int)) ∈ TB := TB_m (tc_14 (List.mem_of_getElem? (i := 20) rfl)) rfl
theorem tw_3141 : (Cond.methodLink "ProofLibraryModel" 949 ⟨"ProofLibraryModel", "addTask", "(I)V"⟩) ∈ TB := TB_m (tc_14 (List.mem_of_getElem? (i := 21) rfl)) rfl
theorem tw_3143 : (Cond.instanceMethod ⟨"ProofLibraryModel", "addTask", "(I)V"⟩) ∈ TB := TB_m (tc_14 (List.mem_of_getElem? (i := 23) rfl)) rfl
theorem tw_3144 : (Cond.code ⟨"ProofLibraryModel", "addTask", "(I)V"⟩ prog_15_method_154_code 2 none) ∈ TB := TB_m (tc_14 (List.mem_of_getElem? (i := 24) rfl)) rfl
theorem tw_3145 : (Cond.methodLink "ProofLibraryModel" 955 ⟨"ProofLibraryModel", "leafOf", "(II)I"⟩) ∈ TB := TB_m (tc_14 (List.mem_of_getElem? (i := 25) rfl)) rfl
theorem tw_3147 : (Cond.instanceMethod ⟨"ProofLibraryModel", "leafOf", "(II)I"⟩) ∈ TB := TB_m (tc_14 (List.mem_of_getElem? (i := 27) rfl)) rfl
theorem tw_3148 : (Cond.code ⟨"ProofLibraryModel", "leafOf", "(II)I"⟩ prog_15_method_155_code 4 (some .int)) ∈ TB := TB_m (tc_14 (List.mem_of_getElem? (i := 28) rfl)) rfl
theorem tw_3149 : (Cond.methodLink "ProofLibraryModel" 958 ⟨"ProofLibraryModel", "spread", "(I)Z"⟩) ∈ TB := TB_m (tc_14 (List.mem_of_getElem? (i := 29) rfl)) rfl
theorem tw_3151 : (Cond.instanceMethod ⟨"ProofLibraryModel", "spread", "(I)Z"⟩) ∈ TB := TB_m (tc_14 (List.mem_of_getElem? (i := 31) rfl)) rfl
theorem tw_3152 : (Cond.code ⟨"ProofLibraryModel", "spread", "(I)Z"⟩ prog_15_method_156_code 5 (some .boolean)) ∈ TB := TB_m (tc_14 (List.mem_of_getElem? (i := 32) rfl)) rfl
theorem tw_3153 : (Cond.methodLink "ProofLibraryModel" 973 ⟨"ProofLibraryModel", "putTree", "(I)V"⟩) ∈ TB := TB_m (tc_14 (List.mem_of_getElem? (i := 33) rfl)) rfl
theorem tw_3155 : (Cond.instanceMethod ⟨"ProofLibraryModel", "putTree", "(I)V"⟩) ∈ TB := TB_m (tc_14 (List.mem_of_getElem? (i := 35) rfl)) rfl
theorem tw_3156 : (Cond.code ⟨"ProofLibraryModel", "putTree", "(I)V"⟩ prog_15_method_140_code 5 none) ∈ TB := TB_m (tc_14 (List.mem_of_getElem? (i := 36) rfl)) rfl
theorem tw_3157 : (Cond.methodLink "ProofLibraryLaw" 114 ⟨"ProofLibraryModel", "apply", "(I)I"⟩) ∈ TB := TB_m (tc_14 (List.mem_of_getElem? (i := 37) rfl)) rfl
theorem tw_3158 : (Cond.instanceMethod ⟨"ProofLibraryModel", "apply", "(I)I"⟩) ∈ TB := TB_m (tc_14 (List.mem_of_getElem? (i := 38) rfl)) rfl
theorem tw_3159 : (Cond.selects "ProofLibraryModel" ⟨"ProofLibraryModel", "apply", "(I)I"⟩ ⟨"ProofLibraryModel", "apply", "(I)I"⟩) ∈ TB := TB_m (tc_14 (List.mem_of_getElem? (i := 39) rfl)) rfl
theorem tw_3160 : (Cond.code ⟨"ProofLibraryModel", "apply", "(I)I"⟩ prog_15_method_166_code 6 (some .int)) ∈ TB := TB_m (tc_14 (List.mem_of_getElem? (i := 40) rfl)) rfl
theorem tw_3161 : (Cond.methodLink "ProofLibraryModel" 995 ⟨"ProofLibraryModel", "takeRow", "()I"⟩) ∈ TB := TB_m (tc_14 (List.mem_of_getElem? (i := 41) rfl)) rfl
theorem tw_3163 : (Cond.instanceMethod ⟨"ProofLibraryModel", "takeRow", "()I"⟩) ∈ TB := TB_m (tc_14 (List.mem_of_getElem? (i := 43) rfl)) rfl
theorem tw_3164 : (Cond.code ⟨"ProofLibraryModel", "takeRow", "()I"⟩ prog_15_method_161_code 5 (some .int)) ∈ TB := TB_m (tc_14 (List.mem_of_getElem? (i := 44) rfl)) rfl
theorem tw_3165 : (Cond.methodLink "ProofLibraryModel" 998 ⟨"ProofLibraryModel", "rowTree", "(I)I"⟩) ∈ TB := TB_m (tc_14 (List.mem_of_getElem? (i := 45) rfl)) rfl
theorem tw_3167 : (Cond.instanceMethod ⟨"ProofLibraryModel", "rowTree", "(I)I"⟩) ∈ TB := TB_m (tc_14 (List.mem_of_getElem? (i := 47) rfl)) rfl
theorem tw_3168 : (Cond.code ⟨"ProofLibraryModel", "rowTree", "(I)I"⟩ prog_15_method_164_code 4 (some .int)) ∈ TB := TB_m (tc_14 (List.mem_of_getElem? (i := 48) rfl)) rfl
theorem tw_3169 : (Cond.methodLink "ProofLibraryModel" 1001 ⟨"ProofLibraryModel", "fits", "(II)Z"⟩) ∈ TB := TB_m (tc_14 (List.mem_of_getElem? (i := 49) rfl)) rfl
theorem tw_3171 : (Cond.instanceMethod ⟨"ProofLibraryModel", "fits", "(II)Z"⟩) ∈ TB := TB_m (tc_14 (List.mem_of_getElem? (i := 51) rfl)) rfl
theorem tw_3172 : (Cond.code ⟨"ProofLibraryModel", "fits", "(II)Z"⟩ prog_15_method_163_code 7 (some .boolean)) ∈ TB := TB_m (tc_14 (List.mem_of_getElem? (i := 52) rfl)) rfl
theorem tw_3173 : (Cond.methodLink "ProofLibraryModel" 991 ⟨"ProofLibraryModel", "isSameStretch", "(IIII)Z"⟩) ∈ TB := TB_m (tc_14 (List.mem_of_getElem? (i := 53) rfl)) rfl
theorem tw_3175 : (Cond.instanceMethod ⟨"ProofLibraryModel", "isSameStretch", "(IIII)Z"⟩) ∈ TB := TB_m (tc_14 (List.mem_of_getElem? (i := 55) rfl)) rfl
theorem tw_3176 : (Cond.code ⟨"ProofLibraryModel", "isSameStretch", "(IIII)Z"⟩ prog_15_method_162_code 7 (some .boolean)) ∈ TB := TB_m (tc_14 (List.mem_of_getElem? (i := 56) rfl)) rfl
theorem tw_3177 : (Cond.methodLink "ProofLibraryModel" 1004 ⟨"ProofLibraryModel", "tellHyps", "(I)I"⟩) ∈ TB := TB_m (tc_14 (List.mem_of_getElem? (i := 57) rfl)) rfl
theorem tw_3179 : (Cond.instanceMethod ⟨"ProofLibraryModel", "tellHyps", "(I)I"⟩) ∈ TB := TB_m (tc_14 (List.mem_of_getElem? (i := 59) rfl)) rfl
theorem tw_3180 : (Cond.code ⟨"ProofLibraryModel", "tellHyps", "(I)I"⟩ prog_15_method_165_code 8 (some .int)) ∈ TB := TB_m (tc_14 (List.mem_of_getElem? (i := 60) rfl)) rfl
theorem tw_3181 : (Cond.methodLink "ProofLibraryLaw" 118 ⟨"ProofLibraryModel", "check", "()I"⟩) ∈ TB := TB_m (tc_14 (List.mem_of_getElem? (i := 61) rfl)) rfl
theorem tw_3182 : (Cond.instanceMethod ⟨"ProofLibraryModel", "check", "()I"⟩) ∈ TB := TB_m (tc_14 (List.mem_of_getElem? (i := 62) rfl)) rfl
theorem tw_3183 : (Cond.selects "ProofLibraryModel" ⟨"ProofLibraryModel", "check", "()I"⟩ ⟨"ProofLibraryModel", "check", "()I"⟩) ∈ TB := TB_m (tc_14 (List.mem_of_getElem? (i := 63) rfl)) rfl
theorem tw_3184 : (Cond.code ⟨"ProofLibraryModel", "check", "()I"⟩ prog_15_method_167_code 1 (some .int)) ∈ TB := TB_m (tc_14 (List.mem_of_getElem? (i := 64) rfl)) rfl
theorem ts_0 : (Cond.selects "ProofLibrary" ⟨"ProofLibrary", "putFour", "(I)V"⟩ ⟨"ProofLibrary", "putFour", "(I)V"⟩) ∈ TB := TB_sel 0 rfl rfl
theorem ts_1 : (Cond.selects "ProofLibrary$Reader" ⟨"ProofLibrary$Reader", "begin", "([C)V"⟩ ⟨"ProofLibrary$Reader", "begin", "([C)V"⟩) ∈ TB := TB_sel 1 rfl rfl
theorem ts_2 : (Cond.selects "ProofLibrary$Scopes" ⟨"ProofLibrary$Scopes", "mark", "()V"⟩ ⟨"ProofLibrary$Scopes", "mark", "()V"⟩) ∈ TB := TB_sel 2 rfl rfl
theorem ts_3 : (Cond.selects "ProofLibrary$Reader" ⟨"ProofLibrary$Reader", "token", "(II)I"⟩ ⟨"ProofLibrary$Reader", "token", "(II)I"⟩) ∈ TB := TB_sel 3 rfl rfl
theorem ts_4 : (Cond.selects "ProofLibrary$Reader" ⟨"ProofLibrary$Reader", "hasCommentMark", "(II)Z"⟩ ⟨"ProofLibrary$Reader", "hasCommentMark", "(II)Z"⟩) ∈ TB := TB_sel 4 rfl rfl
theorem ts_5 : (Cond.selects "ProofLibrary$Reader" ⟨"ProofLibrary$Reader", "endRow", "()I"⟩ ⟨"ProofLibrary$Reader", "endRow", "()I"⟩) ∈ TB := TB_sel 5 rfl rfl
theorem ts_6 : (Cond.selects "ProofLibrary$Reader" ⟨"ProofLibrary$Reader", "endDeclaration", "(I)I"⟩ ⟨"ProofLibrary$Reader", "endDeclaration", "(I)I"⟩) ∈ TB := TB_sel 6 rfl rfl
theorem ts_7 : (Cond.selects "ProofLibrary$Reader" ⟨"ProofLibrary$Reader", "endStatement", "()I"⟩ ⟨"ProofLibrary$Reader", "endStatement", "()I"⟩) ∈ TB := TB_sel 7 rfl rfl
theorem ts_8 : (Cond.selects "ProofLibrary$Scopes" ⟨"ProofLibrary$Scopes", "markVariables", "(I)V"⟩ ⟨"ProofLibrary$Scopes", "markVariables", "(I)V"⟩) ∈ TB := TB_sel 8 rfl rfl
theorem ts_9 : (Cond.selects "ProofLibrary$Assertions" ⟨"ProofLibrary$Assertions", "takeHypotheses", "(I)Z"⟩ ⟨"ProofLibrary$Assertions", "takeHypotheses", "(I)Z"⟩) ∈ TB := TB_sel 9 rfl rfl
theorem ts_10 : (Cond.selects "ProofLibrary$Assertions" ⟨"ProofLibrary$Assertions", "takePairs", "(I)Z"⟩ ⟨"ProofLibrary$Assertions", "takePairs", "(I)Z"⟩) ∈ TB := TB_sel 10 rfl rfl
theorem ts_11 : (Cond.selects "ProofLibrary$Reader" ⟨"ProofLibrary$Reader", "endProof", "()I"⟩ ⟨"ProofLibrary$Reader", "endProof", "()I"⟩) ∈ TB := TB_sel 11 rfl rfl
theorem ts_12 : (Cond.selects "ProofLibrary$Reader" ⟨"ProofLibrary$Reader", "keyword", "(I)I"⟩ ⟨"ProofLibrary$Reader", "keyword", "(I)I"⟩) ∈ TB := TB_sel 12 rfl rfl
theorem ts_13 : (Cond.selects "ProofLibrary$Reader" ⟨"ProofLibrary$Reader", "declaration", "(I)I"⟩ ⟨"ProofLibrary$Reader", "declaration", "(I)I"⟩) ∈ TB := TB_sel 13 rfl rfl
theorem ts_14 : (Cond.selects "ProofLibrary$Reader" ⟨"ProofLibrary$Reader", "statement", "(I)I"⟩ ⟨"ProofLibrary$Reader", "statement", "(I)I"⟩) ∈ TB := TB_sel 14 rfl rfl
theorem ts_15 : (Cond.selects "ProofLibrary$Reader" ⟨"ProofLibrary$Reader", "proof", "()I"⟩ ⟨"ProofLibrary$Reader", "proof", "()I"⟩) ∈ TB := TB_sel 15 rfl rfl
theorem ts_16 : (Cond.selects "ProofLibrary$Reader" ⟨"ProofLibrary$Reader", "openScope", "()I"⟩ ⟨"ProofLibrary$Reader", "openScope", "()I"⟩) ∈ TB := TB_sel 16 rfl rfl
theorem ts_17 : (Cond.selects "ProofLibrary$Reader" ⟨"ProofLibrary$Reader", "closeScope", "()I"⟩ ⟨"ProofLibrary$Reader", "closeScope", "()I"⟩) ∈ TB := TB_sel 17 rfl rfl
theorem ts_18 : (Cond.selects "ProofLibrary$Scopes" ⟨"ProofLibrary$Scopes", "cut", "()V"⟩ ⟨"ProofLibrary$Scopes", "cut", "()V"⟩) ∈ TB := TB_sel 18 rfl rfl
theorem ts_19 : (Cond.selects "ProofLibrary$Scopes" ⟨"ProofLibrary$Scopes", "turnPair", "(II)V"⟩ ⟨"ProofLibrary$Scopes", "turnPair", "(II)V"⟩) ∈ TB := TB_sel 19 rfl rfl
theorem ts_20 : (Cond.selects "ProofLibrary$Reader" ⟨"ProofLibrary$Reader", "hasDollar", "(II)Z"⟩ ⟨"ProofLibrary$Reader", "hasDollar", "(II)Z"⟩) ∈ TB := TB_sel 20 rfl rfl
theorem ts_21 : (Cond.selects "ProofLibrary$Library" ⟨"ProofLibrary$Library", "isName", "(I[CII)Z"⟩ ⟨"ProofLibrary$Library", "isName", "(I[CII)Z"⟩) ∈ TB := TB_sel 21 rfl rfl
theorem ts_22 : (Cond.selects "ProofLibrary$Reader" ⟨"ProofLibrary$Reader", "word", "(II)I"⟩ ⟨"ProofLibrary$Reader", "word", "(II)I"⟩) ∈ TB := TB_sel 22 rfl rfl
theorem ts_23 : (Cond.selects "ProofLibrary$Reader" ⟨"ProofLibrary$Reader", "label", "(II)I"⟩ ⟨"ProofLibrary$Reader", "label", "(II)I"⟩) ∈ TB := TB_sel 23 rfl rfl
theorem ts_24 : (Cond.selects "ProofLibrary$Library" ⟨"ProofLibrary$Library", "addName", "([CIII)V"⟩ ⟨"ProofLibrary$Library", "addName", "([CIII)V"⟩) ∈ TB := TB_sel 24 rfl rfl
theorem ts_25 : (Cond.selects "ProofLibrary$Reader" ⟨"ProofLibrary$Reader", "declareConstant", "(II)I"⟩ ⟨"ProofLibrary$Reader", "declareConstant", "(II)I"⟩) ∈ TB := TB_sel 25 rfl rfl
theorem ts_26 : (Cond.selects "ProofLibrary$Reader" ⟨"ProofLibrary$Reader", "faultOfNewSymbol", "(I)I"⟩ ⟨"ProofLibrary$Reader", "faultOfNewSymbol", "(I)I"⟩) ∈ TB := TB_sel 26 rfl rfl
theorem ts_27 : (Cond.selects "ProofLibrary$Reader" ⟨"ProofLibrary$Reader", "declareVariable", "(II)I"⟩ ⟨"ProofLibrary$Reader", "declareVariable", "(II)I"⟩) ∈ TB := TB_sel 27 rfl rfl
theorem ts_28 : (Cond.selects "ProofLibrary$Reader" ⟨"ProofLibrary$Reader", "takeApart", "(I)I"⟩ ⟨"ProofLibrary$Reader", "takeApart", "(I)I"⟩) ∈ TB := TB_sel 28 rfl rfl
theorem ts_29 : (Cond.selects "ProofLibrary$Reader" ⟨"ProofLibrary$Reader", "takeSymbol", "(I)I"⟩ ⟨"ProofLibrary$Reader", "takeSymbol", "(I)I"⟩) ∈ TB := TB_sel 29 rfl rfl
theorem ts_30 : (Cond.selects "ProofLibrary$Reader" ⟨"ProofLibrary$Reader", "firstSymbol", "(I)I"⟩ ⟨"ProofLibrary$Reader", "firstSymbol", "(I)I"⟩) ∈ TB := TB_sel 30 rfl rfl
theorem ts_31 : (Cond.selects "ProofLibrary$Reader" ⟨"ProofLibrary$Reader", "floatingVariable", "(I)I"⟩ ⟨"ProofLibrary$Reader", "floatingVariable", "(I)I"⟩) ∈ TB := TB_sel 31 rfl rfl
theorem ts_32 : (Cond.selects "ProofLibrary$Steps" ⟨"ProofLibrary$Steps", "plainStep", "([CIII)I"⟩ ⟨"ProofLibrary$Steps", "plainStep", "([CIII)I"⟩) ∈ TB := TB_sel 32 rfl rfl
theorem ts_33 : (Cond.selects "ProofLibrary$Steps" ⟨"ProofLibrary$Steps", "isFull", "()Z"⟩ ⟨"ProofLibrary$Steps", "isFull", "()Z"⟩) ∈ TB := TB_sel 33 rfl rfl
theorem ts_34 : (Cond.selects "ProofLibrary$Steps" ⟨"ProofLibrary$Steps", "isUsable", "(I)Z"⟩ ⟨"ProofLibrary$Steps", "isUsable", "(I)Z"⟩) ∈ TB := TB_sel 34 rfl rfl
theorem ts_35 : (Cond.selects "ProofLibrary$Steps" ⟨"ProofLibrary$Steps", "addStep", "(I)V"⟩ ⟨"ProofLibrary$Steps", "addStep", "(I)V"⟩) ∈ TB := TB_sel 35 rfl rfl
theorem ts_36 : (Cond.selects "ProofLibrary$Steps" ⟨"ProofLibrary$Steps", "listLabel", "([CIII)I"⟩ ⟨"ProofLibrary$Steps", "listLabel", "([CIII)I"⟩) ∈ TB := TB_sel 36 rfl rfl
theorem ts_37 : (Cond.selects "ProofLibrary$Steps" ⟨"ProofLibrary$Steps", "isListed", "(I)Z"⟩ ⟨"ProofLibrary$Steps", "isListed", "(I)Z"⟩) ∈ TB := TB_sel 37 rfl rfl
theorem ts_38 : (Cond.selects "ProofLibrary$Steps" ⟨"ProofLibrary$Steps", "letters", "([CII)I"⟩ ⟨"ProofLibrary$Steps", "letters", "([CII)I"⟩) ∈ TB := TB_sel 38 rfl rfl
theorem ts_39 : (Cond.selects "ProofLibrary$Steps" ⟨"ProofLibrary$Steps", "letter", "(I)I"⟩ ⟨"ProofLibrary$Steps", "letter", "(I)I"⟩) ∈ TB := TB_sel 39 rfl rfl
theorem ts_40 : (Cond.selects "ProofLibrary$Steps" ⟨"ProofLibrary$Steps", "save", "()I"⟩ ⟨"ProofLibrary$Steps", "save", "()I"⟩) ∈ TB := TB_sel 40 rfl rfl
theorem ts_41 : (Cond.selects "ProofLibrary$Steps" ⟨"ProofLibrary$Steps", "endNumber", "(I)I"⟩ ⟨"ProofLibrary$Steps", "endNumber", "(I)I"⟩) ∈ TB := TB_sel 41 rfl rfl
theorem ts_42 : (Cond.selects "ProofLibrary$Reader" ⟨"ProofLibrary$Reader", "endTheorem", "()I"⟩ ⟨"ProofLibrary$Reader", "endTheorem", "()I"⟩) ∈ TB := TB_sel 42 rfl rfl
theorem ts_43 : (Cond.selects "ProofLibrary$Steps" ⟨"ProofLibrary$Steps", "putAgain", "(I)I"⟩ ⟨"ProofLibrary$Steps", "putAgain", "(I)I"⟩) ∈ TB := TB_sel 43 rfl rfl
theorem ts_44 : (Cond.selects "ProofLibrary$Steps" ⟨"ProofLibrary$Steps", "take", "(I)I"⟩ ⟨"ProofLibrary$Steps", "take", "(I)I"⟩) ∈ TB := TB_sel 44 rfl rfl
theorem ts_45 : (Cond.selects "ProofLibrary$Pile" ⟨"ProofLibrary$Pile", "isEssential", "(II)Z"⟩ ⟨"ProofLibrary$Pile", "isEssential", "(II)Z"⟩) ∈ TB := TB_sel 45 rfl rfl
theorem ts_46 : (Cond.selects "ProofLibrary$Pile" ⟨"ProofLibrary$Pile", "isSame", "(III)Z"⟩ ⟨"ProofLibrary$Pile", "isSame", "(III)Z"⟩) ∈ TB := TB_sel 46 rfl rfl
theorem ts_47 : (Cond.selects "ProofLibrary$Pile" ⟨"ProofLibrary$Pile", "gather", "(I[I)I"⟩ ⟨"ProofLibrary$Pile", "gather", "(I[I)I"⟩) ∈ TB := TB_sel 47 rfl rfl
theorem ts_48 : (Cond.selects "ProofLibrary$Pile" ⟨"ProofLibrary$Pile", "areApart", "(II)Z"⟩ ⟨"ProofLibrary$Pile", "areApart", "(II)Z"⟩) ∈ TB := TB_sel 48 rfl rfl
theorem ts_49 : (Cond.selects "ProofLibrary$Steps" ⟨"ProofLibrary$Steps", "putNew", "(Z)I"⟩ ⟨"ProofLibrary$Steps", "putNew", "(Z)I"⟩) ∈ TB := TB_sel 49 rfl rfl
theorem ts_50 : (Cond.selects "ProofLibrary$Reader" ⟨"ProofLibrary$Reader", "faultAtEnd", "()I"⟩ ⟨"ProofLibrary$Reader", "faultAtEnd", "()I"⟩) ∈ TB := TB_sel 50 rfl rfl
theorem ts_51 : (Cond.selects "ProofLibrary" ⟨"ProofLibrary", "useTape", "()V"⟩ ⟨"ProofLibrary", "useTape", "()V"⟩) ∈ TB := TB_sel 51 rfl rfl
theorem ts_52 : (Cond.selects "ProofLibrary" ⟨"ProofLibrary", "isRow", "(II)Z"⟩ ⟨"ProofLibrary", "isRow", "(II)Z"⟩) ∈ TB := TB_sel 52 rfl rfl
theorem ts_53 : (Cond.selects "ProofLibrary" ⟨"ProofLibrary", "printSymbol", "(I)I"⟩ ⟨"ProofLibrary", "printSymbol", "(I)I"⟩) ∈ TB := TB_sel 53 rfl rfl
theorem ts_54 : (Cond.selects "ProofLibrary" ⟨"ProofLibrary", "printStatement", "(I)I"⟩ ⟨"ProofLibrary", "printStatement", "(I)I"⟩) ∈ TB := TB_sel 54 rfl rfl
theorem ts_55 : (Cond.selects "ProofLibrary" ⟨"ProofLibrary", "printRow", "(II)I"⟩ ⟨"ProofLibrary", "printRow", "(II)I"⟩) ∈ TB := TB_sel 55 rfl rfl
theorem ts_56 : (Cond.selects "ProofLibrary" ⟨"ProofLibrary", "printPacked", "(I)I"⟩ ⟨"ProofLibrary", "printPacked", "(I)I"⟩) ∈ TB := TB_sel 56 rfl rfl
theorem ts_57 : (Cond.selects "ProofLibrary$Packer" ⟨"ProofLibrary$Packer", "findSame", "(I)V"⟩ ⟨"ProofLibrary$Packer", "findSame", "(I)V"⟩) ∈ TB := TB_sel 57 rfl rfl
theorem ts_58 : (Cond.selects "ProofLibrary$Packer" ⟨"ProofLibrary$Packer", "hash", "(I)I"⟩ ⟨"ProofLibrary$Packer", "hash", "(I)I"⟩) ∈ TB := TB_sel 58 rfl rfl
theorem ts_59 : (Cond.selects "ProofLibrary$Packer" ⟨"ProofLibrary$Packer", "isAlike", "(II)Z"⟩ ⟨"ProofLibrary$Packer", "isAlike", "(II)Z"⟩) ∈ TB := TB_sel 59 rfl rfl
theorem ts_60 : (Cond.selects "ProofLibrary$Packer" ⟨"ProofLibrary$Packer", "walk", "(IZ)V"⟩ ⟨"ProofLibrary$Packer", "walk", "(IZ)V"⟩) ∈ TB := TB_sel 60 rfl rfl
theorem ts_61 : (Cond.selects "ProofLibrary$Packer" ⟨"ProofLibrary$Packer", "enter", "(IZ)V"⟩ ⟨"ProofLibrary$Packer", "enter", "(IZ)V"⟩) ∈ TB := TB_sel 61 rfl rfl
theorem ts_62 : (Cond.selects "ProofLibrary$Packer" ⟨"ProofLibrary$Packer", "tell", "(I)V"⟩ ⟨"ProofLibrary$Packer", "tell", "(I)V"⟩) ∈ TB := TB_sel 62 rfl rfl
theorem ts_63 : (Cond.selects "ProofLibrary$Packer" ⟨"ProofLibrary$Packer", "giveNumbers", "(I)V"⟩ ⟨"ProofLibrary$Packer", "giveNumbers", "(I)V"⟩) ∈ TB := TB_sel 63 rfl rfl
theorem ts_64 : (Cond.selects "ProofLibrary" ⟨"ProofLibrary", "printUnpacked", "(I)I"⟩ ⟨"ProofLibrary", "printUnpacked", "(I)I"⟩) ∈ TB := TB_sel 64 rfl rfl
theorem ts_65 : (Cond.selects "ProofLibrary" ⟨"ProofLibrary", "printTree", "(I)I"⟩ ⟨"ProofLibrary", "printTree", "(I)I"⟩) ∈ TB := TB_sel 65 rfl rfl
theorem ts_66 : (Cond.selects "ProofLibrary" ⟨"ProofLibrary", "treesOf", "(I)I"⟩ ⟨"ProofLibrary", "treesOf", "(I)I"⟩) ∈ TB := TB_sel 66 rfl rfl
theorem ts_67 : (Cond.selects "ProofLibrary$Rules" ⟨"ProofLibrary$Rules", "constantNamed", "([C)I"⟩ ⟨"ProofLibrary$Rules", "constantNamed", "([C)I"⟩) ∈ TB := TB_sel 67 rfl rfl
theorem ts_68 : (Cond.selects "ProofLibrary$Rules" ⟨"ProofLibrary$Rules", "insert", "(I)V"⟩ ⟨"ProofLibrary$Rules", "insert", "(I)V"⟩) ∈ TB := TB_sel 68 rfl rfl
theorem ts_69 : (Cond.selects "ProofLibrary$Rules" ⟨"ProofLibrary$Rules", "child", "(III)I"⟩ ⟨"ProofLibrary$Rules", "child", "(III)I"⟩) ∈ TB := TB_sel 69 rfl rfl
theorem ts_70 : (Cond.selects "ProofLibrary$Chart" ⟨"ProofLibrary$Chart", "forgetRow", "()V"⟩ ⟨"ProofLibrary$Chart", "forgetRow", "()V"⟩) ∈ TB := TB_sel 70 rfl rfl
theorem ts_71 : (Cond.selects "ProofLibrary$Chart" ⟨"ProofLibrary$Chart", "parseFromStart", "()V"⟩ ⟨"ProofLibrary$Chart", "parseFromStart", "()V"⟩) ∈ TB := TB_sel 71 rfl rfl
theorem ts_72 : (Cond.selects "ProofLibrary$Chart" ⟨"ProofLibrary$Chart", "add", "(IJJI)V"⟩ ⟨"ProofLibrary$Chart", "add", "(IJJI)V"⟩) ∈ TB := TB_sel 72 rfl rfl
theorem ts_73 : (Cond.selects "ProofLibrary$Chart" ⟨"ProofLibrary$Chart", "walk", "(IJJZ)V"⟩ ⟨"ProofLibrary$Chart", "walk", "(IJJZ)V"⟩) ∈ TB := TB_sel 73 rfl rfl
theorem ts_74 : (Cond.selects "ProofLibrary$Chart" ⟨"ProofLibrary$Chart", "addRules", "(IJJ)V"⟩ ⟨"ProofLibrary$Chart", "addRules", "(IJJ)V"⟩) ∈ TB := TB_sel 74 rfl rfl
theorem ts_75 : (Cond.selects "ProofLibrary$Chart" ⟨"ProofLibrary$Chart", "step", "(II)Z"⟩ ⟨"ProofLibrary$Chart", "step", "(II)Z"⟩) ∈ TB := TB_sel 75 rfl rfl
theorem ts_76 : (Cond.selects "ProofLibrary$Chart" ⟨"ProofLibrary$Chart", "addUnits", "(I)V"⟩ ⟨"ProofLibrary$Chart", "addUnits", "(I)V"⟩) ∈ TB := TB_sel 76 rfl rfl
theorem ts_77 : (Cond.selects "ProofLibrary$Chart" ⟨"ProofLibrary$Chart", "hasUnits", "(I)Z"⟩ ⟨"ProofLibrary$Chart", "hasUnits", "(I)Z"⟩) ∈ TB := TB_sel 77 rfl rfl
theorem ts_78 : (Cond.selects "ProofLibrary$Chart" ⟨"ProofLibrary$Chart", "reaches", "(II)Z"⟩ ⟨"ProofLibrary$Chart", "reaches", "(II)Z"⟩) ∈ TB := TB_sel 78 rfl rfl
theorem ts_79 : (Cond.selects "ProofLibrary$Chart" ⟨"ProofLibrary$Chart", "countUnits", "()Z"⟩ ⟨"ProofLibrary$Chart", "countUnits", "()Z"⟩) ∈ TB := TB_sel 79 rfl rfl
theorem ts_80 : (Cond.selects "ProofLibrary$Tree" ⟨"ProofLibrary$Tree", "part", "(III)V"⟩ ⟨"ProofLibrary$Tree", "part", "(III)V"⟩) ∈ TB := TB_sel 80 rfl rfl
theorem ts_81 : (Cond.selects "ProofLibrary$Tree" ⟨"ProofLibrary$Tree", "startsOf", "(IJII)J"⟩ ⟨"ProofLibrary$Tree", "startsOf", "(IJII)J"⟩) ∈ TB := TB_sel 81 rfl rfl
theorem ts_82 : (Cond.selects "ProofLibrary$Tree" ⟨"ProofLibrary$Tree", "sortOf", "(I)I"⟩ ⟨"ProofLibrary$Tree", "sortOf", "(I)I"⟩) ∈ TB := TB_sel 82 rfl rfl
theorem ts_83 : (Cond.selects "ProofLibrary" ⟨"ProofLibrary", "printWithout", "(I)I"⟩ ⟨"ProofLibrary", "printWithout", "(I)I"⟩) ∈ TB := TB_sel 83 rfl rfl
theorem ts_84 : (Cond.selects "ProofLibrary$Definitions" ⟨"ProofLibrary$Definitions", "noteUses", "(I)V"⟩ ⟨"ProofLibrary$Definitions", "noteUses", "(I)V"⟩) ∈ TB := TB_sel 84 rfl rfl
theorem ts_85 : (Cond.selects "ProofLibrary$Definitions" ⟨"ProofLibrary$Definitions", "canDefine", "(I)Z"⟩ ⟨"ProofLibrary$Definitions", "canDefine", "(I)Z"⟩) ∈ TB := TB_sel 85 rfl rfl
theorem ts_86 : (Cond.selects "ProofLibrary$Definitions" ⟨"ProofLibrary$Definitions", "partSides", "()Z"⟩ ⟨"ProofLibrary$Definitions", "partSides", "()Z"⟩) ∈ TB := TB_sel 86 rfl rfl
theorem ts_87 : (Cond.selects "ProofLibrary$Definitions" ⟨"ProofLibrary$Definitions", "fillSlots", "(I)Z"⟩ ⟨"ProofLibrary$Definitions", "fillSlots", "(I)Z"⟩) ∈ TB := TB_sel 87 rfl rfl
theorem ts_88 : (Cond.selects "ProofLibrary$Definitions" ⟨"ProofLibrary$Definitions", "secondHasNoOther", "(I)Z"⟩ ⟨"ProofLibrary$Definitions", "secondHasNoOther", "(I)Z"⟩) ∈ TB := TB_sel 88 rfl rfl
theorem ts_89 : (Cond.selects "ProofLibrary$Definitions" ⟨"ProofLibrary$Definitions", "clearSlots", "(I)V"⟩ ⟨"ProofLibrary$Definitions", "clearSlots", "(I)V"⟩) ∈ TB := TB_sel 89 rfl rfl
theorem ts_90 : (Cond.selects "ProofLibrary$Definitions" ⟨"ProofLibrary$Definitions", "makeBody", "(II)V"⟩ ⟨"ProofLibrary$Definitions", "makeBody", "(II)V"⟩) ∈ TB := TB_sel 90 rfl rfl
theorem ts_91 : (Cond.selects "ProofLibrary$Definitions" ⟨"ProofLibrary$Definitions", "compose", "(III)Z"⟩ ⟨"ProofLibrary$Definitions", "compose", "(III)Z"⟩) ∈ TB := TB_sel 91 rfl rfl
theorem ts_92 : (Cond.selects "ProofLibrary$Definitions" ⟨"ProofLibrary$Definitions", "composeSymbol", "(I)Z"⟩ ⟨"ProofLibrary$Definitions", "composeSymbol", "(I)Z"⟩) ∈ TB := TB_sel 92 rfl rfl
theorem ts_93 : (Cond.selects "ProofLibrary$Definitions" ⟨"ProofLibrary$Definitions", "composeRow", "(I)Z"⟩ ⟨"ProofLibrary$Definitions", "composeRow", "(I)Z"⟩) ∈ TB := TB_sel 93 rfl rfl
theorem ts_94 : (Cond.selects "ProofLibrary" ⟨"ProofLibrary", "takeRow", "()I"⟩ ⟨"ProofLibrary", "takeRow", "()I"⟩) ∈ TB := TB_sel 94 rfl rfl
theorem ts_95 : (Cond.selects "ProofLibrary$Tree" ⟨"ProofLibrary$Tree", "binds", "(II)Z"⟩ ⟨"ProofLibrary$Tree", "binds", "(II)Z"⟩) ∈ TB := TB_sel 95 rfl rfl
theorem ts_96 : (Cond.selects "ProofLibrary" ⟨"ProofLibrary", "printEssentials", "(I)I"⟩ ⟨"ProofLibrary", "printEssentials", "(I)I"⟩) ∈ TB := TB_sel 96 rfl rfl
theorem ts_97 : (Cond.selects "ProofLibrary" ⟨"ProofLibrary", "printBound", "(I)V"⟩ ⟨"ProofLibrary", "printBound", "(I)V"⟩) ∈ TB := TB_sel 97 rfl rfl
theorem ts_98 : (Cond.selects "ProofLibrary" ⟨"ProofLibrary", "isSound", "(I)Z"⟩ ⟨"ProofLibrary", "isSound", "(I)Z"⟩) ∈ TB := TB_sel 98 rfl rfl
theorem ts_99 : (Cond.selects "ProofLibrary$Packer" ⟨"ProofLibrary$Packer", "fill", "()Z"⟩ ⟨"ProofLibrary$Packer", "fill", "()Z"⟩) ∈ TB := TB_sel 99 rfl rfl
theorem ts_100 : (Cond.selects "ProofLibrary$Packer" ⟨"ProofLibrary$Packer", "fillIn", "(I)Z"⟩ ⟨"ProofLibrary$Packer", "fillIn", "(I)Z"⟩) ∈ TB := TB_sel 100 rfl rfl
theorem ts_101 : (Cond.selects "ProofLibrary" ⟨"ProofLibrary", "makesItsSymbols", "(I)Z"⟩ ⟨"ProofLibrary", "makesItsSymbols", "(I)Z"⟩) ∈ TB := TB_sel 101 rfl rfl
theorem ts_102 : (Cond.selects "ProofLibraryModel" ⟨"ProofLibraryModel", "clearTables", "()V"⟩ ⟨"ProofLibraryModel", "clearTables", "()V"⟩) ∈ TB := TB_sel 102 rfl rfl
theorem ts_103 : (Cond.selects "ProofLibraryModel" ⟨"ProofLibraryModel", "noteAll", "()V"⟩ ⟨"ProofLibraryModel", "noteAll", "()V"⟩) ∈ TB := TB_sel 103 rfl rfl
theorem ts_104 : (Cond.selects "ProofLibraryModel" ⟨"ProofLibraryModel", "next", "()V"⟩ ⟨"ProofLibraryModel", "next", "()V"⟩) ∈ TB := TB_sel 104 rfl rfl
theorem ts_105 : (Cond.selects "ProofLibraryModel" ⟨"ProofLibraryModel", "nextRow", "()Z"⟩ ⟨"ProofLibraryModel", "nextRow", "()Z"⟩) ∈ TB := TB_sel 105 rfl rfl
theorem ts_106 : (Cond.selects "ProofLibraryModel" ⟨"ProofLibraryModel", "fail", "(II)V"⟩ ⟨"ProofLibraryModel", "fail", "(II)V"⟩) ∈ TB := TB_sel 106 rfl rfl
theorem ts_107 : (Cond.selects "ProofLibraryModel" ⟨"ProofLibraryModel", "isToken", "(I)Z"⟩ ⟨"ProofLibraryModel", "isToken", "(I)Z"⟩) ∈ TB := TB_sel 107 rfl rfl
theorem ts_108 : (Cond.selects "ProofLibraryModel" ⟨"ProofLibraryModel", "skipComment", "()V"⟩ ⟨"ProofLibraryModel", "skipComment", "()V"⟩) ∈ TB := TB_sel 108 rfl rfl
theorem ts_109 : (Cond.selects "ProofLibraryModel" ⟨"ProofLibraryModel", "hasDollar", "(II)Z"⟩ ⟨"ProofLibraryModel", "hasDollar", "(II)Z"⟩) ∈ TB := TB_sel 109 rfl rfl
theorem ts_110 : (Cond.selects "ProofLibraryModel" ⟨"ProofLibraryModel", "hasSign", "(I)Z"⟩ ⟨"ProofLibraryModel", "hasSign", "(I)Z"⟩) ∈ TB := TB_sel 110 rfl rfl
theorem ts_111 : (Cond.selects "ProofLibraryModel" ⟨"ProofLibraryModel", "readStatement", "()V"⟩ ⟨"ProofLibraryModel", "readStatement", "()V"⟩) ∈ TB := TB_sel 111 rfl rfl
theorem ts_112 : (Cond.selects "ProofLibraryModel" ⟨"ProofLibraryModel", "readLabelled", "()V"⟩ ⟨"ProofLibraryModel", "readLabelled", "()V"⟩) ∈ TB := TB_sel 112 rfl rfl
theorem ts_113 : (Cond.selects "ProofLibraryModel" ⟨"ProofLibraryModel", "readLabel", "()V"⟩ ⟨"ProofLibraryModel", "readLabel", "()V"⟩) ∈ TB := TB_sel 113 rfl rfl
theorem ts_114 : (Cond.selects "ProofLibraryModel" ⟨"ProofLibraryModel", "failHere", "(I)V"⟩ ⟨"ProofLibraryModel", "failHere", "(I)V"⟩) ∈ TB := TB_sel 114 rfl rfl
theorem ts_115 : (Cond.selects "ProofLibraryModel" ⟨"ProofLibraryModel", "findLabel", "([III)I"⟩ ⟨"ProofLibraryModel", "findLabel", "([III)I"⟩) ∈ TB := TB_sel 115 rfl rfl
theorem ts_116 : (Cond.selects "ProofLibraryModel" ⟨"ProofLibraryModel", "isName", "(II[III)Z"⟩ ⟨"ProofLibraryModel", "isName", "(II[III)Z"⟩) ∈ TB := TB_sel 116 rfl rfl
theorem ts_117 : (Cond.selects "ProofLibraryModel" ⟨"ProofLibraryModel", "symbolHere", "()I"⟩ ⟨"ProofLibraryModel", "symbolHere", "()I"⟩) ∈ TB := TB_sel 117 rfl rfl
theorem ts_118 : (Cond.selects "ProofLibraryModel" ⟨"ProofLibraryModel", "findSymbol", "([III)I"⟩ ⟨"ProofLibraryModel", "findSymbol", "([III)I"⟩) ∈ TB := TB_sel 118 rfl rfl
theorem ts_119 : (Cond.selects "ProofLibraryModel" ⟨"ProofLibraryModel", "keepChars", "(II)V"⟩ ⟨"ProofLibraryModel", "keepChars", "(II)V"⟩) ∈ TB := TB_sel 119 rfl rfl
theorem ts_120 : (Cond.selects "ProofLibraryModel" ⟨"ProofLibraryModel", "keepLabel", "(I)V"⟩ ⟨"ProofLibraryModel", "keepLabel", "(I)V"⟩) ∈ TB := TB_sel 120 rfl rfl
theorem ts_121 : (Cond.selects "ProofLibraryModel" ⟨"ProofLibraryModel", "readFloating", "()V"⟩ ⟨"ProofLibraryModel", "readFloating", "()V"⟩) ∈ TB := TB_sel 121 rfl rfl
theorem ts_122 : (Cond.selects "ProofLibraryModel" ⟨"ProofLibraryModel", "readFirst", "()V"⟩ ⟨"ProofLibraryModel", "readFirst", "()V"⟩) ∈ TB := TB_sel 122 rfl rfl
theorem ts_123 : (Cond.selects "ProofLibraryModel" ⟨"ProofLibraryModel", "addSymbol", "(II)V"⟩ ⟨"ProofLibraryModel", "addSymbol", "(II)V"⟩) ∈ TB := TB_sel 123 rfl rfl
theorem ts_124 : (Cond.selects "ProofLibraryModel" ⟨"ProofLibraryModel", "finish", "(I)V"⟩ ⟨"ProofLibraryModel", "finish", "(I)V"⟩) ∈ TB := TB_sel 124 rfl rfl
theorem ts_125 : (Cond.selects "ProofLibraryModel" ⟨"ProofLibraryModel", "activate", "()V"⟩ ⟨"ProofLibraryModel", "activate", "()V"⟩) ∈ TB := TB_sel 125 rfl rfl
theorem ts_126 : (Cond.selects "ProofLibraryModel" ⟨"ProofLibraryModel", "readSymbols", "(I)V"⟩ ⟨"ProofLibraryModel", "readSymbols", "(I)V"⟩) ∈ TB := TB_sel 126 rfl rfl
theorem ts_127 : (Cond.selects "ProofLibraryModel" ⟨"ProofLibraryModel", "readAssertion", "(Z)V"⟩ ⟨"ProofLibraryModel", "readAssertion", "(Z)V"⟩) ∈ TB := TB_sel 127 rfl rfl
theorem ts_128 : (Cond.selects "ProofLibraryModel" ⟨"ProofLibraryModel", "readTheorem", "()V"⟩ ⟨"ProofLibraryModel", "readTheorem", "()V"⟩) ∈ TB := TB_sel 128 rfl rfl
theorem ts_129 : (Cond.selects "ProofLibraryModel" ⟨"ProofLibraryModel", "makeFrame", "()V"⟩ ⟨"ProofLibraryModel", "makeFrame", "()V"⟩) ∈ TB := TB_sel 129 rfl rfl
theorem ts_130 : (Cond.selects "ProofLibraryModel" ⟨"ProofLibraryModel", "markOf", "(I)V"⟩ ⟨"ProofLibraryModel", "markOf", "(I)V"⟩) ∈ TB := TB_sel 130 rfl rfl
theorem ts_131 : (Cond.selects "ProofLibraryModel" ⟨"ProofLibraryModel", "readPacked", "()V"⟩ ⟨"ProofLibraryModel", "readPacked", "()V"⟩) ∈ TB := TB_sel 131 rfl rfl
theorem ts_132 : (Cond.selects "ProofLibraryModel" ⟨"ProofLibraryModel", "readPackedLabels", "()V"⟩ ⟨"ProofLibraryModel", "readPackedLabels", "()V"⟩) ∈ TB := TB_sel 132 rfl rfl
theorem ts_133 : (Cond.selects "ProofLibraryModel" ⟨"ProofLibraryModel", "stepHere", "()I"⟩ ⟨"ProofLibraryModel", "stepHere", "()I"⟩) ∈ TB := TB_sel 133 rfl rfl
theorem ts_134 : (Cond.selects "ProofLibraryModel" ⟨"ProofLibraryModel", "isMandatory", "(II)Z"⟩ ⟨"ProofLibraryModel", "isMandatory", "(II)Z"⟩) ∈ TB := TB_sel 134 rfl rfl
theorem ts_135 : (Cond.selects "ProofLibraryModel" ⟨"ProofLibraryModel", "readLetter", "(II)V"⟩ ⟨"ProofLibraryModel", "readLetter", "(II)V"⟩) ∈ TB := TB_sel 135 rfl rfl
theorem ts_136 : (Cond.selects "ProofLibraryModel" ⟨"ProofLibraryModel", "endNumber", "(II)V"⟩ ⟨"ProofLibraryModel", "endNumber", "(II)V"⟩) ∈ TB := TB_sel 136 rfl rfl
theorem ts_137 : (Cond.selects "ProofLibraryModel" ⟨"ProofLibraryModel", "addStep", "(II)V"⟩ ⟨"ProofLibraryModel", "addStep", "(II)V"⟩) ∈ TB := TB_sel 137 rfl rfl
theorem ts_138 : (Cond.selects "ProofLibraryModel" ⟨"ProofLibraryModel", "readPlain", "()V"⟩ ⟨"ProofLibraryModel", "readPlain", "()V"⟩) ∈ TB := TB_sel 138 rfl rfl
theorem ts_139 : (Cond.selects "ProofLibraryModel" ⟨"ProofLibraryModel", "verify", "()V"⟩ ⟨"ProofLibraryModel", "verify", "()V"⟩) ∈ TB := TB_sel 139 rfl rfl
theorem ts_140 : (Cond.selects "ProofLibraryModel" ⟨"ProofLibraryModel", "beginSteps", "()V"⟩ ⟨"ProofLibraryModel", "beginSteps", "()V"⟩) ∈ TB := TB_sel 140 rfl rfl
theorem ts_141 : (Cond.selects "ProofLibraryModel" ⟨"ProofLibraryModel", "doStep", "(IIZ)V"⟩ ⟨"ProofLibraryModel", "doStep", "(IIZ)V"⟩) ∈ TB := TB_sel 141 rfl rfl
theorem ts_142 : (Cond.selects "ProofLibraryModel" ⟨"ProofLibraryModel", "pushRow", "([IIII)V"⟩ ⟨"ProofLibraryModel", "pushRow", "([IIII)V"⟩) ∈ TB := TB_sel 142 rfl rfl
theorem ts_143 : (Cond.selects "ProofLibraryModel" ⟨"ProofLibraryModel", "wrong", "(I)V"⟩ ⟨"ProofLibraryModel", "wrong", "(I)V"⟩) ∈ TB := TB_sel 143 rfl rfl
theorem ts_144 : (Cond.selects "ProofLibraryModel" ⟨"ProofLibraryModel", "applyStep", "(IIZ)V"⟩ ⟨"ProofLibraryModel", "applyStep", "(IIZ)V"⟩) ∈ TB := TB_sel 144 rfl rfl
theorem ts_145 : (Cond.selects "ProofLibraryModel" ⟨"ProofLibraryModel", "replace", "(I)V"⟩ ⟨"ProofLibraryModel", "replace", "(I)V"⟩) ∈ TB := TB_sel 145 rfl rfl
theorem ts_146 : (Cond.selects "ProofLibraryModel" ⟨"ProofLibraryModel", "isMade", "(II)Z"⟩ ⟨"ProofLibraryModel", "isMade", "(II)Z"⟩) ∈ TB := TB_sel 146 rfl rfl
theorem ts_147 : (Cond.selects "ProofLibraryModel" ⟨"ProofLibraryModel", "areKept", "(II)Z"⟩ ⟨"ProofLibraryModel", "areKept", "(II)Z"⟩) ∈ TB := TB_sel 147 rfl rfl
theorem ts_148 : (Cond.selects "ProofLibraryModel" ⟨"ProofLibraryModel", "areApart", "(II)Z"⟩ ⟨"ProofLibraryModel", "areApart", "(II)Z"⟩) ∈ TB := TB_sel 148 rfl rfl
theorem ts_149 : (Cond.selects "ProofLibraryModel" ⟨"ProofLibraryModel", "saveTop", "()V"⟩ ⟨"ProofLibraryModel", "saveTop", "()V"⟩) ∈ TB := TB_sel 149 rfl rfl
theorem ts_150 : (Cond.selects "ProofLibraryModel" ⟨"ProofLibraryModel", "restOf", "()V"⟩ ⟨"ProofLibraryModel", "restOf", "()V"⟩) ∈ TB := TB_sel 150 rfl rfl
theorem ts_151 : (Cond.selects "ProofLibraryModel" ⟨"ProofLibraryModel", "readDeclared", "(Z)V"⟩ ⟨"ProofLibraryModel", "readDeclared", "(Z)V"⟩) ∈ TB := TB_sel 151 rfl rfl
theorem ts_152 : (Cond.selects "ProofLibraryModel" ⟨"ProofLibraryModel", "declare", "(Z)V"⟩ ⟨"ProofLibraryModel", "declare", "(Z)V"⟩) ∈ TB := TB_sel 152 rfl rfl
theorem ts_153 : (Cond.selects "ProofLibraryModel" ⟨"ProofLibraryModel", "keepSymbol", "(I)V"⟩ ⟨"ProofLibraryModel", "keepSymbol", "(I)V"⟩) ∈ TB := TB_sel 153 rfl rfl
theorem ts_154 : (Cond.selects "ProofLibraryModel" ⟨"ProofLibraryModel", "markNamed", "(I)V"⟩ ⟨"ProofLibraryModel", "markNamed", "(I)V"⟩) ∈ TB := TB_sel 154 rfl rfl
theorem ts_155 : (Cond.selects "ProofLibraryModel" ⟨"ProofLibraryModel", "readApart", "()V"⟩ ⟨"ProofLibraryModel", "readApart", "()V"⟩) ∈ TB := TB_sel 155 rfl rfl
theorem ts_156 : (Cond.selects "ProofLibraryModel" ⟨"ProofLibraryModel", "setApart", "(IIZ)V"⟩ ⟨"ProofLibraryModel", "setApart", "(IIZ)V"⟩) ∈ TB := TB_sel 156 rfl rfl
theorem ts_157 : (Cond.selects "ProofLibraryModel" ⟨"ProofLibraryModel", "readScope", "(Z)V"⟩ ⟨"ProofLibraryModel", "readScope", "(Z)V"⟩) ∈ TB := TB_sel 157 rfl rfl
theorem ts_158 : (Cond.selects "ProofLibraryModel" ⟨"ProofLibraryModel", "dropTo", "(III)V"⟩ ⟨"ProofLibraryModel", "dropTo", "(III)V"⟩) ∈ TB := TB_sel 158 rfl rfl
theorem ts_159 : (Cond.selects "ProofLibraryModel" ⟨"ProofLibraryModel", "forgetText", "(IIIIII)V"⟩ ⟨"ProofLibraryModel", "forgetText", "(IIIIII)V"⟩) ∈ TB := TB_sel 159 rfl rfl
theorem ts_160 : (Cond.selects "ProofLibraryModel" ⟨"ProofLibraryModel", "forgetTrees", "(I)V"⟩ ⟨"ProofLibraryModel", "forgetTrees", "(I)V"⟩) ∈ TB := TB_sel 160 rfl rfl
theorem ts_161 : (Cond.selects "ProofLibraryModel" ⟨"ProofLibraryModel", "isStatement", "(I)Z"⟩ ⟨"ProofLibraryModel", "isStatement", "(I)Z"⟩) ∈ TB := TB_sel 161 rfl rfl
theorem ts_162 : (Cond.selects "ProofLibraryModel" ⟨"ProofLibraryModel", "rowFrom", "(I)I"⟩ ⟨"ProofLibraryModel", "rowFrom", "(I)I"⟩) ∈ TB := TB_sel 162 rfl rfl
theorem ts_163 : (Cond.selects "ProofLibraryModel" ⟨"ProofLibraryModel", "useTape", "()V"⟩ ⟨"ProofLibraryModel", "useTape", "()V"⟩) ∈ TB := TB_sel 163 rfl rfl
theorem ts_164 : (Cond.selects "ProofLibraryModel" ⟨"ProofLibraryModel", "isAssertion", "(I)Z"⟩ ⟨"ProofLibraryModel", "isAssertion", "(I)Z"⟩) ∈ TB := TB_sel 164 rfl rfl
theorem ts_165 : (Cond.selects "ProofLibraryModel" ⟨"ProofLibraryModel", "resting", "(I)I"⟩ ⟨"ProofLibraryModel", "resting", "(I)I"⟩) ∈ TB := TB_sel 165 rfl rfl
theorem ts_166 : (Cond.selects "ProofLibraryModel" ⟨"ProofLibraryModel", "isProved", "(I)Z"⟩ ⟨"ProofLibraryModel", "isProved", "(I)Z"⟩) ∈ TB := TB_sel 166 rfl rfl
theorem ts_167 : (Cond.selects "ProofLibraryModel" ⟨"ProofLibraryModel", "makeRows", "(I)V"⟩ ⟨"ProofLibraryModel", "makeRows", "(I)V"⟩) ∈ TB := TB_sel 167 rfl rfl
theorem ts_168 : (Cond.selects "ProofLibraryModel" ⟨"ProofLibraryModel", "isRow", "(II)Z"⟩ ⟨"ProofLibraryModel", "isRow", "(II)Z"⟩) ∈ TB := TB_sel 168 rfl rfl
theorem ts_169 : (Cond.selects "ProofLibraryModel" ⟨"ProofLibraryModel", "rowWidth", "(I)I"⟩ ⟨"ProofLibraryModel", "rowWidth", "(I)I"⟩) ∈ TB := TB_sel 169 rfl rfl
theorem ts_170 : (Cond.selects "ProofLibraryModel" ⟨"ProofLibraryModel", "makeSizes", "(I)V"⟩ ⟨"ProofLibraryModel", "makeSizes", "(I)V"⟩) ∈ TB := TB_sel 170 rfl rfl
theorem ts_171 : (Cond.selects "ProofLibraryModel" ⟨"ProofLibraryModel", "countTrees", "(I)I"⟩ ⟨"ProofLibraryModel", "countTrees", "(I)I"⟩) ∈ TB := TB_sel 171 rfl rfl
theorem ts_172 : (Cond.selects "ProofLibraryModel" ⟨"ProofLibraryModel", "treeOf", "(I)I"⟩ ⟨"ProofLibraryModel", "treeOf", "(I)I"⟩) ∈ TB := TB_sel 172 rfl rfl
theorem ts_173 : (Cond.selects "ProofLibraryModel" ⟨"ProofLibraryModel", "takeStatement", "(I)V"⟩ ⟨"ProofLibraryModel", "takeStatement", "(I)V"⟩) ∈ TB := TB_sel 173 rfl rfl
theorem ts_174 : (Cond.selects "ProofLibraryModel" ⟨"ProofLibraryModel", "findSorts", "()V"⟩ ⟨"ProofLibraryModel", "findSorts", "()V"⟩) ∈ TB := TB_sel 174 rfl rfl
theorem ts_175 : (Cond.selects "ProofLibraryModel" ⟨"ProofLibraryModel", "isSort", "(I)Z"⟩ ⟨"ProofLibraryModel", "isSort", "(I)Z"⟩) ∈ TB := TB_sel 175 rfl rfl
theorem ts_176 : (Cond.selects "ProofLibraryModel" ⟨"ProofLibraryModel", "treeSort", "(I)I"⟩ ⟨"ProofLibraryModel", "treeSort", "(I)I"⟩) ∈ TB := TB_sel 176 rfl rfl
theorem ts_177 : (Cond.selects "ProofLibraryModel" ⟨"ProofLibraryModel", "countWays", "(II)I"⟩ ⟨"ProofLibraryModel", "countWays", "(II)I"⟩) ∈ TB := TB_sel 177 rfl rfl
theorem ts_178 : (Cond.selects "ProofLibraryModel" ⟨"ProofLibraryModel", "treeRules", "()V"⟩ ⟨"ProofLibraryModel", "treeRules", "()V"⟩) ∈ TB := TB_sel 178 rfl rfl
theorem ts_179 : (Cond.selects "ProofLibraryModel" ⟨"ProofLibraryModel", "newRuleNode", "(II)I"⟩ ⟨"ProofLibraryModel", "newRuleNode", "(II)I"⟩) ∈ TB := TB_sel 179 rfl rfl
theorem ts_180 : (Cond.selects "ProofLibraryModel" ⟨"ProofLibraryModel", "isRule", "(I)Z"⟩ ⟨"ProofLibraryModel", "isRule", "(I)Z"⟩) ∈ TB := TB_sel 180 rfl rfl
theorem ts_181 : (Cond.selects "ProofLibraryModel" ⟨"ProofLibraryModel", "isUnit", "(I)Z"⟩ ⟨"ProofLibraryModel", "isUnit", "(I)Z"⟩) ∈ TB := TB_sel 181 rfl rfl
theorem ts_182 : (Cond.selects "ProofLibraryModel" ⟨"ProofLibraryModel", "treeRule", "(I)V"⟩ ⟨"ProofLibraryModel", "treeRule", "(I)V"⟩) ∈ TB := TB_sel 182 rfl rfl
theorem ts_183 : (Cond.selects "ProofLibraryModel" ⟨"ProofLibraryModel", "stepBelow", "(II)I"⟩ ⟨"ProofLibraryModel", "stepBelow", "(II)I"⟩) ∈ TB := TB_sel 183 rfl rfl
theorem ts_184 : (Cond.selects "ProofLibraryModel" ⟨"ProofLibraryModel", "wayAt", "(III)I"⟩ ⟨"ProofLibraryModel", "wayAt", "(III)I"⟩) ∈ TB := TB_sel 184 rfl rfl
theorem ts_185 : (Cond.selects "ProofLibraryModel" ⟨"ProofLibraryModel", "isSortNode", "(I)Z"⟩ ⟨"ProofLibraryModel", "isSortNode", "(I)Z"⟩) ∈ TB := TB_sel 185 rfl rfl
theorem ts_186 : (Cond.selects "ProofLibraryModel" ⟨"ProofLibraryModel", "countStretch", "(III)V"⟩ ⟨"ProofLibraryModel", "countStretch", "(III)V"⟩) ∈ TB := TB_sel 186 rfl rfl
theorem ts_187 : (Cond.selects "ProofLibraryModel" ⟨"ProofLibraryModel", "isFirstVariable", "(I)Z"⟩ ⟨"ProofLibraryModel", "isFirstVariable", "(I)Z"⟩) ∈ TB := TB_sel 187 rfl rfl
theorem ts_188 : (Cond.selects "ProofLibraryModel" ⟨"ProofLibraryModel", "goTo", "(II)V"⟩ ⟨"ProofLibraryModel", "goTo", "(II)V"⟩) ∈ TB := TB_sel 188 rfl rfl
theorem ts_189 : (Cond.selects "ProofLibraryModel" ⟨"ProofLibraryModel", "closeUnits", "(III)V"⟩ ⟨"ProofLibraryModel", "closeUnits", "(III)V"⟩) ∈ TB := TB_sel 189 rfl rfl
theorem ts_190 : (Cond.selects "ProofLibraryModel" ⟨"ProofLibraryModel", "makeTree", "(I)I"⟩ ⟨"ProofLibraryModel", "makeTree", "(I)I"⟩) ∈ TB := TB_sel 190 rfl rfl
theorem ts_191 : (Cond.selects "ProofLibraryModel" ⟨"ProofLibraryModel", "newNode", "(III)I"⟩ ⟨"ProofLibraryModel", "newNode", "(III)I"⟩) ∈ TB := TB_sel 191 rfl rfl
theorem ts_192 : (Cond.selects "ProofLibraryModel" ⟨"ProofLibraryModel", "lookAt", "(I)V"⟩ ⟨"ProofLibraryModel", "lookAt", "(I)V"⟩) ∈ TB := TB_sel 192 rfl rfl
theorem ts_193 : (Cond.selects "ProofLibraryModel" ⟨"ProofLibraryModel", "part", "(II)V"⟩ ⟨"ProofLibraryModel", "part", "(II)V"⟩) ∈ TB := TB_sel 193 rfl rfl
theorem ts_194 : (Cond.selects "ProofLibraryModel" ⟨"ProofLibraryModel", "match", "(III)I"⟩ ⟨"ProofLibraryModel", "match", "(III)I"⟩) ∈ TB := TB_sel 194 rfl rfl
theorem ts_195 : (Cond.selects "ProofLibraryModel" ⟨"ProofLibraryModel", "hypOf", "(II)I"⟩ ⟨"ProofLibraryModel", "hypOf", "(II)I"⟩) ∈ TB := TB_sel 195 rfl rfl
theorem ts_196 : (Cond.selects "ProofLibraryModel" ⟨"ProofLibraryModel", "variablesOf", "(I)I"⟩ ⟨"ProofLibraryModel", "variablesOf", "(I)I"⟩) ∈ TB := TB_sel 196 rfl rfl
theorem ts_197 : (Cond.selects "ProofLibraryModel" ⟨"ProofLibraryModel", "definitionOf", "(I)I"⟩ ⟨"ProofLibraryModel", "definitionOf", "(I)I"⟩) ∈ TB := TB_sel 197 rfl rfl
theorem ts_198 : (Cond.selects "ProofLibraryModel" ⟨"ProofLibraryModel", "findDefinition", "(I)I"⟩ ⟨"ProofLibraryModel", "findDefinition", "(I)I"⟩) ∈ TB := TB_sel 198 rfl rfl
theorem ts_199 : (Cond.selects "ProofLibraryModel" ⟨"ProofLibraryModel", "firstSide", "(I)I"⟩ ⟨"ProofLibraryModel", "firstSide", "(I)I"⟩) ∈ TB := TB_sel 199 rfl rfl
theorem ts_200 : (Cond.selects "ProofLibraryModel" ⟨"ProofLibraryModel", "isFlat", "(I)Z"⟩ ⟨"ProofLibraryModel", "isFlat", "(I)Z"⟩) ∈ TB := TB_sel 200 rfl rfl
theorem ts_201 : (Cond.selects "ProofLibraryModel" ⟨"ProofLibraryModel", "isPlain", "(III)Z"⟩ ⟨"ProofLibraryModel", "isPlain", "(III)Z"⟩) ∈ TB := TB_sel 201 rfl rfl
theorem ts_202 : (Cond.selects "ProofLibraryModel" ⟨"ProofLibraryModel", "enter", "(I)V"⟩ ⟨"ProofLibraryModel", "enter", "(I)V"⟩) ∈ TB := TB_sel 202 rfl rfl
theorem ts_203 : (Cond.selects "ProofLibraryModel" ⟨"ProofLibraryModel", "hasLeaf", "(II)Z"⟩ ⟨"ProofLibraryModel", "hasLeaf", "(II)Z"⟩) ∈ TB := TB_sel 203 rfl rfl
theorem ts_204 : (Cond.selects "ProofLibraryModel" ⟨"ProofLibraryModel", "isUsedBefore", "(II)Z"⟩ ⟨"ProofLibraryModel", "isUsedBefore", "(II)Z"⟩) ∈ TB := TB_sel 204 rfl rfl
theorem ts_205 : (Cond.selects "ProofLibraryModel" ⟨"ProofLibraryModel", "beginTrees", "()V"⟩ ⟨"ProofLibraryModel", "beginTrees", "()V"⟩) ∈ TB := TB_sel 205 rfl rfl
theorem ts_206 : (Cond.selects "ProofLibraryModel" ⟨"ProofLibraryModel", "putLabel", "(I)V"⟩ ⟨"ProofLibraryModel", "putLabel", "(I)V"⟩) ∈ TB := TB_sel 206 rfl rfl
theorem ts_207 : (Cond.selects "ProofLibraryModel" ⟨"ProofLibraryModel", "putBlank", "()V"⟩ ⟨"ProofLibraryModel", "putBlank", "()V"⟩) ∈ TB := TB_sel 207 rfl rfl
theorem ts_208 : (Cond.selects "ProofLibraryModel" ⟨"ProofLibraryModel", "put", "(I)V"⟩ ⟨"ProofLibraryModel", "put", "(I)V"⟩) ∈ TB := TB_sel 208 rfl rfl
theorem ts_209 : (Cond.selects "ProofLibraryModel" ⟨"ProofLibraryModel", "putName", "(II)V"⟩ ⟨"ProofLibraryModel", "putName", "(II)V"⟩) ∈ TB := TB_sel 209 rfl rfl
theorem ts_210 : (Cond.selects "ProofLibraryModel" ⟨"ProofLibraryModel", "keepDraft", "()I"⟩ ⟨"ProofLibraryModel", "keepDraft", "()I"⟩) ∈ TB := TB_sel 210 rfl rfl
theorem ts_211 : (Cond.selects "ProofLibraryModel" ⟨"ProofLibraryModel", "putSymbol", "(I)V"⟩ ⟨"ProofLibraryModel", "putSymbol", "(I)V"⟩) ∈ TB := TB_sel 211 rfl rfl
theorem ts_212 : (Cond.selects "ProofLibraryModel" ⟨"ProofLibraryModel", "printTexts", "(I)I"⟩ ⟨"ProofLibraryModel", "printTexts", "(I)I"⟩) ∈ TB := TB_sel 212 rfl rfl
theorem ts_213 : (Cond.selects "ProofLibraryModel" ⟨"ProofLibraryModel", "printRow", "(II)I"⟩ ⟨"ProofLibraryModel", "printRow", "(II)I"⟩) ∈ TB := TB_sel 213 rfl rfl
theorem ts_214 : (Cond.selects "ProofLibraryModel" ⟨"ProofLibraryModel", "printPacked", "(I)I"⟩ ⟨"ProofLibraryModel", "printPacked", "(I)I"⟩) ∈ TB := TB_sel 214 rfl rfl
theorem ts_215 : (Cond.selects "ProofLibraryModel" ⟨"ProofLibraryModel", "findSame", "()V"⟩ ⟨"ProofLibraryModel", "findSame", "()V"⟩) ∈ TB := TB_sel 215 rfl rfl
theorem ts_216 : (Cond.selects "ProofLibraryModel" ⟨"ProofLibraryModel", "areSame", "(II)Z"⟩ ⟨"ProofLibraryModel", "areSame", "(II)Z"⟩) ∈ TB := TB_sel 216 rfl rfl
theorem ts_217 : (Cond.selects "ProofLibraryModel" ⟨"ProofLibraryModel", "tellSteps", "()V"⟩ ⟨"ProofLibraryModel", "tellSteps", "()V"⟩) ∈ TB := TB_sel 217 rfl rfl
theorem ts_218 : (Cond.selects "ProofLibraryModel" ⟨"ProofLibraryModel", "putNumber", "(I)V"⟩ ⟨"ProofLibraryModel", "putNumber", "(I)V"⟩) ∈ TB := TB_sel 218 rfl rfl
theorem ts_219 : (Cond.selects "ProofLibraryModel" ⟨"ProofLibraryModel", "printPlain", "(I)I"⟩ ⟨"ProofLibraryModel", "printPlain", "(I)I"⟩) ∈ TB := TB_sel 219 rfl rfl
theorem ts_220 : (Cond.selects "ProofLibraryModel" ⟨"ProofLibraryModel", "printTree", "(II)I"⟩ ⟨"ProofLibraryModel", "printTree", "(II)I"⟩) ∈ TB := TB_sel 220 rfl rfl
theorem ts_221 : (Cond.selects "ProofLibraryModel" ⟨"ProofLibraryModel", "printBare", "(I)I"⟩ ⟨"ProofLibraryModel", "printBare", "(I)I"⟩) ∈ TB := TB_sel 221 rfl rfl
theorem ts_222 : (Cond.selects "ProofLibraryModel" ⟨"ProofLibraryModel", "findDefiners", "(I)V"⟩ ⟨"ProofLibraryModel", "findDefiners", "(I)V"⟩) ∈ TB := TB_sel 222 rfl rfl
theorem ts_223 : (Cond.selects "ProofLibraryModel" ⟨"ProofLibraryModel", "ruleOf", "(I)I"⟩ ⟨"ProofLibraryModel", "ruleOf", "(I)I"⟩) ∈ TB := TB_sel 223 rfl rfl
theorem ts_224 : (Cond.selects "ProofLibraryModel" ⟨"ProofLibraryModel", "needRules", "(II)V"⟩ ⟨"ProofLibraryModel", "needRules", "(II)V"⟩) ∈ TB := TB_sel 224 rfl rfl
theorem ts_225 : (Cond.selects "ProofLibraryModel" ⟨"ProofLibraryModel", "tellBare", "(II)I"⟩ ⟨"ProofLibraryModel", "tellBare", "(II)I"⟩) ∈ TB := TB_sel 225 rfl rfl
theorem ts_226 : (Cond.selects "ProofLibraryModel" ⟨"ProofLibraryModel", "addTask", "(I)V"⟩ ⟨"ProofLibraryModel", "addTask", "(I)V"⟩) ∈ TB := TB_sel 226 rfl rfl
theorem ts_227 : (Cond.selects "ProofLibraryModel" ⟨"ProofLibraryModel", "leafOf", "(II)I"⟩ ⟨"ProofLibraryModel", "leafOf", "(II)I"⟩) ∈ TB := TB_sel 227 rfl rfl
theorem ts_228 : (Cond.selects "ProofLibraryModel" ⟨"ProofLibraryModel", "spread", "(I)Z"⟩ ⟨"ProofLibraryModel", "spread", "(I)Z"⟩) ∈ TB := TB_sel 228 rfl rfl
theorem ts_229 : (Cond.selects "ProofLibraryModel" ⟨"ProofLibraryModel", "putTree", "(I)V"⟩ ⟨"ProofLibraryModel", "putTree", "(I)V"⟩) ∈ TB := TB_sel 229 rfl rfl
theorem ts_230 : (Cond.selects "ProofLibraryModel" ⟨"ProofLibraryModel", "takeRow", "()I"⟩ ⟨"ProofLibraryModel", "takeRow", "()I"⟩) ∈ TB := TB_sel 230 rfl rfl
theorem ts_231 : (Cond.selects "ProofLibraryModel" ⟨"ProofLibraryModel", "rowTree", "(I)I"⟩ ⟨"ProofLibraryModel", "rowTree", "(I)I"⟩) ∈ TB := TB_sel 231 rfl rfl
theorem ts_232 : (Cond.selects "ProofLibraryModel" ⟨"ProofLibraryModel", "fits", "(II)Z"⟩ ⟨"ProofLibraryModel", "fits", "(II)Z"⟩) ∈ TB := TB_sel 232 rfl rfl
theorem ts_233 : (Cond.selects "ProofLibraryModel" ⟨"ProofLibraryModel", "isSameStretch", "(IIII)Z"⟩ ⟨"ProofLibraryModel", "isSameStretch", "(IIII)Z"⟩) ∈ TB := TB_sel 233 rfl rfl
theorem ts_234 : (Cond.selects "ProofLibraryModel" ⟨"ProofLibraryModel", "tellHyps", "(I)I"⟩ ⟨"ProofLibraryModel", "tellHyps", "(I)I"⟩) ∈ TB := TB_sel 234 rfl rfl
theorem co_J13_bitCount_95d88 : Cond.code yJ13_bitCount_95d88 cJ13_bitCount_95d88 2 (some .int) ∈ TB := tw_1466
theorem co_J13_numberOfTrailingZeros_95d88 : Cond.code yJ13_numberOfTrailingZeros_95d88 cJ13_numberOfTrailingZeros_95d88 3 (some .int) ∈ TB := tw_1791
theorem co_J6_numberOfTrailingZeros_0f7a4 : Cond.code yJ6_numberOfTrailingZeros_0f7a4 cJ6_numberOfTrailingZeros_0f7a4 2 (some .int) ∈ TB := tw_1794
theorem co_J7_copyOf_59c91 : Cond.code yJ7_copyOf_59c91 cJ7_copyOf_59c91 3 (some (.array .int)) ∈ TB := tw_1877
theorem co_J7_fill_53178 : Cond.code yJ7_fill_53178 cJ7_fill_53178 4 none ∈ TB := tw_164
theorem co_J7_fill_fda19 : Cond.code yJ7_fill_fda19 cJ7_fill_fda19 5 none ∈ TB := tw_1572
theorem co_J7_rangeCheck_23922 : Cond.code yJ7_rangeCheck_23922 cJ7_rangeCheck_23922 3 none ∈ TB := tw_1575
theorem co_J9_max_7cf53 : Cond.code yJ9_max_7cf53 cJ9_max_7cf53 2 (some .int) ∈ TB := tw_1120
theorem co_J9_min_7cf53 : Cond.code yJ9_min_7cf53 cJ9_min_7cf53 2 (some .int) ∈ TB := tw_1713
theorem co_J9_min_f86c9 : Cond.code yJ9_min_f86c9 cJ9_min_f86c9 4 (some .long) ∈ TB := tw_1360
theorem co_X0_addRest : Cond.code yX0_addRest cX0_addRest 4 none ∈ TB := tw_1372
theorem co_X0_childCount : Cond.code yX0_childCount cX0_childCount 2 (some .int) ∈ TB := tw_1507
theorem co_X0_firstOf : Cond.code yX0_firstOf cX0_firstOf 2 (some .int) ∈ TB := tw_1319
theorem co_X0_goBack : Cond.code yX0_goBack cX0_goBack 1 none ∈ TB := tw_1384
theorem co_X0_hasEssential : Cond.code yX0_hasEssential cX0_hasEssential 3 (some .boolean) ∈ TB := tw_1693
theorem co_X0_init : Cond.code yX0_init cX0_init 3 none ∈ TB := tw_228
theorem co_X0_isPair : Cond.code yX0_isPair cX0_isPair 7 (some .boolean) ∈ TB := tw_1481
theorem co_X0_keep : Cond.code yX0_keep cX0_keep 1 none ∈ TB := tw_964
theorem co_X0_keepRows : Cond.code yX0_keepRows cX0_keepRows 7 none ∈ TB := tw_1356
theorem co_X0_labelsOf : Cond.code yX0_labelsOf cX0_labelsOf 2 (some .long) ∈ TB := tw_1521
theorem co_X0_makeFrame : Cond.code yX0_makeFrame cX0_makeFrame 3 (some .boolean) ∈ TB := tw_1008
theorem co_X0_placeInFrame : Cond.code yX0_placeInFrame cX0_placeInFrame 4 (some .int) ∈ TB := tw_1242
theorem co_X0_restCount : Cond.code yX0_restCount cX0_restCount 4 (some .int) ∈ TB := tw_1463
theorem co_X0_restsOn : Cond.code yX0_restsOn cX0_restsOn 3 (some .boolean) ∈ TB := tw_1368
theorem co_X0_restsOnEarlier : Cond.code yX0_restsOnEarlier cX0_restsOnEarlier 3 (some .boolean) ∈ TB := tw_1980
theorem co_X0_secondOf : Cond.code yX0_secondOf cX0_secondOf 2 (some .int) ∈ TB := tw_1327
theorem co_X0_takeHypotheses : Cond.code yX0_takeHypotheses cX0_takeHypotheses 4 (some .boolean) ∈ TB := tw_1020
theorem co_X0_takePairs : Cond.code yX0_takePairs cX0_takePairs 5 (some .boolean) ∈ TB := tw_1032
theorem co_X10_addStep : Cond.code yX10_addStep cX10_addStep 2 none ∈ TB := tw_1234
theorem co_X10_begin : Cond.code yX10_begin cX10_begin 2 none ∈ TB := tw_1074
theorem co_X10_endNumber : Cond.code yX10_endNumber cX10_endNumber 4 (some .int) ∈ TB := tw_1263
theorem co_X10_goThrough : Cond.code yX10_goThrough cX10_goThrough 4 (some .int) ∈ TB := tw_1272
theorem co_X10_init : Cond.code yX10_init cX10_init 5 none ∈ TB := tw_412
theorem co_X10_isFull : Cond.code yX10_isFull cX10_isFull 1 (some .boolean) ∈ TB := tw_1225
theorem co_X10_isListed : Cond.code yX10_isListed cX10_isListed 3 (some .boolean) ∈ TB := tw_1246
theorem co_X10_isListing : Cond.code yX10_isListing cX10_isListing 1 (some .boolean) ∈ TB := tw_1050
theorem co_X10_isOne : Cond.code yX10_isOne cX10_isOne 4 (some .boolean) ∈ TB := tw_1217
theorem co_X10_isUsable : Cond.code yX10_isUsable cX10_isUsable 2 (some .boolean) ∈ TB := tw_1230
theorem co_X10_isWithinNumber : Cond.code yX10_isWithinNumber cX10_isWithinNumber 1 (some .boolean) ∈ TB := tw_1054
theorem co_X10_letter : Cond.code yX10_letter cX10_letter 3 (some .int) ∈ TB := tw_1254
theorem co_X10_letters : Cond.code yX10_letters cX10_letters 6 (some .int) ∈ TB := tw_1250
theorem co_X10_listLabel : Cond.code yX10_listLabel cX10_listLabel 5 (some .int) ∈ TB := tw_1238
theorem co_X10_noteRests : Cond.code yX10_noteRests cX10_noteRests 3 none ∈ TB := tw_1364
theorem co_X10_plainStep : Cond.code yX10_plainStep cX10_plainStep 5 (some .int) ∈ TB := tw_1221
theorem co_X10_putAgain : Cond.code yX10_putAgain cX10_putAgain 2 (some .int) ∈ TB := tw_1280
theorem co_X10_putNew : Cond.code yX10_putNew cX10_putNew 4 (some .int) ∈ TB := tw_1344
theorem co_X10_save : Cond.code yX10_save cX10_save 1 (some .int) ∈ TB := tw_1258
theorem co_X10_take : Cond.code yX10_take cX10_take 7 (some .int) ∈ TB := tw_1285
theorem co_X10_word : Cond.code yX10_word cX10_word 5 (some .int) ∈ TB := tw_1214
theorem co_X11_behind : Cond.code yX11_behind cX11_behind 5 (some .int) ∈ TB := tw_1828
theorem co_X11_binds : Cond.code yX11_binds cX11_binds 5 (some .boolean) ∈ TB := tw_1940
theorem co_X11_bindsEssentials : Cond.code yX11_bindsEssentials cX11_bindsEssentials 5 (some .boolean) ∈ TB := tw_1945
theorem co_X11_cell : Cond.code yX11_cell cX11_cell 3 (some .int) ∈ TB := tw_1771
theorem co_X11_fitsPattern : Cond.code yX11_fitsPattern cX11_fitsPattern 4 (some .boolean) ∈ TB := tw_1936
theorem co_X11_grow : Cond.code yX11_grow cX11_grow 11 none ∈ TB := tw_1768
theorem co_X11_init : Cond.code yX11_init cX11_init 4 none ∈ TB := tw_735
theorem co_X11_keepPattern : Cond.code yX11_keepPattern cX11_keepPattern 1 none ∈ TB := tw_1927
theorem co_X11_part : Cond.code yX11_part cX11_part 12 none ∈ TB := tw_1779
theorem co_X11_sortOf : Cond.code yX11_sortOf cX11_sortOf 3 (some .int) ∈ TB := tw_1788
theorem co_X11_startsOf : Cond.code yX11_startsOf cX11_startsOf 10 (some .long) ∈ TB := tw_1784
theorem co_X12_apart : Cond.code yX12_apart cX12_apart 4 (some .int) ∈ TB := tw_1477
theorem co_X12_apply : Cond.code yX12_apply cX12_apply 3 (some .int) ∈ TB := tw_1918
theorem co_X12_character : Cond.code yX12_character cX12_character 2 (some .int) ∈ TB := tw_1891
theorem co_X12_check : Cond.code yX12_check cX12_check 2 (some .int) ∈ TB := tw_1957
theorem co_X12_count : Cond.code yX12_count cX12_count 2 (some .int) ∈ TB := tw_1400
theorem co_X12_definition : Cond.code yX12_definition cX12_definition 2 (some .int) ∈ TB := tw_1913
theorem co_X12_end : Cond.code yX12_end cX12_end 2 (some .int) ∈ TB := tw_944
theorem co_X12_equate : Cond.code yX12_equate cX12_equate 2 (some .int) ∈ TB := tw_1903
theorem co_X12_feed : Cond.code yX12_feed cX12_feed 6 (some .int) ∈ TB := tw_936
theorem co_X12_find : Cond.code yX12_find cX12_find 5 (some .int) ∈ TB := tw_1437
theorem co_X12_frame : Cond.code yX12_frame cX12_frame 3 (some .int) ∈ TB := tw_1454
theorem co_X12_from : Cond.code yX12_from cX12_from 5 (some .int) ∈ TB := tw_1503
theorem co_X12_hypothesis : Cond.code yX12_hypothesis cX12_hypothesis 3 (some .int) ∈ TB := tw_1473
theorem co_X12_init : Cond.code yX12_init cX12_init 1 none ∈ TB := tw_25
theorem co_X12_isBlank : Cond.code yX12_isBlank cX12_isBlank 1 (some .boolean) ∈ TB := tw_978
theorem co_X12_isLabel : Cond.code yX12_isLabel cX12_isLabel 4 (some .boolean) ∈ TB := tw_1139
theorem co_X12_isLabelCharacter : Cond.code yX12_isLabelCharacter cX12_isLabelCharacter 2 (some .boolean) ∈ TB := tw_1142
theorem co_X12_isRow : Cond.code yX12_isRow cX12_isRow 3 (some .boolean) ∈ TB := tw_1499
theorem co_X12_isSound : Cond.code yX12_isSound cX12_isSound 3 (some .boolean) ∈ TB := tw_1961
theorem co_X12_isVisible : Cond.code yX12_isVisible cX12_isVisible 1 (some .boolean) ∈ TB := tw_984
theorem co_X12_kind : Cond.code yX12_kind cX12_kind 2 (some .int) ∈ TB := tw_1412
theorem co_X12_length : Cond.code yX12_length cX12_length 2 (some .int) ∈ TB := tw_1420
theorem co_X12_makesItsSymbols : Cond.code yX12_makesItsSymbols cX12_makesItsSymbols 3 (some .boolean) ∈ TB := tw_1986
theorem co_X12_place : Cond.code yX12_place cX12_place 1 (some .int) ∈ TB := tw_1396
theorem co_X12_print : Cond.code yX12_print cX12_print 4 (some .int) ∈ TB := tw_1527
theorem co_X12_printBound : Cond.code yX12_printBound cX12_printBound 4 none ∈ TB := tw_1953
theorem co_X12_printEssentials : Cond.code yX12_printEssentials cX12_printEssentials 6 (some .int) ∈ TB := tw_1949
theorem co_X12_printPacked : Cond.code yX12_printPacked cX12_printPacked 3 (some .int) ∈ TB := tw_1590
theorem co_X12_printRow : Cond.code yX12_printRow cX12_printRow 3 (some .int) ∈ TB := tw_1564
theorem co_X12_printStatement : Cond.code yX12_printStatement cX12_printStatement 3 (some .int) ∈ TB := tw_1560
theorem co_X12_printSymbol : Cond.code yX12_printSymbol cX12_printSymbol 2 (some .int) ∈ TB := tw_1531
theorem co_X12_printTree : Cond.code yX12_printTree cX12_printTree 4 (some .int) ∈ TB := tw_1666
theorem co_X12_printUnpacked : Cond.code yX12_printUnpacked cX12_printUnpacked 3 (some .int) ∈ TB := tw_1656
theorem co_X12_printWithout : Cond.code yX12_printWithout cX12_printWithout 2 (some .int) ∈ TB := tw_1802
theorem co_X12_putFour : Cond.code yX12_putFour cX12_putFour 3 none ∈ TB := tw_940
theorem co_X12_read : Cond.code yX12_read cX12_read 2 (some .int) ∈ TB := tw_948
theorem co_X12_rests : Cond.code yX12_rests cX12_rests 3 (some .int) ∈ TB := tw_1511
theorem co_X12_row : Cond.code yX12_row cX12_row 3 (some .int) ∈ TB := tw_1495
theorem co_X12_rows : Cond.code yX12_rows cX12_rows 2 (some .int) ∈ TB := tw_1487
theorem co_X12_size : Cond.code yX12_size cX12_size 4 (some .long) ∈ TB := tw_1516
theorem co_X12_skipBlanks : Cond.code yX12_skipBlanks cX12_skipBlanks 4 (some .int) ∈ TB := tw_975
theorem co_X12_symbol : Cond.code yX12_symbol cX12_symbol 3 (some .int) ∈ TB := tw_1425
theorem co_X12_takeRow : Cond.code yX12_takeRow cX12_takeRow 7 (some .int) ∈ TB := tw_1922
theorem co_X12_tokenEnd : Cond.code yX12_tokenEnd cX12_tokenEnd 4 (some .int) ∈ TB := tw_981
theorem co_X12_trees : Cond.code yX12_trees cX12_trees 2 (some .int) ∈ TB := tw_1899
theorem co_X12_treesOf : Cond.code yX12_treesOf cX12_treesOf 2 (some .int) ∈ TB := tw_1670
theorem co_X12_useTape : Cond.code yX12_useTape cX12_useTape 1 none ∈ TB := tw_1392
theorem co_X12_variable : Cond.code yX12_variable cX12_variable 2 (some .int) ∈ TB := tw_1429
theorem co_X13_activate : Cond.code yX13_activate cX13_activate 1 none ∈ TB := tw_2644
theorem co_X13_addStep : Cond.code yX13_addStep cX13_addStep 3 none ∈ TB := tw_2694
theorem co_X13_addSymbol : Cond.code yX13_addSymbol cX13_addSymbol 3 none ∈ TB := tw_2636
theorem co_X13_addTask : Cond.code yX13_addTask cX13_addTask 2 none ∈ TB := tw_3144
theorem co_X13_apart : Cond.code yX13_apart cX13_apart 5 (some .int) ∈ TB := tw_2851
theorem co_X13_apply : Cond.code yX13_apply cX13_apply 6 (some .int) ∈ TB := tw_3160
theorem co_X13_applyStep : Cond.code yX13_applyStep cX13_applyStep 9 none ∈ TB := tw_2725
theorem co_X13_areApart : Cond.code yX13_areApart cX13_areApart 3 (some .boolean) ∈ TB := tw_2741
theorem co_X13_areKept : Cond.code yX13_areKept cX13_areKept 7 (some .boolean) ∈ TB := tw_2737
theorem co_X13_areSame : Cond.code yX13_areSame cX13_areSame 4 (some .boolean) ∈ TB := tw_3103
theorem co_X13_beginSteps : Cond.code yX13_beginSteps cX13_beginSteps 1 none ∈ TB := tw_2708
theorem co_X13_beginTrees : Cond.code yX13_beginTrees cX13_beginTrees 1 none ∈ TB := tw_3058
theorem co_X13_capped : Cond.code yX13_capped cX13_capped 1 (some .int) ∈ TB := tw_2978
theorem co_X13_character : Cond.code yX13_character cX13_character 2 (some .int) ∈ TB := tw_2899
theorem co_X13_check : Cond.code yX13_check cX13_check 1 (some .int) ∈ TB := tw_3184
theorem co_X13_clearTables : Cond.code yX13_clearTables cX13_clearTables 2 none ∈ TB := tw_2005
theorem co_X13_closeUnits : Cond.code yX13_closeUnits cX13_closeUnits 8 none ∈ TB := tw_2982
theorem co_X13_count : Cond.code yX13_count cX13_count 6 (some .int) ∈ TB := tw_2798
theorem co_X13_countStretch : Cond.code yX13_countStretch cX13_countStretch 8 none ∈ TB := tw_2967
theorem co_X13_countTrees : Cond.code yX13_countTrees cX13_countTrees 6 (some .int) ∈ TB := tw_2907
theorem co_X13_countWays : Cond.code yX13_countWays cX13_countWays 6 (some .int) ∈ TB := tw_2931
theorem co_X13_declare : Cond.code yX13_declare cX13_declare 5 none ∈ TB := tw_2757
theorem co_X13_definition : Cond.code yX13_definition cX13_definition 2 (some .int) ∈ TB := tw_3018
theorem co_X13_definitionOf : Cond.code yX13_definitionOf cX13_definitionOf 2 (some .int) ∈ TB := tw_3022
theorem co_X13_doStep : Cond.code yX13_doStep cX13_doStep 5 none ∈ TB := tw_2712
theorem co_X13_dropTo : Cond.code yX13_dropTo cX13_dropTo 5 none ∈ TB := tw_2782
theorem co_X13_end : Cond.code yX13_end cX13_end 2 (some .int) ∈ TB := tw_2523
theorem co_X13_endNumber : Cond.code yX13_endNumber cX13_endNumber 7 none ∈ TB := tw_2689
theorem co_X13_enter : Cond.code yX13_enter cX13_enter 2 none ∈ TB := tw_3042
theorem co_X13_equate : Cond.code yX13_equate cX13_equate 4 (some .int) ∈ TB := tw_3010
theorem co_X13_fail : Cond.code yX13_fail cX13_fail 3 none ∈ TB := tw_2553
theorem co_X13_failHere : Cond.code yX13_failHere cX13_failHere 2 none ∈ TB := tw_2588
theorem co_X13_feed : Cond.code yX13_feed cX13_feed 8 (some .int) ∈ TB := tw_2519
theorem co_X13_find : Cond.code yX13_find cX13_find 7 (some .int) ∈ TB := tw_2822
theorem co_X13_findDefiners : Cond.code yX13_findDefiners cX13_findDefiners 4 none ∈ TB := tw_3128
theorem co_X13_findDefinition : Cond.code yX13_findDefinition cX13_findDefinition 11 (some .int) ∈ TB := tw_3026
theorem co_X13_findLabel : Cond.code yX13_findLabel cX13_findLabel 6 (some .int) ∈ TB := tw_2601
theorem co_X13_findSame : Cond.code yX13_findSame cX13_findSame 4 none ∈ TB := tw_3098
theorem co_X13_findSorts : Cond.code yX13_findSorts cX13_findSorts 2 none ∈ TB := tw_2919
theorem co_X13_findSymbol : Cond.code yX13_findSymbol cX13_findSymbol 6 (some .int) ∈ TB := tw_2616
theorem co_X13_finish : Cond.code yX13_finish cX13_finish 2 none ∈ TB := tw_2640
theorem co_X13_firstSide : Cond.code yX13_firstSide cX13_firstSide 3 (some .int) ∈ TB := tw_3030
theorem co_X13_fits : Cond.code yX13_fits cX13_fits 7 (some .boolean) ∈ TB := tw_3172
theorem co_X13_forgetText : Cond.code yX13_forgetText cX13_forgetText 8 none ∈ TB := tw_2786
theorem co_X13_forgetTrees : Cond.code yX13_forgetTrees cX13_forgetTrees 3 none ∈ TB := tw_2790
theorem co_X13_frame : Cond.code yX13_frame cX13_frame 3 (some .int) ∈ TB := tw_2834
theorem co_X13_from : Cond.code yX13_from cX13_from 4 (some .int) ∈ TB := tw_2876
theorem co_X13_goTo : Cond.code yX13_goTo cX13_goTo 13 none ∈ TB := tw_2975
theorem co_X13_hasDollar : Cond.code yX13_hasDollar cX13_hasDollar 5 (some .boolean) ∈ TB := tw_2565
theorem co_X13_hasLeaf : Cond.code yX13_hasLeaf cX13_hasLeaf 5 (some .boolean) ∈ TB := tw_3046
theorem co_X13_hasSign : Cond.code yX13_hasSign cX13_hasSign 4 (some .boolean) ∈ TB := tw_2569
theorem co_X13_hypOf : Cond.code yX13_hypOf cX13_hypOf 4 (some .int) ∈ TB := tw_3006
theorem co_X13_hypothesis : Cond.code yX13_hypothesis cX13_hypothesis 3 (some .int) ∈ TB := tw_2847
theorem co_X13_init : Cond.code yX13_init cX13_init 1 none ∈ TB := tw_1991
theorem co_X13_isAssertion : Cond.code yX13_isAssertion cX13_isAssertion 2 (some .boolean) ∈ TB := tw_2838
theorem co_X13_isBlank : Cond.code yX13_isBlank cX13_isBlank 1 (some .boolean) ∈ TB := tw_2546
theorem co_X13_isFirstVariable : Cond.code yX13_isFirstVariable cX13_isFirstVariable 2 (some .boolean) ∈ TB := tw_2971
theorem co_X13_isFlat : Cond.code yX13_isFlat cX13_isFlat 6 (some .boolean) ∈ TB := tw_3034
theorem co_X13_isIn : Cond.code yX13_isIn cX13_isIn 6 (some .boolean) ∈ TB := tw_2527
theorem co_X13_isKnown : Cond.code yX13_isKnown cX13_isKnown 1 (some .boolean) ∈ TB := tw_2572
theorem co_X13_isLabelSign : Cond.code yX13_isLabelSign cX13_isLabelSign 1 (some .boolean) ∈ TB := tw_2591
theorem co_X13_isMade : Cond.code yX13_isMade cX13_isMade 4 (some .boolean) ∈ TB := tw_2733
theorem co_X13_isMandatory : Cond.code yX13_isMandatory cX13_isMandatory 5 (some .boolean) ∈ TB := tw_2680
theorem co_X13_isName : Cond.code yX13_isName cX13_isName 7 (some .boolean) ∈ TB := tw_2608
theorem co_X13_isPlain : Cond.code yX13_isPlain cX13_isPlain 8 (some .boolean) ∈ TB := tw_3038
theorem co_X13_isProved : Cond.code yX13_isProved cX13_isProved 2 (some .boolean) ∈ TB := tw_2859
theorem co_X13_isRow : Cond.code yX13_isRow cX13_isRow 3 (some .boolean) ∈ TB := tw_2871
theorem co_X13_isRule : Cond.code yX13_isRule cX13_isRule 5 (some .boolean) ∈ TB := tw_2943
theorem co_X13_isSameStretch : Cond.code yX13_isSameStretch cX13_isSameStretch 7 (some .boolean) ∈ TB := tw_3176
theorem co_X13_isSign : Cond.code yX13_isSign cX13_isSign 1 (some .boolean) ∈ TB := tw_2549
theorem co_X13_isSort : Cond.code yX13_isSort cX13_isSort 2 (some .boolean) ∈ TB := tw_2923
theorem co_X13_isSortNode : Cond.code yX13_isSortNode cX13_isSortNode 2 (some .boolean) ∈ TB := tw_2963
theorem co_X13_isStatement : Cond.code yX13_isStatement cX13_isStatement 2 (some .boolean) ∈ TB := tw_2806
theorem co_X13_isToken : Cond.code yX13_isToken cX13_isToken 2 (some .boolean) ∈ TB := tw_2557
theorem co_X13_isUnit : Cond.code yX13_isUnit cX13_isUnit 2 (some .boolean) ∈ TB := tw_2947
theorem co_X13_isUsedBefore : Cond.code yX13_isUsedBefore cX13_isUsedBefore 5 (some .boolean) ∈ TB := tw_3050
theorem co_X13_keepChars : Cond.code yX13_keepChars cX13_keepChars 4 none ∈ TB := tw_2620
theorem co_X13_keepDraft : Cond.code yX13_keepDraft cX13_keepDraft 2 (some .int) ∈ TB := tw_3078
theorem co_X13_keepLabel : Cond.code yX13_keepLabel cX13_keepLabel 3 none ∈ TB := tw_2624
theorem co_X13_keepSymbol : Cond.code yX13_keepSymbol cX13_keepSymbol 3 none ∈ TB := tw_2761
theorem co_X13_kind : Cond.code yX13_kind cX13_kind 2 (some .int) ∈ TB := tw_2802
theorem co_X13_leafOf : Cond.code yX13_leafOf cX13_leafOf 4 (some .int) ∈ TB := tw_3148
theorem co_X13_length : Cond.code yX13_length cX13_length 2 (some .int) ∈ TB := tw_2810
theorem co_X13_lookAt : Cond.code yX13_lookAt cX13_lookAt 8 none ∈ TB := tw_2994
theorem co_X13_makeFrame : Cond.code yX13_makeFrame cX13_makeFrame 3 none ∈ TB := tw_2660
theorem co_X13_makeRows : Cond.code yX13_makeRows cX13_makeRows 6 none ∈ TB := tw_2863
theorem co_X13_makeSizes : Cond.code yX13_makeSizes cX13_makeSizes 6 none ∈ TB := tw_2892
theorem co_X13_makeTree : Cond.code yX13_makeTree cX13_makeTree 4 (some .int) ∈ TB := tw_2986
theorem co_X13_markNamed : Cond.code yX13_markNamed cX13_markNamed 3 none ∈ TB := tw_2765
theorem co_X13_markOf : Cond.code yX13_markOf cX13_markOf 3 none ∈ TB := tw_2664
theorem co_X13_match : Cond.code yX13_match cX13_match 15 (some .int) ∈ TB := tw_3002
theorem co_X13_needRules : Cond.code yX13_needRules cX13_needRules 4 none ∈ TB := tw_3136
theorem co_X13_newNode : Cond.code yX13_newNode cX13_newNode 4 (some .int) ∈ TB := tw_2990
theorem co_X13_newRuleNode : Cond.code yX13_newRuleNode cX13_newRuleNode 4 (some .int) ∈ TB := tw_2939
theorem co_X13_next : Cond.code yX13_next cX13_next 2 none ∈ TB := tw_2539
theorem co_X13_nextRow : Cond.code yX13_nextRow cX13_nextRow 1 (some .boolean) ∈ TB := tw_2543
theorem co_X13_noteAll : Cond.code yX13_noteAll cX13_noteAll 2 none ∈ TB := tw_2535
theorem co_X13_part : Cond.code yX13_part cX13_part 10 none ∈ TB := tw_2998
theorem co_X13_place : Cond.code yX13_place cX13_place 1 (some .int) ∈ TB := tw_2794
theorem co_X13_print : Cond.code yX13_print cX13_print 4 (some .int) ∈ TB := tw_3054
theorem co_X13_printBare : Cond.code yX13_printBare cX13_printBare 6 (some .int) ∈ TB := tw_3124
theorem co_X13_printPacked : Cond.code yX13_printPacked cX13_printPacked 5 (some .int) ∈ TB := tw_3094
theorem co_X13_printPlain : Cond.code yX13_printPlain cX13_printPlain 4 (some .int) ∈ TB := tw_3115
theorem co_X13_printRow : Cond.code yX13_printRow cX13_printRow 6 (some .int) ∈ TB := tw_3090
theorem co_X13_printTexts : Cond.code yX13_printTexts cX13_printTexts 3 (some .int) ∈ TB := tw_3086
theorem co_X13_printTree : Cond.code yX13_printTree cX13_printTree 3 (some .int) ∈ TB := tw_3120
theorem co_X13_pushRow : Cond.code yX13_pushRow cX13_pushRow 6 none ∈ TB := tw_2716
theorem co_X13_put : Cond.code yX13_put cX13_put 2 none ∈ TB := tw_3070
theorem co_X13_putBlank : Cond.code yX13_putBlank cX13_putBlank 1 none ∈ TB := tw_3066
theorem co_X13_putLabel : Cond.code yX13_putLabel cX13_putLabel 2 none ∈ TB := tw_3062
theorem co_X13_putName : Cond.code yX13_putName cX13_putName 4 none ∈ TB := tw_3074
theorem co_X13_putNumber : Cond.code yX13_putNumber cX13_putNumber 8 none ∈ TB := tw_3111
theorem co_X13_putSymbol : Cond.code yX13_putSymbol cX13_putSymbol 2 none ∈ TB := tw_3082
theorem co_X13_putTree : Cond.code yX13_putTree cX13_putTree 5 none ∈ TB := tw_3156
theorem co_X13_read : Cond.code yX13_read cX13_read 7 (some .int) ∈ TB := tw_2531
theorem co_X13_readApart : Cond.code yX13_readApart cX13_readApart 5 none ∈ TB := tw_2769
theorem co_X13_readAssertion : Cond.code yX13_readAssertion cX13_readAssertion 2 none ∈ TB := tw_2652
theorem co_X13_readDeclared : Cond.code yX13_readDeclared cX13_readDeclared 3 none ∈ TB := tw_2753
theorem co_X13_readFirst : Cond.code yX13_readFirst cX13_readFirst 3 none ∈ TB := tw_2632
theorem co_X13_readFloating : Cond.code yX13_readFloating cX13_readFloating 3 none ∈ TB := tw_2628
theorem co_X13_readLabel : Cond.code yX13_readLabel cX13_readLabel 2 none ∈ TB := tw_2584
theorem co_X13_readLabelled : Cond.code yX13_readLabelled cX13_readLabelled 1 none ∈ TB := tw_2580
theorem co_X13_readLetter : Cond.code yX13_readLetter cX13_readLetter 3 none ∈ TB := tw_2684
theorem co_X13_readPacked : Cond.code yX13_readPacked cX13_readPacked 2 none ∈ TB := tw_2668
theorem co_X13_readPackedLabels : Cond.code yX13_readPackedLabels cX13_readPackedLabels 4 none ∈ TB := tw_2672
theorem co_X13_readPlain : Cond.code yX13_readPlain cX13_readPlain 2 none ∈ TB := tw_2700
theorem co_X13_readScope : Cond.code yX13_readScope cX13_readScope 2 none ∈ TB := tw_2778
theorem co_X13_readStatement : Cond.code yX13_readStatement cX13_readStatement 1 none ∈ TB := tw_2576
theorem co_X13_readSymbols : Cond.code yX13_readSymbols cX13_readSymbols 3 none ∈ TB := tw_2648
theorem co_X13_readTheorem : Cond.code yX13_readTheorem cX13_readTheorem 1 none ∈ TB := tw_2656
theorem co_X13_replace : Cond.code yX13_replace cX13_replace 6 none ∈ TB := tw_2729
theorem co_X13_restOf : Cond.code yX13_restOf cX13_restOf 4 none ∈ TB := tw_2749
theorem co_X13_resting : Cond.code yX13_resting cX13_resting 4 (some .int) ∈ TB := tw_2843
theorem co_X13_rests : Cond.code yX13_rests cX13_rests 3 (some .int) ∈ TB := tw_2884
theorem co_X13_row : Cond.code yX13_row cX13_row 3 (some .int) ∈ TB := tw_2867
theorem co_X13_rowFrom : Cond.code yX13_rowFrom cX13_rowFrom 2 (some .int) ∈ TB := tw_2826
theorem co_X13_rowTree : Cond.code yX13_rowTree cX13_rowTree 4 (some .int) ∈ TB := tw_3168
theorem co_X13_rowWidth : Cond.code yX13_rowWidth cX13_rowWidth 3 (some .int) ∈ TB := tw_2880
theorem co_X13_rows : Cond.code yX13_rows cX13_rows 2 (some .int) ∈ TB := tw_2855
theorem co_X13_ruleOf : Cond.code yX13_ruleOf cX13_ruleOf 2 (some .int) ∈ TB := tw_3132
theorem co_X13_saveTop : Cond.code yX13_saveTop cX13_saveTop 3 none ∈ TB := tw_2745
theorem co_X13_setApart : Cond.code yX13_setApart cX13_setApart 8 none ∈ TB := tw_2773
theorem co_X13_size : Cond.code yX13_size cX13_size 2 (some .long) ∈ TB := tw_2888
theorem co_X13_skipComment : Cond.code yX13_skipComment cX13_skipComment 2 none ∈ TB := tw_2561
theorem co_X13_spot : Cond.code yX13_spot cX13_spot 5 (some .int) ∈ TB := tw_2604
theorem co_X13_spread : Cond.code yX13_spread cX13_spread 5 (some .boolean) ∈ TB := tw_3152
theorem co_X13_stepBelow : Cond.code yX13_stepBelow cX13_stepBelow 5 (some .int) ∈ TB := tw_2955
theorem co_X13_stepHere : Cond.code yX13_stepHere cX13_stepHere 4 (some .int) ∈ TB := tw_2676
theorem co_X13_symbol : Cond.code yX13_symbol cX13_symbol 3 (some .int) ∈ TB := tw_2814
theorem co_X13_symbolHere : Cond.code yX13_symbolHere cX13_symbolHere 1 (some .int) ∈ TB := tw_2612
theorem co_X13_takeRow : Cond.code yX13_takeRow cX13_takeRow 5 (some .int) ∈ TB := tw_3164
theorem co_X13_takeStatement : Cond.code yX13_takeStatement cX13_takeStatement 4 none ∈ TB := tw_2915
theorem co_X13_tellBare : Cond.code yX13_tellBare cX13_tellBare 5 (some .int) ∈ TB := tw_3140
theorem co_X13_tellHyps : Cond.code yX13_tellHyps cX13_tellHyps 8 (some .int) ∈ TB := tw_3180
theorem co_X13_tellSteps : Cond.code yX13_tellSteps cX13_tellSteps 4 none ∈ TB := tw_3107
theorem co_X13_treeOf : Cond.code yX13_treeOf cX13_treeOf 4 (some .int) ∈ TB := tw_2911
theorem co_X13_treeRule : Cond.code yX13_treeRule cX13_treeRule 5 none ∈ TB := tw_2951
theorem co_X13_treeRules : Cond.code yX13_treeRules cX13_treeRules 2 none ∈ TB := tw_2935
theorem co_X13_treeSort : Cond.code yX13_treeSort cX13_treeSort 2 (some .int) ∈ TB := tw_2927
theorem co_X13_trees : Cond.code yX13_trees cX13_trees 2 (some .int) ∈ TB := tw_2903
theorem co_X13_useTape : Cond.code yX13_useTape cX13_useTape 1 none ∈ TB := tw_2830
theorem co_X13_variable : Cond.code yX13_variable cX13_variable 2 (some .int) ∈ TB := tw_2818
theorem co_X13_variablesOf : Cond.code yX13_variablesOf cX13_variablesOf 4 (some .int) ∈ TB := tw_3014
theorem co_X13_verify : Cond.code yX13_verify cX13_verify 3 none ∈ TB := tw_2704
theorem co_X13_wayAt : Cond.code yX13_wayAt cX13_wayAt 4 (some .int) ∈ TB := tw_2959
theorem co_X13_wrong : Cond.code yX13_wrong cX13_wrong 2 none ∈ TB := tw_2721
theorem co_X1_add : Cond.code yX1_add cX1_add 11 none ∈ TB := tw_1734
theorem co_X1_addRules : Cond.code yX1_addRules cX1_addRules 8 none ∈ TB := tw_1743
theorem co_X1_addUnits : Cond.code yX1_addUnits cX1_addUnits 5 none ∈ TB := tw_1752
theorem co_X1_countTrees : Cond.code yX1_countTrees cX1_countTrees 2 (some .int) ∈ TB := tw_1722
theorem co_X1_countUnits : Cond.code yX1_countUnits cX1_countUnits 3 (some .boolean) ∈ TB := tw_1764
theorem co_X1_forgetRow : Cond.code yX1_forgetRow cX1_forgetRow 2 none ∈ TB := tw_1709
theorem co_X1_hasUnits : Cond.code yX1_hasUnits cX1_hasUnits 3 (some .boolean) ∈ TB := tw_1756
theorem co_X1_init : Cond.code yX1_init cX1_init 3 none ∈ TB := tw_667
theorem co_X1_parseFromStart : Cond.code yX1_parseFromStart cX1_parseFromStart 5 none ∈ TB := tw_1726
theorem co_X1_reaches : Cond.code yX1_reaches cX1_reaches 3 (some .boolean) ∈ TB := tw_1760
theorem co_X1_ruleOf : Cond.code yX1_ruleOf cX1_ruleOf 4 (some .int) ∈ TB := tw_1775
theorem co_X1_step : Cond.code yX1_step cX1_step 16 (some .boolean) ∈ TB := tw_1748
theorem co_X1_takeRow : Cond.code yX1_takeRow cX1_takeRow 4 none ∈ TB := tw_1932
theorem co_X1_takeStatement : Cond.code yX1_takeStatement cX1_takeStatement 3 none ∈ TB := tw_1705
theorem co_X1_walk : Cond.code yX1_walk cX1_walk 10 none ∈ TB := tw_1739
theorem co_X2_canDefine : Cond.code yX2_canDefine cX2_canDefine 4 (some .boolean) ∈ TB := tw_1820
theorem co_X2_clearSlots : Cond.code yX2_clearSlots cX2_clearSlots 4 none ∈ TB := tw_1841
theorem co_X2_compose : Cond.code yX2_compose cX2_compose 7 (some .boolean) ∈ TB := tw_1863
theorem co_X2_composeRow : Cond.code yX2_composeRow cX2_composeRow 3 (some .boolean) ∈ TB := tw_1872
theorem co_X2_composeSymbol : Cond.code yX2_composeSymbol cX2_composeSymbol 2 (some .boolean) ∈ TB := tw_1867
theorem co_X2_definedRule : Cond.code yX2_definedRule cX2_definedRule 2 (some .int) ∈ TB := tw_1850
theorem co_X2_evaluate : Cond.code yX2_evaluate cX2_evaluate 9 (some .boolean) ∈ TB := tw_1858
theorem co_X2_fillSlots : Cond.code yX2_fillSlots cX2_fillSlots 5 (some .boolean) ∈ TB := tw_1832
theorem co_X2_init : Cond.code yX2_init cX2_init 7 none ∈ TB := tw_793
theorem co_X2_makeBody : Cond.code yX2_makeBody cX2_makeBody 5 none ∈ TB := tw_1854
theorem co_X2_noteUses : Cond.code yX2_noteUses cX2_noteUses 3 none ∈ TB := tw_1815
theorem co_X2_partSides : Cond.code yX2_partSides cX2_partSides 5 (some .boolean) ∈ TB := tw_1824
theorem co_X2_prepare : Cond.code yX2_prepare cX2_prepare 4 none ∈ TB := tw_1846
theorem co_X2_secondHasNoOther : Cond.code yX2_secondHasNoOther cX2_secondHasNoOther 5 (some .boolean) ∈ TB := tw_1837
theorem co_X2_study : Cond.code yX2_study cX2_study 3 none ∈ TB := tw_1806
theorem co_X2_turn : Cond.code yX2_turn cX2_turn 2 (some .int) ∈ TB := tw_1908
theorem co_X3_add : Cond.code yX3_add cX3_add 2 none ∈ TB := tw_1036
theorem co_X3_addLabel : Cond.code yX3_addLabel cX3_addLabel 4 none ∈ TB := tw_1146
theorem co_X3_addName : Cond.code yX3_addName cX3_addName 7 none ∈ TB := tw_1150
theorem co_X3_addSymbol : Cond.code yX3_addSymbol cX3_addSymbol 5 (some .int) ∈ TB := tw_1162
theorem co_X3_append : Cond.code yX3_append cX3_append 3 none ∈ TB := tw_1202
theorem co_X3_bucket : Cond.code yX3_bucket cX3_bucket 5 (some .int) ∈ TB := tw_1109
theorem co_X3_constants : Cond.code yX3_constants cX3_constants 3 (some .int) ∈ TB := tw_1404
theorem co_X3_giveRank : Cond.code yX3_giveRank cX3_giveRank 2 none ∈ TB := tw_1198
theorem co_X3_goBack : Cond.code yX3_goBack cX3_goBack 2 none ∈ TB := tw_1380
theorem co_X3_hasRoomForName : Cond.code yX3_hasRoomForName cX3_hasRoomForName 2 (some .boolean) ∈ TB := tw_1136
theorem co_X3_init : Cond.code yX3_init cX3_init 1 none ∈ TB := tw_34
theorem co_X3_isAssertion : Cond.code yX3_isAssertion cX3_isAssertion 2 (some .boolean) ∈ TB := tw_1458
theorem co_X3_isName : Cond.code yX3_isName cX3_isName 7 (some .boolean) ∈ TB := tw_1113
theorem co_X3_isProved : Cond.code yX3_isProved cX3_isProved 2 (some .boolean) ∈ TB := tw_1491
theorem co_X3_isStatement : Cond.code yX3_isStatement cX3_isStatement 2 (some .boolean) ∈ TB := tw_1416
theorem co_X3_isSymbol : Cond.code yX3_isSymbol cX3_isSymbol 2 (some .boolean) ∈ TB := tw_1433
theorem co_X3_keep : Cond.code yX3_keep cX3_keep 1 none ∈ TB := tw_960
theorem co_X3_lengthOf : Cond.code yX3_lengthOf cX3_lengthOf 2 (some .int) ∈ TB := tw_1294
theorem co_X3_nameOf : Cond.code yX3_nameOf cX3_nameOf 6 (some .int) ∈ TB := tw_1106
theorem co_X3_ofKind : Cond.code yX3_ofKind cX3_ofKind 4 (some .int) ∈ TB := tw_1408
theorem co_X3_statementNamed : Cond.code yX3_statementNamed cX3_statementNamed 4 (some .int) ∈ TB := tw_1443
theorem co_X3_statementOf : Cond.code yX3_statementOf cX3_statementOf 2 (some .int) ∈ TB := tw_1124
theorem co_X3_symbolNamed : Cond.code yX3_symbolNamed cX3_symbolNamed 4 (some .int) ∈ TB := tw_1449
theorem co_X3_symbolOf : Cond.code yX3_symbolOf cX3_symbolOf 2 (some .int) ∈ TB := tw_1117
theorem co_X3_typeOf : Cond.code yX3_typeOf cX3_typeOf 2 (some .int) ∈ TB := tw_1210
theorem co_X3_variableOf : Cond.code yX3_variableOf cX3_variableOf 2 (some .int) ∈ TB := tw_1024
theorem co_X4_comesBack : Cond.code yX4_comesBack cX4_comesBack 3 (some .boolean) ∈ TB := tw_1966
theorem co_X4_enter : Cond.code yX4_enter cX4_enter 3 none ∈ TB := tw_1618
theorem co_X4_fill : Cond.code yX4_fill cX4_fill 6 (some .boolean) ∈ TB := tw_1971
theorem co_X4_fillIn : Cond.code yX4_fillIn cX4_fillIn 5 (some .boolean) ∈ TB := tw_1975
theorem co_X4_findSame : Cond.code yX4_findSame cX4_findSame 7 none ∈ TB := tw_1598
theorem co_X4_giveNumbers : Cond.code yX4_giveNumbers cX4_giveNumbers 5 none ∈ TB := tw_1627
theorem co_X4_hash : Cond.code yX4_hash cX4_hash 4 (some .int) ∈ TB := tw_1603
theorem co_X4_init : Cond.code yX4_init cX4_init 3 none ∈ TB := tw_529
theorem co_X4_isAlike : Cond.code yX4_isAlike cX4_isAlike 6 (some .boolean) ∈ TB := tw_1609
theorem co_X4_numberOf : Cond.code yX4_numberOf cX4_numberOf 2 (some .int) ∈ TB := tw_1645
theorem co_X4_pack : Cond.code yX4_pack cX4_pack 2 none ∈ TB := tw_1594
theorem co_X4_saves : Cond.code yX4_saves cX4_saves 2 (some .boolean) ∈ TB := tw_1636
theorem co_X4_statementOf : Cond.code yX4_statementOf cX4_statementOf 2 (some .int) ∈ TB := tw_1632
theorem co_X4_tell : Cond.code yX4_tell cX4_tell 2 none ∈ TB := tw_1622
theorem co_X4_unpack : Cond.code yX4_unpack cX4_unpack 2 none ∈ TB := tw_1661
theorem co_X4_walk : Cond.code yX4_walk cX4_walk 6 none ∈ TB := tw_1614
theorem co_X5_begin : Cond.code yX5_begin cX5_begin 1 none ∈ TB := tw_1535
theorem co_X5_finish : Cond.code yX5_finish cX5_finish 2 (some .int) ∈ TB := tw_1555
theorem co_X5_init : Cond.code yX5_init cX5_init 2 none ∈ TB := tw_863
theorem co_X5_put : Cond.code yX5_put cX5_put 2 none ∈ TB := tw_1551
theorem co_X5_putBlank : Cond.code yX5_putBlank cX5_putBlank 1 none ∈ TB := tw_1547
theorem co_X5_putName : Cond.code yX5_putName cX5_putName 3 none ∈ TB := tw_1543
theorem co_X5_putNumber : Cond.code yX5_putNumber cX5_putNumber 6 none ∈ TB := tw_1649
theorem co_X5_putSymbol : Cond.code yX5_putSymbol cX5_putSymbol 2 none ∈ TB := tw_1539
theorem co_X5_putSymbols : Cond.code yX5_putSymbols cX5_putSymbols 5 none ∈ TB := tw_1585
theorem co_X5_putToken : Cond.code yX5_putToken cX5_putToken 2 none ∈ TB := tw_1640
theorem co_X5_shown : Cond.code yX5_shown cX5_shown 2 (some .int) ∈ TB := tw_1895
theorem co_X6_areApart : Cond.code yX6_areApart cX6_areApart 5 (some .boolean) ∈ TB := tw_1331
theorem co_X6_bind : Cond.code yX6_bind cX6_bind 6 (some .boolean) ∈ TB := tw_1301
theorem co_X6_build : Cond.code yX6_build cX6_build 5 (some .boolean) ∈ TB := tw_1336
theorem co_X6_buildHypothesis : Cond.code yX6_buildHypothesis cX6_buildHypothesis 2 none ∈ TB := tw_1290
theorem co_X6_clear : Cond.code yX6_clear cX6_clear 1 none ∈ TB := tw_1276
theorem co_X6_drop : Cond.code yX6_drop cX6_drop 5 none ∈ TB := tw_1340
theorem co_X6_gather : Cond.code yX6_gather cX6_gather 6 (some .int) ∈ TB := tw_1323
theorem co_X6_goAgain : Cond.code yX6_goAgain cX6_goAgain 8 (some .boolean) ∈ TB := tw_1568
theorem co_X6_init : Cond.code yX6_init cX6_init 4 none ∈ TB := tw_341
theorem co_X6_isEssential : Cond.code yX6_isEssential cX6_isEssential 9 (some .boolean) ∈ TB := tw_1305
theorem co_X6_isSame : Cond.code yX6_isSame cX6_isSame 5 (some .boolean) ∈ TB := tw_1309
theorem co_X6_isStatement : Cond.code yX6_isStatement cX6_isStatement 4 (some .boolean) ∈ TB := tw_1352
theorem co_X6_keepsApart : Cond.code yX6_keepsApart cX6_keepsApart 5 (some .boolean) ∈ TB := tw_1315
theorem co_X6_put : Cond.code yX6_put cX6_put 3 (some .boolean) ∈ TB := tw_1348
theorem co_X7_begin : Cond.code yX7_begin cX7_begin 2 none ∈ TB := tw_956
theorem co_X7_closeScope : Cond.code yX7_closeScope cX7_closeScope 1 (some .int) ∈ TB := tw_1086
theorem co_X7_declaration : Cond.code yX7_declaration cX7_declaration 2 (some .int) ∈ TB := tw_1062
theorem co_X7_declareConstant : Cond.code yX7_declareConstant cX7_declareConstant 4 (some .int) ∈ TB := tw_1154
theorem co_X7_declareVariable : Cond.code yX7_declareVariable cX7_declareVariable 5 (some .int) ∈ TB := tw_1166
theorem co_X7_endDeclaration : Cond.code yX7_endDeclaration cX7_endDeclaration 2 (some .int) ∈ TB := tw_1000
theorem co_X7_endProof : Cond.code yX7_endProof cX7_endProof 1 (some .int) ∈ TB := tw_1046
theorem co_X7_endRow : Cond.code yX7_endRow cX7_endRow 1 (some .int) ∈ TB := tw_996
theorem co_X7_endStatement : Cond.code yX7_endStatement cX7_endStatement 3 (some .int) ∈ TB := tw_1004
theorem co_X7_endTheorem : Cond.code yX7_endTheorem cX7_endTheorem 2 (some .int) ∈ TB := tw_1268
theorem co_X7_faultAtEnd : Cond.code yX7_faultAtEnd cX7_faultAtEnd 1 (some .int) ∈ TB := tw_1376
theorem co_X7_faultOfNewSymbol : Cond.code yX7_faultOfNewSymbol cX7_faultOfNewSymbol 2 (some .int) ∈ TB := tw_1158
theorem co_X7_firstSymbol : Cond.code yX7_firstSymbol cX7_firstSymbol 3 (some .int) ∈ TB := tw_1194
theorem co_X7_floatingVariable : Cond.code yX7_floatingVariable cX7_floatingVariable 4 (some .int) ∈ TB := tw_1206
theorem co_X7_hasCommentMark : Cond.code yX7_hasCommentMark cX7_hasCommentMark 4 (some .boolean) ∈ TB := tw_992
theorem co_X7_hasDollar : Cond.code yX7_hasDollar cX7_hasDollar 4 (some .boolean) ∈ TB := tw_1102
theorem co_X7_init : Cond.code yX7_init cX7_init 5 none ∈ TB := tw_482
theorem co_X7_keyword : Cond.code yX7_keyword cX7_keyword 2 (some .int) ∈ TB := tw_1058
theorem co_X7_label : Cond.code yX7_label cX7_label 3 (some .int) ∈ TB := tw_1132
theorem co_X7_openScope : Cond.code yX7_openScope cX7_openScope 1 (some .int) ∈ TB := tw_1078
theorem co_X7_proof : Cond.code yX7_proof cX7_proof 1 (some .int) ∈ TB := tw_1070
theorem co_X7_readText : Cond.code yX7_readText cX7_readText 7 (some .int) ∈ TB := tw_952
theorem co_X7_statement : Cond.code yX7_statement cX7_statement 2 (some .int) ∈ TB := tw_1066
theorem co_X7_takeApart : Cond.code yX7_takeApart cX7_takeApart 3 (some .int) ∈ TB := tw_1178
theorem co_X7_takeSymbol : Cond.code yX7_takeSymbol cX7_takeSymbol 2 (some .int) ∈ TB := tw_1190
theorem co_X7_token : Cond.code yX7_token cX7_token 7 (some .int) ∈ TB := tw_988
theorem co_X7_word : Cond.code yX7_word cX7_word 3 (some .int) ∈ TB := tw_1128
theorem co_X8_child : Cond.code yX8_child cX8_child 6 (some .int) ∈ TB := tw_1701
theorem co_X8_constantNamed : Cond.code yX8_constantNamed cX8_constantNamed 3 (some .int) ∈ TB := tw_1680
theorem co_X8_goalRank : Cond.code yX8_goalRank cX8_goalRank 3 (some .int) ∈ TB := tw_1718
theorem co_X8_init : Cond.code yX8_init cX8_init 3 none ∈ TB := tw_597
theorem co_X8_insert : Cond.code yX8_insert cX8_insert 5 none ∈ TB := tw_1697
theorem co_X8_isRule : Cond.code yX8_isRule cX8_isRule 5 (some .boolean) ∈ TB := tw_1688
theorem co_X8_learn : Cond.code yX8_learn cX8_learn 2 none ∈ TB := tw_1674
theorem co_X8_sortRank : Cond.code yX8_sortRank cX8_sortRank 2 (some .int) ∈ TB := tw_1730
theorem co_X9_addHypothesis : Cond.code yX9_addHypothesis cX9_addHypothesis 2 none ∈ TB := tw_1041
theorem co_X9_addPair : Cond.code yX9_addPair cX9_addPair 3 none ∈ TB := tw_1186
theorem co_X9_addVariable : Cond.code yX9_addVariable cX9_addVariable 2 none ∈ TB := tw_1174
theorem co_X9_areApart : Cond.code yX9_areApart cX9_areApart 3 (some .boolean) ∈ TB := tw_1182
theorem co_X9_close : Cond.code yX9_close cX9_close 1 none ∈ TB := tw_1090
theorem co_X9_cut : Cond.code yX9_cut cX9_cut 2 none ∈ TB := tw_1094
theorem co_X9_goBack : Cond.code yX9_goBack cX9_goBack 1 none ∈ TB := tw_1388
theorem co_X9_init : Cond.code yX9_init cX9_init 2 none ∈ TB := tw_160
theorem co_X9_isInFrame : Cond.code yX9_isInFrame cX9_isInFrame 2 (some .boolean) ∈ TB := tw_1028
theorem co_X9_isKnown : Cond.code yX9_isKnown cX9_isKnown 2 (some .boolean) ∈ TB := tw_1170
theorem co_X9_keep : Cond.code yX9_keep cX9_keep 1 none ∈ TB := tw_968
theorem co_X9_mark : Cond.code yX9_mark cX9_mark 1 none ∈ TB := tw_972
theorem co_X9_markFrame : Cond.code yX9_markFrame cX9_markFrame 3 none ∈ TB := tw_1012
theorem co_X9_markVariables : Cond.code yX9_markVariables cX9_markVariables 3 none ∈ TB := tw_1016
theorem co_X9_open : Cond.code yX9_open cX9_open 1 none ∈ TB := tw_1082
theorem co_X9_turnPair : Cond.code yX9_turnPair cX9_turnPair 3 none ∈ TB := tw_1098
set_option maxRecDepth 20000 in
theorem inX0 : ∀ w ∈ u_ws RX0 TX0 20, w ∈ TB := ((List.forall_mem_cons.mpr ⟨tw_296, (List.forall_mem_cons.mpr ⟨tw_298, (List.forall_mem_cons.mpr ⟨tw_300, (List.forall_mem_cons.mpr ⟨tw_302, (List.forall_mem_cons.mpr ⟨tw_304, (List.forall_mem_cons.mpr ⟨tw_306, (List.forall_mem_cons.mpr ⟨tw_308, (List.forall_mem_cons.mpr ⟨tw_310, (List.forall_mem_cons.mpr ⟨tw_312, (List.forall_mem_cons.mpr ⟨tw_314, (List.forall_mem_cons.mpr ⟨tw_316, (List.forall_mem_cons.mpr ⟨tw_318, (List.forall_mem_cons.mpr ⟨tw_320, (List.forall_mem_cons.mpr ⟨tw_322, (List.forall_mem_cons.mpr ⟨tw_324, (List.forall_mem_cons.mpr ⟨tw_326, (List.forall_mem_cons.mpr ⟨tw_328, (List.forall_mem_cons.mpr ⟨tw_330, (List.forall_mem_cons.mpr ⟨tw_332, (List.forall_mem_cons.mpr ⟨tw_334, (fun _ h => absurd h List.not_mem_nil)⟩)⟩)⟩)⟩)⟩)⟩)⟩)⟩)⟩)⟩)⟩)⟩)⟩)⟩)⟩)⟩)⟩)⟩)⟩)⟩) : ∀ w ∈ [Cond.laysFinal "ProofLibrary$Assertions" "ProofLibrary$Assertions" "library" "LProofLibrary$Library;", Cond.laysFinal "ProofLibrary$Assertions" "ProofLibrary$Assertions" "scopes" "LProofLibrary$Scopes;", Cond.laysFinal "ProofLibrary$Assertions" "ProofLibrary$Assertions" "frameAt" "[I", Cond.laysFinal "ProofLibrary$Assertions" "ProofLibrary$Assertions" "frameSize" "[I", Cond.laysFinal "ProofLibrary$Assertions" "ProofLibrary$Assertions" "hypotheses" "[I", Cond.lays "ProofLibrary$Assertions" "ProofLibrary$Assertions" "hypothesesUsed" "I", Cond.laysFinal "ProofLibrary$Assertions" "ProofLibrary$Assertions" "pairAt" "[I", Cond.laysFinal "ProofLibrary$Assertions" "ProofLibrary$Assertions" "pairSize" "[I", Cond.laysFinal "ProofLibrary$Assertions" "ProofLibrary$Assertions" "pair" "[I", Cond.lays "ProofLibrary$Assertions" "ProofLibrary$Assertions" "pairs" "I", Cond.laysFinal "ProofLibrary$Assertions" "ProofLibrary$Assertions" "rowAt" "[I", Cond.laysFinal "ProofLibrary$Assertions" "ProofLibrary$Assertions" "rowCount" "[I", Cond.laysFinal "ProofLibrary$Assertions" "ProofLibrary$Assertions" "rowStatement" "[I", Cond.laysFinal "ProofLibrary$Assertions" "ProofLibrary$Assertions" "childAt" "[I", Cond.laysFinal "ProofLibrary$Assertions" "ProofLibrary$Assertions" "children" "[I", Cond.lays "ProofLibrary$Assertions" "ProofLibrary$Assertions" "rowsUsed" "I", Cond.lays "ProofLibrary$Assertions" "ProofLibrary$Assertions" "steps" "I", Cond.laysFinal "ProofLibrary$Assertions" "ProofLibrary$Assertions" "rowLabels" "[J", Cond.laysFinal "ProofLibrary$Assertions" "ProofLibrary$Assertions" "rests" "[J", Cond.laysFinal "ProofLibrary$Assertions" "ProofLibrary$Assertions" "kept" "[I"], w ∈ TB)
theorem xdfX0 : ∀ j, j < 20 → defaultValue (tyX0 j) = vp_V [.null, .null, .null, .null, .null, .int 0, .null, .null, .null, .int 0, .null, .null, .null, .null, .null, .int 0, .int 0, .null, .null, .null] j := fun j hj => by
  rcases (show j = 0 ∨ j = 1 ∨ j = 2 ∨ j = 3 ∨ j = 4 ∨ j = 5 ∨ j = 6 ∨ j = 7 ∨ j = 8 ∨ j = 9 ∨ j = 10 ∨ j = 11 ∨ j = 12 ∨ j = 13 ∨ j = 14 ∨ j = 15 ∨ j = 16 ∨ j = 17 ∨ j = 18 ∨ j = 19 by omega) with rfl | rfl | rfl | rfl | rfl | rfl | rfl | rfl | rfl | rfl | rfl | rfl | rfl | rfl | rfl | rfl | rfl | rfl | rfl | rfl <;> rfl
set_option maxRecDepth 20000 in
theorem inX1 : ∀ w ∈ u_ws RX1 TX1 18, w ∈ TB := ((List.forall_mem_cons.mpr ⟨tw_694, (List.forall_mem_cons.mpr ⟨tw_696, (List.forall_mem_cons.mpr ⟨tw_698, (List.forall_mem_cons.mpr ⟨tw_700, (List.forall_mem_cons.mpr ⟨tw_702, (List.forall_mem_cons.mpr ⟨tw_704, (List.forall_mem_cons.mpr ⟨tw_706, (List.forall_mem_cons.mpr ⟨tw_708, (List.forall_mem_cons.mpr ⟨tw_710, (List.forall_mem_cons.mpr ⟨tw_712, (List.forall_mem_cons.mpr ⟨tw_714, (List.forall_mem_cons.mpr ⟨tw_716, (List.forall_mem_cons.mpr ⟨tw_718, (List.forall_mem_cons.mpr ⟨tw_720, (List.forall_mem_cons.mpr ⟨tw_722, (List.forall_mem_cons.mpr ⟨tw_724, (List.forall_mem_cons.mpr ⟨tw_726, (List.forall_mem_cons.mpr ⟨tw_728, (fun _ h => absurd h List.not_mem_nil)⟩)⟩)⟩)⟩)⟩)⟩)⟩)⟩)⟩)⟩)⟩)⟩)⟩)⟩)⟩)⟩)⟩)⟩) : ∀ w ∈ [Cond.laysFinal "ProofLibrary$Chart" "ProofLibrary$Chart" "library" "LProofLibrary$Library;", Cond.laysFinal "ProofLibrary$Chart" "ProofLibrary$Chart" "rules" "LProofLibrary$Rules;", Cond.laysFinal "ProofLibrary$Chart" "ProofLibrary$Chart" "row" "[I", Cond.laysFinal "ProofLibrary$Chart" "ProofLibrary$Chart" "leaf" "[I", Cond.lays "ProofLibrary$Chart" "ProofLibrary$Chart" "length" "I", Cond.lays "ProofLibrary$Chart" "ProofLibrary$Chart" "limit" "I", Cond.lays "ProofLibrary$Chart" "ProofLibrary$Chart" "goal" "I", Cond.laysFinal "ProofLibrary$Chart" "ProofLibrary$Chart" "where" "[J", Cond.laysFinal "ProofLibrary$Chart" "ProofLibrary$Chart" "has" "[J", Cond.laysFinal "ProofLibrary$Chart" "ProofLibrary$Chart" "several" "[J", Cond.laysFinal "ProofLibrary$Chart" "ProofLibrary$Chart" "madeBy" "[I", Cond.lays "ProofLibrary$Chart" "ProofLibrary$Chart" "start" "I", Cond.laysFinal "ProofLibrary$Chart" "ProofLibrary$Chart" "stackNode" "[I", Cond.laysFinal "ProofLibrary$Chart" "ProofLibrary$Chart" "stackHas" "[J", Cond.laysFinal "ProofLibrary$Chart" "ProofLibrary$Chart" "stackSeveral" "[J", Cond.laysFinal "ProofLibrary$Chart" "ProofLibrary$Chart" "base" "[I", Cond.laysFinal "ProofLibrary$Chart" "ProofLibrary$Chart" "total" "[I", Cond.laysFinal "ProofLibrary$Chart" "ProofLibrary$Chart" "next" "[I"], w ∈ TB)
theorem xdfX1 : ∀ j, j < 18 → defaultValue (tyX1 j) = vp_V [.null, .null, .null, .null, .int 0, .int 0, .int 0, .null, .null, .null, .null, .int 0, .null, .null, .null, .null, .null, .null] j := fun j hj => by
  rcases (show j = 0 ∨ j = 1 ∨ j = 2 ∨ j = 3 ∨ j = 4 ∨ j = 5 ∨ j = 6 ∨ j = 7 ∨ j = 8 ∨ j = 9 ∨ j = 10 ∨ j = 11 ∨ j = 12 ∨ j = 13 ∨ j = 14 ∨ j = 15 ∨ j = 16 ∨ j = 17 by omega) with rfl | rfl | rfl | rfl | rfl | rfl | rfl | rfl | rfl | rfl | rfl | rfl | rfl | rfl | rfl | rfl | rfl | rfl <;> rfl
set_option maxRecDepth 20000 in
theorem inX10 : ∀ w ∈ u_ws RX10 TX10 21, w ∈ TB := ((List.forall_mem_cons.mpr ⟨tw_437, (List.forall_mem_cons.mpr ⟨tw_439, (List.forall_mem_cons.mpr ⟨tw_441, (List.forall_mem_cons.mpr ⟨tw_443, (List.forall_mem_cons.mpr ⟨tw_445, (List.forall_mem_cons.mpr ⟨tw_447, (List.forall_mem_cons.mpr ⟨tw_449, (List.forall_mem_cons.mpr ⟨tw_451, (List.forall_mem_cons.mpr ⟨tw_453, (List.forall_mem_cons.mpr ⟨tw_455, (List.forall_mem_cons.mpr ⟨tw_457, (List.forall_mem_cons.mpr ⟨tw_459, (List.forall_mem_cons.mpr ⟨tw_461, (List.forall_mem_cons.mpr ⟨tw_463, (List.forall_mem_cons.mpr ⟨tw_465, (List.forall_mem_cons.mpr ⟨tw_467, (List.forall_mem_cons.mpr ⟨tw_469, (List.forall_mem_cons.mpr ⟨tw_471, (List.forall_mem_cons.mpr ⟨tw_473, (List.forall_mem_cons.mpr ⟨tw_475, (List.forall_mem_cons.mpr ⟨tw_477, (fun _ h => absurd h List.not_mem_nil)⟩)⟩)⟩)⟩)⟩)⟩)⟩)⟩)⟩)⟩)⟩)⟩)⟩)⟩)⟩)⟩)⟩)⟩)⟩)⟩)⟩) : ∀ w ∈ [Cond.laysFinal "ProofLibrary$Steps" "ProofLibrary$Steps" "library" "LProofLibrary$Library;", Cond.laysFinal "ProofLibrary$Steps" "ProofLibrary$Steps" "assertions" "LProofLibrary$Assertions;", Cond.laysFinal "ProofLibrary$Steps" "ProofLibrary$Steps" "scopes" "LProofLibrary$Scopes;", Cond.laysFinal "ProofLibrary$Steps" "ProofLibrary$Steps" "pile" "LProofLibrary$Pile;", Cond.laysFinal "ProofLibrary$Steps" "ProofLibrary$Steps" "steps" "[I", Cond.laysFinal "ProofLibrary$Steps" "ProofLibrary$Steps" "places" "[I", Cond.lays "ProofLibrary$Steps" "ProofLibrary$Steps" "count" "I", Cond.laysFinal "ProofLibrary$Steps" "ProofLibrary$Steps" "listed" "[I", Cond.lays "ProofLibrary$Steps" "ProofLibrary$Steps" "listedCount" "I", Cond.lays "ProofLibrary$Steps" "ProofLibrary$Steps" "savedCount" "I", Cond.lays "ProofLibrary$Steps" "ProofLibrary$Steps" "theorem" "I", Cond.lays "ProofLibrary$Steps" "ProofLibrary$Steps" "form" "I", Cond.lays "ProofLibrary$Steps" "ProofLibrary$Steps" "number" "I", Cond.lays "ProofLibrary$Steps" "ProofLibrary$Steps" "afterAssertion" "Z", Cond.lays "ProofLibrary$Steps" "ProofLibrary$Steps" "open" "Z", Cond.lays "ProofLibrary$Steps" "ProofLibrary$Steps" "place" "I", Cond.laysFinal "ProofLibrary$Steps" "ProofLibrary$Steps" "pileRow" "[I", Cond.lays "ProofLibrary$Steps" "ProofLibrary$Steps" "pileRows" "I", Cond.laysFinal "ProofLibrary$Steps" "ProofLibrary$Steps" "savedRow" "[I", Cond.lays "ProofLibrary$Steps" "ProofLibrary$Steps" "symbols" "I", Cond.lays "ProofLibrary$Steps" "ProofLibrary$Steps" "rows" "I"], w ∈ TB)
theorem xdfX10 : ∀ j, j < 21 → defaultValue (tyX10 j) = vp_V [.null, .null, .null, .null, .null, .null, .int 0, .null, .int 0, .int 0, .int 0, .int 0, .int 0, .int 0, .int 0, .int 0, .null, .int 0, .null, .int 0, .int 0] j := fun j hj => by
  rcases (show j = 0 ∨ j = 1 ∨ j = 2 ∨ j = 3 ∨ j = 4 ∨ j = 5 ∨ j = 6 ∨ j = 7 ∨ j = 8 ∨ j = 9 ∨ j = 10 ∨ j = 11 ∨ j = 12 ∨ j = 13 ∨ j = 14 ∨ j = 15 ∨ j = 16 ∨ j = 17 ∨ j = 18 ∨ j = 19 ∨ j = 20 by omega) with rfl | rfl | rfl | rfl | rfl | rfl | rfl | rfl | rfl | rfl | rfl | rfl | rfl | rfl | rfl | rfl | rfl | rfl | rfl | rfl | rfl <;> rfl
set_option maxRecDepth 20000 in
theorem inX11 : ∀ w ∈ u_ws RX11 TX11 15, w ∈ TB := ((List.forall_mem_cons.mpr ⟨tw_758, (List.forall_mem_cons.mpr ⟨tw_760, (List.forall_mem_cons.mpr ⟨tw_762, (List.forall_mem_cons.mpr ⟨tw_764, (List.forall_mem_cons.mpr ⟨tw_766, (List.forall_mem_cons.mpr ⟨tw_768, (List.forall_mem_cons.mpr ⟨tw_770, (List.forall_mem_cons.mpr ⟨tw_772, (List.forall_mem_cons.mpr ⟨tw_774, (List.forall_mem_cons.mpr ⟨tw_776, (List.forall_mem_cons.mpr ⟨tw_778, (List.forall_mem_cons.mpr ⟨tw_780, (List.forall_mem_cons.mpr ⟨tw_782, (List.forall_mem_cons.mpr ⟨tw_784, (List.forall_mem_cons.mpr ⟨tw_786, (fun _ h => absurd h List.not_mem_nil)⟩)⟩)⟩)⟩)⟩)⟩)⟩)⟩)⟩)⟩)⟩)⟩)⟩)⟩)⟩) : ∀ w ∈ [Cond.laysFinal "ProofLibrary$Tree" "ProofLibrary$Tree" "library" "LProofLibrary$Library;", Cond.laysFinal "ProofLibrary$Tree" "ProofLibrary$Tree" "assertions" "LProofLibrary$Assertions;", Cond.laysFinal "ProofLibrary$Tree" "ProofLibrary$Tree" "chart" "LProofLibrary$Chart;", Cond.laysFinal "ProofLibrary$Tree" "ProofLibrary$Tree" "rule" "[I", Cond.laysFinal "ProofLibrary$Tree" "ProofLibrary$Tree" "from" "[I", Cond.laysFinal "ProofLibrary$Tree" "ProofLibrary$Tree" "to" "[I", Cond.lays "ProofLibrary$Tree" "ProofLibrary$Tree" "size" "I", Cond.laysFinal "ProofLibrary$Tree" "ProofLibrary$Tree" "pattern" "[I", Cond.lays "ProofLibrary$Tree" "ProofLibrary$Tree" "patternSize" "I", Cond.laysFinal "ProofLibrary$Tree" "ProofLibrary$Tree" "cells" "[I", Cond.laysFinal "ProofLibrary$Tree" "ProofLibrary$Tree" "fits" "[J", Cond.laysFinal "ProofLibrary$Tree" "ProofLibrary$Tree" "spanFrom" "[I", Cond.laysFinal "ProofLibrary$Tree" "ProofLibrary$Tree" "spanTo" "[I", Cond.laysFinal "ProofLibrary$Tree" "ProofLibrary$Tree" "bound" "[I", Cond.lays "ProofLibrary$Tree" "ProofLibrary$Tree" "turn" "I"], w ∈ TB)
theorem xdfX11 : ∀ j, j < 15 → defaultValue (tyX11 j) = vp_V [.null, .null, .null, .null, .null, .null, .int 0, .null, .int 0, .null, .null, .null, .null, .null, .int 0] j := fun j hj => by
  rcases (show j = 0 ∨ j = 1 ∨ j = 2 ∨ j = 3 ∨ j = 4 ∨ j = 5 ∨ j = 6 ∨ j = 7 ∨ j = 8 ∨ j = 9 ∨ j = 10 ∨ j = 11 ∨ j = 12 ∨ j = 13 ∨ j = 14 by omega) with rfl | rfl | rfl | rfl | rfl | rfl | rfl | rfl | rfl | rfl | rfl | rfl | rfl | rfl | rfl <;> rfl
set_option maxRecDepth 20000 in
theorem inX12 : ∀ w ∈ u_ws RX12 TX12 16, w ∈ TB := ((List.forall_mem_cons.mpr ⟨tw_900, (List.forall_mem_cons.mpr ⟨tw_902, (List.forall_mem_cons.mpr ⟨tw_904, (List.forall_mem_cons.mpr ⟨tw_906, (List.forall_mem_cons.mpr ⟨tw_908, (List.forall_mem_cons.mpr ⟨tw_910, (List.forall_mem_cons.mpr ⟨tw_912, (List.forall_mem_cons.mpr ⟨tw_914, (List.forall_mem_cons.mpr ⟨tw_916, (List.forall_mem_cons.mpr ⟨tw_918, (List.forall_mem_cons.mpr ⟨tw_920, (List.forall_mem_cons.mpr ⟨tw_922, (List.forall_mem_cons.mpr ⟨tw_924, (List.forall_mem_cons.mpr ⟨tw_926, (List.forall_mem_cons.mpr ⟨tw_928, (List.forall_mem_cons.mpr ⟨tw_930, (fun _ h => absurd h List.not_mem_nil)⟩)⟩)⟩)⟩)⟩)⟩)⟩)⟩)⟩)⟩)⟩)⟩)⟩)⟩)⟩)⟩) : ∀ w ∈ [Cond.laysFinal "ProofLibrary" "ProofLibrary" "tape" "[C", Cond.lays "ProofLibrary" "ProofLibrary" "tapeLength" "I", Cond.lays "ProofLibrary" "ProofLibrary" "canEnd" "Z", Cond.lays "ProofLibrary" "ProofLibrary" "faultPlace" "I", Cond.laysFinal "ProofLibrary" "ProofLibrary" "asked" "[I", Cond.laysFinal "ProofLibrary" "ProofLibrary" "library" "LProofLibrary$Library;", Cond.laysFinal "ProofLibrary" "ProofLibrary" "scopes" "LProofLibrary$Scopes;", Cond.laysFinal "ProofLibrary" "ProofLibrary" "assertions" "LProofLibrary$Assertions;", Cond.laysFinal "ProofLibrary" "ProofLibrary" "pile" "LProofLibrary$Pile;", Cond.laysFinal "ProofLibrary" "ProofLibrary" "reader" "LProofLibrary$Reader;", Cond.laysFinal "ProofLibrary" "ProofLibrary" "packer" "LProofLibrary$Packer;", Cond.laysFinal "ProofLibrary" "ProofLibrary" "rules" "LProofLibrary$Rules;", Cond.laysFinal "ProofLibrary" "ProofLibrary" "chart" "LProofLibrary$Chart;", Cond.laysFinal "ProofLibrary" "ProofLibrary" "tree" "LProofLibrary$Tree;", Cond.laysFinal "ProofLibrary" "ProofLibrary" "definitions" "LProofLibrary$Definitions;", Cond.laysFinal "ProofLibrary" "ProofLibrary" "paper" "LProofLibrary$Paper;"], w ∈ TB)
theorem xdfX12 : ∀ j, j < 16 → defaultValue (tyX12 j) = vp_V [.null, .int 0, .int 0, .int 0, .null, .null, .null, .null, .null, .null, .null, .null, .null, .null, .null, .null] j := fun j hj => by
  rcases (show j = 0 ∨ j = 1 ∨ j = 2 ∨ j = 3 ∨ j = 4 ∨ j = 5 ∨ j = 6 ∨ j = 7 ∨ j = 8 ∨ j = 9 ∨ j = 10 ∨ j = 11 ∨ j = 12 ∨ j = 13 ∨ j = 14 ∨ j = 15 by omega) with rfl | rfl | rfl | rfl | rfl | rfl | rfl | rfl | rfl | rfl | rfl | rfl | rfl | rfl | rfl | rfl <;> rfl
set_option maxRecDepth 20000 in
theorem inX13 : ∀ w ∈ u_ws RX13 TX13 170, w ∈ TB := ((List.forall_mem_cons.mpr ⟨tw_2175, (List.forall_mem_cons.mpr ⟨tw_2177, (List.forall_mem_cons.mpr ⟨tw_2179, (List.forall_mem_cons.mpr ⟨tw_2181, (List.forall_mem_cons.mpr ⟨tw_2183, (List.forall_mem_cons.mpr ⟨tw_2185, (List.forall_mem_cons.mpr ⟨tw_2187, (List.forall_mem_cons.mpr ⟨tw_2189, (List.forall_mem_cons.mpr ⟨tw_2191, (List.forall_mem_cons.mpr ⟨tw_2193, (List.forall_mem_cons.mpr ⟨tw_2195, (List.forall_mem_cons.mpr ⟨tw_2197, (List.forall_mem_cons.mpr ⟨tw_2199, (List.forall_mem_cons.mpr ⟨tw_2201, (List.forall_mem_cons.mpr ⟨tw_2203, (List.forall_mem_cons.mpr ⟨tw_2205, (List.forall_mem_cons.mpr ⟨tw_2207, (List.forall_mem_cons.mpr ⟨tw_2209, (List.forall_mem_cons.mpr ⟨tw_2211, (List.forall_mem_cons.mpr ⟨tw_2213, (List.forall_mem_cons.mpr ⟨tw_2215, (List.forall_mem_cons.mpr ⟨tw_2217, (List.forall_mem_cons.mpr ⟨tw_2219, (List.forall_mem_cons.mpr ⟨tw_2221, (List.forall_mem_cons.mpr ⟨tw_2223, (List.forall_mem_cons.mpr ⟨tw_2225, (List.forall_mem_cons.mpr ⟨tw_2227, (List.forall_mem_cons.mpr ⟨tw_2229, (List.forall_mem_cons.mpr ⟨tw_2231, (List.forall_mem_cons.mpr ⟨tw_2233, (List.forall_mem_cons.mpr ⟨tw_2235, (List.forall_mem_cons.mpr ⟨tw_2237, (List.forall_mem_cons.mpr ⟨tw_2239, (List.forall_mem_cons.mpr ⟨tw_2241, (List.forall_mem_cons.mpr ⟨tw_2243, (List.forall_mem_cons.mpr ⟨tw_2245, (List.forall_mem_cons.mpr ⟨tw_2247, (List.forall_mem_cons.mpr ⟨tw_2249, (List.forall_mem_cons.mpr ⟨tw_2251, (List.forall_mem_cons.mpr ⟨tw_2253, (List.forall_mem_cons.mpr ⟨tw_2255, (List.forall_mem_cons.mpr ⟨tw_2257, (List.forall_mem_cons.mpr ⟨tw_2259, (List.forall_mem_cons.mpr ⟨tw_2261, (List.forall_mem_cons.mpr ⟨tw_2263, (List.forall_mem_cons.mpr ⟨tw_2265, (List.forall_mem_cons.mpr ⟨tw_2267, (List.forall_mem_cons.mpr ⟨tw_2269, (List.forall_mem_cons.mpr ⟨tw_2271, (List.forall_mem_cons.mpr ⟨tw_2273, (List.forall_mem_cons.mpr ⟨tw_2275, (List.forall_mem_cons.mpr ⟨tw_2277, (List.forall_mem_cons.mpr ⟨tw_2279, (List.forall_mem_cons.mpr ⟨tw_2281, (List.forall_mem_cons.mpr ⟨tw_2283, (List.forall_mem_cons.mpr ⟨tw_2285, (List.forall_mem_cons.mpr ⟨tw_2287, (List.forall_mem_cons.mpr ⟨tw_2289, (List.forall_mem_cons.mpr ⟨tw_2291, (List.forall_mem_cons.mpr ⟨tw_2293, (List.forall_mem_cons.mpr ⟨tw_2295, (List.forall_mem_cons.mpr ⟨tw_2297, (List.forall_mem_cons.mpr ⟨tw_2299, (List.forall_mem_cons.mpr ⟨tw_2301, (List.forall_mem_cons.mpr ⟨tw_2303, (List.forall_mem_cons.mpr ⟨tw_2305, (List.forall_mem_cons.mpr ⟨tw_2307, (List.forall_mem_cons.mpr ⟨tw_2309, (List.forall_mem_cons.mpr ⟨tw_2311, (List.forall_mem_cons.mpr ⟨tw_2313, (List.forall_mem_cons.mpr ⟨tw_2315, (List.forall_mem_cons.mpr ⟨tw_2317, (List.forall_mem_cons.mpr ⟨tw_2319, (List.forall_mem_cons.mpr ⟨tw_2321, (List.forall_mem_cons.mpr ⟨tw_2323, (List.forall_mem_cons.mpr ⟨tw_2325, (List.forall_mem_cons.mpr ⟨tw_2327, (List.forall_mem_cons.mpr ⟨tw_2329, (List.forall_mem_cons.mpr ⟨tw_2331, (List.forall_mem_cons.mpr ⟨tw_2333, (List.forall_mem_cons.mpr ⟨tw_2335, (List.forall_mem_cons.mpr ⟨tw_2337, (List.forall_mem_cons.mpr ⟨tw_2339, (List.forall_mem_cons.mpr ⟨tw_2341, (List.forall_mem_cons.mpr ⟨tw_2343, (List.forall_mem_cons.mpr ⟨tw_2345, (List.forall_mem_cons.mpr ⟨tw_2347, (List.forall_mem_cons.mpr ⟨tw_2349, (List.forall_mem_cons.mpr ⟨tw_2351, (List.forall_mem_cons.mpr ⟨tw_2353, (List.forall_mem_cons.mpr ⟨tw_2355, (List.forall_mem_cons.mpr ⟨tw_2357, (List.forall_mem_cons.mpr ⟨tw_2359, (List.forall_mem_cons.mpr ⟨tw_2361, (List.forall_mem_cons.mpr ⟨tw_2363, (List.forall_mem_cons.mpr ⟨tw_2365, (List.forall_mem_cons.mpr ⟨tw_2367, (List.forall_mem_cons.mpr ⟨tw_2369, (List.forall_mem_cons.mpr ⟨tw_2371, (List.forall_mem_cons.mpr ⟨tw_2373, (List.forall_mem_cons.mpr ⟨tw_2375, (List.forall_mem_cons.mpr ⟨tw_2377, (List.forall_mem_cons.mpr ⟨tw_2379, (List.forall_mem_cons.mpr ⟨tw_2381, (List.forall_mem_cons.mpr ⟨tw_2383, (List.forall_mem_cons.mpr ⟨tw_2385, (List.forall_mem_cons.mpr ⟨tw_2387, (List.forall_mem_cons.mpr ⟨tw_2389, (List.forall_mem_cons.mpr ⟨tw_2391, (List.forall_mem_cons.mpr ⟨tw_2393, (List.forall_mem_cons.mpr ⟨tw_2395, (List.forall_mem_cons.mpr ⟨tw_2397, (List.forall_mem_cons.mpr ⟨tw_2399, (List.forall_mem_cons.mpr ⟨tw_2401, (List.forall_mem_cons.mpr ⟨tw_2403, (List.forall_mem_cons.mpr ⟨tw_2405, (List.forall_mem_cons.mpr ⟨tw_2407, (List.forall_mem_cons.mpr ⟨tw_2409, (List.forall_mem_cons.mpr ⟨tw_2411, (List.forall_mem_cons.mpr ⟨tw_2413, (List.forall_mem_cons.mpr ⟨tw_2415, (List.forall_mem_cons.mpr ⟨tw_2417, (List.forall_mem_cons.mpr ⟨tw_2419, (List.forall_mem_cons.mpr ⟨tw_2421, (List.forall_mem_cons.mpr ⟨tw_2423, (List.forall_mem_cons.mpr ⟨tw_2425, (List.forall_mem_cons.mpr ⟨tw_2427, (List.forall_mem_cons.mpr ⟨tw_2429, (List.forall_mem_cons.mpr ⟨tw_2431, (List.forall_mem_cons.mpr ⟨tw_2433, (List.forall_mem_cons.mpr ⟨tw_2435, (List.forall_mem_cons.mpr ⟨tw_2437, (List.forall_mem_cons.mpr ⟨tw_2439, (List.forall_mem_cons.mpr ⟨tw_2441, (List.forall_mem_cons.mpr ⟨tw_2443, (List.forall_mem_cons.mpr ⟨tw_2445, (List.forall_mem_cons.mpr ⟨tw_2447, (List.forall_mem_cons.mpr ⟨tw_2449, (List.forall_mem_cons.mpr ⟨tw_2451, (List.forall_mem_cons.mpr ⟨tw_2453, (List.forall_mem_cons.mpr ⟨tw_2455, (List.forall_mem_cons.mpr ⟨tw_2457, (List.forall_mem_cons.mpr ⟨tw_2459, (List.forall_mem_cons.mpr ⟨tw_2461, (List.forall_mem_cons.mpr ⟨tw_2463, (List.forall_mem_cons.mpr ⟨tw_2465, (List.forall_mem_cons.mpr ⟨tw_2467, (List.forall_mem_cons.mpr ⟨tw_2469, (List.forall_mem_cons.mpr ⟨tw_2471, (List.forall_mem_cons.mpr ⟨tw_2473, (List.forall_mem_cons.mpr ⟨tw_2475, (List.forall_mem_cons.mpr ⟨tw_2477, (List.forall_mem_cons.mpr ⟨tw_2479, (List.forall_mem_cons.mpr ⟨tw_2481, (List.forall_mem_cons.mpr ⟨tw_2483, (List.forall_mem_cons.mpr ⟨tw_2485, (List.forall_mem_cons.mpr ⟨tw_2487, (List.forall_mem_cons.mpr ⟨tw_2489, (List.forall_mem_cons.mpr ⟨tw_2491, (List.forall_mem_cons.mpr ⟨tw_2493, (List.forall_mem_cons.mpr ⟨tw_2495, (List.forall_mem_cons.mpr ⟨tw_2497, (List.forall_mem_cons.mpr ⟨tw_2499, (List.forall_mem_cons.mpr ⟨tw_2501, (List.forall_mem_cons.mpr ⟨tw_2503, (List.forall_mem_cons.mpr ⟨tw_2505, (List.forall_mem_cons.mpr ⟨tw_2507, (List.forall_mem_cons.mpr ⟨tw_2509, (List.forall_mem_cons.mpr ⟨tw_2511, (List.forall_mem_cons.mpr ⟨tw_2513, (fun _ h => absurd h List.not_mem_nil)⟩)⟩)⟩)⟩)⟩)⟩)⟩)⟩)⟩)⟩)⟩)⟩)⟩)⟩)⟩)⟩)⟩)⟩)⟩)⟩)⟩)⟩)⟩)⟩)⟩)⟩)⟩)⟩)⟩)⟩)⟩)⟩)⟩)⟩)⟩)⟩)⟩)⟩)⟩)⟩)⟩)⟩)⟩)⟩)⟩)⟩)⟩)⟩)⟩)⟩)⟩)⟩)⟩)⟩)⟩)⟩)⟩)⟩)⟩)⟩)⟩)⟩)⟩)⟩)⟩)⟩)⟩)⟩)⟩)⟩)⟩)⟩)⟩)⟩)⟩)⟩)⟩)⟩)⟩)⟩)⟩)⟩)⟩)⟩)⟩)⟩)⟩)⟩)⟩)⟩)⟩)⟩)⟩)⟩)⟩)⟩)⟩)⟩)⟩)⟩)⟩)⟩)⟩)⟩)⟩)⟩)⟩)⟩)⟩)⟩)⟩)⟩)⟩)⟩)⟩)⟩)⟩)⟩)⟩)⟩)⟩)⟩)⟩)⟩)⟩)⟩)⟩)⟩)⟩)⟩)⟩)⟩)⟩)⟩)⟩)⟩)⟩)⟩)⟩)⟩)⟩)⟩)⟩)⟩)⟩)⟩)⟩)⟩)⟩)⟩)⟩)⟩)⟩)⟩)⟩)⟩)⟩)⟩)⟩)⟩)⟩)⟩)⟩)⟩)⟩)⟩)⟩)⟩)⟩)⟩) : ∀ w ∈ [Cond.laysFinal "ProofLibraryModel" "ProofLibraryModel" "tape" "[I", Cond.lays "ProofLibraryModel" "ProofLibraryModel" "tapeSize" "I", Cond.lays "ProofLibraryModel" "ProofLibraryModel" "isFed" "Z", Cond.laysFinal "ProofLibraryModel" "ProofLibraryModel" "chars" "[I", Cond.lays "ProofLibraryModel" "ProofLibraryModel" "charCount" "I", Cond.laysFinal "ProofLibraryModel" "ProofLibraryModel" "symbolAt" "[I", Cond.laysFinal "ProofLibraryModel" "ProofLibraryModel" "symbolSize" "[I", Cond.lays "ProofLibraryModel" "ProofLibraryModel" "symbols" "I", Cond.laysFinal "ProofLibraryModel" "ProofLibraryModel" "labelAt" "[I", Cond.laysFinal "ProofLibraryModel" "ProofLibraryModel" "labelSize" "[I", Cond.laysFinal "ProofLibraryModel" "ProofLibraryModel" "symbolTable" "[I", Cond.laysFinal "ProofLibraryModel" "ProofLibraryModel" "labelTable" "[I", Cond.laysFinal "ProofLibraryModel" "ProofLibraryModel" "isVariable" "[Z", Cond.laysFinal "ProofLibraryModel" "ProofLibraryModel" "isActive" "[Z", Cond.laysFinal "ProofLibraryModel" "ProofLibraryModel" "typeOf" "[I", Cond.laysFinal "ProofLibraryModel" "ProofLibraryModel" "floatOf" "[I", Cond.laysFinal "ProofLibraryModel" "ProofLibraryModel" "begins" "[Z", Cond.lays "ProofLibraryModel" "ProofLibraryModel" "beginnings" "I", Cond.lays "ProofLibraryModel" "ProofLibraryModel" "statements" "I", Cond.laysFinal "ProofLibraryModel" "ProofLibraryModel" "kindOf" "[I", Cond.laysFinal "ProofLibraryModel" "ProofLibraryModel" "textAt" "[I", Cond.laysFinal "ProofLibraryModel" "ProofLibraryModel" "textSize" "[I", Cond.laysFinal "ProofLibraryModel" "ProofLibraryModel" "texts" "[I", Cond.laysFinal "ProofLibraryModel" "ProofLibraryModel" "floats" "[I", Cond.lays "ProofLibraryModel" "ProofLibraryModel" "textCount" "I", Cond.laysFinal "ProofLibraryModel" "ProofLibraryModel" "hypAt" "[I", Cond.laysFinal "ProofLibraryModel" "ProofLibraryModel" "hypSize" "[I", Cond.laysFinal "ProofLibraryModel" "ProofLibraryModel" "hyps" "[I", Cond.lays "ProofLibraryModel" "ProofLibraryModel" "hypCount" "I", Cond.laysFinal "ProofLibraryModel" "ProofLibraryModel" "pairAt" "[I", Cond.laysFinal "ProofLibraryModel" "ProofLibraryModel" "pairSize" "[I", Cond.laysFinal "ProofLibraryModel" "ProofLibraryModel" "pairA" "[I", Cond.laysFinal "ProofLibraryModel" "ProofLibraryModel" "pairB" "[I", Cond.lays "ProofLibraryModel" "ProofLibraryModel" "pairCount" "I", Cond.laysFinal "ProofLibraryModel" "ProofLibraryModel" "stepAt" "[I", Cond.laysFinal "ProofLibraryModel" "ProofLibraryModel" "stepSize" "[I", Cond.laysFinal "ProofLibraryModel" "ProofLibraryModel" "steps" "[I", Cond.laysFinal "ProofLibraryModel" "ProofLibraryModel" "saves" "[Z", Cond.laysFinal "ProofLibraryModel" "ProofLibraryModel" "stepPlace" "[I", Cond.lays "ProofLibraryModel" "ProofLibraryModel" "stepCount" "I", Cond.laysFinal "ProofLibraryModel" "ProofLibraryModel" "rest" "[J", Cond.lays "ProofLibraryModel" "ProofLibraryModel" "wff" "I", Cond.lays "ProofLibraryModel" "ProofLibraryModel" "turnstile" "I", Cond.laysFinal "ProofLibraryModel" "ProofLibraryModel" "activeVariables" "[I", Cond.lays "ProofLibraryModel" "ProofLibraryModel" "activeVariableCount" "I", Cond.laysFinal "ProofLibraryModel" "ProofLibraryModel" "activeHyps" "[I", Cond.lays "ProofLibraryModel" "ProofLibraryModel" "activeHypCount" "I", Cond.laysFinal "ProofLibraryModel" "ProofLibraryModel" "apartA" "[I", Cond.laysFinal "ProofLibraryModel" "ProofLibraryModel" "apartB" "[I", Cond.lays "ProofLibraryModel" "ProofLibraryModel" "apartCount" "I", Cond.laysFinal "ProofLibraryModel" "ProofLibraryModel" "apartBits" "[J", Cond.lays "ProofLibraryModel" "ProofLibraryModel" "scopes" "I", Cond.laysFinal "ProofLibraryModel" "ProofLibraryModel" "scopeVariables" "[I", Cond.laysFinal "ProofLibraryModel" "ProofLibraryModel" "scopeHyps" "[I", Cond.laysFinal "ProofLibraryModel" "ProofLibraryModel" "scopeApart" "[I", Cond.lays "ProofLibraryModel" "ProofLibraryModel" "at" "I", Cond.lays "ProofLibraryModel" "ProofLibraryModel" "tokenAt" "I", Cond.lays "ProofLibraryModel" "ProofLibraryModel" "tokenSize" "I", Cond.lays "ProofLibraryModel" "ProofLibraryModel" "token" "I", Cond.lays "ProofLibraryModel" "ProofLibraryModel" "fault" "I", Cond.lays "ProofLibraryModel" "ProofLibraryModel" "placeIs" "I", Cond.laysFinal "ProofLibraryModel" "ProofLibraryModel" "distinct" "[I", Cond.lays "ProofLibraryModel" "ProofLibraryModel" "now" "I", Cond.laysFinal "ProofLibraryModel" "ProofLibraryModel" "isMarked" "[Z", Cond.lays "ProofLibraryModel" "ProofLibraryModel" "isOpen" "Z", Cond.lays "ProofLibraryModel" "ProofLibraryModel" "lastPlace" "I", Cond.laysFinal "ProofLibraryModel" "ProofLibraryModel" "packedLabels" "[I", Cond.lays "ProofLibraryModel" "ProofLibraryModel" "packedCount" "I", Cond.lays "ProofLibraryModel" "ProofLibraryModel" "sum" "I", Cond.lays "ProofLibraryModel" "ProofLibraryModel" "inNumber" "Z", Cond.lays "ProofLibraryModel" "ProofLibraryModel" "maySave" "Z", Cond.lays "ProofLibraryModel" "ProofLibraryModel" "savedCount" "I", Cond.laysFinal "ProofLibraryModel" "ProofLibraryModel" "pileAt" "[I", Cond.laysFinal "ProofLibraryModel" "ProofLibraryModel" "pileSize" "[I", Cond.laysFinal "ProofLibraryModel" "ProofLibraryModel" "pileRow" "[I", Cond.lays "ProofLibraryModel" "ProofLibraryModel" "piled" "I", Cond.laysFinal "ProofLibraryModel" "ProofLibraryModel" "pileSymbols" "[I", Cond.lays "ProofLibraryModel" "ProofLibraryModel" "pileTop" "I", Cond.laysFinal "ProofLibraryModel" "ProofLibraryModel" "savedAt" "[I", Cond.laysFinal "ProofLibraryModel" "ProofLibraryModel" "savedSize" "[I", Cond.laysFinal "ProofLibraryModel" "ProofLibraryModel" "savedRow" "[I", Cond.lays "ProofLibraryModel" "ProofLibraryModel" "savedRows" "I", Cond.laysFinal "ProofLibraryModel" "ProofLibraryModel" "savedSymbols" "[I", Cond.lays "ProofLibraryModel" "ProofLibraryModel" "savedTop" "I", Cond.laysFinal "ProofLibraryModel" "ProofLibraryModel" "becomesAt" "[I", Cond.laysFinal "ProofLibraryModel" "ProofLibraryModel" "becomesSize" "[I", Cond.laysFinal "ProofLibraryModel" "ProofLibraryModel" "madeRow" "[I", Cond.lays "ProofLibraryModel" "ProofLibraryModel" "made" "I", Cond.lays "ProofLibraryModel" "ProofLibraryModel" "stepFault" "I", Cond.laysFinal "ProofLibraryModel" "ProofLibraryModel" "wasVariable" "[Z", Cond.laysFinal "ProofLibraryModel" "ProofLibraryModel" "wasActive" "[Z", Cond.laysFinal "ProofLibraryModel" "ProofLibraryModel" "wasBegin" "[Z", Cond.laysFinal "ProofLibraryModel" "ProofLibraryModel" "wasType" "[I", Cond.laysFinal "ProofLibraryModel" "ProofLibraryModel" "wasFloat" "[I", Cond.laysFinal "ProofLibraryModel" "ProofLibraryModel" "rowOf" "[I", Cond.laysFinal "ProofLibraryModel" "ProofLibraryModel" "rowFromAt" "[I", Cond.laysFinal "ProofLibraryModel" "ProofLibraryModel" "rowFroms" "[I", Cond.lays "ProofLibraryModel" "ProofLibraryModel" "rowCount" "I", Cond.lays "ProofLibraryModel" "ProofLibraryModel" "rowFromCount" "I", Cond.lays "ProofLibraryModel" "ProofLibraryModel" "rowsOf" "I", Cond.laysFinal "ProofLibraryModel" "ProofLibraryModel" "sizes" "[J", Cond.laysFinal "ProofLibraryModel" "ProofLibraryModel" "draft" "[I", Cond.lays "ProofLibraryModel" "ProofLibraryModel" "draftSize" "I", Cond.laysFinal "ProofLibraryModel" "ProofLibraryModel" "printed" "[I", Cond.lays "ProofLibraryModel" "ProofLibraryModel" "printedSize" "I", Cond.laysFinal "ProofLibraryModel" "ProofLibraryModel" "sameAs" "[I", Cond.laysFinal "ProofLibraryModel" "ProofLibraryModel" "uses" "[I", Cond.laysFinal "ProofLibraryModel" "ProofLibraryModel" "numberOf" "[I", Cond.laysFinal "ProofLibraryModel" "ProofLibraryModel" "order" "[I", Cond.lays "ProofLibraryModel" "ProofLibraryModel" "ordered" "I", Cond.laysFinal "ProofLibraryModel" "ProofLibraryModel" "walk" "[I", Cond.laysFinal "ProofLibraryModel" "ProofLibraryModel" "walkKid" "[I", Cond.lays "ProofLibraryModel" "ProofLibraryModel" "walked" "I", Cond.laysFinal "ProofLibraryModel" "ProofLibraryModel" "newLabels" "[I", Cond.laysFinal "ProofLibraryModel" "ProofLibraryModel" "labelNumber" "[I", Cond.lays "ProofLibraryModel" "ProofLibraryModel" "newLabelCount" "I", Cond.laysFinal "ProofLibraryModel" "ProofLibraryModel" "sameTable" "[I", Cond.laysFinal "ProofLibraryModel" "ProofLibraryModel" "told" "[I", Cond.lays "ProofLibraryModel" "ProofLibraryModel" "tolds" "I", Cond.laysFinal "ProofLibraryModel" "ProofLibraryModel" "sortOf" "[I", Cond.laysFinal "ProofLibraryModel" "ProofLibraryModel" "stretch" "[I", Cond.lays "ProofLibraryModel" "ProofLibraryModel" "rowSize" "I", Cond.laysFinal "ProofLibraryModel" "ProofLibraryModel" "leafSort" "[I", Cond.laysFinal "ProofLibraryModel" "ProofLibraryModel" "leafIs" "[I", Cond.laysFinal "ProofLibraryModel" "ProofLibraryModel" "ways" "[I", Cond.lays "ProofLibraryModel" "ProofLibraryModel" "sorts" "I", Cond.laysFinal "ProofLibraryModel" "ProofLibraryModel" "madeBy" "[I", Cond.laysFinal "ProofLibraryModel" "ProofLibraryModel" "startsOne" "[J", Cond.laysFinal "ProofLibraryModel" "ProofLibraryModel" "startsTwo" "[J", Cond.laysFinal "ProofLibraryModel" "ProofLibraryModel" "ruleStep" "[I", Cond.laysFinal "ProofLibraryModel" "ProofLibraryModel" "ruleUp" "[I", Cond.laysFinal "ProofLibraryModel" "ProofLibraryModel" "ruleKid" "[I", Cond.laysFinal "ProofLibraryModel" "ProofLibraryModel" "ruleNext" "[I", Cond.laysFinal "ProofLibraryModel" "ProofLibraryModel" "ruleFirst" "[I", Cond.laysFinal "ProofLibraryModel" "ProofLibraryModel" "ruleOther" "[I", Cond.laysFinal "ProofLibraryModel" "ProofLibraryModel" "ruleLeast" "[I", Cond.laysFinal "ProofLibraryModel" "ProofLibraryModel" "frontOne" "[J", Cond.laysFinal "ProofLibraryModel" "ProofLibraryModel" "frontTwo" "[J", Cond.lays "ProofLibraryModel" "ProofLibraryModel" "ruleNodes" "I", Cond.laysFinal "ProofLibraryModel" "ProofLibraryModel" "units" "[I", Cond.lays "ProofLibraryModel" "ProofLibraryModel" "unitCount" "I", Cond.lays "ProofLibraryModel" "ProofLibraryModel" "isTreed" "Z", Cond.lays "ProofLibraryModel" "ProofLibraryModel" "rowLimit" "I", Cond.laysFinal "ProofLibraryModel" "ProofLibraryModel" "front" "[I", Cond.laysFinal "ProofLibraryModel" "ProofLibraryModel" "nodeIs" "[I", Cond.laysFinal "ProofLibraryModel" "ProofLibraryModel" "nodeKids" "[I", Cond.laysFinal "ProofLibraryModel" "ProofLibraryModel" "nodeFrom" "[I", Cond.laysFinal "ProofLibraryModel" "ProofLibraryModel" "nodeTo" "[I", Cond.laysFinal "ProofLibraryModel" "ProofLibraryModel" "nodeSort" "[I", Cond.laysFinal "ProofLibraryModel" "ProofLibraryModel" "kids" "[I", Cond.lays "ProofLibraryModel" "ProofLibraryModel" "nodes" "I", Cond.lays "ProofLibraryModel" "ProofLibraryModel" "kidCount" "I", Cond.laysFinal "ProofLibraryModel" "ProofLibraryModel" "base" "[I", Cond.laysFinal "ProofLibraryModel" "ProofLibraryModel" "grown" "[I", Cond.laysFinal "ProofLibraryModel" "ProofLibraryModel" "treeCount" "[I", Cond.laysFinal "ProofLibraryModel" "ProofLibraryModel" "rulesIn" "[J", Cond.laysFinal "ProofLibraryModel" "ProofLibraryModel" "definitions" "[I", Cond.laysFinal "ProofLibraryModel" "ProofLibraryModel" "isEquality" "[Z", Cond.laysFinal "ProofLibraryModel" "ProofLibraryModel" "definer" "[I", Cond.laysFinal "ProofLibraryModel" "ProofLibraryModel" "isNeeded" "[Z", Cond.laysFinal "ProofLibraryModel" "ProofLibraryModel" "bareAt" "[I", Cond.laysFinal "ProofLibraryModel" "ProofLibraryModel" "bareMany" "[I", Cond.laysFinal "ProofLibraryModel" "ProofLibraryModel" "bare" "[I", Cond.lays "ProofLibraryModel" "ProofLibraryModel" "bareSize" "I", Cond.laysFinal "ProofLibraryModel" "ProofLibraryModel" "tasks" "[I", Cond.lays "ProofLibraryModel" "ProofLibraryModel" "taskMany" "I", Cond.laysFinal "ProofLibraryModel" "ProofLibraryModel" "given" "[I", Cond.laysFinal "ProofLibraryModel" "ProofLibraryModel" "boundFrom" "[I", Cond.laysFinal "ProofLibraryModel" "ProofLibraryModel" "boundTo" "[I", Cond.laysFinal "ProofLibraryModel" "ProofLibraryModel" "otherWalk" "[I"], w ∈ TB)
theorem xdfX13 : ∀ j, j < 170 → defaultValue (tyX13 j) = vp_V (.null :: .int 0 :: .int 0 :: .null :: .int 0 :: .null :: .null :: .int 0 :: .null :: .null :: .null :: .null :: .null :: .null :: .null :: .null :: .null :: .int 0 :: .int 0 :: .null :: .null :: .null :: .null :: .null :: .int 0 :: .null :: .null :: .null :: .int 0 :: .null :: .null :: .null :: .null :: .int 0 :: .null :: .null :: .null :: .null :: .null :: .int 0 :: .null :: .int 0 :: .int 0 :: .null :: .int 0 :: .null :: .int 0 :: .null :: .null :: .int 0 :: .null :: .int 0 :: .null :: .null :: .null :: .int 0 :: .int 0 :: .int 0 :: .int 0 :: .int 0 :: .int 0 :: .null :: .int 0 :: .null :: .int 0 :: .int 0 :: .null :: .int 0 :: .int 0 :: .int 0 :: .int 0 :: .int 0 :: .null :: .null :: .null :: .int 0 :: .null :: .int 0 :: .null :: .null :: .null :: .int 0 :: .null :: .int 0 :: .null :: .null :: .null :: .int 0 :: .int 0 :: .null :: .null :: .null :: .null :: .null :: .null :: .null :: .null :: .int 0 :: .int 0 :: .int 0 :: .null :: .null :: .int 0 :: .null :: .int 0 :: .null :: .null :: .null :: .null :: .int 0 :: .null :: .null :: .int 0 :: .null :: .null :: .int 0 :: .null :: .null :: .int 0 :: .null :: .null :: .int 0 :: .null :: .null :: .null :: .int 0 :: .null :: .null :: .null :: .null :: .null :: .null :: .null :: .null :: .null :: .null :: .null :: .null :: .int 0 :: .null :: .int 0 :: .int 0 :: .int 0 :: .null :: .null :: .null :: .null :: .null :: .null :: .null :: .int 0 :: .int 0 :: .null :: .null :: .null :: .null :: .null :: .null :: .null :: .null :: .null :: .null :: .null :: .int 0 :: .null :: .int 0 :: .null :: .null :: .null :: .null :: []) j := fun j hj => by
  rcases (show j = 0 ∨ j = 1 ∨ j = 2 ∨ j = 3 ∨ j = 4 ∨ j = 5 ∨ j = 6 ∨ j = 7 ∨ j = 8 ∨ j = 9 ∨ j = 10 ∨ j = 11 ∨ j = 12 ∨ j = 13 ∨ j = 14 ∨ j = 15 ∨ j = 16 ∨ j = 17 ∨ j = 18 ∨ j = 19 ∨ j = 20 ∨ j = 21 ∨ j = 22 ∨ j = 23 ∨ j = 24 ∨ j = 25 ∨ j = 26 ∨ j = 27 ∨ j = 28 ∨ j = 29 ∨ j = 30 ∨ j = 31 ∨ j = 32 ∨ j = 33 ∨ j = 34 ∨ j = 35 ∨ j = 36 ∨ j = 37 ∨ j = 38 ∨ j = 39 ∨ j = 40 ∨ j = 41 ∨ j = 42 ∨ j = 43 ∨ j = 44 ∨ j = 45 ∨ j = 46 ∨ j = 47 ∨ j = 48 ∨ j = 49 ∨ j = 50 ∨ j = 51 ∨ j = 52 ∨ j = 53 ∨ j = 54 ∨ j = 55 ∨ j = 56 ∨ j = 57 ∨ j = 58 ∨ j = 59 ∨ j = 60 ∨ j = 61 ∨ j = 62 ∨ j = 63 ∨ j = 64 ∨ j = 65 ∨ j = 66 ∨ j = 67 ∨ j = 68 ∨ j = 69 ∨ j = 70 ∨ j = 71 ∨ j = 72 ∨ j = 73 ∨ j = 74 ∨ j = 75 ∨ j = 76 ∨ j = 77 ∨ j = 78 ∨ j = 79 ∨ j = 80 ∨ j = 81 ∨ j = 82 ∨ j = 83 ∨ j = 84 ∨ j = 85 ∨ j = 86 ∨ j = 87 ∨ j = 88 ∨ j = 89 ∨ j = 90 ∨ j = 91 ∨ j = 92 ∨ j = 93 ∨ j = 94 ∨ j = 95 ∨ j = 96 ∨ j = 97 ∨ j = 98 ∨ j = 99 ∨ j = 100 ∨ j = 101 ∨ j = 102 ∨ j = 103 ∨ j = 104 ∨ j = 105 ∨ j = 106 ∨ j = 107 ∨ j = 108 ∨ j = 109 ∨ j = 110 ∨ j = 111 ∨ j = 112 ∨ j = 113 ∨ j = 114 ∨ j = 115 ∨ j = 116 ∨ j = 117 ∨ j = 118 ∨ j = 119 ∨ j = 120 ∨ j = 121 ∨ j = 122 ∨ j = 123 ∨ j = 124 ∨ j = 125 ∨ j = 126 ∨ j = 127 ∨ j = 128 ∨ j = 129 ∨ j = 130 ∨ j = 131 ∨ j = 132 ∨ j = 133 ∨ j = 134 ∨ j = 135 ∨ j = 136 ∨ j = 137 ∨ j = 138 ∨ j = 139 ∨ j = 140 ∨ j = 141 ∨ j = 142 ∨ j = 143 ∨ j = 144 ∨ j = 145 ∨ j = 146 ∨ j = 147 ∨ j = 148 ∨ j = 149 ∨ j = 150 ∨ j = 151 ∨ j = 152 ∨ j = 153 ∨ j = 154 ∨ j = 155 ∨ j = 156 ∨ j = 157 ∨ j = 158 ∨ j = 159 ∨ j = 160 ∨ j = 161 ∨ j = 162 ∨ j = 163 ∨ j = 164 ∨ j = 165 ∨ j = 166 ∨ j = 167 ∨ j = 168 ∨ j = 169 by omega) with rfl | rfl | rfl | rfl | rfl | rfl | rfl | rfl | rfl | rfl | rfl | rfl | rfl | rfl | rfl | rfl | rfl | rfl | rfl | rfl | rfl | rfl | rfl | rfl | rfl | rfl | rfl | rfl | rfl | rfl | rfl | rfl | rfl | rfl | rfl | rfl | rfl | rfl | rfl | rfl | rfl | rfl | rfl | rfl | rfl | rfl | rfl | rfl | rfl | rfl | rfl | rfl | rfl | rfl | rfl | rfl | rfl | rfl | rfl | rfl | rfl | rfl | rfl | rfl | rfl | rfl | rfl | rfl | rfl | rfl | rfl | rfl | rfl | rfl | rfl | rfl | rfl | rfl | rfl | rfl | rfl | rfl | rfl | rfl | rfl | rfl | rfl | rfl | rfl | rfl | rfl | rfl | rfl | rfl | rfl | rfl | rfl | rfl | rfl | rfl | rfl | rfl | rfl | rfl | rfl | rfl | rfl | rfl | rfl | rfl | rfl | rfl | rfl | rfl | rfl | rfl | rfl | rfl | rfl | rfl | rfl | rfl | rfl | rfl | rfl | rfl | rfl | rfl | rfl | rfl | rfl | rfl | rfl | rfl | rfl | rfl | rfl | rfl | rfl | rfl | rfl | rfl | rfl | rfl | rfl | rfl | rfl | rfl | rfl | rfl | rfl | rfl | rfl | rfl | rfl | rfl | rfl | rfl | rfl | rfl | rfl | rfl | rfl | rfl | rfl | rfl | rfl | rfl | rfl | rfl <;> rfl
set_option maxRecDepth 20000 in
theorem inX2 : ∀ w ∈ u_ws RX2 TX2 21, w ∈ TB := ((List.forall_mem_cons.mpr ⟨tw_816, (List.forall_mem_cons.mpr ⟨tw_818, (List.forall_mem_cons.mpr ⟨tw_820, (List.forall_mem_cons.mpr ⟨tw_822, (List.forall_mem_cons.mpr ⟨tw_824, (List.forall_mem_cons.mpr ⟨tw_826, (List.forall_mem_cons.mpr ⟨tw_828, (List.forall_mem_cons.mpr ⟨tw_830, (List.forall_mem_cons.mpr ⟨tw_832, (List.forall_mem_cons.mpr ⟨tw_834, (List.forall_mem_cons.mpr ⟨tw_836, (List.forall_mem_cons.mpr ⟨tw_838, (List.forall_mem_cons.mpr ⟨tw_840, (List.forall_mem_cons.mpr ⟨tw_842, (List.forall_mem_cons.mpr ⟨tw_844, (List.forall_mem_cons.mpr ⟨tw_846, (List.forall_mem_cons.mpr ⟨tw_848, (List.forall_mem_cons.mpr ⟨tw_850, (List.forall_mem_cons.mpr ⟨tw_852, (List.forall_mem_cons.mpr ⟨tw_854, (List.forall_mem_cons.mpr ⟨tw_856, (fun _ h => absurd h List.not_mem_nil)⟩)⟩)⟩)⟩)⟩)⟩)⟩)⟩)⟩)⟩)⟩)⟩)⟩)⟩)⟩)⟩)⟩)⟩)⟩)⟩)⟩) : ∀ w ∈ [Cond.laysFinal "ProofLibrary$Definitions" "ProofLibrary$Definitions" "library" "LProofLibrary$Library;", Cond.laysFinal "ProofLibrary$Definitions" "ProofLibrary$Definitions" "assertions" "LProofLibrary$Assertions;", Cond.laysFinal "ProofLibrary$Definitions" "ProofLibrary$Definitions" "rules" "LProofLibrary$Rules;", Cond.laysFinal "ProofLibrary$Definitions" "ProofLibrary$Definitions" "chart" "LProofLibrary$Chart;", Cond.laysFinal "ProofLibrary$Definitions" "ProofLibrary$Definitions" "tree" "LProofLibrary$Tree;", Cond.laysFinal "ProofLibrary$Definitions" "ProofLibrary$Definitions" "pile" "LProofLibrary$Pile;", Cond.lays "ProofLibrary$Definitions" "ProofLibrary$Definitions" "studied" "I", Cond.laysFinal "ProofLibrary$Definitions" "ProofLibrary$Definitions" "firstUse" "[I", Cond.laysFinal "ProofLibrary$Definitions" "ProofLibrary$Definitions" "needed" "[I", Cond.laysFinal "ProofLibrary$Definitions" "ProofLibrary$Definitions" "target" "[I", Cond.laysFinal "ProofLibrary$Definitions" "ProofLibrary$Definitions" "definedBy" "[I", Cond.laysFinal "ProofLibrary$Definitions" "ProofLibrary$Definitions" "equality" "[Z", Cond.lays "ProofLibrary$Definitions" "ProofLibrary$Definitions" "equalities" "I", Cond.lays "ProofLibrary$Definitions" "ProofLibrary$Definitions" "prepared" "I", Cond.lays "ProofLibrary$Definitions" "ProofLibrary$Definitions" "bodies" "[I", Cond.laysFinal "ProofLibrary$Definitions" "ProofLibrary$Definitions" "bodyAt" "[I", Cond.laysFinal "ProofLibrary$Definitions" "ProofLibrary$Definitions" "bodySize" "[I", Cond.lays "ProofLibrary$Definitions" "ProofLibrary$Definitions" "bodiesUsed" "I", Cond.laysFinal "ProofLibrary$Definitions" "ProofLibrary$Definitions" "slots" "[I", Cond.lays "ProofLibrary$Definitions" "ProofLibrary$Definitions" "firstTree" "I", Cond.lays "ProofLibrary$Definitions" "ProofLibrary$Definitions" "secondTree" "I"], w ∈ TB)
theorem xdfX2 : ∀ j, j < 21 → defaultValue (tyX2 j) = vp_V [.null, .null, .null, .null, .null, .null, .int 0, .null, .null, .null, .null, .null, .int 0, .int 0, .null, .null, .null, .int 0, .null, .int 0, .int 0] j := fun j hj => by
  rcases (show j = 0 ∨ j = 1 ∨ j = 2 ∨ j = 3 ∨ j = 4 ∨ j = 5 ∨ j = 6 ∨ j = 7 ∨ j = 8 ∨ j = 9 ∨ j = 10 ∨ j = 11 ∨ j = 12 ∨ j = 13 ∨ j = 14 ∨ j = 15 ∨ j = 16 ∨ j = 17 ∨ j = 18 ∨ j = 19 ∨ j = 20 by omega) with rfl | rfl | rfl | rfl | rfl | rfl | rfl | rfl | rfl | rfl | rfl | rfl | rfl | rfl | rfl | rfl | rfl | rfl | rfl | rfl | rfl <;> rfl
set_option maxRecDepth 20000 in
theorem inX3 : ∀ w ∈ u_ws RX3 TX3 21, w ∈ TB := ((List.forall_mem_cons.mpr ⟨tw_110, (List.forall_mem_cons.mpr ⟨tw_112, (List.forall_mem_cons.mpr ⟨tw_114, (List.forall_mem_cons.mpr ⟨tw_116, (List.forall_mem_cons.mpr ⟨tw_118, (List.forall_mem_cons.mpr ⟨tw_120, (List.forall_mem_cons.mpr ⟨tw_122, (List.forall_mem_cons.mpr ⟨tw_124, (List.forall_mem_cons.mpr ⟨tw_126, (List.forall_mem_cons.mpr ⟨tw_128, (List.forall_mem_cons.mpr ⟨tw_130, (List.forall_mem_cons.mpr ⟨tw_132, (List.forall_mem_cons.mpr ⟨tw_134, (List.forall_mem_cons.mpr ⟨tw_136, (List.forall_mem_cons.mpr ⟨tw_138, (List.forall_mem_cons.mpr ⟨tw_140, (List.forall_mem_cons.mpr ⟨tw_142, (List.forall_mem_cons.mpr ⟨tw_144, (List.forall_mem_cons.mpr ⟨tw_146, (List.forall_mem_cons.mpr ⟨tw_148, (List.forall_mem_cons.mpr ⟨tw_150, (fun _ h => absurd h List.not_mem_nil)⟩)⟩)⟩)⟩)⟩)⟩)⟩)⟩)⟩)⟩)⟩)⟩)⟩)⟩)⟩)⟩)⟩)⟩)⟩)⟩)⟩) : ∀ w ∈ [Cond.laysFinal "ProofLibrary$Library" "ProofLibrary$Library" "letters" "[C", Cond.laysFinal "ProofLibrary$Library" "ProofLibrary$Library" "nameAt" "[I", Cond.laysFinal "ProofLibrary$Library" "ProofLibrary$Library" "meaning" "[I", Cond.laysFinal "ProofLibrary$Library" "ProofLibrary$Library" "nextName" "[I", Cond.laysFinal "ProofLibrary$Library" "ProofLibrary$Library" "heads" "[I", Cond.lays "ProofLibrary$Library" "ProofLibrary$Library" "names" "I", Cond.laysFinal "ProofLibrary$Library" "ProofLibrary$Library" "symbolName" "[I", Cond.laysFinal "ProofLibrary$Library" "ProofLibrary$Library" "variable" "[Z", Cond.laysFinal "ProofLibrary$Library" "ProofLibrary$Library" "firstFloat" "[I", Cond.laysFinal "ProofLibrary$Library" "ProofLibrary$Library" "rank" "[I", Cond.laysFinal "ProofLibrary$Library" "ProofLibrary$Library" "ranked" "[I", Cond.lays "ProofLibrary$Library" "ProofLibrary$Library" "ranks" "I", Cond.lays "ProofLibrary$Library" "ProofLibrary$Library" "symbols" "I", Cond.laysFinal "ProofLibrary$Library" "ProofLibrary$Library" "labelName" "[I", Cond.laysFinal "ProofLibrary$Library" "ProofLibrary$Library" "kind" "[I", Cond.laysFinal "ProofLibrary$Library" "ProofLibrary$Library" "at" "[I", Cond.laysFinal "ProofLibrary$Library" "ProofLibrary$Library" "text" "[I", Cond.laysFinal "ProofLibrary$Library" "ProofLibrary$Library" "floats" "[I", Cond.lays "ProofLibrary$Library" "ProofLibrary$Library" "used" "I", Cond.lays "ProofLibrary$Library" "ProofLibrary$Library" "statements" "I", Cond.laysFinal "ProofLibrary$Library" "ProofLibrary$Library" "kept" "[I"], w ∈ TB)
theorem xdfX3 : ∀ j, j < 21 → defaultValue (tyX3 j) = vp_V [.null, .null, .null, .null, .null, .int 0, .null, .null, .null, .null, .null, .int 0, .int 0, .null, .null, .null, .null, .null, .int 0, .int 0, .null] j := fun j hj => by
  rcases (show j = 0 ∨ j = 1 ∨ j = 2 ∨ j = 3 ∨ j = 4 ∨ j = 5 ∨ j = 6 ∨ j = 7 ∨ j = 8 ∨ j = 9 ∨ j = 10 ∨ j = 11 ∨ j = 12 ∨ j = 13 ∨ j = 14 ∨ j = 15 ∨ j = 16 ∨ j = 17 ∨ j = 18 ∨ j = 19 ∨ j = 20 by omega) with rfl | rfl | rfl | rfl | rfl | rfl | rfl | rfl | rfl | rfl | rfl | rfl | rfl | rfl | rfl | rfl | rfl | rfl | rfl | rfl | rfl <;> rfl
set_option maxRecDepth 20000 in
theorem inX4 : ∀ w ∈ u_ws RX4 TX4 19, w ∈ TB := ((List.forall_mem_cons.mpr ⟨tw_554, (List.forall_mem_cons.mpr ⟨tw_556, (List.forall_mem_cons.mpr ⟨tw_558, (List.forall_mem_cons.mpr ⟨tw_560, (List.forall_mem_cons.mpr ⟨tw_562, (List.forall_mem_cons.mpr ⟨tw_564, (List.forall_mem_cons.mpr ⟨tw_566, (List.forall_mem_cons.mpr ⟨tw_568, (List.forall_mem_cons.mpr ⟨tw_570, (List.forall_mem_cons.mpr ⟨tw_572, (List.forall_mem_cons.mpr ⟨tw_574, (List.forall_mem_cons.mpr ⟨tw_576, (List.forall_mem_cons.mpr ⟨tw_578, (List.forall_mem_cons.mpr ⟨tw_580, (List.forall_mem_cons.mpr ⟨tw_582, (List.forall_mem_cons.mpr ⟨tw_584, (List.forall_mem_cons.mpr ⟨tw_586, (List.forall_mem_cons.mpr ⟨tw_588, (List.forall_mem_cons.mpr ⟨tw_590, (fun _ h => absurd h List.not_mem_nil)⟩)⟩)⟩)⟩)⟩)⟩)⟩)⟩)⟩)⟩)⟩)⟩)⟩)⟩)⟩)⟩)⟩)⟩)⟩) : ∀ w ∈ [Cond.laysFinal "ProofLibrary$Packer" "ProofLibrary$Packer" "library" "LProofLibrary$Library;", Cond.laysFinal "ProofLibrary$Packer" "ProofLibrary$Packer" "assertions" "LProofLibrary$Assertions;", Cond.laysFinal "ProofLibrary$Packer" "ProofLibrary$Packer" "sameAs" "[I", Cond.laysFinal "ProofLibrary$Packer" "ProofLibrary$Packer" "heads" "[I", Cond.laysFinal "ProofLibrary$Packer" "ProofLibrary$Packer" "nextRow" "[I", Cond.laysFinal "ProofLibrary$Packer" "ProofLibrary$Packer" "tellings" "[I", Cond.laysFinal "ProofLibrary$Packer" "ProofLibrary$Packer" "numbers" "[I", Cond.laysFinal "ProofLibrary$Packer" "ProofLibrary$Packer" "labelNumbers" "[I", Cond.laysFinal "ProofLibrary$Packer" "ProofLibrary$Packer" "listed" "[I", Cond.lays "ProofLibrary$Packer" "ProofLibrary$Packer" "listedCount" "I", Cond.laysFinal "ProofLibrary$Packer" "ProofLibrary$Packer" "told" "[I", Cond.lays "ProofLibrary$Packer" "ProofLibrary$Packer" "toldCount" "I", Cond.laysFinal "ProofLibrary$Packer" "ProofLibrary$Packer" "stackRow" "[I", Cond.laysFinal "ProofLibrary$Packer" "ProofLibrary$Packer" "stackNext" "[I", Cond.lays "ProofLibrary$Packer" "ProofLibrary$Packer" "depth" "I", Cond.laysFinal "ProofLibrary$Packer" "ProofLibrary$Packer" "full" "[I", Cond.lays "ProofLibrary$Packer" "ProofLibrary$Packer" "fullCount" "I", Cond.laysFinal "ProofLibrary$Packer" "ProofLibrary$Packer" "starts" "[I", Cond.lays "ProofLibrary$Packer" "ProofLibrary$Packer" "base" "I"], w ∈ TB)
theorem xdfX4 : ∀ j, j < 19 → defaultValue (tyX4 j) = vp_V [.null, .null, .null, .null, .null, .null, .null, .null, .null, .int 0, .null, .int 0, .null, .null, .int 0, .null, .int 0, .null, .int 0] j := fun j hj => by
  rcases (show j = 0 ∨ j = 1 ∨ j = 2 ∨ j = 3 ∨ j = 4 ∨ j = 5 ∨ j = 6 ∨ j = 7 ∨ j = 8 ∨ j = 9 ∨ j = 10 ∨ j = 11 ∨ j = 12 ∨ j = 13 ∨ j = 14 ∨ j = 15 ∨ j = 16 ∨ j = 17 ∨ j = 18 by omega) with rfl | rfl | rfl | rfl | rfl | rfl | rfl | rfl | rfl | rfl | rfl | rfl | rfl | rfl | rfl | rfl | rfl | rfl | rfl <;> rfl
set_option maxRecDepth 20000 in
theorem inX5 : ∀ w ∈ u_ws RX5 TX5 6, w ∈ TB := ((List.forall_mem_cons.mpr ⟨tw_871, (List.forall_mem_cons.mpr ⟨tw_873, (List.forall_mem_cons.mpr ⟨tw_875, (List.forall_mem_cons.mpr ⟨tw_877, (List.forall_mem_cons.mpr ⟨tw_879, (List.forall_mem_cons.mpr ⟨tw_881, (fun _ h => absurd h List.not_mem_nil)⟩)⟩)⟩)⟩)⟩)⟩) : ∀ w ∈ [Cond.laysFinal "ProofLibrary$Paper" "ProofLibrary$Paper" "library" "LProofLibrary$Library;", Cond.lays "ProofLibrary$Paper" "ProofLibrary$Paper" "draft" "[C", Cond.lays "ProofLibrary$Paper" "ProofLibrary$Paper" "draftLength" "I", Cond.lays "ProofLibrary$Paper" "ProofLibrary$Paper" "overflow" "Z", Cond.lays "ProofLibrary$Paper" "ProofLibrary$Paper" "shown" "[C", Cond.lays "ProofLibrary$Paper" "ProofLibrary$Paper" "shownLength" "I"], w ∈ TB)
theorem xdfX5 : ∀ j, j < 6 → defaultValue (tyX5 j) = vp_V [.null, .null, .int 0, .int 0, .null, .int 0] j := fun j hj => by
  rcases (show j = 0 ∨ j = 1 ∨ j = 2 ∨ j = 3 ∨ j = 4 ∨ j = 5 by omega) with rfl | rfl | rfl | rfl | rfl | rfl <;> rfl
set_option maxRecDepth 20000 in
theorem inX6 : ∀ w ∈ u_ws RX6 TX6 17, w ∈ TB := ((List.forall_mem_cons.mpr ⟨tw_371, (List.forall_mem_cons.mpr ⟨tw_373, (List.forall_mem_cons.mpr ⟨tw_375, (List.forall_mem_cons.mpr ⟨tw_377, (List.forall_mem_cons.mpr ⟨tw_379, (List.forall_mem_cons.mpr ⟨tw_381, (List.forall_mem_cons.mpr ⟨tw_383, (List.forall_mem_cons.mpr ⟨tw_385, (List.forall_mem_cons.mpr ⟨tw_387, (List.forall_mem_cons.mpr ⟨tw_389, (List.forall_mem_cons.mpr ⟨tw_391, (List.forall_mem_cons.mpr ⟨tw_393, (List.forall_mem_cons.mpr ⟨tw_395, (List.forall_mem_cons.mpr ⟨tw_397, (List.forall_mem_cons.mpr ⟨tw_399, (List.forall_mem_cons.mpr ⟨tw_401, (List.forall_mem_cons.mpr ⟨tw_403, (fun _ h => absurd h List.not_mem_nil)⟩)⟩)⟩)⟩)⟩)⟩)⟩)⟩)⟩)⟩)⟩)⟩)⟩)⟩)⟩)⟩)⟩) : ∀ w ∈ [Cond.laysFinal "ProofLibrary$Pile" "ProofLibrary$Pile" "library" "LProofLibrary$Library;", Cond.laysFinal "ProofLibrary$Pile" "ProofLibrary$Pile" "assertions" "LProofLibrary$Assertions;", Cond.laysFinal "ProofLibrary$Pile" "ProofLibrary$Pile" "scopes" "LProofLibrary$Scopes;", Cond.laysFinal "ProofLibrary$Pile" "ProofLibrary$Pile" "data" "[I", Cond.lays "ProofLibrary$Pile" "ProofLibrary$Pile" "low" "I", Cond.lays "ProofLibrary$Pile" "ProofLibrary$Pile" "high" "I", Cond.laysFinal "ProofLibrary$Pile" "ProofLibrary$Pile" "at" "[I", Cond.laysFinal "ProofLibrary$Pile" "ProofLibrary$Pile" "size" "[I", Cond.laysFinal "ProofLibrary$Pile" "ProofLibrary$Pile" "uses" "[I", Cond.laysFinal "ProofLibrary$Pile" "ProofLibrary$Pile" "built" "[I", Cond.lays "ProofLibrary$Pile" "ProofLibrary$Pile" "builtSize" "I", Cond.laysFinal "ProofLibrary$Pile" "ProofLibrary$Pile" "becomesAt" "[I", Cond.laysFinal "ProofLibrary$Pile" "ProofLibrary$Pile" "becomesSize" "[I", Cond.laysFinal "ProofLibrary$Pile" "ProofLibrary$Pile" "met" "[I", Cond.lays "ProofLibrary$Pile" "ProofLibrary$Pile" "turn" "I", Cond.laysFinal "ProofLibrary$Pile" "ProofLibrary$Pile" "variablesX" "[I", Cond.laysFinal "ProofLibrary$Pile" "ProofLibrary$Pile" "variablesY" "[I"], w ∈ TB)
theorem xdfX6 : ∀ j, j < 17 → defaultValue (tyX6 j) = vp_V [.null, .null, .null, .null, .int 0, .int 0, .null, .null, .null, .null, .int 0, .null, .null, .null, .int 0, .null, .null] j := fun j hj => by
  rcases (show j = 0 ∨ j = 1 ∨ j = 2 ∨ j = 3 ∨ j = 4 ∨ j = 5 ∨ j = 6 ∨ j = 7 ∨ j = 8 ∨ j = 9 ∨ j = 10 ∨ j = 11 ∨ j = 12 ∨ j = 13 ∨ j = 14 ∨ j = 15 ∨ j = 16 by omega) with rfl | rfl | rfl | rfl | rfl | rfl | rfl | rfl | rfl | rfl | rfl | rfl | rfl | rfl | rfl | rfl | rfl <;> rfl
set_option maxRecDepth 20000 in
theorem inX7 : ∀ w ∈ u_ws RX7 TX7 13, w ∈ TB := ((List.forall_mem_cons.mpr ⟨tw_498, (List.forall_mem_cons.mpr ⟨tw_500, (List.forall_mem_cons.mpr ⟨tw_502, (List.forall_mem_cons.mpr ⟨tw_504, (List.forall_mem_cons.mpr ⟨tw_506, (List.forall_mem_cons.mpr ⟨tw_508, (List.forall_mem_cons.mpr ⟨tw_510, (List.forall_mem_cons.mpr ⟨tw_512, (List.forall_mem_cons.mpr ⟨tw_514, (List.forall_mem_cons.mpr ⟨tw_516, (List.forall_mem_cons.mpr ⟨tw_518, (List.forall_mem_cons.mpr ⟨tw_520, (List.forall_mem_cons.mpr ⟨tw_522, (fun _ h => absurd h List.not_mem_nil)⟩)⟩)⟩)⟩)⟩)⟩)⟩)⟩)⟩)⟩)⟩)⟩)⟩) : ∀ w ∈ [Cond.laysFinal "ProofLibrary$Reader" "ProofLibrary$Reader" "library" "LProofLibrary$Library;", Cond.laysFinal "ProofLibrary$Reader" "ProofLibrary$Reader" "assertions" "LProofLibrary$Assertions;", Cond.laysFinal "ProofLibrary$Reader" "ProofLibrary$Reader" "scopes" "LProofLibrary$Scopes;", Cond.laysFinal "ProofLibrary$Reader" "ProofLibrary$Reader" "steps" "LProofLibrary$Steps;", Cond.laysFinal "ProofLibrary$Reader" "ProofLibrary$Reader" "disjoint" "[I", Cond.lays "ProofLibrary$Reader" "ProofLibrary$Reader" "source" "[C", Cond.lays "ProofLibrary$Reader" "ProofLibrary$Reader" "place" "I", Cond.lays "ProofLibrary$Reader" "ProofLibrary$Reader" "comment" "Z", Cond.lays "ProofLibrary$Reader" "ProofLibrary$Reader" "state" "I", Cond.lays "ProofLibrary$Reader" "ProofLibrary$Reader" "items" "I", Cond.lays "ProofLibrary$Reader" "ProofLibrary$Reader" "kind" "I", Cond.lays "ProofLibrary$Reader" "ProofLibrary$Reader" "namedSymbol" "I", Cond.lays "ProofLibrary$Reader" "ProofLibrary$Reader" "namedStatement" "I"], w ∈ TB)
theorem xdfX7 : ∀ j, j < 13 → defaultValue (tyX7 j) = vp_V [.null, .null, .null, .null, .null, .null, .int 0, .int 0, .int 0, .int 0, .int 0, .int 0, .int 0] j := fun j hj => by
  rcases (show j = 0 ∨ j = 1 ∨ j = 2 ∨ j = 3 ∨ j = 4 ∨ j = 5 ∨ j = 6 ∨ j = 7 ∨ j = 8 ∨ j = 9 ∨ j = 10 ∨ j = 11 ∨ j = 12 by omega) with rfl | rfl | rfl | rfl | rfl | rfl | rfl | rfl | rfl | rfl | rfl | rfl | rfl <;> rfl
set_option maxRecDepth 20000 in
theorem inX8 : ∀ w ∈ u_ws RX8 TX8 17, w ∈ TB := ((List.forall_mem_cons.mpr ⟨tw_628, (List.forall_mem_cons.mpr ⟨tw_630, (List.forall_mem_cons.mpr ⟨tw_632, (List.forall_mem_cons.mpr ⟨tw_634, (List.forall_mem_cons.mpr ⟨tw_636, (List.forall_mem_cons.mpr ⟨tw_638, (List.forall_mem_cons.mpr ⟨tw_640, (List.forall_mem_cons.mpr ⟨tw_642, (List.forall_mem_cons.mpr ⟨tw_644, (List.forall_mem_cons.mpr ⟨tw_646, (List.forall_mem_cons.mpr ⟨tw_648, (List.forall_mem_cons.mpr ⟨tw_650, (List.forall_mem_cons.mpr ⟨tw_652, (List.forall_mem_cons.mpr ⟨tw_654, (List.forall_mem_cons.mpr ⟨tw_656, (List.forall_mem_cons.mpr ⟨tw_658, (List.forall_mem_cons.mpr ⟨tw_660, (fun _ h => absurd h List.not_mem_nil)⟩)⟩)⟩)⟩)⟩)⟩)⟩)⟩)⟩)⟩)⟩)⟩)⟩)⟩)⟩)⟩)⟩) : ∀ w ∈ [Cond.laysFinal "ProofLibrary$Rules" "ProofLibrary$Rules" "library" "LProofLibrary$Library;", Cond.laysFinal "ProofLibrary$Rules" "ProofLibrary$Rules" "assertions" "LProofLibrary$Assertions;", Cond.laysFinal "ProofLibrary$Rules" "ProofLibrary$Rules" "firstChild" "[I", Cond.laysFinal "ProofLibrary$Rules" "ProofLibrary$Rules" "sibling" "[I", Cond.laysFinal "ProofLibrary$Rules" "ProofLibrary$Rules" "key" "[I", Cond.laysFinal "ProofLibrary$Rules" "ProofLibrary$Rules" "born" "[I", Cond.laysFinal "ProofLibrary$Rules" "ProofLibrary$Rules" "firstRule" "[I", Cond.laysFinal "ProofLibrary$Rules" "ProofLibrary$Rules" "nextRule" "[I", Cond.lays "ProofLibrary$Rules" "ProofLibrary$Rules" "nodes" "I", Cond.laysFinal "ProofLibrary$Rules" "ProofLibrary$Rules" "atConstant" "[I", Cond.laysFinal "ProofLibrary$Rules" "ProofLibrary$Rules" "atSort" "[I", Cond.laysFinal "ProofLibrary$Rules" "ProofLibrary$Rules" "unitRule" "[I", Cond.laysFinal "ProofLibrary$Rules" "ProofLibrary$Rules" "unitFrom" "[I", Cond.lays "ProofLibrary$Rules" "ProofLibrary$Rules" "units" "I", Cond.lays "ProofLibrary$Rules" "ProofLibrary$Rules" "learned" "I", Cond.lays "ProofLibrary$Rules" "ProofLibrary$Rules" "provable" "I", Cond.lays "ProofLibrary$Rules" "ProofLibrary$Rules" "wff" "I"], w ∈ TB)
theorem xdfX8 : ∀ j, j < 17 → defaultValue (tyX8 j) = vp_V [.null, .null, .null, .null, .null, .null, .null, .null, .int 0, .null, .null, .null, .null, .int 0, .int 0, .int 0, .int 0] j := fun j hj => by
  rcases (show j = 0 ∨ j = 1 ∨ j = 2 ∨ j = 3 ∨ j = 4 ∨ j = 5 ∨ j = 6 ∨ j = 7 ∨ j = 8 ∨ j = 9 ∨ j = 10 ∨ j = 11 ∨ j = 12 ∨ j = 13 ∨ j = 14 ∨ j = 15 ∨ j = 16 by omega) with rfl | rfl | rfl | rfl | rfl | rfl | rfl | rfl | rfl | rfl | rfl | rfl | rfl | rfl | rfl | rfl | rfl <;> rfl
set_option maxRecDepth 20000 in
theorem inX9 : ∀ w ∈ u_ws RX9 TX9 16, w ∈ TB := ((List.forall_mem_cons.mpr ⟨tw_190, (List.forall_mem_cons.mpr ⟨tw_192, (List.forall_mem_cons.mpr ⟨tw_194, (List.forall_mem_cons.mpr ⟨tw_196, (List.forall_mem_cons.mpr ⟨tw_198, (List.forall_mem_cons.mpr ⟨tw_200, (List.forall_mem_cons.mpr ⟨tw_202, (List.forall_mem_cons.mpr ⟨tw_204, (List.forall_mem_cons.mpr ⟨tw_206, (List.forall_mem_cons.mpr ⟨tw_208, (List.forall_mem_cons.mpr ⟨tw_210, (List.forall_mem_cons.mpr ⟨tw_212, (List.forall_mem_cons.mpr ⟨tw_214, (List.forall_mem_cons.mpr ⟨tw_216, (List.forall_mem_cons.mpr ⟨tw_218, (List.forall_mem_cons.mpr ⟨tw_220, (fun _ h => absurd h List.not_mem_nil)⟩)⟩)⟩)⟩)⟩)⟩)⟩)⟩)⟩)⟩)⟩)⟩)⟩)⟩)⟩)⟩) : ∀ w ∈ [Cond.laysFinal "ProofLibrary$Scopes" "ProofLibrary$Scopes" "library" "LProofLibrary$Library;", Cond.laysFinal "ProofLibrary$Scopes" "ProofLibrary$Scopes" "active" "[Z", Cond.laysFinal "ProofLibrary$Scopes" "ProofLibrary$Scopes" "activeFloat" "[I", Cond.laysFinal "ProofLibrary$Scopes" "ProofLibrary$Scopes" "variables" "[I", Cond.lays "ProofLibrary$Scopes" "ProofLibrary$Scopes" "variableCount" "I", Cond.laysFinal "ProofLibrary$Scopes" "ProofLibrary$Scopes" "holds" "[Z", Cond.laysFinal "ProofLibrary$Scopes" "ProofLibrary$Scopes" "hypotheses" "[I", Cond.lays "ProofLibrary$Scopes" "ProofLibrary$Scopes" "hypothesisCount" "I", Cond.laysFinal "ProofLibrary$Scopes" "ProofLibrary$Scopes" "pairX" "[I", Cond.laysFinal "ProofLibrary$Scopes" "ProofLibrary$Scopes" "pairY" "[I", Cond.lays "ProofLibrary$Scopes" "ProofLibrary$Scopes" "pairCount" "I", Cond.laysFinal "ProofLibrary$Scopes" "ProofLibrary$Scopes" "apartBits" "[J", Cond.laysFinal "ProofLibrary$Scopes" "ProofLibrary$Scopes" "marks" "[I", Cond.lays "ProofLibrary$Scopes" "ProofLibrary$Scopes" "depth" "I", Cond.laysFinal "ProofLibrary$Scopes" "ProofLibrary$Scopes" "met" "[I", Cond.lays "ProofLibrary$Scopes" "ProofLibrary$Scopes" "turn" "I"], w ∈ TB)
theorem xdfX9 : ∀ j, j < 16 → defaultValue (tyX9 j) = vp_V [.null, .null, .null, .null, .int 0, .null, .null, .int 0, .null, .null, .int 0, .null, .null, .int 0, .null, .int 0] j := fun j hj => by
  rcases (show j = 0 ∨ j = 1 ∨ j = 2 ∨ j = 3 ∨ j = 4 ∨ j = 5 ∨ j = 6 ∨ j = 7 ∨ j = 8 ∨ j = 9 ∨ j = 10 ∨ j = 11 ∨ j = 12 ∨ j = 13 ∨ j = 14 ∨ j = 15 by omega) with rfl | rfl | rfl | rfl | rfl | rfl | rfl | rfl | rfl | rfl | rfl | rfl | rfl | rfl | rfl | rfl <;> rfl
