-- words by their places in the tables, and what the methods called want
theorem tc_1 {w : Cond} (h : w ∈ tables_1_1) : w ∈ tables_1 := List.mem_append_left _ h
theorem tc_2 {w : Cond} (h : w ∈ tables_1_2) : w ∈ tables_1 := List.mem_append_right _ (List.mem_append_left _ h)
theorem tc_3 {w : Cond} (h : w ∈ tables_1_3) : w ∈ tables_1 := List.mem_append_right _ (List.mem_append_right _ (List.mem_append_left _ h))
theorem tc_4 {w : Cond} (h : w ∈ tables_1_4) : w ∈ tables_1 := List.mem_append_right _ (List.mem_append_right _ (List.mem_append_right _ (List.mem_append_left _ h)))
theorem tc_5 {w : Cond} (h : w ∈ tables_1_5) : w ∈ tables_1 := List.mem_append_right _ (List.mem_append_right _ (List.mem_append_right _ (List.mem_append_right _ (List.mem_append_left _ h))))
theorem tc_6 {w : Cond} (h : w ∈ tables_1_6) : w ∈ tables_1 := List.mem_append_right _ (List.mem_append_right _ (List.mem_append_right _ (List.mem_append_right _ (List.mem_append_right _ (List.mem_append_left _ h)))))
theorem tc_7 {w : Cond} (h : w ∈ tables_1_7) : w ∈ tables_1 := List.mem_append_right _ (List.mem_append_right _ (List.mem_append_right _ (List.mem_append_right _ (List.mem_append_right _ (List.mem_append_right _ (List.mem_append_left _ h))))))
theorem tc_8 {w : Cond} (h : w ∈ tables_1_8) : w ∈ tables_1 := List.mem_append_right _ (List.mem_append_right _ (List.mem_append_right _ (List.mem_append_right _ (List.mem_append_right _ (List.mem_append_right _ (List.mem_append_right _ (List.mem_append_left _ h)))))))
theorem tc_9 {w : Cond} (h : w ∈ tables_1_9) : w ∈ tables_1 := List.mem_append_right _ (List.mem_append_right _ (List.mem_append_right _ (List.mem_append_right _ (List.mem_append_right _ (List.mem_append_right _ (List.mem_append_right _ (List.mem_append_right _ (List.mem_append_left _ h))))))))
theorem tc_10 {w : Cond} (h : w ∈ tables_1_10) : w ∈ tables_1 := List.mem_append_right _ (List.mem_append_right _ (List.mem_append_right _ (List.mem_append_right _ (List.mem_append_right _ (List.mem_append_right _ (List.mem_append_right _ (List.mem_append_right _ (List.mem_append_right _ (List.mem_append_left _ h)))))))))
theorem tc_11 {w : Cond} (h : w ∈ tables_1_11) : w ∈ tables_1 := List.mem_append_right _ (List.mem_append_right _ (List.mem_append_right _ (List.mem_append_right _ (List.mem_append_right _ (List.mem_append_right _ (List.mem_append_right _ (List.mem_append_right _ (List.mem_append_right _ (List.mem_append_right _ (List.mem_append_left _ h))))))))))
theorem tc_12 {w : Cond} (h : w ∈ tables_1_12) : w ∈ tables_1 := List.mem_append_right _ (List.mem_append_right _ (List.mem_append_right _ (List.mem_append_right _ (List.mem_append_right _ (List.mem_append_right _ (List.mem_append_right _ (List.mem_append_right _ (List.mem_append_right _ (List.mem_append_right _ (List.mem_append_right _ (List.mem_append_left _ h)))))))))))
theorem tc_13 {w : Cond} (h : w ∈ tables_1_13) : w ∈ tables_1 := List.mem_append_right _ (List.mem_append_right _ (List.mem_append_right _ (List.mem_append_right _ (List.mem_append_right _ (List.mem_append_right _ (List.mem_append_right _ (List.mem_append_right _ (List.mem_append_right _ (List.mem_append_right _ (List.mem_append_right _ (List.mem_append_right _ (List.mem_append_left _ h))))))))))))
theorem tc_14 {w : Cond} (h : w ∈ tables_1_14) : w ∈ tables_1 := List.mem_append_right _ (List.mem_append_right _ (List.mem_append_right _ (List.mem_append_right _ (List.mem_append_right _ (List.mem_append_right _ (List.mem_append_right _ (List.mem_append_right _ (List.mem_append_right _ (List.mem_append_right _ (List.mem_append_right _ (List.mem_append_right _ (List.mem_append_right _ (h)))))))))))))
theorem tw_1 : (Cond.initialized "ProofLibrary") ∈ TB := TB_m (tc_1 (List.mem_of_getElem? (i := 1) rfl)) rfl
theorem tw_2 : (Cond.initialized "ProofLibrary$Library") ∈ TB := TB_m (tc_1 (List.mem_of_getElem? (i := 2) rfl)) rfl
theorem tw_3 : (Cond.initialized "ProofLibrary$Scopes") ∈ TB := TB_m (tc_1 (List.mem_of_getElem? (i := 3) rfl)) rfl
theorem tw_4 : (Cond.initialized "java/util/Arrays") ∈ TB := TB_m (tc_1 (List.mem_of_getElem? (i := 4) rfl)) rfl
theorem tw_5 : (Cond.initialized "ProofLibrary$Assertions") ∈ TB := TB_m (tc_1 (List.mem_of_getElem? (i := 5) rfl)) rfl
theorem tw_6 : (Cond.initialized "ProofLibrary$Pile") ∈ TB := TB_m (tc_1 (List.mem_of_getElem? (i := 6) rfl)) rfl
theorem tw_7 : (Cond.initialized "ProofLibrary$Reader") ∈ TB := TB_m (tc_1 (List.mem_of_getElem? (i := 7) rfl)) rfl
theorem tw_8 : (Cond.initialized "ProofLibrary$Steps") ∈ TB := TB_m (tc_1 (List.mem_of_getElem? (i := 8) rfl)) rfl
theorem tw_9 : (Cond.initialized "ProofLibrary$Packer") ∈ TB := TB_m (tc_1 (List.mem_of_getElem? (i := 9) rfl)) rfl
theorem tw_10 : (Cond.initialized "ProofLibrary$Rules") ∈ TB := TB_m (tc_1 (List.mem_of_getElem? (i := 10) rfl)) rfl
theorem tw_11 : (Cond.initialized "ProofLibrary$Chart") ∈ TB := TB_m (tc_1 (List.mem_of_getElem? (i := 11) rfl)) rfl
theorem tw_12 : (Cond.initialized "ProofLibrary$Tree") ∈ TB := TB_m (tc_1 (List.mem_of_getElem? (i := 12) rfl)) rfl
theorem tw_13 : (Cond.initialized "ProofLibrary$Definitions") ∈ TB := TB_m (tc_1 (List.mem_of_getElem? (i := 13) rfl)) rfl
theorem tw_14 : (Cond.initialized "ProofLibrary$Paper") ∈ TB := TB_m (tc_1 (List.mem_of_getElem? (i := 14) rfl)) rfl
theorem tw_15 : (Cond.initialized "ProofLibraryModel") ∈ TB := TB_m (tc_1 (List.mem_of_getElem? (i := 15) rfl)) rfl
theorem tw_16 : (Cond.initialized "java/lang/Math") ∈ TB := TB_m (tc_1 (List.mem_of_getElem? (i := 16) rfl)) rfl
theorem tw_21 : (Cond.classLink "ProofLibraryLaw" 7 "ProofLibrary") ∈ TB := TB_m (tc_1 (List.mem_of_getElem? (i := 21) rfl)) rfl
theorem tw_22 : (Cond.instantiable "ProofLibrary" 16) ∈ TB := TB_m (tc_1 (List.mem_of_getElem? (i := 22) rfl)) rfl
theorem tw_23 : (Cond.methodLink "ProofLibraryLaw" 9 ⟨"ProofLibrary", "<init>", "()V"⟩) ∈ TB := TB_m (tc_1 (List.mem_of_getElem? (i := 23) rfl)) rfl
theorem tw_24 : (Cond.instanceMethod ⟨"ProofLibrary", "<init>", "()V"⟩) ∈ TB := TB_m (tc_1 (List.mem_of_getElem? (i := 24) rfl)) rfl
theorem tw_25 : (Cond.code ⟨"ProofLibrary", "<init>", "()V"⟩ prog_1_method_1_code 1 none) ∈ TB := TB_m (tc_1 (List.mem_of_getElem? (i := 25) rfl)) rfl
theorem tw_26 : (Cond.methodLink "ProofLibrary" 3 ⟨"java/lang/Object", "<init>", "()V"⟩) ∈ TB := TB_m (tc_1 (List.mem_of_getElem? (i := 26) rfl)) rfl
theorem tw_27 : (Cond.instanceMethod ⟨"java/lang/Object", "<init>", "()V"⟩) ∈ TB := TB_m (tc_1 (List.mem_of_getElem? (i := 27) rfl)) rfl
theorem tw_28 : (Cond.code ⟨"java/lang/Object", "<init>", "()V"⟩ object_method_1_code 1 none) ∈ TB := TB_m (tc_1 (List.mem_of_getElem? (i := 28) rfl)) rfl
theorem tw_29 : (Cond.constant "ProofLibrary" 9 60000) ∈ TB := TB_m (tc_1 (List.mem_of_getElem? (i := 29) rfl)) rfl
theorem tw_30 : (Cond.classLink "ProofLibrary" 22 "ProofLibrary$Library") ∈ TB := TB_m (tc_1 (List.mem_of_getElem? (i := 30) rfl)) rfl
theorem tw_31 : (Cond.instantiable "ProofLibrary$Library" 21) ∈ TB := TB_m (tc_1 (List.mem_of_getElem? (i := 31) rfl)) rfl
theorem tw_32 : (Cond.methodLink "ProofLibrary" 24 ⟨"ProofLibrary$Library", "<init>", "()V"⟩) ∈ TB := TB_m (tc_1 (List.mem_of_getElem? (i := 32) rfl)) rfl
theorem tw_33 : (Cond.instanceMethod ⟨"ProofLibrary$Library", "<init>", "()V"⟩) ∈ TB := TB_m (tc_1 (List.mem_of_getElem? (i := 33) rfl)) rfl
theorem tw_34 : (Cond.code ⟨"ProofLibrary$Library", "<init>", "()V"⟩ prog_5_method_1_code 1 none) ∈ TB := TB_m (tc_1 (List.mem_of_getElem? (i := 34) rfl)) rfl
theorem tw_35 : (Cond.methodLink "ProofLibrary$Library" 3 ⟨"java/lang/Object", "<init>", "()V"⟩) ∈ TB := TB_m (tc_1 (List.mem_of_getElem? (i := 35) rfl)) rfl
theorem tw_36 : (Cond.fieldLink "ProofLibrary$Library" 9 "ProofLibrary$Library" "letters" "[C") ∈ TB := TB_m (tc_1 (List.mem_of_getElem? (i := 36) rfl)) rfl
theorem tw_38 : (Cond.fieldLink "ProofLibrary$Library" 15 "ProofLibrary$Library" "nameAt" "[I") ∈ TB := TB_m (tc_1 (List.mem_of_getElem? (i := 38) rfl)) rfl
theorem tw_40 : (Cond.fieldLink "ProofLibrary$Library" 19 "ProofLibrary$Library" "meaning" "[I") ∈ TB := TB_m (tc_1 (List.mem_of_getElem? (i := 40) rfl)) rfl
theorem tw_41 : (Cond.fieldLink "ProofLibrary$Library" 22 "ProofLibrary$Library" "nextName" "[I") ∈ TB := TB_m (tc_1 (List.mem_of_getElem? (i := 41) rfl)) rfl
theorem tw_42 : (Cond.fieldLink "ProofLibrary$Library" 25 "ProofLibrary$Library" "heads" "[I") ∈ TB := TB_m (tc_1 (List.mem_of_getElem? (i := 42) rfl)) rfl
theorem tw_43 : (Cond.fieldLink "ProofLibrary$Library" 86 "ProofLibrary$Library" "names" "I") ∈ TB := TB_m (tc_1 (List.mem_of_getElem? (i := 43) rfl)) rfl
theorem tw_44 : (Cond.fieldLink "ProofLibrary$Library" 28 "ProofLibrary$Library" "symbolName" "[I") ∈ TB := TB_m (tc_1 (List.mem_of_getElem? (i := 44) rfl)) rfl
theorem tw_46 : (Cond.fieldLink "ProofLibrary$Library" 31 "ProofLibrary$Library" "variable" "[Z") ∈ TB := TB_m (tc_1 (List.mem_of_getElem? (i := 46) rfl)) rfl
theorem tw_52 : (Cond.fieldLink "ProofLibrary$Library" 35 "ProofLibrary$Library" "firstFloat" "[I") ∈ TB := TB_m (tc_1 (List.mem_of_getElem? (i := 52) rfl)) rfl
theorem tw_55 : (Cond.fieldLink "ProofLibrary$Library" 38 "ProofLibrary$Library" "rank" "[I") ∈ TB := TB_m (tc_1 (List.mem_of_getElem? (i := 55) rfl)) rfl
theorem tw_59 : (Cond.fieldLink "ProofLibrary$Library" 41 "ProofLibrary$Library" "ranked" "[I") ∈ TB := TB_m (tc_1 (List.mem_of_getElem? (i := 59) rfl)) rfl
theorem tw_61 : (Cond.fieldLink "ProofLibrary$Library" 103 "ProofLibrary$Library" "ranks" "I") ∈ TB := TB_m (tc_1 (List.mem_of_getElem? (i := 61) rfl)) rfl
theorem tn_63 : (Cond.fieldLinkNest "ProofLibrary" 144 "ProofLibrary$Library" "symbols" "I" "ProofLibrary") ∈ NB := NB_m (tc_1 (List.mem_of_getElem? (i := 63) rfl)) rfl
theorem tw_64 : (Cond.fieldLink "ProofLibrary$Library" 90 "ProofLibrary$Library" "symbols" "I") ∈ TB := TB_m (tc_1 (List.mem_of_getElem? (i := 64) rfl)) rfl
theorem tw_66 : (Cond.fieldLink "ProofLibrary$Library" 44 "ProofLibrary$Library" "labelName" "[I") ∈ TB := TB_m (tc_1 (List.mem_of_getElem? (i := 66) rfl)) rfl
theorem tw_68 : (Cond.fieldLink "ProofLibrary$Library" 47 "ProofLibrary$Library" "kind" "[I") ∈ TB := TB_m (tc_1 (List.mem_of_getElem? (i := 68) rfl)) rfl
theorem tw_77 : (Cond.fieldLink "ProofLibrary$Library" 50 "ProofLibrary$Library" "at" "[I") ∈ TB := TB_m (tc_1 (List.mem_of_getElem? (i := 77) rfl)) rfl
theorem tw_85 : (Cond.fieldLink "ProofLibrary$Library" 53 "ProofLibrary$Library" "text" "[I") ∈ TB := TB_m (tc_1 (List.mem_of_getElem? (i := 85) rfl)) rfl
theorem tw_93 : (Cond.fieldLink "ProofLibrary$Library" 56 "ProofLibrary$Library" "floats" "[I") ∈ TB := TB_m (tc_1 (List.mem_of_getElem? (i := 93) rfl)) rfl
theorem tw_101 : (Cond.fieldLink "ProofLibrary$Library" 100 "ProofLibrary$Library" "used" "I") ∈ TB := TB_m (tc_1 (List.mem_of_getElem? (i := 101) rfl)) rfl
theorem tn_103 : (Cond.fieldLinkNest "ProofLibrary$Rules" 74 "ProofLibrary$Library" "statements" "I" "ProofLibrary") ∈ NB := NB_m (tc_1 (List.mem_of_getElem? (i := 103) rfl)) rfl
theorem tn_105 : (Cond.fieldLinkNest "ProofLibrary" 141 "ProofLibrary$Library" "statements" "I" "ProofLibrary") ∈ NB := NB_m (tc_1 (List.mem_of_getElem? (i := 105) rfl)) rfl
theorem tw_106 : (Cond.fieldLink "ProofLibrary$Library" 97 "ProofLibrary$Library" "statements" "I") ∈ TB := TB_m (tc_1 (List.mem_of_getElem? (i := 106) rfl)) rfl
theorem tw_109 : (Cond.fieldLink "ProofLibrary$Library" 59 "ProofLibrary$Library" "kept" "[I") ∈ TB := TB_m (tc_1 (List.mem_of_getElem? (i := 109) rfl)) rfl
theorem tw_110 : (Cond.laysFinal "ProofLibrary$Library" "ProofLibrary$Library" "letters" "[C") ∈ TB := TB_m (tc_1 (List.mem_of_getElem? (i := 110) rfl)) rfl
theorem tw_112 : (Cond.laysFinal "ProofLibrary$Library" "ProofLibrary$Library" "nameAt" "[I") ∈ TB := TB_m (tc_1 (List.mem_of_getElem? (i := 112) rfl)) rfl
theorem tw_114 : (Cond.laysFinal "ProofLibrary$Library" "ProofLibrary$Library" "meaning" "[I") ∈ TB := TB_m (tc_1 (List.mem_of_getElem? (i := 114) rfl)) rfl
theorem tw_116 : (Cond.laysFinal "ProofLibrary$Library" "ProofLibrary$Library" "nextName" "[I") ∈ TB := TB_m (tc_1 (List.mem_of_getElem? (i := 116) rfl)) rfl
theorem tw_118 : (Cond.laysFinal "ProofLibrary$Library" "ProofLibrary$Library" "heads" "[I") ∈ TB := TB_m (tc_1 (List.mem_of_getElem? (i := 118) rfl)) rfl
theorem tw_120 : (Cond.lays "ProofLibrary$Library" "ProofLibrary$Library" "names" "I") ∈ TB := TB_m (tc_1 (List.mem_of_getElem? (i := 120) rfl)) rfl
theorem tw_122 : (Cond.laysFinal "ProofLibrary$Library" "ProofLibrary$Library" "symbolName" "[I") ∈ TB := TB_m (tc_1 (List.mem_of_getElem? (i := 122) rfl)) rfl
theorem tw_124 : (Cond.laysFinal "ProofLibrary$Library" "ProofLibrary$Library" "variable" "[Z") ∈ TB := TB_m (tc_1 (List.mem_of_getElem? (i := 124) rfl)) rfl
theorem tw_126 : (Cond.laysFinal "ProofLibrary$Library" "ProofLibrary$Library" "firstFloat" "[I") ∈ TB := TB_m (tc_1 (List.mem_of_getElem? (i := 126) rfl)) rfl
theorem tw_128 : (Cond.laysFinal "ProofLibrary$Library" "ProofLibrary$Library" "rank" "[I") ∈ TB := TB_m (tc_1 (List.mem_of_getElem? (i := 128) rfl)) rfl
theorem tw_130 : (Cond.laysFinal "ProofLibrary$Library" "ProofLibrary$Library" "ranked" "[I") ∈ TB := TB_m (tc_1 (List.mem_of_getElem? (i := 130) rfl)) rfl
theorem tw_132 : (Cond.lays "ProofLibrary$Library" "ProofLibrary$Library" "ranks" "I") ∈ TB := TB_m (tc_1 (List.mem_of_getElem? (i := 132) rfl)) rfl
theorem tw_134 : (Cond.lays "ProofLibrary$Library" "ProofLibrary$Library" "symbols" "I") ∈ TB := TB_m (tc_1 (List.mem_of_getElem? (i := 134) rfl)) rfl
theorem tw_136 : (Cond.laysFinal "ProofLibrary$Library" "ProofLibrary$Library" "labelName" "[I") ∈ TB := TB_m (tc_1 (List.mem_of_getElem? (i := 136) rfl)) rfl
theorem tw_138 : (Cond.laysFinal "ProofLibrary$Library" "ProofLibrary$Library" "kind" "[I") ∈ TB := TB_m (tc_1 (List.mem_of_getElem? (i := 138) rfl)) rfl
theorem tw_140 : (Cond.laysFinal "ProofLibrary$Library" "ProofLibrary$Library" "at" "[I") ∈ TB := TB_m (tc_1 (List.mem_of_getElem? (i := 140) rfl)) rfl
theorem tw_142 : (Cond.laysFinal "ProofLibrary$Library" "ProofLibrary$Library" "text" "[I") ∈ TB := TB_m (tc_1 (List.mem_of_getElem? (i := 142) rfl)) rfl
theorem tw_144 : (Cond.laysFinal "ProofLibrary$Library" "ProofLibrary$Library" "floats" "[I") ∈ TB := TB_m (tc_1 (List.mem_of_getElem? (i := 144) rfl)) rfl
theorem tw_146 : (Cond.lays "ProofLibrary$Library" "ProofLibrary$Library" "used" "I") ∈ TB := TB_m (tc_1 (List.mem_of_getElem? (i := 146) rfl)) rfl
theorem tw_148 : (Cond.lays "ProofLibrary$Library" "ProofLibrary$Library" "statements" "I") ∈ TB := TB_m (tc_1 (List.mem_of_getElem? (i := 148) rfl)) rfl
theorem tw_150 : (Cond.laysFinal "ProofLibrary$Library" "ProofLibrary$Library" "kept" "[I") ∈ TB := TB_m (tc_1 (List.mem_of_getElem? (i := 150) rfl)) rfl
theorem tw_153 : (Cond.arrayClass .char) ∈ TB := TB_m (tc_1 (List.mem_of_getElem? (i := 153) rfl)) rfl
theorem tw_154 : (Cond.arrayClass .int) ∈ TB := TB_m (tc_1 (List.mem_of_getElem? (i := 154) rfl)) rfl
theorem tw_155 : (Cond.arrayClass .boolean) ∈ TB := TB_m (tc_1 (List.mem_of_getElem? (i := 155) rfl)) rfl
theorem tw_156 : (Cond.classLink "ProofLibrary" 29 "ProofLibrary$Scopes") ∈ TB := TB_m (tc_1 (List.mem_of_getElem? (i := 156) rfl)) rfl
theorem tw_157 : (Cond.instantiable "ProofLibrary$Scopes" 16) ∈ TB := TB_m (tc_1 (List.mem_of_getElem? (i := 157) rfl)) rfl
theorem tw_158 : (Cond.methodLink "ProofLibrary" 31 ⟨"ProofLibrary$Scopes", "<init>", "(LProofLibrary$Library;)V"⟩) ∈ TB := TB_m (tc_1 (List.mem_of_getElem? (i := 158) rfl)) rfl
theorem tw_159 : (Cond.instanceMethod ⟨"ProofLibrary$Scopes", "<init>", "(LProofLibrary$Library;)V"⟩) ∈ TB := TB_m (tc_1 (List.mem_of_getElem? (i := 159) rfl)) rfl
theorem tw_160 : (Cond.code ⟨"ProofLibrary$Scopes", "<init>", "(LProofLibrary$Library;)V"⟩ prog_11_method_1_code 2 none) ∈ TB := TB_m (tc_1 (List.mem_of_getElem? (i := 160) rfl)) rfl
theorem tw_161 : (Cond.methodLink "ProofLibrary$Scopes" 3 ⟨"java/lang/Object", "<init>", "()V"⟩) ∈ TB := TB_m (tc_1 (List.mem_of_getElem? (i := 161) rfl)) rfl
theorem tw_162 : (Cond.methodLink "ProofLibrary$Scopes" 48 ⟨"java/util/Arrays", "fill", "([II)V"⟩) ∈ TB := TB_m (tc_1 (List.mem_of_getElem? (i := 162) rfl)) rfl
theorem tw_163 : (Cond.static ⟨"java/util/Arrays", "fill", "([II)V"⟩) ∈ TB := TB_m (tc_1 (List.mem_of_getElem? (i := 163) rfl)) rfl
theorem tw_164 : (Cond.code ⟨"java/util/Arrays", "fill", "([II)V"⟩ prog_22_method_103_code 4 none) ∈ TB := TB_m (tc_1 (List.mem_of_getElem? (i := 164) rfl)) rfl
theorem tw_165 : (Cond.fieldLink "ProofLibrary$Scopes" 44 "ProofLibrary$Scopes" "library" "LProofLibrary$Library;") ∈ TB := TB_m (tc_1 (List.mem_of_getElem? (i := 165) rfl)) rfl
theorem tw_166 : (Cond.fieldLink "ProofLibrary$Scopes" 9 "ProofLibrary$Scopes" "active" "[Z") ∈ TB := TB_m (tc_1 (List.mem_of_getElem? (i := 166) rfl)) rfl
theorem tw_167 : (Cond.fieldLink "ProofLibrary$Scopes" 15 "ProofLibrary$Scopes" "activeFloat" "[I") ∈ TB := TB_m (tc_1 (List.mem_of_getElem? (i := 167) rfl)) rfl
theorem tw_169 : (Cond.fieldLink "ProofLibrary$Scopes" 19 "ProofLibrary$Scopes" "variables" "[I") ∈ TB := TB_m (tc_1 (List.mem_of_getElem? (i := 169) rfl)) rfl
theorem tw_170 : (Cond.fieldLink "ProofLibrary$Scopes" 64 "ProofLibrary$Scopes" "variableCount" "I") ∈ TB := TB_m (tc_1 (List.mem_of_getElem? (i := 170) rfl)) rfl
theorem tw_171 : (Cond.fieldLink "ProofLibrary$Scopes" 22 "ProofLibrary$Scopes" "holds" "[Z") ∈ TB := TB_m (tc_1 (List.mem_of_getElem? (i := 171) rfl)) rfl
theorem tw_173 : (Cond.fieldLink "ProofLibrary$Scopes" 25 "ProofLibrary$Scopes" "hypotheses" "[I") ∈ TB := TB_m (tc_1 (List.mem_of_getElem? (i := 173) rfl)) rfl
theorem tw_176 : (Cond.fieldLink "ProofLibrary$Scopes" 67 "ProofLibrary$Scopes" "hypothesisCount" "I") ∈ TB := TB_m (tc_1 (List.mem_of_getElem? (i := 176) rfl)) rfl
theorem tw_177 : (Cond.fieldLink "ProofLibrary$Scopes" 28 "ProofLibrary$Scopes" "pairX" "[I") ∈ TB := TB_m (tc_1 (List.mem_of_getElem? (i := 177) rfl)) rfl
theorem tw_179 : (Cond.fieldLink "ProofLibrary$Scopes" 31 "ProofLibrary$Scopes" "pairY" "[I") ∈ TB := TB_m (tc_1 (List.mem_of_getElem? (i := 179) rfl)) rfl
theorem tw_182 : (Cond.fieldLink "ProofLibrary$Scopes" 70 "ProofLibrary$Scopes" "pairCount" "I") ∈ TB := TB_m (tc_1 (List.mem_of_getElem? (i := 182) rfl)) rfl
theorem tw_184 : (Cond.fieldLink "ProofLibrary$Scopes" 34 "ProofLibrary$Scopes" "apartBits" "[J") ∈ TB := TB_m (tc_1 (List.mem_of_getElem? (i := 184) rfl)) rfl
theorem tw_185 : (Cond.fieldLink "ProofLibrary$Scopes" 38 "ProofLibrary$Scopes" "marks" "[I") ∈ TB := TB_m (tc_1 (List.mem_of_getElem? (i := 185) rfl)) rfl
theorem tw_186 : (Cond.fieldLink "ProofLibrary$Scopes" 54 "ProofLibrary$Scopes" "depth" "I") ∈ TB := TB_m (tc_1 (List.mem_of_getElem? (i := 186) rfl)) rfl
theorem tn_187 : (Cond.fieldLinkNest "ProofLibrary$Reader" 84 "ProofLibrary$Scopes" "depth" "I" "ProofLibrary") ∈ NB := NB_m (tc_1 (List.mem_of_getElem? (i := 187) rfl)) rfl
theorem tw_188 : (Cond.fieldLink "ProofLibrary$Scopes" 41 "ProofLibrary$Scopes" "met" "[I") ∈ TB := TB_m (tc_1 (List.mem_of_getElem? (i := 188) rfl)) rfl
theorem tw_190 : (Cond.laysFinal "ProofLibrary$Scopes" "ProofLibrary$Scopes" "library" "LProofLibrary$Library;") ∈ TB := TB_m (tc_1 (List.mem_of_getElem? (i := 190) rfl)) rfl
theorem tw_192 : (Cond.laysFinal "ProofLibrary$Scopes" "ProofLibrary$Scopes" "active" "[Z") ∈ TB := TB_m (tc_1 (List.mem_of_getElem? (i := 192) rfl)) rfl
theorem tw_194 : (Cond.laysFinal "ProofLibrary$Scopes" "ProofLibrary$Scopes" "activeFloat" "[I") ∈ TB := TB_m (tc_1 (List.mem_of_getElem? (i := 194) rfl)) rfl
theorem tw_196 : (Cond.laysFinal "ProofLibrary$Scopes" "ProofLibrary$Scopes" "variables" "[I") ∈ TB := TB_m (tc_1 (List.mem_of_getElem? (i := 196) rfl)) rfl
theorem tw_198 : (Cond.lays "ProofLibrary$Scopes" "ProofLibrary$Scopes" "variableCount" "I") ∈ TB := TB_m (tc_1 (List.mem_of_getElem? (i := 198) rfl)) rfl
theorem tw_200 : (Cond.laysFinal "ProofLibrary$Scopes" "ProofLibrary$Scopes" "holds" "[Z") ∈ TB := TB_m (tc_1 (List.mem_of_getElem? (i := 200) rfl)) rfl
theorem tw_202 : (Cond.laysFinal "ProofLibrary$Scopes" "ProofLibrary$Scopes" "hypotheses" "[I") ∈ TB := TB_m (tc_1 (List.mem_of_getElem? (i := 202) rfl)) rfl
theorem tw_204 : (Cond.lays "ProofLibrary$Scopes" "ProofLibrary$Scopes" "hypothesisCount" "I") ∈ TB := TB_m (tc_1 (List.mem_of_getElem? (i := 204) rfl)) rfl
theorem tw_206 : (Cond.laysFinal "ProofLibrary$Scopes" "ProofLibrary$Scopes" "pairX" "[I") ∈ TB := TB_m (tc_1 (List.mem_of_getElem? (i := 206) rfl)) rfl
theorem tw_208 : (Cond.laysFinal "ProofLibrary$Scopes" "ProofLibrary$Scopes" "pairY" "[I") ∈ TB := TB_m (tc_1 (List.mem_of_getElem? (i := 208) rfl)) rfl
theorem tw_210 : (Cond.lays "ProofLibrary$Scopes" "ProofLibrary$Scopes" "pairCount" "I") ∈ TB := TB_m (tc_1 (List.mem_of_getElem? (i := 210) rfl)) rfl
theorem tw_212 : (Cond.laysFinal "ProofLibrary$Scopes" "ProofLibrary$Scopes" "apartBits" "[J") ∈ TB := TB_m (tc_1 (List.mem_of_getElem? (i := 212) rfl)) rfl
theorem tw_214 : (Cond.laysFinal "ProofLibrary$Scopes" "ProofLibrary$Scopes" "marks" "[I") ∈ TB := TB_m (tc_1 (List.mem_of_getElem? (i := 214) rfl)) rfl
theorem tw_216 : (Cond.lays "ProofLibrary$Scopes" "ProofLibrary$Scopes" "depth" "I") ∈ TB := TB_m (tc_1 (List.mem_of_getElem? (i := 216) rfl)) rfl
theorem tw_218 : (Cond.laysFinal "ProofLibrary$Scopes" "ProofLibrary$Scopes" "met" "[I") ∈ TB := TB_m (tc_1 (List.mem_of_getElem? (i := 218) rfl)) rfl
theorem tw_220 : (Cond.lays "ProofLibrary$Scopes" "ProofLibrary$Scopes" "turn" "I") ∈ TB := TB_m (tc_1 (List.mem_of_getElem? (i := 220) rfl)) rfl
theorem tw_223 : (Cond.arrayClass .long) ∈ TB := TB_m (tc_1 (List.mem_of_getElem? (i := 223) rfl)) rfl
theorem tw_224 : (Cond.classLink "ProofLibrary" 38 "ProofLibrary$Assertions") ∈ TB := TB_m (tc_1 (List.mem_of_getElem? (i := 224) rfl)) rfl
theorem tw_225 : (Cond.instantiable "ProofLibrary$Assertions" 20) ∈ TB := TB_m (tc_1 (List.mem_of_getElem? (i := 225) rfl)) rfl
theorem tw_226 : (Cond.methodLink "ProofLibrary" 40 ⟨"ProofLibrary$Assertions", "<init>", "(LProofLibrary$Library;LProofLibrary$Scopes;)V"⟩) ∈ TB := TB_m (tc_1 (List.mem_of_getElem? (i := 226) rfl)) rfl
theorem tw_227 : (Cond.instanceMethod ⟨"ProofLibrary$Assertions", "<init>", "(LProofLibrary$Library;LProofLibrary$Scopes;)V"⟩) ∈ TB := TB_m (tc_1 (List.mem_of_getElem? (i := 227) rfl)) rfl
theorem tw_228 : (Cond.code ⟨"ProofLibrary$Assertions", "<init>", "(LProofLibrary$Library;LProofLibrary$Scopes;)V"⟩ prog_2_method_1_code 3 none) ∈ TB := TB_m (tc_1 (List.mem_of_getElem? (i := 228) rfl)) rfl
theorem tw_229 : (Cond.methodLink "ProofLibrary$Assertions" 3 ⟨"java/lang/Object", "<init>", "()V"⟩) ∈ TB := TB_m (tc_1 (List.mem_of_getElem? (i := 229) rfl)) rfl
theorem tw_230 : (Cond.constant "ProofLibrary$Assertions" 18 90000) ∈ TB := TB_m (tc_1 (List.mem_of_getElem? (i := 230) rfl)) rfl
theorem tw_231 : (Cond.constant "ProofLibrary$Assertions" 50 36000) ∈ TB := TB_m (tc_1 (List.mem_of_getElem? (i := 231) rfl)) rfl
theorem tw_232 : (Cond.fieldLink "ProofLibrary$Assertions" 57 "ProofLibrary$Assertions" "library" "LProofLibrary$Library;") ∈ TB := TB_m (tc_1 (List.mem_of_getElem? (i := 232) rfl)) rfl
theorem tw_233 : (Cond.fieldLink "ProofLibrary$Assertions" 61 "ProofLibrary$Assertions" "scopes" "LProofLibrary$Scopes;") ∈ TB := TB_m (tc_1 (List.mem_of_getElem? (i := 233) rfl)) rfl
theorem tw_234 : (Cond.fieldLink "ProofLibrary$Assertions" 9 "ProofLibrary$Assertions" "frameAt" "[I") ∈ TB := TB_m (tc_1 (List.mem_of_getElem? (i := 234) rfl)) rfl
theorem tw_241 : (Cond.fieldLink "ProofLibrary$Assertions" 15 "ProofLibrary$Assertions" "frameSize" "[I") ∈ TB := TB_m (tc_2 (List.mem_of_getElem? (i := 1) rfl)) rfl
theorem tw_249 : (Cond.fieldLink "ProofLibrary$Assertions" 19 "ProofLibrary$Assertions" "hypotheses" "[I") ∈ TB := TB_m (tc_2 (List.mem_of_getElem? (i := 9) rfl)) rfl
theorem tw_256 : (Cond.fieldLink "ProofLibrary$Assertions" 65 "ProofLibrary$Assertions" "hypothesesUsed" "I") ∈ TB := TB_m (tc_2 (List.mem_of_getElem? (i := 16) rfl)) rfl
theorem tw_257 : (Cond.fieldLink "ProofLibrary$Assertions" 22 "ProofLibrary$Assertions" "pairAt" "[I") ∈ TB := TB_m (tc_2 (List.mem_of_getElem? (i := 17) rfl)) rfl
theorem tw_259 : (Cond.fieldLink "ProofLibrary$Assertions" 25 "ProofLibrary$Assertions" "pairSize" "[I") ∈ TB := TB_m (tc_2 (List.mem_of_getElem? (i := 19) rfl)) rfl
theorem tw_262 : (Cond.fieldLink "ProofLibrary$Assertions" 28 "ProofLibrary$Assertions" "pair" "[I") ∈ TB := TB_m (tc_2 (List.mem_of_getElem? (i := 22) rfl)) rfl
theorem tw_263 : (Cond.fieldLink "ProofLibrary$Assertions" 69 "ProofLibrary$Assertions" "pairs" "I") ∈ TB := TB_m (tc_2 (List.mem_of_getElem? (i := 23) rfl)) rfl
theorem tn_264 : (Cond.fieldLinkNest "ProofLibrary" 158 "ProofLibrary$Assertions" "pairs" "I" "ProofLibrary") ∈ NB := NB_m (tc_2 (List.mem_of_getElem? (i := 24) rfl)) rfl
theorem tw_265 : (Cond.fieldLink "ProofLibrary$Assertions" 31 "ProofLibrary$Assertions" "rowAt" "[I") ∈ TB := TB_m (tc_2 (List.mem_of_getElem? (i := 25) rfl)) rfl
theorem tw_269 : (Cond.fieldLink "ProofLibrary$Assertions" 34 "ProofLibrary$Assertions" "rowCount" "[I") ∈ TB := TB_m (tc_2 (List.mem_of_getElem? (i := 29) rfl)) rfl
theorem tw_273 : (Cond.fieldLink "ProofLibrary$Assertions" 37 "ProofLibrary$Assertions" "rowStatement" "[I") ∈ TB := TB_m (tc_2 (List.mem_of_getElem? (i := 33) rfl)) rfl
theorem tw_278 : (Cond.fieldLink "ProofLibrary$Assertions" 40 "ProofLibrary$Assertions" "childAt" "[I") ∈ TB := TB_m (tc_2 (List.mem_of_getElem? (i := 38) rfl)) rfl
theorem tw_283 : (Cond.fieldLink "ProofLibrary$Assertions" 43 "ProofLibrary$Assertions" "children" "[I") ∈ TB := TB_m (tc_2 (List.mem_of_getElem? (i := 43) rfl)) rfl
theorem tw_288 : (Cond.fieldLink "ProofLibrary$Assertions" 72 "ProofLibrary$Assertions" "rowsUsed" "I") ∈ TB := TB_m (tc_2 (List.mem_of_getElem? (i := 48) rfl)) rfl
theorem tw_290 : (Cond.fieldLink "ProofLibrary$Assertions" 75 "ProofLibrary$Assertions" "steps" "I") ∈ TB := TB_m (tc_2 (List.mem_of_getElem? (i := 50) rfl)) rfl
theorem tn_292 : (Cond.fieldLinkNest "ProofLibrary" 155 "ProofLibrary$Assertions" "steps" "I" "ProofLibrary") ∈ NB := NB_m (tc_2 (List.mem_of_getElem? (i := 52) rfl)) rfl
theorem tw_293 : (Cond.fieldLink "ProofLibrary$Assertions" 46 "ProofLibrary$Assertions" "rowLabels" "[J") ∈ TB := TB_m (tc_2 (List.mem_of_getElem? (i := 53) rfl)) rfl
theorem tw_294 : (Cond.fieldLink "ProofLibrary$Assertions" 51 "ProofLibrary$Assertions" "rests" "[J") ∈ TB := TB_m (tc_2 (List.mem_of_getElem? (i := 54) rfl)) rfl
theorem tw_295 : (Cond.fieldLink "ProofLibrary$Assertions" 54 "ProofLibrary$Assertions" "kept" "[I") ∈ TB := TB_m (tc_2 (List.mem_of_getElem? (i := 55) rfl)) rfl
theorem tw_296 : (Cond.laysFinal "ProofLibrary$Assertions" "ProofLibrary$Assertions" "library" "LProofLibrary$Library;") ∈ TB := TB_m (tc_2 (List.mem_of_getElem? (i := 56) rfl)) rfl
theorem tw_298 : (Cond.laysFinal "ProofLibrary$Assertions" "ProofLibrary$Assertions" "scopes" "LProofLibrary$Scopes;") ∈ TB := TB_m (tc_2 (List.mem_of_getElem? (i := 58) rfl)) rfl
theorem tw_300 : (Cond.laysFinal "ProofLibrary$Assertions" "ProofLibrary$Assertions" "frameAt" "[I") ∈ TB := TB_m (tc_2 (List.mem_of_getElem? (i := 60) rfl)) rfl
theorem tw_302 : (Cond.laysFinal "ProofLibrary$Assertions" "ProofLibrary$Assertions" "frameSize" "[I") ∈ TB := TB_m (tc_2 (List.mem_of_getElem? (i := 62) rfl)) rfl
theorem tw_304 : (Cond.laysFinal "ProofLibrary$Assertions" "ProofLibrary$Assertions" "hypotheses" "[I") ∈ TB := TB_m (tc_2 (List.mem_of_getElem? (i := 64) rfl)) rfl
theorem tw_306 : (Cond.lays "ProofLibrary$Assertions" "ProofLibrary$Assertions" "hypothesesUsed" "I") ∈ TB := TB_m (tc_2 (List.mem_of_getElem? (i := 66) rfl)) rfl
theorem tw_308 : (Cond.laysFinal "ProofLibrary$Assertions" "ProofLibrary$Assertions" "pairAt" "[I") ∈ TB := TB_m (tc_2 (List.mem_of_getElem? (i := 68) rfl)) rfl
theorem tw_310 : (Cond.laysFinal "ProofLibrary$Assertions" "ProofLibrary$Assertions" "pairSize" "[I") ∈ TB := TB_m (tc_2 (List.mem_of_getElem? (i := 70) rfl)) rfl
theorem tw_312 : (Cond.laysFinal "ProofLibrary$Assertions" "ProofLibrary$Assertions" "pair" "[I") ∈ TB := TB_m (tc_2 (List.mem_of_getElem? (i := 72) rfl)) rfl
theorem tw_314 : (Cond.lays "ProofLibrary$Assertions" "ProofLibrary$Assertions" "pairs" "I") ∈ TB := TB_m (tc_2 (List.mem_of_getElem? (i := 74) rfl)) rfl
theorem tw_316 : (Cond.laysFinal "ProofLibrary$Assertions" "ProofLibrary$Assertions" "rowAt" "[I") ∈ TB := TB_m (tc_2 (List.mem_of_getElem? (i := 76) rfl)) rfl
theorem tw_318 : (Cond.laysFinal "ProofLibrary$Assertions" "ProofLibrary$Assertions" "rowCount" "[I") ∈ TB := TB_m (tc_2 (List.mem_of_getElem? (i := 78) rfl)) rfl
theorem tw_320 : (Cond.laysFinal "ProofLibrary$Assertions" "ProofLibrary$Assertions" "rowStatement" "[I") ∈ TB := TB_m (tc_2 (List.mem_of_getElem? (i := 80) rfl)) rfl
theorem tw_322 : (Cond.laysFinal "ProofLibrary$Assertions" "ProofLibrary$Assertions" "childAt" "[I") ∈ TB := TB_m (tc_2 (List.mem_of_getElem? (i := 82) rfl)) rfl
theorem tw_324 : (Cond.laysFinal "ProofLibrary$Assertions" "ProofLibrary$Assertions" "children" "[I") ∈ TB := TB_m (tc_2 (List.mem_of_getElem? (i := 84) rfl)) rfl
theorem tw_326 : (Cond.lays "ProofLibrary$Assertions" "ProofLibrary$Assertions" "rowsUsed" "I") ∈ TB := TB_m (tc_2 (List.mem_of_getElem? (i := 86) rfl)) rfl
theorem tw_328 : (Cond.lays "ProofLibrary$Assertions" "ProofLibrary$Assertions" "steps" "I") ∈ TB := TB_m (tc_2 (List.mem_of_getElem? (i := 88) rfl)) rfl
theorem tw_330 : (Cond.laysFinal "ProofLibrary$Assertions" "ProofLibrary$Assertions" "rowLabels" "[J") ∈ TB := TB_m (tc_2 (List.mem_of_getElem? (i := 90) rfl)) rfl
theorem tw_332 : (Cond.laysFinal "ProofLibrary$Assertions" "ProofLibrary$Assertions" "rests" "[J") ∈ TB := TB_m (tc_2 (List.mem_of_getElem? (i := 92) rfl)) rfl
theorem tw_334 : (Cond.laysFinal "ProofLibrary$Assertions" "ProofLibrary$Assertions" "kept" "[I") ∈ TB := TB_m (tc_2 (List.mem_of_getElem? (i := 94) rfl)) rfl
theorem tw_337 : (Cond.classLink "ProofLibrary" 47 "ProofLibrary$Pile") ∈ TB := TB_m (tc_2 (List.mem_of_getElem? (i := 97) rfl)) rfl
theorem tw_338 : (Cond.instantiable "ProofLibrary$Pile" 17) ∈ TB := TB_m (tc_2 (List.mem_of_getElem? (i := 98) rfl)) rfl
theorem tw_339 : (Cond.methodLink "ProofLibrary" 49 ⟨"ProofLibrary$Pile", "<init>", "(LProofLibrary$Library;LProofLibrary$Assertions;LProofLibrary$Scopes;)V"⟩) ∈ TB := TB_m (tc_2 (List.mem_of_getElem? (i := 99) rfl)) rfl
theorem tw_340 : (Cond.instanceMethod ⟨"ProofLibrary$Pile", "<init>", "(LProofLibrary$Library;LProofLibrary$Assertions;LProofLibrary$Scopes;)V"⟩) ∈ TB := TB_m (tc_2 (List.mem_of_getElem? (i := 100) rfl)) rfl
theorem tw_341 : (Cond.code ⟨"ProofLibrary$Pile", "<init>", "(LProofLibrary$Library;LProofLibrary$Assertions;LProofLibrary$Scopes;)V"⟩ prog_8_method_1_code 4 none) ∈ TB := TB_m (tc_2 (List.mem_of_getElem? (i := 101) rfl)) rfl
theorem tw_342 : (Cond.methodLink "ProofLibrary$Pile" 3 ⟨"java/lang/Object", "<init>", "()V"⟩) ∈ TB := TB_m (tc_2 (List.mem_of_getElem? (i := 102) rfl)) rfl
theorem tw_343 : (Cond.constant "ProofLibrary$Pile" 11 42000) ∈ TB := TB_m (tc_2 (List.mem_of_getElem? (i := 103) rfl)) rfl
theorem tw_344 : (Cond.fieldLink "ProofLibrary$Pile" 43 "ProofLibrary$Pile" "library" "LProofLibrary$Library;") ∈ TB := TB_m (tc_2 (List.mem_of_getElem? (i := 104) rfl)) rfl
theorem tw_345 : (Cond.fieldLink "ProofLibrary$Pile" 47 "ProofLibrary$Pile" "assertions" "LProofLibrary$Assertions;") ∈ TB := TB_m (tc_2 (List.mem_of_getElem? (i := 105) rfl)) rfl
theorem tw_346 : (Cond.fieldLink "ProofLibrary$Pile" 51 "ProofLibrary$Pile" "scopes" "LProofLibrary$Scopes;") ∈ TB := TB_m (tc_2 (List.mem_of_getElem? (i := 106) rfl)) rfl
theorem tw_347 : (Cond.fieldLink "ProofLibrary$Pile" 12 "ProofLibrary$Pile" "data" "[I") ∈ TB := TB_m (tc_2 (List.mem_of_getElem? (i := 107) rfl)) rfl
theorem tw_353 : (Cond.fieldLink "ProofLibrary$Pile" 16 "ProofLibrary$Pile" "at" "[I") ∈ TB := TB_m (tc_2 (List.mem_of_getElem? (i := 113) rfl)) rfl
theorem tw_356 : (Cond.fieldLink "ProofLibrary$Pile" 19 "ProofLibrary$Pile" "size" "[I") ∈ TB := TB_m (tc_2 (List.mem_of_getElem? (i := 116) rfl)) rfl
theorem tw_360 : (Cond.fieldLink "ProofLibrary$Pile" 22 "ProofLibrary$Pile" "uses" "[I") ∈ TB := TB_m (tc_2 (List.mem_of_getElem? (i := 120) rfl)) rfl
theorem tw_361 : (Cond.fieldLink "ProofLibrary$Pile" 25 "ProofLibrary$Pile" "built" "[I") ∈ TB := TB_m (tc_2 (List.mem_of_getElem? (i := 121) rfl)) rfl
theorem tw_365 : (Cond.fieldLink "ProofLibrary$Pile" 28 "ProofLibrary$Pile" "becomesAt" "[I") ∈ TB := TB_m (tc_2 (List.mem_of_getElem? (i := 125) rfl)) rfl
theorem tw_366 : (Cond.fieldLink "ProofLibrary$Pile" 31 "ProofLibrary$Pile" "becomesSize" "[I") ∈ TB := TB_m (tc_2 (List.mem_of_getElem? (i := 126) rfl)) rfl
theorem tw_367 : (Cond.fieldLink "ProofLibrary$Pile" 34 "ProofLibrary$Pile" "met" "[I") ∈ TB := TB_m (tc_2 (List.mem_of_getElem? (i := 127) rfl)) rfl
theorem tw_369 : (Cond.fieldLink "ProofLibrary$Pile" 37 "ProofLibrary$Pile" "variablesX" "[I") ∈ TB := TB_m (tc_2 (List.mem_of_getElem? (i := 129) rfl)) rfl
theorem tw_370 : (Cond.fieldLink "ProofLibrary$Pile" 40 "ProofLibrary$Pile" "variablesY" "[I") ∈ TB := TB_m (tc_2 (List.mem_of_getElem? (i := 130) rfl)) rfl
theorem tw_371 : (Cond.laysFinal "ProofLibrary$Pile" "ProofLibrary$Pile" "library" "LProofLibrary$Library;") ∈ TB := TB_m (tc_2 (List.mem_of_getElem? (i := 131) rfl)) rfl
theorem tw_373 : (Cond.laysFinal "ProofLibrary$Pile" "ProofLibrary$Pile" "assertions" "LProofLibrary$Assertions;") ∈ TB := TB_m (tc_2 (List.mem_of_getElem? (i := 133) rfl)) rfl
theorem tw_375 : (Cond.laysFinal "ProofLibrary$Pile" "ProofLibrary$Pile" "scopes" "LProofLibrary$Scopes;") ∈ TB := TB_m (tc_2 (List.mem_of_getElem? (i := 135) rfl)) rfl
theorem tw_377 : (Cond.laysFinal "ProofLibrary$Pile" "ProofLibrary$Pile" "data" "[I") ∈ TB := TB_m (tc_2 (List.mem_of_getElem? (i := 137) rfl)) rfl
theorem tw_379 : (Cond.lays "ProofLibrary$Pile" "ProofLibrary$Pile" "low" "I") ∈ TB := TB_m (tc_2 (List.mem_of_getElem? (i := 139) rfl)) rfl
theorem tw_381 : (Cond.lays "ProofLibrary$Pile" "ProofLibrary$Pile" "high" "I") ∈ TB := TB_m (tc_2 (List.mem_of_getElem? (i := 141) rfl)) rfl
theorem tw_383 : (Cond.laysFinal "ProofLibrary$Pile" "ProofLibrary$Pile" "at" "[I") ∈ TB := TB_m (tc_2 (List.mem_of_getElem? (i := 143) rfl)) rfl
theorem tw_385 : (Cond.laysFinal "ProofLibrary$Pile" "ProofLibrary$Pile" "size" "[I") ∈ TB := TB_m (tc_2 (List.mem_of_getElem? (i := 145) rfl)) rfl
theorem tw_387 : (Cond.laysFinal "ProofLibrary$Pile" "ProofLibrary$Pile" "uses" "[I") ∈ TB := TB_m (tc_2 (List.mem_of_getElem? (i := 147) rfl)) rfl
theorem tw_389 : (Cond.laysFinal "ProofLibrary$Pile" "ProofLibrary$Pile" "built" "[I") ∈ TB := TB_m (tc_2 (List.mem_of_getElem? (i := 149) rfl)) rfl
theorem tw_391 : (Cond.lays "ProofLibrary$Pile" "ProofLibrary$Pile" "builtSize" "I") ∈ TB := TB_m (tc_2 (List.mem_of_getElem? (i := 151) rfl)) rfl
theorem tw_393 : (Cond.laysFinal "ProofLibrary$Pile" "ProofLibrary$Pile" "becomesAt" "[I") ∈ TB := TB_m (tc_2 (List.mem_of_getElem? (i := 153) rfl)) rfl
theorem tw_395 : (Cond.laysFinal "ProofLibrary$Pile" "ProofLibrary$Pile" "becomesSize" "[I") ∈ TB := TB_m (tc_2 (List.mem_of_getElem? (i := 155) rfl)) rfl
theorem tw_397 : (Cond.laysFinal "ProofLibrary$Pile" "ProofLibrary$Pile" "met" "[I") ∈ TB := TB_m (tc_2 (List.mem_of_getElem? (i := 157) rfl)) rfl
theorem tw_399 : (Cond.lays "ProofLibrary$Pile" "ProofLibrary$Pile" "turn" "I") ∈ TB := TB_m (tc_2 (List.mem_of_getElem? (i := 159) rfl)) rfl
theorem tw_401 : (Cond.laysFinal "ProofLibrary$Pile" "ProofLibrary$Pile" "variablesX" "[I") ∈ TB := TB_m (tc_2 (List.mem_of_getElem? (i := 161) rfl)) rfl
theorem tw_403 : (Cond.laysFinal "ProofLibrary$Pile" "ProofLibrary$Pile" "variablesY" "[I") ∈ TB := TB_m (tc_2 (List.mem_of_getElem? (i := 163) rfl)) rfl
theorem tw_406 : (Cond.classLink "ProofLibrary" 56 "ProofLibrary$Reader") ∈ TB := TB_m (tc_2 (List.mem_of_getElem? (i := 166) rfl)) rfl
theorem tw_407 : (Cond.instantiable "ProofLibrary$Reader" 13) ∈ TB := TB_m (tc_2 (List.mem_of_getElem? (i := 167) rfl)) rfl
theorem tw_408 : (Cond.classLink "ProofLibrary" 58 "ProofLibrary$Steps") ∈ TB := TB_m (tc_2 (List.mem_of_getElem? (i := 168) rfl)) rfl
theorem tw_409 : (Cond.instantiable "ProofLibrary$Steps" 21) ∈ TB := TB_m (tc_2 (List.mem_of_getElem? (i := 169) rfl)) rfl
theorem tw_410 : (Cond.methodLink "ProofLibrary" 60 ⟨"ProofLibrary$Steps", "<init>", "(LProofLibrary$Library;LProofLibrary$Assertions;LProofLibrary$Scopes;LProofLibrary$Pile;)V"⟩) ∈ TB := TB_m (tc_2 (List.mem_of_getElem? (i := 170) rfl)) rfl
theorem tw_411 : (Cond.instanceMethod ⟨"ProofLibrary$Steps", "<init>", "(LProofLibrary$Library;LProofLibrary$Assertions;LProofLibrary$Scopes;LProofLibrary$Pile;)V"⟩) ∈ TB := TB_m (tc_2 (List.mem_of_getElem? (i := 171) rfl)) rfl
theorem tw_412 : (Cond.code ⟨"ProofLibrary$Steps", "<init>", "(LProofLibrary$Library;LProofLibrary$Assertions;LProofLibrary$Scopes;LProofLibrary$Pile;)V"⟩ prog_12_method_1_code 5 none) ∈ TB := TB_m (tc_2 (List.mem_of_getElem? (i := 172) rfl)) rfl
theorem tw_413 : (Cond.methodLink "ProofLibrary$Steps" 3 ⟨"java/lang/Object", "<init>", "()V"⟩) ∈ TB := TB_m (tc_2 (List.mem_of_getElem? (i := 173) rfl)) rfl
theorem tw_414 : (Cond.fieldLink "ProofLibrary$Steps" 27 "ProofLibrary$Steps" "library" "LProofLibrary$Library;") ∈ TB := TB_m (tc_2 (List.mem_of_getElem? (i := 174) rfl)) rfl
theorem tw_415 : (Cond.fieldLink "ProofLibrary$Steps" 31 "ProofLibrary$Steps" "assertions" "LProofLibrary$Assertions;") ∈ TB := TB_m (tc_2 (List.mem_of_getElem? (i := 175) rfl)) rfl
theorem tw_416 : (Cond.fieldLink "ProofLibrary$Steps" 35 "ProofLibrary$Steps" "scopes" "LProofLibrary$Scopes;") ∈ TB := TB_m (tc_2 (List.mem_of_getElem? (i := 176) rfl)) rfl
theorem tw_417 : (Cond.fieldLink "ProofLibrary$Steps" 39 "ProofLibrary$Steps" "pile" "LProofLibrary$Pile;") ∈ TB := TB_m (tc_2 (List.mem_of_getElem? (i := 177) rfl)) rfl
theorem tw_418 : (Cond.fieldLink "ProofLibrary$Steps" 9 "ProofLibrary$Steps" "steps" "[I") ∈ TB := TB_m (tc_2 (List.mem_of_getElem? (i := 178) rfl)) rfl
theorem tw_419 : (Cond.fieldLink "ProofLibrary$Steps" 15 "ProofLibrary$Steps" "places" "[I") ∈ TB := TB_m (tc_2 (List.mem_of_getElem? (i := 179) rfl)) rfl
theorem tw_421 : (Cond.fieldLink "ProofLibrary$Steps" 18 "ProofLibrary$Steps" "listed" "[I") ∈ TB := TB_m (tc_2 (List.mem_of_getElem? (i := 181) rfl)) rfl
theorem tw_432 : (Cond.fieldLink "ProofLibrary$Steps" 21 "ProofLibrary$Steps" "pileRow" "[I") ∈ TB := TB_m (tc_2 (List.mem_of_getElem? (i := 192) rfl)) rfl
theorem tw_434 : (Cond.fieldLink "ProofLibrary$Steps" 24 "ProofLibrary$Steps" "savedRow" "[I") ∈ TB := TB_m (tc_2 (List.mem_of_getElem? (i := 194) rfl)) rfl
theorem tw_437 : (Cond.laysFinal "ProofLibrary$Steps" "ProofLibrary$Steps" "library" "LProofLibrary$Library;") ∈ TB := TB_m (tc_2 (List.mem_of_getElem? (i := 197) rfl)) rfl
theorem tw_439 : (Cond.laysFinal "ProofLibrary$Steps" "ProofLibrary$Steps" "assertions" "LProofLibrary$Assertions;") ∈ TB := TB_m (tc_2 (List.mem_of_getElem? (i := 199) rfl)) rfl
theorem tw_441 : (Cond.laysFinal "ProofLibrary$Steps" "ProofLibrary$Steps" "scopes" "LProofLibrary$Scopes;") ∈ TB := TB_m (tc_2 (List.mem_of_getElem? (i := 201) rfl)) rfl
theorem tw_443 : (Cond.laysFinal "ProofLibrary$Steps" "ProofLibrary$Steps" "pile" "LProofLibrary$Pile;") ∈ TB := TB_m (tc_2 (List.mem_of_getElem? (i := 203) rfl)) rfl
theorem tw_445 : (Cond.laysFinal "ProofLibrary$Steps" "ProofLibrary$Steps" "steps" "[I") ∈ TB := TB_m (tc_2 (List.mem_of_getElem? (i := 205) rfl)) rfl
theorem tw_447 : (Cond.laysFinal "ProofLibrary$Steps" "ProofLibrary$Steps" "places" "[I") ∈ TB := TB_m (tc_2 (List.mem_of_getElem? (i := 207) rfl)) rfl
theorem tw_449 : (Cond.lays "ProofLibrary$Steps" "ProofLibrary$Steps" "count" "I") ∈ TB := TB_m (tc_2 (List.mem_of_getElem? (i := 209) rfl)) rfl
theorem tw_451 : (Cond.laysFinal "ProofLibrary$Steps" "ProofLibrary$Steps" "listed" "[I") ∈ TB := TB_m (tc_2 (List.mem_of_getElem? (i := 211) rfl)) rfl
theorem tw_453 : (Cond.lays "ProofLibrary$Steps" "ProofLibrary$Steps" "listedCount" "I") ∈ TB := TB_m (tc_2 (List.mem_of_getElem? (i := 213) rfl)) rfl
theorem tw_455 : (Cond.lays "ProofLibrary$Steps" "ProofLibrary$Steps" "savedCount" "I") ∈ TB := TB_m (tc_2 (List.mem_of_getElem? (i := 215) rfl)) rfl
theorem tw_457 : (Cond.lays "ProofLibrary$Steps" "ProofLibrary$Steps" "theorem" "I") ∈ TB := TB_m (tc_2 (List.mem_of_getElem? (i := 217) rfl)) rfl
theorem tw_459 : (Cond.lays "ProofLibrary$Steps" "ProofLibrary$Steps" "form" "I") ∈ TB := TB_m (tc_2 (List.mem_of_getElem? (i := 219) rfl)) rfl
theorem tw_461 : (Cond.lays "ProofLibrary$Steps" "ProofLibrary$Steps" "number" "I") ∈ TB := TB_m (tc_2 (List.mem_of_getElem? (i := 221) rfl)) rfl
theorem tw_463 : (Cond.lays "ProofLibrary$Steps" "ProofLibrary$Steps" "afterAssertion" "Z") ∈ TB := TB_m (tc_2 (List.mem_of_getElem? (i := 223) rfl)) rfl
theorem tw_465 : (Cond.lays "ProofLibrary$Steps" "ProofLibrary$Steps" "open" "Z") ∈ TB := TB_m (tc_2 (List.mem_of_getElem? (i := 225) rfl)) rfl
theorem tw_467 : (Cond.lays "ProofLibrary$Steps" "ProofLibrary$Steps" "place" "I") ∈ TB := TB_m (tc_2 (List.mem_of_getElem? (i := 227) rfl)) rfl
theorem tw_469 : (Cond.laysFinal "ProofLibrary$Steps" "ProofLibrary$Steps" "pileRow" "[I") ∈ TB := TB_m (tc_2 (List.mem_of_getElem? (i := 229) rfl)) rfl
theorem tw_471 : (Cond.lays "ProofLibrary$Steps" "ProofLibrary$Steps" "pileRows" "I") ∈ TB := TB_m (tc_2 (List.mem_of_getElem? (i := 231) rfl)) rfl
theorem tw_473 : (Cond.laysFinal "ProofLibrary$Steps" "ProofLibrary$Steps" "savedRow" "[I") ∈ TB := TB_m (tc_2 (List.mem_of_getElem? (i := 233) rfl)) rfl
theorem tw_475 : (Cond.lays "ProofLibrary$Steps" "ProofLibrary$Steps" "symbols" "I") ∈ TB := TB_m (tc_2 (List.mem_of_getElem? (i := 235) rfl)) rfl
theorem tw_477 : (Cond.lays "ProofLibrary$Steps" "ProofLibrary$Steps" "rows" "I") ∈ TB := TB_m (tc_2 (List.mem_of_getElem? (i := 237) rfl)) rfl
theorem tw_480 : (Cond.methodLink "ProofLibrary" 63 ⟨"ProofLibrary$Reader", "<init>", "(LProofLibrary$Library;LProofLibrary$Assertions;LProofLibrary$Scopes;LProofLibrary$Steps;)V"⟩) ∈ TB := TB_m (tc_3 (List.mem_of_getElem? (i := 0) rfl)) rfl
theorem tw_481 : (Cond.instanceMethod ⟨"ProofLibrary$Reader", "<init>", "(LProofLibrary$Library;LProofLibrary$Assertions;LProofLibrary$Scopes;LProofLibrary$Steps;)V"⟩) ∈ TB := TB_m (tc_3 (List.mem_of_getElem? (i := 1) rfl)) rfl
theorem tw_482 : (Cond.code ⟨"ProofLibrary$Reader", "<init>", "(LProofLibrary$Library;LProofLibrary$Assertions;LProofLibrary$Scopes;LProofLibrary$Steps;)V"⟩ prog_9_method_1_code 5 none) ∈ TB := TB_m (tc_3 (List.mem_of_getElem? (i := 2) rfl)) rfl
theorem tw_483 : (Cond.methodLink "ProofLibrary$Reader" 3 ⟨"java/lang/Object", "<init>", "()V"⟩) ∈ TB := TB_m (tc_3 (List.mem_of_getElem? (i := 3) rfl)) rfl
theorem tw_484 : (Cond.fieldLink "ProofLibrary$Reader" 15 "ProofLibrary$Reader" "library" "LProofLibrary$Library;") ∈ TB := TB_m (tc_3 (List.mem_of_getElem? (i := 4) rfl)) rfl
theorem tw_485 : (Cond.fieldLink "ProofLibrary$Reader" 19 "ProofLibrary$Reader" "assertions" "LProofLibrary$Assertions;") ∈ TB := TB_m (tc_3 (List.mem_of_getElem? (i := 5) rfl)) rfl
theorem tw_486 : (Cond.fieldLink "ProofLibrary$Reader" 23 "ProofLibrary$Reader" "scopes" "LProofLibrary$Scopes;") ∈ TB := TB_m (tc_3 (List.mem_of_getElem? (i := 6) rfl)) rfl
theorem tw_487 : (Cond.fieldLink "ProofLibrary$Reader" 27 "ProofLibrary$Reader" "steps" "LProofLibrary$Steps;") ∈ TB := TB_m (tc_3 (List.mem_of_getElem? (i := 7) rfl)) rfl
theorem tw_488 : (Cond.fieldLink "ProofLibrary$Reader" 9 "ProofLibrary$Reader" "disjoint" "[I") ∈ TB := TB_m (tc_3 (List.mem_of_getElem? (i := 8) rfl)) rfl
theorem tw_489 : (Cond.fieldLink "ProofLibrary$Reader" 71 "ProofLibrary$Reader" "source" "[C") ∈ TB := TB_m (tc_3 (List.mem_of_getElem? (i := 9) rfl)) rfl
theorem tw_490 : (Cond.fieldLink "ProofLibrary$Reader" 42 "ProofLibrary$Reader" "place" "I") ∈ TB := TB_m (tc_3 (List.mem_of_getElem? (i := 10) rfl)) rfl
theorem tw_492 : (Cond.fieldLink "ProofLibrary$Reader" 75 "ProofLibrary$Reader" "comment" "Z") ∈ TB := TB_m (tc_3 (List.mem_of_getElem? (i := 12) rfl)) rfl
theorem tw_493 : (Cond.fieldLink "ProofLibrary$Reader" 50 "ProofLibrary$Reader" "state" "I") ∈ TB := TB_m (tc_3 (List.mem_of_getElem? (i := 13) rfl)) rfl
theorem tw_498 : (Cond.laysFinal "ProofLibrary$Reader" "ProofLibrary$Reader" "library" "LProofLibrary$Library;") ∈ TB := TB_m (tc_3 (List.mem_of_getElem? (i := 18) rfl)) rfl
theorem tw_500 : (Cond.laysFinal "ProofLibrary$Reader" "ProofLibrary$Reader" "assertions" "LProofLibrary$Assertions;") ∈ TB := TB_m (tc_3 (List.mem_of_getElem? (i := 20) rfl)) rfl
theorem tw_502 : (Cond.laysFinal "ProofLibrary$Reader" "ProofLibrary$Reader" "scopes" "LProofLibrary$Scopes;") ∈ TB := TB_m (tc_3 (List.mem_of_getElem? (i := 22) rfl)) rfl
theorem tw_504 : (Cond.laysFinal "ProofLibrary$Reader" "ProofLibrary$Reader" "steps" "LProofLibrary$Steps;") ∈ TB := TB_m (tc_3 (List.mem_of_getElem? (i := 24) rfl)) rfl
theorem tw_506 : (Cond.laysFinal "ProofLibrary$Reader" "ProofLibrary$Reader" "disjoint" "[I") ∈ TB := TB_m (tc_3 (List.mem_of_getElem? (i := 26) rfl)) rfl
theorem tw_508 : (Cond.lays "ProofLibrary$Reader" "ProofLibrary$Reader" "source" "[C") ∈ TB := TB_m (tc_3 (List.mem_of_getElem? (i := 28) rfl)) rfl
theorem tw_510 : (Cond.lays "ProofLibrary$Reader" "ProofLibrary$Reader" "place" "I") ∈ TB := TB_m (tc_3 (List.mem_of_getElem? (i := 30) rfl)) rfl
theorem tw_512 : (Cond.lays "ProofLibrary$Reader" "ProofLibrary$Reader" "comment" "Z") ∈ TB := TB_m (tc_3 (List.mem_of_getElem? (i := 32) rfl)) rfl
theorem tw_514 : (Cond.lays "ProofLibrary$Reader" "ProofLibrary$Reader" "state" "I") ∈ TB := TB_m (tc_3 (List.mem_of_getElem? (i := 34) rfl)) rfl
theorem tw_516 : (Cond.lays "ProofLibrary$Reader" "ProofLibrary$Reader" "items" "I") ∈ TB := TB_m (tc_3 (List.mem_of_getElem? (i := 36) rfl)) rfl
theorem tw_518 : (Cond.lays "ProofLibrary$Reader" "ProofLibrary$Reader" "kind" "I") ∈ TB := TB_m (tc_3 (List.mem_of_getElem? (i := 38) rfl)) rfl
theorem tw_520 : (Cond.lays "ProofLibrary$Reader" "ProofLibrary$Reader" "namedSymbol" "I") ∈ TB := TB_m (tc_3 (List.mem_of_getElem? (i := 40) rfl)) rfl
theorem tw_522 : (Cond.lays "ProofLibrary$Reader" "ProofLibrary$Reader" "namedStatement" "I") ∈ TB := TB_m (tc_3 (List.mem_of_getElem? (i := 42) rfl)) rfl
theorem tw_525 : (Cond.classLink "ProofLibrary" 70 "ProofLibrary$Packer") ∈ TB := TB_m (tc_3 (List.mem_of_getElem? (i := 45) rfl)) rfl
theorem tw_526 : (Cond.instantiable "ProofLibrary$Packer" 19) ∈ TB := TB_m (tc_3 (List.mem_of_getElem? (i := 46) rfl)) rfl
theorem tw_527 : (Cond.methodLink "ProofLibrary" 72 ⟨"ProofLibrary$Packer", "<init>", "(LProofLibrary$Library;LProofLibrary$Assertions;)V"⟩) ∈ TB := TB_m (tc_3 (List.mem_of_getElem? (i := 47) rfl)) rfl
theorem tw_528 : (Cond.instanceMethod ⟨"ProofLibrary$Packer", "<init>", "(LProofLibrary$Library;LProofLibrary$Assertions;)V"⟩) ∈ TB := TB_m (tc_3 (List.mem_of_getElem? (i := 48) rfl)) rfl
theorem tw_529 : (Cond.code ⟨"ProofLibrary$Packer", "<init>", "(LProofLibrary$Library;LProofLibrary$Assertions;)V"⟩ prog_6_method_1_code 3 none) ∈ TB := TB_m (tc_3 (List.mem_of_getElem? (i := 49) rfl)) rfl
theorem tw_530 : (Cond.methodLink "ProofLibrary$Packer" 3 ⟨"java/lang/Object", "<init>", "()V"⟩) ∈ TB := TB_m (tc_3 (List.mem_of_getElem? (i := 50) rfl)) rfl
theorem tw_531 : (Cond.constant "ProofLibrary$Packer" 15 32768) ∈ TB := TB_m (tc_3 (List.mem_of_getElem? (i := 51) rfl)) rfl
theorem tw_532 : (Cond.fieldLink "ProofLibrary$Packer" 49 "ProofLibrary$Packer" "library" "LProofLibrary$Library;") ∈ TB := TB_m (tc_3 (List.mem_of_getElem? (i := 52) rfl)) rfl
theorem tw_533 : (Cond.fieldLink "ProofLibrary$Packer" 53 "ProofLibrary$Packer" "assertions" "LProofLibrary$Assertions;") ∈ TB := TB_m (tc_3 (List.mem_of_getElem? (i := 53) rfl)) rfl
theorem tw_534 : (Cond.fieldLink "ProofLibrary$Packer" 9 "ProofLibrary$Packer" "sameAs" "[I") ∈ TB := TB_m (tc_3 (List.mem_of_getElem? (i := 54) rfl)) rfl
theorem tw_535 : (Cond.fieldLink "ProofLibrary$Packer" 16 "ProofLibrary$Packer" "heads" "[I") ∈ TB := TB_m (tc_3 (List.mem_of_getElem? (i := 55) rfl)) rfl
theorem tw_536 : (Cond.fieldLink "ProofLibrary$Packer" 19 "ProofLibrary$Packer" "nextRow" "[I") ∈ TB := TB_m (tc_3 (List.mem_of_getElem? (i := 56) rfl)) rfl
theorem tw_537 : (Cond.fieldLink "ProofLibrary$Packer" 22 "ProofLibrary$Packer" "tellings" "[I") ∈ TB := TB_m (tc_3 (List.mem_of_getElem? (i := 57) rfl)) rfl
theorem tw_538 : (Cond.fieldLink "ProofLibrary$Packer" 25 "ProofLibrary$Packer" "numbers" "[I") ∈ TB := TB_m (tc_3 (List.mem_of_getElem? (i := 58) rfl)) rfl
theorem tw_539 : (Cond.fieldLink "ProofLibrary$Packer" 28 "ProofLibrary$Packer" "labelNumbers" "[I") ∈ TB := TB_m (tc_3 (List.mem_of_getElem? (i := 59) rfl)) rfl
theorem tw_540 : (Cond.fieldLink "ProofLibrary$Packer" 31 "ProofLibrary$Packer" "listed" "[I") ∈ TB := TB_m (tc_3 (List.mem_of_getElem? (i := 60) rfl)) rfl
theorem tw_544 : (Cond.fieldLink "ProofLibrary$Packer" 34 "ProofLibrary$Packer" "told" "[I") ∈ TB := TB_m (tc_3 (List.mem_of_getElem? (i := 64) rfl)) rfl
theorem tw_547 : (Cond.fieldLink "ProofLibrary$Packer" 37 "ProofLibrary$Packer" "stackRow" "[I") ∈ TB := TB_m (tc_3 (List.mem_of_getElem? (i := 67) rfl)) rfl
theorem tw_548 : (Cond.fieldLink "ProofLibrary$Packer" 40 "ProofLibrary$Packer" "stackNext" "[I") ∈ TB := TB_m (tc_3 (List.mem_of_getElem? (i := 68) rfl)) rfl
theorem tw_550 : (Cond.fieldLink "ProofLibrary$Packer" 43 "ProofLibrary$Packer" "full" "[I") ∈ TB := TB_m (tc_3 (List.mem_of_getElem? (i := 70) rfl)) rfl
theorem tw_552 : (Cond.fieldLink "ProofLibrary$Packer" 46 "ProofLibrary$Packer" "starts" "[I") ∈ TB := TB_m (tc_3 (List.mem_of_getElem? (i := 72) rfl)) rfl
theorem tw_554 : (Cond.laysFinal "ProofLibrary$Packer" "ProofLibrary$Packer" "library" "LProofLibrary$Library;") ∈ TB := TB_m (tc_3 (List.mem_of_getElem? (i := 74) rfl)) rfl
theorem tw_556 : (Cond.laysFinal "ProofLibrary$Packer" "ProofLibrary$Packer" "assertions" "LProofLibrary$Assertions;") ∈ TB := TB_m (tc_3 (List.mem_of_getElem? (i := 76) rfl)) rfl
theorem tw_558 : (Cond.laysFinal "ProofLibrary$Packer" "ProofLibrary$Packer" "sameAs" "[I") ∈ TB := TB_m (tc_3 (List.mem_of_getElem? (i := 78) rfl)) rfl
theorem tw_560 : (Cond.laysFinal "ProofLibrary$Packer" "ProofLibrary$Packer" "heads" "[I") ∈ TB := TB_m (tc_3 (List.mem_of_getElem? (i := 80) rfl)) rfl
theorem tw_562 : (Cond.laysFinal "ProofLibrary$Packer" "ProofLibrary$Packer" "nextRow" "[I") ∈ TB := TB_m (tc_3 (List.mem_of_getElem? (i := 82) rfl)) rfl
theorem tw_564 : (Cond.laysFinal "ProofLibrary$Packer" "ProofLibrary$Packer" "tellings" "[I") ∈ TB := TB_m (tc_3 (List.mem_of_getElem? (i := 84) rfl)) rfl
theorem tw_566 : (Cond.laysFinal "ProofLibrary$Packer" "ProofLibrary$Packer" "numbers" "[I") ∈ TB := TB_m (tc_3 (List.mem_of_getElem? (i := 86) rfl)) rfl
theorem tw_568 : (Cond.laysFinal "ProofLibrary$Packer" "ProofLibrary$Packer" "labelNumbers" "[I") ∈ TB := TB_m (tc_3 (List.mem_of_getElem? (i := 88) rfl)) rfl
theorem tw_570 : (Cond.laysFinal "ProofLibrary$Packer" "ProofLibrary$Packer" "listed" "[I") ∈ TB := TB_m (tc_3 (List.mem_of_getElem? (i := 90) rfl)) rfl
theorem tw_572 : (Cond.lays "ProofLibrary$Packer" "ProofLibrary$Packer" "listedCount" "I") ∈ TB := TB_m (tc_3 (List.mem_of_getElem? (i := 92) rfl)) rfl
theorem tw_574 : (Cond.laysFinal "ProofLibrary$Packer" "ProofLibrary$Packer" "told" "[I") ∈ TB := TB_m (tc_3 (List.mem_of_getElem? (i := 94) rfl)) rfl
theorem tw_576 : (Cond.lays "ProofLibrary$Packer" "ProofLibrary$Packer" "toldCount" "I") ∈ TB := TB_m (tc_3 (List.mem_of_getElem? (i := 96) rfl)) rfl
theorem tw_578 : (Cond.laysFinal "ProofLibrary$Packer" "ProofLibrary$Packer" "stackRow" "[I") ∈ TB := TB_m (tc_3 (List.mem_of_getElem? (i := 98) rfl)) rfl
theorem tw_580 : (Cond.laysFinal "ProofLibrary$Packer" "ProofLibrary$Packer" "stackNext" "[I") ∈ TB := TB_m (tc_3 (List.mem_of_getElem? (i := 100) rfl)) rfl
theorem tw_582 : (Cond.lays "ProofLibrary$Packer" "ProofLibrary$Packer" "depth" "I") ∈ TB := TB_m (tc_3 (List.mem_of_getElem? (i := 102) rfl)) rfl
theorem tw_584 : (Cond.laysFinal "ProofLibrary$Packer" "ProofLibrary$Packer" "full" "[I") ∈ TB := TB_m (tc_3 (List.mem_of_getElem? (i := 104) rfl)) rfl
theorem tw_586 : (Cond.lays "ProofLibrary$Packer" "ProofLibrary$Packer" "fullCount" "I") ∈ TB := TB_m (tc_3 (List.mem_of_getElem? (i := 106) rfl)) rfl
theorem tw_588 : (Cond.laysFinal "ProofLibrary$Packer" "ProofLibrary$Packer" "starts" "[I") ∈ TB := TB_m (tc_3 (List.mem_of_getElem? (i := 108) rfl)) rfl
theorem tw_590 : (Cond.lays "ProofLibrary$Packer" "ProofLibrary$Packer" "base" "I") ∈ TB := TB_m (tc_3 (List.mem_of_getElem? (i := 110) rfl)) rfl
theorem tw_593 : (Cond.classLink "ProofLibrary" 79 "ProofLibrary$Rules") ∈ TB := TB_m (tc_3 (List.mem_of_getElem? (i := 113) rfl)) rfl
theorem tw_594 : (Cond.instantiable "ProofLibrary$Rules" 17) ∈ TB := TB_m (tc_3 (List.mem_of_getElem? (i := 114) rfl)) rfl
theorem tw_595 : (Cond.methodLink "ProofLibrary" 81 ⟨"ProofLibrary$Rules", "<init>", "(LProofLibrary$Library;LProofLibrary$Assertions;)V"⟩) ∈ TB := TB_m (tc_3 (List.mem_of_getElem? (i := 115) rfl)) rfl
theorem tw_596 : (Cond.instanceMethod ⟨"ProofLibrary$Rules", "<init>", "(LProofLibrary$Library;LProofLibrary$Assertions;)V"⟩) ∈ TB := TB_m (tc_3 (List.mem_of_getElem? (i := 116) rfl)) rfl
theorem tw_597 : (Cond.code ⟨"ProofLibrary$Rules", "<init>", "(LProofLibrary$Library;LProofLibrary$Assertions;)V"⟩ prog_10_method_1_code 3 none) ∈ TB := TB_m (tc_3 (List.mem_of_getElem? (i := 117) rfl)) rfl
theorem tw_598 : (Cond.methodLink "ProofLibrary$Rules" 3 ⟨"java/lang/Object", "<init>", "()V"⟩) ∈ TB := TB_m (tc_3 (List.mem_of_getElem? (i := 118) rfl)) rfl
theorem tw_599 : (Cond.fieldLink "ProofLibrary$Rules" 52 "ProofLibrary$Rules" "library" "LProofLibrary$Library;") ∈ TB := TB_m (tc_3 (List.mem_of_getElem? (i := 119) rfl)) rfl
theorem tw_600 : (Cond.fieldLink "ProofLibrary$Rules" 56 "ProofLibrary$Rules" "assertions" "LProofLibrary$Assertions;") ∈ TB := TB_m (tc_3 (List.mem_of_getElem? (i := 120) rfl)) rfl
theorem tw_601 : (Cond.fieldLink "ProofLibrary$Rules" 9 "ProofLibrary$Rules" "firstChild" "[I") ∈ TB := TB_m (tc_3 (List.mem_of_getElem? (i := 121) rfl)) rfl
theorem tw_603 : (Cond.fieldLink "ProofLibrary$Rules" 15 "ProofLibrary$Rules" "sibling" "[I") ∈ TB := TB_m (tc_3 (List.mem_of_getElem? (i := 123) rfl)) rfl
theorem tw_605 : (Cond.fieldLink "ProofLibrary$Rules" 18 "ProofLibrary$Rules" "key" "[I") ∈ TB := TB_m (tc_3 (List.mem_of_getElem? (i := 125) rfl)) rfl
theorem tw_607 : (Cond.fieldLink "ProofLibrary$Rules" 21 "ProofLibrary$Rules" "born" "[I") ∈ TB := TB_m (tc_3 (List.mem_of_getElem? (i := 127) rfl)) rfl
theorem tw_609 : (Cond.fieldLink "ProofLibrary$Rules" 24 "ProofLibrary$Rules" "firstRule" "[I") ∈ TB := TB_m (tc_3 (List.mem_of_getElem? (i := 129) rfl)) rfl
theorem tw_611 : (Cond.fieldLink "ProofLibrary$Rules" 27 "ProofLibrary$Rules" "nextRule" "[I") ∈ TB := TB_m (tc_3 (List.mem_of_getElem? (i := 131) rfl)) rfl
theorem tw_613 : (Cond.fieldLink "ProofLibrary$Rules" 30 "ProofLibrary$Rules" "nodes" "I") ∈ TB := TB_m (tc_3 (List.mem_of_getElem? (i := 133) rfl)) rfl
theorem tw_614 : (Cond.fieldLink "ProofLibrary$Rules" 34 "ProofLibrary$Rules" "atConstant" "[I") ∈ TB := TB_m (tc_3 (List.mem_of_getElem? (i := 134) rfl)) rfl
theorem tw_616 : (Cond.fieldLink "ProofLibrary$Rules" 37 "ProofLibrary$Rules" "atSort" "[I") ∈ TB := TB_m (tc_3 (List.mem_of_getElem? (i := 136) rfl)) rfl
theorem tw_618 : (Cond.fieldLink "ProofLibrary$Rules" 40 "ProofLibrary$Rules" "unitRule" "[I") ∈ TB := TB_m (tc_3 (List.mem_of_getElem? (i := 138) rfl)) rfl
theorem tw_620 : (Cond.fieldLink "ProofLibrary$Rules" 43 "ProofLibrary$Rules" "unitFrom" "[I") ∈ TB := TB_m (tc_3 (List.mem_of_getElem? (i := 140) rfl)) rfl
theorem tw_624 : (Cond.fieldLink "ProofLibrary$Rules" 71 "ProofLibrary$Rules" "learned" "I") ∈ TB := TB_m (tc_3 (List.mem_of_getElem? (i := 144) rfl)) rfl
theorem tw_625 : (Cond.fieldLink "ProofLibrary$Rules" 46 "ProofLibrary$Rules" "provable" "I") ∈ TB := TB_m (tc_3 (List.mem_of_getElem? (i := 145) rfl)) rfl
theorem tw_627 : (Cond.fieldLink "ProofLibrary$Rules" 49 "ProofLibrary$Rules" "wff" "I") ∈ TB := TB_m (tc_3 (List.mem_of_getElem? (i := 147) rfl)) rfl
theorem tw_628 : (Cond.laysFinal "ProofLibrary$Rules" "ProofLibrary$Rules" "library" "LProofLibrary$Library;") ∈ TB := TB_m (tc_3 (List.mem_of_getElem? (i := 148) rfl)) rfl
theorem tw_630 : (Cond.laysFinal "ProofLibrary$Rules" "ProofLibrary$Rules" "assertions" "LProofLibrary$Assertions;") ∈ TB := TB_m (tc_3 (List.mem_of_getElem? (i := 150) rfl)) rfl
theorem tw_632 : (Cond.laysFinal "ProofLibrary$Rules" "ProofLibrary$Rules" "firstChild" "[I") ∈ TB := TB_m (tc_3 (List.mem_of_getElem? (i := 152) rfl)) rfl
theorem tw_634 : (Cond.laysFinal "ProofLibrary$Rules" "ProofLibrary$Rules" "sibling" "[I") ∈ TB := TB_m (tc_3 (List.mem_of_getElem? (i := 154) rfl)) rfl
theorem tw_636 : (Cond.laysFinal "ProofLibrary$Rules" "ProofLibrary$Rules" "key" "[I") ∈ TB := TB_m (tc_3 (List.mem_of_getElem? (i := 156) rfl)) rfl
theorem tw_638 : (Cond.laysFinal "ProofLibrary$Rules" "ProofLibrary$Rules" "born" "[I") ∈ TB := TB_m (tc_3 (List.mem_of_getElem? (i := 158) rfl)) rfl
theorem tw_640 : (Cond.laysFinal "ProofLibrary$Rules" "ProofLibrary$Rules" "firstRule" "[I") ∈ TB := TB_m (tc_3 (List.mem_of_getElem? (i := 160) rfl)) rfl
theorem tw_642 : (Cond.laysFinal "ProofLibrary$Rules" "ProofLibrary$Rules" "nextRule" "[I") ∈ TB := TB_m (tc_3 (List.mem_of_getElem? (i := 162) rfl)) rfl
theorem tw_644 : (Cond.lays "ProofLibrary$Rules" "ProofLibrary$Rules" "nodes" "I") ∈ TB := TB_m (tc_3 (List.mem_of_getElem? (i := 164) rfl)) rfl
theorem tw_646 : (Cond.laysFinal "ProofLibrary$Rules" "ProofLibrary$Rules" "atConstant" "[I") ∈ TB := TB_m (tc_3 (List.mem_of_getElem? (i := 166) rfl)) rfl
theorem tw_648 : (Cond.laysFinal "ProofLibrary$Rules" "ProofLibrary$Rules" "atSort" "[I") ∈ TB := TB_m (tc_3 (List.mem_of_getElem? (i := 168) rfl)) rfl
theorem tw_650 : (Cond.laysFinal "ProofLibrary$Rules" "ProofLibrary$Rules" "unitRule" "[I") ∈ TB := TB_m (tc_3 (List.mem_of_getElem? (i := 170) rfl)) rfl
theorem tw_652 : (Cond.laysFinal "ProofLibrary$Rules" "ProofLibrary$Rules" "unitFrom" "[I") ∈ TB := TB_m (tc_3 (List.mem_of_getElem? (i := 172) rfl)) rfl
theorem tw_654 : (Cond.lays "ProofLibrary$Rules" "ProofLibrary$Rules" "units" "I") ∈ TB := TB_m (tc_3 (List.mem_of_getElem? (i := 174) rfl)) rfl
theorem tw_656 : (Cond.lays "ProofLibrary$Rules" "ProofLibrary$Rules" "learned" "I") ∈ TB := TB_m (tc_3 (List.mem_of_getElem? (i := 176) rfl)) rfl
theorem tw_658 : (Cond.lays "ProofLibrary$Rules" "ProofLibrary$Rules" "provable" "I") ∈ TB := TB_m (tc_3 (List.mem_of_getElem? (i := 178) rfl)) rfl
theorem tw_660 : (Cond.lays "ProofLibrary$Rules" "ProofLibrary$Rules" "wff" "I") ∈ TB := TB_m (tc_3 (List.mem_of_getElem? (i := 180) rfl)) rfl
theorem tw_663 : (Cond.classLink "ProofLibrary" 86 "ProofLibrary$Chart") ∈ TB := TB_m (tc_3 (List.mem_of_getElem? (i := 183) rfl)) rfl
theorem tw_664 : (Cond.instantiable "ProofLibrary$Chart" 18) ∈ TB := TB_m (tc_3 (List.mem_of_getElem? (i := 184) rfl)) rfl
theorem tw_665 : (Cond.methodLink "ProofLibrary" 88 ⟨"ProofLibrary$Chart", "<init>", "(LProofLibrary$Library;LProofLibrary$Rules;)V"⟩) ∈ TB := TB_m (tc_3 (List.mem_of_getElem? (i := 185) rfl)) rfl
theorem tw_666 : (Cond.instanceMethod ⟨"ProofLibrary$Chart", "<init>", "(LProofLibrary$Library;LProofLibrary$Rules;)V"⟩) ∈ TB := TB_m (tc_3 (List.mem_of_getElem? (i := 186) rfl)) rfl
theorem tw_667 : (Cond.code ⟨"ProofLibrary$Chart", "<init>", "(LProofLibrary$Library;LProofLibrary$Rules;)V"⟩ prog_3_method_1_code 3 none) ∈ TB := TB_m (tc_3 (List.mem_of_getElem? (i := 187) rfl)) rfl
theorem tw_668 : (Cond.methodLink "ProofLibrary$Chart" 3 ⟨"java/lang/Object", "<init>", "()V"⟩) ∈ TB := TB_m (tc_3 (List.mem_of_getElem? (i := 188) rfl)) rfl
theorem tw_669 : (Cond.constant "ProofLibrary$Chart" 28 177000) ∈ TB := TB_m (tc_3 (List.mem_of_getElem? (i := 189) rfl)) rfl
theorem tw_670 : (Cond.fieldLink "ProofLibrary$Chart" 50 "ProofLibrary$Chart" "library" "LProofLibrary$Library;") ∈ TB := TB_m (tc_3 (List.mem_of_getElem? (i := 190) rfl)) rfl
theorem tw_671 : (Cond.fieldLink "ProofLibrary$Chart" 54 "ProofLibrary$Chart" "rules" "LProofLibrary$Rules;") ∈ TB := TB_m (tc_3 (List.mem_of_getElem? (i := 191) rfl)) rfl
theorem tw_672 : (Cond.fieldLink "ProofLibrary$Chart" 9 "ProofLibrary$Chart" "row" "[I") ∈ TB := TB_m (tc_3 (List.mem_of_getElem? (i := 192) rfl)) rfl
theorem tw_675 : (Cond.fieldLink "ProofLibrary$Chart" 15 "ProofLibrary$Chart" "leaf" "[I") ∈ TB := TB_m (tc_3 (List.mem_of_getElem? (i := 195) rfl)) rfl
theorem tw_681 : (Cond.fieldLink "ProofLibrary$Chart" 18 "ProofLibrary$Chart" "where" "[J") ∈ TB := TB_m (tc_3 (List.mem_of_getElem? (i := 201) rfl)) rfl
theorem tw_683 : (Cond.fieldLink "ProofLibrary$Chart" 22 "ProofLibrary$Chart" "has" "[J") ∈ TB := TB_m (tc_3 (List.mem_of_getElem? (i := 203) rfl)) rfl
theorem tw_685 : (Cond.fieldLink "ProofLibrary$Chart" 25 "ProofLibrary$Chart" "several" "[J") ∈ TB := TB_m (tc_3 (List.mem_of_getElem? (i := 205) rfl)) rfl
theorem tw_686 : (Cond.fieldLink "ProofLibrary$Chart" 29 "ProofLibrary$Chart" "madeBy" "[I") ∈ TB := TB_m (tc_3 (List.mem_of_getElem? (i := 206) rfl)) rfl
theorem tw_688 : (Cond.fieldLink "ProofLibrary$Chart" 32 "ProofLibrary$Chart" "stackNode" "[I") ∈ TB := TB_m (tc_3 (List.mem_of_getElem? (i := 208) rfl)) rfl
theorem tw_689 : (Cond.fieldLink "ProofLibrary$Chart" 35 "ProofLibrary$Chart" "stackHas" "[J") ∈ TB := TB_m (tc_3 (List.mem_of_getElem? (i := 209) rfl)) rfl
theorem tw_690 : (Cond.fieldLink "ProofLibrary$Chart" 38 "ProofLibrary$Chart" "stackSeveral" "[J") ∈ TB := TB_m (tc_3 (List.mem_of_getElem? (i := 210) rfl)) rfl
theorem tw_691 : (Cond.fieldLink "ProofLibrary$Chart" 41 "ProofLibrary$Chart" "base" "[I") ∈ TB := TB_m (tc_3 (List.mem_of_getElem? (i := 211) rfl)) rfl
theorem tw_692 : (Cond.fieldLink "ProofLibrary$Chart" 44 "ProofLibrary$Chart" "total" "[I") ∈ TB := TB_m (tc_3 (List.mem_of_getElem? (i := 212) rfl)) rfl
theorem tw_693 : (Cond.fieldLink "ProofLibrary$Chart" 47 "ProofLibrary$Chart" "next" "[I") ∈ TB := TB_m (tc_3 (List.mem_of_getElem? (i := 213) rfl)) rfl
theorem tw_694 : (Cond.laysFinal "ProofLibrary$Chart" "ProofLibrary$Chart" "library" "LProofLibrary$Library;") ∈ TB := TB_m (tc_3 (List.mem_of_getElem? (i := 214) rfl)) rfl
theorem tw_696 : (Cond.laysFinal "ProofLibrary$Chart" "ProofLibrary$Chart" "rules" "LProofLibrary$Rules;") ∈ TB := TB_m (tc_3 (List.mem_of_getElem? (i := 216) rfl)) rfl
theorem tw_698 : (Cond.laysFinal "ProofLibrary$Chart" "ProofLibrary$Chart" "row" "[I") ∈ TB := TB_m (tc_3 (List.mem_of_getElem? (i := 218) rfl)) rfl
theorem tw_700 : (Cond.laysFinal "ProofLibrary$Chart" "ProofLibrary$Chart" "leaf" "[I") ∈ TB := TB_m (tc_3 (List.mem_of_getElem? (i := 220) rfl)) rfl
theorem tw_702 : (Cond.lays "ProofLibrary$Chart" "ProofLibrary$Chart" "length" "I") ∈ TB := TB_m (tc_3 (List.mem_of_getElem? (i := 222) rfl)) rfl
theorem tw_704 : (Cond.lays "ProofLibrary$Chart" "ProofLibrary$Chart" "limit" "I") ∈ TB := TB_m (tc_3 (List.mem_of_getElem? (i := 224) rfl)) rfl
theorem tw_706 : (Cond.lays "ProofLibrary$Chart" "ProofLibrary$Chart" "goal" "I") ∈ TB := TB_m (tc_3 (List.mem_of_getElem? (i := 226) rfl)) rfl
theorem tw_708 : (Cond.laysFinal "ProofLibrary$Chart" "ProofLibrary$Chart" "where" "[J") ∈ TB := TB_m (tc_3 (List.mem_of_getElem? (i := 228) rfl)) rfl
theorem tw_710 : (Cond.laysFinal "ProofLibrary$Chart" "ProofLibrary$Chart" "has" "[J") ∈ TB := TB_m (tc_3 (List.mem_of_getElem? (i := 230) rfl)) rfl
theorem tw_712 : (Cond.laysFinal "ProofLibrary$Chart" "ProofLibrary$Chart" "several" "[J") ∈ TB := TB_m (tc_3 (List.mem_of_getElem? (i := 232) rfl)) rfl
theorem tw_714 : (Cond.laysFinal "ProofLibrary$Chart" "ProofLibrary$Chart" "madeBy" "[I") ∈ TB := TB_m (tc_3 (List.mem_of_getElem? (i := 234) rfl)) rfl
theorem tw_716 : (Cond.lays "ProofLibrary$Chart" "ProofLibrary$Chart" "start" "I") ∈ TB := TB_m (tc_3 (List.mem_of_getElem? (i := 236) rfl)) rfl
theorem tw_718 : (Cond.laysFinal "ProofLibrary$Chart" "ProofLibrary$Chart" "stackNode" "[I") ∈ TB := TB_m (tc_3 (List.mem_of_getElem? (i := 238) rfl)) rfl
theorem tw_720 : (Cond.laysFinal "ProofLibrary$Chart" "ProofLibrary$Chart" "stackHas" "[J") ∈ TB := TB_m (tc_4 (List.mem_of_getElem? (i := 0) rfl)) rfl
theorem tw_722 : (Cond.laysFinal "ProofLibrary$Chart" "ProofLibrary$Chart" "stackSeveral" "[J") ∈ TB := TB_m (tc_4 (List.mem_of_getElem? (i := 2) rfl)) rfl
theorem tw_724 : (Cond.laysFinal "ProofLibrary$Chart" "ProofLibrary$Chart" "base" "[I") ∈ TB := TB_m (tc_4 (List.mem_of_getElem? (i := 4) rfl)) rfl
theorem tw_726 : (Cond.laysFinal "ProofLibrary$Chart" "ProofLibrary$Chart" "total" "[I") ∈ TB := TB_m (tc_4 (List.mem_of_getElem? (i := 6) rfl)) rfl
theorem tw_728 : (Cond.laysFinal "ProofLibrary$Chart" "ProofLibrary$Chart" "next" "[I") ∈ TB := TB_m (tc_4 (List.mem_of_getElem? (i := 8) rfl)) rfl
theorem tw_731 : (Cond.classLink "ProofLibrary" 95 "ProofLibrary$Tree") ∈ TB := TB_m (tc_4 (List.mem_of_getElem? (i := 11) rfl)) rfl
theorem tw_732 : (Cond.instantiable "ProofLibrary$Tree" 15) ∈ TB := TB_m (tc_4 (List.mem_of_getElem? (i := 12) rfl)) rfl
theorem tw_733 : (Cond.methodLink "ProofLibrary" 97 ⟨"ProofLibrary$Tree", "<init>", "(LProofLibrary$Library;LProofLibrary$Assertions;LProofLibrary$Chart;)V"⟩) ∈ TB := TB_m (tc_4 (List.mem_of_getElem? (i := 13) rfl)) rfl
theorem tw_734 : (Cond.instanceMethod ⟨"ProofLibrary$Tree", "<init>", "(LProofLibrary$Library;LProofLibrary$Assertions;LProofLibrary$Chart;)V"⟩) ∈ TB := TB_m (tc_4 (List.mem_of_getElem? (i := 14) rfl)) rfl
theorem tw_735 : (Cond.code ⟨"ProofLibrary$Tree", "<init>", "(LProofLibrary$Library;LProofLibrary$Assertions;LProofLibrary$Chart;)V"⟩ prog_13_method_1_code 4 none) ∈ TB := TB_m (tc_4 (List.mem_of_getElem? (i := 15) rfl)) rfl
theorem tw_736 : (Cond.methodLink "ProofLibrary$Tree" 3 ⟨"java/lang/Object", "<init>", "()V"⟩) ∈ TB := TB_m (tc_4 (List.mem_of_getElem? (i := 16) rfl)) rfl
theorem tw_737 : (Cond.fieldLink "ProofLibrary$Tree" 40 "ProofLibrary$Tree" "library" "LProofLibrary$Library;") ∈ TB := TB_m (tc_4 (List.mem_of_getElem? (i := 17) rfl)) rfl
theorem tw_738 : (Cond.fieldLink "ProofLibrary$Tree" 44 "ProofLibrary$Tree" "assertions" "LProofLibrary$Assertions;") ∈ TB := TB_m (tc_4 (List.mem_of_getElem? (i := 18) rfl)) rfl
theorem tw_739 : (Cond.fieldLink "ProofLibrary$Tree" 48 "ProofLibrary$Tree" "chart" "LProofLibrary$Chart;") ∈ TB := TB_m (tc_4 (List.mem_of_getElem? (i := 19) rfl)) rfl
theorem tw_740 : (Cond.fieldLink "ProofLibrary$Tree" 9 "ProofLibrary$Tree" "rule" "[I") ∈ TB := TB_m (tc_4 (List.mem_of_getElem? (i := 20) rfl)) rfl
theorem tw_743 : (Cond.fieldLink "ProofLibrary$Tree" 15 "ProofLibrary$Tree" "from" "[I") ∈ TB := TB_m (tc_4 (List.mem_of_getElem? (i := 23) rfl)) rfl
theorem tw_744 : (Cond.fieldLink "ProofLibrary$Tree" 18 "ProofLibrary$Tree" "to" "[I") ∈ TB := TB_m (tc_4 (List.mem_of_getElem? (i := 24) rfl)) rfl
theorem tw_748 : (Cond.fieldLink "ProofLibrary$Tree" 21 "ProofLibrary$Tree" "pattern" "[I") ∈ TB := TB_m (tc_4 (List.mem_of_getElem? (i := 28) rfl)) rfl
theorem tw_750 : (Cond.fieldLink "ProofLibrary$Tree" 24 "ProofLibrary$Tree" "cells" "[I") ∈ TB := TB_m (tc_4 (List.mem_of_getElem? (i := 30) rfl)) rfl
theorem tw_751 : (Cond.fieldLink "ProofLibrary$Tree" 27 "ProofLibrary$Tree" "fits" "[J") ∈ TB := TB_m (tc_4 (List.mem_of_getElem? (i := 31) rfl)) rfl
theorem tw_752 : (Cond.fieldLink "ProofLibrary$Tree" 31 "ProofLibrary$Tree" "spanFrom" "[I") ∈ TB := TB_m (tc_4 (List.mem_of_getElem? (i := 32) rfl)) rfl
theorem tw_754 : (Cond.fieldLink "ProofLibrary$Tree" 34 "ProofLibrary$Tree" "spanTo" "[I") ∈ TB := TB_m (tc_4 (List.mem_of_getElem? (i := 34) rfl)) rfl
theorem tw_756 : (Cond.fieldLink "ProofLibrary$Tree" 37 "ProofLibrary$Tree" "bound" "[I") ∈ TB := TB_m (tc_4 (List.mem_of_getElem? (i := 36) rfl)) rfl
theorem tw_758 : (Cond.laysFinal "ProofLibrary$Tree" "ProofLibrary$Tree" "library" "LProofLibrary$Library;") ∈ TB := TB_m (tc_4 (List.mem_of_getElem? (i := 38) rfl)) rfl
theorem tw_760 : (Cond.laysFinal "ProofLibrary$Tree" "ProofLibrary$Tree" "assertions" "LProofLibrary$Assertions;") ∈ TB := TB_m (tc_4 (List.mem_of_getElem? (i := 40) rfl)) rfl
theorem tw_762 : (Cond.laysFinal "ProofLibrary$Tree" "ProofLibrary$Tree" "chart" "LProofLibrary$Chart;") ∈ TB := TB_m (tc_4 (List.mem_of_getElem? (i := 42) rfl)) rfl
theorem tw_764 : (Cond.laysFinal "ProofLibrary$Tree" "ProofLibrary$Tree" "rule" "[I") ∈ TB := TB_m (tc_4 (List.mem_of_getElem? (i := 44) rfl)) rfl
theorem tw_766 : (Cond.laysFinal "ProofLibrary$Tree" "ProofLibrary$Tree" "from" "[I") ∈ TB := TB_m (tc_4 (List.mem_of_getElem? (i := 46) rfl)) rfl
theorem tw_768 : (Cond.laysFinal "ProofLibrary$Tree" "ProofLibrary$Tree" "to" "[I") ∈ TB := TB_m (tc_4 (List.mem_of_getElem? (i := 48) rfl)) rfl
theorem tw_770 : (Cond.lays "ProofLibrary$Tree" "ProofLibrary$Tree" "size" "I") ∈ TB := TB_m (tc_4 (List.mem_of_getElem? (i := 50) rfl)) rfl
theorem tw_772 : (Cond.laysFinal "ProofLibrary$Tree" "ProofLibrary$Tree" "pattern" "[I") ∈ TB := TB_m (tc_4 (List.mem_of_getElem? (i := 52) rfl)) rfl
theorem tw_774 : (Cond.lays "ProofLibrary$Tree" "ProofLibrary$Tree" "patternSize" "I") ∈ TB := TB_m (tc_4 (List.mem_of_getElem? (i := 54) rfl)) rfl
theorem tw_776 : (Cond.laysFinal "ProofLibrary$Tree" "ProofLibrary$Tree" "cells" "[I") ∈ TB := TB_m (tc_4 (List.mem_of_getElem? (i := 56) rfl)) rfl
theorem tw_778 : (Cond.laysFinal "ProofLibrary$Tree" "ProofLibrary$Tree" "fits" "[J") ∈ TB := TB_m (tc_4 (List.mem_of_getElem? (i := 58) rfl)) rfl
theorem tw_780 : (Cond.laysFinal "ProofLibrary$Tree" "ProofLibrary$Tree" "spanFrom" "[I") ∈ TB := TB_m (tc_4 (List.mem_of_getElem? (i := 60) rfl)) rfl
theorem tw_782 : (Cond.laysFinal "ProofLibrary$Tree" "ProofLibrary$Tree" "spanTo" "[I") ∈ TB := TB_m (tc_4 (List.mem_of_getElem? (i := 62) rfl)) rfl
theorem tw_784 : (Cond.laysFinal "ProofLibrary$Tree" "ProofLibrary$Tree" "bound" "[I") ∈ TB := TB_m (tc_4 (List.mem_of_getElem? (i := 64) rfl)) rfl
theorem tw_786 : (Cond.lays "ProofLibrary$Tree" "ProofLibrary$Tree" "turn" "I") ∈ TB := TB_m (tc_4 (List.mem_of_getElem? (i := 66) rfl)) rfl
theorem tw_789 : (Cond.classLink "ProofLibrary" 104 "ProofLibrary$Definitions") ∈ TB := TB_m (tc_4 (List.mem_of_getElem? (i := 69) rfl)) rfl
theorem tw_790 : (Cond.instantiable "ProofLibrary$Definitions" 21) ∈ TB := TB_m (tc_4 (List.mem_of_getElem? (i := 70) rfl)) rfl
theorem tw_791 : (Cond.methodLink "ProofLibrary" 106 ⟨"ProofLibrary$Definitions", "<init>", "(LProofLibrary$Library;LProofLibrary$Assertions;LProofLibrary$Rules;LProofLibrary$Chart;LProofLibrary$Tree;LProofLibrary$Pile;)V"⟩) ∈ TB := TB_m (tc_4 (List.mem_of_getElem? (i := 71) rfl)) rfl
theorem tw_792 : (Cond.instanceMethod ⟨"ProofLibrary$Definitions", "<init>", "(LProofLibrary$Library;LProofLibrary$Assertions;LProofLibrary$Rules;LProofLibrary$Chart;LProofLibrary$Tree;LProofLibrary$Pile;)V"⟩) ∈ TB := TB_m (tc_4 (List.mem_of_getElem? (i := 72) rfl)) rfl
theorem tw_793 : (Cond.code ⟨"ProofLibrary$Definitions", "<init>", "(LProofLibrary$Library;LProofLibrary$Assertions;LProofLibrary$Rules;LProofLibrary$Chart;LProofLibrary$Tree;LProofLibrary$Pile;)V"⟩ prog_4_method_1_code 7 none) ∈ TB := TB_m (tc_4 (List.mem_of_getElem? (i := 73) rfl)) rfl
theorem tw_794 : (Cond.methodLink "ProofLibrary$Definitions" 3 ⟨"java/lang/Object", "<init>", "()V"⟩) ∈ TB := TB_m (tc_4 (List.mem_of_getElem? (i := 74) rfl)) rfl
theorem tw_795 : (Cond.fieldLink "ProofLibrary$Definitions" 40 "ProofLibrary$Definitions" "library" "LProofLibrary$Library;") ∈ TB := TB_m (tc_4 (List.mem_of_getElem? (i := 75) rfl)) rfl
theorem tw_796 : (Cond.fieldLink "ProofLibrary$Definitions" 44 "ProofLibrary$Definitions" "assertions" "LProofLibrary$Assertions;") ∈ TB := TB_m (tc_4 (List.mem_of_getElem? (i := 76) rfl)) rfl
theorem tw_797 : (Cond.fieldLink "ProofLibrary$Definitions" 48 "ProofLibrary$Definitions" "rules" "LProofLibrary$Rules;") ∈ TB := TB_m (tc_4 (List.mem_of_getElem? (i := 77) rfl)) rfl
theorem tw_798 : (Cond.fieldLink "ProofLibrary$Definitions" 52 "ProofLibrary$Definitions" "chart" "LProofLibrary$Chart;") ∈ TB := TB_m (tc_4 (List.mem_of_getElem? (i := 78) rfl)) rfl
theorem tw_799 : (Cond.fieldLink "ProofLibrary$Definitions" 56 "ProofLibrary$Definitions" "tree" "LProofLibrary$Tree;") ∈ TB := TB_m (tc_4 (List.mem_of_getElem? (i := 79) rfl)) rfl
theorem tw_800 : (Cond.fieldLink "ProofLibrary$Definitions" 60 "ProofLibrary$Definitions" "pile" "LProofLibrary$Pile;") ∈ TB := TB_m (tc_4 (List.mem_of_getElem? (i := 80) rfl)) rfl
theorem tw_802 : (Cond.fieldLink "ProofLibrary$Definitions" 9 "ProofLibrary$Definitions" "firstUse" "[I") ∈ TB := TB_m (tc_4 (List.mem_of_getElem? (i := 82) rfl)) rfl
theorem tw_803 : (Cond.fieldLink "ProofLibrary$Definitions" 15 "ProofLibrary$Definitions" "needed" "[I") ∈ TB := TB_m (tc_4 (List.mem_of_getElem? (i := 83) rfl)) rfl
theorem tw_804 : (Cond.fieldLink "ProofLibrary$Definitions" 18 "ProofLibrary$Definitions" "target" "[I") ∈ TB := TB_m (tc_4 (List.mem_of_getElem? (i := 84) rfl)) rfl
theorem tw_805 : (Cond.fieldLink "ProofLibrary$Definitions" 21 "ProofLibrary$Definitions" "definedBy" "[I") ∈ TB := TB_m (tc_4 (List.mem_of_getElem? (i := 85) rfl)) rfl
theorem tw_806 : (Cond.fieldLink "ProofLibrary$Definitions" 24 "ProofLibrary$Definitions" "equality" "[Z") ∈ TB := TB_m (tc_4 (List.mem_of_getElem? (i := 86) rfl)) rfl
theorem tw_809 : (Cond.fieldLink "ProofLibrary$Definitions" 28 "ProofLibrary$Definitions" "bodies" "[I") ∈ TB := TB_m (tc_4 (List.mem_of_getElem? (i := 89) rfl)) rfl
theorem tw_810 : (Cond.fieldLink "ProofLibrary$Definitions" 31 "ProofLibrary$Definitions" "bodyAt" "[I") ∈ TB := TB_m (tc_4 (List.mem_of_getElem? (i := 90) rfl)) rfl
theorem tw_811 : (Cond.fieldLink "ProofLibrary$Definitions" 34 "ProofLibrary$Definitions" "bodySize" "[I") ∈ TB := TB_m (tc_4 (List.mem_of_getElem? (i := 91) rfl)) rfl
theorem tw_813 : (Cond.fieldLink "ProofLibrary$Definitions" 37 "ProofLibrary$Definitions" "slots" "[I") ∈ TB := TB_m (tc_4 (List.mem_of_getElem? (i := 93) rfl)) rfl
theorem tw_816 : (Cond.laysFinal "ProofLibrary$Definitions" "ProofLibrary$Definitions" "library" "LProofLibrary$Library;") ∈ TB := TB_m (tc_4 (List.mem_of_getElem? (i := 96) rfl)) rfl
theorem tw_818 : (Cond.laysFinal "ProofLibrary$Definitions" "ProofLibrary$Definitions" "assertions" "LProofLibrary$Assertions;") ∈ TB := TB_m (tc_4 (List.mem_of_getElem? (i := 98) rfl)) rfl
theorem tw_820 : (Cond.laysFinal "ProofLibrary$Definitions" "ProofLibrary$Definitions" "rules" "LProofLibrary$Rules;") ∈ TB := TB_m (tc_4 (List.mem_of_getElem? (i := 100) rfl)) rfl
theorem tw_822 : (Cond.laysFinal "ProofLibrary$Definitions" "ProofLibrary$Definitions" "chart" "LProofLibrary$Chart;") ∈ TB := TB_m (tc_4 (List.mem_of_getElem? (i := 102) rfl)) rfl
theorem tw_824 : (Cond.laysFinal "ProofLibrary$Definitions" "ProofLibrary$Definitions" "tree" "LProofLibrary$Tree;") ∈ TB := TB_m (tc_4 (List.mem_of_getElem? (i := 104) rfl)) rfl
theorem tw_826 : (Cond.laysFinal "ProofLibrary$Definitions" "ProofLibrary$Definitions" "pile" "LProofLibrary$Pile;") ∈ TB := TB_m (tc_4 (List.mem_of_getElem? (i := 106) rfl)) rfl
theorem tw_828 : (Cond.lays "ProofLibrary$Definitions" "ProofLibrary$Definitions" "studied" "I") ∈ TB := TB_m (tc_4 (List.mem_of_getElem? (i := 108) rfl)) rfl
theorem tw_830 : (Cond.laysFinal "ProofLibrary$Definitions" "ProofLibrary$Definitions" "firstUse" "[I") ∈ TB := TB_m (tc_4 (List.mem_of_getElem? (i := 110) rfl)) rfl
theorem tw_832 : (Cond.laysFinal "ProofLibrary$Definitions" "ProofLibrary$Definitions" "needed" "[I") ∈ TB := TB_m (tc_4 (List.mem_of_getElem? (i := 112) rfl)) rfl
theorem tw_834 : (Cond.laysFinal "ProofLibrary$Definitions" "ProofLibrary$Definitions" "target" "[I") ∈ TB := TB_m (tc_4 (List.mem_of_getElem? (i := 114) rfl)) rfl
theorem tw_836 : (Cond.laysFinal "ProofLibrary$Definitions" "ProofLibrary$Definitions" "definedBy" "[I") ∈ TB := TB_m (tc_4 (List.mem_of_getElem? (i := 116) rfl)) rfl
theorem tw_838 : (Cond.laysFinal "ProofLibrary$Definitions" "ProofLibrary$Definitions" "equality" "[Z") ∈ TB := TB_m (tc_4 (List.mem_of_getElem? (i := 118) rfl)) rfl
theorem tw_840 : (Cond.lays "ProofLibrary$Definitions" "ProofLibrary$Definitions" "equalities" "I") ∈ TB := TB_m (tc_4 (List.mem_of_getElem? (i := 120) rfl)) rfl
theorem tw_842 : (Cond.lays "ProofLibrary$Definitions" "ProofLibrary$Definitions" "prepared" "I") ∈ TB := TB_m (tc_4 (List.mem_of_getElem? (i := 122) rfl)) rfl
theorem tw_844 : (Cond.lays "ProofLibrary$Definitions" "ProofLibrary$Definitions" "bodies" "[I") ∈ TB := TB_m (tc_4 (List.mem_of_getElem? (i := 124) rfl)) rfl
theorem tw_846 : (Cond.laysFinal "ProofLibrary$Definitions" "ProofLibrary$Definitions" "bodyAt" "[I") ∈ TB := TB_m (tc_4 (List.mem_of_getElem? (i := 126) rfl)) rfl
theorem tw_848 : (Cond.laysFinal "ProofLibrary$Definitions" "ProofLibrary$Definitions" "bodySize" "[I") ∈ TB := TB_m (tc_4 (List.mem_of_getElem? (i := 128) rfl)) rfl
theorem tw_850 : (Cond.lays "ProofLibrary$Definitions" "ProofLibrary$Definitions" "bodiesUsed" "I") ∈ TB := TB_m (tc_4 (List.mem_of_getElem? (i := 130) rfl)) rfl
theorem tw_852 : (Cond.laysFinal "ProofLibrary$Definitions" "ProofLibrary$Definitions" "slots" "[I") ∈ TB := TB_m (tc_4 (List.mem_of_getElem? (i := 132) rfl)) rfl
theorem tw_854 : (Cond.lays "ProofLibrary$Definitions" "ProofLibrary$Definitions" "firstTree" "I") ∈ TB := TB_m (tc_4 (List.mem_of_getElem? (i := 134) rfl)) rfl
theorem tw_856 : (Cond.lays "ProofLibrary$Definitions" "ProofLibrary$Definitions" "secondTree" "I") ∈ TB := TB_m (tc_4 (List.mem_of_getElem? (i := 136) rfl)) rfl
theorem tw_859 : (Cond.classLink "ProofLibrary" 113 "ProofLibrary$Paper") ∈ TB := TB_m (tc_4 (List.mem_of_getElem? (i := 139) rfl)) rfl
theorem tw_860 : (Cond.instantiable "ProofLibrary$Paper" 6) ∈ TB := TB_m (tc_4 (List.mem_of_getElem? (i := 140) rfl)) rfl
theorem tw_861 : (Cond.methodLink "ProofLibrary" 115 ⟨"ProofLibrary$Paper", "<init>", "(LProofLibrary$Library;)V"⟩) ∈ TB := TB_m (tc_4 (List.mem_of_getElem? (i := 141) rfl)) rfl
theorem tw_862 : (Cond.instanceMethod ⟨"ProofLibrary$Paper", "<init>", "(LProofLibrary$Library;)V"⟩) ∈ TB := TB_m (tc_4 (List.mem_of_getElem? (i := 142) rfl)) rfl
theorem tw_863 : (Cond.code ⟨"ProofLibrary$Paper", "<init>", "(LProofLibrary$Library;)V"⟩ prog_7_method_1_code 2 none) ∈ TB := TB_m (tc_4 (List.mem_of_getElem? (i := 143) rfl)) rfl
theorem tw_864 : (Cond.methodLink "ProofLibrary$Paper" 3 ⟨"java/lang/Object", "<init>", "()V"⟩) ∈ TB := TB_m (tc_4 (List.mem_of_getElem? (i := 144) rfl)) rfl
theorem tw_865 : (Cond.fieldLink "ProofLibrary$Paper" 18 "ProofLibrary$Paper" "library" "LProofLibrary$Library;") ∈ TB := TB_m (tc_4 (List.mem_of_getElem? (i := 145) rfl)) rfl
theorem tw_866 : (Cond.fieldLink "ProofLibrary$Paper" 9 "ProofLibrary$Paper" "draft" "[C") ∈ TB := TB_m (tc_4 (List.mem_of_getElem? (i := 146) rfl)) rfl
theorem tw_869 : (Cond.fieldLink "ProofLibrary$Paper" 15 "ProofLibrary$Paper" "shown" "[C") ∈ TB := TB_m (tc_4 (List.mem_of_getElem? (i := 149) rfl)) rfl
theorem tw_870 : (Cond.fieldLink "ProofLibrary$Paper" 57 "ProofLibrary$Paper" "shownLength" "I") ∈ TB := TB_m (tc_4 (List.mem_of_getElem? (i := 150) rfl)) rfl
theorem tw_871 : (Cond.laysFinal "ProofLibrary$Paper" "ProofLibrary$Paper" "library" "LProofLibrary$Library;") ∈ TB := TB_m (tc_4 (List.mem_of_getElem? (i := 151) rfl)) rfl
theorem tw_873 : (Cond.lays "ProofLibrary$Paper" "ProofLibrary$Paper" "draft" "[C") ∈ TB := TB_m (tc_4 (List.mem_of_getElem? (i := 153) rfl)) rfl
theorem tw_875 : (Cond.lays "ProofLibrary$Paper" "ProofLibrary$Paper" "draftLength" "I") ∈ TB := TB_m (tc_4 (List.mem_of_getElem? (i := 155) rfl)) rfl
theorem tw_877 : (Cond.lays "ProofLibrary$Paper" "ProofLibrary$Paper" "overflow" "Z") ∈ TB := TB_m (tc_4 (List.mem_of_getElem? (i := 157) rfl)) rfl
theorem tw_879 : (Cond.lays "ProofLibrary$Paper" "ProofLibrary$Paper" "shown" "[C") ∈ TB := TB_m (tc_4 (List.mem_of_getElem? (i := 159) rfl)) rfl
theorem tw_881 : (Cond.lays "ProofLibrary$Paper" "ProofLibrary$Paper" "shownLength" "I") ∈ TB := TB_m (tc_4 (List.mem_of_getElem? (i := 161) rfl)) rfl
theorem tw_884 : (Cond.fieldLink "ProofLibrary" 10 "ProofLibrary" "tape" "[C") ∈ TB := TB_m (tc_4 (List.mem_of_getElem? (i := 164) rfl)) rfl
theorem tw_885 : (Cond.fieldLink "ProofLibrary" 120 "ProofLibrary" "tapeLength" "I") ∈ TB := TB_m (tc_4 (List.mem_of_getElem? (i := 165) rfl)) rfl
theorem tw_886 : (Cond.fieldLink "ProofLibrary" 123 "ProofLibrary" "canEnd" "Z") ∈ TB := TB_m (tc_4 (List.mem_of_getElem? (i := 166) rfl)) rfl
theorem tw_887 : (Cond.fieldLink "ProofLibrary" 14 "ProofLibrary" "faultPlace" "I") ∈ TB := TB_m (tc_4 (List.mem_of_getElem? (i := 167) rfl)) rfl
theorem tw_888 : (Cond.fieldLink "ProofLibrary" 18 "ProofLibrary" "asked" "[I") ∈ TB := TB_m (tc_4 (List.mem_of_getElem? (i := 168) rfl)) rfl
theorem tw_889 : (Cond.fieldLink "ProofLibrary" 25 "ProofLibrary" "library" "LProofLibrary$Library;") ∈ TB := TB_m (tc_4 (List.mem_of_getElem? (i := 169) rfl)) rfl
theorem tw_890 : (Cond.fieldLink "ProofLibrary" 34 "ProofLibrary" "scopes" "LProofLibrary$Scopes;") ∈ TB := TB_m (tc_4 (List.mem_of_getElem? (i := 170) rfl)) rfl
theorem tw_891 : (Cond.fieldLink "ProofLibrary" 43 "ProofLibrary" "assertions" "LProofLibrary$Assertions;") ∈ TB := TB_m (tc_4 (List.mem_of_getElem? (i := 171) rfl)) rfl
theorem tw_892 : (Cond.fieldLink "ProofLibrary" 52 "ProofLibrary" "pile" "LProofLibrary$Pile;") ∈ TB := TB_m (tc_4 (List.mem_of_getElem? (i := 172) rfl)) rfl
theorem tw_893 : (Cond.fieldLink "ProofLibrary" 66 "ProofLibrary" "reader" "LProofLibrary$Reader;") ∈ TB := TB_m (tc_4 (List.mem_of_getElem? (i := 173) rfl)) rfl
theorem tw_894 : (Cond.fieldLink "ProofLibrary" 75 "ProofLibrary" "packer" "LProofLibrary$Packer;") ∈ TB := TB_m (tc_4 (List.mem_of_getElem? (i := 174) rfl)) rfl
theorem tw_895 : (Cond.fieldLink "ProofLibrary" 82 "ProofLibrary" "rules" "LProofLibrary$Rules;") ∈ TB := TB_m (tc_4 (List.mem_of_getElem? (i := 175) rfl)) rfl
theorem tw_896 : (Cond.fieldLink "ProofLibrary" 91 "ProofLibrary" "chart" "LProofLibrary$Chart;") ∈ TB := TB_m (tc_4 (List.mem_of_getElem? (i := 176) rfl)) rfl
theorem tw_897 : (Cond.fieldLink "ProofLibrary" 100 "ProofLibrary" "tree" "LProofLibrary$Tree;") ∈ TB := TB_m (tc_4 (List.mem_of_getElem? (i := 177) rfl)) rfl
theorem tw_898 : (Cond.fieldLink "ProofLibrary" 109 "ProofLibrary" "definitions" "LProofLibrary$Definitions;") ∈ TB := TB_m (tc_4 (List.mem_of_getElem? (i := 178) rfl)) rfl
theorem tw_899 : (Cond.fieldLink "ProofLibrary" 116 "ProofLibrary" "paper" "LProofLibrary$Paper;") ∈ TB := TB_m (tc_4 (List.mem_of_getElem? (i := 179) rfl)) rfl
theorem tw_900 : (Cond.laysFinal "ProofLibrary" "ProofLibrary" "tape" "[C") ∈ TB := TB_m (tc_4 (List.mem_of_getElem? (i := 180) rfl)) rfl
theorem tw_902 : (Cond.lays "ProofLibrary" "ProofLibrary" "tapeLength" "I") ∈ TB := TB_m (tc_4 (List.mem_of_getElem? (i := 182) rfl)) rfl
theorem tw_904 : (Cond.lays "ProofLibrary" "ProofLibrary" "canEnd" "Z") ∈ TB := TB_m (tc_4 (List.mem_of_getElem? (i := 184) rfl)) rfl
theorem tw_906 : (Cond.lays "ProofLibrary" "ProofLibrary" "faultPlace" "I") ∈ TB := TB_m (tc_4 (List.mem_of_getElem? (i := 186) rfl)) rfl
theorem tw_908 : (Cond.laysFinal "ProofLibrary" "ProofLibrary" "asked" "[I") ∈ TB := TB_m (tc_4 (List.mem_of_getElem? (i := 188) rfl)) rfl
theorem tw_910 : (Cond.laysFinal "ProofLibrary" "ProofLibrary" "library" "LProofLibrary$Library;") ∈ TB := TB_m (tc_4 (List.mem_of_getElem? (i := 190) rfl)) rfl
theorem tw_912 : (Cond.laysFinal "ProofLibrary" "ProofLibrary" "scopes" "LProofLibrary$Scopes;") ∈ TB := TB_m (tc_4 (List.mem_of_getElem? (i := 192) rfl)) rfl
theorem tw_914 : (Cond.laysFinal "ProofLibrary" "ProofLibrary" "assertions" "LProofLibrary$Assertions;") ∈ TB := TB_m (tc_4 (List.mem_of_getElem? (i := 194) rfl)) rfl
theorem tw_916 : (Cond.laysFinal "ProofLibrary" "ProofLibrary" "pile" "LProofLibrary$Pile;") ∈ TB := TB_m (tc_4 (List.mem_of_getElem? (i := 196) rfl)) rfl
theorem tw_918 : (Cond.laysFinal "ProofLibrary" "ProofLibrary" "reader" "LProofLibrary$Reader;") ∈ TB := TB_m (tc_4 (List.mem_of_getElem? (i := 198) rfl)) rfl
theorem tw_920 : (Cond.laysFinal "ProofLibrary" "ProofLibrary" "packer" "LProofLibrary$Packer;") ∈ TB := TB_m (tc_4 (List.mem_of_getElem? (i := 200) rfl)) rfl
theorem tw_922 : (Cond.laysFinal "ProofLibrary" "ProofLibrary" "rules" "LProofLibrary$Rules;") ∈ TB := TB_m (tc_4 (List.mem_of_getElem? (i := 202) rfl)) rfl
theorem tw_924 : (Cond.laysFinal "ProofLibrary" "ProofLibrary" "chart" "LProofLibrary$Chart;") ∈ TB := TB_m (tc_4 (List.mem_of_getElem? (i := 204) rfl)) rfl
theorem tw_926 : (Cond.laysFinal "ProofLibrary" "ProofLibrary" "tree" "LProofLibrary$Tree;") ∈ TB := TB_m (tc_4 (List.mem_of_getElem? (i := 206) rfl)) rfl
theorem tw_928 : (Cond.laysFinal "ProofLibrary" "ProofLibrary" "definitions" "LProofLibrary$Definitions;") ∈ TB := TB_m (tc_4 (List.mem_of_getElem? (i := 208) rfl)) rfl
theorem tw_930 : (Cond.laysFinal "ProofLibrary" "ProofLibrary" "paper" "LProofLibrary$Paper;") ∈ TB := TB_m (tc_4 (List.mem_of_getElem? (i := 210) rfl)) rfl
theorem tw_933 : (Cond.methodLink "ProofLibraryLaw" 13 ⟨"ProofLibrary", "feed", "(IIIII)I"⟩) ∈ TB := TB_m (tc_4 (List.mem_of_getElem? (i := 213) rfl)) rfl
theorem tw_934 : (Cond.instanceMethod ⟨"ProofLibrary", "feed", "(IIIII)I"⟩) ∈ TB := TB_m (tc_4 (List.mem_of_getElem? (i := 214) rfl)) rfl
theorem tw_935 : (Cond.selects "ProofLibrary" ⟨"ProofLibrary", "feed", "(IIIII)I"⟩ ⟨"ProofLibrary", "feed", "(IIIII)I"⟩) ∈ TB := TB_m (tc_4 (List.mem_of_getElem? (i := 215) rfl)) rfl
theorem tw_936 : (Cond.code ⟨"ProofLibrary", "feed", "(IIIII)I"⟩ prog_1_method_2_code 6 (some .int)) ∈ TB := TB_m (tc_4 (List.mem_of_getElem? (i := 216) rfl)) rfl
theorem tw_937 : (Cond.methodLink "ProofLibrary" 127 ⟨"ProofLibrary", "putFour", "(I)V"⟩) ∈ TB := TB_m (tc_4 (List.mem_of_getElem? (i := 217) rfl)) rfl
theorem tw_939 : (Cond.instanceMethod ⟨"ProofLibrary", "putFour", "(I)V"⟩) ∈ TB := TB_m (tc_4 (List.mem_of_getElem? (i := 219) rfl)) rfl
theorem tw_940 : (Cond.code ⟨"ProofLibrary", "putFour", "(I)V"⟩ prog_1_method_3_code 3 none) ∈ TB := TB_m (tc_4 (List.mem_of_getElem? (i := 220) rfl)) rfl
theorem tw_941 : (Cond.methodLink "ProofLibraryLaw" 18 ⟨"ProofLibrary", "end", "(I)I"⟩) ∈ TB := TB_m (tc_4 (List.mem_of_getElem? (i := 221) rfl)) rfl
theorem tw_942 : (Cond.instanceMethod ⟨"ProofLibrary", "end", "(I)I"⟩) ∈ TB := TB_m (tc_4 (List.mem_of_getElem? (i := 222) rfl)) rfl
theorem tw_943 : (Cond.selects "ProofLibrary" ⟨"ProofLibrary", "end", "(I)I"⟩ ⟨"ProofLibrary", "end", "(I)I"⟩) ∈ TB := TB_m (tc_4 (List.mem_of_getElem? (i := 223) rfl)) rfl
theorem tw_944 : (Cond.code ⟨"ProofLibrary", "end", "(I)I"⟩ prog_1_method_4_code 2 (some .int)) ∈ TB := TB_m (tc_4 (List.mem_of_getElem? (i := 224) rfl)) rfl
theorem tw_945 : (Cond.methodLink "ProofLibraryLaw" 23 ⟨"ProofLibrary", "read", "()I"⟩) ∈ TB := TB_m (tc_4 (List.mem_of_getElem? (i := 225) rfl)) rfl
theorem tw_946 : (Cond.instanceMethod ⟨"ProofLibrary", "read", "()I"⟩) ∈ TB := TB_m (tc_4 (List.mem_of_getElem? (i := 226) rfl)) rfl
theorem tw_947 : (Cond.selects "ProofLibrary" ⟨"ProofLibrary", "read", "()I"⟩ ⟨"ProofLibrary", "read", "()I"⟩) ∈ TB := TB_m (tc_4 (List.mem_of_getElem? (i := 227) rfl)) rfl
theorem tw_948 : (Cond.code ⟨"ProofLibrary", "read", "()I"⟩ prog_1_method_5_code 2 (some .int)) ∈ TB := TB_m (tc_4 (List.mem_of_getElem? (i := 228) rfl)) rfl
theorem tw_949 : (Cond.methodLink "ProofLibrary" 131 ⟨"ProofLibrary$Reader", "readText", "([CI)I"⟩) ∈ TB := TB_m (tc_4 (List.mem_of_getElem? (i := 229) rfl)) rfl
theorem tw_950 : (Cond.instanceMethod ⟨"ProofLibrary$Reader", "readText", "([CI)I"⟩) ∈ TB := TB_m (tc_4 (List.mem_of_getElem? (i := 230) rfl)) rfl
theorem tw_951 : (Cond.selects "ProofLibrary$Reader" ⟨"ProofLibrary$Reader", "readText", "([CI)I"⟩ ⟨"ProofLibrary$Reader", "readText", "([CI)I"⟩) ∈ TB := TB_m (tc_4 (List.mem_of_getElem? (i := 231) rfl)) rfl
theorem tw_952 : (Cond.code ⟨"ProofLibrary$Reader", "readText", "([CI)I"⟩ prog_9_method_2_code 7 (some .int)) ∈ TB := TB_m (tc_4 (List.mem_of_getElem? (i := 232) rfl)) rfl
theorem tw_953 : (Cond.methodLink "ProofLibrary$Reader" 31 ⟨"ProofLibrary$Reader", "begin", "([C)V"⟩) ∈ TB := TB_m (tc_4 (List.mem_of_getElem? (i := 233) rfl)) rfl
theorem tw_955 : (Cond.instanceMethod ⟨"ProofLibrary$Reader", "begin", "([C)V"⟩) ∈ TB := TB_m (tc_4 (List.mem_of_getElem? (i := 235) rfl)) rfl
theorem tw_956 : (Cond.code ⟨"ProofLibrary$Reader", "begin", "([C)V"⟩ prog_9_method_3_code 2 none) ∈ TB := TB_m (tc_4 (List.mem_of_getElem? (i := 236) rfl)) rfl
theorem tw_957 : (Cond.methodLink "ProofLibrary$Reader" 79 ⟨"ProofLibrary$Library", "keep", "()V"⟩) ∈ TB := TB_m (tc_4 (List.mem_of_getElem? (i := 237) rfl)) rfl
theorem tw_958 : (Cond.instanceMethod ⟨"ProofLibrary$Library", "keep", "()V"⟩) ∈ TB := TB_m (tc_4 (List.mem_of_getElem? (i := 238) rfl)) rfl
theorem tw_959 : (Cond.selects "ProofLibrary$Library" ⟨"ProofLibrary$Library", "keep", "()V"⟩ ⟨"ProofLibrary$Library", "keep", "()V"⟩) ∈ TB := TB_m (tc_4 (List.mem_of_getElem? (i := 239) rfl)) rfl
theorem tw_960 : (Cond.code ⟨"ProofLibrary$Library", "keep", "()V"⟩ prog_5_method_25_code 1 none) ∈ TB := TB_m (tc_5 (List.mem_of_getElem? (i := 0) rfl)) rfl
theorem tw_961 : (Cond.methodLink "ProofLibrary$Reader" 82 ⟨"ProofLibrary$Assertions", "keep", "()V"⟩) ∈ TB := TB_m (tc_5 (List.mem_of_getElem? (i := 1) rfl)) rfl
theorem tw_962 : (Cond.instanceMethod ⟨"ProofLibrary$Assertions", "keep", "()V"⟩) ∈ TB := TB_m (tc_5 (List.mem_of_getElem? (i := 2) rfl)) rfl
theorem tw_963 : (Cond.selects "ProofLibrary$Assertions" ⟨"ProofLibrary$Assertions", "keep", "()V"⟩ ⟨"ProofLibrary$Assertions", "keep", "()V"⟩) ∈ TB := TB_m (tc_5 (List.mem_of_getElem? (i := 3) rfl)) rfl
theorem tw_964 : (Cond.code ⟨"ProofLibrary$Assertions", "keep", "()V"⟩ prog_2_method_2_code 1 none) ∈ TB := TB_m (tc_5 (List.mem_of_getElem? (i := 4) rfl)) rfl
theorem tw_965 : (Cond.methodLink "ProofLibrary$Reader" 83 ⟨"ProofLibrary$Scopes", "keep", "()V"⟩) ∈ TB := TB_m (tc_5 (List.mem_of_getElem? (i := 5) rfl)) rfl
theorem tw_966 : (Cond.instanceMethod ⟨"ProofLibrary$Scopes", "keep", "()V"⟩) ∈ TB := TB_m (tc_5 (List.mem_of_getElem? (i := 6) rfl)) rfl
theorem tw_967 : (Cond.selects "ProofLibrary$Scopes" ⟨"ProofLibrary$Scopes", "keep", "()V"⟩ ⟨"ProofLibrary$Scopes", "keep", "()V"⟩) ∈ TB := TB_m (tc_5 (List.mem_of_getElem? (i := 7) rfl)) rfl
theorem tw_968 : (Cond.code ⟨"ProofLibrary$Scopes", "keep", "()V"⟩ prog_11_method_2_code 1 none) ∈ TB := TB_m (tc_5 (List.mem_of_getElem? (i := 8) rfl)) rfl
theorem tw_969 : (Cond.methodLink "ProofLibrary$Scopes" 58 ⟨"ProofLibrary$Scopes", "mark", "()V"⟩) ∈ TB := TB_m (tc_5 (List.mem_of_getElem? (i := 9) rfl)) rfl
theorem tw_971 : (Cond.instanceMethod ⟨"ProofLibrary$Scopes", "mark", "()V"⟩) ∈ TB := TB_m (tc_5 (List.mem_of_getElem? (i := 11) rfl)) rfl
theorem tw_972 : (Cond.code ⟨"ProofLibrary$Scopes", "mark", "()V"⟩ prog_11_method_6_code 1 none) ∈ TB := TB_m (tc_5 (List.mem_of_getElem? (i := 12) rfl)) rfl
theorem tn_973 : (Cond.methodLinkNest "ProofLibrary$Reader" 35 ⟨"ProofLibrary", "skipBlanks", "([CII)I"⟩ "ProofLibrary") ∈ NB := NB_m (tc_5 (List.mem_of_getElem? (i := 13) rfl)) rfl
theorem tw_974 : (Cond.static ⟨"ProofLibrary", "skipBlanks", "([CII)I"⟩) ∈ TB := TB_m (tc_5 (List.mem_of_getElem? (i := 14) rfl)) rfl
theorem tw_975 : (Cond.code ⟨"ProofLibrary", "skipBlanks", "([CII)I"⟩ prog_1_method_46_code 4 (some .int)) ∈ TB := TB_m (tc_5 (List.mem_of_getElem? (i := 15) rfl)) rfl
theorem tw_980 : (Cond.static ⟨"ProofLibrary", "tokenEnd", "([CII)I"⟩) ∈ TB := TB_m (tc_5 (List.mem_of_getElem? (i := 20) rfl)) rfl
theorem tw_981 : (Cond.code ⟨"ProofLibrary", "tokenEnd", "([CII)I"⟩ prog_1_method_47_code 4 (some .int)) ∈ TB := TB_m (tc_5 (List.mem_of_getElem? (i := 21) rfl)) rfl
theorem tw_1104 : (Cond.instanceMethod ⟨"ProofLibrary$Library", "nameOf", "([CII)I"⟩) ∈ TB := TB_m (tc_5 (List.mem_of_getElem? (i := 144) rfl)) rfl
theorem tw_1105 : (Cond.selects "ProofLibrary$Library" ⟨"ProofLibrary$Library", "nameOf", "([CII)I"⟩ ⟨"ProofLibrary$Library", "nameOf", "([CII)I"⟩) ∈ TB := TB_m (tc_5 (List.mem_of_getElem? (i := 145) rfl)) rfl
theorem tw_1106 : (Cond.code ⟨"ProofLibrary$Library", "nameOf", "([CII)I"⟩ prog_5_method_3_code 6 (some .int)) ∈ TB := TB_m (tc_5 (List.mem_of_getElem? (i := 146) rfl)) rfl
theorem tw_1107 : (Cond.methodLink "ProofLibrary$Library" 62 ⟨"ProofLibrary$Library", "bucket", "([CII)I"⟩) ∈ TB := TB_m (tc_5 (List.mem_of_getElem? (i := 147) rfl)) rfl
theorem tw_1108 : (Cond.static ⟨"ProofLibrary$Library", "bucket", "([CII)I"⟩) ∈ TB := TB_m (tc_5 (List.mem_of_getElem? (i := 148) rfl)) rfl
theorem tw_1109 : (Cond.code ⟨"ProofLibrary$Library", "bucket", "([CII)I"⟩ prog_5_method_2_code 5 (some .int)) ∈ TB := TB_m (tc_5 (List.mem_of_getElem? (i := 149) rfl)) rfl
theorem tw_1115 : (Cond.instanceMethod ⟨"ProofLibrary$Library", "symbolOf", "(I)I"⟩) ∈ TB := TB_m (tc_5 (List.mem_of_getElem? (i := 155) rfl)) rfl
theorem tw_1116 : (Cond.selects "ProofLibrary$Library" ⟨"ProofLibrary$Library", "symbolOf", "(I)I"⟩ ⟨"ProofLibrary$Library", "symbolOf", "(I)I"⟩) ∈ TB := TB_m (tc_5 (List.mem_of_getElem? (i := 156) rfl)) rfl
theorem tw_1117 : (Cond.code ⟨"ProofLibrary$Library", "symbolOf", "(I)I"⟩ prog_5_method_6_code 2 (some .int)) ∈ TB := TB_m (tc_5 (List.mem_of_getElem? (i := 157) rfl)) rfl
theorem tw_1119 : (Cond.static ⟨"java/lang/Math", "max", "(II)I"⟩) ∈ TB := TB_m (tc_5 (List.mem_of_getElem? (i := 159) rfl)) rfl
theorem tw_1120 : (Cond.code ⟨"java/lang/Math", "max", "(II)I"⟩ prog_19_method_65_code 2 (some .int)) ∈ TB := TB_m (tc_5 (List.mem_of_getElem? (i := 160) rfl)) rfl
theorem tw_1373 : (Cond.methodLink "ProofLibrary$Reader" 57 ⟨"ProofLibrary$Reader", "faultAtEnd", "()I"⟩) ∈ TB := TB_m (tc_6 (List.mem_of_getElem? (i := 173) rfl)) rfl
theorem tw_1375 : (Cond.instanceMethod ⟨"ProofLibrary$Reader", "faultAtEnd", "()I"⟩) ∈ TB := TB_m (tc_6 (List.mem_of_getElem? (i := 175) rfl)) rfl
theorem tw_1376 : (Cond.code ⟨"ProofLibrary$Reader", "faultAtEnd", "()I"⟩ prog_9_method_4_code 1 (some .int)) ∈ TB := TB_m (tc_6 (List.mem_of_getElem? (i := 176) rfl)) rfl
theorem tw_1389 : (Cond.methodLink "ProofLibrary" 138 ⟨"ProofLibrary", "useTape", "()V"⟩) ∈ TB := TB_m (tc_6 (List.mem_of_getElem? (i := 189) rfl)) rfl
theorem tw_1391 : (Cond.instanceMethod ⟨"ProofLibrary", "useTape", "()V"⟩) ∈ TB := TB_m (tc_6 (List.mem_of_getElem? (i := 191) rfl)) rfl
theorem tw_1392 : (Cond.code ⟨"ProofLibrary", "useTape", "()V"⟩ prog_1_method_6_code 1 none) ∈ TB := TB_m (tc_6 (List.mem_of_getElem? (i := 192) rfl)) rfl
theorem tw_1393 : (Cond.methodLink "ProofLibraryLaw" 28 ⟨"ProofLibrary", "place", "()I"⟩) ∈ TB := TB_m (tc_6 (List.mem_of_getElem? (i := 193) rfl)) rfl
theorem tw_1394 : (Cond.instanceMethod ⟨"ProofLibrary", "place", "()I"⟩) ∈ TB := TB_m (tc_6 (List.mem_of_getElem? (i := 194) rfl)) rfl
theorem tw_1395 : (Cond.selects "ProofLibrary" ⟨"ProofLibrary", "place", "()I"⟩ ⟨"ProofLibrary", "place", "()I"⟩) ∈ TB := TB_m (tc_6 (List.mem_of_getElem? (i := 195) rfl)) rfl
theorem tw_1396 : (Cond.code ⟨"ProofLibrary", "place", "()I"⟩ prog_1_method_7_code 1 (some .int)) ∈ TB := TB_m (tc_6 (List.mem_of_getElem? (i := 196) rfl)) rfl
theorem tw_1397 : (Cond.methodLink "ProofLibraryLaw" 32 ⟨"ProofLibrary", "count", "(I)I"⟩) ∈ TB := TB_m (tc_6 (List.mem_of_getElem? (i := 197) rfl)) rfl
theorem tw_1398 : (Cond.instanceMethod ⟨"ProofLibrary", "count", "(I)I"⟩) ∈ TB := TB_m (tc_6 (List.mem_of_getElem? (i := 198) rfl)) rfl
theorem tw_1399 : (Cond.selects "ProofLibrary" ⟨"ProofLibrary", "count", "(I)I"⟩ ⟨"ProofLibrary", "count", "(I)I"⟩) ∈ TB := TB_m (tc_6 (List.mem_of_getElem? (i := 199) rfl)) rfl
theorem tw_1400 : (Cond.code ⟨"ProofLibrary", "count", "(I)I"⟩ prog_1_method_8_code 2 (some .int)) ∈ TB := TB_m (tc_6 (List.mem_of_getElem? (i := 200) rfl)) rfl
theorem tw_1401 : (Cond.methodLink "ProofLibrary" 147 ⟨"ProofLibrary$Library", "constants", "()I"⟩) ∈ TB := TB_m (tc_6 (List.mem_of_getElem? (i := 201) rfl)) rfl
theorem tw_1402 : (Cond.instanceMethod ⟨"ProofLibrary$Library", "constants", "()I"⟩) ∈ TB := TB_m (tc_6 (List.mem_of_getElem? (i := 202) rfl)) rfl
theorem tw_1403 : (Cond.selects "ProofLibrary$Library" ⟨"ProofLibrary$Library", "constants", "()I"⟩ ⟨"ProofLibrary$Library", "constants", "()I"⟩) ∈ TB := TB_m (tc_6 (List.mem_of_getElem? (i := 203) rfl)) rfl
theorem tw_1404 : (Cond.code ⟨"ProofLibrary$Library", "constants", "()I"⟩ prog_5_method_23_code 3 (some .int)) ∈ TB := TB_m (tc_6 (List.mem_of_getElem? (i := 204) rfl)) rfl
theorem tw_1405 : (Cond.methodLink "ProofLibrary" 151 ⟨"ProofLibrary$Library", "ofKind", "(I)I"⟩) ∈ TB := TB_m (tc_6 (List.mem_of_getElem? (i := 205) rfl)) rfl
theorem tw_1406 : (Cond.instanceMethod ⟨"ProofLibrary$Library", "ofKind", "(I)I"⟩) ∈ TB := TB_m (tc_6 (List.mem_of_getElem? (i := 206) rfl)) rfl
theorem tw_1407 : (Cond.selects "ProofLibrary$Library" ⟨"ProofLibrary$Library", "ofKind", "(I)I"⟩ ⟨"ProofLibrary$Library", "ofKind", "(I)I"⟩) ∈ TB := TB_m (tc_6 (List.mem_of_getElem? (i := 207) rfl)) rfl
theorem tw_1408 : (Cond.code ⟨"ProofLibrary$Library", "ofKind", "(I)I"⟩ prog_5_method_24_code 4 (some .int)) ∈ TB := TB_m (tc_6 (List.mem_of_getElem? (i := 208) rfl)) rfl
theorem tw_1409 : (Cond.methodLink "ProofLibraryLaw" 36 ⟨"ProofLibrary", "kind", "(I)I"⟩) ∈ TB := TB_m (tc_6 (List.mem_of_getElem? (i := 209) rfl)) rfl
theorem tw_1410 : (Cond.instanceMethod ⟨"ProofLibrary", "kind", "(I)I"⟩) ∈ TB := TB_m (tc_6 (List.mem_of_getElem? (i := 210) rfl)) rfl
theorem tw_1411 : (Cond.selects "ProofLibrary" ⟨"ProofLibrary", "kind", "(I)I"⟩ ⟨"ProofLibrary", "kind", "(I)I"⟩) ∈ TB := TB_m (tc_6 (List.mem_of_getElem? (i := 211) rfl)) rfl
theorem tw_1412 : (Cond.code ⟨"ProofLibrary", "kind", "(I)I"⟩ prog_1_method_9_code 2 (some .int)) ∈ TB := TB_m (tc_6 (List.mem_of_getElem? (i := 212) rfl)) rfl
theorem tw_1413 : (Cond.methodLink "ProofLibrary" 161 ⟨"ProofLibrary$Library", "isStatement", "(I)Z"⟩) ∈ TB := TB_m (tc_6 (List.mem_of_getElem? (i := 213) rfl)) rfl
theorem tw_1414 : (Cond.instanceMethod ⟨"ProofLibrary$Library", "isStatement", "(I)Z"⟩) ∈ TB := TB_m (tc_6 (List.mem_of_getElem? (i := 214) rfl)) rfl
theorem tw_1415 : (Cond.selects "ProofLibrary$Library" ⟨"ProofLibrary$Library", "isStatement", "(I)Z"⟩ ⟨"ProofLibrary$Library", "isStatement", "(I)Z"⟩) ∈ TB := TB_m (tc_6 (List.mem_of_getElem? (i := 215) rfl)) rfl
theorem tw_1416 : (Cond.code ⟨"ProofLibrary$Library", "isStatement", "(I)Z"⟩ prog_5_method_19_code 2 (some .boolean)) ∈ TB := TB_m (tc_6 (List.mem_of_getElem? (i := 216) rfl)) rfl
theorem tw_1417 : (Cond.methodLink "ProofLibraryLaw" 40 ⟨"ProofLibrary", "length", "(I)I"⟩) ∈ TB := TB_m (tc_6 (List.mem_of_getElem? (i := 217) rfl)) rfl
theorem tw_1418 : (Cond.instanceMethod ⟨"ProofLibrary", "length", "(I)I"⟩) ∈ TB := TB_m (tc_6 (List.mem_of_getElem? (i := 218) rfl)) rfl
theorem tw_1419 : (Cond.selects "ProofLibrary" ⟨"ProofLibrary", "length", "(I)I"⟩ ⟨"ProofLibrary", "length", "(I)I"⟩) ∈ TB := TB_m (tc_6 (List.mem_of_getElem? (i := 219) rfl)) rfl
theorem tw_1420 : (Cond.code ⟨"ProofLibrary", "length", "(I)I"⟩ prog_1_method_10_code 2 (some .int)) ∈ TB := TB_m (tc_6 (List.mem_of_getElem? (i := 220) rfl)) rfl
theorem tw_1422 : (Cond.methodLink "ProofLibraryLaw" 44 ⟨"ProofLibrary", "symbol", "(II)I"⟩) ∈ TB := TB_m (tc_6 (List.mem_of_getElem? (i := 222) rfl)) rfl
theorem tw_1423 : (Cond.instanceMethod ⟨"ProofLibrary", "symbol", "(II)I"⟩) ∈ TB := TB_m (tc_6 (List.mem_of_getElem? (i := 223) rfl)) rfl
theorem tw_1424 : (Cond.selects "ProofLibrary" ⟨"ProofLibrary", "symbol", "(II)I"⟩ ⟨"ProofLibrary", "symbol", "(II)I"⟩) ∈ TB := TB_m (tc_6 (List.mem_of_getElem? (i := 224) rfl)) rfl
theorem tw_1425 : (Cond.code ⟨"ProofLibrary", "symbol", "(II)I"⟩ prog_1_method_11_code 3 (some .int)) ∈ TB := TB_m (tc_6 (List.mem_of_getElem? (i := 225) rfl)) rfl
theorem tw_1426 : (Cond.methodLink "ProofLibraryLaw" 49 ⟨"ProofLibrary", "variable", "(I)I"⟩) ∈ TB := TB_m (tc_6 (List.mem_of_getElem? (i := 226) rfl)) rfl
theorem tw_1427 : (Cond.instanceMethod ⟨"ProofLibrary", "variable", "(I)I"⟩) ∈ TB := TB_m (tc_6 (List.mem_of_getElem? (i := 227) rfl)) rfl
theorem tw_1428 : (Cond.selects "ProofLibrary" ⟨"ProofLibrary", "variable", "(I)I"⟩ ⟨"ProofLibrary", "variable", "(I)I"⟩) ∈ TB := TB_m (tc_6 (List.mem_of_getElem? (i := 228) rfl)) rfl
theorem tw_1429 : (Cond.code ⟨"ProofLibrary", "variable", "(I)I"⟩ prog_1_method_12_code 2 (some .int)) ∈ TB := TB_m (tc_6 (List.mem_of_getElem? (i := 229) rfl)) rfl
theorem tw_1430 : (Cond.methodLink "ProofLibrary" 177 ⟨"ProofLibrary$Library", "isSymbol", "(I)Z"⟩) ∈ TB := TB_m (tc_6 (List.mem_of_getElem? (i := 230) rfl)) rfl
theorem tw_1431 : (Cond.instanceMethod ⟨"ProofLibrary$Library", "isSymbol", "(I)Z"⟩) ∈ TB := TB_m (tc_6 (List.mem_of_getElem? (i := 231) rfl)) rfl
theorem tw_1432 : (Cond.selects "ProofLibrary$Library" ⟨"ProofLibrary$Library", "isSymbol", "(I)Z"⟩ ⟨"ProofLibrary$Library", "isSymbol", "(I)Z"⟩) ∈ TB := TB_m (tc_6 (List.mem_of_getElem? (i := 232) rfl)) rfl
theorem tw_1433 : (Cond.code ⟨"ProofLibrary$Library", "isSymbol", "(I)Z"⟩ prog_5_method_22_code 2 (some .boolean)) ∈ TB := TB_m (tc_6 (List.mem_of_getElem? (i := 233) rfl)) rfl
theorem tw_1434 : (Cond.methodLink "ProofLibraryLaw" 53 ⟨"ProofLibrary", "find", "(I)I"⟩) ∈ TB := TB_m (tc_6 (List.mem_of_getElem? (i := 234) rfl)) rfl
theorem tw_1435 : (Cond.instanceMethod ⟨"ProofLibrary", "find", "(I)I"⟩) ∈ TB := TB_m (tc_6 (List.mem_of_getElem? (i := 235) rfl)) rfl
theorem tw_1436 : (Cond.selects "ProofLibrary" ⟨"ProofLibrary", "find", "(I)I"⟩ ⟨"ProofLibrary", "find", "(I)I"⟩) ∈ TB := TB_m (tc_6 (List.mem_of_getElem? (i := 236) rfl)) rfl
theorem tw_1437 : (Cond.code ⟨"ProofLibrary", "find", "(I)I"⟩ prog_1_method_13_code 5 (some .int)) ∈ TB := TB_m (tc_6 (List.mem_of_getElem? (i := 237) rfl)) rfl
theorem tw_1438 : (Cond.methodLink "ProofLibrary" 184 ⟨"ProofLibrary", "skipBlanks", "([CII)I"⟩) ∈ TB := TB_m (tc_6 (List.mem_of_getElem? (i := 238) rfl)) rfl
theorem tw_1439 : (Cond.methodLink "ProofLibrary" 188 ⟨"ProofLibrary", "tokenEnd", "([CII)I"⟩) ∈ TB := TB_m (tc_6 (List.mem_of_getElem? (i := 239) rfl)) rfl
theorem tw_1444 : (Cond.methodLink "ProofLibrary$Library" 76 ⟨"ProofLibrary$Library", "nameOf", "([CII)I"⟩) ∈ TB := TB_m (tc_7 (List.mem_of_getElem? (i := 4) rfl)) rfl
theorem tw_1447 : (Cond.instanceMethod ⟨"ProofLibrary$Library", "symbolNamed", "([CII)I"⟩) ∈ TB := TB_m (tc_7 (List.mem_of_getElem? (i := 7) rfl)) rfl
theorem tw_1448 : (Cond.selects "ProofLibrary$Library" ⟨"ProofLibrary$Library", "symbolNamed", "([CII)I"⟩ ⟨"ProofLibrary$Library", "symbolNamed", "([CII)I"⟩) ∈ TB := TB_m (tc_7 (List.mem_of_getElem? (i := 8) rfl)) rfl
theorem tw_1449 : (Cond.code ⟨"ProofLibrary$Library", "symbolNamed", "([CII)I"⟩ prog_5_method_8_code 4 (some .int)) ∈ TB := TB_m (tc_7 (List.mem_of_getElem? (i := 9) rfl)) rfl
theorem tw_1450 : (Cond.methodLink "ProofLibrary$Library" 83 ⟨"ProofLibrary$Library", "symbolOf", "(I)I"⟩) ∈ TB := TB_m (tc_7 (List.mem_of_getElem? (i := 10) rfl)) rfl
theorem tw_1451 : (Cond.methodLink "ProofLibraryLaw" 57 ⟨"ProofLibrary", "frame", "(II)I"⟩) ∈ TB := TB_m (tc_7 (List.mem_of_getElem? (i := 11) rfl)) rfl
theorem tw_1452 : (Cond.instanceMethod ⟨"ProofLibrary", "frame", "(II)I"⟩) ∈ TB := TB_m (tc_7 (List.mem_of_getElem? (i := 12) rfl)) rfl
theorem tw_1453 : (Cond.selects "ProofLibrary" ⟨"ProofLibrary", "frame", "(II)I"⟩ ⟨"ProofLibrary", "frame", "(II)I"⟩) ∈ TB := TB_m (tc_7 (List.mem_of_getElem? (i := 13) rfl)) rfl
theorem tw_1454 : (Cond.code ⟨"ProofLibrary", "frame", "(II)I"⟩ prog_1_method_14_code 3 (some .int)) ∈ TB := TB_m (tc_7 (List.mem_of_getElem? (i := 14) rfl)) rfl
theorem tw_1455 : (Cond.methodLink "ProofLibrary" 197 ⟨"ProofLibrary$Library", "isAssertion", "(I)Z"⟩) ∈ TB := TB_m (tc_7 (List.mem_of_getElem? (i := 15) rfl)) rfl
theorem tw_1456 : (Cond.instanceMethod ⟨"ProofLibrary$Library", "isAssertion", "(I)Z"⟩) ∈ TB := TB_m (tc_7 (List.mem_of_getElem? (i := 16) rfl)) rfl
theorem tw_1457 : (Cond.selects "ProofLibrary$Library" ⟨"ProofLibrary$Library", "isAssertion", "(I)Z"⟩ ⟨"ProofLibrary$Library", "isAssertion", "(I)Z"⟩) ∈ TB := TB_m (tc_7 (List.mem_of_getElem? (i := 17) rfl)) rfl
theorem tw_1458 : (Cond.code ⟨"ProofLibrary$Library", "isAssertion", "(I)Z"⟩ prog_5_method_20_code 2 (some .boolean)) ∈ TB := TB_m (tc_7 (List.mem_of_getElem? (i := 18) rfl)) rfl
theorem tw_1459 : (Cond.methodLink "ProofLibrary$Library" 109 ⟨"ProofLibrary$Library", "isStatement", "(I)Z"⟩) ∈ TB := TB_m (tc_7 (List.mem_of_getElem? (i := 19) rfl)) rfl
theorem tw_1470 : (Cond.methodLink "ProofLibraryLaw" 61 ⟨"ProofLibrary", "hypothesis", "(II)I"⟩) ∈ TB := TB_m (tc_7 (List.mem_of_getElem? (i := 30) rfl)) rfl
theorem tw_1471 : (Cond.instanceMethod ⟨"ProofLibrary", "hypothesis", "(II)I"⟩) ∈ TB := TB_m (tc_7 (List.mem_of_getElem? (i := 31) rfl)) rfl
theorem tw_1472 : (Cond.selects "ProofLibrary" ⟨"ProofLibrary", "hypothesis", "(II)I"⟩ ⟨"ProofLibrary", "hypothesis", "(II)I"⟩) ∈ TB := TB_m (tc_7 (List.mem_of_getElem? (i := 32) rfl)) rfl
theorem tw_1473 : (Cond.code ⟨"ProofLibrary", "hypothesis", "(II)I"⟩ prog_1_method_15_code 3 (some .int)) ∈ TB := TB_m (tc_7 (List.mem_of_getElem? (i := 33) rfl)) rfl
theorem tw_1474 : (Cond.methodLink "ProofLibraryLaw" 65 ⟨"ProofLibrary", "apart", "(III)I"⟩) ∈ TB := TB_m (tc_7 (List.mem_of_getElem? (i := 34) rfl)) rfl
theorem tw_1475 : (Cond.instanceMethod ⟨"ProofLibrary", "apart", "(III)I"⟩) ∈ TB := TB_m (tc_7 (List.mem_of_getElem? (i := 35) rfl)) rfl
theorem tw_1476 : (Cond.selects "ProofLibrary" ⟨"ProofLibrary", "apart", "(III)I"⟩ ⟨"ProofLibrary", "apart", "(III)I"⟩) ∈ TB := TB_m (tc_7 (List.mem_of_getElem? (i := 36) rfl)) rfl
theorem tw_1477 : (Cond.code ⟨"ProofLibrary", "apart", "(III)I"⟩ prog_1_method_16_code 4 (some .int)) ∈ TB := TB_m (tc_7 (List.mem_of_getElem? (i := 37) rfl)) rfl
theorem tw_1484 : (Cond.methodLink "ProofLibraryLaw" 70 ⟨"ProofLibrary", "rows", "(I)I"⟩) ∈ TB := TB_m (tc_7 (List.mem_of_getElem? (i := 44) rfl)) rfl
theorem tw_1485 : (Cond.instanceMethod ⟨"ProofLibrary", "rows", "(I)I"⟩) ∈ TB := TB_m (tc_7 (List.mem_of_getElem? (i := 45) rfl)) rfl
theorem tw_1486 : (Cond.selects "ProofLibrary" ⟨"ProofLibrary", "rows", "(I)I"⟩ ⟨"ProofLibrary", "rows", "(I)I"⟩) ∈ TB := TB_m (tc_7 (List.mem_of_getElem? (i := 46) rfl)) rfl
theorem tw_1487 : (Cond.code ⟨"ProofLibrary", "rows", "(I)I"⟩ prog_1_method_17_code 2 (some .int)) ∈ TB := TB_m (tc_7 (List.mem_of_getElem? (i := 47) rfl)) rfl
theorem tw_1488 : (Cond.methodLink "ProofLibrary" 219 ⟨"ProofLibrary$Library", "isProved", "(I)Z"⟩) ∈ TB := TB_m (tc_7 (List.mem_of_getElem? (i := 48) rfl)) rfl
theorem tw_1489 : (Cond.instanceMethod ⟨"ProofLibrary$Library", "isProved", "(I)Z"⟩) ∈ TB := TB_m (tc_7 (List.mem_of_getElem? (i := 49) rfl)) rfl
theorem tw_1490 : (Cond.selects "ProofLibrary$Library" ⟨"ProofLibrary$Library", "isProved", "(I)Z"⟩ ⟨"ProofLibrary$Library", "isProved", "(I)Z"⟩) ∈ TB := TB_m (tc_7 (List.mem_of_getElem? (i := 50) rfl)) rfl
theorem tw_1491 : (Cond.code ⟨"ProofLibrary$Library", "isProved", "(I)Z"⟩ prog_5_method_21_code 2 (some .boolean)) ∈ TB := TB_m (tc_7 (List.mem_of_getElem? (i := 51) rfl)) rfl
theorem tw_1492 : (Cond.methodLink "ProofLibraryLaw" 74 ⟨"ProofLibrary", "row", "(II)I"⟩) ∈ TB := TB_m (tc_7 (List.mem_of_getElem? (i := 52) rfl)) rfl
theorem tw_1493 : (Cond.instanceMethod ⟨"ProofLibrary", "row", "(II)I"⟩) ∈ TB := TB_m (tc_7 (List.mem_of_getElem? (i := 53) rfl)) rfl
theorem tw_1494 : (Cond.selects "ProofLibrary" ⟨"ProofLibrary", "row", "(II)I"⟩ ⟨"ProofLibrary", "row", "(II)I"⟩) ∈ TB := TB_m (tc_7 (List.mem_of_getElem? (i := 54) rfl)) rfl
theorem tw_1495 : (Cond.code ⟨"ProofLibrary", "row", "(II)I"⟩ prog_1_method_19_code 3 (some .int)) ∈ TB := TB_m (tc_7 (List.mem_of_getElem? (i := 55) rfl)) rfl
theorem tw_1496 : (Cond.methodLink "ProofLibrary" 225 ⟨"ProofLibrary", "isRow", "(II)Z"⟩) ∈ TB := TB_m (tc_7 (List.mem_of_getElem? (i := 56) rfl)) rfl
theorem tw_1498 : (Cond.instanceMethod ⟨"ProofLibrary", "isRow", "(II)Z"⟩) ∈ TB := TB_m (tc_7 (List.mem_of_getElem? (i := 58) rfl)) rfl
theorem tw_1499 : (Cond.code ⟨"ProofLibrary", "isRow", "(II)Z"⟩ prog_1_method_18_code 3 (some .boolean)) ∈ TB := TB_m (tc_7 (List.mem_of_getElem? (i := 59) rfl)) rfl
theorem tw_1500 : (Cond.methodLink "ProofLibraryLaw" 78 ⟨"ProofLibrary", "from", "(III)I"⟩) ∈ TB := TB_m (tc_7 (List.mem_of_getElem? (i := 60) rfl)) rfl
theorem tw_1501 : (Cond.instanceMethod ⟨"ProofLibrary", "from", "(III)I"⟩) ∈ TB := TB_m (tc_7 (List.mem_of_getElem? (i := 61) rfl)) rfl
theorem tw_1502 : (Cond.selects "ProofLibrary" ⟨"ProofLibrary", "from", "(III)I"⟩ ⟨"ProofLibrary", "from", "(III)I"⟩) ∈ TB := TB_m (tc_7 (List.mem_of_getElem? (i := 62) rfl)) rfl
theorem tw_1503 : (Cond.code ⟨"ProofLibrary", "from", "(III)I"⟩ prog_1_method_20_code 5 (some .int)) ∈ TB := TB_m (tc_7 (List.mem_of_getElem? (i := 63) rfl)) rfl
theorem tw_1508 : (Cond.methodLink "ProofLibraryLaw" 82 ⟨"ProofLibrary", "rests", "(II)I"⟩) ∈ TB := TB_m (tc_7 (List.mem_of_getElem? (i := 68) rfl)) rfl
theorem tw_1509 : (Cond.instanceMethod ⟨"ProofLibrary", "rests", "(II)I"⟩) ∈ TB := TB_m (tc_7 (List.mem_of_getElem? (i := 69) rfl)) rfl
theorem tw_1510 : (Cond.selects "ProofLibrary" ⟨"ProofLibrary", "rests", "(II)I"⟩ ⟨"ProofLibrary", "rests", "(II)I"⟩) ∈ TB := TB_m (tc_7 (List.mem_of_getElem? (i := 70) rfl)) rfl
theorem tw_1511 : (Cond.code ⟨"ProofLibrary", "rests", "(II)I"⟩ prog_1_method_21_code 3 (some .int)) ∈ TB := TB_m (tc_7 (List.mem_of_getElem? (i := 71) rfl)) rfl
theorem tw_1513 : (Cond.methodLink "ProofLibraryLaw" 86 ⟨"ProofLibrary", "size", "(I)J"⟩) ∈ TB := TB_m (tc_7 (List.mem_of_getElem? (i := 73) rfl)) rfl
theorem tw_1514 : (Cond.instanceMethod ⟨"ProofLibrary", "size", "(I)J"⟩) ∈ TB := TB_m (tc_7 (List.mem_of_getElem? (i := 74) rfl)) rfl
theorem tw_1515 : (Cond.selects "ProofLibrary" ⟨"ProofLibrary", "size", "(I)J"⟩ ⟨"ProofLibrary", "size", "(I)J"⟩) ∈ TB := TB_m (tc_7 (List.mem_of_getElem? (i := 75) rfl)) rfl
theorem tw_1516 : (Cond.code ⟨"ProofLibrary", "size", "(I)J"⟩ prog_1_method_22_code 4 (some .long)) ∈ TB := TB_m (tc_7 (List.mem_of_getElem? (i := 76) rfl)) rfl
theorem tw_1517 : (Cond.constantLong "ProofLibrary" 247 (-1)) ∈ TB := TB_m (tc_7 (List.mem_of_getElem? (i := 77) rfl)) rfl
theorem tw_1524 : (Cond.methodLink "ProofLibraryLaw" 91 ⟨"ProofLibrary", "print", "(III)I"⟩) ∈ TB := TB_m (tc_7 (List.mem_of_getElem? (i := 84) rfl)) rfl
theorem tw_1525 : (Cond.instanceMethod ⟨"ProofLibrary", "print", "(III)I"⟩) ∈ TB := TB_m (tc_7 (List.mem_of_getElem? (i := 85) rfl)) rfl
theorem tw_1526 : (Cond.selects "ProofLibrary" ⟨"ProofLibrary", "print", "(III)I"⟩ ⟨"ProofLibrary", "print", "(III)I"⟩) ∈ TB := TB_m (tc_7 (List.mem_of_getElem? (i := 86) rfl)) rfl
theorem tw_1527 : (Cond.code ⟨"ProofLibrary", "print", "(III)I"⟩ prog_1_method_23_code 4 (some .int)) ∈ TB := TB_m (tc_7 (List.mem_of_getElem? (i := 87) rfl)) rfl
theorem tw_1528 : (Cond.methodLink "ProofLibrary" 257 ⟨"ProofLibrary", "printSymbol", "(I)I"⟩) ∈ TB := TB_m (tc_7 (List.mem_of_getElem? (i := 88) rfl)) rfl
theorem tw_1530 : (Cond.instanceMethod ⟨"ProofLibrary", "printSymbol", "(I)I"⟩) ∈ TB := TB_m (tc_7 (List.mem_of_getElem? (i := 90) rfl)) rfl
theorem tw_1531 : (Cond.code ⟨"ProofLibrary", "printSymbol", "(I)I"⟩ prog_1_method_24_code 2 (some .int)) ∈ TB := TB_m (tc_7 (List.mem_of_getElem? (i := 91) rfl)) rfl
theorem tw_1671 : (Cond.methodLink "ProofLibrary" 357 ⟨"ProofLibrary$Rules", "learn", "()V"⟩) ∈ TB := TB_m (tc_7 (List.mem_of_getElem? (i := 231) rfl)) rfl
theorem tw_1672 : (Cond.instanceMethod ⟨"ProofLibrary$Rules", "learn", "()V"⟩) ∈ TB := TB_m (tc_7 (List.mem_of_getElem? (i := 232) rfl)) rfl
theorem tw_1673 : (Cond.selects "ProofLibrary$Rules" ⟨"ProofLibrary$Rules", "learn", "()V"⟩ ⟨"ProofLibrary$Rules", "learn", "()V"⟩) ∈ TB := TB_m (tc_7 (List.mem_of_getElem? (i := 233) rfl)) rfl
theorem tw_1674 : (Cond.code ⟨"ProofLibrary$Rules", "learn", "()V"⟩ prog_10_method_2_code 2 none) ∈ TB := TB_m (tc_7 (List.mem_of_getElem? (i := 234) rfl)) rfl
theorem tn_1675 : (Cond.fieldLinkNest "ProofLibrary$Rules" 60 "ProofLibrary" "PROVABLE_NAME" "[C" "ProofLibrary") ∈ NB := NB_m (tc_7 (List.mem_of_getElem? (i := 235) rfl)) rfl
theorem tw_1677 : (Cond.methodLink "ProofLibrary$Rules" 64 ⟨"ProofLibrary$Rules", "constantNamed", "([C)I"⟩) ∈ TB := TB_m (tc_7 (List.mem_of_getElem? (i := 237) rfl)) rfl
theorem tw_1679 : (Cond.instanceMethod ⟨"ProofLibrary$Rules", "constantNamed", "([C)I"⟩) ∈ TB := TB_m (tc_7 (List.mem_of_getElem? (i := 239) rfl)) rfl
theorem tw_1680 : (Cond.code ⟨"ProofLibrary$Rules", "constantNamed", "([C)I"⟩ prog_10_method_3_code 3 (some .int)) ∈ TB := TB_m (tc_8 (List.mem_of_getElem? (i := 0) rfl)) rfl
theorem tw_1681 : (Cond.methodLink "ProofLibrary$Rules" 91 ⟨"ProofLibrary$Library", "symbolNamed", "([CII)I"⟩) ∈ TB := TB_m (tc_8 (List.mem_of_getElem? (i := 1) rfl)) rfl
theorem tn_1682 : (Cond.fieldLinkNest "ProofLibrary$Rules" 68 "ProofLibrary" "WFF_NAME" "[C" "ProofLibrary") ∈ NB := NB_m (tc_8 (List.mem_of_getElem? (i := 2) rfl)) rfl
theorem tw_1888 : (Cond.methodLink "ProofLibraryLaw" 95 ⟨"ProofLibrary", "character", "(I)I"⟩) ∈ TB := TB_m (tc_8 (List.mem_of_getElem? (i := 208) rfl)) rfl
theorem tw_1889 : (Cond.instanceMethod ⟨"ProofLibrary", "character", "(I)I"⟩) ∈ TB := TB_m (tc_8 (List.mem_of_getElem? (i := 209) rfl)) rfl
theorem tw_1890 : (Cond.selects "ProofLibrary" ⟨"ProofLibrary", "character", "(I)I"⟩ ⟨"ProofLibrary", "character", "(I)I"⟩) ∈ TB := TB_m (tc_8 (List.mem_of_getElem? (i := 210) rfl)) rfl
theorem tw_1891 : (Cond.code ⟨"ProofLibrary", "character", "(I)I"⟩ prog_1_method_31_code 2 (some .int)) ∈ TB := TB_m (tc_8 (List.mem_of_getElem? (i := 211) rfl)) rfl
theorem tw_1892 : (Cond.methodLink "ProofLibrary" 369 ⟨"ProofLibrary$Paper", "shown", "(I)I"⟩) ∈ TB := TB_m (tc_8 (List.mem_of_getElem? (i := 212) rfl)) rfl
theorem tw_1893 : (Cond.instanceMethod ⟨"ProofLibrary$Paper", "shown", "(I)I"⟩) ∈ TB := TB_m (tc_8 (List.mem_of_getElem? (i := 213) rfl)) rfl
theorem tw_1894 : (Cond.selects "ProofLibrary$Paper" ⟨"ProofLibrary$Paper", "shown", "(I)I"⟩ ⟨"ProofLibrary$Paper", "shown", "(I)I"⟩) ∈ TB := TB_m (tc_8 (List.mem_of_getElem? (i := 214) rfl)) rfl
theorem tw_1895 : (Cond.code ⟨"ProofLibrary$Paper", "shown", "(I)I"⟩ prog_7_method_11_code 2 (some .int)) ∈ TB := TB_m (tc_8 (List.mem_of_getElem? (i := 215) rfl)) rfl
theorem tw_1896 : (Cond.methodLink "ProofLibraryLaw" 99 ⟨"ProofLibrary", "trees", "(I)I"⟩) ∈ TB := TB_m (tc_8 (List.mem_of_getElem? (i := 216) rfl)) rfl
theorem tw_1897 : (Cond.instanceMethod ⟨"ProofLibrary", "trees", "(I)I"⟩) ∈ TB := TB_m (tc_8 (List.mem_of_getElem? (i := 217) rfl)) rfl
theorem tw_1898 : (Cond.selects "ProofLibrary" ⟨"ProofLibrary", "trees", "(I)I"⟩ ⟨"ProofLibrary", "trees", "(I)I"⟩) ∈ TB := TB_m (tc_8 (List.mem_of_getElem? (i := 218) rfl)) rfl
theorem tw_1899 : (Cond.code ⟨"ProofLibrary", "trees", "(I)I"⟩ prog_1_method_32_code 2 (some .int)) ∈ TB := TB_m (tc_8 (List.mem_of_getElem? (i := 219) rfl)) rfl
theorem tw_1900 : (Cond.methodLink "ProofLibraryLaw" 103 ⟨"ProofLibrary", "equate", "(I)I"⟩) ∈ TB := TB_m (tc_8 (List.mem_of_getElem? (i := 220) rfl)) rfl
theorem tw_1901 : (Cond.instanceMethod ⟨"ProofLibrary", "equate", "(I)I"⟩) ∈ TB := TB_m (tc_8 (List.mem_of_getElem? (i := 221) rfl)) rfl
theorem tw_1902 : (Cond.selects "ProofLibrary" ⟨"ProofLibrary", "equate", "(I)I"⟩ ⟨"ProofLibrary", "equate", "(I)I"⟩) ∈ TB := TB_m (tc_8 (List.mem_of_getElem? (i := 222) rfl)) rfl
theorem tw_1903 : (Cond.code ⟨"ProofLibrary", "equate", "(I)I"⟩ prog_1_method_34_code 2 (some .int)) ∈ TB := TB_m (tc_8 (List.mem_of_getElem? (i := 223) rfl)) rfl
theorem tw_1910 : (Cond.methodLink "ProofLibraryLaw" 107 ⟨"ProofLibrary", "definition", "(I)I"⟩) ∈ TB := TB_m (tc_8 (List.mem_of_getElem? (i := 230) rfl)) rfl
theorem tw_1911 : (Cond.instanceMethod ⟨"ProofLibrary", "definition", "(I)I"⟩) ∈ TB := TB_m (tc_8 (List.mem_of_getElem? (i := 231) rfl)) rfl
theorem tw_1912 : (Cond.selects "ProofLibrary" ⟨"ProofLibrary", "definition", "(I)I"⟩ ⟨"ProofLibrary", "definition", "(I)I"⟩) ∈ TB := TB_m (tc_8 (List.mem_of_getElem? (i := 232) rfl)) rfl
theorem tw_1913 : (Cond.code ⟨"ProofLibrary", "definition", "(I)I"⟩ prog_1_method_35_code 2 (some .int)) ∈ TB := TB_m (tc_8 (List.mem_of_getElem? (i := 233) rfl)) rfl
theorem tw_1915 : (Cond.methodLink "ProofLibraryLaw" 111 ⟨"ProofLibrary", "apply", "(I)I"⟩) ∈ TB := TB_m (tc_8 (List.mem_of_getElem? (i := 235) rfl)) rfl
theorem tw_1916 : (Cond.instanceMethod ⟨"ProofLibrary", "apply", "(I)I"⟩) ∈ TB := TB_m (tc_8 (List.mem_of_getElem? (i := 236) rfl)) rfl
theorem tw_1917 : (Cond.selects "ProofLibrary" ⟨"ProofLibrary", "apply", "(I)I"⟩ ⟨"ProofLibrary", "apply", "(I)I"⟩) ∈ TB := TB_m (tc_8 (List.mem_of_getElem? (i := 237) rfl)) rfl
theorem tw_1918 : (Cond.code ⟨"ProofLibrary", "apply", "(I)I"⟩ prog_1_method_36_code 3 (some .int)) ∈ TB := TB_m (tc_8 (List.mem_of_getElem? (i := 238) rfl)) rfl
theorem tw_1919 : (Cond.methodLink "ProofLibrary" 387 ⟨"ProofLibrary", "takeRow", "()I"⟩) ∈ TB := TB_m (tc_8 (List.mem_of_getElem? (i := 239) rfl)) rfl
theorem tw_1921 : (Cond.instanceMethod ⟨"ProofLibrary", "takeRow", "()I"⟩) ∈ TB := TB_m (tc_9 (List.mem_of_getElem? (i := 1) rfl)) rfl
theorem tw_1922 : (Cond.code ⟨"ProofLibrary", "takeRow", "()I"⟩ prog_1_method_37_code 7 (some .int)) ∈ TB := TB_m (tc_9 (List.mem_of_getElem? (i := 2) rfl)) rfl
theorem tw_1954 : (Cond.methodLink "ProofLibraryLaw" 115 ⟨"ProofLibrary", "check", "()I"⟩) ∈ TB := TB_m (tc_9 (List.mem_of_getElem? (i := 34) rfl)) rfl
theorem tw_1955 : (Cond.instanceMethod ⟨"ProofLibrary", "check", "()I"⟩) ∈ TB := TB_m (tc_9 (List.mem_of_getElem? (i := 35) rfl)) rfl
theorem tw_1956 : (Cond.selects "ProofLibrary" ⟨"ProofLibrary", "check", "()I"⟩ ⟨"ProofLibrary", "check", "()I"⟩) ∈ TB := TB_m (tc_9 (List.mem_of_getElem? (i := 36) rfl)) rfl
theorem tw_1957 : (Cond.code ⟨"ProofLibrary", "check", "()I"⟩ prog_1_method_40_code 2 (some .int)) ∈ TB := TB_m (tc_9 (List.mem_of_getElem? (i := 37) rfl)) rfl
theorem tw_1982 : (Cond.methodLink "ProofLibrary" 427 ⟨"java/lang/Math", "max", "(II)I"⟩) ∈ TB := TB_m (tc_9 (List.mem_of_getElem? (i := 62) rfl)) rfl
theorem tw_1987 : (Cond.classLink "ProofLibraryLaw" 10 "ProofLibraryModel") ∈ TB := TB_m (tc_9 (List.mem_of_getElem? (i := 67) rfl)) rfl
theorem tw_1988 : (Cond.instantiable "ProofLibraryModel" 170) ∈ TB := TB_m (tc_9 (List.mem_of_getElem? (i := 68) rfl)) rfl
theorem tw_1989 : (Cond.methodLink "ProofLibraryLaw" 12 ⟨"ProofLibraryModel", "<init>", "()V"⟩) ∈ TB := TB_m (tc_9 (List.mem_of_getElem? (i := 69) rfl)) rfl
theorem tw_1990 : (Cond.instanceMethod ⟨"ProofLibraryModel", "<init>", "()V"⟩) ∈ TB := TB_m (tc_9 (List.mem_of_getElem? (i := 70) rfl)) rfl
theorem tw_1991 : (Cond.code ⟨"ProofLibraryModel", "<init>", "()V"⟩ prog_15_method_1_code 1 none) ∈ TB := TB_m (tc_9 (List.mem_of_getElem? (i := 71) rfl)) rfl
theorem tw_1992 : (Cond.methodLink "ProofLibraryModel" 1 ⟨"java/lang/Object", "<init>", "()V"⟩) ∈ TB := TB_m (tc_9 (List.mem_of_getElem? (i := 72) rfl)) rfl
theorem tw_1993 : (Cond.constant "ProofLibraryModel" 7 60000) ∈ TB := TB_m (tc_9 (List.mem_of_getElem? (i := 73) rfl)) rfl
theorem tw_1994 : (Cond.constant "ProofLibraryModel" 72 90100) ∈ TB := TB_m (tc_9 (List.mem_of_getElem? (i := 74) rfl)) rfl
theorem tw_1995 : (Cond.constant "ProofLibraryModel" 103 36024) ∈ TB := TB_m (tc_9 (List.mem_of_getElem? (i := 75) rfl)) rfl
theorem tw_1996 : (Cond.constant "ProofLibraryModel" 150 42000) ∈ TB := TB_m (tc_9 (List.mem_of_getElem? (i := 76) rfl)) rfl
theorem tw_1997 : (Cond.constant "ProofLibraryModel" 196 120000) ∈ TB := TB_m (tc_9 (List.mem_of_getElem? (i := 77) rfl)) rfl
theorem tw_1998 : (Cond.constant "ProofLibraryModel" 221 40002) ∈ TB := TB_m (tc_9 (List.mem_of_getElem? (i := 78) rfl)) rfl
theorem tw_1999 : (Cond.constant "ProofLibraryModel" 234 65536) ∈ TB := TB_m (tc_9 (List.mem_of_getElem? (i := 79) rfl)) rfl
theorem tw_2000 : (Cond.constant "ProofLibraryModel" 253 372100) ∈ TB := TB_m (tc_9 (List.mem_of_getElem? (i := 80) rfl)) rfl
theorem tw_2001 : (Cond.constant "ProofLibraryModel" 347 460000) ∈ TB := TB_m (tc_9 (List.mem_of_getElem? (i := 81) rfl)) rfl
theorem tw_2002 : (Cond.methodLink "ProofLibraryModel" 376 ⟨"ProofLibraryModel", "clearTables", "()V"⟩) ∈ TB := TB_m (tc_9 (List.mem_of_getElem? (i := 82) rfl)) rfl
theorem tw_2004 : (Cond.instanceMethod ⟨"ProofLibraryModel", "clearTables", "()V"⟩) ∈ TB := TB_m (tc_9 (List.mem_of_getElem? (i := 84) rfl)) rfl
theorem tw_2005 : (Cond.code ⟨"ProofLibraryModel", "clearTables", "()V"⟩ prog_15_method_8_code 2 none) ∈ TB := TB_m (tc_9 (List.mem_of_getElem? (i := 85) rfl)) rfl
theorem tw_2006 : (Cond.fieldLink "ProofLibraryModel" 8 "ProofLibraryModel" "tape" "[I") ∈ TB := TB_m (tc_9 (List.mem_of_getElem? (i := 86) rfl)) rfl
theorem tw_2007 : (Cond.fieldLink "ProofLibraryModel" 379 "ProofLibraryModel" "tapeSize" "I") ∈ TB := TB_m (tc_9 (List.mem_of_getElem? (i := 87) rfl)) rfl
theorem tw_2008 : (Cond.fieldLink "ProofLibraryModel" 382 "ProofLibraryModel" "isFed" "Z") ∈ TB := TB_m (tc_9 (List.mem_of_getElem? (i := 88) rfl)) rfl
theorem tw_2009 : (Cond.fieldLink "ProofLibraryModel" 14 "ProofLibraryModel" "chars" "[I") ∈ TB := TB_m (tc_9 (List.mem_of_getElem? (i := 89) rfl)) rfl
theorem tw_2010 : (Cond.fieldLink "ProofLibraryModel" 400 "ProofLibraryModel" "charCount" "I") ∈ TB := TB_m (tc_9 (List.mem_of_getElem? (i := 90) rfl)) rfl
theorem tw_2011 : (Cond.fieldLink "ProofLibraryModel" 17 "ProofLibraryModel" "symbolAt" "[I") ∈ TB := TB_m (tc_9 (List.mem_of_getElem? (i := 91) rfl)) rfl
theorem tw_2012 : (Cond.fieldLink "ProofLibraryModel" 20 "ProofLibraryModel" "symbolSize" "[I") ∈ TB := TB_m (tc_9 (List.mem_of_getElem? (i := 92) rfl)) rfl
theorem tw_2013 : (Cond.fieldLink "ProofLibraryModel" 471 "ProofLibraryModel" "symbols" "I") ∈ TB := TB_m (tc_9 (List.mem_of_getElem? (i := 93) rfl)) rfl
theorem tw_2014 : (Cond.fieldLink "ProofLibraryModel" 23 "ProofLibraryModel" "labelAt" "[I") ∈ TB := TB_m (tc_9 (List.mem_of_getElem? (i := 94) rfl)) rfl
theorem tw_2015 : (Cond.fieldLink "ProofLibraryModel" 26 "ProofLibraryModel" "labelSize" "[I") ∈ TB := TB_m (tc_9 (List.mem_of_getElem? (i := 95) rfl)) rfl
theorem tw_2016 : (Cond.fieldLink "ProofLibraryModel" 29 "ProofLibraryModel" "symbolTable" "[I") ∈ TB := TB_m (tc_9 (List.mem_of_getElem? (i := 96) rfl)) rfl
theorem tw_2017 : (Cond.fieldLink "ProofLibraryModel" 32 "ProofLibraryModel" "labelTable" "[I") ∈ TB := TB_m (tc_9 (List.mem_of_getElem? (i := 97) rfl)) rfl
theorem tw_2018 : (Cond.fieldLink "ProofLibraryModel" 35 "ProofLibraryModel" "isVariable" "[Z") ∈ TB := TB_m (tc_9 (List.mem_of_getElem? (i := 98) rfl)) rfl
theorem tw_2019 : (Cond.fieldLink "ProofLibraryModel" 39 "ProofLibraryModel" "isActive" "[Z") ∈ TB := TB_m (tc_9 (List.mem_of_getElem? (i := 99) rfl)) rfl
theorem tw_2020 : (Cond.fieldLink "ProofLibraryModel" 42 "ProofLibraryModel" "typeOf" "[I") ∈ TB := TB_m (tc_9 (List.mem_of_getElem? (i := 100) rfl)) rfl
theorem tw_2021 : (Cond.fieldLink "ProofLibraryModel" 45 "ProofLibraryModel" "floatOf" "[I") ∈ TB := TB_m (tc_9 (List.mem_of_getElem? (i := 101) rfl)) rfl
theorem tw_2022 : (Cond.fieldLink "ProofLibraryModel" 48 "ProofLibraryModel" "begins" "[Z") ∈ TB := TB_m (tc_9 (List.mem_of_getElem? (i := 102) rfl)) rfl
theorem tw_2024 : (Cond.fieldLink "ProofLibraryModel" 512 "ProofLibraryModel" "statements" "I") ∈ TB := TB_m (tc_9 (List.mem_of_getElem? (i := 104) rfl)) rfl
theorem tw_2025 : (Cond.fieldLink "ProofLibraryModel" 51 "ProofLibraryModel" "kindOf" "[I") ∈ TB := TB_m (tc_9 (List.mem_of_getElem? (i := 105) rfl)) rfl
theorem tw_2026 : (Cond.fieldLink "ProofLibraryModel" 54 "ProofLibraryModel" "textAt" "[I") ∈ TB := TB_m (tc_9 (List.mem_of_getElem? (i := 106) rfl)) rfl
theorem tw_2027 : (Cond.fieldLink "ProofLibraryModel" 57 "ProofLibraryModel" "textSize" "[I") ∈ TB := TB_m (tc_9 (List.mem_of_getElem? (i := 107) rfl)) rfl
theorem tw_2028 : (Cond.fieldLink "ProofLibraryModel" 60 "ProofLibraryModel" "texts" "[I") ∈ TB := TB_m (tc_9 (List.mem_of_getElem? (i := 108) rfl)) rfl
theorem tw_2029 : (Cond.fieldLink "ProofLibraryModel" 63 "ProofLibraryModel" "floats" "[I") ∈ TB := TB_m (tc_9 (List.mem_of_getElem? (i := 109) rfl)) rfl
theorem tw_2031 : (Cond.fieldLink "ProofLibraryModel" 66 "ProofLibraryModel" "hypAt" "[I") ∈ TB := TB_m (tc_9 (List.mem_of_getElem? (i := 111) rfl)) rfl
theorem tw_2032 : (Cond.fieldLink "ProofLibraryModel" 69 "ProofLibraryModel" "hypSize" "[I") ∈ TB := TB_m (tc_9 (List.mem_of_getElem? (i := 112) rfl)) rfl
theorem tw_2033 : (Cond.fieldLink "ProofLibraryModel" 73 "ProofLibraryModel" "hyps" "[I") ∈ TB := TB_m (tc_9 (List.mem_of_getElem? (i := 113) rfl)) rfl
theorem tw_2035 : (Cond.fieldLink "ProofLibraryModel" 76 "ProofLibraryModel" "pairAt" "[I") ∈ TB := TB_m (tc_9 (List.mem_of_getElem? (i := 115) rfl)) rfl
theorem tw_2036 : (Cond.fieldLink "ProofLibraryModel" 79 "ProofLibraryModel" "pairSize" "[I") ∈ TB := TB_m (tc_9 (List.mem_of_getElem? (i := 116) rfl)) rfl
theorem tw_2037 : (Cond.fieldLink "ProofLibraryModel" 82 "ProofLibraryModel" "pairA" "[I") ∈ TB := TB_m (tc_9 (List.mem_of_getElem? (i := 117) rfl)) rfl
theorem tw_2038 : (Cond.fieldLink "ProofLibraryModel" 85 "ProofLibraryModel" "pairB" "[I") ∈ TB := TB_m (tc_9 (List.mem_of_getElem? (i := 118) rfl)) rfl
theorem tw_2039 : (Cond.fieldLink "ProofLibraryModel" 530 "ProofLibraryModel" "pairCount" "I") ∈ TB := TB_m (tc_9 (List.mem_of_getElem? (i := 119) rfl)) rfl
theorem tw_2040 : (Cond.fieldLink "ProofLibraryModel" 88 "ProofLibraryModel" "stepAt" "[I") ∈ TB := TB_m (tc_9 (List.mem_of_getElem? (i := 120) rfl)) rfl
theorem tw_2041 : (Cond.fieldLink "ProofLibraryModel" 91 "ProofLibraryModel" "stepSize" "[I") ∈ TB := TB_m (tc_9 (List.mem_of_getElem? (i := 121) rfl)) rfl
theorem tw_2042 : (Cond.fieldLink "ProofLibraryModel" 94 "ProofLibraryModel" "steps" "[I") ∈ TB := TB_m (tc_9 (List.mem_of_getElem? (i := 122) rfl)) rfl
theorem tw_2043 : (Cond.fieldLink "ProofLibraryModel" 97 "ProofLibraryModel" "saves" "[Z") ∈ TB := TB_m (tc_9 (List.mem_of_getElem? (i := 123) rfl)) rfl
theorem tw_2044 : (Cond.fieldLink "ProofLibraryModel" 100 "ProofLibraryModel" "stepPlace" "[I") ∈ TB := TB_m (tc_9 (List.mem_of_getElem? (i := 124) rfl)) rfl
theorem tw_2045 : (Cond.fieldLink "ProofLibraryModel" 533 "ProofLibraryModel" "stepCount" "I") ∈ TB := TB_m (tc_9 (List.mem_of_getElem? (i := 125) rfl)) rfl
theorem tw_2046 : (Cond.fieldLink "ProofLibraryModel" 104 "ProofLibraryModel" "rest" "[J") ∈ TB := TB_m (tc_9 (List.mem_of_getElem? (i := 126) rfl)) rfl
theorem tw_2047 : (Cond.fieldLink "ProofLibraryModel" 370 "ProofLibraryModel" "wff" "I") ∈ TB := TB_m (tc_9 (List.mem_of_getElem? (i := 127) rfl)) rfl
theorem tw_2048 : (Cond.fieldLink "ProofLibraryModel" 373 "ProofLibraryModel" "turnstile" "I") ∈ TB := TB_m (tc_9 (List.mem_of_getElem? (i := 128) rfl)) rfl
theorem tw_2049 : (Cond.fieldLink "ProofLibraryModel" 108 "ProofLibraryModel" "activeVariables" "[I") ∈ TB := TB_m (tc_9 (List.mem_of_getElem? (i := 129) rfl)) rfl
theorem tw_2050 : (Cond.fieldLink "ProofLibraryModel" 405 "ProofLibraryModel" "activeVariableCount" "I") ∈ TB := TB_m (tc_9 (List.mem_of_getElem? (i := 130) rfl)) rfl
theorem tw_2051 : (Cond.fieldLink "ProofLibraryModel" 111 "ProofLibraryModel" "activeHyps" "[I") ∈ TB := TB_m (tc_9 (List.mem_of_getElem? (i := 131) rfl)) rfl
theorem tw_2052 : (Cond.fieldLink "ProofLibraryModel" 408 "ProofLibraryModel" "activeHypCount" "I") ∈ TB := TB_m (tc_9 (List.mem_of_getElem? (i := 132) rfl)) rfl
theorem tw_2053 : (Cond.fieldLink "ProofLibraryModel" 114 "ProofLibraryModel" "apartA" "[I") ∈ TB := TB_m (tc_9 (List.mem_of_getElem? (i := 133) rfl)) rfl
theorem tw_2054 : (Cond.fieldLink "ProofLibraryModel" 117 "ProofLibraryModel" "apartB" "[I") ∈ TB := TB_m (tc_9 (List.mem_of_getElem? (i := 134) rfl)) rfl
theorem tw_2055 : (Cond.fieldLink "ProofLibraryModel" 411 "ProofLibraryModel" "apartCount" "I") ∈ TB := TB_m (tc_9 (List.mem_of_getElem? (i := 135) rfl)) rfl
theorem tw_2056 : (Cond.fieldLink "ProofLibraryModel" 120 "ProofLibraryModel" "apartBits" "[J") ∈ TB := TB_m (tc_9 (List.mem_of_getElem? (i := 136) rfl)) rfl
theorem tw_2057 : (Cond.fieldLink "ProofLibraryModel" 677 "ProofLibraryModel" "scopes" "I") ∈ TB := TB_m (tc_9 (List.mem_of_getElem? (i := 137) rfl)) rfl
theorem tw_2058 : (Cond.fieldLink "ProofLibraryModel" 123 "ProofLibraryModel" "scopeVariables" "[I") ∈ TB := TB_m (tc_9 (List.mem_of_getElem? (i := 138) rfl)) rfl
theorem tw_2059 : (Cond.fieldLink "ProofLibraryModel" 126 "ProofLibraryModel" "scopeHyps" "[I") ∈ TB := TB_m (tc_9 (List.mem_of_getElem? (i := 139) rfl)) rfl
theorem tw_2060 : (Cond.fieldLink "ProofLibraryModel" 129 "ProofLibraryModel" "scopeApart" "[I") ∈ TB := TB_m (tc_9 (List.mem_of_getElem? (i := 140) rfl)) rfl
theorem tw_2061 : (Cond.fieldLink "ProofLibraryModel" 427 "ProofLibraryModel" "at" "I") ∈ TB := TB_m (tc_9 (List.mem_of_getElem? (i := 141) rfl)) rfl
theorem tw_2062 : (Cond.fieldLink "ProofLibraryModel" 424 "ProofLibraryModel" "tokenAt" "I") ∈ TB := TB_m (tc_9 (List.mem_of_getElem? (i := 142) rfl)) rfl
theorem tw_2063 : (Cond.fieldLink "ProofLibraryModel" 421 "ProofLibraryModel" "tokenSize" "I") ∈ TB := TB_m (tc_9 (List.mem_of_getElem? (i := 143) rfl)) rfl
theorem tw_2064 : (Cond.fieldLink "ProofLibraryModel" 452 "ProofLibraryModel" "token" "I") ∈ TB := TB_m (tc_9 (List.mem_of_getElem? (i := 144) rfl)) rfl
theorem tw_2065 : (Cond.fieldLink "ProofLibraryModel" 418 "ProofLibraryModel" "fault" "I") ∈ TB := TB_m (tc_9 (List.mem_of_getElem? (i := 145) rfl)) rfl
theorem tw_2066 : (Cond.fieldLink "ProofLibraryModel" 366 "ProofLibraryModel" "placeIs" "I") ∈ TB := TB_m (tc_9 (List.mem_of_getElem? (i := 146) rfl)) rfl
theorem tw_2067 : (Cond.fieldLink "ProofLibraryModel" 132 "ProofLibraryModel" "distinct" "[I") ∈ TB := TB_m (tc_9 (List.mem_of_getElem? (i := 147) rfl)) rfl
theorem tw_2069 : (Cond.fieldLink "ProofLibraryModel" 135 "ProofLibraryModel" "isMarked" "[Z") ∈ TB := TB_m (tc_9 (List.mem_of_getElem? (i := 149) rfl)) rfl
theorem tw_2072 : (Cond.fieldLink "ProofLibraryModel" 138 "ProofLibraryModel" "packedLabels" "[I") ∈ TB := TB_m (tc_9 (List.mem_of_getElem? (i := 152) rfl)) rfl
theorem tw_2078 : (Cond.fieldLink "ProofLibraryModel" 141 "ProofLibraryModel" "pileAt" "[I") ∈ TB := TB_m (tc_9 (List.mem_of_getElem? (i := 158) rfl)) rfl
theorem tw_2079 : (Cond.fieldLink "ProofLibraryModel" 144 "ProofLibraryModel" "pileSize" "[I") ∈ TB := TB_m (tc_9 (List.mem_of_getElem? (i := 159) rfl)) rfl
theorem tw_2080 : (Cond.fieldLink "ProofLibraryModel" 147 "ProofLibraryModel" "pileRow" "[I") ∈ TB := TB_m (tc_9 (List.mem_of_getElem? (i := 160) rfl)) rfl
theorem tw_2082 : (Cond.fieldLink "ProofLibraryModel" 151 "ProofLibraryModel" "pileSymbols" "[I") ∈ TB := TB_m (tc_9 (List.mem_of_getElem? (i := 162) rfl)) rfl
theorem tw_2084 : (Cond.fieldLink "ProofLibraryModel" 154 "ProofLibraryModel" "savedAt" "[I") ∈ TB := TB_m (tc_9 (List.mem_of_getElem? (i := 164) rfl)) rfl
theorem tw_2085 : (Cond.fieldLink "ProofLibraryModel" 157 "ProofLibraryModel" "savedSize" "[I") ∈ TB := TB_m (tc_9 (List.mem_of_getElem? (i := 165) rfl)) rfl
theorem tw_2086 : (Cond.fieldLink "ProofLibraryModel" 160 "ProofLibraryModel" "savedRow" "[I") ∈ TB := TB_m (tc_9 (List.mem_of_getElem? (i := 166) rfl)) rfl
theorem tw_2088 : (Cond.fieldLink "ProofLibraryModel" 163 "ProofLibraryModel" "savedSymbols" "[I") ∈ TB := TB_m (tc_9 (List.mem_of_getElem? (i := 168) rfl)) rfl
theorem tw_2090 : (Cond.fieldLink "ProofLibraryModel" 166 "ProofLibraryModel" "becomesAt" "[I") ∈ TB := TB_m (tc_9 (List.mem_of_getElem? (i := 170) rfl)) rfl
theorem tw_2091 : (Cond.fieldLink "ProofLibraryModel" 169 "ProofLibraryModel" "becomesSize" "[I") ∈ TB := TB_m (tc_9 (List.mem_of_getElem? (i := 171) rfl)) rfl
theorem tw_2092 : (Cond.fieldLink "ProofLibraryModel" 172 "ProofLibraryModel" "madeRow" "[I") ∈ TB := TB_m (tc_9 (List.mem_of_getElem? (i := 172) rfl)) rfl
theorem tw_2095 : (Cond.fieldLink "ProofLibraryModel" 175 "ProofLibraryModel" "wasVariable" "[Z") ∈ TB := TB_m (tc_9 (List.mem_of_getElem? (i := 175) rfl)) rfl
theorem tw_2096 : (Cond.fieldLink "ProofLibraryModel" 178 "ProofLibraryModel" "wasActive" "[Z") ∈ TB := TB_m (tc_9 (List.mem_of_getElem? (i := 176) rfl)) rfl
theorem tw_2097 : (Cond.fieldLink "ProofLibraryModel" 181 "ProofLibraryModel" "wasBegin" "[Z") ∈ TB := TB_m (tc_9 (List.mem_of_getElem? (i := 177) rfl)) rfl
theorem tw_2098 : (Cond.fieldLink "ProofLibraryModel" 184 "ProofLibraryModel" "wasType" "[I") ∈ TB := TB_m (tc_9 (List.mem_of_getElem? (i := 178) rfl)) rfl
theorem tw_2099 : (Cond.fieldLink "ProofLibraryModel" 187 "ProofLibraryModel" "wasFloat" "[I") ∈ TB := TB_m (tc_9 (List.mem_of_getElem? (i := 179) rfl)) rfl
theorem tw_2100 : (Cond.fieldLink "ProofLibraryModel" 190 "ProofLibraryModel" "rowOf" "[I") ∈ TB := TB_m (tc_9 (List.mem_of_getElem? (i := 180) rfl)) rfl
theorem tw_2101 : (Cond.fieldLink "ProofLibraryModel" 193 "ProofLibraryModel" "rowFromAt" "[I") ∈ TB := TB_m (tc_9 (List.mem_of_getElem? (i := 181) rfl)) rfl
theorem tw_2102 : (Cond.fieldLink "ProofLibraryModel" 197 "ProofLibraryModel" "rowFroms" "[I") ∈ TB := TB_m (tc_9 (List.mem_of_getElem? (i := 182) rfl)) rfl
theorem tw_2105 : (Cond.fieldLink "ProofLibraryModel" 727 "ProofLibraryModel" "rowsOf" "I") ∈ TB := TB_m (tc_9 (List.mem_of_getElem? (i := 185) rfl)) rfl
theorem tw_2106 : (Cond.fieldLink "ProofLibraryModel" 200 "ProofLibraryModel" "sizes" "[J") ∈ TB := TB_m (tc_9 (List.mem_of_getElem? (i := 186) rfl)) rfl
theorem tw_2107 : (Cond.fieldLink "ProofLibraryModel" 203 "ProofLibraryModel" "draft" "[I") ∈ TB := TB_m (tc_9 (List.mem_of_getElem? (i := 187) rfl)) rfl
theorem tw_2108 : (Cond.fieldLink "ProofLibraryModel" 760 "ProofLibraryModel" "draftSize" "I") ∈ TB := TB_m (tc_9 (List.mem_of_getElem? (i := 188) rfl)) rfl
theorem tw_2109 : (Cond.fieldLink "ProofLibraryModel" 206 "ProofLibraryModel" "printed" "[I") ∈ TB := TB_m (tc_9 (List.mem_of_getElem? (i := 189) rfl)) rfl
theorem tw_2110 : (Cond.fieldLink "ProofLibraryModel" 772 "ProofLibraryModel" "printedSize" "I") ∈ TB := TB_m (tc_9 (List.mem_of_getElem? (i := 190) rfl)) rfl
theorem tw_2111 : (Cond.fieldLink "ProofLibraryModel" 209 "ProofLibraryModel" "sameAs" "[I") ∈ TB := TB_m (tc_9 (List.mem_of_getElem? (i := 191) rfl)) rfl
theorem tw_2112 : (Cond.fieldLink "ProofLibraryModel" 212 "ProofLibraryModel" "uses" "[I") ∈ TB := TB_m (tc_9 (List.mem_of_getElem? (i := 192) rfl)) rfl
theorem tw_2113 : (Cond.fieldLink "ProofLibraryModel" 215 "ProofLibraryModel" "numberOf" "[I") ∈ TB := TB_m (tc_9 (List.mem_of_getElem? (i := 193) rfl)) rfl
theorem tw_2114 : (Cond.fieldLink "ProofLibraryModel" 218 "ProofLibraryModel" "order" "[I") ∈ TB := TB_m (tc_9 (List.mem_of_getElem? (i := 194) rfl)) rfl
theorem tw_2115 : (Cond.fieldLink "ProofLibraryModel" 222 "ProofLibraryModel" "walk" "[I") ∈ TB := TB_m (tc_9 (List.mem_of_getElem? (i := 195) rfl)) rfl
theorem tw_2116 : (Cond.fieldLink "ProofLibraryModel" 225 "ProofLibraryModel" "walkKid" "[I") ∈ TB := TB_m (tc_9 (List.mem_of_getElem? (i := 196) rfl)) rfl
theorem tw_2118 : (Cond.fieldLink "ProofLibraryModel" 228 "ProofLibraryModel" "newLabels" "[I") ∈ TB := TB_m (tc_9 (List.mem_of_getElem? (i := 198) rfl)) rfl
theorem tw_2119 : (Cond.fieldLink "ProofLibraryModel" 231 "ProofLibraryModel" "labelNumber" "[I") ∈ TB := TB_m (tc_9 (List.mem_of_getElem? (i := 199) rfl)) rfl
theorem tw_2121 : (Cond.fieldLink "ProofLibraryModel" 235 "ProofLibraryModel" "sameTable" "[I") ∈ TB := TB_m (tc_9 (List.mem_of_getElem? (i := 201) rfl)) rfl
theorem tw_2122 : (Cond.fieldLink "ProofLibraryModel" 238 "ProofLibraryModel" "told" "[I") ∈ TB := TB_m (tc_9 (List.mem_of_getElem? (i := 202) rfl)) rfl
theorem tw_2124 : (Cond.fieldLink "ProofLibraryModel" 241 "ProofLibraryModel" "sortOf" "[I") ∈ TB := TB_m (tc_9 (List.mem_of_getElem? (i := 204) rfl)) rfl
theorem tw_2125 : (Cond.fieldLink "ProofLibraryModel" 244 "ProofLibraryModel" "stretch" "[I") ∈ TB := TB_m (tc_9 (List.mem_of_getElem? (i := 205) rfl)) rfl
theorem tw_2127 : (Cond.fieldLink "ProofLibraryModel" 247 "ProofLibraryModel" "leafSort" "[I") ∈ TB := TB_m (tc_9 (List.mem_of_getElem? (i := 207) rfl)) rfl
theorem tw_2128 : (Cond.fieldLink "ProofLibraryModel" 250 "ProofLibraryModel" "leafIs" "[I") ∈ TB := TB_m (tc_9 (List.mem_of_getElem? (i := 208) rfl)) rfl
theorem tw_2129 : (Cond.fieldLink "ProofLibraryModel" 254 "ProofLibraryModel" "ways" "[I") ∈ TB := TB_m (tc_9 (List.mem_of_getElem? (i := 209) rfl)) rfl
theorem tw_2131 : (Cond.fieldLink "ProofLibraryModel" 257 "ProofLibraryModel" "madeBy" "[I") ∈ TB := TB_m (tc_9 (List.mem_of_getElem? (i := 211) rfl)) rfl
theorem tw_2132 : (Cond.fieldLink "ProofLibraryModel" 260 "ProofLibraryModel" "startsOne" "[J") ∈ TB := TB_m (tc_9 (List.mem_of_getElem? (i := 212) rfl)) rfl
theorem tw_2133 : (Cond.fieldLink "ProofLibraryModel" 263 "ProofLibraryModel" "startsTwo" "[J") ∈ TB := TB_m (tc_9 (List.mem_of_getElem? (i := 213) rfl)) rfl
theorem tw_2134 : (Cond.fieldLink "ProofLibraryModel" 266 "ProofLibraryModel" "ruleStep" "[I") ∈ TB := TB_m (tc_9 (List.mem_of_getElem? (i := 214) rfl)) rfl
theorem tw_2135 : (Cond.fieldLink "ProofLibraryModel" 269 "ProofLibraryModel" "ruleUp" "[I") ∈ TB := TB_m (tc_9 (List.mem_of_getElem? (i := 215) rfl)) rfl
theorem tw_2136 : (Cond.fieldLink "ProofLibraryModel" 272 "ProofLibraryModel" "ruleKid" "[I") ∈ TB := TB_m (tc_9 (List.mem_of_getElem? (i := 216) rfl)) rfl
theorem tw_2137 : (Cond.fieldLink "ProofLibraryModel" 275 "ProofLibraryModel" "ruleNext" "[I") ∈ TB := TB_m (tc_9 (List.mem_of_getElem? (i := 217) rfl)) rfl
theorem tw_2138 : (Cond.fieldLink "ProofLibraryModel" 278 "ProofLibraryModel" "ruleFirst" "[I") ∈ TB := TB_m (tc_9 (List.mem_of_getElem? (i := 218) rfl)) rfl
theorem tw_2139 : (Cond.fieldLink "ProofLibraryModel" 281 "ProofLibraryModel" "ruleOther" "[I") ∈ TB := TB_m (tc_9 (List.mem_of_getElem? (i := 219) rfl)) rfl
theorem tw_2140 : (Cond.fieldLink "ProofLibraryModel" 284 "ProofLibraryModel" "ruleLeast" "[I") ∈ TB := TB_m (tc_9 (List.mem_of_getElem? (i := 220) rfl)) rfl
theorem tw_2141 : (Cond.fieldLink "ProofLibraryModel" 287 "ProofLibraryModel" "frontOne" "[J") ∈ TB := TB_m (tc_9 (List.mem_of_getElem? (i := 221) rfl)) rfl
theorem tw_2142 : (Cond.fieldLink "ProofLibraryModel" 290 "ProofLibraryModel" "frontTwo" "[J") ∈ TB := TB_m (tc_9 (List.mem_of_getElem? (i := 222) rfl)) rfl
theorem tw_2144 : (Cond.fieldLink "ProofLibraryModel" 293 "ProofLibraryModel" "units" "[I") ∈ TB := TB_m (tc_9 (List.mem_of_getElem? (i := 224) rfl)) rfl
theorem tw_2146 : (Cond.fieldLink "ProofLibraryModel" 846 "ProofLibraryModel" "isTreed" "Z") ∈ TB := TB_m (tc_9 (List.mem_of_getElem? (i := 226) rfl)) rfl
theorem tw_2148 : (Cond.fieldLink "ProofLibraryModel" 296 "ProofLibraryModel" "front" "[I") ∈ TB := TB_m (tc_9 (List.mem_of_getElem? (i := 228) rfl)) rfl
theorem tw_2149 : (Cond.fieldLink "ProofLibraryModel" 299 "ProofLibraryModel" "nodeIs" "[I") ∈ TB := TB_m (tc_9 (List.mem_of_getElem? (i := 229) rfl)) rfl
theorem tw_2150 : (Cond.fieldLink "ProofLibraryModel" 302 "ProofLibraryModel" "nodeKids" "[I") ∈ TB := TB_m (tc_9 (List.mem_of_getElem? (i := 230) rfl)) rfl
theorem tw_2151 : (Cond.fieldLink "ProofLibraryModel" 305 "ProofLibraryModel" "nodeFrom" "[I") ∈ TB := TB_m (tc_9 (List.mem_of_getElem? (i := 231) rfl)) rfl
theorem tw_2152 : (Cond.fieldLink "ProofLibraryModel" 308 "ProofLibraryModel" "nodeTo" "[I") ∈ TB := TB_m (tc_9 (List.mem_of_getElem? (i := 232) rfl)) rfl
theorem tw_2153 : (Cond.fieldLink "ProofLibraryModel" 311 "ProofLibraryModel" "nodeSort" "[I") ∈ TB := TB_m (tc_9 (List.mem_of_getElem? (i := 233) rfl)) rfl
theorem tw_2154 : (Cond.fieldLink "ProofLibraryModel" 314 "ProofLibraryModel" "kids" "[I") ∈ TB := TB_m (tc_9 (List.mem_of_getElem? (i := 234) rfl)) rfl
theorem tw_2155 : (Cond.fieldLink "ProofLibraryModel" 876 "ProofLibraryModel" "nodes" "I") ∈ TB := TB_m (tc_9 (List.mem_of_getElem? (i := 235) rfl)) rfl
theorem tw_2156 : (Cond.fieldLink "ProofLibraryModel" 879 "ProofLibraryModel" "kidCount" "I") ∈ TB := TB_m (tc_9 (List.mem_of_getElem? (i := 236) rfl)) rfl
theorem tw_2157 : (Cond.fieldLink "ProofLibraryModel" 317 "ProofLibraryModel" "base" "[I") ∈ TB := TB_m (tc_9 (List.mem_of_getElem? (i := 237) rfl)) rfl
theorem tw_2158 : (Cond.fieldLink "ProofLibraryModel" 320 "ProofLibraryModel" "grown" "[I") ∈ TB := TB_m (tc_9 (List.mem_of_getElem? (i := 238) rfl)) rfl
theorem tw_2159 : (Cond.fieldLink "ProofLibraryModel" 323 "ProofLibraryModel" "treeCount" "[I") ∈ TB := TB_m (tc_9 (List.mem_of_getElem? (i := 239) rfl)) rfl
theorem tw_2160 : (Cond.fieldLink "ProofLibraryModel" 326 "ProofLibraryModel" "rulesIn" "[J") ∈ TB := TB_m (tc_10 (List.mem_of_getElem? (i := 0) rfl)) rfl
theorem tw_2161 : (Cond.fieldLink "ProofLibraryModel" 329 "ProofLibraryModel" "definitions" "[I") ∈ TB := TB_m (tc_10 (List.mem_of_getElem? (i := 1) rfl)) rfl
theorem tw_2162 : (Cond.fieldLink "ProofLibraryModel" 332 "ProofLibraryModel" "isEquality" "[Z") ∈ TB := TB_m (tc_10 (List.mem_of_getElem? (i := 2) rfl)) rfl
theorem tw_2163 : (Cond.fieldLink "ProofLibraryModel" 335 "ProofLibraryModel" "definer" "[I") ∈ TB := TB_m (tc_10 (List.mem_of_getElem? (i := 3) rfl)) rfl
theorem tw_2164 : (Cond.fieldLink "ProofLibraryModel" 338 "ProofLibraryModel" "isNeeded" "[Z") ∈ TB := TB_m (tc_10 (List.mem_of_getElem? (i := 4) rfl)) rfl
theorem tw_2165 : (Cond.fieldLink "ProofLibraryModel" 341 "ProofLibraryModel" "bareAt" "[I") ∈ TB := TB_m (tc_10 (List.mem_of_getElem? (i := 5) rfl)) rfl
theorem tw_2166 : (Cond.fieldLink "ProofLibraryModel" 344 "ProofLibraryModel" "bareMany" "[I") ∈ TB := TB_m (tc_10 (List.mem_of_getElem? (i := 6) rfl)) rfl
theorem tw_2167 : (Cond.fieldLink "ProofLibraryModel" 348 "ProofLibraryModel" "bare" "[I") ∈ TB := TB_m (tc_10 (List.mem_of_getElem? (i := 7) rfl)) rfl
theorem tw_2169 : (Cond.fieldLink "ProofLibraryModel" 351 "ProofLibraryModel" "tasks" "[I") ∈ TB := TB_m (tc_10 (List.mem_of_getElem? (i := 9) rfl)) rfl
theorem tw_2171 : (Cond.fieldLink "ProofLibraryModel" 354 "ProofLibraryModel" "given" "[I") ∈ TB := TB_m (tc_10 (List.mem_of_getElem? (i := 11) rfl)) rfl
theorem tw_2172 : (Cond.fieldLink "ProofLibraryModel" 357 "ProofLibraryModel" "boundFrom" "[I") ∈ TB := TB_m (tc_10 (List.mem_of_getElem? (i := 12) rfl)) rfl
theorem tw_2173 : (Cond.fieldLink "ProofLibraryModel" 360 "ProofLibraryModel" "boundTo" "[I") ∈ TB := TB_m (tc_10 (List.mem_of_getElem? (i := 13) rfl)) rfl
theorem tw_2174 : (Cond.fieldLink "ProofLibraryModel" 363 "ProofLibraryModel" "otherWalk" "[I") ∈ TB := TB_m (tc_10 (List.mem_of_getElem? (i := 14) rfl)) rfl
theorem tw_2175 : (Cond.laysFinal "ProofLibraryModel" "ProofLibraryModel" "tape" "[I") ∈ TB := TB_m (tc_10 (List.mem_of_getElem? (i := 15) rfl)) rfl
theorem tw_2177 : (Cond.lays "ProofLibraryModel" "ProofLibraryModel" "tapeSize" "I") ∈ TB := TB_m (tc_10 (List.mem_of_getElem? (i := 17) rfl)) rfl
theorem tw_2179 : (Cond.lays "ProofLibraryModel" "ProofLibraryModel" "isFed" "Z") ∈ TB := TB_m (tc_10 (List.mem_of_getElem? (i := 19) rfl)) rfl
theorem tw_2181 : (Cond.laysFinal "ProofLibraryModel" "ProofLibraryModel" "chars" "[I") ∈ TB := TB_m (tc_10 (List.mem_of_getElem? (i := 21) rfl)) rfl
theorem tw_2183 : (Cond.lays "ProofLibraryModel" "ProofLibraryModel" "charCount" "I") ∈ TB := TB_m (tc_10 (List.mem_of_getElem? (i := 23) rfl)) rfl
theorem tw_2185 : (Cond.laysFinal "ProofLibraryModel" "ProofLibraryModel" "symbolAt" "[I") ∈ TB := TB_m (tc_10 (List.mem_of_getElem? (i := 25) rfl)) rfl
theorem tw_2187 : (Cond.laysFinal "ProofLibraryModel" "ProofLibraryModel" "symbolSize" "[I") ∈ TB := TB_m (tc_10 (List.mem_of_getElem? (i := 27) rfl)) rfl
theorem tw_2189 : (Cond.lays "ProofLibraryModel" "ProofLibraryModel" "symbols" "I") ∈ TB := TB_m (tc_10 (List.mem_of_getElem? (i := 29) rfl)) rfl
theorem tw_2191 : (Cond.laysFinal "ProofLibraryModel" "ProofLibraryModel" "labelAt" "[I") ∈ TB := TB_m (tc_10 (List.mem_of_getElem? (i := 31) rfl)) rfl
theorem tw_2193 : (Cond.laysFinal "ProofLibraryModel" "ProofLibraryModel" "labelSize" "[I") ∈ TB := TB_m (tc_10 (List.mem_of_getElem? (i := 33) rfl)) rfl
theorem tw_2195 : (Cond.laysFinal "ProofLibraryModel" "ProofLibraryModel" "symbolTable" "[I") ∈ TB := TB_m (tc_10 (List.mem_of_getElem? (i := 35) rfl)) rfl
theorem tw_2197 : (Cond.laysFinal "ProofLibraryModel" "ProofLibraryModel" "labelTable" "[I") ∈ TB := TB_m (tc_10 (List.mem_of_getElem? (i := 37) rfl)) rfl
theorem tw_2199 : (Cond.laysFinal "ProofLibraryModel" "ProofLibraryModel" "isVariable" "[Z") ∈ TB := TB_m (tc_10 (List.mem_of_getElem? (i := 39) rfl)) rfl
theorem tw_2201 : (Cond.laysFinal "ProofLibraryModel" "ProofLibraryModel" "isActive" "[Z") ∈ TB := TB_m (tc_10 (List.mem_of_getElem? (i := 41) rfl)) rfl
theorem tw_2203 : (Cond.laysFinal "ProofLibraryModel" "ProofLibraryModel" "typeOf" "[I") ∈ TB := TB_m (tc_10 (List.mem_of_getElem? (i := 43) rfl)) rfl
theorem tw_2205 : (Cond.laysFinal "ProofLibraryModel" "ProofLibraryModel" "floatOf" "[I") ∈ TB := TB_m (tc_10 (List.mem_of_getElem? (i := 45) rfl)) rfl
theorem tw_2207 : (Cond.laysFinal "ProofLibraryModel" "ProofLibraryModel" "begins" "[Z") ∈ TB := TB_m (tc_10 (List.mem_of_getElem? (i := 47) rfl)) rfl
theorem tw_2209 : (Cond.lays "ProofLibraryModel" "ProofLibraryModel" "beginnings" "I") ∈ TB := TB_m (tc_10 (List.mem_of_getElem? (i := 49) rfl)) rfl
theorem tw_2211 : (Cond.lays "ProofLibraryModel" "ProofLibraryModel" "statements" "I") ∈ TB := TB_m (tc_10 (List.mem_of_getElem? (i := 51) rfl)) rfl
theorem tw_2213 : (Cond.laysFinal "ProofLibraryModel" "ProofLibraryModel" "kindOf" "[I") ∈ TB := TB_m (tc_10 (List.mem_of_getElem? (i := 53) rfl)) rfl
theorem tw_2215 : (Cond.laysFinal "ProofLibraryModel" "ProofLibraryModel" "textAt" "[I") ∈ TB := TB_m (tc_10 (List.mem_of_getElem? (i := 55) rfl)) rfl
theorem tw_2217 : (Cond.laysFinal "ProofLibraryModel" "ProofLibraryModel" "textSize" "[I") ∈ TB := TB_m (tc_10 (List.mem_of_getElem? (i := 57) rfl)) rfl
theorem tw_2219 : (Cond.laysFinal "ProofLibraryModel" "ProofLibraryModel" "texts" "[I") ∈ TB := TB_m (tc_10 (List.mem_of_getElem? (i := 59) rfl)) rfl
theorem tw_2221 : (Cond.laysFinal "ProofLibraryModel" "ProofLibraryModel" "floats" "[I") ∈ TB := TB_m (tc_10 (List.mem_of_getElem? (i := 61) rfl)) rfl
theorem tw_2223 : (Cond.lays "ProofLibraryModel" "ProofLibraryModel" "textCount" "I") ∈ TB := TB_m (tc_10 (List.mem_of_getElem? (i := 63) rfl)) rfl
theorem tw_2225 : (Cond.laysFinal "ProofLibraryModel" "ProofLibraryModel" "hypAt" "[I") ∈ TB := TB_m (tc_10 (List.mem_of_getElem? (i := 65) rfl)) rfl
theorem tw_2227 : (Cond.laysFinal "ProofLibraryModel" "ProofLibraryModel" "hypSize" "[I") ∈ TB := TB_m (tc_10 (List.mem_of_getElem? (i := 67) rfl)) rfl
theorem tw_2229 : (Cond.laysFinal "ProofLibraryModel" "ProofLibraryModel" "hyps" "[I") ∈ TB := TB_m (tc_10 (List.mem_of_getElem? (i := 69) rfl)) rfl
theorem tw_2231 : (Cond.lays "ProofLibraryModel" "ProofLibraryModel" "hypCount" "I") ∈ TB := TB_m (tc_10 (List.mem_of_getElem? (i := 71) rfl)) rfl
theorem tw_2233 : (Cond.laysFinal "ProofLibraryModel" "ProofLibraryModel" "pairAt" "[I") ∈ TB := TB_m (tc_10 (List.mem_of_getElem? (i := 73) rfl)) rfl
theorem tw_2235 : (Cond.laysFinal "ProofLibraryModel" "ProofLibraryModel" "pairSize" "[I") ∈ TB := TB_m (tc_10 (List.mem_of_getElem? (i := 75) rfl)) rfl
theorem tw_2237 : (Cond.laysFinal "ProofLibraryModel" "ProofLibraryModel" "pairA" "[I") ∈ TB := TB_m (tc_10 (List.mem_of_getElem? (i := 77) rfl)) rfl
theorem tw_2239 : (Cond.laysFinal "ProofLibraryModel" "ProofLibraryModel" "pairB" "[I") ∈ TB := TB_m (tc_10 (List.mem_of_getElem? (i := 79) rfl)) rfl
theorem tw_2241 : (Cond.lays "ProofLibraryModel" "ProofLibraryModel" "pairCount" "I") ∈ TB := TB_m (tc_10 (List.mem_of_getElem? (i := 81) rfl)) rfl
theorem tw_2243 : (Cond.laysFinal "ProofLibraryModel" "ProofLibraryModel" "stepAt" "[I") ∈ TB := TB_m (tc_10 (List.mem_of_getElem? (i := 83) rfl)) rfl
theorem tw_2245 : (Cond.laysFinal "ProofLibraryModel" "ProofLibraryModel" "stepSize" "[I") ∈ TB := TB_m (tc_10 (List.mem_of_getElem? (i := 85) rfl)) rfl
theorem tw_2247 : (Cond.laysFinal "ProofLibraryModel" "ProofLibraryModel" "steps" "[I") ∈ TB := TB_m (tc_10 (List.mem_of_getElem? (i := 87) rfl)) rfl
theorem tw_2249 : (Cond.laysFinal "ProofLibraryModel" "ProofLibraryModel" "saves" "[Z") ∈ TB := TB_m (tc_10 (List.mem_of_getElem? (i := 89) rfl)) rfl
theorem tw_2251 : (Cond.laysFinal "ProofLibraryModel" "ProofLibraryModel" "stepPlace" "[I") ∈ TB := TB_m (tc_10 (List.mem_of_getElem? (i := 91) rfl)) rfl
theorem tw_2253 : (Cond.lays "ProofLibraryModel" "ProofLibraryModel" "stepCount" "I") ∈ TB := TB_m (tc_10 (List.mem_of_getElem? (i := 93) rfl)) rfl
theorem tw_2255 : (Cond.laysFinal "ProofLibraryModel" "ProofLibraryModel" "rest" "[J") ∈ TB := TB_m (tc_10 (List.mem_of_getElem? (i := 95) rfl)) rfl
theorem tw_2257 : (Cond.lays "ProofLibraryModel" "ProofLibraryModel" "wff" "I") ∈ TB := TB_m (tc_10 (List.mem_of_getElem? (i := 97) rfl)) rfl
theorem tw_2259 : (Cond.lays "ProofLibraryModel" "ProofLibraryModel" "turnstile" "I") ∈ TB := TB_m (tc_10 (List.mem_of_getElem? (i := 99) rfl)) rfl
theorem tw_2261 : (Cond.laysFinal "ProofLibraryModel" "ProofLibraryModel" "activeVariables" "[I") ∈ TB := TB_m (tc_10 (List.mem_of_getElem? (i := 101) rfl)) rfl
theorem tw_2263 : (Cond.lays "ProofLibraryModel" "ProofLibraryModel" "activeVariableCount" "I") ∈ TB := TB_m (tc_10 (List.mem_of_getElem? (i := 103) rfl)) rfl
theorem tw_2265 : (Cond.laysFinal "ProofLibraryModel" "ProofLibraryModel" "activeHyps" "[I") ∈ TB := TB_m (tc_10 (List.mem_of_getElem? (i := 105) rfl)) rfl
theorem tw_2267 : (Cond.lays "ProofLibraryModel" "ProofLibraryModel" "activeHypCount" "I") ∈ TB := TB_m (tc_10 (List.mem_of_getElem? (i := 107) rfl)) rfl
theorem tw_2269 : (Cond.laysFinal "ProofLibraryModel" "ProofLibraryModel" "apartA" "[I") ∈ TB := TB_m (tc_10 (List.mem_of_getElem? (i := 109) rfl)) rfl
theorem tw_2271 : (Cond.laysFinal "ProofLibraryModel" "ProofLibraryModel" "apartB" "[I") ∈ TB := TB_m (tc_10 (List.mem_of_getElem? (i := 111) rfl)) rfl
theorem tw_2273 : (Cond.lays "ProofLibraryModel" "ProofLibraryModel" "apartCount" "I") ∈ TB := TB_m (tc_10 (List.mem_of_getElem? (i := 113) rfl)) rfl
theorem tw_2275 : (Cond.laysFinal "ProofLibraryModel" "ProofLibraryModel" "apartBits" "[J") ∈ TB := TB_m (tc_10 (List.mem_of_getElem? (i := 115) rfl)) rfl
theorem tw_2277 : (Cond.lays "ProofLibraryModel" "ProofLibraryModel" "scopes" "I") ∈ TB := TB_m (tc_10 (List.mem_of_getElem? (i := 117) rfl)) rfl
theorem tw_2279 : (Cond.laysFinal "ProofLibraryModel" "ProofLibraryModel" "scopeVariables" "[I") ∈ TB := TB_m (tc_10 (List.mem_of_getElem? (i := 119) rfl)) rfl
theorem tw_2281 : (Cond.laysFinal "ProofLibraryModel" "ProofLibraryModel" "scopeHyps" "[I") ∈ TB := TB_m (tc_10 (List.mem_of_getElem? (i := 121) rfl)) rfl
theorem tw_2283 : (Cond.laysFinal "ProofLibraryModel" "ProofLibraryModel" "scopeApart" "[I") ∈ TB := TB_m (tc_10 (List.mem_of_getElem? (i := 123) rfl)) rfl
theorem tw_2285 : (Cond.lays "ProofLibraryModel" "ProofLibraryModel" "at" "I") ∈ TB := TB_m (tc_10 (List.mem_of_getElem? (i := 125) rfl)) rfl
theorem tw_2287 : (Cond.lays "ProofLibraryModel" "ProofLibraryModel" "tokenAt" "I") ∈ TB := TB_m (tc_10 (List.mem_of_getElem? (i := 127) rfl)) rfl
theorem tw_2289 : (Cond.lays "ProofLibraryModel" "ProofLibraryModel" "tokenSize" "I") ∈ TB := TB_m (tc_10 (List.mem_of_getElem? (i := 129) rfl)) rfl
theorem tw_2291 : (Cond.lays "ProofLibraryModel" "ProofLibraryModel" "token" "I") ∈ TB := TB_m (tc_10 (List.mem_of_getElem? (i := 131) rfl)) rfl
theorem tw_2293 : (Cond.lays "ProofLibraryModel" "ProofLibraryModel" "fault" "I") ∈ TB := TB_m (tc_10 (List.mem_of_getElem? (i := 133) rfl)) rfl
theorem tw_2295 : (Cond.lays "ProofLibraryModel" "ProofLibraryModel" "placeIs" "I") ∈ TB := TB_m (tc_10 (List.mem_of_getElem? (i := 135) rfl)) rfl
theorem tw_2297 : (Cond.laysFinal "ProofLibraryModel" "ProofLibraryModel" "distinct" "[I") ∈ TB := TB_m (tc_10 (List.mem_of_getElem? (i := 137) rfl)) rfl
theorem tw_2299 : (Cond.lays "ProofLibraryModel" "ProofLibraryModel" "now" "I") ∈ TB := TB_m (tc_10 (List.mem_of_getElem? (i := 139) rfl)) rfl
theorem tw_2301 : (Cond.laysFinal "ProofLibraryModel" "ProofLibraryModel" "isMarked" "[Z") ∈ TB := TB_m (tc_10 (List.mem_of_getElem? (i := 141) rfl)) rfl
theorem tw_2303 : (Cond.lays "ProofLibraryModel" "ProofLibraryModel" "isOpen" "Z") ∈ TB := TB_m (tc_10 (List.mem_of_getElem? (i := 143) rfl)) rfl
theorem tw_2305 : (Cond.lays "ProofLibraryModel" "ProofLibraryModel" "lastPlace" "I") ∈ TB := TB_m (tc_10 (List.mem_of_getElem? (i := 145) rfl)) rfl
theorem tw_2307 : (Cond.laysFinal "ProofLibraryModel" "ProofLibraryModel" "packedLabels" "[I") ∈ TB := TB_m (tc_10 (List.mem_of_getElem? (i := 147) rfl)) rfl
theorem tw_2309 : (Cond.lays "ProofLibraryModel" "ProofLibraryModel" "packedCount" "I") ∈ TB := TB_m (tc_10 (List.mem_of_getElem? (i := 149) rfl)) rfl
theorem tw_2311 : (Cond.lays "ProofLibraryModel" "ProofLibraryModel" "sum" "I") ∈ TB := TB_m (tc_10 (List.mem_of_getElem? (i := 151) rfl)) rfl
theorem tw_2313 : (Cond.lays "ProofLibraryModel" "ProofLibraryModel" "inNumber" "Z") ∈ TB := TB_m (tc_10 (List.mem_of_getElem? (i := 153) rfl)) rfl
theorem tw_2315 : (Cond.lays "ProofLibraryModel" "ProofLibraryModel" "maySave" "Z") ∈ TB := TB_m (tc_10 (List.mem_of_getElem? (i := 155) rfl)) rfl
theorem tw_2317 : (Cond.lays "ProofLibraryModel" "ProofLibraryModel" "savedCount" "I") ∈ TB := TB_m (tc_10 (List.mem_of_getElem? (i := 157) rfl)) rfl
theorem tw_2319 : (Cond.laysFinal "ProofLibraryModel" "ProofLibraryModel" "pileAt" "[I") ∈ TB := TB_m (tc_10 (List.mem_of_getElem? (i := 159) rfl)) rfl
theorem tw_2321 : (Cond.laysFinal "ProofLibraryModel" "ProofLibraryModel" "pileSize" "[I") ∈ TB := TB_m (tc_10 (List.mem_of_getElem? (i := 161) rfl)) rfl
theorem tw_2323 : (Cond.laysFinal "ProofLibraryModel" "ProofLibraryModel" "pileRow" "[I") ∈ TB := TB_m (tc_10 (List.mem_of_getElem? (i := 163) rfl)) rfl
theorem tw_2325 : (Cond.lays "ProofLibraryModel" "ProofLibraryModel" "piled" "I") ∈ TB := TB_m (tc_10 (List.mem_of_getElem? (i := 165) rfl)) rfl
theorem tw_2327 : (Cond.laysFinal "ProofLibraryModel" "ProofLibraryModel" "pileSymbols" "[I") ∈ TB := TB_m (tc_10 (List.mem_of_getElem? (i := 167) rfl)) rfl
theorem tw_2329 : (Cond.lays "ProofLibraryModel" "ProofLibraryModel" "pileTop" "I") ∈ TB := TB_m (tc_10 (List.mem_of_getElem? (i := 169) rfl)) rfl
theorem tw_2331 : (Cond.laysFinal "ProofLibraryModel" "ProofLibraryModel" "savedAt" "[I") ∈ TB := TB_m (tc_10 (List.mem_of_getElem? (i := 171) rfl)) rfl
theorem tw_2333 : (Cond.laysFinal "ProofLibraryModel" "ProofLibraryModel" "savedSize" "[I") ∈ TB := TB_m (tc_10 (List.mem_of_getElem? (i := 173) rfl)) rfl
theorem tw_2335 : (Cond.laysFinal "ProofLibraryModel" "ProofLibraryModel" "savedRow" "[I") ∈ TB := TB_m (tc_10 (List.mem_of_getElem? (i := 175) rfl)) rfl
theorem tw_2337 : (Cond.lays "ProofLibraryModel" "ProofLibraryModel" "savedRows" "I") ∈ TB := TB_m (tc_10 (List.mem_of_getElem? (i := 177) rfl)) rfl
theorem tw_2339 : (Cond.laysFinal "ProofLibraryModel" "ProofLibraryModel" "savedSymbols" "[I") ∈ TB := TB_m (tc_10 (List.mem_of_getElem? (i := 179) rfl)) rfl
theorem tw_2341 : (Cond.lays "ProofLibraryModel" "ProofLibraryModel" "savedTop" "I") ∈ TB := TB_m (tc_10 (List.mem_of_getElem? (i := 181) rfl)) rfl
theorem tw_2343 : (Cond.laysFinal "ProofLibraryModel" "ProofLibraryModel" "becomesAt" "[I") ∈ TB := TB_m (tc_10 (List.mem_of_getElem? (i := 183) rfl)) rfl
theorem tw_2345 : (Cond.laysFinal "ProofLibraryModel" "ProofLibraryModel" "becomesSize" "[I") ∈ TB := TB_m (tc_10 (List.mem_of_getElem? (i := 185) rfl)) rfl
theorem tw_2347 : (Cond.laysFinal "ProofLibraryModel" "ProofLibraryModel" "madeRow" "[I") ∈ TB := TB_m (tc_10 (List.mem_of_getElem? (i := 187) rfl)) rfl
theorem tw_2349 : (Cond.lays "ProofLibraryModel" "ProofLibraryModel" "made" "I") ∈ TB := TB_m (tc_10 (List.mem_of_getElem? (i := 189) rfl)) rfl
theorem tw_2351 : (Cond.lays "ProofLibraryModel" "ProofLibraryModel" "stepFault" "I") ∈ TB := TB_m (tc_10 (List.mem_of_getElem? (i := 191) rfl)) rfl
theorem tw_2353 : (Cond.laysFinal "ProofLibraryModel" "ProofLibraryModel" "wasVariable" "[Z") ∈ TB := TB_m (tc_10 (List.mem_of_getElem? (i := 193) rfl)) rfl
theorem tw_2355 : (Cond.laysFinal "ProofLibraryModel" "ProofLibraryModel" "wasActive" "[Z") ∈ TB := TB_m (tc_10 (List.mem_of_getElem? (i := 195) rfl)) rfl
theorem tw_2357 : (Cond.laysFinal "ProofLibraryModel" "ProofLibraryModel" "wasBegin" "[Z") ∈ TB := TB_m (tc_10 (List.mem_of_getElem? (i := 197) rfl)) rfl
theorem tw_2359 : (Cond.laysFinal "ProofLibraryModel" "ProofLibraryModel" "wasType" "[I") ∈ TB := TB_m (tc_10 (List.mem_of_getElem? (i := 199) rfl)) rfl
theorem tw_2361 : (Cond.laysFinal "ProofLibraryModel" "ProofLibraryModel" "wasFloat" "[I") ∈ TB := TB_m (tc_10 (List.mem_of_getElem? (i := 201) rfl)) rfl
theorem tw_2363 : (Cond.laysFinal "ProofLibraryModel" "ProofLibraryModel" "rowOf" "[I") ∈ TB := TB_m (tc_10 (List.mem_of_getElem? (i := 203) rfl)) rfl
theorem tw_2365 : (Cond.laysFinal "ProofLibraryModel" "ProofLibraryModel" "rowFromAt" "[I") ∈ TB := TB_m (tc_10 (List.mem_of_getElem? (i := 205) rfl)) rfl
theorem tw_2367 : (Cond.laysFinal "ProofLibraryModel" "ProofLibraryModel" "rowFroms" "[I") ∈ TB := TB_m (tc_10 (List.mem_of_getElem? (i := 207) rfl)) rfl
theorem tw_2369 : (Cond.lays "ProofLibraryModel" "ProofLibraryModel" "rowCount" "I") ∈ TB := TB_m (tc_10 (List.mem_of_getElem? (i := 209) rfl)) rfl
theorem tw_2371 : (Cond.lays "ProofLibraryModel" "ProofLibraryModel" "rowFromCount" "I") ∈ TB := TB_m (tc_10 (List.mem_of_getElem? (i := 211) rfl)) rfl
theorem tw_2373 : (Cond.lays "ProofLibraryModel" "ProofLibraryModel" "rowsOf" "I") ∈ TB := TB_m (tc_10 (List.mem_of_getElem? (i := 213) rfl)) rfl
theorem tw_2375 : (Cond.laysFinal "ProofLibraryModel" "ProofLibraryModel" "sizes" "[J") ∈ TB := TB_m (tc_10 (List.mem_of_getElem? (i := 215) rfl)) rfl
theorem tw_2377 : (Cond.laysFinal "ProofLibraryModel" "ProofLibraryModel" "draft" "[I") ∈ TB := TB_m (tc_10 (List.mem_of_getElem? (i := 217) rfl)) rfl
theorem tw_2379 : (Cond.lays "ProofLibraryModel" "ProofLibraryModel" "draftSize" "I") ∈ TB := TB_m (tc_10 (List.mem_of_getElem? (i := 219) rfl)) rfl
theorem tw_2381 : (Cond.laysFinal "ProofLibraryModel" "ProofLibraryModel" "printed" "[I") ∈ TB := TB_m (tc_10 (List.mem_of_getElem? (i := 221) rfl)) rfl
theorem tw_2383 : (Cond.lays "ProofLibraryModel" "ProofLibraryModel" "printedSize" "I") ∈ TB := TB_m (tc_10 (List.mem_of_getElem? (i := 223) rfl)) rfl
theorem tw_2385 : (Cond.laysFinal "ProofLibraryModel" "ProofLibraryModel" "sameAs" "[I") ∈ TB := TB_m (tc_10 (List.mem_of_getElem? (i := 225) rfl)) rfl
theorem tw_2387 : (Cond.laysFinal "ProofLibraryModel" "ProofLibraryModel" "uses" "[I") ∈ TB := TB_m (tc_10 (List.mem_of_getElem? (i := 227) rfl)) rfl
theorem tw_2389 : (Cond.laysFinal "ProofLibraryModel" "ProofLibraryModel" "numberOf" "[I") ∈ TB := TB_m (tc_10 (List.mem_of_getElem? (i := 229) rfl)) rfl
theorem tw_2391 : (Cond.laysFinal "ProofLibraryModel" "ProofLibraryModel" "order" "[I") ∈ TB := TB_m (tc_10 (List.mem_of_getElem? (i := 231) rfl)) rfl
theorem tw_2393 : (Cond.lays "ProofLibraryModel" "ProofLibraryModel" "ordered" "I") ∈ TB := TB_m (tc_10 (List.mem_of_getElem? (i := 233) rfl)) rfl
theorem tw_2395 : (Cond.laysFinal "ProofLibraryModel" "ProofLibraryModel" "walk" "[I") ∈ TB := TB_m (tc_10 (List.mem_of_getElem? (i := 235) rfl)) rfl
theorem tw_2397 : (Cond.laysFinal "ProofLibraryModel" "ProofLibraryModel" "walkKid" "[I") ∈ TB := TB_m (tc_10 (List.mem_of_getElem? (i := 237) rfl)) rfl
theorem tw_2399 : (Cond.lays "ProofLibraryModel" "ProofLibraryModel" "walked" "I") ∈ TB := TB_m (tc_10 (List.mem_of_getElem? (i := 239) rfl)) rfl
theorem tw_2401 : (Cond.laysFinal "ProofLibraryModel" "ProofLibraryModel" "newLabels" "[I") ∈ TB := TB_m (tc_11 (List.mem_of_getElem? (i := 1) rfl)) rfl
theorem tw_2403 : (Cond.laysFinal "ProofLibraryModel" "ProofLibraryModel" "labelNumber" "[I") ∈ TB := TB_m (tc_11 (List.mem_of_getElem? (i := 3) rfl)) rfl
theorem tw_2405 : (Cond.lays "ProofLibraryModel" "ProofLibraryModel" "newLabelCount" "I") ∈ TB := TB_m (tc_11 (List.mem_of_getElem? (i := 5) rfl)) rfl
theorem tw_2407 : (Cond.laysFinal "ProofLibraryModel" "ProofLibraryModel" "sameTable" "[I") ∈ TB := TB_m (tc_11 (List.mem_of_getElem? (i := 7) rfl)) rfl
theorem tw_2409 : (Cond.laysFinal "ProofLibraryModel" "ProofLibraryModel" "told" "[I") ∈ TB := TB_m (tc_11 (List.mem_of_getElem? (i := 9) rfl)) rfl
theorem tw_2411 : (Cond.lays "ProofLibraryModel" "ProofLibraryModel" "tolds" "I") ∈ TB := TB_m (tc_11 (List.mem_of_getElem? (i := 11) rfl)) rfl
theorem tw_2413 : (Cond.laysFinal "ProofLibraryModel" "ProofLibraryModel" "sortOf" "[I") ∈ TB := TB_m (tc_11 (List.mem_of_getElem? (i := 13) rfl)) rfl
theorem tw_2415 : (Cond.laysFinal "ProofLibraryModel" "ProofLibraryModel" "stretch" "[I") ∈ TB := TB_m (tc_11 (List.mem_of_getElem? (i := 15) rfl)) rfl
theorem tw_2417 : (Cond.lays "ProofLibraryModel" "ProofLibraryModel" "rowSize" "I") ∈ TB := TB_m (tc_11 (List.mem_of_getElem? (i := 17) rfl)) rfl
theorem tw_2419 : (Cond.laysFinal "ProofLibraryModel" "ProofLibraryModel" "leafSort" "[I") ∈ TB := TB_m (tc_11 (List.mem_of_getElem? (i := 19) rfl)) rfl
theorem tw_2421 : (Cond.laysFinal "ProofLibraryModel" "ProofLibraryModel" "leafIs" "[I") ∈ TB := TB_m (tc_11 (List.mem_of_getElem? (i := 21) rfl)) rfl
theorem tw_2423 : (Cond.laysFinal "ProofLibraryModel" "ProofLibraryModel" "ways" "[I") ∈ TB := TB_m (tc_11 (List.mem_of_getElem? (i := 23) rfl)) rfl
theorem tw_2425 : (Cond.lays "ProofLibraryModel" "ProofLibraryModel" "sorts" "I") ∈ TB := TB_m (tc_11 (List.mem_of_getElem? (i := 25) rfl)) rfl
theorem tw_2427 : (Cond.laysFinal "ProofLibraryModel" "ProofLibraryModel" "madeBy" "[I") ∈ TB := TB_m (tc_11 (List.mem_of_getElem? (i := 27) rfl)) rfl
theorem tw_2429 : (Cond.laysFinal "ProofLibraryModel" "ProofLibraryModel" "startsOne" "[J") ∈ TB := TB_m (tc_11 (List.mem_of_getElem? (i := 29) rfl)) rfl
theorem tw_2431 : (Cond.laysFinal "ProofLibraryModel" "ProofLibraryModel" "startsTwo" "[J") ∈ TB := TB_m (tc_11 (List.mem_of_getElem? (i := 31) rfl)) rfl
theorem tw_2433 : (Cond.laysFinal "ProofLibraryModel" "ProofLibraryModel" "ruleStep" "[I") ∈ TB := TB_m (tc_11 (List.mem_of_getElem? (i := 33) rfl)) rfl
theorem tw_2435 : (Cond.laysFinal "ProofLibraryModel" "ProofLibraryModel" "ruleUp" "[I") ∈ TB := TB_m (tc_11 (List.mem_of_getElem? (i := 35) rfl)) rfl
theorem tw_2437 : (Cond.laysFinal "ProofLibraryModel" "ProofLibraryModel" "ruleKid" "[I") ∈ TB := TB_m (tc_11 (List.mem_of_getElem? (i := 37) rfl)) rfl
theorem tw_2439 : (Cond.laysFinal "ProofLibraryModel" "ProofLibraryModel" "ruleNext" "[I") ∈ TB := TB_m (tc_11 (List.mem_of_getElem? (i := 39) rfl)) rfl
theorem tw_2441 : (Cond.laysFinal "ProofLibraryModel" "ProofLibraryModel" "ruleFirst" "[I") ∈ TB := TB_m (tc_11 (List.mem_of_getElem? (i := 41) rfl)) rfl
theorem tw_2443 : (Cond.laysFinal "ProofLibraryModel" "ProofLibraryModel" "ruleOther" "[I") ∈ TB := TB_m (tc_11 (List.mem_of_getElem? (i := 43) rfl)) rfl
theorem tw_2445 : (Cond.laysFinal "ProofLibraryModel" "ProofLibraryModel" "ruleLeast" "[I") ∈ TB := TB_m (tc_11 (List.mem_of_getElem? (i := 45) rfl)) rfl
theorem tw_2447 : (Cond.laysFinal "ProofLibraryModel" "ProofLibraryModel" "frontOne" "[J") ∈ TB := TB_m (tc_11 (List.mem_of_getElem? (i := 47) rfl)) rfl
theorem tw_2449 : (Cond.laysFinal "ProofLibraryModel" "ProofLibraryModel" "frontTwo" "[J") ∈ TB := TB_m (tc_11 (List.mem_of_getElem? (i := 49) rfl)) rfl
theorem tw_2451 : (Cond.lays "ProofLibraryModel" "ProofLibraryModel" "ruleNodes" "I") ∈ TB := TB_m (tc_11 (List.mem_of_getElem? (i := 51) rfl)) rfl
theorem tw_2453 : (Cond.laysFinal "ProofLibraryModel" "ProofLibraryModel" "units" "[I") ∈ TB := TB_m (tc_11 (List.mem_of_getElem? (i := 53) rfl)) rfl
theorem tw_2455 : (Cond.lays "ProofLibraryModel" "ProofLibraryModel" "unitCount" "I") ∈ TB := TB_m (tc_11 (List.mem_of_getElem? (i := 55) rfl)) rfl
theorem tw_2457 : (Cond.lays "ProofLibraryModel" "ProofLibraryModel" "isTreed" "Z") ∈ TB := TB_m (tc_11 (List.mem_of_getElem? (i := 57) rfl)) rfl
theorem tw_2459 : (Cond.lays "ProofLibraryModel" "ProofLibraryModel" "rowLimit" "I") ∈ TB := TB_m (tc_11 (List.mem_of_getElem? (i := 59) rfl)) rfl
theorem tw_2461 : (Cond.laysFinal "ProofLibraryModel" "ProofLibraryModel" "front" "[I") ∈ TB := TB_m (tc_11 (List.mem_of_getElem? (i := 61) rfl)) rfl
theorem tw_2463 : (Cond.laysFinal "ProofLibraryModel" "ProofLibraryModel" "nodeIs" "[I") ∈ TB := TB_m (tc_11 (List.mem_of_getElem? (i := 63) rfl)) rfl
theorem tw_2465 : (Cond.laysFinal "ProofLibraryModel" "ProofLibraryModel" "nodeKids" "[I") ∈ TB := TB_m (tc_11 (List.mem_of_getElem? (i := 65) rfl)) rfl
theorem tw_2467 : (Cond.laysFinal "ProofLibraryModel" "ProofLibraryModel" "nodeFrom" "[I") ∈ TB := TB_m (tc_11 (List.mem_of_getElem? (i := 67) rfl)) rfl
theorem tw_2469 : (Cond.laysFinal "ProofLibraryModel" "ProofLibraryModel" "nodeTo" "[I") ∈ TB := TB_m (tc_11 (List.mem_of_getElem? (i := 69) rfl)) rfl
theorem tw_2471 : (Cond.laysFinal "ProofLibraryModel" "ProofLibraryModel" "nodeSort" "[I") ∈ TB := TB_m (tc_11 (List.mem_of_getElem? (i := 71) rfl)) rfl
theorem tw_2473 : (Cond.laysFinal "ProofLibraryModel" "ProofLibraryModel" "kids" "[I") ∈ TB := TB_m (tc_11 (List.mem_of_getElem? (i := 73) rfl)) rfl
theorem tw_2475 : (Cond.lays "ProofLibraryModel" "ProofLibraryModel" "nodes" "I") ∈ TB := TB_m (tc_11 (List.mem_of_getElem? (i := 75) rfl)) rfl
theorem tw_2477 : (Cond.lays "ProofLibraryModel" "ProofLibraryModel" "kidCount" "I") ∈ TB := TB_m (tc_11 (List.mem_of_getElem? (i := 77) rfl)) rfl
theorem tw_2479 : (Cond.laysFinal "ProofLibraryModel" "ProofLibraryModel" "base" "[I") ∈ TB := TB_m (tc_11 (List.mem_of_getElem? (i := 79) rfl)) rfl
theorem tw_2481 : (Cond.laysFinal "ProofLibraryModel" "ProofLibraryModel" "grown" "[I") ∈ TB := TB_m (tc_11 (List.mem_of_getElem? (i := 81) rfl)) rfl
theorem tw_2483 : (Cond.laysFinal "ProofLibraryModel" "ProofLibraryModel" "treeCount" "[I") ∈ TB := TB_m (tc_11 (List.mem_of_getElem? (i := 83) rfl)) rfl
theorem tw_2485 : (Cond.laysFinal "ProofLibraryModel" "ProofLibraryModel" "rulesIn" "[J") ∈ TB := TB_m (tc_11 (List.mem_of_getElem? (i := 85) rfl)) rfl
theorem tw_2487 : (Cond.laysFinal "ProofLibraryModel" "ProofLibraryModel" "definitions" "[I") ∈ TB := TB_m (tc_11 (List.mem_of_getElem? (i := 87) rfl)) rfl
theorem tw_2489 : (Cond.laysFinal "ProofLibraryModel" "ProofLibraryModel" "isEquality" "[Z") ∈ TB := TB_m (tc_11 (List.mem_of_getElem? (i := 89) rfl)) rfl
theorem tw_2491 : (Cond.laysFinal "ProofLibraryModel" "ProofLibraryModel" "definer" "[I") ∈ TB := TB_m (tc_11 (List.mem_of_getElem? (i := 91) rfl)) rfl
theorem tw_2493 : (Cond.laysFinal "ProofLibraryModel" "ProofLibraryModel" "isNeeded" "[Z") ∈ TB := TB_m (tc_11 (List.mem_of_getElem? (i := 93) rfl)) rfl
theorem tw_2495 : (Cond.laysFinal "ProofLibraryModel" "ProofLibraryModel" "bareAt" "[I") ∈ TB := TB_m (tc_11 (List.mem_of_getElem? (i := 95) rfl)) rfl
theorem tw_2497 : (Cond.laysFinal "ProofLibraryModel" "ProofLibraryModel" "bareMany" "[I") ∈ TB := TB_m (tc_11 (List.mem_of_getElem? (i := 97) rfl)) rfl
theorem tw_2499 : (Cond.laysFinal "ProofLibraryModel" "ProofLibraryModel" "bare" "[I") ∈ TB := TB_m (tc_11 (List.mem_of_getElem? (i := 99) rfl)) rfl
theorem tw_2501 : (Cond.lays "ProofLibraryModel" "ProofLibraryModel" "bareSize" "I") ∈ TB := TB_m (tc_11 (List.mem_of_getElem? (i := 101) rfl)) rfl
theorem tw_2503 : (Cond.laysFinal "ProofLibraryModel" "ProofLibraryModel" "tasks" "[I") ∈ TB := TB_m (tc_11 (List.mem_of_getElem? (i := 103) rfl)) rfl
theorem tw_2505 : (Cond.lays "ProofLibraryModel" "ProofLibraryModel" "taskMany" "I") ∈ TB := TB_m (tc_11 (List.mem_of_getElem? (i := 105) rfl)) rfl
theorem tw_2507 : (Cond.laysFinal "ProofLibraryModel" "ProofLibraryModel" "given" "[I") ∈ TB := TB_m (tc_11 (List.mem_of_getElem? (i := 107) rfl)) rfl
theorem tw_2509 : (Cond.laysFinal "ProofLibraryModel" "ProofLibraryModel" "boundFrom" "[I") ∈ TB := TB_m (tc_11 (List.mem_of_getElem? (i := 109) rfl)) rfl
theorem tw_2511 : (Cond.laysFinal "ProofLibraryModel" "ProofLibraryModel" "boundTo" "[I") ∈ TB := TB_m (tc_11 (List.mem_of_getElem? (i := 111) rfl)) rfl
theorem tw_2513 : (Cond.laysFinal "ProofLibraryModel" "ProofLibraryModel" "otherWalk" "[I") ∈ TB := TB_m (tc_11 (List.mem_of_getElem? (i := 113) rfl)) rfl
theorem tw_2516 : (Cond.methodLink "ProofLibraryLaw" 17 ⟨"ProofLibraryModel", "feed", "(IIIII)I"⟩) ∈ TB := TB_m (tc_11 (List.mem_of_getElem? (i := 116) rfl)) rfl
theorem tw_2517 : (Cond.instanceMethod ⟨"ProofLibraryModel", "feed", "(IIIII)I"⟩) ∈ TB := TB_m (tc_11 (List.mem_of_getElem? (i := 117) rfl)) rfl
theorem tw_2518 : (Cond.selects "ProofLibraryModel" ⟨"ProofLibraryModel", "feed", "(IIIII)I"⟩ ⟨"ProofLibraryModel", "feed", "(IIIII)I"⟩) ∈ TB := TB_m (tc_11 (List.mem_of_getElem? (i := 118) rfl)) rfl
theorem tw_2519 : (Cond.code ⟨"ProofLibraryModel", "feed", "(IIIII)I"⟩ prog_15_method_4_code 8 (some .int)) ∈ TB := TB_m (tc_11 (List.mem_of_getElem? (i := 119) rfl)) rfl
theorem tw_2520 : (Cond.methodLink "ProofLibraryLaw" 22 ⟨"ProofLibraryModel", "end", "(I)I"⟩) ∈ TB := TB_m (tc_11 (List.mem_of_getElem? (i := 120) rfl)) rfl
theorem tw_2521 : (Cond.instanceMethod ⟨"ProofLibraryModel", "end", "(I)I"⟩) ∈ TB := TB_m (tc_11 (List.mem_of_getElem? (i := 121) rfl)) rfl
theorem tw_2522 : (Cond.selects "ProofLibraryModel" ⟨"ProofLibraryModel", "end", "(I)I"⟩ ⟨"ProofLibraryModel", "end", "(I)I"⟩) ∈ TB := TB_m (tc_11 (List.mem_of_getElem? (i := 122) rfl)) rfl
theorem tw_2523 : (Cond.code ⟨"ProofLibraryModel", "end", "(I)I"⟩ prog_15_method_5_code 2 (some .int)) ∈ TB := TB_m (tc_11 (List.mem_of_getElem? (i := 123) rfl)) rfl
theorem tw_2525 : (Cond.methodLink "ProofLibraryModel" 388 ⟨"ProofLibraryModel", "isIn", "(JJJ)Z"⟩) ∈ TB := TB_m (tc_11 (List.mem_of_getElem? (i := 125) rfl)) rfl
theorem tw_2526 : (Cond.static ⟨"ProofLibraryModel", "isIn", "(JJJ)Z"⟩) ∈ TB := TB_m (tc_11 (List.mem_of_getElem? (i := 126) rfl)) rfl
theorem tw_2527 : (Cond.code ⟨"ProofLibraryModel", "isIn", "(JJJ)Z"⟩ prog_15_method_3_code 6 (some .boolean)) ∈ TB := TB_m (tc_11 (List.mem_of_getElem? (i := 127) rfl)) rfl
theorem tw_2528 : (Cond.methodLink "ProofLibraryLaw" 27 ⟨"ProofLibraryModel", "read", "()I"⟩) ∈ TB := TB_m (tc_11 (List.mem_of_getElem? (i := 128) rfl)) rfl
theorem tw_2529 : (Cond.instanceMethod ⟨"ProofLibraryModel", "read", "()I"⟩) ∈ TB := TB_m (tc_11 (List.mem_of_getElem? (i := 129) rfl)) rfl
theorem tw_2530 : (Cond.selects "ProofLibraryModel" ⟨"ProofLibraryModel", "read", "()I"⟩ ⟨"ProofLibraryModel", "read", "()I"⟩) ∈ TB := TB_m (tc_11 (List.mem_of_getElem? (i := 130) rfl)) rfl
theorem tw_2531 : (Cond.code ⟨"ProofLibraryModel", "read", "()I"⟩ prog_15_method_69_code 7 (some .int)) ∈ TB := TB_m (tc_11 (List.mem_of_getElem? (i := 131) rfl)) rfl
theorem tw_2532 : (Cond.methodLink "ProofLibraryModel" 696 ⟨"ProofLibraryModel", "noteAll", "()V"⟩) ∈ TB := TB_m (tc_11 (List.mem_of_getElem? (i := 132) rfl)) rfl
theorem tw_2534 : (Cond.instanceMethod ⟨"ProofLibraryModel", "noteAll", "()V"⟩) ∈ TB := TB_m (tc_11 (List.mem_of_getElem? (i := 134) rfl)) rfl
theorem tw_2535 : (Cond.code ⟨"ProofLibraryModel", "noteAll", "()V"⟩ prog_15_method_67_code 2 none) ∈ TB := TB_m (tc_11 (List.mem_of_getElem? (i := 135) rfl)) rfl
theorem tw_2536 : (Cond.methodLink "ProofLibraryModel" 490 ⟨"ProofLibraryModel", "next", "()V"⟩) ∈ TB := TB_m (tc_11 (List.mem_of_getElem? (i := 136) rfl)) rfl
theorem tw_2538 : (Cond.instanceMethod ⟨"ProofLibraryModel", "next", "()V"⟩) ∈ TB := TB_m (tc_11 (List.mem_of_getElem? (i := 138) rfl)) rfl
theorem tw_2539 : (Cond.code ⟨"ProofLibraryModel", "next", "()V"⟩ prog_15_method_26_code 2 none) ∈ TB := TB_m (tc_11 (List.mem_of_getElem? (i := 139) rfl)) rfl
theorem tw_2540 : (Cond.methodLink "ProofLibraryModel" 441 ⟨"ProofLibraryModel", "nextRow", "()Z"⟩) ∈ TB := TB_m (tc_11 (List.mem_of_getElem? (i := 140) rfl)) rfl
theorem tw_2542 : (Cond.instanceMethod ⟨"ProofLibraryModel", "nextRow", "()Z"⟩) ∈ TB := TB_m (tc_11 (List.mem_of_getElem? (i := 142) rfl)) rfl
theorem tw_2543 : (Cond.code ⟨"ProofLibraryModel", "nextRow", "()Z"⟩ prog_15_method_22_code 1 (some .boolean)) ∈ TB := TB_m (tc_11 (List.mem_of_getElem? (i := 143) rfl)) rfl
theorem tw_2774 : (Cond.constantLong "ProofLibraryModel" 403 (-1)) ∈ TB := TB_m (tc_12 (List.mem_of_getElem? (i := 134) rfl)) rfl
theorem tw_2787 : (Cond.methodLink "ProofLibraryModel" 706 ⟨"ProofLibraryModel", "forgetTrees", "(I)V"⟩) ∈ TB := TB_m (tc_12 (List.mem_of_getElem? (i := 147) rfl)) rfl
theorem tw_2789 : (Cond.instanceMethod ⟨"ProofLibraryModel", "forgetTrees", "(I)V"⟩) ∈ TB := TB_m (tc_12 (List.mem_of_getElem? (i := 149) rfl)) rfl
theorem tw_2790 : (Cond.code ⟨"ProofLibraryModel", "forgetTrees", "(I)V"⟩ prog_15_method_135_code 3 none) ∈ TB := TB_m (tc_12 (List.mem_of_getElem? (i := 150) rfl)) rfl
theorem tw_2791 : (Cond.methodLink "ProofLibraryLaw" 31 ⟨"ProofLibraryModel", "place", "()I"⟩) ∈ TB := TB_m (tc_12 (List.mem_of_getElem? (i := 151) rfl)) rfl
theorem tw_2792 : (Cond.instanceMethod ⟨"ProofLibraryModel", "place", "()I"⟩) ∈ TB := TB_m (tc_12 (List.mem_of_getElem? (i := 152) rfl)) rfl
theorem tw_2793 : (Cond.selects "ProofLibraryModel" ⟨"ProofLibraryModel", "place", "()I"⟩ ⟨"ProofLibraryModel", "place", "()I"⟩) ∈ TB := TB_m (tc_12 (List.mem_of_getElem? (i := 153) rfl)) rfl
theorem tw_2794 : (Cond.code ⟨"ProofLibraryModel", "place", "()I"⟩ prog_15_method_70_code 1 (some .int)) ∈ TB := TB_m (tc_12 (List.mem_of_getElem? (i := 154) rfl)) rfl
theorem tw_2795 : (Cond.methodLink "ProofLibraryLaw" 35 ⟨"ProofLibraryModel", "count", "(I)I"⟩) ∈ TB := TB_m (tc_12 (List.mem_of_getElem? (i := 155) rfl)) rfl
theorem tw_2796 : (Cond.instanceMethod ⟨"ProofLibraryModel", "count", "(I)I"⟩) ∈ TB := TB_m (tc_12 (List.mem_of_getElem? (i := 156) rfl)) rfl
theorem tw_2797 : (Cond.selects "ProofLibraryModel" ⟨"ProofLibraryModel", "count", "(I)I"⟩ ⟨"ProofLibraryModel", "count", "(I)I"⟩) ∈ TB := TB_m (tc_12 (List.mem_of_getElem? (i := 157) rfl)) rfl
theorem tw_2798 : (Cond.code ⟨"ProofLibraryModel", "count", "(I)I"⟩ prog_15_method_74_code 6 (some .int)) ∈ TB := TB_m (tc_12 (List.mem_of_getElem? (i := 158) rfl)) rfl
theorem tw_2799 : (Cond.methodLink "ProofLibraryLaw" 39 ⟨"ProofLibraryModel", "kind", "(I)I"⟩) ∈ TB := TB_m (tc_12 (List.mem_of_getElem? (i := 159) rfl)) rfl
theorem tw_2800 : (Cond.instanceMethod ⟨"ProofLibraryModel", "kind", "(I)I"⟩) ∈ TB := TB_m (tc_12 (List.mem_of_getElem? (i := 160) rfl)) rfl
theorem tw_2801 : (Cond.selects "ProofLibraryModel" ⟨"ProofLibraryModel", "kind", "(I)I"⟩ ⟨"ProofLibraryModel", "kind", "(I)I"⟩) ∈ TB := TB_m (tc_12 (List.mem_of_getElem? (i := 161) rfl)) rfl
theorem tw_2802 : (Cond.code ⟨"ProofLibraryModel", "kind", "(I)I"⟩ prog_15_method_75_code 2 (some .int)) ∈ TB := TB_m (tc_12 (List.mem_of_getElem? (i := 162) rfl)) rfl
theorem tw_2803 : (Cond.methodLink "ProofLibraryModel" 709 ⟨"ProofLibraryModel", "isStatement", "(I)Z"⟩) ∈ TB := TB_m (tc_12 (List.mem_of_getElem? (i := 163) rfl)) rfl
theorem tw_2805 : (Cond.instanceMethod ⟨"ProofLibraryModel", "isStatement", "(I)Z"⟩) ∈ TB := TB_m (tc_12 (List.mem_of_getElem? (i := 165) rfl)) rfl
theorem tw_2806 : (Cond.code ⟨"ProofLibraryModel", "isStatement", "(I)Z"⟩ prog_15_method_71_code 2 (some .boolean)) ∈ TB := TB_m (tc_12 (List.mem_of_getElem? (i := 166) rfl)) rfl
theorem tw_2807 : (Cond.methodLink "ProofLibraryLaw" 43 ⟨"ProofLibraryModel", "length", "(I)I"⟩) ∈ TB := TB_m (tc_12 (List.mem_of_getElem? (i := 167) rfl)) rfl
theorem tw_2808 : (Cond.instanceMethod ⟨"ProofLibraryModel", "length", "(I)I"⟩) ∈ TB := TB_m (tc_12 (List.mem_of_getElem? (i := 168) rfl)) rfl
theorem tw_2809 : (Cond.selects "ProofLibraryModel" ⟨"ProofLibraryModel", "length", "(I)I"⟩ ⟨"ProofLibraryModel", "length", "(I)I"⟩) ∈ TB := TB_m (tc_12 (List.mem_of_getElem? (i := 169) rfl)) rfl
theorem tw_2810 : (Cond.code ⟨"ProofLibraryModel", "length", "(I)I"⟩ prog_15_method_76_code 2 (some .int)) ∈ TB := TB_m (tc_12 (List.mem_of_getElem? (i := 170) rfl)) rfl
theorem tw_2811 : (Cond.methodLink "ProofLibraryLaw" 48 ⟨"ProofLibraryModel", "symbol", "(II)I"⟩) ∈ TB := TB_m (tc_12 (List.mem_of_getElem? (i := 171) rfl)) rfl
theorem tw_2812 : (Cond.instanceMethod ⟨"ProofLibraryModel", "symbol", "(II)I"⟩) ∈ TB := TB_m (tc_12 (List.mem_of_getElem? (i := 172) rfl)) rfl
theorem tw_2813 : (Cond.selects "ProofLibraryModel" ⟨"ProofLibraryModel", "symbol", "(II)I"⟩ ⟨"ProofLibraryModel", "symbol", "(II)I"⟩) ∈ TB := TB_m (tc_12 (List.mem_of_getElem? (i := 173) rfl)) rfl
theorem tw_2814 : (Cond.code ⟨"ProofLibraryModel", "symbol", "(II)I"⟩ prog_15_method_77_code 3 (some .int)) ∈ TB := TB_m (tc_12 (List.mem_of_getElem? (i := 174) rfl)) rfl
theorem tw_2815 : (Cond.methodLink "ProofLibraryLaw" 52 ⟨"ProofLibraryModel", "variable", "(I)I"⟩) ∈ TB := TB_m (tc_12 (List.mem_of_getElem? (i := 175) rfl)) rfl
theorem tw_2816 : (Cond.instanceMethod ⟨"ProofLibraryModel", "variable", "(I)I"⟩) ∈ TB := TB_m (tc_12 (List.mem_of_getElem? (i := 176) rfl)) rfl
theorem tw_2817 : (Cond.selects "ProofLibraryModel" ⟨"ProofLibraryModel", "variable", "(I)I"⟩ ⟨"ProofLibraryModel", "variable", "(I)I"⟩) ∈ TB := TB_m (tc_12 (List.mem_of_getElem? (i := 177) rfl)) rfl
theorem tw_2818 : (Cond.code ⟨"ProofLibraryModel", "variable", "(I)I"⟩ prog_15_method_78_code 2 (some .int)) ∈ TB := TB_m (tc_12 (List.mem_of_getElem? (i := 178) rfl)) rfl
theorem tw_2819 : (Cond.methodLink "ProofLibraryLaw" 56 ⟨"ProofLibraryModel", "find", "(I)I"⟩) ∈ TB := TB_m (tc_12 (List.mem_of_getElem? (i := 179) rfl)) rfl
theorem tw_2820 : (Cond.instanceMethod ⟨"ProofLibraryModel", "find", "(I)I"⟩) ∈ TB := TB_m (tc_12 (List.mem_of_getElem? (i := 180) rfl)) rfl
theorem tw_2821 : (Cond.selects "ProofLibraryModel" ⟨"ProofLibraryModel", "find", "(I)I"⟩ ⟨"ProofLibraryModel", "find", "(I)I"⟩) ∈ TB := TB_m (tc_12 (List.mem_of_getElem? (i := 181) rfl)) rfl
theorem tw_2822 : (Cond.code ⟨"ProofLibraryModel", "find", "(I)I"⟩ prog_15_method_81_code 7 (some .int)) ∈ TB := TB_m (tc_12 (List.mem_of_getElem? (i := 182) rfl)) rfl
theorem tw_2823 : (Cond.methodLink "ProofLibraryModel" 712 ⟨"ProofLibraryModel", "rowFrom", "(I)I"⟩) ∈ TB := TB_m (tc_12 (List.mem_of_getElem? (i := 183) rfl)) rfl
theorem tw_2825 : (Cond.instanceMethod ⟨"ProofLibraryModel", "rowFrom", "(I)I"⟩) ∈ TB := TB_m (tc_12 (List.mem_of_getElem? (i := 185) rfl)) rfl
theorem tw_2826 : (Cond.code ⟨"ProofLibraryModel", "rowFrom", "(I)I"⟩ prog_15_method_79_code 2 (some .int)) ∈ TB := TB_m (tc_12 (List.mem_of_getElem? (i := 186) rfl)) rfl
theorem tw_2827 : (Cond.methodLink "ProofLibraryModel" 716 ⟨"ProofLibraryModel", "useTape", "()V"⟩) ∈ TB := TB_m (tc_12 (List.mem_of_getElem? (i := 187) rfl)) rfl
theorem tw_2829 : (Cond.instanceMethod ⟨"ProofLibraryModel", "useTape", "()V"⟩) ∈ TB := TB_m (tc_12 (List.mem_of_getElem? (i := 189) rfl)) rfl
theorem tw_2830 : (Cond.code ⟨"ProofLibraryModel", "useTape", "()V"⟩ prog_15_method_80_code 1 none) ∈ TB := TB_m (tc_12 (List.mem_of_getElem? (i := 190) rfl)) rfl
theorem tw_2831 : (Cond.methodLink "ProofLibraryLaw" 60 ⟨"ProofLibraryModel", "frame", "(II)I"⟩) ∈ TB := TB_m (tc_12 (List.mem_of_getElem? (i := 191) rfl)) rfl
theorem tw_2832 : (Cond.instanceMethod ⟨"ProofLibraryModel", "frame", "(II)I"⟩) ∈ TB := TB_m (tc_12 (List.mem_of_getElem? (i := 192) rfl)) rfl
theorem tw_2833 : (Cond.selects "ProofLibraryModel" ⟨"ProofLibraryModel", "frame", "(II)I"⟩ ⟨"ProofLibraryModel", "frame", "(II)I"⟩) ∈ TB := TB_m (tc_12 (List.mem_of_getElem? (i := 193) rfl)) rfl
theorem tw_2834 : (Cond.code ⟨"ProofLibraryModel", "frame", "(II)I"⟩ prog_15_method_83_code 3 (some .int)) ∈ TB := TB_m (tc_12 (List.mem_of_getElem? (i := 194) rfl)) rfl
theorem tw_2835 : (Cond.methodLink "ProofLibraryModel" 719 ⟨"ProofLibraryModel", "isAssertion", "(I)Z"⟩) ∈ TB := TB_m (tc_12 (List.mem_of_getElem? (i := 195) rfl)) rfl
theorem tw_2837 : (Cond.instanceMethod ⟨"ProofLibraryModel", "isAssertion", "(I)Z"⟩) ∈ TB := TB_m (tc_12 (List.mem_of_getElem? (i := 197) rfl)) rfl
theorem tw_2838 : (Cond.code ⟨"ProofLibraryModel", "isAssertion", "(I)Z"⟩ prog_15_method_72_code 2 (some .boolean)) ∈ TB := TB_m (tc_12 (List.mem_of_getElem? (i := 198) rfl)) rfl
theorem tw_2844 : (Cond.methodLink "ProofLibraryLaw" 64 ⟨"ProofLibraryModel", "hypothesis", "(II)I"⟩) ∈ TB := TB_m (tc_12 (List.mem_of_getElem? (i := 204) rfl)) rfl
theorem tw_2845 : (Cond.instanceMethod ⟨"ProofLibraryModel", "hypothesis", "(II)I"⟩) ∈ TB := TB_m (tc_12 (List.mem_of_getElem? (i := 205) rfl)) rfl
theorem tw_2846 : (Cond.selects "ProofLibraryModel" ⟨"ProofLibraryModel", "hypothesis", "(II)I"⟩ ⟨"ProofLibraryModel", "hypothesis", "(II)I"⟩) ∈ TB := TB_m (tc_12 (List.mem_of_getElem? (i := 206) rfl)) rfl
theorem tw_2847 : (Cond.code ⟨"ProofLibraryModel", "hypothesis", "(II)I"⟩ prog_15_method_84_code 3 (some .int)) ∈ TB := TB_m (tc_12 (List.mem_of_getElem? (i := 207) rfl)) rfl
theorem tw_2848 : (Cond.methodLink "ProofLibraryLaw" 69 ⟨"ProofLibraryModel", "apart", "(III)I"⟩) ∈ TB := TB_m (tc_12 (List.mem_of_getElem? (i := 208) rfl)) rfl
theorem tw_2849 : (Cond.instanceMethod ⟨"ProofLibraryModel", "apart", "(III)I"⟩) ∈ TB := TB_m (tc_12 (List.mem_of_getElem? (i := 209) rfl)) rfl
theorem tw_2850 : (Cond.selects "ProofLibraryModel" ⟨"ProofLibraryModel", "apart", "(III)I"⟩ ⟨"ProofLibraryModel", "apart", "(III)I"⟩) ∈ TB := TB_m (tc_12 (List.mem_of_getElem? (i := 210) rfl)) rfl
theorem tw_2851 : (Cond.code ⟨"ProofLibraryModel", "apart", "(III)I"⟩ prog_15_method_85_code 5 (some .int)) ∈ TB := TB_m (tc_12 (List.mem_of_getElem? (i := 211) rfl)) rfl
theorem tw_2852 : (Cond.methodLink "ProofLibraryLaw" 73 ⟨"ProofLibraryModel", "rows", "(I)I"⟩) ∈ TB := TB_m (tc_12 (List.mem_of_getElem? (i := 212) rfl)) rfl
theorem tw_2853 : (Cond.instanceMethod ⟨"ProofLibraryModel", "rows", "(I)I"⟩) ∈ TB := TB_m (tc_12 (List.mem_of_getElem? (i := 213) rfl)) rfl
theorem tw_2854 : (Cond.selects "ProofLibraryModel" ⟨"ProofLibraryModel", "rows", "(I)I"⟩ ⟨"ProofLibraryModel", "rows", "(I)I"⟩) ∈ TB := TB_m (tc_12 (List.mem_of_getElem? (i := 214) rfl)) rfl
theorem tw_2855 : (Cond.code ⟨"ProofLibraryModel", "rows", "(I)I"⟩ prog_15_method_88_code 2 (some .int)) ∈ TB := TB_m (tc_12 (List.mem_of_getElem? (i := 215) rfl)) rfl
theorem tw_2856 : (Cond.methodLink "ProofLibraryModel" 736 ⟨"ProofLibraryModel", "isProved", "(I)Z"⟩) ∈ TB := TB_m (tc_12 (List.mem_of_getElem? (i := 216) rfl)) rfl
theorem tw_2858 : (Cond.instanceMethod ⟨"ProofLibraryModel", "isProved", "(I)Z"⟩) ∈ TB := TB_m (tc_12 (List.mem_of_getElem? (i := 218) rfl)) rfl
theorem tw_2859 : (Cond.code ⟨"ProofLibraryModel", "isProved", "(I)Z"⟩ prog_15_method_73_code 2 (some .boolean)) ∈ TB := TB_m (tc_12 (List.mem_of_getElem? (i := 219) rfl)) rfl
theorem tw_2864 : (Cond.methodLink "ProofLibraryLaw" 77 ⟨"ProofLibraryModel", "row", "(II)I"⟩) ∈ TB := TB_m (tc_12 (List.mem_of_getElem? (i := 224) rfl)) rfl
theorem tw_2865 : (Cond.instanceMethod ⟨"ProofLibraryModel", "row", "(II)I"⟩) ∈ TB := TB_m (tc_12 (List.mem_of_getElem? (i := 225) rfl)) rfl
theorem tw_2866 : (Cond.selects "ProofLibraryModel" ⟨"ProofLibraryModel", "row", "(II)I"⟩ ⟨"ProofLibraryModel", "row", "(II)I"⟩) ∈ TB := TB_m (tc_12 (List.mem_of_getElem? (i := 226) rfl)) rfl
theorem tw_2867 : (Cond.code ⟨"ProofLibraryModel", "row", "(II)I"⟩ prog_15_method_90_code 3 (some .int)) ∈ TB := TB_m (tc_12 (List.mem_of_getElem? (i := 227) rfl)) rfl
theorem tw_2868 : (Cond.methodLink "ProofLibraryModel" 745 ⟨"ProofLibraryModel", "isRow", "(II)Z"⟩) ∈ TB := TB_m (tc_12 (List.mem_of_getElem? (i := 228) rfl)) rfl
theorem tw_2870 : (Cond.instanceMethod ⟨"ProofLibraryModel", "isRow", "(II)Z"⟩) ∈ TB := TB_m (tc_12 (List.mem_of_getElem? (i := 230) rfl)) rfl
theorem tw_2871 : (Cond.code ⟨"ProofLibraryModel", "isRow", "(II)Z"⟩ prog_15_method_89_code 3 (some .boolean)) ∈ TB := TB_m (tc_12 (List.mem_of_getElem? (i := 231) rfl)) rfl
theorem tw_2873 : (Cond.methodLink "ProofLibraryLaw" 81 ⟨"ProofLibraryModel", "from", "(III)I"⟩) ∈ TB := TB_m (tc_12 (List.mem_of_getElem? (i := 233) rfl)) rfl
theorem tw_2874 : (Cond.instanceMethod ⟨"ProofLibraryModel", "from", "(III)I"⟩) ∈ TB := TB_m (tc_12 (List.mem_of_getElem? (i := 234) rfl)) rfl
theorem tw_2875 : (Cond.selects "ProofLibraryModel" ⟨"ProofLibraryModel", "from", "(III)I"⟩ ⟨"ProofLibraryModel", "from", "(III)I"⟩) ∈ TB := TB_m (tc_12 (List.mem_of_getElem? (i := 235) rfl)) rfl
theorem tw_2876 : (Cond.code ⟨"ProofLibraryModel", "from", "(III)I"⟩ prog_15_method_91_code 4 (some .int)) ∈ TB := TB_m (tc_12 (List.mem_of_getElem? (i := 236) rfl)) rfl
theorem tw_2881 : (Cond.methodLink "ProofLibraryLaw" 85 ⟨"ProofLibraryModel", "rests", "(II)I"⟩) ∈ TB := TB_m (tc_13 (List.mem_of_getElem? (i := 1) rfl)) rfl
theorem tw_2882 : (Cond.instanceMethod ⟨"ProofLibraryModel", "rests", "(II)I"⟩) ∈ TB := TB_m (tc_13 (List.mem_of_getElem? (i := 2) rfl)) rfl
theorem tw_2883 : (Cond.selects "ProofLibraryModel" ⟨"ProofLibraryModel", "rests", "(II)I"⟩ ⟨"ProofLibraryModel", "rests", "(II)I"⟩) ∈ TB := TB_m (tc_13 (List.mem_of_getElem? (i := 3) rfl)) rfl
theorem tw_2884 : (Cond.code ⟨"ProofLibraryModel", "rests", "(II)I"⟩ prog_15_method_92_code 3 (some .int)) ∈ TB := TB_m (tc_13 (List.mem_of_getElem? (i := 4) rfl)) rfl
theorem tw_2885 : (Cond.methodLink "ProofLibraryLaw" 90 ⟨"ProofLibraryModel", "size", "(I)J"⟩) ∈ TB := TB_m (tc_13 (List.mem_of_getElem? (i := 5) rfl)) rfl
theorem tw_2886 : (Cond.instanceMethod ⟨"ProofLibraryModel", "size", "(I)J"⟩) ∈ TB := TB_m (tc_13 (List.mem_of_getElem? (i := 6) rfl)) rfl
theorem tw_2887 : (Cond.selects "ProofLibraryModel" ⟨"ProofLibraryModel", "size", "(I)J"⟩ ⟨"ProofLibraryModel", "size", "(I)J"⟩) ∈ TB := TB_m (tc_13 (List.mem_of_getElem? (i := 7) rfl)) rfl
theorem tw_2888 : (Cond.code ⟨"ProofLibraryModel", "size", "(I)J"⟩ prog_15_method_94_code 2 (some .long)) ∈ TB := TB_m (tc_13 (List.mem_of_getElem? (i := 8) rfl)) rfl
theorem tw_2896 : (Cond.methodLink "ProofLibraryLaw" 98 ⟨"ProofLibraryModel", "character", "(I)I"⟩) ∈ TB := TB_m (tc_13 (List.mem_of_getElem? (i := 16) rfl)) rfl
theorem tw_2897 : (Cond.instanceMethod ⟨"ProofLibraryModel", "character", "(I)I"⟩) ∈ TB := TB_m (tc_13 (List.mem_of_getElem? (i := 17) rfl)) rfl
theorem tw_2898 : (Cond.selects "ProofLibraryModel" ⟨"ProofLibraryModel", "character", "(I)I"⟩ ⟨"ProofLibraryModel", "character", "(I)I"⟩) ∈ TB := TB_m (tc_13 (List.mem_of_getElem? (i := 18) rfl)) rfl
theorem tw_2899 : (Cond.code ⟨"ProofLibraryModel", "character", "(I)I"⟩ prog_15_method_101_code 2 (some .int)) ∈ TB := TB_m (tc_13 (List.mem_of_getElem? (i := 19) rfl)) rfl
theorem tw_2900 : (Cond.methodLink "ProofLibraryLaw" 102 ⟨"ProofLibraryModel", "trees", "(I)I"⟩) ∈ TB := TB_m (tc_13 (List.mem_of_getElem? (i := 20) rfl)) rfl
theorem tw_2901 : (Cond.instanceMethod ⟨"ProofLibraryModel", "trees", "(I)I"⟩) ∈ TB := TB_m (tc_13 (List.mem_of_getElem? (i := 21) rfl)) rfl
theorem tw_2902 : (Cond.selects "ProofLibraryModel" ⟨"ProofLibraryModel", "trees", "(I)I"⟩ ⟨"ProofLibraryModel", "trees", "(I)I"⟩) ∈ TB := TB_m (tc_13 (List.mem_of_getElem? (i := 22) rfl)) rfl
theorem tw_2903 : (Cond.code ⟨"ProofLibraryModel", "trees", "(I)I"⟩ prog_15_method_138_code 2 (some .int)) ∈ TB := TB_m (tc_13 (List.mem_of_getElem? (i := 23) rfl)) rfl
theorem tw_3007 : (Cond.methodLink "ProofLibraryLaw" 106 ⟨"ProofLibraryModel", "equate", "(I)I"⟩) ∈ TB := TB_m (tc_13 (List.mem_of_getElem? (i := 127) rfl)) rfl
theorem tw_3008 : (Cond.instanceMethod ⟨"ProofLibraryModel", "equate", "(I)I"⟩) ∈ TB := TB_m (tc_13 (List.mem_of_getElem? (i := 128) rfl)) rfl
theorem tw_3009 : (Cond.selects "ProofLibraryModel" ⟨"ProofLibraryModel", "equate", "(I)I"⟩ ⟨"ProofLibraryModel", "equate", "(I)I"⟩) ∈ TB := TB_m (tc_13 (List.mem_of_getElem? (i := 129) rfl)) rfl
theorem tw_3010 : (Cond.code ⟨"ProofLibraryModel", "equate", "(I)I"⟩ prog_15_method_142_code 4 (some .int)) ∈ TB := TB_m (tc_13 (List.mem_of_getElem? (i := 130) rfl)) rfl
theorem tw_3015 : (Cond.methodLink "ProofLibraryLaw" 110 ⟨"ProofLibraryModel", "definition", "(I)I"⟩) ∈ TB := TB_m (tc_13 (List.mem_of_getElem? (i := 135) rfl)) rfl
theorem tw_3016 : (Cond.instanceMethod ⟨"ProofLibraryModel", "definition", "(I)I"⟩) ∈ TB := TB_m (tc_13 (List.mem_of_getElem? (i := 136) rfl)) rfl
theorem tw_3017 : (Cond.selects "ProofLibraryModel" ⟨"ProofLibraryModel", "definition", "(I)I"⟩ ⟨"ProofLibraryModel", "definition", "(I)I"⟩) ∈ TB := TB_m (tc_13 (List.mem_of_getElem? (i := 137) rfl)) rfl
theorem tw_3018 : (Cond.code ⟨"ProofLibraryModel", "definition", "(I)I"⟩ prog_15_method_150_code 2 (some .int)) ∈ TB := TB_m (tc_13 (List.mem_of_getElem? (i := 138) rfl)) rfl
theorem tw_3051 : (Cond.methodLink "ProofLibraryLaw" 94 ⟨"ProofLibraryModel", "print", "(III)I"⟩) ∈ TB := TB_m (tc_13 (List.mem_of_getElem? (i := 171) rfl)) rfl
theorem tw_3052 : (Cond.instanceMethod ⟨"ProofLibraryModel", "print", "(III)I"⟩) ∈ TB := TB_m (tc_13 (List.mem_of_getElem? (i := 172) rfl)) rfl
theorem tw_3053 : (Cond.selects "ProofLibraryModel" ⟨"ProofLibraryModel", "print", "(III)I"⟩ ⟨"ProofLibraryModel", "print", "(III)I"⟩) ∈ TB := TB_m (tc_13 (List.mem_of_getElem? (i := 173) rfl)) rfl
theorem tw_3054 : (Cond.code ⟨"ProofLibraryModel", "print", "(III)I"⟩ prog_15_method_160_code 4 (some .int)) ∈ TB := TB_m (tc_13 (List.mem_of_getElem? (i := 174) rfl)) rfl
theorem tw_3055 : (Cond.methodLink "ProofLibraryModel" 964 ⟨"ProofLibraryModel", "beginTrees", "()V"⟩) ∈ TB := TB_m (tc_13 (List.mem_of_getElem? (i := 175) rfl)) rfl
theorem tw_3057 : (Cond.instanceMethod ⟨"ProofLibraryModel", "beginTrees", "()V"⟩) ∈ TB := TB_m (tc_13 (List.mem_of_getElem? (i := 177) rfl)) rfl
theorem tw_3058 : (Cond.code ⟨"ProofLibraryModel", "beginTrees", "()V"⟩ prog_15_method_139_code 1 none) ∈ TB := TB_m (tc_13 (List.mem_of_getElem? (i := 178) rfl)) rfl
theorem tw_3157 : (Cond.methodLink "ProofLibraryLaw" 114 ⟨"ProofLibraryModel", "apply", "(I)I"⟩) ∈ TB := TB_m (tc_14 (List.mem_of_getElem? (i := 37) rfl)) rfl
theorem tw_3158 : (Cond.instanceMethod ⟨"ProofLibraryModel", "apply", "(I)I"⟩) ∈ TB := TB_m (tc_14 (List.mem_of_getElem? (i := 38) rfl)) rfl
theorem tw_3159 : (Cond.selects "ProofLibraryModel" ⟨"ProofLibraryModel", "apply", "(I)I"⟩ ⟨"ProofLibraryModel", "apply", "(I)I"⟩) ∈ TB := TB_m (tc_14 (List.mem_of_getElem? (i := 39) rfl)) rfl
theorem tw_3160 : (Cond.code ⟨"ProofLibraryModel", "apply", "(I)I"⟩ prog_15_method_166_code 6 (some .int)) ∈ TB := TB_m (tc_14 (List.mem_of_getElem? (i := 40) rfl)) rfl
theorem tw_3161 : (Cond.methodLink "ProofLibraryModel" 995 ⟨"ProofLibraryModel", "takeRow", "()I"⟩) ∈ TB := TB_m (tc_14 (List.mem_of_getElem? (i := 41) rfl)) rfl
theorem tw_3163 : (Cond.instanceMethod ⟨"ProofLibraryModel", "takeRow", "()I"⟩) ∈ TB := TB_m (tc_14 (List.mem_of_getElem? (i := 43) rfl)) rfl
theorem tw_3164 : (Cond.code ⟨"ProofLibraryModel", "takeRow", "()I"⟩ prog_15_method_161_code 5 (some .int)) ∈ TB := TB_m (tc_14 (List.mem_of_getElem? (i := 44) rfl)) rfl
theorem tw_3181 : (Cond.methodLink "ProofLibraryLaw" 118 ⟨"ProofLibraryModel", "check", "()I"⟩) ∈ TB := TB_m (tc_14 (List.mem_of_getElem? (i := 61) rfl)) rfl
theorem tw_3182 : (Cond.instanceMethod ⟨"ProofLibraryModel", "check", "()I"⟩) ∈ TB := TB_m (tc_14 (List.mem_of_getElem? (i := 62) rfl)) rfl
theorem tw_3183 : (Cond.selects "ProofLibraryModel" ⟨"ProofLibraryModel", "check", "()I"⟩ ⟨"ProofLibraryModel", "check", "()I"⟩) ∈ TB := TB_m (tc_14 (List.mem_of_getElem? (i := 63) rfl)) rfl
theorem tw_3184 : (Cond.code ⟨"ProofLibraryModel", "check", "()I"⟩ prog_15_method_167_code 1 (some .int)) ∈ TB := TB_m (tc_14 (List.mem_of_getElem? (i := 64) rfl)) rfl
theorem ts_0 : (Cond.selects "ProofLibrary" ⟨"ProofLibrary", "putFour", "(I)V"⟩ ⟨"ProofLibrary", "putFour", "(I)V"⟩) ∈ TB := TB_sel 0 rfl rfl
theorem ts_1 : (Cond.selects "ProofLibrary$Reader" ⟨"ProofLibrary$Reader", "begin", "([C)V"⟩ ⟨"ProofLibrary$Reader", "begin", "([C)V"⟩) ∈ TB := TB_sel 1 rfl rfl
theorem ts_2 : (Cond.selects "ProofLibrary$Scopes" ⟨"ProofLibrary$Scopes", "mark", "()V"⟩ ⟨"ProofLibrary$Scopes", "mark", "()V"⟩) ∈ TB := TB_sel 2 rfl rfl
theorem ts_50 : (Cond.selects "ProofLibrary$Reader" ⟨"ProofLibrary$Reader", "faultAtEnd", "()I"⟩ ⟨"ProofLibrary$Reader", "faultAtEnd", "()I"⟩) ∈ TB := TB_sel 50 rfl rfl
theorem ts_51 : (Cond.selects "ProofLibrary" ⟨"ProofLibrary", "useTape", "()V"⟩ ⟨"ProofLibrary", "useTape", "()V"⟩) ∈ TB := TB_sel 51 rfl rfl
theorem ts_52 : (Cond.selects "ProofLibrary" ⟨"ProofLibrary", "isRow", "(II)Z"⟩ ⟨"ProofLibrary", "isRow", "(II)Z"⟩) ∈ TB := TB_sel 52 rfl rfl
theorem ts_53 : (Cond.selects "ProofLibrary" ⟨"ProofLibrary", "printSymbol", "(I)I"⟩ ⟨"ProofLibrary", "printSymbol", "(I)I"⟩) ∈ TB := TB_sel 53 rfl rfl
theorem ts_67 : (Cond.selects "ProofLibrary$Rules" ⟨"ProofLibrary$Rules", "constantNamed", "([C)I"⟩ ⟨"ProofLibrary$Rules", "constantNamed", "([C)I"⟩) ∈ TB := TB_sel 67 rfl rfl
theorem ts_94 : (Cond.selects "ProofLibrary" ⟨"ProofLibrary", "takeRow", "()I"⟩ ⟨"ProofLibrary", "takeRow", "()I"⟩) ∈ TB := TB_sel 94 rfl rfl
theorem ts_102 : (Cond.selects "ProofLibraryModel" ⟨"ProofLibraryModel", "clearTables", "()V"⟩ ⟨"ProofLibraryModel", "clearTables", "()V"⟩) ∈ TB := TB_sel 102 rfl rfl
theorem ts_103 : (Cond.selects "ProofLibraryModel" ⟨"ProofLibraryModel", "noteAll", "()V"⟩ ⟨"ProofLibraryModel", "noteAll", "()V"⟩) ∈ TB := TB_sel 103 rfl rfl
theorem ts_104 : (Cond.selects "ProofLibraryModel" ⟨"ProofLibraryModel", "next", "()V"⟩ ⟨"ProofLibraryModel", "next", "()V"⟩) ∈ TB := TB_sel 104 rfl rfl
theorem ts_105 : (Cond.selects "ProofLibraryModel" ⟨"ProofLibraryModel", "nextRow", "()Z"⟩ ⟨"ProofLibraryModel", "nextRow", "()Z"⟩) ∈ TB := TB_sel 105 rfl rfl
theorem ts_160 : (Cond.selects "ProofLibraryModel" ⟨"ProofLibraryModel", "forgetTrees", "(I)V"⟩ ⟨"ProofLibraryModel", "forgetTrees", "(I)V"⟩) ∈ TB := TB_sel 160 rfl rfl
theorem ts_161 : (Cond.selects "ProofLibraryModel" ⟨"ProofLibraryModel", "isStatement", "(I)Z"⟩ ⟨"ProofLibraryModel", "isStatement", "(I)Z"⟩) ∈ TB := TB_sel 161 rfl rfl
theorem ts_162 : (Cond.selects "ProofLibraryModel" ⟨"ProofLibraryModel", "rowFrom", "(I)I"⟩ ⟨"ProofLibraryModel", "rowFrom", "(I)I"⟩) ∈ TB := TB_sel 162 rfl rfl
theorem ts_163 : (Cond.selects "ProofLibraryModel" ⟨"ProofLibraryModel", "useTape", "()V"⟩ ⟨"ProofLibraryModel", "useTape", "()V"⟩) ∈ TB := TB_sel 163 rfl rfl
theorem ts_164 : (Cond.selects "ProofLibraryModel" ⟨"ProofLibraryModel", "isAssertion", "(I)Z"⟩ ⟨"ProofLibraryModel", "isAssertion", "(I)Z"⟩) ∈ TB := TB_sel 164 rfl rfl
theorem ts_166 : (Cond.selects "ProofLibraryModel" ⟨"ProofLibraryModel", "isProved", "(I)Z"⟩ ⟨"ProofLibraryModel", "isProved", "(I)Z"⟩) ∈ TB := TB_sel 166 rfl rfl
theorem ts_168 : (Cond.selects "ProofLibraryModel" ⟨"ProofLibraryModel", "isRow", "(II)Z"⟩ ⟨"ProofLibraryModel", "isRow", "(II)Z"⟩) ∈ TB := TB_sel 168 rfl rfl
theorem ts_205 : (Cond.selects "ProofLibraryModel" ⟨"ProofLibraryModel", "beginTrees", "()V"⟩ ⟨"ProofLibraryModel", "beginTrees", "()V"⟩) ∈ TB := TB_sel 205 rfl rfl
theorem ts_230 : (Cond.selects "ProofLibraryModel" ⟨"ProofLibraryModel", "takeRow", "()I"⟩ ⟨"ProofLibraryModel", "takeRow", "()I"⟩) ∈ TB := TB_sel 230 rfl rfl
theorem co_J7_fill_53178 : Cond.code yJ7_fill_53178 cJ7_fill_53178 4 none ∈ TB := tw_164
theorem co_X0_init : Cond.code yX0_init cX0_init 3 none ∈ TB := tw_228
theorem co_X0_keep : Cond.code yX0_keep cX0_keep 1 none ∈ TB := tw_964
theorem co_X10_init : Cond.code yX10_init cX10_init 5 none ∈ TB := tw_412
theorem co_X11_init : Cond.code yX11_init cX11_init 4 none ∈ TB := tw_735
theorem co_X12_apart : Cond.code yX12_apart cX12_apart 4 (some .int) ∈ TB := tw_1477
theorem co_X12_apply : Cond.code yX12_apply cX12_apply 3 (some .int) ∈ TB := tw_1918
theorem co_X12_character : Cond.code yX12_character cX12_character 2 (some .int) ∈ TB := tw_1891
theorem co_X12_check : Cond.code yX12_check cX12_check 2 (some .int) ∈ TB := tw_1957
theorem co_X12_count : Cond.code yX12_count cX12_count 2 (some .int) ∈ TB := tw_1400
theorem co_X12_definition : Cond.code yX12_definition cX12_definition 2 (some .int) ∈ TB := tw_1913
theorem co_X12_end : Cond.code yX12_end cX12_end 2 (some .int) ∈ TB := tw_944
theorem co_X12_equate : Cond.code yX12_equate cX12_equate 2 (some .int) ∈ TB := tw_1903
theorem co_X12_feed : Cond.code yX12_feed cX12_feed 6 (some .int) ∈ TB := tw_936
theorem co_X12_find : Cond.code yX12_find cX12_find 5 (some .int) ∈ TB := tw_1437
theorem co_X12_frame : Cond.code yX12_frame cX12_frame 3 (some .int) ∈ TB := tw_1454
theorem co_X12_from : Cond.code yX12_from cX12_from 5 (some .int) ∈ TB := tw_1503
theorem co_X12_hypothesis : Cond.code yX12_hypothesis cX12_hypothesis 3 (some .int) ∈ TB := tw_1473
theorem co_X12_init : Cond.code yX12_init cX12_init 1 none ∈ TB := tw_25
theorem co_X12_isRow : Cond.code yX12_isRow cX12_isRow 3 (some .boolean) ∈ TB := tw_1499
theorem co_X12_kind : Cond.code yX12_kind cX12_kind 2 (some .int) ∈ TB := tw_1412
theorem co_X12_length : Cond.code yX12_length cX12_length 2 (some .int) ∈ TB := tw_1420
theorem co_X12_place : Cond.code yX12_place cX12_place 1 (some .int) ∈ TB := tw_1396
theorem co_X12_print : Cond.code yX12_print cX12_print 4 (some .int) ∈ TB := tw_1527
theorem co_X12_printSymbol : Cond.code yX12_printSymbol cX12_printSymbol 2 (some .int) ∈ TB := tw_1531
theorem co_X12_putFour : Cond.code yX12_putFour cX12_putFour 3 none ∈ TB := tw_940
theorem co_X12_read : Cond.code yX12_read cX12_read 2 (some .int) ∈ TB := tw_948
theorem co_X12_rests : Cond.code yX12_rests cX12_rests 3 (some .int) ∈ TB := tw_1511
theorem co_X12_row : Cond.code yX12_row cX12_row 3 (some .int) ∈ TB := tw_1495
theorem co_X12_rows : Cond.code yX12_rows cX12_rows 2 (some .int) ∈ TB := tw_1487
theorem co_X12_size : Cond.code yX12_size cX12_size 4 (some .long) ∈ TB := tw_1516
theorem co_X12_skipBlanks : Cond.code yX12_skipBlanks cX12_skipBlanks 4 (some .int) ∈ TB := tw_975
theorem co_X12_symbol : Cond.code yX12_symbol cX12_symbol 3 (some .int) ∈ TB := tw_1425
theorem co_X12_takeRow : Cond.code yX12_takeRow cX12_takeRow 7 (some .int) ∈ TB := tw_1922
theorem co_X12_tokenEnd : Cond.code yX12_tokenEnd cX12_tokenEnd 4 (some .int) ∈ TB := tw_981
theorem co_X12_trees : Cond.code yX12_trees cX12_trees 2 (some .int) ∈ TB := tw_1899
theorem co_X12_useTape : Cond.code yX12_useTape cX12_useTape 1 none ∈ TB := tw_1392
theorem co_X12_variable : Cond.code yX12_variable cX12_variable 2 (some .int) ∈ TB := tw_1429
theorem co_X13_apart : Cond.code yX13_apart cX13_apart 5 (some .int) ∈ TB := tw_2851
theorem co_X13_apply : Cond.code yX13_apply cX13_apply 6 (some .int) ∈ TB := tw_3160
theorem co_X13_beginTrees : Cond.code yX13_beginTrees cX13_beginTrees 1 none ∈ TB := tw_3058
theorem co_X13_character : Cond.code yX13_character cX13_character 2 (some .int) ∈ TB := tw_2899
theorem co_X13_check : Cond.code yX13_check cX13_check 1 (some .int) ∈ TB := tw_3184
theorem co_X13_clearTables : Cond.code yX13_clearTables cX13_clearTables 2 none ∈ TB := tw_2005
theorem co_X13_count : Cond.code yX13_count cX13_count 6 (some .int) ∈ TB := tw_2798
theorem co_X13_definition : Cond.code yX13_definition cX13_definition 2 (some .int) ∈ TB := tw_3018
theorem co_X13_end : Cond.code yX13_end cX13_end 2 (some .int) ∈ TB := tw_2523
theorem co_X13_equate : Cond.code yX13_equate cX13_equate 4 (some .int) ∈ TB := tw_3010
theorem co_X13_feed : Cond.code yX13_feed cX13_feed 8 (some .int) ∈ TB := tw_2519
theorem co_X13_find : Cond.code yX13_find cX13_find 7 (some .int) ∈ TB := tw_2822
theorem co_X13_forgetTrees : Cond.code yX13_forgetTrees cX13_forgetTrees 3 none ∈ TB := tw_2790
theorem co_X13_frame : Cond.code yX13_frame cX13_frame 3 (some .int) ∈ TB := tw_2834
theorem co_X13_from : Cond.code yX13_from cX13_from 4 (some .int) ∈ TB := tw_2876
theorem co_X13_hypothesis : Cond.code yX13_hypothesis cX13_hypothesis 3 (some .int) ∈ TB := tw_2847
theorem co_X13_init : Cond.code yX13_init cX13_init 1 none ∈ TB := tw_1991
theorem co_X13_isAssertion : Cond.code yX13_isAssertion cX13_isAssertion 2 (some .boolean) ∈ TB := tw_2838
theorem co_X13_isIn : Cond.code yX13_isIn cX13_isIn 6 (some .boolean) ∈ TB := tw_2527
theorem co_X13_isProved : Cond.code yX13_isProved cX13_isProved 2 (some .boolean) ∈ TB := tw_2859
theorem co_X13_isRow : Cond.code yX13_isRow cX13_isRow 3 (some .boolean) ∈ TB := tw_2871
theorem co_X13_isStatement : Cond.code yX13_isStatement cX13_isStatement 2 (some .boolean) ∈ TB := tw_2806
theorem co_X13_kind : Cond.code yX13_kind cX13_kind 2 (some .int) ∈ TB := tw_2802
theorem co_X13_length : Cond.code yX13_length cX13_length 2 (some .int) ∈ TB := tw_2810
theorem co_X13_next : Cond.code yX13_next cX13_next 2 none ∈ TB := tw_2539
theorem co_X13_nextRow : Cond.code yX13_nextRow cX13_nextRow 1 (some .boolean) ∈ TB := tw_2543
theorem co_X13_noteAll : Cond.code yX13_noteAll cX13_noteAll 2 none ∈ TB := tw_2535
theorem co_X13_place : Cond.code yX13_place cX13_place 1 (some .int) ∈ TB := tw_2794
theorem co_X13_print : Cond.code yX13_print cX13_print 4 (some .int) ∈ TB := tw_3054
theorem co_X13_read : Cond.code yX13_read cX13_read 7 (some .int) ∈ TB := tw_2531
theorem co_X13_rests : Cond.code yX13_rests cX13_rests 3 (some .int) ∈ TB := tw_2884
theorem co_X13_row : Cond.code yX13_row cX13_row 3 (some .int) ∈ TB := tw_2867
theorem co_X13_rowFrom : Cond.code yX13_rowFrom cX13_rowFrom 2 (some .int) ∈ TB := tw_2826
theorem co_X13_rows : Cond.code yX13_rows cX13_rows 2 (some .int) ∈ TB := tw_2855
theorem co_X13_size : Cond.code yX13_size cX13_size 2 (some .long) ∈ TB := tw_2888
theorem co_X13_symbol : Cond.code yX13_symbol cX13_symbol 3 (some .int) ∈ TB := tw_2814
theorem co_X13_takeRow : Cond.code yX13_takeRow cX13_takeRow 5 (some .int) ∈ TB := tw_3164
theorem co_X13_trees : Cond.code yX13_trees cX13_trees 2 (some .int) ∈ TB := tw_2903
theorem co_X13_useTape : Cond.code yX13_useTape cX13_useTape 1 none ∈ TB := tw_2830
theorem co_X13_variable : Cond.code yX13_variable cX13_variable 2 (some .int) ∈ TB := tw_2818
theorem co_X1_init : Cond.code yX1_init cX1_init 3 none ∈ TB := tw_667
theorem co_X2_init : Cond.code yX2_init cX2_init 7 none ∈ TB := tw_793
theorem co_X3_bucket : Cond.code yX3_bucket cX3_bucket 5 (some .int) ∈ TB := tw_1109
theorem co_X3_constants : Cond.code yX3_constants cX3_constants 3 (some .int) ∈ TB := tw_1404
theorem co_X3_init : Cond.code yX3_init cX3_init 1 none ∈ TB := tw_34
theorem co_X3_isAssertion : Cond.code yX3_isAssertion cX3_isAssertion 2 (some .boolean) ∈ TB := tw_1458
theorem co_X3_isProved : Cond.code yX3_isProved cX3_isProved 2 (some .boolean) ∈ TB := tw_1491
theorem co_X3_isStatement : Cond.code yX3_isStatement cX3_isStatement 2 (some .boolean) ∈ TB := tw_1416
theorem co_X3_isSymbol : Cond.code yX3_isSymbol cX3_isSymbol 2 (some .boolean) ∈ TB := tw_1433
theorem co_X3_keep : Cond.code yX3_keep cX3_keep 1 none ∈ TB := tw_960
theorem co_X3_nameOf : Cond.code yX3_nameOf cX3_nameOf 6 (some .int) ∈ TB := tw_1106
theorem co_X3_ofKind : Cond.code yX3_ofKind cX3_ofKind 4 (some .int) ∈ TB := tw_1408
theorem co_X3_symbolNamed : Cond.code yX3_symbolNamed cX3_symbolNamed 4 (some .int) ∈ TB := tw_1449
theorem co_X3_symbolOf : Cond.code yX3_symbolOf cX3_symbolOf 2 (some .int) ∈ TB := tw_1117
theorem co_X4_init : Cond.code yX4_init cX4_init 3 none ∈ TB := tw_529
theorem co_X5_init : Cond.code yX5_init cX5_init 2 none ∈ TB := tw_863
theorem co_X5_shown : Cond.code yX5_shown cX5_shown 2 (some .int) ∈ TB := tw_1895
theorem co_X6_init : Cond.code yX6_init cX6_init 4 none ∈ TB := tw_341
theorem co_X7_begin : Cond.code yX7_begin cX7_begin 2 none ∈ TB := tw_956
theorem co_X7_faultAtEnd : Cond.code yX7_faultAtEnd cX7_faultAtEnd 1 (some .int) ∈ TB := tw_1376
theorem co_X7_init : Cond.code yX7_init cX7_init 5 none ∈ TB := tw_482
theorem co_X7_readText : Cond.code yX7_readText cX7_readText 7 (some .int) ∈ TB := tw_952
theorem co_X8_constantNamed : Cond.code yX8_constantNamed cX8_constantNamed 3 (some .int) ∈ TB := tw_1680
theorem co_X8_init : Cond.code yX8_init cX8_init 3 none ∈ TB := tw_597
theorem co_X8_learn : Cond.code yX8_learn cX8_learn 2 none ∈ TB := tw_1674
theorem co_X9_init : Cond.code yX9_init cX9_init 2 none ∈ TB := tw_160
theorem co_X9_keep : Cond.code yX9_keep cX9_keep 1 none ∈ TB := tw_968
theorem co_X9_mark : Cond.code yX9_mark cX9_mark 1 none ∈ TB := tw_972
set_option maxRecDepth 20000 in
theorem inX0 : ∀ w ∈ u_ws RX0 TX0 20, w ∈ TB := ((List.forall_mem_cons.mpr ⟨tw_296, (List.forall_mem_cons.mpr ⟨tw_298, (List.forall_mem_cons.mpr ⟨tw_300, (List.forall_mem_cons.mpr ⟨tw_302, (List.forall_mem_cons.mpr ⟨tw_304, (List.forall_mem_cons.mpr ⟨tw_306, (List.forall_mem_cons.mpr ⟨tw_308, (List.forall_mem_cons.mpr ⟨tw_310, (List.forall_mem_cons.mpr ⟨tw_312, (List.forall_mem_cons.mpr ⟨tw_314, (List.forall_mem_cons.mpr ⟨tw_316, (List.forall_mem_cons.mpr ⟨tw_318, (List.forall_mem_cons.mpr ⟨tw_320, (List.forall_mem_cons.mpr ⟨tw_322, (List.forall_mem_cons.mpr ⟨tw_324, (List.forall_mem_cons.mpr ⟨tw_326, (List.forall_mem_cons.mpr ⟨tw_328, (List.forall_mem_cons.mpr ⟨tw_330, (List.forall_mem_cons.mpr ⟨tw_332, (List.forall_mem_cons.mpr ⟨tw_334, (fun _ h => absurd h List.not_mem_nil)⟩)⟩)⟩)⟩)⟩)⟩)⟩)⟩)⟩)⟩)⟩)⟩)⟩)⟩)⟩)⟩)⟩)⟩)⟩)⟩) : ∀ w ∈ [Cond.laysFinal "ProofLibrary$Assertions" "ProofLibrary$Assertions" "library" "LProofLibrary$Library;", Cond.laysFinal "ProofLibrary$Assertions" "ProofLibrary$Assertions" "scopes" "LProofLibrary$Scopes;", Cond.laysFinal "ProofLibrary$Assertions" "ProofLibrary$Assertions" "frameAt" "[I", Cond.laysFinal "ProofLibrary$Assertions" "ProofLibrary$Assertions" "frameSize" "[I", Cond.laysFinal "ProofLibrary$Assertions" "ProofLibrary$Assertions" "hypotheses" "[I", Cond.lays "ProofLibrary$Assertions" "ProofLibrary$Assertions" "hypothesesUsed" "I", Cond.laysFinal "ProofLibrary$Assertions" "ProofLibrary$Assertions" "pairAt" "[I", Cond.laysFinal "ProofLibrary$Assertions" "ProofLibrary$Assertions" "pairSize" "[I", Cond.laysFinal "ProofLibrary$Assertions" "ProofLibrary$Assertions" "pair" "[I", Cond.lays "ProofLibrary$Assertions" "ProofLibrary$Assertions" "pairs" "I", Cond.laysFinal "ProofLibrary$Assertions" "ProofLibrary$Assertions" "rowAt" "[I", Cond.laysFinal "ProofLibrary$Assertions" "ProofLibrary$Assertions" "rowCount" "[I", Cond.laysFinal "ProofLibrary$Assertions" "ProofLibrary$Assertions" "rowStatement" "[I", Cond.laysFinal "ProofLibrary$Assertions" "ProofLibrary$Assertions" "childAt" "[I", Cond.laysFinal "ProofLibrary$Assertions" "ProofLibrary$Assertions" "children" "[I", Cond.lays "ProofLibrary$Assertions" "ProofLibrary$Assertions" "rowsUsed" "I", Cond.lays "ProofLibrary$Assertions" "ProofLibrary$Assertions" "steps" "I", Cond.laysFinal "ProofLibrary$Assertions" "ProofLibrary$Assertions" "rowLabels" "[J", Cond.laysFinal "ProofLibrary$Assertions" "ProofLibrary$Assertions" "rests" "[J", Cond.laysFinal "ProofLibrary$Assertions" "ProofLibrary$Assertions" "kept" "[I"], w ∈ TB)
theorem xdfX0 : ∀ j, j < 20 → defaultValue (tyX0 j) = vp_V [.null, .null, .null, .null, .null, .int 0, .null, .null, .null, .int 0, .null, .null, .null, .null, .null, .int 0, .int 0, .null, .null, .null] j := fun j hj => by
  rcases (show j = 0 ∨ j = 1 ∨ j = 2 ∨ j = 3 ∨ j = 4 ∨ j = 5 ∨ j = 6 ∨ j = 7 ∨ j = 8 ∨ j = 9 ∨ j = 10 ∨ j = 11 ∨ j = 12 ∨ j = 13 ∨ j = 14 ∨ j = 15 ∨ j = 16 ∨ j = 17 ∨ j = 18 ∨ j = 19 by omega) with rfl | rfl | rfl | rfl | rfl | rfl | rfl | rfl | rfl | rfl | rfl | rfl | rfl | rfl | rfl | rfl | rfl | rfl | rfl | rfl <;> rfl
set_option maxRecDepth 20000 in
theorem inX1 : ∀ w ∈ u_ws RX1 TX1 18, w ∈ TB := ((List.forall_mem_cons.mpr ⟨tw_694, (List.forall_mem_cons.mpr ⟨tw_696, (List.forall_mem_cons.mpr ⟨tw_698, (List.forall_mem_cons.mpr ⟨tw_700, (List.forall_mem_cons.mpr ⟨tw_702, (List.forall_mem_cons.mpr ⟨tw_704, (List.forall_mem_cons.mpr ⟨tw_706, (List.forall_mem_cons.mpr ⟨tw_708, (List.forall_mem_cons.mpr ⟨tw_710, (List.forall_mem_cons.mpr ⟨tw_712, (List.forall_mem_cons.mpr ⟨tw_714, (List.forall_mem_cons.mpr ⟨tw_716, (List.forall_mem_cons.mpr ⟨tw_718, (List.forall_mem_cons.mpr ⟨tw_720, (List.forall_mem_cons.mpr ⟨tw_722, (List.forall_mem_cons.mpr ⟨tw_724, (List.forall_mem_cons.mpr ⟨tw_726, (List.forall_mem_cons.mpr ⟨tw_728, (fun _ h => absurd h List.not_mem_nil)⟩)⟩)⟩)⟩)⟩)⟩)⟩)⟩)⟩)⟩)⟩)⟩)⟩)⟩)⟩)⟩)⟩)⟩) : ∀ w ∈ [Cond.laysFinal "ProofLibrary$Chart" "ProofLibrary$Chart" "library" "LProofLibrary$Library;", Cond.laysFinal "ProofLibrary$Chart" "ProofLibrary$Chart" "rules" "LProofLibrary$Rules;", Cond.laysFinal "ProofLibrary$Chart" "ProofLibrary$Chart" "row" "[I", Cond.laysFinal "ProofLibrary$Chart" "ProofLibrary$Chart" "leaf" "[I", Cond.lays "ProofLibrary$Chart" "ProofLibrary$Chart" "length" "I", Cond.lays "ProofLibrary$Chart" "ProofLibrary$Chart" "limit" "I", Cond.lays "ProofLibrary$Chart" "ProofLibrary$Chart" "goal" "I", Cond.laysFinal "ProofLibrary$Chart" "ProofLibrary$Chart" "where" "[J", Cond.laysFinal "ProofLibrary$Chart" "ProofLibrary$Chart" "has" "[J", Cond.laysFinal "ProofLibrary$Chart" "ProofLibrary$Chart" "several" "[J", Cond.laysFinal "ProofLibrary$Chart" "ProofLibrary$Chart" "madeBy" "[I", Cond.lays "ProofLibrary$Chart" "ProofLibrary$Chart" "start" "I", Cond.laysFinal "ProofLibrary$Chart" "ProofLibrary$Chart" "stackNode" "[I", Cond.laysFinal "ProofLibrary$Chart" "ProofLibrary$Chart" "stackHas" "[J", Cond.laysFinal "ProofLibrary$Chart" "ProofLibrary$Chart" "stackSeveral" "[J", Cond.laysFinal "ProofLibrary$Chart" "ProofLibrary$Chart" "base" "[I", Cond.laysFinal "ProofLibrary$Chart" "ProofLibrary$Chart" "total" "[I", Cond.laysFinal "ProofLibrary$Chart" "ProofLibrary$Chart" "next" "[I"], w ∈ TB)
theorem xdfX1 : ∀ j, j < 18 → defaultValue (tyX1 j) = vp_V [.null, .null, .null, .null, .int 0, .int 0, .int 0, .null, .null, .null, .null, .int 0, .null, .null, .null, .null, .null, .null] j := fun j hj => by
  rcases (show j = 0 ∨ j = 1 ∨ j = 2 ∨ j = 3 ∨ j = 4 ∨ j = 5 ∨ j = 6 ∨ j = 7 ∨ j = 8 ∨ j = 9 ∨ j = 10 ∨ j = 11 ∨ j = 12 ∨ j = 13 ∨ j = 14 ∨ j = 15 ∨ j = 16 ∨ j = 17 by omega) with rfl | rfl | rfl | rfl | rfl | rfl | rfl | rfl | rfl | rfl | rfl | rfl | rfl | rfl | rfl | rfl | rfl | rfl <;> rfl
set_option maxRecDepth 20000 in
theorem inX10 : ∀ w ∈ u_ws RX10 TX10 21, w ∈ TB := ((List.forall_mem_cons.mpr ⟨tw_437, (List.forall_mem_cons.mpr ⟨tw_439, (List.forall_mem_cons.mpr ⟨tw_441, (List.forall_mem_cons.mpr ⟨tw_443, (List.forall_mem_cons.mpr ⟨tw_445, (List.forall_mem_cons.mpr ⟨tw_447, (List.forall_mem_cons.mpr ⟨tw_449, (List.forall_mem_cons.mpr ⟨tw_451, (List.forall_mem_cons.mpr ⟨tw_453, (List.forall_mem_cons.mpr ⟨tw_455, (List.forall_mem_cons.mpr ⟨tw_457, (List.forall_mem_cons.mpr ⟨tw_459, (List.forall_mem_cons.mpr ⟨tw_461, (List.forall_mem_cons.mpr ⟨tw_463, (List.forall_mem_cons.mpr ⟨tw_465, (List.forall_mem_cons.mpr ⟨tw_467, (List.forall_mem_cons.mpr ⟨tw_469, (List.forall_mem_cons.mpr ⟨tw_471, (List.forall_mem_cons.mpr ⟨tw_473, (List.forall_mem_cons.mpr ⟨tw_475, (List.forall_mem_cons.mpr ⟨tw_477, (fun _ h => absurd h List.not_mem_nil)⟩)⟩)⟩)⟩)⟩)⟩)⟩)⟩)⟩)⟩)⟩)⟩)⟩)⟩)⟩)⟩)⟩)⟩)⟩)⟩)⟩) : ∀ w ∈ [Cond.laysFinal "ProofLibrary$Steps" "ProofLibrary$Steps" "library" "LProofLibrary$Library;", Cond.laysFinal "ProofLibrary$Steps" "ProofLibrary$Steps" "assertions" "LProofLibrary$Assertions;", Cond.laysFinal "ProofLibrary$Steps" "ProofLibrary$Steps" "scopes" "LProofLibrary$Scopes;", Cond.laysFinal "ProofLibrary$Steps" "ProofLibrary$Steps" "pile" "LProofLibrary$Pile;", Cond.laysFinal "ProofLibrary$Steps" "ProofLibrary$Steps" "steps" "[I", Cond.laysFinal "ProofLibrary$Steps" "ProofLibrary$Steps" "places" "[I", Cond.lays "ProofLibrary$Steps" "ProofLibrary$Steps" "count" "I", Cond.laysFinal "ProofLibrary$Steps" "ProofLibrary$Steps" "listed" "[I", Cond.lays "ProofLibrary$Steps" "ProofLibrary$Steps" "listedCount" "I", Cond.lays "ProofLibrary$Steps" "ProofLibrary$Steps" "savedCount" "I", Cond.lays "ProofLibrary$Steps" "ProofLibrary$Steps" "theorem" "I", Cond.lays "ProofLibrary$Steps" "ProofLibrary$Steps" "form" "I", Cond.lays "ProofLibrary$Steps" "ProofLibrary$Steps" "number" "I", Cond.lays "ProofLibrary$Steps" "ProofLibrary$Steps" "afterAssertion" "Z", Cond.lays "ProofLibrary$Steps" "ProofLibrary$Steps" "open" "Z", Cond.lays "ProofLibrary$Steps" "ProofLibrary$Steps" "place" "I", Cond.laysFinal "ProofLibrary$Steps" "ProofLibrary$Steps" "pileRow" "[I", Cond.lays "ProofLibrary$Steps" "ProofLibrary$Steps" "pileRows" "I", Cond.laysFinal "ProofLibrary$Steps" "ProofLibrary$Steps" "savedRow" "[I", Cond.lays "ProofLibrary$Steps" "ProofLibrary$Steps" "symbols" "I", Cond.lays "ProofLibrary$Steps" "ProofLibrary$Steps" "rows" "I"], w ∈ TB)
theorem xdfX10 : ∀ j, j < 21 → defaultValue (tyX10 j) = vp_V [.null, .null, .null, .null, .null, .null, .int 0, .null, .int 0, .int 0, .int 0, .int 0, .int 0, .int 0, .int 0, .int 0, .null, .int 0, .null, .int 0, .int 0] j := fun j hj => by
  rcases (show j = 0 ∨ j = 1 ∨ j = 2 ∨ j = 3 ∨ j = 4 ∨ j = 5 ∨ j = 6 ∨ j = 7 ∨ j = 8 ∨ j = 9 ∨ j = 10 ∨ j = 11 ∨ j = 12 ∨ j = 13 ∨ j = 14 ∨ j = 15 ∨ j = 16 ∨ j = 17 ∨ j = 18 ∨ j = 19 ∨ j = 20 by omega) with rfl | rfl | rfl | rfl | rfl | rfl | rfl | rfl | rfl | rfl | rfl | rfl | rfl | rfl | rfl | rfl | rfl | rfl | rfl | rfl | rfl <;> rfl
set_option maxRecDepth 20000 in
theorem inX11 : ∀ w ∈ u_ws RX11 TX11 15, w ∈ TB := ((List.forall_mem_cons.mpr ⟨tw_758, (List.forall_mem_cons.mpr ⟨tw_760, (List.forall_mem_cons.mpr ⟨tw_762, (List.forall_mem_cons.mpr ⟨tw_764, (List.forall_mem_cons.mpr ⟨tw_766, (List.forall_mem_cons.mpr ⟨tw_768, (List.forall_mem_cons.mpr ⟨tw_770, (List.forall_mem_cons.mpr ⟨tw_772, (List.forall_mem_cons.mpr ⟨tw_774, (List.forall_mem_cons.mpr ⟨tw_776, (List.forall_mem_cons.mpr ⟨tw_778, (List.forall_mem_cons.mpr ⟨tw_780, (List.forall_mem_cons.mpr ⟨tw_782, (List.forall_mem_cons.mpr ⟨tw_784, (List.forall_mem_cons.mpr ⟨tw_786, (fun _ h => absurd h List.not_mem_nil)⟩)⟩)⟩)⟩)⟩)⟩)⟩)⟩)⟩)⟩)⟩)⟩)⟩)⟩)⟩) : ∀ w ∈ [Cond.laysFinal "ProofLibrary$Tree" "ProofLibrary$Tree" "library" "LProofLibrary$Library;", Cond.laysFinal "ProofLibrary$Tree" "ProofLibrary$Tree" "assertions" "LProofLibrary$Assertions;", Cond.laysFinal "ProofLibrary$Tree" "ProofLibrary$Tree" "chart" "LProofLibrary$Chart;", Cond.laysFinal "ProofLibrary$Tree" "ProofLibrary$Tree" "rule" "[I", Cond.laysFinal "ProofLibrary$Tree" "ProofLibrary$Tree" "from" "[I", Cond.laysFinal "ProofLibrary$Tree" "ProofLibrary$Tree" "to" "[I", Cond.lays "ProofLibrary$Tree" "ProofLibrary$Tree" "size" "I", Cond.laysFinal "ProofLibrary$Tree" "ProofLibrary$Tree" "pattern" "[I", Cond.lays "ProofLibrary$Tree" "ProofLibrary$Tree" "patternSize" "I", Cond.laysFinal "ProofLibrary$Tree" "ProofLibrary$Tree" "cells" "[I", Cond.laysFinal "ProofLibrary$Tree" "ProofLibrary$Tree" "fits" "[J", Cond.laysFinal "ProofLibrary$Tree" "ProofLibrary$Tree" "spanFrom" "[I", Cond.laysFinal "ProofLibrary$Tree" "ProofLibrary$Tree" "spanTo" "[I", Cond.laysFinal "ProofLibrary$Tree" "ProofLibrary$Tree" "bound" "[I", Cond.lays "ProofLibrary$Tree" "ProofLibrary$Tree" "turn" "I"], w ∈ TB)
theorem xdfX11 : ∀ j, j < 15 → defaultValue (tyX11 j) = vp_V [.null, .null, .null, .null, .null, .null, .int 0, .null, .int 0, .null, .null, .null, .null, .null, .int 0] j := fun j hj => by
  rcases (show j = 0 ∨ j = 1 ∨ j = 2 ∨ j = 3 ∨ j = 4 ∨ j = 5 ∨ j = 6 ∨ j = 7 ∨ j = 8 ∨ j = 9 ∨ j = 10 ∨ j = 11 ∨ j = 12 ∨ j = 13 ∨ j = 14 by omega) with rfl | rfl | rfl | rfl | rfl | rfl | rfl | rfl | rfl | rfl | rfl | rfl | rfl | rfl | rfl <;> rfl
set_option maxRecDepth 20000 in
theorem inX12 : ∀ w ∈ u_ws RX12 TX12 16, w ∈ TB := ((List.forall_mem_cons.mpr ⟨tw_900, (List.forall_mem_cons.mpr ⟨tw_902, (List.forall_mem_cons.mpr ⟨tw_904, (List.forall_mem_cons.mpr ⟨tw_906, (List.forall_mem_cons.mpr ⟨tw_908, (List.forall_mem_cons.mpr ⟨tw_910, (List.forall_mem_cons.mpr ⟨tw_912, (List.forall_mem_cons.mpr ⟨tw_914, (List.forall_mem_cons.mpr ⟨tw_916, (List.forall_mem_cons.mpr ⟨tw_918, (List.forall_mem_cons.mpr ⟨tw_920, (List.forall_mem_cons.mpr ⟨tw_922, (List.forall_mem_cons.mpr ⟨tw_924, (List.forall_mem_cons.mpr ⟨tw_926, (List.forall_mem_cons.mpr ⟨tw_928, (List.forall_mem_cons.mpr ⟨tw_930, (fun _ h => absurd h List.not_mem_nil)⟩)⟩)⟩)⟩)⟩)⟩)⟩)⟩)⟩)⟩)⟩)⟩)⟩)⟩)⟩)⟩) : ∀ w ∈ [Cond.laysFinal "ProofLibrary" "ProofLibrary" "tape" "[C", Cond.lays "ProofLibrary" "ProofLibrary" "tapeLength" "I", Cond.lays "ProofLibrary" "ProofLibrary" "canEnd" "Z", Cond.lays "ProofLibrary" "ProofLibrary" "faultPlace" "I", Cond.laysFinal "ProofLibrary" "ProofLibrary" "asked" "[I", Cond.laysFinal "ProofLibrary" "ProofLibrary" "library" "LProofLibrary$Library;", Cond.laysFinal "ProofLibrary" "ProofLibrary" "scopes" "LProofLibrary$Scopes;", Cond.laysFinal "ProofLibrary" "ProofLibrary" "assertions" "LProofLibrary$Assertions;", Cond.laysFinal "ProofLibrary" "ProofLibrary" "pile" "LProofLibrary$Pile;", Cond.laysFinal "ProofLibrary" "ProofLibrary" "reader" "LProofLibrary$Reader;", Cond.laysFinal "ProofLibrary" "ProofLibrary" "packer" "LProofLibrary$Packer;", Cond.laysFinal "ProofLibrary" "ProofLibrary" "rules" "LProofLibrary$Rules;", Cond.laysFinal "ProofLibrary" "ProofLibrary" "chart" "LProofLibrary$Chart;", Cond.laysFinal "ProofLibrary" "ProofLibrary" "tree" "LProofLibrary$Tree;", Cond.laysFinal "ProofLibrary" "ProofLibrary" "definitions" "LProofLibrary$Definitions;", Cond.laysFinal "ProofLibrary" "ProofLibrary" "paper" "LProofLibrary$Paper;"], w ∈ TB)
theorem xdfX12 : ∀ j, j < 16 → defaultValue (tyX12 j) = vp_V [.null, .int 0, .int 0, .int 0, .null, .null, .null, .null, .null, .null, .null, .null, .null, .null, .null, .null] j := fun j hj => by
  rcases (show j = 0 ∨ j = 1 ∨ j = 2 ∨ j = 3 ∨ j = 4 ∨ j = 5 ∨ j = 6 ∨ j = 7 ∨ j = 8 ∨ j = 9 ∨ j = 10 ∨ j = 11 ∨ j = 12 ∨ j = 13 ∨ j = 14 ∨ j = 15 by omega) with rfl | rfl | rfl | rfl | rfl | rfl | rfl | rfl | rfl | rfl | rfl | rfl | rfl | rfl | rfl | rfl <;> rfl
set_option maxRecDepth 20000 in
theorem inX13 : ∀ w ∈ u_ws RX13 TX13 170, w ∈ TB := ((List.forall_mem_cons.mpr ⟨tw_2175, (List.forall_mem_cons.mpr ⟨tw_2177, (List.forall_mem_cons.mpr ⟨tw_2179, (List.forall_mem_cons.mpr ⟨tw_2181, (List.forall_mem_cons.mpr ⟨tw_2183, (List.forall_mem_cons.mpr ⟨tw_2185, (List.forall_mem_cons.mpr ⟨tw_2187, (List.forall_mem_cons.mpr ⟨tw_2189, (List.forall_mem_cons.mpr ⟨tw_2191, (List.forall_mem_cons.mpr ⟨tw_2193, (List.forall_mem_cons.mpr ⟨tw_2195, (List.forall_mem_cons.mpr ⟨tw_2197, (List.forall_mem_cons.mpr ⟨tw_2199, (List.forall_mem_cons.mpr ⟨tw_2201, (List.forall_mem_cons.mpr ⟨tw_2203, (List.forall_mem_cons.mpr ⟨tw_2205, (List.forall_mem_cons.mpr ⟨tw_2207, (List.forall_mem_cons.mpr ⟨tw_2209, (List.forall_mem_cons.mpr ⟨tw_2211, (List.forall_mem_cons.mpr ⟨tw_2213, (List.forall_mem_cons.mpr ⟨tw_2215, (List.forall_mem_cons.mpr ⟨tw_2217, (List.forall_mem_cons.mpr ⟨tw_2219, (List.forall_mem_cons.mpr ⟨tw_2221, (List.forall_mem_cons.mpr ⟨tw_2223, (List.forall_mem_cons.mpr ⟨tw_2225, (List.forall_mem_cons.mpr ⟨tw_2227, (List.forall_mem_cons.mpr ⟨tw_2229, (List.forall_mem_cons.mpr ⟨tw_2231, (List.forall_mem_cons.mpr ⟨tw_2233, (List.forall_mem_cons.mpr ⟨tw_2235, (List.forall_mem_cons.mpr ⟨tw_2237, (List.forall_mem_cons.mpr ⟨tw_2239, (List.forall_mem_cons.mpr ⟨tw_2241, (List.forall_mem_cons.mpr ⟨tw_2243, (List.forall_mem_cons.mpr ⟨tw_2245, (List.forall_mem_cons.mpr ⟨tw_2247, (List.forall_mem_cons.mpr ⟨tw_2249, (List.forall_mem_cons.mpr ⟨tw_2251, (List.forall_mem_cons.mpr ⟨tw_2253, (List.forall_mem_cons.mpr ⟨tw_2255, (List.forall_mem_cons.mpr ⟨tw_2257, (List.forall_mem_cons.mpr ⟨tw_2259, (List.forall_mem_cons.mpr ⟨tw_2261, (List.forall_mem_cons.mpr ⟨tw_2263, (List.forall_mem_cons.mpr ⟨tw_2265, (List.forall_mem_cons.mpr ⟨tw_2267, (List.forall_mem_cons.mpr ⟨tw_2269, (List.forall_mem_cons.mpr ⟨tw_2271, (List.forall_mem_cons.mpr ⟨tw_2273, (List.forall_mem_cons.mpr ⟨tw_2275, (List.forall_mem_cons.mpr ⟨tw_2277, (List.forall_mem_cons.mpr ⟨tw_2279, (List.forall_mem_cons.mpr ⟨tw_2281, (List.forall_mem_cons.mpr ⟨tw_2283, (List.forall_mem_cons.mpr ⟨tw_2285, (List.forall_mem_cons.mpr ⟨tw_2287, (List.forall_mem_cons.mpr ⟨tw_2289, (List.forall_mem_cons.mpr ⟨tw_2291, (List.forall_mem_cons.mpr ⟨tw_2293, (List.forall_mem_cons.mpr ⟨tw_2295, (List.forall_mem_cons.mpr ⟨tw_2297, (List.forall_mem_cons.mpr ⟨tw_2299, (List.forall_mem_cons.mpr ⟨tw_2301, (List.forall_mem_cons.mpr ⟨tw_2303, (List.forall_mem_cons.mpr ⟨tw_2305, (List.forall_mem_cons.mpr ⟨tw_2307, (List.forall_mem_cons.mpr ⟨tw_2309, (List.forall_mem_cons.mpr ⟨tw_2311, (List.forall_mem_cons.mpr ⟨tw_2313, (List.forall_mem_cons.mpr ⟨tw_2315, (List.forall_mem_cons.mpr ⟨tw_2317, (List.forall_mem_cons.mpr ⟨tw_2319, (List.forall_mem_cons.mpr ⟨tw_2321, (List.forall_mem_cons.mpr ⟨tw_2323, (List.forall_mem_cons.mpr ⟨tw_2325, (List.forall_mem_cons.mpr ⟨tw_2327, (List.forall_mem_cons.mpr ⟨tw_2329, (List.forall_mem_cons.mpr ⟨tw_2331, (List.forall_mem_cons.mpr ⟨tw_2333, (List.forall_mem_cons.mpr ⟨tw_2335, (List.forall_mem_cons.mpr ⟨tw_2337, (List.forall_mem_cons.mpr ⟨tw_2339, (List.forall_mem_cons.mpr ⟨tw_2341, (List.forall_mem_cons.mpr ⟨tw_2343, (List.forall_mem_cons.mpr ⟨tw_2345, (List.forall_mem_cons.mpr ⟨tw_2347, (List.forall_mem_cons.mpr ⟨tw_2349, (List.forall_mem_cons.mpr ⟨tw_2351, (List.forall_mem_cons.mpr ⟨tw_2353, (List.forall_mem_cons.mpr ⟨tw_2355, (List.forall_mem_cons.mpr ⟨tw_2357, (List.forall_mem_cons.mpr ⟨tw_2359, (List.forall_mem_cons.mpr ⟨tw_2361, (List.forall_mem_cons.mpr ⟨tw_2363, (List.forall_mem_cons.mpr ⟨tw_2365, (List.forall_mem_cons.mpr ⟨tw_2367, (List.forall_mem_cons.mpr ⟨tw_2369, (List.forall_mem_cons.mpr ⟨tw_2371, (List.forall_mem_cons.mpr ⟨tw_2373, (List.forall_mem_cons.mpr ⟨tw_2375, (List.forall_mem_cons.mpr ⟨tw_2377, (List.forall_mem_cons.mpr ⟨tw_2379, (List.forall_mem_cons.mpr ⟨tw_2381, (List.forall_mem_cons.mpr ⟨tw_2383, (List.forall_mem_cons.mpr ⟨tw_2385, (List.forall_mem_cons.mpr ⟨tw_2387, (List.forall_mem_cons.mpr ⟨tw_2389, (List.forall_mem_cons.mpr ⟨tw_2391, (List.forall_mem_cons.mpr ⟨tw_2393, (List.forall_mem_cons.mpr ⟨tw_2395, (List.forall_mem_cons.mpr ⟨tw_2397, (List.forall_mem_cons.mpr ⟨tw_2399, (List.forall_mem_cons.mpr ⟨tw_2401, (List.forall_mem_cons.mpr ⟨tw_2403, (List.forall_mem_cons.mpr ⟨tw_2405, (List.forall_mem_cons.mpr ⟨tw_2407, (List.forall_mem_cons.mpr ⟨tw_2409, (List.forall_mem_cons.mpr ⟨tw_2411, (List.forall_mem_cons.mpr ⟨tw_2413, (List.forall_mem_cons.mpr ⟨tw_2415, (List.forall_mem_cons.mpr ⟨tw_2417, (List.forall_mem_cons.mpr ⟨tw_2419, (List.forall_mem_cons.mpr ⟨tw_2421, (List.forall_mem_cons.mpr ⟨tw_2423, (List.forall_mem_cons.mpr ⟨tw_2425, (List.forall_mem_cons.mpr ⟨tw_2427, (List.forall_mem_cons.mpr ⟨tw_2429, (List.forall_mem_cons.mpr ⟨tw_2431, (List.forall_mem_cons.mpr ⟨tw_2433, (List.forall_mem_cons.mpr ⟨tw_2435, (List.forall_mem_cons.mpr ⟨tw_2437, (List.forall_mem_cons.mpr ⟨tw_2439, (List.forall_mem_cons.mpr ⟨tw_2441, (List.forall_mem_cons.mpr ⟨tw_2443, (List.forall_mem_cons.mpr ⟨tw_2445, (List.forall_mem_cons.mpr ⟨tw_2447, (List.forall_mem_cons.mpr ⟨tw_2449, (List.forall_mem_cons.mpr ⟨tw_2451, (List.forall_mem_cons.mpr ⟨tw_2453, (List.forall_mem_cons.mpr ⟨tw_2455, (List.forall_mem_cons.mpr ⟨tw_2457, (List.forall_mem_cons.mpr ⟨tw_2459, (List.forall_mem_cons.mpr ⟨tw_2461, (List.forall_mem_cons.mpr ⟨tw_2463, (List.forall_mem_cons.mpr ⟨tw_2465, (List.forall_mem_cons.mpr ⟨tw_2467, (List.forall_mem_cons.mpr ⟨tw_2469, (List.forall_mem_cons.mpr ⟨tw_2471, (List.forall_mem_cons.mpr ⟨tw_2473, (List.forall_mem_cons.mpr ⟨tw_2475, (List.forall_mem_cons.mpr ⟨tw_2477, (List.forall_mem_cons.mpr ⟨tw_2479, (List.forall_mem_cons.mpr ⟨tw_2481, (List.forall_mem_cons.mpr ⟨tw_2483, (List.forall_mem_cons.mpr ⟨tw_2485, (List.forall_mem_cons.mpr ⟨tw_2487, (List.forall_mem_cons.mpr ⟨tw_2489, (List.forall_mem_cons.mpr ⟨tw_2491, (List.forall_mem_cons.mpr ⟨tw_2493, (List.forall_mem_cons.mpr ⟨tw_2495, (List.forall_mem_cons.mpr ⟨tw_2497, (List.forall_mem_cons.mpr ⟨tw_2499, (List.forall_mem_cons.mpr ⟨tw_2501, (List.forall_mem_cons.mpr ⟨tw_2503, (List.forall_mem_cons.mpr ⟨tw_2505, (List.forall_mem_cons.mpr ⟨tw_2507, (List.forall_mem_cons.mpr ⟨tw_2509, (List.forall_mem_cons.mpr ⟨tw_2511, (List.forall_mem_cons.mpr ⟨tw_2513, (fun _ h => absurd h List.not_mem_nil)⟩)⟩)⟩)⟩)⟩)⟩)⟩)⟩)⟩)⟩)⟩)⟩)⟩)⟩)⟩)⟩)⟩)⟩)⟩)⟩)⟩)⟩)⟩)⟩)⟩)⟩)⟩)⟩)⟩)⟩)⟩)⟩)⟩)⟩)⟩)⟩)⟩)⟩)⟩)⟩)⟩)⟩)⟩)⟩)⟩)⟩)⟩)⟩)⟩)⟩)⟩)⟩)⟩)⟩)⟩)⟩)⟩)⟩)⟩)⟩)⟩)⟩)⟩)⟩)⟩)⟩)⟩)⟩)⟩)⟩)⟩)⟩)⟩)⟩)⟩)⟩)⟩)⟩)⟩)⟩)⟩)⟩)⟩)⟩)⟩)⟩)⟩)⟩)⟩)⟩)⟩)⟩)⟩)⟩)⟩)⟩)⟩)⟩)⟩)⟩)⟩)⟩)⟩)⟩)⟩)⟩)⟩)⟩)⟩)⟩)⟩)⟩)⟩)⟩)⟩)⟩)⟩)⟩)⟩)⟩)⟩)⟩)⟩)⟩)⟩)⟩)⟩)⟩)⟩)⟩)⟩)⟩)⟩)⟩)⟩)⟩)⟩)⟩)⟩)⟩)⟩)⟩)⟩)⟩)⟩)⟩)⟩)⟩)⟩)⟩)⟩)⟩)⟩)⟩)⟩)⟩)⟩)⟩)⟩)⟩)⟩)⟩)⟩)⟩)⟩)⟩)⟩)⟩)⟩)⟩) : ∀ w ∈ [Cond.laysFinal "ProofLibraryModel" "ProofLibraryModel" "tape" "[I", Cond.lays "ProofLibraryModel" "ProofLibraryModel" "tapeSize" "I", Cond.lays "ProofLibraryModel" "ProofLibraryModel" "isFed" "Z", Cond.laysFinal "ProofLibraryModel" "ProofLibraryModel" "chars" "[I", Cond.lays "ProofLibraryModel" "ProofLibraryModel" "charCount" "I", Cond.laysFinal "ProofLibraryModel" "ProofLibraryModel" "symbolAt" "[I", Cond.laysFinal "ProofLibraryModel" "ProofLibraryModel" "symbolSize" "[I", Cond.lays "ProofLibraryModel" "ProofLibraryModel" "symbols" "I", Cond.laysFinal "ProofLibraryModel" "ProofLibraryModel" "labelAt" "[I", Cond.laysFinal "ProofLibraryModel" "ProofLibraryModel" "labelSize" "[I", Cond.laysFinal "ProofLibraryModel" "ProofLibraryModel" "symbolTable" "[I", Cond.laysFinal "ProofLibraryModel" "ProofLibraryModel" "labelTable" "[I", Cond.laysFinal "ProofLibraryModel" "ProofLibraryModel" "isVariable" "[Z", Cond.laysFinal "ProofLibraryModel" "ProofLibraryModel" "isActive" "[Z", Cond.laysFinal "ProofLibraryModel" "ProofLibraryModel" "typeOf" "[I", Cond.laysFinal "ProofLibraryModel" "ProofLibraryModel" "floatOf" "[I", Cond.laysFinal "ProofLibraryModel" "ProofLibraryModel" "begins" "[Z", Cond.lays "ProofLibraryModel" "ProofLibraryModel" "beginnings" "I", Cond.lays "ProofLibraryModel" "ProofLibraryModel" "statements" "I", Cond.laysFinal "ProofLibraryModel" "ProofLibraryModel" "kindOf" "[I", Cond.laysFinal "ProofLibraryModel" "ProofLibraryModel" "textAt" "[I", Cond.laysFinal "ProofLibraryModel" "ProofLibraryModel" "textSize" "[I", Cond.laysFinal "ProofLibraryModel" "ProofLibraryModel" "texts" "[I", Cond.laysFinal "ProofLibraryModel" "ProofLibraryModel" "floats" "[I", Cond.lays "ProofLibraryModel" "ProofLibraryModel" "textCount" "I", Cond.laysFinal "ProofLibraryModel" "ProofLibraryModel" "hypAt" "[I", Cond.laysFinal "ProofLibraryModel" "ProofLibraryModel" "hypSize" "[I", Cond.laysFinal "ProofLibraryModel" "ProofLibraryModel" "hyps" "[I", Cond.lays "ProofLibraryModel" "ProofLibraryModel" "hypCount" "I", Cond.laysFinal "ProofLibraryModel" "ProofLibraryModel" "pairAt" "[I", Cond.laysFinal "ProofLibraryModel" "ProofLibraryModel" "pairSize" "[I", Cond.laysFinal "ProofLibraryModel" "ProofLibraryModel" "pairA" "[I", Cond.laysFinal "ProofLibraryModel" "ProofLibraryModel" "pairB" "[I", Cond.lays "ProofLibraryModel" "ProofLibraryModel" "pairCount" "I", Cond.laysFinal "ProofLibraryModel" "ProofLibraryModel" "stepAt" "[I", Cond.laysFinal "ProofLibraryModel" "ProofLibraryModel" "stepSize" "[I", Cond.laysFinal "ProofLibraryModel" "ProofLibraryModel" "steps" "[I", Cond.laysFinal "ProofLibraryModel" "ProofLibraryModel" "saves" "[Z", Cond.laysFinal "ProofLibraryModel" "ProofLibraryModel" "stepPlace" "[I", Cond.lays "ProofLibraryModel" "ProofLibraryModel" "stepCount" "I", Cond.laysFinal "ProofLibraryModel" "ProofLibraryModel" "rest" "[J", Cond.lays "ProofLibraryModel" "ProofLibraryModel" "wff" "I", Cond.lays "ProofLibraryModel" "ProofLibraryModel" "turnstile" "I", Cond.laysFinal "ProofLibraryModel" "ProofLibraryModel" "activeVariables" "[I", Cond.lays "ProofLibraryModel" "ProofLibraryModel" "activeVariableCount" "I", Cond.laysFinal "ProofLibraryModel" "ProofLibraryModel" "activeHyps" "[I", Cond.lays "ProofLibraryModel" "ProofLibraryModel" "activeHypCount" "I", Cond.laysFinal "ProofLibraryModel" "ProofLibraryModel" "apartA" "[I", Cond.laysFinal "ProofLibraryModel" "ProofLibraryModel" "apartB" "[I", Cond.lays "ProofLibraryModel" "ProofLibraryModel" "apartCount" "I", Cond.laysFinal "ProofLibraryModel" "ProofLibraryModel" "apartBits" "[J", Cond.lays "ProofLibraryModel" "ProofLibraryModel" "scopes" "I", Cond.laysFinal "ProofLibraryModel" "ProofLibraryModel" "scopeVariables" "[I", Cond.laysFinal "ProofLibraryModel" "ProofLibraryModel" "scopeHyps" "[I", Cond.laysFinal "ProofLibraryModel" "ProofLibraryModel" "scopeApart" "[I", Cond.lays "ProofLibraryModel" "ProofLibraryModel" "at" "I", Cond.lays "ProofLibraryModel" "ProofLibraryModel" "tokenAt" "I", Cond.lays "ProofLibraryModel" "ProofLibraryModel" "tokenSize" "I", Cond.lays "ProofLibraryModel" "ProofLibraryModel" "token" "I", Cond.lays "ProofLibraryModel" "ProofLibraryModel" "fault" "I", Cond.lays "ProofLibraryModel" "ProofLibraryModel" "placeIs" "I", Cond.laysFinal "ProofLibraryModel" "ProofLibraryModel" "distinct" "[I", Cond.lays "ProofLibraryModel" "ProofLibraryModel" "now" "I", Cond.laysFinal "ProofLibraryModel" "ProofLibraryModel" "isMarked" "[Z", Cond.lays "ProofLibraryModel" "ProofLibraryModel" "isOpen" "Z", Cond.lays "ProofLibraryModel" "ProofLibraryModel" "lastPlace" "I", Cond.laysFinal "ProofLibraryModel" "ProofLibraryModel" "packedLabels" "[I", Cond.lays "ProofLibraryModel" "ProofLibraryModel" "packedCount" "I", Cond.lays "ProofLibraryModel" "ProofLibraryModel" "sum" "I", Cond.lays "ProofLibraryModel" "ProofLibraryModel" "inNumber" "Z", Cond.lays "ProofLibraryModel" "ProofLibraryModel" "maySave" "Z", Cond.lays "ProofLibraryModel" "ProofLibraryModel" "savedCount" "I", Cond.laysFinal "ProofLibraryModel" "ProofLibraryModel" "pileAt" "[I", Cond.laysFinal "ProofLibraryModel" "ProofLibraryModel" "pileSize" "[I", Cond.laysFinal "ProofLibraryModel" "ProofLibraryModel" "pileRow" "[I", Cond.lays "ProofLibraryModel" "ProofLibraryModel" "piled" "I", Cond.laysFinal "ProofLibraryModel" "ProofLibraryModel" "pileSymbols" "[I", Cond.lays "ProofLibraryModel" "ProofLibraryModel" "pileTop" "I", Cond.laysFinal "ProofLibraryModel" "ProofLibraryModel" "savedAt" "[I", Cond.laysFinal "ProofLibraryModel" "ProofLibraryModel" "savedSize" "[I", Cond.laysFinal "ProofLibraryModel" "ProofLibraryModel" "savedRow" "[I", Cond.lays "ProofLibraryModel" "ProofLibraryModel" "savedRows" "I", Cond.laysFinal "ProofLibraryModel" "ProofLibraryModel" "savedSymbols" "[I", Cond.lays "ProofLibraryModel" "ProofLibraryModel" "savedTop" "I", Cond.laysFinal "ProofLibraryModel" "ProofLibraryModel" "becomesAt" "[I", Cond.laysFinal "ProofLibraryModel" "ProofLibraryModel" "becomesSize" "[I", Cond.laysFinal "ProofLibraryModel" "ProofLibraryModel" "madeRow" "[I", Cond.lays "ProofLibraryModel" "ProofLibraryModel" "made" "I", Cond.lays "ProofLibraryModel" "ProofLibraryModel" "stepFault" "I", Cond.laysFinal "ProofLibraryModel" "ProofLibraryModel" "wasVariable" "[Z", Cond.laysFinal "ProofLibraryModel" "ProofLibraryModel" "wasActive" "[Z", Cond.laysFinal "ProofLibraryModel" "ProofLibraryModel" "wasBegin" "[Z", Cond.laysFinal "ProofLibraryModel" "ProofLibraryModel" "wasType" "[I", Cond.laysFinal "ProofLibraryModel" "ProofLibraryModel" "wasFloat" "[I", Cond.laysFinal "ProofLibraryModel" "ProofLibraryModel" "rowOf" "[I", Cond.laysFinal "ProofLibraryModel" "ProofLibraryModel" "rowFromAt" "[I", Cond.laysFinal "ProofLibraryModel" "ProofLibraryModel" "rowFroms" "[I", Cond.lays "ProofLibraryModel" "ProofLibraryModel" "rowCount" "I", Cond.lays "ProofLibraryModel" "ProofLibraryModel" "rowFromCount" "I", Cond.lays "ProofLibraryModel" "ProofLibraryModel" "rowsOf" "I", Cond.laysFinal "ProofLibraryModel" "ProofLibraryModel" "sizes" "[J", Cond.laysFinal "ProofLibraryModel" "ProofLibraryModel" "draft" "[I", Cond.lays "ProofLibraryModel" "ProofLibraryModel" "draftSize" "I", Cond.laysFinal "ProofLibraryModel" "ProofLibraryModel" "printed" "[I", Cond.lays "ProofLibraryModel" "ProofLibraryModel" "printedSize" "I", Cond.laysFinal "ProofLibraryModel" "ProofLibraryModel" "sameAs" "[I", Cond.laysFinal "ProofLibraryModel" "ProofLibraryModel" "uses" "[I", Cond.laysFinal "ProofLibraryModel" "ProofLibraryModel" "numberOf" "[I", Cond.laysFinal "ProofLibraryModel" "ProofLibraryModel" "order" "[I", Cond.lays "ProofLibraryModel" "ProofLibraryModel" "ordered" "I", Cond.laysFinal "ProofLibraryModel" "ProofLibraryModel" "walk" "[I", Cond.laysFinal "ProofLibraryModel" "ProofLibraryModel" "walkKid" "[I", Cond.lays "ProofLibraryModel" "ProofLibraryModel" "walked" "I", Cond.laysFinal "ProofLibraryModel" "ProofLibraryModel" "newLabels" "[I", Cond.laysFinal "ProofLibraryModel" "ProofLibraryModel" "labelNumber" "[I", Cond.lays "ProofLibraryModel" "ProofLibraryModel" "newLabelCount" "I", Cond.laysFinal "ProofLibraryModel" "ProofLibraryModel" "sameTable" "[I", Cond.laysFinal "ProofLibraryModel" "ProofLibraryModel" "told" "[I", Cond.lays "ProofLibraryModel" "ProofLibraryModel" "tolds" "I", Cond.laysFinal "ProofLibraryModel" "ProofLibraryModel" "sortOf" "[I", Cond.laysFinal "ProofLibraryModel" "ProofLibraryModel" "stretch" "[I", Cond.lays "ProofLibraryModel" "ProofLibraryModel" "rowSize" "I", Cond.laysFinal "ProofLibraryModel" "ProofLibraryModel" "leafSort" "[I", Cond.laysFinal "ProofLibraryModel" "ProofLibraryModel" "leafIs" "[I", Cond.laysFinal "ProofLibraryModel" "ProofLibraryModel" "ways" "[I", Cond.lays "ProofLibraryModel" "ProofLibraryModel" "sorts" "I", Cond.laysFinal "ProofLibraryModel" "ProofLibraryModel" "madeBy" "[I", Cond.laysFinal "ProofLibraryModel" "ProofLibraryModel" "startsOne" "[J", Cond.laysFinal "ProofLibraryModel" "ProofLibraryModel" "startsTwo" "[J", Cond.laysFinal "ProofLibraryModel" "ProofLibraryModel" "ruleStep" "[I", Cond.laysFinal "ProofLibraryModel" "ProofLibraryModel" "ruleUp" "[I", Cond.laysFinal "ProofLibraryModel" "ProofLibraryModel" "ruleKid" "[I", Cond.laysFinal "ProofLibraryModel" "ProofLibraryModel" "ruleNext" "[I", Cond.laysFinal "ProofLibraryModel" "ProofLibraryModel" "ruleFirst" "[I", Cond.laysFinal "ProofLibraryModel" "ProofLibraryModel" "ruleOther" "[I", Cond.laysFinal "ProofLibraryModel" "ProofLibraryModel" "ruleLeast" "[I", Cond.laysFinal "ProofLibraryModel" "ProofLibraryModel" "frontOne" "[J", Cond.laysFinal "ProofLibraryModel" "ProofLibraryModel" "frontTwo" "[J", Cond.lays "ProofLibraryModel" "ProofLibraryModel" "ruleNodes" "I", Cond.laysFinal "ProofLibraryModel" "ProofLibraryModel" "units" "[I", Cond.lays "ProofLibraryModel" "ProofLibraryModel" "unitCount" "I", Cond.lays "ProofLibraryModel" "ProofLibraryModel" "isTreed" "Z", Cond.lays "ProofLibraryModel" "ProofLibraryModel" "rowLimit" "I", Cond.laysFinal "ProofLibraryModel" "ProofLibraryModel" "front" "[I", Cond.laysFinal "ProofLibraryModel" "ProofLibraryModel" "nodeIs" "[I", Cond.laysFinal "ProofLibraryModel" "ProofLibraryModel" "nodeKids" "[I", Cond.laysFinal "ProofLibraryModel" "ProofLibraryModel" "nodeFrom" "[I", Cond.laysFinal "ProofLibraryModel" "ProofLibraryModel" "nodeTo" "[I", Cond.laysFinal "ProofLibraryModel" "ProofLibraryModel" "nodeSort" "[I", Cond.laysFinal "ProofLibraryModel" "ProofLibraryModel" "kids" "[I", Cond.lays "ProofLibraryModel" "ProofLibraryModel" "nodes" "I", Cond.lays "ProofLibraryModel" "ProofLibraryModel" "kidCount" "I", Cond.laysFinal "ProofLibraryModel" "ProofLibraryModel" "base" "[I", Cond.laysFinal "ProofLibraryModel" "ProofLibraryModel" "grown" "[I", Cond.laysFinal "ProofLibraryModel" "ProofLibraryModel" "treeCount" "[I", Cond.laysFinal "ProofLibraryModel" "ProofLibraryModel" "rulesIn" "[J", Cond.laysFinal "ProofLibraryModel" "ProofLibraryModel" "definitions" "[I", Cond.laysFinal "ProofLibraryModel" "ProofLibraryModel" "isEquality" "[Z", Cond.laysFinal "ProofLibraryModel" "ProofLibraryModel" "definer" "[I", Cond.laysFinal "ProofLibraryModel" "ProofLibraryModel" "isNeeded" "[Z", Cond.laysFinal "ProofLibraryModel" "ProofLibraryModel" "bareAt" "[I", Cond.laysFinal "ProofLibraryModel" "ProofLibraryModel" "bareMany" "[I", Cond.laysFinal "ProofLibraryModel" "ProofLibraryModel" "bare" "[I", Cond.lays "ProofLibraryModel" "ProofLibraryModel" "bareSize" "I", Cond.laysFinal "ProofLibraryModel" "ProofLibraryModel" "tasks" "[I", Cond.lays "ProofLibraryModel" "ProofLibraryModel" "taskMany" "I", Cond.laysFinal "ProofLibraryModel" "ProofLibraryModel" "given" "[I", Cond.laysFinal "ProofLibraryModel" "ProofLibraryModel" "boundFrom" "[I", Cond.laysFinal "ProofLibraryModel" "ProofLibraryModel" "boundTo" "[I", Cond.laysFinal "ProofLibraryModel" "ProofLibraryModel" "otherWalk" "[I"], w ∈ TB)
theorem xdfX13 : ∀ j, j < 170 → defaultValue (tyX13 j) = vp_V (.null :: .int 0 :: .int 0 :: .null :: .int 0 :: .null :: .null :: .int 0 :: .null :: .null :: .null :: .null :: .null :: .null :: .null :: .null :: .null :: .int 0 :: .int 0 :: .null :: .null :: .null :: .null :: .null :: .int 0 :: .null :: .null :: .null :: .int 0 :: .null :: .null :: .null :: .null :: .int 0 :: .null :: .null :: .null :: .null :: .null :: .int 0 :: .null :: .int 0 :: .int 0 :: .null :: .int 0 :: .null :: .int 0 :: .null :: .null :: .int 0 :: .null :: .int 0 :: .null :: .null :: .null :: .int 0 :: .int 0 :: .int 0 :: .int 0 :: .int 0 :: .int 0 :: .null :: .int 0 :: .null :: .int 0 :: .int 0 :: .null :: .int 0 :: .int 0 :: .int 0 :: .int 0 :: .int 0 :: .null :: .null :: .null :: .int 0 :: .null :: .int 0 :: .null :: .null :: .null :: .int 0 :: .null :: .int 0 :: .null :: .null :: .null :: .int 0 :: .int 0 :: .null :: .null :: .null :: .null :: .null :: .null :: .null :: .null :: .int 0 :: .int 0 :: .int 0 :: .null :: .null :: .int 0 :: .null :: .int 0 :: .null :: .null :: .null :: .null :: .int 0 :: .null :: .null :: .int 0 :: .null :: .null :: .int 0 :: .null :: .null :: .int 0 :: .null :: .null :: .int 0 :: .null :: .null :: .null :: .int 0 :: .null :: .null :: .null :: .null :: .null :: .null :: .null :: .null :: .null :: .null :: .null :: .null :: .int 0 :: .null :: .int 0 :: .int 0 :: .int 0 :: .null :: .null :: .null :: .null :: .null :: .null :: .null :: .int 0 :: .int 0 :: .null :: .null :: .null :: .null :: .null :: .null :: .null :: .null :: .null :: .null :: .null :: .int 0 :: .null :: .int 0 :: .null :: .null :: .null :: .null :: []) j := fun j hj => by
  rcases (show j = 0 ∨ j = 1 ∨ j = 2 ∨ j = 3 ∨ j = 4 ∨ j = 5 ∨ j = 6 ∨ j = 7 ∨ j = 8 ∨ j = 9 ∨ j = 10 ∨ j = 11 ∨ j = 12 ∨ j = 13 ∨ j = 14 ∨ j = 15 ∨ j = 16 ∨ j = 17 ∨ j = 18 ∨ j = 19 ∨ j = 20 ∨ j = 21 ∨ j = 22 ∨ j = 23 ∨ j = 24 ∨ j = 25 ∨ j = 26 ∨ j = 27 ∨ j = 28 ∨ j = 29 ∨ j = 30 ∨ j = 31 ∨ j = 32 ∨ j = 33 ∨ j = 34 ∨ j = 35 ∨ j = 36 ∨ j = 37 ∨ j = 38 ∨ j = 39 ∨ j = 40 ∨ j = 41 ∨ j = 42 ∨ j = 43 ∨ j = 44 ∨ j = 45 ∨ j = 46 ∨ j = 47 ∨ j = 48 ∨ j = 49 ∨ j = 50 ∨ j = 51 ∨ j = 52 ∨ j = 53 ∨ j = 54 ∨ j = 55 ∨ j = 56 ∨ j = 57 ∨ j = 58 ∨ j = 59 ∨ j = 60 ∨ j = 61 ∨ j = 62 ∨ j = 63 ∨ j = 64 ∨ j = 65 ∨ j = 66 ∨ j = 67 ∨ j = 68 ∨ j = 69 ∨ j = 70 ∨ j = 71 ∨ j = 72 ∨ j = 73 ∨ j = 74 ∨ j = 75 ∨ j = 76 ∨ j = 77 ∨ j = 78 ∨ j = 79 ∨ j = 80 ∨ j = 81 ∨ j = 82 ∨ j = 83 ∨ j = 84 ∨ j = 85 ∨ j = 86 ∨ j = 87 ∨ j = 88 ∨ j = 89 ∨ j = 90 ∨ j = 91 ∨ j = 92 ∨ j = 93 ∨ j = 94 ∨ j = 95 ∨ j = 96 ∨ j = 97 ∨ j = 98 ∨ j = 99 ∨ j = 100 ∨ j = 101 ∨ j = 102 ∨ j = 103 ∨ j = 104 ∨ j = 105 ∨ j = 106 ∨ j = 107 ∨ j = 108 ∨ j = 109 ∨ j = 110 ∨ j = 111 ∨ j = 112 ∨ j = 113 ∨ j = 114 ∨ j = 115 ∨ j = 116 ∨ j = 117 ∨ j = 118 ∨ j = 119 ∨ j = 120 ∨ j = 121 ∨ j = 122 ∨ j = 123 ∨ j = 124 ∨ j = 125 ∨ j = 126 ∨ j = 127 ∨ j = 128 ∨ j = 129 ∨ j = 130 ∨ j = 131 ∨ j = 132 ∨ j = 133 ∨ j = 134 ∨ j = 135 ∨ j = 136 ∨ j = 137 ∨ j = 138 ∨ j = 139 ∨ j = 140 ∨ j = 141 ∨ j = 142 ∨ j = 143 ∨ j = 144 ∨ j = 145 ∨ j = 146 ∨ j = 147 ∨ j = 148 ∨ j = 149 ∨ j = 150 ∨ j = 151 ∨ j = 152 ∨ j = 153 ∨ j = 154 ∨ j = 155 ∨ j = 156 ∨ j = 157 ∨ j = 158 ∨ j = 159 ∨ j = 160 ∨ j = 161 ∨ j = 162 ∨ j = 163 ∨ j = 164 ∨ j = 165 ∨ j = 166 ∨ j = 167 ∨ j = 168 ∨ j = 169 by omega) with rfl | rfl | rfl | rfl | rfl | rfl | rfl | rfl | rfl | rfl | rfl | rfl | rfl | rfl | rfl | rfl | rfl | rfl | rfl | rfl | rfl | rfl | rfl | rfl | rfl | rfl | rfl | rfl | rfl | rfl | rfl | rfl | rfl | rfl | rfl | rfl | rfl | rfl | rfl | rfl | rfl | rfl | rfl | rfl | rfl | rfl | rfl | rfl | rfl | rfl | rfl | rfl | rfl | rfl | rfl | rfl | rfl | rfl | rfl | rfl | rfl | rfl | rfl | rfl | rfl | rfl | rfl | rfl | rfl | rfl | rfl | rfl | rfl | rfl | rfl | rfl | rfl | rfl | rfl | rfl | rfl | rfl | rfl | rfl | rfl | rfl | rfl | rfl | rfl | rfl | rfl | rfl | rfl | rfl | rfl | rfl | rfl | rfl | rfl | rfl | rfl | rfl | rfl | rfl | rfl | rfl | rfl | rfl | rfl | rfl | rfl | rfl | rfl | rfl | rfl | rfl | rfl | rfl | rfl | rfl | rfl | rfl | rfl | rfl | rfl | rfl | rfl | rfl | rfl | rfl | rfl | rfl | rfl | rfl | rfl | rfl | rfl | rfl | rfl | rfl | rfl | rfl | rfl | rfl | rfl | rfl | rfl | rfl | rfl | rfl | rfl | rfl | rfl | rfl | rfl | rfl | rfl | rfl | rfl | rfl | rfl | rfl | rfl | rfl | rfl | rfl | rfl | rfl | rfl | rfl <;> rfl
set_option maxRecDepth 20000 in
theorem inX2 : ∀ w ∈ u_ws RX2 TX2 21, w ∈ TB := ((List.forall_mem_cons.mpr ⟨tw_816, (List.forall_mem_cons.mpr ⟨tw_818, (List.forall_mem_cons.mpr ⟨tw_820, (List.forall_mem_cons.mpr ⟨tw_822, (List.forall_mem_cons.mpr ⟨tw_824, (List.forall_mem_cons.mpr ⟨tw_826, (List.forall_mem_cons.mpr ⟨tw_828, (List.forall_mem_cons.mpr ⟨tw_830, (List.forall_mem_cons.mpr ⟨tw_832, (List.forall_mem_cons.mpr ⟨tw_834, (List.forall_mem_cons.mpr ⟨tw_836, (List.forall_mem_cons.mpr ⟨tw_838, (List.forall_mem_cons.mpr ⟨tw_840, (List.forall_mem_cons.mpr ⟨tw_842, (List.forall_mem_cons.mpr ⟨tw_844, (List.forall_mem_cons.mpr ⟨tw_846, (List.forall_mem_cons.mpr ⟨tw_848, (List.forall_mem_cons.mpr ⟨tw_850, (List.forall_mem_cons.mpr ⟨tw_852, (List.forall_mem_cons.mpr ⟨tw_854, (List.forall_mem_cons.mpr ⟨tw_856, (fun _ h => absurd h List.not_mem_nil)⟩)⟩)⟩)⟩)⟩)⟩)⟩)⟩)⟩)⟩)⟩)⟩)⟩)⟩)⟩)⟩)⟩)⟩)⟩)⟩)⟩) : ∀ w ∈ [Cond.laysFinal "ProofLibrary$Definitions" "ProofLibrary$Definitions" "library" "LProofLibrary$Library;", Cond.laysFinal "ProofLibrary$Definitions" "ProofLibrary$Definitions" "assertions" "LProofLibrary$Assertions;", Cond.laysFinal "ProofLibrary$Definitions" "ProofLibrary$Definitions" "rules" "LProofLibrary$Rules;", Cond.laysFinal "ProofLibrary$Definitions" "ProofLibrary$Definitions" "chart" "LProofLibrary$Chart;", Cond.laysFinal "ProofLibrary$Definitions" "ProofLibrary$Definitions" "tree" "LProofLibrary$Tree;", Cond.laysFinal "ProofLibrary$Definitions" "ProofLibrary$Definitions" "pile" "LProofLibrary$Pile;", Cond.lays "ProofLibrary$Definitions" "ProofLibrary$Definitions" "studied" "I", Cond.laysFinal "ProofLibrary$Definitions" "ProofLibrary$Definitions" "firstUse" "[I", Cond.laysFinal "ProofLibrary$Definitions" "ProofLibrary$Definitions" "needed" "[I", Cond.laysFinal "ProofLibrary$Definitions" "ProofLibrary$Definitions" "target" "[I", Cond.laysFinal "ProofLibrary$Definitions" "ProofLibrary$Definitions" "definedBy" "[I", Cond.laysFinal "ProofLibrary$Definitions" "ProofLibrary$Definitions" "equality" "[Z", Cond.lays "ProofLibrary$Definitions" "ProofLibrary$Definitions" "equalities" "I", Cond.lays "ProofLibrary$Definitions" "ProofLibrary$Definitions" "prepared" "I", Cond.lays "ProofLibrary$Definitions" "ProofLibrary$Definitions" "bodies" "[I", Cond.laysFinal "ProofLibrary$Definitions" "ProofLibrary$Definitions" "bodyAt" "[I", Cond.laysFinal "ProofLibrary$Definitions" "ProofLibrary$Definitions" "bodySize" "[I", Cond.lays "ProofLibrary$Definitions" "ProofLibrary$Definitions" "bodiesUsed" "I", Cond.laysFinal "ProofLibrary$Definitions" "ProofLibrary$Definitions" "slots" "[I", Cond.lays "ProofLibrary$Definitions" "ProofLibrary$Definitions" "firstTree" "I", Cond.lays "ProofLibrary$Definitions" "ProofLibrary$Definitions" "secondTree" "I"], w ∈ TB)
theorem xdfX2 : ∀ j, j < 21 → defaultValue (tyX2 j) = vp_V [.null, .null, .null, .null, .null, .null, .int 0, .null, .null, .null, .null, .null, .int 0, .int 0, .null, .null, .null, .int 0, .null, .int 0, .int 0] j := fun j hj => by
  rcases (show j = 0 ∨ j = 1 ∨ j = 2 ∨ j = 3 ∨ j = 4 ∨ j = 5 ∨ j = 6 ∨ j = 7 ∨ j = 8 ∨ j = 9 ∨ j = 10 ∨ j = 11 ∨ j = 12 ∨ j = 13 ∨ j = 14 ∨ j = 15 ∨ j = 16 ∨ j = 17 ∨ j = 18 ∨ j = 19 ∨ j = 20 by omega) with rfl | rfl | rfl | rfl | rfl | rfl | rfl | rfl | rfl | rfl | rfl | rfl | rfl | rfl | rfl | rfl | rfl | rfl | rfl | rfl | rfl <;> rfl
set_option maxRecDepth 20000 in
theorem inX3 : ∀ w ∈ u_ws RX3 TX3 21, w ∈ TB := ((List.forall_mem_cons.mpr ⟨tw_110, (List.forall_mem_cons.mpr ⟨tw_112, (List.forall_mem_cons.mpr ⟨tw_114, (List.forall_mem_cons.mpr ⟨tw_116, (List.forall_mem_cons.mpr ⟨tw_118, (List.forall_mem_cons.mpr ⟨tw_120, (List.forall_mem_cons.mpr ⟨tw_122, (List.forall_mem_cons.mpr ⟨tw_124, (List.forall_mem_cons.mpr ⟨tw_126, (List.forall_mem_cons.mpr ⟨tw_128, (List.forall_mem_cons.mpr ⟨tw_130, (List.forall_mem_cons.mpr ⟨tw_132, (List.forall_mem_cons.mpr ⟨tw_134, (List.forall_mem_cons.mpr ⟨tw_136, (List.forall_mem_cons.mpr ⟨tw_138, (List.forall_mem_cons.mpr ⟨tw_140, (List.forall_mem_cons.mpr ⟨tw_142, (List.forall_mem_cons.mpr ⟨tw_144, (List.forall_mem_cons.mpr ⟨tw_146, (List.forall_mem_cons.mpr ⟨tw_148, (List.forall_mem_cons.mpr ⟨tw_150, (fun _ h => absurd h List.not_mem_nil)⟩)⟩)⟩)⟩)⟩)⟩)⟩)⟩)⟩)⟩)⟩)⟩)⟩)⟩)⟩)⟩)⟩)⟩)⟩)⟩)⟩) : ∀ w ∈ [Cond.laysFinal "ProofLibrary$Library" "ProofLibrary$Library" "letters" "[C", Cond.laysFinal "ProofLibrary$Library" "ProofLibrary$Library" "nameAt" "[I", Cond.laysFinal "ProofLibrary$Library" "ProofLibrary$Library" "meaning" "[I", Cond.laysFinal "ProofLibrary$Library" "ProofLibrary$Library" "nextName" "[I", Cond.laysFinal "ProofLibrary$Library" "ProofLibrary$Library" "heads" "[I", Cond.lays "ProofLibrary$Library" "ProofLibrary$Library" "names" "I", Cond.laysFinal "ProofLibrary$Library" "ProofLibrary$Library" "symbolName" "[I", Cond.laysFinal "ProofLibrary$Library" "ProofLibrary$Library" "variable" "[Z", Cond.laysFinal "ProofLibrary$Library" "ProofLibrary$Library" "firstFloat" "[I", Cond.laysFinal "ProofLibrary$Library" "ProofLibrary$Library" "rank" "[I", Cond.laysFinal "ProofLibrary$Library" "ProofLibrary$Library" "ranked" "[I", Cond.lays "ProofLibrary$Library" "ProofLibrary$Library" "ranks" "I", Cond.lays "ProofLibrary$Library" "ProofLibrary$Library" "symbols" "I", Cond.laysFinal "ProofLibrary$Library" "ProofLibrary$Library" "labelName" "[I", Cond.laysFinal "ProofLibrary$Library" "ProofLibrary$Library" "kind" "[I", Cond.laysFinal "ProofLibrary$Library" "ProofLibrary$Library" "at" "[I", Cond.laysFinal "ProofLibrary$Library" "ProofLibrary$Library" "text" "[I", Cond.laysFinal "ProofLibrary$Library" "ProofLibrary$Library" "floats" "[I", Cond.lays "ProofLibrary$Library" "ProofLibrary$Library" "used" "I", Cond.lays "ProofLibrary$Library" "ProofLibrary$Library" "statements" "I", Cond.laysFinal "ProofLibrary$Library" "ProofLibrary$Library" "kept" "[I"], w ∈ TB)
theorem xdfX3 : ∀ j, j < 21 → defaultValue (tyX3 j) = vp_V [.null, .null, .null, .null, .null, .int 0, .null, .null, .null, .null, .null, .int 0, .int 0, .null, .null, .null, .null, .null, .int 0, .int 0, .null] j := fun j hj => by
  rcases (show j = 0 ∨ j = 1 ∨ j = 2 ∨ j = 3 ∨ j = 4 ∨ j = 5 ∨ j = 6 ∨ j = 7 ∨ j = 8 ∨ j = 9 ∨ j = 10 ∨ j = 11 ∨ j = 12 ∨ j = 13 ∨ j = 14 ∨ j = 15 ∨ j = 16 ∨ j = 17 ∨ j = 18 ∨ j = 19 ∨ j = 20 by omega) with rfl | rfl | rfl | rfl | rfl | rfl | rfl | rfl | rfl | rfl | rfl | rfl | rfl | rfl | rfl | rfl | rfl | rfl | rfl | rfl | rfl <;> rfl
set_option maxRecDepth 20000 in
theorem inX4 : ∀ w ∈ u_ws RX4 TX4 19, w ∈ TB := ((List.forall_mem_cons.mpr ⟨tw_554, (List.forall_mem_cons.mpr ⟨tw_556, (List.forall_mem_cons.mpr ⟨tw_558, (List.forall_mem_cons.mpr ⟨tw_560, (List.forall_mem_cons.mpr ⟨tw_562, (List.forall_mem_cons.mpr ⟨tw_564, (List.forall_mem_cons.mpr ⟨tw_566, (List.forall_mem_cons.mpr ⟨tw_568, (List.forall_mem_cons.mpr ⟨tw_570, (List.forall_mem_cons.mpr ⟨tw_572, (List.forall_mem_cons.mpr ⟨tw_574, (List.forall_mem_cons.mpr ⟨tw_576, (List.forall_mem_cons.mpr ⟨tw_578, (List.forall_mem_cons.mpr ⟨tw_580, (List.forall_mem_cons.mpr ⟨tw_582, (List.forall_mem_cons.mpr ⟨tw_584, (List.forall_mem_cons.mpr ⟨tw_586, (List.forall_mem_cons.mpr ⟨tw_588, (List.forall_mem_cons.mpr ⟨tw_590, (fun _ h => absurd h List.not_mem_nil)⟩)⟩)⟩)⟩)⟩)⟩)⟩)⟩)⟩)⟩)⟩)⟩)⟩)⟩)⟩)⟩)⟩)⟩)⟩) : ∀ w ∈ [Cond.laysFinal "ProofLibrary$Packer" "ProofLibrary$Packer" "library" "LProofLibrary$Library;", Cond.laysFinal "ProofLibrary$Packer" "ProofLibrary$Packer" "assertions" "LProofLibrary$Assertions;", Cond.laysFinal "ProofLibrary$Packer" "ProofLibrary$Packer" "sameAs" "[I", Cond.laysFinal "ProofLibrary$Packer" "ProofLibrary$Packer" "heads" "[I", Cond.laysFinal "ProofLibrary$Packer" "ProofLibrary$Packer" "nextRow" "[I", Cond.laysFinal "ProofLibrary$Packer" "ProofLibrary$Packer" "tellings" "[I", Cond.laysFinal "ProofLibrary$Packer" "ProofLibrary$Packer" "numbers" "[I", Cond.laysFinal "ProofLibrary$Packer" "ProofLibrary$Packer" "labelNumbers" "[I", Cond.laysFinal "ProofLibrary$Packer" "ProofLibrary$Packer" "listed" "[I", Cond.lays "ProofLibrary$Packer" "ProofLibrary$Packer" "listedCount" "I", Cond.laysFinal "ProofLibrary$Packer" "ProofLibrary$Packer" "told" "[I", Cond.lays "ProofLibrary$Packer" "ProofLibrary$Packer" "toldCount" "I", Cond.laysFinal "ProofLibrary$Packer" "ProofLibrary$Packer" "stackRow" "[I", Cond.laysFinal "ProofLibrary$Packer" "ProofLibrary$Packer" "stackNext" "[I", Cond.lays "ProofLibrary$Packer" "ProofLibrary$Packer" "depth" "I", Cond.laysFinal "ProofLibrary$Packer" "ProofLibrary$Packer" "full" "[I", Cond.lays "ProofLibrary$Packer" "ProofLibrary$Packer" "fullCount" "I", Cond.laysFinal "ProofLibrary$Packer" "ProofLibrary$Packer" "starts" "[I", Cond.lays "ProofLibrary$Packer" "ProofLibrary$Packer" "base" "I"], w ∈ TB)
theorem xdfX4 : ∀ j, j < 19 → defaultValue (tyX4 j) = vp_V [.null, .null, .null, .null, .null, .null, .null, .null, .null, .int 0, .null, .int 0, .null, .null, .int 0, .null, .int 0, .null, .int 0] j := fun j hj => by
  rcases (show j = 0 ∨ j = 1 ∨ j = 2 ∨ j = 3 ∨ j = 4 ∨ j = 5 ∨ j = 6 ∨ j = 7 ∨ j = 8 ∨ j = 9 ∨ j = 10 ∨ j = 11 ∨ j = 12 ∨ j = 13 ∨ j = 14 ∨ j = 15 ∨ j = 16 ∨ j = 17 ∨ j = 18 by omega) with rfl | rfl | rfl | rfl | rfl | rfl | rfl | rfl | rfl | rfl | rfl | rfl | rfl | rfl | rfl | rfl | rfl | rfl | rfl <;> rfl
set_option maxRecDepth 20000 in
theorem inX5 : ∀ w ∈ u_ws RX5 TX5 6, w ∈ TB := ((List.forall_mem_cons.mpr ⟨tw_871, (List.forall_mem_cons.mpr ⟨tw_873, (List.forall_mem_cons.mpr ⟨tw_875, (List.forall_mem_cons.mpr ⟨tw_877, (List.forall_mem_cons.mpr ⟨tw_879, (List.forall_mem_cons.mpr ⟨tw_881, (fun _ h => absurd h List.not_mem_nil)⟩)⟩)⟩)⟩)⟩)⟩) : ∀ w ∈ [Cond.laysFinal "ProofLibrary$Paper" "ProofLibrary$Paper" "library" "LProofLibrary$Library;", Cond.lays "ProofLibrary$Paper" "ProofLibrary$Paper" "draft" "[C", Cond.lays "ProofLibrary$Paper" "ProofLibrary$Paper" "draftLength" "I", Cond.lays "ProofLibrary$Paper" "ProofLibrary$Paper" "overflow" "Z", Cond.lays "ProofLibrary$Paper" "ProofLibrary$Paper" "shown" "[C", Cond.lays "ProofLibrary$Paper" "ProofLibrary$Paper" "shownLength" "I"], w ∈ TB)
theorem xdfX5 : ∀ j, j < 6 → defaultValue (tyX5 j) = vp_V [.null, .null, .int 0, .int 0, .null, .int 0] j := fun j hj => by
  rcases (show j = 0 ∨ j = 1 ∨ j = 2 ∨ j = 3 ∨ j = 4 ∨ j = 5 by omega) with rfl | rfl | rfl | rfl | rfl | rfl <;> rfl
set_option maxRecDepth 20000 in
theorem inX6 : ∀ w ∈ u_ws RX6 TX6 17, w ∈ TB := ((List.forall_mem_cons.mpr ⟨tw_371, (List.forall_mem_cons.mpr ⟨tw_373, (List.forall_mem_cons.mpr ⟨tw_375, (List.forall_mem_cons.mpr ⟨tw_377, (List.forall_mem_cons.mpr ⟨tw_379, (List.forall_mem_cons.mpr ⟨tw_381, (List.forall_mem_cons.mpr ⟨tw_383, (List.forall_mem_cons.mpr ⟨tw_385, (List.forall_mem_cons.mpr ⟨tw_387, (List.forall_mem_cons.mpr ⟨tw_389, (List.forall_mem_cons.mpr ⟨tw_391, (List.forall_mem_cons.mpr ⟨tw_393, (List.forall_mem_cons.mpr ⟨tw_395, (List.forall_mem_cons.mpr ⟨tw_397, (List.forall_mem_cons.mpr ⟨tw_399, (List.forall_mem_cons.mpr ⟨tw_401, (List.forall_mem_cons.mpr ⟨tw_403, (fun _ h => absurd h List.not_mem_nil)⟩)⟩)⟩)⟩)⟩)⟩)⟩)⟩)⟩)⟩)⟩)⟩)⟩)⟩)⟩)⟩)⟩) : ∀ w ∈ [Cond.laysFinal "ProofLibrary$Pile" "ProofLibrary$Pile" "library" "LProofLibrary$Library;", Cond.laysFinal "ProofLibrary$Pile" "ProofLibrary$Pile" "assertions" "LProofLibrary$Assertions;", Cond.laysFinal "ProofLibrary$Pile" "ProofLibrary$Pile" "scopes" "LProofLibrary$Scopes;", Cond.laysFinal "ProofLibrary$Pile" "ProofLibrary$Pile" "data" "[I", Cond.lays "ProofLibrary$Pile" "ProofLibrary$Pile" "low" "I", Cond.lays "ProofLibrary$Pile" "ProofLibrary$Pile" "high" "I", Cond.laysFinal "ProofLibrary$Pile" "ProofLibrary$Pile" "at" "[I", Cond.laysFinal "ProofLibrary$Pile" "ProofLibrary$Pile" "size" "[I", Cond.laysFinal "ProofLibrary$Pile" "ProofLibrary$Pile" "uses" "[I", Cond.laysFinal "ProofLibrary$Pile" "ProofLibrary$Pile" "built" "[I", Cond.lays "ProofLibrary$Pile" "ProofLibrary$Pile" "builtSize" "I", Cond.laysFinal "ProofLibrary$Pile" "ProofLibrary$Pile" "becomesAt" "[I", Cond.laysFinal "ProofLibrary$Pile" "ProofLibrary$Pile" "becomesSize" "[I", Cond.laysFinal "ProofLibrary$Pile" "ProofLibrary$Pile" "met" "[I", Cond.lays "ProofLibrary$Pile" "ProofLibrary$Pile" "turn" "I", Cond.laysFinal "ProofLibrary$Pile" "ProofLibrary$Pile" "variablesX" "[I", Cond.laysFinal "ProofLibrary$Pile" "ProofLibrary$Pile" "variablesY" "[I"], w ∈ TB)
theorem xdfX6 : ∀ j, j < 17 → defaultValue (tyX6 j) = vp_V [.null, .null, .null, .null, .int 0, .int 0, .null, .null, .null, .null, .int 0, .null, .null, .null, .int 0, .null, .null] j := fun j hj => by
  rcases (show j = 0 ∨ j = 1 ∨ j = 2 ∨ j = 3 ∨ j = 4 ∨ j = 5 ∨ j = 6 ∨ j = 7 ∨ j = 8 ∨ j = 9 ∨ j = 10 ∨ j = 11 ∨ j = 12 ∨ j = 13 ∨ j = 14 ∨ j = 15 ∨ j = 16 by omega) with rfl | rfl | rfl | rfl | rfl | rfl | rfl | rfl | rfl | rfl | rfl | rfl | rfl | rfl | rfl | rfl | rfl <;> rfl
set_option maxRecDepth 20000 in
theorem inX7 : ∀ w ∈ u_ws RX7 TX7 13, w ∈ TB := ((List.forall_mem_cons.mpr ⟨tw_498, (List.forall_mem_cons.mpr ⟨tw_500, (List.forall_mem_cons.mpr ⟨tw_502, (List.forall_mem_cons.mpr ⟨tw_504, (List.forall_mem_cons.mpr ⟨tw_506, (List.forall_mem_cons.mpr ⟨tw_508, (List.forall_mem_cons.mpr ⟨tw_510, (List.forall_mem_cons.mpr ⟨tw_512, (List.forall_mem_cons.mpr ⟨tw_514, (List.forall_mem_cons.mpr ⟨tw_516, (List.forall_mem_cons.mpr ⟨tw_518, (List.forall_mem_cons.mpr ⟨tw_520, (List.forall_mem_cons.mpr ⟨tw_522, (fun _ h => absurd h List.not_mem_nil)⟩)⟩)⟩)⟩)⟩)⟩)⟩)⟩)⟩)⟩)⟩)⟩)⟩) : ∀ w ∈ [Cond.laysFinal "ProofLibrary$Reader" "ProofLibrary$Reader" "library" "LProofLibrary$Library;", Cond.laysFinal "ProofLibrary$Reader" "ProofLibrary$Reader" "assertions" "LProofLibrary$Assertions;", Cond.laysFinal "ProofLibrary$Reader" "ProofLibrary$Reader" "scopes" "LProofLibrary$Scopes;", Cond.laysFinal "ProofLibrary$Reader" "ProofLibrary$Reader" "steps" "LProofLibrary$Steps;", Cond.laysFinal "ProofLibrary$Reader" "ProofLibrary$Reader" "disjoint" "[I", Cond.lays "ProofLibrary$Reader" "ProofLibrary$Reader" "source" "[C", Cond.lays "ProofLibrary$Reader" "ProofLibrary$Reader" "place" "I", Cond.lays "ProofLibrary$Reader" "ProofLibrary$Reader" "comment" "Z", Cond.lays "ProofLibrary$Reader" "ProofLibrary$Reader" "state" "I", Cond.lays "ProofLibrary$Reader" "ProofLibrary$Reader" "items" "I", Cond.lays "ProofLibrary$Reader" "ProofLibrary$Reader" "kind" "I", Cond.lays "ProofLibrary$Reader" "ProofLibrary$Reader" "namedSymbol" "I", Cond.lays "ProofLibrary$Reader" "ProofLibrary$Reader" "namedStatement" "I"], w ∈ TB)
theorem xdfX7 : ∀ j, j < 13 → defaultValue (tyX7 j) = vp_V [.null, .null, .null, .null, .null, .null, .int 0, .int 0, .int 0, .int 0, .int 0, .int 0, .int 0] j := fun j hj => by
  rcases (show j = 0 ∨ j = 1 ∨ j = 2 ∨ j = 3 ∨ j = 4 ∨ j = 5 ∨ j = 6 ∨ j = 7 ∨ j = 8 ∨ j = 9 ∨ j = 10 ∨ j = 11 ∨ j = 12 by omega) with rfl | rfl | rfl | rfl | rfl | rfl | rfl | rfl | rfl | rfl | rfl | rfl | rfl <;> rfl
set_option maxRecDepth 20000 in
theorem inX8 : ∀ w ∈ u_ws RX8 TX8 17, w ∈ TB := ((List.forall_mem_cons.mpr ⟨tw_628, (List.forall_mem_cons.mpr ⟨tw_630, (List.forall_mem_cons.mpr ⟨tw_632, (List.forall_mem_cons.mpr ⟨tw_634, (List.forall_mem_cons.mpr ⟨tw_636, (List.forall_mem_cons.mpr ⟨tw_638, (List.forall_mem_cons.mpr ⟨tw_640, (List.forall_mem_cons.mpr ⟨tw_642, (List.forall_mem_cons.mpr ⟨tw_644, (List.forall_mem_cons.mpr ⟨tw_646, (List.forall_mem_cons.mpr ⟨tw_648, (List.forall_mem_cons.mpr ⟨tw_650, (List.forall_mem_cons.mpr ⟨tw_652, (List.forall_mem_cons.mpr ⟨tw_654, (List.forall_mem_cons.mpr ⟨tw_656, (List.forall_mem_cons.mpr ⟨tw_658, (List.forall_mem_cons.mpr ⟨tw_660, (fun _ h => absurd h List.not_mem_nil)⟩)⟩)⟩)⟩)⟩)⟩)⟩)⟩)⟩)⟩)⟩)⟩)⟩)⟩)⟩)⟩)⟩) : ∀ w ∈ [Cond.laysFinal "ProofLibrary$Rules" "ProofLibrary$Rules" "library" "LProofLibrary$Library;", Cond.laysFinal "ProofLibrary$Rules" "ProofLibrary$Rules" "assertions" "LProofLibrary$Assertions;", Cond.laysFinal "ProofLibrary$Rules" "ProofLibrary$Rules" "firstChild" "[I", Cond.laysFinal "ProofLibrary$Rules" "ProofLibrary$Rules" "sibling" "[I", Cond.laysFinal "ProofLibrary$Rules" "ProofLibrary$Rules" "key" "[I", Cond.laysFinal "ProofLibrary$Rules" "ProofLibrary$Rules" "born" "[I", Cond.laysFinal "ProofLibrary$Rules" "ProofLibrary$Rules" "firstRule" "[I", Cond.laysFinal "ProofLibrary$Rules" "ProofLibrary$Rules" "nextRule" "[I", Cond.lays "ProofLibrary$Rules" "ProofLibrary$Rules" "nodes" "I", Cond.laysFinal "ProofLibrary$Rules" "ProofLibrary$Rules" "atConstant" "[I", Cond.laysFinal "ProofLibrary$Rules" "ProofLibrary$Rules" "atSort" "[I", Cond.laysFinal "ProofLibrary$Rules" "ProofLibrary$Rules" "unitRule" "[I", Cond.laysFinal "ProofLibrary$Rules" "ProofLibrary$Rules" "unitFrom" "[I", Cond.lays "ProofLibrary$Rules" "ProofLibrary$Rules" "units" "I", Cond.lays "ProofLibrary$Rules" "ProofLibrary$Rules" "learned" "I", Cond.lays "ProofLibrary$Rules" "ProofLibrary$Rules" "provable" "I", Cond.lays "ProofLibrary$Rules" "ProofLibrary$Rules" "wff" "I"], w ∈ TB)
theorem xdfX8 : ∀ j, j < 17 → defaultValue (tyX8 j) = vp_V [.null, .null, .null, .null, .null, .null, .null, .null, .int 0, .null, .null, .null, .null, .int 0, .int 0, .int 0, .int 0] j := fun j hj => by
  rcases (show j = 0 ∨ j = 1 ∨ j = 2 ∨ j = 3 ∨ j = 4 ∨ j = 5 ∨ j = 6 ∨ j = 7 ∨ j = 8 ∨ j = 9 ∨ j = 10 ∨ j = 11 ∨ j = 12 ∨ j = 13 ∨ j = 14 ∨ j = 15 ∨ j = 16 by omega) with rfl | rfl | rfl | rfl | rfl | rfl | rfl | rfl | rfl | rfl | rfl | rfl | rfl | rfl | rfl | rfl | rfl <;> rfl
set_option maxRecDepth 20000 in
theorem inX9 : ∀ w ∈ u_ws RX9 TX9 16, w ∈ TB := ((List.forall_mem_cons.mpr ⟨tw_190, (List.forall_mem_cons.mpr ⟨tw_192, (List.forall_mem_cons.mpr ⟨tw_194, (List.forall_mem_cons.mpr ⟨tw_196, (List.forall_mem_cons.mpr ⟨tw_198, (List.forall_mem_cons.mpr ⟨tw_200, (List.forall_mem_cons.mpr ⟨tw_202, (List.forall_mem_cons.mpr ⟨tw_204, (List.forall_mem_cons.mpr ⟨tw_206, (List.forall_mem_cons.mpr ⟨tw_208, (List.forall_mem_cons.mpr ⟨tw_210, (List.forall_mem_cons.mpr ⟨tw_212, (List.forall_mem_cons.mpr ⟨tw_214, (List.forall_mem_cons.mpr ⟨tw_216, (List.forall_mem_cons.mpr ⟨tw_218, (List.forall_mem_cons.mpr ⟨tw_220, (fun _ h => absurd h List.not_mem_nil)⟩)⟩)⟩)⟩)⟩)⟩)⟩)⟩)⟩)⟩)⟩)⟩)⟩)⟩)⟩)⟩) : ∀ w ∈ [Cond.laysFinal "ProofLibrary$Scopes" "ProofLibrary$Scopes" "library" "LProofLibrary$Library;", Cond.laysFinal "ProofLibrary$Scopes" "ProofLibrary$Scopes" "active" "[Z", Cond.laysFinal "ProofLibrary$Scopes" "ProofLibrary$Scopes" "activeFloat" "[I", Cond.laysFinal "ProofLibrary$Scopes" "ProofLibrary$Scopes" "variables" "[I", Cond.lays "ProofLibrary$Scopes" "ProofLibrary$Scopes" "variableCount" "I", Cond.laysFinal "ProofLibrary$Scopes" "ProofLibrary$Scopes" "holds" "[Z", Cond.laysFinal "ProofLibrary$Scopes" "ProofLibrary$Scopes" "hypotheses" "[I", Cond.lays "ProofLibrary$Scopes" "ProofLibrary$Scopes" "hypothesisCount" "I", Cond.laysFinal "ProofLibrary$Scopes" "ProofLibrary$Scopes" "pairX" "[I", Cond.laysFinal "ProofLibrary$Scopes" "ProofLibrary$Scopes" "pairY" "[I", Cond.lays "ProofLibrary$Scopes" "ProofLibrary$Scopes" "pairCount" "I", Cond.laysFinal "ProofLibrary$Scopes" "ProofLibrary$Scopes" "apartBits" "[J", Cond.laysFinal "ProofLibrary$Scopes" "ProofLibrary$Scopes" "marks" "[I", Cond.lays "ProofLibrary$Scopes" "ProofLibrary$Scopes" "depth" "I", Cond.laysFinal "ProofLibrary$Scopes" "ProofLibrary$Scopes" "met" "[I", Cond.lays "ProofLibrary$Scopes" "ProofLibrary$Scopes" "turn" "I"], w ∈ TB)
theorem xdfX9 : ∀ j, j < 16 → defaultValue (tyX9 j) = vp_V [.null, .null, .null, .null, .int 0, .null, .null, .int 0, .null, .null, .int 0, .null, .null, .int 0, .null, .int 0] j := fun j hj => by
  rcases (show j = 0 ∨ j = 1 ∨ j = 2 ∨ j = 3 ∨ j = 4 ∨ j = 5 ∨ j = 6 ∨ j = 7 ∨ j = 8 ∨ j = 9 ∨ j = 10 ∨ j = 11 ∨ j = 12 ∨ j = 13 ∨ j = 14 ∨ j = 15 by omega) with rfl | rfl | rfl | rfl | rfl | rfl | rfl | rfl | rfl | rfl | rfl | rfl | rfl | rfl | rfl | rfl <;> rfl
