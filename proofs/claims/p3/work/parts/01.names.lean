-- the tables' words, names, fields: laid by program out of the printed names
/-- a private method of a class that the tables say can be made, by its rows of tables_1 -/
def lw_okq (q : MethodName × Nat) : Prop := (q.1.cls ≠ "java/lang/invoke/MethodHandle" ∧ q.1.cls ≠ "java/lang/invoke/VarHandle") ∧ Cond.instantiable q.1.cls q.2 ∈ tables_1 ∧ Cond.privateMethod q.1 ∈ tables_1 ∧ Cond.instanceMethod q.1 ∈ tables_1
theorem lw_p0 : lw_okq (⟨"ProofLibrary", "putFour", "(I)V"⟩, 16) := ⟨⟨by decide +kernel, by decide +kernel⟩, List.mem_of_getElem? (i := 22) (by decide +kernel), List.mem_of_getElem? (i := 938) (by decide +kernel), List.mem_of_getElem? (i := 939) (by decide +kernel)⟩
theorem lw_p1 : lw_okq (⟨"ProofLibrary$Reader", "begin", "([C)V"⟩, 13) := ⟨⟨by decide +kernel, by decide +kernel⟩, List.mem_of_getElem? (i := 407) (by decide +kernel), List.mem_of_getElem? (i := 954) (by decide +kernel), List.mem_of_getElem? (i := 955) (by decide +kernel)⟩
theorem lw_p2 : lw_okq (⟨"ProofLibrary$Scopes", "mark", "()V"⟩, 16) := ⟨⟨by decide +kernel, by decide +kernel⟩, List.mem_of_getElem? (i := 157) (by decide +kernel), List.mem_of_getElem? (i := 970) (by decide +kernel), List.mem_of_getElem? (i := 971) (by decide +kernel)⟩
theorem lw_p3 : lw_okq (⟨"ProofLibrary$Reader", "token", "(II)I"⟩, 13) := ⟨⟨by decide +kernel, by decide +kernel⟩, List.mem_of_getElem? (i := 407) (by decide +kernel), List.mem_of_getElem? (i := 986) (by decide +kernel), List.mem_of_getElem? (i := 987) (by decide +kernel)⟩
theorem lw_p4 : lw_okq (⟨"ProofLibrary$Reader", "hasCommentMark", "(II)Z"⟩, 13) := ⟨⟨by decide +kernel, by decide +kernel⟩, List.mem_of_getElem? (i := 407) (by decide +kernel), List.mem_of_getElem? (i := 990) (by decide +kernel), List.mem_of_getElem? (i := 991) (by decide +kernel)⟩
theorem lw_p5 : lw_okq (⟨"ProofLibrary$Reader", "endRow", "()I"⟩, 13) := ⟨⟨by decide +kernel, by decide +kernel⟩, List.mem_of_getElem? (i := 407) (by decide +kernel), List.mem_of_getElem? (i := 994) (by decide +kernel), List.mem_of_getElem? (i := 995) (by decide +kernel)⟩
theorem lw_p6 : lw_okq (⟨"ProofLibrary$Reader", "endDeclaration", "(I)I"⟩, 13) := ⟨⟨by decide +kernel, by decide +kernel⟩, List.mem_of_getElem? (i := 407) (by decide +kernel), List.mem_of_getElem? (i := 998) (by decide +kernel), List.mem_of_getElem? (i := 999) (by decide +kernel)⟩
theorem lw_p7 : lw_okq (⟨"ProofLibrary$Reader", "endStatement", "()I"⟩, 13) := ⟨⟨by decide +kernel, by decide +kernel⟩, List.mem_of_getElem? (i := 407) (by decide +kernel), List.mem_of_getElem? (i := 1002) (by decide +kernel), List.mem_of_getElem? (i := 1003) (by decide +kernel)⟩
theorem lw_p8 : lw_okq (⟨"ProofLibrary$Scopes", "markVariables", "(I)V"⟩, 16) := ⟨⟨by decide +kernel, by decide +kernel⟩, List.mem_of_getElem? (i := 157) (by decide +kernel), List.mem_of_getElem? (i := 1014) (by decide +kernel), List.mem_of_getElem? (i := 1015) (by decide +kernel)⟩
theorem lw_p9 : lw_okq (⟨"ProofLibrary$Assertions", "takeHypotheses", "(I)Z"⟩, 20) := ⟨⟨by decide +kernel, by decide +kernel⟩, List.mem_of_getElem? (i := 225) (by decide +kernel), List.mem_of_getElem? (i := 1018) (by decide +kernel), List.mem_of_getElem? (i := 1019) (by decide +kernel)⟩
theorem lw_p10 : lw_okq (⟨"ProofLibrary$Assertions", "takePairs", "(I)Z"⟩, 20) := ⟨⟨by decide +kernel, by decide +kernel⟩, List.mem_of_getElem? (i := 225) (by decide +kernel), List.mem_of_getElem? (i := 1030) (by decide +kernel), List.mem_of_getElem? (i := 1031) (by decide +kernel)⟩
theorem lw_p11 : lw_okq (⟨"ProofLibrary$Reader", "endProof", "()I"⟩, 13) := ⟨⟨by decide +kernel, by decide +kernel⟩, List.mem_of_getElem? (i := 407) (by decide +kernel), List.mem_of_getElem? (i := 1044) (by decide +kernel), List.mem_of_getElem? (i := 1045) (by decide +kernel)⟩
theorem lw_p12 : lw_okq (⟨"ProofLibrary$Reader", "keyword", "(I)I"⟩, 13) := ⟨⟨by decide +kernel, by decide +kernel⟩, List.mem_of_getElem? (i := 407) (by decide +kernel), List.mem_of_getElem? (i := 1056) (by decide +kernel), List.mem_of_getElem? (i := 1057) (by decide +kernel)⟩
theorem lw_p13 : lw_okq (⟨"ProofLibrary$Reader", "declaration", "(I)I"⟩, 13) := ⟨⟨by decide +kernel, by decide +kernel⟩, List.mem_of_getElem? (i := 407) (by decide +kernel), List.mem_of_getElem? (i := 1060) (by decide +kernel), List.mem_of_getElem? (i := 1061) (by decide +kernel)⟩
theorem lw_p14 : lw_okq (⟨"ProofLibrary$Reader", "statement", "(I)I"⟩, 13) := ⟨⟨by decide +kernel, by decide +kernel⟩, List.mem_of_getElem? (i := 407) (by decide +kernel), List.mem_of_getElem? (i := 1064) (by decide +kernel), List.mem_of_getElem? (i := 1065) (by decide +kernel)⟩
theorem lw_p15 : lw_okq (⟨"ProofLibrary$Reader", "proof", "()I"⟩, 13) := ⟨⟨by decide +kernel, by decide +kernel⟩, List.mem_of_getElem? (i := 407) (by decide +kernel), List.mem_of_getElem? (i := 1068) (by decide +kernel), List.mem_of_getElem? (i := 1069) (by decide +kernel)⟩
def lw_privs_1 : List (MethodName × Nat) := [(⟨"ProofLibrary", "putFour", "(I)V"⟩, 16), (⟨"ProofLibrary$Reader", "begin", "([C)V"⟩, 13), (⟨"ProofLibrary$Scopes", "mark", "()V"⟩, 16), (⟨"ProofLibrary$Reader", "token", "(II)I"⟩, 13), (⟨"ProofLibrary$Reader", "hasCommentMark", "(II)Z"⟩, 13), (⟨"ProofLibrary$Reader", "endRow", "()I"⟩, 13), (⟨"ProofLibrary$Reader", "endDeclaration", "(I)I"⟩, 13), (⟨"ProofLibrary$Reader", "endStatement", "()I"⟩, 13), (⟨"ProofLibrary$Scopes", "markVariables", "(I)V"⟩, 16), (⟨"ProofLibrary$Assertions", "takeHypotheses", "(I)Z"⟩, 20), (⟨"ProofLibrary$Assertions", "takePairs", "(I)Z"⟩, 20), (⟨"ProofLibrary$Reader", "endProof", "()I"⟩, 13), (⟨"ProofLibrary$Reader", "keyword", "(I)I"⟩, 13), (⟨"ProofLibrary$Reader", "declaration", "(I)I"⟩, 13), (⟨"ProofLibrary$Reader", "statement", "(I)I"⟩, 13), (⟨"ProofLibrary$Reader", "proof", "()I"⟩, 13)]
theorem lw_r1 : ∀ q ∈ lw_privs_1, lw_okq q := List.forall_mem_cons.mpr ⟨lw_p0, List.forall_mem_cons.mpr ⟨lw_p1, List.forall_mem_cons.mpr ⟨lw_p2, List.forall_mem_cons.mpr ⟨lw_p3, List.forall_mem_cons.mpr ⟨lw_p4, List.forall_mem_cons.mpr ⟨lw_p5, List.forall_mem_cons.mpr ⟨lw_p6, List.forall_mem_cons.mpr ⟨lw_p7, List.forall_mem_cons.mpr ⟨lw_p8, List.forall_mem_cons.mpr ⟨lw_p9, List.forall_mem_cons.mpr ⟨lw_p10, List.forall_mem_cons.mpr ⟨lw_p11, List.forall_mem_cons.mpr ⟨lw_p12, List.forall_mem_cons.mpr ⟨lw_p13, List.forall_mem_cons.mpr ⟨lw_p14, List.forall_mem_cons.mpr ⟨lw_p15, fun _ h => absurd h List.not_mem_nil⟩⟩⟩⟩⟩⟩⟩⟩⟩⟩⟩⟩⟩⟩⟩⟩
theorem lw_p16 : lw_okq (⟨"ProofLibrary$Reader", "openScope", "()I"⟩, 13) := ⟨⟨by decide +kernel, by decide +kernel⟩, List.mem_of_getElem? (i := 407) (by decide +kernel), List.mem_of_getElem? (i := 1076) (by decide +kernel), List.mem_of_getElem? (i := 1077) (by decide +kernel)⟩
theorem lw_p17 : lw_okq (⟨"ProofLibrary$Reader", "closeScope", "()I"⟩, 13) := ⟨⟨by decide +kernel, by decide +kernel⟩, List.mem_of_getElem? (i := 407) (by decide +kernel), List.mem_of_getElem? (i := 1084) (by decide +kernel), List.mem_of_getElem? (i := 1085) (by decide +kernel)⟩
theorem lw_p18 : lw_okq (⟨"ProofLibrary$Scopes", "cut", "()V"⟩, 16) := ⟨⟨by decide +kernel, by decide +kernel⟩, List.mem_of_getElem? (i := 157) (by decide +kernel), List.mem_of_getElem? (i := 1092) (by decide +kernel), List.mem_of_getElem? (i := 1093) (by decide +kernel)⟩
theorem lw_p19 : lw_okq (⟨"ProofLibrary$Scopes", "turnPair", "(II)V"⟩, 16) := ⟨⟨by decide +kernel, by decide +kernel⟩, List.mem_of_getElem? (i := 157) (by decide +kernel), List.mem_of_getElem? (i := 1096) (by decide +kernel), List.mem_of_getElem? (i := 1097) (by decide +kernel)⟩
theorem lw_p20 : lw_okq (⟨"ProofLibrary$Reader", "hasDollar", "(II)Z"⟩, 13) := ⟨⟨by decide +kernel, by decide +kernel⟩, List.mem_of_getElem? (i := 407) (by decide +kernel), List.mem_of_getElem? (i := 1100) (by decide +kernel), List.mem_of_getElem? (i := 1101) (by decide +kernel)⟩
theorem lw_p21 : lw_okq (⟨"ProofLibrary$Library", "isName", "(I[CII)Z"⟩, 21) := ⟨⟨by decide +kernel, by decide +kernel⟩, List.mem_of_getElem? (i := 31) (by decide +kernel), List.mem_of_getElem? (i := 1111) (by decide +kernel), List.mem_of_getElem? (i := 1112) (by decide +kernel)⟩
theorem lw_p22 : lw_okq (⟨"ProofLibrary$Reader", "word", "(II)I"⟩, 13) := ⟨⟨by decide +kernel, by decide +kernel⟩, List.mem_of_getElem? (i := 407) (by decide +kernel), List.mem_of_getElem? (i := 1126) (by decide +kernel), List.mem_of_getElem? (i := 1127) (by decide +kernel)⟩
theorem lw_p23 : lw_okq (⟨"ProofLibrary$Reader", "label", "(II)I"⟩, 13) := ⟨⟨by decide +kernel, by decide +kernel⟩, List.mem_of_getElem? (i := 407) (by decide +kernel), List.mem_of_getElem? (i := 1130) (by decide +kernel), List.mem_of_getElem? (i := 1131) (by decide +kernel)⟩
theorem lw_p24 : lw_okq (⟨"ProofLibrary$Library", "addName", "([CIII)V"⟩, 21) := ⟨⟨by decide +kernel, by decide +kernel⟩, List.mem_of_getElem? (i := 31) (by decide +kernel), List.mem_of_getElem? (i := 1148) (by decide +kernel), List.mem_of_getElem? (i := 1149) (by decide +kernel)⟩
theorem lw_p25 : lw_okq (⟨"ProofLibrary$Reader", "declareConstant", "(II)I"⟩, 13) := ⟨⟨by decide +kernel, by decide +kernel⟩, List.mem_of_getElem? (i := 407) (by decide +kernel), List.mem_of_getElem? (i := 1152) (by decide +kernel), List.mem_of_getElem? (i := 1153) (by decide +kernel)⟩
theorem lw_p26 : lw_okq (⟨"ProofLibrary$Reader", "faultOfNewSymbol", "(I)I"⟩, 13) := ⟨⟨by decide +kernel, by decide +kernel⟩, List.mem_of_getElem? (i := 407) (by decide +kernel), List.mem_of_getElem? (i := 1156) (by decide +kernel), List.mem_of_getElem? (i := 1157) (by decide +kernel)⟩
theorem lw_p27 : lw_okq (⟨"ProofLibrary$Reader", "declareVariable", "(II)I"⟩, 13) := ⟨⟨by decide +kernel, by decide +kernel⟩, List.mem_of_getElem? (i := 407) (by decide +kernel), List.mem_of_getElem? (i := 1164) (by decide +kernel), List.mem_of_getElem? (i := 1165) (by decide +kernel)⟩
theorem lw_p28 : lw_okq (⟨"ProofLibrary$Reader", "takeApart", "(I)I"⟩, 13) := ⟨⟨by decide +kernel, by decide +kernel⟩, List.mem_of_getElem? (i := 407) (by decide +kernel), List.mem_of_getElem? (i := 1176) (by decide +kernel), List.mem_of_getElem? (i := 1177) (by decide +kernel)⟩
theorem lw_p29 : lw_okq (⟨"ProofLibrary$Reader", "takeSymbol", "(I)I"⟩, 13) := ⟨⟨by decide +kernel, by decide +kernel⟩, List.mem_of_getElem? (i := 407) (by decide +kernel), List.mem_of_getElem? (i := 1188) (by decide +kernel), List.mem_of_getElem? (i := 1189) (by decide +kernel)⟩
theorem lw_p30 : lw_okq (⟨"ProofLibrary$Reader", "firstSymbol", "(I)I"⟩, 13) := ⟨⟨by decide +kernel, by decide +kernel⟩, List.mem_of_getElem? (i := 407) (by decide +kernel), List.mem_of_getElem? (i := 1192) (by decide +kernel), List.mem_of_getElem? (i := 1193) (by decide +kernel)⟩
theorem lw_p31 : lw_okq (⟨"ProofLibrary$Reader", "floatingVariable", "(I)I"⟩, 13) := ⟨⟨by decide +kernel, by decide +kernel⟩, List.mem_of_getElem? (i := 407) (by decide +kernel), List.mem_of_getElem? (i := 1204) (by decide +kernel), List.mem_of_getElem? (i := 1205) (by decide +kernel)⟩
def lw_privs_2 : List (MethodName × Nat) := [(⟨"ProofLibrary$Reader", "openScope", "()I"⟩, 13), (⟨"ProofLibrary$Reader", "closeScope", "()I"⟩, 13), (⟨"ProofLibrary$Scopes", "cut", "()V"⟩, 16), (⟨"ProofLibrary$Scopes", "turnPair", "(II)V"⟩, 16), (⟨"ProofLibrary$Reader", "hasDollar", "(II)Z"⟩, 13), (⟨"ProofLibrary$Library", "isName", "(I[CII)Z"⟩, 21), (⟨"ProofLibrary$Reader", "word", "(II)I"⟩, 13), (⟨"ProofLibrary$Reader", "label", "(II)I"⟩, 13), (⟨"ProofLibrary$Library", "addName", "([CIII)V"⟩, 21), (⟨"ProofLibrary$Reader", "declareConstant", "(II)I"⟩, 13), (⟨"ProofLibrary$Reader", "faultOfNewSymbol", "(I)I"⟩, 13), (⟨"ProofLibrary$Reader", "declareVariable", "(II)I"⟩, 13), (⟨"ProofLibrary$Reader", "takeApart", "(I)I"⟩, 13), (⟨"ProofLibrary$Reader", "takeSymbol", "(I)I"⟩, 13), (⟨"ProofLibrary$Reader", "firstSymbol", "(I)I"⟩, 13), (⟨"ProofLibrary$Reader", "floatingVariable", "(I)I"⟩, 13)]
theorem lw_r2 : ∀ q ∈ lw_privs_2, lw_okq q := List.forall_mem_cons.mpr ⟨lw_p16, List.forall_mem_cons.mpr ⟨lw_p17, List.forall_mem_cons.mpr ⟨lw_p18, List.forall_mem_cons.mpr ⟨lw_p19, List.forall_mem_cons.mpr ⟨lw_p20, List.forall_mem_cons.mpr ⟨lw_p21, List.forall_mem_cons.mpr ⟨lw_p22, List.forall_mem_cons.mpr ⟨lw_p23, List.forall_mem_cons.mpr ⟨lw_p24, List.forall_mem_cons.mpr ⟨lw_p25, List.forall_mem_cons.mpr ⟨lw_p26, List.forall_mem_cons.mpr ⟨lw_p27, List.forall_mem_cons.mpr ⟨lw_p28, List.forall_mem_cons.mpr ⟨lw_p29, List.forall_mem_cons.mpr ⟨lw_p30, List.forall_mem_cons.mpr ⟨lw_p31, fun _ h => absurd h List.not_mem_nil⟩⟩⟩⟩⟩⟩⟩⟩⟩⟩⟩⟩⟩⟩⟩⟩
theorem lw_p32 : lw_okq (⟨"ProofLibrary$Steps", "plainStep", "([CIII)I"⟩, 21) := ⟨⟨by decide +kernel, by decide +kernel⟩, List.mem_of_getElem? (i := 409) (by decide +kernel), List.mem_of_getElem? (i := 1219) (by decide +kernel), List.mem_of_getElem? (i := 1220) (by decide +kernel)⟩
theorem lw_p33 : lw_okq (⟨"ProofLibrary$Steps", "isFull", "()Z"⟩, 21) := ⟨⟨by decide +kernel, by decide +kernel⟩, List.mem_of_getElem? (i := 409) (by decide +kernel), List.mem_of_getElem? (i := 1223) (by decide +kernel), List.mem_of_getElem? (i := 1224) (by decide +kernel)⟩
theorem lw_p34 : lw_okq (⟨"ProofLibrary$Steps", "isUsable", "(I)Z"⟩, 21) := ⟨⟨by decide +kernel, by decide +kernel⟩, List.mem_of_getElem? (i := 409) (by decide +kernel), List.mem_of_getElem? (i := 1228) (by decide +kernel), List.mem_of_getElem? (i := 1229) (by decide +kernel)⟩
theorem lw_p35 : lw_okq (⟨"ProofLibrary$Steps", "addStep", "(I)V"⟩, 21) := ⟨⟨by decide +kernel, by decide +kernel⟩, List.mem_of_getElem? (i := 409) (by decide +kernel), List.mem_of_getElem? (i := 1232) (by decide +kernel), List.mem_of_getElem? (i := 1233) (by decide +kernel)⟩
theorem lw_p36 : lw_okq (⟨"ProofLibrary$Steps", "listLabel", "([CIII)I"⟩, 21) := ⟨⟨by decide +kernel, by decide +kernel⟩, List.mem_of_getElem? (i := 409) (by decide +kernel), List.mem_of_getElem? (i := 1236) (by decide +kernel), List.mem_of_getElem? (i := 1237) (by decide +kernel)⟩
theorem lw_p37 : lw_okq (⟨"ProofLibrary$Steps", "isListed", "(I)Z"⟩, 21) := ⟨⟨by decide +kernel, by decide +kernel⟩, List.mem_of_getElem? (i := 409) (by decide +kernel), List.mem_of_getElem? (i := 1244) (by decide +kernel), List.mem_of_getElem? (i := 1245) (by decide +kernel)⟩
theorem lw_p38 : lw_okq (⟨"ProofLibrary$Steps", "letters", "([CII)I"⟩, 21) := ⟨⟨by decide +kernel, by decide +kernel⟩, List.mem_of_getElem? (i := 409) (by decide +kernel), List.mem_of_getElem? (i := 1248) (by decide +kernel), List.mem_of_getElem? (i := 1249) (by decide +kernel)⟩
theorem lw_p39 : lw_okq (⟨"ProofLibrary$Steps", "letter", "(I)I"⟩, 21) := ⟨⟨by decide +kernel, by decide +kernel⟩, List.mem_of_getElem? (i := 409) (by decide +kernel), List.mem_of_getElem? (i := 1252) (by decide +kernel), List.mem_of_getElem? (i := 1253) (by decide +kernel)⟩
theorem lw_p40 : lw_okq (⟨"ProofLibrary$Steps", "save", "()I"⟩, 21) := ⟨⟨by decide +kernel, by decide +kernel⟩, List.mem_of_getElem? (i := 409) (by decide +kernel), List.mem_of_getElem? (i := 1256) (by decide +kernel), List.mem_of_getElem? (i := 1257) (by decide +kernel)⟩
theorem lw_p41 : lw_okq (⟨"ProofLibrary$Steps", "endNumber", "(I)I"⟩, 21) := ⟨⟨by decide +kernel, by decide +kernel⟩, List.mem_of_getElem? (i := 409) (by decide +kernel), List.mem_of_getElem? (i := 1261) (by decide +kernel), List.mem_of_getElem? (i := 1262) (by decide +kernel)⟩
theorem lw_p42 : lw_okq (⟨"ProofLibrary$Reader", "endTheorem", "()I"⟩, 13) := ⟨⟨by decide +kernel, by decide +kernel⟩, List.mem_of_getElem? (i := 407) (by decide +kernel), List.mem_of_getElem? (i := 1266) (by decide +kernel), List.mem_of_getElem? (i := 1267) (by decide +kernel)⟩
theorem lw_p43 : lw_okq (⟨"ProofLibrary$Steps", "putAgain", "(I)I"⟩, 21) := ⟨⟨by decide +kernel, by decide +kernel⟩, List.mem_of_getElem? (i := 409) (by decide +kernel), List.mem_of_getElem? (i := 1278) (by decide +kernel), List.mem_of_getElem? (i := 1279) (by decide +kernel)⟩
theorem lw_p44 : lw_okq (⟨"ProofLibrary$Steps", "take", "(I)I"⟩, 21) := ⟨⟨by decide +kernel, by decide +kernel⟩, List.mem_of_getElem? (i := 409) (by decide +kernel), List.mem_of_getElem? (i := 1283) (by decide +kernel), List.mem_of_getElem? (i := 1284) (by decide +kernel)⟩
theorem lw_p45 : lw_okq (⟨"ProofLibrary$Pile", "isEssential", "(II)Z"⟩, 17) := ⟨⟨by decide +kernel, by decide +kernel⟩, List.mem_of_getElem? (i := 338) (by decide +kernel), List.mem_of_getElem? (i := 1303) (by decide +kernel), List.mem_of_getElem? (i := 1304) (by decide +kernel)⟩
theorem lw_p46 : lw_okq (⟨"ProofLibrary$Pile", "isSame", "(III)Z"⟩, 17) := ⟨⟨by decide +kernel, by decide +kernel⟩, List.mem_of_getElem? (i := 338) (by decide +kernel), List.mem_of_getElem? (i := 1307) (by decide +kernel), List.mem_of_getElem? (i := 1308) (by decide +kernel)⟩
theorem lw_p47 : lw_okq (⟨"ProofLibrary$Pile", "gather", "(I[I)I"⟩, 17) := ⟨⟨by decide +kernel, by decide +kernel⟩, List.mem_of_getElem? (i := 338) (by decide +kernel), List.mem_of_getElem? (i := 1321) (by decide +kernel), List.mem_of_getElem? (i := 1322) (by decide +kernel)⟩
def lw_privs_3 : List (MethodName × Nat) := [(⟨"ProofLibrary$Steps", "plainStep", "([CIII)I"⟩, 21), (⟨"ProofLibrary$Steps", "isFull", "()Z"⟩, 21), (⟨"ProofLibrary$Steps", "isUsable", "(I)Z"⟩, 21), (⟨"ProofLibrary$Steps", "addStep", "(I)V"⟩, 21), (⟨"ProofLibrary$Steps", "listLabel", "([CIII)I"⟩, 21), (⟨"ProofLibrary$Steps", "isListed", "(I)Z"⟩, 21), (⟨"ProofLibrary$Steps", "letters", "([CII)I"⟩, 21), (⟨"ProofLibrary$Steps", "letter", "(I)I"⟩, 21), (⟨"ProofLibrary$Steps", "save", "()I"⟩, 21), (⟨"ProofLibrary$Steps", "endNumber", "(I)I"⟩, 21), (⟨"ProofLibrary$Reader", "endTheorem", "()I"⟩, 13), (⟨"ProofLibrary$Steps", "putAgain", "(I)I"⟩, 21), (⟨"ProofLibrary$Steps", "take", "(I)I"⟩, 21), (⟨"ProofLibrary$Pile", "isEssential", "(II)Z"⟩, 17), (⟨"ProofLibrary$Pile", "isSame", "(III)Z"⟩, 17), (⟨"ProofLibrary$Pile", "gather", "(I[I)I"⟩, 17)]
theorem lw_r3 : ∀ q ∈ lw_privs_3, lw_okq q := List.forall_mem_cons.mpr ⟨lw_p32, List.forall_mem_cons.mpr ⟨lw_p33, List.forall_mem_cons.mpr ⟨lw_p34, List.forall_mem_cons.mpr ⟨lw_p35, List.forall_mem_cons.mpr ⟨lw_p36, List.forall_mem_cons.mpr ⟨lw_p37, List.forall_mem_cons.mpr ⟨lw_p38, List.forall_mem_cons.mpr ⟨lw_p39, List.forall_mem_cons.mpr ⟨lw_p40, List.forall_mem_cons.mpr ⟨lw_p41, List.forall_mem_cons.mpr ⟨lw_p42, List.forall_mem_cons.mpr ⟨lw_p43, List.forall_mem_cons.mpr ⟨lw_p44, List.forall_mem_cons.mpr ⟨lw_p45, List.forall_mem_cons.mpr ⟨lw_p46, List.forall_mem_cons.mpr ⟨lw_p47, fun _ h => absurd h List.not_mem_nil⟩⟩⟩⟩⟩⟩⟩⟩⟩⟩⟩⟩⟩⟩⟩⟩
theorem lw_p48 : lw_okq (⟨"ProofLibrary$Pile", "areApart", "(II)Z"⟩, 17) := ⟨⟨by decide +kernel, by decide +kernel⟩, List.mem_of_getElem? (i := 338) (by decide +kernel), List.mem_of_getElem? (i := 1329) (by decide +kernel), List.mem_of_getElem? (i := 1330) (by decide +kernel)⟩
theorem lw_p49 : lw_okq (⟨"ProofLibrary$Steps", "putNew", "(Z)I"⟩, 21) := ⟨⟨by decide +kernel, by decide +kernel⟩, List.mem_of_getElem? (i := 409) (by decide +kernel), List.mem_of_getElem? (i := 1342) (by decide +kernel), List.mem_of_getElem? (i := 1343) (by decide +kernel)⟩
theorem lw_p50 : lw_okq (⟨"ProofLibrary$Reader", "faultAtEnd", "()I"⟩, 13) := ⟨⟨by decide +kernel, by decide +kernel⟩, List.mem_of_getElem? (i := 407) (by decide +kernel), List.mem_of_getElem? (i := 1374) (by decide +kernel), List.mem_of_getElem? (i := 1375) (by decide +kernel)⟩
theorem lw_p51 : lw_okq (⟨"ProofLibrary", "useTape", "()V"⟩, 16) := ⟨⟨by decide +kernel, by decide +kernel⟩, List.mem_of_getElem? (i := 22) (by decide +kernel), List.mem_of_getElem? (i := 1390) (by decide +kernel), List.mem_of_getElem? (i := 1391) (by decide +kernel)⟩
theorem lw_p52 : lw_okq (⟨"ProofLibrary", "isRow", "(II)Z"⟩, 16) := ⟨⟨by decide +kernel, by decide +kernel⟩, List.mem_of_getElem? (i := 22) (by decide +kernel), List.mem_of_getElem? (i := 1497) (by decide +kernel), List.mem_of_getElem? (i := 1498) (by decide +kernel)⟩
theorem lw_p53 : lw_okq (⟨"ProofLibrary", "printSymbol", "(I)I"⟩, 16) := ⟨⟨by decide +kernel, by decide +kernel⟩, List.mem_of_getElem? (i := 22) (by decide +kernel), List.mem_of_getElem? (i := 1529) (by decide +kernel), List.mem_of_getElem? (i := 1530) (by decide +kernel)⟩
theorem lw_p54 : lw_okq (⟨"ProofLibrary", "printStatement", "(I)I"⟩, 16) := ⟨⟨by decide +kernel, by decide +kernel⟩, List.mem_of_getElem? (i := 22) (by decide +kernel), List.mem_of_getElem? (i := 1558) (by decide +kernel), List.mem_of_getElem? (i := 1559) (by decide +kernel)⟩
theorem lw_p55 : lw_okq (⟨"ProofLibrary", "printRow", "(II)I"⟩, 16) := ⟨⟨by decide +kernel, by decide +kernel⟩, List.mem_of_getElem? (i := 22) (by decide +kernel), List.mem_of_getElem? (i := 1562) (by decide +kernel), List.mem_of_getElem? (i := 1563) (by decide +kernel)⟩
theorem lw_p56 : lw_okq (⟨"ProofLibrary", "printPacked", "(I)I"⟩, 16) := ⟨⟨by decide +kernel, by decide +kernel⟩, List.mem_of_getElem? (i := 22) (by decide +kernel), List.mem_of_getElem? (i := 1588) (by decide +kernel), List.mem_of_getElem? (i := 1589) (by decide +kernel)⟩
theorem lw_p57 : lw_okq (⟨"ProofLibrary$Packer", "findSame", "(I)V"⟩, 19) := ⟨⟨by decide +kernel, by decide +kernel⟩, List.mem_of_getElem? (i := 526) (by decide +kernel), List.mem_of_getElem? (i := 1596) (by decide +kernel), List.mem_of_getElem? (i := 1597) (by decide +kernel)⟩
theorem lw_p58 : lw_okq (⟨"ProofLibrary$Packer", "hash", "(I)I"⟩, 19) := ⟨⟨by decide +kernel, by decide +kernel⟩, List.mem_of_getElem? (i := 526) (by decide +kernel), List.mem_of_getElem? (i := 1601) (by decide +kernel), List.mem_of_getElem? (i := 1602) (by decide +kernel)⟩
theorem lw_p59 : lw_okq (⟨"ProofLibrary$Packer", "isAlike", "(II)Z"⟩, 19) := ⟨⟨by decide +kernel, by decide +kernel⟩, List.mem_of_getElem? (i := 526) (by decide +kernel), List.mem_of_getElem? (i := 1607) (by decide +kernel), List.mem_of_getElem? (i := 1608) (by decide +kernel)⟩
theorem lw_p60 : lw_okq (⟨"ProofLibrary$Packer", "walk", "(IZ)V"⟩, 19) := ⟨⟨by decide +kernel, by decide +kernel⟩, List.mem_of_getElem? (i := 526) (by decide +kernel), List.mem_of_getElem? (i := 1612) (by decide +kernel), List.mem_of_getElem? (i := 1613) (by decide +kernel)⟩
theorem lw_p61 : lw_okq (⟨"ProofLibrary$Packer", "enter", "(IZ)V"⟩, 19) := ⟨⟨by decide +kernel, by decide +kernel⟩, List.mem_of_getElem? (i := 526) (by decide +kernel), List.mem_of_getElem? (i := 1616) (by decide +kernel), List.mem_of_getElem? (i := 1617) (by decide +kernel)⟩
theorem lw_p62 : lw_okq (⟨"ProofLibrary$Packer", "tell", "(I)V"⟩, 19) := ⟨⟨by decide +kernel, by decide +kernel⟩, List.mem_of_getElem? (i := 526) (by decide +kernel), List.mem_of_getElem? (i := 1620) (by decide +kernel), List.mem_of_getElem? (i := 1621) (by decide +kernel)⟩
theorem lw_p63 : lw_okq (⟨"ProofLibrary$Packer", "giveNumbers", "(I)V"⟩, 19) := ⟨⟨by decide +kernel, by decide +kernel⟩, List.mem_of_getElem? (i := 526) (by decide +kernel), List.mem_of_getElem? (i := 1625) (by decide +kernel), List.mem_of_getElem? (i := 1626) (by decide +kernel)⟩
def lw_privs_4 : List (MethodName × Nat) := [(⟨"ProofLibrary$Pile", "areApart", "(II)Z"⟩, 17), (⟨"ProofLibrary$Steps", "putNew", "(Z)I"⟩, 21), (⟨"ProofLibrary$Reader", "faultAtEnd", "()I"⟩, 13), (⟨"ProofLibrary", "useTape", "()V"⟩, 16), (⟨"ProofLibrary", "isRow", "(II)Z"⟩, 16), (⟨"ProofLibrary", "printSymbol", "(I)I"⟩, 16), (⟨"ProofLibrary", "printStatement", "(I)I"⟩, 16), (⟨"ProofLibrary", "printRow", "(II)I"⟩, 16), (⟨"ProofLibrary", "printPacked", "(I)I"⟩, 16), (⟨"ProofLibrary$Packer", "findSame", "(I)V"⟩, 19), (⟨"ProofLibrary$Packer", "hash", "(I)I"⟩, 19), (⟨"ProofLibrary$Packer", "isAlike", "(II)Z"⟩, 19), (⟨"ProofLibrary$Packer", "walk", "(IZ)V"⟩, 19), (⟨"ProofLibrary$Packer", "enter", "(IZ)V"⟩, 19), (⟨"ProofLibrary$Packer", "tell", "(I)V"⟩, 19), (⟨"ProofLibrary$Packer", "giveNumbers", "(I)V"⟩, 19)]
theorem lw_r4 : ∀ q ∈ lw_privs_4, lw_okq q := List.forall_mem_cons.mpr ⟨lw_p48, List.forall_mem_cons.mpr ⟨lw_p49, List.forall_mem_cons.mpr ⟨lw_p50, List.forall_mem_cons.mpr ⟨lw_p51, List.forall_mem_cons.mpr ⟨lw_p52, List.forall_mem_cons.mpr ⟨lw_p53, List.forall_mem_cons.mpr ⟨lw_p54, List.forall_mem_cons.mpr ⟨lw_p55, List.forall_mem_cons.mpr ⟨lw_p56, List.forall_mem_cons.mpr ⟨lw_p57, List.forall_mem_cons.mpr ⟨lw_p58, List.forall_mem_cons.mpr ⟨lw_p59, List.forall_mem_cons.mpr ⟨lw_p60, List.forall_mem_cons.mpr ⟨lw_p61, List.forall_mem_cons.mpr ⟨lw_p62, List.forall_mem_cons.mpr ⟨lw_p63, fun _ h => absurd h List.not_mem_nil⟩⟩⟩⟩⟩⟩⟩⟩⟩⟩⟩⟩⟩⟩⟩⟩
theorem lw_p64 : lw_okq (⟨"ProofLibrary", "printUnpacked", "(I)I"⟩, 16) := ⟨⟨by decide +kernel, by decide +kernel⟩, List.mem_of_getElem? (i := 22) (by decide +kernel), List.mem_of_getElem? (i := 1654) (by decide +kernel), List.mem_of_getElem? (i := 1655) (by decide +kernel)⟩
theorem lw_p65 : lw_okq (⟨"ProofLibrary", "printTree", "(I)I"⟩, 16) := ⟨⟨by decide +kernel, by decide +kernel⟩, List.mem_of_getElem? (i := 22) (by decide +kernel), List.mem_of_getElem? (i := 1664) (by decide +kernel), List.mem_of_getElem? (i := 1665) (by decide +kernel)⟩
theorem lw_p66 : lw_okq (⟨"ProofLibrary", "treesOf", "(I)I"⟩, 16) := ⟨⟨by decide +kernel, by decide +kernel⟩, List.mem_of_getElem? (i := 22) (by decide +kernel), List.mem_of_getElem? (i := 1668) (by decide +kernel), List.mem_of_getElem? (i := 1669) (by decide +kernel)⟩
theorem lw_p67 : lw_okq (⟨"ProofLibrary$Rules", "constantNamed", "([C)I"⟩, 17) := ⟨⟨by decide +kernel, by decide +kernel⟩, List.mem_of_getElem? (i := 594) (by decide +kernel), List.mem_of_getElem? (i := 1678) (by decide +kernel), List.mem_of_getElem? (i := 1679) (by decide +kernel)⟩
theorem lw_p68 : lw_okq (⟨"ProofLibrary$Rules", "insert", "(I)V"⟩, 17) := ⟨⟨by decide +kernel, by decide +kernel⟩, List.mem_of_getElem? (i := 594) (by decide +kernel), List.mem_of_getElem? (i := 1695) (by decide +kernel), List.mem_of_getElem? (i := 1696) (by decide +kernel)⟩
theorem lw_p69 : lw_okq (⟨"ProofLibrary$Rules", "child", "(III)I"⟩, 17) := ⟨⟨by decide +kernel, by decide +kernel⟩, List.mem_of_getElem? (i := 594) (by decide +kernel), List.mem_of_getElem? (i := 1699) (by decide +kernel), List.mem_of_getElem? (i := 1700) (by decide +kernel)⟩
theorem lw_p70 : lw_okq (⟨"ProofLibrary$Chart", "forgetRow", "()V"⟩, 18) := ⟨⟨by decide +kernel, by decide +kernel⟩, List.mem_of_getElem? (i := 664) (by decide +kernel), List.mem_of_getElem? (i := 1707) (by decide +kernel), List.mem_of_getElem? (i := 1708) (by decide +kernel)⟩
theorem lw_p71 : lw_okq (⟨"ProofLibrary$Chart", "parseFromStart", "()V"⟩, 18) := ⟨⟨by decide +kernel, by decide +kernel⟩, List.mem_of_getElem? (i := 664) (by decide +kernel), List.mem_of_getElem? (i := 1724) (by decide +kernel), List.mem_of_getElem? (i := 1725) (by decide +kernel)⟩
theorem lw_p72 : lw_okq (⟨"ProofLibrary$Chart", "add", "(IJJI)V"⟩, 18) := ⟨⟨by decide +kernel, by decide +kernel⟩, List.mem_of_getElem? (i := 664) (by decide +kernel), List.mem_of_getElem? (i := 1732) (by decide +kernel), List.mem_of_getElem? (i := 1733) (by decide +kernel)⟩
theorem lw_p73 : lw_okq (⟨"ProofLibrary$Chart", "walk", "(IJJZ)V"⟩, 18) := ⟨⟨by decide +kernel, by decide +kernel⟩, List.mem_of_getElem? (i := 664) (by decide +kernel), List.mem_of_getElem? (i := 1737) (by decide +kernel), List.mem_of_getElem? (i := 1738) (by decide +kernel)⟩
theorem lw_p74 : lw_okq (⟨"ProofLibrary$Chart", "addRules", "(IJJ)V"⟩, 18) := ⟨⟨by decide +kernel, by decide +kernel⟩, List.mem_of_getElem? (i := 664) (by decide +kernel), List.mem_of_getElem? (i := 1741) (by decide +kernel), List.mem_of_getElem? (i := 1742) (by decide +kernel)⟩
theorem lw_p75 : lw_okq (⟨"ProofLibrary$Chart", "step", "(II)Z"⟩, 18) := ⟨⟨by decide +kernel, by decide +kernel⟩, List.mem_of_getElem? (i := 664) (by decide +kernel), List.mem_of_getElem? (i := 1746) (by decide +kernel), List.mem_of_getElem? (i := 1747) (by decide +kernel)⟩
theorem lw_p76 : lw_okq (⟨"ProofLibrary$Chart", "addUnits", "(I)V"⟩, 18) := ⟨⟨by decide +kernel, by decide +kernel⟩, List.mem_of_getElem? (i := 664) (by decide +kernel), List.mem_of_getElem? (i := 1750) (by decide +kernel), List.mem_of_getElem? (i := 1751) (by decide +kernel)⟩
theorem lw_p77 : lw_okq (⟨"ProofLibrary$Chart", "hasUnits", "(I)Z"⟩, 18) := ⟨⟨by decide +kernel, by decide +kernel⟩, List.mem_of_getElem? (i := 664) (by decide +kernel), List.mem_of_getElem? (i := 1754) (by decide +kernel), List.mem_of_getElem? (i := 1755) (by decide +kernel)⟩
theorem lw_p78 : lw_okq (⟨"ProofLibrary$Chart", "reaches", "(II)Z"⟩, 18) := ⟨⟨by decide +kernel, by decide +kernel⟩, List.mem_of_getElem? (i := 664) (by decide +kernel), List.mem_of_getElem? (i := 1758) (by decide +kernel), List.mem_of_getElem? (i := 1759) (by decide +kernel)⟩
theorem lw_p79 : lw_okq (⟨"ProofLibrary$Chart", "countUnits", "()Z"⟩, 18) := ⟨⟨by decide +kernel, by decide +kernel⟩, List.mem_of_getElem? (i := 664) (by decide +kernel), List.mem_of_getElem? (i := 1762) (by decide +kernel), List.mem_of_getElem? (i := 1763) (by decide +kernel)⟩
def lw_privs_5 : List (MethodName × Nat) := [(⟨"ProofLibrary", "printUnpacked", "(I)I"⟩, 16), (⟨"ProofLibrary", "printTree", "(I)I"⟩, 16), (⟨"ProofLibrary", "treesOf", "(I)I"⟩, 16), (⟨"ProofLibrary$Rules", "constantNamed", "([C)I"⟩, 17), (⟨"ProofLibrary$Rules", "insert", "(I)V"⟩, 17), (⟨"ProofLibrary$Rules", "child", "(III)I"⟩, 17), (⟨"ProofLibrary$Chart", "forgetRow", "()V"⟩, 18), (⟨"ProofLibrary$Chart", "parseFromStart", "()V"⟩, 18), (⟨"ProofLibrary$Chart", "add", "(IJJI)V"⟩, 18), (⟨"ProofLibrary$Chart", "walk", "(IJJZ)V"⟩, 18), (⟨"ProofLibrary$Chart", "addRules", "(IJJ)V"⟩, 18), (⟨"ProofLibrary$Chart", "step", "(II)Z"⟩, 18), (⟨"ProofLibrary$Chart", "addUnits", "(I)V"⟩, 18), (⟨"ProofLibrary$Chart", "hasUnits", "(I)Z"⟩, 18), (⟨"ProofLibrary$Chart", "reaches", "(II)Z"⟩, 18), (⟨"ProofLibrary$Chart", "countUnits", "()Z"⟩, 18)]
theorem lw_r5 : ∀ q ∈ lw_privs_5, lw_okq q := List.forall_mem_cons.mpr ⟨lw_p64, List.forall_mem_cons.mpr ⟨lw_p65, List.forall_mem_cons.mpr ⟨lw_p66, List.forall_mem_cons.mpr ⟨lw_p67, List.forall_mem_cons.mpr ⟨lw_p68, List.forall_mem_cons.mpr ⟨lw_p69, List.forall_mem_cons.mpr ⟨lw_p70, List.forall_mem_cons.mpr ⟨lw_p71, List.forall_mem_cons.mpr ⟨lw_p72, List.forall_mem_cons.mpr ⟨lw_p73, List.forall_mem_cons.mpr ⟨lw_p74, List.forall_mem_cons.mpr ⟨lw_p75, List.forall_mem_cons.mpr ⟨lw_p76, List.forall_mem_cons.mpr ⟨lw_p77, List.forall_mem_cons.mpr ⟨lw_p78, List.forall_mem_cons.mpr ⟨lw_p79, fun _ h => absurd h List.not_mem_nil⟩⟩⟩⟩⟩⟩⟩⟩⟩⟩⟩⟩⟩⟩⟩⟩
theorem lw_p80 : lw_okq (⟨"ProofLibrary$Tree", "part", "(III)V"⟩, 15) := ⟨⟨by decide +kernel, by decide +kernel⟩, List.mem_of_getElem? (i := 732) (by decide +kernel), List.mem_of_getElem? (i := 1777) (by decide +kernel), List.mem_of_getElem? (i := 1778) (by decide +kernel)⟩
theorem lw_p81 : lw_okq (⟨"ProofLibrary$Tree", "startsOf", "(IJII)J"⟩, 15) := ⟨⟨by decide +kernel, by decide +kernel⟩, List.mem_of_getElem? (i := 732) (by decide +kernel), List.mem_of_getElem? (i := 1782) (by decide +kernel), List.mem_of_getElem? (i := 1783) (by decide +kernel)⟩
theorem lw_p82 : lw_okq (⟨"ProofLibrary$Tree", "sortOf", "(I)I"⟩, 15) := ⟨⟨by decide +kernel, by decide +kernel⟩, List.mem_of_getElem? (i := 732) (by decide +kernel), List.mem_of_getElem? (i := 1786) (by decide +kernel), List.mem_of_getElem? (i := 1787) (by decide +kernel)⟩
theorem lw_p83 : lw_okq (⟨"ProofLibrary", "printWithout", "(I)I"⟩, 16) := ⟨⟨by decide +kernel, by decide +kernel⟩, List.mem_of_getElem? (i := 22) (by decide +kernel), List.mem_of_getElem? (i := 1800) (by decide +kernel), List.mem_of_getElem? (i := 1801) (by decide +kernel)⟩
theorem lw_p84 : lw_okq (⟨"ProofLibrary$Definitions", "noteUses", "(I)V"⟩, 21) := ⟨⟨by decide +kernel, by decide +kernel⟩, List.mem_of_getElem? (i := 790) (by decide +kernel), List.mem_of_getElem? (i := 1813) (by decide +kernel), List.mem_of_getElem? (i := 1814) (by decide +kernel)⟩
theorem lw_p85 : lw_okq (⟨"ProofLibrary$Definitions", "canDefine", "(I)Z"⟩, 21) := ⟨⟨by decide +kernel, by decide +kernel⟩, List.mem_of_getElem? (i := 790) (by decide +kernel), List.mem_of_getElem? (i := 1818) (by decide +kernel), List.mem_of_getElem? (i := 1819) (by decide +kernel)⟩
theorem lw_p86 : lw_okq (⟨"ProofLibrary$Definitions", "partSides", "()Z"⟩, 21) := ⟨⟨by decide +kernel, by decide +kernel⟩, List.mem_of_getElem? (i := 790) (by decide +kernel), List.mem_of_getElem? (i := 1822) (by decide +kernel), List.mem_of_getElem? (i := 1823) (by decide +kernel)⟩
theorem lw_p87 : lw_okq (⟨"ProofLibrary$Definitions", "fillSlots", "(I)Z"⟩, 21) := ⟨⟨by decide +kernel, by decide +kernel⟩, List.mem_of_getElem? (i := 790) (by decide +kernel), List.mem_of_getElem? (i := 1830) (by decide +kernel), List.mem_of_getElem? (i := 1831) (by decide +kernel)⟩
theorem lw_p88 : lw_okq (⟨"ProofLibrary$Definitions", "secondHasNoOther", "(I)Z"⟩, 21) := ⟨⟨by decide +kernel, by decide +kernel⟩, List.mem_of_getElem? (i := 790) (by decide +kernel), List.mem_of_getElem? (i := 1835) (by decide +kernel), List.mem_of_getElem? (i := 1836) (by decide +kernel)⟩
theorem lw_p89 : lw_okq (⟨"ProofLibrary$Definitions", "clearSlots", "(I)V"⟩, 21) := ⟨⟨by decide +kernel, by decide +kernel⟩, List.mem_of_getElem? (i := 790) (by decide +kernel), List.mem_of_getElem? (i := 1839) (by decide +kernel), List.mem_of_getElem? (i := 1840) (by decide +kernel)⟩
theorem lw_p90 : lw_okq (⟨"ProofLibrary$Definitions", "makeBody", "(II)V"⟩, 21) := ⟨⟨by decide +kernel, by decide +kernel⟩, List.mem_of_getElem? (i := 790) (by decide +kernel), List.mem_of_getElem? (i := 1852) (by decide +kernel), List.mem_of_getElem? (i := 1853) (by decide +kernel)⟩
theorem lw_p91 : lw_okq (⟨"ProofLibrary$Definitions", "compose", "(III)Z"⟩, 21) := ⟨⟨by decide +kernel, by decide +kernel⟩, List.mem_of_getElem? (i := 790) (by decide +kernel), List.mem_of_getElem? (i := 1861) (by decide +kernel), List.mem_of_getElem? (i := 1862) (by decide +kernel)⟩
theorem lw_p92 : lw_okq (⟨"ProofLibrary$Definitions", "composeSymbol", "(I)Z"⟩, 21) := ⟨⟨by decide +kernel, by decide +kernel⟩, List.mem_of_getElem? (i := 790) (by decide +kernel), List.mem_of_getElem? (i := 1865) (by decide +kernel), List.mem_of_getElem? (i := 1866) (by decide +kernel)⟩
theorem lw_p93 : lw_okq (⟨"ProofLibrary$Definitions", "composeRow", "(I)Z"⟩, 21) := ⟨⟨by decide +kernel, by decide +kernel⟩, List.mem_of_getElem? (i := 790) (by decide +kernel), List.mem_of_getElem? (i := 1870) (by decide +kernel), List.mem_of_getElem? (i := 1871) (by decide +kernel)⟩
theorem lw_p94 : lw_okq (⟨"ProofLibrary", "takeRow", "()I"⟩, 16) := ⟨⟨by decide +kernel, by decide +kernel⟩, List.mem_of_getElem? (i := 22) (by decide +kernel), List.mem_of_getElem? (i := 1920) (by decide +kernel), List.mem_of_getElem? (i := 1921) (by decide +kernel)⟩
theorem lw_p95 : lw_okq (⟨"ProofLibrary$Tree", "binds", "(II)Z"⟩, 15) := ⟨⟨by decide +kernel, by decide +kernel⟩, List.mem_of_getElem? (i := 732) (by decide +kernel), List.mem_of_getElem? (i := 1938) (by decide +kernel), List.mem_of_getElem? (i := 1939) (by decide +kernel)⟩
def lw_privs_6 : List (MethodName × Nat) := [(⟨"ProofLibrary$Tree", "part", "(III)V"⟩, 15), (⟨"ProofLibrary$Tree", "startsOf", "(IJII)J"⟩, 15), (⟨"ProofLibrary$Tree", "sortOf", "(I)I"⟩, 15), (⟨"ProofLibrary", "printWithout", "(I)I"⟩, 16), (⟨"ProofLibrary$Definitions", "noteUses", "(I)V"⟩, 21), (⟨"ProofLibrary$Definitions", "canDefine", "(I)Z"⟩, 21), (⟨"ProofLibrary$Definitions", "partSides", "()Z"⟩, 21), (⟨"ProofLibrary$Definitions", "fillSlots", "(I)Z"⟩, 21), (⟨"ProofLibrary$Definitions", "secondHasNoOther", "(I)Z"⟩, 21), (⟨"ProofLibrary$Definitions", "clearSlots", "(I)V"⟩, 21), (⟨"ProofLibrary$Definitions", "makeBody", "(II)V"⟩, 21), (⟨"ProofLibrary$Definitions", "compose", "(III)Z"⟩, 21), (⟨"ProofLibrary$Definitions", "composeSymbol", "(I)Z"⟩, 21), (⟨"ProofLibrary$Definitions", "composeRow", "(I)Z"⟩, 21), (⟨"ProofLibrary", "takeRow", "()I"⟩, 16), (⟨"ProofLibrary$Tree", "binds", "(II)Z"⟩, 15)]
theorem lw_r6 : ∀ q ∈ lw_privs_6, lw_okq q := List.forall_mem_cons.mpr ⟨lw_p80, List.forall_mem_cons.mpr ⟨lw_p81, List.forall_mem_cons.mpr ⟨lw_p82, List.forall_mem_cons.mpr ⟨lw_p83, List.forall_mem_cons.mpr ⟨lw_p84, List.forall_mem_cons.mpr ⟨lw_p85, List.forall_mem_cons.mpr ⟨lw_p86, List.forall_mem_cons.mpr ⟨lw_p87, List.forall_mem_cons.mpr ⟨lw_p88, List.forall_mem_cons.mpr ⟨lw_p89, List.forall_mem_cons.mpr ⟨lw_p90, List.forall_mem_cons.mpr ⟨lw_p91, List.forall_mem_cons.mpr ⟨lw_p92, List.forall_mem_cons.mpr ⟨lw_p93, List.forall_mem_cons.mpr ⟨lw_p94, List.forall_mem_cons.mpr ⟨lw_p95, fun _ h => absurd h List.not_mem_nil⟩⟩⟩⟩⟩⟩⟩⟩⟩⟩⟩⟩⟩⟩⟩⟩
theorem lw_p96 : lw_okq (⟨"ProofLibrary", "printEssentials", "(I)I"⟩, 16) := ⟨⟨by decide +kernel, by decide +kernel⟩, List.mem_of_getElem? (i := 22) (by decide +kernel), List.mem_of_getElem? (i := 1947) (by decide +kernel), List.mem_of_getElem? (i := 1948) (by decide +kernel)⟩
theorem lw_p97 : lw_okq (⟨"ProofLibrary", "printBound", "(I)V"⟩, 16) := ⟨⟨by decide +kernel, by decide +kernel⟩, List.mem_of_getElem? (i := 22) (by decide +kernel), List.mem_of_getElem? (i := 1951) (by decide +kernel), List.mem_of_getElem? (i := 1952) (by decide +kernel)⟩
theorem lw_p98 : lw_okq (⟨"ProofLibrary", "isSound", "(I)Z"⟩, 16) := ⟨⟨by decide +kernel, by decide +kernel⟩, List.mem_of_getElem? (i := 22) (by decide +kernel), List.mem_of_getElem? (i := 1959) (by decide +kernel), List.mem_of_getElem? (i := 1960) (by decide +kernel)⟩
theorem lw_p99 : lw_okq (⟨"ProofLibrary$Packer", "fill", "()Z"⟩, 19) := ⟨⟨by decide +kernel, by decide +kernel⟩, List.mem_of_getElem? (i := 526) (by decide +kernel), List.mem_of_getElem? (i := 1969) (by decide +kernel), List.mem_of_getElem? (i := 1970) (by decide +kernel)⟩
theorem lw_p100 : lw_okq (⟨"ProofLibrary$Packer", "fillIn", "(I)Z"⟩, 19) := ⟨⟨by decide +kernel, by decide +kernel⟩, List.mem_of_getElem? (i := 526) (by decide +kernel), List.mem_of_getElem? (i := 1973) (by decide +kernel), List.mem_of_getElem? (i := 1974) (by decide +kernel)⟩
theorem lw_p101 : lw_okq (⟨"ProofLibrary", "makesItsSymbols", "(I)Z"⟩, 16) := ⟨⟨by decide +kernel, by decide +kernel⟩, List.mem_of_getElem? (i := 22) (by decide +kernel), List.mem_of_getElem? (i := 1984) (by decide +kernel), List.mem_of_getElem? (i := 1985) (by decide +kernel)⟩
theorem lw_p102 : lw_okq (⟨"ProofLibraryModel", "clearTables", "()V"⟩, 170) := ⟨⟨by decide +kernel, by decide +kernel⟩, List.mem_of_getElem? (i := 1988) (by decide +kernel), List.mem_of_getElem? (i := 2003) (by decide +kernel), List.mem_of_getElem? (i := 2004) (by decide +kernel)⟩
theorem lw_p103 : lw_okq (⟨"ProofLibraryModel", "noteAll", "()V"⟩, 170) := ⟨⟨by decide +kernel, by decide +kernel⟩, List.mem_of_getElem? (i := 1988) (by decide +kernel), List.mem_of_getElem? (i := 2533) (by decide +kernel), List.mem_of_getElem? (i := 2534) (by decide +kernel)⟩
theorem lw_p104 : lw_okq (⟨"ProofLibraryModel", "next", "()V"⟩, 170) := ⟨⟨by decide +kernel, by decide +kernel⟩, List.mem_of_getElem? (i := 1988) (by decide +kernel), List.mem_of_getElem? (i := 2537) (by decide +kernel), List.mem_of_getElem? (i := 2538) (by decide +kernel)⟩
theorem lw_p105 : lw_okq (⟨"ProofLibraryModel", "nextRow", "()Z"⟩, 170) := ⟨⟨by decide +kernel, by decide +kernel⟩, List.mem_of_getElem? (i := 1988) (by decide +kernel), List.mem_of_getElem? (i := 2541) (by decide +kernel), List.mem_of_getElem? (i := 2542) (by decide +kernel)⟩
theorem lw_p106 : lw_okq (⟨"ProofLibraryModel", "fail", "(II)V"⟩, 170) := ⟨⟨by decide +kernel, by decide +kernel⟩, List.mem_of_getElem? (i := 1988) (by decide +kernel), List.mem_of_getElem? (i := 2551) (by decide +kernel), List.mem_of_getElem? (i := 2552) (by decide +kernel)⟩
theorem lw_p107 : lw_okq (⟨"ProofLibraryModel", "isToken", "(I)Z"⟩, 170) := ⟨⟨by decide +kernel, by decide +kernel⟩, List.mem_of_getElem? (i := 1988) (by decide +kernel), List.mem_of_getElem? (i := 2555) (by decide +kernel), List.mem_of_getElem? (i := 2556) (by decide +kernel)⟩
theorem lw_p108 : lw_okq (⟨"ProofLibraryModel", "skipComment", "()V"⟩, 170) := ⟨⟨by decide +kernel, by decide +kernel⟩, List.mem_of_getElem? (i := 1988) (by decide +kernel), List.mem_of_getElem? (i := 2559) (by decide +kernel), List.mem_of_getElem? (i := 2560) (by decide +kernel)⟩
theorem lw_p109 : lw_okq (⟨"ProofLibraryModel", "hasDollar", "(II)Z"⟩, 170) := ⟨⟨by decide +kernel, by decide +kernel⟩, List.mem_of_getElem? (i := 1988) (by decide +kernel), List.mem_of_getElem? (i := 2563) (by decide +kernel), List.mem_of_getElem? (i := 2564) (by decide +kernel)⟩
theorem lw_p110 : lw_okq (⟨"ProofLibraryModel", "hasSign", "(I)Z"⟩, 170) := ⟨⟨by decide +kernel, by decide +kernel⟩, List.mem_of_getElem? (i := 1988) (by decide +kernel), List.mem_of_getElem? (i := 2567) (by decide +kernel), List.mem_of_getElem? (i := 2568) (by decide +kernel)⟩
theorem lw_p111 : lw_okq (⟨"ProofLibraryModel", "readStatement", "()V"⟩, 170) := ⟨⟨by decide +kernel, by decide +kernel⟩, List.mem_of_getElem? (i := 1988) (by decide +kernel), List.mem_of_getElem? (i := 2574) (by decide +kernel), List.mem_of_getElem? (i := 2575) (by decide +kernel)⟩
def lw_privs_7 : List (MethodName × Nat) := [(⟨"ProofLibrary", "printEssentials", "(I)I"⟩, 16), (⟨"ProofLibrary", "printBound", "(I)V"⟩, 16), (⟨"ProofLibrary", "isSound", "(I)Z"⟩, 16), (⟨"ProofLibrary$Packer", "fill", "()Z"⟩, 19), (⟨"ProofLibrary$Packer", "fillIn", "(I)Z"⟩, 19), (⟨"ProofLibrary", "makesItsSymbols", "(I)Z"⟩, 16), (⟨"ProofLibraryModel", "clearTables", "()V"⟩, 170), (⟨"ProofLibraryModel", "noteAll", "()V"⟩, 170), (⟨"ProofLibraryModel", "next", "()V"⟩, 170), (⟨"ProofLibraryModel", "nextRow", "()Z"⟩, 170), (⟨"ProofLibraryModel", "fail", "(II)V"⟩, 170), (⟨"ProofLibraryModel", "isToken", "(I)Z"⟩, 170), (⟨"ProofLibraryModel", "skipComment", "()V"⟩, 170), (⟨"ProofLibraryModel", "hasDollar", "(II)Z"⟩, 170), (⟨"ProofLibraryModel", "hasSign", "(I)Z"⟩, 170), (⟨"ProofLibraryModel", "readStatement", "()V"⟩, 170)]
theorem lw_r7 : ∀ q ∈ lw_privs_7, lw_okq q := List.forall_mem_cons.mpr ⟨lw_p96, List.forall_mem_cons.mpr ⟨lw_p97, List.forall_mem_cons.mpr ⟨lw_p98, List.forall_mem_cons.mpr ⟨lw_p99, List.forall_mem_cons.mpr ⟨lw_p100, List.forall_mem_cons.mpr ⟨lw_p101, List.forall_mem_cons.mpr ⟨lw_p102, List.forall_mem_cons.mpr ⟨lw_p103, List.forall_mem_cons.mpr ⟨lw_p104, List.forall_mem_cons.mpr ⟨lw_p105, List.forall_mem_cons.mpr ⟨lw_p106, List.forall_mem_cons.mpr ⟨lw_p107, List.forall_mem_cons.mpr ⟨lw_p108, List.forall_mem_cons.mpr ⟨lw_p109, List.forall_mem_cons.mpr ⟨lw_p110, List.forall_mem_cons.mpr ⟨lw_p111, fun _ h => absurd h List.not_mem_nil⟩⟩⟩⟩⟩⟩⟩⟩⟩⟩⟩⟩⟩⟩⟩⟩
theorem lw_p112 : lw_okq (⟨"ProofLibraryModel", "readLabelled", "()V"⟩, 170) := ⟨⟨by decide +kernel, by decide +kernel⟩, List.mem_of_getElem? (i := 1988) (by decide +kernel), List.mem_of_getElem? (i := 2578) (by decide +kernel), List.mem_of_getElem? (i := 2579) (by decide +kernel)⟩
theorem lw_p113 : lw_okq (⟨"ProofLibraryModel", "readLabel", "()V"⟩, 170) := ⟨⟨by decide +kernel, by decide +kernel⟩, List.mem_of_getElem? (i := 1988) (by decide +kernel), List.mem_of_getElem? (i := 2582) (by decide +kernel), List.mem_of_getElem? (i := 2583) (by decide +kernel)⟩
theorem lw_p114 : lw_okq (⟨"ProofLibraryModel", "failHere", "(I)V"⟩, 170) := ⟨⟨by decide +kernel, by decide +kernel⟩, List.mem_of_getElem? (i := 1988) (by decide +kernel), List.mem_of_getElem? (i := 2586) (by decide +kernel), List.mem_of_getElem? (i := 2587) (by decide +kernel)⟩
theorem lw_p115 : lw_okq (⟨"ProofLibraryModel", "findLabel", "([III)I"⟩, 170) := ⟨⟨by decide +kernel, by decide +kernel⟩, List.mem_of_getElem? (i := 1988) (by decide +kernel), List.mem_of_getElem? (i := 2599) (by decide +kernel), List.mem_of_getElem? (i := 2600) (by decide +kernel)⟩
theorem lw_p116 : lw_okq (⟨"ProofLibraryModel", "isName", "(II[III)Z"⟩, 170) := ⟨⟨by decide +kernel, by decide +kernel⟩, List.mem_of_getElem? (i := 1988) (by decide +kernel), List.mem_of_getElem? (i := 2606) (by decide +kernel), List.mem_of_getElem? (i := 2607) (by decide +kernel)⟩
theorem lw_p117 : lw_okq (⟨"ProofLibraryModel", "symbolHere", "()I"⟩, 170) := ⟨⟨by decide +kernel, by decide +kernel⟩, List.mem_of_getElem? (i := 1988) (by decide +kernel), List.mem_of_getElem? (i := 2610) (by decide +kernel), List.mem_of_getElem? (i := 2611) (by decide +kernel)⟩
theorem lw_p118 : lw_okq (⟨"ProofLibraryModel", "findSymbol", "([III)I"⟩, 170) := ⟨⟨by decide +kernel, by decide +kernel⟩, List.mem_of_getElem? (i := 1988) (by decide +kernel), List.mem_of_getElem? (i := 2614) (by decide +kernel), List.mem_of_getElem? (i := 2615) (by decide +kernel)⟩
theorem lw_p119 : lw_okq (⟨"ProofLibraryModel", "keepChars", "(II)V"⟩, 170) := ⟨⟨by decide +kernel, by decide +kernel⟩, List.mem_of_getElem? (i := 1988) (by decide +kernel), List.mem_of_getElem? (i := 2618) (by decide +kernel), List.mem_of_getElem? (i := 2619) (by decide +kernel)⟩
theorem lw_p120 : lw_okq (⟨"ProofLibraryModel", "keepLabel", "(I)V"⟩, 170) := ⟨⟨by decide +kernel, by decide +kernel⟩, List.mem_of_getElem? (i := 1988) (by decide +kernel), List.mem_of_getElem? (i := 2622) (by decide +kernel), List.mem_of_getElem? (i := 2623) (by decide +kernel)⟩
theorem lw_p121 : lw_okq (⟨"ProofLibraryModel", "readFloating", "()V"⟩, 170) := ⟨⟨by decide +kernel, by decide +kernel⟩, List.mem_of_getElem? (i := 1988) (by decide +kernel), List.mem_of_getElem? (i := 2626) (by decide +kernel), List.mem_of_getElem? (i := 2627) (by decide +kernel)⟩
theorem lw_p122 : lw_okq (⟨"ProofLibraryModel", "readFirst", "()V"⟩, 170) := ⟨⟨by decide +kernel, by decide +kernel⟩, List.mem_of_getElem? (i := 1988) (by decide +kernel), List.mem_of_getElem? (i := 2630) (by decide +kernel), List.mem_of_getElem? (i := 2631) (by decide +kernel)⟩
theorem lw_p123 : lw_okq (⟨"ProofLibraryModel", "addSymbol", "(II)V"⟩, 170) := ⟨⟨by decide +kernel, by decide +kernel⟩, List.mem_of_getElem? (i := 1988) (by decide +kernel), List.mem_of_getElem? (i := 2634) (by decide +kernel), List.mem_of_getElem? (i := 2635) (by decide +kernel)⟩
theorem lw_p124 : lw_okq (⟨"ProofLibraryModel", "finish", "(I)V"⟩, 170) := ⟨⟨by decide +kernel, by decide +kernel⟩, List.mem_of_getElem? (i := 1988) (by decide +kernel), List.mem_of_getElem? (i := 2638) (by decide +kernel), List.mem_of_getElem? (i := 2639) (by decide +kernel)⟩
theorem lw_p125 : lw_okq (⟨"ProofLibraryModel", "activate", "()V"⟩, 170) := ⟨⟨by decide +kernel, by decide +kernel⟩, List.mem_of_getElem? (i := 1988) (by decide +kernel), List.mem_of_getElem? (i := 2642) (by decide +kernel), List.mem_of_getElem? (i := 2643) (by decide +kernel)⟩
theorem lw_p126 : lw_okq (⟨"ProofLibraryModel", "readSymbols", "(I)V"⟩, 170) := ⟨⟨by decide +kernel, by decide +kernel⟩, List.mem_of_getElem? (i := 1988) (by decide +kernel), List.mem_of_getElem? (i := 2646) (by decide +kernel), List.mem_of_getElem? (i := 2647) (by decide +kernel)⟩
theorem lw_p127 : lw_okq (⟨"ProofLibraryModel", "readAssertion", "(Z)V"⟩, 170) := ⟨⟨by decide +kernel, by decide +kernel⟩, List.mem_of_getElem? (i := 1988) (by decide +kernel), List.mem_of_getElem? (i := 2650) (by decide +kernel), List.mem_of_getElem? (i := 2651) (by decide +kernel)⟩
def lw_privs_8 : List (MethodName × Nat) := [(⟨"ProofLibraryModel", "readLabelled", "()V"⟩, 170), (⟨"ProofLibraryModel", "readLabel", "()V"⟩, 170), (⟨"ProofLibraryModel", "failHere", "(I)V"⟩, 170), (⟨"ProofLibraryModel", "findLabel", "([III)I"⟩, 170), (⟨"ProofLibraryModel", "isName", "(II[III)Z"⟩, 170), (⟨"ProofLibraryModel", "symbolHere", "()I"⟩, 170), (⟨"ProofLibraryModel", "findSymbol", "([III)I"⟩, 170), (⟨"ProofLibraryModel", "keepChars", "(II)V"⟩, 170), (⟨"ProofLibraryModel", "keepLabel", "(I)V"⟩, 170), (⟨"ProofLibraryModel", "readFloating", "()V"⟩, 170), (⟨"ProofLibraryModel", "readFirst", "()V"⟩, 170), (⟨"ProofLibraryModel", "addSymbol", "(II)V"⟩, 170), (⟨"ProofLibraryModel", "finish", "(I)V"⟩, 170), (⟨"ProofLibraryModel", "activate", "()V"⟩, 170), (⟨"ProofLibraryModel", "readSymbols", "(I)V"⟩, 170), (⟨"ProofLibraryModel", "readAssertion", "(Z)V"⟩, 170)]
theorem lw_r8 : ∀ q ∈ lw_privs_8, lw_okq q := List.forall_mem_cons.mpr ⟨lw_p112, List.forall_mem_cons.mpr ⟨lw_p113, List.forall_mem_cons.mpr ⟨lw_p114, List.forall_mem_cons.mpr ⟨lw_p115, List.forall_mem_cons.mpr ⟨lw_p116, List.forall_mem_cons.mpr ⟨lw_p117, List.forall_mem_cons.mpr ⟨lw_p118, List.forall_mem_cons.mpr ⟨lw_p119, List.forall_mem_cons.mpr ⟨lw_p120, List.forall_mem_cons.mpr ⟨lw_p121, List.forall_mem_cons.mpr ⟨lw_p122, List.forall_mem_cons.mpr ⟨lw_p123, List.forall_mem_cons.mpr ⟨lw_p124, List.forall_mem_cons.mpr ⟨lw_p125, List.forall_mem_cons.mpr ⟨lw_p126, List.forall_mem_cons.mpr ⟨lw_p127, fun _ h => absurd h List.not_mem_nil⟩⟩⟩⟩⟩⟩⟩⟩⟩⟩⟩⟩⟩⟩⟩⟩
theorem lw_p128 : lw_okq (⟨"ProofLibraryModel", "readTheorem", "()V"⟩, 170) := ⟨⟨by decide +kernel, by decide +kernel⟩, List.mem_of_getElem? (i := 1988) (by decide +kernel), List.mem_of_getElem? (i := 2654) (by decide +kernel), List.mem_of_getElem? (i := 2655) (by decide +kernel)⟩
theorem lw_p129 : lw_okq (⟨"ProofLibraryModel", "makeFrame", "()V"⟩, 170) := ⟨⟨by decide +kernel, by decide +kernel⟩, List.mem_of_getElem? (i := 1988) (by decide +kernel), List.mem_of_getElem? (i := 2658) (by decide +kernel), List.mem_of_getElem? (i := 2659) (by decide +kernel)⟩
theorem lw_p130 : lw_okq (⟨"ProofLibraryModel", "markOf", "(I)V"⟩, 170) := ⟨⟨by decide +kernel, by decide +kernel⟩, List.mem_of_getElem? (i := 1988) (by decide +kernel), List.mem_of_getElem? (i := 2662) (by decide +kernel), List.mem_of_getElem? (i := 2663) (by decide +kernel)⟩
theorem lw_p131 : lw_okq (⟨"ProofLibraryModel", "readPacked", "()V"⟩, 170) := ⟨⟨by decide +kernel, by decide +kernel⟩, List.mem_of_getElem? (i := 1988) (by decide +kernel), List.mem_of_getElem? (i := 2666) (by decide +kernel), List.mem_of_getElem? (i := 2667) (by decide +kernel)⟩
theorem lw_p132 : lw_okq (⟨"ProofLibraryModel", "readPackedLabels", "()V"⟩, 170) := ⟨⟨by decide +kernel, by decide +kernel⟩, List.mem_of_getElem? (i := 1988) (by decide +kernel), List.mem_of_getElem? (i := 2670) (by decide +kernel), List.mem_of_getElem? (i := 2671) (by decide +kernel)⟩
theorem lw_p133 : lw_okq (⟨"ProofLibraryModel", "stepHere", "()I"⟩, 170) := ⟨⟨by decide +kernel, by decide +kernel⟩, List.mem_of_getElem? (i := 1988) (by decide +kernel), List.mem_of_getElem? (i := 2674) (by decide +kernel), List.mem_of_getElem? (i := 2675) (by decide +kernel)⟩
theorem lw_p134 : lw_okq (⟨"ProofLibraryModel", "isMandatory", "(II)Z"⟩, 170) := ⟨⟨by decide +kernel, by decide +kernel⟩, List.mem_of_getElem? (i := 1988) (by decide +kernel), List.mem_of_getElem? (i := 2678) (by decide +kernel), List.mem_of_getElem? (i := 2679) (by decide +kernel)⟩
theorem lw_p135 : lw_okq (⟨"ProofLibraryModel", "readLetter", "(II)V"⟩, 170) := ⟨⟨by decide +kernel, by decide +kernel⟩, List.mem_of_getElem? (i := 1988) (by decide +kernel), List.mem_of_getElem? (i := 2682) (by decide +kernel), List.mem_of_getElem? (i := 2683) (by decide +kernel)⟩
theorem lw_p136 : lw_okq (⟨"ProofLibraryModel", "endNumber", "(II)V"⟩, 170) := ⟨⟨by decide +kernel, by decide +kernel⟩, List.mem_of_getElem? (i := 1988) (by decide +kernel), List.mem_of_getElem? (i := 2687) (by decide +kernel), List.mem_of_getElem? (i := 2688) (by decide +kernel)⟩
theorem lw_p137 : lw_okq (⟨"ProofLibraryModel", "addStep", "(II)V"⟩, 170) := ⟨⟨by decide +kernel, by decide +kernel⟩, List.mem_of_getElem? (i := 1988) (by decide +kernel), List.mem_of_getElem? (i := 2692) (by decide +kernel), List.mem_of_getElem? (i := 2693) (by decide +kernel)⟩
theorem lw_p138 : lw_okq (⟨"ProofLibraryModel", "readPlain", "()V"⟩, 170) := ⟨⟨by decide +kernel, by decide +kernel⟩, List.mem_of_getElem? (i := 1988) (by decide +kernel), List.mem_of_getElem? (i := 2698) (by decide +kernel), List.mem_of_getElem? (i := 2699) (by decide +kernel)⟩
theorem lw_p139 : lw_okq (⟨"ProofLibraryModel", "verify", "()V"⟩, 170) := ⟨⟨by decide +kernel, by decide +kernel⟩, List.mem_of_getElem? (i := 1988) (by decide +kernel), List.mem_of_getElem? (i := 2702) (by decide +kernel), List.mem_of_getElem? (i := 2703) (by decide +kernel)⟩
theorem lw_p140 : lw_okq (⟨"ProofLibraryModel", "beginSteps", "()V"⟩, 170) := ⟨⟨by decide +kernel, by decide +kernel⟩, List.mem_of_getElem? (i := 1988) (by decide +kernel), List.mem_of_getElem? (i := 2706) (by decide +kernel), List.mem_of_getElem? (i := 2707) (by decide +kernel)⟩
theorem lw_p141 : lw_okq (⟨"ProofLibraryModel", "doStep", "(IIZ)V"⟩, 170) := ⟨⟨by decide +kernel, by decide +kernel⟩, List.mem_of_getElem? (i := 1988) (by decide +kernel), List.mem_of_getElem? (i := 2710) (by decide +kernel), List.mem_of_getElem? (i := 2711) (by decide +kernel)⟩
theorem lw_p142 : lw_okq (⟨"ProofLibraryModel", "pushRow", "([IIII)V"⟩, 170) := ⟨⟨by decide +kernel, by decide +kernel⟩, List.mem_of_getElem? (i := 1988) (by decide +kernel), List.mem_of_getElem? (i := 2714) (by decide +kernel), List.mem_of_getElem? (i := 2715) (by decide +kernel)⟩
theorem lw_p143 : lw_okq (⟨"ProofLibraryModel", "wrong", "(I)V"⟩, 170) := ⟨⟨by decide +kernel, by decide +kernel⟩, List.mem_of_getElem? (i := 1988) (by decide +kernel), List.mem_of_getElem? (i := 2719) (by decide +kernel), List.mem_of_getElem? (i := 2720) (by decide +kernel)⟩
def lw_privs_9 : List (MethodName × Nat) := [(⟨"ProofLibraryModel", "readTheorem", "()V"⟩, 170), (⟨"ProofLibraryModel", "makeFrame", "()V"⟩, 170), (⟨"ProofLibraryModel", "markOf", "(I)V"⟩, 170), (⟨"ProofLibraryModel", "readPacked", "()V"⟩, 170), (⟨"ProofLibraryModel", "readPackedLabels", "()V"⟩, 170), (⟨"ProofLibraryModel", "stepHere", "()I"⟩, 170), (⟨"ProofLibraryModel", "isMandatory", "(II)Z"⟩, 170), (⟨"ProofLibraryModel", "readLetter", "(II)V"⟩, 170), (⟨"ProofLibraryModel", "endNumber", "(II)V"⟩, 170), (⟨"ProofLibraryModel", "addStep", "(II)V"⟩, 170), (⟨"ProofLibraryModel", "readPlain", "()V"⟩, 170), (⟨"ProofLibraryModel", "verify", "()V"⟩, 170), (⟨"ProofLibraryModel", "beginSteps", "()V"⟩, 170), (⟨"ProofLibraryModel", "doStep", "(IIZ)V"⟩, 170), (⟨"ProofLibraryModel", "pushRow", "([IIII)V"⟩, 170), (⟨"ProofLibraryModel", "wrong", "(I)V"⟩, 170)]
theorem lw_r9 : ∀ q ∈ lw_privs_9, lw_okq q := List.forall_mem_cons.mpr ⟨lw_p128, List.forall_mem_cons.mpr ⟨lw_p129, List.forall_mem_cons.mpr ⟨lw_p130, List.forall_mem_cons.mpr ⟨lw_p131, List.forall_mem_cons.mpr ⟨lw_p132, List.forall_mem_cons.mpr ⟨lw_p133, List.forall_mem_cons.mpr ⟨lw_p134, List.forall_mem_cons.mpr ⟨lw_p135, List.forall_mem_cons.mpr ⟨lw_p136, List.forall_mem_cons.mpr ⟨lw_p137, List.forall_mem_cons.mpr ⟨lw_p138, List.forall_mem_cons.mpr ⟨lw_p139, List.forall_mem_cons.mpr ⟨lw_p140, List.forall_mem_cons.mpr ⟨lw_p141, List.forall_mem_cons.mpr ⟨lw_p142, List.forall_mem_cons.mpr ⟨lw_p143, fun _ h => absurd h List.not_mem_nil⟩⟩⟩⟩⟩⟩⟩⟩⟩⟩⟩⟩⟩⟩⟩⟩
theorem lw_p144 : lw_okq (⟨"ProofLibraryModel", "applyStep", "(IIZ)V"⟩, 170) := ⟨⟨by decide +kernel, by decide +kernel⟩, List.mem_of_getElem? (i := 1988) (by decide +kernel), List.mem_of_getElem? (i := 2723) (by decide +kernel), List.mem_of_getElem? (i := 2724) (by decide +kernel)⟩
theorem lw_p145 : lw_okq (⟨"ProofLibraryModel", "replace", "(I)V"⟩, 170) := ⟨⟨by decide +kernel, by decide +kernel⟩, List.mem_of_getElem? (i := 1988) (by decide +kernel), List.mem_of_getElem? (i := 2727) (by decide +kernel), List.mem_of_getElem? (i := 2728) (by decide +kernel)⟩
theorem lw_p146 : lw_okq (⟨"ProofLibraryModel", "isMade", "(II)Z"⟩, 170) := ⟨⟨by decide +kernel, by decide +kernel⟩, List.mem_of_getElem? (i := 1988) (by decide +kernel), List.mem_of_getElem? (i := 2731) (by decide +kernel), List.mem_of_getElem? (i := 2732) (by decide +kernel)⟩
theorem lw_p147 : lw_okq (⟨"ProofLibraryModel", "areKept", "(II)Z"⟩, 170) := ⟨⟨by decide +kernel, by decide +kernel⟩, List.mem_of_getElem? (i := 1988) (by decide +kernel), List.mem_of_getElem? (i := 2735) (by decide +kernel), List.mem_of_getElem? (i := 2736) (by decide +kernel)⟩
theorem lw_p148 : lw_okq (⟨"ProofLibraryModel", "areApart", "(II)Z"⟩, 170) := ⟨⟨by decide +kernel, by decide +kernel⟩, List.mem_of_getElem? (i := 1988) (by decide +kernel), List.mem_of_getElem? (i := 2739) (by decide +kernel), List.mem_of_getElem? (i := 2740) (by decide +kernel)⟩
theorem lw_p149 : lw_okq (⟨"ProofLibraryModel", "saveTop", "()V"⟩, 170) := ⟨⟨by decide +kernel, by decide +kernel⟩, List.mem_of_getElem? (i := 1988) (by decide +kernel), List.mem_of_getElem? (i := 2743) (by decide +kernel), List.mem_of_getElem? (i := 2744) (by decide +kernel)⟩
theorem lw_p150 : lw_okq (⟨"ProofLibraryModel", "restOf", "()V"⟩, 170) := ⟨⟨by decide +kernel, by decide +kernel⟩, List.mem_of_getElem? (i := 1988) (by decide +kernel), List.mem_of_getElem? (i := 2747) (by decide +kernel), List.mem_of_getElem? (i := 2748) (by decide +kernel)⟩
theorem lw_p151 : lw_okq (⟨"ProofLibraryModel", "readDeclared", "(Z)V"⟩, 170) := ⟨⟨by decide +kernel, by decide +kernel⟩, List.mem_of_getElem? (i := 1988) (by decide +kernel), List.mem_of_getElem? (i := 2751) (by decide +kernel), List.mem_of_getElem? (i := 2752) (by decide +kernel)⟩
theorem lw_p152 : lw_okq (⟨"ProofLibraryModel", "declare", "(Z)V"⟩, 170) := ⟨⟨by decide +kernel, by decide +kernel⟩, List.mem_of_getElem? (i := 1988) (by decide +kernel), List.mem_of_getElem? (i := 2755) (by decide +kernel), List.mem_of_getElem? (i := 2756) (by decide +kernel)⟩
theorem lw_p153 : lw_okq (⟨"ProofLibraryModel", "keepSymbol", "(I)V"⟩, 170) := ⟨⟨by decide +kernel, by decide +kernel⟩, List.mem_of_getElem? (i := 1988) (by decide +kernel), List.mem_of_getElem? (i := 2759) (by decide +kernel), List.mem_of_getElem? (i := 2760) (by decide +kernel)⟩
theorem lw_p154 : lw_okq (⟨"ProofLibraryModel", "markNamed", "(I)V"⟩, 170) := ⟨⟨by decide +kernel, by decide +kernel⟩, List.mem_of_getElem? (i := 1988) (by decide +kernel), List.mem_of_getElem? (i := 2763) (by decide +kernel), List.mem_of_getElem? (i := 2764) (by decide +kernel)⟩
theorem lw_p155 : lw_okq (⟨"ProofLibraryModel", "readApart", "()V"⟩, 170) := ⟨⟨by decide +kernel, by decide +kernel⟩, List.mem_of_getElem? (i := 1988) (by decide +kernel), List.mem_of_getElem? (i := 2767) (by decide +kernel), List.mem_of_getElem? (i := 2768) (by decide +kernel)⟩
theorem lw_p156 : lw_okq (⟨"ProofLibraryModel", "setApart", "(IIZ)V"⟩, 170) := ⟨⟨by decide +kernel, by decide +kernel⟩, List.mem_of_getElem? (i := 1988) (by decide +kernel), List.mem_of_getElem? (i := 2771) (by decide +kernel), List.mem_of_getElem? (i := 2772) (by decide +kernel)⟩
theorem lw_p157 : lw_okq (⟨"ProofLibraryModel", "readScope", "(Z)V"⟩, 170) := ⟨⟨by decide +kernel, by decide +kernel⟩, List.mem_of_getElem? (i := 1988) (by decide +kernel), List.mem_of_getElem? (i := 2776) (by decide +kernel), List.mem_of_getElem? (i := 2777) (by decide +kernel)⟩
theorem lw_p158 : lw_okq (⟨"ProofLibraryModel", "dropTo", "(III)V"⟩, 170) := ⟨⟨by decide +kernel, by decide +kernel⟩, List.mem_of_getElem? (i := 1988) (by decide +kernel), List.mem_of_getElem? (i := 2780) (by decide +kernel), List.mem_of_getElem? (i := 2781) (by decide +kernel)⟩
theorem lw_p159 : lw_okq (⟨"ProofLibraryModel", "forgetText", "(IIIIII)V"⟩, 170) := ⟨⟨by decide +kernel, by decide +kernel⟩, List.mem_of_getElem? (i := 1988) (by decide +kernel), List.mem_of_getElem? (i := 2784) (by decide +kernel), List.mem_of_getElem? (i := 2785) (by decide +kernel)⟩
def lw_privs_10 : List (MethodName × Nat) := [(⟨"ProofLibraryModel", "applyStep", "(IIZ)V"⟩, 170), (⟨"ProofLibraryModel", "replace", "(I)V"⟩, 170), (⟨"ProofLibraryModel", "isMade", "(II)Z"⟩, 170), (⟨"ProofLibraryModel", "areKept", "(II)Z"⟩, 170), (⟨"ProofLibraryModel", "areApart", "(II)Z"⟩, 170), (⟨"ProofLibraryModel", "saveTop", "()V"⟩, 170), (⟨"ProofLibraryModel", "restOf", "()V"⟩, 170), (⟨"ProofLibraryModel", "readDeclared", "(Z)V"⟩, 170), (⟨"ProofLibraryModel", "declare", "(Z)V"⟩, 170), (⟨"ProofLibraryModel", "keepSymbol", "(I)V"⟩, 170), (⟨"ProofLibraryModel", "markNamed", "(I)V"⟩, 170), (⟨"ProofLibraryModel", "readApart", "()V"⟩, 170), (⟨"ProofLibraryModel", "setApart", "(IIZ)V"⟩, 170), (⟨"ProofLibraryModel", "readScope", "(Z)V"⟩, 170), (⟨"ProofLibraryModel", "dropTo", "(III)V"⟩, 170), (⟨"ProofLibraryModel", "forgetText", "(IIIIII)V"⟩, 170)]
theorem lw_r10 : ∀ q ∈ lw_privs_10, lw_okq q := List.forall_mem_cons.mpr ⟨lw_p144, List.forall_mem_cons.mpr ⟨lw_p145, List.forall_mem_cons.mpr ⟨lw_p146, List.forall_mem_cons.mpr ⟨lw_p147, List.forall_mem_cons.mpr ⟨lw_p148, List.forall_mem_cons.mpr ⟨lw_p149, List.forall_mem_cons.mpr ⟨lw_p150, List.forall_mem_cons.mpr ⟨lw_p151, List.forall_mem_cons.mpr ⟨lw_p152, List.forall_mem_cons.mpr ⟨lw_p153, List.forall_mem_cons.mpr ⟨lw_p154, List.forall_mem_cons.mpr ⟨lw_p155, List.forall_mem_cons.mpr ⟨lw_p156, List.forall_mem_cons.mpr ⟨lw_p157, List.forall_mem_cons.mpr ⟨lw_p158, List.forall_mem_cons.mpr ⟨lw_p159, fun _ h => absurd h List.not_mem_nil⟩⟩⟩⟩⟩⟩⟩⟩⟩⟩⟩⟩⟩⟩⟩⟩
theorem lw_p160 : lw_okq (⟨"ProofLibraryModel", "forgetTrees", "(I)V"⟩, 170) := ⟨⟨by decide +kernel, by decide +kernel⟩, List.mem_of_getElem? (i := 1988) (by decide +kernel), List.mem_of_getElem? (i := 2788) (by decide +kernel), List.mem_of_getElem? (i := 2789) (by decide +kernel)⟩
theorem lw_p161 : lw_okq (⟨"ProofLibraryModel", "isStatement", "(I)Z"⟩, 170) := ⟨⟨by decide +kernel, by decide +kernel⟩, List.mem_of_getElem? (i := 1988) (by decide +kernel), List.mem_of_getElem? (i := 2804) (by decide +kernel), List.mem_of_getElem? (i := 2805) (by decide +kernel)⟩
theorem lw_p162 : lw_okq (⟨"ProofLibraryModel", "rowFrom", "(I)I"⟩, 170) := ⟨⟨by decide +kernel, by decide +kernel⟩, List.mem_of_getElem? (i := 1988) (by decide +kernel), List.mem_of_getElem? (i := 2824) (by decide +kernel), List.mem_of_getElem? (i := 2825) (by decide +kernel)⟩
theorem lw_p163 : lw_okq (⟨"ProofLibraryModel", "useTape", "()V"⟩, 170) := ⟨⟨by decide +kernel, by decide +kernel⟩, List.mem_of_getElem? (i := 1988) (by decide +kernel), List.mem_of_getElem? (i := 2828) (by decide +kernel), List.mem_of_getElem? (i := 2829) (by decide +kernel)⟩
theorem lw_p164 : lw_okq (⟨"ProofLibraryModel", "isAssertion", "(I)Z"⟩, 170) := ⟨⟨by decide +kernel, by decide +kernel⟩, List.mem_of_getElem? (i := 1988) (by decide +kernel), List.mem_of_getElem? (i := 2836) (by decide +kernel), List.mem_of_getElem? (i := 2837) (by decide +kernel)⟩
theorem lw_p165 : lw_okq (⟨"ProofLibraryModel", "resting", "(I)I"⟩, 170) := ⟨⟨by decide +kernel, by decide +kernel⟩, List.mem_of_getElem? (i := 1988) (by decide +kernel), List.mem_of_getElem? (i := 2841) (by decide +kernel), List.mem_of_getElem? (i := 2842) (by decide +kernel)⟩
theorem lw_p166 : lw_okq (⟨"ProofLibraryModel", "isProved", "(I)Z"⟩, 170) := ⟨⟨by decide +kernel, by decide +kernel⟩, List.mem_of_getElem? (i := 1988) (by decide +kernel), List.mem_of_getElem? (i := 2857) (by decide +kernel), List.mem_of_getElem? (i := 2858) (by decide +kernel)⟩
theorem lw_p167 : lw_okq (⟨"ProofLibraryModel", "makeRows", "(I)V"⟩, 170) := ⟨⟨by decide +kernel, by decide +kernel⟩, List.mem_of_getElem? (i := 1988) (by decide +kernel), List.mem_of_getElem? (i := 2861) (by decide +kernel), List.mem_of_getElem? (i := 2862) (by decide +kernel)⟩
theorem lw_p168 : lw_okq (⟨"ProofLibraryModel", "isRow", "(II)Z"⟩, 170) := ⟨⟨by decide +kernel, by decide +kernel⟩, List.mem_of_getElem? (i := 1988) (by decide +kernel), List.mem_of_getElem? (i := 2869) (by decide +kernel), List.mem_of_getElem? (i := 2870) (by decide +kernel)⟩
theorem lw_p169 : lw_okq (⟨"ProofLibraryModel", "rowWidth", "(I)I"⟩, 170) := ⟨⟨by decide +kernel, by decide +kernel⟩, List.mem_of_getElem? (i := 1988) (by decide +kernel), List.mem_of_getElem? (i := 2878) (by decide +kernel), List.mem_of_getElem? (i := 2879) (by decide +kernel)⟩
theorem lw_p170 : lw_okq (⟨"ProofLibraryModel", "makeSizes", "(I)V"⟩, 170) := ⟨⟨by decide +kernel, by decide +kernel⟩, List.mem_of_getElem? (i := 1988) (by decide +kernel), List.mem_of_getElem? (i := 2890) (by decide +kernel), List.mem_of_getElem? (i := 2891) (by decide +kernel)⟩
theorem lw_p171 : lw_okq (⟨"ProofLibraryModel", "countTrees", "(I)I"⟩, 170) := ⟨⟨by decide +kernel, by decide +kernel⟩, List.mem_of_getElem? (i := 1988) (by decide +kernel), List.mem_of_getElem? (i := 2905) (by decide +kernel), List.mem_of_getElem? (i := 2906) (by decide +kernel)⟩
theorem lw_p172 : lw_okq (⟨"ProofLibraryModel", "treeOf", "(I)I"⟩, 170) := ⟨⟨by decide +kernel, by decide +kernel⟩, List.mem_of_getElem? (i := 1988) (by decide +kernel), List.mem_of_getElem? (i := 2909) (by decide +kernel), List.mem_of_getElem? (i := 2910) (by decide +kernel)⟩
theorem lw_p173 : lw_okq (⟨"ProofLibraryModel", "takeStatement", "(I)V"⟩, 170) := ⟨⟨by decide +kernel, by decide +kernel⟩, List.mem_of_getElem? (i := 1988) (by decide +kernel), List.mem_of_getElem? (i := 2913) (by decide +kernel), List.mem_of_getElem? (i := 2914) (by decide +kernel)⟩
theorem lw_p174 : lw_okq (⟨"ProofLibraryModel", "findSorts", "()V"⟩, 170) := ⟨⟨by decide +kernel, by decide +kernel⟩, List.mem_of_getElem? (i := 1988) (by decide +kernel), List.mem_of_getElem? (i := 2917) (by decide +kernel), List.mem_of_getElem? (i := 2918) (by decide +kernel)⟩
theorem lw_p175 : lw_okq (⟨"ProofLibraryModel", "isSort", "(I)Z"⟩, 170) := ⟨⟨by decide +kernel, by decide +kernel⟩, List.mem_of_getElem? (i := 1988) (by decide +kernel), List.mem_of_getElem? (i := 2921) (by decide +kernel), List.mem_of_getElem? (i := 2922) (by decide +kernel)⟩
def lw_privs_11 : List (MethodName × Nat) := [(⟨"ProofLibraryModel", "forgetTrees", "(I)V"⟩, 170), (⟨"ProofLibraryModel", "isStatement", "(I)Z"⟩, 170), (⟨"ProofLibraryModel", "rowFrom", "(I)I"⟩, 170), (⟨"ProofLibraryModel", "useTape", "()V"⟩, 170), (⟨"ProofLibraryModel", "isAssertion", "(I)Z"⟩, 170), (⟨"ProofLibraryModel", "resting", "(I)I"⟩, 170), (⟨"ProofLibraryModel", "isProved", "(I)Z"⟩, 170), (⟨"ProofLibraryModel", "makeRows", "(I)V"⟩, 170), (⟨"ProofLibraryModel", "isRow", "(II)Z"⟩, 170), (⟨"ProofLibraryModel", "rowWidth", "(I)I"⟩, 170), (⟨"ProofLibraryModel", "makeSizes", "(I)V"⟩, 170), (⟨"ProofLibraryModel", "countTrees", "(I)I"⟩, 170), (⟨"ProofLibraryModel", "treeOf", "(I)I"⟩, 170), (⟨"ProofLibraryModel", "takeStatement", "(I)V"⟩, 170), (⟨"ProofLibraryModel", "findSorts", "()V"⟩, 170), (⟨"ProofLibraryModel", "isSort", "(I)Z"⟩, 170)]
theorem lw_r11 : ∀ q ∈ lw_privs_11, lw_okq q := List.forall_mem_cons.mpr ⟨lw_p160, List.forall_mem_cons.mpr ⟨lw_p161, List.forall_mem_cons.mpr ⟨lw_p162, List.forall_mem_cons.mpr ⟨lw_p163, List.forall_mem_cons.mpr ⟨lw_p164, List.forall_mem_cons.mpr ⟨lw_p165, List.forall_mem_cons.mpr ⟨lw_p166, List.forall_mem_cons.mpr ⟨lw_p167, List.forall_mem_cons.mpr ⟨lw_p168, List.forall_mem_cons.mpr ⟨lw_p169, List.forall_mem_cons.mpr ⟨lw_p170, List.forall_mem_cons.mpr ⟨lw_p171, List.forall_mem_cons.mpr ⟨lw_p172, List.forall_mem_cons.mpr ⟨lw_p173, List.forall_mem_cons.mpr ⟨lw_p174, List.forall_mem_cons.mpr ⟨lw_p175, fun _ h => absurd h List.not_mem_nil⟩⟩⟩⟩⟩⟩⟩⟩⟩⟩⟩⟩⟩⟩⟩⟩
theorem lw_p176 : lw_okq (⟨"ProofLibraryModel", "treeSort", "(I)I"⟩, 170) := ⟨⟨by decide +kernel, by decide +kernel⟩, List.mem_of_getElem? (i := 1988) (by decide +kernel), List.mem_of_getElem? (i := 2925) (by decide +kernel), List.mem_of_getElem? (i := 2926) (by decide +kernel)⟩
theorem lw_p177 : lw_okq (⟨"ProofLibraryModel", "countWays", "(II)I"⟩, 170) := ⟨⟨by decide +kernel, by decide +kernel⟩, List.mem_of_getElem? (i := 1988) (by decide +kernel), List.mem_of_getElem? (i := 2929) (by decide +kernel), List.mem_of_getElem? (i := 2930) (by decide +kernel)⟩
theorem lw_p178 : lw_okq (⟨"ProofLibraryModel", "treeRules", "()V"⟩, 170) := ⟨⟨by decide +kernel, by decide +kernel⟩, List.mem_of_getElem? (i := 1988) (by decide +kernel), List.mem_of_getElem? (i := 2933) (by decide +kernel), List.mem_of_getElem? (i := 2934) (by decide +kernel)⟩
theorem lw_p179 : lw_okq (⟨"ProofLibraryModel", "newRuleNode", "(II)I"⟩, 170) := ⟨⟨by decide +kernel, by decide +kernel⟩, List.mem_of_getElem? (i := 1988) (by decide +kernel), List.mem_of_getElem? (i := 2937) (by decide +kernel), List.mem_of_getElem? (i := 2938) (by decide +kernel)⟩
theorem lw_p180 : lw_okq (⟨"ProofLibraryModel", "isRule", "(I)Z"⟩, 170) := ⟨⟨by decide +kernel, by decide +kernel⟩, List.mem_of_getElem? (i := 1988) (by decide +kernel), List.mem_of_getElem? (i := 2941) (by decide +kernel), List.mem_of_getElem? (i := 2942) (by decide +kernel)⟩
theorem lw_p181 : lw_okq (⟨"ProofLibraryModel", "isUnit", "(I)Z"⟩, 170) := ⟨⟨by decide +kernel, by decide +kernel⟩, List.mem_of_getElem? (i := 1988) (by decide +kernel), List.mem_of_getElem? (i := 2945) (by decide +kernel), List.mem_of_getElem? (i := 2946) (by decide +kernel)⟩
theorem lw_p182 : lw_okq (⟨"ProofLibraryModel", "treeRule", "(I)V"⟩, 170) := ⟨⟨by decide +kernel, by decide +kernel⟩, List.mem_of_getElem? (i := 1988) (by decide +kernel), List.mem_of_getElem? (i := 2949) (by decide +kernel), List.mem_of_getElem? (i := 2950) (by decide +kernel)⟩
theorem lw_p183 : lw_okq (⟨"ProofLibraryModel", "stepBelow", "(II)I"⟩, 170) := ⟨⟨by decide +kernel, by decide +kernel⟩, List.mem_of_getElem? (i := 1988) (by decide +kernel), List.mem_of_getElem? (i := 2953) (by decide +kernel), List.mem_of_getElem? (i := 2954) (by decide +kernel)⟩
theorem lw_p184 : lw_okq (⟨"ProofLibraryModel", "wayAt", "(III)I"⟩, 170) := ⟨⟨by decide +kernel, by decide +kernel⟩, List.mem_of_getElem? (i := 1988) (by decide +kernel), List.mem_of_getElem? (i := 2957) (by decide +kernel), List.mem_of_getElem? (i := 2958) (by decide +kernel)⟩
theorem lw_p185 : lw_okq (⟨"ProofLibraryModel", "isSortNode", "(I)Z"⟩, 170) := ⟨⟨by decide +kernel, by decide +kernel⟩, List.mem_of_getElem? (i := 1988) (by decide +kernel), List.mem_of_getElem? (i := 2961) (by decide +kernel), List.mem_of_getElem? (i := 2962) (by decide +kernel)⟩
theorem lw_p186 : lw_okq (⟨"ProofLibraryModel", "countStretch", "(III)V"⟩, 170) := ⟨⟨by decide +kernel, by decide +kernel⟩, List.mem_of_getElem? (i := 1988) (by decide +kernel), List.mem_of_getElem? (i := 2965) (by decide +kernel), List.mem_of_getElem? (i := 2966) (by decide +kernel)⟩
theorem lw_p187 : lw_okq (⟨"ProofLibraryModel", "isFirstVariable", "(I)Z"⟩, 170) := ⟨⟨by decide +kernel, by decide +kernel⟩, List.mem_of_getElem? (i := 1988) (by decide +kernel), List.mem_of_getElem? (i := 2969) (by decide +kernel), List.mem_of_getElem? (i := 2970) (by decide +kernel)⟩
theorem lw_p188 : lw_okq (⟨"ProofLibraryModel", "goTo", "(II)V"⟩, 170) := ⟨⟨by decide +kernel, by decide +kernel⟩, List.mem_of_getElem? (i := 1988) (by decide +kernel), List.mem_of_getElem? (i := 2973) (by decide +kernel), List.mem_of_getElem? (i := 2974) (by decide +kernel)⟩
theorem lw_p189 : lw_okq (⟨"ProofLibraryModel", "closeUnits", "(III)V"⟩, 170) := ⟨⟨by decide +kernel, by decide +kernel⟩, List.mem_of_getElem? (i := 1988) (by decide +kernel), List.mem_of_getElem? (i := 2980) (by decide +kernel), List.mem_of_getElem? (i := 2981) (by decide +kernel)⟩
theorem lw_p190 : lw_okq (⟨"ProofLibraryModel", "makeTree", "(I)I"⟩, 170) := ⟨⟨by decide +kernel, by decide +kernel⟩, List.mem_of_getElem? (i := 1988) (by decide +kernel), List.mem_of_getElem? (i := 2984) (by decide +kernel), List.mem_of_getElem? (i := 2985) (by decide +kernel)⟩
theorem lw_p191 : lw_okq (⟨"ProofLibraryModel", "newNode", "(III)I"⟩, 170) := ⟨⟨by decide +kernel, by decide +kernel⟩, List.mem_of_getElem? (i := 1988) (by decide +kernel), List.mem_of_getElem? (i := 2988) (by decide +kernel), List.mem_of_getElem? (i := 2989) (by decide +kernel)⟩
def lw_privs_12 : List (MethodName × Nat) := [(⟨"ProofLibraryModel", "treeSort", "(I)I"⟩, 170), (⟨"ProofLibraryModel", "countWays", "(II)I"⟩, 170), (⟨"ProofLibraryModel", "treeRules", "()V"⟩, 170), (⟨"ProofLibraryModel", "newRuleNode", "(II)I"⟩, 170), (⟨"ProofLibraryModel", "isRule", "(I)Z"⟩, 170), (⟨"ProofLibraryModel", "isUnit", "(I)Z"⟩, 170), (⟨"ProofLibraryModel", "treeRule", "(I)V"⟩, 170), (⟨"ProofLibraryModel", "stepBelow", "(II)I"⟩, 170), (⟨"ProofLibraryModel", "wayAt", "(III)I"⟩, 170), (⟨"ProofLibraryModel", "isSortNode", "(I)Z"⟩, 170), (⟨"ProofLibraryModel", "countStretch", "(III)V"⟩, 170), (⟨"ProofLibraryModel", "isFirstVariable", "(I)Z"⟩, 170), (⟨"ProofLibraryModel", "goTo", "(II)V"⟩, 170), (⟨"ProofLibraryModel", "closeUnits", "(III)V"⟩, 170), (⟨"ProofLibraryModel", "makeTree", "(I)I"⟩, 170), (⟨"ProofLibraryModel", "newNode", "(III)I"⟩, 170)]
theorem lw_r12 : ∀ q ∈ lw_privs_12, lw_okq q := List.forall_mem_cons.mpr ⟨lw_p176, List.forall_mem_cons.mpr ⟨lw_p177, List.forall_mem_cons.mpr ⟨lw_p178, List.forall_mem_cons.mpr ⟨lw_p179, List.forall_mem_cons.mpr ⟨lw_p180, List.forall_mem_cons.mpr ⟨lw_p181, List.forall_mem_cons.mpr ⟨lw_p182, List.forall_mem_cons.mpr ⟨lw_p183, List.forall_mem_cons.mpr ⟨lw_p184, List.forall_mem_cons.mpr ⟨lw_p185, List.forall_mem_cons.mpr ⟨lw_p186, List.forall_mem_cons.mpr ⟨lw_p187, List.forall_mem_cons.mpr ⟨lw_p188, List.forall_mem_cons.mpr ⟨lw_p189, List.forall_mem_cons.mpr ⟨lw_p190, List.forall_mem_cons.mpr ⟨lw_p191, fun _ h => absurd h List.not_mem_nil⟩⟩⟩⟩⟩⟩⟩⟩⟩⟩⟩⟩⟩⟩⟩⟩
theorem lw_p192 : lw_okq (⟨"ProofLibraryModel", "lookAt", "(I)V"⟩, 170) := ⟨⟨by decide +kernel, by decide +kernel⟩, List.mem_of_getElem? (i := 1988) (by decide +kernel), List.mem_of_getElem? (i := 2992) (by decide +kernel), List.mem_of_getElem? (i := 2993) (by decide +kernel)⟩
theorem lw_p193 : lw_okq (⟨"ProofLibraryModel", "part", "(II)V"⟩, 170) := ⟨⟨by decide +kernel, by decide +kernel⟩, List.mem_of_getElem? (i := 1988) (by decide +kernel), List.mem_of_getElem? (i := 2996) (by decide +kernel), List.mem_of_getElem? (i := 2997) (by decide +kernel)⟩
theorem lw_p194 : lw_okq (⟨"ProofLibraryModel", "match", "(III)I"⟩, 170) := ⟨⟨by decide +kernel, by decide +kernel⟩, List.mem_of_getElem? (i := 1988) (by decide +kernel), List.mem_of_getElem? (i := 3000) (by decide +kernel), List.mem_of_getElem? (i := 3001) (by decide +kernel)⟩
theorem lw_p195 : lw_okq (⟨"ProofLibraryModel", "hypOf", "(II)I"⟩, 170) := ⟨⟨by decide +kernel, by decide +kernel⟩, List.mem_of_getElem? (i := 1988) (by decide +kernel), List.mem_of_getElem? (i := 3004) (by decide +kernel), List.mem_of_getElem? (i := 3005) (by decide +kernel)⟩
theorem lw_p196 : lw_okq (⟨"ProofLibraryModel", "variablesOf", "(I)I"⟩, 170) := ⟨⟨by decide +kernel, by decide +kernel⟩, List.mem_of_getElem? (i := 1988) (by decide +kernel), List.mem_of_getElem? (i := 3012) (by decide +kernel), List.mem_of_getElem? (i := 3013) (by decide +kernel)⟩
theorem lw_p197 : lw_okq (⟨"ProofLibraryModel", "definitionOf", "(I)I"⟩, 170) := ⟨⟨by decide +kernel, by decide +kernel⟩, List.mem_of_getElem? (i := 1988) (by decide +kernel), List.mem_of_getElem? (i := 3020) (by decide +kernel), List.mem_of_getElem? (i := 3021) (by decide +kernel)⟩
theorem lw_p198 : lw_okq (⟨"ProofLibraryModel", "findDefinition", "(I)I"⟩, 170) := ⟨⟨by decide +kernel, by decide +kernel⟩, List.mem_of_getElem? (i := 1988) (by decide +kernel), List.mem_of_getElem? (i := 3024) (by decide +kernel), List.mem_of_getElem? (i := 3025) (by decide +kernel)⟩
theorem lw_p199 : lw_okq (⟨"ProofLibraryModel", "firstSide", "(I)I"⟩, 170) := ⟨⟨by decide +kernel, by decide +kernel⟩, List.mem_of_getElem? (i := 1988) (by decide +kernel), List.mem_of_getElem? (i := 3028) (by decide +kernel), List.mem_of_getElem? (i := 3029) (by decide +kernel)⟩
theorem lw_p200 : lw_okq (⟨"ProofLibraryModel", "isFlat", "(I)Z"⟩, 170) := ⟨⟨by decide +kernel, by decide +kernel⟩, List.mem_of_getElem? (i := 1988) (by decide +kernel), List.mem_of_getElem? (i := 3032) (by decide +kernel), List.mem_of_getElem? (i := 3033) (by decide +kernel)⟩
theorem lw_p201 : lw_okq (⟨"ProofLibraryModel", "isPlain", "(III)Z"⟩, 170) := ⟨⟨by decide +kernel, by decide +kernel⟩, List.mem_of_getElem? (i := 1988) (by decide +kernel), List.mem_of_getElem? (i := 3036) (by decide +kernel), List.mem_of_getElem? (i := 3037) (by decide +kernel)⟩
theorem lw_p202 : lw_okq (⟨"ProofLibraryModel", "enter", "(I)V"⟩, 170) := ⟨⟨by decide +kernel, by decide +kernel⟩, List.mem_of_getElem? (i := 1988) (by decide +kernel), List.mem_of_getElem? (i := 3040) (by decide +kernel), List.mem_of_getElem? (i := 3041) (by decide +kernel)⟩
theorem lw_p203 : lw_okq (⟨"ProofLibraryModel", "hasLeaf", "(II)Z"⟩, 170) := ⟨⟨by decide +kernel, by decide +kernel⟩, List.mem_of_getElem? (i := 1988) (by decide +kernel), List.mem_of_getElem? (i := 3044) (by decide +kernel), List.mem_of_getElem? (i := 3045) (by decide +kernel)⟩
theorem lw_p204 : lw_okq (⟨"ProofLibraryModel", "isUsedBefore", "(II)Z"⟩, 170) := ⟨⟨by decide +kernel, by decide +kernel⟩, List.mem_of_getElem? (i := 1988) (by decide +kernel), List.mem_of_getElem? (i := 3048) (by decide +kernel), List.mem_of_getElem? (i := 3049) (by decide +kernel)⟩
theorem lw_p205 : lw_okq (⟨"ProofLibraryModel", "beginTrees", "()V"⟩, 170) := ⟨⟨by decide +kernel, by decide +kernel⟩, List.mem_of_getElem? (i := 1988) (by decide +kernel), List.mem_of_getElem? (i := 3056) (by decide +kernel), List.mem_of_getElem? (i := 3057) (by decide +kernel)⟩
theorem lw_p206 : lw_okq (⟨"ProofLibraryModel", "putLabel", "(I)V"⟩, 170) := ⟨⟨by decide +kernel, by decide +kernel⟩, List.mem_of_getElem? (i := 1988) (by decide +kernel), List.mem_of_getElem? (i := 3060) (by decide +kernel), List.mem_of_getElem? (i := 3061) (by decide +kernel)⟩
theorem lw_p207 : lw_okq (⟨"ProofLibraryModel", "putBlank", "()V"⟩, 170) := ⟨⟨by decide +kernel, by decide +kernel⟩, List.mem_of_getElem? (i := 1988) (by decide +kernel), List.mem_of_getElem? (i := 3064) (by decide +kernel), List.mem_of_getElem? (i := 3065) (by decide +kernel)⟩
def lw_privs_13 : List (MethodName × Nat) := [(⟨"ProofLibraryModel", "lookAt", "(I)V"⟩, 170), (⟨"ProofLibraryModel", "part", "(II)V"⟩, 170), (⟨"ProofLibraryModel", "match", "(III)I"⟩, 170), (⟨"ProofLibraryModel", "hypOf", "(II)I"⟩, 170), (⟨"ProofLibraryModel", "variablesOf", "(I)I"⟩, 170), (⟨"ProofLibraryModel", "definitionOf", "(I)I"⟩, 170), (⟨"ProofLibraryModel", "findDefinition", "(I)I"⟩, 170), (⟨"ProofLibraryModel", "firstSide", "(I)I"⟩, 170), (⟨"ProofLibraryModel", "isFlat", "(I)Z"⟩, 170), (⟨"ProofLibraryModel", "isPlain", "(III)Z"⟩, 170), (⟨"ProofLibraryModel", "enter", "(I)V"⟩, 170), (⟨"ProofLibraryModel", "hasLeaf", "(II)Z"⟩, 170), (⟨"ProofLibraryModel", "isUsedBefore", "(II)Z"⟩, 170), (⟨"ProofLibraryModel", "beginTrees", "()V"⟩, 170), (⟨"ProofLibraryModel", "putLabel", "(I)V"⟩, 170), (⟨"ProofLibraryModel", "putBlank", "()V"⟩, 170)]
theorem lw_r13 : ∀ q ∈ lw_privs_13, lw_okq q := List.forall_mem_cons.mpr ⟨lw_p192, List.forall_mem_cons.mpr ⟨lw_p193, List.forall_mem_cons.mpr ⟨lw_p194, List.forall_mem_cons.mpr ⟨lw_p195, List.forall_mem_cons.mpr ⟨lw_p196, List.forall_mem_cons.mpr ⟨lw_p197, List.forall_mem_cons.mpr ⟨lw_p198, List.forall_mem_cons.mpr ⟨lw_p199, List.forall_mem_cons.mpr ⟨lw_p200, List.forall_mem_cons.mpr ⟨lw_p201, List.forall_mem_cons.mpr ⟨lw_p202, List.forall_mem_cons.mpr ⟨lw_p203, List.forall_mem_cons.mpr ⟨lw_p204, List.forall_mem_cons.mpr ⟨lw_p205, List.forall_mem_cons.mpr ⟨lw_p206, List.forall_mem_cons.mpr ⟨lw_p207, fun _ h => absurd h List.not_mem_nil⟩⟩⟩⟩⟩⟩⟩⟩⟩⟩⟩⟩⟩⟩⟩⟩
theorem lw_p208 : lw_okq (⟨"ProofLibraryModel", "put", "(I)V"⟩, 170) := ⟨⟨by decide +kernel, by decide +kernel⟩, List.mem_of_getElem? (i := 1988) (by decide +kernel), List.mem_of_getElem? (i := 3068) (by decide +kernel), List.mem_of_getElem? (i := 3069) (by decide +kernel)⟩
theorem lw_p209 : lw_okq (⟨"ProofLibraryModel", "putName", "(II)V"⟩, 170) := ⟨⟨by decide +kernel, by decide +kernel⟩, List.mem_of_getElem? (i := 1988) (by decide +kernel), List.mem_of_getElem? (i := 3072) (by decide +kernel), List.mem_of_getElem? (i := 3073) (by decide +kernel)⟩
theorem lw_p210 : lw_okq (⟨"ProofLibraryModel", "keepDraft", "()I"⟩, 170) := ⟨⟨by decide +kernel, by decide +kernel⟩, List.mem_of_getElem? (i := 1988) (by decide +kernel), List.mem_of_getElem? (i := 3076) (by decide +kernel), List.mem_of_getElem? (i := 3077) (by decide +kernel)⟩
theorem lw_p211 : lw_okq (⟨"ProofLibraryModel", "putSymbol", "(I)V"⟩, 170) := ⟨⟨by decide +kernel, by decide +kernel⟩, List.mem_of_getElem? (i := 1988) (by decide +kernel), List.mem_of_getElem? (i := 3080) (by decide +kernel), List.mem_of_getElem? (i := 3081) (by decide +kernel)⟩
theorem lw_p212 : lw_okq (⟨"ProofLibraryModel", "printTexts", "(I)I"⟩, 170) := ⟨⟨by decide +kernel, by decide +kernel⟩, List.mem_of_getElem? (i := 1988) (by decide +kernel), List.mem_of_getElem? (i := 3084) (by decide +kernel), List.mem_of_getElem? (i := 3085) (by decide +kernel)⟩
theorem lw_p213 : lw_okq (⟨"ProofLibraryModel", "printRow", "(II)I"⟩, 170) := ⟨⟨by decide +kernel, by decide +kernel⟩, List.mem_of_getElem? (i := 1988) (by decide +kernel), List.mem_of_getElem? (i := 3088) (by decide +kernel), List.mem_of_getElem? (i := 3089) (by decide +kernel)⟩
theorem lw_p214 : lw_okq (⟨"ProofLibraryModel", "printPacked", "(I)I"⟩, 170) := ⟨⟨by decide +kernel, by decide +kernel⟩, List.mem_of_getElem? (i := 1988) (by decide +kernel), List.mem_of_getElem? (i := 3092) (by decide +kernel), List.mem_of_getElem? (i := 3093) (by decide +kernel)⟩
theorem lw_p215 : lw_okq (⟨"ProofLibraryModel", "findSame", "()V"⟩, 170) := ⟨⟨by decide +kernel, by decide +kernel⟩, List.mem_of_getElem? (i := 1988) (by decide +kernel), List.mem_of_getElem? (i := 3096) (by decide +kernel), List.mem_of_getElem? (i := 3097) (by decide +kernel)⟩
theorem lw_p216 : lw_okq (⟨"ProofLibraryModel", "areSame", "(II)Z"⟩, 170) := ⟨⟨by decide +kernel, by decide +kernel⟩, List.mem_of_getElem? (i := 1988) (by decide +kernel), List.mem_of_getElem? (i := 3101) (by decide +kernel), List.mem_of_getElem? (i := 3102) (by decide +kernel)⟩
theorem lw_p217 : lw_okq (⟨"ProofLibraryModel", "tellSteps", "()V"⟩, 170) := ⟨⟨by decide +kernel, by decide +kernel⟩, List.mem_of_getElem? (i := 1988) (by decide +kernel), List.mem_of_getElem? (i := 3105) (by decide +kernel), List.mem_of_getElem? (i := 3106) (by decide +kernel)⟩
theorem lw_p218 : lw_okq (⟨"ProofLibraryModel", "putNumber", "(I)V"⟩, 170) := ⟨⟨by decide +kernel, by decide +kernel⟩, List.mem_of_getElem? (i := 1988) (by decide +kernel), List.mem_of_getElem? (i := 3109) (by decide +kernel), List.mem_of_getElem? (i := 3110) (by decide +kernel)⟩
theorem lw_p219 : lw_okq (⟨"ProofLibraryModel", "printPlain", "(I)I"⟩, 170) := ⟨⟨by decide +kernel, by decide +kernel⟩, List.mem_of_getElem? (i := 1988) (by decide +kernel), List.mem_of_getElem? (i := 3113) (by decide +kernel), List.mem_of_getElem? (i := 3114) (by decide +kernel)⟩
theorem lw_p220 : lw_okq (⟨"ProofLibraryModel", "printTree", "(II)I"⟩, 170) := ⟨⟨by decide +kernel, by decide +kernel⟩, List.mem_of_getElem? (i := 1988) (by decide +kernel), List.mem_of_getElem? (i := 3118) (by decide +kernel), List.mem_of_getElem? (i := 3119) (by decide +kernel)⟩
theorem lw_p221 : lw_okq (⟨"ProofLibraryModel", "printBare", "(I)I"⟩, 170) := ⟨⟨by decide +kernel, by decide +kernel⟩, List.mem_of_getElem? (i := 1988) (by decide +kernel), List.mem_of_getElem? (i := 3122) (by decide +kernel), List.mem_of_getElem? (i := 3123) (by decide +kernel)⟩
theorem lw_p222 : lw_okq (⟨"ProofLibraryModel", "findDefiners", "(I)V"⟩, 170) := ⟨⟨by decide +kernel, by decide +kernel⟩, List.mem_of_getElem? (i := 1988) (by decide +kernel), List.mem_of_getElem? (i := 3126) (by decide +kernel), List.mem_of_getElem? (i := 3127) (by decide +kernel)⟩
theorem lw_p223 : lw_okq (⟨"ProofLibraryModel", "ruleOf", "(I)I"⟩, 170) := ⟨⟨by decide +kernel, by decide +kernel⟩, List.mem_of_getElem? (i := 1988) (by decide +kernel), List.mem_of_getElem? (i := 3130) (by decide +kernel), List.mem_of_getElem? (i := 3131) (by decide +kernel)⟩
def lw_privs_14 : List (MethodName × Nat) := [(⟨"ProofLibraryModel", "put", "(I)V"⟩, 170), (⟨"ProofLibraryModel", "putName", "(II)V"⟩, 170), (⟨"ProofLibraryModel", "keepDraft", "()I"⟩, 170), (⟨"ProofLibraryModel", "putSymbol", "(I)V"⟩, 170), (⟨"ProofLibraryModel", "printTexts", "(I)I"⟩, 170), (⟨"ProofLibraryModel", "printRow", "(II)I"⟩, 170), (⟨"ProofLibraryModel", "printPacked", "(I)I"⟩, 170), (⟨"ProofLibraryModel", "findSame", "()V"⟩, 170), (⟨"ProofLibraryModel", "areSame", "(II)Z"⟩, 170), (⟨"ProofLibraryModel", "tellSteps", "()V"⟩, 170), (⟨"ProofLibraryModel", "putNumber", "(I)V"⟩, 170), (⟨"ProofLibraryModel", "printPlain", "(I)I"⟩, 170), (⟨"ProofLibraryModel", "printTree", "(II)I"⟩, 170), (⟨"ProofLibraryModel", "printBare", "(I)I"⟩, 170), (⟨"ProofLibraryModel", "findDefiners", "(I)V"⟩, 170), (⟨"ProofLibraryModel", "ruleOf", "(I)I"⟩, 170)]
theorem lw_r14 : ∀ q ∈ lw_privs_14, lw_okq q := List.forall_mem_cons.mpr ⟨lw_p208, List.forall_mem_cons.mpr ⟨lw_p209, List.forall_mem_cons.mpr ⟨lw_p210, List.forall_mem_cons.mpr ⟨lw_p211, List.forall_mem_cons.mpr ⟨lw_p212, List.forall_mem_cons.mpr ⟨lw_p213, List.forall_mem_cons.mpr ⟨lw_p214, List.forall_mem_cons.mpr ⟨lw_p215, List.forall_mem_cons.mpr ⟨lw_p216, List.forall_mem_cons.mpr ⟨lw_p217, List.forall_mem_cons.mpr ⟨lw_p218, List.forall_mem_cons.mpr ⟨lw_p219, List.forall_mem_cons.mpr ⟨lw_p220, List.forall_mem_cons.mpr ⟨lw_p221, List.forall_mem_cons.mpr ⟨lw_p222, List.forall_mem_cons.mpr ⟨lw_p223, fun _ h => absurd h List.not_mem_nil⟩⟩⟩⟩⟩⟩⟩⟩⟩⟩⟩⟩⟩⟩⟩⟩
theorem lw_p224 : lw_okq (⟨"ProofLibraryModel", "needRules", "(II)V"⟩, 170) := ⟨⟨by decide +kernel, by decide +kernel⟩, List.mem_of_getElem? (i := 1988) (by decide +kernel), List.mem_of_getElem? (i := 3134) (by decide +kernel), List.mem_of_getElem? (i := 3135) (by decide +kernel)⟩
theorem lw_p225 : lw_okq (⟨"ProofLibraryModel", "tellBare", "(II)I"⟩, 170) := ⟨⟨by decide +kernel, by decide +kernel⟩, List.mem_of_getElem? (i := 1988) (by decide +kernel), List.mem_of_getElem? (i := 3138) (by decide +kernel), List.mem_of_getElem? (i := 3139) (by decide +kernel)⟩
theorem lw_p226 : lw_okq (⟨"ProofLibraryModel", "addTask", "(I)V"⟩, 170) := ⟨⟨by decide +kernel, by decide +kernel⟩, List.mem_of_getElem? (i := 1988) (by decide +kernel), List.mem_of_getElem? (i := 3142) (by decide +kernel), List.mem_of_getElem? (i := 3143) (by decide +kernel)⟩
theorem lw_p227 : lw_okq (⟨"ProofLibraryModel", "leafOf", "(II)I"⟩, 170) := ⟨⟨by decide +kernel, by decide +kernel⟩, List.mem_of_getElem? (i := 1988) (by decide +kernel), List.mem_of_getElem? (i := 3146) (by decide +kernel), List.mem_of_getElem? (i := 3147) (by decide +kernel)⟩
theorem lw_p228 : lw_okq (⟨"ProofLibraryModel", "spread", "(I)Z"⟩, 170) := ⟨⟨by decide +kernel, by decide +kernel⟩, List.mem_of_getElem? (i := 1988) (by decide +kernel), List.mem_of_getElem? (i := 3150) (by decide +kernel), List.mem_of_getElem? (i := 3151) (by decide +kernel)⟩
theorem lw_p229 : lw_okq (⟨"ProofLibraryModel", "putTree", "(I)V"⟩, 170) := ⟨⟨by decide +kernel, by decide +kernel⟩, List.mem_of_getElem? (i := 1988) (by decide +kernel), List.mem_of_getElem? (i := 3154) (by decide +kernel), List.mem_of_getElem? (i := 3155) (by decide +kernel)⟩
theorem lw_p230 : lw_okq (⟨"ProofLibraryModel", "takeRow", "()I"⟩, 170) := ⟨⟨by decide +kernel, by decide +kernel⟩, List.mem_of_getElem? (i := 1988) (by decide +kernel), List.mem_of_getElem? (i := 3162) (by decide +kernel), List.mem_of_getElem? (i := 3163) (by decide +kernel)⟩
theorem lw_p231 : lw_okq (⟨"ProofLibraryModel", "rowTree", "(I)I"⟩, 170) := ⟨⟨by decide +kernel, by decide +kernel⟩, List.mem_of_getElem? (i := 1988) (by decide +kernel), List.mem_of_getElem? (i := 3166) (by decide +kernel), List.mem_of_getElem? (i := 3167) (by decide +kernel)⟩
theorem lw_p232 : lw_okq (⟨"ProofLibraryModel", "fits", "(II)Z"⟩, 170) := ⟨⟨by decide +kernel, by decide +kernel⟩, List.mem_of_getElem? (i := 1988) (by decide +kernel), List.mem_of_getElem? (i := 3170) (by decide +kernel), List.mem_of_getElem? (i := 3171) (by decide +kernel)⟩
theorem lw_p233 : lw_okq (⟨"ProofLibraryModel", "isSameStretch", "(IIII)Z"⟩, 170) := ⟨⟨by decide +kernel, by decide +kernel⟩, List.mem_of_getElem? (i := 1988) (by decide +kernel), List.mem_of_getElem? (i := 3174) (by decide +kernel), List.mem_of_getElem? (i := 3175) (by decide +kernel)⟩
theorem lw_p234 : lw_okq (⟨"ProofLibraryModel", "tellHyps", "(I)I"⟩, 170) := ⟨⟨by decide +kernel, by decide +kernel⟩, List.mem_of_getElem? (i := 1988) (by decide +kernel), List.mem_of_getElem? (i := 3178) (by decide +kernel), List.mem_of_getElem? (i := 3179) (by decide +kernel)⟩
def lw_privs_15 : List (MethodName × Nat) := [(⟨"ProofLibraryModel", "needRules", "(II)V"⟩, 170), (⟨"ProofLibraryModel", "tellBare", "(II)I"⟩, 170), (⟨"ProofLibraryModel", "addTask", "(I)V"⟩, 170), (⟨"ProofLibraryModel", "leafOf", "(II)I"⟩, 170), (⟨"ProofLibraryModel", "spread", "(I)Z"⟩, 170), (⟨"ProofLibraryModel", "putTree", "(I)V"⟩, 170), (⟨"ProofLibraryModel", "takeRow", "()I"⟩, 170), (⟨"ProofLibraryModel", "rowTree", "(I)I"⟩, 170), (⟨"ProofLibraryModel", "fits", "(II)Z"⟩, 170), (⟨"ProofLibraryModel", "isSameStretch", "(IIII)Z"⟩, 170), (⟨"ProofLibraryModel", "tellHyps", "(I)I"⟩, 170)]
theorem lw_r15 : ∀ q ∈ lw_privs_15, lw_okq q := List.forall_mem_cons.mpr ⟨lw_p224, List.forall_mem_cons.mpr ⟨lw_p225, List.forall_mem_cons.mpr ⟨lw_p226, List.forall_mem_cons.mpr ⟨lw_p227, List.forall_mem_cons.mpr ⟨lw_p228, List.forall_mem_cons.mpr ⟨lw_p229, List.forall_mem_cons.mpr ⟨lw_p230, List.forall_mem_cons.mpr ⟨lw_p231, List.forall_mem_cons.mpr ⟨lw_p232, List.forall_mem_cons.mpr ⟨lw_p233, List.forall_mem_cons.mpr ⟨lw_p234, fun _ h => absurd h List.not_mem_nil⟩⟩⟩⟩⟩⟩⟩⟩⟩⟩⟩
def lw_privs : List (MethodName × Nat) := lw_privs_1 ++ (lw_privs_2 ++ (lw_privs_3 ++ (lw_privs_4 ++ (lw_privs_5 ++ (lw_privs_6 ++ (lw_privs_7 ++ (lw_privs_8 ++ (lw_privs_9 ++ (lw_privs_10 ++ (lw_privs_11 ++ (lw_privs_12 ++ (lw_privs_13 ++ (lw_privs_14 ++ (lw_privs_15))))))))))))))
def lw_tbl : List Cond := k2_sels lw_privs ++ tables_1
theorem lw_privs_ok : ∀ q ∈ lw_privs, lw_okq q := by
  show ∀ q ∈ lw_privs_1 ++ (lw_privs_2 ++ (lw_privs_3 ++ (lw_privs_4 ++ (lw_privs_5 ++ (lw_privs_6 ++ (lw_privs_7 ++ (lw_privs_8 ++ (lw_privs_9 ++ (lw_privs_10 ++ (lw_privs_11 ++ (lw_privs_12 ++ (lw_privs_13 ++ (lw_privs_14 ++ (lw_privs_15)))))))))))))), lw_okq q
  exact List.forall_mem_append.mpr ⟨lw_r1, List.forall_mem_append.mpr ⟨lw_r2, List.forall_mem_append.mpr ⟨lw_r3, List.forall_mem_append.mpr ⟨lw_r4, List.forall_mem_append.mpr ⟨lw_r5, List.forall_mem_append.mpr ⟨lw_r6, List.forall_mem_append.mpr ⟨lw_r7, List.forall_mem_append.mpr ⟨lw_r8, List.forall_mem_append.mpr ⟨lw_r9, List.forall_mem_append.mpr ⟨lw_r10, List.forall_mem_append.mpr ⟨lw_r11, List.forall_mem_append.mpr ⟨lw_r12, List.forall_mem_append.mpr ⟨lw_r13, List.forall_mem_append.mpr ⟨lw_r14, lw_r15⟩⟩⟩⟩⟩⟩⟩⟩⟩⟩⟩⟩⟩⟩
def RX0 : String := "ProofLibrary$Assertions"
def TX0 : u_T := fun k => match k with
  | 0 => ("ProofLibrary$Assertions", "library", "LProofLibrary$Library;", true)
  | 1 => ("ProofLibrary$Assertions", "scopes", "LProofLibrary$Scopes;", true)
  | 2 => ("ProofLibrary$Assertions", "frameAt", "[I", true)
  | 3 => ("ProofLibrary$Assertions", "frameSize", "[I", true)
  | 4 => ("ProofLibrary$Assertions", "hypotheses", "[I", true)
  | 5 => ("ProofLibrary$Assertions", "hypothesesUsed", "I", false)
  | 6 => ("ProofLibrary$Assertions", "pairAt", "[I", true)
  | 7 => ("ProofLibrary$Assertions", "pairSize", "[I", true)
  | 8 => ("ProofLibrary$Assertions", "pair", "[I", true)
  | 9 => ("ProofLibrary$Assertions", "pairs", "I", false)
  | 10 => ("ProofLibrary$Assertions", "rowAt", "[I", true)
  | 11 => ("ProofLibrary$Assertions", "rowCount", "[I", true)
  | 12 => ("ProofLibrary$Assertions", "rowStatement", "[I", true)
  | 13 => ("ProofLibrary$Assertions", "childAt", "[I", true)
  | 14 => ("ProofLibrary$Assertions", "children", "[I", true)
  | 15 => ("ProofLibrary$Assertions", "rowsUsed", "I", false)
  | 16 => ("ProofLibrary$Assertions", "steps", "I", false)
  | 17 => ("ProofLibrary$Assertions", "rowLabels", "[J", true)
  | 18 => ("ProofLibrary$Assertions", "rests", "[J", true)
  | _ => ("ProofLibrary$Assertions", "kept", "[I", true)
def tyX0 : Nat → FieldType := fun k => match k with
  | 0 => .object "ProofLibrary$Library"
  | 1 => .object "ProofLibrary$Scopes"
  | 2 => .array .int
  | 3 => .array .int
  | 4 => .array .int
  | 5 => .int
  | 6 => .array .int
  | 7 => .array .int
  | 8 => .array .int
  | 9 => .int
  | 10 => .array .int
  | 11 => .array .int
  | 12 => .array .int
  | 13 => .array .int
  | 14 => .array .int
  | 15 => .int
  | 16 => .int
  | 17 => .array .long
  | 18 => .array .long
  | _ => .array .int
abbrev wsX00 : List Cond := u_ws RX0 TX0 20
theorem nmX0 : ∀ a, a < 20 → ∀ b, b < 20 → a ≠ b → (TX0 a).2.1 ≠ (TX0 b).2.1 := by decide +kernel
theorem tyX0_ok : ∀ k, k < 20 → parseFieldDescriptor (TX0 k).2.2.1 = some (tyX0 k) := by decide +kernel
abbrev cX0_init : ByteArray := prog_2_method_1_code
def yX0_init : MethodName := ⟨RX0, "<init>", "(LProofLibrary$Library;LProofLibrary$Scopes;)V"⟩
abbrev cX0_keep : ByteArray := prog_2_method_2_code
def yX0_keep : MethodName := ⟨RX0, "keep", "()V"⟩
abbrev cX0_goBack : ByteArray := prog_2_method_3_code
def yX0_goBack : MethodName := ⟨RX0, "goBack", "()V"⟩
abbrev cX0_makeFrame : ByteArray := prog_2_method_4_code
def yX0_makeFrame : MethodName := ⟨RX0, "makeFrame", "(I)Z"⟩
abbrev cX0_takeHypotheses : ByteArray := prog_2_method_5_code
def yX0_takeHypotheses : MethodName := ⟨RX0, "takeHypotheses", "(I)Z"⟩
abbrev cX0_takePairs : ByteArray := prog_2_method_6_code
def yX0_takePairs : MethodName := ⟨RX0, "takePairs", "(I)Z"⟩
abbrev cX0_placeInFrame : ByteArray := prog_2_method_7_code
def yX0_placeInFrame : MethodName := ⟨RX0, "placeInFrame", "(II)I"⟩
abbrev cX0_hasEssential : ByteArray := prog_2_method_8_code
def yX0_hasEssential : MethodName := ⟨RX0, "hasEssential", "(I)Z"⟩
abbrev cX0_isPair : ByteArray := prog_2_method_9_code
def yX0_isPair : MethodName := ⟨RX0, "isPair", "(III)Z"⟩
abbrev cX0_firstOf : ByteArray := prog_2_method_10_code
def yX0_firstOf : MethodName := ⟨RX0, "firstOf", "(I)I"⟩
abbrev cX0_secondOf : ByteArray := prog_2_method_11_code
def yX0_secondOf : MethodName := ⟨RX0, "secondOf", "(I)I"⟩
abbrev cX0_childCount : ByteArray := prog_2_method_12_code
def yX0_childCount : MethodName := ⟨RX0, "childCount", "(I)I"⟩
abbrev cX0_keepRows : ByteArray := prog_2_method_13_code
def yX0_keepRows : MethodName := ⟨RX0, "keepRows", "(II)V"⟩
abbrev cX0_labelsOf : ByteArray := prog_2_method_14_code
def yX0_labelsOf : MethodName := ⟨RX0, "labelsOf", "(I)J"⟩
abbrev cX0_addRest : ByteArray := prog_2_method_15_code
def yX0_addRest : MethodName := ⟨RX0, "addRest", "(II)V"⟩
abbrev cX0_restsOn : ByteArray := prog_2_method_16_code
def yX0_restsOn : MethodName := ⟨RX0, "restsOn", "(II)Z"⟩
abbrev cX0_restCount : ByteArray := prog_2_method_17_code
def yX0_restCount : MethodName := ⟨RX0, "restCount", "(I)I"⟩
abbrev cX0_restsOnEarlier : ByteArray := prog_2_method_18_code
def yX0_restsOnEarlier : MethodName := ⟨RX0, "restsOnEarlier", "(I)Z"⟩
def RX1 : String := "ProofLibrary$Chart"
def TX1 : u_T := fun k => match k with
  | 0 => ("ProofLibrary$Chart", "library", "LProofLibrary$Library;", true)
  | 1 => ("ProofLibrary$Chart", "rules", "LProofLibrary$Rules;", true)
  | 2 => ("ProofLibrary$Chart", "row", "[I", true)
  | 3 => ("ProofLibrary$Chart", "leaf", "[I", true)
  | 4 => ("ProofLibrary$Chart", "length", "I", false)
  | 5 => ("ProofLibrary$Chart", "limit", "I", false)
  | 6 => ("ProofLibrary$Chart", "goal", "I", false)
  | 7 => ("ProofLibrary$Chart", "where", "[J", true)
  | 8 => ("ProofLibrary$Chart", "has", "[J", true)
  | 9 => ("ProofLibrary$Chart", "several", "[J", true)
  | 10 => ("ProofLibrary$Chart", "madeBy", "[I", true)
  | 11 => ("ProofLibrary$Chart", "start", "I", false)
  | 12 => ("ProofLibrary$Chart", "stackNode", "[I", true)
  | 13 => ("ProofLibrary$Chart", "stackHas", "[J", true)
  | 14 => ("ProofLibrary$Chart", "stackSeveral", "[J", true)
  | 15 => ("ProofLibrary$Chart", "base", "[I", true)
  | 16 => ("ProofLibrary$Chart", "total", "[I", true)
  | _ => ("ProofLibrary$Chart", "next", "[I", true)
def tyX1 : Nat → FieldType := fun k => match k with
  | 0 => .object "ProofLibrary$Library"
  | 1 => .object "ProofLibrary$Rules"
  | 2 => .array .int
  | 3 => .array .int
  | 4 => .int
  | 5 => .int
  | 6 => .int
  | 7 => .array .long
  | 8 => .array .long
  | 9 => .array .long
  | 10 => .array .int
  | 11 => .int
  | 12 => .array .int
  | 13 => .array .long
  | 14 => .array .long
  | 15 => .array .int
  | 16 => .array .int
  | _ => .array .int
abbrev wsX10 : List Cond := u_ws RX1 TX1 18
theorem nmX1 : ∀ a, a < 18 → ∀ b, b < 18 → a ≠ b → (TX1 a).2.1 ≠ (TX1 b).2.1 := by decide +kernel
theorem tyX1_ok : ∀ k, k < 18 → parseFieldDescriptor (TX1 k).2.2.1 = some (tyX1 k) := by decide +kernel
abbrev cX1_init : ByteArray := prog_3_method_1_code
def yX1_init : MethodName := ⟨RX1, "<init>", "(LProofLibrary$Library;LProofLibrary$Rules;)V"⟩
abbrev cX1_takeStatement : ByteArray := prog_3_method_2_code
def yX1_takeStatement : MethodName := ⟨RX1, "takeStatement", "(I)V"⟩
abbrev cX1_takeRow : ByteArray := prog_3_method_3_code
def yX1_takeRow : MethodName := ⟨RX1, "takeRow", "([II)V"⟩
abbrev cX1_forgetRow : ByteArray := prog_3_method_4_code
def yX1_forgetRow : MethodName := ⟨RX1, "forgetRow", "()V"⟩
abbrev cX1_countTrees : ByteArray := prog_3_method_5_code
def yX1_countTrees : MethodName := ⟨RX1, "countTrees", "()I"⟩
abbrev cX1_reaches : ByteArray := prog_3_method_6_code
def yX1_reaches : MethodName := ⟨RX1, "reaches", "(II)Z"⟩
abbrev cX1_parseFromStart : ByteArray := prog_3_method_7_code
def yX1_parseFromStart : MethodName := ⟨RX1, "parseFromStart", "()V"⟩
abbrev cX1_walk : ByteArray := prog_3_method_8_code
def yX1_walk : MethodName := ⟨RX1, "walk", "(IJJZ)V"⟩
abbrev cX1_step : ByteArray := prog_3_method_9_code
def yX1_step : MethodName := ⟨RX1, "step", "(II)Z"⟩
abbrev cX1_addRules : ByteArray := prog_3_method_10_code
def yX1_addRules : MethodName := ⟨RX1, "addRules", "(IJJ)V"⟩
abbrev cX1_add : ByteArray := prog_3_method_11_code
def yX1_add : MethodName := ⟨RX1, "add", "(IJJI)V"⟩
abbrev cX1_ruleOf : ByteArray := prog_3_method_12_code
def yX1_ruleOf : MethodName := ⟨RX1, "ruleOf", "(III)I"⟩
abbrev cX1_addUnits : ByteArray := prog_3_method_13_code
def yX1_addUnits : MethodName := ⟨RX1, "addUnits", "(I)V"⟩
abbrev cX1_hasUnits : ByteArray := prog_3_method_14_code
def yX1_hasUnits : MethodName := ⟨RX1, "hasUnits", "(I)Z"⟩
abbrev cX1_countUnits : ByteArray := prog_3_method_15_code
def yX1_countUnits : MethodName := ⟨RX1, "countUnits", "()Z"⟩
def RX2 : String := "ProofLibrary$Definitions"
def TX2 : u_T := fun k => match k with
  | 0 => ("ProofLibrary$Definitions", "library", "LProofLibrary$Library;", true)
  | 1 => ("ProofLibrary$Definitions", "assertions", "LProofLibrary$Assertions;", true)
  | 2 => ("ProofLibrary$Definitions", "rules", "LProofLibrary$Rules;", true)
  | 3 => ("ProofLibrary$Definitions", "chart", "LProofLibrary$Chart;", true)
  | 4 => ("ProofLibrary$Definitions", "tree", "LProofLibrary$Tree;", true)
  | 5 => ("ProofLibrary$Definitions", "pile", "LProofLibrary$Pile;", true)
  | 6 => ("ProofLibrary$Definitions", "studied", "I", false)
  | 7 => ("ProofLibrary$Definitions", "firstUse", "[I", true)
  | 8 => ("ProofLibrary$Definitions", "needed", "[I", true)
  | 9 => ("ProofLibrary$Definitions", "target", "[I", true)
  | 10 => ("ProofLibrary$Definitions", "definedBy", "[I", true)
  | 11 => ("ProofLibrary$Definitions", "equality", "[Z", true)
  | 12 => ("ProofLibrary$Definitions", "equalities", "I", false)
  | 13 => ("ProofLibrary$Definitions", "prepared", "I", false)
  | 14 => ("ProofLibrary$Definitions", "bodies", "[I", false)
  | 15 => ("ProofLibrary$Definitions", "bodyAt", "[I", true)
  | 16 => ("ProofLibrary$Definitions", "bodySize", "[I", true)
  | 17 => ("ProofLibrary$Definitions", "bodiesUsed", "I", false)
  | 18 => ("ProofLibrary$Definitions", "slots", "[I", true)
  | 19 => ("ProofLibrary$Definitions", "firstTree", "I", false)
  | _ => ("ProofLibrary$Definitions", "secondTree", "I", false)
def tyX2 : Nat → FieldType := fun k => match k with
  | 0 => .object "ProofLibrary$Library"
  | 1 => .object "ProofLibrary$Assertions"
  | 2 => .object "ProofLibrary$Rules"
  | 3 => .object "ProofLibrary$Chart"
  | 4 => .object "ProofLibrary$Tree"
  | 5 => .object "ProofLibrary$Pile"
  | 6 => .int
  | 7 => .array .int
  | 8 => .array .int
  | 9 => .array .int
  | 10 => .array .int
  | 11 => .array .boolean
  | 12 => .int
  | 13 => .int
  | 14 => .array .int
  | 15 => .array .int
  | 16 => .array .int
  | 17 => .int
  | 18 => .array .int
  | 19 => .int
  | _ => .int
abbrev wsX20 : List Cond := u_ws RX2 TX2 21
theorem nmX2 : ∀ a, a < 21 → ∀ b, b < 21 → a ≠ b → (TX2 a).2.1 ≠ (TX2 b).2.1 := by decide +kernel
theorem tyX2_ok : ∀ k, k < 21 → parseFieldDescriptor (TX2 k).2.2.1 = some (tyX2 k) := by decide +kernel
abbrev cX2_init : ByteArray := prog_4_method_1_code
def yX2_init : MethodName := ⟨RX2, "<init>", "(LProofLibrary$Library;LProofLibrary$Assertions;LProofLibrary$Rules;LProofLibrary$Chart;LProofLibrary$Tree;LProofLibrary$Pile;)V"⟩
abbrev cX2_turn : ByteArray := prog_4_method_2_code
def yX2_turn : MethodName := ⟨RX2, "turn", "(I)I"⟩
abbrev cX2_study : ByteArray := prog_4_method_3_code
def yX2_study : MethodName := ⟨RX2, "study", "(I)V"⟩
abbrev cX2_noteUses : ByteArray := prog_4_method_4_code
def yX2_noteUses : MethodName := ⟨RX2, "noteUses", "(I)V"⟩
abbrev cX2_canDefine : ByteArray := prog_4_method_5_code
def yX2_canDefine : MethodName := ⟨RX2, "canDefine", "(I)Z"⟩
abbrev cX2_partSides : ByteArray := prog_4_method_6_code
def yX2_partSides : MethodName := ⟨RX2, "partSides", "()Z"⟩
abbrev cX2_fillSlots : ByteArray := prog_4_method_7_code
def yX2_fillSlots : MethodName := ⟨RX2, "fillSlots", "(I)Z"⟩
abbrev cX2_clearSlots : ByteArray := prog_4_method_8_code
def yX2_clearSlots : MethodName := ⟨RX2, "clearSlots", "(I)V"⟩
abbrev cX2_secondHasNoOther : ByteArray := prog_4_method_9_code
def yX2_secondHasNoOther : MethodName := ⟨RX2, "secondHasNoOther", "(I)Z"⟩
abbrev cX2_definedRule : ByteArray := prog_4_method_10_code
def yX2_definedRule : MethodName := ⟨RX2, "definedRule", "(I)I"⟩
abbrev cX2_prepare : ByteArray := prog_4_method_11_code
def yX2_prepare : MethodName := ⟨RX2, "prepare", "(I)V"⟩
abbrev cX2_makeBody : ByteArray := prog_4_method_12_code
def yX2_makeBody : MethodName := ⟨RX2, "makeBody", "(II)V"⟩
abbrev cX2_evaluate : ByteArray := prog_4_method_13_code
def yX2_evaluate : MethodName := ⟨RX2, "evaluate", "(III)Z"⟩
abbrev cX2_compose : ByteArray := prog_4_method_14_code
def yX2_compose : MethodName := ⟨RX2, "compose", "(III)Z"⟩
abbrev cX2_composeSymbol : ByteArray := prog_4_method_15_code
def yX2_composeSymbol : MethodName := ⟨RX2, "composeSymbol", "(I)Z"⟩
abbrev cX2_composeRow : ByteArray := prog_4_method_16_code
def yX2_composeRow : MethodName := ⟨RX2, "composeRow", "(I)Z"⟩
def RX3 : String := "ProofLibrary$Library"
def TX3 : u_T := fun k => match k with
  | 0 => ("ProofLibrary$Library", "letters", "[C", true)
  | 1 => ("ProofLibrary$Library", "nameAt", "[I", true)
  | 2 => ("ProofLibrary$Library", "meaning", "[I", true)
  | 3 => ("ProofLibrary$Library", "nextName", "[I", true)
  | 4 => ("ProofLibrary$Library", "heads", "[I", true)
  | 5 => ("ProofLibrary$Library", "names", "I", false)
  | 6 => ("ProofLibrary$Library", "symbolName", "[I", true)
  | 7 => ("ProofLibrary$Library", "variable", "[Z", true)
  | 8 => ("ProofLibrary$Library", "firstFloat", "[I", true)
  | 9 => ("ProofLibrary$Library", "rank", "[I", true)
  | 10 => ("ProofLibrary$Library", "ranked", "[I", true)
  | 11 => ("ProofLibrary$Library", "ranks", "I", false)
  | 12 => ("ProofLibrary$Library", "symbols", "I", false)
  | 13 => ("ProofLibrary$Library", "labelName", "[I", true)
  | 14 => ("ProofLibrary$Library", "kind", "[I", true)
  | 15 => ("ProofLibrary$Library", "at", "[I", true)
  | 16 => ("ProofLibrary$Library", "text", "[I", true)
  | 17 => ("ProofLibrary$Library", "floats", "[I", true)
  | 18 => ("ProofLibrary$Library", "used", "I", false)
  | 19 => ("ProofLibrary$Library", "statements", "I", false)
  | _ => ("ProofLibrary$Library", "kept", "[I", true)
def tyX3 : Nat → FieldType := fun k => match k with
  | 0 => .array .char
  | 1 => .array .int
  | 2 => .array .int
  | 3 => .array .int
  | 4 => .array .int
  | 5 => .int
  | 6 => .array .int
  | 7 => .array .boolean
  | 8 => .array .int
  | 9 => .array .int
  | 10 => .array .int
  | 11 => .int
  | 12 => .int
  | 13 => .array .int
  | 14 => .array .int
  | 15 => .array .int
  | 16 => .array .int
  | 17 => .array .int
  | 18 => .int
  | 19 => .int
  | _ => .array .int
abbrev wsX30 : List Cond := u_ws RX3 TX3 21
theorem nmX3 : ∀ a, a < 21 → ∀ b, b < 21 → a ≠ b → (TX3 a).2.1 ≠ (TX3 b).2.1 := by decide +kernel
theorem tyX3_ok : ∀ k, k < 21 → parseFieldDescriptor (TX3 k).2.2.1 = some (tyX3 k) := by decide +kernel
abbrev cX3_init : ByteArray := prog_5_method_1_code
def yX3_init : MethodName := ⟨RX3, "<init>", "()V"⟩
abbrev cX3_bucket : ByteArray := prog_5_method_2_code
def yX3_bucket : MethodName := ⟨RX3, "bucket", "([CII)I"⟩
abbrev cX3_nameOf : ByteArray := prog_5_method_3_code
def yX3_nameOf : MethodName := ⟨RX3, "nameOf", "([CII)I"⟩
abbrev cX3_isName : ByteArray := prog_5_method_4_code
def yX3_isName : MethodName := ⟨RX3, "isName", "(I[CII)Z"⟩
abbrev cX3_statementOf : ByteArray := prog_5_method_5_code
def yX3_statementOf : MethodName := ⟨RX3, "statementOf", "(I)I"⟩
abbrev cX3_symbolOf : ByteArray := prog_5_method_6_code
def yX3_symbolOf : MethodName := ⟨RX3, "symbolOf", "(I)I"⟩
abbrev cX3_statementNamed : ByteArray := prog_5_method_7_code
def yX3_statementNamed : MethodName := ⟨RX3, "statementNamed", "([CII)I"⟩
abbrev cX3_symbolNamed : ByteArray := prog_5_method_8_code
def yX3_symbolNamed : MethodName := ⟨RX3, "symbolNamed", "([CII)I"⟩
abbrev cX3_hasRoomForName : ByteArray := prog_5_method_9_code
def yX3_hasRoomForName : MethodName := ⟨RX3, "hasRoomForName", "(I)Z"⟩
abbrev cX3_addName : ByteArray := prog_5_method_10_code
def yX3_addName : MethodName := ⟨RX3, "addName", "([CIII)V"⟩
abbrev cX3_addSymbol : ByteArray := prog_5_method_11_code
def yX3_addSymbol : MethodName := ⟨RX3, "addSymbol", "([CIIZ)I"⟩
abbrev cX3_addLabel : ByteArray := prog_5_method_12_code
def yX3_addLabel : MethodName := ⟨RX3, "addLabel", "([CII)V"⟩
abbrev cX3_append : ByteArray := prog_5_method_13_code
def yX3_append : MethodName := ⟨RX3, "append", "(II)V"⟩
abbrev cX3_giveRank : ByteArray := prog_5_method_14_code
def yX3_giveRank : MethodName := ⟨RX3, "giveRank", "(I)V"⟩
abbrev cX3_add : ByteArray := prog_5_method_15_code
def yX3_add : MethodName := ⟨RX3, "add", "(I)V"⟩
abbrev cX3_variableOf : ByteArray := prog_5_method_16_code
def yX3_variableOf : MethodName := ⟨RX3, "variableOf", "(I)I"⟩
abbrev cX3_typeOf : ByteArray := prog_5_method_17_code
def yX3_typeOf : MethodName := ⟨RX3, "typeOf", "(I)I"⟩
abbrev cX3_lengthOf : ByteArray := prog_5_method_18_code
def yX3_lengthOf : MethodName := ⟨RX3, "lengthOf", "(I)I"⟩
abbrev cX3_isStatement : ByteArray := prog_5_method_19_code
def yX3_isStatement : MethodName := ⟨RX3, "isStatement", "(I)Z"⟩
abbrev cX3_isAssertion : ByteArray := prog_5_method_20_code
def yX3_isAssertion : MethodName := ⟨RX3, "isAssertion", "(I)Z"⟩
abbrev cX3_isProved : ByteArray := prog_5_method_21_code
def yX3_isProved : MethodName := ⟨RX3, "isProved", "(I)Z"⟩
abbrev cX3_isSymbol : ByteArray := prog_5_method_22_code
def yX3_isSymbol : MethodName := ⟨RX3, "isSymbol", "(I)Z"⟩
abbrev cX3_constants : ByteArray := prog_5_method_23_code
def yX3_constants : MethodName := ⟨RX3, "constants", "()I"⟩
abbrev cX3_ofKind : ByteArray := prog_5_method_24_code
def yX3_ofKind : MethodName := ⟨RX3, "ofKind", "(I)I"⟩
abbrev cX3_keep : ByteArray := prog_5_method_25_code
def yX3_keep : MethodName := ⟨RX3, "keep", "()V"⟩
abbrev cX3_goBack : ByteArray := prog_5_method_26_code
def yX3_goBack : MethodName := ⟨RX3, "goBack", "()V"⟩
def RX4 : String := "ProofLibrary$Packer"
def TX4 : u_T := fun k => match k with
  | 0 => ("ProofLibrary$Packer", "library", "LProofLibrary$Library;", true)
  | 1 => ("ProofLibrary$Packer", "assertions", "LProofLibrary$Assertions;", true)
  | 2 => ("ProofLibrary$Packer", "sameAs", "[I", true)
  | 3 => ("ProofLibrary$Packer", "heads", "[I", true)
  | 4 => ("ProofLibrary$Packer", "nextRow", "[I", true)
  | 5 => ("ProofLibrary$Packer", "tellings", "[I", true)
  | 6 => ("ProofLibrary$Packer", "numbers", "[I", true)
  | 7 => ("ProofLibrary$Packer", "labelNumbers", "[I", true)
  | 8 => ("ProofLibrary$Packer", "listed", "[I", true)
  | 9 => ("ProofLibrary$Packer", "listedCount", "I", false)
  | 10 => ("ProofLibrary$Packer", "told", "[I", true)
  | 11 => ("ProofLibrary$Packer", "toldCount", "I", false)
  | 12 => ("ProofLibrary$Packer", "stackRow", "[I", true)
  | 13 => ("ProofLibrary$Packer", "stackNext", "[I", true)
  | 14 => ("ProofLibrary$Packer", "depth", "I", false)
  | 15 => ("ProofLibrary$Packer", "full", "[I", true)
  | 16 => ("ProofLibrary$Packer", "fullCount", "I", false)
  | 17 => ("ProofLibrary$Packer", "starts", "[I", true)
  | _ => ("ProofLibrary$Packer", "base", "I", false)
def tyX4 : Nat → FieldType := fun k => match k with
  | 0 => .object "ProofLibrary$Library"
  | 1 => .object "ProofLibrary$Assertions"
  | 2 => .array .int
  | 3 => .array .int
  | 4 => .array .int
  | 5 => .array .int
  | 6 => .array .int
  | 7 => .array .int
  | 8 => .array .int
  | 9 => .int
  | 10 => .array .int
  | 11 => .int
  | 12 => .array .int
  | 13 => .array .int
  | 14 => .int
  | 15 => .array .int
  | 16 => .int
  | 17 => .array .int
  | _ => .int
abbrev wsX40 : List Cond := u_ws RX4 TX4 19
theorem nmX4 : ∀ a, a < 19 → ∀ b, b < 19 → a ≠ b → (TX4 a).2.1 ≠ (TX4 b).2.1 := by decide +kernel
theorem tyX4_ok : ∀ k, k < 19 → parseFieldDescriptor (TX4 k).2.2.1 = some (tyX4 k) := by decide +kernel
abbrev cX4_init : ByteArray := prog_6_method_1_code
def yX4_init : MethodName := ⟨RX4, "<init>", "(LProofLibrary$Library;LProofLibrary$Assertions;)V"⟩
abbrev cX4_pack : ByteArray := prog_6_method_2_code
def yX4_pack : MethodName := ⟨RX4, "pack", "(I)V"⟩
abbrev cX4_unpack : ByteArray := prog_6_method_3_code
def yX4_unpack : MethodName := ⟨RX4, "unpack", "(I)V"⟩
abbrev cX4_findSame : ByteArray := prog_6_method_4_code
def yX4_findSame : MethodName := ⟨RX4, "findSame", "(I)V"⟩
abbrev cX4_hash : ByteArray := prog_6_method_5_code
def yX4_hash : MethodName := ⟨RX4, "hash", "(I)I"⟩
abbrev cX4_isAlike : ByteArray := prog_6_method_6_code
def yX4_isAlike : MethodName := ⟨RX4, "isAlike", "(II)Z"⟩
abbrev cX4_walk : ByteArray := prog_6_method_7_code
def yX4_walk : MethodName := ⟨RX4, "walk", "(IZ)V"⟩
abbrev cX4_enter : ByteArray := prog_6_method_8_code
def yX4_enter : MethodName := ⟨RX4, "enter", "(IZ)V"⟩
abbrev cX4_tell : ByteArray := prog_6_method_9_code
def yX4_tell : MethodName := ⟨RX4, "tell", "(I)V"⟩
abbrev cX4_giveNumbers : ByteArray := prog_6_method_10_code
def yX4_giveNumbers : MethodName := ⟨RX4, "giveNumbers", "(I)V"⟩
abbrev cX4_statementOf : ByteArray := prog_6_method_11_code
def yX4_statementOf : MethodName := ⟨RX4, "statementOf", "(I)I"⟩
abbrev cX4_numberOf : ByteArray := prog_6_method_12_code
def yX4_numberOf : MethodName := ⟨RX4, "numberOf", "(I)I"⟩
abbrev cX4_saves : ByteArray := prog_6_method_13_code
def yX4_saves : MethodName := ⟨RX4, "saves", "(I)Z"⟩
abbrev cX4_comesBack : ByteArray := prog_6_method_14_code
def yX4_comesBack : MethodName := ⟨RX4, "comesBack", "(I)Z"⟩
abbrev cX4_fill : ByteArray := prog_6_method_15_code
def yX4_fill : MethodName := ⟨RX4, "fill", "()Z"⟩
abbrev cX4_fillIn : ByteArray := prog_6_method_16_code
def yX4_fillIn : MethodName := ⟨RX4, "fillIn", "(I)Z"⟩
def RX5 : String := "ProofLibrary$Paper"
def TX5 : u_T := fun k => match k with
  | 0 => ("ProofLibrary$Paper", "library", "LProofLibrary$Library;", true)
  | 1 => ("ProofLibrary$Paper", "draft", "[C", false)
  | 2 => ("ProofLibrary$Paper", "draftLength", "I", false)
  | 3 => ("ProofLibrary$Paper", "overflow", "Z", false)
  | 4 => ("ProofLibrary$Paper", "shown", "[C", false)
  | _ => ("ProofLibrary$Paper", "shownLength", "I", false)
def tyX5 : Nat → FieldType := fun k => match k with
  | 0 => .object "ProofLibrary$Library"
  | 1 => .array .char
  | 2 => .int
  | 3 => .boolean
  | 4 => .array .char
  | _ => .int
abbrev wsX50 : List Cond := u_ws RX5 TX5 6
theorem nmX5 : ∀ a, a < 6 → ∀ b, b < 6 → a ≠ b → (TX5 a).2.1 ≠ (TX5 b).2.1 := by decide +kernel
theorem tyX5_ok : ∀ k, k < 6 → parseFieldDescriptor (TX5 k).2.2.1 = some (tyX5 k) := by decide +kernel
abbrev cX5_init : ByteArray := prog_7_method_1_code
def yX5_init : MethodName := ⟨RX5, "<init>", "(LProofLibrary$Library;)V"⟩
abbrev cX5_begin : ByteArray := prog_7_method_2_code
def yX5_begin : MethodName := ⟨RX5, "begin", "()V"⟩
abbrev cX5_put : ByteArray := prog_7_method_3_code
def yX5_put : MethodName := ⟨RX5, "put", "(I)V"⟩
abbrev cX5_putBlank : ByteArray := prog_7_method_4_code
def yX5_putBlank : MethodName := ⟨RX5, "putBlank", "()V"⟩
abbrev cX5_putToken : ByteArray := prog_7_method_5_code
def yX5_putToken : MethodName := ⟨RX5, "putToken", "(I)V"⟩
abbrev cX5_putName : ByteArray := prog_7_method_6_code
def yX5_putName : MethodName := ⟨RX5, "putName", "(I)V"⟩
abbrev cX5_putSymbol : ByteArray := prog_7_method_7_code
def yX5_putSymbol : MethodName := ⟨RX5, "putSymbol", "(I)V"⟩
abbrev cX5_putSymbols : ByteArray := prog_7_method_8_code
def yX5_putSymbols : MethodName := ⟨RX5, "putSymbols", "([III)V"⟩
abbrev cX5_putNumber : ByteArray := prog_7_method_9_code
def yX5_putNumber : MethodName := ⟨RX5, "putNumber", "(I)V"⟩
abbrev cX5_finish : ByteArray := prog_7_method_10_code
def yX5_finish : MethodName := ⟨RX5, "finish", "()I"⟩
abbrev cX5_shown : ByteArray := prog_7_method_11_code
def yX5_shown : MethodName := ⟨RX5, "shown", "(I)I"⟩
def RX6 : String := "ProofLibrary$Pile"
def TX6 : u_T := fun k => match k with
  | 0 => ("ProofLibrary$Pile", "library", "LProofLibrary$Library;", true)
  | 1 => ("ProofLibrary$Pile", "assertions", "LProofLibrary$Assertions;", true)
  | 2 => ("ProofLibrary$Pile", "scopes", "LProofLibrary$Scopes;", true)
  | 3 => ("ProofLibrary$Pile", "data", "[I", true)
  | 4 => ("ProofLibrary$Pile", "low", "I", false)
  | 5 => ("ProofLibrary$Pile", "high", "I", false)
  | 6 => ("ProofLibrary$Pile", "at", "[I", true)
  | 7 => ("ProofLibrary$Pile", "size", "[I", true)
  | 8 => ("ProofLibrary$Pile", "uses", "[I", true)
  | 9 => ("ProofLibrary$Pile", "built", "[I", true)
  | 10 => ("ProofLibrary$Pile", "builtSize", "I", false)
  | 11 => ("ProofLibrary$Pile", "becomesAt", "[I", true)
  | 12 => ("ProofLibrary$Pile", "becomesSize", "[I", true)
  | 13 => ("ProofLibrary$Pile", "met", "[I", true)
  | 14 => ("ProofLibrary$Pile", "turn", "I", false)
  | 15 => ("ProofLibrary$Pile", "variablesX", "[I", true)
  | _ => ("ProofLibrary$Pile", "variablesY", "[I", true)
def tyX6 : Nat → FieldType := fun k => match k with
  | 0 => .object "ProofLibrary$Library"
  | 1 => .object "ProofLibrary$Assertions"
  | 2 => .object "ProofLibrary$Scopes"
  | 3 => .array .int
  | 4 => .int
  | 5 => .int
  | 6 => .array .int
  | 7 => .array .int
  | 8 => .array .int
  | 9 => .array .int
  | 10 => .int
  | 11 => .array .int
  | 12 => .array .int
  | 13 => .array .int
  | 14 => .int
  | 15 => .array .int
  | _ => .array .int
abbrev wsX60 : List Cond := u_ws RX6 TX6 17
theorem nmX6 : ∀ a, a < 17 → ∀ b, b < 17 → a ≠ b → (TX6 a).2.1 ≠ (TX6 b).2.1 := by decide +kernel
theorem tyX6_ok : ∀ k, k < 17 → parseFieldDescriptor (TX6 k).2.2.1 = some (tyX6 k) := by decide +kernel
abbrev cX6_init : ByteArray := prog_8_method_1_code
def yX6_init : MethodName := ⟨RX6, "<init>", "(LProofLibrary$Library;LProofLibrary$Assertions;LProofLibrary$Scopes;)V"⟩
abbrev cX6_clear : ByteArray := prog_8_method_2_code
def yX6_clear : MethodName := ⟨RX6, "clear", "()V"⟩
abbrev cX6_bind : ByteArray := prog_8_method_3_code
def yX6_bind : MethodName := ⟨RX6, "bind", "(II)Z"⟩
abbrev cX6_isEssential : ByteArray := prog_8_method_4_code
def yX6_isEssential : MethodName := ⟨RX6, "isEssential", "(II)Z"⟩
abbrev cX6_isSame : ByteArray := prog_8_method_5_code
def yX6_isSame : MethodName := ⟨RX6, "isSame", "(III)Z"⟩
abbrev cX6_keepsApart : ByteArray := prog_8_method_6_code
def yX6_keepsApart : MethodName := ⟨RX6, "keepsApart", "(I)Z"⟩
abbrev cX6_gather : ByteArray := prog_8_method_7_code
def yX6_gather : MethodName := ⟨RX6, "gather", "(I[I)I"⟩
abbrev cX6_areApart : ByteArray := prog_8_method_8_code
def yX6_areApart : MethodName := ⟨RX6, "areApart", "(II)Z"⟩
abbrev cX6_build : ByteArray := prog_8_method_9_code
def yX6_build : MethodName := ⟨RX6, "build", "(I)Z"⟩
abbrev cX6_buildHypothesis : ByteArray := prog_8_method_10_code
def yX6_buildHypothesis : MethodName := ⟨RX6, "buildHypothesis", "(I)V"⟩
abbrev cX6_drop : ByteArray := prog_8_method_11_code
def yX6_drop : MethodName := ⟨RX6, "drop", "(II)V"⟩
abbrev cX6_put : ByteArray := prog_8_method_12_code
def yX6_put : MethodName := ⟨RX6, "put", "(IZ)Z"⟩
abbrev cX6_isStatement : ByteArray := prog_8_method_13_code
def yX6_isStatement : MethodName := ⟨RX6, "isStatement", "(II)Z"⟩
abbrev cX6_goAgain : ByteArray := prog_8_method_14_code
def yX6_goAgain : MethodName := ⟨RX6, "goAgain", "(II)Z"⟩
def RX7 : String := "ProofLibrary$Reader"
def TX7 : u_T := fun k => match k with
  | 0 => ("ProofLibrary$Reader", "library", "LProofLibrary$Library;", true)
  | 1 => ("ProofLibrary$Reader", "assertions", "LProofLibrary$Assertions;", true)
  | 2 => ("ProofLibrary$Reader", "scopes", "LProofLibrary$Scopes;", true)
  | 3 => ("ProofLibrary$Reader", "steps", "LProofLibrary$Steps;", true)
  | 4 => ("ProofLibrary$Reader", "disjoint", "[I", true)
  | 5 => ("ProofLibrary$Reader", "source", "[C", false)
  | 6 => ("ProofLibrary$Reader", "place", "I", false)
  | 7 => ("ProofLibrary$Reader", "comment", "Z", false)
  | 8 => ("ProofLibrary$Reader", "state", "I", false)
  | 9 => ("ProofLibrary$Reader", "items", "I", false)
  | 10 => ("ProofLibrary$Reader", "kind", "I", false)
  | 11 => ("ProofLibrary$Reader", "namedSymbol", "I", false)
  | _ => ("ProofLibrary$Reader", "namedStatement", "I", false)
def tyX7 : Nat → FieldType := fun k => match k with
  | 0 => .object "ProofLibrary$Library"
  | 1 => .object "ProofLibrary$Assertions"
  | 2 => .object "ProofLibrary$Scopes"
  | 3 => .object "ProofLibrary$Steps"
  | 4 => .array .int
  | 5 => .array .char
  | 6 => .int
  | 7 => .boolean
  | 8 => .int
  | 9 => .int
  | 10 => .int
  | 11 => .int
  | _ => .int
abbrev wsX70 : List Cond := u_ws RX7 TX7 13
theorem nmX7 : ∀ a, a < 13 → ∀ b, b < 13 → a ≠ b → (TX7 a).2.1 ≠ (TX7 b).2.1 := by decide +kernel
theorem tyX7_ok : ∀ k, k < 13 → parseFieldDescriptor (TX7 k).2.2.1 = some (tyX7 k) := by decide +kernel
abbrev cX7_init : ByteArray := prog_9_method_1_code
def yX7_init : MethodName := ⟨RX7, "<init>", "(LProofLibrary$Library;LProofLibrary$Assertions;LProofLibrary$Scopes;LProofLibrary$Steps;)V"⟩
abbrev cX7_readText : ByteArray := prog_9_method_2_code
def yX7_readText : MethodName := ⟨RX7, "readText", "([CI)I"⟩
abbrev cX7_begin : ByteArray := prog_9_method_3_code
def yX7_begin : MethodName := ⟨RX7, "begin", "([C)V"⟩
abbrev cX7_faultAtEnd : ByteArray := prog_9_method_4_code
def yX7_faultAtEnd : MethodName := ⟨RX7, "faultAtEnd", "()I"⟩
abbrev cX7_token : ByteArray := prog_9_method_5_code
def yX7_token : MethodName := ⟨RX7, "token", "(II)I"⟩
abbrev cX7_hasCommentMark : ByteArray := prog_9_method_6_code
def yX7_hasCommentMark : MethodName := ⟨RX7, "hasCommentMark", "(II)Z"⟩
abbrev cX7_hasDollar : ByteArray := prog_9_method_7_code
def yX7_hasDollar : MethodName := ⟨RX7, "hasDollar", "(II)Z"⟩
abbrev cX7_keyword : ByteArray := prog_9_method_8_code
def yX7_keyword : MethodName := ⟨RX7, "keyword", "(I)I"⟩
abbrev cX7_declaration : ByteArray := prog_9_method_9_code
def yX7_declaration : MethodName := ⟨RX7, "declaration", "(I)I"⟩
abbrev cX7_statement : ByteArray := prog_9_method_10_code
def yX7_statement : MethodName := ⟨RX7, "statement", "(I)I"⟩
abbrev cX7_openScope : ByteArray := prog_9_method_11_code
def yX7_openScope : MethodName := ⟨RX7, "openScope", "()I"⟩
abbrev cX7_closeScope : ByteArray := prog_9_method_12_code
def yX7_closeScope : MethodName := ⟨RX7, "closeScope", "()I"⟩
abbrev cX7_proof : ByteArray := prog_9_method_13_code
def yX7_proof : MethodName := ⟨RX7, "proof", "()I"⟩
abbrev cX7_endRow : ByteArray := prog_9_method_14_code
def yX7_endRow : MethodName := ⟨RX7, "endRow", "()I"⟩
abbrev cX7_endDeclaration : ByteArray := prog_9_method_15_code
def yX7_endDeclaration : MethodName := ⟨RX7, "endDeclaration", "(I)I"⟩
abbrev cX7_endStatement : ByteArray := prog_9_method_16_code
def yX7_endStatement : MethodName := ⟨RX7, "endStatement", "()I"⟩
abbrev cX7_endProof : ByteArray := prog_9_method_17_code
def yX7_endProof : MethodName := ⟨RX7, "endProof", "()I"⟩
abbrev cX7_endTheorem : ByteArray := prog_9_method_18_code
def yX7_endTheorem : MethodName := ⟨RX7, "endTheorem", "()I"⟩
abbrev cX7_word : ByteArray := prog_9_method_19_code
def yX7_word : MethodName := ⟨RX7, "word", "(II)I"⟩
abbrev cX7_label : ByteArray := prog_9_method_20_code
def yX7_label : MethodName := ⟨RX7, "label", "(II)I"⟩
abbrev cX7_declareConstant : ByteArray := prog_9_method_21_code
def yX7_declareConstant : MethodName := ⟨RX7, "declareConstant", "(II)I"⟩
abbrev cX7_faultOfNewSymbol : ByteArray := prog_9_method_22_code
def yX7_faultOfNewSymbol : MethodName := ⟨RX7, "faultOfNewSymbol", "(I)I"⟩
abbrev cX7_declareVariable : ByteArray := prog_9_method_23_code
def yX7_declareVariable : MethodName := ⟨RX7, "declareVariable", "(II)I"⟩
abbrev cX7_takeApart : ByteArray := prog_9_method_24_code
def yX7_takeApart : MethodName := ⟨RX7, "takeApart", "(I)I"⟩
abbrev cX7_takeSymbol : ByteArray := prog_9_method_25_code
def yX7_takeSymbol : MethodName := ⟨RX7, "takeSymbol", "(I)I"⟩
abbrev cX7_firstSymbol : ByteArray := prog_9_method_26_code
def yX7_firstSymbol : MethodName := ⟨RX7, "firstSymbol", "(I)I"⟩
abbrev cX7_floatingVariable : ByteArray := prog_9_method_27_code
def yX7_floatingVariable : MethodName := ⟨RX7, "floatingVariable", "(I)I"⟩
def RX8 : String := "ProofLibrary$Rules"
def TX8 : u_T := fun k => match k with
  | 0 => ("ProofLibrary$Rules", "library", "LProofLibrary$Library;", true)
  | 1 => ("ProofLibrary$Rules", "assertions", "LProofLibrary$Assertions;", true)
  | 2 => ("ProofLibrary$Rules", "firstChild", "[I", true)
  | 3 => ("ProofLibrary$Rules", "sibling", "[I", true)
  | 4 => ("ProofLibrary$Rules", "key", "[I", true)
  | 5 => ("ProofLibrary$Rules", "born", "[I", true)
  | 6 => ("ProofLibrary$Rules", "firstRule", "[I", true)
  | 7 => ("ProofLibrary$Rules", "nextRule", "[I", true)
  | 8 => ("ProofLibrary$Rules", "nodes", "I", false)
  | 9 => ("ProofLibrary$Rules", "atConstant", "[I", true)
  | 10 => ("ProofLibrary$Rules", "atSort", "[I", true)
  | 11 => ("ProofLibrary$Rules", "unitRule", "[I", true)
  | 12 => ("ProofLibrary$Rules", "unitFrom", "[I", true)
  | 13 => ("ProofLibrary$Rules", "units", "I", false)
  | 14 => ("ProofLibrary$Rules", "learned", "I", false)
  | 15 => ("ProofLibrary$Rules", "provable", "I", false)
  | _ => ("ProofLibrary$Rules", "wff", "I", false)
def tyX8 : Nat → FieldType := fun k => match k with
  | 0 => .object "ProofLibrary$Library"
  | 1 => .object "ProofLibrary$Assertions"
  | 2 => .array .int
  | 3 => .array .int
  | 4 => .array .int
  | 5 => .array .int
  | 6 => .array .int
  | 7 => .array .int
  | 8 => .int
  | 9 => .array .int
  | 10 => .array .int
  | 11 => .array .int
  | 12 => .array .int
  | 13 => .int
  | 14 => .int
  | 15 => .int
  | _ => .int
abbrev wsX80 : List Cond := u_ws RX8 TX8 17
theorem nmX8 : ∀ a, a < 17 → ∀ b, b < 17 → a ≠ b → (TX8 a).2.1 ≠ (TX8 b).2.1 := by decide +kernel
theorem tyX8_ok : ∀ k, k < 17 → parseFieldDescriptor (TX8 k).2.2.1 = some (tyX8 k) := by decide +kernel
abbrev cX8_init : ByteArray := prog_10_method_1_code
def yX8_init : MethodName := ⟨RX8, "<init>", "(LProofLibrary$Library;LProofLibrary$Assertions;)V"⟩
abbrev cX8_learn : ByteArray := prog_10_method_2_code
def yX8_learn : MethodName := ⟨RX8, "learn", "()V"⟩
abbrev cX8_constantNamed : ByteArray := prog_10_method_3_code
def yX8_constantNamed : MethodName := ⟨RX8, "constantNamed", "([C)I"⟩
abbrev cX8_isRule : ByteArray := prog_10_method_4_code
def yX8_isRule : MethodName := ⟨RX8, "isRule", "(I)Z"⟩
abbrev cX8_insert : ByteArray := prog_10_method_5_code
def yX8_insert : MethodName := ⟨RX8, "insert", "(I)V"⟩
abbrev cX8_child : ByteArray := prog_10_method_6_code
def yX8_child : MethodName := ⟨RX8, "child", "(III)I"⟩
abbrev cX8_sortRank : ByteArray := prog_10_method_7_code
def yX8_sortRank : MethodName := ⟨RX8, "sortRank", "(I)I"⟩
abbrev cX8_goalRank : ByteArray := prog_10_method_8_code
def yX8_goalRank : MethodName := ⟨RX8, "goalRank", "(I)I"⟩
def RX9 : String := "ProofLibrary$Scopes"
def TX9 : u_T := fun k => match k with
  | 0 => ("ProofLibrary$Scopes", "library", "LProofLibrary$Library;", true)
  | 1 => ("ProofLibrary$Scopes", "active", "[Z", true)
  | 2 => ("ProofLibrary$Scopes", "activeFloat", "[I", true)
  | 3 => ("ProofLibrary$Scopes", "variables", "[I", true)
  | 4 => ("ProofLibrary$Scopes", "variableCount", "I", false)
  | 5 => ("ProofLibrary$Scopes", "holds", "[Z", true)
  | 6 => ("ProofLibrary$Scopes", "hypotheses", "[I", true)
  | 7 => ("ProofLibrary$Scopes", "hypothesisCount", "I", false)
  | 8 => ("ProofLibrary$Scopes", "pairX", "[I", true)
  | 9 => ("ProofLibrary$Scopes", "pairY", "[I", true)
  | 10 => ("ProofLibrary$Scopes", "pairCount", "I", false)
  | 11 => ("ProofLibrary$Scopes", "apartBits", "[J", true)
  | 12 => ("ProofLibrary$Scopes", "marks", "[I", true)
  | 13 => ("ProofLibrary$Scopes", "depth", "I", false)
  | 14 => ("ProofLibrary$Scopes", "met", "[I", true)
  | _ => ("ProofLibrary$Scopes", "turn", "I", false)
def tyX9 : Nat → FieldType := fun k => match k with
  | 0 => .object "ProofLibrary$Library"
  | 1 => .array .boolean
  | 2 => .array .int
  | 3 => .array .int
  | 4 => .int
  | 5 => .array .boolean
  | 6 => .array .int
  | 7 => .int
  | 8 => .array .int
  | 9 => .array .int
  | 10 => .int
  | 11 => .array .long
  | 12 => .array .int
  | 13 => .int
  | 14 => .array .int
  | _ => .int
abbrev wsX90 : List Cond := u_ws RX9 TX9 16
theorem nmX9 : ∀ a, a < 16 → ∀ b, b < 16 → a ≠ b → (TX9 a).2.1 ≠ (TX9 b).2.1 := by decide +kernel
theorem tyX9_ok : ∀ k, k < 16 → parseFieldDescriptor (TX9 k).2.2.1 = some (tyX9 k) := by decide +kernel
abbrev cX9_init : ByteArray := prog_11_method_1_code
def yX9_init : MethodName := ⟨RX9, "<init>", "(LProofLibrary$Library;)V"⟩
abbrev cX9_keep : ByteArray := prog_11_method_2_code
def yX9_keep : MethodName := ⟨RX9, "keep", "()V"⟩
abbrev cX9_goBack : ByteArray := prog_11_method_3_code
def yX9_goBack : MethodName := ⟨RX9, "goBack", "()V"⟩
abbrev cX9_open : ByteArray := prog_11_method_4_code
def yX9_open : MethodName := ⟨RX9, "open", "()V"⟩
abbrev cX9_close : ByteArray := prog_11_method_5_code
def yX9_close : MethodName := ⟨RX9, "close", "()V"⟩
abbrev cX9_mark : ByteArray := prog_11_method_6_code
def yX9_mark : MethodName := ⟨RX9, "mark", "()V"⟩
abbrev cX9_cut : ByteArray := prog_11_method_7_code
def yX9_cut : MethodName := ⟨RX9, "cut", "()V"⟩
abbrev cX9_addVariable : ByteArray := prog_11_method_8_code
def yX9_addVariable : MethodName := ⟨RX9, "addVariable", "(I)V"⟩
abbrev cX9_addHypothesis : ByteArray := prog_11_method_9_code
def yX9_addHypothesis : MethodName := ⟨RX9, "addHypothesis", "(I)V"⟩
abbrev cX9_addPair : ByteArray := prog_11_method_10_code
def yX9_addPair : MethodName := ⟨RX9, "addPair", "(II)V"⟩
abbrev cX9_turnPair : ByteArray := prog_11_method_11_code
def yX9_turnPair : MethodName := ⟨RX9, "turnPair", "(II)V"⟩
abbrev cX9_areApart : ByteArray := prog_11_method_12_code
def yX9_areApart : MethodName := ⟨RX9, "areApart", "(II)Z"⟩
abbrev cX9_markFrame : ByteArray := prog_11_method_13_code
def yX9_markFrame : MethodName := ⟨RX9, "markFrame", "(I)V"⟩
abbrev cX9_markVariables : ByteArray := prog_11_method_14_code
def yX9_markVariables : MethodName := ⟨RX9, "markVariables", "(I)V"⟩
abbrev cX9_isInFrame : ByteArray := prog_11_method_15_code
def yX9_isInFrame : MethodName := ⟨RX9, "isInFrame", "(I)Z"⟩
abbrev cX9_isKnown : ByteArray := prog_11_method_16_code
def yX9_isKnown : MethodName := ⟨RX9, "isKnown", "(I)Z"⟩
def RX10 : String := "ProofLibrary$Steps"
def TX10 : u_T := fun k => match k with
  | 0 => ("ProofLibrary$Steps", "library", "LProofLibrary$Library;", true)
  | 1 => ("ProofLibrary$Steps", "assertions", "LProofLibrary$Assertions;", true)
  | 2 => ("ProofLibrary$Steps", "scopes", "LProofLibrary$Scopes;", true)
  | 3 => ("ProofLibrary$Steps", "pile", "LProofLibrary$Pile;", true)
  | 4 => ("ProofLibrary$Steps", "steps", "[I", true)
  | 5 => ("ProofLibrary$Steps", "places", "[I", true)
  | 6 => ("ProofLibrary$Steps", "count", "I", false)
  | 7 => ("ProofLibrary$Steps", "listed", "[I", true)
  | 8 => ("ProofLibrary$Steps", "listedCount", "I", false)
  | 9 => ("ProofLibrary$Steps", "savedCount", "I", false)
  | 10 => ("ProofLibrary$Steps", "theorem", "I", false)
  | 11 => ("ProofLibrary$Steps", "form", "I", false)
  | 12 => ("ProofLibrary$Steps", "number", "I", false)
  | 13 => ("ProofLibrary$Steps", "afterAssertion", "Z", false)
  | 14 => ("ProofLibrary$Steps", "open", "Z", false)
  | 15 => ("ProofLibrary$Steps", "place", "I", false)
  | 16 => ("ProofLibrary$Steps", "pileRow", "[I", true)
  | 17 => ("ProofLibrary$Steps", "pileRows", "I", false)
  | 18 => ("ProofLibrary$Steps", "savedRow", "[I", true)
  | 19 => ("ProofLibrary$Steps", "symbols", "I", false)
  | _ => ("ProofLibrary$Steps", "rows", "I", false)
def tyX10 : Nat → FieldType := fun k => match k with
  | 0 => .object "ProofLibrary$Library"
  | 1 => .object "ProofLibrary$Assertions"
  | 2 => .object "ProofLibrary$Scopes"
  | 3 => .object "ProofLibrary$Pile"
  | 4 => .array .int
  | 5 => .array .int
  | 6 => .int
  | 7 => .array .int
  | 8 => .int
  | 9 => .int
  | 10 => .int
  | 11 => .int
  | 12 => .int
  | 13 => .boolean
  | 14 => .boolean
  | 15 => .int
  | 16 => .array .int
  | 17 => .int
  | 18 => .array .int
  | 19 => .int
  | _ => .int
abbrev wsX100 : List Cond := u_ws RX10 TX10 21
theorem nmX10 : ∀ a, a < 21 → ∀ b, b < 21 → a ≠ b → (TX10 a).2.1 ≠ (TX10 b).2.1 := by decide +kernel
theorem tyX10_ok : ∀ k, k < 21 → parseFieldDescriptor (TX10 k).2.2.1 = some (tyX10 k) := by decide +kernel
abbrev cX10_init : ByteArray := prog_12_method_1_code
def yX10_init : MethodName := ⟨RX10, "<init>", "(LProofLibrary$Library;LProofLibrary$Assertions;LProofLibrary$Scopes;LProofLibrary$Pile;)V"⟩
abbrev cX10_begin : ByteArray := prog_12_method_2_code
def yX10_begin : MethodName := ⟨RX10, "begin", "(I)V"⟩
abbrev cX10_isListing : ByteArray := prog_12_method_3_code
def yX10_isListing : MethodName := ⟨RX10, "isListing", "()Z"⟩
abbrev cX10_isWithinNumber : ByteArray := prog_12_method_4_code
def yX10_isWithinNumber : MethodName := ⟨RX10, "isWithinNumber", "()Z"⟩
abbrev cX10_isFull : ByteArray := prog_12_method_5_code
def yX10_isFull : MethodName := ⟨RX10, "isFull", "()Z"⟩
abbrev cX10_word : ByteArray := prog_12_method_6_code
def yX10_word : MethodName := ⟨RX10, "word", "([CIII)I"⟩
abbrev cX10_isOne : ByteArray := prog_12_method_7_code
def yX10_isOne : MethodName := ⟨RX10, "isOne", "([CIII)Z"⟩
abbrev cX10_plainStep : ByteArray := prog_12_method_8_code
def yX10_plainStep : MethodName := ⟨RX10, "plainStep", "([CIII)I"⟩
abbrev cX10_isUsable : ByteArray := prog_12_method_9_code
def yX10_isUsable : MethodName := ⟨RX10, "isUsable", "(I)Z"⟩
abbrev cX10_addStep : ByteArray := prog_12_method_10_code
def yX10_addStep : MethodName := ⟨RX10, "addStep", "(I)V"⟩
abbrev cX10_listLabel : ByteArray := prog_12_method_11_code
def yX10_listLabel : MethodName := ⟨RX10, "listLabel", "([CIII)I"⟩
abbrev cX10_isListed : ByteArray := prog_12_method_12_code
def yX10_isListed : MethodName := ⟨RX10, "isListed", "(I)Z"⟩
abbrev cX10_letters : ByteArray := prog_12_method_13_code
def yX10_letters : MethodName := ⟨RX10, "letters", "([CII)I"⟩
abbrev cX10_letter : ByteArray := prog_12_method_14_code
def yX10_letter : MethodName := ⟨RX10, "letter", "(I)I"⟩
abbrev cX10_save : ByteArray := prog_12_method_15_code
def yX10_save : MethodName := ⟨RX10, "save", "()I"⟩
abbrev cX10_endNumber : ByteArray := prog_12_method_16_code
def yX10_endNumber : MethodName := ⟨RX10, "endNumber", "(I)I"⟩
abbrev cX10_noteRests : ByteArray := prog_12_method_17_code
def yX10_noteRests : MethodName := ⟨RX10, "noteRests", "()V"⟩
abbrev cX10_goThrough : ByteArray := prog_12_method_18_code
def yX10_goThrough : MethodName := ⟨RX10, "goThrough", "(I)I"⟩
abbrev cX10_take : ByteArray := prog_12_method_19_code
def yX10_take : MethodName := ⟨RX10, "take", "(I)I"⟩
abbrev cX10_putNew : ByteArray := prog_12_method_20_code
def yX10_putNew : MethodName := ⟨RX10, "putNew", "(Z)I"⟩
abbrev cX10_putAgain : ByteArray := prog_12_method_21_code
def yX10_putAgain : MethodName := ⟨RX10, "putAgain", "(I)I"⟩
def RX11 : String := "ProofLibrary$Tree"
def TX11 : u_T := fun k => match k with
  | 0 => ("ProofLibrary$Tree", "library", "LProofLibrary$Library;", true)
  | 1 => ("ProofLibrary$Tree", "assertions", "LProofLibrary$Assertions;", true)
  | 2 => ("ProofLibrary$Tree", "chart", "LProofLibrary$Chart;", true)
  | 3 => ("ProofLibrary$Tree", "rule", "[I", true)
  | 4 => ("ProofLibrary$Tree", "from", "[I", true)
  | 5 => ("ProofLibrary$Tree", "to", "[I", true)
  | 6 => ("ProofLibrary$Tree", "size", "I", false)
  | 7 => ("ProofLibrary$Tree", "pattern", "[I", true)
  | 8 => ("ProofLibrary$Tree", "patternSize", "I", false)
  | 9 => ("ProofLibrary$Tree", "cells", "[I", true)
  | 10 => ("ProofLibrary$Tree", "fits", "[J", true)
  | 11 => ("ProofLibrary$Tree", "spanFrom", "[I", true)
  | 12 => ("ProofLibrary$Tree", "spanTo", "[I", true)
  | 13 => ("ProofLibrary$Tree", "bound", "[I", true)
  | _ => ("ProofLibrary$Tree", "turn", "I", false)
def tyX11 : Nat → FieldType := fun k => match k with
  | 0 => .object "ProofLibrary$Library"
  | 1 => .object "ProofLibrary$Assertions"
  | 2 => .object "ProofLibrary$Chart"
  | 3 => .array .int
  | 4 => .array .int
  | 5 => .array .int
  | 6 => .int
  | 7 => .array .int
  | 8 => .int
  | 9 => .array .int
  | 10 => .array .long
  | 11 => .array .int
  | 12 => .array .int
  | 13 => .array .int
  | _ => .int
abbrev wsX110 : List Cond := u_ws RX11 TX11 15
theorem nmX11 : ∀ a, a < 15 → ∀ b, b < 15 → a ≠ b → (TX11 a).2.1 ≠ (TX11 b).2.1 := by decide +kernel
theorem tyX11_ok : ∀ k, k < 15 → parseFieldDescriptor (TX11 k).2.2.1 = some (tyX11 k) := by decide +kernel
abbrev cX11_init : ByteArray := prog_13_method_1_code
def yX11_init : MethodName := ⟨RX11, "<init>", "(LProofLibrary$Library;LProofLibrary$Assertions;LProofLibrary$Chart;)V"⟩
abbrev cX11_grow : ByteArray := prog_13_method_2_code
def yX11_grow : MethodName := ⟨RX11, "grow", "()V"⟩
abbrev cX11_cell : ByteArray := prog_13_method_3_code
def yX11_cell : MethodName := ⟨RX11, "cell", "(III)I"⟩
abbrev cX11_part : ByteArray := prog_13_method_4_code
def yX11_part : MethodName := ⟨RX11, "part", "(III)V"⟩
abbrev cX11_sortOf : ByteArray := prog_13_method_5_code
def yX11_sortOf : MethodName := ⟨RX11, "sortOf", "(I)I"⟩
abbrev cX11_startsOf : ByteArray := prog_13_method_6_code
def yX11_startsOf : MethodName := ⟨RX11, "startsOf", "(IJII)J"⟩
abbrev cX11_behind : ByteArray := prog_13_method_7_code
def yX11_behind : MethodName := ⟨RX11, "behind", "(I)I"⟩
abbrev cX11_keepPattern : ByteArray := prog_13_method_8_code
def yX11_keepPattern : MethodName := ⟨RX11, "keepPattern", "()V"⟩
abbrev cX11_fitsPattern : ByteArray := prog_13_method_9_code
def yX11_fitsPattern : MethodName := ⟨RX11, "fitsPattern", "()Z"⟩
abbrev cX11_binds : ByteArray := prog_13_method_10_code
def yX11_binds : MethodName := ⟨RX11, "binds", "(II)Z"⟩
abbrev cX11_bindsEssentials : ByteArray := prog_13_method_11_code
def yX11_bindsEssentials : MethodName := ⟨RX11, "bindsEssentials", "(I)Z"⟩
def RX12 : String := "ProofLibrary"
def TX12 : u_T := fun k => match k with
  | 0 => ("ProofLibrary", "tape", "[C", true)
  | 1 => ("ProofLibrary", "tapeLength", "I", false)
  | 2 => ("ProofLibrary", "canEnd", "Z", false)
  | 3 => ("ProofLibrary", "faultPlace", "I", false)
  | 4 => ("ProofLibrary", "asked", "[I", true)
  | 5 => ("ProofLibrary", "library", "LProofLibrary$Library;", true)
  | 6 => ("ProofLibrary", "scopes", "LProofLibrary$Scopes;", true)
  | 7 => ("ProofLibrary", "assertions", "LProofLibrary$Assertions;", true)
  | 8 => ("ProofLibrary", "pile", "LProofLibrary$Pile;", true)
  | 9 => ("ProofLibrary", "reader", "LProofLibrary$Reader;", true)
  | 10 => ("ProofLibrary", "packer", "LProofLibrary$Packer;", true)
  | 11 => ("ProofLibrary", "rules", "LProofLibrary$Rules;", true)
  | 12 => ("ProofLibrary", "chart", "LProofLibrary$Chart;", true)
  | 13 => ("ProofLibrary", "tree", "LProofLibrary$Tree;", true)
  | 14 => ("ProofLibrary", "definitions", "LProofLibrary$Definitions;", true)
  | _ => ("ProofLibrary", "paper", "LProofLibrary$Paper;", true)
def tyX12 : Nat → FieldType := fun k => match k with
  | 0 => .array .char
  | 1 => .int
  | 2 => .boolean
  | 3 => .int
  | 4 => .array .int
  | 5 => .object "ProofLibrary$Library"
  | 6 => .object "ProofLibrary$Scopes"
  | 7 => .object "ProofLibrary$Assertions"
  | 8 => .object "ProofLibrary$Pile"
  | 9 => .object "ProofLibrary$Reader"
  | 10 => .object "ProofLibrary$Packer"
  | 11 => .object "ProofLibrary$Rules"
  | 12 => .object "ProofLibrary$Chart"
  | 13 => .object "ProofLibrary$Tree"
  | 14 => .object "ProofLibrary$Definitions"
  | _ => .object "ProofLibrary$Paper"
abbrev wsX120 : List Cond := u_ws RX12 TX12 16
theorem nmX12 : ∀ a, a < 16 → ∀ b, b < 16 → a ≠ b → (TX12 a).2.1 ≠ (TX12 b).2.1 := by decide +kernel
theorem tyX12_ok : ∀ k, k < 16 → parseFieldDescriptor (TX12 k).2.2.1 = some (tyX12 k) := by decide +kernel
abbrev cX12_init : ByteArray := prog_1_method_1_code
def yX12_init : MethodName := ⟨RX12, "<init>", "()V"⟩
abbrev cX12_feed : ByteArray := prog_1_method_2_code
def yX12_feed : MethodName := ⟨RX12, "feed", "(IIIII)I"⟩
abbrev cX12_putFour : ByteArray := prog_1_method_3_code
def yX12_putFour : MethodName := ⟨RX12, "putFour", "(I)V"⟩
abbrev cX12_end : ByteArray := prog_1_method_4_code
def yX12_end : MethodName := ⟨RX12, "end", "(I)I"⟩
abbrev cX12_read : ByteArray := prog_1_method_5_code
def yX12_read : MethodName := ⟨RX12, "read", "()I"⟩
abbrev cX12_useTape : ByteArray := prog_1_method_6_code
def yX12_useTape : MethodName := ⟨RX12, "useTape", "()V"⟩
abbrev cX12_place : ByteArray := prog_1_method_7_code
def yX12_place : MethodName := ⟨RX12, "place", "()I"⟩
abbrev cX12_count : ByteArray := prog_1_method_8_code
def yX12_count : MethodName := ⟨RX12, "count", "(I)I"⟩
abbrev cX12_kind : ByteArray := prog_1_method_9_code
def yX12_kind : MethodName := ⟨RX12, "kind", "(I)I"⟩
abbrev cX12_length : ByteArray := prog_1_method_10_code
def yX12_length : MethodName := ⟨RX12, "length", "(I)I"⟩
abbrev cX12_symbol : ByteArray := prog_1_method_11_code
def yX12_symbol : MethodName := ⟨RX12, "symbol", "(II)I"⟩
abbrev cX12_variable : ByteArray := prog_1_method_12_code
def yX12_variable : MethodName := ⟨RX12, "variable", "(I)I"⟩
abbrev cX12_find : ByteArray := prog_1_method_13_code
def yX12_find : MethodName := ⟨RX12, "find", "(I)I"⟩
abbrev cX12_frame : ByteArray := prog_1_method_14_code
def yX12_frame : MethodName := ⟨RX12, "frame", "(II)I"⟩
abbrev cX12_hypothesis : ByteArray := prog_1_method_15_code
def yX12_hypothesis : MethodName := ⟨RX12, "hypothesis", "(II)I"⟩
abbrev cX12_apart : ByteArray := prog_1_method_16_code
def yX12_apart : MethodName := ⟨RX12, "apart", "(III)I"⟩
abbrev cX12_rows : ByteArray := prog_1_method_17_code
def yX12_rows : MethodName := ⟨RX12, "rows", "(I)I"⟩
abbrev cX12_isRow : ByteArray := prog_1_method_18_code
def yX12_isRow : MethodName := ⟨RX12, "isRow", "(II)Z"⟩
abbrev cX12_row : ByteArray := prog_1_method_19_code
def yX12_row : MethodName := ⟨RX12, "row", "(II)I"⟩
abbrev cX12_from : ByteArray := prog_1_method_20_code
def yX12_from : MethodName := ⟨RX12, "from", "(III)I"⟩
abbrev cX12_rests : ByteArray := prog_1_method_21_code
def yX12_rests : MethodName := ⟨RX12, "rests", "(II)I"⟩
abbrev cX12_size : ByteArray := prog_1_method_22_code
def yX12_size : MethodName := ⟨RX12, "size", "(I)J"⟩
abbrev cX12_print : ByteArray := prog_1_method_23_code
def yX12_print : MethodName := ⟨RX12, "print", "(III)I"⟩
abbrev cX12_printSymbol : ByteArray := prog_1_method_24_code
def yX12_printSymbol : MethodName := ⟨RX12, "printSymbol", "(I)I"⟩
abbrev cX12_printStatement : ByteArray := prog_1_method_25_code
def yX12_printStatement : MethodName := ⟨RX12, "printStatement", "(I)I"⟩
abbrev cX12_printRow : ByteArray := prog_1_method_26_code
def yX12_printRow : MethodName := ⟨RX12, "printRow", "(II)I"⟩
abbrev cX12_printPacked : ByteArray := prog_1_method_27_code
def yX12_printPacked : MethodName := ⟨RX12, "printPacked", "(I)I"⟩
abbrev cX12_printUnpacked : ByteArray := prog_1_method_28_code
def yX12_printUnpacked : MethodName := ⟨RX12, "printUnpacked", "(I)I"⟩
abbrev cX12_printTree : ByteArray := prog_1_method_29_code
def yX12_printTree : MethodName := ⟨RX12, "printTree", "(I)I"⟩
abbrev cX12_printWithout : ByteArray := prog_1_method_30_code
def yX12_printWithout : MethodName := ⟨RX12, "printWithout", "(I)I"⟩
abbrev cX12_character : ByteArray := prog_1_method_31_code
def yX12_character : MethodName := ⟨RX12, "character", "(I)I"⟩
abbrev cX12_trees : ByteArray := prog_1_method_32_code
def yX12_trees : MethodName := ⟨RX12, "trees", "(I)I"⟩
abbrev cX12_treesOf : ByteArray := prog_1_method_33_code
def yX12_treesOf : MethodName := ⟨RX12, "treesOf", "(I)I"⟩
abbrev cX12_equate : ByteArray := prog_1_method_34_code
def yX12_equate : MethodName := ⟨RX12, "equate", "(I)I"⟩
abbrev cX12_definition : ByteArray := prog_1_method_35_code
def yX12_definition : MethodName := ⟨RX12, "definition", "(I)I"⟩
abbrev cX12_apply : ByteArray := prog_1_method_36_code
def yX12_apply : MethodName := ⟨RX12, "apply", "(I)I"⟩
abbrev cX12_takeRow : ByteArray := prog_1_method_37_code
def yX12_takeRow : MethodName := ⟨RX12, "takeRow", "()I"⟩
abbrev cX12_printEssentials : ByteArray := prog_1_method_38_code
def yX12_printEssentials : MethodName := ⟨RX12, "printEssentials", "(I)I"⟩
abbrev cX12_printBound : ByteArray := prog_1_method_39_code
def yX12_printBound : MethodName := ⟨RX12, "printBound", "(I)V"⟩
abbrev cX12_check : ByteArray := prog_1_method_40_code
def yX12_check : MethodName := ⟨RX12, "check", "()I"⟩
abbrev cX12_isSound : ByteArray := prog_1_method_41_code
def yX12_isSound : MethodName := ⟨RX12, "isSound", "(I)Z"⟩
abbrev cX12_makesItsSymbols : ByteArray := prog_1_method_42_code
def yX12_makesItsSymbols : MethodName := ⟨RX12, "makesItsSymbols", "(I)Z"⟩
abbrev cX12_isBlank : ByteArray := prog_1_method_43_code
def yX12_isBlank : MethodName := ⟨RX12, "isBlank", "(I)Z"⟩
abbrev cX12_isVisible : ByteArray := prog_1_method_44_code
def yX12_isVisible : MethodName := ⟨RX12, "isVisible", "(I)Z"⟩
abbrev cX12_isLabelCharacter : ByteArray := prog_1_method_45_code
def yX12_isLabelCharacter : MethodName := ⟨RX12, "isLabelCharacter", "(I)Z"⟩
abbrev cX12_skipBlanks : ByteArray := prog_1_method_46_code
def yX12_skipBlanks : MethodName := ⟨RX12, "skipBlanks", "([CII)I"⟩
abbrev cX12_tokenEnd : ByteArray := prog_1_method_47_code
def yX12_tokenEnd : MethodName := ⟨RX12, "tokenEnd", "([CII)I"⟩
abbrev cX12_isLabel : ByteArray := prog_1_method_48_code
def yX12_isLabel : MethodName := ⟨RX12, "isLabel", "([CII)Z"⟩
def RX13 : String := "ProofLibraryModel"
def TX13 : u_T := fun k => match k with
  | 0 => ("ProofLibraryModel", "tape", "[I", true)
  | 1 => ("ProofLibraryModel", "tapeSize", "I", false)
  | 2 => ("ProofLibraryModel", "isFed", "Z", false)
  | 3 => ("ProofLibraryModel", "chars", "[I", true)
  | 4 => ("ProofLibraryModel", "charCount", "I", false)
  | 5 => ("ProofLibraryModel", "symbolAt", "[I", true)
  | 6 => ("ProofLibraryModel", "symbolSize", "[I", true)
  | 7 => ("ProofLibraryModel", "symbols", "I", false)
  | 8 => ("ProofLibraryModel", "labelAt", "[I", true)
  | 9 => ("ProofLibraryModel", "labelSize", "[I", true)
  | 10 => ("ProofLibraryModel", "symbolTable", "[I", true)
  | 11 => ("ProofLibraryModel", "labelTable", "[I", true)
  | 12 => ("ProofLibraryModel", "isVariable", "[Z", true)
  | 13 => ("ProofLibraryModel", "isActive", "[Z", true)
  | 14 => ("ProofLibraryModel", "typeOf", "[I", true)
  | 15 => ("ProofLibraryModel", "floatOf", "[I", true)
  | 16 => ("ProofLibraryModel", "begins", "[Z", true)
  | 17 => ("ProofLibraryModel", "beginnings", "I", false)
  | 18 => ("ProofLibraryModel", "statements", "I", false)
  | 19 => ("ProofLibraryModel", "kindOf", "[I", true)
  | 20 => ("ProofLibraryModel", "textAt", "[I", true)
  | 21 => ("ProofLibraryModel", "textSize", "[I", true)
  | 22 => ("ProofLibraryModel", "texts", "[I", true)
  | 23 => ("ProofLibraryModel", "floats", "[I", true)
  | 24 => ("ProofLibraryModel", "textCount", "I", false)
  | 25 => ("ProofLibraryModel", "hypAt", "[I", true)
  | 26 => ("ProofLibraryModel", "hypSize", "[I", true)
  | 27 => ("ProofLibraryModel", "hyps", "[I", true)
  | 28 => ("ProofLibraryModel", "hypCount", "I", false)
  | 29 => ("ProofLibraryModel", "pairAt", "[I", true)
  | 30 => ("ProofLibraryModel", "pairSize", "[I", true)
  | 31 => ("ProofLibraryModel", "pairA", "[I", true)
  | 32 => ("ProofLibraryModel", "pairB", "[I", true)
  | 33 => ("ProofLibraryModel", "pairCount", "I", false)
  | 34 => ("ProofLibraryModel", "stepAt", "[I", true)
  | 35 => ("ProofLibraryModel", "stepSize", "[I", true)
  | 36 => ("ProofLibraryModel", "steps", "[I", true)
  | 37 => ("ProofLibraryModel", "saves", "[Z", true)
  | 38 => ("ProofLibraryModel", "stepPlace", "[I", true)
  | 39 => ("ProofLibraryModel", "stepCount", "I", false)
  | 40 => ("ProofLibraryModel", "rest", "[J", true)
  | 41 => ("ProofLibraryModel", "wff", "I", false)
  | 42 => ("ProofLibraryModel", "turnstile", "I", false)
  | 43 => ("ProofLibraryModel", "activeVariables", "[I", true)
  | 44 => ("ProofLibraryModel", "activeVariableCount", "I", false)
  | 45 => ("ProofLibraryModel", "activeHyps", "[I", true)
  | 46 => ("ProofLibraryModel", "activeHypCount", "I", false)
  | 47 => ("ProofLibraryModel", "apartA", "[I", true)
  | 48 => ("ProofLibraryModel", "apartB", "[I", true)
  | 49 => ("ProofLibraryModel", "apartCount", "I", false)
  | 50 => ("ProofLibraryModel", "apartBits", "[J", true)
  | 51 => ("ProofLibraryModel", "scopes", "I", false)
  | 52 => ("ProofLibraryModel", "scopeVariables", "[I", true)
  | 53 => ("ProofLibraryModel", "scopeHyps", "[I", true)
  | 54 => ("ProofLibraryModel", "scopeApart", "[I", true)
  | 55 => ("ProofLibraryModel", "at", "I", false)
  | 56 => ("ProofLibraryModel", "tokenAt", "I", false)
  | 57 => ("ProofLibraryModel", "tokenSize", "I", false)
  | 58 => ("ProofLibraryModel", "token", "I", false)
  | 59 => ("ProofLibraryModel", "fault", "I", false)
  | 60 => ("ProofLibraryModel", "placeIs", "I", false)
  | 61 => ("ProofLibraryModel", "distinct", "[I", true)
  | 62 => ("ProofLibraryModel", "now", "I", false)
  | 63 => ("ProofLibraryModel", "isMarked", "[Z", true)
  | 64 => ("ProofLibraryModel", "isOpen", "Z", false)
  | 65 => ("ProofLibraryModel", "lastPlace", "I", false)
  | 66 => ("ProofLibraryModel", "packedLabels", "[I", true)
  | 67 => ("ProofLibraryModel", "packedCount", "I", false)
  | 68 => ("ProofLibraryModel", "sum", "I", false)
  | 69 => ("ProofLibraryModel", "inNumber", "Z", false)
  | 70 => ("ProofLibraryModel", "maySave", "Z", false)
  | 71 => ("ProofLibraryModel", "savedCount", "I", false)
  | 72 => ("ProofLibraryModel", "pileAt", "[I", true)
  | 73 => ("ProofLibraryModel", "pileSize", "[I", true)
  | 74 => ("ProofLibraryModel", "pileRow", "[I", true)
  | 75 => ("ProofLibraryModel", "piled", "I", false)
  | 76 => ("ProofLibraryModel", "pileSymbols", "[I", true)
  | 77 => ("ProofLibraryModel", "pileTop", "I", false)
  | 78 => ("ProofLibraryModel", "savedAt", "[I", true)
  | 79 => ("ProofLibraryModel", "savedSize", "[I", true)
  | 80 => ("ProofLibraryModel", "savedRow", "[I", true)
  | 81 => ("ProofLibraryModel", "savedRows", "I", false)
  | 82 => ("ProofLibraryModel", "savedSymbols", "[I", true)
  | 83 => ("ProofLibraryModel", "savedTop", "I", false)
  | 84 => ("ProofLibraryModel", "becomesAt", "[I", true)
  | 85 => ("ProofLibraryModel", "becomesSize", "[I", true)
  | 86 => ("ProofLibraryModel", "madeRow", "[I", true)
  | 87 => ("ProofLibraryModel", "made", "I", false)
  | 88 => ("ProofLibraryModel", "stepFault", "I", false)
  | 89 => ("ProofLibraryModel", "wasVariable", "[Z", true)
  | 90 => ("ProofLibraryModel", "wasActive", "[Z", true)
  | 91 => ("ProofLibraryModel", "wasBegin", "[Z", true)
  | 92 => ("ProofLibraryModel", "wasType", "[I", true)
  | 93 => ("ProofLibraryModel", "wasFloat", "[I", true)
  | 94 => ("ProofLibraryModel", "rowOf", "[I", true)
  | 95 => ("ProofLibraryModel", "rowFromAt", "[I", true)
  | 96 => ("ProofLibraryModel", "rowFroms", "[I", true)
  | 97 => ("ProofLibraryModel", "rowCount", "I", false)
  | 98 => ("ProofLibraryModel", "rowFromCount", "I", false)
  | 99 => ("ProofLibraryModel", "rowsOf", "I", false)
  | 100 => ("ProofLibraryModel", "sizes", "[J", true)
  | 101 => ("ProofLibraryModel", "draft", "[I", true)
  | 102 => ("ProofLibraryModel", "draftSize", "I", false)
  | 103 => ("ProofLibraryModel", "printed", "[I", true)
  | 104 => ("ProofLibraryModel", "printedSize", "I", false)
  | 105 => ("ProofLibraryModel", "sameAs", "[I", true)
  | 106 => ("ProofLibraryModel", "uses", "[I", true)
  | 107 => ("ProofLibraryModel", "numberOf", "[I", true)
  | 108 => ("ProofLibraryModel", "order", "[I", true)
  | 109 => ("ProofLibraryModel", "ordered", "I", false)
  | 110 => ("ProofLibraryModel", "walk", "[I", true)
  | 111 => ("ProofLibraryModel", "walkKid", "[I", true)
  | 112 => ("ProofLibraryModel", "walked", "I", false)
  | 113 => ("ProofLibraryModel", "newLabels", "[I", true)
  | 114 => ("ProofLibraryModel", "labelNumber", "[I", true)
  | 115 => ("ProofLibraryModel", "newLabelCount", "I", false)
  | 116 => ("ProofLibraryModel", "sameTable", "[I", true)
  | 117 => ("ProofLibraryModel", "told", "[I", true)
  | 118 => ("ProofLibraryModel", "tolds", "I", false)
  | 119 => ("ProofLibraryModel", "sortOf", "[I", true)
  | 120 => ("ProofLibraryModel", "stretch", "[I", true)
  | 121 => ("ProofLibraryModel", "rowSize", "I", false)
  | 122 => ("ProofLibraryModel", "leafSort", "[I", true)
  | 123 => ("ProofLibraryModel", "leafIs", "[I", true)
  | 124 => ("ProofLibraryModel", "ways", "[I", true)
  | 125 => ("ProofLibraryModel", "sorts", "I", false)
  | 126 => ("ProofLibraryModel", "madeBy", "[I", true)
  | 127 => ("ProofLibraryModel", "startsOne", "[J", true)
  | 128 => ("ProofLibraryModel", "startsTwo", "[J", true)
  | 129 => ("ProofLibraryModel", "ruleStep", "[I", true)
  | 130 => ("ProofLibraryModel", "ruleUp", "[I", true)
  | 131 => ("ProofLibraryModel", "ruleKid", "[I", true)
  | 132 => ("ProofLibraryModel", "ruleNext", "[I", true)
  | 133 => ("ProofLibraryModel", "ruleFirst", "[I", true)
  | 134 => ("ProofLibraryModel", "ruleOther", "[I", true)
  | 135 => ("ProofLibraryModel", "ruleLeast", "[I", true)
  | 136 => ("ProofLibraryModel", "frontOne", "[J", true)
  | 137 => ("ProofLibraryModel", "frontTwo", "[J", true)
  | 138 => ("ProofLibraryModel", "ruleNodes", "I", false)
  | 139 => ("ProofLibraryModel", "units", "[I", true)
  | 140 => ("ProofLibraryModel", "unitCount", "I", false)
  | 141 => ("ProofLibraryModel", "isTreed", "Z", false)
  | 142 => ("ProofLibraryModel", "rowLimit", "I", false)
  | 143 => ("ProofLibraryModel", "front", "[I", true)
  | 144 => ("ProofLibraryModel", "nodeIs", "[I", true)
  | 145 => ("ProofLibraryModel", "nodeKids", "[I", true)
  | 146 => ("ProofLibraryModel", "nodeFrom", "[I", true)
  | 147 => ("ProofLibraryModel", "nodeTo", "[I", true)
  | 148 => ("ProofLibraryModel", "nodeSort", "[I", true)
  | 149 => ("ProofLibraryModel", "kids", "[I", true)
  | 150 => ("ProofLibraryModel", "nodes", "I", false)
  | 151 => ("ProofLibraryModel", "kidCount", "I", false)
  | 152 => ("ProofLibraryModel", "base", "[I", true)
  | 153 => ("ProofLibraryModel", "grown", "[I", true)
  | 154 => ("ProofLibraryModel", "treeCount", "[I", true)
  | 155 => ("ProofLibraryModel", "rulesIn", "[J", true)
  | 156 => ("ProofLibraryModel", "definitions", "[I", true)
  | 157 => ("ProofLibraryModel", "isEquality", "[Z", true)
  | 158 => ("ProofLibraryModel", "definer", "[I", true)
  | 159 => ("ProofLibraryModel", "isNeeded", "[Z", true)
  | 160 => ("ProofLibraryModel", "bareAt", "[I", true)
  | 161 => ("ProofLibraryModel", "bareMany", "[I", true)
  | 162 => ("ProofLibraryModel", "bare", "[I", true)
  | 163 => ("ProofLibraryModel", "bareSize", "I", false)
  | 164 => ("ProofLibraryModel", "tasks", "[I", true)
  | 165 => ("ProofLibraryModel", "taskMany", "I", false)
  | 166 => ("ProofLibraryModel", "given", "[I", true)
  | 167 => ("ProofLibraryModel", "boundFrom", "[I", true)
  | 168 => ("ProofLibraryModel", "boundTo", "[I", true)
  | _ => ("ProofLibraryModel", "otherWalk", "[I", true)
def tyX13 : Nat → FieldType := fun k => match k with
  | 0 => .array .int
  | 1 => .int
  | 2 => .boolean
  | 3 => .array .int
  | 4 => .int
  | 5 => .array .int
  | 6 => .array .int
  | 7 => .int
  | 8 => .array .int
  | 9 => .array .int
  | 10 => .array .int
  | 11 => .array .int
  | 12 => .array .boolean
  | 13 => .array .boolean
  | 14 => .array .int
  | 15 => .array .int
  | 16 => .array .boolean
  | 17 => .int
  | 18 => .int
  | 19 => .array .int
  | 20 => .array .int
  | 21 => .array .int
  | 22 => .array .int
  | 23 => .array .int
  | 24 => .int
  | 25 => .array .int
  | 26 => .array .int
  | 27 => .array .int
  | 28 => .int
  | 29 => .array .int
  | 30 => .array .int
  | 31 => .array .int
  | 32 => .array .int
  | 33 => .int
  | 34 => .array .int
  | 35 => .array .int
  | 36 => .array .int
  | 37 => .array .boolean
  | 38 => .array .int
  | 39 => .int
  | 40 => .array .long
  | 41 => .int
  | 42 => .int
  | 43 => .array .int
  | 44 => .int
  | 45 => .array .int
  | 46 => .int
  | 47 => .array .int
  | 48 => .array .int
  | 49 => .int
  | 50 => .array .long
  | 51 => .int
  | 52 => .array .int
  | 53 => .array .int
  | 54 => .array .int
  | 55 => .int
  | 56 => .int
  | 57 => .int
  | 58 => .int
  | 59 => .int
  | 60 => .int
  | 61 => .array .int
  | 62 => .int
  | 63 => .array .boolean
  | 64 => .boolean
  | 65 => .int
  | 66 => .array .int
  | 67 => .int
  | 68 => .int
  | 69 => .boolean
  | 70 => .boolean
  | 71 => .int
  | 72 => .array .int
  | 73 => .array .int
  | 74 => .array .int
  | 75 => .int
  | 76 => .array .int
  | 77 => .int
  | 78 => .array .int
  | 79 => .array .int
  | 80 => .array .int
  | 81 => .int
  | 82 => .array .int
  | 83 => .int
  | 84 => .array .int
  | 85 => .array .int
  | 86 => .array .int
  | 87 => .int
  | 88 => .int
  | 89 => .array .boolean
  | 90 => .array .boolean
  | 91 => .array .boolean
  | 92 => .array .int
  | 93 => .array .int
  | 94 => .array .int
  | 95 => .array .int
  | 96 => .array .int
  | 97 => .int
  | 98 => .int
  | 99 => .int
  | 100 => .array .long
  | 101 => .array .int
  | 102 => .int
  | 103 => .array .int
  | 104 => .int
  | 105 => .array .int
  | 106 => .array .int
  | 107 => .array .int
  | 108 => .array .int
  | 109 => .int
  | 110 => .array .int
  | 111 => .array .int
  | 112 => .int
  | 113 => .array .int
  | 114 => .array .int
  | 115 => .int
  | 116 => .array .int
  | 117 => .array .int
  | 118 => .int
  | 119 => .array .int
  | 120 => .array .int
  | 121 => .int
  | 122 => .array .int
  | 123 => .array .int
  | 124 => .array .int
  | 125 => .int
  | 126 => .array .int
  | 127 => .array .long
  | 128 => .array .long
  | 129 => .array .int
  | 130 => .array .int
  | 131 => .array .int
  | 132 => .array .int
  | 133 => .array .int
  | 134 => .array .int
  | 135 => .array .int
  | 136 => .array .long
  | 137 => .array .long
  | 138 => .int
  | 139 => .array .int
  | 140 => .int
  | 141 => .boolean
  | 142 => .int
  | 143 => .array .int
  | 144 => .array .int
  | 145 => .array .int
  | 146 => .array .int
  | 147 => .array .int
  | 148 => .array .int
  | 149 => .array .int
  | 150 => .int
  | 151 => .int
  | 152 => .array .int
  | 153 => .array .int
  | 154 => .array .int
  | 155 => .array .long
  | 156 => .array .int
  | 157 => .array .boolean
  | 158 => .array .int
  | 159 => .array .boolean
  | 160 => .array .int
  | 161 => .array .int
  | 162 => .array .int
  | 163 => .int
  | 164 => .array .int
  | 165 => .int
  | 166 => .array .int
  | 167 => .array .int
  | 168 => .array .int
  | _ => .array .int
abbrev wsX130 : List Cond := u_ws RX13 TX13 170
theorem nmX13 : ∀ a, a < 170 → ∀ b, b < 170 → a ≠ b → (TX13 a).2.1 ≠ (TX13 b).2.1 := by decide +kernel
theorem tyX13_ok : ∀ k, k < 170 → parseFieldDescriptor (TX13 k).2.2.1 = some (tyX13 k) := by decide +kernel
abbrev cX13_init : ByteArray := prog_15_method_1_code
def yX13_init : MethodName := ⟨RX13, "<init>", "()V"⟩
abbrev cX13_isIn : ByteArray := prog_15_method_3_code
def yX13_isIn : MethodName := ⟨RX13, "isIn", "(JJJ)Z"⟩
abbrev cX13_feed : ByteArray := prog_15_method_4_code
def yX13_feed : MethodName := ⟨RX13, "feed", "(IIIII)I"⟩
abbrev cX13_end : ByteArray := prog_15_method_5_code
def yX13_end : MethodName := ⟨RX13, "end", "(I)I"⟩
abbrev cX13_isBlank : ByteArray := prog_15_method_6_code
def yX13_isBlank : MethodName := ⟨RX13, "isBlank", "(I)Z"⟩
abbrev cX13_isSign : ByteArray := prog_15_method_7_code
def yX13_isSign : MethodName := ⟨RX13, "isSign", "(I)Z"⟩
abbrev cX13_clearTables : ByteArray := prog_15_method_8_code
def yX13_clearTables : MethodName := ⟨RX13, "clearTables", "()V"⟩
abbrev cX13_spot : ByteArray := prog_15_method_9_code
def yX13_spot : MethodName := ⟨RX13, "spot", "([III)I"⟩
abbrev cX13_isName : ByteArray := prog_15_method_10_code
def yX13_isName : MethodName := ⟨RX13, "isName", "(II[III)Z"⟩
abbrev cX13_findSymbol : ByteArray := prog_15_method_11_code
def yX13_findSymbol : MethodName := ⟨RX13, "findSymbol", "([III)I"⟩
abbrev cX13_findLabel : ByteArray := prog_15_method_12_code
def yX13_findLabel : MethodName := ⟨RX13, "findLabel", "([III)I"⟩
abbrev cX13_keepSymbol : ByteArray := prog_15_method_13_code
def yX13_keepSymbol : MethodName := ⟨RX13, "keepSymbol", "(I)V"⟩
abbrev cX13_keepLabel : ByteArray := prog_15_method_14_code
def yX13_keepLabel : MethodName := ⟨RX13, "keepLabel", "(I)V"⟩
abbrev cX13_keepChars : ByteArray := prog_15_method_15_code
def yX13_keepChars : MethodName := ⟨RX13, "keepChars", "(II)V"⟩
abbrev cX13_areApart : ByteArray := prog_15_method_16_code
def yX13_areApart : MethodName := ⟨RX13, "areApart", "(II)Z"⟩
abbrev cX13_setApart : ByteArray := prog_15_method_17_code
def yX13_setApart : MethodName := ⟨RX13, "setApart", "(IIZ)V"⟩
abbrev cX13_dropTo : ByteArray := prog_15_method_18_code
def yX13_dropTo : MethodName := ⟨RX13, "dropTo", "(III)V"⟩
abbrev cX13_fail : ByteArray := prog_15_method_19_code
def yX13_fail : MethodName := ⟨RX13, "fail", "(II)V"⟩
abbrev cX13_hasDollar : ByteArray := prog_15_method_20_code
def yX13_hasDollar : MethodName := ⟨RX13, "hasDollar", "(II)Z"⟩
abbrev cX13_hasSign : ByteArray := prog_15_method_21_code
def yX13_hasSign : MethodName := ⟨RX13, "hasSign", "(I)Z"⟩
abbrev cX13_nextRow : ByteArray := prog_15_method_22_code
def yX13_nextRow : MethodName := ⟨RX13, "nextRow", "()Z"⟩
abbrev cX13_isToken : ByteArray := prog_15_method_23_code
def yX13_isToken : MethodName := ⟨RX13, "isToken", "(I)Z"⟩
abbrev cX13_skipComment : ByteArray := prog_15_method_24_code
def yX13_skipComment : MethodName := ⟨RX13, "skipComment", "()V"⟩
abbrev cX13_isKnown : ByteArray := prog_15_method_25_code
def yX13_isKnown : MethodName := ⟨RX13, "isKnown", "(I)Z"⟩
abbrev cX13_next : ByteArray := prog_15_method_26_code
def yX13_next : MethodName := ⟨RX13, "next", "()V"⟩
abbrev cX13_failHere : ByteArray := prog_15_method_27_code
def yX13_failHere : MethodName := ⟨RX13, "failHere", "(I)V"⟩
abbrev cX13_symbolHere : ByteArray := prog_15_method_28_code
def yX13_symbolHere : MethodName := ⟨RX13, "symbolHere", "()I"⟩
abbrev cX13_declare : ByteArray := prog_15_method_29_code
def yX13_declare : MethodName := ⟨RX13, "declare", "(Z)V"⟩
abbrev cX13_markNamed : ByteArray := prog_15_method_30_code
def yX13_markNamed : MethodName := ⟨RX13, "markNamed", "(I)V"⟩
abbrev cX13_readDeclared : ByteArray := prog_15_method_31_code
def yX13_readDeclared : MethodName := ⟨RX13, "readDeclared", "(Z)V"⟩
abbrev cX13_readApart : ByteArray := prog_15_method_32_code
def yX13_readApart : MethodName := ⟨RX13, "readApart", "()V"⟩
abbrev cX13_isLabelSign : ByteArray := prog_15_method_33_code
def yX13_isLabelSign : MethodName := ⟨RX13, "isLabelSign", "(I)Z"⟩
abbrev cX13_readLabel : ByteArray := prog_15_method_34_code
def yX13_readLabel : MethodName := ⟨RX13, "readLabel", "()V"⟩
abbrev cX13_readFirst : ByteArray := prog_15_method_35_code
def yX13_readFirst : MethodName := ⟨RX13, "readFirst", "()V"⟩
abbrev cX13_addSymbol : ByteArray := prog_15_method_36_code
def yX13_addSymbol : MethodName := ⟨RX13, "addSymbol", "(II)V"⟩
abbrev cX13_readFloating : ByteArray := prog_15_method_37_code
def yX13_readFloating : MethodName := ⟨RX13, "readFloating", "()V"⟩
abbrev cX13_activate : ByteArray := prog_15_method_38_code
def yX13_activate : MethodName := ⟨RX13, "activate", "()V"⟩
abbrev cX13_finish : ByteArray := prog_15_method_39_code
def yX13_finish : MethodName := ⟨RX13, "finish", "(I)V"⟩
abbrev cX13_readSymbols : ByteArray := prog_15_method_40_code
def yX13_readSymbols : MethodName := ⟨RX13, "readSymbols", "(I)V"⟩
abbrev cX13_markOf : ByteArray := prog_15_method_41_code
def yX13_markOf : MethodName := ⟨RX13, "markOf", "(I)V"⟩
abbrev cX13_makeFrame : ByteArray := prog_15_method_42_code
def yX13_makeFrame : MethodName := ⟨RX13, "makeFrame", "()V"⟩
abbrev cX13_isMandatory : ByteArray := prog_15_method_43_code
def yX13_isMandatory : MethodName := ⟨RX13, "isMandatory", "(II)Z"⟩
abbrev cX13_stepHere : ByteArray := prog_15_method_44_code
def yX13_stepHere : MethodName := ⟨RX13, "stepHere", "()I"⟩
abbrev cX13_addStep : ByteArray := prog_15_method_45_code
def yX13_addStep : MethodName := ⟨RX13, "addStep", "(II)V"⟩
abbrev cX13_readPlain : ByteArray := prog_15_method_46_code
def yX13_readPlain : MethodName := ⟨RX13, "readPlain", "()V"⟩
abbrev cX13_readPackedLabels : ByteArray := prog_15_method_47_code
def yX13_readPackedLabels : MethodName := ⟨RX13, "readPackedLabels", "()V"⟩
abbrev cX13_endNumber : ByteArray := prog_15_method_48_code
def yX13_endNumber : MethodName := ⟨RX13, "endNumber", "(II)V"⟩
abbrev cX13_readLetter : ByteArray := prog_15_method_49_code
def yX13_readLetter : MethodName := ⟨RX13, "readLetter", "(II)V"⟩
abbrev cX13_readPacked : ByteArray := prog_15_method_50_code
def yX13_readPacked : MethodName := ⟨RX13, "readPacked", "()V"⟩
abbrev cX13_readTheorem : ByteArray := prog_15_method_51_code
def yX13_readTheorem : MethodName := ⟨RX13, "readTheorem", "()V"⟩
abbrev cX13_wrong : ByteArray := prog_15_method_52_code
def yX13_wrong : MethodName := ⟨RX13, "wrong", "(I)V"⟩
abbrev cX13_pushRow : ByteArray := prog_15_method_53_code
def yX13_pushRow : MethodName := ⟨RX13, "pushRow", "([IIII)V"⟩
abbrev cX13_replace : ByteArray := prog_15_method_54_code
def yX13_replace : MethodName := ⟨RX13, "replace", "(I)V"⟩
abbrev cX13_isMade : ByteArray := prog_15_method_55_code
def yX13_isMade : MethodName := ⟨RX13, "isMade", "(II)Z"⟩
abbrev cX13_areKept : ByteArray := prog_15_method_56_code
def yX13_areKept : MethodName := ⟨RX13, "areKept", "(II)Z"⟩
abbrev cX13_applyStep : ByteArray := prog_15_method_57_code
def yX13_applyStep : MethodName := ⟨RX13, "applyStep", "(IIZ)V"⟩
abbrev cX13_saveTop : ByteArray := prog_15_method_58_code
def yX13_saveTop : MethodName := ⟨RX13, "saveTop", "()V"⟩
abbrev cX13_beginSteps : ByteArray := prog_15_method_59_code
def yX13_beginSteps : MethodName := ⟨RX13, "beginSteps", "()V"⟩
abbrev cX13_doStep : ByteArray := prog_15_method_60_code
def yX13_doStep : MethodName := ⟨RX13, "doStep", "(IIZ)V"⟩
abbrev cX13_verify : ByteArray := prog_15_method_61_code
def yX13_verify : MethodName := ⟨RX13, "verify", "()V"⟩
abbrev cX13_restOf : ByteArray := prog_15_method_62_code
def yX13_restOf : MethodName := ⟨RX13, "restOf", "()V"⟩
abbrev cX13_readAssertion : ByteArray := prog_15_method_63_code
def yX13_readAssertion : MethodName := ⟨RX13, "readAssertion", "(Z)V"⟩
abbrev cX13_readLabelled : ByteArray := prog_15_method_64_code
def yX13_readLabelled : MethodName := ⟨RX13, "readLabelled", "()V"⟩
abbrev cX13_readScope : ByteArray := prog_15_method_65_code
def yX13_readScope : MethodName := ⟨RX13, "readScope", "(Z)V"⟩
abbrev cX13_readStatement : ByteArray := prog_15_method_66_code
def yX13_readStatement : MethodName := ⟨RX13, "readStatement", "()V"⟩
abbrev cX13_noteAll : ByteArray := prog_15_method_67_code
def yX13_noteAll : MethodName := ⟨RX13, "noteAll", "()V"⟩
abbrev cX13_forgetText : ByteArray := prog_15_method_68_code
def yX13_forgetText : MethodName := ⟨RX13, "forgetText", "(IIIIII)V"⟩
abbrev cX13_read : ByteArray := prog_15_method_69_code
def yX13_read : MethodName := ⟨RX13, "read", "()I"⟩
abbrev cX13_place : ByteArray := prog_15_method_70_code
def yX13_place : MethodName := ⟨RX13, "place", "()I"⟩
abbrev cX13_isStatement : ByteArray := prog_15_method_71_code
def yX13_isStatement : MethodName := ⟨RX13, "isStatement", "(I)Z"⟩
abbrev cX13_isAssertion : ByteArray := prog_15_method_72_code
def yX13_isAssertion : MethodName := ⟨RX13, "isAssertion", "(I)Z"⟩
abbrev cX13_isProved : ByteArray := prog_15_method_73_code
def yX13_isProved : MethodName := ⟨RX13, "isProved", "(I)Z"⟩
abbrev cX13_count : ByteArray := prog_15_method_74_code
def yX13_count : MethodName := ⟨RX13, "count", "(I)I"⟩
abbrev cX13_kind : ByteArray := prog_15_method_75_code
def yX13_kind : MethodName := ⟨RX13, "kind", "(I)I"⟩
abbrev cX13_length : ByteArray := prog_15_method_76_code
def yX13_length : MethodName := ⟨RX13, "length", "(I)I"⟩
abbrev cX13_symbol : ByteArray := prog_15_method_77_code
def yX13_symbol : MethodName := ⟨RX13, "symbol", "(II)I"⟩
abbrev cX13_variable : ByteArray := prog_15_method_78_code
def yX13_variable : MethodName := ⟨RX13, "variable", "(I)I"⟩
abbrev cX13_rowFrom : ByteArray := prog_15_method_79_code
def yX13_rowFrom : MethodName := ⟨RX13, "rowFrom", "(I)I"⟩
abbrev cX13_useTape : ByteArray := prog_15_method_80_code
def yX13_useTape : MethodName := ⟨RX13, "useTape", "()V"⟩
abbrev cX13_find : ByteArray := prog_15_method_81_code
def yX13_find : MethodName := ⟨RX13, "find", "(I)I"⟩
abbrev cX13_resting : ByteArray := prog_15_method_82_code
def yX13_resting : MethodName := ⟨RX13, "resting", "(I)I"⟩
abbrev cX13_frame : ByteArray := prog_15_method_83_code
def yX13_frame : MethodName := ⟨RX13, "frame", "(II)I"⟩
abbrev cX13_hypothesis : ByteArray := prog_15_method_84_code
def yX13_hypothesis : MethodName := ⟨RX13, "hypothesis", "(II)I"⟩
abbrev cX13_apart : ByteArray := prog_15_method_85_code
def yX13_apart : MethodName := ⟨RX13, "apart", "(III)I"⟩
abbrev cX13_makeRows : ByteArray := prog_15_method_86_code
def yX13_makeRows : MethodName := ⟨RX13, "makeRows", "(I)V"⟩
abbrev cX13_rowWidth : ByteArray := prog_15_method_87_code
def yX13_rowWidth : MethodName := ⟨RX13, "rowWidth", "(I)I"⟩
abbrev cX13_rows : ByteArray := prog_15_method_88_code
def yX13_rows : MethodName := ⟨RX13, "rows", "(I)I"⟩
abbrev cX13_isRow : ByteArray := prog_15_method_89_code
def yX13_isRow : MethodName := ⟨RX13, "isRow", "(II)Z"⟩
abbrev cX13_row : ByteArray := prog_15_method_90_code
def yX13_row : MethodName := ⟨RX13, "row", "(II)I"⟩
abbrev cX13_from : ByteArray := prog_15_method_91_code
def yX13_from : MethodName := ⟨RX13, "from", "(III)I"⟩
abbrev cX13_rests : ByteArray := prog_15_method_92_code
def yX13_rests : MethodName := ⟨RX13, "rests", "(II)I"⟩
abbrev cX13_makeSizes : ByteArray := prog_15_method_93_code
def yX13_makeSizes : MethodName := ⟨RX13, "makeSizes", "(I)V"⟩
abbrev cX13_size : ByteArray := prog_15_method_94_code
def yX13_size : MethodName := ⟨RX13, "size", "(I)J"⟩
abbrev cX13_put : ByteArray := prog_15_method_95_code
def yX13_put : MethodName := ⟨RX13, "put", "(I)V"⟩
abbrev cX13_putBlank : ByteArray := prog_15_method_96_code
def yX13_putBlank : MethodName := ⟨RX13, "putBlank", "()V"⟩
abbrev cX13_putName : ByteArray := prog_15_method_97_code
def yX13_putName : MethodName := ⟨RX13, "putName", "(II)V"⟩
abbrev cX13_putSymbol : ByteArray := prog_15_method_98_code
def yX13_putSymbol : MethodName := ⟨RX13, "putSymbol", "(I)V"⟩
abbrev cX13_putLabel : ByteArray := prog_15_method_99_code
def yX13_putLabel : MethodName := ⟨RX13, "putLabel", "(I)V"⟩
abbrev cX13_keepDraft : ByteArray := prog_15_method_100_code
def yX13_keepDraft : MethodName := ⟨RX13, "keepDraft", "()I"⟩
abbrev cX13_character : ByteArray := prog_15_method_101_code
def yX13_character : MethodName := ⟨RX13, "character", "(I)I"⟩
abbrev cX13_printTexts : ByteArray := prog_15_method_102_code
def yX13_printTexts : MethodName := ⟨RX13, "printTexts", "(I)I"⟩
abbrev cX13_printRow : ByteArray := prog_15_method_103_code
def yX13_printRow : MethodName := ⟨RX13, "printRow", "(II)I"⟩
abbrev cX13_areSame : ByteArray := prog_15_method_104_code
def yX13_areSame : MethodName := ⟨RX13, "areSame", "(II)Z"⟩
abbrev cX13_findSame : ByteArray := prog_15_method_105_code
def yX13_findSame : MethodName := ⟨RX13, "findSame", "()V"⟩
abbrev cX13_enter : ByteArray := prog_15_method_106_code
def yX13_enter : MethodName := ⟨RX13, "enter", "(I)V"⟩
abbrev cX13_tellSteps : ByteArray := prog_15_method_107_code
def yX13_tellSteps : MethodName := ⟨RX13, "tellSteps", "()V"⟩
abbrev cX13_putNumber : ByteArray := prog_15_method_108_code
def yX13_putNumber : MethodName := ⟨RX13, "putNumber", "(I)V"⟩
abbrev cX13_printPacked : ByteArray := prog_15_method_109_code
def yX13_printPacked : MethodName := ⟨RX13, "printPacked", "(I)I"⟩
abbrev cX13_printPlain : ByteArray := prog_15_method_110_code
def yX13_printPlain : MethodName := ⟨RX13, "printPlain", "(I)I"⟩
abbrev cX13_isSort : ByteArray := prog_15_method_111_code
def yX13_isSort : MethodName := ⟨RX13, "isSort", "(I)Z"⟩
abbrev cX13_isRule : ByteArray := prog_15_method_112_code
def yX13_isRule : MethodName := ⟨RX13, "isRule", "(I)Z"⟩
abbrev cX13_findSorts : ByteArray := prog_15_method_113_code
def yX13_findSorts : MethodName := ⟨RX13, "findSorts", "()V"⟩
abbrev cX13_wayAt : ByteArray := prog_15_method_114_code
def yX13_wayAt : MethodName := ⟨RX13, "wayAt", "(III)I"⟩
abbrev cX13_capped : ByteArray := prog_15_method_115_code
def yX13_capped : MethodName := ⟨RX13, "capped", "(I)I"⟩
abbrev cX13_match : ByteArray := prog_15_method_116_code
def yX13_match : MethodName := ⟨RX13, "match", "(III)I"⟩
abbrev cX13_isUnit : ByteArray := prog_15_method_117_code
def yX13_isUnit : MethodName := ⟨RX13, "isUnit", "(I)Z"⟩
abbrev cX13_newRuleNode : ByteArray := prog_15_method_118_code
def yX13_newRuleNode : MethodName := ⟨RX13, "newRuleNode", "(II)I"⟩
abbrev cX13_stepBelow : ByteArray := prog_15_method_119_code
def yX13_stepBelow : MethodName := ⟨RX13, "stepBelow", "(II)I"⟩
abbrev cX13_treeRule : ByteArray := prog_15_method_120_code
def yX13_treeRule : MethodName := ⟨RX13, "treeRule", "(I)V"⟩
abbrev cX13_treeRules : ByteArray := prog_15_method_121_code
def yX13_treeRules : MethodName := ⟨RX13, "treeRules", "()V"⟩
abbrev cX13_closeUnits : ByteArray := prog_15_method_122_code
def yX13_closeUnits : MethodName := ⟨RX13, "closeUnits", "(III)V"⟩
abbrev cX13_goTo : ByteArray := prog_15_method_123_code
def yX13_goTo : MethodName := ⟨RX13, "goTo", "(II)V"⟩
abbrev cX13_isSortNode : ByteArray := prog_15_method_124_code
def yX13_isSortNode : MethodName := ⟨RX13, "isSortNode", "(I)Z"⟩
abbrev cX13_isFirstVariable : ByteArray := prog_15_method_125_code
def yX13_isFirstVariable : MethodName := ⟨RX13, "isFirstVariable", "(I)Z"⟩
abbrev cX13_countStretch : ByteArray := prog_15_method_126_code
def yX13_countStretch : MethodName := ⟨RX13, "countStretch", "(III)V"⟩
abbrev cX13_countWays : ByteArray := prog_15_method_127_code
def yX13_countWays : MethodName := ⟨RX13, "countWays", "(II)I"⟩
abbrev cX13_treeSort : ByteArray := prog_15_method_128_code
def yX13_treeSort : MethodName := ⟨RX13, "treeSort", "(I)I"⟩
abbrev cX13_takeStatement : ByteArray := prog_15_method_129_code
def yX13_takeStatement : MethodName := ⟨RX13, "takeStatement", "(I)V"⟩
abbrev cX13_newNode : ByteArray := prog_15_method_130_code
def yX13_newNode : MethodName := ⟨RX13, "newNode", "(III)I"⟩
abbrev cX13_hypOf : ByteArray := prog_15_method_131_code
def yX13_hypOf : MethodName := ⟨RX13, "hypOf", "(II)I"⟩
abbrev cX13_part : ByteArray := prog_15_method_132_code
def yX13_part : MethodName := ⟨RX13, "part", "(II)V"⟩
abbrev cX13_lookAt : ByteArray := prog_15_method_133_code
def yX13_lookAt : MethodName := ⟨RX13, "lookAt", "(I)V"⟩
abbrev cX13_makeTree : ByteArray := prog_15_method_134_code
def yX13_makeTree : MethodName := ⟨RX13, "makeTree", "(I)I"⟩
abbrev cX13_forgetTrees : ByteArray := prog_15_method_135_code
def yX13_forgetTrees : MethodName := ⟨RX13, "forgetTrees", "(I)V"⟩
abbrev cX13_treeOf : ByteArray := prog_15_method_136_code
def yX13_treeOf : MethodName := ⟨RX13, "treeOf", "(I)I"⟩
abbrev cX13_countTrees : ByteArray := prog_15_method_137_code
def yX13_countTrees : MethodName := ⟨RX13, "countTrees", "(I)I"⟩
abbrev cX13_trees : ByteArray := prog_15_method_138_code
def yX13_trees : MethodName := ⟨RX13, "trees", "(I)I"⟩
abbrev cX13_beginTrees : ByteArray := prog_15_method_139_code
def yX13_beginTrees : MethodName := ⟨RX13, "beginTrees", "()V"⟩
abbrev cX13_putTree : ByteArray := prog_15_method_140_code
def yX13_putTree : MethodName := ⟨RX13, "putTree", "(I)V"⟩
abbrev cX13_variablesOf : ByteArray := prog_15_method_141_code
def yX13_variablesOf : MethodName := ⟨RX13, "variablesOf", "(I)I"⟩
abbrev cX13_equate : ByteArray := prog_15_method_142_code
def yX13_equate : MethodName := ⟨RX13, "equate", "(I)I"⟩
abbrev cX13_firstSide : ByteArray := prog_15_method_143_code
def yX13_firstSide : MethodName := ⟨RX13, "firstSide", "(I)I"⟩
abbrev cX13_isUsedBefore : ByteArray := prog_15_method_144_code
def yX13_isUsedBefore : MethodName := ⟨RX13, "isUsedBefore", "(II)Z"⟩
abbrev cX13_hasLeaf : ByteArray := prog_15_method_145_code
def yX13_hasLeaf : MethodName := ⟨RX13, "hasLeaf", "(II)Z"⟩
abbrev cX13_isFlat : ByteArray := prog_15_method_146_code
def yX13_isFlat : MethodName := ⟨RX13, "isFlat", "(I)Z"⟩
abbrev cX13_isPlain : ByteArray := prog_15_method_147_code
def yX13_isPlain : MethodName := ⟨RX13, "isPlain", "(III)Z"⟩
abbrev cX13_findDefinition : ByteArray := prog_15_method_148_code
def yX13_findDefinition : MethodName := ⟨RX13, "findDefinition", "(I)I"⟩
abbrev cX13_definitionOf : ByteArray := prog_15_method_149_code
def yX13_definitionOf : MethodName := ⟨RX13, "definitionOf", "(I)I"⟩
abbrev cX13_definition : ByteArray := prog_15_method_150_code
def yX13_definition : MethodName := ⟨RX13, "definition", "(I)I"⟩
abbrev cX13_ruleOf : ByteArray := prog_15_method_151_code
def yX13_ruleOf : MethodName := ⟨RX13, "ruleOf", "(I)I"⟩
abbrev cX13_needRules : ByteArray := prog_15_method_152_code
def yX13_needRules : MethodName := ⟨RX13, "needRules", "(II)V"⟩
abbrev cX13_findDefiners : ByteArray := prog_15_method_153_code
def yX13_findDefiners : MethodName := ⟨RX13, "findDefiners", "(I)V"⟩
abbrev cX13_addTask : ByteArray := prog_15_method_154_code
def yX13_addTask : MethodName := ⟨RX13, "addTask", "(I)V"⟩
abbrev cX13_leafOf : ByteArray := prog_15_method_155_code
def yX13_leafOf : MethodName := ⟨RX13, "leafOf", "(II)I"⟩
abbrev cX13_spread : ByteArray := prog_15_method_156_code
def yX13_spread : MethodName := ⟨RX13, "spread", "(I)Z"⟩
abbrev cX13_tellBare : ByteArray := prog_15_method_157_code
def yX13_tellBare : MethodName := ⟨RX13, "tellBare", "(II)I"⟩
abbrev cX13_printBare : ByteArray := prog_15_method_158_code
def yX13_printBare : MethodName := ⟨RX13, "printBare", "(I)I"⟩
abbrev cX13_printTree : ByteArray := prog_15_method_159_code
def yX13_printTree : MethodName := ⟨RX13, "printTree", "(II)I"⟩
abbrev cX13_print : ByteArray := prog_15_method_160_code
def yX13_print : MethodName := ⟨RX13, "print", "(III)I"⟩
abbrev cX13_takeRow : ByteArray := prog_15_method_161_code
def yX13_takeRow : MethodName := ⟨RX13, "takeRow", "()I"⟩
abbrev cX13_isSameStretch : ByteArray := prog_15_method_162_code
def yX13_isSameStretch : MethodName := ⟨RX13, "isSameStretch", "(IIII)Z"⟩
abbrev cX13_fits : ByteArray := prog_15_method_163_code
def yX13_fits : MethodName := ⟨RX13, "fits", "(II)Z"⟩
abbrev cX13_rowTree : ByteArray := prog_15_method_164_code
def yX13_rowTree : MethodName := ⟨RX13, "rowTree", "(I)I"⟩
abbrev cX13_tellHyps : ByteArray := prog_15_method_165_code
def yX13_tellHyps : MethodName := ⟨RX13, "tellHyps", "(I)I"⟩
abbrev cX13_apply : ByteArray := prog_15_method_166_code
def yX13_apply : MethodName := ⟨RX13, "apply", "(I)I"⟩
abbrev cX13_check : ByteArray := prog_15_method_167_code
def yX13_check : MethodName := ⟨RX13, "check", "()I"⟩
def RJx145de : String := "java/io/Serializable"
def TJx145de : u_T := fun k => match k with
  | _ => ("", "", "", false)
def tyJx145de : Nat → FieldType := fun k => match k with
  | _ => .int
abbrev wsJx145de0 : List Cond := u_ws RJx145de TJx145de 0
theorem nmJx145de : ∀ a, a < 0 → ∀ b, b < 0 → a ≠ b → (TJx145de a).2.1 ≠ (TJx145de b).2.1 := by decide +kernel
theorem tyJx145de_ok : ∀ k, k < 0 → parseFieldDescriptor (TJx145de k).2.2.1 = some (tyJx145de k) := by decide +kernel
def RJx8e188 : String := "java/lang/Cloneable"
def TJx8e188 : u_T := fun k => match k with
  | _ => ("", "", "", false)
def tyJx8e188 : Nat → FieldType := fun k => match k with
  | _ => .int
abbrev wsJx8e1880 : List Cond := u_ws RJx8e188 TJx8e188 0
theorem nmJx8e188 : ∀ a, a < 0 → ∀ b, b < 0 → a ≠ b → (TJx8e188 a).2.1 ≠ (TJx8e188 b).2.1 := by decide +kernel
theorem tyJx8e188_ok : ∀ k, k < 0 → parseFieldDescriptor (TJx8e188 k).2.2.1 = some (tyJx8e188 k) := by decide +kernel
def RJxb160c : String := "java/lang/Comparable"
def TJxb160c : u_T := fun k => match k with
  | _ => ("", "", "", false)
def tyJxb160c : Nat → FieldType := fun k => match k with
  | _ => .int
abbrev wsJxb160c0 : List Cond := u_ws RJxb160c TJxb160c 0
theorem nmJxb160c : ∀ a, a < 0 → ∀ b, b < 0 → a ≠ b → (TJxb160c a).2.1 ≠ (TJxb160c b).2.1 := by decide +kernel
theorem tyJxb160c_ok : ∀ k, k < 0 → parseFieldDescriptor (TJxb160c k).2.2.1 = some (tyJxb160c k) := by decide +kernel
def RJ6 : String := "java/lang/Integer"
def TJ6 : u_T := fun k => match k with
  | _ => ("", "", "", false)
def tyJ6 : Nat → FieldType := fun k => match k with
  | _ => .int
abbrev wsJ60 : List Cond := u_ws RJ6 TJ6 0
theorem nmJ6 : ∀ a, a < 0 → ∀ b, b < 0 → a ≠ b → (TJ6 a).2.1 ≠ (TJ6 b).2.1 := by decide +kernel
theorem tyJ6_ok : ∀ k, k < 0 → parseFieldDescriptor (TJ6 k).2.2.1 = some (tyJ6 k) := by decide +kernel
abbrev cJ6_numberOfTrailingZeros_0f7a4 : ByteArray := prog_17_method_48_code
def yJ6_numberOfTrailingZeros_0f7a4 : MethodName := ⟨RJ6, "numberOfTrailingZeros", "(I)I"⟩
def RJ13 : String := "java/lang/Long"
def TJ13 : u_T := fun k => match k with
  | _ => ("", "", "", false)
def tyJ13 : Nat → FieldType := fun k => match k with
  | _ => .int
abbrev wsJ130 : List Cond := u_ws RJ13 TJ13 0
theorem nmJ13 : ∀ a, a < 0 → ∀ b, b < 0 → a ≠ b → (TJ13 a).2.1 ≠ (TJ13 b).2.1 := by decide +kernel
theorem tyJ13_ok : ∀ k, k < 0 → parseFieldDescriptor (TJ13 k).2.2.1 = some (tyJ13 k) := by decide +kernel
abbrev cJ13_numberOfTrailingZeros_95d88 : ByteArray := prog_18_method_49_code
def yJ13_numberOfTrailingZeros_95d88 : MethodName := ⟨RJ13, "numberOfTrailingZeros", "(J)I"⟩
abbrev cJ13_bitCount_95d88 : ByteArray := prog_18_method_50_code
def yJ13_bitCount_95d88 : MethodName := ⟨RJ13, "bitCount", "(J)I"⟩
def RJ9 : String := "java/lang/Math"
def TJ9 : u_T := fun k => match k with
  | _ => ("", "", "", false)
def tyJ9 : Nat → FieldType := fun k => match k with
  | _ => .int
abbrev wsJ90 : List Cond := u_ws RJ9 TJ9 0
theorem nmJ9 : ∀ a, a < 0 → ∀ b, b < 0 → a ≠ b → (TJ9 a).2.1 ≠ (TJ9 b).2.1 := by decide +kernel
theorem tyJ9_ok : ∀ k, k < 0 → parseFieldDescriptor (TJ9 k).2.2.1 = some (tyJ9 k) := by decide +kernel
abbrev cJ9_max_7cf53 : ByteArray := prog_19_method_65_code
def yJ9_max_7cf53 : MethodName := ⟨RJ9, "max", "(II)I"⟩
abbrev cJ9_min_7cf53 : ByteArray := prog_19_method_69_code
def yJ9_min_7cf53 : MethodName := ⟨RJ9, "min", "(II)I"⟩
abbrev cJ9_min_f86c9 : ByteArray := prog_19_method_70_code
def yJ9_min_f86c9 : MethodName := ⟨RJ9, "min", "(JJ)J"⟩
def RJxd2413 : String := "java/lang/Number"
def TJxd2413 : u_T := fun k => match k with
  | _ => ("", "", "", false)
def tyJxd2413 : Nat → FieldType := fun k => match k with
  | _ => .int
abbrev wsJxd24130 : List Cond := u_ws RJxd2413 TJxd2413 0
theorem nmJxd2413 : ∀ a, a < 0 → ∀ b, b < 0 → a ≠ b → (TJxd2413 a).2.1 ≠ (TJxd2413 b).2.1 := by decide +kernel
theorem tyJxd2413_ok : ∀ k, k < 0 → parseFieldDescriptor (TJxd2413 k).2.2.1 = some (tyJxd2413 k) := by decide +kernel
def RJ10 : String := "java/lang/System"
def TJ10 : u_T := fun k => match k with
  | _ => ("", "", "", false)
def tyJ10 : Nat → FieldType := fun k => match k with
  | _ => .int
abbrev wsJ100 : List Cond := u_ws RJ10 TJ10 0
theorem nmJ10 : ∀ a, a < 0 → ∀ b, b < 0 → a ≠ b → (TJ10 a).2.1 ≠ (TJ10 b).2.1 := by decide +kernel
theorem tyJ10_ok : ∀ k, k < 0 → parseFieldDescriptor (TJ10 k).2.2.1 = some (tyJ10 k) := by decide +kernel
def RJxfd54e : String := "java/lang/constant/Constable"
def TJxfd54e : u_T := fun k => match k with
  | _ => ("", "", "", false)
def tyJxfd54e : Nat → FieldType := fun k => match k with
  | _ => .int
abbrev wsJxfd54e0 : List Cond := u_ws RJxfd54e TJxfd54e 0
theorem nmJxfd54e : ∀ a, a < 0 → ∀ b, b < 0 → a ≠ b → (TJxfd54e a).2.1 ≠ (TJxfd54e b).2.1 := by decide +kernel
theorem tyJxfd54e_ok : ∀ k, k < 0 → parseFieldDescriptor (TJxfd54e k).2.2.1 = some (tyJxfd54e k) := by decide +kernel
def RJx3cf43 : String := "java/lang/constant/ConstantDesc"
def TJx3cf43 : u_T := fun k => match k with
  | _ => ("", "", "", false)
def tyJx3cf43 : Nat → FieldType := fun k => match k with
  | _ => .int
abbrev wsJx3cf430 : List Cond := u_ws RJx3cf43 TJx3cf43 0
theorem nmJx3cf43 : ∀ a, a < 0 → ∀ b, b < 0 → a ≠ b → (TJx3cf43 a).2.1 ≠ (TJx3cf43 b).2.1 := by decide +kernel
theorem tyJx3cf43_ok : ∀ k, k < 0 → parseFieldDescriptor (TJx3cf43 k).2.2.1 = some (tyJx3cf43 k) := by decide +kernel
def RJ7 : String := "java/util/Arrays"
def TJ7 : u_T := fun k => match k with
  | _ => ("", "", "", false)
def tyJ7 : Nat → FieldType := fun k => match k with
  | _ => .int
abbrev wsJ70 : List Cond := u_ws RJ7 TJ7 0
theorem nmJ7 : ∀ a, a < 0 → ∀ b, b < 0 → a ≠ b → (TJ7 a).2.1 ≠ (TJ7 b).2.1 := by decide +kernel
theorem tyJ7_ok : ∀ k, k < 0 → parseFieldDescriptor (TJ7 k).2.2.1 = some (tyJ7 k) := by decide +kernel
abbrev cJ7_rangeCheck_23922 : ByteArray := prog_22_method_30_code
def yJ7_rangeCheck_23922 : MethodName := ⟨RJ7, "rangeCheck", "(III)V"⟩
abbrev cJ7_fill_53178 : ByteArray := prog_22_method_103_code
def yJ7_fill_53178 : MethodName := ⟨RJ7, "fill", "([II)V"⟩
abbrev cJ7_fill_fda19 : ByteArray := prog_22_method_104_code
def yJ7_fill_fda19 : MethodName := ⟨RJ7, "fill", "([IIII)V"⟩
abbrev cJ7_copyOf_59c91 : ByteArray := prog_22_method_123_code
def yJ7_copyOf_59c91 : MethodName := ⟨RJ7, "copyOf", "([II)[I"⟩
def RL : String := "ProofLibraryLaw"
abbrev cL_law : ByteArray := code
def yL_law : MethodName := ⟨RL, "law", "([I)Z"⟩
abbrev vwCl : List vw_C := [(RX0, TX0, 20), (RX1, TX1, 18), (RX2, TX2, 21), (RX3, TX3, 21), (RX4, TX4, 19), (RX5, TX5, 6), (RX6, TX6, 17), (RX7, TX7, 13), (RX8, TX8, 17), (RX9, TX9, 16), (RX10, TX10, 21), (RX11, TX11, 15), (RX12, TX12, 16), (RX13, TX13, 170)]
