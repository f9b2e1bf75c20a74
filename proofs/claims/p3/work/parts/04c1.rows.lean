-- instructions
theorem dX7_hasCommentMark_0 : decode cX7_hasCommentMark 0 = .ok (.iload_n 1, 1) := by decide +kernel
theorem dX7_hasCommentMark_1 : decode cX7_hasCommentMark 1 = .ok (.istore_n 3, 1) := by decide +kernel
theorem dX7_hasCommentMark_2 : decode cX7_hasCommentMark 2 = .ok (.iload_n 3, 1) := by decide +kernel
theorem dX7_hasCommentMark_3 : decode cX7_hasCommentMark 3 = .ok (.iload_n 1, 1) := by decide +kernel
theorem dX7_hasCommentMark_4 : decode cX7_hasCommentMark 4 = .ok (.iload_n 2, 1) := by decide +kernel
theorem dX7_hasCommentMark_5 : decode cX7_hasCommentMark 5 = .ok (.iadd, 1) := by decide +kernel
theorem dX7_hasCommentMark_6 : decode cX7_hasCommentMark 6 = .ok (.iconst 1, 1) := by decide +kernel
theorem dX7_hasCommentMark_7 : decode cX7_hasCommentMark 7 = .ok (.isub, 1) := by decide +kernel
theorem dX7_hasCommentMark_8 : decode cX7_hasCommentMark 8 = .ok (.if_icmp .ge 48, 3) := by decide +kernel
theorem dX7_hasCommentMark_11 : decode cX7_hasCommentMark 11 = .ok (.aload_n 0, 1) := by decide +kernel
theorem dX7_hasCommentMark_12 : decode cX7_hasCommentMark 12 = .ok (.getfield 71, 3) := by decide +kernel
theorem dX7_hasCommentMark_15 : decode cX7_hasCommentMark 15 = .ok (.iload_n 3, 1) := by decide +kernel
theorem dX7_hasCommentMark_16 : decode cX7_hasCommentMark 16 = .ok (.caload, 1) := by decide +kernel
theorem dX7_hasCommentMark_17 : decode cX7_hasCommentMark 17 = .ok (.bipush 36, 2) := by decide +kernel
theorem dX7_hasCommentMark_19 : decode cX7_hasCommentMark 19 = .ok (.if_icmp .ne 31, 3) := by decide +kernel
theorem dX7_hasCommentMark_22 : decode cX7_hasCommentMark 22 = .ok (.aload_n 0, 1) := by decide +kernel
theorem dX7_hasCommentMark_23 : decode cX7_hasCommentMark 23 = .ok (.getfield 71, 3) := by decide +kernel
theorem dX7_hasCommentMark_26 : decode cX7_hasCommentMark 26 = .ok (.iload_n 3, 1) := by decide +kernel
theorem dX7_hasCommentMark_27 : decode cX7_hasCommentMark 27 = .ok (.iconst 1, 1) := by decide +kernel
theorem dX7_hasCommentMark_28 : decode cX7_hasCommentMark 28 = .ok (.iadd, 1) := by decide +kernel
theorem dX7_hasCommentMark_29 : decode cX7_hasCommentMark 29 = .ok (.caload, 1) := by decide +kernel
theorem dX7_hasCommentMark_30 : decode cX7_hasCommentMark 30 = .ok (.bipush 40, 2) := by decide +kernel
theorem dX7_hasCommentMark_32 : decode cX7_hasCommentMark 32 = .ok (.if_icmp .eq 16, 3) := by decide +kernel
theorem dX7_hasCommentMark_35 : decode cX7_hasCommentMark 35 = .ok (.aload_n 0, 1) := by decide +kernel
theorem dX7_hasCommentMark_36 : decode cX7_hasCommentMark 36 = .ok (.getfield 71, 3) := by decide +kernel
theorem dX7_hasCommentMark_39 : decode cX7_hasCommentMark 39 = .ok (.iload_n 3, 1) := by decide +kernel
theorem dX7_hasCommentMark_40 : decode cX7_hasCommentMark 40 = .ok (.iconst 1, 1) := by decide +kernel
theorem dX7_hasCommentMark_41 : decode cX7_hasCommentMark 41 = .ok (.iadd, 1) := by decide +kernel
theorem dX7_hasCommentMark_42 : decode cX7_hasCommentMark 42 = .ok (.caload, 1) := by decide +kernel
theorem dX7_hasCommentMark_43 : decode cX7_hasCommentMark 43 = .ok (.bipush 41, 2) := by decide +kernel
theorem dX7_hasCommentMark_45 : decode cX7_hasCommentMark 45 = .ok (.if_icmp .ne 5, 3) := by decide +kernel
theorem dX7_hasCommentMark_48 : decode cX7_hasCommentMark 48 = .ok (.iconst 1, 1) := by decide +kernel
theorem dX7_hasCommentMark_49 : decode cX7_hasCommentMark 49 = .ok (.ireturn, 1) := by decide +kernel
theorem dX7_hasCommentMark_50 : decode cX7_hasCommentMark 50 = .ok (.iinc 3 1, 3) := by decide +kernel
theorem dX7_hasCommentMark_53 : decode cX7_hasCommentMark 53 = .ok (.goto (-51), 3) := by decide +kernel
theorem dX7_hasCommentMark_56 : decode cX7_hasCommentMark 56 = .ok (.iconst 0, 1) := by decide +kernel
theorem dX7_hasCommentMark_57 : decode cX7_hasCommentMark 57 = .ok (.ireturn, 1) := by decide +kernel
theorem dX7_hasDollar_0 : decode cX7_hasDollar 0 = .ok (.iload_n 1, 1) := by decide +kernel
theorem dX7_hasDollar_1 : decode cX7_hasDollar 1 = .ok (.istore_n 3, 1) := by decide +kernel
theorem dX7_hasDollar_2 : decode cX7_hasDollar 2 = .ok (.iload_n 3, 1) := by decide +kernel
theorem dX7_hasDollar_3 : decode cX7_hasDollar 3 = .ok (.iload_n 1, 1) := by decide +kernel
theorem dX7_hasDollar_4 : decode cX7_hasDollar 4 = .ok (.iload_n 2, 1) := by decide +kernel
theorem dX7_hasDollar_5 : decode cX7_hasDollar 5 = .ok (.iadd, 1) := by decide +kernel
theorem dX7_hasDollar_6 : decode cX7_hasDollar 6 = .ok (.if_icmp .ge 22, 3) := by decide +kernel
theorem dX7_hasDollar_9 : decode cX7_hasDollar 9 = .ok (.aload_n 0, 1) := by decide +kernel
theorem dX7_hasDollar_10 : decode cX7_hasDollar 10 = .ok (.getfield 71, 3) := by decide +kernel
theorem dX7_hasDollar_13 : decode cX7_hasDollar 13 = .ok (.iload_n 3, 1) := by decide +kernel
theorem dX7_hasDollar_14 : decode cX7_hasDollar 14 = .ok (.caload, 1) := by decide +kernel
theorem dX7_hasDollar_15 : decode cX7_hasDollar 15 = .ok (.bipush 36, 2) := by decide +kernel
theorem dX7_hasDollar_17 : decode cX7_hasDollar 17 = .ok (.if_icmp .ne 5, 3) := by decide +kernel
theorem dX7_hasDollar_20 : decode cX7_hasDollar 20 = .ok (.iconst 1, 1) := by decide +kernel
theorem dX7_hasDollar_21 : decode cX7_hasDollar 21 = .ok (.ireturn, 1) := by decide +kernel
theorem dX7_hasDollar_22 : decode cX7_hasDollar 22 = .ok (.iinc 3 1, 3) := by decide +kernel
theorem dX7_hasDollar_25 : decode cX7_hasDollar 25 = .ok (.goto (-23), 3) := by decide +kernel
theorem dX7_hasDollar_28 : decode cX7_hasDollar 28 = .ok (.iconst 0, 1) := by decide +kernel
theorem dX7_hasDollar_29 : decode cX7_hasDollar 29 = .ok (.ireturn, 1) := by decide +kernel
theorem dX7_keyword_0 : decode cX7_keyword 0 = .ok (.iload_n 1, 1) := by decide +kernel
theorem dX7_keyword_1 : decode cX7_keyword 1 = .ok (.lookupswitch 141 #[(61, 126), (97, 108), (99, 91), (100, 91), (101, 108), (102, 108), (112, 108), (118, 91), (123, 131), (125, 136)], 91) := by decide +kernel
theorem dX7_keyword_92 : decode cX7_keyword 92 = .ok (.aload_n 0, 1) := by decide +kernel
theorem dX7_keyword_93 : decode cX7_keyword 93 = .ok (.getfield 50, 3) := by decide +kernel
theorem dX7_keyword_96 : decode cX7_keyword 96 = .ok (.ifCond .ne 11, 3) := by decide +kernel
theorem dX7_keyword_99 : decode cX7_keyword 99 = .ok (.aload_n 0, 1) := by decide +kernel
theorem dX7_keyword_100 : decode cX7_keyword 100 = .ok (.iload_n 1, 1) := by decide +kernel
theorem dX7_keyword_101 : decode cX7_keyword 101 = .ok (.invokevirtual 125, 3) := by decide +kernel
theorem dX7_keyword_104 : decode cX7_keyword 104 = .ok (.goto 4, 3) := by decide +kernel
theorem dX7_keyword_107 : decode cX7_keyword 107 = .ok (.iconst 4, 1) := by decide +kernel
theorem dX7_keyword_108 : decode cX7_keyword 108 = .ok (.ireturn, 1) := by decide +kernel
theorem dX7_keyword_109 : decode cX7_keyword 109 = .ok (.aload_n 0, 1) := by decide +kernel
theorem dX7_keyword_110 : decode cX7_keyword 110 = .ok (.getfield 50, 3) := by decide +kernel
theorem dX7_keyword_113 : decode cX7_keyword 113 = .ok (.iconst 1, 1) := by decide +kernel
theorem dX7_keyword_114 : decode cX7_keyword 114 = .ok (.if_icmp .ne 11, 3) := by decide +kernel
theorem dX7_keyword_117 : decode cX7_keyword 117 = .ok (.aload_n 0, 1) := by decide +kernel
theorem dX7_keyword_118 : decode cX7_keyword 118 = .ok (.iload_n 1, 1) := by decide +kernel
theorem dX7_keyword_119 : decode cX7_keyword 119 = .ok (.invokevirtual 128, 3) := by decide +kernel
theorem dX7_keyword_122 : decode cX7_keyword 122 = .ok (.goto 4, 3) := by decide +kernel
theorem dX7_keyword_125 : decode cX7_keyword 125 = .ok (.iconst 4, 1) := by decide +kernel
theorem dX7_keyword_126 : decode cX7_keyword 126 = .ok (.ireturn, 1) := by decide +kernel
theorem dX7_keyword_127 : decode cX7_keyword 127 = .ok (.aload_n 0, 1) := by decide +kernel
theorem dX7_keyword_128 : decode cX7_keyword 128 = .ok (.invokevirtual 131, 3) := by decide +kernel
theorem dX7_keyword_131 : decode cX7_keyword 131 = .ok (.ireturn, 1) := by decide +kernel
theorem dX7_keyword_132 : decode cX7_keyword 132 = .ok (.aload_n 0, 1) := by decide +kernel
theorem dX7_keyword_133 : decode cX7_keyword 133 = .ok (.invokevirtual 134, 3) := by decide +kernel
theorem dX7_keyword_136 : decode cX7_keyword 136 = .ok (.ireturn, 1) := by decide +kernel
theorem dX7_keyword_137 : decode cX7_keyword 137 = .ok (.aload_n 0, 1) := by decide +kernel
theorem dX7_keyword_138 : decode cX7_keyword 138 = .ok (.invokevirtual 137, 3) := by decide +kernel
theorem dX7_keyword_141 : decode cX7_keyword 141 = .ok (.ireturn, 1) := by decide +kernel
theorem dX7_keyword_142 : decode cX7_keyword 142 = .ok (.iconst 3, 1) := by decide +kernel
theorem dX7_keyword_143 : decode cX7_keyword 143 = .ok (.ireturn, 1) := by decide +kernel
theorem dX7_declaration_0 : decode cX7_declaration 0 = .ok (.iload_n 1, 1) := by decide +kernel
theorem dX7_declaration_1 : decode cX7_declaration 1 = .ok (.bipush 99, 2) := by decide +kernel
theorem dX7_declaration_3 : decode cX7_declaration 3 = .ok (.if_icmp .ne 16, 3) := by decide +kernel
theorem dX7_declaration_6 : decode cX7_declaration 6 = .ok (.aload_n 0, 1) := by decide +kernel
theorem dX7_declaration_7 : decode cX7_declaration 7 = .ok (.getfield 23, 3) := by decide +kernel
theorem dX7_declaration_10 : decode cX7_declaration 10 = .ok (.getfield 84, 3) := by decide +kernel
theorem dX7_declaration_13 : decode cX7_declaration 13 = .ok (.ifCond .le 6, 3) := by decide +kernel
theorem dX7_declaration_16 : decode cX7_declaration 16 = .ok (.bipush 8, 2) := by decide +kernel
theorem dX7_declaration_18 : decode cX7_declaration 18 = .ok (.ireturn, 1) := by decide +kernel
theorem dX7_declaration_19 : decode cX7_declaration 19 = .ok (.aload_n 0, 1) := by decide +kernel
theorem dX7_declaration_20 : decode cX7_declaration 20 = .ok (.iconst 0, 1) := by decide +kernel
theorem dX7_declaration_21 : decode cX7_declaration 21 = .ok (.putfield 140, 3) := by decide +kernel
theorem dX7_declaration_24 : decode cX7_declaration 24 = .ok (.aload_n 0, 1) := by decide +kernel
theorem dX7_declaration_25 : decode cX7_declaration 25 = .ok (.iload_n 1, 1) := by decide +kernel
theorem dX7_declaration_26 : decode cX7_declaration 26 = .ok (.bipush 99, 2) := by decide +kernel
theorem dX7_declaration_28 : decode cX7_declaration 28 = .ok (.if_icmp .ne 7, 3) := by decide +kernel
theorem dX7_declaration_31 : decode cX7_declaration 31 = .ok (.iconst 2, 1) := by decide +kernel
theorem dX7_declaration_32 : decode cX7_declaration 32 = .ok (.goto 14, 3) := by decide +kernel
theorem dX7_declaration_35 : decode cX7_declaration 35 = .ok (.iload_n 1, 1) := by decide +kernel
theorem dX7_declaration_36 : decode cX7_declaration 36 = .ok (.bipush 118, 2) := by decide +kernel
theorem dX7_declaration_38 : decode cX7_declaration 38 = .ok (.if_icmp .ne 7, 3) := by decide +kernel
theorem dX7_declaration_41 : decode cX7_declaration 41 = .ok (.iconst 3, 1) := by decide +kernel
theorem dX7_declaration_42 : decode cX7_declaration 42 = .ok (.goto 4, 3) := by decide +kernel
theorem dX7_declaration_45 : decode cX7_declaration 45 = .ok (.iconst 4, 1) := by decide +kernel
theorem dX7_declaration_46 : decode cX7_declaration 46 = .ok (.putfield 50, 3) := by decide +kernel
theorem dX7_declaration_49 : decode cX7_declaration 49 = .ok (.iconst 0, 1) := by decide +kernel
theorem dX7_declaration_50 : decode cX7_declaration 50 = .ok (.ireturn, 1) := by decide +kernel
theorem dX7_statement_0 : decode cX7_statement 0 = .ok (.aload_n 0, 1) := by decide +kernel
theorem dX7_statement_1 : decode cX7_statement 1 = .ok (.iconst 0, 1) := by decide +kernel
theorem dX7_statement_2 : decode cX7_statement 2 = .ok (.putfield 140, 3) := by decide +kernel
theorem dX7_statement_5 : decode cX7_statement 5 = .ok (.aload_n 0, 1) := by decide +kernel
theorem dX7_statement_6 : decode cX7_statement 6 = .ok (.iconst 5, 1) := by decide +kernel
theorem dX7_statement_7 : decode cX7_statement 7 = .ok (.putfield 50, 3) := by decide +kernel
theorem dX7_statement_10 : decode cX7_statement 10 = .ok (.aload_n 0, 1) := by decide +kernel
theorem dX7_statement_11 : decode cX7_statement 11 = .ok (.iload_n 1, 1) := by decide +kernel
theorem dX7_statement_12 : decode cX7_statement 12 = .ok (.bipush 102, 2) := by decide +kernel
theorem dX7_statement_14 : decode cX7_statement 14 = .ok (.if_icmp .ne 7, 3) := by decide +kernel
theorem dX7_statement_17 : decode cX7_statement 17 = .ok (.iconst 0, 1) := by decide +kernel
theorem dX7_statement_18 : decode cX7_statement 18 = .ok (.goto 24, 3) := by decide +kernel
theorem dX7_statement_21 : decode cX7_statement 21 = .ok (.iload_n 1, 1) := by decide +kernel
theorem dX7_statement_22 : decode cX7_statement 22 = .ok (.bipush 101, 2) := by decide +kernel
theorem dX7_statement_24 : decode cX7_statement 24 = .ok (.if_icmp .ne 7, 3) := by decide +kernel
theorem dX7_statement_27 : decode cX7_statement 27 = .ok (.iconst 1, 1) := by decide +kernel
theorem dX7_statement_28 : decode cX7_statement 28 = .ok (.goto 14, 3) := by decide +kernel
theorem dX7_statement_31 : decode cX7_statement 31 = .ok (.iload_n 1, 1) := by decide +kernel
theorem dX7_statement_32 : decode cX7_statement 32 = .ok (.bipush 97, 2) := by decide +kernel
theorem dX7_statement_34 : decode cX7_statement 34 = .ok (.if_icmp .ne 7, 3) := by decide +kernel
theorem dX7_statement_37 : decode cX7_statement 37 = .ok (.iconst 2, 1) := by decide +kernel
theorem dX7_statement_38 : decode cX7_statement 38 = .ok (.goto 4, 3) := by decide +kernel
theorem dX7_statement_41 : decode cX7_statement 41 = .ok (.iconst 3, 1) := by decide +kernel
theorem dX7_statement_42 : decode cX7_statement 42 = .ok (.putfield 143, 3) := by decide +kernel
theorem dX7_statement_45 : decode cX7_statement 45 = .ok (.iconst 0, 1) := by decide +kernel
theorem dX7_statement_46 : decode cX7_statement 46 = .ok (.ireturn, 1) := by decide +kernel
theorem dX7_openScope_0 : decode cX7_openScope 0 = .ok (.aload_n 0, 1) := by decide +kernel
theorem dX7_openScope_1 : decode cX7_openScope 1 = .ok (.getfield 50, 3) := by decide +kernel
theorem dX7_openScope_4 : decode cX7_openScope 4 = .ok (.ifCond .eq 5, 3) := by decide +kernel
theorem dX7_openScope_7 : decode cX7_openScope 7 = .ok (.iconst 4, 1) := by decide +kernel
theorem dX7_openScope_8 : decode cX7_openScope 8 = .ok (.ireturn, 1) := by decide +kernel
theorem dX7_openScope_9 : decode cX7_openScope 9 = .ok (.aload_n 0, 1) := by decide +kernel
theorem dX7_openScope_10 : decode cX7_openScope 10 = .ok (.getfield 23, 3) := by decide +kernel
theorem dX7_openScope_13 : decode cX7_openScope 13 = .ok (.getfield 84, 3) := by decide +kernel
theorem dX7_openScope_16 : decode cX7_openScope 16 = .ok (.bipush 50, 2) := by decide +kernel
theorem dX7_openScope_18 : decode cX7_openScope 18 = .ok (.if_icmp .ne 5, 3) := by decide +kernel
theorem dX7_openScope_21 : decode cX7_openScope 21 = .ok (.iconst 5, 1) := by decide +kernel
theorem dX7_openScope_22 : decode cX7_openScope 22 = .ok (.ireturn, 1) := by decide +kernel
theorem dX7_openScope_23 : decode cX7_openScope 23 = .ok (.aload_n 0, 1) := by decide +kernel
theorem dX7_openScope_24 : decode cX7_openScope 24 = .ok (.getfield 23, 3) := by decide +kernel
theorem dX7_openScope_27 : decode cX7_openScope 27 = .ok (.invokevirtual 146, 3) := by decide +kernel
theorem dX7_openScope_30 : decode cX7_openScope 30 = .ok (.iconst 0, 1) := by decide +kernel
theorem dX7_openScope_31 : decode cX7_openScope 31 = .ok (.ireturn, 1) := by decide +kernel
theorem dX7_closeScope_0 : decode cX7_closeScope 0 = .ok (.aload_n 0, 1) := by decide +kernel
theorem dX7_closeScope_1 : decode cX7_closeScope 1 = .ok (.getfield 50, 3) := by decide +kernel
theorem dX7_closeScope_4 : decode cX7_closeScope 4 = .ok (.ifCond .ne 13, 3) := by decide +kernel
theorem dX7_closeScope_7 : decode cX7_closeScope 7 = .ok (.aload_n 0, 1) := by decide +kernel
theorem dX7_closeScope_8 : decode cX7_closeScope 8 = .ok (.getfield 23, 3) := by decide +kernel
theorem dX7_closeScope_11 : decode cX7_closeScope 11 = .ok (.getfield 84, 3) := by decide +kernel
theorem dX7_closeScope_14 : decode cX7_closeScope 14 = .ok (.ifCond .ne 5, 3) := by decide +kernel
theorem dX7_closeScope_17 : decode cX7_closeScope 17 = .ok (.iconst 4, 1) := by decide +kernel
theorem dX7_closeScope_18 : decode cX7_closeScope 18 = .ok (.ireturn, 1) := by decide +kernel
theorem dX7_closeScope_19 : decode cX7_closeScope 19 = .ok (.aload_n 0, 1) := by decide +kernel
theorem dX7_closeScope_20 : decode cX7_closeScope 20 = .ok (.getfield 23, 3) := by decide +kernel
theorem dX7_closeScope_23 : decode cX7_closeScope 23 = .ok (.invokevirtual 149, 3) := by decide +kernel
theorem dX7_closeScope_26 : decode cX7_closeScope 26 = .ok (.iconst 0, 1) := by decide +kernel
theorem dX7_closeScope_27 : decode cX7_closeScope 27 = .ok (.ireturn, 1) := by decide +kernel
theorem dX7_proof_0 : decode cX7_proof 0 = .ok (.aload_n 0, 1) := by decide +kernel
theorem dX7_proof_1 : decode cX7_proof 1 = .ok (.getfield 50, 3) := by decide +kernel
theorem dX7_proof_4 : decode cX7_proof 4 = .ok (.iconst 5, 1) := by decide +kernel
theorem dX7_proof_5 : decode cX7_proof 5 = .ok (.if_icmp .ne 18, 3) := by decide +kernel
theorem dX7_proof_8 : decode cX7_proof 8 = .ok (.aload_n 0, 1) := by decide +kernel
theorem dX7_proof_9 : decode cX7_proof 9 = .ok (.getfield 143, 3) := by decide +kernel
theorem dX7_proof_12 : decode cX7_proof 12 = .ok (.iconst 3, 1) := by decide +kernel
theorem dX7_proof_13 : decode cX7_proof 13 = .ok (.if_icmp .ne 10, 3) := by decide +kernel
theorem dX7_proof_16 : decode cX7_proof 16 = .ok (.aload_n 0, 1) := by decide +kernel
theorem dX7_proof_17 : decode cX7_proof 17 = .ok (.getfield 140, 3) := by decide +kernel
theorem dX7_proof_20 : decode cX7_proof 20 = .ok (.ifCond .ne 5, 3) := by decide +kernel
theorem dX7_proof_23 : decode cX7_proof 23 = .ok (.iconst 4, 1) := by decide +kernel
theorem dX7_proof_24 : decode cX7_proof 24 = .ok (.ireturn, 1) := by decide +kernel
theorem dX7_proof_25 : decode cX7_proof 25 = .ok (.aload_n 0, 1) := by decide +kernel
theorem dX7_proof_26 : decode cX7_proof 26 = .ok (.getfield 19, 3) := by decide +kernel
theorem dX7_proof_29 : decode cX7_proof 29 = .ok (.aload_n 0, 1) := by decide +kernel
theorem dX7_proof_30 : decode cX7_proof 30 = .ok (.getfield 15, 3) := by decide +kernel
theorem dX7_proof_33 : decode cX7_proof 33 = .ok (.getfield 152, 3) := by decide +kernel
theorem dX7_proof_36 : decode cX7_proof 36 = .ok (.invokevirtual 155, 3) := by decide +kernel
theorem dX7_proof_39 : decode cX7_proof 39 = .ok (.ifCond .ne 5, 3) := by decide +kernel
theorem dX7_proof_42 : decode cX7_proof 42 = .ok (.iconst 5, 1) := by decide +kernel
theorem dX7_proof_43 : decode cX7_proof 43 = .ok (.ireturn, 1) := by decide +kernel
theorem dX7_proof_44 : decode cX7_proof 44 = .ok (.aload_n 0, 1) := by decide +kernel
theorem dX7_proof_45 : decode cX7_proof 45 = .ok (.bipush 6, 2) := by decide +kernel
theorem dX7_proof_47 : decode cX7_proof 47 = .ok (.putfield 50, 3) := by decide +kernel
theorem dX7_proof_50 : decode cX7_proof 50 = .ok (.aload_n 0, 1) := by decide +kernel
theorem dX7_proof_51 : decode cX7_proof 51 = .ok (.getfield 27, 3) := by decide +kernel
theorem dX7_proof_54 : decode cX7_proof 54 = .ok (.aload_n 0, 1) := by decide +kernel
theorem dX7_proof_55 : decode cX7_proof 55 = .ok (.getfield 15, 3) := by decide +kernel
theorem dX7_proof_58 : decode cX7_proof 58 = .ok (.getfield 152, 3) := by decide +kernel
theorem dX7_proof_61 : decode cX7_proof 61 = .ok (.invokevirtual 159, 3) := by decide +kernel
theorem dX7_proof_64 : decode cX7_proof 64 = .ok (.iconst 0, 1) := by decide +kernel
theorem dX7_proof_65 : decode cX7_proof 65 = .ok (.ireturn, 1) := by decide +kernel
theorem dX7_endRow_0 : decode cX7_endRow 0 = .ok (.aload_n 0, 1) := by decide +kernel
theorem dX7_endRow_1 : decode cX7_endRow 1 = .ok (.getfield 50, 3) := by decide +kernel
theorem dX7_endRow_4 : decode cX7_endRow 4 = .ok (.tableswitch 58 2 6 #[36, 36, 42, 48, 53], 36) := by decide +kernel
theorem dX7_endRow_40 : decode cX7_endRow 40 = .ok (.aload_n 0, 1) := by decide +kernel
theorem dX7_endRow_41 : decode cX7_endRow 41 = .ok (.iconst 1, 1) := by decide +kernel
theorem dX7_endRow_42 : decode cX7_endRow 42 = .ok (.invokevirtual 162, 3) := by decide +kernel
theorem dX7_endRow_45 : decode cX7_endRow 45 = .ok (.ireturn, 1) := by decide +kernel
theorem dX7_endRow_46 : decode cX7_endRow 46 = .ok (.aload_n 0, 1) := by decide +kernel
theorem dX7_endRow_47 : decode cX7_endRow 47 = .ok (.iconst 2, 1) := by decide +kernel
theorem dX7_endRow_48 : decode cX7_endRow 48 = .ok (.invokevirtual 162, 3) := by decide +kernel
theorem dX7_endRow_51 : decode cX7_endRow 51 = .ok (.ireturn, 1) := by decide +kernel
theorem dX7_endRow_52 : decode cX7_endRow 52 = .ok (.aload_n 0, 1) := by decide +kernel
theorem dX7_endRow_53 : decode cX7_endRow 53 = .ok (.invokevirtual 165, 3) := by decide +kernel
theorem dX7_endRow_56 : decode cX7_endRow 56 = .ok (.ireturn, 1) := by decide +kernel
theorem dX7_endRow_57 : decode cX7_endRow 57 = .ok (.aload_n 0, 1) := by decide +kernel
theorem dX7_endRow_58 : decode cX7_endRow 58 = .ok (.invokevirtual 168, 3) := by decide +kernel
theorem dX7_endRow_61 : decode cX7_endRow 61 = .ok (.ireturn, 1) := by decide +kernel
theorem dX7_endRow_62 : decode cX7_endRow 62 = .ok (.iconst 4, 1) := by decide +kernel
theorem dX7_endRow_63 : decode cX7_endRow 63 = .ok (.ireturn, 1) := by decide +kernel
theorem dX7_endDeclaration_0 : decode cX7_endDeclaration 0 = .ok (.aload_n 0, 1) := by decide +kernel
theorem dX7_endDeclaration_1 : decode cX7_endDeclaration 1 = .ok (.iconst 0, 1) := by decide +kernel
theorem dX7_endDeclaration_2 : decode cX7_endDeclaration 2 = .ok (.putfield 50, 3) := by decide +kernel
theorem dX7_endDeclaration_5 : decode cX7_endDeclaration 5 = .ok (.aload_n 0, 1) := by decide +kernel
theorem dX7_endDeclaration_6 : decode cX7_endDeclaration 6 = .ok (.getfield 140, 3) := by decide +kernel
theorem dX7_endDeclaration_9 : decode cX7_endDeclaration 9 = .ok (.iload_n 1, 1) := by decide +kernel
theorem dX7_endDeclaration_10 : decode cX7_endDeclaration 10 = .ok (.if_icmp .ge 7, 3) := by decide +kernel
theorem dX7_endDeclaration_13 : decode cX7_endDeclaration 13 = .ok (.iconst 4, 1) := by decide +kernel
theorem dX7_endDeclaration_14 : decode cX7_endDeclaration 14 = .ok (.goto 4, 3) := by decide +kernel
theorem dX7_endDeclaration_17 : decode cX7_endDeclaration 17 = .ok (.iconst 0, 1) := by decide +kernel
theorem dX7_endDeclaration_18 : decode cX7_endDeclaration 18 = .ok (.ireturn, 1) := by decide +kernel
theorem dX7_endStatement_0 : decode cX7_endStatement 0 = .ok (.aload_n 0, 1) := by decide +kernel
theorem dX7_endStatement_1 : decode cX7_endStatement 1 = .ok (.getfield 143, 3) := by decide +kernel
theorem dX7_endStatement_4 : decode cX7_endStatement 4 = .ok (.ifCond .ne 7, 3) := by decide +kernel
theorem dX7_endStatement_7 : decode cX7_endStatement 7 = .ok (.iconst 2, 1) := by decide +kernel
theorem dX7_endStatement_8 : decode cX7_endStatement 8 = .ok (.goto 4, 3) := by decide +kernel
theorem dX7_endStatement_11 : decode cX7_endStatement 11 = .ok (.iconst 1, 1) := by decide +kernel
theorem dX7_endStatement_12 : decode cX7_endStatement 12 = .ok (.istore_n 1, 1) := by decide +kernel
theorem dX7_endStatement_13 : decode cX7_endStatement 13 = .ok (.aload_n 0, 1) := by decide +kernel
theorem dX7_endStatement_14 : decode cX7_endStatement 14 = .ok (.getfield 140, 3) := by decide +kernel
theorem dX7_endStatement_17 : decode cX7_endStatement 17 = .ok (.iload_n 1, 1) := by decide +kernel
theorem dX7_endStatement_18 : decode cX7_endStatement 18 = .ok (.if_icmp .lt 11, 3) := by decide +kernel
theorem dX7_endStatement_21 : decode cX7_endStatement 21 = .ok (.aload_n 0, 1) := by decide +kernel
theorem dX7_endStatement_22 : decode cX7_endStatement 22 = .ok (.getfield 143, 3) := by decide +kernel
theorem dX7_endStatement_25 : decode cX7_endStatement 25 = .ok (.iconst 3, 1) := by decide +kernel
theorem dX7_endStatement_26 : decode cX7_endStatement 26 = .ok (.if_icmp .ne 5, 3) := by decide +kernel
theorem dX7_endStatement_29 : decode cX7_endStatement 29 = .ok (.iconst 4, 1) := by decide +kernel
theorem dX7_endStatement_30 : decode cX7_endStatement 30 = .ok (.ireturn, 1) := by decide +kernel
theorem dX7_endStatement_31 : decode cX7_endStatement 31 = .ok (.aload_n 0, 1) := by decide +kernel
theorem dX7_endStatement_32 : decode cX7_endStatement 32 = .ok (.getfield 15, 3) := by decide +kernel
theorem dX7_endStatement_35 : decode cX7_endStatement 35 = .ok (.getfield 152, 3) := by decide +kernel
theorem dX7_endStatement_38 : decode cX7_endStatement 38 = .ok (.istore_n 2, 1) := by decide +kernel
theorem dX7_endStatement_39 : decode cX7_endStatement 39 = .ok (.aload_n 0, 1) := by decide +kernel
theorem dX7_endStatement_40 : decode cX7_endStatement 40 = .ok (.getfield 143, 3) := by decide +kernel
theorem dX7_endStatement_43 : decode cX7_endStatement 43 = .ok (.iconst 2, 1) := by decide +kernel
theorem dX7_endStatement_44 : decode cX7_endStatement 44 = .ok (.if_icmp .ne 16, 3) := by decide +kernel
theorem dX7_endStatement_47 : decode cX7_endStatement 47 = .ok (.aload_n 0, 1) := by decide +kernel
theorem dX7_endStatement_48 : decode cX7_endStatement 48 = .ok (.getfield 19, 3) := by decide +kernel
theorem dX7_endStatement_51 : decode cX7_endStatement 51 = .ok (.iload_n 2, 1) := by decide +kernel
theorem dX7_endStatement_52 : decode cX7_endStatement 52 = .ok (.invokevirtual 155, 3) := by decide +kernel
theorem dX7_endStatement_55 : decode cX7_endStatement 55 = .ok (.ifCond .ne 5, 3) := by decide +kernel
theorem dX7_endStatement_58 : decode cX7_endStatement 58 = .ok (.iconst 5, 1) := by decide +kernel
theorem dX7_endStatement_59 : decode cX7_endStatement 59 = .ok (.ireturn, 1) := by decide +kernel
theorem dX7_endStatement_60 : decode cX7_endStatement 60 = .ok (.aload_n 0, 1) := by decide +kernel
theorem dX7_endStatement_61 : decode cX7_endStatement 61 = .ok (.getfield 15, 3) := by decide +kernel
theorem dX7_endStatement_64 : decode cX7_endStatement 64 = .ok (.aload_n 0, 1) := by decide +kernel
theorem dX7_endStatement_65 : decode cX7_endStatement 65 = .ok (.getfield 143, 3) := by decide +kernel
theorem dX7_endStatement_68 : decode cX7_endStatement 68 = .ok (.invokevirtual 171, 3) := by decide +kernel
theorem dX7_endStatement_71 : decode cX7_endStatement 71 = .ok (.aload_n 0, 1) := by decide +kernel
theorem dX7_endStatement_72 : decode cX7_endStatement 72 = .ok (.getfield 143, 3) := by decide +kernel
theorem dX7_endStatement_75 : decode cX7_endStatement 75 = .ok (.iconst 2, 1) := by decide +kernel
theorem dX7_endStatement_76 : decode cX7_endStatement 76 = .ok (.if_icmp .eq 11, 3) := by decide +kernel
theorem dX7_endStatement_79 : decode cX7_endStatement 79 = .ok (.aload_n 0, 1) := by decide +kernel
theorem dX7_endStatement_80 : decode cX7_endStatement 80 = .ok (.getfield 23, 3) := by decide +kernel
theorem dX7_endStatement_83 : decode cX7_endStatement 83 = .ok (.iload_n 2, 1) := by decide +kernel
theorem dX7_endStatement_84 : decode cX7_endStatement 84 = .ok (.invokevirtual 174, 3) := by decide +kernel
theorem dX7_endStatement_87 : decode cX7_endStatement 87 = .ok (.aload_n 0, 1) := by decide +kernel
theorem dX7_endStatement_88 : decode cX7_endStatement 88 = .ok (.iconst 0, 1) := by decide +kernel
theorem dX7_endStatement_89 : decode cX7_endStatement 89 = .ok (.putfield 50, 3) := by decide +kernel
theorem dX7_endStatement_92 : decode cX7_endStatement 92 = .ok (.iconst 0, 1) := by decide +kernel
theorem dX7_endStatement_93 : decode cX7_endStatement 93 = .ok (.ireturn, 1) := by decide +kernel
theorem dX7_endProof_0 : decode cX7_endProof 0 = .ok (.aload_n 0, 1) := by decide +kernel
theorem dX7_endProof_1 : decode cX7_endProof 1 = .ok (.getfield 27, 3) := by decide +kernel
theorem dX7_endProof_4 : decode cX7_endProof 4 = .ok (.invokevirtual 177, 3) := by decide +kernel
theorem dX7_endProof_7 : decode cX7_endProof 7 = .ok (.ifCond .eq 5, 3) := by decide +kernel
theorem dX7_endProof_10 : decode cX7_endProof 10 = .ok (.iconst 4, 1) := by decide +kernel
theorem dX7_endProof_11 : decode cX7_endProof 11 = .ok (.ireturn, 1) := by decide +kernel
theorem dX7_endProof_12 : decode cX7_endProof 12 = .ok (.aload_n 0, 1) := by decide +kernel
theorem dX7_endProof_13 : decode cX7_endProof 13 = .ok (.bipush 7, 2) := by decide +kernel
theorem dX7_endProof_15 : decode cX7_endProof 15 = .ok (.putfield 50, 3) := by decide +kernel
theorem dX7_endProof_18 : decode cX7_endProof 18 = .ok (.aload_n 0, 1) := by decide +kernel
theorem dX7_endProof_19 : decode cX7_endProof 19 = .ok (.getfield 27, 3) := by decide +kernel
theorem dX7_endProof_22 : decode cX7_endProof 22 = .ok (.invokevirtual 181, 3) := by decide +kernel
theorem dX7_endProof_25 : decode cX7_endProof 25 = .ok (.ifCond .eq 8, 3) := by decide +kernel
theorem dX7_endProof_28 : decode cX7_endProof 28 = .ok (.bipush 14, 2) := by decide +kernel
theorem dX7_endProof_30 : decode cX7_endProof 30 = .ok (.goto 4, 3) := by decide +kernel
theorem dX7_endProof_33 : decode cX7_endProof 33 = .ok (.iconst 0, 1) := by decide +kernel
theorem dX7_endProof_34 : decode cX7_endProof 34 = .ok (.ireturn, 1) := by decide +kernel
theorem dX7_endTheorem_0 : decode cX7_endTheorem 0 = .ok (.aload_n 0, 1) := by decide +kernel
theorem dX7_endTheorem_1 : decode cX7_endTheorem 1 = .ok (.getfield 27, 3) := by decide +kernel
theorem dX7_endTheorem_4 : decode cX7_endTheorem 4 = .ok (.getfield 184, 3) := by decide +kernel
theorem dX7_endTheorem_7 : decode cX7_endTheorem 7 = .ok (.ifCond .eq 7, 3) := by decide +kernel
theorem dX7_endTheorem_10 : decode cX7_endTheorem 10 = .ok (.iconst 0, 1) := by decide +kernel
theorem dX7_endTheorem_11 : decode cX7_endTheorem 11 = .ok (.goto 14, 3) := by decide +kernel
theorem dX7_endTheorem_14 : decode cX7_endTheorem 14 = .ok (.aload_n 0, 1) := by decide +kernel
theorem dX7_endTheorem_15 : decode cX7_endTheorem 15 = .ok (.getfield 27, 3) := by decide +kernel
theorem dX7_endTheorem_18 : decode cX7_endTheorem 18 = .ok (.aload_n 0, 1) := by decide +kernel
theorem dX7_endTheorem_19 : decode cX7_endTheorem 19 = .ok (.getfield 42, 3) := by decide +kernel
theorem dX7_endTheorem_22 : decode cX7_endTheorem 22 = .ok (.invokevirtual 186, 3) := by decide +kernel
theorem dX7_endTheorem_25 : decode cX7_endTheorem 25 = .ok (.istore_n 1, 1) := by decide +kernel
theorem dX7_endTheorem_26 : decode cX7_endTheorem 26 = .ok (.aload_n 0, 1) := by decide +kernel
theorem dX7_endTheorem_27 : decode cX7_endTheorem 27 = .ok (.aload_n 0, 1) := by decide +kernel
theorem dX7_endTheorem_28 : decode cX7_endTheorem 28 = .ok (.getfield 27, 3) := by decide +kernel
theorem dX7_endTheorem_31 : decode cX7_endTheorem 31 = .ok (.getfield 184, 3) := by decide +kernel
theorem dX7_endTheorem_34 : decode cX7_endTheorem 34 = .ok (.ifCond .eq 10, 3) := by decide +kernel
theorem dX7_endTheorem_37 : decode cX7_endTheorem 37 = .ok (.aload_n 0, 1) := by decide +kernel
theorem dX7_endTheorem_38 : decode cX7_endTheorem 38 = .ok (.getfield 42, 3) := by decide +kernel
theorem dX7_endTheorem_41 : decode cX7_endTheorem 41 = .ok (.goto 10, 3) := by decide +kernel
theorem dX7_endTheorem_44 : decode cX7_endTheorem 44 = .ok (.aload_n 0, 1) := by decide +kernel
theorem dX7_endTheorem_45 : decode cX7_endTheorem 45 = .ok (.getfield 27, 3) := by decide +kernel
theorem dX7_endTheorem_48 : decode cX7_endTheorem 48 = .ok (.getfield 124, 3) := by decide +kernel
theorem dX7_endTheorem_51 : decode cX7_endTheorem 51 = .ok (.putfield 42, 3) := by decide +kernel
theorem dX7_endTheorem_54 : decode cX7_endTheorem 54 = .ok (.iload_n 1, 1) := by decide +kernel
theorem dX7_endTheorem_55 : decode cX7_endTheorem 55 = .ok (.ifCond .eq 5, 3) := by decide +kernel
theorem dX7_endTheorem_58 : decode cX7_endTheorem 58 = .ok (.iload_n 1, 1) := by decide +kernel
theorem dX7_endTheorem_59 : decode cX7_endTheorem 59 = .ok (.ireturn, 1) := by decide +kernel
theorem dX7_endTheorem_60 : decode cX7_endTheorem 60 = .ok (.aload_n 0, 1) := by decide +kernel
theorem dX7_endTheorem_61 : decode cX7_endTheorem 61 = .ok (.getfield 27, 3) := by decide +kernel
theorem dX7_endTheorem_64 : decode cX7_endTheorem 64 = .ok (.invokevirtual 189, 3) := by decide +kernel
theorem dX7_endTheorem_67 : decode cX7_endTheorem 67 = .ok (.aload_n 0, 1) := by decide +kernel
theorem dX7_endTheorem_68 : decode cX7_endTheorem 68 = .ok (.getfield 15, 3) := by decide +kernel
theorem dX7_endTheorem_71 : decode cX7_endTheorem 71 = .ok (.aload_n 0, 1) := by decide +kernel
theorem dX7_endTheorem_72 : decode cX7_endTheorem 72 = .ok (.getfield 27, 3) := by decide +kernel
theorem dX7_endTheorem_75 : decode cX7_endTheorem 75 = .ok (.getfield 184, 3) := by decide +kernel
theorem dX7_endTheorem_78 : decode cX7_endTheorem 78 = .ok (.ifCond .eq 7, 3) := by decide +kernel
theorem dX7_endTheorem_81 : decode cX7_endTheorem 81 = .ok (.iconst 4, 1) := by decide +kernel
theorem dX7_endTheorem_82 : decode cX7_endTheorem 82 = .ok (.goto 4, 3) := by decide +kernel
theorem dX7_endTheorem_85 : decode cX7_endTheorem 85 = .ok (.iconst 3, 1) := by decide +kernel
theorem dX7_endTheorem_86 : decode cX7_endTheorem 86 = .ok (.invokevirtual 171, 3) := by decide +kernel
theorem dX7_endTheorem_89 : decode cX7_endTheorem 89 = .ok (.aload_n 0, 1) := by decide +kernel
theorem dX7_endTheorem_90 : decode cX7_endTheorem 90 = .ok (.iconst 0, 1) := by decide +kernel
theorem dX7_endTheorem_91 : decode cX7_endTheorem 91 = .ok (.putfield 50, 3) := by decide +kernel
theorem dX7_endTheorem_94 : decode cX7_endTheorem 94 = .ok (.iconst 0, 1) := by decide +kernel
theorem dX7_endTheorem_95 : decode cX7_endTheorem 95 = .ok (.ireturn, 1) := by decide +kernel
theorem dX7_word_0 : decode cX7_word 0 = .ok (.aload_n 0, 1) := by decide +kernel
theorem dX7_word_1 : decode cX7_word 1 = .ok (.getfield 50, 3) := by decide +kernel
theorem dX7_word_4 : decode cX7_word 4 = .ok (.tableswitch 79 0 5 #[40, 79, 47, 54, 61, 70], 40) := by decide +kernel
theorem dX7_word_44 : decode cX7_word 44 = .ok (.aload_n 0, 1) := by decide +kernel
theorem dX7_word_45 : decode cX7_word 45 = .ok (.iload_n 1, 1) := by decide +kernel
theorem dX7_word_46 : decode cX7_word 46 = .ok (.iload_n 2, 1) := by decide +kernel
theorem dX7_word_47 : decode cX7_word 47 = .ok (.invokevirtual 192, 3) := by decide +kernel
theorem dX7_word_50 : decode cX7_word 50 = .ok (.ireturn, 1) := by decide +kernel
theorem dX7_word_51 : decode cX7_word 51 = .ok (.aload_n 0, 1) := by decide +kernel
theorem dX7_word_52 : decode cX7_word 52 = .ok (.iload_n 1, 1) := by decide +kernel
theorem dX7_word_53 : decode cX7_word 53 = .ok (.iload_n 2, 1) := by decide +kernel
theorem dX7_word_54 : decode cX7_word 54 = .ok (.invokevirtual 195, 3) := by decide +kernel
theorem dX7_word_57 : decode cX7_word 57 = .ok (.ireturn, 1) := by decide +kernel
theorem dX7_word_58 : decode cX7_word 58 = .ok (.aload_n 0, 1) := by decide +kernel
theorem dX7_word_59 : decode cX7_word 59 = .ok (.iload_n 1, 1) := by decide +kernel
theorem dX7_word_60 : decode cX7_word 60 = .ok (.iload_n 2, 1) := by decide +kernel
theorem dX7_word_61 : decode cX7_word 61 = .ok (.invokevirtual 198, 3) := by decide +kernel
theorem dX7_word_64 : decode cX7_word 64 = .ok (.ireturn, 1) := by decide +kernel
theorem dX7_word_65 : decode cX7_word 65 = .ok (.aload_n 0, 1) := by decide +kernel
theorem dX7_word_66 : decode cX7_word 66 = .ok (.aload_n 0, 1) := by decide +kernel
theorem dX7_word_67 : decode cX7_word 67 = .ok (.getfield 107, 3) := by decide +kernel
theorem dX7_word_70 : decode cX7_word 70 = .ok (.invokevirtual 201, 3) := by decide +kernel
theorem dX7_word_73 : decode cX7_word 73 = .ok (.ireturn, 1) := by decide +kernel
theorem dX7_word_74 : decode cX7_word 74 = .ok (.aload_n 0, 1) := by decide +kernel
theorem dX7_word_75 : decode cX7_word 75 = .ok (.aload_n 0, 1) := by decide +kernel
theorem dX7_word_76 : decode cX7_word 76 = .ok (.getfield 107, 3) := by decide +kernel
theorem dX7_word_79 : decode cX7_word 79 = .ok (.invokevirtual 204, 3) := by decide +kernel
theorem dX7_word_82 : decode cX7_word 82 = .ok (.ireturn, 1) := by decide +kernel
theorem dX7_word_83 : decode cX7_word 83 = .ok (.iconst 4, 1) := by decide +kernel
theorem dX7_word_84 : decode cX7_word 84 = .ok (.ireturn, 1) := by decide +kernel
theorem dX7_label_0 : decode cX7_label 0 = .ok (.aload_n 0, 1) := by decide +kernel
theorem dX7_label_1 : decode cX7_label 1 = .ok (.getfield 15, 3) := by decide +kernel
theorem dX7_label_4 : decode cX7_label 4 = .ok (.getfield 152, 3) := by decide +kernel
theorem dX7_label_7 : decode cX7_label 7 = .ok (.sipush 1500, 3) := by decide +kernel
theorem dX7_label_10 : decode cX7_label 10 = .ok (.if_icmp .eq 14, 3) := by decide +kernel
theorem dX7_label_13 : decode cX7_label 13 = .ok (.aload_n 0, 1) := by decide +kernel
theorem dX7_label_14 : decode cX7_label 14 = .ok (.getfield 15, 3) := by decide +kernel
theorem dX7_label_17 : decode cX7_label 17 = .ok (.iload_n 2, 1) := by decide +kernel
theorem dX7_label_18 : decode cX7_label 18 = .ok (.invokevirtual 207, 3) := by decide +kernel
theorem dX7_label_21 : decode cX7_label 21 = .ok (.ifCond .ne 5, 3) := by decide +kernel
theorem dX7_label_24 : decode cX7_label 24 = .ok (.iconst 5, 1) := by decide +kernel
theorem dX7_label_25 : decode cX7_label 25 = .ok (.ireturn, 1) := by decide +kernel
theorem dX7_label_26 : decode cX7_label 26 = .ok (.aload_n 0, 1) := by decide +kernel
theorem dX7_label_27 : decode cX7_label 27 = .ok (.getfield 71, 3) := by decide +kernel
theorem dX7_label_30 : decode cX7_label 30 = .ok (.iload_n 1, 1) := by decide +kernel
theorem dX7_label_31 : decode cX7_label 31 = .ok (.iload_n 2, 1) := by decide +kernel
theorem dX7_label_32 : decode cX7_label 32 = .ok (.invokestatic 210, 3) := by decide +kernel
theorem dX7_label_35 : decode cX7_label 35 = .ok (.ifCond .ne 6, 3) := by decide +kernel
theorem dX7_label_38 : decode cX7_label 38 = .ok (.bipush 6, 2) := by decide +kernel
theorem dX7_label_40 : decode cX7_label 40 = .ok (.ireturn, 1) := by decide +kernel
theorem dX7_label_41 : decode cX7_label 41 = .ok (.aload_n 0, 1) := by decide +kernel
theorem dX7_label_42 : decode cX7_label 42 = .ok (.getfield 107, 3) := by decide +kernel
theorem dX7_label_45 : decode cX7_label 45 = .ok (.iconst (-1), 1) := by decide +kernel
theorem dX7_label_46 : decode cX7_label 46 = .ok (.if_icmp .ne 11, 3) := by decide +kernel
theorem dX7_label_49 : decode cX7_label 49 = .ok (.aload_n 0, 1) := by decide +kernel
theorem dX7_label_50 : decode cX7_label 50 = .ok (.getfield 113, 3) := by decide +kernel
theorem dX7_label_53 : decode cX7_label 53 = .ok (.iconst (-1), 1) := by decide +kernel
theorem dX7_label_54 : decode cX7_label 54 = .ok (.if_icmp .eq 6, 3) := by decide +kernel
theorem dX7_label_57 : decode cX7_label 57 = .ok (.bipush 7, 2) := by decide +kernel
theorem dX7_label_59 : decode cX7_label 59 = .ok (.ireturn, 1) := by decide +kernel
theorem dX7_label_60 : decode cX7_label 60 = .ok (.aload_n 0, 1) := by decide +kernel
theorem dX7_label_61 : decode cX7_label 61 = .ok (.getfield 15, 3) := by decide +kernel
theorem dX7_label_64 : decode cX7_label 64 = .ok (.aload_n 0, 1) := by decide +kernel
theorem dX7_label_65 : decode cX7_label 65 = .ok (.getfield 71, 3) := by decide +kernel
theorem dX7_label_68 : decode cX7_label 68 = .ok (.iload_n 1, 1) := by decide +kernel
theorem dX7_label_69 : decode cX7_label 69 = .ok (.iload_n 2, 1) := by decide +kernel
theorem dX7_label_70 : decode cX7_label 70 = .ok (.invokevirtual 214, 3) := by decide +kernel
theorem dX7_label_73 : decode cX7_label 73 = .ok (.aload_n 0, 1) := by decide +kernel
theorem dX7_label_74 : decode cX7_label 74 = .ok (.iconst 1, 1) := by decide +kernel
theorem dX7_label_75 : decode cX7_label 75 = .ok (.putfield 50, 3) := by decide +kernel
theorem dX7_label_78 : decode cX7_label 78 = .ok (.iconst 0, 1) := by decide +kernel
theorem dX7_label_79 : decode cX7_label 79 = .ok (.ireturn, 1) := by decide +kernel
theorem dX7_declareConstant_0 : decode cX7_declareConstant 0 = .ok (.aload_n 0, 1) := by decide +kernel
theorem dX7_declareConstant_1 : decode cX7_declareConstant 1 = .ok (.dup, 1) := by decide +kernel
theorem dX7_declareConstant_2 : decode cX7_declareConstant 2 = .ok (.getfield 140, 3) := by decide +kernel
theorem dX7_declareConstant_5 : decode cX7_declareConstant 5 = .ok (.iconst 1, 1) := by decide +kernel
theorem dX7_declareConstant_6 : decode cX7_declareConstant 6 = .ok (.iadd, 1) := by decide +kernel
theorem dX7_declareConstant_7 : decode cX7_declareConstant 7 = .ok (.putfield 140, 3) := by decide +kernel
theorem dX7_declareConstant_10 : decode cX7_declareConstant 10 = .ok (.aload_n 0, 1) := by decide +kernel
theorem dX7_declareConstant_11 : decode cX7_declareConstant 11 = .ok (.getfield 107, 3) := by decide +kernel
theorem dX7_declareConstant_14 : decode cX7_declareConstant 14 = .ok (.iconst (-1), 1) := by decide +kernel
theorem dX7_declareConstant_15 : decode cX7_declareConstant 15 = .ok (.if_icmp .eq 6, 3) := by decide +kernel
theorem dX7_declareConstant_18 : decode cX7_declareConstant 18 = .ok (.bipush 7, 2) := by decide +kernel
theorem dX7_declareConstant_20 : decode cX7_declareConstant 20 = .ok (.ireturn, 1) := by decide +kernel
theorem dX7_declareConstant_21 : decode cX7_declareConstant 21 = .ok (.aload_n 0, 1) := by decide +kernel
theorem dX7_declareConstant_22 : decode cX7_declareConstant 22 = .ok (.iload_n 2, 1) := by decide +kernel
theorem dX7_declareConstant_23 : decode cX7_declareConstant 23 = .ok (.invokevirtual 218, 3) := by decide +kernel
theorem dX7_declareConstant_26 : decode cX7_declareConstant 26 = .ok (.istore_n 3, 1) := by decide +kernel
theorem dX7_declareConstant_27 : decode cX7_declareConstant 27 = .ok (.iload_n 3, 1) := by decide +kernel
theorem dX7_declareConstant_28 : decode cX7_declareConstant 28 = .ok (.ifCond .ne 18, 3) := by decide +kernel
theorem dX7_declareConstant_31 : decode cX7_declareConstant 31 = .ok (.aload_n 0, 1) := by decide +kernel
theorem dX7_declareConstant_32 : decode cX7_declareConstant 32 = .ok (.getfield 15, 3) := by decide +kernel
theorem dX7_declareConstant_35 : decode cX7_declareConstant 35 = .ok (.aload_n 0, 1) := by decide +kernel
theorem dX7_declareConstant_36 : decode cX7_declareConstant 36 = .ok (.getfield 71, 3) := by decide +kernel
theorem dX7_declareConstant_39 : decode cX7_declareConstant 39 = .ok (.iload_n 1, 1) := by decide +kernel
theorem dX7_declareConstant_40 : decode cX7_declareConstant 40 = .ok (.iload_n 2, 1) := by decide +kernel
theorem dX7_declareConstant_41 : decode cX7_declareConstant 41 = .ok (.iconst 0, 1) := by decide +kernel
theorem dX7_declareConstant_42 : decode cX7_declareConstant 42 = .ok (.invokevirtual 221, 3) := by decide +kernel
theorem dX7_declareConstant_45 : decode cX7_declareConstant 45 = .ok (.pop, 1) := by decide +kernel
theorem dX7_declareConstant_46 : decode cX7_declareConstant 46 = .ok (.iload_n 3, 1) := by decide +kernel
theorem dX7_declareConstant_47 : decode cX7_declareConstant 47 = .ok (.ireturn, 1) := by decide +kernel
theorem dX7_faultOfNewSymbol_0 : decode cX7_faultOfNewSymbol 0 = .ok (.aload_n 0, 1) := by decide +kernel
theorem dX7_faultOfNewSymbol_1 : decode cX7_faultOfNewSymbol 1 = .ok (.getfield 15, 3) := by decide +kernel
theorem dX7_faultOfNewSymbol_4 : decode cX7_faultOfNewSymbol 4 = .ok (.getfield 225, 3) := by decide +kernel
theorem dX7_faultOfNewSymbol_7 : decode cX7_faultOfNewSymbol 7 = .ok (.sipush 1000, 3) := by decide +kernel
theorem dX7_faultOfNewSymbol_10 : decode cX7_faultOfNewSymbol 10 = .ok (.if_icmp .eq 14, 3) := by decide +kernel
theorem dX7_faultOfNewSymbol_13 : decode cX7_faultOfNewSymbol 13 = .ok (.aload_n 0, 1) := by decide +kernel
theorem dX7_faultOfNewSymbol_14 : decode cX7_faultOfNewSymbol 14 = .ok (.getfield 15, 3) := by decide +kernel
theorem dX7_faultOfNewSymbol_17 : decode cX7_faultOfNewSymbol 17 = .ok (.iload_n 1, 1) := by decide +kernel
theorem dX7_faultOfNewSymbol_18 : decode cX7_faultOfNewSymbol 18 = .ok (.invokevirtual 207, 3) := by decide +kernel
theorem dX7_faultOfNewSymbol_21 : decode cX7_faultOfNewSymbol 21 = .ok (.ifCond .ne 5, 3) := by decide +kernel
theorem dX7_faultOfNewSymbol_24 : decode cX7_faultOfNewSymbol 24 = .ok (.iconst 5, 1) := by decide +kernel
theorem dX7_faultOfNewSymbol_25 : decode cX7_faultOfNewSymbol 25 = .ok (.ireturn, 1) := by decide +kernel
theorem dX7_faultOfNewSymbol_26 : decode cX7_faultOfNewSymbol 26 = .ok (.aload_n 0, 1) := by decide +kernel
theorem dX7_faultOfNewSymbol_27 : decode cX7_faultOfNewSymbol 27 = .ok (.getfield 113, 3) := by decide +kernel
theorem dX7_faultOfNewSymbol_30 : decode cX7_faultOfNewSymbol 30 = .ok (.iconst (-1), 1) := by decide +kernel
theorem dX7_faultOfNewSymbol_31 : decode cX7_faultOfNewSymbol 31 = .ok (.if_icmp .ne 7, 3) := by decide +kernel
theorem dX7_faultOfNewSymbol_34 : decode cX7_faultOfNewSymbol 34 = .ok (.iconst 0, 1) := by decide +kernel
theorem dX7_faultOfNewSymbol_35 : decode cX7_faultOfNewSymbol 35 = .ok (.goto 5, 3) := by decide +kernel
theorem dX7_faultOfNewSymbol_38 : decode cX7_faultOfNewSymbol 38 = .ok (.bipush 7, 2) := by decide +kernel
theorem dX7_faultOfNewSymbol_40 : decode cX7_faultOfNewSymbol 40 = .ok (.ireturn, 1) := by decide +kernel
theorem dX7_declareVariable_0 : decode cX7_declareVariable 0 = .ok (.aload_n 0, 1) := by decide +kernel
theorem dX7_declareVariable_1 : decode cX7_declareVariable 1 = .ok (.dup, 1) := by decide +kernel
theorem dX7_declareVariable_2 : decode cX7_declareVariable 2 = .ok (.getfield 140, 3) := by decide +kernel
theorem dX7_declareVariable_5 : decode cX7_declareVariable 5 = .ok (.iconst 1, 1) := by decide +kernel
theorem dX7_declareVariable_6 : decode cX7_declareVariable 6 = .ok (.iadd, 1) := by decide +kernel
theorem dX7_declareVariable_7 : decode cX7_declareVariable 7 = .ok (.putfield 140, 3) := by decide +kernel
theorem dX7_declareVariable_10 : decode cX7_declareVariable 10 = .ok (.aload_n 0, 1) := by decide +kernel
theorem dX7_declareVariable_11 : decode cX7_declareVariable 11 = .ok (.getfield 107, 3) := by decide +kernel
theorem dX7_declareVariable_14 : decode cX7_declareVariable 14 = .ok (.istore_n 3, 1) := by decide +kernel
theorem dX7_declareVariable_15 : decode cX7_declareVariable 15 = .ok (.iload_n 3, 1) := by decide +kernel
theorem dX7_declareVariable_16 : decode cX7_declareVariable 16 = .ok (.iconst (-1), 1) := by decide +kernel
theorem dX7_declareVariable_17 : decode cX7_declareVariable 17 = .ok (.if_icmp .ne 36, 3) := by decide +kernel
theorem dX7_declareVariable_20 : decode cX7_declareVariable 20 = .ok (.aload_n 0, 1) := by decide +kernel
theorem dX7_declareVariable_21 : decode cX7_declareVariable 21 = .ok (.iload_n 2, 1) := by decide +kernel
theorem dX7_declareVariable_22 : decode cX7_declareVariable 22 = .ok (.invokevirtual 218, 3) := by decide +kernel
theorem dX7_declareVariable_25 : decode cX7_declareVariable 25 = .ok (.istore 4, 2) := by decide +kernel
theorem dX7_declareVariable_27 : decode cX7_declareVariable 27 = .ok (.iload 4, 2) := by decide +kernel
theorem dX7_declareVariable_29 : decode cX7_declareVariable 29 = .ok (.ifCond .eq 6, 3) := by decide +kernel
theorem dX7_declareVariable_32 : decode cX7_declareVariable 32 = .ok (.iload 4, 2) := by decide +kernel
theorem dX7_declareVariable_34 : decode cX7_declareVariable 34 = .ok (.ireturn, 1) := by decide +kernel
theorem dX7_declareVariable_35 : decode cX7_declareVariable 35 = .ok (.aload_n 0, 1) := by decide +kernel
theorem dX7_declareVariable_36 : decode cX7_declareVariable 36 = .ok (.getfield 15, 3) := by decide +kernel
theorem dX7_declareVariable_39 : decode cX7_declareVariable 39 = .ok (.aload_n 0, 1) := by decide +kernel
theorem dX7_declareVariable_40 : decode cX7_declareVariable 40 = .ok (.getfield 71, 3) := by decide +kernel
theorem dX7_declareVariable_43 : decode cX7_declareVariable 43 = .ok (.iload_n 1, 1) := by decide +kernel
theorem dX7_declareVariable_44 : decode cX7_declareVariable 44 = .ok (.iload_n 2, 1) := by decide +kernel
theorem dX7_declareVariable_45 : decode cX7_declareVariable 45 = .ok (.iconst 1, 1) := by decide +kernel
theorem dX7_declareVariable_46 : decode cX7_declareVariable 46 = .ok (.invokevirtual 221, 3) := by decide +kernel
theorem dX7_declareVariable_49 : decode cX7_declareVariable 49 = .ok (.istore_n 3, 1) := by decide +kernel
theorem dX7_declareVariable_50 : decode cX7_declareVariable 50 = .ok (.goto 17, 3) := by decide +kernel
theorem dX7_declareVariable_53 : decode cX7_declareVariable 53 = .ok (.aload_n 0, 1) := by decide +kernel
theorem dX7_declareVariable_54 : decode cX7_declareVariable 54 = .ok (.getfield 23, 3) := by decide +kernel
theorem dX7_declareVariable_57 : decode cX7_declareVariable 57 = .ok (.iload_n 3, 1) := by decide +kernel
theorem dX7_declareVariable_58 : decode cX7_declareVariable 58 = .ok (.invokevirtual 228, 3) := by decide +kernel
theorem dX7_declareVariable_61 : decode cX7_declareVariable 61 = .ok (.ifCond .eq 6, 3) := by decide +kernel
theorem dX7_declareVariable_64 : decode cX7_declareVariable 64 = .ok (.bipush 7, 2) := by decide +kernel
theorem dX7_declareVariable_66 : decode cX7_declareVariable 66 = .ok (.ireturn, 1) := by decide +kernel
theorem dX7_declareVariable_67 : decode cX7_declareVariable 67 = .ok (.aload_n 0, 1) := by decide +kernel
theorem dX7_declareVariable_68 : decode cX7_declareVariable 68 = .ok (.getfield 23, 3) := by decide +kernel
theorem dX7_declareVariable_71 : decode cX7_declareVariable 71 = .ok (.iload_n 3, 1) := by decide +kernel
theorem dX7_declareVariable_72 : decode cX7_declareVariable 72 = .ok (.invokevirtual 231, 3) := by decide +kernel
theorem dX7_declareVariable_75 : decode cX7_declareVariable 75 = .ok (.iconst 0, 1) := by decide +kernel
theorem dX7_declareVariable_76 : decode cX7_declareVariable 76 = .ok (.ireturn, 1) := by decide +kernel
theorem dX7_takeApart_0 : decode cX7_takeApart 0 = .ok (.aload_n 0, 1) := by decide +kernel
theorem dX7_takeApart_1 : decode cX7_takeApart 1 = .ok (.getfield 23, 3) := by decide +kernel
theorem dX7_takeApart_4 : decode cX7_takeApart 4 = .ok (.iload_n 1, 1) := by decide +kernel
theorem dX7_takeApart_5 : decode cX7_takeApart 5 = .ok (.invokevirtual 228, 3) := by decide +kernel
theorem dX7_takeApart_8 : decode cX7_takeApart 8 = .ok (.ifCond .ne 6, 3) := by decide +kernel
theorem dX7_takeApart_11 : decode cX7_takeApart 11 = .ok (.bipush 9, 2) := by decide +kernel
theorem dX7_takeApart_13 : decode cX7_takeApart 13 = .ok (.ireturn, 1) := by decide +kernel
theorem dX7_takeApart_14 : decode cX7_takeApart 14 = .ok (.aload_n 0, 1) := by decide +kernel
theorem dX7_takeApart_15 : decode cX7_takeApart 15 = .ok (.getfield 15, 3) := by decide +kernel
theorem dX7_takeApart_18 : decode cX7_takeApart 18 = .ok (.getfield 234, 3) := by decide +kernel
theorem dX7_takeApart_21 : decode cX7_takeApart 21 = .ok (.iload_n 1, 1) := by decide +kernel
theorem dX7_takeApart_22 : decode cX7_takeApart 22 = .ok (.baload, 1) := by decide +kernel
theorem dX7_takeApart_23 : decode cX7_takeApart 23 = .ok (.ifCond .ne 6, 3) := by decide +kernel
theorem dX7_takeApart_26 : decode cX7_takeApart 26 = .ok (.bipush 10, 2) := by decide +kernel
theorem dX7_takeApart_28 : decode cX7_takeApart 28 = .ok (.ireturn, 1) := by decide +kernel
theorem dX7_takeApart_29 : decode cX7_takeApart 29 = .ok (.iconst 0, 1) := by decide +kernel
theorem dX7_takeApart_30 : decode cX7_takeApart 30 = .ok (.istore_n 2, 1) := by decide +kernel
theorem dX7_takeApart_31 : decode cX7_takeApart 31 = .ok (.iload_n 2, 1) := by decide +kernel
theorem dX7_takeApart_32 : decode cX7_takeApart 32 = .ok (.aload_n 0, 1) := by decide +kernel
theorem dX7_takeApart_33 : decode cX7_takeApart 33 = .ok (.getfield 140, 3) := by decide +kernel
theorem dX7_takeApart_36 : decode cX7_takeApart 36 = .ok (.if_icmp .ge 22, 3) := by decide +kernel
theorem dX7_takeApart_39 : decode cX7_takeApart 39 = .ok (.aload_n 0, 1) := by decide +kernel
theorem dX7_takeApart_40 : decode cX7_takeApart 40 = .ok (.getfield 9, 3) := by decide +kernel
theorem dX7_takeApart_43 : decode cX7_takeApart 43 = .ok (.iload_n 2, 1) := by decide +kernel
theorem dX7_takeApart_44 : decode cX7_takeApart 44 = .ok (.iaload, 1) := by decide +kernel
theorem dX7_takeApart_45 : decode cX7_takeApart 45 = .ok (.iload_n 1, 1) := by decide +kernel
theorem dX7_takeApart_46 : decode cX7_takeApart 46 = .ok (.if_icmp .ne 6, 3) := by decide +kernel
theorem dX7_takeApart_49 : decode cX7_takeApart 49 = .ok (.bipush 7, 2) := by decide +kernel
theorem dX7_takeApart_51 : decode cX7_takeApart 51 = .ok (.ireturn, 1) := by decide +kernel
theorem dX7_takeApart_52 : decode cX7_takeApart 52 = .ok (.iinc 2 1, 3) := by decide +kernel
theorem dX7_takeApart_55 : decode cX7_takeApart 55 = .ok (.goto (-24), 3) := by decide +kernel
theorem dX7_takeApart_58 : decode cX7_takeApart 58 = .ok (.iconst 0, 1) := by decide +kernel
theorem dX7_takeApart_59 : decode cX7_takeApart 59 = .ok (.istore_n 2, 1) := by decide +kernel
theorem dX7_takeApart_60 : decode cX7_takeApart 60 = .ok (.iload_n 2, 1) := by decide +kernel
theorem dX7_takeApart_61 : decode cX7_takeApart 61 = .ok (.aload_n 0, 1) := by decide +kernel
theorem dX7_takeApart_62 : decode cX7_takeApart 62 = .ok (.getfield 140, 3) := by decide +kernel
theorem dX7_takeApart_65 : decode cX7_takeApart 65 = .ok (.if_icmp .ge 58, 3) := by decide +kernel
theorem dX7_takeApart_68 : decode cX7_takeApart 68 = .ok (.aload_n 0, 1) := by decide +kernel
theorem dX7_takeApart_69 : decode cX7_takeApart 69 = .ok (.getfield 23, 3) := by decide +kernel
theorem dX7_takeApart_72 : decode cX7_takeApart 72 = .ok (.aload_n 0, 1) := by decide +kernel
theorem dX7_takeApart_73 : decode cX7_takeApart 73 = .ok (.getfield 9, 3) := by decide +kernel
theorem dX7_takeApart_76 : decode cX7_takeApart 76 = .ok (.iload_n 2, 1) := by decide +kernel
theorem dX7_takeApart_77 : decode cX7_takeApart 77 = .ok (.iaload, 1) := by decide +kernel
theorem dX7_takeApart_78 : decode cX7_takeApart 78 = .ok (.iload_n 1, 1) := by decide +kernel
theorem dX7_takeApart_79 : decode cX7_takeApart 79 = .ok (.invokevirtual 238, 3) := by decide +kernel
theorem dX7_takeApart_82 : decode cX7_takeApart 82 = .ok (.ifCond .eq 6, 3) := by decide +kernel
theorem dX7_takeApart_85 : decode cX7_takeApart 85 = .ok (.goto 32, 3) := by decide +kernel
theorem dX7_takeApart_88 : decode cX7_takeApart 88 = .ok (.aload_n 0, 1) := by decide +kernel
theorem dX7_takeApart_89 : decode cX7_takeApart 89 = .ok (.getfield 23, 3) := by decide +kernel
theorem dX7_takeApart_92 : decode cX7_takeApart 92 = .ok (.getfield 241, 3) := by decide +kernel
theorem dX7_takeApart_95 : decode cX7_takeApart 95 = .ok (.sipush 1000, 3) := by decide +kernel
theorem dX7_takeApart_98 : decode cX7_takeApart 98 = .ok (.if_icmp .ne 5, 3) := by decide +kernel
theorem dX7_takeApart_101 : decode cX7_takeApart 101 = .ok (.iconst 5, 1) := by decide +kernel
theorem dX7_takeApart_102 : decode cX7_takeApart 102 = .ok (.ireturn, 1) := by decide +kernel
theorem dX7_takeApart_103 : decode cX7_takeApart 103 = .ok (.aload_n 0, 1) := by decide +kernel
theorem dX7_takeApart_104 : decode cX7_takeApart 104 = .ok (.getfield 23, 3) := by decide +kernel
theorem dX7_takeApart_107 : decode cX7_takeApart 107 = .ok (.aload_n 0, 1) := by decide +kernel
theorem dX7_takeApart_108 : decode cX7_takeApart 108 = .ok (.getfield 9, 3) := by decide +kernel
theorem dX7_takeApart_111 : decode cX7_takeApart 111 = .ok (.iload_n 2, 1) := by decide +kernel
theorem dX7_takeApart_112 : decode cX7_takeApart 112 = .ok (.iaload, 1) := by decide +kernel
theorem dX7_takeApart_113 : decode cX7_takeApart 113 = .ok (.iload_n 1, 1) := by decide +kernel
theorem dX7_takeApart_114 : decode cX7_takeApart 114 = .ok (.invokevirtual 244, 3) := by decide +kernel
theorem dX7_takeApart_117 : decode cX7_takeApart 117 = .ok (.iinc 2 1, 3) := by decide +kernel
theorem dX7_takeApart_120 : decode cX7_takeApart 120 = .ok (.goto (-60), 3) := by decide +kernel
theorem dX7_takeApart_123 : decode cX7_takeApart 123 = .ok (.aload_n 0, 1) := by decide +kernel
theorem dX7_takeApart_124 : decode cX7_takeApart 124 = .ok (.getfield 9, 3) := by decide +kernel
theorem dX7_takeApart_127 : decode cX7_takeApart 127 = .ok (.aload_n 0, 1) := by decide +kernel
theorem dX7_takeApart_128 : decode cX7_takeApart 128 = .ok (.getfield 140, 3) := by decide +kernel
theorem dX7_takeApart_131 : decode cX7_takeApart 131 = .ok (.iload_n 1, 1) := by decide +kernel
theorem dX7_takeApart_132 : decode cX7_takeApart 132 = .ok (.iastore, 1) := by decide +kernel
theorem dX7_takeApart_133 : decode cX7_takeApart 133 = .ok (.aload_n 0, 1) := by decide +kernel
theorem dX7_takeApart_134 : decode cX7_takeApart 134 = .ok (.dup, 1) := by decide +kernel
theorem dX7_takeApart_135 : decode cX7_takeApart 135 = .ok (.getfield 140, 3) := by decide +kernel
theorem dX7_takeApart_138 : decode cX7_takeApart 138 = .ok (.iconst 1, 1) := by decide +kernel
theorem dX7_takeApart_139 : decode cX7_takeApart 139 = .ok (.iadd, 1) := by decide +kernel
theorem dX7_takeApart_140 : decode cX7_takeApart 140 = .ok (.putfield 140, 3) := by decide +kernel
theorem dX7_takeApart_143 : decode cX7_takeApart 143 = .ok (.iconst 0, 1) := by decide +kernel
theorem dX7_takeApart_144 : decode cX7_takeApart 144 = .ok (.ireturn, 1) := by decide +kernel
theorem dX7_takeSymbol_0 : decode cX7_takeSymbol 0 = .ok (.aload_n 0, 1) := by decide +kernel
theorem dX7_takeSymbol_1 : decode cX7_takeSymbol 1 = .ok (.getfield 143, 3) := by decide +kernel
theorem dX7_takeSymbol_4 : decode cX7_takeSymbol 4 = .ok (.ifCond .ne 13, 3) := by decide +kernel
theorem dX7_takeSymbol_7 : decode cX7_takeSymbol 7 = .ok (.aload_n 0, 1) := by decide +kernel
theorem dX7_takeSymbol_8 : decode cX7_takeSymbol 8 = .ok (.getfield 140, 3) := by decide +kernel
theorem dX7_takeSymbol_11 : decode cX7_takeSymbol 11 = .ok (.iconst 2, 1) := by decide +kernel
theorem dX7_takeSymbol_12 : decode cX7_takeSymbol 12 = .ok (.if_icmp .ne 5, 3) := by decide +kernel
theorem dX7_takeSymbol_15 : decode cX7_takeSymbol 15 = .ok (.iconst 4, 1) := by decide +kernel
theorem dX7_takeSymbol_16 : decode cX7_takeSymbol 16 = .ok (.ireturn, 1) := by decide +kernel
theorem dX7_takeSymbol_17 : decode cX7_takeSymbol 17 = .ok (.aload_n 0, 1) := by decide +kernel
theorem dX7_takeSymbol_18 : decode cX7_takeSymbol 18 = .ok (.getfield 140, 3) := by decide +kernel
theorem dX7_takeSymbol_21 : decode cX7_takeSymbol 21 = .ok (.sipush 300, 3) := by decide +kernel
theorem dX7_takeSymbol_24 : decode cX7_takeSymbol 24 = .ok (.if_icmp .eq 16, 3) := by decide +kernel
theorem dX7_takeSymbol_27 : decode cX7_takeSymbol 27 = .ok (.aload_n 0, 1) := by decide +kernel
theorem dX7_takeSymbol_28 : decode cX7_takeSymbol 28 = .ok (.getfield 15, 3) := by decide +kernel
theorem dX7_takeSymbol_31 : decode cX7_takeSymbol 31 = .ok (.getfield 248, 3) := by decide +kernel
theorem dX7_takeSymbol_34 : decode cX7_takeSymbol 34 = .ok (.sipush 30000, 3) := by decide +kernel
theorem dX7_takeSymbol_37 : decode cX7_takeSymbol 37 = .ok (.if_icmp .ne 5, 3) := by decide +kernel
theorem dX7_takeSymbol_40 : decode cX7_takeSymbol 40 = .ok (.iconst 5, 1) := by decide +kernel
theorem dX7_takeSymbol_41 : decode cX7_takeSymbol 41 = .ok (.ireturn, 1) := by decide +kernel
theorem dX7_takeSymbol_42 : decode cX7_takeSymbol 42 = .ok (.aload_n 0, 1) := by decide +kernel
theorem dX7_takeSymbol_43 : decode cX7_takeSymbol 43 = .ok (.dup, 1) := by decide +kernel
theorem dX7_takeSymbol_44 : decode cX7_takeSymbol 44 = .ok (.getfield 140, 3) := by decide +kernel
theorem dX7_takeSymbol_47 : decode cX7_takeSymbol 47 = .ok (.iconst 1, 1) := by decide +kernel
theorem dX7_takeSymbol_48 : decode cX7_takeSymbol 48 = .ok (.iadd, 1) := by decide +kernel
theorem dX7_takeSymbol_49 : decode cX7_takeSymbol 49 = .ok (.putfield 140, 3) := by decide +kernel
theorem dX7_takeSymbol_52 : decode cX7_takeSymbol 52 = .ok (.aload_n 0, 1) := by decide +kernel
theorem dX7_takeSymbol_53 : decode cX7_takeSymbol 53 = .ok (.getfield 140, 3) := by decide +kernel
theorem dX7_takeSymbol_56 : decode cX7_takeSymbol 56 = .ok (.iconst 1, 1) := by decide +kernel
theorem dX7_takeSymbol_57 : decode cX7_takeSymbol 57 = .ok (.if_icmp .ne 9, 3) := by decide +kernel
theorem dX7_takeSymbol_60 : decode cX7_takeSymbol 60 = .ok (.aload_n 0, 1) := by decide +kernel
theorem dX7_takeSymbol_61 : decode cX7_takeSymbol 61 = .ok (.iload_n 1, 1) := by decide +kernel
theorem dX7_takeSymbol_62 : decode cX7_takeSymbol 62 = .ok (.invokevirtual 251, 3) := by decide +kernel
theorem dX7_takeSymbol_65 : decode cX7_takeSymbol 65 = .ok (.ireturn, 1) := by decide +kernel
theorem dX7_takeSymbol_66 : decode cX7_takeSymbol 66 = .ok (.aload_n 0, 1) := by decide +kernel
theorem dX7_takeSymbol_67 : decode cX7_takeSymbol 67 = .ok (.getfield 143, 3) := by decide +kernel
theorem dX7_takeSymbol_70 : decode cX7_takeSymbol 70 = .ok (.ifCond .ne 9, 3) := by decide +kernel
theorem dX7_takeSymbol_73 : decode cX7_takeSymbol 73 = .ok (.aload_n 0, 1) := by decide +kernel
theorem dX7_takeSymbol_74 : decode cX7_takeSymbol 74 = .ok (.iload_n 1, 1) := by decide +kernel
theorem dX7_takeSymbol_75 : decode cX7_takeSymbol 75 = .ok (.invokevirtual 254, 3) := by decide +kernel
theorem dX7_takeSymbol_78 : decode cX7_takeSymbol 78 = .ok (.ireturn, 1) := by decide +kernel
theorem dX7_takeSymbol_79 : decode cX7_takeSymbol 79 = .ok (.aload_n 0, 1) := by decide +kernel
theorem dX7_takeSymbol_80 : decode cX7_takeSymbol 80 = .ok (.getfield 23, 3) := by decide +kernel
theorem dX7_takeSymbol_83 : decode cX7_takeSymbol 83 = .ok (.iload_n 1, 1) := by decide +kernel
theorem dX7_takeSymbol_84 : decode cX7_takeSymbol 84 = .ok (.invokevirtual 228, 3) := by decide +kernel
theorem dX7_takeSymbol_87 : decode cX7_takeSymbol 87 = .ok (.ifCond .ne 6, 3) := by decide +kernel
theorem dX7_takeSymbol_90 : decode cX7_takeSymbol 90 = .ok (.bipush 9, 2) := by decide +kernel
theorem dX7_takeSymbol_92 : decode cX7_takeSymbol 92 = .ok (.ireturn, 1) := by decide +kernel
theorem dX7_takeSymbol_93 : decode cX7_takeSymbol 93 = .ok (.aload_n 0, 1) := by decide +kernel
theorem dX7_takeSymbol_94 : decode cX7_takeSymbol 94 = .ok (.getfield 15, 3) := by decide +kernel
theorem dX7_takeSymbol_97 : decode cX7_takeSymbol 97 = .ok (.getfield 234, 3) := by decide +kernel
theorem dX7_takeSymbol_100 : decode cX7_takeSymbol 100 = .ok (.iload_n 1, 1) := by decide +kernel
theorem dX7_takeSymbol_101 : decode cX7_takeSymbol 101 = .ok (.baload, 1) := by decide +kernel
theorem dX7_takeSymbol_102 : decode cX7_takeSymbol 102 = .ok (.ifCond .eq 19, 3) := by decide +kernel
theorem dX7_takeSymbol_105 : decode cX7_takeSymbol 105 = .ok (.aload_n 0, 1) := by decide +kernel
theorem dX7_takeSymbol_106 : decode cX7_takeSymbol 106 = .ok (.getfield 23, 3) := by decide +kernel
theorem dX7_takeSymbol_109 : decode cX7_takeSymbol 109 = .ok (.getfield 257, 3) := by decide +kernel
theorem dX7_takeSymbol_112 : decode cX7_takeSymbol 112 = .ok (.iload_n 1, 1) := by decide +kernel
theorem dX7_takeSymbol_113 : decode cX7_takeSymbol 113 = .ok (.iaload, 1) := by decide +kernel
theorem dX7_takeSymbol_114 : decode cX7_takeSymbol 114 = .ok (.iconst (-1), 1) := by decide +kernel
theorem dX7_takeSymbol_115 : decode cX7_takeSymbol 115 = .ok (.if_icmp .ne 6, 3) := by decide +kernel
theorem dX7_takeSymbol_118 : decode cX7_takeSymbol 118 = .ok (.bipush 11, 2) := by decide +kernel
theorem dX7_takeSymbol_120 : decode cX7_takeSymbol 120 = .ok (.ireturn, 1) := by decide +kernel
theorem dX7_takeSymbol_121 : decode cX7_takeSymbol 121 = .ok (.aload_n 0, 1) := by decide +kernel
theorem dX7_takeSymbol_122 : decode cX7_takeSymbol 122 = .ok (.getfield 15, 3) := by decide +kernel
theorem dX7_takeSymbol_125 : decode cX7_takeSymbol 125 = .ok (.iload_n 1, 1) := by decide +kernel
theorem dX7_takeSymbol_126 : decode cX7_takeSymbol 126 = .ok (.aload_n 0, 1) := by decide +kernel
theorem dX7_takeSymbol_127 : decode cX7_takeSymbol 127 = .ok (.getfield 15, 3) := by decide +kernel
theorem dX7_takeSymbol_130 : decode cX7_takeSymbol 130 = .ok (.getfield 234, 3) := by decide +kernel
theorem dX7_takeSymbol_133 : decode cX7_takeSymbol 133 = .ok (.iload_n 1, 1) := by decide +kernel
theorem dX7_takeSymbol_134 : decode cX7_takeSymbol 134 = .ok (.baload, 1) := by decide +kernel
theorem dX7_takeSymbol_135 : decode cX7_takeSymbol 135 = .ok (.ifCond .eq 15, 3) := by decide +kernel
theorem dX7_takeSymbol_138 : decode cX7_takeSymbol 138 = .ok (.aload_n 0, 1) := by decide +kernel
theorem dX7_takeSymbol_139 : decode cX7_takeSymbol 139 = .ok (.getfield 23, 3) := by decide +kernel
theorem dX7_takeSymbol_142 : decode cX7_takeSymbol 142 = .ok (.getfield 257, 3) := by decide +kernel
theorem dX7_takeSymbol_145 : decode cX7_takeSymbol 145 = .ok (.iload_n 1, 1) := by decide +kernel
theorem dX7_takeSymbol_146 : decode cX7_takeSymbol 146 = .ok (.iaload, 1) := by decide +kernel
theorem dX7_takeSymbol_147 : decode cX7_takeSymbol 147 = .ok (.goto 4, 3) := by decide +kernel
theorem dX7_takeSymbol_150 : decode cX7_takeSymbol 150 = .ok (.iconst (-1), 1) := by decide +kernel
theorem dX7_takeSymbol_151 : decode cX7_takeSymbol 151 = .ok (.invokevirtual 260, 3) := by decide +kernel
theorem dX7_takeSymbol_154 : decode cX7_takeSymbol 154 = .ok (.iconst 0, 1) := by decide +kernel
theorem dX7_takeSymbol_155 : decode cX7_takeSymbol 155 = .ok (.ireturn, 1) := by decide +kernel
theorem dX7_firstSymbol_0 : decode cX7_firstSymbol 0 = .ok (.iload_n 1, 1) := by decide +kernel
theorem dX7_firstSymbol_1 : decode cX7_firstSymbol 1 = .ok (.iconst (-1), 1) := by decide +kernel
theorem dX7_firstSymbol_2 : decode cX7_firstSymbol 2 = .ok (.if_icmp .eq 19, 3) := by decide +kernel
theorem dX7_firstSymbol_5 : decode cX7_firstSymbol 5 = .ok (.aload_n 0, 1) := by decide +kernel
theorem dX7_firstSymbol_6 : decode cX7_firstSymbol 6 = .ok (.getfield 15, 3) := by decide +kernel
theorem dX7_firstSymbol_9 : decode cX7_firstSymbol 9 = .ok (.getfield 234, 3) := by decide +kernel
theorem dX7_firstSymbol_12 : decode cX7_firstSymbol 12 = .ok (.iload_n 1, 1) := by decide +kernel
theorem dX7_firstSymbol_13 : decode cX7_firstSymbol 13 = .ok (.baload, 1) := by decide +kernel
theorem dX7_firstSymbol_14 : decode cX7_firstSymbol 14 = .ok (.ifCond .ne 7, 3) := by decide +kernel
theorem dX7_firstSymbol_17 : decode cX7_firstSymbol 17 = .ok (.iconst 1, 1) := by decide +kernel
theorem dX7_firstSymbol_18 : decode cX7_firstSymbol 18 = .ok (.goto 4, 3) := by decide +kernel
theorem dX7_firstSymbol_21 : decode cX7_firstSymbol 21 = .ok (.iconst 0, 1) := by decide +kernel
theorem dX7_firstSymbol_22 : decode cX7_firstSymbol 22 = .ok (.istore_n 2, 1) := by decide +kernel
theorem dX7_firstSymbol_23 : decode cX7_firstSymbol 23 = .ok (.iload_n 2, 1) := by decide +kernel
theorem dX7_firstSymbol_24 : decode cX7_firstSymbol 24 = .ok (.ifCond .eq 30, 3) := by decide +kernel
theorem dX7_firstSymbol_27 : decode cX7_firstSymbol 27 = .ok (.aload_n 0, 1) := by decide +kernel
theorem dX7_firstSymbol_28 : decode cX7_firstSymbol 28 = .ok (.getfield 15, 3) := by decide +kernel
theorem dX7_firstSymbol_31 : decode cX7_firstSymbol 31 = .ok (.getfield 263, 3) := by decide +kernel
theorem dX7_firstSymbol_34 : decode cX7_firstSymbol 34 = .ok (.iload_n 1, 1) := by decide +kernel
theorem dX7_firstSymbol_35 : decode cX7_firstSymbol 35 = .ok (.iaload, 1) := by decide +kernel
theorem dX7_firstSymbol_36 : decode cX7_firstSymbol 36 = .ok (.iconst (-1), 1) := by decide +kernel
theorem dX7_firstSymbol_37 : decode cX7_firstSymbol 37 = .ok (.if_icmp .ne 17, 3) := by decide +kernel
theorem dX7_firstSymbol_40 : decode cX7_firstSymbol 40 = .ok (.aload_n 0, 1) := by decide +kernel
theorem dX7_firstSymbol_41 : decode cX7_firstSymbol 41 = .ok (.getfield 15, 3) := by decide +kernel
theorem dX7_firstSymbol_44 : decode cX7_firstSymbol 44 = .ok (.getfield 266, 3) := by decide +kernel
theorem dX7_firstSymbol_47 : decode cX7_firstSymbol 47 = .ok (.bipush 100, 2) := by decide +kernel
theorem dX7_firstSymbol_49 : decode cX7_firstSymbol 49 = .ok (.if_icmp .ne 5, 3) := by decide +kernel
theorem dX7_firstSymbol_52 : decode cX7_firstSymbol 52 = .ok (.iconst 5, 1) := by decide +kernel
theorem dX7_firstSymbol_53 : decode cX7_firstSymbol 53 = .ok (.ireturn, 1) := by decide +kernel
theorem dX7_firstSymbol_54 : decode cX7_firstSymbol 54 = .ok (.iload_n 2, 1) := by decide +kernel
theorem dX7_firstSymbol_55 : decode cX7_firstSymbol 55 = .ok (.ifCond .ne 22, 3) := by decide +kernel
theorem dX7_firstSymbol_58 : decode cX7_firstSymbol 58 = .ok (.aload_n 0, 1) := by decide +kernel
theorem dX7_firstSymbol_59 : decode cX7_firstSymbol 59 = .ok (.getfield 23, 3) := by decide +kernel
theorem dX7_firstSymbol_62 : decode cX7_firstSymbol 62 = .ok (.iload_n 1, 1) := by decide +kernel
theorem dX7_firstSymbol_63 : decode cX7_firstSymbol 63 = .ok (.invokevirtual 228, 3) := by decide +kernel
theorem dX7_firstSymbol_66 : decode cX7_firstSymbol 66 = .ok (.ifCond .eq 8, 3) := by decide +kernel
theorem dX7_firstSymbol_69 : decode cX7_firstSymbol 69 = .ok (.bipush 10, 2) := by decide +kernel
theorem dX7_firstSymbol_71 : decode cX7_firstSymbol 71 = .ok (.goto 5, 3) := by decide +kernel
theorem dX7_firstSymbol_74 : decode cX7_firstSymbol 74 = .ok (.bipush 9, 2) := by decide +kernel
theorem dX7_firstSymbol_76 : decode cX7_firstSymbol 76 = .ok (.ireturn, 1) := by decide +kernel
theorem dX7_firstSymbol_77 : decode cX7_firstSymbol 77 = .ok (.aload_n 0, 1) := by decide +kernel
theorem dX7_firstSymbol_78 : decode cX7_firstSymbol 78 = .ok (.getfield 15, 3) := by decide +kernel
theorem dX7_firstSymbol_81 : decode cX7_firstSymbol 81 = .ok (.iload_n 1, 1) := by decide +kernel
theorem dX7_firstSymbol_82 : decode cX7_firstSymbol 82 = .ok (.invokevirtual 269, 3) := by decide +kernel
theorem dX7_firstSymbol_85 : decode cX7_firstSymbol 85 = .ok (.aload_n 0, 1) := by decide +kernel
theorem dX7_firstSymbol_86 : decode cX7_firstSymbol 86 = .ok (.getfield 15, 3) := by decide +kernel
theorem dX7_firstSymbol_89 : decode cX7_firstSymbol 89 = .ok (.iload_n 1, 1) := by decide +kernel
theorem dX7_firstSymbol_90 : decode cX7_firstSymbol 90 = .ok (.iconst (-1), 1) := by decide +kernel
theorem dX7_firstSymbol_91 : decode cX7_firstSymbol 91 = .ok (.invokevirtual 260, 3) := by decide +kernel
theorem dX7_firstSymbol_94 : decode cX7_firstSymbol 94 = .ok (.iconst 0, 1) := by decide +kernel
theorem dX7_firstSymbol_95 : decode cX7_firstSymbol 95 = .ok (.ireturn, 1) := by decide +kernel
theorem dX7_floatingVariable_0 : decode cX7_floatingVariable 0 = .ok (.iload_n 1, 1) := by decide +kernel
theorem dX7_floatingVariable_1 : decode cX7_floatingVariable 1 = .ok (.iconst (-1), 1) := by decide +kernel
theorem dX7_floatingVariable_2 : decode cX7_floatingVariable 2 = .ok (.if_icmp .eq 19, 3) := by decide +kernel
theorem dX7_floatingVariable_5 : decode cX7_floatingVariable 5 = .ok (.aload_n 0, 1) := by decide +kernel
theorem dX7_floatingVariable_6 : decode cX7_floatingVariable 6 = .ok (.getfield 23, 3) := by decide +kernel
theorem dX7_floatingVariable_9 : decode cX7_floatingVariable 9 = .ok (.getfield 257, 3) := by decide +kernel
theorem dX7_floatingVariable_12 : decode cX7_floatingVariable 12 = .ok (.iload_n 1, 1) := by decide +kernel
theorem dX7_floatingVariable_13 : decode cX7_floatingVariable 13 = .ok (.iaload, 1) := by decide +kernel
theorem dX7_floatingVariable_14 : decode cX7_floatingVariable 14 = .ok (.iconst (-1), 1) := by decide +kernel
theorem dX7_floatingVariable_15 : decode cX7_floatingVariable 15 = .ok (.if_icmp .eq 6, 3) := by decide +kernel
theorem dX7_floatingVariable_18 : decode cX7_floatingVariable 18 = .ok (.bipush 7, 2) := by decide +kernel
theorem dX7_floatingVariable_20 : decode cX7_floatingVariable 20 = .ok (.ireturn, 1) := by decide +kernel
theorem dX7_floatingVariable_21 : decode cX7_floatingVariable 21 = .ok (.aload_n 0, 1) := by decide +kernel
theorem dX7_floatingVariable_22 : decode cX7_floatingVariable 22 = .ok (.getfield 23, 3) := by decide +kernel
theorem dX7_floatingVariable_25 : decode cX7_floatingVariable 25 = .ok (.iload_n 1, 1) := by decide +kernel
theorem dX7_floatingVariable_26 : decode cX7_floatingVariable 26 = .ok (.invokevirtual 228, 3) := by decide +kernel
theorem dX7_floatingVariable_29 : decode cX7_floatingVariable 29 = .ok (.ifCond .ne 6, 3) := by decide +kernel
theorem dX7_floatingVariable_32 : decode cX7_floatingVariable 32 = .ok (.bipush 9, 2) := by decide +kernel
theorem dX7_floatingVariable_34 : decode cX7_floatingVariable 34 = .ok (.ireturn, 1) := by decide +kernel
theorem dX7_floatingVariable_35 : decode cX7_floatingVariable 35 = .ok (.aload_n 0, 1) := by decide +kernel
theorem dX7_floatingVariable_36 : decode cX7_floatingVariable 36 = .ok (.getfield 15, 3) := by decide +kernel
theorem dX7_floatingVariable_39 : decode cX7_floatingVariable 39 = .ok (.getfield 234, 3) := by decide +kernel
theorem dX7_floatingVariable_42 : decode cX7_floatingVariable 42 = .ok (.iload_n 1, 1) := by decide +kernel
theorem dX7_floatingVariable_43 : decode cX7_floatingVariable 43 = .ok (.baload, 1) := by decide +kernel
theorem dX7_floatingVariable_44 : decode cX7_floatingVariable 44 = .ok (.ifCond .ne 6, 3) := by decide +kernel
theorem dX7_floatingVariable_47 : decode cX7_floatingVariable 47 = .ok (.bipush 10, 2) := by decide +kernel
theorem dX7_floatingVariable_49 : decode cX7_floatingVariable 49 = .ok (.ireturn, 1) := by decide +kernel
theorem dX7_floatingVariable_50 : decode cX7_floatingVariable 50 = .ok (.aload_n 0, 1) := by decide +kernel
theorem dX7_floatingVariable_51 : decode cX7_floatingVariable 51 = .ok (.getfield 15, 3) := by decide +kernel
theorem dX7_floatingVariable_54 : decode cX7_floatingVariable 54 = .ok (.getfield 152, 3) := by decide +kernel
theorem dX7_floatingVariable_57 : decode cX7_floatingVariable 57 = .ok (.istore_n 2, 1) := by decide +kernel
theorem dX7_floatingVariable_58 : decode cX7_floatingVariable 58 = .ok (.aload_n 0, 1) := by decide +kernel
theorem dX7_floatingVariable_59 : decode cX7_floatingVariable 59 = .ok (.getfield 15, 3) := by decide +kernel
theorem dX7_floatingVariable_62 : decode cX7_floatingVariable 62 = .ok (.getfield 272, 3) := by decide +kernel
theorem dX7_floatingVariable_65 : decode cX7_floatingVariable 65 = .ok (.iload_n 1, 1) := by decide +kernel
theorem dX7_floatingVariable_66 : decode cX7_floatingVariable 66 = .ok (.iaload, 1) := by decide +kernel
theorem dX7_floatingVariable_67 : decode cX7_floatingVariable 67 = .ok (.istore_n 3, 1) := by decide +kernel
theorem dX7_floatingVariable_68 : decode cX7_floatingVariable 68 = .ok (.iload_n 3, 1) := by decide +kernel
theorem dX7_floatingVariable_69 : decode cX7_floatingVariable 69 = .ok (.iconst (-1), 1) := by decide +kernel
theorem dX7_floatingVariable_70 : decode cX7_floatingVariable 70 = .ok (.if_icmp .eq 25, 3) := by decide +kernel
theorem dX7_floatingVariable_73 : decode cX7_floatingVariable 73 = .ok (.aload_n 0, 1) := by decide +kernel
theorem dX7_floatingVariable_74 : decode cX7_floatingVariable 74 = .ok (.getfield 15, 3) := by decide +kernel
theorem dX7_floatingVariable_77 : decode cX7_floatingVariable 77 = .ok (.iload_n 3, 1) := by decide +kernel
theorem dX7_floatingVariable_78 : decode cX7_floatingVariable 78 = .ok (.invokevirtual 275, 3) := by decide +kernel
theorem dX7_floatingVariable_81 : decode cX7_floatingVariable 81 = .ok (.aload_n 0, 1) := by decide +kernel
theorem dX7_floatingVariable_82 : decode cX7_floatingVariable 82 = .ok (.getfield 15, 3) := by decide +kernel
theorem dX7_floatingVariable_85 : decode cX7_floatingVariable 85 = .ok (.iload_n 2, 1) := by decide +kernel
theorem dX7_floatingVariable_86 : decode cX7_floatingVariable 86 = .ok (.invokevirtual 275, 3) := by decide +kernel
theorem dX7_floatingVariable_89 : decode cX7_floatingVariable 89 = .ok (.if_icmp .eq 6, 3) := by decide +kernel
theorem dX7_floatingVariable_92 : decode cX7_floatingVariable 92 = .ok (.bipush 12, 2) := by decide +kernel
theorem dX7_floatingVariable_94 : decode cX7_floatingVariable 94 = .ok (.ireturn, 1) := by decide +kernel
theorem dX7_floatingVariable_95 : decode cX7_floatingVariable 95 = .ok (.aload_n 0, 1) := by decide +kernel
theorem dX7_floatingVariable_96 : decode cX7_floatingVariable 96 = .ok (.getfield 15, 3) := by decide +kernel
theorem dX7_floatingVariable_99 : decode cX7_floatingVariable 99 = .ok (.iload_n 1, 1) := by decide +kernel
theorem dX7_floatingVariable_100 : decode cX7_floatingVariable 100 = .ok (.iload_n 2, 1) := by decide +kernel
theorem dX7_floatingVariable_101 : decode cX7_floatingVariable 101 = .ok (.invokevirtual 260, 3) := by decide +kernel
theorem dX7_floatingVariable_104 : decode cX7_floatingVariable 104 = .ok (.iconst 0, 1) := by decide +kernel
theorem dX7_floatingVariable_105 : decode cX7_floatingVariable 105 = .ok (.ireturn, 1) := by decide +kernel
theorem dX5_init_0 : decode cX5_init 0 = .ok (.aload_n 0, 1) := by decide +kernel
theorem dX5_init_1 : decode cX5_init 1 = .ok (.invokespecial 3, 3) := by decide +kernel
theorem dX5_init_4 : decode cX5_init 4 = .ok (.aload_n 0, 1) := by decide +kernel
theorem dX5_init_5 : decode cX5_init 5 = .ok (.sipush 24000, 3) := by decide +kernel
theorem dX5_init_8 : decode cX5_init 8 = .ok (.newarray .char, 2) := by decide +kernel
theorem dX5_init_10 : decode cX5_init 10 = .ok (.putfield 9, 3) := by decide +kernel
theorem dX5_init_13 : decode cX5_init 13 = .ok (.aload_n 0, 1) := by decide +kernel
theorem dX5_init_14 : decode cX5_init 14 = .ok (.sipush 24000, 3) := by decide +kernel
theorem dX5_init_17 : decode cX5_init 17 = .ok (.newarray .char, 2) := by decide +kernel
theorem dX5_init_19 : decode cX5_init 19 = .ok (.putfield 15, 3) := by decide +kernel
theorem dX5_init_22 : decode cX5_init 22 = .ok (.aload_n 0, 1) := by decide +kernel
theorem dX5_init_23 : decode cX5_init 23 = .ok (.aload_n 1, 1) := by decide +kernel
theorem dX5_init_24 : decode cX5_init 24 = .ok (.putfield 18, 3) := by decide +kernel
theorem dX5_init_27 : decode cX5_init 27 = .ok (.return_, 1) := by decide +kernel
theorem dX5_begin_0 : decode cX5_begin 0 = .ok (.aload_n 0, 1) := by decide +kernel
theorem dX5_begin_1 : decode cX5_begin 1 = .ok (.iconst 0, 1) := by decide +kernel
theorem dX5_begin_2 : decode cX5_begin 2 = .ok (.putfield 22, 3) := by decide +kernel
theorem dX5_begin_5 : decode cX5_begin 5 = .ok (.aload_n 0, 1) := by decide +kernel
theorem dX5_begin_6 : decode cX5_begin 6 = .ok (.iconst 0, 1) := by decide +kernel
theorem dX5_begin_7 : decode cX5_begin 7 = .ok (.putfield 26, 3) := by decide +kernel
theorem dX5_begin_10 : decode cX5_begin 10 = .ok (.return_, 1) := by decide +kernel
theorem dX5_put_0 : decode cX5_put 0 = .ok (.aload_n 0, 1) := by decide +kernel
theorem dX5_put_1 : decode cX5_put 1 = .ok (.getfield 22, 3) := by decide +kernel
theorem dX5_put_4 : decode cX5_put 4 = .ok (.sipush 24000, 3) := by decide +kernel
theorem dX5_put_7 : decode cX5_put 7 = .ok (.if_icmp .ne 9, 3) := by decide +kernel
theorem dX5_put_10 : decode cX5_put 10 = .ok (.aload_n 0, 1) := by decide +kernel
theorem dX5_put_11 : decode cX5_put 11 = .ok (.iconst 1, 1) := by decide +kernel
theorem dX5_put_12 : decode cX5_put 12 = .ok (.putfield 26, 3) := by decide +kernel
theorem dX5_put_15 : decode cX5_put 15 = .ok (.return_, 1) := by decide +kernel
theorem dX5_put_16 : decode cX5_put 16 = .ok (.aload_n 0, 1) := by decide +kernel
theorem dX5_put_17 : decode cX5_put 17 = .ok (.getfield 9, 3) := by decide +kernel
theorem dX5_put_20 : decode cX5_put 20 = .ok (.aload_n 0, 1) := by decide +kernel
theorem dX5_put_21 : decode cX5_put 21 = .ok (.getfield 22, 3) := by decide +kernel
theorem dX5_put_24 : decode cX5_put 24 = .ok (.iload_n 1, 1) := by decide +kernel
theorem dX5_put_25 : decode cX5_put 25 = .ok (.i2c, 1) := by decide +kernel
theorem dX5_put_26 : decode cX5_put 26 = .ok (.castore, 1) := by decide +kernel
theorem dX5_put_27 : decode cX5_put 27 = .ok (.aload_n 0, 1) := by decide +kernel
theorem dX5_put_28 : decode cX5_put 28 = .ok (.dup, 1) := by decide +kernel
theorem dX5_put_29 : decode cX5_put 29 = .ok (.getfield 22, 3) := by decide +kernel
theorem dX5_put_32 : decode cX5_put 32 = .ok (.iconst 1, 1) := by decide +kernel
theorem dX5_put_33 : decode cX5_put 33 = .ok (.iadd, 1) := by decide +kernel
theorem dX5_put_34 : decode cX5_put 34 = .ok (.putfield 22, 3) := by decide +kernel
theorem dX5_put_37 : decode cX5_put 37 = .ok (.return_, 1) := by decide +kernel
theorem dX5_putBlank_0 : decode cX5_putBlank 0 = .ok (.aload_n 0, 1) := by decide +kernel
theorem dX5_putBlank_1 : decode cX5_putBlank 1 = .ok (.getfield 22, 3) := by decide +kernel
theorem dX5_putBlank_4 : decode cX5_putBlank 4 = .ok (.ifCond .le 9, 3) := by decide +kernel
theorem dX5_putBlank_7 : decode cX5_putBlank 7 = .ok (.aload_n 0, 1) := by decide +kernel
theorem dX5_putBlank_8 : decode cX5_putBlank 8 = .ok (.bipush 32, 2) := by decide +kernel
theorem dX5_putBlank_10 : decode cX5_putBlank 10 = .ok (.invokevirtual 30, 3) := by decide +kernel
theorem dX5_putBlank_13 : decode cX5_putBlank 13 = .ok (.return_, 1) := by decide +kernel
theorem dX5_putToken_0 : decode cX5_putToken 0 = .ok (.aload_n 0, 1) := by decide +kernel
theorem dX5_putToken_1 : decode cX5_putToken 1 = .ok (.invokevirtual 34, 3) := by decide +kernel
theorem dX5_putToken_4 : decode cX5_putToken 4 = .ok (.aload_n 0, 1) := by decide +kernel
theorem dX5_putToken_5 : decode cX5_putToken 5 = .ok (.iload_n 1, 1) := by decide +kernel
theorem dX5_putToken_6 : decode cX5_putToken 6 = .ok (.invokevirtual 30, 3) := by decide +kernel
theorem dX5_putToken_9 : decode cX5_putToken 9 = .ok (.return_, 1) := by decide +kernel
theorem dX5_putName_0 : decode cX5_putName 0 = .ok (.aload_n 0, 1) := by decide +kernel
theorem dX5_putName_1 : decode cX5_putName 1 = .ok (.invokevirtual 34, 3) := by decide +kernel
theorem dX5_putName_4 : decode cX5_putName 4 = .ok (.aload_n 0, 1) := by decide +kernel
theorem dX5_putName_5 : decode cX5_putName 5 = .ok (.getfield 18, 3) := by decide +kernel
theorem dX5_putName_8 : decode cX5_putName 8 = .ok (.getfield 37, 3) := by decide +kernel
theorem dX5_putName_11 : decode cX5_putName 11 = .ok (.iload_n 1, 1) := by decide +kernel
theorem dX5_putName_12 : decode cX5_putName 12 = .ok (.iaload, 1) := by decide +kernel
theorem dX5_putName_13 : decode cX5_putName 13 = .ok (.istore_n 2, 1) := by decide +kernel
theorem dX5_putName_14 : decode cX5_putName 14 = .ok (.iload_n 2, 1) := by decide +kernel
theorem dX5_putName_15 : decode cX5_putName 15 = .ok (.aload_n 0, 1) := by decide +kernel
theorem dX5_putName_16 : decode cX5_putName 16 = .ok (.getfield 18, 3) := by decide +kernel
theorem dX5_putName_19 : decode cX5_putName 19 = .ok (.getfield 37, 3) := by decide +kernel
theorem dX5_putName_22 : decode cX5_putName 22 = .ok (.iload_n 1, 1) := by decide +kernel
theorem dX5_putName_23 : decode cX5_putName 23 = .ok (.iconst 1, 1) := by decide +kernel
theorem dX5_putName_24 : decode cX5_putName 24 = .ok (.iadd, 1) := by decide +kernel
theorem dX5_putName_25 : decode cX5_putName 25 = .ok (.iaload, 1) := by decide +kernel
theorem dX5_putName_26 : decode cX5_putName 26 = .ok (.if_icmp .ge 29, 3) := by decide +kernel
theorem dX5_putName_29 : decode cX5_putName 29 = .ok (.aload_n 0, 1) := by decide +kernel
theorem dX5_putName_30 : decode cX5_putName 30 = .ok (.getfield 26, 3) := by decide +kernel
theorem dX5_putName_33 : decode cX5_putName 33 = .ok (.ifCond .ne 22, 3) := by decide +kernel
theorem dX5_putName_36 : decode cX5_putName 36 = .ok (.aload_n 0, 1) := by decide +kernel
theorem dX5_putName_37 : decode cX5_putName 37 = .ok (.aload_n 0, 1) := by decide +kernel
theorem dX5_putName_38 : decode cX5_putName 38 = .ok (.getfield 18, 3) := by decide +kernel
theorem dX5_putName_41 : decode cX5_putName 41 = .ok (.getfield 43, 3) := by decide +kernel
theorem dX5_putName_44 : decode cX5_putName 44 = .ok (.iload_n 2, 1) := by decide +kernel
theorem dX5_putName_45 : decode cX5_putName 45 = .ok (.caload, 1) := by decide +kernel
theorem dX5_putName_46 : decode cX5_putName 46 = .ok (.invokevirtual 30, 3) := by decide +kernel
theorem dX5_putName_49 : decode cX5_putName 49 = .ok (.iinc 2 1, 3) := by decide +kernel
theorem dX5_putName_52 : decode cX5_putName 52 = .ok (.goto (-38), 3) := by decide +kernel
theorem dX5_putName_55 : decode cX5_putName 55 = .ok (.return_, 1) := by decide +kernel
theorem dX5_putSymbol_0 : decode cX5_putSymbol 0 = .ok (.aload_n 0, 1) := by decide +kernel
theorem dX5_putSymbol_1 : decode cX5_putSymbol 1 = .ok (.aload_n 0, 1) := by decide +kernel
theorem dX5_putSymbol_2 : decode cX5_putSymbol 2 = .ok (.getfield 18, 3) := by decide +kernel
theorem dX5_putSymbol_5 : decode cX5_putSymbol 5 = .ok (.getfield 46, 3) := by decide +kernel
theorem dX5_putSymbol_8 : decode cX5_putSymbol 8 = .ok (.iload_n 1, 1) := by decide +kernel
theorem dX5_putSymbol_9 : decode cX5_putSymbol 9 = .ok (.iaload, 1) := by decide +kernel
theorem dX5_putSymbol_10 : decode cX5_putSymbol 10 = .ok (.invokevirtual 49, 3) := by decide +kernel
theorem dX5_putSymbol_13 : decode cX5_putSymbol 13 = .ok (.return_, 1) := by decide +kernel
theorem dX5_putSymbols_0 : decode cX5_putSymbols 0 = .ok (.iload_n 2, 1) := by decide +kernel
theorem dX5_putSymbols_1 : decode cX5_putSymbols 1 = .ok (.istore 4, 2) := by decide +kernel
theorem dX5_putSymbols_3 : decode cX5_putSymbols 3 = .ok (.iload 4, 2) := by decide +kernel
theorem dX5_putSymbols_5 : decode cX5_putSymbols 5 = .ok (.iload_n 3, 1) := by decide +kernel
theorem dX5_putSymbols_6 : decode cX5_putSymbols 6 = .ok (.if_icmp .ge 24, 3) := by decide +kernel
theorem dX5_putSymbols_9 : decode cX5_putSymbols 9 = .ok (.aload_n 0, 1) := by decide +kernel
theorem dX5_putSymbols_10 : decode cX5_putSymbols 10 = .ok (.getfield 26, 3) := by decide +kernel
theorem dX5_putSymbols_13 : decode cX5_putSymbols 13 = .ok (.ifCond .ne 17, 3) := by decide +kernel
theorem dX5_putSymbols_16 : decode cX5_putSymbols 16 = .ok (.aload_n 0, 1) := by decide +kernel
theorem dX5_putSymbols_17 : decode cX5_putSymbols 17 = .ok (.aload_n 1, 1) := by decide +kernel
theorem dX5_putSymbols_18 : decode cX5_putSymbols 18 = .ok (.iload 4, 2) := by decide +kernel
theorem dX5_putSymbols_20 : decode cX5_putSymbols 20 = .ok (.iaload, 1) := by decide +kernel
theorem dX5_putSymbols_21 : decode cX5_putSymbols 21 = .ok (.invokevirtual 52, 3) := by decide +kernel
theorem dX5_putSymbols_24 : decode cX5_putSymbols 24 = .ok (.iinc 4 1, 3) := by decide +kernel
theorem dX5_putSymbols_27 : decode cX5_putSymbols 27 = .ok (.goto (-24), 3) := by decide +kernel
theorem dX5_putSymbols_30 : decode cX5_putSymbols 30 = .ok (.return_, 1) := by decide +kernel
theorem dX5_putNumber_0 : decode cX5_putNumber 0 = .ok (.lconst 0, 1) := by decide +kernel
theorem dX5_putNumber_1 : decode cX5_putNumber 1 = .ok (.lstore_n 2, 1) := by decide +kernel
theorem dX5_putNumber_2 : decode cX5_putNumber 2 = .ok (.iconst 0, 1) := by decide +kernel
theorem dX5_putNumber_3 : decode cX5_putNumber 3 = .ok (.istore 4, 2) := by decide +kernel
theorem dX5_putNumber_5 : decode cX5_putNumber 5 = .ok (.iload_n 1, 1) := by decide +kernel
theorem dX5_putNumber_6 : decode cX5_putNumber 6 = .ok (.iconst 1, 1) := by decide +kernel
theorem dX5_putNumber_7 : decode cX5_putNumber 7 = .ok (.isub, 1) := by decide +kernel
theorem dX5_putNumber_8 : decode cX5_putNumber 8 = .ok (.bipush 20, 2) := by decide +kernel
theorem dX5_putNumber_10 : decode cX5_putNumber 10 = .ok (.idiv, 1) := by decide +kernel
theorem dX5_putNumber_11 : decode cX5_putNumber 11 = .ok (.istore 5, 2) := by decide +kernel
theorem dX5_putNumber_13 : decode cX5_putNumber 13 = .ok (.iload 5, 2) := by decide +kernel
theorem dX5_putNumber_15 : decode cX5_putNumber 15 = .ok (.ifCond .le 38, 3) := by decide +kernel
theorem dX5_putNumber_18 : decode cX5_putNumber 18 = .ok (.iload 4, 2) := by decide +kernel
theorem dX5_putNumber_20 : decode cX5_putNumber 20 = .ok (.bipush 20, 2) := by decide +kernel
theorem dX5_putNumber_22 : decode cX5_putNumber 22 = .ok (.if_icmp .ge 31, 3) := by decide +kernel
theorem dX5_putNumber_25 : decode cX5_putNumber 25 = .ok (.lload_n 2, 1) := by decide +kernel
theorem dX5_putNumber_26 : decode cX5_putNumber 26 = .ok (.ldc2_w 55, 3) := by decide +kernel
theorem dX5_putNumber_29 : decode cX5_putNumber 29 = .ok (.lmul, 1) := by decide +kernel
theorem dX5_putNumber_30 : decode cX5_putNumber 30 = .ok (.iload 5, 2) := by decide +kernel
theorem dX5_putNumber_32 : decode cX5_putNumber 32 = .ok (.iconst 1, 1) := by decide +kernel
theorem dX5_putNumber_33 : decode cX5_putNumber 33 = .ok (.isub, 1) := by decide +kernel
theorem dX5_putNumber_34 : decode cX5_putNumber 34 = .ok (.iconst 5, 1) := by decide +kernel
theorem dX5_putNumber_35 : decode cX5_putNumber 35 = .ok (.irem, 1) := by decide +kernel
theorem dX5_putNumber_36 : decode cX5_putNumber 36 = .ok (.i2l, 1) := by decide +kernel
theorem dX5_putNumber_37 : decode cX5_putNumber 37 = .ok (.ladd, 1) := by decide +kernel
theorem dX5_putNumber_38 : decode cX5_putNumber 38 = .ok (.lstore_n 2, 1) := by decide +kernel
theorem dX5_putNumber_39 : decode cX5_putNumber 39 = .ok (.iinc 4 1, 3) := by decide +kernel
theorem dX5_putNumber_42 : decode cX5_putNumber 42 = .ok (.iload 5, 2) := by decide +kernel
theorem dX5_putNumber_44 : decode cX5_putNumber 44 = .ok (.iconst 1, 1) := by decide +kernel
theorem dX5_putNumber_45 : decode cX5_putNumber 45 = .ok (.isub, 1) := by decide +kernel
theorem dX5_putNumber_46 : decode cX5_putNumber 46 = .ok (.iconst 5, 1) := by decide +kernel
theorem dX5_putNumber_47 : decode cX5_putNumber 47 = .ok (.idiv, 1) := by decide +kernel
theorem dX5_putNumber_48 : decode cX5_putNumber 48 = .ok (.istore 5, 2) := by decide +kernel
theorem dX5_putNumber_50 : decode cX5_putNumber 50 = .ok (.goto (-37), 3) := by decide +kernel
theorem dX5_putNumber_53 : decode cX5_putNumber 53 = .ok (.iconst 0, 1) := by decide +kernel
theorem dX5_putNumber_54 : decode cX5_putNumber 54 = .ok (.istore 5, 2) := by decide +kernel
theorem dX5_putNumber_56 : decode cX5_putNumber 56 = .ok (.iload 5, 2) := by decide +kernel
theorem dX5_putNumber_58 : decode cX5_putNumber 58 = .ok (.iload 4, 2) := by decide +kernel
theorem dX5_putNumber_60 : decode cX5_putNumber 60 = .ok (.if_icmp .ge 28, 3) := by decide +kernel
theorem dX5_putNumber_63 : decode cX5_putNumber 63 = .ok (.aload_n 0, 1) := by decide +kernel
theorem dX5_putNumber_64 : decode cX5_putNumber 64 = .ok (.bipush 85, 2) := by decide +kernel
theorem dX5_putNumber_66 : decode cX5_putNumber 66 = .ok (.lload_n 2, 1) := by decide +kernel
theorem dX5_putNumber_67 : decode cX5_putNumber 67 = .ok (.ldc2_w 55, 3) := by decide +kernel
theorem dX5_putNumber_70 : decode cX5_putNumber 70 = .ok (.lrem, 1) := by decide +kernel
theorem dX5_putNumber_71 : decode cX5_putNumber 71 = .ok (.l2i, 1) := by decide +kernel
theorem dX5_putNumber_72 : decode cX5_putNumber 72 = .ok (.iadd, 1) := by decide +kernel
theorem dX5_putNumber_73 : decode cX5_putNumber 73 = .ok (.invokevirtual 30, 3) := by decide +kernel
theorem dX5_putNumber_76 : decode cX5_putNumber 76 = .ok (.lload_n 2, 1) := by decide +kernel
theorem dX5_putNumber_77 : decode cX5_putNumber 77 = .ok (.ldc2_w 55, 3) := by decide +kernel
theorem dX5_putNumber_80 : decode cX5_putNumber 80 = .ok (.ldiv, 1) := by decide +kernel
theorem dX5_putNumber_81 : decode cX5_putNumber 81 = .ok (.lstore_n 2, 1) := by decide +kernel
theorem dX5_putNumber_82 : decode cX5_putNumber 82 = .ok (.iinc 5 1, 3) := by decide +kernel
theorem dX5_putNumber_85 : decode cX5_putNumber 85 = .ok (.goto (-29), 3) := by decide +kernel
theorem dX5_putNumber_88 : decode cX5_putNumber 88 = .ok (.aload_n 0, 1) := by decide +kernel
theorem dX5_putNumber_89 : decode cX5_putNumber 89 = .ok (.bipush 65, 2) := by decide +kernel
theorem dX5_putNumber_91 : decode cX5_putNumber 91 = .ok (.iload_n 1, 1) := by decide +kernel
theorem dX5_putNumber_92 : decode cX5_putNumber 92 = .ok (.iconst 1, 1) := by decide +kernel
theorem dX5_putNumber_93 : decode cX5_putNumber 93 = .ok (.isub, 1) := by decide +kernel
theorem dX5_putNumber_94 : decode cX5_putNumber 94 = .ok (.bipush 20, 2) := by decide +kernel
theorem dX5_putNumber_96 : decode cX5_putNumber 96 = .ok (.irem, 1) := by decide +kernel
theorem dX5_putNumber_97 : decode cX5_putNumber 97 = .ok (.iadd, 1) := by decide +kernel
theorem dX5_putNumber_98 : decode cX5_putNumber 98 = .ok (.invokevirtual 30, 3) := by decide +kernel
theorem dX5_putNumber_101 : decode cX5_putNumber 101 = .ok (.return_, 1) := by decide +kernel
theorem dX5_finish_0 : decode cX5_finish 0 = .ok (.aload_n 0, 1) := by decide +kernel
theorem dX5_finish_1 : decode cX5_finish 1 = .ok (.getfield 26, 3) := by decide +kernel
theorem dX5_finish_4 : decode cX5_finish 4 = .ok (.ifCond .eq 6, 3) := by decide +kernel
theorem dX5_finish_7 : decode cX5_finish 7 = .ok (.bipush (-2), 2) := by decide +kernel
theorem dX5_finish_9 : decode cX5_finish 9 = .ok (.ireturn, 1) := by decide +kernel
theorem dX5_finish_10 : decode cX5_finish 10 = .ok (.aload_n 0, 1) := by decide +kernel
theorem dX5_finish_11 : decode cX5_finish 11 = .ok (.getfield 15, 3) := by decide +kernel
theorem dX5_finish_14 : decode cX5_finish 14 = .ok (.astore_n 1, 1) := by decide +kernel
theorem dX5_finish_15 : decode cX5_finish 15 = .ok (.aload_n 0, 1) := by decide +kernel
theorem dX5_finish_16 : decode cX5_finish 16 = .ok (.aload_n 0, 1) := by decide +kernel
theorem dX5_finish_17 : decode cX5_finish 17 = .ok (.getfield 9, 3) := by decide +kernel
theorem dX5_finish_20 : decode cX5_finish 20 = .ok (.putfield 15, 3) := by decide +kernel
theorem dX5_finish_23 : decode cX5_finish 23 = .ok (.aload_n 0, 1) := by decide +kernel
theorem dX5_finish_24 : decode cX5_finish 24 = .ok (.aload_n 1, 1) := by decide +kernel
theorem dX5_finish_25 : decode cX5_finish 25 = .ok (.putfield 9, 3) := by decide +kernel
theorem dX5_finish_28 : decode cX5_finish 28 = .ok (.aload_n 0, 1) := by decide +kernel
theorem dX5_finish_29 : decode cX5_finish 29 = .ok (.aload_n 0, 1) := by decide +kernel
theorem dX5_finish_30 : decode cX5_finish 30 = .ok (.getfield 22, 3) := by decide +kernel
theorem dX5_finish_33 : decode cX5_finish 33 = .ok (.putfield 57, 3) := by decide +kernel
theorem dX5_finish_36 : decode cX5_finish 36 = .ok (.aload_n 0, 1) := by decide +kernel
theorem dX5_finish_37 : decode cX5_finish 37 = .ok (.getfield 57, 3) := by decide +kernel
theorem dX5_finish_40 : decode cX5_finish 40 = .ok (.ireturn, 1) := by decide +kernel
theorem dX5_shown_0 : decode cX5_shown 0 = .ok (.iload_n 1, 1) := by decide +kernel
theorem dX5_shown_1 : decode cX5_shown 1 = .ok (.ifCond .lt 20, 3) := by decide +kernel
theorem dX5_shown_4 : decode cX5_shown 4 = .ok (.iload_n 1, 1) := by decide +kernel
theorem dX5_shown_5 : decode cX5_shown 5 = .ok (.aload_n 0, 1) := by decide +kernel
theorem dX5_shown_6 : decode cX5_shown 6 = .ok (.getfield 57, 3) := by decide +kernel
theorem dX5_shown_9 : decode cX5_shown 9 = .ok (.if_icmp .ge 12, 3) := by decide +kernel
theorem dX5_shown_12 : decode cX5_shown 12 = .ok (.aload_n 0, 1) := by decide +kernel
theorem dX5_shown_13 : decode cX5_shown 13 = .ok (.getfield 15, 3) := by decide +kernel
theorem dX5_shown_16 : decode cX5_shown 16 = .ok (.iload_n 1, 1) := by decide +kernel
theorem dX5_shown_17 : decode cX5_shown 17 = .ok (.caload, 1) := by decide +kernel
theorem dX5_shown_18 : decode cX5_shown 18 = .ok (.goto 4, 3) := by decide +kernel
theorem dX5_shown_21 : decode cX5_shown 21 = .ok (.iconst (-1), 1) := by decide +kernel
theorem dX5_shown_22 : decode cX5_shown 22 = .ok (.ireturn, 1) := by decide +kernel
theorem dX4_init_0 : decode cX4_init 0 = .ok (.aload_n 0, 1) := by decide +kernel
theorem dX4_init_1 : decode cX4_init 1 = .ok (.invokespecial 3, 3) := by decide +kernel
theorem dX4_init_4 : decode cX4_init 4 = .ok (.aload_n 0, 1) := by decide +kernel
theorem dX4_init_5 : decode cX4_init 5 = .ok (.sipush 20000, 3) := by decide +kernel
theorem dX4_init_8 : decode cX4_init 8 = .ok (.newarray .int, 2) := by decide +kernel
theorem dX4_init_10 : decode cX4_init 10 = .ok (.putfield 9, 3) := by decide +kernel
theorem dX4_init_13 : decode cX4_init 13 = .ok (.aload_n 0, 1) := by decide +kernel
theorem dX4_init_14 : decode cX4_init 14 = .ok (.ldc 15, 2) := by decide +kernel
theorem dX4_init_16 : decode cX4_init 16 = .ok (.newarray .int, 2) := by decide +kernel
theorem dX4_init_18 : decode cX4_init 18 = .ok (.putfield 16, 3) := by decide +kernel
theorem dX4_init_21 : decode cX4_init 21 = .ok (.aload_n 0, 1) := by decide +kernel
theorem dX4_init_22 : decode cX4_init 22 = .ok (.sipush 20000, 3) := by decide +kernel
theorem dX4_init_25 : decode cX4_init 25 = .ok (.newarray .int, 2) := by decide +kernel
theorem dX4_init_27 : decode cX4_init 27 = .ok (.putfield 19, 3) := by decide +kernel
theorem dX4_init_30 : decode cX4_init 30 = .ok (.aload_n 0, 1) := by decide +kernel
theorem dX4_init_31 : decode cX4_init 31 = .ok (.sipush 20000, 3) := by decide +kernel
theorem dX4_init_34 : decode cX4_init 34 = .ok (.newarray .int, 2) := by decide +kernel
theorem dX4_init_36 : decode cX4_init 36 = .ok (.putfield 22, 3) := by decide +kernel
theorem dX4_init_39 : decode cX4_init 39 = .ok (.aload_n 0, 1) := by decide +kernel
theorem dX4_init_40 : decode cX4_init 40 = .ok (.sipush 20000, 3) := by decide +kernel
theorem dX4_init_43 : decode cX4_init 43 = .ok (.newarray .int, 2) := by decide +kernel
theorem dX4_init_45 : decode cX4_init 45 = .ok (.putfield 25, 3) := by decide +kernel
theorem dX4_init_48 : decode cX4_init 48 = .ok (.aload_n 0, 1) := by decide +kernel
theorem dX4_init_49 : decode cX4_init 49 = .ok (.sipush 1500, 3) := by decide +kernel
theorem dX4_init_52 : decode cX4_init 52 = .ok (.newarray .int, 2) := by decide +kernel
theorem dX4_init_54 : decode cX4_init 54 = .ok (.putfield 28, 3) := by decide +kernel
theorem dX4_init_57 : decode cX4_init 57 = .ok (.aload_n 0, 1) := by decide +kernel
theorem dX4_init_58 : decode cX4_init 58 = .ok (.sipush 1500, 3) := by decide +kernel
theorem dX4_init_61 : decode cX4_init 61 = .ok (.newarray .int, 2) := by decide +kernel
theorem dX4_init_63 : decode cX4_init 63 = .ok (.putfield 31, 3) := by decide +kernel
theorem dX4_init_66 : decode cX4_init 66 = .ok (.aload_n 0, 1) := by decide +kernel
theorem dX4_init_67 : decode cX4_init 67 = .ok (.sipush 20001, 3) := by decide +kernel
theorem dX4_init_70 : decode cX4_init 70 = .ok (.newarray .int, 2) := by decide +kernel
theorem dX4_init_72 : decode cX4_init 72 = .ok (.putfield 34, 3) := by decide +kernel
theorem dX4_init_75 : decode cX4_init 75 = .ok (.aload_n 0, 1) := by decide +kernel
theorem dX4_init_76 : decode cX4_init 76 = .ok (.sipush 20000, 3) := by decide +kernel
theorem dX4_init_79 : decode cX4_init 79 = .ok (.newarray .int, 2) := by decide +kernel
theorem dX4_init_81 : decode cX4_init 81 = .ok (.putfield 37, 3) := by decide +kernel
theorem dX4_init_84 : decode cX4_init 84 = .ok (.aload_n 0, 1) := by decide +kernel
theorem dX4_init_85 : decode cX4_init 85 = .ok (.sipush 20000, 3) := by decide +kernel
theorem dX4_init_88 : decode cX4_init 88 = .ok (.newarray .int, 2) := by decide +kernel
theorem dX4_init_90 : decode cX4_init 90 = .ok (.putfield 40, 3) := by decide +kernel
theorem dX4_init_93 : decode cX4_init 93 = .ok (.aload_n 0, 1) := by decide +kernel
theorem dX4_init_94 : decode cX4_init 94 = .ok (.sipush 4000, 3) := by decide +kernel
theorem dX4_init_97 : decode cX4_init 97 = .ok (.newarray .int, 2) := by decide +kernel
theorem dX4_init_99 : decode cX4_init 99 = .ok (.putfield 43, 3) := by decide +kernel
theorem dX4_init_102 : decode cX4_init 102 = .ok (.aload_n 0, 1) := by decide +kernel
theorem dX4_init_103 : decode cX4_init 103 = .ok (.sipush 20000, 3) := by decide +kernel
theorem dX4_init_106 : decode cX4_init 106 = .ok (.newarray .int, 2) := by decide +kernel
theorem dX4_init_108 : decode cX4_init 108 = .ok (.putfield 46, 3) := by decide +kernel
theorem dX4_init_111 : decode cX4_init 111 = .ok (.aload_n 0, 1) := by decide +kernel
theorem dX4_init_112 : decode cX4_init 112 = .ok (.aload_n 1, 1) := by decide +kernel
theorem dX4_init_113 : decode cX4_init 113 = .ok (.putfield 49, 3) := by decide +kernel
theorem dX4_init_116 : decode cX4_init 116 = .ok (.aload_n 0, 1) := by decide +kernel
theorem dX4_init_117 : decode cX4_init 117 = .ok (.aload_n 2, 1) := by decide +kernel
theorem dX4_init_118 : decode cX4_init 118 = .ok (.putfield 53, 3) := by decide +kernel
theorem dX4_init_121 : decode cX4_init 121 = .ok (.return_, 1) := by decide +kernel
theorem dX4_pack_0 : decode cX4_pack 0 = .ok (.aload_n 0, 1) := by decide +kernel
theorem dX4_pack_1 : decode cX4_pack 1 = .ok (.aload_n 0, 1) := by decide +kernel
theorem dX4_pack_2 : decode cX4_pack 2 = .ok (.getfield 53, 3) := by decide +kernel
theorem dX4_pack_5 : decode cX4_pack 5 = .ok (.getfield 57, 3) := by decide +kernel
theorem dX4_pack_8 : decode cX4_pack 8 = .ok (.iload_n 1, 1) := by decide +kernel
theorem dX4_pack_9 : decode cX4_pack 9 = .ok (.iaload, 1) := by decide +kernel
theorem dX4_pack_10 : decode cX4_pack 10 = .ok (.putfield 62, 3) := by decide +kernel
theorem dX4_pack_13 : decode cX4_pack 13 = .ok (.aload_n 0, 1) := by decide +kernel
theorem dX4_pack_14 : decode cX4_pack 14 = .ok (.aload_n 0, 1) := by decide +kernel
theorem dX4_pack_15 : decode cX4_pack 15 = .ok (.getfield 53, 3) := by decide +kernel
theorem dX4_pack_18 : decode cX4_pack 18 = .ok (.getfield 66, 3) := by decide +kernel
theorem dX4_pack_21 : decode cX4_pack 21 = .ok (.iload_n 1, 1) := by decide +kernel
theorem dX4_pack_22 : decode cX4_pack 22 = .ok (.iaload, 1) := by decide +kernel
theorem dX4_pack_23 : decode cX4_pack 23 = .ok (.invokevirtual 69, 3) := by decide +kernel
theorem dX4_pack_26 : decode cX4_pack 26 = .ok (.aload_n 0, 1) := by decide +kernel
theorem dX4_pack_27 : decode cX4_pack 27 = .ok (.getfield 22, 3) := by decide +kernel
theorem dX4_pack_30 : decode cX4_pack 30 = .ok (.iconst 0, 1) := by decide +kernel
theorem dX4_pack_31 : decode cX4_pack 31 = .ok (.aload_n 0, 1) := by decide +kernel
theorem dX4_pack_32 : decode cX4_pack 32 = .ok (.getfield 53, 3) := by decide +kernel
theorem dX4_pack_35 : decode cX4_pack 35 = .ok (.getfield 66, 3) := by decide +kernel
theorem dX4_pack_38 : decode cX4_pack 38 = .ok (.iload_n 1, 1) := by decide +kernel
theorem dX4_pack_39 : decode cX4_pack 39 = .ok (.iaload, 1) := by decide +kernel
theorem dX4_pack_40 : decode cX4_pack 40 = .ok (.iconst 0, 1) := by decide +kernel
theorem dX4_pack_41 : decode cX4_pack 41 = .ok (.invokestatic 73, 3) := by decide +kernel
theorem dX4_pack_44 : decode cX4_pack 44 = .ok (.aload_n 0, 1) := by decide +kernel
theorem dX4_pack_45 : decode cX4_pack 45 = .ok (.aload_n 0, 1) := by decide +kernel
theorem dX4_pack_46 : decode cX4_pack 46 = .ok (.getfield 53, 3) := by decide +kernel
theorem dX4_pack_49 : decode cX4_pack 49 = .ok (.getfield 66, 3) := by decide +kernel
theorem dX4_pack_52 : decode cX4_pack 52 = .ok (.iload_n 1, 1) := by decide +kernel
theorem dX4_pack_53 : decode cX4_pack 53 = .ok (.iaload, 1) := by decide +kernel
theorem dX4_pack_54 : decode cX4_pack 54 = .ok (.iconst 1, 1) := by decide +kernel
theorem dX4_pack_55 : decode cX4_pack 55 = .ok (.isub, 1) := by decide +kernel
theorem dX4_pack_56 : decode cX4_pack 56 = .ok (.iconst 1, 1) := by decide +kernel
theorem dX4_pack_57 : decode cX4_pack 57 = .ok (.invokevirtual 79, 3) := by decide +kernel
theorem dX4_pack_60 : decode cX4_pack 60 = .ok (.aload_n 0, 1) := by decide +kernel
theorem dX4_pack_61 : decode cX4_pack 61 = .ok (.iload_n 1, 1) := by decide +kernel
theorem dX4_pack_62 : decode cX4_pack 62 = .ok (.invokevirtual 83, 3) := by decide +kernel
theorem dX4_pack_65 : decode cX4_pack 65 = .ok (.return_, 1) := by decide +kernel
theorem dX4_unpack_0 : decode cX4_unpack 0 = .ok (.aload_n 0, 1) := by decide +kernel
theorem dX4_unpack_1 : decode cX4_unpack 1 = .ok (.aload_n 0, 1) := by decide +kernel
theorem dX4_unpack_2 : decode cX4_unpack 2 = .ok (.getfield 53, 3) := by decide +kernel
theorem dX4_unpack_5 : decode cX4_unpack 5 = .ok (.getfield 57, 3) := by decide +kernel
theorem dX4_unpack_8 : decode cX4_unpack 8 = .ok (.iload_n 1, 1) := by decide +kernel
theorem dX4_unpack_9 : decode cX4_unpack 9 = .ok (.iaload, 1) := by decide +kernel
theorem dX4_unpack_10 : decode cX4_unpack 10 = .ok (.putfield 62, 3) := by decide +kernel
theorem dX4_unpack_13 : decode cX4_unpack 13 = .ok (.aload_n 0, 1) := by decide +kernel
theorem dX4_unpack_14 : decode cX4_unpack 14 = .ok (.aload_n 0, 1) := by decide +kernel
theorem dX4_unpack_15 : decode cX4_unpack 15 = .ok (.getfield 53, 3) := by decide +kernel
theorem dX4_unpack_18 : decode cX4_unpack 18 = .ok (.getfield 66, 3) := by decide +kernel
theorem dX4_unpack_21 : decode cX4_unpack 21 = .ok (.iload_n 1, 1) := by decide +kernel
theorem dX4_unpack_22 : decode cX4_unpack 22 = .ok (.iaload, 1) := by decide +kernel
theorem dX4_unpack_23 : decode cX4_unpack 23 = .ok (.iconst 1, 1) := by decide +kernel
theorem dX4_unpack_24 : decode cX4_unpack 24 = .ok (.isub, 1) := by decide +kernel
theorem dX4_unpack_25 : decode cX4_unpack 25 = .ok (.iconst 0, 1) := by decide +kernel
theorem dX4_unpack_26 : decode cX4_unpack 26 = .ok (.invokevirtual 79, 3) := by decide +kernel
theorem dX4_unpack_29 : decode cX4_unpack 29 = .ok (.return_, 1) := by decide +kernel
theorem dX4_findSame_0 : decode cX4_findSame 0 = .ok (.iconst 1, 1) := by decide +kernel
theorem dX4_findSame_1 : decode cX4_findSame 1 = .ok (.istore_n 2, 1) := by decide +kernel
theorem dX4_findSame_2 : decode cX4_findSame 2 = .ok (.iload_n 2, 1) := by decide +kernel
theorem dX4_findSame_3 : decode cX4_findSame 3 = .ok (.iload_n 1, 1) := by decide +kernel
theorem dX4_findSame_4 : decode cX4_findSame 4 = .ok (.if_icmp .ge 16, 3) := by decide +kernel
theorem dX4_findSame_7 : decode cX4_findSame 7 = .ok (.iload_n 2, 1) := by decide +kernel
theorem dX4_findSame_8 : decode cX4_findSame 8 = .ok (.ldc 15, 2) := by decide +kernel
theorem dX4_findSame_10 : decode cX4_findSame 10 = .ok (.if_icmp .ge 10, 3) := by decide +kernel
theorem dX4_findSame_13 : decode cX4_findSame 13 = .ok (.iload_n 2, 1) := by decide +kernel
theorem dX4_findSame_14 : decode cX4_findSame 14 = .ok (.iconst 2, 1) := by decide +kernel
theorem dX4_findSame_15 : decode cX4_findSame 15 = .ok (.imul, 1) := by decide +kernel
theorem dX4_findSame_16 : decode cX4_findSame 16 = .ok (.istore_n 2, 1) := by decide +kernel
theorem dX4_findSame_17 : decode cX4_findSame 17 = .ok (.goto (-15), 3) := by decide +kernel
theorem dX4_findSame_20 : decode cX4_findSame 20 = .ok (.aload_n 0, 1) := by decide +kernel
theorem dX4_findSame_21 : decode cX4_findSame 21 = .ok (.getfield 16, 3) := by decide +kernel
theorem dX4_findSame_24 : decode cX4_findSame 24 = .ok (.iconst 0, 1) := by decide +kernel
theorem dX4_findSame_25 : decode cX4_findSame 25 = .ok (.iload_n 2, 1) := by decide +kernel
theorem dX4_findSame_26 : decode cX4_findSame 26 = .ok (.iconst 0, 1) := by decide +kernel
theorem dX4_findSame_27 : decode cX4_findSame 27 = .ok (.invokestatic 73, 3) := by decide +kernel
theorem dX4_findSame_30 : decode cX4_findSame 30 = .ok (.iinc 2 (-1), 3) := by decide +kernel
theorem dX4_findSame_33 : decode cX4_findSame 33 = .ok (.iconst 0, 1) := by decide +kernel
theorem dX4_findSame_34 : decode cX4_findSame 34 = .ok (.istore_n 3, 1) := by decide +kernel
theorem dX4_findSame_35 : decode cX4_findSame 35 = .ok (.iload_n 3, 1) := by decide +kernel
theorem dX4_findSame_36 : decode cX4_findSame 36 = .ok (.iload_n 1, 1) := by decide +kernel
theorem dX4_findSame_37 : decode cX4_findSame 37 = .ok (.if_icmp .ge 118, 3) := by decide +kernel
theorem dX4_findSame_40 : decode cX4_findSame 40 = .ok (.aload_n 0, 1) := by decide +kernel
theorem dX4_findSame_41 : decode cX4_findSame 41 = .ok (.iload_n 3, 1) := by decide +kernel
theorem dX4_findSame_42 : decode cX4_findSame 42 = .ok (.invokevirtual 86, 3) := by decide +kernel
theorem dX4_findSame_45 : decode cX4_findSame 45 = .ok (.iload_n 2, 1) := by decide +kernel
theorem dX4_findSame_46 : decode cX4_findSame 46 = .ok (.iand, 1) := by decide +kernel
theorem dX4_findSame_47 : decode cX4_findSame 47 = .ok (.istore 4, 2) := by decide +kernel
theorem dX4_findSame_49 : decode cX4_findSame 49 = .ok (.aload_n 0, 1) := by decide +kernel
theorem dX4_findSame_50 : decode cX4_findSame 50 = .ok (.getfield 16, 3) := by decide +kernel
theorem dX4_findSame_53 : decode cX4_findSame 53 = .ok (.iload 4, 2) := by decide +kernel
theorem dX4_findSame_55 : decode cX4_findSame 55 = .ok (.iaload, 1) := by decide +kernel
theorem dX4_findSame_56 : decode cX4_findSame 56 = .ok (.istore 5, 2) := by decide +kernel
theorem dX4_findSame_58 : decode cX4_findSame 58 = .ok (.iconst 0, 1) := by decide +kernel
theorem dX4_findSame_59 : decode cX4_findSame 59 = .ok (.istore 6, 2) := by decide +kernel
theorem dX4_findSame_61 : decode cX4_findSame 61 = .ok (.iload 6, 2) := by decide +kernel
theorem dX4_findSame_63 : decode cX4_findSame 63 = .ok (.iload_n 1, 1) := by decide +kernel
theorem dX4_findSame_64 : decode cX4_findSame 64 = .ok (.if_icmp .ge 37, 3) := by decide +kernel
theorem dX4_findSame_67 : decode cX4_findSame 67 = .ok (.iload 5, 2) := by decide +kernel
theorem dX4_findSame_69 : decode cX4_findSame 69 = .ok (.ifCond .le 32, 3) := by decide +kernel
theorem dX4_findSame_72 : decode cX4_findSame 72 = .ok (.aload_n 0, 1) := by decide +kernel
theorem dX4_findSame_73 : decode cX4_findSame 73 = .ok (.iload 5, 2) := by decide +kernel
theorem dX4_findSame_75 : decode cX4_findSame 75 = .ok (.iconst 1, 1) := by decide +kernel
theorem dX4_findSame_76 : decode cX4_findSame 76 = .ok (.isub, 1) := by decide +kernel
theorem dX4_findSame_77 : decode cX4_findSame 77 = .ok (.iload_n 3, 1) := by decide +kernel
theorem dX4_findSame_78 : decode cX4_findSame 78 = .ok (.invokevirtual 90, 3) := by decide +kernel
theorem dX4_findSame_81 : decode cX4_findSame 81 = .ok (.ifCond .ne 20, 3) := by decide +kernel
theorem dX4_findSame_84 : decode cX4_findSame 84 = .ok (.aload_n 0, 1) := by decide +kernel
theorem dX4_findSame_85 : decode cX4_findSame 85 = .ok (.getfield 19, 3) := by decide +kernel
theorem dX4_findSame_88 : decode cX4_findSame 88 = .ok (.iload 5, 2) := by decide +kernel
theorem dX4_findSame_90 : decode cX4_findSame 90 = .ok (.iconst 1, 1) := by decide +kernel
theorem dX4_findSame_91 : decode cX4_findSame 91 = .ok (.isub, 1) := by decide +kernel
theorem dX4_findSame_92 : decode cX4_findSame 92 = .ok (.iaload, 1) := by decide +kernel
theorem dX4_findSame_93 : decode cX4_findSame 93 = .ok (.istore 5, 2) := by decide +kernel
theorem dX4_findSame_95 : decode cX4_findSame 95 = .ok (.iinc 6 1, 3) := by decide +kernel
theorem dX4_findSame_98 : decode cX4_findSame 98 = .ok (.goto (-37), 3) := by decide +kernel
theorem dX4_findSame_101 : decode cX4_findSame 101 = .ok (.aload_n 0, 1) := by decide +kernel
theorem dX4_findSame_102 : decode cX4_findSame 102 = .ok (.getfield 9, 3) := by decide +kernel
theorem dX4_findSame_105 : decode cX4_findSame 105 = .ok (.iload_n 3, 1) := by decide +kernel
theorem dX4_findSame_106 : decode cX4_findSame 106 = .ok (.iload_n 3, 1) := by decide +kernel
theorem dX4_findSame_107 : decode cX4_findSame 107 = .ok (.iastore, 1) := by decide +kernel
theorem dX4_findSame_108 : decode cX4_findSame 108 = .ok (.iload 5, 2) := by decide +kernel
theorem dX4_findSame_110 : decode cX4_findSame 110 = .ok (.ifCond .le 16, 3) := by decide +kernel
theorem dX4_findSame_113 : decode cX4_findSame 113 = .ok (.aload_n 0, 1) := by decide +kernel
theorem dX4_findSame_114 : decode cX4_findSame 114 = .ok (.getfield 9, 3) := by decide +kernel
theorem dX4_findSame_117 : decode cX4_findSame 117 = .ok (.iload_n 3, 1) := by decide +kernel
theorem dX4_findSame_118 : decode cX4_findSame 118 = .ok (.iload 5, 2) := by decide +kernel
theorem dX4_findSame_120 : decode cX4_findSame 120 = .ok (.iconst 1, 1) := by decide +kernel
theorem dX4_findSame_121 : decode cX4_findSame 121 = .ok (.isub, 1) := by decide +kernel
theorem dX4_findSame_122 : decode cX4_findSame 122 = .ok (.iastore, 1) := by decide +kernel
theorem dX4_findSame_123 : decode cX4_findSame 123 = .ok (.goto 26, 3) := by decide +kernel
theorem dX4_findSame_126 : decode cX4_findSame 126 = .ok (.aload_n 0, 1) := by decide +kernel
theorem dX4_findSame_127 : decode cX4_findSame 127 = .ok (.getfield 19, 3) := by decide +kernel
theorem dX4_findSame_130 : decode cX4_findSame 130 = .ok (.iload_n 3, 1) := by decide +kernel
theorem dX4_findSame_131 : decode cX4_findSame 131 = .ok (.aload_n 0, 1) := by decide +kernel
theorem dX4_findSame_132 : decode cX4_findSame 132 = .ok (.getfield 16, 3) := by decide +kernel
theorem dX4_findSame_135 : decode cX4_findSame 135 = .ok (.iload 4, 2) := by decide +kernel
theorem dX4_findSame_137 : decode cX4_findSame 137 = .ok (.iaload, 1) := by decide +kernel
theorem dX4_findSame_138 : decode cX4_findSame 138 = .ok (.iastore, 1) := by decide +kernel
theorem dX4_findSame_139 : decode cX4_findSame 139 = .ok (.aload_n 0, 1) := by decide +kernel
theorem dX4_findSame_140 : decode cX4_findSame 140 = .ok (.getfield 16, 3) := by decide +kernel
theorem dX4_findSame_143 : decode cX4_findSame 143 = .ok (.iload 4, 2) := by decide +kernel
theorem dX4_findSame_145 : decode cX4_findSame 145 = .ok (.iload_n 3, 1) := by decide +kernel
theorem dX4_findSame_146 : decode cX4_findSame 146 = .ok (.iconst 1, 1) := by decide +kernel
theorem dX4_findSame_147 : decode cX4_findSame 147 = .ok (.iadd, 1) := by decide +kernel
theorem dX4_findSame_148 : decode cX4_findSame 148 = .ok (.iastore, 1) := by decide +kernel
theorem dX4_findSame_149 : decode cX4_findSame 149 = .ok (.iinc 3 1, 3) := by decide +kernel
theorem dX4_findSame_152 : decode cX4_findSame 152 = .ok (.goto (-117), 3) := by decide +kernel
theorem dX4_findSame_155 : decode cX4_findSame 155 = .ok (.return_, 1) := by decide +kernel
theorem dX4_hash_0 : decode cX4_hash 0 = .ok (.aload_n 0, 1) := by decide +kernel
theorem dX4_hash_1 : decode cX4_hash 1 = .ok (.getfield 53, 3) := by decide +kernel
theorem dX4_hash_4 : decode cX4_hash 4 = .ok (.getfield 94, 3) := by decide +kernel
theorem dX4_hash_7 : decode cX4_hash 7 = .ok (.aload_n 0, 1) := by decide +kernel
theorem dX4_hash_8 : decode cX4_hash 8 = .ok (.getfield 62, 3) := by decide +kernel
theorem dX4_hash_11 : decode cX4_hash 11 = .ok (.iload_n 1, 1) := by decide +kernel
theorem dX4_hash_12 : decode cX4_hash 12 = .ok (.iadd, 1) := by decide +kernel
theorem dX4_hash_13 : decode cX4_hash 13 = .ok (.iaload, 1) := by decide +kernel
theorem dX4_hash_14 : decode cX4_hash 14 = .ok (.istore_n 2, 1) := by decide +kernel
theorem dX4_hash_15 : decode cX4_hash 15 = .ok (.aload_n 0, 1) := by decide +kernel
theorem dX4_hash_16 : decode cX4_hash 16 = .ok (.getfield 53, 3) := by decide +kernel
theorem dX4_hash_19 : decode cX4_hash 19 = .ok (.getfield 97, 3) := by decide +kernel
theorem dX4_hash_22 : decode cX4_hash 22 = .ok (.aload_n 0, 1) := by decide +kernel
theorem dX4_hash_23 : decode cX4_hash 23 = .ok (.getfield 62, 3) := by decide +kernel
theorem dX4_hash_26 : decode cX4_hash 26 = .ok (.iload_n 1, 1) := by decide +kernel
theorem dX4_hash_27 : decode cX4_hash 27 = .ok (.iadd, 1) := by decide +kernel
theorem dX4_hash_28 : decode cX4_hash 28 = .ok (.iaload, 1) := by decide +kernel
theorem dX4_hash_29 : decode cX4_hash 29 = .ok (.istore_n 3, 1) := by decide +kernel
theorem dX4_hash_30 : decode cX4_hash 30 = .ok (.iload_n 3, 1) := by decide +kernel
theorem dX4_hash_31 : decode cX4_hash 31 = .ok (.aload_n 0, 1) := by decide +kernel
theorem dX4_hash_32 : decode cX4_hash 32 = .ok (.getfield 53, 3) := by decide +kernel
theorem dX4_hash_35 : decode cX4_hash 35 = .ok (.getfield 97, 3) := by decide +kernel
theorem dX4_hash_38 : decode cX4_hash 38 = .ok (.aload_n 0, 1) := by decide +kernel
theorem dX4_hash_39 : decode cX4_hash 39 = .ok (.getfield 62, 3) := by decide +kernel
theorem dX4_hash_42 : decode cX4_hash 42 = .ok (.iload_n 1, 1) := by decide +kernel
theorem dX4_hash_43 : decode cX4_hash 43 = .ok (.iadd, 1) := by decide +kernel
theorem dX4_hash_44 : decode cX4_hash 44 = .ok (.iconst 1, 1) := by decide +kernel
theorem dX4_hash_45 : decode cX4_hash 45 = .ok (.iadd, 1) := by decide +kernel
theorem dX4_hash_46 : decode cX4_hash 46 = .ok (.iaload, 1) := by decide +kernel
theorem dX4_hash_47 : decode cX4_hash 47 = .ok (.if_icmp .ge 29, 3) := by decide +kernel
theorem dX4_hash_50 : decode cX4_hash 50 = .ok (.iload_n 2, 1) := by decide +kernel
theorem dX4_hash_51 : decode cX4_hash 51 = .ok (.ldc 100, 2) := by decide +kernel
theorem dX4_hash_53 : decode cX4_hash 53 = .ok (.imul, 1) := by decide +kernel
theorem dX4_hash_54 : decode cX4_hash 54 = .ok (.aload_n 0, 1) := by decide +kernel
theorem dX4_hash_55 : decode cX4_hash 55 = .ok (.getfield 9, 3) := by decide +kernel
theorem dX4_hash_58 : decode cX4_hash 58 = .ok (.aload_n 0, 1) := by decide +kernel
theorem dX4_hash_59 : decode cX4_hash 59 = .ok (.getfield 53, 3) := by decide +kernel
theorem dX4_hash_62 : decode cX4_hash 62 = .ok (.getfield 101, 3) := by decide +kernel
theorem dX4_hash_65 : decode cX4_hash 65 = .ok (.iload_n 3, 1) := by decide +kernel
theorem dX4_hash_66 : decode cX4_hash 66 = .ok (.iaload, 1) := by decide +kernel
theorem dX4_hash_67 : decode cX4_hash 67 = .ok (.iaload, 1) := by decide +kernel
theorem dX4_hash_68 : decode cX4_hash 68 = .ok (.iadd, 1) := by decide +kernel
theorem dX4_hash_69 : decode cX4_hash 69 = .ok (.istore_n 2, 1) := by decide +kernel
theorem dX4_hash_70 : decode cX4_hash 70 = .ok (.iinc 3 1, 3) := by decide +kernel
theorem dX4_hash_73 : decode cX4_hash 73 = .ok (.goto (-43), 3) := by decide +kernel
theorem dX4_hash_76 : decode cX4_hash 76 = .ok (.iload_n 2, 1) := by decide +kernel
theorem dX4_hash_77 : decode cX4_hash 77 = .ok (.ldc 104, 2) := by decide +kernel
theorem dX4_hash_79 : decode cX4_hash 79 = .ok (.imul, 1) := by decide +kernel
theorem dX4_hash_80 : decode cX4_hash 80 = .ok (.istore_n 2, 1) := by decide +kernel
theorem dX4_hash_81 : decode cX4_hash 81 = .ok (.iload_n 2, 1) := by decide +kernel
theorem dX4_hash_82 : decode cX4_hash 82 = .ok (.bipush 16, 2) := by decide +kernel
theorem dX4_hash_84 : decode cX4_hash 84 = .ok (.iushr, 1) := by decide +kernel
theorem dX4_hash_85 : decode cX4_hash 85 = .ok (.ireturn, 1) := by decide +kernel
theorem dX4_isAlike_0 : decode cX4_isAlike 0 = .ok (.aload_n 0, 1) := by decide +kernel
theorem dX4_isAlike_1 : decode cX4_isAlike 1 = .ok (.getfield 53, 3) := by decide +kernel
theorem dX4_isAlike_4 : decode cX4_isAlike 4 = .ok (.getfield 94, 3) := by decide +kernel
theorem dX4_isAlike_7 : decode cX4_isAlike 7 = .ok (.aload_n 0, 1) := by decide +kernel
theorem dX4_isAlike_8 : decode cX4_isAlike 8 = .ok (.getfield 62, 3) := by decide +kernel
theorem dX4_isAlike_11 : decode cX4_isAlike 11 = .ok (.iload_n 1, 1) := by decide +kernel
theorem dX4_isAlike_12 : decode cX4_isAlike 12 = .ok (.iadd, 1) := by decide +kernel
theorem dX4_isAlike_13 : decode cX4_isAlike 13 = .ok (.iaload, 1) := by decide +kernel
theorem dX4_isAlike_14 : decode cX4_isAlike 14 = .ok (.aload_n 0, 1) := by decide +kernel
theorem dX4_isAlike_15 : decode cX4_isAlike 15 = .ok (.getfield 53, 3) := by decide +kernel
theorem dX4_isAlike_18 : decode cX4_isAlike 18 = .ok (.getfield 94, 3) := by decide +kernel
theorem dX4_isAlike_21 : decode cX4_isAlike 21 = .ok (.aload_n 0, 1) := by decide +kernel
theorem dX4_isAlike_22 : decode cX4_isAlike 22 = .ok (.getfield 62, 3) := by decide +kernel
theorem dX4_isAlike_25 : decode cX4_isAlike 25 = .ok (.iload_n 2, 1) := by decide +kernel
theorem dX4_isAlike_26 : decode cX4_isAlike 26 = .ok (.iadd, 1) := by decide +kernel
theorem dX4_isAlike_27 : decode cX4_isAlike 27 = .ok (.iaload, 1) := by decide +kernel
theorem dX4_isAlike_28 : decode cX4_isAlike 28 = .ok (.if_icmp .eq 5, 3) := by decide +kernel
theorem dX4_isAlike_31 : decode cX4_isAlike 31 = .ok (.iconst 0, 1) := by decide +kernel
theorem dX4_isAlike_32 : decode cX4_isAlike 32 = .ok (.ireturn, 1) := by decide +kernel
theorem dX4_isAlike_33 : decode cX4_isAlike 33 = .ok (.aload_n 0, 1) := by decide +kernel
theorem dX4_isAlike_34 : decode cX4_isAlike 34 = .ok (.getfield 53, 3) := by decide +kernel
theorem dX4_isAlike_37 : decode cX4_isAlike 37 = .ok (.getfield 97, 3) := by decide +kernel
theorem dX4_isAlike_40 : decode cX4_isAlike 40 = .ok (.aload_n 0, 1) := by decide +kernel
theorem dX4_isAlike_41 : decode cX4_isAlike 41 = .ok (.getfield 62, 3) := by decide +kernel
theorem dX4_isAlike_44 : decode cX4_isAlike 44 = .ok (.iload_n 1, 1) := by decide +kernel
theorem dX4_isAlike_45 : decode cX4_isAlike 45 = .ok (.iadd, 1) := by decide +kernel
theorem dX4_isAlike_46 : decode cX4_isAlike 46 = .ok (.iaload, 1) := by decide +kernel
theorem dX4_isAlike_47 : decode cX4_isAlike 47 = .ok (.istore_n 3, 1) := by decide +kernel
theorem dX4_isAlike_48 : decode cX4_isAlike 48 = .ok (.aload_n 0, 1) := by decide +kernel
theorem dX4_isAlike_49 : decode cX4_isAlike 49 = .ok (.getfield 53, 3) := by decide +kernel
theorem dX4_isAlike_52 : decode cX4_isAlike 52 = .ok (.getfield 97, 3) := by decide +kernel
theorem dX4_isAlike_55 : decode cX4_isAlike 55 = .ok (.aload_n 0, 1) := by decide +kernel
theorem dX4_isAlike_56 : decode cX4_isAlike 56 = .ok (.getfield 62, 3) := by decide +kernel
theorem dX4_isAlike_59 : decode cX4_isAlike 59 = .ok (.iload_n 2, 1) := by decide +kernel
theorem dX4_isAlike_60 : decode cX4_isAlike 60 = .ok (.iadd, 1) := by decide +kernel
theorem dX4_isAlike_61 : decode cX4_isAlike 61 = .ok (.iaload, 1) := by decide +kernel
theorem dX4_isAlike_62 : decode cX4_isAlike 62 = .ok (.istore 4, 2) := by decide +kernel
theorem dX4_isAlike_64 : decode cX4_isAlike 64 = .ok (.iconst 0, 1) := by decide +kernel
theorem dX4_isAlike_65 : decode cX4_isAlike 65 = .ok (.istore 5, 2) := by decide +kernel
theorem dX4_isAlike_67 : decode cX4_isAlike 67 = .ok (.iload 5, 2) := by decide +kernel
theorem dX4_isAlike_69 : decode cX4_isAlike 69 = .ok (.aload_n 0, 1) := by decide +kernel
theorem dX4_isAlike_70 : decode cX4_isAlike 70 = .ok (.getfield 53, 3) := by decide +kernel
theorem dX4_isAlike_73 : decode cX4_isAlike 73 = .ok (.aload_n 0, 1) := by decide +kernel
theorem dX4_isAlike_74 : decode cX4_isAlike 74 = .ok (.getfield 62, 3) := by decide +kernel
theorem dX4_isAlike_77 : decode cX4_isAlike 77 = .ok (.iload_n 1, 1) := by decide +kernel
theorem dX4_isAlike_78 : decode cX4_isAlike 78 = .ok (.iadd, 1) := by decide +kernel
theorem dX4_isAlike_79 : decode cX4_isAlike 79 = .ok (.invokevirtual 105, 3) := by decide +kernel
theorem dX4_isAlike_82 : decode cX4_isAlike 82 = .ok (.if_icmp .ge 49, 3) := by decide +kernel
theorem dX4_isAlike_85 : decode cX4_isAlike 85 = .ok (.aload_n 0, 1) := by decide +kernel
theorem dX4_isAlike_86 : decode cX4_isAlike 86 = .ok (.getfield 9, 3) := by decide +kernel
theorem dX4_isAlike_89 : decode cX4_isAlike 89 = .ok (.aload_n 0, 1) := by decide +kernel
theorem dX4_isAlike_90 : decode cX4_isAlike 90 = .ok (.getfield 53, 3) := by decide +kernel
theorem dX4_isAlike_93 : decode cX4_isAlike 93 = .ok (.getfield 101, 3) := by decide +kernel
theorem dX4_isAlike_96 : decode cX4_isAlike 96 = .ok (.iload_n 3, 1) := by decide +kernel
theorem dX4_isAlike_97 : decode cX4_isAlike 97 = .ok (.iload 5, 2) := by decide +kernel
theorem dX4_isAlike_99 : decode cX4_isAlike 99 = .ok (.iadd, 1) := by decide +kernel
theorem dX4_isAlike_100 : decode cX4_isAlike 100 = .ok (.iaload, 1) := by decide +kernel
theorem dX4_isAlike_101 : decode cX4_isAlike 101 = .ok (.iaload, 1) := by decide +kernel
theorem dX4_isAlike_102 : decode cX4_isAlike 102 = .ok (.aload_n 0, 1) := by decide +kernel
theorem dX4_isAlike_103 : decode cX4_isAlike 103 = .ok (.getfield 9, 3) := by decide +kernel
theorem dX4_isAlike_106 : decode cX4_isAlike 106 = .ok (.aload_n 0, 1) := by decide +kernel
theorem dX4_isAlike_107 : decode cX4_isAlike 107 = .ok (.getfield 53, 3) := by decide +kernel
theorem dX4_isAlike_110 : decode cX4_isAlike 110 = .ok (.getfield 101, 3) := by decide +kernel
theorem dX4_isAlike_113 : decode cX4_isAlike 113 = .ok (.iload 4, 2) := by decide +kernel
theorem dX4_isAlike_115 : decode cX4_isAlike 115 = .ok (.iload 5, 2) := by decide +kernel
theorem dX4_isAlike_117 : decode cX4_isAlike 117 = .ok (.iadd, 1) := by decide +kernel
theorem dX4_isAlike_118 : decode cX4_isAlike 118 = .ok (.iaload, 1) := by decide +kernel
theorem dX4_isAlike_119 : decode cX4_isAlike 119 = .ok (.iaload, 1) := by decide +kernel
theorem dX4_isAlike_120 : decode cX4_isAlike 120 = .ok (.if_icmp .eq 5, 3) := by decide +kernel
theorem dX4_isAlike_123 : decode cX4_isAlike 123 = .ok (.iconst 0, 1) := by decide +kernel
theorem dX4_isAlike_124 : decode cX4_isAlike 124 = .ok (.ireturn, 1) := by decide +kernel
theorem dX4_isAlike_125 : decode cX4_isAlike 125 = .ok (.iinc 5 1, 3) := by decide +kernel
theorem dX4_isAlike_128 : decode cX4_isAlike 128 = .ok (.goto (-61), 3) := by decide +kernel
theorem dX4_isAlike_131 : decode cX4_isAlike 131 = .ok (.iconst 1, 1) := by decide +kernel
theorem dX4_isAlike_132 : decode cX4_isAlike 132 = .ok (.ireturn, 1) := by decide +kernel
theorem dX4_walk_0 : decode cX4_walk 0 = .ok (.aload_n 0, 1) := by decide +kernel
theorem dX4_walk_1 : decode cX4_walk 1 = .ok (.iconst 0, 1) := by decide +kernel
theorem dX4_walk_2 : decode cX4_walk 2 = .ok (.putfield 108, 3) := by decide +kernel
theorem dX4_walk_5 : decode cX4_walk 5 = .ok (.aload_n 0, 1) := by decide +kernel
theorem dX4_walk_6 : decode cX4_walk 6 = .ok (.iconst 0, 1) := by decide +kernel
theorem dX4_walk_7 : decode cX4_walk 7 = .ok (.putfield 111, 3) := by decide +kernel
theorem dX4_walk_10 : decode cX4_walk 10 = .ok (.aload_n 0, 1) := by decide +kernel
theorem dX4_walk_11 : decode cX4_walk 11 = .ok (.iload_n 1, 1) := by decide +kernel
theorem dX4_walk_12 : decode cX4_walk 12 = .ok (.iload_n 2, 1) := by decide +kernel
theorem dX4_walk_13 : decode cX4_walk 13 = .ok (.invokevirtual 114, 3) := by decide +kernel
theorem dX4_walk_16 : decode cX4_walk 16 = .ok (.iconst 0, 1) := by decide +kernel
theorem dX4_walk_17 : decode cX4_walk 17 = .ok (.istore_n 3, 1) := by decide +kernel
theorem dX4_walk_18 : decode cX4_walk 18 = .ok (.iload_n 3, 1) := by decide +kernel
theorem dX4_walk_19 : decode cX4_walk 19 = .ok (.ldc 117, 2) := by decide +kernel
theorem dX4_walk_21 : decode cX4_walk 21 = .ok (.if_icmp .ge 147, 3) := by decide +kernel
theorem dX4_walk_24 : decode cX4_walk 24 = .ok (.aload_n 0, 1) := by decide +kernel
theorem dX4_walk_25 : decode cX4_walk 25 = .ok (.getfield 111, 3) := by decide +kernel
theorem dX4_walk_28 : decode cX4_walk 28 = .ok (.ifCond .le 140, 3) := by decide +kernel
theorem dX4_walk_31 : decode cX4_walk 31 = .ok (.aload_n 0, 1) := by decide +kernel
theorem dX4_walk_32 : decode cX4_walk 32 = .ok (.getfield 37, 3) := by decide +kernel
theorem dX4_walk_35 : decode cX4_walk 35 = .ok (.aload_n 0, 1) := by decide +kernel
theorem dX4_walk_36 : decode cX4_walk 36 = .ok (.getfield 111, 3) := by decide +kernel
theorem dX4_walk_39 : decode cX4_walk 39 = .ok (.iconst 1, 1) := by decide +kernel
theorem dX4_walk_40 : decode cX4_walk 40 = .ok (.isub, 1) := by decide +kernel
theorem dX4_walk_41 : decode cX4_walk 41 = .ok (.iaload, 1) := by decide +kernel
theorem dX4_walk_42 : decode cX4_walk 42 = .ok (.istore 4, 2) := by decide +kernel
theorem dX4_walk_44 : decode cX4_walk 44 = .ok (.aload_n 0, 1) := by decide +kernel
theorem dX4_walk_45 : decode cX4_walk 45 = .ok (.getfield 40, 3) := by decide +kernel
theorem dX4_walk_48 : decode cX4_walk 48 = .ok (.aload_n 0, 1) := by decide +kernel
theorem dX4_walk_49 : decode cX4_walk 49 = .ok (.getfield 111, 3) := by decide +kernel
theorem dX4_walk_52 : decode cX4_walk 52 = .ok (.iconst 1, 1) := by decide +kernel
theorem dX4_walk_53 : decode cX4_walk 53 = .ok (.isub, 1) := by decide +kernel
theorem dX4_walk_54 : decode cX4_walk 54 = .ok (.iaload, 1) := by decide +kernel
theorem dX4_walk_55 : decode cX4_walk 55 = .ok (.istore 5, 2) := by decide +kernel
theorem dX4_walk_57 : decode cX4_walk 57 = .ok (.iload 5, 2) := by decide +kernel
theorem dX4_walk_59 : decode cX4_walk 59 = .ok (.aload_n 0, 1) := by decide +kernel
theorem dX4_walk_60 : decode cX4_walk 60 = .ok (.getfield 53, 3) := by decide +kernel
theorem dX4_walk_63 : decode cX4_walk 63 = .ok (.aload_n 0, 1) := by decide +kernel
theorem dX4_walk_64 : decode cX4_walk 64 = .ok (.getfield 62, 3) := by decide +kernel
theorem dX4_walk_67 : decode cX4_walk 67 = .ok (.iload 4, 2) := by decide +kernel
theorem dX4_walk_69 : decode cX4_walk 69 = .ok (.iadd, 1) := by decide +kernel
theorem dX4_walk_70 : decode cX4_walk 70 = .ok (.invokevirtual 105, 3) := by decide +kernel
theorem dX4_walk_73 : decode cX4_walk 73 = .ok (.if_icmp .ge 52, 3) := by decide +kernel
theorem dX4_walk_76 : decode cX4_walk 76 = .ok (.aload_n 0, 1) := by decide +kernel
theorem dX4_walk_77 : decode cX4_walk 77 = .ok (.getfield 40, 3) := by decide +kernel
theorem dX4_walk_80 : decode cX4_walk 80 = .ok (.aload_n 0, 1) := by decide +kernel
theorem dX4_walk_81 : decode cX4_walk 81 = .ok (.getfield 111, 3) := by decide +kernel
theorem dX4_walk_84 : decode cX4_walk 84 = .ok (.iconst 1, 1) := by decide +kernel
theorem dX4_walk_85 : decode cX4_walk 85 = .ok (.isub, 1) := by decide +kernel
theorem dX4_walk_86 : decode cX4_walk 86 = .ok (.dup2, 1) := by decide +kernel
theorem dX4_walk_87 : decode cX4_walk 87 = .ok (.iaload, 1) := by decide +kernel
theorem dX4_walk_88 : decode cX4_walk 88 = .ok (.iconst 1, 1) := by decide +kernel
theorem dX4_walk_89 : decode cX4_walk 89 = .ok (.iadd, 1) := by decide +kernel
theorem dX4_walk_90 : decode cX4_walk 90 = .ok (.iastore, 1) := by decide +kernel
theorem dX4_walk_91 : decode cX4_walk 91 = .ok (.aload_n 0, 1) := by decide +kernel
theorem dX4_walk_92 : decode cX4_walk 92 = .ok (.aload_n 0, 1) := by decide +kernel
theorem dX4_walk_93 : decode cX4_walk 93 = .ok (.getfield 53, 3) := by decide +kernel
theorem dX4_walk_96 : decode cX4_walk 96 = .ok (.getfield 101, 3) := by decide +kernel
theorem dX4_walk_99 : decode cX4_walk 99 = .ok (.aload_n 0, 1) := by decide +kernel
theorem dX4_walk_100 : decode cX4_walk 100 = .ok (.getfield 53, 3) := by decide +kernel
theorem dX4_walk_103 : decode cX4_walk 103 = .ok (.getfield 97, 3) := by decide +kernel
theorem dX4_walk_106 : decode cX4_walk 106 = .ok (.aload_n 0, 1) := by decide +kernel
theorem dX4_walk_107 : decode cX4_walk 107 = .ok (.getfield 62, 3) := by decide +kernel
theorem dX4_walk_110 : decode cX4_walk 110 = .ok (.iload 4, 2) := by decide +kernel
theorem dX4_walk_112 : decode cX4_walk 112 = .ok (.iadd, 1) := by decide +kernel
theorem dX4_walk_113 : decode cX4_walk 113 = .ok (.iaload, 1) := by decide +kernel
theorem dX4_walk_114 : decode cX4_walk 114 = .ok (.iload 5, 2) := by decide +kernel
theorem dX4_walk_116 : decode cX4_walk 116 = .ok (.iadd, 1) := by decide +kernel
theorem dX4_walk_117 : decode cX4_walk 117 = .ok (.iaload, 1) := by decide +kernel
theorem dX4_walk_118 : decode cX4_walk 118 = .ok (.iload_n 2, 1) := by decide +kernel
theorem dX4_walk_119 : decode cX4_walk 119 = .ok (.invokevirtual 114, 3) := by decide +kernel
theorem dX4_walk_122 : decode cX4_walk 122 = .ok (.goto 40, 3) := by decide +kernel
theorem dX4_walk_125 : decode cX4_walk 125 = .ok (.aload_n 0, 1) := by decide +kernel
theorem dX4_walk_126 : decode cX4_walk 126 = .ok (.dup, 1) := by decide +kernel
theorem dX4_walk_127 : decode cX4_walk 127 = .ok (.getfield 111, 3) := by decide +kernel
theorem dX4_walk_130 : decode cX4_walk 130 = .ok (.iconst 1, 1) := by decide +kernel
theorem dX4_walk_131 : decode cX4_walk 131 = .ok (.isub, 1) := by decide +kernel
theorem dX4_walk_132 : decode cX4_walk 132 = .ok (.putfield 111, 3) := by decide +kernel
theorem dX4_walk_135 : decode cX4_walk 135 = .ok (.aload_n 0, 1) := by decide +kernel
theorem dX4_walk_136 : decode cX4_walk 136 = .ok (.iload 4, 2) := by decide +kernel
theorem dX4_walk_138 : decode cX4_walk 138 = .ok (.invokevirtual 118, 3) := by decide +kernel
theorem dX4_walk_141 : decode cX4_walk 141 = .ok (.aload_n 0, 1) := by decide +kernel
theorem dX4_walk_142 : decode cX4_walk 142 = .ok (.getfield 22, 3) := by decide +kernel
theorem dX4_walk_145 : decode cX4_walk 145 = .ok (.aload_n 0, 1) := by decide +kernel
theorem dX4_walk_146 : decode cX4_walk 146 = .ok (.getfield 9, 3) := by decide +kernel
theorem dX4_walk_149 : decode cX4_walk 149 = .ok (.iload 4, 2) := by decide +kernel
theorem dX4_walk_151 : decode cX4_walk 151 = .ok (.iaload, 1) := by decide +kernel
theorem dX4_walk_152 : decode cX4_walk 152 = .ok (.iload_n 2, 1) := by decide +kernel
theorem dX4_walk_153 : decode cX4_walk 153 = .ok (.ifCond .eq 7, 3) := by decide +kernel
theorem dX4_walk_156 : decode cX4_walk 156 = .ok (.iconst 1, 1) := by decide +kernel
theorem dX4_walk_157 : decode cX4_walk 157 = .ok (.goto 4, 3) := by decide +kernel
theorem dX4_walk_160 : decode cX4_walk 160 = .ok (.iconst 0, 1) := by decide +kernel
theorem dX4_walk_161 : decode cX4_walk 161 = .ok (.iastore, 1) := by decide +kernel
theorem dX4_walk_162 : decode cX4_walk 162 = .ok (.iinc 3 1, 3) := by decide +kernel
theorem dX4_walk_165 : decode cX4_walk 165 = .ok (.goto (-147), 3) := by decide +kernel
theorem dX4_walk_168 : decode cX4_walk 168 = .ok (.return_, 1) := by decide +kernel
theorem dX4_enter_0 : decode cX4_enter 0 = .ok (.aload_n 0, 1) := by decide +kernel
theorem dX4_enter_1 : decode cX4_enter 1 = .ok (.getfield 53, 3) := by decide +kernel
theorem dX4_enter_4 : decode cX4_enter 4 = .ok (.aload_n 0, 1) := by decide +kernel
theorem dX4_enter_5 : decode cX4_enter 5 = .ok (.getfield 62, 3) := by decide +kernel
theorem dX4_enter_8 : decode cX4_enter 8 = .ok (.iload_n 1, 1) := by decide +kernel
theorem dX4_enter_9 : decode cX4_enter 9 = .ok (.iadd, 1) := by decide +kernel
theorem dX4_enter_10 : decode cX4_enter 10 = .ok (.invokevirtual 105, 3) := by decide +kernel
theorem dX4_enter_13 : decode cX4_enter 13 = .ok (.ifCond .ne 11, 3) := by decide +kernel
theorem dX4_enter_16 : decode cX4_enter 16 = .ok (.aload_n 0, 1) := by decide +kernel
theorem dX4_enter_17 : decode cX4_enter 17 = .ok (.iload_n 1, 1) := by decide +kernel
theorem dX4_enter_18 : decode cX4_enter 18 = .ok (.invokevirtual 118, 3) := by decide +kernel
theorem dX4_enter_21 : decode cX4_enter 21 = .ok (.goto 91, 3) := by decide +kernel
theorem dX4_enter_24 : decode cX4_enter 24 = .ok (.iload_n 2, 1) := by decide +kernel
theorem dX4_enter_25 : decode cX4_enter 25 = .ok (.ifCond .eq 47, 3) := by decide +kernel
theorem dX4_enter_28 : decode cX4_enter 28 = .ok (.aload_n 0, 1) := by decide +kernel
theorem dX4_enter_29 : decode cX4_enter 29 = .ok (.getfield 22, 3) := by decide +kernel
theorem dX4_enter_32 : decode cX4_enter 32 = .ok (.aload_n 0, 1) := by decide +kernel
theorem dX4_enter_33 : decode cX4_enter 33 = .ok (.getfield 9, 3) := by decide +kernel
theorem dX4_enter_36 : decode cX4_enter 36 = .ok (.iload_n 1, 1) := by decide +kernel
theorem dX4_enter_37 : decode cX4_enter 37 = .ok (.iaload, 1) := by decide +kernel
theorem dX4_enter_38 : decode cX4_enter 38 = .ok (.iaload, 1) := by decide +kernel
theorem dX4_enter_39 : decode cX4_enter 39 = .ok (.ifCond .le 33, 3) := by decide +kernel
theorem dX4_enter_42 : decode cX4_enter 42 = .ok (.aload_n 0, 1) := by decide +kernel
theorem dX4_enter_43 : decode cX4_enter 43 = .ok (.getfield 22, 3) := by decide +kernel
theorem dX4_enter_46 : decode cX4_enter 46 = .ok (.aload_n 0, 1) := by decide +kernel
theorem dX4_enter_47 : decode cX4_enter 47 = .ok (.getfield 9, 3) := by decide +kernel
theorem dX4_enter_50 : decode cX4_enter 50 = .ok (.iload_n 1, 1) := by decide +kernel
theorem dX4_enter_51 : decode cX4_enter 51 = .ok (.iaload, 1) := by decide +kernel
theorem dX4_enter_52 : decode cX4_enter 52 = .ok (.dup2, 1) := by decide +kernel
theorem dX4_enter_53 : decode cX4_enter 53 = .ok (.iaload, 1) := by decide +kernel
theorem dX4_enter_54 : decode cX4_enter 54 = .ok (.iconst 1, 1) := by decide +kernel
theorem dX4_enter_55 : decode cX4_enter 55 = .ok (.iadd, 1) := by decide +kernel
theorem dX4_enter_56 : decode cX4_enter 56 = .ok (.iastore, 1) := by decide +kernel
theorem dX4_enter_57 : decode cX4_enter 57 = .ok (.aload_n 0, 1) := by decide +kernel
theorem dX4_enter_58 : decode cX4_enter 58 = .ok (.aload_n 0, 1) := by decide +kernel
theorem dX4_enter_59 : decode cX4_enter 59 = .ok (.getfield 9, 3) := by decide +kernel
theorem dX4_enter_62 : decode cX4_enter 62 = .ok (.iload_n 1, 1) := by decide +kernel
theorem dX4_enter_63 : decode cX4_enter 63 = .ok (.iaload, 1) := by decide +kernel
theorem dX4_enter_64 : decode cX4_enter 64 = .ok (.iconst (-1), 1) := by decide +kernel
theorem dX4_enter_65 : decode cX4_enter 65 = .ok (.ixor, 1) := by decide +kernel
theorem dX4_enter_66 : decode cX4_enter 66 = .ok (.invokevirtual 118, 3) := by decide +kernel
theorem dX4_enter_69 : decode cX4_enter 69 = .ok (.goto 43, 3) := by decide +kernel
theorem dX4_enter_72 : decode cX4_enter 72 = .ok (.aload_n 0, 1) := by decide +kernel
theorem dX4_enter_73 : decode cX4_enter 73 = .ok (.getfield 111, 3) := by decide +kernel
theorem dX4_enter_76 : decode cX4_enter 76 = .ok (.sipush 20000, 3) := by decide +kernel
theorem dX4_enter_79 : decode cX4_enter 79 = .ok (.if_icmp .ge 33, 3) := by decide +kernel
theorem dX4_enter_82 : decode cX4_enter 82 = .ok (.aload_n 0, 1) := by decide +kernel
theorem dX4_enter_83 : decode cX4_enter 83 = .ok (.getfield 37, 3) := by decide +kernel
theorem dX4_enter_86 : decode cX4_enter 86 = .ok (.aload_n 0, 1) := by decide +kernel
theorem dX4_enter_87 : decode cX4_enter 87 = .ok (.getfield 111, 3) := by decide +kernel
theorem dX4_enter_90 : decode cX4_enter 90 = .ok (.iload_n 1, 1) := by decide +kernel
theorem dX4_enter_91 : decode cX4_enter 91 = .ok (.iastore, 1) := by decide +kernel
theorem dX4_enter_92 : decode cX4_enter 92 = .ok (.aload_n 0, 1) := by decide +kernel
theorem dX4_enter_93 : decode cX4_enter 93 = .ok (.getfield 40, 3) := by decide +kernel
theorem dX4_enter_96 : decode cX4_enter 96 = .ok (.aload_n 0, 1) := by decide +kernel
theorem dX4_enter_97 : decode cX4_enter 97 = .ok (.getfield 111, 3) := by decide +kernel
theorem dX4_enter_100 : decode cX4_enter 100 = .ok (.iconst 0, 1) := by decide +kernel
theorem dX4_enter_101 : decode cX4_enter 101 = .ok (.iastore, 1) := by decide +kernel
theorem dX4_enter_102 : decode cX4_enter 102 = .ok (.aload_n 0, 1) := by decide +kernel
theorem dX4_enter_103 : decode cX4_enter 103 = .ok (.dup, 1) := by decide +kernel
theorem dX4_enter_104 : decode cX4_enter 104 = .ok (.getfield 111, 3) := by decide +kernel
theorem dX4_enter_107 : decode cX4_enter 107 = .ok (.iconst 1, 1) := by decide +kernel
theorem dX4_enter_108 : decode cX4_enter 108 = .ok (.iadd, 1) := by decide +kernel
theorem dX4_enter_109 : decode cX4_enter 109 = .ok (.putfield 111, 3) := by decide +kernel
theorem dX4_enter_112 : decode cX4_enter 112 = .ok (.return_, 1) := by decide +kernel
theorem dX4_tell_0 : decode cX4_tell 0 = .ok (.aload_n 0, 1) := by decide +kernel
theorem dX4_tell_1 : decode cX4_tell 1 = .ok (.getfield 108, 3) := by decide +kernel
theorem dX4_tell_4 : decode cX4_tell 4 = .ok (.aload_n 0, 1) := by decide +kernel
theorem dX4_tell_5 : decode cX4_tell 5 = .ok (.getfield 34, 3) := by decide +kernel
theorem dX4_tell_8 : decode cX4_tell 8 = .ok (.arraylength, 1) := by decide +kernel
theorem dX4_tell_9 : decode cX4_tell 9 = .ok (.if_icmp .ge 23, 3) := by decide +kernel
theorem dX4_tell_12 : decode cX4_tell 12 = .ok (.aload_n 0, 1) := by decide +kernel
theorem dX4_tell_13 : decode cX4_tell 13 = .ok (.getfield 34, 3) := by decide +kernel
theorem dX4_tell_16 : decode cX4_tell 16 = .ok (.aload_n 0, 1) := by decide +kernel
theorem dX4_tell_17 : decode cX4_tell 17 = .ok (.getfield 108, 3) := by decide +kernel
theorem dX4_tell_20 : decode cX4_tell 20 = .ok (.iload_n 1, 1) := by decide +kernel
theorem dX4_tell_21 : decode cX4_tell 21 = .ok (.iastore, 1) := by decide +kernel
theorem dX4_tell_22 : decode cX4_tell 22 = .ok (.aload_n 0, 1) := by decide +kernel
theorem dX4_tell_23 : decode cX4_tell 23 = .ok (.dup, 1) := by decide +kernel
theorem dX4_tell_24 : decode cX4_tell 24 = .ok (.getfield 108, 3) := by decide +kernel
theorem dX4_tell_27 : decode cX4_tell 27 = .ok (.iconst 1, 1) := by decide +kernel
theorem dX4_tell_28 : decode cX4_tell 28 = .ok (.iadd, 1) := by decide +kernel
theorem dX4_tell_29 : decode cX4_tell 29 = .ok (.putfield 108, 3) := by decide +kernel
theorem dX4_tell_32 : decode cX4_tell 32 = .ok (.return_, 1) := by decide +kernel
theorem dX4_giveNumbers_0 : decode cX4_giveNumbers 0 = .ok (.aload_n 0, 1) := by decide +kernel
theorem dX4_giveNumbers_1 : decode cX4_giveNumbers 1 = .ok (.getfield 28, 3) := by decide +kernel
theorem dX4_giveNumbers_4 : decode cX4_giveNumbers 4 = .ok (.iconst 0, 1) := by decide +kernel
theorem dX4_giveNumbers_5 : decode cX4_giveNumbers 5 = .ok (.invokestatic 121, 3) := by decide +kernel
theorem dX4_giveNumbers_8 : decode cX4_giveNumbers 8 = .ok (.aload_n 0, 1) := by decide +kernel
theorem dX4_giveNumbers_9 : decode cX4_giveNumbers 9 = .ok (.getfield 53, 3) := by decide +kernel
theorem dX4_giveNumbers_12 : decode cX4_giveNumbers 12 = .ok (.getfield 124, 3) := by decide +kernel
theorem dX4_giveNumbers_15 : decode cX4_giveNumbers 15 = .ok (.iload_n 1, 1) := by decide +kernel
theorem dX4_giveNumbers_16 : decode cX4_giveNumbers 16 = .ok (.iaload, 1) := by decide +kernel
theorem dX4_giveNumbers_17 : decode cX4_giveNumbers 17 = .ok (.istore_n 2, 1) := by decide +kernel
theorem dX4_giveNumbers_18 : decode cX4_giveNumbers 18 = .ok (.iconst 0, 1) := by decide +kernel
theorem dX4_giveNumbers_19 : decode cX4_giveNumbers 19 = .ok (.istore_n 3, 1) := by decide +kernel
theorem dX4_giveNumbers_20 : decode cX4_giveNumbers 20 = .ok (.iload_n 3, 1) := by decide +kernel
theorem dX4_giveNumbers_21 : decode cX4_giveNumbers 21 = .ok (.iload_n 2, 1) := by decide +kernel
theorem dX4_giveNumbers_22 : decode cX4_giveNumbers 22 = .ok (.if_icmp .ge 36, 3) := by decide +kernel
theorem dX4_giveNumbers_25 : decode cX4_giveNumbers 25 = .ok (.aload_n 0, 1) := by decide +kernel
theorem dX4_giveNumbers_26 : decode cX4_giveNumbers 26 = .ok (.getfield 28, 3) := by decide +kernel
theorem dX4_giveNumbers_29 : decode cX4_giveNumbers 29 = .ok (.aload_n 0, 1) := by decide +kernel
theorem dX4_giveNumbers_30 : decode cX4_giveNumbers 30 = .ok (.getfield 53, 3) := by decide +kernel
theorem dX4_giveNumbers_33 : decode cX4_giveNumbers 33 = .ok (.getfield 127, 3) := by decide +kernel
theorem dX4_giveNumbers_36 : decode cX4_giveNumbers 36 = .ok (.aload_n 0, 1) := by decide +kernel
theorem dX4_giveNumbers_37 : decode cX4_giveNumbers 37 = .ok (.getfield 53, 3) := by decide +kernel
theorem dX4_giveNumbers_40 : decode cX4_giveNumbers 40 = .ok (.getfield 130, 3) := by decide +kernel
theorem dX4_giveNumbers_43 : decode cX4_giveNumbers 43 = .ok (.iload_n 1, 1) := by decide +kernel
theorem dX4_giveNumbers_44 : decode cX4_giveNumbers 44 = .ok (.iaload, 1) := by decide +kernel
theorem dX4_giveNumbers_45 : decode cX4_giveNumbers 45 = .ok (.iload_n 3, 1) := by decide +kernel
theorem dX4_giveNumbers_46 : decode cX4_giveNumbers 46 = .ok (.iadd, 1) := by decide +kernel
theorem dX4_giveNumbers_47 : decode cX4_giveNumbers 47 = .ok (.iaload, 1) := by decide +kernel
theorem dX4_giveNumbers_48 : decode cX4_giveNumbers 48 = .ok (.iload_n 3, 1) := by decide +kernel
theorem dX4_giveNumbers_49 : decode cX4_giveNumbers 49 = .ok (.iconst 1, 1) := by decide +kernel
theorem dX4_giveNumbers_50 : decode cX4_giveNumbers 50 = .ok (.iadd, 1) := by decide +kernel
theorem dX4_giveNumbers_51 : decode cX4_giveNumbers 51 = .ok (.iastore, 1) := by decide +kernel
theorem dX4_giveNumbers_52 : decode cX4_giveNumbers 52 = .ok (.iinc 3 1, 3) := by decide +kernel
theorem dX4_giveNumbers_55 : decode cX4_giveNumbers 55 = .ok (.goto (-35), 3) := by decide +kernel
theorem dX4_giveNumbers_58 : decode cX4_giveNumbers 58 = .ok (.aload_n 0, 1) := by decide +kernel
theorem dX4_giveNumbers_59 : decode cX4_giveNumbers 59 = .ok (.iconst 0, 1) := by decide +kernel
theorem dX4_giveNumbers_60 : decode cX4_giveNumbers 60 = .ok (.putfield 133, 3) := by decide +kernel
theorem dX4_giveNumbers_63 : decode cX4_giveNumbers 63 = .ok (.iconst 0, 1) := by decide +kernel
theorem dX4_giveNumbers_64 : decode cX4_giveNumbers 64 = .ok (.istore_n 3, 1) := by decide +kernel
theorem dX4_giveNumbers_65 : decode cX4_giveNumbers 65 = .ok (.iload_n 3, 1) := by decide +kernel
theorem dX4_giveNumbers_66 : decode cX4_giveNumbers 66 = .ok (.aload_n 0, 1) := by decide +kernel
theorem dX4_giveNumbers_67 : decode cX4_giveNumbers 67 = .ok (.getfield 108, 3) := by decide +kernel
theorem dX4_giveNumbers_70 : decode cX4_giveNumbers 70 = .ok (.if_icmp .ge 66, 3) := by decide +kernel
theorem dX4_giveNumbers_73 : decode cX4_giveNumbers 73 = .ok (.aload_n 0, 1) := by decide +kernel
theorem dX4_giveNumbers_74 : decode cX4_giveNumbers 74 = .ok (.iload_n 3, 1) := by decide +kernel
theorem dX4_giveNumbers_75 : decode cX4_giveNumbers 75 = .ok (.invokevirtual 136, 3) := by decide +kernel
theorem dX4_giveNumbers_78 : decode cX4_giveNumbers 78 = .ok (.istore 4, 2) := by decide +kernel
theorem dX4_giveNumbers_80 : decode cX4_giveNumbers 80 = .ok (.iload 4, 2) := by decide +kernel
theorem dX4_giveNumbers_82 : decode cX4_giveNumbers 82 = .ok (.iconst (-1), 1) := by decide +kernel
theorem dX4_giveNumbers_83 : decode cX4_giveNumbers 83 = .ok (.if_icmp .eq 47, 3) := by decide +kernel
theorem dX4_giveNumbers_86 : decode cX4_giveNumbers 86 = .ok (.aload_n 0, 1) := by decide +kernel
theorem dX4_giveNumbers_87 : decode cX4_giveNumbers 87 = .ok (.getfield 28, 3) := by decide +kernel
theorem dX4_giveNumbers_90 : decode cX4_giveNumbers 90 = .ok (.iload 4, 2) := by decide +kernel
theorem dX4_giveNumbers_92 : decode cX4_giveNumbers 92 = .ok (.iaload, 1) := by decide +kernel
theorem dX4_giveNumbers_93 : decode cX4_giveNumbers 93 = .ok (.ifCond .ne 37, 3) := by decide +kernel
theorem dX4_giveNumbers_96 : decode cX4_giveNumbers 96 = .ok (.aload_n 0, 1) := by decide +kernel
theorem dX4_giveNumbers_97 : decode cX4_giveNumbers 97 = .ok (.getfield 31, 3) := by decide +kernel
theorem dX4_giveNumbers_100 : decode cX4_giveNumbers 100 = .ok (.aload_n 0, 1) := by decide +kernel
theorem dX4_giveNumbers_101 : decode cX4_giveNumbers 101 = .ok (.getfield 133, 3) := by decide +kernel
theorem dX4_giveNumbers_104 : decode cX4_giveNumbers 104 = .ok (.iload 4, 2) := by decide +kernel
theorem dX4_giveNumbers_106 : decode cX4_giveNumbers 106 = .ok (.iastore, 1) := by decide +kernel
theorem dX4_giveNumbers_107 : decode cX4_giveNumbers 107 = .ok (.aload_n 0, 1) := by decide +kernel
theorem dX4_giveNumbers_108 : decode cX4_giveNumbers 108 = .ok (.dup, 1) := by decide +kernel
theorem dX4_giveNumbers_109 : decode cX4_giveNumbers 109 = .ok (.getfield 133, 3) := by decide +kernel
theorem dX4_giveNumbers_112 : decode cX4_giveNumbers 112 = .ok (.iconst 1, 1) := by decide +kernel
theorem dX4_giveNumbers_113 : decode cX4_giveNumbers 113 = .ok (.iadd, 1) := by decide +kernel
theorem dX4_giveNumbers_114 : decode cX4_giveNumbers 114 = .ok (.putfield 133, 3) := by decide +kernel
theorem dX4_giveNumbers_117 : decode cX4_giveNumbers 117 = .ok (.aload_n 0, 1) := by decide +kernel
theorem dX4_giveNumbers_118 : decode cX4_giveNumbers 118 = .ok (.getfield 28, 3) := by decide +kernel
theorem dX4_giveNumbers_121 : decode cX4_giveNumbers 121 = .ok (.iload 4, 2) := by decide +kernel
theorem dX4_giveNumbers_123 : decode cX4_giveNumbers 123 = .ok (.iload_n 2, 1) := by decide +kernel
theorem dX4_giveNumbers_124 : decode cX4_giveNumbers 124 = .ok (.aload_n 0, 1) := by decide +kernel
theorem dX4_giveNumbers_125 : decode cX4_giveNumbers 125 = .ok (.getfield 133, 3) := by decide +kernel
theorem dX4_giveNumbers_128 : decode cX4_giveNumbers 128 = .ok (.iadd, 1) := by decide +kernel
theorem dX4_giveNumbers_129 : decode cX4_giveNumbers 129 = .ok (.iastore, 1) := by decide +kernel
theorem dX4_giveNumbers_130 : decode cX4_giveNumbers 130 = .ok (.iinc 3 1, 3) := by decide +kernel
theorem dX4_giveNumbers_133 : decode cX4_giveNumbers 133 = .ok (.goto (-68), 3) := by decide +kernel
theorem dX4_giveNumbers_136 : decode cX4_giveNumbers 136 = .ok (.iload_n 2, 1) := by decide +kernel
theorem dX4_giveNumbers_137 : decode cX4_giveNumbers 137 = .ok (.aload_n 0, 1) := by decide +kernel
theorem dX4_giveNumbers_138 : decode cX4_giveNumbers 138 = .ok (.getfield 133, 3) := by decide +kernel
theorem dX4_giveNumbers_141 : decode cX4_giveNumbers 141 = .ok (.iadd, 1) := by decide +kernel
theorem dX4_giveNumbers_142 : decode cX4_giveNumbers 142 = .ok (.istore_n 3, 1) := by decide +kernel
theorem dX4_giveNumbers_143 : decode cX4_giveNumbers 143 = .ok (.iconst 0, 1) := by decide +kernel
theorem dX4_giveNumbers_144 : decode cX4_giveNumbers 144 = .ok (.istore 4, 2) := by decide +kernel
theorem dX4_giveNumbers_146 : decode cX4_giveNumbers 146 = .ok (.iload 4, 2) := by decide +kernel
theorem dX4_giveNumbers_148 : decode cX4_giveNumbers 148 = .ok (.aload_n 0, 1) := by decide +kernel
theorem dX4_giveNumbers_149 : decode cX4_giveNumbers 149 = .ok (.getfield 108, 3) := by decide +kernel
theorem dX4_giveNumbers_152 : decode cX4_giveNumbers 152 = .ok (.if_icmp .ge 39, 3) := by decide +kernel
theorem dX4_giveNumbers_155 : decode cX4_giveNumbers 155 = .ok (.aload_n 0, 1) := by decide +kernel
theorem dX4_giveNumbers_156 : decode cX4_giveNumbers 156 = .ok (.iload 4, 2) := by decide +kernel
theorem dX4_giveNumbers_158 : decode cX4_giveNumbers 158 = .ok (.invokevirtual 139, 3) := by decide +kernel
theorem dX4_giveNumbers_161 : decode cX4_giveNumbers 161 = .ok (.ifCond .eq 24, 3) := by decide +kernel
theorem dX4_giveNumbers_164 : decode cX4_giveNumbers 164 = .ok (.iinc 3 1, 3) := by decide +kernel
theorem dX4_giveNumbers_167 : decode cX4_giveNumbers 167 = .ok (.aload_n 0, 1) := by decide +kernel
theorem dX4_giveNumbers_168 : decode cX4_giveNumbers 168 = .ok (.getfield 25, 3) := by decide +kernel
theorem dX4_giveNumbers_171 : decode cX4_giveNumbers 171 = .ok (.aload_n 0, 1) := by decide +kernel
theorem dX4_giveNumbers_172 : decode cX4_giveNumbers 172 = .ok (.getfield 9, 3) := by decide +kernel
theorem dX4_giveNumbers_175 : decode cX4_giveNumbers 175 = .ok (.aload_n 0, 1) := by decide +kernel
theorem dX4_giveNumbers_176 : decode cX4_giveNumbers 176 = .ok (.getfield 34, 3) := by decide +kernel
theorem dX4_giveNumbers_179 : decode cX4_giveNumbers 179 = .ok (.iload 4, 2) := by decide +kernel
theorem dX4_giveNumbers_181 : decode cX4_giveNumbers 181 = .ok (.iaload, 1) := by decide +kernel
theorem dX4_giveNumbers_182 : decode cX4_giveNumbers 182 = .ok (.iaload, 1) := by decide +kernel
theorem dX4_giveNumbers_183 : decode cX4_giveNumbers 183 = .ok (.iload_n 3, 1) := by decide +kernel
theorem dX4_giveNumbers_184 : decode cX4_giveNumbers 184 = .ok (.iastore, 1) := by decide +kernel
theorem dX4_giveNumbers_185 : decode cX4_giveNumbers 185 = .ok (.iinc 4 1, 3) := by decide +kernel
theorem dX4_giveNumbers_188 : decode cX4_giveNumbers 188 = .ok (.goto (-42), 3) := by decide +kernel
theorem dX4_giveNumbers_191 : decode cX4_giveNumbers 191 = .ok (.return_, 1) := by decide +kernel
theorem dX4_statementOf_0 : decode cX4_statementOf 0 = .ok (.aload_n 0, 1) := by decide +kernel
theorem dX4_statementOf_1 : decode cX4_statementOf 1 = .ok (.getfield 34, 3) := by decide +kernel
theorem dX4_statementOf_4 : decode cX4_statementOf 4 = .ok (.iload_n 1, 1) := by decide +kernel
theorem dX4_statementOf_5 : decode cX4_statementOf 5 = .ok (.iaload, 1) := by decide +kernel
theorem dX4_statementOf_6 : decode cX4_statementOf 6 = .ok (.ifCond .ge 7, 3) := by decide +kernel
theorem dX4_statementOf_9 : decode cX4_statementOf 9 = .ok (.iconst (-1), 1) := by decide +kernel
theorem dX4_statementOf_10 : decode cX4_statementOf 10 = .ok (.goto 22, 3) := by decide +kernel
theorem dX4_statementOf_13 : decode cX4_statementOf 13 = .ok (.aload_n 0, 1) := by decide +kernel
theorem dX4_statementOf_14 : decode cX4_statementOf 14 = .ok (.getfield 53, 3) := by decide +kernel
theorem dX4_statementOf_17 : decode cX4_statementOf 17 = .ok (.getfield 94, 3) := by decide +kernel
theorem dX4_statementOf_20 : decode cX4_statementOf 20 = .ok (.aload_n 0, 1) := by decide +kernel
theorem dX4_statementOf_21 : decode cX4_statementOf 21 = .ok (.getfield 62, 3) := by decide +kernel
theorem dX4_statementOf_24 : decode cX4_statementOf 24 = .ok (.aload_n 0, 1) := by decide +kernel
theorem dX4_statementOf_25 : decode cX4_statementOf 25 = .ok (.getfield 34, 3) := by decide +kernel
theorem dX4_statementOf_28 : decode cX4_statementOf 28 = .ok (.iload_n 1, 1) := by decide +kernel
theorem dX4_statementOf_29 : decode cX4_statementOf 29 = .ok (.iaload, 1) := by decide +kernel
theorem dX4_statementOf_30 : decode cX4_statementOf 30 = .ok (.iadd, 1) := by decide +kernel
theorem dX4_statementOf_31 : decode cX4_statementOf 31 = .ok (.iaload, 1) := by decide +kernel
theorem dX4_statementOf_32 : decode cX4_statementOf 32 = .ok (.ireturn, 1) := by decide +kernel
theorem dX4_numberOf_0 : decode cX4_numberOf 0 = .ok (.aload_n 0, 1) := by decide +kernel
theorem dX4_numberOf_1 : decode cX4_numberOf 1 = .ok (.getfield 34, 3) := by decide +kernel
theorem dX4_numberOf_4 : decode cX4_numberOf 4 = .ok (.iload_n 1, 1) := by decide +kernel
theorem dX4_numberOf_5 : decode cX4_numberOf 5 = .ok (.iaload, 1) := by decide +kernel
theorem dX4_numberOf_6 : decode cX4_numberOf 6 = .ok (.ifCond .ge 19, 3) := by decide +kernel
theorem dX4_numberOf_9 : decode cX4_numberOf 9 = .ok (.aload_n 0, 1) := by decide +kernel
theorem dX4_numberOf_10 : decode cX4_numberOf 10 = .ok (.getfield 25, 3) := by decide +kernel
theorem dX4_numberOf_13 : decode cX4_numberOf 13 = .ok (.aload_n 0, 1) := by decide +kernel
theorem dX4_numberOf_14 : decode cX4_numberOf 14 = .ok (.getfield 34, 3) := by decide +kernel
theorem dX4_numberOf_17 : decode cX4_numberOf 17 = .ok (.iload_n 1, 1) := by decide +kernel
theorem dX4_numberOf_18 : decode cX4_numberOf 18 = .ok (.iaload, 1) := by decide +kernel
theorem dX4_numberOf_19 : decode cX4_numberOf 19 = .ok (.iconst (-1), 1) := by decide +kernel
theorem dX4_numberOf_20 : decode cX4_numberOf 20 = .ok (.ixor, 1) := by decide +kernel
theorem dX4_numberOf_21 : decode cX4_numberOf 21 = .ok (.iaload, 1) := by decide +kernel
theorem dX4_numberOf_22 : decode cX4_numberOf 22 = .ok (.goto 13, 3) := by decide +kernel
theorem dX4_numberOf_25 : decode cX4_numberOf 25 = .ok (.aload_n 0, 1) := by decide +kernel
theorem dX4_numberOf_26 : decode cX4_numberOf 26 = .ok (.getfield 28, 3) := by decide +kernel
theorem dX4_numberOf_29 : decode cX4_numberOf 29 = .ok (.aload_n 0, 1) := by decide +kernel
theorem dX4_numberOf_30 : decode cX4_numberOf 30 = .ok (.iload_n 1, 1) := by decide +kernel
theorem dX4_numberOf_31 : decode cX4_numberOf 31 = .ok (.invokevirtual 136, 3) := by decide +kernel
theorem dX4_numberOf_34 : decode cX4_numberOf 34 = .ok (.iaload, 1) := by decide +kernel
theorem dX4_numberOf_35 : decode cX4_numberOf 35 = .ok (.ireturn, 1) := by decide +kernel
theorem dX4_saves_0 : decode cX4_saves 0 = .ok (.aload_n 0, 1) := by decide +kernel
theorem dX4_saves_1 : decode cX4_saves 1 = .ok (.getfield 34, 3) := by decide +kernel
theorem dX4_saves_4 : decode cX4_saves 4 = .ok (.iload_n 1, 1) := by decide +kernel
theorem dX4_saves_5 : decode cX4_saves 5 = .ok (.iaload, 1) := by decide +kernel
theorem dX4_saves_6 : decode cX4_saves 6 = .ok (.ifCond .lt 48, 3) := by decide +kernel
theorem dX4_saves_9 : decode cX4_saves 9 = .ok (.aload_n 0, 1) := by decide +kernel
theorem dX4_saves_10 : decode cX4_saves 10 = .ok (.getfield 53, 3) := by decide +kernel
theorem dX4_saves_13 : decode cX4_saves 13 = .ok (.aload_n 0, 1) := by decide +kernel
theorem dX4_saves_14 : decode cX4_saves 14 = .ok (.getfield 62, 3) := by decide +kernel
theorem dX4_saves_17 : decode cX4_saves 17 = .ok (.aload_n 0, 1) := by decide +kernel
theorem dX4_saves_18 : decode cX4_saves 18 = .ok (.getfield 34, 3) := by decide +kernel
theorem dX4_saves_21 : decode cX4_saves 21 = .ok (.iload_n 1, 1) := by decide +kernel
theorem dX4_saves_22 : decode cX4_saves 22 = .ok (.iaload, 1) := by decide +kernel
theorem dX4_saves_23 : decode cX4_saves 23 = .ok (.iadd, 1) := by decide +kernel
theorem dX4_saves_24 : decode cX4_saves 24 = .ok (.invokevirtual 105, 3) := by decide +kernel
theorem dX4_saves_27 : decode cX4_saves 27 = .ok (.ifCond .le 27, 3) := by decide +kernel
theorem dX4_saves_30 : decode cX4_saves 30 = .ok (.aload_n 0, 1) := by decide +kernel
theorem dX4_saves_31 : decode cX4_saves 31 = .ok (.getfield 22, 3) := by decide +kernel
theorem dX4_saves_34 : decode cX4_saves 34 = .ok (.aload_n 0, 1) := by decide +kernel
theorem dX4_saves_35 : decode cX4_saves 35 = .ok (.getfield 9, 3) := by decide +kernel
theorem dX4_saves_38 : decode cX4_saves 38 = .ok (.aload_n 0, 1) := by decide +kernel
theorem dX4_saves_39 : decode cX4_saves 39 = .ok (.getfield 34, 3) := by decide +kernel
theorem dX4_saves_42 : decode cX4_saves 42 = .ok (.iload_n 1, 1) := by decide +kernel
theorem dX4_saves_43 : decode cX4_saves 43 = .ok (.iaload, 1) := by decide +kernel
theorem dX4_saves_44 : decode cX4_saves 44 = .ok (.iaload, 1) := by decide +kernel
theorem dX4_saves_45 : decode cX4_saves 45 = .ok (.iaload, 1) := by decide +kernel
theorem dX4_saves_46 : decode cX4_saves 46 = .ok (.iconst 1, 1) := by decide +kernel
theorem dX4_saves_47 : decode cX4_saves 47 = .ok (.if_icmp .le 7, 3) := by decide +kernel
theorem dX4_saves_50 : decode cX4_saves 50 = .ok (.iconst 1, 1) := by decide +kernel
theorem dX4_saves_51 : decode cX4_saves 51 = .ok (.goto 4, 3) := by decide +kernel
theorem dX4_saves_54 : decode cX4_saves 54 = .ok (.iconst 0, 1) := by decide +kernel
theorem dX4_saves_55 : decode cX4_saves 55 = .ok (.ireturn, 1) := by decide +kernel
theorem dX4_comesBack_0 : decode cX4_comesBack 0 = .ok (.aload_n 0, 1) := by decide +kernel
theorem dX4_comesBack_1 : decode cX4_comesBack 1 = .ok (.iload_n 1, 1) := by decide +kernel
theorem dX4_comesBack_2 : decode cX4_comesBack 2 = .ok (.invokevirtual 143, 3) := by decide +kernel
theorem dX4_comesBack_5 : decode cX4_comesBack 5 = .ok (.aload_n 0, 1) := by decide +kernel
theorem dX4_comesBack_6 : decode cX4_comesBack 6 = .ok (.invokevirtual 146, 3) := by decide +kernel
theorem dX4_comesBack_9 : decode cX4_comesBack 9 = .ok (.ifCond .ne 5, 3) := by decide +kernel
theorem dX4_comesBack_12 : decode cX4_comesBack 12 = .ok (.iconst 0, 1) := by decide +kernel
theorem dX4_comesBack_13 : decode cX4_comesBack 13 = .ok (.ireturn, 1) := by decide +kernel
theorem dX4_comesBack_14 : decode cX4_comesBack 14 = .ok (.aload_n 0, 1) := by decide +kernel
theorem dX4_comesBack_15 : decode cX4_comesBack 15 = .ok (.iload_n 1, 1) := by decide +kernel
theorem dX4_comesBack_16 : decode cX4_comesBack 16 = .ok (.invokevirtual 149, 3) := by decide +kernel
theorem dX4_comesBack_19 : decode cX4_comesBack 19 = .ok (.aload_n 0, 1) := by decide +kernel
theorem dX4_comesBack_20 : decode cX4_comesBack 20 = .ok (.getfield 108, 3) := by decide +kernel
theorem dX4_comesBack_23 : decode cX4_comesBack 23 = .ok (.aload_n 0, 1) := by decide +kernel
theorem dX4_comesBack_24 : decode cX4_comesBack 24 = .ok (.getfield 152, 3) := by decide +kernel
theorem dX4_comesBack_27 : decode cX4_comesBack 27 = .ok (.if_icmp .eq 5, 3) := by decide +kernel
theorem dX4_comesBack_30 : decode cX4_comesBack 30 = .ok (.iconst 0, 1) := by decide +kernel
theorem dX4_comesBack_31 : decode cX4_comesBack 31 = .ok (.ireturn, 1) := by decide +kernel
theorem dX4_comesBack_32 : decode cX4_comesBack 32 = .ok (.iconst 0, 1) := by decide +kernel
theorem dX4_comesBack_33 : decode cX4_comesBack 33 = .ok (.istore_n 2, 1) := by decide +kernel
theorem dX4_comesBack_34 : decode cX4_comesBack 34 = .ok (.iload_n 2, 1) := by decide +kernel
theorem dX4_comesBack_35 : decode cX4_comesBack 35 = .ok (.aload_n 0, 1) := by decide +kernel
theorem dX4_comesBack_36 : decode cX4_comesBack 36 = .ok (.getfield 108, 3) := by decide +kernel
theorem dX4_comesBack_39 : decode cX4_comesBack 39 = .ok (.if_icmp .ge 25, 3) := by decide +kernel
theorem dX4_comesBack_42 : decode cX4_comesBack 42 = .ok (.aload_n 0, 1) := by decide +kernel
theorem dX4_comesBack_43 : decode cX4_comesBack 43 = .ok (.iload_n 2, 1) := by decide +kernel
theorem dX4_comesBack_44 : decode cX4_comesBack 44 = .ok (.invokevirtual 136, 3) := by decide +kernel
theorem dX4_comesBack_47 : decode cX4_comesBack 47 = .ok (.aload_n 0, 1) := by decide +kernel
theorem dX4_comesBack_48 : decode cX4_comesBack 48 = .ok (.getfield 43, 3) := by decide +kernel
theorem dX4_comesBack_51 : decode cX4_comesBack 51 = .ok (.iload_n 2, 1) := by decide +kernel
theorem dX4_comesBack_52 : decode cX4_comesBack 52 = .ok (.iaload, 1) := by decide +kernel
theorem dX4_comesBack_53 : decode cX4_comesBack 53 = .ok (.if_icmp .eq 5, 3) := by decide +kernel
theorem dX4_comesBack_56 : decode cX4_comesBack 56 = .ok (.iconst 0, 1) := by decide +kernel
theorem dX4_comesBack_57 : decode cX4_comesBack 57 = .ok (.ireturn, 1) := by decide +kernel
theorem dX4_comesBack_58 : decode cX4_comesBack 58 = .ok (.iinc 2 1, 3) := by decide +kernel
theorem dX4_comesBack_61 : decode cX4_comesBack 61 = .ok (.goto (-27), 3) := by decide +kernel
theorem dX4_comesBack_64 : decode cX4_comesBack 64 = .ok (.iconst 1, 1) := by decide +kernel
theorem dX4_comesBack_65 : decode cX4_comesBack 65 = .ok (.ireturn, 1) := by decide +kernel
theorem dX4_fill_0 : decode cX4_fill 0 = .ok (.aload_n 0, 1) := by decide +kernel
theorem dX4_fill_1 : decode cX4_fill 1 = .ok (.iconst 0, 1) := by decide +kernel
theorem dX4_fill_2 : decode cX4_fill 2 = .ok (.putfield 152, 3) := by decide +kernel
theorem dX4_fill_5 : decode cX4_fill 5 = .ok (.iconst 0, 1) := by decide +kernel
theorem dX4_fill_6 : decode cX4_fill 6 = .ok (.istore_n 1, 1) := by decide +kernel
theorem dX4_fill_7 : decode cX4_fill 7 = .ok (.iconst 0, 1) := by decide +kernel
theorem dX4_fill_8 : decode cX4_fill 8 = .ok (.istore_n 2, 1) := by decide +kernel
theorem dX4_fill_9 : decode cX4_fill 9 = .ok (.iload_n 2, 1) := by decide +kernel
theorem dX4_fill_10 : decode cX4_fill 10 = .ok (.aload_n 0, 1) := by decide +kernel
theorem dX4_fill_11 : decode cX4_fill 11 = .ok (.getfield 108, 3) := by decide +kernel
theorem dX4_fill_14 : decode cX4_fill 14 = .ok (.if_icmp .ge 118, 3) := by decide +kernel
theorem dX4_fill_17 : decode cX4_fill 17 = .ok (.aload_n 0, 1) := by decide +kernel
theorem dX4_fill_18 : decode cX4_fill 18 = .ok (.getfield 34, 3) := by decide +kernel
theorem dX4_fill_21 : decode cX4_fill 21 = .ok (.iload_n 2, 1) := by decide +kernel
theorem dX4_fill_22 : decode cX4_fill 22 = .ok (.iaload, 1) := by decide +kernel
theorem dX4_fill_23 : decode cX4_fill 23 = .ok (.istore_n 3, 1) := by decide +kernel
theorem dX4_fill_24 : decode cX4_fill 24 = .ok (.aload_n 0, 1) := by decide +kernel
theorem dX4_fill_25 : decode cX4_fill 25 = .ok (.getfield 152, 3) := by decide +kernel
theorem dX4_fill_28 : decode cX4_fill 28 = .ok (.istore 4, 2) := by decide +kernel
theorem dX4_fill_30 : decode cX4_fill 30 = .ok (.iload_n 3, 1) := by decide +kernel
theorem dX4_fill_31 : decode cX4_fill 31 = .ok (.ifCond .ge 7, 3) := by decide +kernel
theorem dX4_fill_34 : decode cX4_fill 34 = .ok (.iconst 0, 1) := by decide +kernel
theorem dX4_fill_35 : decode cX4_fill 35 = .ok (.goto 16, 3) := by decide +kernel
theorem dX4_fill_38 : decode cX4_fill 38 = .ok (.aload_n 0, 1) := by decide +kernel
theorem dX4_fill_39 : decode cX4_fill 39 = .ok (.getfield 53, 3) := by decide +kernel
theorem dX4_fill_42 : decode cX4_fill 42 = .ok (.aload_n 0, 1) := by decide +kernel
theorem dX4_fill_43 : decode cX4_fill 43 = .ok (.getfield 62, 3) := by decide +kernel
theorem dX4_fill_46 : decode cX4_fill 46 = .ok (.iload_n 3, 1) := by decide +kernel
theorem dX4_fill_47 : decode cX4_fill 47 = .ok (.iadd, 1) := by decide +kernel
theorem dX4_fill_48 : decode cX4_fill 48 = .ok (.invokevirtual 105, 3) := by decide +kernel
theorem dX4_fill_51 : decode cX4_fill 51 = .ok (.istore 5, 2) := by decide +kernel
theorem dX4_fill_53 : decode cX4_fill 53 = .ok (.iload 5, 2) := by decide +kernel
theorem dX4_fill_55 : decode cX4_fill 55 = .ok (.iload_n 1, 1) := by decide +kernel
theorem dX4_fill_56 : decode cX4_fill 56 = .ok (.if_icmp .gt 11, 3) := by decide +kernel
theorem dX4_fill_59 : decode cX4_fill 59 = .ok (.aload_n 0, 1) := by decide +kernel
theorem dX4_fill_60 : decode cX4_fill 60 = .ok (.iload_n 3, 1) := by decide +kernel
theorem dX4_fill_61 : decode cX4_fill 61 = .ok (.invokevirtual 155, 3) := by decide +kernel
theorem dX4_fill_64 : decode cX4_fill 64 = .ok (.ifCond .ne 5, 3) := by decide +kernel
theorem dX4_fill_67 : decode cX4_fill 67 = .ok (.iconst 0, 1) := by decide +kernel
theorem dX4_fill_68 : decode cX4_fill 68 = .ok (.ireturn, 1) := by decide +kernel
theorem dX4_fill_69 : decode cX4_fill 69 = .ok (.iload_n 1, 1) := by decide +kernel
theorem dX4_fill_70 : decode cX4_fill 70 = .ok (.iload 5, 2) := by decide +kernel
theorem dX4_fill_72 : decode cX4_fill 72 = .ok (.isub, 1) := by decide +kernel
theorem dX4_fill_73 : decode cX4_fill 73 = .ok (.istore_n 1, 1) := by decide +kernel
theorem dX4_fill_74 : decode cX4_fill 74 = .ok (.iload 5, 2) := by decide +kernel
theorem dX4_fill_76 : decode cX4_fill 76 = .ok (.ifCond .le 39, 3) := by decide +kernel
theorem dX4_fill_79 : decode cX4_fill 79 = .ok (.aload_n 0, 1) := by decide +kernel
theorem dX4_fill_80 : decode cX4_fill 80 = .ok (.getfield 46, 3) := by decide +kernel
theorem dX4_fill_83 : decode cX4_fill 83 = .ok (.iload_n 1, 1) := by decide +kernel
theorem dX4_fill_84 : decode cX4_fill 84 = .ok (.iaload, 1) := by decide +kernel
theorem dX4_fill_85 : decode cX4_fill 85 = .ok (.istore 4, 2) := by decide +kernel
theorem dX4_fill_87 : decode cX4_fill 87 = .ok (.aload_n 0, 1) := by decide +kernel
theorem dX4_fill_88 : decode cX4_fill 88 = .ok (.getfield 25, 3) := by decide +kernel
theorem dX4_fill_91 : decode cX4_fill 91 = .ok (.aload_n 0, 1) := by decide +kernel
theorem dX4_fill_92 : decode cX4_fill 92 = .ok (.getfield 9, 3) := by decide +kernel
theorem dX4_fill_95 : decode cX4_fill 95 = .ok (.iload_n 3, 1) := by decide +kernel
theorem dX4_fill_96 : decode cX4_fill 96 = .ok (.iaload, 1) := by decide +kernel
theorem dX4_fill_97 : decode cX4_fill 97 = .ok (.iload 4, 2) := by decide +kernel
theorem dX4_fill_99 : decode cX4_fill 99 = .ok (.iastore, 1) := by decide +kernel
theorem dX4_fill_100 : decode cX4_fill 100 = .ok (.aload_n 0, 1) := by decide +kernel
theorem dX4_fill_101 : decode cX4_fill 101 = .ok (.getfield 19, 3) := by decide +kernel
theorem dX4_fill_104 : decode cX4_fill 104 = .ok (.aload_n 0, 1) := by decide +kernel
theorem dX4_fill_105 : decode cX4_fill 105 = .ok (.getfield 9, 3) := by decide +kernel
theorem dX4_fill_108 : decode cX4_fill 108 = .ok (.iload_n 3, 1) := by decide +kernel
theorem dX4_fill_109 : decode cX4_fill 109 = .ok (.iaload, 1) := by decide +kernel
theorem dX4_fill_110 : decode cX4_fill 110 = .ok (.aload_n 0, 1) := by decide +kernel
theorem dX4_fill_111 : decode cX4_fill 111 = .ok (.getfield 152, 3) := by decide +kernel
theorem dX4_fill_114 : decode cX4_fill 114 = .ok (.iastore, 1) := by decide +kernel
theorem dX4_fill_115 : decode cX4_fill 115 = .ok (.aload_n 0, 1) := by decide +kernel
theorem dX4_fill_116 : decode cX4_fill 116 = .ok (.getfield 46, 3) := by decide +kernel
theorem dX4_fill_119 : decode cX4_fill 119 = .ok (.iload_n 1, 1) := by decide +kernel
theorem dX4_fill_120 : decode cX4_fill 120 = .ok (.iload 4, 2) := by decide +kernel
theorem dX4_fill_122 : decode cX4_fill 122 = .ok (.iastore, 1) := by decide +kernel
theorem dX4_fill_123 : decode cX4_fill 123 = .ok (.iinc 1 1, 3) := by decide +kernel
theorem dX4_fill_126 : decode cX4_fill 126 = .ok (.iinc 2 1, 3) := by decide +kernel
theorem dX4_fill_129 : decode cX4_fill 129 = .ok (.goto (-120), 3) := by decide +kernel
theorem dX4_fill_132 : decode cX4_fill 132 = .ok (.iload_n 1, 1) := by decide +kernel
theorem dX4_fill_133 : decode cX4_fill 133 = .ok (.iconst 1, 1) := by decide +kernel
theorem dX4_fill_134 : decode cX4_fill 134 = .ok (.if_icmp .ne 7, 3) := by decide +kernel
theorem dX4_fill_137 : decode cX4_fill 137 = .ok (.iconst 1, 1) := by decide +kernel
theorem dX4_fill_138 : decode cX4_fill 138 = .ok (.goto 4, 3) := by decide +kernel
theorem dX4_fill_141 : decode cX4_fill 141 = .ok (.iconst 0, 1) := by decide +kernel
theorem dX4_fill_142 : decode cX4_fill 142 = .ok (.ireturn, 1) := by decide +kernel
theorem dX4_fillIn_0 : decode cX4_fillIn 0 = .ok (.iload_n 1, 1) := by decide +kernel
theorem dX4_fillIn_1 : decode cX4_fillIn 1 = .ok (.ifCond .ge 14, 3) := by decide +kernel
theorem dX4_fillIn_4 : decode cX4_fillIn 4 = .ok (.aload_n 0, 1) := by decide +kernel
theorem dX4_fillIn_5 : decode cX4_fillIn 5 = .ok (.getfield 25, 3) := by decide +kernel
theorem dX4_fillIn_8 : decode cX4_fillIn 8 = .ok (.iload_n 1, 1) := by decide +kernel
theorem dX4_fillIn_9 : decode cX4_fillIn 9 = .ok (.iconst (-1), 1) := by decide +kernel
theorem dX4_fillIn_10 : decode cX4_fillIn 10 = .ok (.ixor, 1) := by decide +kernel
theorem dX4_fillIn_11 : decode cX4_fillIn 11 = .ok (.iaload, 1) := by decide +kernel
theorem dX4_fillIn_12 : decode cX4_fillIn 12 = .ok (.goto 4, 3) := by decide +kernel
theorem dX4_fillIn_15 : decode cX4_fillIn 15 = .ok (.iconst 0, 1) := by decide +kernel
theorem dX4_fillIn_16 : decode cX4_fillIn 16 = .ok (.istore_n 2, 1) := by decide +kernel
theorem dX4_fillIn_17 : decode cX4_fillIn 17 = .ok (.iload_n 1, 1) := by decide +kernel
theorem dX4_fillIn_18 : decode cX4_fillIn 18 = .ok (.ifCond .ge 16, 3) := by decide +kernel
theorem dX4_fillIn_21 : decode cX4_fillIn 21 = .ok (.aload_n 0, 1) := by decide +kernel
theorem dX4_fillIn_22 : decode cX4_fillIn 22 = .ok (.getfield 19, 3) := by decide +kernel
theorem dX4_fillIn_25 : decode cX4_fillIn 25 = .ok (.iload_n 1, 1) := by decide +kernel
theorem dX4_fillIn_26 : decode cX4_fillIn 26 = .ok (.iconst (-1), 1) := by decide +kernel
theorem dX4_fillIn_27 : decode cX4_fillIn 27 = .ok (.ixor, 1) := by decide +kernel
theorem dX4_fillIn_28 : decode cX4_fillIn 28 = .ok (.iaload, 1) := by decide +kernel
theorem dX4_fillIn_29 : decode cX4_fillIn 29 = .ok (.iload_n 2, 1) := by decide +kernel
theorem dX4_fillIn_30 : decode cX4_fillIn 30 = .ok (.isub, 1) := by decide +kernel
theorem dX4_fillIn_31 : decode cX4_fillIn 31 = .ok (.goto 4, 3) := by decide +kernel
theorem dX4_fillIn_34 : decode cX4_fillIn 34 = .ok (.iconst 1, 1) := by decide +kernel
theorem dX4_fillIn_35 : decode cX4_fillIn 35 = .ok (.istore_n 3, 1) := by decide +kernel
theorem dX4_fillIn_36 : decode cX4_fillIn 36 = .ok (.iload_n 2, 1) := by decide +kernel
theorem dX4_fillIn_37 : decode cX4_fillIn 37 = .ok (.ifCond .lt 19, 3) := by decide +kernel
theorem dX4_fillIn_40 : decode cX4_fillIn 40 = .ok (.iload_n 3, 1) := by decide +kernel
theorem dX4_fillIn_41 : decode cX4_fillIn 41 = .ok (.ifCond .lt 15, 3) := by decide +kernel
theorem dX4_fillIn_44 : decode cX4_fillIn 44 = .ok (.aload_n 0, 1) := by decide +kernel
theorem dX4_fillIn_45 : decode cX4_fillIn 45 = .ok (.getfield 152, 3) := by decide +kernel
theorem dX4_fillIn_48 : decode cX4_fillIn 48 = .ok (.iload_n 3, 1) := by decide +kernel
theorem dX4_fillIn_49 : decode cX4_fillIn 49 = .ok (.iadd, 1) := by decide +kernel
theorem dX4_fillIn_50 : decode cX4_fillIn 50 = .ok (.sipush 4000, 3) := by decide +kernel
theorem dX4_fillIn_53 : decode cX4_fillIn 53 = .ok (.if_icmp .le 5, 3) := by decide +kernel
theorem dX4_fillIn_56 : decode cX4_fillIn 56 = .ok (.iconst 0, 1) := by decide +kernel
theorem dX4_fillIn_57 : decode cX4_fillIn 57 = .ok (.ireturn, 1) := by decide +kernel
theorem dX4_fillIn_58 : decode cX4_fillIn 58 = .ok (.iconst 0, 1) := by decide +kernel
theorem dX4_fillIn_59 : decode cX4_fillIn 59 = .ok (.istore 4, 2) := by decide +kernel
theorem dX4_fillIn_61 : decode cX4_fillIn 61 = .ok (.iload 4, 2) := by decide +kernel
theorem dX4_fillIn_63 : decode cX4_fillIn 63 = .ok (.iload_n 3, 1) := by decide +kernel
theorem dX4_fillIn_64 : decode cX4_fillIn 64 = .ok (.if_icmp .ge 58, 3) := by decide +kernel
theorem dX4_fillIn_67 : decode cX4_fillIn 67 = .ok (.aload_n 0, 1) := by decide +kernel
theorem dX4_fillIn_68 : decode cX4_fillIn 68 = .ok (.getfield 43, 3) := by decide +kernel
theorem dX4_fillIn_71 : decode cX4_fillIn 71 = .ok (.aload_n 0, 1) := by decide +kernel
theorem dX4_fillIn_72 : decode cX4_fillIn 72 = .ok (.getfield 152, 3) := by decide +kernel
theorem dX4_fillIn_75 : decode cX4_fillIn 75 = .ok (.iload_n 1, 1) := by decide +kernel
theorem dX4_fillIn_76 : decode cX4_fillIn 76 = .ok (.ifCond .ge 15, 3) := by decide +kernel
theorem dX4_fillIn_79 : decode cX4_fillIn 79 = .ok (.aload_n 0, 1) := by decide +kernel
theorem dX4_fillIn_80 : decode cX4_fillIn 80 = .ok (.getfield 43, 3) := by decide +kernel
theorem dX4_fillIn_83 : decode cX4_fillIn 83 = .ok (.iload_n 2, 1) := by decide +kernel
theorem dX4_fillIn_84 : decode cX4_fillIn 84 = .ok (.iload 4, 2) := by decide +kernel
theorem dX4_fillIn_86 : decode cX4_fillIn 86 = .ok (.iadd, 1) := by decide +kernel
theorem dX4_fillIn_87 : decode cX4_fillIn 87 = .ok (.iaload, 1) := by decide +kernel
theorem dX4_fillIn_88 : decode cX4_fillIn 88 = .ok (.goto 17, 3) := by decide +kernel
theorem dX4_fillIn_91 : decode cX4_fillIn 91 = .ok (.aload_n 0, 1) := by decide +kernel
theorem dX4_fillIn_92 : decode cX4_fillIn 92 = .ok (.getfield 53, 3) := by decide +kernel
theorem dX4_fillIn_95 : decode cX4_fillIn 95 = .ok (.getfield 94, 3) := by decide +kernel
theorem dX4_fillIn_98 : decode cX4_fillIn 98 = .ok (.aload_n 0, 1) := by decide +kernel
theorem dX4_fillIn_99 : decode cX4_fillIn 99 = .ok (.getfield 62, 3) := by decide +kernel
theorem dX4_fillIn_102 : decode cX4_fillIn 102 = .ok (.iload_n 1, 1) := by decide +kernel
theorem dX4_fillIn_103 : decode cX4_fillIn 103 = .ok (.iadd, 1) := by decide +kernel
theorem dX4_fillIn_104 : decode cX4_fillIn 104 = .ok (.iaload, 1) := by decide +kernel
theorem dX4_fillIn_105 : decode cX4_fillIn 105 = .ok (.iastore, 1) := by decide +kernel
theorem dX4_fillIn_106 : decode cX4_fillIn 106 = .ok (.aload_n 0, 1) := by decide +kernel
theorem dX4_fillIn_107 : decode cX4_fillIn 107 = .ok (.dup, 1) := by decide +kernel
theorem dX4_fillIn_108 : decode cX4_fillIn 108 = .ok (.getfield 152, 3) := by decide +kernel
theorem dX4_fillIn_111 : decode cX4_fillIn 111 = .ok (.iconst 1, 1) := by decide +kernel
theorem dX4_fillIn_112 : decode cX4_fillIn 112 = .ok (.iadd, 1) := by decide +kernel
theorem dX4_fillIn_113 : decode cX4_fillIn 113 = .ok (.putfield 152, 3) := by decide +kernel
theorem dX4_fillIn_116 : decode cX4_fillIn 116 = .ok (.iinc 4 1, 3) := by decide +kernel
theorem dX4_fillIn_119 : decode cX4_fillIn 119 = .ok (.goto (-58), 3) := by decide +kernel
theorem dX4_fillIn_122 : decode cX4_fillIn 122 = .ok (.iconst 1, 1) := by decide +kernel
theorem dX4_fillIn_123 : decode cX4_fillIn 123 = .ok (.ireturn, 1) := by decide +kernel
theorem dX8_init_0 : decode cX8_init 0 = .ok (.aload_n 0, 1) := by decide +kernel
theorem dX8_init_1 : decode cX8_init 1 = .ok (.invokespecial 3, 3) := by decide +kernel
theorem dX8_init_4 : decode cX8_init 4 = .ok (.aload_n 0, 1) := by decide +kernel
theorem dX8_init_5 : decode cX8_init 5 = .ok (.sipush 30001, 3) := by decide +kernel
theorem dX8_init_8 : decode cX8_init 8 = .ok (.newarray .int, 2) := by decide +kernel
theorem dX8_init_10 : decode cX8_init 10 = .ok (.putfield 9, 3) := by decide +kernel
theorem dX8_init_13 : decode cX8_init 13 = .ok (.aload_n 0, 1) := by decide +kernel
theorem dX8_init_14 : decode cX8_init 14 = .ok (.sipush 30001, 3) := by decide +kernel
theorem dX8_init_17 : decode cX8_init 17 = .ok (.newarray .int, 2) := by decide +kernel
theorem dX8_init_19 : decode cX8_init 19 = .ok (.putfield 15, 3) := by decide +kernel
theorem dX8_init_22 : decode cX8_init 22 = .ok (.aload_n 0, 1) := by decide +kernel
theorem dX8_init_23 : decode cX8_init 23 = .ok (.sipush 30001, 3) := by decide +kernel
theorem dX8_init_26 : decode cX8_init 26 = .ok (.newarray .int, 2) := by decide +kernel
theorem dX8_init_28 : decode cX8_init 28 = .ok (.putfield 18, 3) := by decide +kernel
theorem dX8_init_31 : decode cX8_init 31 = .ok (.aload_n 0, 1) := by decide +kernel
theorem dX8_init_32 : decode cX8_init 32 = .ok (.sipush 30001, 3) := by decide +kernel
theorem dX8_init_35 : decode cX8_init 35 = .ok (.newarray .int, 2) := by decide +kernel
theorem dX8_init_37 : decode cX8_init 37 = .ok (.putfield 21, 3) := by decide +kernel
theorem dX8_init_40 : decode cX8_init 40 = .ok (.aload_n 0, 1) := by decide +kernel
theorem dX8_init_41 : decode cX8_init 41 = .ok (.sipush 30001, 3) := by decide +kernel
theorem dX8_init_44 : decode cX8_init 44 = .ok (.newarray .int, 2) := by decide +kernel
theorem dX8_init_46 : decode cX8_init 46 = .ok (.putfield 24, 3) := by decide +kernel
theorem dX8_init_49 : decode cX8_init 49 = .ok (.aload_n 0, 1) := by decide +kernel
theorem dX8_init_50 : decode cX8_init 50 = .ok (.sipush 1500, 3) := by decide +kernel
theorem dX8_init_53 : decode cX8_init 53 = .ok (.newarray .int, 2) := by decide +kernel
theorem dX8_init_55 : decode cX8_init 55 = .ok (.putfield 27, 3) := by decide +kernel
theorem dX8_init_58 : decode cX8_init 58 = .ok (.aload_n 0, 1) := by decide +kernel
theorem dX8_init_59 : decode cX8_init 59 = .ok (.iconst 1, 1) := by decide +kernel
theorem dX8_init_60 : decode cX8_init 60 = .ok (.putfield 30, 3) := by decide +kernel
theorem dX8_init_63 : decode cX8_init 63 = .ok (.aload_n 0, 1) := by decide +kernel
theorem dX8_init_64 : decode cX8_init 64 = .ok (.sipush 1000, 3) := by decide +kernel
theorem dX8_init_67 : decode cX8_init 67 = .ok (.newarray .int, 2) := by decide +kernel
theorem dX8_init_69 : decode cX8_init 69 = .ok (.putfield 34, 3) := by decide +kernel
theorem dX8_init_72 : decode cX8_init 72 = .ok (.aload_n 0, 1) := by decide +kernel
theorem dX8_init_73 : decode cX8_init 73 = .ok (.bipush 100, 2) := by decide +kernel
theorem dX8_init_75 : decode cX8_init 75 = .ok (.newarray .int, 2) := by decide +kernel
theorem dX8_init_77 : decode cX8_init 77 = .ok (.putfield 37, 3) := by decide +kernel
theorem dX8_init_80 : decode cX8_init 80 = .ok (.aload_n 0, 1) := by decide +kernel
theorem dX8_init_81 : decode cX8_init 81 = .ok (.sipush 1500, 3) := by decide +kernel
theorem dX8_init_84 : decode cX8_init 84 = .ok (.newarray .int, 2) := by decide +kernel
theorem dX8_init_86 : decode cX8_init 86 = .ok (.putfield 40, 3) := by decide +kernel
theorem dX8_init_89 : decode cX8_init 89 = .ok (.aload_n 0, 1) := by decide +kernel
theorem dX8_init_90 : decode cX8_init 90 = .ok (.sipush 1500, 3) := by decide +kernel
theorem dX8_init_93 : decode cX8_init 93 = .ok (.newarray .int, 2) := by decide +kernel
theorem dX8_init_95 : decode cX8_init 95 = .ok (.putfield 43, 3) := by decide +kernel
theorem dX8_init_98 : decode cX8_init 98 = .ok (.aload_n 0, 1) := by decide +kernel
theorem dX8_init_99 : decode cX8_init 99 = .ok (.iconst (-1), 1) := by decide +kernel
theorem dX8_init_100 : decode cX8_init 100 = .ok (.putfield 46, 3) := by decide +kernel
theorem dX8_init_103 : decode cX8_init 103 = .ok (.aload_n 0, 1) := by decide +kernel
theorem dX8_init_104 : decode cX8_init 104 = .ok (.iconst (-1), 1) := by decide +kernel
theorem dX8_init_105 : decode cX8_init 105 = .ok (.putfield 49, 3) := by decide +kernel
theorem dX8_init_108 : decode cX8_init 108 = .ok (.aload_n 0, 1) := by decide +kernel
theorem dX8_init_109 : decode cX8_init 109 = .ok (.aload_n 1, 1) := by decide +kernel
theorem dX8_init_110 : decode cX8_init 110 = .ok (.putfield 52, 3) := by decide +kernel
theorem dX8_init_113 : decode cX8_init 113 = .ok (.aload_n 0, 1) := by decide +kernel
theorem dX8_init_114 : decode cX8_init 114 = .ok (.aload_n 2, 1) := by decide +kernel
theorem dX8_init_115 : decode cX8_init 115 = .ok (.putfield 56, 3) := by decide +kernel
theorem dX8_init_118 : decode cX8_init 118 = .ok (.return_, 1) := by decide +kernel
theorem dX8_learn_0 : decode cX8_learn 0 = .ok (.aload_n 0, 1) := by decide +kernel
theorem dX8_learn_1 : decode cX8_learn 1 = .ok (.aload_n 0, 1) := by decide +kernel
theorem dX8_learn_2 : decode cX8_learn 2 = .ok (.getstatic 60, 3) := by decide +kernel
theorem dX8_learn_5 : decode cX8_learn 5 = .ok (.invokevirtual 64, 3) := by decide +kernel
theorem dX8_learn_8 : decode cX8_learn 8 = .ok (.putfield 46, 3) := by decide +kernel
theorem dX8_learn_11 : decode cX8_learn 11 = .ok (.aload_n 0, 1) := by decide +kernel
theorem dX8_learn_12 : decode cX8_learn 12 = .ok (.aload_n 0, 1) := by decide +kernel
theorem dX8_learn_13 : decode cX8_learn 13 = .ok (.getstatic 68, 3) := by decide +kernel
theorem dX8_learn_16 : decode cX8_learn 16 = .ok (.invokevirtual 64, 3) := by decide +kernel
theorem dX8_learn_19 : decode cX8_learn 19 = .ok (.putfield 49, 3) := by decide +kernel
theorem dX8_learn_22 : decode cX8_learn 22 = .ok (.aload_n 0, 1) := by decide +kernel
theorem dX8_learn_23 : decode cX8_learn 23 = .ok (.getfield 71, 3) := by decide +kernel
theorem dX8_learn_26 : decode cX8_learn 26 = .ok (.istore_n 1, 1) := by decide +kernel
theorem dX8_learn_27 : decode cX8_learn 27 = .ok (.iload_n 1, 1) := by decide +kernel
theorem dX8_learn_28 : decode cX8_learn 28 = .ok (.aload_n 0, 1) := by decide +kernel
theorem dX8_learn_29 : decode cX8_learn 29 = .ok (.getfield 52, 3) := by decide +kernel
theorem dX8_learn_32 : decode cX8_learn 32 = .ok (.getfield 74, 3) := by decide +kernel
theorem dX8_learn_35 : decode cX8_learn 35 = .ok (.if_icmp .ge 35, 3) := by decide +kernel
theorem dX8_learn_38 : decode cX8_learn 38 = .ok (.aload_n 0, 1) := by decide +kernel
theorem dX8_learn_39 : decode cX8_learn 39 = .ok (.getfield 52, 3) := by decide +kernel
theorem dX8_learn_42 : decode cX8_learn 42 = .ok (.iload_n 1, 1) := by decide +kernel
theorem dX8_learn_43 : decode cX8_learn 43 = .ok (.invokevirtual 79, 3) := by decide +kernel
theorem dX8_learn_46 : decode cX8_learn 46 = .ok (.bipush 60, 2) := by decide +kernel
theorem dX8_learn_48 : decode cX8_learn 48 = .ok (.if_icmp .gt 16, 3) := by decide +kernel
theorem dX8_learn_51 : decode cX8_learn 51 = .ok (.aload_n 0, 1) := by decide +kernel
theorem dX8_learn_52 : decode cX8_learn 52 = .ok (.iload_n 1, 1) := by decide +kernel
theorem dX8_learn_53 : decode cX8_learn 53 = .ok (.invokevirtual 83, 3) := by decide +kernel
theorem dX8_learn_56 : decode cX8_learn 56 = .ok (.ifCond .eq 8, 3) := by decide +kernel
theorem dX8_learn_59 : decode cX8_learn 59 = .ok (.aload_n 0, 1) := by decide +kernel
theorem dX8_learn_60 : decode cX8_learn 60 = .ok (.iload_n 1, 1) := by decide +kernel
theorem dX8_learn_61 : decode cX8_learn 61 = .ok (.invokevirtual 87, 3) := by decide +kernel
theorem dX8_learn_64 : decode cX8_learn 64 = .ok (.iinc 1 1, 3) := by decide +kernel
theorem dX8_learn_67 : decode cX8_learn 67 = .ok (.goto (-40), 3) := by decide +kernel
theorem dX8_learn_70 : decode cX8_learn 70 = .ok (.aload_n 0, 1) := by decide +kernel
theorem dX8_learn_71 : decode cX8_learn 71 = .ok (.aload_n 0, 1) := by decide +kernel
theorem dX8_learn_72 : decode cX8_learn 72 = .ok (.getfield 52, 3) := by decide +kernel
theorem dX8_learn_75 : decode cX8_learn 75 = .ok (.getfield 74, 3) := by decide +kernel
theorem dX8_learn_78 : decode cX8_learn 78 = .ok (.putfield 71, 3) := by decide +kernel
theorem dX8_learn_81 : decode cX8_learn 81 = .ok (.return_, 1) := by decide +kernel
theorem dX8_constantNamed_0 : decode cX8_constantNamed 0 = .ok (.aload_n 0, 1) := by decide +kernel
theorem dX8_constantNamed_1 : decode cX8_constantNamed 1 = .ok (.getfield 52, 3) := by decide +kernel
theorem dX8_constantNamed_4 : decode cX8_constantNamed 4 = .ok (.aload_n 1, 1) := by decide +kernel
theorem dX8_constantNamed_5 : decode cX8_constantNamed 5 = .ok (.iconst 0, 1) := by decide +kernel
theorem dX8_constantNamed_6 : decode cX8_constantNamed 6 = .ok (.aload_n 1, 1) := by decide +kernel
theorem dX8_constantNamed_7 : decode cX8_constantNamed 7 = .ok (.arraylength, 1) := by decide +kernel
theorem dX8_constantNamed_8 : decode cX8_constantNamed 8 = .ok (.invokevirtual 91, 3) := by decide +kernel
theorem dX8_constantNamed_11 : decode cX8_constantNamed 11 = .ok (.istore_n 2, 1) := by decide +kernel
theorem dX8_constantNamed_12 : decode cX8_constantNamed 12 = .ok (.iload_n 2, 1) := by decide +kernel
theorem dX8_constantNamed_13 : decode cX8_constantNamed 13 = .ok (.iconst (-1), 1) := by decide +kernel
theorem dX8_constantNamed_14 : decode cX8_constantNamed 14 = .ok (.if_icmp .eq 15, 3) := by decide +kernel
theorem dX8_constantNamed_17 : decode cX8_constantNamed 17 = .ok (.aload_n 0, 1) := by decide +kernel
theorem dX8_constantNamed_18 : decode cX8_constantNamed 18 = .ok (.getfield 52, 3) := by decide +kernel
theorem dX8_constantNamed_21 : decode cX8_constantNamed 21 = .ok (.getfield 95, 3) := by decide +kernel
theorem dX8_constantNamed_24 : decode cX8_constantNamed 24 = .ok (.iload_n 2, 1) := by decide +kernel
theorem dX8_constantNamed_25 : decode cX8_constantNamed 25 = .ok (.baload, 1) := by decide +kernel
theorem dX8_constantNamed_26 : decode cX8_constantNamed 26 = .ok (.ifCond .eq 7, 3) := by decide +kernel
theorem dX8_constantNamed_29 : decode cX8_constantNamed 29 = .ok (.iconst (-1), 1) := by decide +kernel
theorem dX8_constantNamed_30 : decode cX8_constantNamed 30 = .ok (.goto 4, 3) := by decide +kernel
theorem dX8_constantNamed_33 : decode cX8_constantNamed 33 = .ok (.iload_n 2, 1) := by decide +kernel
theorem dX8_constantNamed_34 : decode cX8_constantNamed 34 = .ok (.ireturn, 1) := by decide +kernel
theorem dX8_isRule_0 : decode cX8_isRule 0 = .ok (.aload_n 0, 1) := by decide +kernel
theorem dX8_isRule_1 : decode cX8_isRule 1 = .ok (.getfield 52, 3) := by decide +kernel
theorem dX8_isRule_4 : decode cX8_isRule 4 = .ok (.getfield 99, 3) := by decide +kernel
theorem dX8_isRule_7 : decode cX8_isRule 7 = .ok (.iload_n 1, 1) := by decide +kernel
theorem dX8_isRule_8 : decode cX8_isRule 8 = .ok (.iaload, 1) := by decide +kernel
theorem dX8_isRule_9 : decode cX8_isRule 9 = .ok (.iconst 2, 1) := by decide +kernel
theorem dX8_isRule_10 : decode cX8_isRule 10 = .ok (.if_icmp .ne 30, 3) := by decide +kernel
theorem dX8_isRule_13 : decode cX8_isRule 13 = .ok (.aload_n 0, 1) := by decide +kernel
theorem dX8_isRule_14 : decode cX8_isRule 14 = .ok (.getfield 52, 3) := by decide +kernel
theorem dX8_isRule_17 : decode cX8_isRule 17 = .ok (.iload_n 1, 1) := by decide +kernel
theorem dX8_isRule_18 : decode cX8_isRule 18 = .ok (.invokevirtual 102, 3) := by decide +kernel
theorem dX8_isRule_21 : decode cX8_isRule 21 = .ok (.aload_n 0, 1) := by decide +kernel
theorem dX8_isRule_22 : decode cX8_isRule 22 = .ok (.getfield 46, 3) := by decide +kernel
theorem dX8_isRule_25 : decode cX8_isRule 25 = .ok (.if_icmp .eq 15, 3) := by decide +kernel
theorem dX8_isRule_28 : decode cX8_isRule 28 = .ok (.aload_n 0, 1) := by decide +kernel
theorem dX8_isRule_29 : decode cX8_isRule 29 = .ok (.getfield 52, 3) := by decide +kernel
theorem dX8_isRule_32 : decode cX8_isRule 32 = .ok (.iload_n 1, 1) := by decide +kernel
theorem dX8_isRule_33 : decode cX8_isRule 33 = .ok (.invokevirtual 79, 3) := by decide +kernel
theorem dX8_isRule_36 : decode cX8_isRule 36 = .ok (.iconst 2, 1) := by decide +kernel
theorem dX8_isRule_37 : decode cX8_isRule 37 = .ok (.if_icmp .ge 5, 3) := by decide +kernel
theorem dX8_isRule_40 : decode cX8_isRule 40 = .ok (.iconst 0, 1) := by decide +kernel
theorem dX8_isRule_41 : decode cX8_isRule 41 = .ok (.ireturn, 1) := by decide +kernel
theorem dX8_isRule_42 : decode cX8_isRule 42 = .ok (.aload_n 0, 1) := by decide +kernel
theorem dX8_isRule_43 : decode cX8_isRule 43 = .ok (.getfield 56, 3) := by decide +kernel
theorem dX8_isRule_46 : decode cX8_isRule 46 = .ok (.iload_n 1, 1) := by decide +kernel
theorem dX8_isRule_47 : decode cX8_isRule 47 = .ok (.invokevirtual 105, 3) := by decide +kernel
theorem dX8_isRule_50 : decode cX8_isRule 50 = .ok (.ifCond .eq 5, 3) := by decide +kernel
theorem dX8_isRule_53 : decode cX8_isRule 53 = .ok (.iconst 0, 1) := by decide +kernel
theorem dX8_isRule_54 : decode cX8_isRule 54 = .ok (.ireturn, 1) := by decide +kernel
theorem dX8_isRule_55 : decode cX8_isRule 55 = .ok (.iconst 0, 1) := by decide +kernel
theorem dX8_isRule_56 : decode cX8_isRule 56 = .ok (.istore_n 2, 1) := by decide +kernel
theorem dX8_isRule_57 : decode cX8_isRule 57 = .ok (.aload_n 0, 1) := by decide +kernel
theorem dX8_isRule_58 : decode cX8_isRule 58 = .ok (.getfield 52, 3) := by decide +kernel
theorem dX8_isRule_61 : decode cX8_isRule 61 = .ok (.getfield 110, 3) := by decide +kernel
theorem dX8_isRule_64 : decode cX8_isRule 64 = .ok (.iload_n 1, 1) := by decide +kernel
theorem dX8_isRule_65 : decode cX8_isRule 65 = .ok (.iaload, 1) := by decide +kernel
theorem dX8_isRule_66 : decode cX8_isRule 66 = .ok (.istore_n 3, 1) := by decide +kernel
theorem dX8_isRule_67 : decode cX8_isRule 67 = .ok (.iload_n 3, 1) := by decide +kernel
theorem dX8_isRule_68 : decode cX8_isRule 68 = .ok (.aload_n 0, 1) := by decide +kernel
theorem dX8_isRule_69 : decode cX8_isRule 69 = .ok (.getfield 52, 3) := by decide +kernel
theorem dX8_isRule_72 : decode cX8_isRule 72 = .ok (.getfield 110, 3) := by decide +kernel
theorem dX8_isRule_75 : decode cX8_isRule 75 = .ok (.iload_n 1, 1) := by decide +kernel
theorem dX8_isRule_76 : decode cX8_isRule 76 = .ok (.iconst 1, 1) := by decide +kernel
theorem dX8_isRule_77 : decode cX8_isRule 77 = .ok (.iadd, 1) := by decide +kernel
theorem dX8_isRule_78 : decode cX8_isRule 78 = .ok (.iaload, 1) := by decide +kernel
theorem dX8_isRule_79 : decode cX8_isRule 79 = .ok (.if_icmp .ge 58, 3) := by decide +kernel
theorem dX8_isRule_82 : decode cX8_isRule 82 = .ok (.aload_n 0, 1) := by decide +kernel
theorem dX8_isRule_83 : decode cX8_isRule 83 = .ok (.getfield 52, 3) := by decide +kernel
theorem dX8_isRule_86 : decode cX8_isRule 86 = .ok (.getfield 113, 3) := by decide +kernel
theorem dX8_isRule_89 : decode cX8_isRule 89 = .ok (.iload_n 3, 1) := by decide +kernel
theorem dX8_isRule_90 : decode cX8_isRule 90 = .ok (.iaload, 1) := by decide +kernel
theorem dX8_isRule_91 : decode cX8_isRule 91 = .ok (.istore 4, 2) := by decide +kernel
theorem dX8_isRule_93 : decode cX8_isRule 93 = .ok (.iload 4, 2) := by decide +kernel
theorem dX8_isRule_95 : decode cX8_isRule 95 = .ok (.iconst (-1), 1) := by decide +kernel
theorem dX8_isRule_96 : decode cX8_isRule 96 = .ok (.if_icmp .eq 21, 3) := by decide +kernel
theorem dX8_isRule_99 : decode cX8_isRule 99 = .ok (.aload_n 0, 1) := by decide +kernel
theorem dX8_isRule_100 : decode cX8_isRule 100 = .ok (.getfield 52, 3) := by decide +kernel
theorem dX8_isRule_103 : decode cX8_isRule 103 = .ok (.iload 4, 2) := by decide +kernel
theorem dX8_isRule_105 : decode cX8_isRule 105 = .ok (.invokevirtual 102, 3) := by decide +kernel
theorem dX8_isRule_108 : decode cX8_isRule 108 = .ok (.aload_n 0, 1) := by decide +kernel
theorem dX8_isRule_109 : decode cX8_isRule 109 = .ok (.getfield 46, 3) := by decide +kernel
theorem dX8_isRule_112 : decode cX8_isRule 112 = .ok (.if_icmp .ne 5, 3) := by decide +kernel
theorem dX8_isRule_115 : decode cX8_isRule 115 = .ok (.iconst 0, 1) := by decide +kernel
theorem dX8_isRule_116 : decode cX8_isRule 116 = .ok (.ireturn, 1) := by decide +kernel
theorem dX8_isRule_117 : decode cX8_isRule 117 = .ok (.iload_n 2, 1) := by decide +kernel
theorem dX8_isRule_118 : decode cX8_isRule 118 = .ok (.iload 4, 2) := by decide +kernel
theorem dX8_isRule_120 : decode cX8_isRule 120 = .ok (.iconst (-1), 1) := by decide +kernel
theorem dX8_isRule_121 : decode cX8_isRule 121 = .ok (.if_icmp .ne 7, 3) := by decide +kernel
theorem dX8_isRule_124 : decode cX8_isRule 124 = .ok (.iconst 0, 1) := by decide +kernel
theorem dX8_isRule_125 : decode cX8_isRule 125 = .ok (.goto 4, 3) := by decide +kernel
theorem dX8_isRule_128 : decode cX8_isRule 128 = .ok (.iconst 1, 1) := by decide +kernel
theorem dX8_isRule_129 : decode cX8_isRule 129 = .ok (.iadd, 1) := by decide +kernel
theorem dX8_isRule_130 : decode cX8_isRule 130 = .ok (.istore_n 2, 1) := by decide +kernel
theorem dX8_isRule_131 : decode cX8_isRule 131 = .ok (.iinc 3 1, 3) := by decide +kernel
theorem dX8_isRule_134 : decode cX8_isRule 134 = .ok (.goto (-67), 3) := by decide +kernel
theorem dX8_isRule_137 : decode cX8_isRule 137 = .ok (.iload_n 2, 1) := by decide +kernel
theorem dX8_isRule_138 : decode cX8_isRule 138 = .ok (.aload_n 0, 1) := by decide +kernel
theorem dX8_isRule_139 : decode cX8_isRule 139 = .ok (.getfield 56, 3) := by decide +kernel
theorem dX8_isRule_142 : decode cX8_isRule 142 = .ok (.getfield 116, 3) := by decide +kernel
theorem dX8_isRule_145 : decode cX8_isRule 145 = .ok (.iload_n 1, 1) := by decide +kernel
theorem dX8_isRule_146 : decode cX8_isRule 146 = .ok (.iaload, 1) := by decide +kernel
theorem dX8_isRule_147 : decode cX8_isRule 147 = .ok (.if_icmp .ne 7, 3) := by decide +kernel
theorem dX8_isRule_150 : decode cX8_isRule 150 = .ok (.iconst 1, 1) := by decide +kernel
theorem dX8_isRule_151 : decode cX8_isRule 151 = .ok (.goto 4, 3) := by decide +kernel
theorem dX8_isRule_154 : decode cX8_isRule 154 = .ok (.iconst 0, 1) := by decide +kernel
theorem dX8_isRule_155 : decode cX8_isRule 155 = .ok (.ireturn, 1) := by decide +kernel
theorem dX8_insert_0 : decode cX8_insert 0 = .ok (.iconst 0, 1) := by decide +kernel
theorem dX8_insert_1 : decode cX8_insert 1 = .ok (.istore_n 2, 1) := by decide +kernel
theorem dX8_insert_2 : decode cX8_insert 2 = .ok (.aload_n 0, 1) := by decide +kernel
theorem dX8_insert_3 : decode cX8_insert 3 = .ok (.getfield 52, 3) := by decide +kernel
theorem dX8_insert_6 : decode cX8_insert 6 = .ok (.getfield 110, 3) := by decide +kernel
theorem dX8_insert_9 : decode cX8_insert 9 = .ok (.iload_n 1, 1) := by decide +kernel
theorem dX8_insert_10 : decode cX8_insert 10 = .ok (.iaload, 1) := by decide +kernel
theorem dX8_insert_11 : decode cX8_insert 11 = .ok (.iconst 1, 1) := by decide +kernel
theorem dX8_insert_12 : decode cX8_insert 12 = .ok (.iadd, 1) := by decide +kernel
theorem dX8_insert_13 : decode cX8_insert 13 = .ok (.istore_n 3, 1) := by decide +kernel
theorem dX8_insert_14 : decode cX8_insert 14 = .ok (.iload_n 3, 1) := by decide +kernel
theorem dX8_insert_15 : decode cX8_insert 15 = .ok (.aload_n 0, 1) := by decide +kernel
theorem dX8_insert_16 : decode cX8_insert 16 = .ok (.getfield 52, 3) := by decide +kernel
theorem dX8_insert_19 : decode cX8_insert 19 = .ok (.getfield 110, 3) := by decide +kernel
theorem dX8_insert_22 : decode cX8_insert 22 = .ok (.iload_n 1, 1) := by decide +kernel
theorem dX8_insert_23 : decode cX8_insert 23 = .ok (.iconst 1, 1) := by decide +kernel
theorem dX8_insert_24 : decode cX8_insert 24 = .ok (.iadd, 1) := by decide +kernel
theorem dX8_insert_25 : decode cX8_insert 25 = .ok (.iaload, 1) := by decide +kernel
theorem dX8_insert_26 : decode cX8_insert 26 = .ok (.if_icmp .ge 64, 3) := by decide +kernel
theorem dX8_insert_29 : decode cX8_insert 29 = .ok (.aload_n 0, 1) := by decide +kernel
theorem dX8_insert_30 : decode cX8_insert 30 = .ok (.getfield 52, 3) := by decide +kernel
theorem dX8_insert_33 : decode cX8_insert 33 = .ok (.getfield 113, 3) := by decide +kernel
theorem dX8_insert_36 : decode cX8_insert 36 = .ok (.iload_n 3, 1) := by decide +kernel
theorem dX8_insert_37 : decode cX8_insert 37 = .ok (.iaload, 1) := by decide +kernel
theorem dX8_insert_38 : decode cX8_insert 38 = .ok (.istore 4, 2) := by decide +kernel
theorem dX8_insert_40 : decode cX8_insert 40 = .ok (.aload_n 0, 1) := by decide +kernel
theorem dX8_insert_41 : decode cX8_insert 41 = .ok (.iload_n 2, 1) := by decide +kernel
theorem dX8_insert_42 : decode cX8_insert 42 = .ok (.iload 4, 2) := by decide +kernel
theorem dX8_insert_44 : decode cX8_insert 44 = .ok (.iconst (-1), 1) := by decide +kernel
theorem dX8_insert_45 : decode cX8_insert 45 = .ok (.if_icmp .ne 15, 3) := by decide +kernel
theorem dX8_insert_48 : decode cX8_insert 48 = .ok (.aload_n 0, 1) := by decide +kernel
theorem dX8_insert_49 : decode cX8_insert 49 = .ok (.getfield 52, 3) := by decide +kernel
theorem dX8_insert_52 : decode cX8_insert 52 = .ok (.getfield 119, 3) := by decide +kernel
theorem dX8_insert_55 : decode cX8_insert 55 = .ok (.iload_n 3, 1) := by decide +kernel
theorem dX8_insert_56 : decode cX8_insert 56 = .ok (.iaload, 1) := by decide +kernel
theorem dX8_insert_57 : decode cX8_insert 57 = .ok (.goto 22, 3) := by decide +kernel
theorem dX8_insert_60 : decode cX8_insert 60 = .ok (.aload_n 0, 1) := by decide +kernel
theorem dX8_insert_61 : decode cX8_insert 61 = .ok (.getfield 52, 3) := by decide +kernel
theorem dX8_insert_64 : decode cX8_insert 64 = .ok (.getfield 122, 3) := by decide +kernel
theorem dX8_insert_67 : decode cX8_insert 67 = .ok (.aload_n 0, 1) := by decide +kernel
theorem dX8_insert_68 : decode cX8_insert 68 = .ok (.getfield 52, 3) := by decide +kernel
theorem dX8_insert_71 : decode cX8_insert 71 = .ok (.iload 4, 2) := by decide +kernel
theorem dX8_insert_73 : decode cX8_insert 73 = .ok (.invokevirtual 102, 3) := by decide +kernel
theorem dX8_insert_76 : decode cX8_insert 76 = .ok (.iaload, 1) := by decide +kernel
theorem dX8_insert_77 : decode cX8_insert 77 = .ok (.iconst (-1), 1) := by decide +kernel
theorem dX8_insert_78 : decode cX8_insert 78 = .ok (.ixor, 1) := by decide +kernel
theorem dX8_insert_79 : decode cX8_insert 79 = .ok (.iload_n 1, 1) := by decide +kernel
theorem dX8_insert_80 : decode cX8_insert 80 = .ok (.invokevirtual 125, 3) := by decide +kernel
theorem dX8_insert_83 : decode cX8_insert 83 = .ok (.istore_n 2, 1) := by decide +kernel
theorem dX8_insert_84 : decode cX8_insert 84 = .ok (.iinc 3 1, 3) := by decide +kernel
theorem dX8_insert_87 : decode cX8_insert 87 = .ok (.goto (-73), 3) := by decide +kernel
theorem dX8_insert_90 : decode cX8_insert 90 = .ok (.aload_n 0, 1) := by decide +kernel
theorem dX8_insert_91 : decode cX8_insert 91 = .ok (.getfield 27, 3) := by decide +kernel
theorem dX8_insert_94 : decode cX8_insert 94 = .ok (.iload_n 1, 1) := by decide +kernel
theorem dX8_insert_95 : decode cX8_insert 95 = .ok (.aload_n 0, 1) := by decide +kernel
theorem dX8_insert_96 : decode cX8_insert 96 = .ok (.getfield 24, 3) := by decide +kernel
theorem dX8_insert_99 : decode cX8_insert 99 = .ok (.iload_n 2, 1) := by decide +kernel
theorem dX8_insert_100 : decode cX8_insert 100 = .ok (.iaload, 1) := by decide +kernel
theorem dX8_insert_101 : decode cX8_insert 101 = .ok (.iastore, 1) := by decide +kernel
theorem dX8_insert_102 : decode cX8_insert 102 = .ok (.aload_n 0, 1) := by decide +kernel
theorem dX8_insert_103 : decode cX8_insert 103 = .ok (.getfield 24, 3) := by decide +kernel
theorem dX8_insert_106 : decode cX8_insert 106 = .ok (.iload_n 2, 1) := by decide +kernel
theorem dX8_insert_107 : decode cX8_insert 107 = .ok (.iload_n 1, 1) := by decide +kernel
theorem dX8_insert_108 : decode cX8_insert 108 = .ok (.iconst 1, 1) := by decide +kernel
theorem dX8_insert_109 : decode cX8_insert 109 = .ok (.iadd, 1) := by decide +kernel
theorem dX8_insert_110 : decode cX8_insert 110 = .ok (.iastore, 1) := by decide +kernel
theorem dX8_insert_111 : decode cX8_insert 111 = .ok (.aload_n 0, 1) := by decide +kernel
theorem dX8_insert_112 : decode cX8_insert 112 = .ok (.getfield 52, 3) := by decide +kernel
theorem dX8_insert_115 : decode cX8_insert 115 = .ok (.getfield 113, 3) := by decide +kernel
theorem dX8_insert_118 : decode cX8_insert 118 = .ok (.aload_n 0, 1) := by decide +kernel
theorem dX8_insert_119 : decode cX8_insert 119 = .ok (.getfield 52, 3) := by decide +kernel
theorem dX8_insert_122 : decode cX8_insert 122 = .ok (.getfield 110, 3) := by decide +kernel
theorem dX8_insert_125 : decode cX8_insert 125 = .ok (.iload_n 1, 1) := by decide +kernel
theorem dX8_insert_126 : decode cX8_insert 126 = .ok (.iaload, 1) := by decide +kernel
theorem dX8_insert_127 : decode cX8_insert 127 = .ok (.iconst 1, 1) := by decide +kernel
theorem dX8_insert_128 : decode cX8_insert 128 = .ok (.iadd, 1) := by decide +kernel
theorem dX8_insert_129 : decode cX8_insert 129 = .ok (.iaload, 1) := by decide +kernel
theorem dX8_insert_130 : decode cX8_insert 130 = .ok (.istore_n 3, 1) := by decide +kernel
theorem dX8_insert_131 : decode cX8_insert 131 = .ok (.aload_n 0, 1) := by decide +kernel
theorem dX8_insert_132 : decode cX8_insert 132 = .ok (.getfield 52, 3) := by decide +kernel
theorem dX8_insert_135 : decode cX8_insert 135 = .ok (.iload_n 1, 1) := by decide +kernel
theorem dX8_insert_136 : decode cX8_insert 136 = .ok (.invokevirtual 79, 3) := by decide +kernel
theorem dX8_insert_139 : decode cX8_insert 139 = .ok (.iconst 2, 1) := by decide +kernel
theorem dX8_insert_140 : decode cX8_insert 140 = .ok (.if_icmp .ne 53, 3) := by decide +kernel
theorem dX8_insert_143 : decode cX8_insert 143 = .ok (.iload_n 3, 1) := by decide +kernel
theorem dX8_insert_144 : decode cX8_insert 144 = .ok (.iconst (-1), 1) := by decide +kernel
theorem dX8_insert_145 : decode cX8_insert 145 = .ok (.if_icmp .eq 48, 3) := by decide +kernel
theorem dX8_insert_148 : decode cX8_insert 148 = .ok (.aload_n 0, 1) := by decide +kernel
theorem dX8_insert_149 : decode cX8_insert 149 = .ok (.getfield 40, 3) := by decide +kernel
theorem dX8_insert_152 : decode cX8_insert 152 = .ok (.aload_n 0, 1) := by decide +kernel
theorem dX8_insert_153 : decode cX8_insert 153 = .ok (.getfield 129, 3) := by decide +kernel
theorem dX8_insert_156 : decode cX8_insert 156 = .ok (.iload_n 1, 1) := by decide +kernel
theorem dX8_insert_157 : decode cX8_insert 157 = .ok (.iastore, 1) := by decide +kernel
theorem dX8_insert_158 : decode cX8_insert 158 = .ok (.aload_n 0, 1) := by decide +kernel
theorem dX8_insert_159 : decode cX8_insert 159 = .ok (.getfield 43, 3) := by decide +kernel
theorem dX8_insert_162 : decode cX8_insert 162 = .ok (.aload_n 0, 1) := by decide +kernel
theorem dX8_insert_163 : decode cX8_insert 163 = .ok (.getfield 129, 3) := by decide +kernel
theorem dX8_insert_166 : decode cX8_insert 166 = .ok (.aload_n 0, 1) := by decide +kernel
theorem dX8_insert_167 : decode cX8_insert 167 = .ok (.getfield 52, 3) := by decide +kernel
theorem dX8_insert_170 : decode cX8_insert 170 = .ok (.getfield 122, 3) := by decide +kernel
theorem dX8_insert_173 : decode cX8_insert 173 = .ok (.aload_n 0, 1) := by decide +kernel
theorem dX8_insert_174 : decode cX8_insert 174 = .ok (.getfield 52, 3) := by decide +kernel
theorem dX8_insert_177 : decode cX8_insert 177 = .ok (.iload_n 3, 1) := by decide +kernel
theorem dX8_insert_178 : decode cX8_insert 178 = .ok (.invokevirtual 102, 3) := by decide +kernel
theorem dX8_insert_181 : decode cX8_insert 181 = .ok (.iaload, 1) := by decide +kernel
theorem dX8_insert_182 : decode cX8_insert 182 = .ok (.iastore, 1) := by decide +kernel
theorem dX8_insert_183 : decode cX8_insert 183 = .ok (.aload_n 0, 1) := by decide +kernel
theorem dX8_insert_184 : decode cX8_insert 184 = .ok (.dup, 1) := by decide +kernel
theorem dX8_insert_185 : decode cX8_insert 185 = .ok (.getfield 129, 3) := by decide +kernel
theorem dX8_insert_188 : decode cX8_insert 188 = .ok (.iconst 1, 1) := by decide +kernel
theorem dX8_insert_189 : decode cX8_insert 189 = .ok (.iadd, 1) := by decide +kernel
theorem dX8_insert_190 : decode cX8_insert 190 = .ok (.putfield 129, 3) := by decide +kernel
theorem dX8_insert_193 : decode cX8_insert 193 = .ok (.return_, 1) := by decide +kernel
theorem dX8_child_0 : decode cX8_child 0 = .ok (.aload_n 0, 1) := by decide +kernel
theorem dX8_child_1 : decode cX8_child 1 = .ok (.getfield 9, 3) := by decide +kernel
theorem dX8_child_4 : decode cX8_child 4 = .ok (.iload_n 1, 1) := by decide +kernel
theorem dX8_child_5 : decode cX8_child 5 = .ok (.iaload, 1) := by decide +kernel
theorem dX8_child_6 : decode cX8_child 6 = .ok (.istore 4, 2) := by decide +kernel
theorem dX8_child_8 : decode cX8_child 8 = .ok (.iconst 0, 1) := by decide +kernel
theorem dX8_child_9 : decode cX8_child 9 = .ok (.istore 5, 2) := by decide +kernel
theorem dX8_child_11 : decode cX8_child 11 = .ok (.iload 5, 2) := by decide +kernel
theorem dX8_child_13 : decode cX8_child 13 = .ok (.aload_n 0, 1) := by decide +kernel
theorem dX8_child_14 : decode cX8_child 14 = .ok (.getfield 30, 3) := by decide +kernel
theorem dX8_child_17 : decode cX8_child 17 = .ok (.if_icmp .ge 34, 3) := by decide +kernel
theorem dX8_child_20 : decode cX8_child 20 = .ok (.iload 4, 2) := by decide +kernel
theorem dX8_child_22 : decode cX8_child 22 = .ok (.ifCond .le 29, 3) := by decide +kernel
theorem dX8_child_25 : decode cX8_child 25 = .ok (.aload_n 0, 1) := by decide +kernel
theorem dX8_child_26 : decode cX8_child 26 = .ok (.getfield 18, 3) := by decide +kernel
theorem dX8_child_29 : decode cX8_child 29 = .ok (.iload 4, 2) := by decide +kernel
theorem dX8_child_31 : decode cX8_child 31 = .ok (.iaload, 1) := by decide +kernel
theorem dX8_child_32 : decode cX8_child 32 = .ok (.iload_n 2, 1) := by decide +kernel
theorem dX8_child_33 : decode cX8_child 33 = .ok (.if_icmp .eq 18, 3) := by decide +kernel
theorem dX8_child_36 : decode cX8_child 36 = .ok (.aload_n 0, 1) := by decide +kernel
theorem dX8_child_37 : decode cX8_child 37 = .ok (.getfield 15, 3) := by decide +kernel
theorem dX8_child_40 : decode cX8_child 40 = .ok (.iload 4, 2) := by decide +kernel
theorem dX8_child_42 : decode cX8_child 42 = .ok (.iaload, 1) := by decide +kernel
theorem dX8_child_43 : decode cX8_child 43 = .ok (.istore 4, 2) := by decide +kernel
theorem dX8_child_45 : decode cX8_child 45 = .ok (.iinc 5 1, 3) := by decide +kernel
theorem dX8_child_48 : decode cX8_child 48 = .ok (.goto (-37), 3) := by decide +kernel
theorem dX8_child_51 : decode cX8_child 51 = .ok (.iload 4, 2) := by decide +kernel
theorem dX8_child_53 : decode cX8_child 53 = .ok (.ifCond .le 6, 3) := by decide +kernel
theorem dX8_child_56 : decode cX8_child 56 = .ok (.iload 4, 2) := by decide +kernel
theorem dX8_child_58 : decode cX8_child 58 = .ok (.ireturn, 1) := by decide +kernel
theorem dX8_child_59 : decode cX8_child 59 = .ok (.aload_n 0, 1) := by decide +kernel
theorem dX8_child_60 : decode cX8_child 60 = .ok (.getfield 15, 3) := by decide +kernel
theorem dX8_child_63 : decode cX8_child 63 = .ok (.aload_n 0, 1) := by decide +kernel
theorem dX8_child_64 : decode cX8_child 64 = .ok (.getfield 30, 3) := by decide +kernel
theorem dX8_child_67 : decode cX8_child 67 = .ok (.aload_n 0, 1) := by decide +kernel
theorem dX8_child_68 : decode cX8_child 68 = .ok (.getfield 9, 3) := by decide +kernel
theorem dX8_child_71 : decode cX8_child 71 = .ok (.iload_n 1, 1) := by decide +kernel
theorem dX8_child_72 : decode cX8_child 72 = .ok (.iaload, 1) := by decide +kernel
theorem dX8_child_73 : decode cX8_child 73 = .ok (.iastore, 1) := by decide +kernel
theorem dX8_child_74 : decode cX8_child 74 = .ok (.aload_n 0, 1) := by decide +kernel
theorem dX8_child_75 : decode cX8_child 75 = .ok (.getfield 9, 3) := by decide +kernel
theorem dX8_child_78 : decode cX8_child 78 = .ok (.iload_n 1, 1) := by decide +kernel
theorem dX8_child_79 : decode cX8_child 79 = .ok (.aload_n 0, 1) := by decide +kernel
theorem dX8_child_80 : decode cX8_child 80 = .ok (.getfield 30, 3) := by decide +kernel
theorem dX8_child_83 : decode cX8_child 83 = .ok (.iastore, 1) := by decide +kernel
theorem dX8_child_84 : decode cX8_child 84 = .ok (.aload_n 0, 1) := by decide +kernel
theorem dX8_child_85 : decode cX8_child 85 = .ok (.getfield 18, 3) := by decide +kernel
theorem dX8_child_88 : decode cX8_child 88 = .ok (.aload_n 0, 1) := by decide +kernel
theorem dX8_child_89 : decode cX8_child 89 = .ok (.getfield 30, 3) := by decide +kernel
theorem dX8_child_92 : decode cX8_child 92 = .ok (.iload_n 2, 1) := by decide +kernel
theorem dX8_child_93 : decode cX8_child 93 = .ok (.iastore, 1) := by decide +kernel
theorem dX8_child_94 : decode cX8_child 94 = .ok (.aload_n 0, 1) := by decide +kernel
theorem dX8_child_95 : decode cX8_child 95 = .ok (.getfield 21, 3) := by decide +kernel
theorem dX8_child_98 : decode cX8_child 98 = .ok (.aload_n 0, 1) := by decide +kernel
theorem dX8_child_99 : decode cX8_child 99 = .ok (.getfield 30, 3) := by decide +kernel
theorem dX8_child_102 : decode cX8_child 102 = .ok (.iload_n 3, 1) := by decide +kernel
theorem dX8_child_103 : decode cX8_child 103 = .ok (.iastore, 1) := by decide +kernel
theorem dX8_child_104 : decode cX8_child 104 = .ok (.iload_n 1, 1) := by decide +kernel
theorem dX8_child_105 : decode cX8_child 105 = .ok (.ifCond .ne 22, 3) := by decide +kernel
theorem dX8_child_108 : decode cX8_child 108 = .ok (.iload_n 2, 1) := by decide +kernel
theorem dX8_child_109 : decode cX8_child 109 = .ok (.ifCond .ge 18, 3) := by decide +kernel
theorem dX8_child_112 : decode cX8_child 112 = .ok (.aload_n 0, 1) := by decide +kernel
theorem dX8_child_113 : decode cX8_child 113 = .ok (.getfield 37, 3) := by decide +kernel
theorem dX8_child_116 : decode cX8_child 116 = .ok (.iload_n 2, 1) := by decide +kernel
theorem dX8_child_117 : decode cX8_child 117 = .ok (.iconst (-1), 1) := by decide +kernel
theorem dX8_child_118 : decode cX8_child 118 = .ok (.ixor, 1) := by decide +kernel
theorem dX8_child_119 : decode cX8_child 119 = .ok (.aload_n 0, 1) := by decide +kernel
theorem dX8_child_120 : decode cX8_child 120 = .ok (.getfield 30, 3) := by decide +kernel
theorem dX8_child_123 : decode cX8_child 123 = .ok (.iastore, 1) := by decide +kernel
theorem dX8_child_124 : decode cX8_child 124 = .ok (.goto 17, 3) := by decide +kernel
theorem dX8_child_127 : decode cX8_child 127 = .ok (.iload_n 1, 1) := by decide +kernel
theorem dX8_child_128 : decode cX8_child 128 = .ok (.ifCond .ne 13, 3) := by decide +kernel
theorem dX8_child_131 : decode cX8_child 131 = .ok (.aload_n 0, 1) := by decide +kernel
theorem dX8_child_132 : decode cX8_child 132 = .ok (.getfield 34, 3) := by decide +kernel
theorem dX8_child_135 : decode cX8_child 135 = .ok (.iload_n 2, 1) := by decide +kernel
theorem dX8_child_136 : decode cX8_child 136 = .ok (.aload_n 0, 1) := by decide +kernel
theorem dX8_child_137 : decode cX8_child 137 = .ok (.getfield 30, 3) := by decide +kernel
theorem dX8_child_140 : decode cX8_child 140 = .ok (.iastore, 1) := by decide +kernel
theorem dX8_child_141 : decode cX8_child 141 = .ok (.aload_n 0, 1) := by decide +kernel
theorem dX8_child_142 : decode cX8_child 142 = .ok (.dup, 1) := by decide +kernel
theorem dX8_child_143 : decode cX8_child 143 = .ok (.getfield 30, 3) := by decide +kernel
theorem dX8_child_146 : decode cX8_child 146 = .ok (.iconst 1, 1) := by decide +kernel
theorem dX8_child_147 : decode cX8_child 147 = .ok (.iadd, 1) := by decide +kernel
theorem dX8_child_148 : decode cX8_child 148 = .ok (.putfield 30, 3) := by decide +kernel
theorem dX8_child_151 : decode cX8_child 151 = .ok (.aload_n 0, 1) := by decide +kernel
theorem dX8_child_152 : decode cX8_child 152 = .ok (.getfield 30, 3) := by decide +kernel
theorem dX8_child_155 : decode cX8_child 155 = .ok (.iconst 1, 1) := by decide +kernel
theorem dX8_child_156 : decode cX8_child 156 = .ok (.isub, 1) := by decide +kernel
theorem dX8_child_157 : decode cX8_child 157 = .ok (.ireturn, 1) := by decide +kernel
theorem dX8_sortRank_0 : decode cX8_sortRank 0 = .ok (.iload_n 1, 1) := by decide +kernel
theorem dX8_sortRank_1 : decode cX8_sortRank 1 = .ok (.aload_n 0, 1) := by decide +kernel
theorem dX8_sortRank_2 : decode cX8_sortRank 2 = .ok (.getfield 46, 3) := by decide +kernel
theorem dX8_sortRank_5 : decode cX8_sortRank 5 = .ok (.if_icmp .ne 7, 3) := by decide +kernel
theorem dX8_sortRank_8 : decode cX8_sortRank 8 = .ok (.iconst (-1), 1) := by decide +kernel
theorem dX8_sortRank_9 : decode cX8_sortRank 9 = .ok (.goto 12, 3) := by decide +kernel
theorem dX8_sortRank_12 : decode cX8_sortRank 12 = .ok (.aload_n 0, 1) := by decide +kernel
theorem dX8_sortRank_13 : decode cX8_sortRank 13 = .ok (.getfield 52, 3) := by decide +kernel
theorem dX8_sortRank_16 : decode cX8_sortRank 16 = .ok (.getfield 122, 3) := by decide +kernel
theorem dX8_sortRank_19 : decode cX8_sortRank 19 = .ok (.iload_n 1, 1) := by decide +kernel
theorem dX8_sortRank_20 : decode cX8_sortRank 20 = .ok (.iaload, 1) := by decide +kernel
theorem dX8_sortRank_21 : decode cX8_sortRank 21 = .ok (.ireturn, 1) := by decide +kernel
theorem dX8_goalRank_0 : decode cX8_goalRank 0 = .ok (.iload_n 1, 1) := by decide +kernel
theorem dX8_goalRank_1 : decode cX8_goalRank 1 = .ok (.aload_n 0, 1) := by decide +kernel
theorem dX8_goalRank_2 : decode cX8_goalRank 2 = .ok (.getfield 46, 3) := by decide +kernel
theorem dX8_goalRank_5 : decode cX8_goalRank 5 = .ok (.if_icmp .ne 10, 3) := by decide +kernel
theorem dX8_goalRank_8 : decode cX8_goalRank 8 = .ok (.aload_n 0, 1) := by decide +kernel
theorem dX8_goalRank_9 : decode cX8_goalRank 9 = .ok (.getfield 49, 3) := by decide +kernel
theorem dX8_goalRank_12 : decode cX8_goalRank 12 = .ok (.goto 4, 3) := by decide +kernel
theorem dX8_goalRank_15 : decode cX8_goalRank 15 = .ok (.iload_n 1, 1) := by decide +kernel
theorem dX8_goalRank_16 : decode cX8_goalRank 16 = .ok (.istore_n 2, 1) := by decide +kernel
theorem dX8_goalRank_17 : decode cX8_goalRank 17 = .ok (.iload_n 2, 1) := by decide +kernel
theorem dX8_goalRank_18 : decode cX8_goalRank 18 = .ok (.iconst (-1), 1) := by decide +kernel
theorem dX8_goalRank_19 : decode cX8_goalRank 19 = .ok (.if_icmp .ne 7, 3) := by decide +kernel
theorem dX8_goalRank_22 : decode cX8_goalRank 22 = .ok (.iconst (-1), 1) := by decide +kernel
theorem dX8_goalRank_23 : decode cX8_goalRank 23 = .ok (.goto 12, 3) := by decide +kernel
theorem dX8_goalRank_26 : decode cX8_goalRank 26 = .ok (.aload_n 0, 1) := by decide +kernel
theorem dX8_goalRank_27 : decode cX8_goalRank 27 = .ok (.getfield 52, 3) := by decide +kernel
theorem dX8_goalRank_30 : decode cX8_goalRank 30 = .ok (.getfield 122, 3) := by decide +kernel
theorem dX8_goalRank_33 : decode cX8_goalRank 33 = .ok (.iload_n 2, 1) := by decide +kernel
theorem dX8_goalRank_34 : decode cX8_goalRank 34 = .ok (.iaload, 1) := by decide +kernel
theorem dX8_goalRank_35 : decode cX8_goalRank 35 = .ok (.ireturn, 1) := by decide +kernel
theorem dX1_init_0 : decode cX1_init 0 = .ok (.aload_n 0, 1) := by decide +kernel
theorem dX1_init_1 : decode cX1_init 1 = .ok (.invokespecial 3, 3) := by decide +kernel
theorem dX1_init_4 : decode cX1_init 4 = .ok (.aload_n 0, 1) := by decide +kernel
theorem dX1_init_5 : decode cX1_init 5 = .ok (.bipush 60, 2) := by decide +kernel
theorem dX1_init_7 : decode cX1_init 7 = .ok (.newarray .int, 2) := by decide +kernel
theorem dX1_init_9 : decode cX1_init 9 = .ok (.putfield 9, 3) := by decide +kernel
theorem dX1_init_12 : decode cX1_init 12 = .ok (.aload_n 0, 1) := by decide +kernel
theorem dX1_init_13 : decode cX1_init 13 = .ok (.bipush 60, 2) := by decide +kernel
theorem dX1_init_15 : decode cX1_init 15 = .ok (.newarray .int, 2) := by decide +kernel
theorem dX1_init_17 : decode cX1_init 17 = .ok (.putfield 15, 3) := by decide +kernel
theorem dX1_init_20 : decode cX1_init 20 = .ok (.aload_n 0, 1) := by decide +kernel
theorem dX1_init_21 : decode cX1_init 21 = .ok (.sipush 1000, 3) := by decide +kernel
theorem dX1_init_24 : decode cX1_init 24 = .ok (.newarray .long, 2) := by decide +kernel
theorem dX1_init_26 : decode cX1_init 26 = .ok (.putfield 18, 3) := by decide +kernel
theorem dX1_init_29 : decode cX1_init 29 = .ok (.aload_n 0, 1) := by decide +kernel
theorem dX1_init_30 : decode cX1_init 30 = .ok (.sipush 6000, 3) := by decide +kernel
theorem dX1_init_33 : decode cX1_init 33 = .ok (.newarray .long, 2) := by decide +kernel
theorem dX1_init_35 : decode cX1_init 35 = .ok (.putfield 22, 3) := by decide +kernel
theorem dX1_init_38 : decode cX1_init 38 = .ok (.aload_n 0, 1) := by decide +kernel
theorem dX1_init_39 : decode cX1_init 39 = .ok (.sipush 6000, 3) := by decide +kernel
theorem dX1_init_42 : decode cX1_init 42 = .ok (.newarray .long, 2) := by decide +kernel
theorem dX1_init_44 : decode cX1_init 44 = .ok (.putfield 25, 3) := by decide +kernel
theorem dX1_init_47 : decode cX1_init 47 = .ok (.aload_n 0, 1) := by decide +kernel
theorem dX1_init_48 : decode cX1_init 48 = .ok (.ldc 28, 2) := by decide +kernel
theorem dX1_init_50 : decode cX1_init 50 = .ok (.newarray .int, 2) := by decide +kernel
theorem dX1_init_52 : decode cX1_init 52 = .ok (.putfield 29, 3) := by decide +kernel
theorem dX1_init_55 : decode cX1_init 55 = .ok (.aload_n 0, 1) := by decide +kernel
theorem dX1_init_56 : decode cX1_init 56 = .ok (.bipush 61, 2) := by decide +kernel
theorem dX1_init_58 : decode cX1_init 58 = .ok (.newarray .int, 2) := by decide +kernel
theorem dX1_init_60 : decode cX1_init 60 = .ok (.putfield 32, 3) := by decide +kernel
theorem dX1_init_63 : decode cX1_init 63 = .ok (.aload_n 0, 1) := by decide +kernel
theorem dX1_init_64 : decode cX1_init 64 = .ok (.bipush 61, 2) := by decide +kernel
theorem dX1_init_66 : decode cX1_init 66 = .ok (.newarray .long, 2) := by decide +kernel
theorem dX1_init_68 : decode cX1_init 68 = .ok (.putfield 35, 3) := by decide +kernel
theorem dX1_init_71 : decode cX1_init 71 = .ok (.aload_n 0, 1) := by decide +kernel
theorem dX1_init_72 : decode cX1_init 72 = .ok (.bipush 61, 2) := by decide +kernel
theorem dX1_init_74 : decode cX1_init 74 = .ok (.newarray .long, 2) := by decide +kernel
theorem dX1_init_76 : decode cX1_init 76 = .ok (.putfield 38, 3) := by decide +kernel
theorem dX1_init_79 : decode cX1_init 79 = .ok (.aload_n 0, 1) := by decide +kernel
theorem dX1_init_80 : decode cX1_init 80 = .ok (.bipush 100, 2) := by decide +kernel
theorem dX1_init_82 : decode cX1_init 82 = .ok (.newarray .int, 2) := by decide +kernel
theorem dX1_init_84 : decode cX1_init 84 = .ok (.putfield 41, 3) := by decide +kernel
theorem dX1_init_87 : decode cX1_init 87 = .ok (.aload_n 0, 1) := by decide +kernel
theorem dX1_init_88 : decode cX1_init 88 = .ok (.bipush 100, 2) := by decide +kernel
theorem dX1_init_90 : decode cX1_init 90 = .ok (.newarray .int, 2) := by decide +kernel
theorem dX1_init_92 : decode cX1_init 92 = .ok (.putfield 44, 3) := by decide +kernel
theorem dX1_init_95 : decode cX1_init 95 = .ok (.aload_n 0, 1) := by decide +kernel
theorem dX1_init_96 : decode cX1_init 96 = .ok (.bipush 100, 2) := by decide +kernel
theorem dX1_init_98 : decode cX1_init 98 = .ok (.newarray .int, 2) := by decide +kernel
theorem dX1_init_100 : decode cX1_init 100 = .ok (.putfield 47, 3) := by decide +kernel
theorem dX1_init_103 : decode cX1_init 103 = .ok (.aload_n 0, 1) := by decide +kernel
theorem dX1_init_104 : decode cX1_init 104 = .ok (.aload_n 1, 1) := by decide +kernel
theorem dX1_init_105 : decode cX1_init 105 = .ok (.putfield 50, 3) := by decide +kernel
theorem dX1_init_108 : decode cX1_init 108 = .ok (.aload_n 0, 1) := by decide +kernel
theorem dX1_init_109 : decode cX1_init 109 = .ok (.aload_n 2, 1) := by decide +kernel
theorem dX1_init_110 : decode cX1_init 110 = .ok (.putfield 54, 3) := by decide +kernel
theorem dX1_init_113 : decode cX1_init 113 = .ok (.return_, 1) := by decide +kernel
theorem dX1_takeStatement_0 : decode cX1_takeStatement 0 = .ok (.aload_n 0, 1) := by decide +kernel
theorem dX1_takeStatement_1 : decode cX1_takeStatement 1 = .ok (.invokevirtual 58, 3) := by decide +kernel
theorem dX1_takeStatement_4 : decode cX1_takeStatement 4 = .ok (.aload_n 0, 1) := by decide +kernel
theorem dX1_takeStatement_5 : decode cX1_takeStatement 5 = .ok (.aload_n 0, 1) := by decide +kernel
theorem dX1_takeStatement_6 : decode cX1_takeStatement 6 = .ok (.getfield 50, 3) := by decide +kernel
theorem dX1_takeStatement_9 : decode cX1_takeStatement 9 = .ok (.iload_n 1, 1) := by decide +kernel
theorem dX1_takeStatement_10 : decode cX1_takeStatement 10 = .ok (.invokevirtual 61, 3) := by decide +kernel
theorem dX1_takeStatement_13 : decode cX1_takeStatement 13 = .ok (.bipush 60, 2) := by decide +kernel
theorem dX1_takeStatement_15 : decode cX1_takeStatement 15 = .ok (.invokestatic 67, 3) := by decide +kernel
theorem dX1_takeStatement_18 : decode cX1_takeStatement 18 = .ok (.iconst 1, 1) := by decide +kernel
theorem dX1_takeStatement_19 : decode cX1_takeStatement 19 = .ok (.isub, 1) := by decide +kernel
theorem dX1_takeStatement_20 : decode cX1_takeStatement 20 = .ok (.putfield 73, 3) := by decide +kernel
theorem dX1_takeStatement_23 : decode cX1_takeStatement 23 = .ok (.iconst 0, 1) := by decide +kernel
theorem dX1_takeStatement_24 : decode cX1_takeStatement 24 = .ok (.istore_n 2, 1) := by decide +kernel
theorem dX1_takeStatement_25 : decode cX1_takeStatement 25 = .ok (.iload_n 2, 1) := by decide +kernel
theorem dX1_takeStatement_26 : decode cX1_takeStatement 26 = .ok (.aload_n 0, 1) := by decide +kernel
theorem dX1_takeStatement_27 : decode cX1_takeStatement 27 = .ok (.getfield 73, 3) := by decide +kernel
theorem dX1_takeStatement_30 : decode cX1_takeStatement 30 = .ok (.if_icmp .ge 63, 3) := by decide +kernel
theorem dX1_takeStatement_33 : decode cX1_takeStatement 33 = .ok (.aload_n 0, 1) := by decide +kernel
theorem dX1_takeStatement_34 : decode cX1_takeStatement 34 = .ok (.getfield 9, 3) := by decide +kernel
theorem dX1_takeStatement_37 : decode cX1_takeStatement 37 = .ok (.iload_n 2, 1) := by decide +kernel
theorem dX1_takeStatement_38 : decode cX1_takeStatement 38 = .ok (.aload_n 0, 1) := by decide +kernel
theorem dX1_takeStatement_39 : decode cX1_takeStatement 39 = .ok (.getfield 50, 3) := by decide +kernel
theorem dX1_takeStatement_42 : decode cX1_takeStatement 42 = .ok (.getfield 77, 3) := by decide +kernel
theorem dX1_takeStatement_45 : decode cX1_takeStatement 45 = .ok (.aload_n 0, 1) := by decide +kernel
theorem dX1_takeStatement_46 : decode cX1_takeStatement 46 = .ok (.getfield 50, 3) := by decide +kernel
theorem dX1_takeStatement_49 : decode cX1_takeStatement 49 = .ok (.getfield 80, 3) := by decide +kernel
theorem dX1_takeStatement_52 : decode cX1_takeStatement 52 = .ok (.iload_n 1, 1) := by decide +kernel
theorem dX1_takeStatement_53 : decode cX1_takeStatement 53 = .ok (.iaload, 1) := by decide +kernel
theorem dX1_takeStatement_54 : decode cX1_takeStatement 54 = .ok (.iconst 1, 1) := by decide +kernel
theorem dX1_takeStatement_55 : decode cX1_takeStatement 55 = .ok (.iadd, 1) := by decide +kernel
theorem dX1_takeStatement_56 : decode cX1_takeStatement 56 = .ok (.iload_n 2, 1) := by decide +kernel
theorem dX1_takeStatement_57 : decode cX1_takeStatement 57 = .ok (.iadd, 1) := by decide +kernel
theorem dX1_takeStatement_58 : decode cX1_takeStatement 58 = .ok (.iaload, 1) := by decide +kernel
theorem dX1_takeStatement_59 : decode cX1_takeStatement 59 = .ok (.iastore, 1) := by decide +kernel
theorem dX1_takeStatement_60 : decode cX1_takeStatement 60 = .ok (.aload_n 0, 1) := by decide +kernel
theorem dX1_takeStatement_61 : decode cX1_takeStatement 61 = .ok (.getfield 15, 3) := by decide +kernel
theorem dX1_takeStatement_64 : decode cX1_takeStatement 64 = .ok (.iload_n 2, 1) := by decide +kernel
theorem dX1_takeStatement_65 : decode cX1_takeStatement 65 = .ok (.aload_n 0, 1) := by decide +kernel
theorem dX1_takeStatement_66 : decode cX1_takeStatement 66 = .ok (.getfield 50, 3) := by decide +kernel
theorem dX1_takeStatement_69 : decode cX1_takeStatement 69 = .ok (.getfield 83, 3) := by decide +kernel
theorem dX1_takeStatement_72 : decode cX1_takeStatement 72 = .ok (.aload_n 0, 1) := by decide +kernel
theorem dX1_takeStatement_73 : decode cX1_takeStatement 73 = .ok (.getfield 50, 3) := by decide +kernel
theorem dX1_takeStatement_76 : decode cX1_takeStatement 76 = .ok (.getfield 80, 3) := by decide +kernel
theorem dX1_takeStatement_79 : decode cX1_takeStatement 79 = .ok (.iload_n 1, 1) := by decide +kernel
theorem dX1_takeStatement_80 : decode cX1_takeStatement 80 = .ok (.iaload, 1) := by decide +kernel
theorem dX1_takeStatement_81 : decode cX1_takeStatement 81 = .ok (.iconst 1, 1) := by decide +kernel
theorem dX1_takeStatement_82 : decode cX1_takeStatement 82 = .ok (.iadd, 1) := by decide +kernel
theorem dX1_takeStatement_83 : decode cX1_takeStatement 83 = .ok (.iload_n 2, 1) := by decide +kernel
theorem dX1_takeStatement_84 : decode cX1_takeStatement 84 = .ok (.iadd, 1) := by decide +kernel
theorem dX1_takeStatement_85 : decode cX1_takeStatement 85 = .ok (.iaload, 1) := by decide +kernel
theorem dX1_takeStatement_86 : decode cX1_takeStatement 86 = .ok (.iastore, 1) := by decide +kernel
theorem dX1_takeStatement_87 : decode cX1_takeStatement 87 = .ok (.iinc 2 1, 3) := by decide +kernel
theorem dX1_takeStatement_90 : decode cX1_takeStatement 90 = .ok (.goto (-65), 3) := by decide +kernel
theorem dX1_takeStatement_93 : decode cX1_takeStatement 93 = .ok (.aload_n 0, 1) := by decide +kernel
theorem dX1_takeStatement_94 : decode cX1_takeStatement 94 = .ok (.iload_n 1, 1) := by decide +kernel
theorem dX1_takeStatement_95 : decode cX1_takeStatement 95 = .ok (.putfield 86, 3) := by decide +kernel
theorem dX1_takeStatement_98 : decode cX1_takeStatement 98 = .ok (.aload_n 0, 1) := by decide +kernel
theorem dX1_takeStatement_99 : decode cX1_takeStatement 99 = .ok (.aload_n 0, 1) := by decide +kernel
theorem dX1_takeStatement_100 : decode cX1_takeStatement 100 = .ok (.getfield 54, 3) := by decide +kernel
theorem dX1_takeStatement_103 : decode cX1_takeStatement 103 = .ok (.aload_n 0, 1) := by decide +kernel
theorem dX1_takeStatement_104 : decode cX1_takeStatement 104 = .ok (.getfield 50, 3) := by decide +kernel
theorem dX1_takeStatement_107 : decode cX1_takeStatement 107 = .ok (.iload_n 1, 1) := by decide +kernel
theorem dX1_takeStatement_108 : decode cX1_takeStatement 108 = .ok (.invokevirtual 89, 3) := by decide +kernel
theorem dX1_takeStatement_111 : decode cX1_takeStatement 111 = .ok (.invokevirtual 92, 3) := by decide +kernel
theorem dX1_takeStatement_114 : decode cX1_takeStatement 114 = .ok (.putfield 97, 3) := by decide +kernel
theorem dX1_takeStatement_117 : decode cX1_takeStatement 117 = .ok (.return_, 1) := by decide +kernel
theorem dX1_takeRow_0 : decode cX1_takeRow 0 = .ok (.aload_n 0, 1) := by decide +kernel
theorem dX1_takeRow_1 : decode cX1_takeRow 1 = .ok (.invokevirtual 58, 3) := by decide +kernel
theorem dX1_takeRow_4 : decode cX1_takeRow 4 = .ok (.aload_n 0, 1) := by decide +kernel
theorem dX1_takeRow_5 : decode cX1_takeRow 5 = .ok (.iload_n 2, 1) := by decide +kernel
theorem dX1_takeRow_6 : decode cX1_takeRow 6 = .ok (.bipush 60, 2) := by decide +kernel
theorem dX1_takeRow_8 : decode cX1_takeRow 8 = .ok (.invokestatic 67, 3) := by decide +kernel
theorem dX1_takeRow_11 : decode cX1_takeRow 11 = .ok (.iconst 1, 1) := by decide +kernel
theorem dX1_takeRow_12 : decode cX1_takeRow 12 = .ok (.isub, 1) := by decide +kernel
theorem dX1_takeRow_13 : decode cX1_takeRow 13 = .ok (.putfield 73, 3) := by decide +kernel
theorem dX1_takeRow_16 : decode cX1_takeRow 16 = .ok (.iconst 0, 1) := by decide +kernel
theorem dX1_takeRow_17 : decode cX1_takeRow 17 = .ok (.istore_n 3, 1) := by decide +kernel
theorem dX1_takeRow_18 : decode cX1_takeRow 18 = .ok (.iload_n 3, 1) := by decide +kernel
theorem dX1_takeRow_19 : decode cX1_takeRow 19 = .ok (.aload_n 0, 1) := by decide +kernel
theorem dX1_takeRow_20 : decode cX1_takeRow 20 = .ok (.getfield 73, 3) := by decide +kernel
theorem dX1_takeRow_23 : decode cX1_takeRow 23 = .ok (.if_icmp .ge 39, 3) := by decide +kernel
theorem dX1_takeRow_26 : decode cX1_takeRow 26 = .ok (.aload_n 0, 1) := by decide +kernel
theorem dX1_takeRow_27 : decode cX1_takeRow 27 = .ok (.getfield 9, 3) := by decide +kernel
theorem dX1_takeRow_30 : decode cX1_takeRow 30 = .ok (.iload_n 3, 1) := by decide +kernel
theorem dX1_takeRow_31 : decode cX1_takeRow 31 = .ok (.aload_n 1, 1) := by decide +kernel
theorem dX1_takeRow_32 : decode cX1_takeRow 32 = .ok (.iload_n 3, 1) := by decide +kernel
theorem dX1_takeRow_33 : decode cX1_takeRow 33 = .ok (.iconst 1, 1) := by decide +kernel
theorem dX1_takeRow_34 : decode cX1_takeRow 34 = .ok (.iadd, 1) := by decide +kernel
theorem dX1_takeRow_35 : decode cX1_takeRow 35 = .ok (.iaload, 1) := by decide +kernel
theorem dX1_takeRow_36 : decode cX1_takeRow 36 = .ok (.iastore, 1) := by decide +kernel
theorem dX1_takeRow_37 : decode cX1_takeRow 37 = .ok (.aload_n 0, 1) := by decide +kernel
theorem dX1_takeRow_38 : decode cX1_takeRow 38 = .ok (.getfield 15, 3) := by decide +kernel
theorem dX1_takeRow_41 : decode cX1_takeRow 41 = .ok (.iload_n 3, 1) := by decide +kernel
theorem dX1_takeRow_42 : decode cX1_takeRow 42 = .ok (.aload_n 0, 1) := by decide +kernel
theorem dX1_takeRow_43 : decode cX1_takeRow 43 = .ok (.getfield 50, 3) := by decide +kernel
theorem dX1_takeRow_46 : decode cX1_takeRow 46 = .ok (.getfield 100, 3) := by decide +kernel
theorem dX1_takeRow_49 : decode cX1_takeRow 49 = .ok (.aload_n 1, 1) := by decide +kernel
theorem dX1_takeRow_50 : decode cX1_takeRow 50 = .ok (.iload_n 3, 1) := by decide +kernel
theorem dX1_takeRow_51 : decode cX1_takeRow 51 = .ok (.iconst 1, 1) := by decide +kernel
theorem dX1_takeRow_52 : decode cX1_takeRow 52 = .ok (.iadd, 1) := by decide +kernel
theorem dX1_takeRow_53 : decode cX1_takeRow 53 = .ok (.iaload, 1) := by decide +kernel
theorem dX1_takeRow_54 : decode cX1_takeRow 54 = .ok (.iaload, 1) := by decide +kernel
theorem dX1_takeRow_55 : decode cX1_takeRow 55 = .ok (.iastore, 1) := by decide +kernel
theorem dX1_takeRow_56 : decode cX1_takeRow 56 = .ok (.iinc 3 1, 3) := by decide +kernel
theorem dX1_takeRow_59 : decode cX1_takeRow 59 = .ok (.goto (-41), 3) := by decide +kernel
theorem dX1_takeRow_62 : decode cX1_takeRow 62 = .ok (.aload_n 0, 1) := by decide +kernel
theorem dX1_takeRow_63 : decode cX1_takeRow 63 = .ok (.aload_n 0, 1) := by decide +kernel
theorem dX1_takeRow_64 : decode cX1_takeRow 64 = .ok (.getfield 50, 3) := by decide +kernel
theorem dX1_takeRow_67 : decode cX1_takeRow 67 = .ok (.getfield 103, 3) := by decide +kernel
theorem dX1_takeRow_70 : decode cX1_takeRow 70 = .ok (.putfield 86, 3) := by decide +kernel
theorem dX1_takeRow_73 : decode cX1_takeRow 73 = .ok (.aload_n 0, 1) := by decide +kernel
theorem dX1_takeRow_74 : decode cX1_takeRow 74 = .ok (.aload_n 0, 1) := by decide +kernel
theorem dX1_takeRow_75 : decode cX1_takeRow 75 = .ok (.getfield 54, 3) := by decide +kernel
theorem dX1_takeRow_78 : decode cX1_takeRow 78 = .ok (.aload_n 1, 1) := by decide +kernel
theorem dX1_takeRow_79 : decode cX1_takeRow 79 = .ok (.iconst 0, 1) := by decide +kernel
theorem dX1_takeRow_80 : decode cX1_takeRow 80 = .ok (.iaload, 1) := by decide +kernel
theorem dX1_takeRow_81 : decode cX1_takeRow 81 = .ok (.invokevirtual 92, 3) := by decide +kernel
theorem dX1_takeRow_84 : decode cX1_takeRow 84 = .ok (.putfield 97, 3) := by decide +kernel
theorem dX1_takeRow_87 : decode cX1_takeRow 87 = .ok (.return_, 1) := by decide +kernel
theorem dX1_forgetRow_0 : decode cX1_forgetRow 0 = .ok (.iconst 0, 1) := by decide +kernel
theorem dX1_forgetRow_1 : decode cX1_forgetRow 1 = .ok (.istore_n 1, 1) := by decide +kernel
theorem dX1_forgetRow_2 : decode cX1_forgetRow 2 = .ok (.iload_n 1, 1) := by decide +kernel
theorem dX1_forgetRow_3 : decode cX1_forgetRow 3 = .ok (.aload_n 0, 1) := by decide +kernel
theorem dX1_forgetRow_4 : decode cX1_forgetRow 4 = .ok (.getfield 73, 3) := by decide +kernel
theorem dX1_forgetRow_7 : decode cX1_forgetRow 7 = .ok (.if_icmp .ge 21, 3) := by decide +kernel
theorem dX1_forgetRow_10 : decode cX1_forgetRow 10 = .ok (.aload_n 0, 1) := by decide +kernel
theorem dX1_forgetRow_11 : decode cX1_forgetRow 11 = .ok (.getfield 18, 3) := by decide +kernel
theorem dX1_forgetRow_14 : decode cX1_forgetRow 14 = .ok (.aload_n 0, 1) := by decide +kernel
theorem dX1_forgetRow_15 : decode cX1_forgetRow 15 = .ok (.getfield 9, 3) := by decide +kernel
theorem dX1_forgetRow_18 : decode cX1_forgetRow 18 = .ok (.iload_n 1, 1) := by decide +kernel
theorem dX1_forgetRow_19 : decode cX1_forgetRow 19 = .ok (.iaload, 1) := by decide +kernel
theorem dX1_forgetRow_20 : decode cX1_forgetRow 20 = .ok (.lconst 0, 1) := by decide +kernel
theorem dX1_forgetRow_21 : decode cX1_forgetRow 21 = .ok (.lastore, 1) := by decide +kernel
theorem dX1_forgetRow_22 : decode cX1_forgetRow 22 = .ok (.iinc 1 1, 3) := by decide +kernel
theorem dX1_forgetRow_25 : decode cX1_forgetRow 25 = .ok (.goto (-23), 3) := by decide +kernel
theorem dX1_forgetRow_28 : decode cX1_forgetRow 28 = .ok (.return_, 1) := by decide +kernel
theorem dX1_countTrees_0 : decode cX1_countTrees 0 = .ok (.aload_n 0, 1) := by decide +kernel
theorem dX1_countTrees_1 : decode cX1_countTrees 1 = .ok (.getfield 97, 3) := by decide +kernel
theorem dX1_countTrees_4 : decode cX1_countTrees 4 = .ok (.iconst (-1), 1) := by decide +kernel
theorem dX1_countTrees_5 : decode cX1_countTrees 5 = .ok (.if_icmp .eq 10, 3) := by decide +kernel
theorem dX1_countTrees_8 : decode cX1_countTrees 8 = .ok (.aload_n 0, 1) := by decide +kernel
theorem dX1_countTrees_9 : decode cX1_countTrees 9 = .ok (.getfield 73, 3) := by decide +kernel
theorem dX1_countTrees_12 : decode cX1_countTrees 12 = .ok (.ifCond .ne 5, 3) := by decide +kernel
theorem dX1_countTrees_15 : decode cX1_countTrees 15 = .ok (.iconst 0, 1) := by decide +kernel
theorem dX1_countTrees_16 : decode cX1_countTrees 16 = .ok (.ireturn, 1) := by decide +kernel
theorem dX1_countTrees_17 : decode cX1_countTrees 17 = .ok (.iconst 0, 1) := by decide +kernel
theorem dX1_countTrees_18 : decode cX1_countTrees 18 = .ok (.istore_n 1, 1) := by decide +kernel
theorem dX1_countTrees_19 : decode cX1_countTrees 19 = .ok (.iload_n 1, 1) := by decide +kernel
theorem dX1_countTrees_20 : decode cX1_countTrees 20 = .ok (.aload_n 0, 1) := by decide +kernel
theorem dX1_countTrees_21 : decode cX1_countTrees 21 = .ok (.getfield 73, 3) := by decide +kernel
theorem dX1_countTrees_24 : decode cX1_countTrees 24 = .ok (.if_icmp .ge 26, 3) := by decide +kernel
theorem dX1_countTrees_27 : decode cX1_countTrees 27 = .ok (.aload_n 0, 1) := by decide +kernel
theorem dX1_countTrees_28 : decode cX1_countTrees 28 = .ok (.getfield 18, 3) := by decide +kernel
theorem dX1_countTrees_31 : decode cX1_countTrees 31 = .ok (.aload_n 0, 1) := by decide +kernel
theorem dX1_countTrees_32 : decode cX1_countTrees 32 = .ok (.getfield 9, 3) := by decide +kernel
theorem dX1_countTrees_35 : decode cX1_countTrees 35 = .ok (.iload_n 1, 1) := by decide +kernel
theorem dX1_countTrees_36 : decode cX1_countTrees 36 = .ok (.iaload, 1) := by decide +kernel
theorem dX1_countTrees_37 : decode cX1_countTrees 37 = .ok (.dup2, 1) := by decide +kernel
theorem dX1_countTrees_38 : decode cX1_countTrees 38 = .ok (.laload, 1) := by decide +kernel
theorem dX1_countTrees_39 : decode cX1_countTrees 39 = .ok (.lconst 1, 1) := by decide +kernel
theorem dX1_countTrees_40 : decode cX1_countTrees 40 = .ok (.iload_n 1, 1) := by decide +kernel
theorem dX1_countTrees_41 : decode cX1_countTrees 41 = .ok (.lshl, 1) := by decide +kernel
theorem dX1_countTrees_42 : decode cX1_countTrees 42 = .ok (.lor, 1) := by decide +kernel
theorem dX1_countTrees_43 : decode cX1_countTrees 43 = .ok (.lastore, 1) := by decide +kernel
theorem dX1_countTrees_44 : decode cX1_countTrees 44 = .ok (.iinc 1 1, 3) := by decide +kernel
theorem dX1_countTrees_47 : decode cX1_countTrees 47 = .ok (.goto (-28), 3) := by decide +kernel
theorem dX1_countTrees_50 : decode cX1_countTrees 50 = .ok (.aload_n 0, 1) := by decide +kernel
theorem dX1_countTrees_51 : decode cX1_countTrees 51 = .ok (.getfield 73, 3) := by decide +kernel
theorem dX1_countTrees_54 : decode cX1_countTrees 54 = .ok (.iconst 1, 1) := by decide +kernel
theorem dX1_countTrees_55 : decode cX1_countTrees 55 = .ok (.isub, 1) := by decide +kernel
theorem dX1_countTrees_56 : decode cX1_countTrees 56 = .ok (.istore_n 1, 1) := by decide +kernel
theorem dX1_countTrees_57 : decode cX1_countTrees 57 = .ok (.iload_n 1, 1) := by decide +kernel
theorem dX1_countTrees_58 : decode cX1_countTrees 58 = .ok (.ifCond .lt 18, 3) := by decide +kernel
theorem dX1_countTrees_61 : decode cX1_countTrees 61 = .ok (.aload_n 0, 1) := by decide +kernel
theorem dX1_countTrees_62 : decode cX1_countTrees 62 = .ok (.iload_n 1, 1) := by decide +kernel
theorem dX1_countTrees_63 : decode cX1_countTrees 63 = .ok (.putfield 106, 3) := by decide +kernel
theorem dX1_countTrees_66 : decode cX1_countTrees 66 = .ok (.aload_n 0, 1) := by decide +kernel
theorem dX1_countTrees_67 : decode cX1_countTrees 67 = .ok (.invokevirtual 109, 3) := by decide +kernel
theorem dX1_countTrees_70 : decode cX1_countTrees 70 = .ok (.iinc 1 (-1), 3) := by decide +kernel
theorem dX1_countTrees_73 : decode cX1_countTrees 73 = .ok (.goto (-16), 3) := by decide +kernel
theorem dX1_countTrees_76 : decode cX1_countTrees 76 = .ok (.aload_n 0, 1) := by decide +kernel
theorem dX1_countTrees_77 : decode cX1_countTrees 77 = .ok (.getfield 97, 3) := by decide +kernel
theorem dX1_countTrees_80 : decode cX1_countTrees 80 = .ok (.bipush 60, 2) := by decide +kernel
theorem dX1_countTrees_82 : decode cX1_countTrees 82 = .ok (.imul, 1) := by decide +kernel
theorem dX1_countTrees_83 : decode cX1_countTrees 83 = .ok (.istore_n 1, 1) := by decide +kernel
theorem dX1_countTrees_84 : decode cX1_countTrees 84 = .ok (.aload_n 0, 1) := by decide +kernel
theorem dX1_countTrees_85 : decode cX1_countTrees 85 = .ok (.getfield 22, 3) := by decide +kernel
theorem dX1_countTrees_88 : decode cX1_countTrees 88 = .ok (.iload_n 1, 1) := by decide +kernel
theorem dX1_countTrees_89 : decode cX1_countTrees 89 = .ok (.laload, 1) := by decide +kernel
theorem dX1_countTrees_90 : decode cX1_countTrees 90 = .ok (.aload_n 0, 1) := by decide +kernel
theorem dX1_countTrees_91 : decode cX1_countTrees 91 = .ok (.getfield 73, 3) := by decide +kernel
theorem dX1_countTrees_94 : decode cX1_countTrees 94 = .ok (.lushr, 1) := by decide +kernel
theorem dX1_countTrees_95 : decode cX1_countTrees 95 = .ok (.lconst 1, 1) := by decide +kernel
theorem dX1_countTrees_96 : decode cX1_countTrees 96 = .ok (.land, 1) := by decide +kernel
theorem dX1_countTrees_97 : decode cX1_countTrees 97 = .ok (.aload_n 0, 1) := by decide +kernel
theorem dX1_countTrees_98 : decode cX1_countTrees 98 = .ok (.getfield 25, 3) := by decide +kernel
theorem dX1_countTrees_101 : decode cX1_countTrees 101 = .ok (.iload_n 1, 1) := by decide +kernel
theorem dX1_countTrees_102 : decode cX1_countTrees 102 = .ok (.laload, 1) := by decide +kernel
theorem dX1_countTrees_103 : decode cX1_countTrees 103 = .ok (.aload_n 0, 1) := by decide +kernel
theorem dX1_countTrees_104 : decode cX1_countTrees 104 = .ok (.getfield 73, 3) := by decide +kernel
theorem dX1_countTrees_107 : decode cX1_countTrees 107 = .ok (.lushr, 1) := by decide +kernel
theorem dX1_countTrees_108 : decode cX1_countTrees 108 = .ok (.lconst 1, 1) := by decide +kernel
theorem dX1_countTrees_109 : decode cX1_countTrees 109 = .ok (.land, 1) := by decide +kernel
theorem dX1_countTrees_110 : decode cX1_countTrees 110 = .ok (.ladd, 1) := by decide +kernel
theorem dX1_countTrees_111 : decode cX1_countTrees 111 = .ok (.l2i, 1) := by decide +kernel
theorem dX1_countTrees_112 : decode cX1_countTrees 112 = .ok (.ireturn, 1) := by decide +kernel
theorem dX1_reaches_0 : decode cX1_reaches 0 = .ok (.aload_n 0, 1) := by decide +kernel
theorem dX1_reaches_1 : decode cX1_reaches 1 = .ok (.getfield 22, 3) := by decide +kernel
theorem dX1_reaches_4 : decode cX1_reaches 4 = .ok (.iload_n 1, 1) := by decide +kernel
theorem dX1_reaches_5 : decode cX1_reaches 5 = .ok (.bipush 60, 2) := by decide +kernel
theorem dX1_reaches_7 : decode cX1_reaches 7 = .ok (.imul, 1) := by decide +kernel
theorem dX1_reaches_8 : decode cX1_reaches 8 = .ok (.aload_n 0, 1) := by decide +kernel
theorem dX1_reaches_9 : decode cX1_reaches 9 = .ok (.getfield 106, 3) := by decide +kernel
theorem dX1_reaches_12 : decode cX1_reaches 12 = .ok (.iadd, 1) := by decide +kernel
theorem dX1_reaches_13 : decode cX1_reaches 13 = .ok (.laload, 1) := by decide +kernel
theorem dX1_reaches_14 : decode cX1_reaches 14 = .ok (.iload_n 2, 1) := by decide +kernel
theorem dX1_reaches_15 : decode cX1_reaches 15 = .ok (.lushr, 1) := by decide +kernel
theorem dX1_reaches_16 : decode cX1_reaches 16 = .ok (.lconst 1, 1) := by decide +kernel
theorem dX1_reaches_17 : decode cX1_reaches 17 = .ok (.land, 1) := by decide +kernel
theorem dX1_reaches_18 : decode cX1_reaches 18 = .ok (.lconst 0, 1) := by decide +kernel
theorem dX1_reaches_19 : decode cX1_reaches 19 = .ok (.lcmp, 1) := by decide +kernel
theorem dX1_reaches_20 : decode cX1_reaches 20 = .ok (.ifCond .eq 7, 3) := by decide +kernel
theorem dX1_reaches_23 : decode cX1_reaches 23 = .ok (.iconst 1, 1) := by decide +kernel
theorem dX1_reaches_24 : decode cX1_reaches 24 = .ok (.goto 4, 3) := by decide +kernel
theorem dX1_reaches_27 : decode cX1_reaches 27 = .ok (.iconst 0, 1) := by decide +kernel
theorem dX1_reaches_28 : decode cX1_reaches 28 = .ok (.ireturn, 1) := by decide +kernel
theorem dX1_parseFromStart_0 : decode cX1_parseFromStart 0 = .ok (.iconst 0, 1) := by decide +kernel
theorem dX1_parseFromStart_1 : decode cX1_parseFromStart 1 = .ok (.istore_n 1, 1) := by decide +kernel
theorem dX1_parseFromStart_2 : decode cX1_parseFromStart 2 = .ok (.iload_n 1, 1) := by decide +kernel
theorem dX1_parseFromStart_3 : decode cX1_parseFromStart 3 = .ok (.aload_n 0, 1) := by decide +kernel
theorem dX1_parseFromStart_4 : decode cX1_parseFromStart 4 = .ok (.getfield 50, 3) := by decide +kernel
theorem dX1_parseFromStart_7 : decode cX1_parseFromStart 7 = .ok (.getfield 112, 3) := by decide +kernel
theorem dX1_parseFromStart_10 : decode cX1_parseFromStart 10 = .ok (.if_icmp .ge 39, 3) := by decide +kernel
theorem dX1_parseFromStart_13 : decode cX1_parseFromStart 13 = .ok (.aload_n 0, 1) := by decide +kernel
theorem dX1_parseFromStart_14 : decode cX1_parseFromStart 14 = .ok (.getfield 22, 3) := by decide +kernel
theorem dX1_parseFromStart_17 : decode cX1_parseFromStart 17 = .ok (.iload_n 1, 1) := by decide +kernel
theorem dX1_parseFromStart_18 : decode cX1_parseFromStart 18 = .ok (.bipush 60, 2) := by decide +kernel
theorem dX1_parseFromStart_20 : decode cX1_parseFromStart 20 = .ok (.imul, 1) := by decide +kernel
theorem dX1_parseFromStart_21 : decode cX1_parseFromStart 21 = .ok (.aload_n 0, 1) := by decide +kernel
theorem dX1_parseFromStart_22 : decode cX1_parseFromStart 22 = .ok (.getfield 106, 3) := by decide +kernel
theorem dX1_parseFromStart_25 : decode cX1_parseFromStart 25 = .ok (.iadd, 1) := by decide +kernel
theorem dX1_parseFromStart_26 : decode cX1_parseFromStart 26 = .ok (.lconst 0, 1) := by decide +kernel
theorem dX1_parseFromStart_27 : decode cX1_parseFromStart 27 = .ok (.lastore, 1) := by decide +kernel
theorem dX1_parseFromStart_28 : decode cX1_parseFromStart 28 = .ok (.aload_n 0, 1) := by decide +kernel
theorem dX1_parseFromStart_29 : decode cX1_parseFromStart 29 = .ok (.getfield 25, 3) := by decide +kernel
theorem dX1_parseFromStart_32 : decode cX1_parseFromStart 32 = .ok (.iload_n 1, 1) := by decide +kernel
theorem dX1_parseFromStart_33 : decode cX1_parseFromStart 33 = .ok (.bipush 60, 2) := by decide +kernel
theorem dX1_parseFromStart_35 : decode cX1_parseFromStart 35 = .ok (.imul, 1) := by decide +kernel
theorem dX1_parseFromStart_36 : decode cX1_parseFromStart 36 = .ok (.aload_n 0, 1) := by decide +kernel
theorem dX1_parseFromStart_37 : decode cX1_parseFromStart 37 = .ok (.getfield 106, 3) := by decide +kernel
theorem dX1_parseFromStart_40 : decode cX1_parseFromStart 40 = .ok (.iadd, 1) := by decide +kernel
theorem dX1_parseFromStart_41 : decode cX1_parseFromStart 41 = .ok (.lconst 0, 1) := by decide +kernel
theorem dX1_parseFromStart_42 : decode cX1_parseFromStart 42 = .ok (.lastore, 1) := by decide +kernel
theorem dX1_parseFromStart_43 : decode cX1_parseFromStart 43 = .ok (.iinc 1 1, 3) := by decide +kernel
theorem dX1_parseFromStart_46 : decode cX1_parseFromStart 46 = .ok (.goto (-44), 3) := by decide +kernel
theorem dX1_parseFromStart_49 : decode cX1_parseFromStart 49 = .ok (.aload_n 0, 1) := by decide +kernel
theorem dX1_parseFromStart_50 : decode cX1_parseFromStart 50 = .ok (.getfield 15, 3) := by decide +kernel
theorem dX1_parseFromStart_53 : decode cX1_parseFromStart 53 = .ok (.aload_n 0, 1) := by decide +kernel
theorem dX1_parseFromStart_54 : decode cX1_parseFromStart 54 = .ok (.getfield 106, 3) := by decide +kernel
theorem dX1_parseFromStart_57 : decode cX1_parseFromStart 57 = .ok (.iaload, 1) := by decide +kernel
theorem dX1_parseFromStart_58 : decode cX1_parseFromStart 58 = .ok (.iconst (-1), 1) := by decide +kernel
theorem dX1_parseFromStart_59 : decode cX1_parseFromStart 59 = .ok (.if_icmp .eq 58, 3) := by decide +kernel
theorem dX1_parseFromStart_62 : decode cX1_parseFromStart 62 = .ok (.aload_n 0, 1) := by decide +kernel
theorem dX1_parseFromStart_63 : decode cX1_parseFromStart 63 = .ok (.getfield 54, 3) := by decide +kernel
theorem dX1_parseFromStart_66 : decode cX1_parseFromStart 66 = .ok (.aload_n 0, 1) := by decide +kernel
theorem dX1_parseFromStart_67 : decode cX1_parseFromStart 67 = .ok (.getfield 50, 3) := by decide +kernel
theorem dX1_parseFromStart_70 : decode cX1_parseFromStart 70 = .ok (.aload_n 0, 1) := by decide +kernel
theorem dX1_parseFromStart_71 : decode cX1_parseFromStart 71 = .ok (.getfield 15, 3) := by decide +kernel
theorem dX1_parseFromStart_74 : decode cX1_parseFromStart 74 = .ok (.aload_n 0, 1) := by decide +kernel
theorem dX1_parseFromStart_75 : decode cX1_parseFromStart 75 = .ok (.getfield 106, 3) := by decide +kernel
theorem dX1_parseFromStart_78 : decode cX1_parseFromStart 78 = .ok (.iaload, 1) := by decide +kernel
theorem dX1_parseFromStart_79 : decode cX1_parseFromStart 79 = .ok (.invokevirtual 89, 3) := by decide +kernel
theorem dX1_parseFromStart_82 : decode cX1_parseFromStart 82 = .ok (.invokevirtual 115, 3) := by decide +kernel
theorem dX1_parseFromStart_85 : decode cX1_parseFromStart 85 = .ok (.istore_n 1, 1) := by decide +kernel
theorem dX1_parseFromStart_86 : decode cX1_parseFromStart 86 = .ok (.iload_n 1, 1) := by decide +kernel
theorem dX1_parseFromStart_87 : decode cX1_parseFromStart 87 = .ok (.iconst (-1), 1) := by decide +kernel
theorem dX1_parseFromStart_88 : decode cX1_parseFromStart 88 = .ok (.if_icmp .eq 26, 3) := by decide +kernel
theorem dX1_parseFromStart_91 : decode cX1_parseFromStart 91 = .ok (.aload_n 0, 1) := by decide +kernel
theorem dX1_parseFromStart_92 : decode cX1_parseFromStart 92 = .ok (.iload_n 1, 1) := by decide +kernel
theorem dX1_parseFromStart_93 : decode cX1_parseFromStart 93 = .ok (.lconst 1, 1) := by decide +kernel
theorem dX1_parseFromStart_94 : decode cX1_parseFromStart 94 = .ok (.aload_n 0, 1) := by decide +kernel
theorem dX1_parseFromStart_95 : decode cX1_parseFromStart 95 = .ok (.getfield 106, 3) := by decide +kernel
theorem dX1_parseFromStart_98 : decode cX1_parseFromStart 98 = .ok (.iconst 1, 1) := by decide +kernel
theorem dX1_parseFromStart_99 : decode cX1_parseFromStart 99 = .ok (.iadd, 1) := by decide +kernel
theorem dX1_parseFromStart_100 : decode cX1_parseFromStart 100 = .ok (.lshl, 1) := by decide +kernel
theorem dX1_parseFromStart_101 : decode cX1_parseFromStart 101 = .ok (.lconst 0, 1) := by decide +kernel
theorem dX1_parseFromStart_102 : decode cX1_parseFromStart 102 = .ok (.aload_n 0, 1) := by decide +kernel
theorem dX1_parseFromStart_103 : decode cX1_parseFromStart 103 = .ok (.getfield 15, 3) := by decide +kernel
theorem dX1_parseFromStart_106 : decode cX1_parseFromStart 106 = .ok (.aload_n 0, 1) := by decide +kernel
theorem dX1_parseFromStart_107 : decode cX1_parseFromStart 107 = .ok (.getfield 106, 3) := by decide +kernel
theorem dX1_parseFromStart_110 : decode cX1_parseFromStart 110 = .ok (.iaload, 1) := by decide +kernel
theorem dX1_parseFromStart_111 : decode cX1_parseFromStart 111 = .ok (.invokevirtual 118, 3) := by decide +kernel
theorem dX1_parseFromStart_114 : decode cX1_parseFromStart 114 = .ok (.goto 54, 3) := by decide +kernel
theorem dX1_parseFromStart_117 : decode cX1_parseFromStart 117 = .ok (.aload_n 0, 1) := by decide +kernel
theorem dX1_parseFromStart_118 : decode cX1_parseFromStart 118 = .ok (.getfield 54, 3) := by decide +kernel
theorem dX1_parseFromStart_121 : decode cX1_parseFromStart 121 = .ok (.getfield 122, 3) := by decide +kernel
theorem dX1_parseFromStart_124 : decode cX1_parseFromStart 124 = .ok (.aload_n 0, 1) := by decide +kernel
theorem dX1_parseFromStart_125 : decode cX1_parseFromStart 125 = .ok (.getfield 9, 3) := by decide +kernel
theorem dX1_parseFromStart_128 : decode cX1_parseFromStart 128 = .ok (.aload_n 0, 1) := by decide +kernel
theorem dX1_parseFromStart_129 : decode cX1_parseFromStart 129 = .ok (.getfield 106, 3) := by decide +kernel
theorem dX1_parseFromStart_132 : decode cX1_parseFromStart 132 = .ok (.iaload, 1) := by decide +kernel
theorem dX1_parseFromStart_133 : decode cX1_parseFromStart 133 = .ok (.iaload, 1) := by decide +kernel
theorem dX1_parseFromStart_134 : decode cX1_parseFromStart 134 = .ok (.ifCond .le 34, 3) := by decide +kernel
theorem dX1_parseFromStart_137 : decode cX1_parseFromStart 137 = .ok (.aload_n 0, 1) := by decide +kernel
theorem dX1_parseFromStart_138 : decode cX1_parseFromStart 138 = .ok (.aload_n 0, 1) := by decide +kernel
theorem dX1_parseFromStart_139 : decode cX1_parseFromStart 139 = .ok (.getfield 54, 3) := by decide +kernel
theorem dX1_parseFromStart_142 : decode cX1_parseFromStart 142 = .ok (.getfield 122, 3) := by decide +kernel
theorem dX1_parseFromStart_145 : decode cX1_parseFromStart 145 = .ok (.aload_n 0, 1) := by decide +kernel
theorem dX1_parseFromStart_146 : decode cX1_parseFromStart 146 = .ok (.getfield 9, 3) := by decide +kernel
theorem dX1_parseFromStart_149 : decode cX1_parseFromStart 149 = .ok (.aload_n 0, 1) := by decide +kernel
theorem dX1_parseFromStart_150 : decode cX1_parseFromStart 150 = .ok (.getfield 106, 3) := by decide +kernel
theorem dX1_parseFromStart_153 : decode cX1_parseFromStart 153 = .ok (.iaload, 1) := by decide +kernel
theorem dX1_parseFromStart_154 : decode cX1_parseFromStart 154 = .ok (.iaload, 1) := by decide +kernel
theorem dX1_parseFromStart_155 : decode cX1_parseFromStart 155 = .ok (.lconst 1, 1) := by decide +kernel
theorem dX1_parseFromStart_156 : decode cX1_parseFromStart 156 = .ok (.aload_n 0, 1) := by decide +kernel
theorem dX1_parseFromStart_157 : decode cX1_parseFromStart 157 = .ok (.getfield 106, 3) := by decide +kernel
theorem dX1_parseFromStart_160 : decode cX1_parseFromStart 160 = .ok (.iconst 1, 1) := by decide +kernel
theorem dX1_parseFromStart_161 : decode cX1_parseFromStart 161 = .ok (.iadd, 1) := by decide +kernel
theorem dX1_parseFromStart_162 : decode cX1_parseFromStart 162 = .ok (.lshl, 1) := by decide +kernel
theorem dX1_parseFromStart_163 : decode cX1_parseFromStart 163 = .ok (.lconst 0, 1) := by decide +kernel
theorem dX1_parseFromStart_164 : decode cX1_parseFromStart 164 = .ok (.iconst 1, 1) := by decide +kernel
theorem dX1_parseFromStart_165 : decode cX1_parseFromStart 165 = .ok (.invokevirtual 125, 3) := by decide +kernel
theorem dX1_parseFromStart_168 : decode cX1_parseFromStart 168 = .ok (.aload_n 0, 1) := by decide +kernel
theorem dX1_parseFromStart_169 : decode cX1_parseFromStart 169 = .ok (.getfield 106, 3) := by decide +kernel
theorem dX1_parseFromStart_172 : decode cX1_parseFromStart 172 = .ok (.iconst 1, 1) := by decide +kernel
theorem dX1_parseFromStart_173 : decode cX1_parseFromStart 173 = .ok (.iadd, 1) := by decide +kernel
theorem dX1_parseFromStart_174 : decode cX1_parseFromStart 174 = .ok (.istore_n 1, 1) := by decide +kernel
theorem dX1_parseFromStart_175 : decode cX1_parseFromStart 175 = .ok (.iload_n 1, 1) := by decide +kernel
theorem dX1_parseFromStart_176 : decode cX1_parseFromStart 176 = .ok (.aload_n 0, 1) := by decide +kernel
theorem dX1_parseFromStart_177 : decode cX1_parseFromStart 177 = .ok (.getfield 73, 3) := by decide +kernel
theorem dX1_parseFromStart_180 : decode cX1_parseFromStart 180 = .ok (.if_icmp .gt 89, 3) := by decide +kernel
theorem dX1_parseFromStart_183 : decode cX1_parseFromStart 183 = .ok (.aload_n 0, 1) := by decide +kernel
theorem dX1_parseFromStart_184 : decode cX1_parseFromStart 184 = .ok (.iload_n 1, 1) := by decide +kernel
theorem dX1_parseFromStart_185 : decode cX1_parseFromStart 185 = .ok (.invokevirtual 129, 3) := by decide +kernel
theorem dX1_parseFromStart_188 : decode cX1_parseFromStart 188 = .ok (.iconst 0, 1) := by decide +kernel
theorem dX1_parseFromStart_189 : decode cX1_parseFromStart 189 = .ok (.istore_n 2, 1) := by decide +kernel
theorem dX1_parseFromStart_190 : decode cX1_parseFromStart 190 = .ok (.iload_n 2, 1) := by decide +kernel
theorem dX1_parseFromStart_191 : decode cX1_parseFromStart 191 = .ok (.aload_n 0, 1) := by decide +kernel
theorem dX1_parseFromStart_192 : decode cX1_parseFromStart 192 = .ok (.getfield 50, 3) := by decide +kernel
theorem dX1_parseFromStart_195 : decode cX1_parseFromStart 195 = .ok (.getfield 112, 3) := by decide +kernel
theorem dX1_parseFromStart_198 : decode cX1_parseFromStart 198 = .ok (.if_icmp .ge 65, 3) := by decide +kernel
theorem dX1_parseFromStart_201 : decode cX1_parseFromStart 201 = .ok (.aload_n 0, 1) := by decide +kernel
theorem dX1_parseFromStart_202 : decode cX1_parseFromStart 202 = .ok (.getfield 54, 3) := by decide +kernel
theorem dX1_parseFromStart_205 : decode cX1_parseFromStart 205 = .ok (.getfield 133, 3) := by decide +kernel
theorem dX1_parseFromStart_208 : decode cX1_parseFromStart 208 = .ok (.iload_n 2, 1) := by decide +kernel
theorem dX1_parseFromStart_209 : decode cX1_parseFromStart 209 = .ok (.iaload, 1) := by decide +kernel
theorem dX1_parseFromStart_210 : decode cX1_parseFromStart 210 = .ok (.ifCond .le 47, 3) := by decide +kernel
theorem dX1_parseFromStart_213 : decode cX1_parseFromStart 213 = .ok (.aload_n 0, 1) := by decide +kernel
theorem dX1_parseFromStart_214 : decode cX1_parseFromStart 214 = .ok (.iload_n 2, 1) := by decide +kernel
theorem dX1_parseFromStart_215 : decode cX1_parseFromStart 215 = .ok (.iload_n 1, 1) := by decide +kernel
theorem dX1_parseFromStart_216 : decode cX1_parseFromStart 216 = .ok (.invokevirtual 136, 3) := by decide +kernel
theorem dX1_parseFromStart_219 : decode cX1_parseFromStart 219 = .ok (.ifCond .eq 38, 3) := by decide +kernel
theorem dX1_parseFromStart_222 : decode cX1_parseFromStart 222 = .ok (.lconst 1, 1) := by decide +kernel
theorem dX1_parseFromStart_223 : decode cX1_parseFromStart 223 = .ok (.iload_n 1, 1) := by decide +kernel
theorem dX1_parseFromStart_224 : decode cX1_parseFromStart 224 = .ok (.lshl, 1) := by decide +kernel
theorem dX1_parseFromStart_225 : decode cX1_parseFromStart 225 = .ok (.lstore_n 3, 1) := by decide +kernel
theorem dX1_parseFromStart_226 : decode cX1_parseFromStart 226 = .ok (.aload_n 0, 1) := by decide +kernel
theorem dX1_parseFromStart_227 : decode cX1_parseFromStart 227 = .ok (.aload_n 0, 1) := by decide +kernel
theorem dX1_parseFromStart_228 : decode cX1_parseFromStart 228 = .ok (.getfield 54, 3) := by decide +kernel
theorem dX1_parseFromStart_231 : decode cX1_parseFromStart 231 = .ok (.getfield 133, 3) := by decide +kernel
theorem dX1_parseFromStart_234 : decode cX1_parseFromStart 234 = .ok (.iload_n 2, 1) := by decide +kernel
theorem dX1_parseFromStart_235 : decode cX1_parseFromStart 235 = .ok (.iaload, 1) := by decide +kernel
theorem dX1_parseFromStart_236 : decode cX1_parseFromStart 236 = .ok (.lload_n 3, 1) := by decide +kernel
theorem dX1_parseFromStart_237 : decode cX1_parseFromStart 237 = .ok (.aload_n 0, 1) := by decide +kernel
theorem dX1_parseFromStart_238 : decode cX1_parseFromStart 238 = .ok (.getfield 25, 3) := by decide +kernel
theorem dX1_parseFromStart_241 : decode cX1_parseFromStart 241 = .ok (.iload_n 2, 1) := by decide +kernel
theorem dX1_parseFromStart_242 : decode cX1_parseFromStart 242 = .ok (.bipush 60, 2) := by decide +kernel
theorem dX1_parseFromStart_244 : decode cX1_parseFromStart 244 = .ok (.imul, 1) := by decide +kernel
theorem dX1_parseFromStart_245 : decode cX1_parseFromStart 245 = .ok (.aload_n 0, 1) := by decide +kernel
theorem dX1_parseFromStart_246 : decode cX1_parseFromStart 246 = .ok (.getfield 106, 3) := by decide +kernel
theorem dX1_parseFromStart_249 : decode cX1_parseFromStart 249 = .ok (.iadd, 1) := by decide +kernel
theorem dX1_parseFromStart_250 : decode cX1_parseFromStart 250 = .ok (.laload, 1) := by decide +kernel
theorem dX1_parseFromStart_251 : decode cX1_parseFromStart 251 = .ok (.lload_n 3, 1) := by decide +kernel
theorem dX1_parseFromStart_252 : decode cX1_parseFromStart 252 = .ok (.land, 1) := by decide +kernel
theorem dX1_parseFromStart_253 : decode cX1_parseFromStart 253 = .ok (.iconst 0, 1) := by decide +kernel
theorem dX1_parseFromStart_254 : decode cX1_parseFromStart 254 = .ok (.invokevirtual 125, 3) := by decide +kernel
theorem dX1_parseFromStart_257 : decode cX1_parseFromStart 257 = .ok (.iinc 2 1, 3) := by decide +kernel
theorem dX1_parseFromStart_260 : decode cX1_parseFromStart 260 = .ok (.goto (-70), 3) := by decide +kernel
theorem dX1_parseFromStart_263 : decode cX1_parseFromStart 263 = .ok (.iinc 1 1, 3) := by decide +kernel
theorem dX1_parseFromStart_266 : decode cX1_parseFromStart 266 = .ok (.goto (-91), 3) := by decide +kernel
theorem dX1_parseFromStart_269 : decode cX1_parseFromStart 269 = .ok (.return_, 1) := by decide +kernel
theorem dX1_walk_0 : decode cX1_walk 0 = .ok (.aload_n 0, 1) := by decide +kernel
theorem dX1_walk_1 : decode cX1_walk 1 = .ok (.getfield 54, 3) := by decide +kernel
theorem dX1_walk_4 : decode cX1_walk 4 = .ok (.getfield 140, 3) := by decide +kernel
theorem dX1_walk_7 : decode cX1_walk 7 = .ok (.iload_n 1, 1) := by decide +kernel
theorem dX1_walk_8 : decode cX1_walk 8 = .ok (.iaload, 1) := by decide +kernel
theorem dX1_walk_9 : decode cX1_walk 9 = .ok (.aload_n 0, 1) := by decide +kernel
theorem dX1_walk_10 : decode cX1_walk 10 = .ok (.getfield 86, 3) := by decide +kernel
theorem dX1_walk_13 : decode cX1_walk 13 = .ok (.if_icmp .lt 4, 3) := by decide +kernel
theorem dX1_walk_16 : decode cX1_walk 16 = .ok (.return_, 1) := by decide +kernel
theorem dX1_walk_17 : decode cX1_walk 17 = .ok (.iload 6, 2) := by decide +kernel
theorem dX1_walk_19 : decode cX1_walk 19 = .ok (.ifCond .eq 11, 3) := by decide +kernel
theorem dX1_walk_22 : decode cX1_walk 22 = .ok (.aload_n 0, 1) := by decide +kernel
theorem dX1_walk_23 : decode cX1_walk 23 = .ok (.iload_n 1, 1) := by decide +kernel
theorem dX1_walk_24 : decode cX1_walk 24 = .ok (.lload_n 2, 1) := by decide +kernel
theorem dX1_walk_25 : decode cX1_walk 25 = .ok (.lload 4, 2) := by decide +kernel
theorem dX1_walk_27 : decode cX1_walk 27 = .ok (.invokevirtual 143, 3) := by decide +kernel
theorem dX1_walk_30 : decode cX1_walk 30 = .ok (.iconst 0, 1) := by decide +kernel
theorem dX1_walk_31 : decode cX1_walk 31 = .ok (.istore 7, 2) := by decide +kernel
theorem dX1_walk_33 : decode cX1_walk 33 = .ok (.aload_n 0, 1) := by decide +kernel
theorem dX1_walk_34 : decode cX1_walk 34 = .ok (.getfield 32, 3) := by decide +kernel
theorem dX1_walk_37 : decode cX1_walk 37 = .ok (.iconst 0, 1) := by decide +kernel
theorem dX1_walk_38 : decode cX1_walk 38 = .ok (.aload_n 0, 1) := by decide +kernel
theorem dX1_walk_39 : decode cX1_walk 39 = .ok (.getfield 54, 3) := by decide +kernel
theorem dX1_walk_42 : decode cX1_walk 42 = .ok (.getfield 147, 3) := by decide +kernel
theorem dX1_walk_45 : decode cX1_walk 45 = .ok (.iload_n 1, 1) := by decide +kernel
theorem dX1_walk_46 : decode cX1_walk 46 = .ok (.iaload, 1) := by decide +kernel
theorem dX1_walk_47 : decode cX1_walk 47 = .ok (.iastore, 1) := by decide +kernel
theorem dX1_walk_48 : decode cX1_walk 48 = .ok (.aload_n 0, 1) := by decide +kernel
theorem dX1_walk_49 : decode cX1_walk 49 = .ok (.getfield 35, 3) := by decide +kernel
theorem dX1_walk_52 : decode cX1_walk 52 = .ok (.iconst 0, 1) := by decide +kernel
theorem dX1_walk_53 : decode cX1_walk 53 = .ok (.lload_n 2, 1) := by decide +kernel
theorem dX1_walk_54 : decode cX1_walk 54 = .ok (.lastore, 1) := by decide +kernel
theorem dX1_walk_55 : decode cX1_walk 55 = .ok (.aload_n 0, 1) := by decide +kernel
theorem dX1_walk_56 : decode cX1_walk 56 = .ok (.getfield 38, 3) := by decide +kernel
theorem dX1_walk_59 : decode cX1_walk 59 = .ok (.iconst 0, 1) := by decide +kernel
theorem dX1_walk_60 : decode cX1_walk 60 = .ok (.lload 4, 2) := by decide +kernel
theorem dX1_walk_62 : decode cX1_walk 62 = .ok (.lastore, 1) := by decide +kernel
theorem dX1_walk_63 : decode cX1_walk 63 = .ok (.iconst 0, 1) := by decide +kernel
theorem dX1_walk_64 : decode cX1_walk 64 = .ok (.istore 8, 2) := by decide +kernel
theorem dX1_walk_66 : decode cX1_walk 66 = .ok (.iload 8, 2) := by decide +kernel
theorem dX1_walk_68 : decode cX1_walk 68 = .ok (.ldc 150, 2) := by decide +kernel
theorem dX1_walk_70 : decode cX1_walk 70 = .ok (.if_icmp .ge 119, 3) := by decide +kernel
theorem dX1_walk_73 : decode cX1_walk 73 = .ok (.iload 7, 2) := by decide +kernel
theorem dX1_walk_75 : decode cX1_walk 75 = .ok (.ifCond .lt 114, 3) := by decide +kernel
theorem dX1_walk_78 : decode cX1_walk 78 = .ok (.aload_n 0, 1) := by decide +kernel
theorem dX1_walk_79 : decode cX1_walk 79 = .ok (.getfield 32, 3) := by decide +kernel
theorem dX1_walk_82 : decode cX1_walk 82 = .ok (.iload 7, 2) := by decide +kernel
theorem dX1_walk_84 : decode cX1_walk 84 = .ok (.iaload, 1) := by decide +kernel
theorem dX1_walk_85 : decode cX1_walk 85 = .ok (.istore 9, 2) := by decide +kernel
theorem dX1_walk_87 : decode cX1_walk 87 = .ok (.iload 9, 2) := by decide +kernel
theorem dX1_walk_89 : decode cX1_walk 89 = .ok (.ifCond .ne 9, 3) := by decide +kernel
theorem dX1_walk_92 : decode cX1_walk 92 = .ok (.iinc 7 (-1), 3) := by decide +kernel
theorem dX1_walk_95 : decode cX1_walk 95 = .ok (.goto 88, 3) := by decide +kernel
theorem dX1_walk_98 : decode cX1_walk 98 = .ok (.aload_n 0, 1) := by decide +kernel
theorem dX1_walk_99 : decode cX1_walk 99 = .ok (.getfield 32, 3) := by decide +kernel
theorem dX1_walk_102 : decode cX1_walk 102 = .ok (.iload 7, 2) := by decide +kernel
theorem dX1_walk_104 : decode cX1_walk 104 = .ok (.aload_n 0, 1) := by decide +kernel
theorem dX1_walk_105 : decode cX1_walk 105 = .ok (.getfield 54, 3) := by decide +kernel
theorem dX1_walk_108 : decode cX1_walk 108 = .ok (.getfield 151, 3) := by decide +kernel
theorem dX1_walk_111 : decode cX1_walk 111 = .ok (.iload 9, 2) := by decide +kernel
theorem dX1_walk_113 : decode cX1_walk 113 = .ok (.iaload, 1) := by decide +kernel
theorem dX1_walk_114 : decode cX1_walk 114 = .ok (.iastore, 1) := by decide +kernel
theorem dX1_walk_115 : decode cX1_walk 115 = .ok (.aload_n 0, 1) := by decide +kernel
theorem dX1_walk_116 : decode cX1_walk 116 = .ok (.getfield 54, 3) := by decide +kernel
theorem dX1_walk_119 : decode cX1_walk 119 = .ok (.getfield 140, 3) := by decide +kernel
theorem dX1_walk_122 : decode cX1_walk 122 = .ok (.iload 9, 2) := by decide +kernel
theorem dX1_walk_124 : decode cX1_walk 124 = .ok (.iaload, 1) := by decide +kernel
theorem dX1_walk_125 : decode cX1_walk 125 = .ok (.aload_n 0, 1) := by decide +kernel
theorem dX1_walk_126 : decode cX1_walk 126 = .ok (.getfield 86, 3) := by decide +kernel
theorem dX1_walk_129 : decode cX1_walk 129 = .ok (.if_icmp .ge 54, 3) := by decide +kernel
theorem dX1_walk_132 : decode cX1_walk 132 = .ok (.aload_n 0, 1) := by decide +kernel
theorem dX1_walk_133 : decode cX1_walk 133 = .ok (.iload 9, 2) := by decide +kernel
theorem dX1_walk_135 : decode cX1_walk 135 = .ok (.iload 7, 2) := by decide +kernel
theorem dX1_walk_137 : decode cX1_walk 137 = .ok (.invokevirtual 154, 3) := by decide +kernel
theorem dX1_walk_140 : decode cX1_walk 140 = .ok (.ifCond .eq 43, 3) := by decide +kernel
theorem dX1_walk_143 : decode cX1_walk 143 = .ok (.iinc 7 1, 3) := by decide +kernel
theorem dX1_walk_146 : decode cX1_walk 146 = .ok (.aload_n 0, 1) := by decide +kernel
theorem dX1_walk_147 : decode cX1_walk 147 = .ok (.iload 9, 2) := by decide +kernel
theorem dX1_walk_149 : decode cX1_walk 149 = .ok (.aload_n 0, 1) := by decide +kernel
theorem dX1_walk_150 : decode cX1_walk 150 = .ok (.getfield 35, 3) := by decide +kernel
theorem dX1_walk_153 : decode cX1_walk 153 = .ok (.iload 7, 2) := by decide +kernel
theorem dX1_walk_155 : decode cX1_walk 155 = .ok (.laload, 1) := by decide +kernel
theorem dX1_walk_156 : decode cX1_walk 156 = .ok (.aload_n 0, 1) := by decide +kernel
theorem dX1_walk_157 : decode cX1_walk 157 = .ok (.getfield 38, 3) := by decide +kernel
theorem dX1_walk_160 : decode cX1_walk 160 = .ok (.iload 7, 2) := by decide +kernel
theorem dX1_walk_162 : decode cX1_walk 162 = .ok (.laload, 1) := by decide +kernel
theorem dX1_walk_163 : decode cX1_walk 163 = .ok (.invokevirtual 143, 3) := by decide +kernel
theorem dX1_walk_166 : decode cX1_walk 166 = .ok (.aload_n 0, 1) := by decide +kernel
theorem dX1_walk_167 : decode cX1_walk 167 = .ok (.getfield 32, 3) := by decide +kernel
theorem dX1_walk_170 : decode cX1_walk 170 = .ok (.iload 7, 2) := by decide +kernel
theorem dX1_walk_172 : decode cX1_walk 172 = .ok (.aload_n 0, 1) := by decide +kernel
theorem dX1_walk_173 : decode cX1_walk 173 = .ok (.getfield 54, 3) := by decide +kernel
theorem dX1_walk_176 : decode cX1_walk 176 = .ok (.getfield 147, 3) := by decide +kernel
theorem dX1_walk_179 : decode cX1_walk 179 = .ok (.iload 9, 2) := by decide +kernel
theorem dX1_walk_181 : decode cX1_walk 181 = .ok (.iaload, 1) := by decide +kernel
theorem dX1_walk_182 : decode cX1_walk 182 = .ok (.iastore, 1) := by decide +kernel
theorem dX1_walk_183 : decode cX1_walk 183 = .ok (.iinc 8 1, 3) := by decide +kernel
theorem dX1_walk_186 : decode cX1_walk 186 = .ok (.goto (-120), 3) := by decide +kernel
theorem dX1_walk_189 : decode cX1_walk 189 = .ok (.return_, 1) := by decide +kernel
theorem dX1_step_0 : decode cX1_step 0 = .ok (.aload_n 0, 1) := by decide +kernel
theorem dX1_step_1 : decode cX1_step 1 = .ok (.getfield 35, 3) := by decide +kernel
theorem dX1_step_4 : decode cX1_step 4 = .ok (.iload_n 2, 1) := by decide +kernel
theorem dX1_step_5 : decode cX1_step 5 = .ok (.laload, 1) := by decide +kernel
theorem dX1_step_6 : decode cX1_step 6 = .ok (.lstore_n 3, 1) := by decide +kernel
theorem dX1_step_7 : decode cX1_step 7 = .ok (.aload_n 0, 1) := by decide +kernel
theorem dX1_step_8 : decode cX1_step 8 = .ok (.getfield 38, 3) := by decide +kernel
theorem dX1_step_11 : decode cX1_step 11 = .ok (.iload_n 2, 1) := by decide +kernel
theorem dX1_step_12 : decode cX1_step 12 = .ok (.laload, 1) := by decide +kernel
theorem dX1_step_13 : decode cX1_step 13 = .ok (.lstore 5, 2) := by decide +kernel
theorem dX1_step_15 : decode cX1_step 15 = .ok (.lconst 0, 1) := by decide +kernel
theorem dX1_step_16 : decode cX1_step 16 = .ok (.lstore 7, 2) := by decide +kernel
theorem dX1_step_18 : decode cX1_step 18 = .ok (.lconst 0, 1) := by decide +kernel
theorem dX1_step_19 : decode cX1_step 19 = .ok (.lstore 9, 2) := by decide +kernel
theorem dX1_step_21 : decode cX1_step 21 = .ok (.aload_n 0, 1) := by decide +kernel
theorem dX1_step_22 : decode cX1_step 22 = .ok (.getfield 54, 3) := by decide +kernel
theorem dX1_step_25 : decode cX1_step 25 = .ok (.getfield 157, 3) := by decide +kernel
theorem dX1_step_28 : decode cX1_step 28 = .ok (.iload_n 1, 1) := by decide +kernel
theorem dX1_step_29 : decode cX1_step 29 = .ok (.iaload, 1) := by decide +kernel
theorem dX1_step_30 : decode cX1_step 30 = .ok (.istore 11, 2) := by decide +kernel
theorem dX1_step_32 : decode cX1_step 32 = .ok (.iload 11, 2) := by decide +kernel
theorem dX1_step_34 : decode cX1_step 34 = .ok (.ifCond .lt 33, 3) := by decide +kernel
theorem dX1_step_37 : decode cX1_step 37 = .ok (.lload_n 3, 1) := by decide +kernel
theorem dX1_step_38 : decode cX1_step 38 = .ok (.aload_n 0, 1) := by decide +kernel
theorem dX1_step_39 : decode cX1_step 39 = .ok (.getfield 18, 3) := by decide +kernel
theorem dX1_step_42 : decode cX1_step 42 = .ok (.iload 11, 2) := by decide +kernel
theorem dX1_step_44 : decode cX1_step 44 = .ok (.laload, 1) := by decide +kernel
theorem dX1_step_45 : decode cX1_step 45 = .ok (.land, 1) := by decide +kernel
theorem dX1_step_46 : decode cX1_step 46 = .ok (.iconst 1, 1) := by decide +kernel
theorem dX1_step_47 : decode cX1_step 47 = .ok (.lshl, 1) := by decide +kernel
theorem dX1_step_48 : decode cX1_step 48 = .ok (.lstore 7, 2) := by decide +kernel
theorem dX1_step_50 : decode cX1_step 50 = .ok (.lload 5, 2) := by decide +kernel
theorem dX1_step_52 : decode cX1_step 52 = .ok (.aload_n 0, 1) := by decide +kernel
theorem dX1_step_53 : decode cX1_step 53 = .ok (.getfield 18, 3) := by decide +kernel
theorem dX1_step_56 : decode cX1_step 56 = .ok (.iload 11, 2) := by decide +kernel
theorem dX1_step_58 : decode cX1_step 58 = .ok (.laload, 1) := by decide +kernel
theorem dX1_step_59 : decode cX1_step 59 = .ok (.land, 1) := by decide +kernel
theorem dX1_step_60 : decode cX1_step 60 = .ok (.iconst 1, 1) := by decide +kernel
theorem dX1_step_61 : decode cX1_step 61 = .ok (.lshl, 1) := by decide +kernel
theorem dX1_step_62 : decode cX1_step 62 = .ok (.lstore 9, 2) := by decide +kernel
theorem dX1_step_64 : decode cX1_step 64 = .ok (.goto 116, 3) := by decide +kernel
theorem dX1_step_67 : decode cX1_step 67 = .ok (.aload_n 0, 1) := by decide +kernel
theorem dX1_step_68 : decode cX1_step 68 = .ok (.getfield 106, 3) := by decide +kernel
theorem dX1_step_71 : decode cX1_step 71 = .ok (.iconst 1, 1) := by decide +kernel
theorem dX1_step_72 : decode cX1_step 72 = .ok (.iadd, 1) := by decide +kernel
theorem dX1_step_73 : decode cX1_step 73 = .ok (.istore 12, 2) := by decide +kernel
theorem dX1_step_75 : decode cX1_step 75 = .ok (.iload 12, 2) := by decide +kernel
theorem dX1_step_77 : decode cX1_step 77 = .ok (.aload_n 0, 1) := by decide +kernel
theorem dX1_step_78 : decode cX1_step 78 = .ok (.getfield 73, 3) := by decide +kernel
theorem dX1_step_81 : decode cX1_step 81 = .ok (.if_icmp .ge 99, 3) := by decide +kernel
theorem dX1_step_84 : decode cX1_step 84 = .ok (.lload_n 3, 1) := by decide +kernel
theorem dX1_step_85 : decode cX1_step 85 = .ok (.iload 12, 2) := by decide +kernel
theorem dX1_step_87 : decode cX1_step 87 = .ok (.lushr, 1) := by decide +kernel
theorem dX1_step_88 : decode cX1_step 88 = .ok (.lconst 1, 1) := by decide +kernel
theorem dX1_step_89 : decode cX1_step 89 = .ok (.land, 1) := by decide +kernel
theorem dX1_step_90 : decode cX1_step 90 = .ok (.lconst 0, 1) := by decide +kernel
theorem dX1_step_91 : decode cX1_step 91 = .ok (.lcmp, 1) := by decide +kernel
theorem dX1_step_92 : decode cX1_step 92 = .ok (.ifCond .eq 82, 3) := by decide +kernel
theorem dX1_step_95 : decode cX1_step 95 = .ok (.aload_n 0, 1) := by decide +kernel
theorem dX1_step_96 : decode cX1_step 96 = .ok (.getfield 22, 3) := by decide +kernel
theorem dX1_step_99 : decode cX1_step 99 = .ok (.iload 11, 2) := by decide +kernel
theorem dX1_step_101 : decode cX1_step 101 = .ok (.iconst (-1), 1) := by decide +kernel
theorem dX1_step_102 : decode cX1_step 102 = .ok (.ixor, 1) := by decide +kernel
theorem dX1_step_103 : decode cX1_step 103 = .ok (.bipush 60, 2) := by decide +kernel
theorem dX1_step_105 : decode cX1_step 105 = .ok (.imul, 1) := by decide +kernel
theorem dX1_step_106 : decode cX1_step 106 = .ok (.iload 12, 2) := by decide +kernel
theorem dX1_step_108 : decode cX1_step 108 = .ok (.iadd, 1) := by decide +kernel
theorem dX1_step_109 : decode cX1_step 109 = .ok (.laload, 1) := by decide +kernel
theorem dX1_step_110 : decode cX1_step 110 = .ok (.lstore 13, 2) := by decide +kernel
theorem dX1_step_112 : decode cX1_step 112 = .ok (.lload 5, 2) := by decide +kernel
theorem dX1_step_114 : decode cX1_step 114 = .ok (.iload 12, 2) := by decide +kernel
theorem dX1_step_116 : decode cX1_step 116 = .ok (.lushr, 1) := by decide +kernel
theorem dX1_step_117 : decode cX1_step 117 = .ok (.lconst 1, 1) := by decide +kernel
theorem dX1_step_118 : decode cX1_step 118 = .ok (.land, 1) := by decide +kernel
theorem dX1_step_119 : decode cX1_step 119 = .ok (.lconst 0, 1) := by decide +kernel
theorem dX1_step_120 : decode cX1_step 120 = .ok (.lcmp, 1) := by decide +kernel
theorem dX1_step_121 : decode cX1_step 121 = .ok (.ifCond .eq 7, 3) := by decide +kernel
theorem dX1_step_124 : decode cX1_step 124 = .ok (.iconst 1, 1) := by decide +kernel
theorem dX1_step_125 : decode cX1_step 125 = .ok (.goto 4, 3) := by decide +kernel
theorem dX1_step_128 : decode cX1_step 128 = .ok (.iconst 0, 1) := by decide +kernel
theorem dX1_step_129 : decode cX1_step 129 = .ok (.istore 15, 2) := by decide +kernel
theorem dX1_step_131 : decode cX1_step 131 = .ok (.lload 9, 2) := by decide +kernel
theorem dX1_step_133 : decode cX1_step 133 = .ok (.lload 7, 2) := by decide +kernel
theorem dX1_step_135 : decode cX1_step 135 = .ok (.lload 13, 2) := by decide +kernel
theorem dX1_step_137 : decode cX1_step 137 = .ok (.land, 1) := by decide +kernel
theorem dX1_step_138 : decode cX1_step 138 = .ok (.iload 15, 2) := by decide +kernel
theorem dX1_step_140 : decode cX1_step 140 = .ok (.ifCond .eq 8, 3) := by decide +kernel
theorem dX1_step_143 : decode cX1_step 143 = .ok (.lload 13, 2) := by decide +kernel
theorem dX1_step_145 : decode cX1_step 145 = .ok (.goto 18, 3) := by decide +kernel
theorem dX1_step_148 : decode cX1_step 148 = .ok (.aload_n 0, 1) := by decide +kernel
theorem dX1_step_149 : decode cX1_step 149 = .ok (.getfield 25, 3) := by decide +kernel
theorem dX1_step_152 : decode cX1_step 152 = .ok (.iload 11, 2) := by decide +kernel
theorem dX1_step_154 : decode cX1_step 154 = .ok (.iconst (-1), 1) := by decide +kernel
theorem dX1_step_155 : decode cX1_step 155 = .ok (.ixor, 1) := by decide +kernel
theorem dX1_step_156 : decode cX1_step 156 = .ok (.bipush 60, 2) := by decide +kernel
theorem dX1_step_158 : decode cX1_step 158 = .ok (.imul, 1) := by decide +kernel
theorem dX1_step_159 : decode cX1_step 159 = .ok (.iload 12, 2) := by decide +kernel
theorem dX1_step_161 : decode cX1_step 161 = .ok (.iadd, 1) := by decide +kernel
theorem dX1_step_162 : decode cX1_step 162 = .ok (.laload, 1) := by decide +kernel
theorem dX1_step_163 : decode cX1_step 163 = .ok (.lor, 1) := by decide +kernel
theorem dX1_step_164 : decode cX1_step 164 = .ok (.lor, 1) := by decide +kernel
theorem dX1_step_165 : decode cX1_step 165 = .ok (.lstore 9, 2) := by decide +kernel
theorem dX1_step_167 : decode cX1_step 167 = .ok (.lload 7, 2) := by decide +kernel
theorem dX1_step_169 : decode cX1_step 169 = .ok (.lload 13, 2) := by decide +kernel
theorem dX1_step_171 : decode cX1_step 171 = .ok (.lor, 1) := by decide +kernel
theorem dX1_step_172 : decode cX1_step 172 = .ok (.lstore 7, 2) := by decide +kernel
theorem dX1_step_174 : decode cX1_step 174 = .ok (.iinc 12 1, 3) := by decide +kernel
theorem dX1_step_177 : decode cX1_step 177 = .ok (.goto (-102), 3) := by decide +kernel
theorem dX1_step_180 : decode cX1_step 180 = .ok (.lload 7, 2) := by decide +kernel
theorem dX1_step_182 : decode cX1_step 182 = .ok (.lconst 0, 1) := by decide +kernel
theorem dX1_step_183 : decode cX1_step 183 = .ok (.lcmp, 1) := by decide +kernel
theorem dX1_step_184 : decode cX1_step 184 = .ok (.ifCond .eq 14, 3) := by decide +kernel
theorem dX1_step_187 : decode cX1_step 187 = .ok (.iload_n 2, 1) := by decide +kernel
theorem dX1_step_188 : decode cX1_step 188 = .ok (.iconst 1, 1) := by decide +kernel
theorem dX1_step_189 : decode cX1_step 189 = .ok (.iadd, 1) := by decide +kernel
theorem dX1_step_190 : decode cX1_step 190 = .ok (.aload_n 0, 1) := by decide +kernel
theorem dX1_step_191 : decode cX1_step 191 = .ok (.getfield 32, 3) := by decide +kernel
theorem dX1_step_194 : decode cX1_step 194 = .ok (.arraylength, 1) := by decide +kernel
theorem dX1_step_195 : decode cX1_step 195 = .ok (.if_icmp .lt 5, 3) := by decide +kernel
theorem dX1_step_198 : decode cX1_step 198 = .ok (.iconst 0, 1) := by decide +kernel
theorem dX1_step_199 : decode cX1_step 199 = .ok (.ireturn, 1) := by decide +kernel
theorem dX1_step_200 : decode cX1_step 200 = .ok (.aload_n 0, 1) := by decide +kernel
theorem dX1_step_201 : decode cX1_step 201 = .ok (.getfield 35, 3) := by decide +kernel
theorem dX1_step_204 : decode cX1_step 204 = .ok (.iload_n 2, 1) := by decide +kernel
theorem dX1_step_205 : decode cX1_step 205 = .ok (.iconst 1, 1) := by decide +kernel
theorem dX1_step_206 : decode cX1_step 206 = .ok (.iadd, 1) := by decide +kernel
theorem dX1_step_207 : decode cX1_step 207 = .ok (.lload 7, 2) := by decide +kernel
theorem dX1_step_209 : decode cX1_step 209 = .ok (.lastore, 1) := by decide +kernel
theorem dX1_step_210 : decode cX1_step 210 = .ok (.aload_n 0, 1) := by decide +kernel
theorem dX1_step_211 : decode cX1_step 211 = .ok (.getfield 38, 3) := by decide +kernel
theorem dX1_step_214 : decode cX1_step 214 = .ok (.iload_n 2, 1) := by decide +kernel
theorem dX1_step_215 : decode cX1_step 215 = .ok (.iconst 1, 1) := by decide +kernel
theorem dX1_step_216 : decode cX1_step 216 = .ok (.iadd, 1) := by decide +kernel
theorem dX1_step_217 : decode cX1_step 217 = .ok (.lload 9, 2) := by decide +kernel
theorem dX1_step_219 : decode cX1_step 219 = .ok (.lastore, 1) := by decide +kernel
theorem dX1_step_220 : decode cX1_step 220 = .ok (.iconst 1, 1) := by decide +kernel
theorem dX1_step_221 : decode cX1_step 221 = .ok (.ireturn, 1) := by decide +kernel
theorem dX1_addRules_0 : decode cX1_addRules 0 = .ok (.aload_n 0, 1) := by decide +kernel
theorem dX1_addRules_1 : decode cX1_addRules 1 = .ok (.getfield 54, 3) := by decide +kernel
theorem dX1_addRules_4 : decode cX1_addRules 4 = .ok (.getfield 160, 3) := by decide +kernel
theorem dX1_addRules_7 : decode cX1_addRules 7 = .ok (.iload_n 1, 1) := by decide +kernel
theorem dX1_addRules_8 : decode cX1_addRules 8 = .ok (.iaload, 1) := by decide +kernel
theorem dX1_addRules_9 : decode cX1_addRules 9 = .ok (.istore 6, 2) := by decide +kernel
theorem dX1_addRules_11 : decode cX1_addRules 11 = .ok (.iconst 0, 1) := by decide +kernel
theorem dX1_addRules_12 : decode cX1_addRules 12 = .ok (.istore 7, 2) := by decide +kernel
theorem dX1_addRules_14 : decode cX1_addRules 14 = .ok (.iload 7, 2) := by decide +kernel
theorem dX1_addRules_16 : decode cX1_addRules 16 = .ok (.sipush 1500, 3) := by decide +kernel
theorem dX1_addRules_19 : decode cX1_addRules 19 = .ok (.if_icmp .ge 68, 3) := by decide +kernel
theorem dX1_addRules_22 : decode cX1_addRules 22 = .ok (.iload 6, 2) := by decide +kernel
theorem dX1_addRules_24 : decode cX1_addRules 24 = .ok (.ifCond .le 63, 3) := by decide +kernel
theorem dX1_addRules_27 : decode cX1_addRules 27 = .ok (.iload 6, 2) := by decide +kernel
theorem dX1_addRules_29 : decode cX1_addRules 29 = .ok (.iconst 1, 1) := by decide +kernel
theorem dX1_addRules_30 : decode cX1_addRules 30 = .ok (.isub, 1) := by decide +kernel
theorem dX1_addRules_31 : decode cX1_addRules 31 = .ok (.aload_n 0, 1) := by decide +kernel
theorem dX1_addRules_32 : decode cX1_addRules 32 = .ok (.getfield 86, 3) := by decide +kernel
theorem dX1_addRules_35 : decode cX1_addRules 35 = .ok (.if_icmp .ge 32, 3) := by decide +kernel
theorem dX1_addRules_38 : decode cX1_addRules 38 = .ok (.aload_n 0, 1) := by decide +kernel
theorem dX1_addRules_39 : decode cX1_addRules 39 = .ok (.aload_n 0, 1) := by decide +kernel
theorem dX1_addRules_40 : decode cX1_addRules 40 = .ok (.getfield 54, 3) := by decide +kernel
theorem dX1_addRules_43 : decode cX1_addRules 43 = .ok (.aload_n 0, 1) := by decide +kernel
theorem dX1_addRules_44 : decode cX1_addRules 44 = .ok (.getfield 50, 3) := by decide +kernel
theorem dX1_addRules_47 : decode cX1_addRules 47 = .ok (.iload 6, 2) := by decide +kernel
theorem dX1_addRules_49 : decode cX1_addRules 49 = .ok (.iconst 1, 1) := by decide +kernel
theorem dX1_addRules_50 : decode cX1_addRules 50 = .ok (.isub, 1) := by decide +kernel
theorem dX1_addRules_51 : decode cX1_addRules 51 = .ok (.invokevirtual 89, 3) := by decide +kernel
theorem dX1_addRules_54 : decode cX1_addRules 54 = .ok (.invokevirtual 115, 3) := by decide +kernel
theorem dX1_addRules_57 : decode cX1_addRules 57 = .ok (.lload_n 2, 1) := by decide +kernel
theorem dX1_addRules_58 : decode cX1_addRules 58 = .ok (.lload 4, 2) := by decide +kernel
theorem dX1_addRules_60 : decode cX1_addRules 60 = .ok (.iload 6, 2) := by decide +kernel
theorem dX1_addRules_62 : decode cX1_addRules 62 = .ok (.iconst 1, 1) := by decide +kernel
theorem dX1_addRules_63 : decode cX1_addRules 63 = .ok (.isub, 1) := by decide +kernel
theorem dX1_addRules_64 : decode cX1_addRules 64 = .ok (.invokevirtual 118, 3) := by decide +kernel
theorem dX1_addRules_67 : decode cX1_addRules 67 = .ok (.aload_n 0, 1) := by decide +kernel
theorem dX1_addRules_68 : decode cX1_addRules 68 = .ok (.getfield 54, 3) := by decide +kernel
theorem dX1_addRules_71 : decode cX1_addRules 71 = .ok (.getfield 163, 3) := by decide +kernel
theorem dX1_addRules_74 : decode cX1_addRules 74 = .ok (.iload 6, 2) := by decide +kernel
theorem dX1_addRules_76 : decode cX1_addRules 76 = .ok (.iconst 1, 1) := by decide +kernel
theorem dX1_addRules_77 : decode cX1_addRules 77 = .ok (.isub, 1) := by decide +kernel
theorem dX1_addRules_78 : decode cX1_addRules 78 = .ok (.iaload, 1) := by decide +kernel
theorem dX1_addRules_79 : decode cX1_addRules 79 = .ok (.istore 6, 2) := by decide +kernel
theorem dX1_addRules_81 : decode cX1_addRules 81 = .ok (.iinc 7 1, 3) := by decide +kernel
theorem dX1_addRules_84 : decode cX1_addRules 84 = .ok (.goto (-70), 3) := by decide +kernel
theorem dX1_addRules_87 : decode cX1_addRules 87 = .ok (.return_, 1) := by decide +kernel
theorem dX1_add_0 : decode cX1_add 0 = .ok (.iload_n 1, 1) := by decide +kernel
theorem dX1_add_1 : decode cX1_add 1 = .ok (.bipush 60, 2) := by decide +kernel
theorem dX1_add_3 : decode cX1_add 3 = .ok (.imul, 1) := by decide +kernel
theorem dX1_add_4 : decode cX1_add 4 = .ok (.aload_n 0, 1) := by decide +kernel
theorem dX1_add_5 : decode cX1_add 5 = .ok (.getfield 106, 3) := by decide +kernel
theorem dX1_add_8 : decode cX1_add 8 = .ok (.iadd, 1) := by decide +kernel
theorem dX1_add_9 : decode cX1_add 9 = .ok (.istore 7, 2) := by decide +kernel
theorem dX1_add_11 : decode cX1_add 11 = .ok (.lload_n 2, 1) := by decide +kernel
theorem dX1_add_12 : decode cX1_add 12 = .ok (.aload_n 0, 1) := by decide +kernel
theorem dX1_add_13 : decode cX1_add 13 = .ok (.getfield 22, 3) := by decide +kernel
theorem dX1_add_16 : decode cX1_add 16 = .ok (.iload 7, 2) := by decide +kernel
theorem dX1_add_18 : decode cX1_add 18 = .ok (.laload, 1) := by decide +kernel
theorem dX1_add_19 : decode cX1_add 19 = .ok (.ldc2_w 166, 3) := by decide +kernel
theorem dX1_add_22 : decode cX1_add 22 = .ok (.lxor, 1) := by decide +kernel
theorem dX1_add_23 : decode cX1_add 23 = .ok (.land, 1) := by decide +kernel
theorem dX1_add_24 : decode cX1_add 24 = .ok (.lstore 8, 2) := by decide +kernel
theorem dX1_add_26 : decode cX1_add 26 = .ok (.aload_n 0, 1) := by decide +kernel
theorem dX1_add_27 : decode cX1_add 27 = .ok (.getfield 25, 3) := by decide +kernel
theorem dX1_add_30 : decode cX1_add 30 = .ok (.iload 7, 2) := by decide +kernel
theorem dX1_add_32 : decode cX1_add 32 = .ok (.dup2, 1) := by decide +kernel
theorem dX1_add_33 : decode cX1_add 33 = .ok (.laload, 1) := by decide +kernel
theorem dX1_add_34 : decode cX1_add 34 = .ok (.lload 4, 2) := by decide +kernel
theorem dX1_add_36 : decode cX1_add 36 = .ok (.lload_n 2, 1) := by decide +kernel
theorem dX1_add_37 : decode cX1_add 37 = .ok (.aload_n 0, 1) := by decide +kernel
theorem dX1_add_38 : decode cX1_add 38 = .ok (.getfield 22, 3) := by decide +kernel
theorem dX1_add_41 : decode cX1_add 41 = .ok (.iload 7, 2) := by decide +kernel
theorem dX1_add_43 : decode cX1_add 43 = .ok (.laload, 1) := by decide +kernel
theorem dX1_add_44 : decode cX1_add 44 = .ok (.land, 1) := by decide +kernel
theorem dX1_add_45 : decode cX1_add 45 = .ok (.lor, 1) := by decide +kernel
theorem dX1_add_46 : decode cX1_add 46 = .ok (.lor, 1) := by decide +kernel
theorem dX1_add_47 : decode cX1_add 47 = .ok (.lastore, 1) := by decide +kernel
theorem dX1_add_48 : decode cX1_add 48 = .ok (.aload_n 0, 1) := by decide +kernel
theorem dX1_add_49 : decode cX1_add 49 = .ok (.getfield 22, 3) := by decide +kernel
theorem dX1_add_52 : decode cX1_add 52 = .ok (.iload 7, 2) := by decide +kernel
theorem dX1_add_54 : decode cX1_add 54 = .ok (.dup2, 1) := by decide +kernel
theorem dX1_add_55 : decode cX1_add 55 = .ok (.laload, 1) := by decide +kernel
theorem dX1_add_56 : decode cX1_add 56 = .ok (.lload_n 2, 1) := by decide +kernel
theorem dX1_add_57 : decode cX1_add 57 = .ok (.lor, 1) := by decide +kernel
theorem dX1_add_58 : decode cX1_add 58 = .ok (.lastore, 1) := by decide +kernel
theorem dX1_add_59 : decode cX1_add 59 = .ok (.aload_n 0, 1) := by decide +kernel
theorem dX1_add_60 : decode cX1_add 60 = .ok (.getfield 106, 3) := by decide +kernel
theorem dX1_add_63 : decode cX1_add 63 = .ok (.iconst 1, 1) := by decide +kernel
theorem dX1_add_64 : decode cX1_add 64 = .ok (.iadd, 1) := by decide +kernel
theorem dX1_add_65 : decode cX1_add 65 = .ok (.istore 10, 2) := by decide +kernel
theorem dX1_add_67 : decode cX1_add 67 = .ok (.iload 10, 2) := by decide +kernel
theorem dX1_add_69 : decode cX1_add 69 = .ok (.aload_n 0, 1) := by decide +kernel
theorem dX1_add_70 : decode cX1_add 70 = .ok (.getfield 73, 3) := by decide +kernel
theorem dX1_add_73 : decode cX1_add 73 = .ok (.if_icmp .gt 48, 3) := by decide +kernel
theorem dX1_add_76 : decode cX1_add 76 = .ok (.lload 8, 2) := by decide +kernel
theorem dX1_add_78 : decode cX1_add 78 = .ok (.iload 10, 2) := by decide +kernel
theorem dX1_add_80 : decode cX1_add 80 = .ok (.lushr, 1) := by decide +kernel
theorem dX1_add_81 : decode cX1_add 81 = .ok (.lconst 1, 1) := by decide +kernel
theorem dX1_add_82 : decode cX1_add 82 = .ok (.land, 1) := by decide +kernel
theorem dX1_add_83 : decode cX1_add 83 = .ok (.lconst 0, 1) := by decide +kernel
theorem dX1_add_84 : decode cX1_add 84 = .ok (.lcmp, 1) := by decide +kernel
theorem dX1_add_85 : decode cX1_add 85 = .ok (.ifCond .eq 30, 3) := by decide +kernel
theorem dX1_add_88 : decode cX1_add 88 = .ok (.aload_n 0, 1) := by decide +kernel
theorem dX1_add_89 : decode cX1_add 89 = .ok (.getfield 29, 3) := by decide +kernel
theorem dX1_add_92 : decode cX1_add 92 = .ok (.iload_n 1, 1) := by decide +kernel
theorem dX1_add_93 : decode cX1_add 93 = .ok (.sipush 1770, 3) := by decide +kernel
theorem dX1_add_96 : decode cX1_add 96 = .ok (.imul, 1) := by decide +kernel
theorem dX1_add_97 : decode cX1_add 97 = .ok (.iload 10, 2) := by decide +kernel
theorem dX1_add_99 : decode cX1_add 99 = .ok (.iload 10, 2) := by decide +kernel
theorem dX1_add_101 : decode cX1_add 101 = .ok (.iconst 1, 1) := by decide +kernel
theorem dX1_add_102 : decode cX1_add 102 = .ok (.isub, 1) := by decide +kernel
theorem dX1_add_103 : decode cX1_add 103 = .ok (.imul, 1) := by decide +kernel
theorem dX1_add_104 : decode cX1_add 104 = .ok (.iconst 2, 1) := by decide +kernel
theorem dX1_add_105 : decode cX1_add 105 = .ok (.idiv, 1) := by decide +kernel
theorem dX1_add_106 : decode cX1_add 106 = .ok (.iadd, 1) := by decide +kernel
theorem dX1_add_107 : decode cX1_add 107 = .ok (.aload_n 0, 1) := by decide +kernel
theorem dX1_add_108 : decode cX1_add 108 = .ok (.getfield 106, 3) := by decide +kernel
theorem dX1_add_111 : decode cX1_add 111 = .ok (.iadd, 1) := by decide +kernel
theorem dX1_add_112 : decode cX1_add 112 = .ok (.iload 6, 2) := by decide +kernel
theorem dX1_add_114 : decode cX1_add 114 = .ok (.iastore, 1) := by decide +kernel
theorem dX1_add_115 : decode cX1_add 115 = .ok (.iinc 10 1, 3) := by decide +kernel
theorem dX1_add_118 : decode cX1_add 118 = .ok (.goto (-51), 3) := by decide +kernel
theorem dX1_add_121 : decode cX1_add 121 = .ok (.return_, 1) := by decide +kernel
theorem dX1_ruleOf_0 : decode cX1_ruleOf 0 = .ok (.aload_n 0, 1) := by decide +kernel
theorem dX1_ruleOf_1 : decode cX1_ruleOf 1 = .ok (.getfield 29, 3) := by decide +kernel
theorem dX1_ruleOf_4 : decode cX1_ruleOf 4 = .ok (.iload_n 1, 1) := by decide +kernel
theorem dX1_ruleOf_5 : decode cX1_ruleOf 5 = .ok (.sipush 1770, 3) := by decide +kernel
theorem dX1_ruleOf_8 : decode cX1_ruleOf 8 = .ok (.imul, 1) := by decide +kernel
theorem dX1_ruleOf_9 : decode cX1_ruleOf 9 = .ok (.iload_n 3, 1) := by decide +kernel
theorem dX1_ruleOf_10 : decode cX1_ruleOf 10 = .ok (.iload_n 3, 1) := by decide +kernel
theorem dX1_ruleOf_11 : decode cX1_ruleOf 11 = .ok (.iconst 1, 1) := by decide +kernel
theorem dX1_ruleOf_12 : decode cX1_ruleOf 12 = .ok (.isub, 1) := by decide +kernel
theorem dX1_ruleOf_13 : decode cX1_ruleOf 13 = .ok (.imul, 1) := by decide +kernel
theorem dX1_ruleOf_14 : decode cX1_ruleOf 14 = .ok (.iconst 2, 1) := by decide +kernel
theorem dX1_ruleOf_15 : decode cX1_ruleOf 15 = .ok (.idiv, 1) := by decide +kernel
theorem dX1_ruleOf_16 : decode cX1_ruleOf 16 = .ok (.iadd, 1) := by decide +kernel
theorem dX1_ruleOf_17 : decode cX1_ruleOf 17 = .ok (.iload_n 2, 1) := by decide +kernel
theorem dX1_ruleOf_18 : decode cX1_ruleOf 18 = .ok (.iadd, 1) := by decide +kernel
theorem dX1_ruleOf_19 : decode cX1_ruleOf 19 = .ok (.iaload, 1) := by decide +kernel
theorem dX1_ruleOf_20 : decode cX1_ruleOf 20 = .ok (.ireturn, 1) := by decide +kernel
theorem dX1_addUnits_0 : decode cX1_addUnits 0 = .ok (.aload_n 0, 1) := by decide +kernel
theorem dX1_addUnits_1 : decode cX1_addUnits 1 = .ok (.iload_n 1, 1) := by decide +kernel
theorem dX1_addUnits_2 : decode cX1_addUnits 2 = .ok (.invokevirtual 168, 3) := by decide +kernel
theorem dX1_addUnits_5 : decode cX1_addUnits 5 = .ok (.ifCond .ne 4, 3) := by decide +kernel
theorem dX1_addUnits_8 : decode cX1_addUnits 8 = .ok (.return_, 1) := by decide +kernel
theorem dX1_addUnits_9 : decode cX1_addUnits 9 = .ok (.iconst 0, 1) := by decide +kernel
theorem dX1_addUnits_10 : decode cX1_addUnits 10 = .ok (.istore_n 2, 1) := by decide +kernel
theorem dX1_addUnits_11 : decode cX1_addUnits 11 = .ok (.iload_n 2, 1) := by decide +kernel
theorem dX1_addUnits_12 : decode cX1_addUnits 12 = .ok (.aload_n 0, 1) := by decide +kernel
theorem dX1_addUnits_13 : decode cX1_addUnits 13 = .ok (.getfield 50, 3) := by decide +kernel
theorem dX1_addUnits_16 : decode cX1_addUnits 16 = .ok (.getfield 112, 3) := by decide +kernel
theorem dX1_addUnits_19 : decode cX1_addUnits 19 = .ok (.if_icmp .ge 63, 3) := by decide +kernel
theorem dX1_addUnits_22 : decode cX1_addUnits 22 = .ok (.aload_n 0, 1) := by decide +kernel
theorem dX1_addUnits_23 : decode cX1_addUnits 23 = .ok (.getfield 25, 3) := by decide +kernel
theorem dX1_addUnits_26 : decode cX1_addUnits 26 = .ok (.iload_n 2, 1) := by decide +kernel
theorem dX1_addUnits_27 : decode cX1_addUnits 27 = .ok (.bipush 60, 2) := by decide +kernel
theorem dX1_addUnits_29 : decode cX1_addUnits 29 = .ok (.imul, 1) := by decide +kernel
theorem dX1_addUnits_30 : decode cX1_addUnits 30 = .ok (.aload_n 0, 1) := by decide +kernel
theorem dX1_addUnits_31 : decode cX1_addUnits 31 = .ok (.getfield 106, 3) := by decide +kernel
theorem dX1_addUnits_34 : decode cX1_addUnits 34 = .ok (.iadd, 1) := by decide +kernel
theorem dX1_addUnits_35 : decode cX1_addUnits 35 = .ok (.laload, 1) := by decide +kernel
theorem dX1_addUnits_36 : decode cX1_addUnits 36 = .ok (.iload_n 1, 1) := by decide +kernel
theorem dX1_addUnits_37 : decode cX1_addUnits 37 = .ok (.lushr, 1) := by decide +kernel
theorem dX1_addUnits_38 : decode cX1_addUnits 38 = .ok (.lconst 1, 1) := by decide +kernel
theorem dX1_addUnits_39 : decode cX1_addUnits 39 = .ok (.land, 1) := by decide +kernel
theorem dX1_addUnits_40 : decode cX1_addUnits 40 = .ok (.lstore_n 3, 1) := by decide +kernel
theorem dX1_addUnits_41 : decode cX1_addUnits 41 = .ok (.aload_n 0, 1) := by decide +kernel
theorem dX1_addUnits_42 : decode cX1_addUnits 42 = .ok (.getfield 41, 3) := by decide +kernel
theorem dX1_addUnits_45 : decode cX1_addUnits 45 = .ok (.iload_n 2, 1) := by decide +kernel
theorem dX1_addUnits_46 : decode cX1_addUnits 46 = .ok (.aload_n 0, 1) := by decide +kernel
theorem dX1_addUnits_47 : decode cX1_addUnits 47 = .ok (.iload_n 2, 1) := by decide +kernel
theorem dX1_addUnits_48 : decode cX1_addUnits 48 = .ok (.iload_n 1, 1) := by decide +kernel
theorem dX1_addUnits_49 : decode cX1_addUnits 49 = .ok (.invokevirtual 136, 3) := by decide +kernel
theorem dX1_addUnits_52 : decode cX1_addUnits 52 = .ok (.ifCond .eq 10, 3) := by decide +kernel
theorem dX1_addUnits_55 : decode cX1_addUnits 55 = .ok (.iconst 1, 1) := by decide +kernel
theorem dX1_addUnits_56 : decode cX1_addUnits 56 = .ok (.lload_n 3, 1) := by decide +kernel
theorem dX1_addUnits_57 : decode cX1_addUnits 57 = .ok (.l2i, 1) := by decide +kernel
theorem dX1_addUnits_58 : decode cX1_addUnits 58 = .ok (.iadd, 1) := by decide +kernel
theorem dX1_addUnits_59 : decode cX1_addUnits 59 = .ok (.goto 4, 3) := by decide +kernel
theorem dX1_addUnits_62 : decode cX1_addUnits 62 = .ok (.iconst 0, 1) := by decide +kernel
theorem dX1_addUnits_63 : decode cX1_addUnits 63 = .ok (.iastore, 1) := by decide +kernel
theorem dX1_addUnits_64 : decode cX1_addUnits 64 = .ok (.aload_n 0, 1) := by decide +kernel
theorem dX1_addUnits_65 : decode cX1_addUnits 65 = .ok (.getfield 44, 3) := by decide +kernel
theorem dX1_addUnits_68 : decode cX1_addUnits 68 = .ok (.iload_n 2, 1) := by decide +kernel
theorem dX1_addUnits_69 : decode cX1_addUnits 69 = .ok (.aload_n 0, 1) := by decide +kernel
theorem dX1_addUnits_70 : decode cX1_addUnits 70 = .ok (.getfield 41, 3) := by decide +kernel
theorem dX1_addUnits_73 : decode cX1_addUnits 73 = .ok (.iload_n 2, 1) := by decide +kernel
theorem dX1_addUnits_74 : decode cX1_addUnits 74 = .ok (.iaload, 1) := by decide +kernel
theorem dX1_addUnits_75 : decode cX1_addUnits 75 = .ok (.iastore, 1) := by decide +kernel
theorem dX1_addUnits_76 : decode cX1_addUnits 76 = .ok (.iinc 2 1, 3) := by decide +kernel
theorem dX1_addUnits_79 : decode cX1_addUnits 79 = .ok (.goto (-68), 3) := by decide +kernel
theorem dX1_addUnits_82 : decode cX1_addUnits 82 = .ok (.iconst 1, 1) := by decide +kernel
theorem dX1_addUnits_83 : decode cX1_addUnits 83 = .ok (.istore_n 2, 1) := by decide +kernel
theorem dX1_addUnits_84 : decode cX1_addUnits 84 = .ok (.iconst 0, 1) := by decide +kernel
theorem dX1_addUnits_85 : decode cX1_addUnits 85 = .ok (.istore_n 3, 1) := by decide +kernel
theorem dX1_addUnits_86 : decode cX1_addUnits 86 = .ok (.iload_n 2, 1) := by decide +kernel
theorem dX1_addUnits_87 : decode cX1_addUnits 87 = .ok (.ifCond .eq 21, 3) := by decide +kernel
theorem dX1_addUnits_90 : decode cX1_addUnits 90 = .ok (.iload_n 3, 1) := by decide +kernel
theorem dX1_addUnits_91 : decode cX1_addUnits 91 = .ok (.sipush 200, 3) := by decide +kernel
theorem dX1_addUnits_94 : decode cX1_addUnits 94 = .ok (.if_icmp .gt 14, 3) := by decide +kernel
theorem dX1_addUnits_97 : decode cX1_addUnits 97 = .ok (.aload_n 0, 1) := by decide +kernel
theorem dX1_addUnits_98 : decode cX1_addUnits 98 = .ok (.invokevirtual 172, 3) := by decide +kernel
theorem dX1_addUnits_101 : decode cX1_addUnits 101 = .ok (.istore_n 2, 1) := by decide +kernel
theorem dX1_addUnits_102 : decode cX1_addUnits 102 = .ok (.iinc 3 1, 3) := by decide +kernel
theorem dX1_addUnits_105 : decode cX1_addUnits 105 = .ok (.goto (-19), 3) := by decide +kernel
theorem dX1_addUnits_108 : decode cX1_addUnits 108 = .ok (.iconst 0, 1) := by decide +kernel
theorem dX1_addUnits_109 : decode cX1_addUnits 109 = .ok (.istore_n 3, 1) := by decide +kernel
theorem dX1_addUnits_110 : decode cX1_addUnits 110 = .ok (.iload_n 3, 1) := by decide +kernel
theorem dX1_addUnits_111 : decode cX1_addUnits 111 = .ok (.aload_n 0, 1) := by decide +kernel
theorem dX1_addUnits_112 : decode cX1_addUnits 112 = .ok (.getfield 54, 3) := by decide +kernel
theorem dX1_addUnits_115 : decode cX1_addUnits 115 = .ok (.getfield 176, 3) := by decide +kernel
theorem dX1_addUnits_118 : decode cX1_addUnits 118 = .ok (.if_icmp .ge 103, 3) := by decide +kernel
theorem dX1_addUnits_121 : decode cX1_addUnits 121 = .ok (.aload_n 0, 1) := by decide +kernel
theorem dX1_addUnits_122 : decode cX1_addUnits 122 = .ok (.getfield 54, 3) := by decide +kernel
theorem dX1_addUnits_125 : decode cX1_addUnits 125 = .ok (.getfield 179, 3) := by decide +kernel
theorem dX1_addUnits_128 : decode cX1_addUnits 128 = .ok (.iload_n 3, 1) := by decide +kernel
theorem dX1_addUnits_129 : decode cX1_addUnits 129 = .ok (.iaload, 1) := by decide +kernel
theorem dX1_addUnits_130 : decode cX1_addUnits 130 = .ok (.aload_n 0, 1) := by decide +kernel
theorem dX1_addUnits_131 : decode cX1_addUnits 131 = .ok (.getfield 86, 3) := by decide +kernel
theorem dX1_addUnits_134 : decode cX1_addUnits 134 = .ok (.if_icmp .ge 87, 3) := by decide +kernel
theorem dX1_addUnits_137 : decode cX1_addUnits 137 = .ok (.aload_n 0, 1) := by decide +kernel
theorem dX1_addUnits_138 : decode cX1_addUnits 138 = .ok (.getfield 44, 3) := by decide +kernel
theorem dX1_addUnits_141 : decode cX1_addUnits 141 = .ok (.aload_n 0, 1) := by decide +kernel
theorem dX1_addUnits_142 : decode cX1_addUnits 142 = .ok (.getfield 54, 3) := by decide +kernel
theorem dX1_addUnits_145 : decode cX1_addUnits 145 = .ok (.getfield 182, 3) := by decide +kernel
theorem dX1_addUnits_148 : decode cX1_addUnits 148 = .ok (.iload_n 3, 1) := by decide +kernel
theorem dX1_addUnits_149 : decode cX1_addUnits 149 = .ok (.iaload, 1) := by decide +kernel
theorem dX1_addUnits_150 : decode cX1_addUnits 150 = .ok (.iaload, 1) := by decide +kernel
theorem dX1_addUnits_151 : decode cX1_addUnits 151 = .ok (.ifCond .le 64, 3) := by decide +kernel
theorem dX1_addUnits_154 : decode cX1_addUnits 154 = .ok (.aload_n 0, 1) := by decide +kernel
theorem dX1_addUnits_155 : decode cX1_addUnits 155 = .ok (.getfield 54, 3) := by decide +kernel
theorem dX1_addUnits_158 : decode cX1_addUnits 158 = .ok (.aload_n 0, 1) := by decide +kernel
theorem dX1_addUnits_159 : decode cX1_addUnits 159 = .ok (.getfield 50, 3) := by decide +kernel
theorem dX1_addUnits_162 : decode cX1_addUnits 162 = .ok (.aload_n 0, 1) := by decide +kernel
theorem dX1_addUnits_163 : decode cX1_addUnits 163 = .ok (.getfield 54, 3) := by decide +kernel
theorem dX1_addUnits_166 : decode cX1_addUnits 166 = .ok (.getfield 179, 3) := by decide +kernel
theorem dX1_addUnits_169 : decode cX1_addUnits 169 = .ok (.iload_n 3, 1) := by decide +kernel
theorem dX1_addUnits_170 : decode cX1_addUnits 170 = .ok (.iaload, 1) := by decide +kernel
theorem dX1_addUnits_171 : decode cX1_addUnits 171 = .ok (.invokevirtual 89, 3) := by decide +kernel
theorem dX1_addUnits_174 : decode cX1_addUnits 174 = .ok (.invokevirtual 115, 3) := by decide +kernel
theorem dX1_addUnits_177 : decode cX1_addUnits 177 = .ok (.istore 4, 2) := by decide +kernel
theorem dX1_addUnits_179 : decode cX1_addUnits 179 = .ok (.aload_n 0, 1) := by decide +kernel
theorem dX1_addUnits_180 : decode cX1_addUnits 180 = .ok (.iload 4, 2) := by decide +kernel
theorem dX1_addUnits_182 : decode cX1_addUnits 182 = .ok (.lconst 1, 1) := by decide +kernel
theorem dX1_addUnits_183 : decode cX1_addUnits 183 = .ok (.iload_n 1, 1) := by decide +kernel
theorem dX1_addUnits_184 : decode cX1_addUnits 184 = .ok (.lshl, 1) := by decide +kernel
theorem dX1_addUnits_185 : decode cX1_addUnits 185 = .ok (.aload_n 0, 1) := by decide +kernel
theorem dX1_addUnits_186 : decode cX1_addUnits 186 = .ok (.getfield 44, 3) := by decide +kernel
theorem dX1_addUnits_189 : decode cX1_addUnits 189 = .ok (.iload 4, 2) := by decide +kernel
theorem dX1_addUnits_191 : decode cX1_addUnits 191 = .ok (.iaload, 1) := by decide +kernel
theorem dX1_addUnits_192 : decode cX1_addUnits 192 = .ok (.iconst 1, 1) := by decide +kernel
theorem dX1_addUnits_193 : decode cX1_addUnits 193 = .ok (.if_icmp .le 9, 3) := by decide +kernel
theorem dX1_addUnits_196 : decode cX1_addUnits 196 = .ok (.lconst 1, 1) := by decide +kernel
theorem dX1_addUnits_197 : decode cX1_addUnits 197 = .ok (.iload_n 1, 1) := by decide +kernel
theorem dX1_addUnits_198 : decode cX1_addUnits 198 = .ok (.lshl, 1) := by decide +kernel
theorem dX1_addUnits_199 : decode cX1_addUnits 199 = .ok (.goto 4, 3) := by decide +kernel
theorem dX1_addUnits_202 : decode cX1_addUnits 202 = .ok (.lconst 0, 1) := by decide +kernel
theorem dX1_addUnits_203 : decode cX1_addUnits 203 = .ok (.aload_n 0, 1) := by decide +kernel
theorem dX1_addUnits_204 : decode cX1_addUnits 204 = .ok (.getfield 54, 3) := by decide +kernel
theorem dX1_addUnits_207 : decode cX1_addUnits 207 = .ok (.getfield 179, 3) := by decide +kernel
theorem dX1_addUnits_210 : decode cX1_addUnits 210 = .ok (.iload_n 3, 1) := by decide +kernel
theorem dX1_addUnits_211 : decode cX1_addUnits 211 = .ok (.iaload, 1) := by decide +kernel
theorem dX1_addUnits_212 : decode cX1_addUnits 212 = .ok (.invokevirtual 118, 3) := by decide +kernel
theorem dX1_addUnits_215 : decode cX1_addUnits 215 = .ok (.iinc 3 1, 3) := by decide +kernel
theorem dX1_addUnits_218 : decode cX1_addUnits 218 = .ok (.goto (-108), 3) := by decide +kernel
theorem dX1_addUnits_221 : decode cX1_addUnits 221 = .ok (.return_, 1) := by decide +kernel
theorem dX1_hasUnits_0 : decode cX1_hasUnits 0 = .ok (.iconst 0, 1) := by decide +kernel
theorem dX1_hasUnits_1 : decode cX1_hasUnits 1 = .ok (.istore_n 2, 1) := by decide +kernel
theorem dX1_hasUnits_2 : decode cX1_hasUnits 2 = .ok (.iload_n 2, 1) := by decide +kernel
theorem dX1_hasUnits_3 : decode cX1_hasUnits 3 = .ok (.aload_n 0, 1) := by decide +kernel
theorem dX1_hasUnits_4 : decode cX1_hasUnits 4 = .ok (.getfield 54, 3) := by decide +kernel
theorem dX1_hasUnits_7 : decode cX1_hasUnits 7 = .ok (.getfield 176, 3) := by decide +kernel
theorem dX1_hasUnits_10 : decode cX1_hasUnits 10 = .ok (.if_icmp .ge 44, 3) := by decide +kernel
theorem dX1_hasUnits_13 : decode cX1_hasUnits 13 = .ok (.aload_n 0, 1) := by decide +kernel
theorem dX1_hasUnits_14 : decode cX1_hasUnits 14 = .ok (.getfield 54, 3) := by decide +kernel
theorem dX1_hasUnits_17 : decode cX1_hasUnits 17 = .ok (.getfield 179, 3) := by decide +kernel
theorem dX1_hasUnits_20 : decode cX1_hasUnits 20 = .ok (.iload_n 2, 1) := by decide +kernel
theorem dX1_hasUnits_21 : decode cX1_hasUnits 21 = .ok (.iaload, 1) := by decide +kernel
theorem dX1_hasUnits_22 : decode cX1_hasUnits 22 = .ok (.aload_n 0, 1) := by decide +kernel
theorem dX1_hasUnits_23 : decode cX1_hasUnits 23 = .ok (.getfield 86, 3) := by decide +kernel
theorem dX1_hasUnits_26 : decode cX1_hasUnits 26 = .ok (.if_icmp .ge 28, 3) := by decide +kernel
theorem dX1_hasUnits_29 : decode cX1_hasUnits 29 = .ok (.aload_n 0, 1) := by decide +kernel
theorem dX1_hasUnits_30 : decode cX1_hasUnits 30 = .ok (.aload_n 0, 1) := by decide +kernel
theorem dX1_hasUnits_31 : decode cX1_hasUnits 31 = .ok (.getfield 54, 3) := by decide +kernel
theorem dX1_hasUnits_34 : decode cX1_hasUnits 34 = .ok (.getfield 182, 3) := by decide +kernel
theorem dX1_hasUnits_37 : decode cX1_hasUnits 37 = .ok (.iload_n 2, 1) := by decide +kernel
theorem dX1_hasUnits_38 : decode cX1_hasUnits 38 = .ok (.iaload, 1) := by decide +kernel
theorem dX1_hasUnits_39 : decode cX1_hasUnits 39 = .ok (.iload_n 1, 1) := by decide +kernel
theorem dX1_hasUnits_40 : decode cX1_hasUnits 40 = .ok (.invokevirtual 136, 3) := by decide +kernel
theorem dX1_hasUnits_43 : decode cX1_hasUnits 43 = .ok (.ifCond .eq 5, 3) := by decide +kernel
theorem dX1_hasUnits_46 : decode cX1_hasUnits 46 = .ok (.iconst 1, 1) := by decide +kernel
theorem dX1_hasUnits_47 : decode cX1_hasUnits 47 = .ok (.ireturn, 1) := by decide +kernel
theorem dX1_hasUnits_48 : decode cX1_hasUnits 48 = .ok (.iinc 2 1, 3) := by decide +kernel
theorem dX1_hasUnits_51 : decode cX1_hasUnits 51 = .ok (.goto (-49), 3) := by decide +kernel
theorem dX1_hasUnits_54 : decode cX1_hasUnits 54 = .ok (.iconst 0, 1) := by decide +kernel
theorem dX1_hasUnits_55 : decode cX1_hasUnits 55 = .ok (.ireturn, 1) := by decide +kernel
theorem dX1_countUnits_0 : decode cX1_countUnits 0 = .ok (.iconst 0, 1) := by decide +kernel
theorem dX1_countUnits_1 : decode cX1_countUnits 1 = .ok (.istore_n 1, 1) := by decide +kernel
theorem dX1_countUnits_2 : decode cX1_countUnits 2 = .ok (.iload_n 1, 1) := by decide +kernel
theorem dX1_countUnits_3 : decode cX1_countUnits 3 = .ok (.aload_n 0, 1) := by decide +kernel
theorem dX1_countUnits_4 : decode cX1_countUnits 4 = .ok (.getfield 50, 3) := by decide +kernel
theorem dX1_countUnits_7 : decode cX1_countUnits 7 = .ok (.getfield 112, 3) := by decide +kernel
theorem dX1_countUnits_10 : decode cX1_countUnits 10 = .ok (.if_icmp .ge 21, 3) := by decide +kernel
theorem dX1_countUnits_13 : decode cX1_countUnits 13 = .ok (.aload_n 0, 1) := by decide +kernel
theorem dX1_countUnits_14 : decode cX1_countUnits 14 = .ok (.getfield 47, 3) := by decide +kernel
theorem dX1_countUnits_17 : decode cX1_countUnits 17 = .ok (.iload_n 1, 1) := by decide +kernel
theorem dX1_countUnits_18 : decode cX1_countUnits 18 = .ok (.aload_n 0, 1) := by decide +kernel
theorem dX1_countUnits_19 : decode cX1_countUnits 19 = .ok (.getfield 41, 3) := by decide +kernel
theorem dX1_countUnits_22 : decode cX1_countUnits 22 = .ok (.iload_n 1, 1) := by decide +kernel
theorem dX1_countUnits_23 : decode cX1_countUnits 23 = .ok (.iaload, 1) := by decide +kernel
theorem dX1_countUnits_24 : decode cX1_countUnits 24 = .ok (.iastore, 1) := by decide +kernel
theorem dX1_countUnits_25 : decode cX1_countUnits 25 = .ok (.iinc 1 1, 3) := by decide +kernel
theorem dX1_countUnits_28 : decode cX1_countUnits 28 = .ok (.goto (-26), 3) := by decide +kernel
theorem dX1_countUnits_31 : decode cX1_countUnits 31 = .ok (.iconst 0, 1) := by decide +kernel
theorem dX1_countUnits_32 : decode cX1_countUnits 32 = .ok (.istore_n 1, 1) := by decide +kernel
theorem dX1_countUnits_33 : decode cX1_countUnits 33 = .ok (.iload_n 1, 1) := by decide +kernel
theorem dX1_countUnits_34 : decode cX1_countUnits 34 = .ok (.aload_n 0, 1) := by decide +kernel
theorem dX1_countUnits_35 : decode cX1_countUnits 35 = .ok (.getfield 54, 3) := by decide +kernel
theorem dX1_countUnits_38 : decode cX1_countUnits 38 = .ok (.getfield 176, 3) := by decide +kernel
theorem dX1_countUnits_41 : decode cX1_countUnits 41 = .ok (.if_icmp .ge 80, 3) := by decide +kernel
theorem dX1_countUnits_44 : decode cX1_countUnits 44 = .ok (.aload_n 0, 1) := by decide +kernel
theorem dX1_countUnits_45 : decode cX1_countUnits 45 = .ok (.getfield 54, 3) := by decide +kernel
theorem dX1_countUnits_48 : decode cX1_countUnits 48 = .ok (.getfield 179, 3) := by decide +kernel
theorem dX1_countUnits_51 : decode cX1_countUnits 51 = .ok (.iload_n 1, 1) := by decide +kernel
theorem dX1_countUnits_52 : decode cX1_countUnits 52 = .ok (.iaload, 1) := by decide +kernel
theorem dX1_countUnits_53 : decode cX1_countUnits 53 = .ok (.aload_n 0, 1) := by decide +kernel
theorem dX1_countUnits_54 : decode cX1_countUnits 54 = .ok (.getfield 86, 3) := by decide +kernel
theorem dX1_countUnits_57 : decode cX1_countUnits 57 = .ok (.if_icmp .ge 64, 3) := by decide +kernel
theorem dX1_countUnits_60 : decode cX1_countUnits 60 = .ok (.aload_n 0, 1) := by decide +kernel
theorem dX1_countUnits_61 : decode cX1_countUnits 61 = .ok (.getfield 54, 3) := by decide +kernel
theorem dX1_countUnits_64 : decode cX1_countUnits 64 = .ok (.aload_n 0, 1) := by decide +kernel
theorem dX1_countUnits_65 : decode cX1_countUnits 65 = .ok (.getfield 50, 3) := by decide +kernel
theorem dX1_countUnits_68 : decode cX1_countUnits 68 = .ok (.aload_n 0, 1) := by decide +kernel
theorem dX1_countUnits_69 : decode cX1_countUnits 69 = .ok (.getfield 54, 3) := by decide +kernel
theorem dX1_countUnits_72 : decode cX1_countUnits 72 = .ok (.getfield 179, 3) := by decide +kernel
theorem dX1_countUnits_75 : decode cX1_countUnits 75 = .ok (.iload_n 1, 1) := by decide +kernel
theorem dX1_countUnits_76 : decode cX1_countUnits 76 = .ok (.iaload, 1) := by decide +kernel
theorem dX1_countUnits_77 : decode cX1_countUnits 77 = .ok (.invokevirtual 89, 3) := by decide +kernel
theorem dX1_countUnits_80 : decode cX1_countUnits 80 = .ok (.invokevirtual 115, 3) := by decide +kernel
theorem dX1_countUnits_83 : decode cX1_countUnits 83 = .ok (.istore_n 2, 1) := by decide +kernel
theorem dX1_countUnits_84 : decode cX1_countUnits 84 = .ok (.aload_n 0, 1) := by decide +kernel
theorem dX1_countUnits_85 : decode cX1_countUnits 85 = .ok (.getfield 47, 3) := by decide +kernel
theorem dX1_countUnits_88 : decode cX1_countUnits 88 = .ok (.iload_n 2, 1) := by decide +kernel
theorem dX1_countUnits_89 : decode cX1_countUnits 89 = .ok (.iconst 2, 1) := by decide +kernel
theorem dX1_countUnits_90 : decode cX1_countUnits 90 = .ok (.aload_n 0, 1) := by decide +kernel
theorem dX1_countUnits_91 : decode cX1_countUnits 91 = .ok (.getfield 47, 3) := by decide +kernel
theorem dX1_countUnits_94 : decode cX1_countUnits 94 = .ok (.iload_n 2, 1) := by decide +kernel
theorem dX1_countUnits_95 : decode cX1_countUnits 95 = .ok (.iaload, 1) := by decide +kernel
theorem dX1_countUnits_96 : decode cX1_countUnits 96 = .ok (.aload_n 0, 1) := by decide +kernel
theorem dX1_countUnits_97 : decode cX1_countUnits 97 = .ok (.getfield 44, 3) := by decide +kernel
theorem dX1_countUnits_100 : decode cX1_countUnits 100 = .ok (.aload_n 0, 1) := by decide +kernel
theorem dX1_countUnits_101 : decode cX1_countUnits 101 = .ok (.getfield 54, 3) := by decide +kernel
theorem dX1_countUnits_104 : decode cX1_countUnits 104 = .ok (.getfield 182, 3) := by decide +kernel
theorem dX1_countUnits_107 : decode cX1_countUnits 107 = .ok (.iload_n 1, 1) := by decide +kernel
theorem dX1_countUnits_108 : decode cX1_countUnits 108 = .ok (.iaload, 1) := by decide +kernel
theorem dX1_countUnits_109 : decode cX1_countUnits 109 = .ok (.iaload, 1) := by decide +kernel
theorem dX1_countUnits_110 : decode cX1_countUnits 110 = .ok (.iadd, 1) := by decide +kernel
theorem dX1_countUnits_111 : decode cX1_countUnits 111 = .ok (.invokestatic 67, 3) := by decide +kernel
theorem dX1_countUnits_114 : decode cX1_countUnits 114 = .ok (.iastore, 1) := by decide +kernel
theorem dX1_countUnits_115 : decode cX1_countUnits 115 = .ok (.iinc 1 1, 3) := by decide +kernel
theorem dX1_countUnits_118 : decode cX1_countUnits 118 = .ok (.goto (-85), 3) := by decide +kernel
theorem dX1_countUnits_121 : decode cX1_countUnits 121 = .ok (.iconst 0, 1) := by decide +kernel
theorem dX1_countUnits_122 : decode cX1_countUnits 122 = .ok (.istore_n 1, 1) := by decide +kernel
theorem dX1_countUnits_123 : decode cX1_countUnits 123 = .ok (.iconst 0, 1) := by decide +kernel
theorem dX1_countUnits_124 : decode cX1_countUnits 124 = .ok (.istore_n 2, 1) := by decide +kernel
theorem dX1_countUnits_125 : decode cX1_countUnits 125 = .ok (.iload_n 2, 1) := by decide +kernel
theorem dX1_countUnits_126 : decode cX1_countUnits 126 = .ok (.aload_n 0, 1) := by decide +kernel
theorem dX1_countUnits_127 : decode cX1_countUnits 127 = .ok (.getfield 50, 3) := by decide +kernel
theorem dX1_countUnits_130 : decode cX1_countUnits 130 = .ok (.getfield 112, 3) := by decide +kernel
theorem dX1_countUnits_133 : decode cX1_countUnits 133 = .ok (.if_icmp .ge 44, 3) := by decide +kernel
theorem dX1_countUnits_136 : decode cX1_countUnits 136 = .ok (.iload_n 1, 1) := by decide +kernel
theorem dX1_countUnits_137 : decode cX1_countUnits 137 = .ok (.aload_n 0, 1) := by decide +kernel
theorem dX1_countUnits_138 : decode cX1_countUnits 138 = .ok (.getfield 47, 3) := by decide +kernel
theorem dX1_countUnits_141 : decode cX1_countUnits 141 = .ok (.iload_n 2, 1) := by decide +kernel
theorem dX1_countUnits_142 : decode cX1_countUnits 142 = .ok (.iaload, 1) := by decide +kernel
theorem dX1_countUnits_143 : decode cX1_countUnits 143 = .ok (.aload_n 0, 1) := by decide +kernel
theorem dX1_countUnits_144 : decode cX1_countUnits 144 = .ok (.getfield 44, 3) := by decide +kernel
theorem dX1_countUnits_147 : decode cX1_countUnits 147 = .ok (.iload_n 2, 1) := by decide +kernel
theorem dX1_countUnits_148 : decode cX1_countUnits 148 = .ok (.iaload, 1) := by decide +kernel
theorem dX1_countUnits_149 : decode cX1_countUnits 149 = .ok (.if_icmp .eq 7, 3) := by decide +kernel
theorem dX1_countUnits_152 : decode cX1_countUnits 152 = .ok (.iconst 1, 1) := by decide +kernel
theorem dX1_countUnits_153 : decode cX1_countUnits 153 = .ok (.goto 4, 3) := by decide +kernel
theorem dX1_countUnits_156 : decode cX1_countUnits 156 = .ok (.iconst 0, 1) := by decide +kernel
theorem dX1_countUnits_157 : decode cX1_countUnits 157 = .ok (.ior, 1) := by decide +kernel
theorem dX1_countUnits_158 : decode cX1_countUnits 158 = .ok (.istore_n 1, 1) := by decide +kernel
theorem dX1_countUnits_159 : decode cX1_countUnits 159 = .ok (.aload_n 0, 1) := by decide +kernel
theorem dX1_countUnits_160 : decode cX1_countUnits 160 = .ok (.getfield 44, 3) := by decide +kernel
theorem dX1_countUnits_163 : decode cX1_countUnits 163 = .ok (.iload_n 2, 1) := by decide +kernel
theorem dX1_countUnits_164 : decode cX1_countUnits 164 = .ok (.aload_n 0, 1) := by decide +kernel
theorem dX1_countUnits_165 : decode cX1_countUnits 165 = .ok (.getfield 47, 3) := by decide +kernel
theorem dX1_countUnits_168 : decode cX1_countUnits 168 = .ok (.iload_n 2, 1) := by decide +kernel
theorem dX1_countUnits_169 : decode cX1_countUnits 169 = .ok (.iaload, 1) := by decide +kernel
theorem dX1_countUnits_170 : decode cX1_countUnits 170 = .ok (.iastore, 1) := by decide +kernel
theorem dX1_countUnits_171 : decode cX1_countUnits 171 = .ok (.iinc 2 1, 3) := by decide +kernel
theorem dX1_countUnits_174 : decode cX1_countUnits 174 = .ok (.goto (-49), 3) := by decide +kernel
theorem dX1_countUnits_177 : decode cX1_countUnits 177 = .ok (.iload_n 1, 1) := by decide +kernel
theorem dX1_countUnits_178 : decode cX1_countUnits 178 = .ok (.ireturn, 1) := by decide +kernel
theorem dX11_init_0 : decode cX11_init 0 = .ok (.aload_n 0, 1) := by decide +kernel
theorem dX11_init_1 : decode cX11_init 1 = .ok (.invokespecial 3, 3) := by decide +kernel
theorem dX11_init_4 : decode cX11_init 4 = .ok (.aload_n 0, 1) := by decide +kernel
theorem dX11_init_5 : decode cX11_init 5 = .ok (.sipush 12000, 3) := by decide +kernel
theorem dX11_init_8 : decode cX11_init 8 = .ok (.newarray .int, 2) := by decide +kernel
theorem dX11_init_10 : decode cX11_init 10 = .ok (.putfield 9, 3) := by decide +kernel
theorem dX11_init_13 : decode cX11_init 13 = .ok (.aload_n 0, 1) := by decide +kernel
theorem dX11_init_14 : decode cX11_init 14 = .ok (.sipush 12000, 3) := by decide +kernel
theorem dX11_init_17 : decode cX11_init 17 = .ok (.newarray .int, 2) := by decide +kernel
theorem dX11_init_19 : decode cX11_init 19 = .ok (.putfield 15, 3) := by decide +kernel
theorem dX11_init_22 : decode cX11_init 22 = .ok (.aload_n 0, 1) := by decide +kernel
theorem dX11_init_23 : decode cX11_init 23 = .ok (.sipush 12000, 3) := by decide +kernel
theorem dX11_init_26 : decode cX11_init 26 = .ok (.newarray .int, 2) := by decide +kernel
theorem dX11_init_28 : decode cX11_init 28 = .ok (.putfield 18, 3) := by decide +kernel
theorem dX11_init_31 : decode cX11_init 31 = .ok (.aload_n 0, 1) := by decide +kernel
theorem dX11_init_32 : decode cX11_init 32 = .ok (.sipush 12000, 3) := by decide +kernel
theorem dX11_init_35 : decode cX11_init 35 = .ok (.newarray .int, 2) := by decide +kernel
theorem dX11_init_37 : decode cX11_init 37 = .ok (.putfield 21, 3) := by decide +kernel
theorem dX11_init_40 : decode cX11_init 40 = .ok (.aload_n 0, 1) := by decide +kernel
theorem dX11_init_41 : decode cX11_init 41 = .ok (.bipush 120, 2) := by decide +kernel
theorem dX11_init_43 : decode cX11_init 43 = .ok (.newarray .int, 2) := by decide +kernel
theorem dX11_init_45 : decode cX11_init 45 = .ok (.putfield 24, 3) := by decide +kernel
theorem dX11_init_48 : decode cX11_init 48 = .ok (.aload_n 0, 1) := by decide +kernel
theorem dX11_init_49 : decode cX11_init 49 = .ok (.bipush 61, 2) := by decide +kernel
theorem dX11_init_51 : decode cX11_init 51 = .ok (.newarray .long, 2) := by decide +kernel
theorem dX11_init_53 : decode cX11_init 53 = .ok (.putfield 27, 3) := by decide +kernel
theorem dX11_init_56 : decode cX11_init 56 = .ok (.aload_n 0, 1) := by decide +kernel
theorem dX11_init_57 : decode cX11_init 57 = .ok (.sipush 1000, 3) := by decide +kernel
theorem dX11_init_60 : decode cX11_init 60 = .ok (.newarray .int, 2) := by decide +kernel
theorem dX11_init_62 : decode cX11_init 62 = .ok (.putfield 31, 3) := by decide +kernel
theorem dX11_init_65 : decode cX11_init 65 = .ok (.aload_n 0, 1) := by decide +kernel
theorem dX11_init_66 : decode cX11_init 66 = .ok (.sipush 1000, 3) := by decide +kernel
theorem dX11_init_69 : decode cX11_init 69 = .ok (.newarray .int, 2) := by decide +kernel
theorem dX11_init_71 : decode cX11_init 71 = .ok (.putfield 34, 3) := by decide +kernel
theorem dX11_init_74 : decode cX11_init 74 = .ok (.aload_n 0, 1) := by decide +kernel
theorem dX11_init_75 : decode cX11_init 75 = .ok (.sipush 1000, 3) := by decide +kernel
theorem dX11_init_78 : decode cX11_init 78 = .ok (.newarray .int, 2) := by decide +kernel
theorem dX11_init_80 : decode cX11_init 80 = .ok (.putfield 37, 3) := by decide +kernel
theorem dX11_init_83 : decode cX11_init 83 = .ok (.aload_n 0, 1) := by decide +kernel
theorem dX11_init_84 : decode cX11_init 84 = .ok (.aload_n 1, 1) := by decide +kernel
theorem dX11_init_85 : decode cX11_init 85 = .ok (.putfield 40, 3) := by decide +kernel
theorem dX11_init_88 : decode cX11_init 88 = .ok (.aload_n 0, 1) := by decide +kernel
theorem dX11_init_89 : decode cX11_init 89 = .ok (.aload_n 2, 1) := by decide +kernel
theorem dX11_init_90 : decode cX11_init 90 = .ok (.putfield 44, 3) := by decide +kernel
theorem dX11_init_93 : decode cX11_init 93 = .ok (.aload_n 0, 1) := by decide +kernel
theorem dX11_init_94 : decode cX11_init 94 = .ok (.aload_n 3, 1) := by decide +kernel
theorem dX11_init_95 : decode cX11_init 95 = .ok (.putfield 48, 3) := by decide +kernel
theorem dX11_init_98 : decode cX11_init 98 = .ok (.return_, 1) := by decide +kernel
theorem dX11_grow_0 : decode cX11_grow 0 = .ok (.aload_n 0, 1) := by decide +kernel
theorem dX11_grow_1 : decode cX11_grow 1 = .ok (.iconst 0, 1) := by decide +kernel
theorem dX11_grow_2 : decode cX11_grow 2 = .ok (.putfield 52, 3) := by decide +kernel
theorem dX11_grow_5 : decode cX11_grow 5 = .ok (.iconst 0, 1) := by decide +kernel
theorem dX11_grow_6 : decode cX11_grow 6 = .ok (.istore_n 1, 1) := by decide +kernel
theorem dX11_grow_7 : decode cX11_grow 7 = .ok (.aload_n 0, 1) := by decide +kernel
theorem dX11_grow_8 : decode cX11_grow 8 = .ok (.getfield 24, 3) := by decide +kernel
theorem dX11_grow_11 : decode cX11_grow 11 = .ok (.iload_n 1, 1) := by decide +kernel
theorem dX11_grow_12 : decode cX11_grow 12 = .ok (.aload_n 0, 1) := by decide +kernel
theorem dX11_grow_13 : decode cX11_grow 13 = .ok (.getfield 48, 3) := by decide +kernel
theorem dX11_grow_16 : decode cX11_grow 16 = .ok (.getfield 56, 3) := by decide +kernel
theorem dX11_grow_19 : decode cX11_grow 19 = .ok (.iconst 0, 1) := by decide +kernel
theorem dX11_grow_20 : decode cX11_grow 20 = .ok (.aload_n 0, 1) := by decide +kernel
theorem dX11_grow_21 : decode cX11_grow 21 = .ok (.getfield 48, 3) := by decide +kernel
theorem dX11_grow_24 : decode cX11_grow 24 = .ok (.getfield 61, 3) := by decide +kernel
theorem dX11_grow_27 : decode cX11_grow 27 = .ok (.invokestatic 64, 3) := by decide +kernel
theorem dX11_grow_30 : decode cX11_grow 30 = .ok (.iastore, 1) := by decide +kernel
theorem dX11_grow_31 : decode cX11_grow 31 = .ok (.iinc 1 1, 3) := by decide +kernel
theorem dX11_grow_34 : decode cX11_grow 34 = .ok (.iconst 0, 1) := by decide +kernel
theorem dX11_grow_35 : decode cX11_grow 35 = .ok (.istore_n 2, 1) := by decide +kernel
theorem dX11_grow_36 : decode cX11_grow 36 = .ok (.iload_n 2, 1) := by decide +kernel
theorem dX11_grow_37 : decode cX11_grow 37 = .ok (.sipush 12000, 3) := by decide +kernel
theorem dX11_grow_40 : decode cX11_grow 40 = .ok (.if_icmp .ge 247, 3) := by decide +kernel
theorem dX11_grow_43 : decode cX11_grow 43 = .ok (.iload_n 1, 1) := by decide +kernel
theorem dX11_grow_44 : decode cX11_grow 44 = .ok (.ifCond .le 243, 3) := by decide +kernel
theorem dX11_grow_47 : decode cX11_grow 47 = .ok (.iinc 1 (-1), 3) := by decide +kernel
theorem dX11_grow_50 : decode cX11_grow 50 = .ok (.aload_n 0, 1) := by decide +kernel
theorem dX11_grow_51 : decode cX11_grow 51 = .ok (.getfield 24, 3) := by decide +kernel
theorem dX11_grow_54 : decode cX11_grow 54 = .ok (.iload_n 1, 1) := by decide +kernel
theorem dX11_grow_55 : decode cX11_grow 55 = .ok (.iaload, 1) := by decide +kernel
theorem dX11_grow_56 : decode cX11_grow 56 = .ok (.sipush 3600, 3) := by decide +kernel
theorem dX11_grow_59 : decode cX11_grow 59 = .ok (.idiv, 1) := by decide +kernel
theorem dX11_grow_60 : decode cX11_grow 60 = .ok (.istore_n 3, 1) := by decide +kernel
theorem dX11_grow_61 : decode cX11_grow 61 = .ok (.aload_n 0, 1) := by decide +kernel
theorem dX11_grow_62 : decode cX11_grow 62 = .ok (.getfield 24, 3) := by decide +kernel
theorem dX11_grow_65 : decode cX11_grow 65 = .ok (.iload_n 1, 1) := by decide +kernel
theorem dX11_grow_66 : decode cX11_grow 66 = .ok (.iaload, 1) := by decide +kernel
theorem dX11_grow_67 : decode cX11_grow 67 = .ok (.bipush 60, 2) := by decide +kernel
theorem dX11_grow_69 : decode cX11_grow 69 = .ok (.idiv, 1) := by decide +kernel
theorem dX11_grow_70 : decode cX11_grow 70 = .ok (.bipush 60, 2) := by decide +kernel
theorem dX11_grow_72 : decode cX11_grow 72 = .ok (.irem, 1) := by decide +kernel
theorem dX11_grow_73 : decode cX11_grow 73 = .ok (.istore 4, 2) := by decide +kernel
theorem dX11_grow_75 : decode cX11_grow 75 = .ok (.aload_n 0, 1) := by decide +kernel
theorem dX11_grow_76 : decode cX11_grow 76 = .ok (.getfield 24, 3) := by decide +kernel
theorem dX11_grow_79 : decode cX11_grow 79 = .ok (.iload_n 1, 1) := by decide +kernel
theorem dX11_grow_80 : decode cX11_grow 80 = .ok (.iaload, 1) := by decide +kernel
theorem dX11_grow_81 : decode cX11_grow 81 = .ok (.bipush 60, 2) := by decide +kernel
theorem dX11_grow_83 : decode cX11_grow 83 = .ok (.irem, 1) := by decide +kernel
theorem dX11_grow_84 : decode cX11_grow 84 = .ok (.istore 5, 2) := by decide +kernel
theorem dX11_grow_86 : decode cX11_grow 86 = .ok (.aload_n 0, 1) := by decide +kernel
theorem dX11_grow_87 : decode cX11_grow 87 = .ok (.getfield 48, 3) := by decide +kernel
theorem dX11_grow_90 : decode cX11_grow 90 = .ok (.iload_n 3, 1) := by decide +kernel
theorem dX11_grow_91 : decode cX11_grow 91 = .ok (.iload 4, 2) := by decide +kernel
theorem dX11_grow_93 : decode cX11_grow 93 = .ok (.iload 5, 2) := by decide +kernel
theorem dX11_grow_95 : decode cX11_grow 95 = .ok (.invokevirtual 68, 3) := by decide +kernel
theorem dX11_grow_98 : decode cX11_grow 98 = .ok (.istore 6, 2) := by decide +kernel
theorem dX11_grow_100 : decode cX11_grow 100 = .ok (.aload_n 0, 1) := by decide +kernel
theorem dX11_grow_101 : decode cX11_grow 101 = .ok (.getfield 9, 3) := by decide +kernel
theorem dX11_grow_104 : decode cX11_grow 104 = .ok (.aload_n 0, 1) := by decide +kernel
theorem dX11_grow_105 : decode cX11_grow 105 = .ok (.getfield 52, 3) := by decide +kernel
theorem dX11_grow_108 : decode cX11_grow 108 = .ok (.iload 6, 2) := by decide +kernel
theorem dX11_grow_110 : decode cX11_grow 110 = .ok (.iastore, 1) := by decide +kernel
theorem dX11_grow_111 : decode cX11_grow 111 = .ok (.aload_n 0, 1) := by decide +kernel
theorem dX11_grow_112 : decode cX11_grow 112 = .ok (.getfield 15, 3) := by decide +kernel
theorem dX11_grow_115 : decode cX11_grow 115 = .ok (.aload_n 0, 1) := by decide +kernel
theorem dX11_grow_116 : decode cX11_grow 116 = .ok (.getfield 52, 3) := by decide +kernel
theorem dX11_grow_119 : decode cX11_grow 119 = .ok (.iload 4, 2) := by decide +kernel
theorem dX11_grow_121 : decode cX11_grow 121 = .ok (.iastore, 1) := by decide +kernel
theorem dX11_grow_122 : decode cX11_grow 122 = .ok (.aload_n 0, 1) := by decide +kernel
theorem dX11_grow_123 : decode cX11_grow 123 = .ok (.getfield 18, 3) := by decide +kernel
theorem dX11_grow_126 : decode cX11_grow 126 = .ok (.aload_n 0, 1) := by decide +kernel
theorem dX11_grow_127 : decode cX11_grow 127 = .ok (.getfield 52, 3) := by decide +kernel
theorem dX11_grow_130 : decode cX11_grow 130 = .ok (.iload 5, 2) := by decide +kernel
theorem dX11_grow_132 : decode cX11_grow 132 = .ok (.iastore, 1) := by decide +kernel
theorem dX11_grow_133 : decode cX11_grow 133 = .ok (.aload_n 0, 1) := by decide +kernel
theorem dX11_grow_134 : decode cX11_grow 134 = .ok (.dup, 1) := by decide +kernel
theorem dX11_grow_135 : decode cX11_grow 135 = .ok (.getfield 52, 3) := by decide +kernel
theorem dX11_grow_138 : decode cX11_grow 138 = .ok (.iconst 1, 1) := by decide +kernel
theorem dX11_grow_139 : decode cX11_grow 139 = .ok (.iadd, 1) := by decide +kernel
theorem dX11_grow_140 : decode cX11_grow 140 = .ok (.putfield 52, 3) := by decide +kernel
theorem dX11_grow_143 : decode cX11_grow 143 = .ok (.aload_n 0, 1) := by decide +kernel
theorem dX11_grow_144 : decode cX11_grow 144 = .ok (.getfield 40, 3) := by decide +kernel
theorem dX11_grow_147 : decode cX11_grow 147 = .ok (.getfield 71, 3) := by decide +kernel
theorem dX11_grow_150 : decode cX11_grow 150 = .ok (.iload 6, 2) := by decide +kernel
theorem dX11_grow_152 : decode cX11_grow 152 = .ok (.iaload, 1) := by decide +kernel
theorem dX11_grow_153 : decode cX11_grow 153 = .ok (.ifCond .ne 6, 3) := by decide +kernel
theorem dX11_grow_156 : decode cX11_grow 156 = .ok (.goto 125, 3) := by decide +kernel
theorem dX11_grow_159 : decode cX11_grow 159 = .ok (.aload_n 0, 1) := by decide +kernel
theorem dX11_grow_160 : decode cX11_grow 160 = .ok (.iload 6, 2) := by decide +kernel
theorem dX11_grow_162 : decode cX11_grow 162 = .ok (.iload 4, 2) := by decide +kernel
theorem dX11_grow_164 : decode cX11_grow 164 = .ok (.iload 5, 2) := by decide +kernel
theorem dX11_grow_166 : decode cX11_grow 166 = .ok (.invokevirtual 76, 3) := by decide +kernel
theorem dX11_grow_169 : decode cX11_grow 169 = .ok (.aload_n 0, 1) := by decide +kernel
theorem dX11_grow_170 : decode cX11_grow 170 = .ok (.getfield 44, 3) := by decide +kernel
theorem dX11_grow_173 : decode cX11_grow 173 = .ok (.getfield 80, 3) := by decide +kernel
theorem dX11_grow_176 : decode cX11_grow 176 = .ok (.iload 6, 2) := by decide +kernel
theorem dX11_grow_178 : decode cX11_grow 178 = .ok (.iaload, 1) := by decide +kernel
theorem dX11_grow_179 : decode cX11_grow 179 = .ok (.istore 7, 2) := by decide +kernel
theorem dX11_grow_181 : decode cX11_grow 181 = .ok (.iload 7, 2) := by decide +kernel
theorem dX11_grow_183 : decode cX11_grow 183 = .ok (.istore 8, 2) := by decide +kernel
theorem dX11_grow_185 : decode cX11_grow 185 = .ok (.iload 8, 2) := by decide +kernel
theorem dX11_grow_187 : decode cX11_grow 187 = .ok (.iload 7, 2) := by decide +kernel
theorem dX11_grow_189 : decode cX11_grow 189 = .ok (.aload_n 0, 1) := by decide +kernel
theorem dX11_grow_190 : decode cX11_grow 190 = .ok (.getfield 44, 3) := by decide +kernel
theorem dX11_grow_193 : decode cX11_grow 193 = .ok (.getfield 85, 3) := by decide +kernel
theorem dX11_grow_196 : decode cX11_grow 196 = .ok (.iload 6, 2) := by decide +kernel
theorem dX11_grow_198 : decode cX11_grow 198 = .ok (.iaload, 1) := by decide +kernel
theorem dX11_grow_199 : decode cX11_grow 199 = .ok (.iadd, 1) := by decide +kernel
theorem dX11_grow_200 : decode cX11_grow 200 = .ok (.if_icmp .ge 81, 3) := by decide +kernel
theorem dX11_grow_203 : decode cX11_grow 203 = .ok (.iload_n 1, 1) := by decide +kernel
theorem dX11_grow_204 : decode cX11_grow 204 = .ok (.bipush 120, 2) := by decide +kernel
theorem dX11_grow_206 : decode cX11_grow 206 = .ok (.if_icmp .ge 75, 3) := by decide +kernel
theorem dX11_grow_209 : decode cX11_grow 209 = .ok (.aload_n 0, 1) := by decide +kernel
theorem dX11_grow_210 : decode cX11_grow 210 = .ok (.getfield 44, 3) := by decide +kernel
theorem dX11_grow_213 : decode cX11_grow 213 = .ok (.getfield 88, 3) := by decide +kernel
theorem dX11_grow_216 : decode cX11_grow 216 = .ok (.iload 8, 2) := by decide +kernel
theorem dX11_grow_218 : decode cX11_grow 218 = .ok (.iaload, 1) := by decide +kernel
theorem dX11_grow_219 : decode cX11_grow 219 = .ok (.istore 9, 2) := by decide +kernel
theorem dX11_grow_221 : decode cX11_grow 221 = .ok (.aload_n 0, 1) := by decide +kernel
theorem dX11_grow_222 : decode cX11_grow 222 = .ok (.getfield 40, 3) := by decide +kernel
theorem dX11_grow_225 : decode cX11_grow 225 = .ok (.iload 9, 2) := by decide +kernel
theorem dX11_grow_227 : decode cX11_grow 227 = .ok (.invokevirtual 91, 3) := by decide +kernel
theorem dX11_grow_230 : decode cX11_grow 230 = .ok (.istore 10, 2) := by decide +kernel
theorem dX11_grow_232 : decode cX11_grow 232 = .ok (.aload_n 0, 1) := by decide +kernel
theorem dX11_grow_233 : decode cX11_grow 233 = .ok (.getfield 24, 3) := by decide +kernel
theorem dX11_grow_236 : decode cX11_grow 236 = .ok (.iload_n 1, 1) := by decide +kernel
theorem dX11_grow_237 : decode cX11_grow 237 = .ok (.aload_n 0, 1) := by decide +kernel
theorem dX11_grow_238 : decode cX11_grow 238 = .ok (.getfield 40, 3) := by decide +kernel
theorem dX11_grow_241 : decode cX11_grow 241 = .ok (.getfield 95, 3) := by decide +kernel
theorem dX11_grow_244 : decode cX11_grow 244 = .ok (.aload_n 0, 1) := by decide +kernel
theorem dX11_grow_245 : decode cX11_grow 245 = .ok (.getfield 40, 3) := by decide +kernel
theorem dX11_grow_248 : decode cX11_grow 248 = .ok (.iload 9, 2) := by decide +kernel
theorem dX11_grow_250 : decode cX11_grow 250 = .ok (.invokevirtual 98, 3) := by decide +kernel
theorem dX11_grow_253 : decode cX11_grow 253 = .ok (.iaload, 1) := by decide +kernel
theorem dX11_grow_254 : decode cX11_grow 254 = .ok (.aload_n 0, 1) := by decide +kernel
theorem dX11_grow_255 : decode cX11_grow 255 = .ok (.getfield 31, 3) := by decide +kernel
theorem dX11_grow_258 : decode cX11_grow 258 = .ok (.iload 10, 2) := by decide +kernel
theorem dX11_grow_260 : decode cX11_grow 260 = .ok (.iaload, 1) := by decide +kernel
theorem dX11_grow_261 : decode cX11_grow 261 = .ok (.aload_n 0, 1) := by decide +kernel
theorem dX11_grow_262 : decode cX11_grow 262 = .ok (.getfield 34, 3) := by decide +kernel
theorem dX11_grow_265 : decode cX11_grow 265 = .ok (.iload 10, 2) := by decide +kernel
theorem dX11_grow_267 : decode cX11_grow 267 = .ok (.iaload, 1) := by decide +kernel
theorem dX11_grow_268 : decode cX11_grow 268 = .ok (.invokestatic 64, 3) := by decide +kernel
theorem dX11_grow_271 : decode cX11_grow 271 = .ok (.iastore, 1) := by decide +kernel
theorem dX11_grow_272 : decode cX11_grow 272 = .ok (.iinc 1 1, 3) := by decide +kernel
theorem dX11_grow_275 : decode cX11_grow 275 = .ok (.iinc 8 1, 3) := by decide +kernel
theorem dX11_grow_278 : decode cX11_grow 278 = .ok (.goto (-93), 3) := by decide +kernel
theorem dX11_grow_281 : decode cX11_grow 281 = .ok (.iinc 2 1, 3) := by decide +kernel
theorem dX11_grow_284 : decode cX11_grow 284 = .ok (.goto (-248), 3) := by decide +kernel
theorem dX11_grow_287 : decode cX11_grow 287 = .ok (.return_, 1) := by decide +kernel
theorem dX11_cell_0 : decode cX11_cell 0 = .ok (.iload_n 0, 1) := by decide +kernel
theorem dX11_cell_1 : decode cX11_cell 1 = .ok (.bipush 60, 2) := by decide +kernel
theorem dX11_cell_3 : decode cX11_cell 3 = .ok (.imul, 1) := by decide +kernel
theorem dX11_cell_4 : decode cX11_cell 4 = .ok (.iload_n 1, 1) := by decide +kernel
theorem dX11_cell_5 : decode cX11_cell 5 = .ok (.iadd, 1) := by decide +kernel
theorem dX11_cell_6 : decode cX11_cell 6 = .ok (.bipush 60, 2) := by decide +kernel
theorem dX11_cell_8 : decode cX11_cell 8 = .ok (.imul, 1) := by decide +kernel
theorem dX11_cell_9 : decode cX11_cell 9 = .ok (.iload_n 2, 1) := by decide +kernel
theorem dX11_cell_10 : decode cX11_cell 10 = .ok (.iadd, 1) := by decide +kernel
theorem dX11_cell_11 : decode cX11_cell 11 = .ok (.ireturn, 1) := by decide +kernel
theorem dX11_part_0 : decode cX11_part 0 = .ok (.aload_n 0, 1) := by decide +kernel
theorem dX11_part_1 : decode cX11_part 1 = .ok (.getfield 40, 3) := by decide +kernel
theorem dX11_part_4 : decode cX11_part 4 = .ok (.getfield 101, 3) := by decide +kernel
theorem dX11_part_7 : decode cX11_part 7 = .ok (.iload_n 1, 1) := by decide +kernel
theorem dX11_part_8 : decode cX11_part 8 = .ok (.iaload, 1) := by decide +kernel
theorem dX11_part_9 : decode cX11_part 9 = .ok (.iconst 1, 1) := by decide +kernel
theorem dX11_part_10 : decode cX11_part 10 = .ok (.iadd, 1) := by decide +kernel
theorem dX11_part_11 : decode cX11_part 11 = .ok (.istore 4, 2) := by decide +kernel
theorem dX11_part_13 : decode cX11_part 13 = .ok (.aload_n 0, 1) := by decide +kernel
theorem dX11_part_14 : decode cX11_part 14 = .ok (.getfield 40, 3) := by decide +kernel
theorem dX11_part_17 : decode cX11_part 17 = .ok (.iload_n 1, 1) := by decide +kernel
theorem dX11_part_18 : decode cX11_part 18 = .ok (.invokevirtual 104, 3) := by decide +kernel
theorem dX11_part_21 : decode cX11_part 21 = .ok (.iconst 1, 1) := by decide +kernel
theorem dX11_part_22 : decode cX11_part 22 = .ok (.isub, 1) := by decide +kernel
theorem dX11_part_23 : decode cX11_part 23 = .ok (.istore 5, 2) := by decide +kernel
theorem dX11_part_25 : decode cX11_part 25 = .ok (.aload_n 0, 1) := by decide +kernel
theorem dX11_part_26 : decode cX11_part 26 = .ok (.getfield 27, 3) := by decide +kernel
theorem dX11_part_29 : decode cX11_part 29 = .ok (.iload 5, 2) := by decide +kernel
theorem dX11_part_31 : decode cX11_part 31 = .ok (.lconst 1, 1) := by decide +kernel
theorem dX11_part_32 : decode cX11_part 32 = .ok (.iload_n 3, 1) := by decide +kernel
theorem dX11_part_33 : decode cX11_part 33 = .ok (.lshl, 1) := by decide +kernel
theorem dX11_part_34 : decode cX11_part 34 = .ok (.lastore, 1) := by decide +kernel
theorem dX11_part_35 : decode cX11_part 35 = .ok (.iload 5, 2) := by decide +kernel
theorem dX11_part_37 : decode cX11_part 37 = .ok (.iconst 1, 1) := by decide +kernel
theorem dX11_part_38 : decode cX11_part 38 = .ok (.isub, 1) := by decide +kernel
theorem dX11_part_39 : decode cX11_part 39 = .ok (.istore 6, 2) := by decide +kernel
theorem dX11_part_41 : decode cX11_part 41 = .ok (.iload 6, 2) := by decide +kernel
theorem dX11_part_43 : decode cX11_part 43 = .ok (.ifCond .le 36, 3) := by decide +kernel
theorem dX11_part_46 : decode cX11_part 46 = .ok (.aload_n 0, 1) := by decide +kernel
theorem dX11_part_47 : decode cX11_part 47 = .ok (.getfield 27, 3) := by decide +kernel
theorem dX11_part_50 : decode cX11_part 50 = .ok (.iload 6, 2) := by decide +kernel
theorem dX11_part_52 : decode cX11_part 52 = .ok (.aload_n 0, 1) := by decide +kernel
theorem dX11_part_53 : decode cX11_part 53 = .ok (.iload 4, 2) := by decide +kernel
theorem dX11_part_55 : decode cX11_part 55 = .ok (.iload 6, 2) := by decide +kernel
theorem dX11_part_57 : decode cX11_part 57 = .ok (.iadd, 1) := by decide +kernel
theorem dX11_part_58 : decode cX11_part 58 = .ok (.aload_n 0, 1) := by decide +kernel
theorem dX11_part_59 : decode cX11_part 59 = .ok (.getfield 27, 3) := by decide +kernel
theorem dX11_part_62 : decode cX11_part 62 = .ok (.iload 6, 2) := by decide +kernel
theorem dX11_part_64 : decode cX11_part 64 = .ok (.iconst 1, 1) := by decide +kernel
theorem dX11_part_65 : decode cX11_part 65 = .ok (.iadd, 1) := by decide +kernel
theorem dX11_part_66 : decode cX11_part 66 = .ok (.laload, 1) := by decide +kernel
theorem dX11_part_67 : decode cX11_part 67 = .ok (.iload_n 2, 1) := by decide +kernel
theorem dX11_part_68 : decode cX11_part 68 = .ok (.iload_n 3, 1) := by decide +kernel
theorem dX11_part_69 : decode cX11_part 69 = .ok (.invokevirtual 107, 3) := by decide +kernel
theorem dX11_part_72 : decode cX11_part 72 = .ok (.lastore, 1) := by decide +kernel
theorem dX11_part_73 : decode cX11_part 73 = .ok (.iinc 6 (-1), 3) := by decide +kernel
theorem dX11_part_76 : decode cX11_part 76 = .ok (.goto (-35), 3) := by decide +kernel
theorem dX11_part_79 : decode cX11_part 79 = .ok (.iload_n 2, 1) := by decide +kernel
theorem dX11_part_80 : decode cX11_part 80 = .ok (.istore 6, 2) := by decide +kernel
theorem dX11_part_82 : decode cX11_part 82 = .ok (.iconst 0, 1) := by decide +kernel
theorem dX11_part_83 : decode cX11_part 83 = .ok (.istore 7, 2) := by decide +kernel
theorem dX11_part_85 : decode cX11_part 85 = .ok (.iload 7, 2) := by decide +kernel
theorem dX11_part_87 : decode cX11_part 87 = .ok (.iload 5, 2) := by decide +kernel
theorem dX11_part_89 : decode cX11_part 89 = .ok (.if_icmp .ge 119, 3) := by decide +kernel
theorem dX11_part_92 : decode cX11_part 92 = .ok (.iload 6, 2) := by decide +kernel
theorem dX11_part_94 : decode cX11_part 94 = .ok (.iconst 1, 1) := by decide +kernel
theorem dX11_part_95 : decode cX11_part 95 = .ok (.iadd, 1) := by decide +kernel
theorem dX11_part_96 : decode cX11_part 96 = .ok (.istore 8, 2) := by decide +kernel
theorem dX11_part_98 : decode cX11_part 98 = .ok (.aload_n 0, 1) := by decide +kernel
theorem dX11_part_99 : decode cX11_part 99 = .ok (.getfield 40, 3) := by decide +kernel
theorem dX11_part_102 : decode cX11_part 102 = .ok (.getfield 111, 3) := by decide +kernel
theorem dX11_part_105 : decode cX11_part 105 = .ok (.iload 4, 2) := by decide +kernel
theorem dX11_part_107 : decode cX11_part 107 = .ok (.iload 7, 2) := by decide +kernel
theorem dX11_part_109 : decode cX11_part 109 = .ok (.iadd, 1) := by decide +kernel
theorem dX11_part_110 : decode cX11_part 110 = .ok (.iaload, 1) := by decide +kernel
theorem dX11_part_111 : decode cX11_part 111 = .ok (.istore 9, 2) := by decide +kernel
theorem dX11_part_113 : decode cX11_part 113 = .ok (.aload_n 0, 1) := by decide +kernel
theorem dX11_part_114 : decode cX11_part 114 = .ok (.getfield 40, 3) := by decide +kernel
theorem dX11_part_117 : decode cX11_part 117 = .ok (.getfield 114, 3) := by decide +kernel
theorem dX11_part_120 : decode cX11_part 120 = .ok (.iload 4, 2) := by decide +kernel
theorem dX11_part_122 : decode cX11_part 122 = .ok (.iload 7, 2) := by decide +kernel
theorem dX11_part_124 : decode cX11_part 124 = .ok (.iadd, 1) := by decide +kernel
theorem dX11_part_125 : decode cX11_part 125 = .ok (.iaload, 1) := by decide +kernel
theorem dX11_part_126 : decode cX11_part 126 = .ok (.iconst (-1), 1) := by decide +kernel
theorem dX11_part_127 : decode cX11_part 127 = .ok (.if_icmp .eq 67, 3) := by decide +kernel
theorem dX11_part_130 : decode cX11_part 130 = .ok (.aload_n 0, 1) := by decide +kernel
theorem dX11_part_131 : decode cX11_part 131 = .ok (.getfield 48, 3) := by decide +kernel
theorem dX11_part_134 : decode cX11_part 134 = .ok (.getfield 117, 3) := by decide +kernel
theorem dX11_part_137 : decode cX11_part 137 = .ok (.aload_n 0, 1) := by decide +kernel
theorem dX11_part_138 : decode cX11_part 138 = .ok (.iload 4, 2) := by decide +kernel
theorem dX11_part_140 : decode cX11_part 140 = .ok (.iload 7, 2) := by decide +kernel
theorem dX11_part_142 : decode cX11_part 142 = .ok (.iadd, 1) := by decide +kernel
theorem dX11_part_143 : decode cX11_part 143 = .ok (.invokevirtual 120, 3) := by decide +kernel
theorem dX11_part_146 : decode cX11_part 146 = .ok (.bipush 60, 2) := by decide +kernel
theorem dX11_part_148 : decode cX11_part 148 = .ok (.imul, 1) := by decide +kernel
theorem dX11_part_149 : decode cX11_part 149 = .ok (.iload 6, 2) := by decide +kernel
theorem dX11_part_151 : decode cX11_part 151 = .ok (.iadd, 1) := by decide +kernel
theorem dX11_part_152 : decode cX11_part 152 = .ok (.laload, 1) := by decide +kernel
theorem dX11_part_153 : decode cX11_part 153 = .ok (.aload_n 0, 1) := by decide +kernel
theorem dX11_part_154 : decode cX11_part 154 = .ok (.getfield 27, 3) := by decide +kernel
theorem dX11_part_157 : decode cX11_part 157 = .ok (.iload 7, 2) := by decide +kernel
theorem dX11_part_159 : decode cX11_part 159 = .ok (.iconst 1, 1) := by decide +kernel
theorem dX11_part_160 : decode cX11_part 160 = .ok (.iadd, 1) := by decide +kernel
theorem dX11_part_161 : decode cX11_part 161 = .ok (.laload, 1) := by decide +kernel
theorem dX11_part_162 : decode cX11_part 162 = .ok (.land, 1) := by decide +kernel
theorem dX11_part_163 : decode cX11_part 163 = .ok (.lstore 10, 2) := by decide +kernel
theorem dX11_part_165 : decode cX11_part 165 = .ok (.lload 10, 2) := by decide +kernel
theorem dX11_part_167 : decode cX11_part 167 = .ok (.invokestatic 123, 3) := by decide +kernel
theorem dX11_part_170 : decode cX11_part 170 = .ok (.iload_n 3, 1) := by decide +kernel
theorem dX11_part_171 : decode cX11_part 171 = .ok (.invokestatic 129, 3) := by decide +kernel
theorem dX11_part_174 : decode cX11_part 174 = .ok (.istore 8, 2) := by decide +kernel
theorem dX11_part_176 : decode cX11_part 176 = .ok (.aload_n 0, 1) := by decide +kernel
theorem dX11_part_177 : decode cX11_part 177 = .ok (.getfield 31, 3) := by decide +kernel
theorem dX11_part_180 : decode cX11_part 180 = .ok (.iload 9, 2) := by decide +kernel
theorem dX11_part_182 : decode cX11_part 182 = .ok (.iload 6, 2) := by decide +kernel
theorem dX11_part_184 : decode cX11_part 184 = .ok (.iastore, 1) := by decide +kernel
theorem dX11_part_185 : decode cX11_part 185 = .ok (.aload_n 0, 1) := by decide +kernel
theorem dX11_part_186 : decode cX11_part 186 = .ok (.getfield 34, 3) := by decide +kernel
theorem dX11_part_189 : decode cX11_part 189 = .ok (.iload 9, 2) := by decide +kernel
theorem dX11_part_191 : decode cX11_part 191 = .ok (.iload 8, 2) := by decide +kernel
theorem dX11_part_193 : decode cX11_part 193 = .ok (.iastore, 1) := by decide +kernel
theorem dX11_part_194 : decode cX11_part 194 = .ok (.iload 8, 2) := by decide +kernel
theorem dX11_part_196 : decode cX11_part 196 = .ok (.iload_n 3, 1) := by decide +kernel
theorem dX11_part_197 : decode cX11_part 197 = .ok (.invokestatic 129, 3) := by decide +kernel
theorem dX11_part_200 : decode cX11_part 200 = .ok (.istore 6, 2) := by decide +kernel
theorem dX11_part_202 : decode cX11_part 202 = .ok (.iinc 7 1, 3) := by decide +kernel
theorem dX11_part_205 : decode cX11_part 205 = .ok (.goto (-120), 3) := by decide +kernel
theorem dX11_part_208 : decode cX11_part 208 = .ok (.return_, 1) := by decide +kernel
theorem dX11_sortOf_0 : decode cX11_sortOf 0 = .ok (.aload_n 0, 1) := by decide +kernel
theorem dX11_sortOf_1 : decode cX11_sortOf 1 = .ok (.getfield 40, 3) := by decide +kernel
theorem dX11_sortOf_4 : decode cX11_sortOf 4 = .ok (.getfield 114, 3) := by decide +kernel
theorem dX11_sortOf_7 : decode cX11_sortOf 7 = .ok (.iload_n 1, 1) := by decide +kernel
theorem dX11_sortOf_8 : decode cX11_sortOf 8 = .ok (.iaload, 1) := by decide +kernel
theorem dX11_sortOf_9 : decode cX11_sortOf 9 = .ok (.istore_n 2, 1) := by decide +kernel
theorem dX11_sortOf_10 : decode cX11_sortOf 10 = .ok (.aload_n 0, 1) := by decide +kernel
theorem dX11_sortOf_11 : decode cX11_sortOf 11 = .ok (.getfield 40, 3) := by decide +kernel
theorem dX11_sortOf_14 : decode cX11_sortOf 14 = .ok (.getfield 95, 3) := by decide +kernel
theorem dX11_sortOf_17 : decode cX11_sortOf 17 = .ok (.aload_n 0, 1) := by decide +kernel
theorem dX11_sortOf_18 : decode cX11_sortOf 18 = .ok (.getfield 40, 3) := by decide +kernel
theorem dX11_sortOf_21 : decode cX11_sortOf 21 = .ok (.getfield 111, 3) := by decide +kernel
theorem dX11_sortOf_24 : decode cX11_sortOf 24 = .ok (.aload_n 0, 1) := by decide +kernel
theorem dX11_sortOf_25 : decode cX11_sortOf 25 = .ok (.getfield 40, 3) := by decide +kernel
theorem dX11_sortOf_28 : decode cX11_sortOf 28 = .ok (.getfield 101, 3) := by decide +kernel
theorem dX11_sortOf_31 : decode cX11_sortOf 31 = .ok (.iload_n 2, 1) := by decide +kernel
theorem dX11_sortOf_32 : decode cX11_sortOf 32 = .ok (.iaload, 1) := by decide +kernel
theorem dX11_sortOf_33 : decode cX11_sortOf 33 = .ok (.iaload, 1) := by decide +kernel
theorem dX11_sortOf_34 : decode cX11_sortOf 34 = .ok (.iaload, 1) := by decide +kernel
theorem dX11_sortOf_35 : decode cX11_sortOf 35 = .ok (.ireturn, 1) := by decide +kernel
