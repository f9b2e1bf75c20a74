-- instructions
theorem dX3_init_0 : decode cX3_init 0 = .ok (.aload_n 0, 1) := by decide +kernel
theorem dX3_init_1 : decode cX3_init 1 = .ok (.invokespecial 3, 3) := by decide +kernel
theorem dX3_init_4 : decode cX3_init 4 = .ok (.aload_n 0, 1) := by decide +kernel
theorem dX3_init_5 : decode cX3_init 5 = .ok (.sipush 30000, 3) := by decide +kernel
theorem dX3_init_8 : decode cX3_init 8 = .ok (.newarray .char, 2) := by decide +kernel
theorem dX3_init_10 : decode cX3_init 10 = .ok (.putfield 9, 3) := by decide +kernel
theorem dX3_init_13 : decode cX3_init 13 = .ok (.aload_n 0, 1) := by decide +kernel
theorem dX3_init_14 : decode cX3_init 14 = .ok (.sipush 2501, 3) := by decide +kernel
theorem dX3_init_17 : decode cX3_init 17 = .ok (.newarray .int, 2) := by decide +kernel
theorem dX3_init_19 : decode cX3_init 19 = .ok (.putfield 15, 3) := by decide +kernel
theorem dX3_init_22 : decode cX3_init 22 = .ok (.aload_n 0, 1) := by decide +kernel
theorem dX3_init_23 : decode cX3_init 23 = .ok (.sipush 2500, 3) := by decide +kernel
theorem dX3_init_26 : decode cX3_init 26 = .ok (.newarray .int, 2) := by decide +kernel
theorem dX3_init_28 : decode cX3_init 28 = .ok (.putfield 19, 3) := by decide +kernel
theorem dX3_init_31 : decode cX3_init 31 = .ok (.aload_n 0, 1) := by decide +kernel
theorem dX3_init_32 : decode cX3_init 32 = .ok (.sipush 2500, 3) := by decide +kernel
theorem dX3_init_35 : decode cX3_init 35 = .ok (.newarray .int, 2) := by decide +kernel
theorem dX3_init_37 : decode cX3_init 37 = .ok (.putfield 22, 3) := by decide +kernel
theorem dX3_init_40 : decode cX3_init 40 = .ok (.aload_n 0, 1) := by decide +kernel
theorem dX3_init_41 : decode cX3_init 41 = .ok (.sipush 4096, 3) := by decide +kernel
theorem dX3_init_44 : decode cX3_init 44 = .ok (.newarray .int, 2) := by decide +kernel
theorem dX3_init_46 : decode cX3_init 46 = .ok (.putfield 25, 3) := by decide +kernel
theorem dX3_init_49 : decode cX3_init 49 = .ok (.aload_n 0, 1) := by decide +kernel
theorem dX3_init_50 : decode cX3_init 50 = .ok (.sipush 1000, 3) := by decide +kernel
theorem dX3_init_53 : decode cX3_init 53 = .ok (.newarray .int, 2) := by decide +kernel
theorem dX3_init_55 : decode cX3_init 55 = .ok (.putfield 28, 3) := by decide +kernel
theorem dX3_init_58 : decode cX3_init 58 = .ok (.aload_n 0, 1) := by decide +kernel
theorem dX3_init_59 : decode cX3_init 59 = .ok (.sipush 1000, 3) := by decide +kernel
theorem dX3_init_62 : decode cX3_init 62 = .ok (.newarray .boolean, 2) := by decide +kernel
theorem dX3_init_64 : decode cX3_init 64 = .ok (.putfield 31, 3) := by decide +kernel
theorem dX3_init_67 : decode cX3_init 67 = .ok (.aload_n 0, 1) := by decide +kernel
theorem dX3_init_68 : decode cX3_init 68 = .ok (.sipush 1000, 3) := by decide +kernel
theorem dX3_init_71 : decode cX3_init 71 = .ok (.newarray .int, 2) := by decide +kernel
theorem dX3_init_73 : decode cX3_init 73 = .ok (.putfield 35, 3) := by decide +kernel
theorem dX3_init_76 : decode cX3_init 76 = .ok (.aload_n 0, 1) := by decide +kernel
theorem dX3_init_77 : decode cX3_init 77 = .ok (.sipush 1000, 3) := by decide +kernel
theorem dX3_init_80 : decode cX3_init 80 = .ok (.newarray .int, 2) := by decide +kernel
theorem dX3_init_82 : decode cX3_init 82 = .ok (.putfield 38, 3) := by decide +kernel
theorem dX3_init_85 : decode cX3_init 85 = .ok (.aload_n 0, 1) := by decide +kernel
theorem dX3_init_86 : decode cX3_init 86 = .ok (.bipush 100, 2) := by decide +kernel
theorem dX3_init_88 : decode cX3_init 88 = .ok (.newarray .int, 2) := by decide +kernel
theorem dX3_init_90 : decode cX3_init 90 = .ok (.putfield 41, 3) := by decide +kernel
theorem dX3_init_93 : decode cX3_init 93 = .ok (.aload_n 0, 1) := by decide +kernel
theorem dX3_init_94 : decode cX3_init 94 = .ok (.sipush 1500, 3) := by decide +kernel
theorem dX3_init_97 : decode cX3_init 97 = .ok (.newarray .int, 2) := by decide +kernel
theorem dX3_init_99 : decode cX3_init 99 = .ok (.putfield 44, 3) := by decide +kernel
theorem dX3_init_102 : decode cX3_init 102 = .ok (.aload_n 0, 1) := by decide +kernel
theorem dX3_init_103 : decode cX3_init 103 = .ok (.sipush 1500, 3) := by decide +kernel
theorem dX3_init_106 : decode cX3_init 106 = .ok (.newarray .int, 2) := by decide +kernel
theorem dX3_init_108 : decode cX3_init 108 = .ok (.putfield 47, 3) := by decide +kernel
theorem dX3_init_111 : decode cX3_init 111 = .ok (.aload_n 0, 1) := by decide +kernel
theorem dX3_init_112 : decode cX3_init 112 = .ok (.sipush 1501, 3) := by decide +kernel
theorem dX3_init_115 : decode cX3_init 115 = .ok (.newarray .int, 2) := by decide +kernel
theorem dX3_init_117 : decode cX3_init 117 = .ok (.putfield 50, 3) := by decide +kernel
theorem dX3_init_120 : decode cX3_init 120 = .ok (.aload_n 0, 1) := by decide +kernel
theorem dX3_init_121 : decode cX3_init 121 = .ok (.sipush 30000, 3) := by decide +kernel
theorem dX3_init_124 : decode cX3_init 124 = .ok (.newarray .int, 2) := by decide +kernel
theorem dX3_init_126 : decode cX3_init 126 = .ok (.putfield 53, 3) := by decide +kernel
theorem dX3_init_129 : decode cX3_init 129 = .ok (.aload_n 0, 1) := by decide +kernel
theorem dX3_init_130 : decode cX3_init 130 = .ok (.sipush 30000, 3) := by decide +kernel
theorem dX3_init_133 : decode cX3_init 133 = .ok (.newarray .int, 2) := by decide +kernel
theorem dX3_init_135 : decode cX3_init 135 = .ok (.putfield 56, 3) := by decide +kernel
theorem dX3_init_138 : decode cX3_init 138 = .ok (.aload_n 0, 1) := by decide +kernel
theorem dX3_init_139 : decode cX3_init 139 = .ok (.iconst 5, 1) := by decide +kernel
theorem dX3_init_140 : decode cX3_init 140 = .ok (.newarray .int, 2) := by decide +kernel
theorem dX3_init_142 : decode cX3_init 142 = .ok (.putfield 59, 3) := by decide +kernel
theorem dX3_init_145 : decode cX3_init 145 = .ok (.return_, 1) := by decide +kernel
theorem dX3_bucket_0 : decode cX3_bucket 0 = .ok (.iconst 0, 1) := by decide +kernel
theorem dX3_bucket_1 : decode cX3_bucket 1 = .ok (.istore_n 3, 1) := by decide +kernel
theorem dX3_bucket_2 : decode cX3_bucket 2 = .ok (.iconst 0, 1) := by decide +kernel
theorem dX3_bucket_3 : decode cX3_bucket 3 = .ok (.istore 4, 2) := by decide +kernel
theorem dX3_bucket_5 : decode cX3_bucket 5 = .ok (.iload 4, 2) := by decide +kernel
theorem dX3_bucket_7 : decode cX3_bucket 7 = .ok (.iload_n 2, 1) := by decide +kernel
theorem dX3_bucket_8 : decode cX3_bucket 8 = .ok (.if_icmp .ge 21, 3) := by decide +kernel
theorem dX3_bucket_11 : decode cX3_bucket 11 = .ok (.iload_n 3, 1) := by decide +kernel
theorem dX3_bucket_12 : decode cX3_bucket 12 = .ok (.bipush 31, 2) := by decide +kernel
theorem dX3_bucket_14 : decode cX3_bucket 14 = .ok (.imul, 1) := by decide +kernel
theorem dX3_bucket_15 : decode cX3_bucket 15 = .ok (.aload_n 0, 1) := by decide +kernel
theorem dX3_bucket_16 : decode cX3_bucket 16 = .ok (.iload_n 1, 1) := by decide +kernel
theorem dX3_bucket_17 : decode cX3_bucket 17 = .ok (.iload 4, 2) := by decide +kernel
theorem dX3_bucket_19 : decode cX3_bucket 19 = .ok (.iadd, 1) := by decide +kernel
theorem dX3_bucket_20 : decode cX3_bucket 20 = .ok (.caload, 1) := by decide +kernel
theorem dX3_bucket_21 : decode cX3_bucket 21 = .ok (.iadd, 1) := by decide +kernel
theorem dX3_bucket_22 : decode cX3_bucket 22 = .ok (.istore_n 3, 1) := by decide +kernel
theorem dX3_bucket_23 : decode cX3_bucket 23 = .ok (.iinc 4 1, 3) := by decide +kernel
theorem dX3_bucket_26 : decode cX3_bucket 26 = .ok (.goto (-21), 3) := by decide +kernel
theorem dX3_bucket_29 : decode cX3_bucket 29 = .ok (.iload_n 3, 1) := by decide +kernel
theorem dX3_bucket_30 : decode cX3_bucket 30 = .ok (.iload_n 3, 1) := by decide +kernel
theorem dX3_bucket_31 : decode cX3_bucket 31 = .ok (.bipush 12, 2) := by decide +kernel
theorem dX3_bucket_33 : decode cX3_bucket 33 = .ok (.iushr, 1) := by decide +kernel
theorem dX3_bucket_34 : decode cX3_bucket 34 = .ok (.ixor, 1) := by decide +kernel
theorem dX3_bucket_35 : decode cX3_bucket 35 = .ok (.sipush 4095, 3) := by decide +kernel
theorem dX3_bucket_38 : decode cX3_bucket 38 = .ok (.iand, 1) := by decide +kernel
theorem dX3_bucket_39 : decode cX3_bucket 39 = .ok (.ireturn, 1) := by decide +kernel
theorem dX3_nameOf_0 : decode cX3_nameOf 0 = .ok (.aload_n 0, 1) := by decide +kernel
theorem dX3_nameOf_1 : decode cX3_nameOf 1 = .ok (.getfield 25, 3) := by decide +kernel
theorem dX3_nameOf_4 : decode cX3_nameOf 4 = .ok (.aload_n 1, 1) := by decide +kernel
theorem dX3_nameOf_5 : decode cX3_nameOf 5 = .ok (.iload_n 2, 1) := by decide +kernel
theorem dX3_nameOf_6 : decode cX3_nameOf 6 = .ok (.iload_n 3, 1) := by decide +kernel
theorem dX3_nameOf_7 : decode cX3_nameOf 7 = .ok (.invokestatic 62, 3) := by decide +kernel
theorem dX3_nameOf_10 : decode cX3_nameOf 10 = .ok (.iaload, 1) := by decide +kernel
theorem dX3_nameOf_11 : decode cX3_nameOf 11 = .ok (.istore 4, 2) := by decide +kernel
theorem dX3_nameOf_13 : decode cX3_nameOf 13 = .ok (.iconst 0, 1) := by decide +kernel
theorem dX3_nameOf_14 : decode cX3_nameOf 14 = .ok (.istore 5, 2) := by decide +kernel
theorem dX3_nameOf_16 : decode cX3_nameOf 16 = .ok (.iload 5, 2) := by decide +kernel
theorem dX3_nameOf_18 : decode cX3_nameOf 18 = .ok (.sipush 2500, 3) := by decide +kernel
theorem dX3_nameOf_21 : decode cX3_nameOf 21 = .ok (.if_icmp .ge 44, 3) := by decide +kernel
theorem dX3_nameOf_24 : decode cX3_nameOf 24 = .ok (.iload 4, 2) := by decide +kernel
theorem dX3_nameOf_26 : decode cX3_nameOf 26 = .ok (.ifCond .le 39, 3) := by decide +kernel
theorem dX3_nameOf_29 : decode cX3_nameOf 29 = .ok (.aload_n 0, 1) := by decide +kernel
theorem dX3_nameOf_30 : decode cX3_nameOf 30 = .ok (.iload 4, 2) := by decide +kernel
theorem dX3_nameOf_32 : decode cX3_nameOf 32 = .ok (.iconst 1, 1) := by decide +kernel
theorem dX3_nameOf_33 : decode cX3_nameOf 33 = .ok (.isub, 1) := by decide +kernel
theorem dX3_nameOf_34 : decode cX3_nameOf 34 = .ok (.aload_n 1, 1) := by decide +kernel
theorem dX3_nameOf_35 : decode cX3_nameOf 35 = .ok (.iload_n 2, 1) := by decide +kernel
theorem dX3_nameOf_36 : decode cX3_nameOf 36 = .ok (.iload_n 3, 1) := by decide +kernel
theorem dX3_nameOf_37 : decode cX3_nameOf 37 = .ok (.invokevirtual 66, 3) := by decide +kernel
theorem dX3_nameOf_40 : decode cX3_nameOf 40 = .ok (.ifCond .eq 8, 3) := by decide +kernel
theorem dX3_nameOf_43 : decode cX3_nameOf 43 = .ok (.iload 4, 2) := by decide +kernel
theorem dX3_nameOf_45 : decode cX3_nameOf 45 = .ok (.iconst 1, 1) := by decide +kernel
theorem dX3_nameOf_46 : decode cX3_nameOf 46 = .ok (.isub, 1) := by decide +kernel
theorem dX3_nameOf_47 : decode cX3_nameOf 47 = .ok (.ireturn, 1) := by decide +kernel
theorem dX3_nameOf_48 : decode cX3_nameOf 48 = .ok (.aload_n 0, 1) := by decide +kernel
theorem dX3_nameOf_49 : decode cX3_nameOf 49 = .ok (.getfield 22, 3) := by decide +kernel
theorem dX3_nameOf_52 : decode cX3_nameOf 52 = .ok (.iload 4, 2) := by decide +kernel
theorem dX3_nameOf_54 : decode cX3_nameOf 54 = .ok (.iconst 1, 1) := by decide +kernel
theorem dX3_nameOf_55 : decode cX3_nameOf 55 = .ok (.isub, 1) := by decide +kernel
theorem dX3_nameOf_56 : decode cX3_nameOf 56 = .ok (.iaload, 1) := by decide +kernel
theorem dX3_nameOf_57 : decode cX3_nameOf 57 = .ok (.istore 4, 2) := by decide +kernel
theorem dX3_nameOf_59 : decode cX3_nameOf 59 = .ok (.iinc 5 1, 3) := by decide +kernel
theorem dX3_nameOf_62 : decode cX3_nameOf 62 = .ok (.goto (-46), 3) := by decide +kernel
theorem dX3_nameOf_65 : decode cX3_nameOf 65 = .ok (.iconst (-1), 1) := by decide +kernel
theorem dX3_nameOf_66 : decode cX3_nameOf 66 = .ok (.ireturn, 1) := by decide +kernel
theorem dX3_isName_0 : decode cX3_isName 0 = .ok (.aload_n 0, 1) := by decide +kernel
theorem dX3_isName_1 : decode cX3_isName 1 = .ok (.getfield 15, 3) := by decide +kernel
theorem dX3_isName_4 : decode cX3_isName 4 = .ok (.iload_n 1, 1) := by decide +kernel
theorem dX3_isName_5 : decode cX3_isName 5 = .ok (.iaload, 1) := by decide +kernel
theorem dX3_isName_6 : decode cX3_isName 6 = .ok (.istore 5, 2) := by decide +kernel
theorem dX3_isName_8 : decode cX3_isName 8 = .ok (.aload_n 0, 1) := by decide +kernel
theorem dX3_isName_9 : decode cX3_isName 9 = .ok (.getfield 15, 3) := by decide +kernel
theorem dX3_isName_12 : decode cX3_isName 12 = .ok (.iload_n 1, 1) := by decide +kernel
theorem dX3_isName_13 : decode cX3_isName 13 = .ok (.iconst 1, 1) := by decide +kernel
theorem dX3_isName_14 : decode cX3_isName 14 = .ok (.iadd, 1) := by decide +kernel
theorem dX3_isName_15 : decode cX3_isName 15 = .ok (.iaload, 1) := by decide +kernel
theorem dX3_isName_16 : decode cX3_isName 16 = .ok (.iload 5, 2) := by decide +kernel
theorem dX3_isName_18 : decode cX3_isName 18 = .ok (.isub, 1) := by decide +kernel
theorem dX3_isName_19 : decode cX3_isName 19 = .ok (.iload 4, 2) := by decide +kernel
theorem dX3_isName_21 : decode cX3_isName 21 = .ok (.if_icmp .eq 5, 3) := by decide +kernel
theorem dX3_isName_24 : decode cX3_isName 24 = .ok (.iconst 0, 1) := by decide +kernel
theorem dX3_isName_25 : decode cX3_isName 25 = .ok (.ireturn, 1) := by decide +kernel
theorem dX3_isName_26 : decode cX3_isName 26 = .ok (.iconst 0, 1) := by decide +kernel
theorem dX3_isName_27 : decode cX3_isName 27 = .ok (.istore 6, 2) := by decide +kernel
theorem dX3_isName_29 : decode cX3_isName 29 = .ok (.iload 6, 2) := by decide +kernel
theorem dX3_isName_31 : decode cX3_isName 31 = .ok (.iload 4, 2) := by decide +kernel
theorem dX3_isName_33 : decode cX3_isName 33 = .ok (.if_icmp .ge 30, 3) := by decide +kernel
theorem dX3_isName_36 : decode cX3_isName 36 = .ok (.aload_n 0, 1) := by decide +kernel
theorem dX3_isName_37 : decode cX3_isName 37 = .ok (.getfield 9, 3) := by decide +kernel
theorem dX3_isName_40 : decode cX3_isName 40 = .ok (.iload 5, 2) := by decide +kernel
theorem dX3_isName_42 : decode cX3_isName 42 = .ok (.iload 6, 2) := by decide +kernel
theorem dX3_isName_44 : decode cX3_isName 44 = .ok (.iadd, 1) := by decide +kernel
theorem dX3_isName_45 : decode cX3_isName 45 = .ok (.caload, 1) := by decide +kernel
theorem dX3_isName_46 : decode cX3_isName 46 = .ok (.aload_n 2, 1) := by decide +kernel
theorem dX3_isName_47 : decode cX3_isName 47 = .ok (.iload_n 3, 1) := by decide +kernel
theorem dX3_isName_48 : decode cX3_isName 48 = .ok (.iload 6, 2) := by decide +kernel
theorem dX3_isName_50 : decode cX3_isName 50 = .ok (.iadd, 1) := by decide +kernel
theorem dX3_isName_51 : decode cX3_isName 51 = .ok (.caload, 1) := by decide +kernel
theorem dX3_isName_52 : decode cX3_isName 52 = .ok (.if_icmp .eq 5, 3) := by decide +kernel
theorem dX3_isName_55 : decode cX3_isName 55 = .ok (.iconst 0, 1) := by decide +kernel
theorem dX3_isName_56 : decode cX3_isName 56 = .ok (.ireturn, 1) := by decide +kernel
theorem dX3_isName_57 : decode cX3_isName 57 = .ok (.iinc 6 1, 3) := by decide +kernel
theorem dX3_isName_60 : decode cX3_isName 60 = .ok (.goto (-31), 3) := by decide +kernel
theorem dX3_isName_63 : decode cX3_isName 63 = .ok (.iconst 1, 1) := by decide +kernel
theorem dX3_isName_64 : decode cX3_isName 64 = .ok (.ireturn, 1) := by decide +kernel
theorem dX3_statementOf_0 : decode cX3_statementOf 0 = .ok (.iload_n 1, 1) := by decide +kernel
theorem dX3_statementOf_1 : decode cX3_statementOf 1 = .ok (.iconst (-1), 1) := by decide +kernel
theorem dX3_statementOf_2 : decode cX3_statementOf 2 = .ok (.if_icmp .ne 7, 3) := by decide +kernel
theorem dX3_statementOf_5 : decode cX3_statementOf 5 = .ok (.iconst (-1), 1) := by decide +kernel
theorem dX3_statementOf_6 : decode cX3_statementOf 6 = .ok (.goto 13, 3) := by decide +kernel
theorem dX3_statementOf_9 : decode cX3_statementOf 9 = .ok (.iconst (-1), 1) := by decide +kernel
theorem dX3_statementOf_10 : decode cX3_statementOf 10 = .ok (.aload_n 0, 1) := by decide +kernel
theorem dX3_statementOf_11 : decode cX3_statementOf 11 = .ok (.getfield 19, 3) := by decide +kernel
theorem dX3_statementOf_14 : decode cX3_statementOf 14 = .ok (.iload_n 1, 1) := by decide +kernel
theorem dX3_statementOf_15 : decode cX3_statementOf 15 = .ok (.iaload, 1) := by decide +kernel
theorem dX3_statementOf_16 : decode cX3_statementOf 16 = .ok (.invokestatic 70, 3) := by decide +kernel
theorem dX3_statementOf_19 : decode cX3_statementOf 19 = .ok (.ireturn, 1) := by decide +kernel
theorem dX3_symbolOf_0 : decode cX3_symbolOf 0 = .ok (.iload_n 1, 1) := by decide +kernel
theorem dX3_symbolOf_1 : decode cX3_symbolOf 1 = .ok (.iconst (-1), 1) := by decide +kernel
theorem dX3_symbolOf_2 : decode cX3_symbolOf 2 = .ok (.if_icmp .ne 7, 3) := by decide +kernel
theorem dX3_symbolOf_5 : decode cX3_symbolOf 5 = .ok (.iconst (-1), 1) := by decide +kernel
theorem dX3_symbolOf_6 : decode cX3_symbolOf 6 = .ok (.goto 15, 3) := by decide +kernel
theorem dX3_symbolOf_9 : decode cX3_symbolOf 9 = .ok (.iconst (-1), 1) := by decide +kernel
theorem dX3_symbolOf_10 : decode cX3_symbolOf 10 = .ok (.aload_n 0, 1) := by decide +kernel
theorem dX3_symbolOf_11 : decode cX3_symbolOf 11 = .ok (.getfield 19, 3) := by decide +kernel
theorem dX3_symbolOf_14 : decode cX3_symbolOf 14 = .ok (.iload_n 1, 1) := by decide +kernel
theorem dX3_symbolOf_15 : decode cX3_symbolOf 15 = .ok (.iaload, 1) := by decide +kernel
theorem dX3_symbolOf_16 : decode cX3_symbolOf 16 = .ok (.iconst (-1), 1) := by decide +kernel
theorem dX3_symbolOf_17 : decode cX3_symbolOf 17 = .ok (.ixor, 1) := by decide +kernel
theorem dX3_symbolOf_18 : decode cX3_symbolOf 18 = .ok (.invokestatic 70, 3) := by decide +kernel
theorem dX3_symbolOf_21 : decode cX3_symbolOf 21 = .ok (.ireturn, 1) := by decide +kernel
theorem dX3_statementNamed_0 : decode cX3_statementNamed 0 = .ok (.aload_n 0, 1) := by decide +kernel
theorem dX3_statementNamed_1 : decode cX3_statementNamed 1 = .ok (.aload_n 0, 1) := by decide +kernel
theorem dX3_statementNamed_2 : decode cX3_statementNamed 2 = .ok (.aload_n 1, 1) := by decide +kernel
theorem dX3_statementNamed_3 : decode cX3_statementNamed 3 = .ok (.iload_n 2, 1) := by decide +kernel
theorem dX3_statementNamed_4 : decode cX3_statementNamed 4 = .ok (.iload_n 3, 1) := by decide +kernel
theorem dX3_statementNamed_5 : decode cX3_statementNamed 5 = .ok (.invokevirtual 76, 3) := by decide +kernel
theorem dX3_statementNamed_8 : decode cX3_statementNamed 8 = .ok (.invokevirtual 79, 3) := by decide +kernel
theorem dX3_statementNamed_11 : decode cX3_statementNamed 11 = .ok (.ireturn, 1) := by decide +kernel
theorem dX3_symbolNamed_0 : decode cX3_symbolNamed 0 = .ok (.aload_n 0, 1) := by decide +kernel
theorem dX3_symbolNamed_1 : decode cX3_symbolNamed 1 = .ok (.aload_n 0, 1) := by decide +kernel
theorem dX3_symbolNamed_2 : decode cX3_symbolNamed 2 = .ok (.aload_n 1, 1) := by decide +kernel
theorem dX3_symbolNamed_3 : decode cX3_symbolNamed 3 = .ok (.iload_n 2, 1) := by decide +kernel
theorem dX3_symbolNamed_4 : decode cX3_symbolNamed 4 = .ok (.iload_n 3, 1) := by decide +kernel
theorem dX3_symbolNamed_5 : decode cX3_symbolNamed 5 = .ok (.invokevirtual 76, 3) := by decide +kernel
theorem dX3_symbolNamed_8 : decode cX3_symbolNamed 8 = .ok (.invokevirtual 83, 3) := by decide +kernel
theorem dX3_symbolNamed_11 : decode cX3_symbolNamed 11 = .ok (.ireturn, 1) := by decide +kernel
theorem dX3_hasRoomForName_0 : decode cX3_hasRoomForName 0 = .ok (.iload_n 1, 1) := by decide +kernel
theorem dX3_hasRoomForName_1 : decode cX3_hasRoomForName 1 = .ok (.bipush 60, 2) := by decide +kernel
theorem dX3_hasRoomForName_3 : decode cX3_hasRoomForName 3 = .ok (.if_icmp .gt 34, 3) := by decide +kernel
theorem dX3_hasRoomForName_6 : decode cX3_hasRoomForName 6 = .ok (.aload_n 0, 1) := by decide +kernel
theorem dX3_hasRoomForName_7 : decode cX3_hasRoomForName 7 = .ok (.getfield 15, 3) := by decide +kernel
theorem dX3_hasRoomForName_10 : decode cX3_hasRoomForName 10 = .ok (.aload_n 0, 1) := by decide +kernel
theorem dX3_hasRoomForName_11 : decode cX3_hasRoomForName 11 = .ok (.getfield 86, 3) := by decide +kernel
theorem dX3_hasRoomForName_14 : decode cX3_hasRoomForName 14 = .ok (.iaload, 1) := by decide +kernel
theorem dX3_hasRoomForName_15 : decode cX3_hasRoomForName 15 = .ok (.iload_n 1, 1) := by decide +kernel
theorem dX3_hasRoomForName_16 : decode cX3_hasRoomForName 16 = .ok (.iadd, 1) := by decide +kernel
theorem dX3_hasRoomForName_17 : decode cX3_hasRoomForName 17 = .ok (.sipush 30000, 3) := by decide +kernel
theorem dX3_hasRoomForName_20 : decode cX3_hasRoomForName 20 = .ok (.if_icmp .gt 17, 3) := by decide +kernel
theorem dX3_hasRoomForName_23 : decode cX3_hasRoomForName 23 = .ok (.aload_n 0, 1) := by decide +kernel
theorem dX3_hasRoomForName_24 : decode cX3_hasRoomForName 24 = .ok (.getfield 86, 3) := by decide +kernel
theorem dX3_hasRoomForName_27 : decode cX3_hasRoomForName 27 = .ok (.sipush 2500, 3) := by decide +kernel
theorem dX3_hasRoomForName_30 : decode cX3_hasRoomForName 30 = .ok (.if_icmp .ge 7, 3) := by decide +kernel
theorem dX3_hasRoomForName_33 : decode cX3_hasRoomForName 33 = .ok (.iconst 1, 1) := by decide +kernel
theorem dX3_hasRoomForName_34 : decode cX3_hasRoomForName 34 = .ok (.goto 4, 3) := by decide +kernel
theorem dX3_hasRoomForName_37 : decode cX3_hasRoomForName 37 = .ok (.iconst 0, 1) := by decide +kernel
theorem dX3_hasRoomForName_38 : decode cX3_hasRoomForName 38 = .ok (.ireturn, 1) := by decide +kernel
theorem dX3_addName_0 : decode cX3_addName 0 = .ok (.aload_n 0, 1) := by decide +kernel
theorem dX3_addName_1 : decode cX3_addName 1 = .ok (.getfield 15, 3) := by decide +kernel
theorem dX3_addName_4 : decode cX3_addName 4 = .ok (.aload_n 0, 1) := by decide +kernel
theorem dX3_addName_5 : decode cX3_addName 5 = .ok (.getfield 86, 3) := by decide +kernel
theorem dX3_addName_8 : decode cX3_addName 8 = .ok (.iaload, 1) := by decide +kernel
theorem dX3_addName_9 : decode cX3_addName 9 = .ok (.istore 5, 2) := by decide +kernel
theorem dX3_addName_11 : decode cX3_addName 11 = .ok (.iconst 0, 1) := by decide +kernel
theorem dX3_addName_12 : decode cX3_addName 12 = .ok (.istore 6, 2) := by decide +kernel
theorem dX3_addName_14 : decode cX3_addName 14 = .ok (.iload 6, 2) := by decide +kernel
theorem dX3_addName_16 : decode cX3_addName 16 = .ok (.iload_n 3, 1) := by decide +kernel
theorem dX3_addName_17 : decode cX3_addName 17 = .ok (.if_icmp .ge 25, 3) := by decide +kernel
theorem dX3_addName_20 : decode cX3_addName 20 = .ok (.aload_n 0, 1) := by decide +kernel
theorem dX3_addName_21 : decode cX3_addName 21 = .ok (.getfield 9, 3) := by decide +kernel
theorem dX3_addName_24 : decode cX3_addName 24 = .ok (.iload 5, 2) := by decide +kernel
theorem dX3_addName_26 : decode cX3_addName 26 = .ok (.iload 6, 2) := by decide +kernel
theorem dX3_addName_28 : decode cX3_addName 28 = .ok (.iadd, 1) := by decide +kernel
theorem dX3_addName_29 : decode cX3_addName 29 = .ok (.aload_n 1, 1) := by decide +kernel
theorem dX3_addName_30 : decode cX3_addName 30 = .ok (.iload_n 2, 1) := by decide +kernel
theorem dX3_addName_31 : decode cX3_addName 31 = .ok (.iload 6, 2) := by decide +kernel
theorem dX3_addName_33 : decode cX3_addName 33 = .ok (.iadd, 1) := by decide +kernel
theorem dX3_addName_34 : decode cX3_addName 34 = .ok (.caload, 1) := by decide +kernel
theorem dX3_addName_35 : decode cX3_addName 35 = .ok (.castore, 1) := by decide +kernel
theorem dX3_addName_36 : decode cX3_addName 36 = .ok (.iinc 6 1, 3) := by decide +kernel
theorem dX3_addName_39 : decode cX3_addName 39 = .ok (.goto (-25), 3) := by decide +kernel
theorem dX3_addName_42 : decode cX3_addName 42 = .ok (.aload_n 1, 1) := by decide +kernel
theorem dX3_addName_43 : decode cX3_addName 43 = .ok (.iload_n 2, 1) := by decide +kernel
theorem dX3_addName_44 : decode cX3_addName 44 = .ok (.iload_n 3, 1) := by decide +kernel
theorem dX3_addName_45 : decode cX3_addName 45 = .ok (.invokestatic 62, 3) := by decide +kernel
theorem dX3_addName_48 : decode cX3_addName 48 = .ok (.istore 6, 2) := by decide +kernel
theorem dX3_addName_50 : decode cX3_addName 50 = .ok (.aload_n 0, 1) := by decide +kernel
theorem dX3_addName_51 : decode cX3_addName 51 = .ok (.getfield 19, 3) := by decide +kernel
theorem dX3_addName_54 : decode cX3_addName 54 = .ok (.aload_n 0, 1) := by decide +kernel
theorem dX3_addName_55 : decode cX3_addName 55 = .ok (.getfield 86, 3) := by decide +kernel
theorem dX3_addName_58 : decode cX3_addName 58 = .ok (.iload 4, 2) := by decide +kernel
theorem dX3_addName_60 : decode cX3_addName 60 = .ok (.iastore, 1) := by decide +kernel
theorem dX3_addName_61 : decode cX3_addName 61 = .ok (.aload_n 0, 1) := by decide +kernel
theorem dX3_addName_62 : decode cX3_addName 62 = .ok (.getfield 22, 3) := by decide +kernel
theorem dX3_addName_65 : decode cX3_addName 65 = .ok (.aload_n 0, 1) := by decide +kernel
theorem dX3_addName_66 : decode cX3_addName 66 = .ok (.getfield 86, 3) := by decide +kernel
theorem dX3_addName_69 : decode cX3_addName 69 = .ok (.aload_n 0, 1) := by decide +kernel
theorem dX3_addName_70 : decode cX3_addName 70 = .ok (.getfield 25, 3) := by decide +kernel
theorem dX3_addName_73 : decode cX3_addName 73 = .ok (.iload 6, 2) := by decide +kernel
theorem dX3_addName_75 : decode cX3_addName 75 = .ok (.iaload, 1) := by decide +kernel
theorem dX3_addName_76 : decode cX3_addName 76 = .ok (.iastore, 1) := by decide +kernel
theorem dX3_addName_77 : decode cX3_addName 77 = .ok (.aload_n 0, 1) := by decide +kernel
theorem dX3_addName_78 : decode cX3_addName 78 = .ok (.dup, 1) := by decide +kernel
theorem dX3_addName_79 : decode cX3_addName 79 = .ok (.getfield 86, 3) := by decide +kernel
theorem dX3_addName_82 : decode cX3_addName 82 = .ok (.iconst 1, 1) := by decide +kernel
theorem dX3_addName_83 : decode cX3_addName 83 = .ok (.iadd, 1) := by decide +kernel
theorem dX3_addName_84 : decode cX3_addName 84 = .ok (.putfield 86, 3) := by decide +kernel
theorem dX3_addName_87 : decode cX3_addName 87 = .ok (.aload_n 0, 1) := by decide +kernel
theorem dX3_addName_88 : decode cX3_addName 88 = .ok (.getfield 15, 3) := by decide +kernel
theorem dX3_addName_91 : decode cX3_addName 91 = .ok (.aload_n 0, 1) := by decide +kernel
theorem dX3_addName_92 : decode cX3_addName 92 = .ok (.getfield 86, 3) := by decide +kernel
theorem dX3_addName_95 : decode cX3_addName 95 = .ok (.iload 5, 2) := by decide +kernel
theorem dX3_addName_97 : decode cX3_addName 97 = .ok (.iload_n 3, 1) := by decide +kernel
theorem dX3_addName_98 : decode cX3_addName 98 = .ok (.iadd, 1) := by decide +kernel
theorem dX3_addName_99 : decode cX3_addName 99 = .ok (.iastore, 1) := by decide +kernel
theorem dX3_addName_100 : decode cX3_addName 100 = .ok (.aload_n 0, 1) := by decide +kernel
theorem dX3_addName_101 : decode cX3_addName 101 = .ok (.getfield 25, 3) := by decide +kernel
theorem dX3_addName_104 : decode cX3_addName 104 = .ok (.iload 6, 2) := by decide +kernel
theorem dX3_addName_106 : decode cX3_addName 106 = .ok (.aload_n 0, 1) := by decide +kernel
theorem dX3_addName_107 : decode cX3_addName 107 = .ok (.getfield 86, 3) := by decide +kernel
theorem dX3_addName_110 : decode cX3_addName 110 = .ok (.iastore, 1) := by decide +kernel
theorem dX3_addName_111 : decode cX3_addName 111 = .ok (.return_, 1) := by decide +kernel
theorem dX3_addSymbol_0 : decode cX3_addSymbol 0 = .ok (.aload_n 0, 1) := by decide +kernel
theorem dX3_addSymbol_1 : decode cX3_addSymbol 1 = .ok (.getfield 28, 3) := by decide +kernel
theorem dX3_addSymbol_4 : decode cX3_addSymbol 4 = .ok (.aload_n 0, 1) := by decide +kernel
theorem dX3_addSymbol_5 : decode cX3_addSymbol 5 = .ok (.getfield 90, 3) := by decide +kernel
theorem dX3_addSymbol_8 : decode cX3_addSymbol 8 = .ok (.aload_n 0, 1) := by decide +kernel
theorem dX3_addSymbol_9 : decode cX3_addSymbol 9 = .ok (.getfield 86, 3) := by decide +kernel
theorem dX3_addSymbol_12 : decode cX3_addSymbol 12 = .ok (.iastore, 1) := by decide +kernel
theorem dX3_addSymbol_13 : decode cX3_addSymbol 13 = .ok (.aload_n 0, 1) := by decide +kernel
theorem dX3_addSymbol_14 : decode cX3_addSymbol 14 = .ok (.aload_n 1, 1) := by decide +kernel
theorem dX3_addSymbol_15 : decode cX3_addSymbol 15 = .ok (.iload_n 2, 1) := by decide +kernel
theorem dX3_addSymbol_16 : decode cX3_addSymbol 16 = .ok (.iload_n 3, 1) := by decide +kernel
theorem dX3_addSymbol_17 : decode cX3_addSymbol 17 = .ok (.aload_n 0, 1) := by decide +kernel
theorem dX3_addSymbol_18 : decode cX3_addSymbol 18 = .ok (.getfield 90, 3) := by decide +kernel
theorem dX3_addSymbol_21 : decode cX3_addSymbol 21 = .ok (.iconst (-1), 1) := by decide +kernel
theorem dX3_addSymbol_22 : decode cX3_addSymbol 22 = .ok (.ixor, 1) := by decide +kernel
theorem dX3_addSymbol_23 : decode cX3_addSymbol 23 = .ok (.invokevirtual 93, 3) := by decide +kernel
theorem dX3_addSymbol_26 : decode cX3_addSymbol 26 = .ok (.aload_n 0, 1) := by decide +kernel
theorem dX3_addSymbol_27 : decode cX3_addSymbol 27 = .ok (.getfield 31, 3) := by decide +kernel
theorem dX3_addSymbol_30 : decode cX3_addSymbol 30 = .ok (.aload_n 0, 1) := by decide +kernel
theorem dX3_addSymbol_31 : decode cX3_addSymbol 31 = .ok (.getfield 90, 3) := by decide +kernel
theorem dX3_addSymbol_34 : decode cX3_addSymbol 34 = .ok (.iload 4, 2) := by decide +kernel
theorem dX3_addSymbol_36 : decode cX3_addSymbol 36 = .ok (.bastore, 1) := by decide +kernel
theorem dX3_addSymbol_37 : decode cX3_addSymbol 37 = .ok (.aload_n 0, 1) := by decide +kernel
theorem dX3_addSymbol_38 : decode cX3_addSymbol 38 = .ok (.getfield 35, 3) := by decide +kernel
theorem dX3_addSymbol_41 : decode cX3_addSymbol 41 = .ok (.aload_n 0, 1) := by decide +kernel
theorem dX3_addSymbol_42 : decode cX3_addSymbol 42 = .ok (.getfield 90, 3) := by decide +kernel
theorem dX3_addSymbol_45 : decode cX3_addSymbol 45 = .ok (.iconst (-1), 1) := by decide +kernel
theorem dX3_addSymbol_46 : decode cX3_addSymbol 46 = .ok (.iastore, 1) := by decide +kernel
theorem dX3_addSymbol_47 : decode cX3_addSymbol 47 = .ok (.aload_n 0, 1) := by decide +kernel
theorem dX3_addSymbol_48 : decode cX3_addSymbol 48 = .ok (.getfield 38, 3) := by decide +kernel
theorem dX3_addSymbol_51 : decode cX3_addSymbol 51 = .ok (.aload_n 0, 1) := by decide +kernel
theorem dX3_addSymbol_52 : decode cX3_addSymbol 52 = .ok (.getfield 90, 3) := by decide +kernel
theorem dX3_addSymbol_55 : decode cX3_addSymbol 55 = .ok (.iconst (-1), 1) := by decide +kernel
theorem dX3_addSymbol_56 : decode cX3_addSymbol 56 = .ok (.iastore, 1) := by decide +kernel
theorem dX3_addSymbol_57 : decode cX3_addSymbol 57 = .ok (.aload_n 0, 1) := by decide +kernel
theorem dX3_addSymbol_58 : decode cX3_addSymbol 58 = .ok (.dup, 1) := by decide +kernel
theorem dX3_addSymbol_59 : decode cX3_addSymbol 59 = .ok (.getfield 90, 3) := by decide +kernel
theorem dX3_addSymbol_62 : decode cX3_addSymbol 62 = .ok (.iconst 1, 1) := by decide +kernel
theorem dX3_addSymbol_63 : decode cX3_addSymbol 63 = .ok (.iadd, 1) := by decide +kernel
theorem dX3_addSymbol_64 : decode cX3_addSymbol 64 = .ok (.putfield 90, 3) := by decide +kernel
theorem dX3_addSymbol_67 : decode cX3_addSymbol 67 = .ok (.aload_n 0, 1) := by decide +kernel
theorem dX3_addSymbol_68 : decode cX3_addSymbol 68 = .ok (.getfield 90, 3) := by decide +kernel
theorem dX3_addSymbol_71 : decode cX3_addSymbol 71 = .ok (.iconst 1, 1) := by decide +kernel
theorem dX3_addSymbol_72 : decode cX3_addSymbol 72 = .ok (.isub, 1) := by decide +kernel
theorem dX3_addSymbol_73 : decode cX3_addSymbol 73 = .ok (.ireturn, 1) := by decide +kernel
theorem dX3_addLabel_0 : decode cX3_addLabel 0 = .ok (.aload_n 0, 1) := by decide +kernel
theorem dX3_addLabel_1 : decode cX3_addLabel 1 = .ok (.getfield 44, 3) := by decide +kernel
theorem dX3_addLabel_4 : decode cX3_addLabel 4 = .ok (.aload_n 0, 1) := by decide +kernel
theorem dX3_addLabel_5 : decode cX3_addLabel 5 = .ok (.getfield 97, 3) := by decide +kernel
theorem dX3_addLabel_8 : decode cX3_addLabel 8 = .ok (.aload_n 0, 1) := by decide +kernel
theorem dX3_addLabel_9 : decode cX3_addLabel 9 = .ok (.getfield 86, 3) := by decide +kernel
theorem dX3_addLabel_12 : decode cX3_addLabel 12 = .ok (.iastore, 1) := by decide +kernel
theorem dX3_addLabel_13 : decode cX3_addLabel 13 = .ok (.aload_n 0, 1) := by decide +kernel
theorem dX3_addLabel_14 : decode cX3_addLabel 14 = .ok (.aload_n 1, 1) := by decide +kernel
theorem dX3_addLabel_15 : decode cX3_addLabel 15 = .ok (.iload_n 2, 1) := by decide +kernel
theorem dX3_addLabel_16 : decode cX3_addLabel 16 = .ok (.iload_n 3, 1) := by decide +kernel
theorem dX3_addLabel_17 : decode cX3_addLabel 17 = .ok (.aload_n 0, 1) := by decide +kernel
theorem dX3_addLabel_18 : decode cX3_addLabel 18 = .ok (.getfield 97, 3) := by decide +kernel
theorem dX3_addLabel_21 : decode cX3_addLabel 21 = .ok (.invokevirtual 93, 3) := by decide +kernel
theorem dX3_addLabel_24 : decode cX3_addLabel 24 = .ok (.return_, 1) := by decide +kernel
theorem dX3_append_0 : decode cX3_append 0 = .ok (.aload_n 0, 1) := by decide +kernel
theorem dX3_append_1 : decode cX3_append 1 = .ok (.getfield 53, 3) := by decide +kernel
theorem dX3_append_4 : decode cX3_append 4 = .ok (.aload_n 0, 1) := by decide +kernel
theorem dX3_append_5 : decode cX3_append 5 = .ok (.getfield 100, 3) := by decide +kernel
theorem dX3_append_8 : decode cX3_append 8 = .ok (.iload_n 1, 1) := by decide +kernel
theorem dX3_append_9 : decode cX3_append 9 = .ok (.iastore, 1) := by decide +kernel
theorem dX3_append_10 : decode cX3_append 10 = .ok (.aload_n 0, 1) := by decide +kernel
theorem dX3_append_11 : decode cX3_append 11 = .ok (.getfield 56, 3) := by decide +kernel
theorem dX3_append_14 : decode cX3_append 14 = .ok (.aload_n 0, 1) := by decide +kernel
theorem dX3_append_15 : decode cX3_append 15 = .ok (.getfield 100, 3) := by decide +kernel
theorem dX3_append_18 : decode cX3_append 18 = .ok (.iload_n 2, 1) := by decide +kernel
theorem dX3_append_19 : decode cX3_append 19 = .ok (.iastore, 1) := by decide +kernel
theorem dX3_append_20 : decode cX3_append 20 = .ok (.aload_n 0, 1) := by decide +kernel
theorem dX3_append_21 : decode cX3_append 21 = .ok (.dup, 1) := by decide +kernel
theorem dX3_append_22 : decode cX3_append 22 = .ok (.getfield 100, 3) := by decide +kernel
theorem dX3_append_25 : decode cX3_append 25 = .ok (.iconst 1, 1) := by decide +kernel
theorem dX3_append_26 : decode cX3_append 26 = .ok (.iadd, 1) := by decide +kernel
theorem dX3_append_27 : decode cX3_append 27 = .ok (.putfield 100, 3) := by decide +kernel
theorem dX3_append_30 : decode cX3_append 30 = .ok (.aload_n 0, 1) := by decide +kernel
theorem dX3_append_31 : decode cX3_append 31 = .ok (.getfield 50, 3) := by decide +kernel
theorem dX3_append_34 : decode cX3_append 34 = .ok (.aload_n 0, 1) := by decide +kernel
theorem dX3_append_35 : decode cX3_append 35 = .ok (.getfield 97, 3) := by decide +kernel
theorem dX3_append_38 : decode cX3_append 38 = .ok (.iconst 1, 1) := by decide +kernel
theorem dX3_append_39 : decode cX3_append 39 = .ok (.iadd, 1) := by decide +kernel
theorem dX3_append_40 : decode cX3_append 40 = .ok (.aload_n 0, 1) := by decide +kernel
theorem dX3_append_41 : decode cX3_append 41 = .ok (.getfield 100, 3) := by decide +kernel
theorem dX3_append_44 : decode cX3_append 44 = .ok (.iastore, 1) := by decide +kernel
theorem dX3_append_45 : decode cX3_append 45 = .ok (.return_, 1) := by decide +kernel
theorem dX3_giveRank_0 : decode cX3_giveRank 0 = .ok (.aload_n 0, 1) := by decide +kernel
theorem dX3_giveRank_1 : decode cX3_giveRank 1 = .ok (.getfield 38, 3) := by decide +kernel
theorem dX3_giveRank_4 : decode cX3_giveRank 4 = .ok (.iload_n 1, 1) := by decide +kernel
theorem dX3_giveRank_5 : decode cX3_giveRank 5 = .ok (.iaload, 1) := by decide +kernel
theorem dX3_giveRank_6 : decode cX3_giveRank 6 = .ok (.iconst (-1), 1) := by decide +kernel
theorem dX3_giveRank_7 : decode cX3_giveRank 7 = .ok (.if_icmp .ne 33, 3) := by decide +kernel
theorem dX3_giveRank_10 : decode cX3_giveRank 10 = .ok (.aload_n 0, 1) := by decide +kernel
theorem dX3_giveRank_11 : decode cX3_giveRank 11 = .ok (.getfield 41, 3) := by decide +kernel
theorem dX3_giveRank_14 : decode cX3_giveRank 14 = .ok (.aload_n 0, 1) := by decide +kernel
theorem dX3_giveRank_15 : decode cX3_giveRank 15 = .ok (.getfield 103, 3) := by decide +kernel
theorem dX3_giveRank_18 : decode cX3_giveRank 18 = .ok (.iload_n 1, 1) := by decide +kernel
theorem dX3_giveRank_19 : decode cX3_giveRank 19 = .ok (.iastore, 1) := by decide +kernel
theorem dX3_giveRank_20 : decode cX3_giveRank 20 = .ok (.aload_n 0, 1) := by decide +kernel
theorem dX3_giveRank_21 : decode cX3_giveRank 21 = .ok (.getfield 38, 3) := by decide +kernel
theorem dX3_giveRank_24 : decode cX3_giveRank 24 = .ok (.iload_n 1, 1) := by decide +kernel
theorem dX3_giveRank_25 : decode cX3_giveRank 25 = .ok (.aload_n 0, 1) := by decide +kernel
theorem dX3_giveRank_26 : decode cX3_giveRank 26 = .ok (.getfield 103, 3) := by decide +kernel
theorem dX3_giveRank_29 : decode cX3_giveRank 29 = .ok (.iastore, 1) := by decide +kernel
theorem dX3_giveRank_30 : decode cX3_giveRank 30 = .ok (.aload_n 0, 1) := by decide +kernel
theorem dX3_giveRank_31 : decode cX3_giveRank 31 = .ok (.dup, 1) := by decide +kernel
theorem dX3_giveRank_32 : decode cX3_giveRank 32 = .ok (.getfield 103, 3) := by decide +kernel
theorem dX3_giveRank_35 : decode cX3_giveRank 35 = .ok (.iconst 1, 1) := by decide +kernel
theorem dX3_giveRank_36 : decode cX3_giveRank 36 = .ok (.iadd, 1) := by decide +kernel
theorem dX3_giveRank_37 : decode cX3_giveRank 37 = .ok (.putfield 103, 3) := by decide +kernel
theorem dX3_giveRank_40 : decode cX3_giveRank 40 = .ok (.return_, 1) := by decide +kernel
theorem dX3_add_0 : decode cX3_add 0 = .ok (.aload_n 0, 1) := by decide +kernel
theorem dX3_add_1 : decode cX3_add 1 = .ok (.getfield 47, 3) := by decide +kernel
theorem dX3_add_4 : decode cX3_add 4 = .ok (.aload_n 0, 1) := by decide +kernel
theorem dX3_add_5 : decode cX3_add 5 = .ok (.getfield 97, 3) := by decide +kernel
theorem dX3_add_8 : decode cX3_add 8 = .ok (.iload_n 1, 1) := by decide +kernel
theorem dX3_add_9 : decode cX3_add 9 = .ok (.iastore, 1) := by decide +kernel
theorem dX3_add_10 : decode cX3_add 10 = .ok (.iload_n 1, 1) := by decide +kernel
theorem dX3_add_11 : decode cX3_add 11 = .ok (.ifCond .ne 37, 3) := by decide +kernel
theorem dX3_add_14 : decode cX3_add 14 = .ok (.aload_n 0, 1) := by decide +kernel
theorem dX3_add_15 : decode cX3_add 15 = .ok (.getfield 35, 3) := by decide +kernel
theorem dX3_add_18 : decode cX3_add 18 = .ok (.aload_n 0, 1) := by decide +kernel
theorem dX3_add_19 : decode cX3_add 19 = .ok (.aload_n 0, 1) := by decide +kernel
theorem dX3_add_20 : decode cX3_add 20 = .ok (.getfield 97, 3) := by decide +kernel
theorem dX3_add_23 : decode cX3_add 23 = .ok (.invokevirtual 106, 3) := by decide +kernel
theorem dX3_add_26 : decode cX3_add 26 = .ok (.iaload, 1) := by decide +kernel
theorem dX3_add_27 : decode cX3_add 27 = .ok (.iconst (-1), 1) := by decide +kernel
theorem dX3_add_28 : decode cX3_add 28 = .ok (.if_icmp .ne 20, 3) := by decide +kernel
theorem dX3_add_31 : decode cX3_add 31 = .ok (.aload_n 0, 1) := by decide +kernel
theorem dX3_add_32 : decode cX3_add 32 = .ok (.getfield 35, 3) := by decide +kernel
theorem dX3_add_35 : decode cX3_add 35 = .ok (.aload_n 0, 1) := by decide +kernel
theorem dX3_add_36 : decode cX3_add 36 = .ok (.aload_n 0, 1) := by decide +kernel
theorem dX3_add_37 : decode cX3_add 37 = .ok (.getfield 97, 3) := by decide +kernel
theorem dX3_add_40 : decode cX3_add 40 = .ok (.invokevirtual 106, 3) := by decide +kernel
theorem dX3_add_43 : decode cX3_add 43 = .ok (.aload_n 0, 1) := by decide +kernel
theorem dX3_add_44 : decode cX3_add 44 = .ok (.getfield 97, 3) := by decide +kernel
theorem dX3_add_47 : decode cX3_add 47 = .ok (.iastore, 1) := by decide +kernel
theorem dX3_add_48 : decode cX3_add 48 = .ok (.aload_n 0, 1) := by decide +kernel
theorem dX3_add_49 : decode cX3_add 49 = .ok (.dup, 1) := by decide +kernel
theorem dX3_add_50 : decode cX3_add 50 = .ok (.getfield 97, 3) := by decide +kernel
theorem dX3_add_53 : decode cX3_add 53 = .ok (.iconst 1, 1) := by decide +kernel
theorem dX3_add_54 : decode cX3_add 54 = .ok (.iadd, 1) := by decide +kernel
theorem dX3_add_55 : decode cX3_add 55 = .ok (.putfield 97, 3) := by decide +kernel
theorem dX3_add_58 : decode cX3_add 58 = .ok (.return_, 1) := by decide +kernel
theorem dX3_variableOf_0 : decode cX3_variableOf 0 = .ok (.aload_n 0, 1) := by decide +kernel
theorem dX3_variableOf_1 : decode cX3_variableOf 1 = .ok (.getfield 53, 3) := by decide +kernel
theorem dX3_variableOf_4 : decode cX3_variableOf 4 = .ok (.aload_n 0, 1) := by decide +kernel
theorem dX3_variableOf_5 : decode cX3_variableOf 5 = .ok (.getfield 50, 3) := by decide +kernel
theorem dX3_variableOf_8 : decode cX3_variableOf 8 = .ok (.iload_n 1, 1) := by decide +kernel
theorem dX3_variableOf_9 : decode cX3_variableOf 9 = .ok (.iaload, 1) := by decide +kernel
theorem dX3_variableOf_10 : decode cX3_variableOf 10 = .ok (.iconst 1, 1) := by decide +kernel
theorem dX3_variableOf_11 : decode cX3_variableOf 11 = .ok (.iadd, 1) := by decide +kernel
theorem dX3_variableOf_12 : decode cX3_variableOf 12 = .ok (.iaload, 1) := by decide +kernel
theorem dX3_variableOf_13 : decode cX3_variableOf 13 = .ok (.ireturn, 1) := by decide +kernel
theorem dX3_typeOf_0 : decode cX3_typeOf 0 = .ok (.aload_n 0, 1) := by decide +kernel
theorem dX3_typeOf_1 : decode cX3_typeOf 1 = .ok (.getfield 53, 3) := by decide +kernel
theorem dX3_typeOf_4 : decode cX3_typeOf 4 = .ok (.aload_n 0, 1) := by decide +kernel
theorem dX3_typeOf_5 : decode cX3_typeOf 5 = .ok (.getfield 50, 3) := by decide +kernel
theorem dX3_typeOf_8 : decode cX3_typeOf 8 = .ok (.iload_n 1, 1) := by decide +kernel
theorem dX3_typeOf_9 : decode cX3_typeOf 9 = .ok (.iaload, 1) := by decide +kernel
theorem dX3_typeOf_10 : decode cX3_typeOf 10 = .ok (.iaload, 1) := by decide +kernel
theorem dX3_typeOf_11 : decode cX3_typeOf 11 = .ok (.ireturn, 1) := by decide +kernel
theorem dX3_lengthOf_0 : decode cX3_lengthOf 0 = .ok (.aload_n 0, 1) := by decide +kernel
theorem dX3_lengthOf_1 : decode cX3_lengthOf 1 = .ok (.getfield 50, 3) := by decide +kernel
theorem dX3_lengthOf_4 : decode cX3_lengthOf 4 = .ok (.iload_n 1, 1) := by decide +kernel
theorem dX3_lengthOf_5 : decode cX3_lengthOf 5 = .ok (.iconst 1, 1) := by decide +kernel
theorem dX3_lengthOf_6 : decode cX3_lengthOf 6 = .ok (.iadd, 1) := by decide +kernel
theorem dX3_lengthOf_7 : decode cX3_lengthOf 7 = .ok (.iaload, 1) := by decide +kernel
theorem dX3_lengthOf_8 : decode cX3_lengthOf 8 = .ok (.aload_n 0, 1) := by decide +kernel
theorem dX3_lengthOf_9 : decode cX3_lengthOf 9 = .ok (.getfield 50, 3) := by decide +kernel
theorem dX3_lengthOf_12 : decode cX3_lengthOf 12 = .ok (.iload_n 1, 1) := by decide +kernel
theorem dX3_lengthOf_13 : decode cX3_lengthOf 13 = .ok (.iaload, 1) := by decide +kernel
theorem dX3_lengthOf_14 : decode cX3_lengthOf 14 = .ok (.isub, 1) := by decide +kernel
theorem dX3_lengthOf_15 : decode cX3_lengthOf 15 = .ok (.ireturn, 1) := by decide +kernel
theorem dX3_isStatement_0 : decode cX3_isStatement 0 = .ok (.iload_n 1, 1) := by decide +kernel
theorem dX3_isStatement_1 : decode cX3_isStatement 1 = .ok (.ifCond .lt 15, 3) := by decide +kernel
theorem dX3_isStatement_4 : decode cX3_isStatement 4 = .ok (.iload_n 1, 1) := by decide +kernel
theorem dX3_isStatement_5 : decode cX3_isStatement 5 = .ok (.aload_n 0, 1) := by decide +kernel
theorem dX3_isStatement_6 : decode cX3_isStatement 6 = .ok (.getfield 97, 3) := by decide +kernel
theorem dX3_isStatement_9 : decode cX3_isStatement 9 = .ok (.if_icmp .ge 7, 3) := by decide +kernel
theorem dX3_isStatement_12 : decode cX3_isStatement 12 = .ok (.iconst 1, 1) := by decide +kernel
theorem dX3_isStatement_13 : decode cX3_isStatement 13 = .ok (.goto 4, 3) := by decide +kernel
theorem dX3_isStatement_16 : decode cX3_isStatement 16 = .ok (.iconst 0, 1) := by decide +kernel
theorem dX3_isStatement_17 : decode cX3_isStatement 17 = .ok (.ireturn, 1) := by decide +kernel
theorem dX3_isAssertion_0 : decode cX3_isAssertion 0 = .ok (.aload_n 0, 1) := by decide +kernel
theorem dX3_isAssertion_1 : decode cX3_isAssertion 1 = .ok (.iload_n 1, 1) := by decide +kernel
theorem dX3_isAssertion_2 : decode cX3_isAssertion 2 = .ok (.invokevirtual 109, 3) := by decide +kernel
theorem dX3_isAssertion_5 : decode cX3_isAssertion 5 = .ok (.ifCond .eq 17, 3) := by decide +kernel
theorem dX3_isAssertion_8 : decode cX3_isAssertion 8 = .ok (.aload_n 0, 1) := by decide +kernel
theorem dX3_isAssertion_9 : decode cX3_isAssertion 9 = .ok (.getfield 47, 3) := by decide +kernel
theorem dX3_isAssertion_12 : decode cX3_isAssertion 12 = .ok (.iload_n 1, 1) := by decide +kernel
theorem dX3_isAssertion_13 : decode cX3_isAssertion 13 = .ok (.iaload, 1) := by decide +kernel
theorem dX3_isAssertion_14 : decode cX3_isAssertion 14 = .ok (.iconst 2, 1) := by decide +kernel
theorem dX3_isAssertion_15 : decode cX3_isAssertion 15 = .ok (.if_icmp .lt 7, 3) := by decide +kernel
theorem dX3_isAssertion_18 : decode cX3_isAssertion 18 = .ok (.iconst 1, 1) := by decide +kernel
theorem dX3_isAssertion_19 : decode cX3_isAssertion 19 = .ok (.goto 4, 3) := by decide +kernel
theorem dX3_isAssertion_22 : decode cX3_isAssertion 22 = .ok (.iconst 0, 1) := by decide +kernel
theorem dX3_isAssertion_23 : decode cX3_isAssertion 23 = .ok (.ireturn, 1) := by decide +kernel
theorem dX3_isProved_0 : decode cX3_isProved 0 = .ok (.aload_n 0, 1) := by decide +kernel
theorem dX3_isProved_1 : decode cX3_isProved 1 = .ok (.iload_n 1, 1) := by decide +kernel
theorem dX3_isProved_2 : decode cX3_isProved 2 = .ok (.invokevirtual 109, 3) := by decide +kernel
theorem dX3_isProved_5 : decode cX3_isProved 5 = .ok (.ifCond .eq 17, 3) := by decide +kernel
theorem dX3_isProved_8 : decode cX3_isProved 8 = .ok (.aload_n 0, 1) := by decide +kernel
theorem dX3_isProved_9 : decode cX3_isProved 9 = .ok (.getfield 47, 3) := by decide +kernel
theorem dX3_isProved_12 : decode cX3_isProved 12 = .ok (.iload_n 1, 1) := by decide +kernel
theorem dX3_isProved_13 : decode cX3_isProved 13 = .ok (.iaload, 1) := by decide +kernel
theorem dX3_isProved_14 : decode cX3_isProved 14 = .ok (.iconst 3, 1) := by decide +kernel
theorem dX3_isProved_15 : decode cX3_isProved 15 = .ok (.if_icmp .ne 7, 3) := by decide +kernel
theorem dX3_isProved_18 : decode cX3_isProved 18 = .ok (.iconst 1, 1) := by decide +kernel
theorem dX3_isProved_19 : decode cX3_isProved 19 = .ok (.goto 4, 3) := by decide +kernel
theorem dX3_isProved_22 : decode cX3_isProved 22 = .ok (.iconst 0, 1) := by decide +kernel
theorem dX3_isProved_23 : decode cX3_isProved 23 = .ok (.ireturn, 1) := by decide +kernel
theorem dX3_isSymbol_0 : decode cX3_isSymbol 0 = .ok (.iload_n 1, 1) := by decide +kernel
theorem dX3_isSymbol_1 : decode cX3_isSymbol 1 = .ok (.ifCond .lt 15, 3) := by decide +kernel
theorem dX3_isSymbol_4 : decode cX3_isSymbol 4 = .ok (.iload_n 1, 1) := by decide +kernel
theorem dX3_isSymbol_5 : decode cX3_isSymbol 5 = .ok (.aload_n 0, 1) := by decide +kernel
theorem dX3_isSymbol_6 : decode cX3_isSymbol 6 = .ok (.getfield 90, 3) := by decide +kernel
theorem dX3_isSymbol_9 : decode cX3_isSymbol 9 = .ok (.if_icmp .ge 7, 3) := by decide +kernel
theorem dX3_isSymbol_12 : decode cX3_isSymbol 12 = .ok (.iconst 1, 1) := by decide +kernel
theorem dX3_isSymbol_13 : decode cX3_isSymbol 13 = .ok (.goto 4, 3) := by decide +kernel
theorem dX3_isSymbol_16 : decode cX3_isSymbol 16 = .ok (.iconst 0, 1) := by decide +kernel
theorem dX3_isSymbol_17 : decode cX3_isSymbol 17 = .ok (.ireturn, 1) := by decide +kernel
theorem dX3_constants_0 : decode cX3_constants 0 = .ok (.iconst 0, 1) := by decide +kernel
theorem dX3_constants_1 : decode cX3_constants 1 = .ok (.istore_n 1, 1) := by decide +kernel
theorem dX3_constants_2 : decode cX3_constants 2 = .ok (.iconst 0, 1) := by decide +kernel
theorem dX3_constants_3 : decode cX3_constants 3 = .ok (.istore_n 2, 1) := by decide +kernel
theorem dX3_constants_4 : decode cX3_constants 4 = .ok (.iload_n 2, 1) := by decide +kernel
theorem dX3_constants_5 : decode cX3_constants 5 = .ok (.aload_n 0, 1) := by decide +kernel
theorem dX3_constants_6 : decode cX3_constants 6 = .ok (.getfield 90, 3) := by decide +kernel
theorem dX3_constants_9 : decode cX3_constants 9 = .ok (.if_icmp .ge 26, 3) := by decide +kernel
theorem dX3_constants_12 : decode cX3_constants 12 = .ok (.iload_n 1, 1) := by decide +kernel
theorem dX3_constants_13 : decode cX3_constants 13 = .ok (.aload_n 0, 1) := by decide +kernel
theorem dX3_constants_14 : decode cX3_constants 14 = .ok (.getfield 31, 3) := by decide +kernel
theorem dX3_constants_17 : decode cX3_constants 17 = .ok (.iload_n 2, 1) := by decide +kernel
theorem dX3_constants_18 : decode cX3_constants 18 = .ok (.baload, 1) := by decide +kernel
theorem dX3_constants_19 : decode cX3_constants 19 = .ok (.ifCond .eq 7, 3) := by decide +kernel
theorem dX3_constants_22 : decode cX3_constants 22 = .ok (.iconst 0, 1) := by decide +kernel
theorem dX3_constants_23 : decode cX3_constants 23 = .ok (.goto 4, 3) := by decide +kernel
theorem dX3_constants_26 : decode cX3_constants 26 = .ok (.iconst 1, 1) := by decide +kernel
theorem dX3_constants_27 : decode cX3_constants 27 = .ok (.iadd, 1) := by decide +kernel
theorem dX3_constants_28 : decode cX3_constants 28 = .ok (.istore_n 1, 1) := by decide +kernel
theorem dX3_constants_29 : decode cX3_constants 29 = .ok (.iinc 2 1, 3) := by decide +kernel
theorem dX3_constants_32 : decode cX3_constants 32 = .ok (.goto (-28), 3) := by decide +kernel
theorem dX3_constants_35 : decode cX3_constants 35 = .ok (.iload_n 1, 1) := by decide +kernel
theorem dX3_constants_36 : decode cX3_constants 36 = .ok (.ireturn, 1) := by decide +kernel
theorem dX3_ofKind_0 : decode cX3_ofKind 0 = .ok (.iconst 0, 1) := by decide +kernel
theorem dX3_ofKind_1 : decode cX3_ofKind 1 = .ok (.istore_n 2, 1) := by decide +kernel
theorem dX3_ofKind_2 : decode cX3_ofKind 2 = .ok (.iconst 0, 1) := by decide +kernel
theorem dX3_ofKind_3 : decode cX3_ofKind 3 = .ok (.istore_n 3, 1) := by decide +kernel
theorem dX3_ofKind_4 : decode cX3_ofKind 4 = .ok (.iload_n 3, 1) := by decide +kernel
theorem dX3_ofKind_5 : decode cX3_ofKind 5 = .ok (.aload_n 0, 1) := by decide +kernel
theorem dX3_ofKind_6 : decode cX3_ofKind 6 = .ok (.getfield 97, 3) := by decide +kernel
theorem dX3_ofKind_9 : decode cX3_ofKind 9 = .ok (.if_icmp .ge 27, 3) := by decide +kernel
theorem dX3_ofKind_12 : decode cX3_ofKind 12 = .ok (.iload_n 2, 1) := by decide +kernel
theorem dX3_ofKind_13 : decode cX3_ofKind 13 = .ok (.aload_n 0, 1) := by decide +kernel
theorem dX3_ofKind_14 : decode cX3_ofKind 14 = .ok (.getfield 47, 3) := by decide +kernel
theorem dX3_ofKind_17 : decode cX3_ofKind 17 = .ok (.iload_n 3, 1) := by decide +kernel
theorem dX3_ofKind_18 : decode cX3_ofKind 18 = .ok (.iaload, 1) := by decide +kernel
theorem dX3_ofKind_19 : decode cX3_ofKind 19 = .ok (.iload_n 1, 1) := by decide +kernel
theorem dX3_ofKind_20 : decode cX3_ofKind 20 = .ok (.if_icmp .ne 7, 3) := by decide +kernel
theorem dX3_ofKind_23 : decode cX3_ofKind 23 = .ok (.iconst 1, 1) := by decide +kernel
theorem dX3_ofKind_24 : decode cX3_ofKind 24 = .ok (.goto 4, 3) := by decide +kernel
theorem dX3_ofKind_27 : decode cX3_ofKind 27 = .ok (.iconst 0, 1) := by decide +kernel
theorem dX3_ofKind_28 : decode cX3_ofKind 28 = .ok (.iadd, 1) := by decide +kernel
theorem dX3_ofKind_29 : decode cX3_ofKind 29 = .ok (.istore_n 2, 1) := by decide +kernel
theorem dX3_ofKind_30 : decode cX3_ofKind 30 = .ok (.iinc 3 1, 3) := by decide +kernel
theorem dX3_ofKind_33 : decode cX3_ofKind 33 = .ok (.goto (-29), 3) := by decide +kernel
theorem dX3_ofKind_36 : decode cX3_ofKind 36 = .ok (.iload_n 2, 1) := by decide +kernel
theorem dX3_ofKind_37 : decode cX3_ofKind 37 = .ok (.ireturn, 1) := by decide +kernel
theorem dX3_keep_0 : decode cX3_keep 0 = .ok (.aload_n 0, 1) := by decide +kernel
theorem dX3_keep_1 : decode cX3_keep 1 = .ok (.getfield 59, 3) := by decide +kernel
theorem dX3_keep_4 : decode cX3_keep 4 = .ok (.iconst 0, 1) := by decide +kernel
theorem dX3_keep_5 : decode cX3_keep 5 = .ok (.aload_n 0, 1) := by decide +kernel
theorem dX3_keep_6 : decode cX3_keep 6 = .ok (.getfield 97, 3) := by decide +kernel
theorem dX3_keep_9 : decode cX3_keep 9 = .ok (.iastore, 1) := by decide +kernel
theorem dX3_keep_10 : decode cX3_keep 10 = .ok (.aload_n 0, 1) := by decide +kernel
theorem dX3_keep_11 : decode cX3_keep 11 = .ok (.getfield 59, 3) := by decide +kernel
theorem dX3_keep_14 : decode cX3_keep 14 = .ok (.iconst 1, 1) := by decide +kernel
theorem dX3_keep_15 : decode cX3_keep 15 = .ok (.aload_n 0, 1) := by decide +kernel
theorem dX3_keep_16 : decode cX3_keep 16 = .ok (.getfield 90, 3) := by decide +kernel
theorem dX3_keep_19 : decode cX3_keep 19 = .ok (.iastore, 1) := by decide +kernel
theorem dX3_keep_20 : decode cX3_keep 20 = .ok (.aload_n 0, 1) := by decide +kernel
theorem dX3_keep_21 : decode cX3_keep 21 = .ok (.getfield 59, 3) := by decide +kernel
theorem dX3_keep_24 : decode cX3_keep 24 = .ok (.iconst 2, 1) := by decide +kernel
theorem dX3_keep_25 : decode cX3_keep 25 = .ok (.aload_n 0, 1) := by decide +kernel
theorem dX3_keep_26 : decode cX3_keep 26 = .ok (.getfield 86, 3) := by decide +kernel
theorem dX3_keep_29 : decode cX3_keep 29 = .ok (.iastore, 1) := by decide +kernel
theorem dX3_keep_30 : decode cX3_keep 30 = .ok (.aload_n 0, 1) := by decide +kernel
theorem dX3_keep_31 : decode cX3_keep 31 = .ok (.getfield 59, 3) := by decide +kernel
theorem dX3_keep_34 : decode cX3_keep 34 = .ok (.iconst 3, 1) := by decide +kernel
theorem dX3_keep_35 : decode cX3_keep 35 = .ok (.aload_n 0, 1) := by decide +kernel
theorem dX3_keep_36 : decode cX3_keep 36 = .ok (.getfield 103, 3) := by decide +kernel
theorem dX3_keep_39 : decode cX3_keep 39 = .ok (.iastore, 1) := by decide +kernel
theorem dX3_keep_40 : decode cX3_keep 40 = .ok (.aload_n 0, 1) := by decide +kernel
theorem dX3_keep_41 : decode cX3_keep 41 = .ok (.getfield 59, 3) := by decide +kernel
theorem dX3_keep_44 : decode cX3_keep 44 = .ok (.iconst 4, 1) := by decide +kernel
theorem dX3_keep_45 : decode cX3_keep 45 = .ok (.aload_n 0, 1) := by decide +kernel
theorem dX3_keep_46 : decode cX3_keep 46 = .ok (.getfield 100, 3) := by decide +kernel
theorem dX3_keep_49 : decode cX3_keep 49 = .ok (.iastore, 1) := by decide +kernel
theorem dX3_keep_50 : decode cX3_keep 50 = .ok (.return_, 1) := by decide +kernel
theorem dX3_goBack_0 : decode cX3_goBack 0 = .ok (.aload_n 0, 1) := by decide +kernel
theorem dX3_goBack_1 : decode cX3_goBack 1 = .ok (.getfield 59, 3) := by decide +kernel
theorem dX3_goBack_4 : decode cX3_goBack 4 = .ok (.iconst 0, 1) := by decide +kernel
theorem dX3_goBack_5 : decode cX3_goBack 5 = .ok (.iaload, 1) := by decide +kernel
theorem dX3_goBack_6 : decode cX3_goBack 6 = .ok (.istore_n 1, 1) := by decide +kernel
theorem dX3_goBack_7 : decode cX3_goBack 7 = .ok (.iload_n 1, 1) := by decide +kernel
theorem dX3_goBack_8 : decode cX3_goBack 8 = .ok (.aload_n 0, 1) := by decide +kernel
theorem dX3_goBack_9 : decode cX3_goBack 9 = .ok (.getfield 97, 3) := by decide +kernel
theorem dX3_goBack_12 : decode cX3_goBack 12 = .ok (.if_icmp .ge 43, 3) := by decide +kernel
theorem dX3_goBack_15 : decode cX3_goBack 15 = .ok (.aload_n 0, 1) := by decide +kernel
theorem dX3_goBack_16 : decode cX3_goBack 16 = .ok (.getfield 47, 3) := by decide +kernel
theorem dX3_goBack_19 : decode cX3_goBack 19 = .ok (.iload_n 1, 1) := by decide +kernel
theorem dX3_goBack_20 : decode cX3_goBack 20 = .ok (.iaload, 1) := by decide +kernel
theorem dX3_goBack_21 : decode cX3_goBack 21 = .ok (.ifCond .ne 28, 3) := by decide +kernel
theorem dX3_goBack_24 : decode cX3_goBack 24 = .ok (.aload_n 0, 1) := by decide +kernel
theorem dX3_goBack_25 : decode cX3_goBack 25 = .ok (.getfield 35, 3) := by decide +kernel
theorem dX3_goBack_28 : decode cX3_goBack 28 = .ok (.aload_n 0, 1) := by decide +kernel
theorem dX3_goBack_29 : decode cX3_goBack 29 = .ok (.iload_n 1, 1) := by decide +kernel
theorem dX3_goBack_30 : decode cX3_goBack 30 = .ok (.invokevirtual 106, 3) := by decide +kernel
theorem dX3_goBack_33 : decode cX3_goBack 33 = .ok (.iaload, 1) := by decide +kernel
theorem dX3_goBack_34 : decode cX3_goBack 34 = .ok (.iload_n 1, 1) := by decide +kernel
theorem dX3_goBack_35 : decode cX3_goBack 35 = .ok (.if_icmp .ne 14, 3) := by decide +kernel
theorem dX3_goBack_38 : decode cX3_goBack 38 = .ok (.aload_n 0, 1) := by decide +kernel
theorem dX3_goBack_39 : decode cX3_goBack 39 = .ok (.getfield 35, 3) := by decide +kernel
theorem dX3_goBack_42 : decode cX3_goBack 42 = .ok (.aload_n 0, 1) := by decide +kernel
theorem dX3_goBack_43 : decode cX3_goBack 43 = .ok (.iload_n 1, 1) := by decide +kernel
theorem dX3_goBack_44 : decode cX3_goBack 44 = .ok (.invokevirtual 106, 3) := by decide +kernel
theorem dX3_goBack_47 : decode cX3_goBack 47 = .ok (.iconst (-1), 1) := by decide +kernel
theorem dX3_goBack_48 : decode cX3_goBack 48 = .ok (.iastore, 1) := by decide +kernel
theorem dX3_goBack_49 : decode cX3_goBack 49 = .ok (.iinc 1 1, 3) := by decide +kernel
theorem dX3_goBack_52 : decode cX3_goBack 52 = .ok (.goto (-45), 3) := by decide +kernel
theorem dX3_goBack_55 : decode cX3_goBack 55 = .ok (.aload_n 0, 1) := by decide +kernel
theorem dX3_goBack_56 : decode cX3_goBack 56 = .ok (.getfield 59, 3) := by decide +kernel
theorem dX3_goBack_59 : decode cX3_goBack 59 = .ok (.iconst 3, 1) := by decide +kernel
theorem dX3_goBack_60 : decode cX3_goBack 60 = .ok (.iaload, 1) := by decide +kernel
theorem dX3_goBack_61 : decode cX3_goBack 61 = .ok (.istore_n 1, 1) := by decide +kernel
theorem dX3_goBack_62 : decode cX3_goBack 62 = .ok (.iload_n 1, 1) := by decide +kernel
theorem dX3_goBack_63 : decode cX3_goBack 63 = .ok (.aload_n 0, 1) := by decide +kernel
theorem dX3_goBack_64 : decode cX3_goBack 64 = .ok (.getfield 103, 3) := by decide +kernel
theorem dX3_goBack_67 : decode cX3_goBack 67 = .ok (.if_icmp .ge 21, 3) := by decide +kernel
theorem dX3_goBack_70 : decode cX3_goBack 70 = .ok (.aload_n 0, 1) := by decide +kernel
theorem dX3_goBack_71 : decode cX3_goBack 71 = .ok (.getfield 38, 3) := by decide +kernel
theorem dX3_goBack_74 : decode cX3_goBack 74 = .ok (.aload_n 0, 1) := by decide +kernel
theorem dX3_goBack_75 : decode cX3_goBack 75 = .ok (.getfield 41, 3) := by decide +kernel
theorem dX3_goBack_78 : decode cX3_goBack 78 = .ok (.iload_n 1, 1) := by decide +kernel
theorem dX3_goBack_79 : decode cX3_goBack 79 = .ok (.iaload, 1) := by decide +kernel
theorem dX3_goBack_80 : decode cX3_goBack 80 = .ok (.iconst (-1), 1) := by decide +kernel
theorem dX3_goBack_81 : decode cX3_goBack 81 = .ok (.iastore, 1) := by decide +kernel
theorem dX3_goBack_82 : decode cX3_goBack 82 = .ok (.iinc 1 1, 3) := by decide +kernel
theorem dX3_goBack_85 : decode cX3_goBack 85 = .ok (.goto (-23), 3) := by decide +kernel
theorem dX3_goBack_88 : decode cX3_goBack 88 = .ok (.aload_n 0, 1) := by decide +kernel
theorem dX3_goBack_89 : decode cX3_goBack 89 = .ok (.getfield 86, 3) := by decide +kernel
theorem dX3_goBack_92 : decode cX3_goBack 92 = .ok (.iconst 1, 1) := by decide +kernel
theorem dX3_goBack_93 : decode cX3_goBack 93 = .ok (.isub, 1) := by decide +kernel
theorem dX3_goBack_94 : decode cX3_goBack 94 = .ok (.istore_n 1, 1) := by decide +kernel
theorem dX3_goBack_95 : decode cX3_goBack 95 = .ok (.iload_n 1, 1) := by decide +kernel
theorem dX3_goBack_96 : decode cX3_goBack 96 = .ok (.aload_n 0, 1) := by decide +kernel
theorem dX3_goBack_97 : decode cX3_goBack 97 = .ok (.getfield 59, 3) := by decide +kernel
theorem dX3_goBack_100 : decode cX3_goBack 100 = .ok (.iconst 2, 1) := by decide +kernel
theorem dX3_goBack_101 : decode cX3_goBack 101 = .ok (.iaload, 1) := by decide +kernel
theorem dX3_goBack_102 : decode cX3_goBack 102 = .ok (.if_icmp .lt 48, 3) := by decide +kernel
theorem dX3_goBack_105 : decode cX3_goBack 105 = .ok (.aload_n 0, 1) := by decide +kernel
theorem dX3_goBack_106 : decode cX3_goBack 106 = .ok (.getfield 25, 3) := by decide +kernel
theorem dX3_goBack_109 : decode cX3_goBack 109 = .ok (.aload_n 0, 1) := by decide +kernel
theorem dX3_goBack_110 : decode cX3_goBack 110 = .ok (.getfield 9, 3) := by decide +kernel
theorem dX3_goBack_113 : decode cX3_goBack 113 = .ok (.aload_n 0, 1) := by decide +kernel
theorem dX3_goBack_114 : decode cX3_goBack 114 = .ok (.getfield 15, 3) := by decide +kernel
theorem dX3_goBack_117 : decode cX3_goBack 117 = .ok (.iload_n 1, 1) := by decide +kernel
theorem dX3_goBack_118 : decode cX3_goBack 118 = .ok (.iaload, 1) := by decide +kernel
theorem dX3_goBack_119 : decode cX3_goBack 119 = .ok (.aload_n 0, 1) := by decide +kernel
theorem dX3_goBack_120 : decode cX3_goBack 120 = .ok (.getfield 15, 3) := by decide +kernel
theorem dX3_goBack_123 : decode cX3_goBack 123 = .ok (.iload_n 1, 1) := by decide +kernel
theorem dX3_goBack_124 : decode cX3_goBack 124 = .ok (.iconst 1, 1) := by decide +kernel
theorem dX3_goBack_125 : decode cX3_goBack 125 = .ok (.iadd, 1) := by decide +kernel
theorem dX3_goBack_126 : decode cX3_goBack 126 = .ok (.iaload, 1) := by decide +kernel
theorem dX3_goBack_127 : decode cX3_goBack 127 = .ok (.aload_n 0, 1) := by decide +kernel
theorem dX3_goBack_128 : decode cX3_goBack 128 = .ok (.getfield 15, 3) := by decide +kernel
theorem dX3_goBack_131 : decode cX3_goBack 131 = .ok (.iload_n 1, 1) := by decide +kernel
theorem dX3_goBack_132 : decode cX3_goBack 132 = .ok (.iaload, 1) := by decide +kernel
theorem dX3_goBack_133 : decode cX3_goBack 133 = .ok (.isub, 1) := by decide +kernel
theorem dX3_goBack_134 : decode cX3_goBack 134 = .ok (.invokestatic 62, 3) := by decide +kernel
theorem dX3_goBack_137 : decode cX3_goBack 137 = .ok (.aload_n 0, 1) := by decide +kernel
theorem dX3_goBack_138 : decode cX3_goBack 138 = .ok (.getfield 22, 3) := by decide +kernel
theorem dX3_goBack_141 : decode cX3_goBack 141 = .ok (.iload_n 1, 1) := by decide +kernel
theorem dX3_goBack_142 : decode cX3_goBack 142 = .ok (.iaload, 1) := by decide +kernel
theorem dX3_goBack_143 : decode cX3_goBack 143 = .ok (.iastore, 1) := by decide +kernel
theorem dX3_goBack_144 : decode cX3_goBack 144 = .ok (.iinc 1 (-1), 3) := by decide +kernel
theorem dX3_goBack_147 : decode cX3_goBack 147 = .ok (.goto (-52), 3) := by decide +kernel
theorem dX3_goBack_150 : decode cX3_goBack 150 = .ok (.aload_n 0, 1) := by decide +kernel
theorem dX3_goBack_151 : decode cX3_goBack 151 = .ok (.aload_n 0, 1) := by decide +kernel
theorem dX3_goBack_152 : decode cX3_goBack 152 = .ok (.getfield 59, 3) := by decide +kernel
theorem dX3_goBack_155 : decode cX3_goBack 155 = .ok (.iconst 0, 1) := by decide +kernel
theorem dX3_goBack_156 : decode cX3_goBack 156 = .ok (.iaload, 1) := by decide +kernel
theorem dX3_goBack_157 : decode cX3_goBack 157 = .ok (.putfield 97, 3) := by decide +kernel
theorem dX3_goBack_160 : decode cX3_goBack 160 = .ok (.aload_n 0, 1) := by decide +kernel
theorem dX3_goBack_161 : decode cX3_goBack 161 = .ok (.aload_n 0, 1) := by decide +kernel
theorem dX3_goBack_162 : decode cX3_goBack 162 = .ok (.getfield 59, 3) := by decide +kernel
theorem dX3_goBack_165 : decode cX3_goBack 165 = .ok (.iconst 1, 1) := by decide +kernel
theorem dX3_goBack_166 : decode cX3_goBack 166 = .ok (.iaload, 1) := by decide +kernel
theorem dX3_goBack_167 : decode cX3_goBack 167 = .ok (.putfield 90, 3) := by decide +kernel
theorem dX3_goBack_170 : decode cX3_goBack 170 = .ok (.aload_n 0, 1) := by decide +kernel
theorem dX3_goBack_171 : decode cX3_goBack 171 = .ok (.aload_n 0, 1) := by decide +kernel
theorem dX3_goBack_172 : decode cX3_goBack 172 = .ok (.getfield 59, 3) := by decide +kernel
theorem dX3_goBack_175 : decode cX3_goBack 175 = .ok (.iconst 2, 1) := by decide +kernel
theorem dX3_goBack_176 : decode cX3_goBack 176 = .ok (.iaload, 1) := by decide +kernel
theorem dX3_goBack_177 : decode cX3_goBack 177 = .ok (.putfield 86, 3) := by decide +kernel
theorem dX3_goBack_180 : decode cX3_goBack 180 = .ok (.aload_n 0, 1) := by decide +kernel
theorem dX3_goBack_181 : decode cX3_goBack 181 = .ok (.aload_n 0, 1) := by decide +kernel
theorem dX3_goBack_182 : decode cX3_goBack 182 = .ok (.getfield 59, 3) := by decide +kernel
theorem dX3_goBack_185 : decode cX3_goBack 185 = .ok (.iconst 3, 1) := by decide +kernel
theorem dX3_goBack_186 : decode cX3_goBack 186 = .ok (.iaload, 1) := by decide +kernel
theorem dX3_goBack_187 : decode cX3_goBack 187 = .ok (.putfield 103, 3) := by decide +kernel
theorem dX3_goBack_190 : decode cX3_goBack 190 = .ok (.aload_n 0, 1) := by decide +kernel
theorem dX3_goBack_191 : decode cX3_goBack 191 = .ok (.aload_n 0, 1) := by decide +kernel
theorem dX3_goBack_192 : decode cX3_goBack 192 = .ok (.getfield 59, 3) := by decide +kernel
theorem dX3_goBack_195 : decode cX3_goBack 195 = .ok (.iconst 4, 1) := by decide +kernel
theorem dX3_goBack_196 : decode cX3_goBack 196 = .ok (.iaload, 1) := by decide +kernel
theorem dX3_goBack_197 : decode cX3_goBack 197 = .ok (.putfield 100, 3) := by decide +kernel
theorem dX3_goBack_200 : decode cX3_goBack 200 = .ok (.return_, 1) := by decide +kernel
theorem dX9_init_0 : decode cX9_init 0 = .ok (.aload_n 0, 1) := by decide +kernel
theorem dX9_init_1 : decode cX9_init 1 = .ok (.invokespecial 3, 3) := by decide +kernel
theorem dX9_init_4 : decode cX9_init 4 = .ok (.aload_n 0, 1) := by decide +kernel
theorem dX9_init_5 : decode cX9_init 5 = .ok (.sipush 1000, 3) := by decide +kernel
theorem dX9_init_8 : decode cX9_init 8 = .ok (.newarray .boolean, 2) := by decide +kernel
theorem dX9_init_10 : decode cX9_init 10 = .ok (.putfield 9, 3) := by decide +kernel
theorem dX9_init_13 : decode cX9_init 13 = .ok (.aload_n 0, 1) := by decide +kernel
theorem dX9_init_14 : decode cX9_init 14 = .ok (.sipush 1000, 3) := by decide +kernel
theorem dX9_init_17 : decode cX9_init 17 = .ok (.newarray .int, 2) := by decide +kernel
theorem dX9_init_19 : decode cX9_init 19 = .ok (.putfield 15, 3) := by decide +kernel
theorem dX9_init_22 : decode cX9_init 22 = .ok (.aload_n 0, 1) := by decide +kernel
theorem dX9_init_23 : decode cX9_init 23 = .ok (.sipush 1000, 3) := by decide +kernel
theorem dX9_init_26 : decode cX9_init 26 = .ok (.newarray .int, 2) := by decide +kernel
theorem dX9_init_28 : decode cX9_init 28 = .ok (.putfield 19, 3) := by decide +kernel
theorem dX9_init_31 : decode cX9_init 31 = .ok (.aload_n 0, 1) := by decide +kernel
theorem dX9_init_32 : decode cX9_init 32 = .ok (.sipush 1500, 3) := by decide +kernel
theorem dX9_init_35 : decode cX9_init 35 = .ok (.newarray .boolean, 2) := by decide +kernel
theorem dX9_init_37 : decode cX9_init 37 = .ok (.putfield 22, 3) := by decide +kernel
theorem dX9_init_40 : decode cX9_init 40 = .ok (.aload_n 0, 1) := by decide +kernel
theorem dX9_init_41 : decode cX9_init 41 = .ok (.sipush 1500, 3) := by decide +kernel
theorem dX9_init_44 : decode cX9_init 44 = .ok (.newarray .int, 2) := by decide +kernel
theorem dX9_init_46 : decode cX9_init 46 = .ok (.putfield 25, 3) := by decide +kernel
theorem dX9_init_49 : decode cX9_init 49 = .ok (.aload_n 0, 1) := by decide +kernel
theorem dX9_init_50 : decode cX9_init 50 = .ok (.sipush 1000, 3) := by decide +kernel
theorem dX9_init_53 : decode cX9_init 53 = .ok (.newarray .int, 2) := by decide +kernel
theorem dX9_init_55 : decode cX9_init 55 = .ok (.putfield 28, 3) := by decide +kernel
theorem dX9_init_58 : decode cX9_init 58 = .ok (.aload_n 0, 1) := by decide +kernel
theorem dX9_init_59 : decode cX9_init 59 = .ok (.sipush 1000, 3) := by decide +kernel
theorem dX9_init_62 : decode cX9_init 62 = .ok (.newarray .int, 2) := by decide +kernel
theorem dX9_init_64 : decode cX9_init 64 = .ok (.putfield 31, 3) := by decide +kernel
theorem dX9_init_67 : decode cX9_init 67 = .ok (.aload_n 0, 1) := by decide +kernel
theorem dX9_init_68 : decode cX9_init 68 = .ok (.sipush 16000, 3) := by decide +kernel
theorem dX9_init_71 : decode cX9_init 71 = .ok (.newarray .long, 2) := by decide +kernel
theorem dX9_init_73 : decode cX9_init 73 = .ok (.putfield 34, 3) := by decide +kernel
theorem dX9_init_76 : decode cX9_init 76 = .ok (.aload_n 0, 1) := by decide +kernel
theorem dX9_init_77 : decode cX9_init 77 = .ok (.sipush 153, 3) := by decide +kernel
theorem dX9_init_80 : decode cX9_init 80 = .ok (.newarray .int, 2) := by decide +kernel
theorem dX9_init_82 : decode cX9_init 82 = .ok (.putfield 38, 3) := by decide +kernel
theorem dX9_init_85 : decode cX9_init 85 = .ok (.aload_n 0, 1) := by decide +kernel
theorem dX9_init_86 : decode cX9_init 86 = .ok (.sipush 1000, 3) := by decide +kernel
theorem dX9_init_89 : decode cX9_init 89 = .ok (.newarray .int, 2) := by decide +kernel
theorem dX9_init_91 : decode cX9_init 91 = .ok (.putfield 41, 3) := by decide +kernel
theorem dX9_init_94 : decode cX9_init 94 = .ok (.aload_n 0, 1) := by decide +kernel
theorem dX9_init_95 : decode cX9_init 95 = .ok (.aload_n 1, 1) := by decide +kernel
theorem dX9_init_96 : decode cX9_init 96 = .ok (.putfield 44, 3) := by decide +kernel
theorem dX9_init_99 : decode cX9_init 99 = .ok (.aload_n 0, 1) := by decide +kernel
theorem dX9_init_100 : decode cX9_init 100 = .ok (.getfield 15, 3) := by decide +kernel
theorem dX9_init_103 : decode cX9_init 103 = .ok (.iconst (-1), 1) := by decide +kernel
theorem dX9_init_104 : decode cX9_init 104 = .ok (.invokestatic 48, 3) := by decide +kernel
theorem dX9_init_107 : decode cX9_init 107 = .ok (.return_, 1) := by decide +kernel
theorem dX9_keep_0 : decode cX9_keep 0 = .ok (.aload_n 0, 1) := by decide +kernel
theorem dX9_keep_1 : decode cX9_keep 1 = .ok (.iconst 0, 1) := by decide +kernel
theorem dX9_keep_2 : decode cX9_keep 2 = .ok (.putfield 54, 3) := by decide +kernel
theorem dX9_keep_5 : decode cX9_keep 5 = .ok (.aload_n 0, 1) := by decide +kernel
theorem dX9_keep_6 : decode cX9_keep 6 = .ok (.invokevirtual 58, 3) := by decide +kernel
theorem dX9_keep_9 : decode cX9_keep 9 = .ok (.return_, 1) := by decide +kernel
theorem dX9_goBack_0 : decode cX9_goBack 0 = .ok (.aload_n 0, 1) := by decide +kernel
theorem dX9_goBack_1 : decode cX9_goBack 1 = .ok (.iconst 0, 1) := by decide +kernel
theorem dX9_goBack_2 : decode cX9_goBack 2 = .ok (.putfield 54, 3) := by decide +kernel
theorem dX9_goBack_5 : decode cX9_goBack 5 = .ok (.aload_n 0, 1) := by decide +kernel
theorem dX9_goBack_6 : decode cX9_goBack 6 = .ok (.invokevirtual 61, 3) := by decide +kernel
theorem dX9_goBack_9 : decode cX9_goBack 9 = .ok (.return_, 1) := by decide +kernel
theorem dX9_open_0 : decode cX9_open 0 = .ok (.aload_n 0, 1) := by decide +kernel
theorem dX9_open_1 : decode cX9_open 1 = .ok (.dup, 1) := by decide +kernel
theorem dX9_open_2 : decode cX9_open 2 = .ok (.getfield 54, 3) := by decide +kernel
theorem dX9_open_5 : decode cX9_open 5 = .ok (.iconst 1, 1) := by decide +kernel
theorem dX9_open_6 : decode cX9_open 6 = .ok (.iadd, 1) := by decide +kernel
theorem dX9_open_7 : decode cX9_open 7 = .ok (.putfield 54, 3) := by decide +kernel
theorem dX9_open_10 : decode cX9_open 10 = .ok (.aload_n 0, 1) := by decide +kernel
theorem dX9_open_11 : decode cX9_open 11 = .ok (.invokevirtual 58, 3) := by decide +kernel
theorem dX9_open_14 : decode cX9_open 14 = .ok (.return_, 1) := by decide +kernel
theorem dX9_close_0 : decode cX9_close 0 = .ok (.aload_n 0, 1) := by decide +kernel
theorem dX9_close_1 : decode cX9_close 1 = .ok (.invokevirtual 61, 3) := by decide +kernel
theorem dX9_close_4 : decode cX9_close 4 = .ok (.aload_n 0, 1) := by decide +kernel
theorem dX9_close_5 : decode cX9_close 5 = .ok (.dup, 1) := by decide +kernel
theorem dX9_close_6 : decode cX9_close 6 = .ok (.getfield 54, 3) := by decide +kernel
theorem dX9_close_9 : decode cX9_close 9 = .ok (.iconst 1, 1) := by decide +kernel
theorem dX9_close_10 : decode cX9_close 10 = .ok (.isub, 1) := by decide +kernel
theorem dX9_close_11 : decode cX9_close 11 = .ok (.putfield 54, 3) := by decide +kernel
theorem dX9_close_14 : decode cX9_close 14 = .ok (.return_, 1) := by decide +kernel
theorem dX9_mark_0 : decode cX9_mark 0 = .ok (.aload_n 0, 1) := by decide +kernel
theorem dX9_mark_1 : decode cX9_mark 1 = .ok (.getfield 38, 3) := by decide +kernel
theorem dX9_mark_4 : decode cX9_mark 4 = .ok (.iconst 3, 1) := by decide +kernel
theorem dX9_mark_5 : decode cX9_mark 5 = .ok (.aload_n 0, 1) := by decide +kernel
theorem dX9_mark_6 : decode cX9_mark 6 = .ok (.getfield 54, 3) := by decide +kernel
theorem dX9_mark_9 : decode cX9_mark 9 = .ok (.imul, 1) := by decide +kernel
theorem dX9_mark_10 : decode cX9_mark 10 = .ok (.aload_n 0, 1) := by decide +kernel
theorem dX9_mark_11 : decode cX9_mark 11 = .ok (.getfield 64, 3) := by decide +kernel
theorem dX9_mark_14 : decode cX9_mark 14 = .ok (.iastore, 1) := by decide +kernel
theorem dX9_mark_15 : decode cX9_mark 15 = .ok (.aload_n 0, 1) := by decide +kernel
theorem dX9_mark_16 : decode cX9_mark 16 = .ok (.getfield 38, 3) := by decide +kernel
theorem dX9_mark_19 : decode cX9_mark 19 = .ok (.iconst 3, 1) := by decide +kernel
theorem dX9_mark_20 : decode cX9_mark 20 = .ok (.aload_n 0, 1) := by decide +kernel
theorem dX9_mark_21 : decode cX9_mark 21 = .ok (.getfield 54, 3) := by decide +kernel
theorem dX9_mark_24 : decode cX9_mark 24 = .ok (.imul, 1) := by decide +kernel
theorem dX9_mark_25 : decode cX9_mark 25 = .ok (.iconst 1, 1) := by decide +kernel
theorem dX9_mark_26 : decode cX9_mark 26 = .ok (.iadd, 1) := by decide +kernel
theorem dX9_mark_27 : decode cX9_mark 27 = .ok (.aload_n 0, 1) := by decide +kernel
theorem dX9_mark_28 : decode cX9_mark 28 = .ok (.getfield 67, 3) := by decide +kernel
theorem dX9_mark_31 : decode cX9_mark 31 = .ok (.iastore, 1) := by decide +kernel
theorem dX9_mark_32 : decode cX9_mark 32 = .ok (.aload_n 0, 1) := by decide +kernel
theorem dX9_mark_33 : decode cX9_mark 33 = .ok (.getfield 38, 3) := by decide +kernel
theorem dX9_mark_36 : decode cX9_mark 36 = .ok (.iconst 3, 1) := by decide +kernel
theorem dX9_mark_37 : decode cX9_mark 37 = .ok (.aload_n 0, 1) := by decide +kernel
theorem dX9_mark_38 : decode cX9_mark 38 = .ok (.getfield 54, 3) := by decide +kernel
theorem dX9_mark_41 : decode cX9_mark 41 = .ok (.imul, 1) := by decide +kernel
theorem dX9_mark_42 : decode cX9_mark 42 = .ok (.iconst 2, 1) := by decide +kernel
theorem dX9_mark_43 : decode cX9_mark 43 = .ok (.iadd, 1) := by decide +kernel
theorem dX9_mark_44 : decode cX9_mark 44 = .ok (.aload_n 0, 1) := by decide +kernel
theorem dX9_mark_45 : decode cX9_mark 45 = .ok (.getfield 70, 3) := by decide +kernel
theorem dX9_mark_48 : decode cX9_mark 48 = .ok (.iastore, 1) := by decide +kernel
theorem dX9_mark_49 : decode cX9_mark 49 = .ok (.return_, 1) := by decide +kernel
theorem dX9_cut_0 : decode cX9_cut 0 = .ok (.aload_n 0, 1) := by decide +kernel
theorem dX9_cut_1 : decode cX9_cut 1 = .ok (.getfield 38, 3) := by decide +kernel
theorem dX9_cut_4 : decode cX9_cut 4 = .ok (.iconst 3, 1) := by decide +kernel
theorem dX9_cut_5 : decode cX9_cut 5 = .ok (.aload_n 0, 1) := by decide +kernel
theorem dX9_cut_6 : decode cX9_cut 6 = .ok (.getfield 54, 3) := by decide +kernel
theorem dX9_cut_9 : decode cX9_cut 9 = .ok (.imul, 1) := by decide +kernel
theorem dX9_cut_10 : decode cX9_cut 10 = .ok (.iconst 2, 1) := by decide +kernel
theorem dX9_cut_11 : decode cX9_cut 11 = .ok (.iadd, 1) := by decide +kernel
theorem dX9_cut_12 : decode cX9_cut 12 = .ok (.iaload, 1) := by decide +kernel
theorem dX9_cut_13 : decode cX9_cut 13 = .ok (.istore_n 1, 1) := by decide +kernel
theorem dX9_cut_14 : decode cX9_cut 14 = .ok (.iload_n 1, 1) := by decide +kernel
theorem dX9_cut_15 : decode cX9_cut 15 = .ok (.aload_n 0, 1) := by decide +kernel
theorem dX9_cut_16 : decode cX9_cut 16 = .ok (.getfield 70, 3) := by decide +kernel
theorem dX9_cut_19 : decode cX9_cut 19 = .ok (.if_icmp .ge 25, 3) := by decide +kernel
theorem dX9_cut_22 : decode cX9_cut 22 = .ok (.aload_n 0, 1) := by decide +kernel
theorem dX9_cut_23 : decode cX9_cut 23 = .ok (.aload_n 0, 1) := by decide +kernel
theorem dX9_cut_24 : decode cX9_cut 24 = .ok (.getfield 28, 3) := by decide +kernel
theorem dX9_cut_27 : decode cX9_cut 27 = .ok (.iload_n 1, 1) := by decide +kernel
theorem dX9_cut_28 : decode cX9_cut 28 = .ok (.iaload, 1) := by decide +kernel
theorem dX9_cut_29 : decode cX9_cut 29 = .ok (.aload_n 0, 1) := by decide +kernel
theorem dX9_cut_30 : decode cX9_cut 30 = .ok (.getfield 31, 3) := by decide +kernel
theorem dX9_cut_33 : decode cX9_cut 33 = .ok (.iload_n 1, 1) := by decide +kernel
theorem dX9_cut_34 : decode cX9_cut 34 = .ok (.iaload, 1) := by decide +kernel
theorem dX9_cut_35 : decode cX9_cut 35 = .ok (.invokevirtual 73, 3) := by decide +kernel
theorem dX9_cut_38 : decode cX9_cut 38 = .ok (.iinc 1 1, 3) := by decide +kernel
theorem dX9_cut_41 : decode cX9_cut 41 = .ok (.goto (-27), 3) := by decide +kernel
theorem dX9_cut_44 : decode cX9_cut 44 = .ok (.aload_n 0, 1) := by decide +kernel
theorem dX9_cut_45 : decode cX9_cut 45 = .ok (.aload_n 0, 1) := by decide +kernel
theorem dX9_cut_46 : decode cX9_cut 46 = .ok (.getfield 38, 3) := by decide +kernel
theorem dX9_cut_49 : decode cX9_cut 49 = .ok (.iconst 3, 1) := by decide +kernel
theorem dX9_cut_50 : decode cX9_cut 50 = .ok (.aload_n 0, 1) := by decide +kernel
theorem dX9_cut_51 : decode cX9_cut 51 = .ok (.getfield 54, 3) := by decide +kernel
theorem dX9_cut_54 : decode cX9_cut 54 = .ok (.imul, 1) := by decide +kernel
theorem dX9_cut_55 : decode cX9_cut 55 = .ok (.iconst 2, 1) := by decide +kernel
theorem dX9_cut_56 : decode cX9_cut 56 = .ok (.iadd, 1) := by decide +kernel
theorem dX9_cut_57 : decode cX9_cut 57 = .ok (.iaload, 1) := by decide +kernel
theorem dX9_cut_58 : decode cX9_cut 58 = .ok (.putfield 70, 3) := by decide +kernel
theorem dX9_cut_61 : decode cX9_cut 61 = .ok (.aload_n 0, 1) := by decide +kernel
theorem dX9_cut_62 : decode cX9_cut 62 = .ok (.getfield 38, 3) := by decide +kernel
theorem dX9_cut_65 : decode cX9_cut 65 = .ok (.iconst 3, 1) := by decide +kernel
theorem dX9_cut_66 : decode cX9_cut 66 = .ok (.aload_n 0, 1) := by decide +kernel
theorem dX9_cut_67 : decode cX9_cut 67 = .ok (.getfield 54, 3) := by decide +kernel
theorem dX9_cut_70 : decode cX9_cut 70 = .ok (.imul, 1) := by decide +kernel
theorem dX9_cut_71 : decode cX9_cut 71 = .ok (.iconst 1, 1) := by decide +kernel
theorem dX9_cut_72 : decode cX9_cut 72 = .ok (.iadd, 1) := by decide +kernel
theorem dX9_cut_73 : decode cX9_cut 73 = .ok (.iaload, 1) := by decide +kernel
theorem dX9_cut_74 : decode cX9_cut 74 = .ok (.istore_n 1, 1) := by decide +kernel
theorem dX9_cut_75 : decode cX9_cut 75 = .ok (.iload_n 1, 1) := by decide +kernel
theorem dX9_cut_76 : decode cX9_cut 76 = .ok (.aload_n 0, 1) := by decide +kernel
theorem dX9_cut_77 : decode cX9_cut 77 = .ok (.getfield 67, 3) := by decide +kernel
theorem dX9_cut_80 : decode cX9_cut 80 = .ok (.if_icmp .ge 57, 3) := by decide +kernel
theorem dX9_cut_83 : decode cX9_cut 83 = .ok (.aload_n 0, 1) := by decide +kernel
theorem dX9_cut_84 : decode cX9_cut 84 = .ok (.getfield 22, 3) := by decide +kernel
theorem dX9_cut_87 : decode cX9_cut 87 = .ok (.aload_n 0, 1) := by decide +kernel
theorem dX9_cut_88 : decode cX9_cut 88 = .ok (.getfield 25, 3) := by decide +kernel
theorem dX9_cut_91 : decode cX9_cut 91 = .ok (.iload_n 1, 1) := by decide +kernel
theorem dX9_cut_92 : decode cX9_cut 92 = .ok (.iaload, 1) := by decide +kernel
theorem dX9_cut_93 : decode cX9_cut 93 = .ok (.iconst 0, 1) := by decide +kernel
theorem dX9_cut_94 : decode cX9_cut 94 = .ok (.bastore, 1) := by decide +kernel
theorem dX9_cut_95 : decode cX9_cut 95 = .ok (.aload_n 0, 1) := by decide +kernel
theorem dX9_cut_96 : decode cX9_cut 96 = .ok (.getfield 44, 3) := by decide +kernel
theorem dX9_cut_99 : decode cX9_cut 99 = .ok (.getfield 77, 3) := by decide +kernel
theorem dX9_cut_102 : decode cX9_cut 102 = .ok (.aload_n 0, 1) := by decide +kernel
theorem dX9_cut_103 : decode cX9_cut 103 = .ok (.getfield 25, 3) := by decide +kernel
theorem dX9_cut_106 : decode cX9_cut 106 = .ok (.iload_n 1, 1) := by decide +kernel
theorem dX9_cut_107 : decode cX9_cut 107 = .ok (.iaload, 1) := by decide +kernel
theorem dX9_cut_108 : decode cX9_cut 108 = .ok (.iaload, 1) := by decide +kernel
theorem dX9_cut_109 : decode cX9_cut 109 = .ok (.ifCond .ne 22, 3) := by decide +kernel
theorem dX9_cut_112 : decode cX9_cut 112 = .ok (.aload_n 0, 1) := by decide +kernel
theorem dX9_cut_113 : decode cX9_cut 113 = .ok (.getfield 15, 3) := by decide +kernel
theorem dX9_cut_116 : decode cX9_cut 116 = .ok (.aload_n 0, 1) := by decide +kernel
theorem dX9_cut_117 : decode cX9_cut 117 = .ok (.getfield 44, 3) := by decide +kernel
theorem dX9_cut_120 : decode cX9_cut 120 = .ok (.aload_n 0, 1) := by decide +kernel
theorem dX9_cut_121 : decode cX9_cut 121 = .ok (.getfield 25, 3) := by decide +kernel
theorem dX9_cut_124 : decode cX9_cut 124 = .ok (.iload_n 1, 1) := by decide +kernel
theorem dX9_cut_125 : decode cX9_cut 125 = .ok (.iaload, 1) := by decide +kernel
theorem dX9_cut_126 : decode cX9_cut 126 = .ok (.invokevirtual 82, 3) := by decide +kernel
theorem dX9_cut_129 : decode cX9_cut 129 = .ok (.iconst (-1), 1) := by decide +kernel
theorem dX9_cut_130 : decode cX9_cut 130 = .ok (.iastore, 1) := by decide +kernel
theorem dX9_cut_131 : decode cX9_cut 131 = .ok (.iinc 1 1, 3) := by decide +kernel
theorem dX9_cut_134 : decode cX9_cut 134 = .ok (.goto (-59), 3) := by decide +kernel
theorem dX9_cut_137 : decode cX9_cut 137 = .ok (.aload_n 0, 1) := by decide +kernel
theorem dX9_cut_138 : decode cX9_cut 138 = .ok (.aload_n 0, 1) := by decide +kernel
theorem dX9_cut_139 : decode cX9_cut 139 = .ok (.getfield 38, 3) := by decide +kernel
theorem dX9_cut_142 : decode cX9_cut 142 = .ok (.iconst 3, 1) := by decide +kernel
theorem dX9_cut_143 : decode cX9_cut 143 = .ok (.aload_n 0, 1) := by decide +kernel
theorem dX9_cut_144 : decode cX9_cut 144 = .ok (.getfield 54, 3) := by decide +kernel
theorem dX9_cut_147 : decode cX9_cut 147 = .ok (.imul, 1) := by decide +kernel
theorem dX9_cut_148 : decode cX9_cut 148 = .ok (.iconst 1, 1) := by decide +kernel
theorem dX9_cut_149 : decode cX9_cut 149 = .ok (.iadd, 1) := by decide +kernel
theorem dX9_cut_150 : decode cX9_cut 150 = .ok (.iaload, 1) := by decide +kernel
theorem dX9_cut_151 : decode cX9_cut 151 = .ok (.putfield 67, 3) := by decide +kernel
theorem dX9_cut_154 : decode cX9_cut 154 = .ok (.aload_n 0, 1) := by decide +kernel
theorem dX9_cut_155 : decode cX9_cut 155 = .ok (.getfield 38, 3) := by decide +kernel
theorem dX9_cut_158 : decode cX9_cut 158 = .ok (.iconst 3, 1) := by decide +kernel
theorem dX9_cut_159 : decode cX9_cut 159 = .ok (.aload_n 0, 1) := by decide +kernel
theorem dX9_cut_160 : decode cX9_cut 160 = .ok (.getfield 54, 3) := by decide +kernel
theorem dX9_cut_163 : decode cX9_cut 163 = .ok (.imul, 1) := by decide +kernel
theorem dX9_cut_164 : decode cX9_cut 164 = .ok (.iaload, 1) := by decide +kernel
theorem dX9_cut_165 : decode cX9_cut 165 = .ok (.istore_n 1, 1) := by decide +kernel
theorem dX9_cut_166 : decode cX9_cut 166 = .ok (.iload_n 1, 1) := by decide +kernel
theorem dX9_cut_167 : decode cX9_cut 167 = .ok (.aload_n 0, 1) := by decide +kernel
theorem dX9_cut_168 : decode cX9_cut 168 = .ok (.getfield 64, 3) := by decide +kernel
theorem dX9_cut_171 : decode cX9_cut 171 = .ok (.if_icmp .ge 21, 3) := by decide +kernel
theorem dX9_cut_174 : decode cX9_cut 174 = .ok (.aload_n 0, 1) := by decide +kernel
theorem dX9_cut_175 : decode cX9_cut 175 = .ok (.getfield 9, 3) := by decide +kernel
theorem dX9_cut_178 : decode cX9_cut 178 = .ok (.aload_n 0, 1) := by decide +kernel
theorem dX9_cut_179 : decode cX9_cut 179 = .ok (.getfield 19, 3) := by decide +kernel
theorem dX9_cut_182 : decode cX9_cut 182 = .ok (.iload_n 1, 1) := by decide +kernel
theorem dX9_cut_183 : decode cX9_cut 183 = .ok (.iaload, 1) := by decide +kernel
theorem dX9_cut_184 : decode cX9_cut 184 = .ok (.iconst 0, 1) := by decide +kernel
theorem dX9_cut_185 : decode cX9_cut 185 = .ok (.bastore, 1) := by decide +kernel
theorem dX9_cut_186 : decode cX9_cut 186 = .ok (.iinc 1 1, 3) := by decide +kernel
theorem dX9_cut_189 : decode cX9_cut 189 = .ok (.goto (-23), 3) := by decide +kernel
theorem dX9_cut_192 : decode cX9_cut 192 = .ok (.aload_n 0, 1) := by decide +kernel
theorem dX9_cut_193 : decode cX9_cut 193 = .ok (.aload_n 0, 1) := by decide +kernel
theorem dX9_cut_194 : decode cX9_cut 194 = .ok (.getfield 38, 3) := by decide +kernel
theorem dX9_cut_197 : decode cX9_cut 197 = .ok (.iconst 3, 1) := by decide +kernel
theorem dX9_cut_198 : decode cX9_cut 198 = .ok (.aload_n 0, 1) := by decide +kernel
theorem dX9_cut_199 : decode cX9_cut 199 = .ok (.getfield 54, 3) := by decide +kernel
theorem dX9_cut_202 : decode cX9_cut 202 = .ok (.imul, 1) := by decide +kernel
theorem dX9_cut_203 : decode cX9_cut 203 = .ok (.iaload, 1) := by decide +kernel
theorem dX9_cut_204 : decode cX9_cut 204 = .ok (.putfield 64, 3) := by decide +kernel
theorem dX9_cut_207 : decode cX9_cut 207 = .ok (.return_, 1) := by decide +kernel
theorem dX9_addVariable_0 : decode cX9_addVariable 0 = .ok (.aload_n 0, 1) := by decide +kernel
theorem dX9_addVariable_1 : decode cX9_addVariable 1 = .ok (.getfield 9, 3) := by decide +kernel
theorem dX9_addVariable_4 : decode cX9_addVariable 4 = .ok (.iload_n 1, 1) := by decide +kernel
theorem dX9_addVariable_5 : decode cX9_addVariable 5 = .ok (.iconst 1, 1) := by decide +kernel
theorem dX9_addVariable_6 : decode cX9_addVariable 6 = .ok (.bastore, 1) := by decide +kernel
theorem dX9_addVariable_7 : decode cX9_addVariable 7 = .ok (.aload_n 0, 1) := by decide +kernel
theorem dX9_addVariable_8 : decode cX9_addVariable 8 = .ok (.getfield 19, 3) := by decide +kernel
theorem dX9_addVariable_11 : decode cX9_addVariable 11 = .ok (.aload_n 0, 1) := by decide +kernel
theorem dX9_addVariable_12 : decode cX9_addVariable 12 = .ok (.getfield 64, 3) := by decide +kernel
theorem dX9_addVariable_15 : decode cX9_addVariable 15 = .ok (.iload_n 1, 1) := by decide +kernel
theorem dX9_addVariable_16 : decode cX9_addVariable 16 = .ok (.iastore, 1) := by decide +kernel
theorem dX9_addVariable_17 : decode cX9_addVariable 17 = .ok (.aload_n 0, 1) := by decide +kernel
theorem dX9_addVariable_18 : decode cX9_addVariable 18 = .ok (.dup, 1) := by decide +kernel
theorem dX9_addVariable_19 : decode cX9_addVariable 19 = .ok (.getfield 64, 3) := by decide +kernel
theorem dX9_addVariable_22 : decode cX9_addVariable 22 = .ok (.iconst 1, 1) := by decide +kernel
theorem dX9_addVariable_23 : decode cX9_addVariable 23 = .ok (.iadd, 1) := by decide +kernel
theorem dX9_addVariable_24 : decode cX9_addVariable 24 = .ok (.putfield 64, 3) := by decide +kernel
theorem dX9_addVariable_27 : decode cX9_addVariable 27 = .ok (.return_, 1) := by decide +kernel
theorem dX9_addHypothesis_0 : decode cX9_addHypothesis 0 = .ok (.aload_n 0, 1) := by decide +kernel
theorem dX9_addHypothesis_1 : decode cX9_addHypothesis 1 = .ok (.getfield 22, 3) := by decide +kernel
theorem dX9_addHypothesis_4 : decode cX9_addHypothesis 4 = .ok (.iload_n 1, 1) := by decide +kernel
theorem dX9_addHypothesis_5 : decode cX9_addHypothesis 5 = .ok (.iconst 1, 1) := by decide +kernel
theorem dX9_addHypothesis_6 : decode cX9_addHypothesis 6 = .ok (.bastore, 1) := by decide +kernel
theorem dX9_addHypothesis_7 : decode cX9_addHypothesis 7 = .ok (.aload_n 0, 1) := by decide +kernel
theorem dX9_addHypothesis_8 : decode cX9_addHypothesis 8 = .ok (.getfield 25, 3) := by decide +kernel
theorem dX9_addHypothesis_11 : decode cX9_addHypothesis 11 = .ok (.aload_n 0, 1) := by decide +kernel
theorem dX9_addHypothesis_12 : decode cX9_addHypothesis 12 = .ok (.getfield 67, 3) := by decide +kernel
theorem dX9_addHypothesis_15 : decode cX9_addHypothesis 15 = .ok (.iload_n 1, 1) := by decide +kernel
theorem dX9_addHypothesis_16 : decode cX9_addHypothesis 16 = .ok (.iastore, 1) := by decide +kernel
theorem dX9_addHypothesis_17 : decode cX9_addHypothesis 17 = .ok (.aload_n 0, 1) := by decide +kernel
theorem dX9_addHypothesis_18 : decode cX9_addHypothesis 18 = .ok (.dup, 1) := by decide +kernel
theorem dX9_addHypothesis_19 : decode cX9_addHypothesis 19 = .ok (.getfield 67, 3) := by decide +kernel
theorem dX9_addHypothesis_22 : decode cX9_addHypothesis 22 = .ok (.iconst 1, 1) := by decide +kernel
theorem dX9_addHypothesis_23 : decode cX9_addHypothesis 23 = .ok (.iadd, 1) := by decide +kernel
theorem dX9_addHypothesis_24 : decode cX9_addHypothesis 24 = .ok (.putfield 67, 3) := by decide +kernel
theorem dX9_addHypothesis_27 : decode cX9_addHypothesis 27 = .ok (.aload_n 0, 1) := by decide +kernel
theorem dX9_addHypothesis_28 : decode cX9_addHypothesis 28 = .ok (.getfield 44, 3) := by decide +kernel
theorem dX9_addHypothesis_31 : decode cX9_addHypothesis 31 = .ok (.getfield 77, 3) := by decide +kernel
theorem dX9_addHypothesis_34 : decode cX9_addHypothesis 34 = .ok (.iload_n 1, 1) := by decide +kernel
theorem dX9_addHypothesis_35 : decode cX9_addHypothesis 35 = .ok (.iaload, 1) := by decide +kernel
theorem dX9_addHypothesis_36 : decode cX9_addHypothesis 36 = .ok (.ifCond .ne 17, 3) := by decide +kernel
theorem dX9_addHypothesis_39 : decode cX9_addHypothesis 39 = .ok (.aload_n 0, 1) := by decide +kernel
theorem dX9_addHypothesis_40 : decode cX9_addHypothesis 40 = .ok (.getfield 15, 3) := by decide +kernel
theorem dX9_addHypothesis_43 : decode cX9_addHypothesis 43 = .ok (.aload_n 0, 1) := by decide +kernel
theorem dX9_addHypothesis_44 : decode cX9_addHypothesis 44 = .ok (.getfield 44, 3) := by decide +kernel
theorem dX9_addHypothesis_47 : decode cX9_addHypothesis 47 = .ok (.iload_n 1, 1) := by decide +kernel
theorem dX9_addHypothesis_48 : decode cX9_addHypothesis 48 = .ok (.invokevirtual 82, 3) := by decide +kernel
theorem dX9_addHypothesis_51 : decode cX9_addHypothesis 51 = .ok (.iload_n 1, 1) := by decide +kernel
theorem dX9_addHypothesis_52 : decode cX9_addHypothesis 52 = .ok (.iastore, 1) := by decide +kernel
theorem dX9_addHypothesis_53 : decode cX9_addHypothesis 53 = .ok (.return_, 1) := by decide +kernel
theorem dX9_addPair_0 : decode cX9_addPair 0 = .ok (.aload_n 0, 1) := by decide +kernel
theorem dX9_addPair_1 : decode cX9_addPair 1 = .ok (.getfield 28, 3) := by decide +kernel
theorem dX9_addPair_4 : decode cX9_addPair 4 = .ok (.aload_n 0, 1) := by decide +kernel
theorem dX9_addPair_5 : decode cX9_addPair 5 = .ok (.getfield 70, 3) := by decide +kernel
theorem dX9_addPair_8 : decode cX9_addPair 8 = .ok (.iload_n 1, 1) := by decide +kernel
theorem dX9_addPair_9 : decode cX9_addPair 9 = .ok (.iastore, 1) := by decide +kernel
theorem dX9_addPair_10 : decode cX9_addPair 10 = .ok (.aload_n 0, 1) := by decide +kernel
theorem dX9_addPair_11 : decode cX9_addPair 11 = .ok (.getfield 31, 3) := by decide +kernel
theorem dX9_addPair_14 : decode cX9_addPair 14 = .ok (.aload_n 0, 1) := by decide +kernel
theorem dX9_addPair_15 : decode cX9_addPair 15 = .ok (.getfield 70, 3) := by decide +kernel
theorem dX9_addPair_18 : decode cX9_addPair 18 = .ok (.iload_n 2, 1) := by decide +kernel
theorem dX9_addPair_19 : decode cX9_addPair 19 = .ok (.iastore, 1) := by decide +kernel
theorem dX9_addPair_20 : decode cX9_addPair 20 = .ok (.aload_n 0, 1) := by decide +kernel
theorem dX9_addPair_21 : decode cX9_addPair 21 = .ok (.dup, 1) := by decide +kernel
theorem dX9_addPair_22 : decode cX9_addPair 22 = .ok (.getfield 70, 3) := by decide +kernel
theorem dX9_addPair_25 : decode cX9_addPair 25 = .ok (.iconst 1, 1) := by decide +kernel
theorem dX9_addPair_26 : decode cX9_addPair 26 = .ok (.iadd, 1) := by decide +kernel
theorem dX9_addPair_27 : decode cX9_addPair 27 = .ok (.putfield 70, 3) := by decide +kernel
theorem dX9_addPair_30 : decode cX9_addPair 30 = .ok (.aload_n 0, 1) := by decide +kernel
theorem dX9_addPair_31 : decode cX9_addPair 31 = .ok (.iload_n 1, 1) := by decide +kernel
theorem dX9_addPair_32 : decode cX9_addPair 32 = .ok (.iload_n 2, 1) := by decide +kernel
theorem dX9_addPair_33 : decode cX9_addPair 33 = .ok (.invokevirtual 73, 3) := by decide +kernel
theorem dX9_addPair_36 : decode cX9_addPair 36 = .ok (.return_, 1) := by decide +kernel
theorem dX9_turnPair_0 : decode cX9_turnPair 0 = .ok (.aload_n 0, 1) := by decide +kernel
theorem dX9_turnPair_1 : decode cX9_turnPair 1 = .ok (.getfield 34, 3) := by decide +kernel
theorem dX9_turnPair_4 : decode cX9_turnPair 4 = .ok (.iload_n 1, 1) := by decide +kernel
theorem dX9_turnPair_5 : decode cX9_turnPair 5 = .ok (.bipush 16, 2) := by decide +kernel
theorem dX9_turnPair_7 : decode cX9_turnPair 7 = .ok (.imul, 1) := by decide +kernel
theorem dX9_turnPair_8 : decode cX9_turnPair 8 = .ok (.iload_n 2, 1) := by decide +kernel
theorem dX9_turnPair_9 : decode cX9_turnPair 9 = .ok (.bipush 6, 2) := by decide +kernel
theorem dX9_turnPair_11 : decode cX9_turnPair 11 = .ok (.ishr, 1) := by decide +kernel
theorem dX9_turnPair_12 : decode cX9_turnPair 12 = .ok (.iadd, 1) := by decide +kernel
theorem dX9_turnPair_13 : decode cX9_turnPair 13 = .ok (.dup2, 1) := by decide +kernel
theorem dX9_turnPair_14 : decode cX9_turnPair 14 = .ok (.laload, 1) := by decide +kernel
theorem dX9_turnPair_15 : decode cX9_turnPair 15 = .ok (.lconst 1, 1) := by decide +kernel
theorem dX9_turnPair_16 : decode cX9_turnPair 16 = .ok (.iload_n 2, 1) := by decide +kernel
theorem dX9_turnPair_17 : decode cX9_turnPair 17 = .ok (.bipush 63, 2) := by decide +kernel
theorem dX9_turnPair_19 : decode cX9_turnPair 19 = .ok (.iand, 1) := by decide +kernel
theorem dX9_turnPair_20 : decode cX9_turnPair 20 = .ok (.lshl, 1) := by decide +kernel
theorem dX9_turnPair_21 : decode cX9_turnPair 21 = .ok (.lxor, 1) := by decide +kernel
theorem dX9_turnPair_22 : decode cX9_turnPair 22 = .ok (.lastore, 1) := by decide +kernel
theorem dX9_turnPair_23 : decode cX9_turnPair 23 = .ok (.aload_n 0, 1) := by decide +kernel
theorem dX9_turnPair_24 : decode cX9_turnPair 24 = .ok (.getfield 34, 3) := by decide +kernel
theorem dX9_turnPair_27 : decode cX9_turnPair 27 = .ok (.iload_n 2, 1) := by decide +kernel
theorem dX9_turnPair_28 : decode cX9_turnPair 28 = .ok (.bipush 16, 2) := by decide +kernel
theorem dX9_turnPair_30 : decode cX9_turnPair 30 = .ok (.imul, 1) := by decide +kernel
theorem dX9_turnPair_31 : decode cX9_turnPair 31 = .ok (.iload_n 1, 1) := by decide +kernel
theorem dX9_turnPair_32 : decode cX9_turnPair 32 = .ok (.bipush 6, 2) := by decide +kernel
theorem dX9_turnPair_34 : decode cX9_turnPair 34 = .ok (.ishr, 1) := by decide +kernel
theorem dX9_turnPair_35 : decode cX9_turnPair 35 = .ok (.iadd, 1) := by decide +kernel
theorem dX9_turnPair_36 : decode cX9_turnPair 36 = .ok (.dup2, 1) := by decide +kernel
theorem dX9_turnPair_37 : decode cX9_turnPair 37 = .ok (.laload, 1) := by decide +kernel
theorem dX9_turnPair_38 : decode cX9_turnPair 38 = .ok (.lconst 1, 1) := by decide +kernel
theorem dX9_turnPair_39 : decode cX9_turnPair 39 = .ok (.iload_n 1, 1) := by decide +kernel
theorem dX9_turnPair_40 : decode cX9_turnPair 40 = .ok (.bipush 63, 2) := by decide +kernel
theorem dX9_turnPair_42 : decode cX9_turnPair 42 = .ok (.iand, 1) := by decide +kernel
theorem dX9_turnPair_43 : decode cX9_turnPair 43 = .ok (.lshl, 1) := by decide +kernel
theorem dX9_turnPair_44 : decode cX9_turnPair 44 = .ok (.lxor, 1) := by decide +kernel
theorem dX9_turnPair_45 : decode cX9_turnPair 45 = .ok (.lastore, 1) := by decide +kernel
theorem dX9_turnPair_46 : decode cX9_turnPair 46 = .ok (.return_, 1) := by decide +kernel
theorem dX9_areApart_0 : decode cX9_areApart 0 = .ok (.aload_n 0, 1) := by decide +kernel
theorem dX9_areApart_1 : decode cX9_areApart 1 = .ok (.getfield 34, 3) := by decide +kernel
theorem dX9_areApart_4 : decode cX9_areApart 4 = .ok (.iload_n 1, 1) := by decide +kernel
theorem dX9_areApart_5 : decode cX9_areApart 5 = .ok (.bipush 16, 2) := by decide +kernel
theorem dX9_areApart_7 : decode cX9_areApart 7 = .ok (.imul, 1) := by decide +kernel
theorem dX9_areApart_8 : decode cX9_areApart 8 = .ok (.iload_n 2, 1) := by decide +kernel
theorem dX9_areApart_9 : decode cX9_areApart 9 = .ok (.bipush 6, 2) := by decide +kernel
theorem dX9_areApart_11 : decode cX9_areApart 11 = .ok (.ishr, 1) := by decide +kernel
theorem dX9_areApart_12 : decode cX9_areApart 12 = .ok (.iadd, 1) := by decide +kernel
theorem dX9_areApart_13 : decode cX9_areApart 13 = .ok (.laload, 1) := by decide +kernel
theorem dX9_areApart_14 : decode cX9_areApart 14 = .ok (.iload_n 2, 1) := by decide +kernel
theorem dX9_areApart_15 : decode cX9_areApart 15 = .ok (.bipush 63, 2) := by decide +kernel
theorem dX9_areApart_17 : decode cX9_areApart 17 = .ok (.iand, 1) := by decide +kernel
theorem dX9_areApart_18 : decode cX9_areApart 18 = .ok (.lushr, 1) := by decide +kernel
theorem dX9_areApart_19 : decode cX9_areApart 19 = .ok (.lconst 1, 1) := by decide +kernel
theorem dX9_areApart_20 : decode cX9_areApart 20 = .ok (.land, 1) := by decide +kernel
theorem dX9_areApart_21 : decode cX9_areApart 21 = .ok (.lconst 0, 1) := by decide +kernel
theorem dX9_areApart_22 : decode cX9_areApart 22 = .ok (.lcmp, 1) := by decide +kernel
theorem dX9_areApart_23 : decode cX9_areApart 23 = .ok (.ifCond .eq 7, 3) := by decide +kernel
theorem dX9_areApart_26 : decode cX9_areApart 26 = .ok (.iconst 1, 1) := by decide +kernel
theorem dX9_areApart_27 : decode cX9_areApart 27 = .ok (.goto 4, 3) := by decide +kernel
theorem dX9_areApart_30 : decode cX9_areApart 30 = .ok (.iconst 0, 1) := by decide +kernel
theorem dX9_areApart_31 : decode cX9_areApart 31 = .ok (.ireturn, 1) := by decide +kernel
theorem dX9_markFrame_0 : decode cX9_markFrame 0 = .ok (.aload_n 0, 1) := by decide +kernel
theorem dX9_markFrame_1 : decode cX9_markFrame 1 = .ok (.dup, 1) := by decide +kernel
theorem dX9_markFrame_2 : decode cX9_markFrame 2 = .ok (.getfield 86, 3) := by decide +kernel
theorem dX9_markFrame_5 : decode cX9_markFrame 5 = .ok (.iconst 1, 1) := by decide +kernel
theorem dX9_markFrame_6 : decode cX9_markFrame 6 = .ok (.iadd, 1) := by decide +kernel
theorem dX9_markFrame_7 : decode cX9_markFrame 7 = .ok (.putfield 86, 3) := by decide +kernel
theorem dX9_markFrame_10 : decode cX9_markFrame 10 = .ok (.aload_n 0, 1) := by decide +kernel
theorem dX9_markFrame_11 : decode cX9_markFrame 11 = .ok (.iload_n 1, 1) := by decide +kernel
theorem dX9_markFrame_12 : decode cX9_markFrame 12 = .ok (.invokevirtual 89, 3) := by decide +kernel
theorem dX9_markFrame_15 : decode cX9_markFrame 15 = .ok (.iconst 0, 1) := by decide +kernel
theorem dX9_markFrame_16 : decode cX9_markFrame 16 = .ok (.istore_n 2, 1) := by decide +kernel
theorem dX9_markFrame_17 : decode cX9_markFrame 17 = .ok (.iload_n 2, 1) := by decide +kernel
theorem dX9_markFrame_18 : decode cX9_markFrame 18 = .ok (.aload_n 0, 1) := by decide +kernel
theorem dX9_markFrame_19 : decode cX9_markFrame 19 = .ok (.getfield 67, 3) := by decide +kernel
theorem dX9_markFrame_22 : decode cX9_markFrame 22 = .ok (.if_icmp .ge 37, 3) := by decide +kernel
theorem dX9_markFrame_25 : decode cX9_markFrame 25 = .ok (.aload_n 0, 1) := by decide +kernel
theorem dX9_markFrame_26 : decode cX9_markFrame 26 = .ok (.getfield 44, 3) := by decide +kernel
theorem dX9_markFrame_29 : decode cX9_markFrame 29 = .ok (.getfield 77, 3) := by decide +kernel
theorem dX9_markFrame_32 : decode cX9_markFrame 32 = .ok (.aload_n 0, 1) := by decide +kernel
theorem dX9_markFrame_33 : decode cX9_markFrame 33 = .ok (.getfield 25, 3) := by decide +kernel
theorem dX9_markFrame_36 : decode cX9_markFrame 36 = .ok (.iload_n 2, 1) := by decide +kernel
theorem dX9_markFrame_37 : decode cX9_markFrame 37 = .ok (.iaload, 1) := by decide +kernel
theorem dX9_markFrame_38 : decode cX9_markFrame 38 = .ok (.iaload, 1) := by decide +kernel
theorem dX9_markFrame_39 : decode cX9_markFrame 39 = .ok (.iconst 1, 1) := by decide +kernel
theorem dX9_markFrame_40 : decode cX9_markFrame 40 = .ok (.if_icmp .ne 13, 3) := by decide +kernel
theorem dX9_markFrame_43 : decode cX9_markFrame 43 = .ok (.aload_n 0, 1) := by decide +kernel
theorem dX9_markFrame_44 : decode cX9_markFrame 44 = .ok (.aload_n 0, 1) := by decide +kernel
theorem dX9_markFrame_45 : decode cX9_markFrame 45 = .ok (.getfield 25, 3) := by decide +kernel
theorem dX9_markFrame_48 : decode cX9_markFrame 48 = .ok (.iload_n 2, 1) := by decide +kernel
theorem dX9_markFrame_49 : decode cX9_markFrame 49 = .ok (.iaload, 1) := by decide +kernel
theorem dX9_markFrame_50 : decode cX9_markFrame 50 = .ok (.invokevirtual 89, 3) := by decide +kernel
theorem dX9_markFrame_53 : decode cX9_markFrame 53 = .ok (.iinc 2 1, 3) := by decide +kernel
theorem dX9_markFrame_56 : decode cX9_markFrame 56 = .ok (.goto (-39), 3) := by decide +kernel
theorem dX9_markFrame_59 : decode cX9_markFrame 59 = .ok (.return_, 1) := by decide +kernel
theorem dX9_markVariables_0 : decode cX9_markVariables 0 = .ok (.aload_n 0, 1) := by decide +kernel
theorem dX9_markVariables_1 : decode cX9_markVariables 1 = .ok (.getfield 44, 3) := by decide +kernel
theorem dX9_markVariables_4 : decode cX9_markVariables 4 = .ok (.getfield 93, 3) := by decide +kernel
theorem dX9_markVariables_7 : decode cX9_markVariables 7 = .ok (.iload_n 1, 1) := by decide +kernel
theorem dX9_markVariables_8 : decode cX9_markVariables 8 = .ok (.iaload, 1) := by decide +kernel
theorem dX9_markVariables_9 : decode cX9_markVariables 9 = .ok (.istore_n 2, 1) := by decide +kernel
theorem dX9_markVariables_10 : decode cX9_markVariables 10 = .ok (.iload_n 2, 1) := by decide +kernel
theorem dX9_markVariables_11 : decode cX9_markVariables 11 = .ok (.aload_n 0, 1) := by decide +kernel
theorem dX9_markVariables_12 : decode cX9_markVariables 12 = .ok (.getfield 44, 3) := by decide +kernel
theorem dX9_markVariables_15 : decode cX9_markVariables 15 = .ok (.getfield 93, 3) := by decide +kernel
theorem dX9_markVariables_18 : decode cX9_markVariables 18 = .ok (.iload_n 1, 1) := by decide +kernel
theorem dX9_markVariables_19 : decode cX9_markVariables 19 = .ok (.iconst 1, 1) := by decide +kernel
theorem dX9_markVariables_20 : decode cX9_markVariables 20 = .ok (.iadd, 1) := by decide +kernel
theorem dX9_markVariables_21 : decode cX9_markVariables 21 = .ok (.iaload, 1) := by decide +kernel
theorem dX9_markVariables_22 : decode cX9_markVariables 22 = .ok (.if_icmp .ge 40, 3) := by decide +kernel
theorem dX9_markVariables_25 : decode cX9_markVariables 25 = .ok (.aload_n 0, 1) := by decide +kernel
theorem dX9_markVariables_26 : decode cX9_markVariables 26 = .ok (.getfield 44, 3) := by decide +kernel
theorem dX9_markVariables_29 : decode cX9_markVariables 29 = .ok (.getfield 96, 3) := by decide +kernel
theorem dX9_markVariables_32 : decode cX9_markVariables 32 = .ok (.iload_n 2, 1) := by decide +kernel
theorem dX9_markVariables_33 : decode cX9_markVariables 33 = .ok (.iaload, 1) := by decide +kernel
theorem dX9_markVariables_34 : decode cX9_markVariables 34 = .ok (.iconst (-1), 1) := by decide +kernel
theorem dX9_markVariables_35 : decode cX9_markVariables 35 = .ok (.if_icmp .eq 21, 3) := by decide +kernel
theorem dX9_markVariables_38 : decode cX9_markVariables 38 = .ok (.aload_n 0, 1) := by decide +kernel
theorem dX9_markVariables_39 : decode cX9_markVariables 39 = .ok (.getfield 41, 3) := by decide +kernel
theorem dX9_markVariables_42 : decode cX9_markVariables 42 = .ok (.aload_n 0, 1) := by decide +kernel
theorem dX9_markVariables_43 : decode cX9_markVariables 43 = .ok (.getfield 44, 3) := by decide +kernel
theorem dX9_markVariables_46 : decode cX9_markVariables 46 = .ok (.getfield 99, 3) := by decide +kernel
theorem dX9_markVariables_49 : decode cX9_markVariables 49 = .ok (.iload_n 2, 1) := by decide +kernel
theorem dX9_markVariables_50 : decode cX9_markVariables 50 = .ok (.iaload, 1) := by decide +kernel
theorem dX9_markVariables_51 : decode cX9_markVariables 51 = .ok (.aload_n 0, 1) := by decide +kernel
theorem dX9_markVariables_52 : decode cX9_markVariables 52 = .ok (.getfield 86, 3) := by decide +kernel
theorem dX9_markVariables_55 : decode cX9_markVariables 55 = .ok (.iastore, 1) := by decide +kernel
theorem dX9_markVariables_56 : decode cX9_markVariables 56 = .ok (.iinc 2 1, 3) := by decide +kernel
theorem dX9_markVariables_59 : decode cX9_markVariables 59 = .ok (.goto (-49), 3) := by decide +kernel
theorem dX9_markVariables_62 : decode cX9_markVariables 62 = .ok (.return_, 1) := by decide +kernel
theorem dX9_isInFrame_0 : decode cX9_isInFrame 0 = .ok (.aload_n 0, 1) := by decide +kernel
theorem dX9_isInFrame_1 : decode cX9_isInFrame 1 = .ok (.getfield 41, 3) := by decide +kernel
theorem dX9_isInFrame_4 : decode cX9_isInFrame 4 = .ok (.iload_n 1, 1) := by decide +kernel
theorem dX9_isInFrame_5 : decode cX9_isInFrame 5 = .ok (.iaload, 1) := by decide +kernel
theorem dX9_isInFrame_6 : decode cX9_isInFrame 6 = .ok (.aload_n 0, 1) := by decide +kernel
theorem dX9_isInFrame_7 : decode cX9_isInFrame 7 = .ok (.getfield 86, 3) := by decide +kernel
theorem dX9_isInFrame_10 : decode cX9_isInFrame 10 = .ok (.if_icmp .ne 7, 3) := by decide +kernel
theorem dX9_isInFrame_13 : decode cX9_isInFrame 13 = .ok (.iconst 1, 1) := by decide +kernel
theorem dX9_isInFrame_14 : decode cX9_isInFrame 14 = .ok (.goto 4, 3) := by decide +kernel
theorem dX9_isInFrame_17 : decode cX9_isInFrame 17 = .ok (.iconst 0, 1) := by decide +kernel
theorem dX9_isInFrame_18 : decode cX9_isInFrame 18 = .ok (.ireturn, 1) := by decide +kernel
theorem dX9_isKnown_0 : decode cX9_isKnown 0 = .ok (.iload_n 1, 1) := by decide +kernel
theorem dX9_isKnown_1 : decode cX9_isKnown 1 = .ok (.iconst (-1), 1) := by decide +kernel
theorem dX9_isKnown_2 : decode cX9_isKnown 2 = .ok (.if_icmp .eq 28, 3) := by decide +kernel
theorem dX9_isKnown_5 : decode cX9_isKnown 5 = .ok (.aload_n 0, 1) := by decide +kernel
theorem dX9_isKnown_6 : decode cX9_isKnown 6 = .ok (.getfield 44, 3) := by decide +kernel
theorem dX9_isKnown_9 : decode cX9_isKnown 9 = .ok (.getfield 102, 3) := by decide +kernel
theorem dX9_isKnown_12 : decode cX9_isKnown 12 = .ok (.iload_n 1, 1) := by decide +kernel
theorem dX9_isKnown_13 : decode cX9_isKnown 13 = .ok (.baload, 1) := by decide +kernel
theorem dX9_isKnown_14 : decode cX9_isKnown 14 = .ok (.ifCond .eq 12, 3) := by decide +kernel
theorem dX9_isKnown_17 : decode cX9_isKnown 17 = .ok (.aload_n 0, 1) := by decide +kernel
theorem dX9_isKnown_18 : decode cX9_isKnown 18 = .ok (.getfield 9, 3) := by decide +kernel
theorem dX9_isKnown_21 : decode cX9_isKnown 21 = .ok (.iload_n 1, 1) := by decide +kernel
theorem dX9_isKnown_22 : decode cX9_isKnown 22 = .ok (.baload, 1) := by decide +kernel
theorem dX9_isKnown_23 : decode cX9_isKnown 23 = .ok (.ifCond .eq 7, 3) := by decide +kernel
theorem dX9_isKnown_26 : decode cX9_isKnown 26 = .ok (.iconst 1, 1) := by decide +kernel
theorem dX9_isKnown_27 : decode cX9_isKnown 27 = .ok (.goto 4, 3) := by decide +kernel
theorem dX9_isKnown_30 : decode cX9_isKnown 30 = .ok (.iconst 0, 1) := by decide +kernel
theorem dX9_isKnown_31 : decode cX9_isKnown 31 = .ok (.ireturn, 1) := by decide +kernel
theorem dX0_init_0 : decode cX0_init 0 = .ok (.aload_n 0, 1) := by decide +kernel
theorem dX0_init_1 : decode cX0_init 1 = .ok (.invokespecial 3, 3) := by decide +kernel
theorem dX0_init_4 : decode cX0_init 4 = .ok (.aload_n 0, 1) := by decide +kernel
theorem dX0_init_5 : decode cX0_init 5 = .ok (.sipush 1500, 3) := by decide +kernel
theorem dX0_init_8 : decode cX0_init 8 = .ok (.newarray .int, 2) := by decide +kernel
theorem dX0_init_10 : decode cX0_init 10 = .ok (.putfield 9, 3) := by decide +kernel
theorem dX0_init_13 : decode cX0_init 13 = .ok (.aload_n 0, 1) := by decide +kernel
theorem dX0_init_14 : decode cX0_init 14 = .ok (.sipush 1500, 3) := by decide +kernel
theorem dX0_init_17 : decode cX0_init 17 = .ok (.newarray .int, 2) := by decide +kernel
theorem dX0_init_19 : decode cX0_init 19 = .ok (.putfield 15, 3) := by decide +kernel
theorem dX0_init_22 : decode cX0_init 22 = .ok (.aload_n 0, 1) := by decide +kernel
theorem dX0_init_23 : decode cX0_init 23 = .ok (.ldc 18, 2) := by decide +kernel
theorem dX0_init_25 : decode cX0_init 25 = .ok (.newarray .int, 2) := by decide +kernel
theorem dX0_init_27 : decode cX0_init 27 = .ok (.putfield 19, 3) := by decide +kernel
theorem dX0_init_30 : decode cX0_init 30 = .ok (.aload_n 0, 1) := by decide +kernel
theorem dX0_init_31 : decode cX0_init 31 = .ok (.sipush 1500, 3) := by decide +kernel
theorem dX0_init_34 : decode cX0_init 34 = .ok (.newarray .int, 2) := by decide +kernel
theorem dX0_init_36 : decode cX0_init 36 = .ok (.putfield 22, 3) := by decide +kernel
theorem dX0_init_39 : decode cX0_init 39 = .ok (.aload_n 0, 1) := by decide +kernel
theorem dX0_init_40 : decode cX0_init 40 = .ok (.sipush 1500, 3) := by decide +kernel
theorem dX0_init_43 : decode cX0_init 43 = .ok (.newarray .int, 2) := by decide +kernel
theorem dX0_init_45 : decode cX0_init 45 = .ok (.putfield 25, 3) := by decide +kernel
theorem dX0_init_48 : decode cX0_init 48 = .ok (.aload_n 0, 1) := by decide +kernel
theorem dX0_init_49 : decode cX0_init 49 = .ok (.sipush 20000, 3) := by decide +kernel
theorem dX0_init_52 : decode cX0_init 52 = .ok (.newarray .int, 2) := by decide +kernel
theorem dX0_init_54 : decode cX0_init 54 = .ok (.putfield 28, 3) := by decide +kernel
theorem dX0_init_57 : decode cX0_init 57 = .ok (.aload_n 0, 1) := by decide +kernel
theorem dX0_init_58 : decode cX0_init 58 = .ok (.sipush 1500, 3) := by decide +kernel
theorem dX0_init_61 : decode cX0_init 61 = .ok (.newarray .int, 2) := by decide +kernel
theorem dX0_init_63 : decode cX0_init 63 = .ok (.putfield 31, 3) := by decide +kernel
theorem dX0_init_66 : decode cX0_init 66 = .ok (.aload_n 0, 1) := by decide +kernel
theorem dX0_init_67 : decode cX0_init 67 = .ok (.sipush 1500, 3) := by decide +kernel
theorem dX0_init_70 : decode cX0_init 70 = .ok (.newarray .int, 2) := by decide +kernel
theorem dX0_init_72 : decode cX0_init 72 = .ok (.putfield 34, 3) := by decide +kernel
theorem dX0_init_75 : decode cX0_init 75 = .ok (.aload_n 0, 1) := by decide +kernel
theorem dX0_init_76 : decode cX0_init 76 = .ok (.sipush 20000, 3) := by decide +kernel
theorem dX0_init_79 : decode cX0_init 79 = .ok (.newarray .int, 2) := by decide +kernel
theorem dX0_init_81 : decode cX0_init 81 = .ok (.putfield 37, 3) := by decide +kernel
theorem dX0_init_84 : decode cX0_init 84 = .ok (.aload_n 0, 1) := by decide +kernel
theorem dX0_init_85 : decode cX0_init 85 = .ok (.sipush 20001, 3) := by decide +kernel
theorem dX0_init_88 : decode cX0_init 88 = .ok (.newarray .int, 2) := by decide +kernel
theorem dX0_init_90 : decode cX0_init 90 = .ok (.putfield 40, 3) := by decide +kernel
theorem dX0_init_93 : decode cX0_init 93 = .ok (.aload_n 0, 1) := by decide +kernel
theorem dX0_init_94 : decode cX0_init 94 = .ok (.sipush 20000, 3) := by decide +kernel
theorem dX0_init_97 : decode cX0_init 97 = .ok (.newarray .int, 2) := by decide +kernel
theorem dX0_init_99 : decode cX0_init 99 = .ok (.putfield 43, 3) := by decide +kernel
theorem dX0_init_102 : decode cX0_init 102 = .ok (.aload_n 0, 1) := by decide +kernel
theorem dX0_init_103 : decode cX0_init 103 = .ok (.sipush 20000, 3) := by decide +kernel
theorem dX0_init_106 : decode cX0_init 106 = .ok (.newarray .long, 2) := by decide +kernel
theorem dX0_init_108 : decode cX0_init 108 = .ok (.putfield 46, 3) := by decide +kernel
theorem dX0_init_111 : decode cX0_init 111 = .ok (.aload_n 0, 1) := by decide +kernel
theorem dX0_init_112 : decode cX0_init 112 = .ok (.ldc 50, 2) := by decide +kernel
theorem dX0_init_114 : decode cX0_init 114 = .ok (.newarray .long, 2) := by decide +kernel
theorem dX0_init_116 : decode cX0_init 116 = .ok (.putfield 51, 3) := by decide +kernel
theorem dX0_init_119 : decode cX0_init 119 = .ok (.aload_n 0, 1) := by decide +kernel
theorem dX0_init_120 : decode cX0_init 120 = .ok (.iconst 4, 1) := by decide +kernel
theorem dX0_init_121 : decode cX0_init 121 = .ok (.newarray .int, 2) := by decide +kernel
theorem dX0_init_123 : decode cX0_init 123 = .ok (.putfield 54, 3) := by decide +kernel
theorem dX0_init_126 : decode cX0_init 126 = .ok (.aload_n 0, 1) := by decide +kernel
theorem dX0_init_127 : decode cX0_init 127 = .ok (.aload_n 1, 1) := by decide +kernel
theorem dX0_init_128 : decode cX0_init 128 = .ok (.putfield 57, 3) := by decide +kernel
theorem dX0_init_131 : decode cX0_init 131 = .ok (.aload_n 0, 1) := by decide +kernel
theorem dX0_init_132 : decode cX0_init 132 = .ok (.aload_n 2, 1) := by decide +kernel
theorem dX0_init_133 : decode cX0_init 133 = .ok (.putfield 61, 3) := by decide +kernel
theorem dX0_init_136 : decode cX0_init 136 = .ok (.return_, 1) := by decide +kernel
theorem dX0_keep_0 : decode cX0_keep 0 = .ok (.aload_n 0, 1) := by decide +kernel
theorem dX0_keep_1 : decode cX0_keep 1 = .ok (.getfield 54, 3) := by decide +kernel
theorem dX0_keep_4 : decode cX0_keep 4 = .ok (.iconst 0, 1) := by decide +kernel
theorem dX0_keep_5 : decode cX0_keep 5 = .ok (.aload_n 0, 1) := by decide +kernel
theorem dX0_keep_6 : decode cX0_keep 6 = .ok (.getfield 65, 3) := by decide +kernel
theorem dX0_keep_9 : decode cX0_keep 9 = .ok (.iastore, 1) := by decide +kernel
theorem dX0_keep_10 : decode cX0_keep 10 = .ok (.aload_n 0, 1) := by decide +kernel
theorem dX0_keep_11 : decode cX0_keep 11 = .ok (.getfield 54, 3) := by decide +kernel
theorem dX0_keep_14 : decode cX0_keep 14 = .ok (.iconst 1, 1) := by decide +kernel
theorem dX0_keep_15 : decode cX0_keep 15 = .ok (.aload_n 0, 1) := by decide +kernel
theorem dX0_keep_16 : decode cX0_keep 16 = .ok (.getfield 69, 3) := by decide +kernel
theorem dX0_keep_19 : decode cX0_keep 19 = .ok (.iastore, 1) := by decide +kernel
theorem dX0_keep_20 : decode cX0_keep 20 = .ok (.aload_n 0, 1) := by decide +kernel
theorem dX0_keep_21 : decode cX0_keep 21 = .ok (.getfield 54, 3) := by decide +kernel
theorem dX0_keep_24 : decode cX0_keep 24 = .ok (.iconst 2, 1) := by decide +kernel
theorem dX0_keep_25 : decode cX0_keep 25 = .ok (.aload_n 0, 1) := by decide +kernel
theorem dX0_keep_26 : decode cX0_keep 26 = .ok (.getfield 72, 3) := by decide +kernel
theorem dX0_keep_29 : decode cX0_keep 29 = .ok (.iastore, 1) := by decide +kernel
theorem dX0_keep_30 : decode cX0_keep 30 = .ok (.aload_n 0, 1) := by decide +kernel
theorem dX0_keep_31 : decode cX0_keep 31 = .ok (.getfield 54, 3) := by decide +kernel
theorem dX0_keep_34 : decode cX0_keep 34 = .ok (.iconst 3, 1) := by decide +kernel
theorem dX0_keep_35 : decode cX0_keep 35 = .ok (.aload_n 0, 1) := by decide +kernel
theorem dX0_keep_36 : decode cX0_keep 36 = .ok (.getfield 75, 3) := by decide +kernel
theorem dX0_keep_39 : decode cX0_keep 39 = .ok (.iastore, 1) := by decide +kernel
theorem dX0_keep_40 : decode cX0_keep 40 = .ok (.return_, 1) := by decide +kernel
theorem dX0_goBack_0 : decode cX0_goBack 0 = .ok (.aload_n 0, 1) := by decide +kernel
theorem dX0_goBack_1 : decode cX0_goBack 1 = .ok (.aload_n 0, 1) := by decide +kernel
theorem dX0_goBack_2 : decode cX0_goBack 2 = .ok (.getfield 54, 3) := by decide +kernel
theorem dX0_goBack_5 : decode cX0_goBack 5 = .ok (.iconst 0, 1) := by decide +kernel
theorem dX0_goBack_6 : decode cX0_goBack 6 = .ok (.iaload, 1) := by decide +kernel
theorem dX0_goBack_7 : decode cX0_goBack 7 = .ok (.putfield 65, 3) := by decide +kernel
theorem dX0_goBack_10 : decode cX0_goBack 10 = .ok (.aload_n 0, 1) := by decide +kernel
theorem dX0_goBack_11 : decode cX0_goBack 11 = .ok (.aload_n 0, 1) := by decide +kernel
theorem dX0_goBack_12 : decode cX0_goBack 12 = .ok (.getfield 54, 3) := by decide +kernel
theorem dX0_goBack_15 : decode cX0_goBack 15 = .ok (.iconst 1, 1) := by decide +kernel
theorem dX0_goBack_16 : decode cX0_goBack 16 = .ok (.iaload, 1) := by decide +kernel
theorem dX0_goBack_17 : decode cX0_goBack 17 = .ok (.putfield 69, 3) := by decide +kernel
theorem dX0_goBack_20 : decode cX0_goBack 20 = .ok (.aload_n 0, 1) := by decide +kernel
theorem dX0_goBack_21 : decode cX0_goBack 21 = .ok (.aload_n 0, 1) := by decide +kernel
theorem dX0_goBack_22 : decode cX0_goBack 22 = .ok (.getfield 54, 3) := by decide +kernel
theorem dX0_goBack_25 : decode cX0_goBack 25 = .ok (.iconst 2, 1) := by decide +kernel
theorem dX0_goBack_26 : decode cX0_goBack 26 = .ok (.iaload, 1) := by decide +kernel
theorem dX0_goBack_27 : decode cX0_goBack 27 = .ok (.putfield 72, 3) := by decide +kernel
theorem dX0_goBack_30 : decode cX0_goBack 30 = .ok (.aload_n 0, 1) := by decide +kernel
theorem dX0_goBack_31 : decode cX0_goBack 31 = .ok (.aload_n 0, 1) := by decide +kernel
theorem dX0_goBack_32 : decode cX0_goBack 32 = .ok (.getfield 54, 3) := by decide +kernel
theorem dX0_goBack_35 : decode cX0_goBack 35 = .ok (.iconst 3, 1) := by decide +kernel
theorem dX0_goBack_36 : decode cX0_goBack 36 = .ok (.iaload, 1) := by decide +kernel
theorem dX0_goBack_37 : decode cX0_goBack 37 = .ok (.putfield 75, 3) := by decide +kernel
theorem dX0_goBack_40 : decode cX0_goBack 40 = .ok (.return_, 1) := by decide +kernel
theorem dX0_makeFrame_0 : decode cX0_makeFrame 0 = .ok (.aload_n 0, 1) := by decide +kernel
theorem dX0_makeFrame_1 : decode cX0_makeFrame 1 = .ok (.getfield 61, 3) := by decide +kernel
theorem dX0_makeFrame_4 : decode cX0_makeFrame 4 = .ok (.iload_n 1, 1) := by decide +kernel
theorem dX0_makeFrame_5 : decode cX0_makeFrame 5 = .ok (.invokevirtual 78, 3) := by decide +kernel
theorem dX0_makeFrame_8 : decode cX0_makeFrame 8 = .ok (.iconst 0, 1) := by decide +kernel
theorem dX0_makeFrame_9 : decode cX0_makeFrame 9 = .ok (.istore_n 2, 1) := by decide +kernel
theorem dX0_makeFrame_10 : decode cX0_makeFrame 10 = .ok (.iload_n 2, 1) := by decide +kernel
theorem dX0_makeFrame_11 : decode cX0_makeFrame 11 = .ok (.bipush 24, 2) := by decide +kernel
theorem dX0_makeFrame_13 : decode cX0_makeFrame 13 = .ok (.if_icmp .ge 21, 3) := by decide +kernel
theorem dX0_makeFrame_16 : decode cX0_makeFrame 16 = .ok (.aload_n 0, 1) := by decide +kernel
theorem dX0_makeFrame_17 : decode cX0_makeFrame 17 = .ok (.getfield 51, 3) := by decide +kernel
theorem dX0_makeFrame_20 : decode cX0_makeFrame 20 = .ok (.iload_n 1, 1) := by decide +kernel
theorem dX0_makeFrame_21 : decode cX0_makeFrame 21 = .ok (.bipush 24, 2) := by decide +kernel
theorem dX0_makeFrame_23 : decode cX0_makeFrame 23 = .ok (.imul, 1) := by decide +kernel
theorem dX0_makeFrame_24 : decode cX0_makeFrame 24 = .ok (.iload_n 2, 1) := by decide +kernel
theorem dX0_makeFrame_25 : decode cX0_makeFrame 25 = .ok (.iadd, 1) := by decide +kernel
theorem dX0_makeFrame_26 : decode cX0_makeFrame 26 = .ok (.lconst 0, 1) := by decide +kernel
theorem dX0_makeFrame_27 : decode cX0_makeFrame 27 = .ok (.lastore, 1) := by decide +kernel
theorem dX0_makeFrame_28 : decode cX0_makeFrame 28 = .ok (.iinc 2 1, 3) := by decide +kernel
theorem dX0_makeFrame_31 : decode cX0_makeFrame 31 = .ok (.goto (-21), 3) := by decide +kernel
theorem dX0_makeFrame_34 : decode cX0_makeFrame 34 = .ok (.aload_n 0, 1) := by decide +kernel
theorem dX0_makeFrame_35 : decode cX0_makeFrame 35 = .ok (.iload_n 1, 1) := by decide +kernel
theorem dX0_makeFrame_36 : decode cX0_makeFrame 36 = .ok (.invokevirtual 84, 3) := by decide +kernel
theorem dX0_makeFrame_39 : decode cX0_makeFrame 39 = .ok (.ifCond .eq 15, 3) := by decide +kernel
theorem dX0_makeFrame_42 : decode cX0_makeFrame 42 = .ok (.aload_n 0, 1) := by decide +kernel
theorem dX0_makeFrame_43 : decode cX0_makeFrame 43 = .ok (.iload_n 1, 1) := by decide +kernel
theorem dX0_makeFrame_44 : decode cX0_makeFrame 44 = .ok (.invokevirtual 88, 3) := by decide +kernel
theorem dX0_makeFrame_47 : decode cX0_makeFrame 47 = .ok (.ifCond .eq 7, 3) := by decide +kernel
theorem dX0_makeFrame_50 : decode cX0_makeFrame 50 = .ok (.iconst 1, 1) := by decide +kernel
theorem dX0_makeFrame_51 : decode cX0_makeFrame 51 = .ok (.goto 4, 3) := by decide +kernel
theorem dX0_makeFrame_54 : decode cX0_makeFrame 54 = .ok (.iconst 0, 1) := by decide +kernel
theorem dX0_makeFrame_55 : decode cX0_makeFrame 55 = .ok (.ireturn, 1) := by decide +kernel
theorem dX0_takeHypotheses_0 : decode cX0_takeHypotheses 0 = .ok (.aload_n 0, 1) := by decide +kernel
theorem dX0_takeHypotheses_1 : decode cX0_takeHypotheses 1 = .ok (.getfield 9, 3) := by decide +kernel
theorem dX0_takeHypotheses_4 : decode cX0_takeHypotheses 4 = .ok (.iload_n 1, 1) := by decide +kernel
theorem dX0_takeHypotheses_5 : decode cX0_takeHypotheses 5 = .ok (.aload_n 0, 1) := by decide +kernel
theorem dX0_takeHypotheses_6 : decode cX0_takeHypotheses 6 = .ok (.getfield 65, 3) := by decide +kernel
theorem dX0_takeHypotheses_9 : decode cX0_takeHypotheses 9 = .ok (.iastore, 1) := by decide +kernel
theorem dX0_takeHypotheses_10 : decode cX0_takeHypotheses 10 = .ok (.aload_n 0, 1) := by decide +kernel
theorem dX0_takeHypotheses_11 : decode cX0_takeHypotheses 11 = .ok (.getfield 15, 3) := by decide +kernel
theorem dX0_takeHypotheses_14 : decode cX0_takeHypotheses 14 = .ok (.iload_n 1, 1) := by decide +kernel
theorem dX0_takeHypotheses_15 : decode cX0_takeHypotheses 15 = .ok (.iconst 0, 1) := by decide +kernel
theorem dX0_takeHypotheses_16 : decode cX0_takeHypotheses 16 = .ok (.iastore, 1) := by decide +kernel
theorem dX0_takeHypotheses_17 : decode cX0_takeHypotheses 17 = .ok (.iconst 0, 1) := by decide +kernel
theorem dX0_takeHypotheses_18 : decode cX0_takeHypotheses 18 = .ok (.istore_n 2, 1) := by decide +kernel
theorem dX0_takeHypotheses_19 : decode cX0_takeHypotheses 19 = .ok (.iload_n 2, 1) := by decide +kernel
theorem dX0_takeHypotheses_20 : decode cX0_takeHypotheses 20 = .ok (.aload_n 0, 1) := by decide +kernel
theorem dX0_takeHypotheses_21 : decode cX0_takeHypotheses 21 = .ok (.getfield 61, 3) := by decide +kernel
theorem dX0_takeHypotheses_24 : decode cX0_takeHypotheses 24 = .ok (.getfield 91, 3) := by decide +kernel
theorem dX0_takeHypotheses_27 : decode cX0_takeHypotheses 27 = .ok (.if_icmp .ge 95, 3) := by decide +kernel
theorem dX0_takeHypotheses_30 : decode cX0_takeHypotheses 30 = .ok (.aload_n 0, 1) := by decide +kernel
theorem dX0_takeHypotheses_31 : decode cX0_takeHypotheses 31 = .ok (.getfield 61, 3) := by decide +kernel
theorem dX0_takeHypotheses_34 : decode cX0_takeHypotheses 34 = .ok (.getfield 94, 3) := by decide +kernel
theorem dX0_takeHypotheses_37 : decode cX0_takeHypotheses 37 = .ok (.iload_n 2, 1) := by decide +kernel
theorem dX0_takeHypotheses_38 : decode cX0_takeHypotheses 38 = .ok (.iaload, 1) := by decide +kernel
theorem dX0_takeHypotheses_39 : decode cX0_takeHypotheses 39 = .ok (.istore_n 3, 1) := by decide +kernel
theorem dX0_takeHypotheses_40 : decode cX0_takeHypotheses 40 = .ok (.aload_n 0, 1) := by decide +kernel
theorem dX0_takeHypotheses_41 : decode cX0_takeHypotheses 41 = .ok (.getfield 57, 3) := by decide +kernel
theorem dX0_takeHypotheses_44 : decode cX0_takeHypotheses 44 = .ok (.getfield 95, 3) := by decide +kernel
theorem dX0_takeHypotheses_47 : decode cX0_takeHypotheses 47 = .ok (.iload_n 3, 1) := by decide +kernel
theorem dX0_takeHypotheses_48 : decode cX0_takeHypotheses 48 = .ok (.iaload, 1) := by decide +kernel
theorem dX0_takeHypotheses_49 : decode cX0_takeHypotheses 49 = .ok (.ifCond .ne 24, 3) := by decide +kernel
theorem dX0_takeHypotheses_52 : decode cX0_takeHypotheses 52 = .ok (.aload_n 0, 1) := by decide +kernel
theorem dX0_takeHypotheses_53 : decode cX0_takeHypotheses 53 = .ok (.getfield 61, 3) := by decide +kernel
theorem dX0_takeHypotheses_56 : decode cX0_takeHypotheses 56 = .ok (.aload_n 0, 1) := by decide +kernel
theorem dX0_takeHypotheses_57 : decode cX0_takeHypotheses 57 = .ok (.getfield 57, 3) := by decide +kernel
theorem dX0_takeHypotheses_60 : decode cX0_takeHypotheses 60 = .ok (.iload_n 3, 1) := by decide +kernel
theorem dX0_takeHypotheses_61 : decode cX0_takeHypotheses 61 = .ok (.invokevirtual 100, 3) := by decide +kernel
theorem dX0_takeHypotheses_64 : decode cX0_takeHypotheses 64 = .ok (.invokevirtual 104, 3) := by decide +kernel
theorem dX0_takeHypotheses_67 : decode cX0_takeHypotheses 67 = .ok (.ifCond .ne 6, 3) := by decide +kernel
theorem dX0_takeHypotheses_70 : decode cX0_takeHypotheses 70 = .ok (.goto 46, 3) := by decide +kernel
theorem dX0_takeHypotheses_73 : decode cX0_takeHypotheses 73 = .ok (.aload_n 0, 1) := by decide +kernel
theorem dX0_takeHypotheses_74 : decode cX0_takeHypotheses 74 = .ok (.getfield 15, 3) := by decide +kernel
theorem dX0_takeHypotheses_77 : decode cX0_takeHypotheses 77 = .ok (.iload_n 1, 1) := by decide +kernel
theorem dX0_takeHypotheses_78 : decode cX0_takeHypotheses 78 = .ok (.iaload, 1) := by decide +kernel
theorem dX0_takeHypotheses_79 : decode cX0_takeHypotheses 79 = .ok (.bipush 60, 2) := by decide +kernel
theorem dX0_takeHypotheses_81 : decode cX0_takeHypotheses 81 = .ok (.if_icmp .ne 5, 3) := by decide +kernel
theorem dX0_takeHypotheses_84 : decode cX0_takeHypotheses 84 = .ok (.iconst 0, 1) := by decide +kernel
theorem dX0_takeHypotheses_85 : decode cX0_takeHypotheses 85 = .ok (.ireturn, 1) := by decide +kernel
theorem dX0_takeHypotheses_86 : decode cX0_takeHypotheses 86 = .ok (.aload_n 0, 1) := by decide +kernel
theorem dX0_takeHypotheses_87 : decode cX0_takeHypotheses 87 = .ok (.getfield 19, 3) := by decide +kernel
theorem dX0_takeHypotheses_90 : decode cX0_takeHypotheses 90 = .ok (.aload_n 0, 1) := by decide +kernel
theorem dX0_takeHypotheses_91 : decode cX0_takeHypotheses 91 = .ok (.getfield 65, 3) := by decide +kernel
theorem dX0_takeHypotheses_94 : decode cX0_takeHypotheses 94 = .ok (.iload_n 3, 1) := by decide +kernel
theorem dX0_takeHypotheses_95 : decode cX0_takeHypotheses 95 = .ok (.iastore, 1) := by decide +kernel
theorem dX0_takeHypotheses_96 : decode cX0_takeHypotheses 96 = .ok (.aload_n 0, 1) := by decide +kernel
theorem dX0_takeHypotheses_97 : decode cX0_takeHypotheses 97 = .ok (.dup, 1) := by decide +kernel
theorem dX0_takeHypotheses_98 : decode cX0_takeHypotheses 98 = .ok (.getfield 65, 3) := by decide +kernel
theorem dX0_takeHypotheses_101 : decode cX0_takeHypotheses 101 = .ok (.iconst 1, 1) := by decide +kernel
theorem dX0_takeHypotheses_102 : decode cX0_takeHypotheses 102 = .ok (.iadd, 1) := by decide +kernel
theorem dX0_takeHypotheses_103 : decode cX0_takeHypotheses 103 = .ok (.putfield 65, 3) := by decide +kernel
theorem dX0_takeHypotheses_106 : decode cX0_takeHypotheses 106 = .ok (.aload_n 0, 1) := by decide +kernel
theorem dX0_takeHypotheses_107 : decode cX0_takeHypotheses 107 = .ok (.getfield 15, 3) := by decide +kernel
theorem dX0_takeHypotheses_110 : decode cX0_takeHypotheses 110 = .ok (.iload_n 1, 1) := by decide +kernel
theorem dX0_takeHypotheses_111 : decode cX0_takeHypotheses 111 = .ok (.dup2, 1) := by decide +kernel
theorem dX0_takeHypotheses_112 : decode cX0_takeHypotheses 112 = .ok (.iaload, 1) := by decide +kernel
theorem dX0_takeHypotheses_113 : decode cX0_takeHypotheses 113 = .ok (.iconst 1, 1) := by decide +kernel
theorem dX0_takeHypotheses_114 : decode cX0_takeHypotheses 114 = .ok (.iadd, 1) := by decide +kernel
theorem dX0_takeHypotheses_115 : decode cX0_takeHypotheses 115 = .ok (.iastore, 1) := by decide +kernel
theorem dX0_takeHypotheses_116 : decode cX0_takeHypotheses 116 = .ok (.iinc 2 1, 3) := by decide +kernel
theorem dX0_takeHypotheses_119 : decode cX0_takeHypotheses 119 = .ok (.goto (-100), 3) := by decide +kernel
theorem dX0_takeHypotheses_122 : decode cX0_takeHypotheses 122 = .ok (.iconst 1, 1) := by decide +kernel
theorem dX0_takeHypotheses_123 : decode cX0_takeHypotheses 123 = .ok (.ireturn, 1) := by decide +kernel
theorem dX0_takePairs_0 : decode cX0_takePairs 0 = .ok (.aload_n 0, 1) := by decide +kernel
theorem dX0_takePairs_1 : decode cX0_takePairs 1 = .ok (.getfield 22, 3) := by decide +kernel
theorem dX0_takePairs_4 : decode cX0_takePairs 4 = .ok (.iload_n 1, 1) := by decide +kernel
theorem dX0_takePairs_5 : decode cX0_takePairs 5 = .ok (.aload_n 0, 1) := by decide +kernel
theorem dX0_takePairs_6 : decode cX0_takePairs 6 = .ok (.getfield 69, 3) := by decide +kernel
theorem dX0_takePairs_9 : decode cX0_takePairs 9 = .ok (.iastore, 1) := by decide +kernel
theorem dX0_takePairs_10 : decode cX0_takePairs 10 = .ok (.aload_n 0, 1) := by decide +kernel
theorem dX0_takePairs_11 : decode cX0_takePairs 11 = .ok (.getfield 25, 3) := by decide +kernel
theorem dX0_takePairs_14 : decode cX0_takePairs 14 = .ok (.iload_n 1, 1) := by decide +kernel
theorem dX0_takePairs_15 : decode cX0_takePairs 15 = .ok (.iconst 0, 1) := by decide +kernel
theorem dX0_takePairs_16 : decode cX0_takePairs 16 = .ok (.iastore, 1) := by decide +kernel
theorem dX0_takePairs_17 : decode cX0_takePairs 17 = .ok (.iconst 0, 1) := by decide +kernel
theorem dX0_takePairs_18 : decode cX0_takePairs 18 = .ok (.istore_n 2, 1) := by decide +kernel
theorem dX0_takePairs_19 : decode cX0_takePairs 19 = .ok (.iload_n 2, 1) := by decide +kernel
theorem dX0_takePairs_20 : decode cX0_takePairs 20 = .ok (.aload_n 0, 1) := by decide +kernel
theorem dX0_takePairs_21 : decode cX0_takePairs 21 = .ok (.getfield 61, 3) := by decide +kernel
theorem dX0_takePairs_24 : decode cX0_takePairs 24 = .ok (.getfield 107, 3) := by decide +kernel
theorem dX0_takePairs_27 : decode cX0_takePairs 27 = .ok (.if_icmp .ge 105, 3) := by decide +kernel
theorem dX0_takePairs_30 : decode cX0_takePairs 30 = .ok (.aload_n 0, 1) := by decide +kernel
theorem dX0_takePairs_31 : decode cX0_takePairs 31 = .ok (.getfield 61, 3) := by decide +kernel
theorem dX0_takePairs_34 : decode cX0_takePairs 34 = .ok (.getfield 110, 3) := by decide +kernel
theorem dX0_takePairs_37 : decode cX0_takePairs 37 = .ok (.iload_n 2, 1) := by decide +kernel
theorem dX0_takePairs_38 : decode cX0_takePairs 38 = .ok (.iaload, 1) := by decide +kernel
theorem dX0_takePairs_39 : decode cX0_takePairs 39 = .ok (.istore_n 3, 1) := by decide +kernel
theorem dX0_takePairs_40 : decode cX0_takePairs 40 = .ok (.aload_n 0, 1) := by decide +kernel
theorem dX0_takePairs_41 : decode cX0_takePairs 41 = .ok (.getfield 61, 3) := by decide +kernel
theorem dX0_takePairs_44 : decode cX0_takePairs 44 = .ok (.getfield 113, 3) := by decide +kernel
theorem dX0_takePairs_47 : decode cX0_takePairs 47 = .ok (.iload_n 2, 1) := by decide +kernel
theorem dX0_takePairs_48 : decode cX0_takePairs 48 = .ok (.iaload, 1) := by decide +kernel
theorem dX0_takePairs_49 : decode cX0_takePairs 49 = .ok (.istore 4, 2) := by decide +kernel
theorem dX0_takePairs_51 : decode cX0_takePairs 51 = .ok (.aload_n 0, 1) := by decide +kernel
theorem dX0_takePairs_52 : decode cX0_takePairs 52 = .ok (.getfield 61, 3) := by decide +kernel
theorem dX0_takePairs_55 : decode cX0_takePairs 55 = .ok (.iload_n 3, 1) := by decide +kernel
theorem dX0_takePairs_56 : decode cX0_takePairs 56 = .ok (.invokevirtual 104, 3) := by decide +kernel
theorem dX0_takePairs_59 : decode cX0_takePairs 59 = .ok (.ifCond .eq 67, 3) := by decide +kernel
theorem dX0_takePairs_62 : decode cX0_takePairs 62 = .ok (.aload_n 0, 1) := by decide +kernel
theorem dX0_takePairs_63 : decode cX0_takePairs 63 = .ok (.getfield 61, 3) := by decide +kernel
theorem dX0_takePairs_66 : decode cX0_takePairs 66 = .ok (.iload 4, 2) := by decide +kernel
theorem dX0_takePairs_68 : decode cX0_takePairs 68 = .ok (.invokevirtual 104, 3) := by decide +kernel
theorem dX0_takePairs_71 : decode cX0_takePairs 71 = .ok (.ifCond .ne 6, 3) := by decide +kernel
theorem dX0_takePairs_74 : decode cX0_takePairs 74 = .ok (.goto 52, 3) := by decide +kernel
theorem dX0_takePairs_77 : decode cX0_takePairs 77 = .ok (.aload_n 0, 1) := by decide +kernel
theorem dX0_takePairs_78 : decode cX0_takePairs 78 = .ok (.getfield 69, 3) := by decide +kernel
theorem dX0_takePairs_81 : decode cX0_takePairs 81 = .ok (.sipush 20000, 3) := by decide +kernel
theorem dX0_takePairs_84 : decode cX0_takePairs 84 = .ok (.if_icmp .ne 5, 3) := by decide +kernel
theorem dX0_takePairs_87 : decode cX0_takePairs 87 = .ok (.iconst 0, 1) := by decide +kernel
theorem dX0_takePairs_88 : decode cX0_takePairs 88 = .ok (.ireturn, 1) := by decide +kernel
theorem dX0_takePairs_89 : decode cX0_takePairs 89 = .ok (.aload_n 0, 1) := by decide +kernel
theorem dX0_takePairs_90 : decode cX0_takePairs 90 = .ok (.getfield 28, 3) := by decide +kernel
theorem dX0_takePairs_93 : decode cX0_takePairs 93 = .ok (.aload_n 0, 1) := by decide +kernel
theorem dX0_takePairs_94 : decode cX0_takePairs 94 = .ok (.getfield 69, 3) := by decide +kernel
theorem dX0_takePairs_97 : decode cX0_takePairs 97 = .ok (.iload_n 3, 1) := by decide +kernel
theorem dX0_takePairs_98 : decode cX0_takePairs 98 = .ok (.sipush 1000, 3) := by decide +kernel
theorem dX0_takePairs_101 : decode cX0_takePairs 101 = .ok (.imul, 1) := by decide +kernel
theorem dX0_takePairs_102 : decode cX0_takePairs 102 = .ok (.iload 4, 2) := by decide +kernel
theorem dX0_takePairs_104 : decode cX0_takePairs 104 = .ok (.iadd, 1) := by decide +kernel
theorem dX0_takePairs_105 : decode cX0_takePairs 105 = .ok (.iastore, 1) := by decide +kernel
theorem dX0_takePairs_106 : decode cX0_takePairs 106 = .ok (.aload_n 0, 1) := by decide +kernel
theorem dX0_takePairs_107 : decode cX0_takePairs 107 = .ok (.dup, 1) := by decide +kernel
theorem dX0_takePairs_108 : decode cX0_takePairs 108 = .ok (.getfield 69, 3) := by decide +kernel
theorem dX0_takePairs_111 : decode cX0_takePairs 111 = .ok (.iconst 1, 1) := by decide +kernel
theorem dX0_takePairs_112 : decode cX0_takePairs 112 = .ok (.iadd, 1) := by decide +kernel
theorem dX0_takePairs_113 : decode cX0_takePairs 113 = .ok (.putfield 69, 3) := by decide +kernel
theorem dX0_takePairs_116 : decode cX0_takePairs 116 = .ok (.aload_n 0, 1) := by decide +kernel
theorem dX0_takePairs_117 : decode cX0_takePairs 117 = .ok (.getfield 25, 3) := by decide +kernel
theorem dX0_takePairs_120 : decode cX0_takePairs 120 = .ok (.iload_n 1, 1) := by decide +kernel
theorem dX0_takePairs_121 : decode cX0_takePairs 121 = .ok (.dup2, 1) := by decide +kernel
theorem dX0_takePairs_122 : decode cX0_takePairs 122 = .ok (.iaload, 1) := by decide +kernel
theorem dX0_takePairs_123 : decode cX0_takePairs 123 = .ok (.iconst 1, 1) := by decide +kernel
theorem dX0_takePairs_124 : decode cX0_takePairs 124 = .ok (.iadd, 1) := by decide +kernel
theorem dX0_takePairs_125 : decode cX0_takePairs 125 = .ok (.iastore, 1) := by decide +kernel
theorem dX0_takePairs_126 : decode cX0_takePairs 126 = .ok (.iinc 2 1, 3) := by decide +kernel
theorem dX0_takePairs_129 : decode cX0_takePairs 129 = .ok (.goto (-110), 3) := by decide +kernel
theorem dX0_takePairs_132 : decode cX0_takePairs 132 = .ok (.iconst 1, 1) := by decide +kernel
theorem dX0_takePairs_133 : decode cX0_takePairs 133 = .ok (.ireturn, 1) := by decide +kernel
theorem dX0_placeInFrame_0 : decode cX0_placeInFrame 0 = .ok (.iconst 0, 1) := by decide +kernel
theorem dX0_placeInFrame_1 : decode cX0_placeInFrame 1 = .ok (.istore_n 3, 1) := by decide +kernel
theorem dX0_placeInFrame_2 : decode cX0_placeInFrame 2 = .ok (.iload_n 3, 1) := by decide +kernel
theorem dX0_placeInFrame_3 : decode cX0_placeInFrame 3 = .ok (.aload_n 0, 1) := by decide +kernel
theorem dX0_placeInFrame_4 : decode cX0_placeInFrame 4 = .ok (.getfield 15, 3) := by decide +kernel
theorem dX0_placeInFrame_7 : decode cX0_placeInFrame 7 = .ok (.iload_n 1, 1) := by decide +kernel
theorem dX0_placeInFrame_8 : decode cX0_placeInFrame 8 = .ok (.iaload, 1) := by decide +kernel
theorem dX0_placeInFrame_9 : decode cX0_placeInFrame 9 = .ok (.if_icmp .ge 28, 3) := by decide +kernel
theorem dX0_placeInFrame_12 : decode cX0_placeInFrame 12 = .ok (.aload_n 0, 1) := by decide +kernel
theorem dX0_placeInFrame_13 : decode cX0_placeInFrame 13 = .ok (.getfield 19, 3) := by decide +kernel
theorem dX0_placeInFrame_16 : decode cX0_placeInFrame 16 = .ok (.aload_n 0, 1) := by decide +kernel
theorem dX0_placeInFrame_17 : decode cX0_placeInFrame 17 = .ok (.getfield 9, 3) := by decide +kernel
theorem dX0_placeInFrame_20 : decode cX0_placeInFrame 20 = .ok (.iload_n 1, 1) := by decide +kernel
theorem dX0_placeInFrame_21 : decode cX0_placeInFrame 21 = .ok (.iaload, 1) := by decide +kernel
theorem dX0_placeInFrame_22 : decode cX0_placeInFrame 22 = .ok (.iload_n 3, 1) := by decide +kernel
theorem dX0_placeInFrame_23 : decode cX0_placeInFrame 23 = .ok (.iadd, 1) := by decide +kernel
theorem dX0_placeInFrame_24 : decode cX0_placeInFrame 24 = .ok (.iaload, 1) := by decide +kernel
theorem dX0_placeInFrame_25 : decode cX0_placeInFrame 25 = .ok (.iload_n 2, 1) := by decide +kernel
theorem dX0_placeInFrame_26 : decode cX0_placeInFrame 26 = .ok (.if_icmp .ne 5, 3) := by decide +kernel
theorem dX0_placeInFrame_29 : decode cX0_placeInFrame 29 = .ok (.iload_n 3, 1) := by decide +kernel
theorem dX0_placeInFrame_30 : decode cX0_placeInFrame 30 = .ok (.ireturn, 1) := by decide +kernel
theorem dX0_placeInFrame_31 : decode cX0_placeInFrame 31 = .ok (.iinc 3 1, 3) := by decide +kernel
theorem dX0_placeInFrame_34 : decode cX0_placeInFrame 34 = .ok (.goto (-32), 3) := by decide +kernel
theorem dX0_placeInFrame_37 : decode cX0_placeInFrame 37 = .ok (.iconst (-1), 1) := by decide +kernel
theorem dX0_placeInFrame_38 : decode cX0_placeInFrame 38 = .ok (.ireturn, 1) := by decide +kernel
theorem dX0_hasEssential_0 : decode cX0_hasEssential 0 = .ok (.iconst 0, 1) := by decide +kernel
theorem dX0_hasEssential_1 : decode cX0_hasEssential 1 = .ok (.istore_n 2, 1) := by decide +kernel
theorem dX0_hasEssential_2 : decode cX0_hasEssential 2 = .ok (.iload_n 2, 1) := by decide +kernel
theorem dX0_hasEssential_3 : decode cX0_hasEssential 3 = .ok (.aload_n 0, 1) := by decide +kernel
theorem dX0_hasEssential_4 : decode cX0_hasEssential 4 = .ok (.getfield 15, 3) := by decide +kernel
theorem dX0_hasEssential_7 : decode cX0_hasEssential 7 = .ok (.iload_n 1, 1) := by decide +kernel
theorem dX0_hasEssential_8 : decode cX0_hasEssential 8 = .ok (.iaload, 1) := by decide +kernel
theorem dX0_hasEssential_9 : decode cX0_hasEssential 9 = .ok (.if_icmp .ge 36, 3) := by decide +kernel
theorem dX0_hasEssential_12 : decode cX0_hasEssential 12 = .ok (.aload_n 0, 1) := by decide +kernel
theorem dX0_hasEssential_13 : decode cX0_hasEssential 13 = .ok (.getfield 57, 3) := by decide +kernel
theorem dX0_hasEssential_16 : decode cX0_hasEssential 16 = .ok (.getfield 95, 3) := by decide +kernel
theorem dX0_hasEssential_19 : decode cX0_hasEssential 19 = .ok (.aload_n 0, 1) := by decide +kernel
theorem dX0_hasEssential_20 : decode cX0_hasEssential 20 = .ok (.getfield 19, 3) := by decide +kernel
theorem dX0_hasEssential_23 : decode cX0_hasEssential 23 = .ok (.aload_n 0, 1) := by decide +kernel
theorem dX0_hasEssential_24 : decode cX0_hasEssential 24 = .ok (.getfield 9, 3) := by decide +kernel
theorem dX0_hasEssential_27 : decode cX0_hasEssential 27 = .ok (.iload_n 1, 1) := by decide +kernel
theorem dX0_hasEssential_28 : decode cX0_hasEssential 28 = .ok (.iaload, 1) := by decide +kernel
theorem dX0_hasEssential_29 : decode cX0_hasEssential 29 = .ok (.iload_n 2, 1) := by decide +kernel
theorem dX0_hasEssential_30 : decode cX0_hasEssential 30 = .ok (.iadd, 1) := by decide +kernel
theorem dX0_hasEssential_31 : decode cX0_hasEssential 31 = .ok (.iaload, 1) := by decide +kernel
theorem dX0_hasEssential_32 : decode cX0_hasEssential 32 = .ok (.iaload, 1) := by decide +kernel
theorem dX0_hasEssential_33 : decode cX0_hasEssential 33 = .ok (.iconst 1, 1) := by decide +kernel
theorem dX0_hasEssential_34 : decode cX0_hasEssential 34 = .ok (.if_icmp .ne 5, 3) := by decide +kernel
theorem dX0_hasEssential_37 : decode cX0_hasEssential 37 = .ok (.iconst 1, 1) := by decide +kernel
theorem dX0_hasEssential_38 : decode cX0_hasEssential 38 = .ok (.ireturn, 1) := by decide +kernel
theorem dX0_hasEssential_39 : decode cX0_hasEssential 39 = .ok (.iinc 2 1, 3) := by decide +kernel
theorem dX0_hasEssential_42 : decode cX0_hasEssential 42 = .ok (.goto (-40), 3) := by decide +kernel
theorem dX0_hasEssential_45 : decode cX0_hasEssential 45 = .ok (.iconst 0, 1) := by decide +kernel
theorem dX0_hasEssential_46 : decode cX0_hasEssential 46 = .ok (.ireturn, 1) := by decide +kernel
theorem dX0_isPair_0 : decode cX0_isPair 0 = .ok (.aload_n 0, 1) := by decide +kernel
theorem dX0_isPair_1 : decode cX0_isPair 1 = .ok (.getfield 22, 3) := by decide +kernel
theorem dX0_isPair_4 : decode cX0_isPair 4 = .ok (.iload_n 1, 1) := by decide +kernel
theorem dX0_isPair_5 : decode cX0_isPair 5 = .ok (.iaload, 1) := by decide +kernel
theorem dX0_isPair_6 : decode cX0_isPair 6 = .ok (.istore 4, 2) := by decide +kernel
theorem dX0_isPair_8 : decode cX0_isPair 8 = .ok (.iload 4, 2) := by decide +kernel
theorem dX0_isPair_10 : decode cX0_isPair 10 = .ok (.aload_n 0, 1) := by decide +kernel
theorem dX0_isPair_11 : decode cX0_isPair 11 = .ok (.getfield 22, 3) := by decide +kernel
theorem dX0_isPair_14 : decode cX0_isPair 14 = .ok (.iload_n 1, 1) := by decide +kernel
theorem dX0_isPair_15 : decode cX0_isPair 15 = .ok (.iaload, 1) := by decide +kernel
theorem dX0_isPair_16 : decode cX0_isPair 16 = .ok (.aload_n 0, 1) := by decide +kernel
theorem dX0_isPair_17 : decode cX0_isPair 17 = .ok (.getfield 25, 3) := by decide +kernel
theorem dX0_isPair_20 : decode cX0_isPair 20 = .ok (.iload_n 1, 1) := by decide +kernel
theorem dX0_isPair_21 : decode cX0_isPair 21 = .ok (.iaload, 1) := by decide +kernel
theorem dX0_isPair_22 : decode cX0_isPair 22 = .ok (.iadd, 1) := by decide +kernel
theorem dX0_isPair_23 : decode cX0_isPair 23 = .ok (.if_icmp .ge 51, 3) := by decide +kernel
theorem dX0_isPair_26 : decode cX0_isPair 26 = .ok (.aload_n 0, 1) := by decide +kernel
theorem dX0_isPair_27 : decode cX0_isPair 27 = .ok (.iload 4, 2) := by decide +kernel
theorem dX0_isPair_29 : decode cX0_isPair 29 = .ok (.invokevirtual 116, 3) := by decide +kernel
theorem dX0_isPair_32 : decode cX0_isPair 32 = .ok (.istore 5, 2) := by decide +kernel
theorem dX0_isPair_34 : decode cX0_isPair 34 = .ok (.aload_n 0, 1) := by decide +kernel
theorem dX0_isPair_35 : decode cX0_isPair 35 = .ok (.iload 4, 2) := by decide +kernel
theorem dX0_isPair_37 : decode cX0_isPair 37 = .ok (.invokevirtual 119, 3) := by decide +kernel
theorem dX0_isPair_40 : decode cX0_isPair 40 = .ok (.istore 6, 2) := by decide +kernel
theorem dX0_isPair_42 : decode cX0_isPair 42 = .ok (.iload 5, 2) := by decide +kernel
theorem dX0_isPair_44 : decode cX0_isPair 44 = .ok (.iload_n 2, 1) := by decide +kernel
theorem dX0_isPair_45 : decode cX0_isPair 45 = .ok (.if_icmp .ne 9, 3) := by decide +kernel
theorem dX0_isPair_48 : decode cX0_isPair 48 = .ok (.iload 6, 2) := by decide +kernel
theorem dX0_isPair_50 : decode cX0_isPair 50 = .ok (.iload_n 3, 1) := by decide +kernel
theorem dX0_isPair_51 : decode cX0_isPair 51 = .ok (.if_icmp .eq 15, 3) := by decide +kernel
theorem dX0_isPair_54 : decode cX0_isPair 54 = .ok (.iload 5, 2) := by decide +kernel
theorem dX0_isPair_56 : decode cX0_isPair 56 = .ok (.iload_n 3, 1) := by decide +kernel
theorem dX0_isPair_57 : decode cX0_isPair 57 = .ok (.if_icmp .ne 11, 3) := by decide +kernel
theorem dX0_isPair_60 : decode cX0_isPair 60 = .ok (.iload 6, 2) := by decide +kernel
theorem dX0_isPair_62 : decode cX0_isPair 62 = .ok (.iload_n 2, 1) := by decide +kernel
theorem dX0_isPair_63 : decode cX0_isPair 63 = .ok (.if_icmp .ne 5, 3) := by decide +kernel
theorem dX0_isPair_66 : decode cX0_isPair 66 = .ok (.iconst 1, 1) := by decide +kernel
theorem dX0_isPair_67 : decode cX0_isPair 67 = .ok (.ireturn, 1) := by decide +kernel
theorem dX0_isPair_68 : decode cX0_isPair 68 = .ok (.iinc 4 1, 3) := by decide +kernel
theorem dX0_isPair_71 : decode cX0_isPair 71 = .ok (.goto (-63), 3) := by decide +kernel
theorem dX0_isPair_74 : decode cX0_isPair 74 = .ok (.iconst 0, 1) := by decide +kernel
theorem dX0_isPair_75 : decode cX0_isPair 75 = .ok (.ireturn, 1) := by decide +kernel
theorem dX0_firstOf_0 : decode cX0_firstOf 0 = .ok (.aload_n 0, 1) := by decide +kernel
theorem dX0_firstOf_1 : decode cX0_firstOf 1 = .ok (.getfield 28, 3) := by decide +kernel
theorem dX0_firstOf_4 : decode cX0_firstOf 4 = .ok (.iload_n 1, 1) := by decide +kernel
theorem dX0_firstOf_5 : decode cX0_firstOf 5 = .ok (.iaload, 1) := by decide +kernel
theorem dX0_firstOf_6 : decode cX0_firstOf 6 = .ok (.sipush 1000, 3) := by decide +kernel
theorem dX0_firstOf_9 : decode cX0_firstOf 9 = .ok (.idiv, 1) := by decide +kernel
theorem dX0_firstOf_10 : decode cX0_firstOf 10 = .ok (.ireturn, 1) := by decide +kernel
theorem dX0_secondOf_0 : decode cX0_secondOf 0 = .ok (.aload_n 0, 1) := by decide +kernel
theorem dX0_secondOf_1 : decode cX0_secondOf 1 = .ok (.getfield 28, 3) := by decide +kernel
theorem dX0_secondOf_4 : decode cX0_secondOf 4 = .ok (.iload_n 1, 1) := by decide +kernel
theorem dX0_secondOf_5 : decode cX0_secondOf 5 = .ok (.iaload, 1) := by decide +kernel
theorem dX0_secondOf_6 : decode cX0_secondOf 6 = .ok (.sipush 1000, 3) := by decide +kernel
theorem dX0_secondOf_9 : decode cX0_secondOf 9 = .ok (.irem, 1) := by decide +kernel
theorem dX0_secondOf_10 : decode cX0_secondOf 10 = .ok (.ireturn, 1) := by decide +kernel
theorem dX0_childCount_0 : decode cX0_childCount 0 = .ok (.aload_n 0, 1) := by decide +kernel
theorem dX0_childCount_1 : decode cX0_childCount 1 = .ok (.getfield 40, 3) := by decide +kernel
theorem dX0_childCount_4 : decode cX0_childCount 4 = .ok (.iload_n 1, 1) := by decide +kernel
theorem dX0_childCount_5 : decode cX0_childCount 5 = .ok (.iconst 1, 1) := by decide +kernel
theorem dX0_childCount_6 : decode cX0_childCount 6 = .ok (.iadd, 1) := by decide +kernel
theorem dX0_childCount_7 : decode cX0_childCount 7 = .ok (.iaload, 1) := by decide +kernel
theorem dX0_childCount_8 : decode cX0_childCount 8 = .ok (.aload_n 0, 1) := by decide +kernel
theorem dX0_childCount_9 : decode cX0_childCount 9 = .ok (.getfield 40, 3) := by decide +kernel
theorem dX0_childCount_12 : decode cX0_childCount 12 = .ok (.iload_n 1, 1) := by decide +kernel
theorem dX0_childCount_13 : decode cX0_childCount 13 = .ok (.iaload, 1) := by decide +kernel
theorem dX0_childCount_14 : decode cX0_childCount 14 = .ok (.isub, 1) := by decide +kernel
theorem dX0_childCount_15 : decode cX0_childCount 15 = .ok (.ireturn, 1) := by decide +kernel
theorem dX0_keepRows_0 : decode cX0_keepRows 0 = .ok (.aload_n 0, 1) := by decide +kernel
theorem dX0_keepRows_1 : decode cX0_keepRows 1 = .ok (.getfield 31, 3) := by decide +kernel
theorem dX0_keepRows_4 : decode cX0_keepRows 4 = .ok (.iload_n 1, 1) := by decide +kernel
theorem dX0_keepRows_5 : decode cX0_keepRows 5 = .ok (.aload_n 0, 1) := by decide +kernel
theorem dX0_keepRows_6 : decode cX0_keepRows 6 = .ok (.getfield 72, 3) := by decide +kernel
theorem dX0_keepRows_9 : decode cX0_keepRows 9 = .ok (.iastore, 1) := by decide +kernel
theorem dX0_keepRows_10 : decode cX0_keepRows 10 = .ok (.aload_n 0, 1) := by decide +kernel
theorem dX0_keepRows_11 : decode cX0_keepRows 11 = .ok (.getfield 34, 3) := by decide +kernel
theorem dX0_keepRows_14 : decode cX0_keepRows 14 = .ok (.iload_n 1, 1) := by decide +kernel
theorem dX0_keepRows_15 : decode cX0_keepRows 15 = .ok (.iload_n 2, 1) := by decide +kernel
theorem dX0_keepRows_16 : decode cX0_keepRows 16 = .ok (.iastore, 1) := by decide +kernel
theorem dX0_keepRows_17 : decode cX0_keepRows 17 = .ok (.aload_n 0, 1) := by decide +kernel
theorem dX0_keepRows_18 : decode cX0_keepRows 18 = .ok (.getfield 72, 3) := by decide +kernel
theorem dX0_keepRows_21 : decode cX0_keepRows 21 = .ok (.istore_n 3, 1) := by decide +kernel
theorem dX0_keepRows_22 : decode cX0_keepRows 22 = .ok (.iload_n 3, 1) := by decide +kernel
theorem dX0_keepRows_23 : decode cX0_keepRows 23 = .ok (.aload_n 0, 1) := by decide +kernel
theorem dX0_keepRows_24 : decode cX0_keepRows 24 = .ok (.getfield 72, 3) := by decide +kernel
theorem dX0_keepRows_27 : decode cX0_keepRows 27 = .ok (.iload_n 2, 1) := by decide +kernel
theorem dX0_keepRows_28 : decode cX0_keepRows 28 = .ok (.iadd, 1) := by decide +kernel
theorem dX0_keepRows_29 : decode cX0_keepRows 29 = .ok (.if_icmp .ge 75, 3) := by decide +kernel
theorem dX0_keepRows_32 : decode cX0_keepRows 32 = .ok (.lconst 1, 1) := by decide +kernel
theorem dX0_keepRows_33 : decode cX0_keepRows 33 = .ok (.lstore 4, 2) := by decide +kernel
theorem dX0_keepRows_35 : decode cX0_keepRows 35 = .ok (.aload_n 0, 1) := by decide +kernel
theorem dX0_keepRows_36 : decode cX0_keepRows 36 = .ok (.getfield 40, 3) := by decide +kernel
theorem dX0_keepRows_39 : decode cX0_keepRows 39 = .ok (.iload_n 3, 1) := by decide +kernel
theorem dX0_keepRows_40 : decode cX0_keepRows 40 = .ok (.iaload, 1) := by decide +kernel
theorem dX0_keepRows_41 : decode cX0_keepRows 41 = .ok (.istore 6, 2) := by decide +kernel
theorem dX0_keepRows_43 : decode cX0_keepRows 43 = .ok (.iload 6, 2) := by decide +kernel
theorem dX0_keepRows_45 : decode cX0_keepRows 45 = .ok (.aload_n 0, 1) := by decide +kernel
theorem dX0_keepRows_46 : decode cX0_keepRows 46 = .ok (.getfield 40, 3) := by decide +kernel
theorem dX0_keepRows_49 : decode cX0_keepRows 49 = .ok (.iload_n 3, 1) := by decide +kernel
theorem dX0_keepRows_50 : decode cX0_keepRows 50 = .ok (.iconst 1, 1) := by decide +kernel
theorem dX0_keepRows_51 : decode cX0_keepRows 51 = .ok (.iadd, 1) := by decide +kernel
theorem dX0_keepRows_52 : decode cX0_keepRows 52 = .ok (.iaload, 1) := by decide +kernel
theorem dX0_keepRows_53 : decode cX0_keepRows 53 = .ok (.if_icmp .ge 37, 3) := by decide +kernel
theorem dX0_keepRows_56 : decode cX0_keepRows 56 = .ok (.ldc2_w 122, 3) := by decide +kernel
theorem dX0_keepRows_59 : decode cX0_keepRows 59 = .ok (.lload 4, 2) := by decide +kernel
theorem dX0_keepRows_61 : decode cX0_keepRows 61 = .ok (.aload_n 0, 1) := by decide +kernel
theorem dX0_keepRows_62 : decode cX0_keepRows 62 = .ok (.getfield 46, 3) := by decide +kernel
theorem dX0_keepRows_65 : decode cX0_keepRows 65 = .ok (.aload_n 0, 1) := by decide +kernel
theorem dX0_keepRows_66 : decode cX0_keepRows 66 = .ok (.getfield 72, 3) := by decide +kernel
theorem dX0_keepRows_69 : decode cX0_keepRows 69 = .ok (.aload_n 0, 1) := by decide +kernel
theorem dX0_keepRows_70 : decode cX0_keepRows 70 = .ok (.getfield 43, 3) := by decide +kernel
theorem dX0_keepRows_73 : decode cX0_keepRows 73 = .ok (.iload 6, 2) := by decide +kernel
theorem dX0_keepRows_75 : decode cX0_keepRows 75 = .ok (.iaload, 1) := by decide +kernel
theorem dX0_keepRows_76 : decode cX0_keepRows 76 = .ok (.iadd, 1) := by decide +kernel
theorem dX0_keepRows_77 : decode cX0_keepRows 77 = .ok (.laload, 1) := by decide +kernel
theorem dX0_keepRows_78 : decode cX0_keepRows 78 = .ok (.ladd, 1) := by decide +kernel
theorem dX0_keepRows_79 : decode cX0_keepRows 79 = .ok (.invokestatic 124, 3) := by decide +kernel
theorem dX0_keepRows_82 : decode cX0_keepRows 82 = .ok (.lstore 4, 2) := by decide +kernel
theorem dX0_keepRows_84 : decode cX0_keepRows 84 = .ok (.iinc 6 1, 3) := by decide +kernel
theorem dX0_keepRows_87 : decode cX0_keepRows 87 = .ok (.goto (-44), 3) := by decide +kernel
theorem dX0_keepRows_90 : decode cX0_keepRows 90 = .ok (.aload_n 0, 1) := by decide +kernel
theorem dX0_keepRows_91 : decode cX0_keepRows 91 = .ok (.getfield 46, 3) := by decide +kernel
theorem dX0_keepRows_94 : decode cX0_keepRows 94 = .ok (.iload_n 3, 1) := by decide +kernel
theorem dX0_keepRows_95 : decode cX0_keepRows 95 = .ok (.lload 4, 2) := by decide +kernel
theorem dX0_keepRows_97 : decode cX0_keepRows 97 = .ok (.lastore, 1) := by decide +kernel
theorem dX0_keepRows_98 : decode cX0_keepRows 98 = .ok (.iinc 3 1, 3) := by decide +kernel
theorem dX0_keepRows_101 : decode cX0_keepRows 101 = .ok (.goto (-79), 3) := by decide +kernel
theorem dX0_keepRows_104 : decode cX0_keepRows 104 = .ok (.aload_n 0, 1) := by decide +kernel
theorem dX0_keepRows_105 : decode cX0_keepRows 105 = .ok (.dup, 1) := by decide +kernel
theorem dX0_keepRows_106 : decode cX0_keepRows 106 = .ok (.getfield 72, 3) := by decide +kernel
theorem dX0_keepRows_109 : decode cX0_keepRows 109 = .ok (.iload_n 2, 1) := by decide +kernel
theorem dX0_keepRows_110 : decode cX0_keepRows 110 = .ok (.iadd, 1) := by decide +kernel
theorem dX0_keepRows_111 : decode cX0_keepRows 111 = .ok (.putfield 72, 3) := by decide +kernel
theorem dX0_keepRows_114 : decode cX0_keepRows 114 = .ok (.return_, 1) := by decide +kernel
theorem dX0_labelsOf_0 : decode cX0_labelsOf 0 = .ok (.aload_n 0, 1) := by decide +kernel
theorem dX0_labelsOf_1 : decode cX0_labelsOf 1 = .ok (.getfield 46, 3) := by decide +kernel
theorem dX0_labelsOf_4 : decode cX0_labelsOf 4 = .ok (.aload_n 0, 1) := by decide +kernel
theorem dX0_labelsOf_5 : decode cX0_labelsOf 5 = .ok (.getfield 31, 3) := by decide +kernel
theorem dX0_labelsOf_8 : decode cX0_labelsOf 8 = .ok (.iload_n 1, 1) := by decide +kernel
theorem dX0_labelsOf_9 : decode cX0_labelsOf 9 = .ok (.iaload, 1) := by decide +kernel
theorem dX0_labelsOf_10 : decode cX0_labelsOf 10 = .ok (.aload_n 0, 1) := by decide +kernel
theorem dX0_labelsOf_11 : decode cX0_labelsOf 11 = .ok (.getfield 34, 3) := by decide +kernel
theorem dX0_labelsOf_14 : decode cX0_labelsOf 14 = .ok (.iload_n 1, 1) := by decide +kernel
theorem dX0_labelsOf_15 : decode cX0_labelsOf 15 = .ok (.iaload, 1) := by decide +kernel
theorem dX0_labelsOf_16 : decode cX0_labelsOf 16 = .ok (.iadd, 1) := by decide +kernel
theorem dX0_labelsOf_17 : decode cX0_labelsOf 17 = .ok (.iconst 1, 1) := by decide +kernel
theorem dX0_labelsOf_18 : decode cX0_labelsOf 18 = .ok (.isub, 1) := by decide +kernel
theorem dX0_labelsOf_19 : decode cX0_labelsOf 19 = .ok (.laload, 1) := by decide +kernel
theorem dX0_labelsOf_20 : decode cX0_labelsOf 20 = .ok (.lreturn, 1) := by decide +kernel
theorem dX0_addRest_0 : decode cX0_addRest 0 = .ok (.iconst 0, 1) := by decide +kernel
theorem dX0_addRest_1 : decode cX0_addRest 1 = .ok (.istore_n 3, 1) := by decide +kernel
theorem dX0_addRest_2 : decode cX0_addRest 2 = .ok (.iload_n 3, 1) := by decide +kernel
theorem dX0_addRest_3 : decode cX0_addRest 3 = .ok (.bipush 24, 2) := by decide +kernel
theorem dX0_addRest_5 : decode cX0_addRest 5 = .ok (.if_icmp .ge 34, 3) := by decide +kernel
theorem dX0_addRest_8 : decode cX0_addRest 8 = .ok (.aload_n 0, 1) := by decide +kernel
theorem dX0_addRest_9 : decode cX0_addRest 9 = .ok (.getfield 51, 3) := by decide +kernel
theorem dX0_addRest_12 : decode cX0_addRest 12 = .ok (.iload_n 1, 1) := by decide +kernel
theorem dX0_addRest_13 : decode cX0_addRest 13 = .ok (.bipush 24, 2) := by decide +kernel
theorem dX0_addRest_15 : decode cX0_addRest 15 = .ok (.imul, 1) := by decide +kernel
theorem dX0_addRest_16 : decode cX0_addRest 16 = .ok (.iload_n 3, 1) := by decide +kernel
theorem dX0_addRest_17 : decode cX0_addRest 17 = .ok (.iadd, 1) := by decide +kernel
theorem dX0_addRest_18 : decode cX0_addRest 18 = .ok (.dup2, 1) := by decide +kernel
theorem dX0_addRest_19 : decode cX0_addRest 19 = .ok (.laload, 1) := by decide +kernel
theorem dX0_addRest_20 : decode cX0_addRest 20 = .ok (.aload_n 0, 1) := by decide +kernel
theorem dX0_addRest_21 : decode cX0_addRest 21 = .ok (.getfield 51, 3) := by decide +kernel
theorem dX0_addRest_24 : decode cX0_addRest 24 = .ok (.iload_n 2, 1) := by decide +kernel
theorem dX0_addRest_25 : decode cX0_addRest 25 = .ok (.bipush 24, 2) := by decide +kernel
theorem dX0_addRest_27 : decode cX0_addRest 27 = .ok (.imul, 1) := by decide +kernel
theorem dX0_addRest_28 : decode cX0_addRest 28 = .ok (.iload_n 3, 1) := by decide +kernel
theorem dX0_addRest_29 : decode cX0_addRest 29 = .ok (.iadd, 1) := by decide +kernel
theorem dX0_addRest_30 : decode cX0_addRest 30 = .ok (.laload, 1) := by decide +kernel
theorem dX0_addRest_31 : decode cX0_addRest 31 = .ok (.lor, 1) := by decide +kernel
theorem dX0_addRest_32 : decode cX0_addRest 32 = .ok (.lastore, 1) := by decide +kernel
theorem dX0_addRest_33 : decode cX0_addRest 33 = .ok (.iinc 3 1, 3) := by decide +kernel
theorem dX0_addRest_36 : decode cX0_addRest 36 = .ok (.goto (-34), 3) := by decide +kernel
theorem dX0_addRest_39 : decode cX0_addRest 39 = .ok (.aload_n 0, 1) := by decide +kernel
theorem dX0_addRest_40 : decode cX0_addRest 40 = .ok (.getfield 51, 3) := by decide +kernel
theorem dX0_addRest_43 : decode cX0_addRest 43 = .ok (.iload_n 1, 1) := by decide +kernel
theorem dX0_addRest_44 : decode cX0_addRest 44 = .ok (.bipush 24, 2) := by decide +kernel
theorem dX0_addRest_46 : decode cX0_addRest 46 = .ok (.imul, 1) := by decide +kernel
theorem dX0_addRest_47 : decode cX0_addRest 47 = .ok (.iload_n 2, 1) := by decide +kernel
theorem dX0_addRest_48 : decode cX0_addRest 48 = .ok (.bipush 6, 2) := by decide +kernel
theorem dX0_addRest_50 : decode cX0_addRest 50 = .ok (.ishr, 1) := by decide +kernel
theorem dX0_addRest_51 : decode cX0_addRest 51 = .ok (.iadd, 1) := by decide +kernel
theorem dX0_addRest_52 : decode cX0_addRest 52 = .ok (.dup2, 1) := by decide +kernel
theorem dX0_addRest_53 : decode cX0_addRest 53 = .ok (.laload, 1) := by decide +kernel
theorem dX0_addRest_54 : decode cX0_addRest 54 = .ok (.lconst 1, 1) := by decide +kernel
theorem dX0_addRest_55 : decode cX0_addRest 55 = .ok (.iload_n 2, 1) := by decide +kernel
theorem dX0_addRest_56 : decode cX0_addRest 56 = .ok (.bipush 63, 2) := by decide +kernel
theorem dX0_addRest_58 : decode cX0_addRest 58 = .ok (.iand, 1) := by decide +kernel
theorem dX0_addRest_59 : decode cX0_addRest 59 = .ok (.lshl, 1) := by decide +kernel
theorem dX0_addRest_60 : decode cX0_addRest 60 = .ok (.lor, 1) := by decide +kernel
theorem dX0_addRest_61 : decode cX0_addRest 61 = .ok (.lastore, 1) := by decide +kernel
theorem dX0_addRest_62 : decode cX0_addRest 62 = .ok (.return_, 1) := by decide +kernel
theorem dX0_restsOn_0 : decode cX0_restsOn 0 = .ok (.aload_n 0, 1) := by decide +kernel
theorem dX0_restsOn_1 : decode cX0_restsOn 1 = .ok (.getfield 51, 3) := by decide +kernel
theorem dX0_restsOn_4 : decode cX0_restsOn 4 = .ok (.iload_n 1, 1) := by decide +kernel
theorem dX0_restsOn_5 : decode cX0_restsOn 5 = .ok (.bipush 24, 2) := by decide +kernel
theorem dX0_restsOn_7 : decode cX0_restsOn 7 = .ok (.imul, 1) := by decide +kernel
theorem dX0_restsOn_8 : decode cX0_restsOn 8 = .ok (.iload_n 2, 1) := by decide +kernel
theorem dX0_restsOn_9 : decode cX0_restsOn 9 = .ok (.bipush 6, 2) := by decide +kernel
theorem dX0_restsOn_11 : decode cX0_restsOn 11 = .ok (.ishr, 1) := by decide +kernel
theorem dX0_restsOn_12 : decode cX0_restsOn 12 = .ok (.iadd, 1) := by decide +kernel
theorem dX0_restsOn_13 : decode cX0_restsOn 13 = .ok (.laload, 1) := by decide +kernel
theorem dX0_restsOn_14 : decode cX0_restsOn 14 = .ok (.iload_n 2, 1) := by decide +kernel
theorem dX0_restsOn_15 : decode cX0_restsOn 15 = .ok (.bipush 63, 2) := by decide +kernel
theorem dX0_restsOn_17 : decode cX0_restsOn 17 = .ok (.iand, 1) := by decide +kernel
theorem dX0_restsOn_18 : decode cX0_restsOn 18 = .ok (.lushr, 1) := by decide +kernel
theorem dX0_restsOn_19 : decode cX0_restsOn 19 = .ok (.lconst 1, 1) := by decide +kernel
theorem dX0_restsOn_20 : decode cX0_restsOn 20 = .ok (.land, 1) := by decide +kernel
theorem dX0_restsOn_21 : decode cX0_restsOn 21 = .ok (.lconst 0, 1) := by decide +kernel
theorem dX0_restsOn_22 : decode cX0_restsOn 22 = .ok (.lcmp, 1) := by decide +kernel
theorem dX0_restsOn_23 : decode cX0_restsOn 23 = .ok (.ifCond .eq 7, 3) := by decide +kernel
theorem dX0_restsOn_26 : decode cX0_restsOn 26 = .ok (.iconst 1, 1) := by decide +kernel
theorem dX0_restsOn_27 : decode cX0_restsOn 27 = .ok (.goto 4, 3) := by decide +kernel
theorem dX0_restsOn_30 : decode cX0_restsOn 30 = .ok (.iconst 0, 1) := by decide +kernel
theorem dX0_restsOn_31 : decode cX0_restsOn 31 = .ok (.ireturn, 1) := by decide +kernel
theorem dX0_restCount_0 : decode cX0_restCount 0 = .ok (.iconst 0, 1) := by decide +kernel
theorem dX0_restCount_1 : decode cX0_restCount 1 = .ok (.istore_n 2, 1) := by decide +kernel
theorem dX0_restCount_2 : decode cX0_restCount 2 = .ok (.iconst 0, 1) := by decide +kernel
theorem dX0_restCount_3 : decode cX0_restCount 3 = .ok (.istore_n 3, 1) := by decide +kernel
theorem dX0_restCount_4 : decode cX0_restCount 4 = .ok (.iload_n 3, 1) := by decide +kernel
theorem dX0_restCount_5 : decode cX0_restCount 5 = .ok (.bipush 24, 2) := by decide +kernel
theorem dX0_restCount_7 : decode cX0_restCount 7 = .ok (.if_icmp .ge 26, 3) := by decide +kernel
theorem dX0_restCount_10 : decode cX0_restCount 10 = .ok (.iload_n 2, 1) := by decide +kernel
theorem dX0_restCount_11 : decode cX0_restCount 11 = .ok (.aload_n 0, 1) := by decide +kernel
theorem dX0_restCount_12 : decode cX0_restCount 12 = .ok (.getfield 51, 3) := by decide +kernel
theorem dX0_restCount_15 : decode cX0_restCount 15 = .ok (.iload_n 1, 1) := by decide +kernel
theorem dX0_restCount_16 : decode cX0_restCount 16 = .ok (.bipush 24, 2) := by decide +kernel
theorem dX0_restCount_18 : decode cX0_restCount 18 = .ok (.imul, 1) := by decide +kernel
theorem dX0_restCount_19 : decode cX0_restCount 19 = .ok (.iload_n 3, 1) := by decide +kernel
theorem dX0_restCount_20 : decode cX0_restCount 20 = .ok (.iadd, 1) := by decide +kernel
theorem dX0_restCount_21 : decode cX0_restCount 21 = .ok (.laload, 1) := by decide +kernel
theorem dX0_restCount_22 : decode cX0_restCount 22 = .ok (.invokestatic 130, 3) := by decide +kernel
theorem dX0_restCount_25 : decode cX0_restCount 25 = .ok (.iadd, 1) := by decide +kernel
theorem dX0_restCount_26 : decode cX0_restCount 26 = .ok (.istore_n 2, 1) := by decide +kernel
theorem dX0_restCount_27 : decode cX0_restCount 27 = .ok (.iinc 3 1, 3) := by decide +kernel
theorem dX0_restCount_30 : decode cX0_restCount 30 = .ok (.goto (-26), 3) := by decide +kernel
theorem dX0_restCount_33 : decode cX0_restCount 33 = .ok (.iload_n 2, 1) := by decide +kernel
theorem dX0_restCount_34 : decode cX0_restCount 34 = .ok (.ireturn, 1) := by decide +kernel
theorem dX0_restsOnEarlier_0 : decode cX0_restsOnEarlier 0 = .ok (.iload_n 1, 1) := by decide +kernel
theorem dX0_restsOnEarlier_1 : decode cX0_restsOnEarlier 1 = .ok (.istore_n 2, 1) := by decide +kernel
theorem dX0_restsOnEarlier_2 : decode cX0_restsOnEarlier 2 = .ok (.iload_n 2, 1) := by decide +kernel
theorem dX0_restsOnEarlier_3 : decode cX0_restsOnEarlier 3 = .ok (.aload_n 0, 1) := by decide +kernel
theorem dX0_restsOnEarlier_4 : decode cX0_restsOnEarlier 4 = .ok (.getfield 57, 3) := by decide +kernel
theorem dX0_restsOnEarlier_7 : decode cX0_restsOnEarlier 7 = .ok (.getfield 136, 3) := by decide +kernel
theorem dX0_restsOnEarlier_10 : decode cX0_restsOnEarlier 10 = .ok (.if_icmp .ge 20, 3) := by decide +kernel
theorem dX0_restsOnEarlier_13 : decode cX0_restsOnEarlier 13 = .ok (.aload_n 0, 1) := by decide +kernel
theorem dX0_restsOnEarlier_14 : decode cX0_restsOnEarlier 14 = .ok (.iload_n 1, 1) := by decide +kernel
theorem dX0_restsOnEarlier_15 : decode cX0_restsOnEarlier 15 = .ok (.iload_n 2, 1) := by decide +kernel
theorem dX0_restsOnEarlier_16 : decode cX0_restsOnEarlier 16 = .ok (.invokevirtual 139, 3) := by decide +kernel
theorem dX0_restsOnEarlier_19 : decode cX0_restsOnEarlier 19 = .ok (.ifCond .eq 5, 3) := by decide +kernel
theorem dX0_restsOnEarlier_22 : decode cX0_restsOnEarlier 22 = .ok (.iconst 0, 1) := by decide +kernel
theorem dX0_restsOnEarlier_23 : decode cX0_restsOnEarlier 23 = .ok (.ireturn, 1) := by decide +kernel
theorem dX0_restsOnEarlier_24 : decode cX0_restsOnEarlier 24 = .ok (.iinc 2 1, 3) := by decide +kernel
theorem dX0_restsOnEarlier_27 : decode cX0_restsOnEarlier 27 = .ok (.goto (-25), 3) := by decide +kernel
theorem dX0_restsOnEarlier_30 : decode cX0_restsOnEarlier 30 = .ok (.iconst 1, 1) := by decide +kernel
theorem dX0_restsOnEarlier_31 : decode cX0_restsOnEarlier 31 = .ok (.ireturn, 1) := by decide +kernel
theorem dX6_init_0 : decode cX6_init 0 = .ok (.aload_n 0, 1) := by decide +kernel
theorem dX6_init_1 : decode cX6_init 1 = .ok (.invokespecial 3, 3) := by decide +kernel
theorem dX6_init_4 : decode cX6_init 4 = .ok (.aload_n 0, 1) := by decide +kernel
theorem dX6_init_5 : decode cX6_init 5 = .ok (.ldc 11, 2) := by decide +kernel
theorem dX6_init_7 : decode cX6_init 7 = .ok (.newarray .int, 2) := by decide +kernel
theorem dX6_init_9 : decode cX6_init 9 = .ok (.putfield 12, 3) := by decide +kernel
theorem dX6_init_12 : decode cX6_init 12 = .ok (.aload_n 0, 1) := by decide +kernel
theorem dX6_init_13 : decode cX6_init 13 = .ok (.sipush 20000, 3) := by decide +kernel
theorem dX6_init_16 : decode cX6_init 16 = .ok (.newarray .int, 2) := by decide +kernel
theorem dX6_init_18 : decode cX6_init 18 = .ok (.putfield 16, 3) := by decide +kernel
theorem dX6_init_21 : decode cX6_init 21 = .ok (.aload_n 0, 1) := by decide +kernel
theorem dX6_init_22 : decode cX6_init 22 = .ok (.sipush 20000, 3) := by decide +kernel
theorem dX6_init_25 : decode cX6_init 25 = .ok (.newarray .int, 2) := by decide +kernel
theorem dX6_init_27 : decode cX6_init 27 = .ok (.putfield 19, 3) := by decide +kernel
theorem dX6_init_30 : decode cX6_init 30 = .ok (.aload_n 0, 1) := by decide +kernel
theorem dX6_init_31 : decode cX6_init 31 = .ok (.sipush 20000, 3) := by decide +kernel
theorem dX6_init_34 : decode cX6_init 34 = .ok (.newarray .int, 2) := by decide +kernel
theorem dX6_init_36 : decode cX6_init 36 = .ok (.putfield 22, 3) := by decide +kernel
theorem dX6_init_39 : decode cX6_init 39 = .ok (.aload_n 0, 1) := by decide +kernel
theorem dX6_init_40 : decode cX6_init 40 = .ok (.sipush 1000, 3) := by decide +kernel
theorem dX6_init_43 : decode cX6_init 43 = .ok (.newarray .int, 2) := by decide +kernel
theorem dX6_init_45 : decode cX6_init 45 = .ok (.putfield 25, 3) := by decide +kernel
theorem dX6_init_48 : decode cX6_init 48 = .ok (.aload_n 0, 1) := by decide +kernel
theorem dX6_init_49 : decode cX6_init 49 = .ok (.sipush 1000, 3) := by decide +kernel
theorem dX6_init_52 : decode cX6_init 52 = .ok (.newarray .int, 2) := by decide +kernel
theorem dX6_init_54 : decode cX6_init 54 = .ok (.putfield 28, 3) := by decide +kernel
theorem dX6_init_57 : decode cX6_init 57 = .ok (.aload_n 0, 1) := by decide +kernel
theorem dX6_init_58 : decode cX6_init 58 = .ok (.sipush 1000, 3) := by decide +kernel
theorem dX6_init_61 : decode cX6_init 61 = .ok (.newarray .int, 2) := by decide +kernel
theorem dX6_init_63 : decode cX6_init 63 = .ok (.putfield 31, 3) := by decide +kernel
theorem dX6_init_66 : decode cX6_init 66 = .ok (.aload_n 0, 1) := by decide +kernel
theorem dX6_init_67 : decode cX6_init 67 = .ok (.sipush 1000, 3) := by decide +kernel
theorem dX6_init_70 : decode cX6_init 70 = .ok (.newarray .int, 2) := by decide +kernel
theorem dX6_init_72 : decode cX6_init 72 = .ok (.putfield 34, 3) := by decide +kernel
theorem dX6_init_75 : decode cX6_init 75 = .ok (.aload_n 0, 1) := by decide +kernel
theorem dX6_init_76 : decode cX6_init 76 = .ok (.sipush 1000, 3) := by decide +kernel
theorem dX6_init_79 : decode cX6_init 79 = .ok (.newarray .int, 2) := by decide +kernel
theorem dX6_init_81 : decode cX6_init 81 = .ok (.putfield 37, 3) := by decide +kernel
theorem dX6_init_84 : decode cX6_init 84 = .ok (.aload_n 0, 1) := by decide +kernel
theorem dX6_init_85 : decode cX6_init 85 = .ok (.sipush 1000, 3) := by decide +kernel
theorem dX6_init_88 : decode cX6_init 88 = .ok (.newarray .int, 2) := by decide +kernel
theorem dX6_init_90 : decode cX6_init 90 = .ok (.putfield 40, 3) := by decide +kernel
theorem dX6_init_93 : decode cX6_init 93 = .ok (.aload_n 0, 1) := by decide +kernel
theorem dX6_init_94 : decode cX6_init 94 = .ok (.aload_n 1, 1) := by decide +kernel
theorem dX6_init_95 : decode cX6_init 95 = .ok (.putfield 43, 3) := by decide +kernel
theorem dX6_init_98 : decode cX6_init 98 = .ok (.aload_n 0, 1) := by decide +kernel
theorem dX6_init_99 : decode cX6_init 99 = .ok (.aload_n 2, 1) := by decide +kernel
theorem dX6_init_100 : decode cX6_init 100 = .ok (.putfield 47, 3) := by decide +kernel
theorem dX6_init_103 : decode cX6_init 103 = .ok (.aload_n 0, 1) := by decide +kernel
theorem dX6_init_104 : decode cX6_init 104 = .ok (.aload_n 3, 1) := by decide +kernel
theorem dX6_init_105 : decode cX6_init 105 = .ok (.putfield 51, 3) := by decide +kernel
theorem dX6_init_108 : decode cX6_init 108 = .ok (.return_, 1) := by decide +kernel
theorem dX6_clear_0 : decode cX6_clear 0 = .ok (.aload_n 0, 1) := by decide +kernel
theorem dX6_clear_1 : decode cX6_clear 1 = .ok (.iconst 0, 1) := by decide +kernel
theorem dX6_clear_2 : decode cX6_clear 2 = .ok (.putfield 55, 3) := by decide +kernel
theorem dX6_clear_5 : decode cX6_clear 5 = .ok (.aload_n 0, 1) := by decide +kernel
theorem dX6_clear_6 : decode cX6_clear 6 = .ok (.ldc 11, 2) := by decide +kernel
theorem dX6_clear_8 : decode cX6_clear 8 = .ok (.putfield 59, 3) := by decide +kernel
theorem dX6_clear_11 : decode cX6_clear 11 = .ok (.return_, 1) := by decide +kernel
theorem dX6_bind_0 : decode cX6_bind 0 = .ok (.iconst 0, 1) := by decide +kernel
theorem dX6_bind_1 : decode cX6_bind 1 = .ok (.istore_n 3, 1) := by decide +kernel
theorem dX6_bind_2 : decode cX6_bind 2 = .ok (.iload_n 3, 1) := by decide +kernel
theorem dX6_bind_3 : decode cX6_bind 3 = .ok (.aload_n 0, 1) := by decide +kernel
theorem dX6_bind_4 : decode cX6_bind 4 = .ok (.getfield 47, 3) := by decide +kernel
theorem dX6_bind_7 : decode cX6_bind 7 = .ok (.getfield 62, 3) := by decide +kernel
theorem dX6_bind_10 : decode cX6_bind 10 = .ok (.iload_n 1, 1) := by decide +kernel
theorem dX6_bind_11 : decode cX6_bind 11 = .ok (.iaload, 1) := by decide +kernel
theorem dX6_bind_12 : decode cX6_bind 12 = .ok (.if_icmp .ge 152, 3) := by decide +kernel
theorem dX6_bind_15 : decode cX6_bind 15 = .ok (.aload_n 0, 1) := by decide +kernel
theorem dX6_bind_16 : decode cX6_bind 16 = .ok (.getfield 47, 3) := by decide +kernel
theorem dX6_bind_19 : decode cX6_bind 19 = .ok (.getfield 67, 3) := by decide +kernel
theorem dX6_bind_22 : decode cX6_bind 22 = .ok (.aload_n 0, 1) := by decide +kernel
theorem dX6_bind_23 : decode cX6_bind 23 = .ok (.getfield 47, 3) := by decide +kernel
theorem dX6_bind_26 : decode cX6_bind 26 = .ok (.getfield 70, 3) := by decide +kernel
theorem dX6_bind_29 : decode cX6_bind 29 = .ok (.iload_n 1, 1) := by decide +kernel
theorem dX6_bind_30 : decode cX6_bind 30 = .ok (.iaload, 1) := by decide +kernel
theorem dX6_bind_31 : decode cX6_bind 31 = .ok (.iload_n 3, 1) := by decide +kernel
theorem dX6_bind_32 : decode cX6_bind 32 = .ok (.iadd, 1) := by decide +kernel
theorem dX6_bind_33 : decode cX6_bind 33 = .ok (.iaload, 1) := by decide +kernel
theorem dX6_bind_34 : decode cX6_bind 34 = .ok (.istore 4, 2) := by decide +kernel
theorem dX6_bind_36 : decode cX6_bind 36 = .ok (.aload_n 0, 1) := by decide +kernel
theorem dX6_bind_37 : decode cX6_bind 37 = .ok (.getfield 47, 3) := by decide +kernel
theorem dX6_bind_40 : decode cX6_bind 40 = .ok (.getfield 73, 3) := by decide +kernel
theorem dX6_bind_43 : decode cX6_bind 43 = .ok (.iload_n 2, 1) := by decide +kernel
theorem dX6_bind_44 : decode cX6_bind 44 = .ok (.iload_n 3, 1) := by decide +kernel
theorem dX6_bind_45 : decode cX6_bind 45 = .ok (.iadd, 1) := by decide +kernel
theorem dX6_bind_46 : decode cX6_bind 46 = .ok (.iaload, 1) := by decide +kernel
theorem dX6_bind_47 : decode cX6_bind 47 = .ok (.istore 5, 2) := by decide +kernel
theorem dX6_bind_49 : decode cX6_bind 49 = .ok (.aload_n 0, 1) := by decide +kernel
theorem dX6_bind_50 : decode cX6_bind 50 = .ok (.getfield 43, 3) := by decide +kernel
theorem dX6_bind_53 : decode cX6_bind 53 = .ok (.getfield 76, 3) := by decide +kernel
theorem dX6_bind_56 : decode cX6_bind 56 = .ok (.iload 4, 2) := by decide +kernel
theorem dX6_bind_58 : decode cX6_bind 58 = .ok (.iaload, 1) := by decide +kernel
theorem dX6_bind_59 : decode cX6_bind 59 = .ok (.iconst 1, 1) := by decide +kernel
theorem dX6_bind_60 : decode cX6_bind 60 = .ok (.if_icmp .ne 16, 3) := by decide +kernel
theorem dX6_bind_63 : decode cX6_bind 63 = .ok (.aload_n 0, 1) := by decide +kernel
theorem dX6_bind_64 : decode cX6_bind 64 = .ok (.iload 5, 2) := by decide +kernel
theorem dX6_bind_66 : decode cX6_bind 66 = .ok (.iload 4, 2) := by decide +kernel
theorem dX6_bind_68 : decode cX6_bind 68 = .ok (.invokevirtual 81, 3) := by decide +kernel
theorem dX6_bind_71 : decode cX6_bind 71 = .ok (.ifCond .ne 87, 3) := by decide +kernel
theorem dX6_bind_74 : decode cX6_bind 74 = .ok (.iconst 0, 1) := by decide +kernel
theorem dX6_bind_75 : decode cX6_bind 75 = .ok (.ireturn, 1) := by decide +kernel
theorem dX6_bind_76 : decode cX6_bind 76 = .ok (.aload_n 0, 1) := by decide +kernel
theorem dX6_bind_77 : decode cX6_bind 77 = .ok (.getfield 19, 3) := by decide +kernel
theorem dX6_bind_80 : decode cX6_bind 80 = .ok (.iload 5, 2) := by decide +kernel
theorem dX6_bind_82 : decode cX6_bind 82 = .ok (.iaload, 1) := by decide +kernel
theorem dX6_bind_83 : decode cX6_bind 83 = .ok (.ifCond .eq 27, 3) := by decide +kernel
theorem dX6_bind_86 : decode cX6_bind 86 = .ok (.aload_n 0, 1) := by decide +kernel
theorem dX6_bind_87 : decode cX6_bind 87 = .ok (.getfield 12, 3) := by decide +kernel
theorem dX6_bind_90 : decode cX6_bind 90 = .ok (.aload_n 0, 1) := by decide +kernel
theorem dX6_bind_91 : decode cX6_bind 91 = .ok (.getfield 16, 3) := by decide +kernel
theorem dX6_bind_94 : decode cX6_bind 94 = .ok (.iload 5, 2) := by decide +kernel
theorem dX6_bind_96 : decode cX6_bind 96 = .ok (.iaload, 1) := by decide +kernel
theorem dX6_bind_97 : decode cX6_bind 97 = .ok (.iaload, 1) := by decide +kernel
theorem dX6_bind_98 : decode cX6_bind 98 = .ok (.aload_n 0, 1) := by decide +kernel
theorem dX6_bind_99 : decode cX6_bind 99 = .ok (.getfield 43, 3) := by decide +kernel
theorem dX6_bind_102 : decode cX6_bind 102 = .ok (.iload 4, 2) := by decide +kernel
theorem dX6_bind_104 : decode cX6_bind 104 = .ok (.invokevirtual 85, 3) := by decide +kernel
theorem dX6_bind_107 : decode cX6_bind 107 = .ok (.if_icmp .eq 5, 3) := by decide +kernel
theorem dX6_bind_110 : decode cX6_bind 110 = .ok (.iconst 0, 1) := by decide +kernel
theorem dX6_bind_111 : decode cX6_bind 111 = .ok (.ireturn, 1) := by decide +kernel
theorem dX6_bind_112 : decode cX6_bind 112 = .ok (.aload_n 0, 1) := by decide +kernel
theorem dX6_bind_113 : decode cX6_bind 113 = .ok (.getfield 28, 3) := by decide +kernel
theorem dX6_bind_116 : decode cX6_bind 116 = .ok (.aload_n 0, 1) := by decide +kernel
theorem dX6_bind_117 : decode cX6_bind 117 = .ok (.getfield 43, 3) := by decide +kernel
theorem dX6_bind_120 : decode cX6_bind 120 = .ok (.iload 4, 2) := by decide +kernel
theorem dX6_bind_122 : decode cX6_bind 122 = .ok (.invokevirtual 89, 3) := by decide +kernel
theorem dX6_bind_125 : decode cX6_bind 125 = .ok (.aload_n 0, 1) := by decide +kernel
theorem dX6_bind_126 : decode cX6_bind 126 = .ok (.getfield 16, 3) := by decide +kernel
theorem dX6_bind_129 : decode cX6_bind 129 = .ok (.iload 5, 2) := by decide +kernel
theorem dX6_bind_131 : decode cX6_bind 131 = .ok (.iaload, 1) := by decide +kernel
theorem dX6_bind_132 : decode cX6_bind 132 = .ok (.iconst 1, 1) := by decide +kernel
theorem dX6_bind_133 : decode cX6_bind 133 = .ok (.iadd, 1) := by decide +kernel
theorem dX6_bind_134 : decode cX6_bind 134 = .ok (.iastore, 1) := by decide +kernel
theorem dX6_bind_135 : decode cX6_bind 135 = .ok (.aload_n 0, 1) := by decide +kernel
theorem dX6_bind_136 : decode cX6_bind 136 = .ok (.getfield 31, 3) := by decide +kernel
theorem dX6_bind_139 : decode cX6_bind 139 = .ok (.aload_n 0, 1) := by decide +kernel
theorem dX6_bind_140 : decode cX6_bind 140 = .ok (.getfield 43, 3) := by decide +kernel
theorem dX6_bind_143 : decode cX6_bind 143 = .ok (.iload 4, 2) := by decide +kernel
theorem dX6_bind_145 : decode cX6_bind 145 = .ok (.invokevirtual 89, 3) := by decide +kernel
theorem dX6_bind_148 : decode cX6_bind 148 = .ok (.aload_n 0, 1) := by decide +kernel
theorem dX6_bind_149 : decode cX6_bind 149 = .ok (.getfield 19, 3) := by decide +kernel
theorem dX6_bind_152 : decode cX6_bind 152 = .ok (.iload 5, 2) := by decide +kernel
theorem dX6_bind_154 : decode cX6_bind 154 = .ok (.iaload, 1) := by decide +kernel
theorem dX6_bind_155 : decode cX6_bind 155 = .ok (.iconst 1, 1) := by decide +kernel
theorem dX6_bind_156 : decode cX6_bind 156 = .ok (.isub, 1) := by decide +kernel
theorem dX6_bind_157 : decode cX6_bind 157 = .ok (.iastore, 1) := by decide +kernel
theorem dX6_bind_158 : decode cX6_bind 158 = .ok (.iinc 3 1, 3) := by decide +kernel
theorem dX6_bind_161 : decode cX6_bind 161 = .ok (.goto (-159), 3) := by decide +kernel
theorem dX6_bind_164 : decode cX6_bind 164 = .ok (.iconst 1, 1) := by decide +kernel
theorem dX6_bind_165 : decode cX6_bind 165 = .ok (.ireturn, 1) := by decide +kernel
theorem dX6_isEssential_0 : decode cX6_isEssential 0 = .ok (.aload_n 0, 1) := by decide +kernel
theorem dX6_isEssential_1 : decode cX6_isEssential 1 = .ok (.getfield 16, 3) := by decide +kernel
theorem dX6_isEssential_4 : decode cX6_isEssential 4 = .ok (.iload_n 1, 1) := by decide +kernel
theorem dX6_isEssential_5 : decode cX6_isEssential 5 = .ok (.iaload, 1) := by decide +kernel
theorem dX6_isEssential_6 : decode cX6_isEssential 6 = .ok (.istore_n 3, 1) := by decide +kernel
theorem dX6_isEssential_7 : decode cX6_isEssential 7 = .ok (.iload_n 3, 1) := by decide +kernel
theorem dX6_isEssential_8 : decode cX6_isEssential 8 = .ok (.aload_n 0, 1) := by decide +kernel
theorem dX6_isEssential_9 : decode cX6_isEssential 9 = .ok (.getfield 19, 3) := by decide +kernel
theorem dX6_isEssential_12 : decode cX6_isEssential 12 = .ok (.iload_n 1, 1) := by decide +kernel
theorem dX6_isEssential_13 : decode cX6_isEssential 13 = .ok (.iaload, 1) := by decide +kernel
theorem dX6_isEssential_14 : decode cX6_isEssential 14 = .ok (.iadd, 1) := by decide +kernel
theorem dX6_isEssential_15 : decode cX6_isEssential 15 = .ok (.istore 4, 2) := by decide +kernel
theorem dX6_isEssential_17 : decode cX6_isEssential 17 = .ok (.aload_n 0, 1) := by decide +kernel
theorem dX6_isEssential_18 : decode cX6_isEssential 18 = .ok (.getfield 43, 3) := by decide +kernel
theorem dX6_isEssential_21 : decode cX6_isEssential 21 = .ok (.getfield 92, 3) := by decide +kernel
theorem dX6_isEssential_24 : decode cX6_isEssential 24 = .ok (.iload_n 2, 1) := by decide +kernel
theorem dX6_isEssential_25 : decode cX6_isEssential 25 = .ok (.iaload, 1) := by decide +kernel
theorem dX6_isEssential_26 : decode cX6_isEssential 26 = .ok (.istore 5, 2) := by decide +kernel
theorem dX6_isEssential_28 : decode cX6_isEssential 28 = .ok (.iload 5, 2) := by decide +kernel
theorem dX6_isEssential_30 : decode cX6_isEssential 30 = .ok (.aload_n 0, 1) := by decide +kernel
theorem dX6_isEssential_31 : decode cX6_isEssential 31 = .ok (.getfield 43, 3) := by decide +kernel
theorem dX6_isEssential_34 : decode cX6_isEssential 34 = .ok (.getfield 92, 3) := by decide +kernel
theorem dX6_isEssential_37 : decode cX6_isEssential 37 = .ok (.iload_n 2, 1) := by decide +kernel
theorem dX6_isEssential_38 : decode cX6_isEssential 38 = .ok (.iconst 1, 1) := by decide +kernel
theorem dX6_isEssential_39 : decode cX6_isEssential 39 = .ok (.iadd, 1) := by decide +kernel
theorem dX6_isEssential_40 : decode cX6_isEssential 40 = .ok (.iaload, 1) := by decide +kernel
theorem dX6_isEssential_41 : decode cX6_isEssential 41 = .ok (.if_icmp .ge 114, 3) := by decide +kernel
theorem dX6_isEssential_44 : decode cX6_isEssential 44 = .ok (.aload_n 0, 1) := by decide +kernel
theorem dX6_isEssential_45 : decode cX6_isEssential 45 = .ok (.getfield 43, 3) := by decide +kernel
theorem dX6_isEssential_48 : decode cX6_isEssential 48 = .ok (.getfield 93, 3) := by decide +kernel
theorem dX6_isEssential_51 : decode cX6_isEssential 51 = .ok (.iload 5, 2) := by decide +kernel
theorem dX6_isEssential_53 : decode cX6_isEssential 53 = .ok (.iaload, 1) := by decide +kernel
theorem dX6_isEssential_54 : decode cX6_isEssential 54 = .ok (.istore 6, 2) := by decide +kernel
theorem dX6_isEssential_56 : decode cX6_isEssential 56 = .ok (.aload_n 0, 1) := by decide +kernel
theorem dX6_isEssential_57 : decode cX6_isEssential 57 = .ok (.getfield 43, 3) := by decide +kernel
theorem dX6_isEssential_60 : decode cX6_isEssential 60 = .ok (.getfield 96, 3) := by decide +kernel
theorem dX6_isEssential_63 : decode cX6_isEssential 63 = .ok (.iload 5, 2) := by decide +kernel
theorem dX6_isEssential_65 : decode cX6_isEssential 65 = .ok (.iaload, 1) := by decide +kernel
theorem dX6_isEssential_66 : decode cX6_isEssential 66 = .ok (.iconst (-1), 1) := by decide +kernel
theorem dX6_isEssential_67 : decode cX6_isEssential 67 = .ok (.if_icmp .ne 7, 3) := by decide +kernel
theorem dX6_isEssential_70 : decode cX6_isEssential 70 = .ok (.iconst 1, 1) := by decide +kernel
theorem dX6_isEssential_71 : decode cX6_isEssential 71 = .ok (.goto 4, 3) := by decide +kernel
theorem dX6_isEssential_74 : decode cX6_isEssential 74 = .ok (.iconst 0, 1) := by decide +kernel
theorem dX6_isEssential_75 : decode cX6_isEssential 75 = .ok (.istore 7, 2) := by decide +kernel
theorem dX6_isEssential_77 : decode cX6_isEssential 77 = .ok (.iload 7, 2) := by decide +kernel
theorem dX6_isEssential_79 : decode cX6_isEssential 79 = .ok (.ifCond .eq 7, 3) := by decide +kernel
theorem dX6_isEssential_82 : decode cX6_isEssential 82 = .ok (.iconst 1, 1) := by decide +kernel
theorem dX6_isEssential_83 : decode cX6_isEssential 83 = .ok (.goto 10, 3) := by decide +kernel
theorem dX6_isEssential_86 : decode cX6_isEssential 86 = .ok (.aload_n 0, 1) := by decide +kernel
theorem dX6_isEssential_87 : decode cX6_isEssential 87 = .ok (.getfield 31, 3) := by decide +kernel
theorem dX6_isEssential_90 : decode cX6_isEssential 90 = .ok (.iload 6, 2) := by decide +kernel
theorem dX6_isEssential_92 : decode cX6_isEssential 92 = .ok (.iaload, 1) := by decide +kernel
theorem dX6_isEssential_93 : decode cX6_isEssential 93 = .ok (.istore 8, 2) := by decide +kernel
theorem dX6_isEssential_95 : decode cX6_isEssential 95 = .ok (.iload_n 3, 1) := by decide +kernel
theorem dX6_isEssential_96 : decode cX6_isEssential 96 = .ok (.iload 8, 2) := by decide +kernel
theorem dX6_isEssential_98 : decode cX6_isEssential 98 = .ok (.iadd, 1) := by decide +kernel
theorem dX6_isEssential_99 : decode cX6_isEssential 99 = .ok (.iload 4, 2) := by decide +kernel
theorem dX6_isEssential_101 : decode cX6_isEssential 101 = .ok (.if_icmp .le 5, 3) := by decide +kernel
theorem dX6_isEssential_104 : decode cX6_isEssential 104 = .ok (.iconst 0, 1) := by decide +kernel
theorem dX6_isEssential_105 : decode cX6_isEssential 105 = .ok (.ireturn, 1) := by decide +kernel
theorem dX6_isEssential_106 : decode cX6_isEssential 106 = .ok (.iload 7, 2) := by decide +kernel
theorem dX6_isEssential_108 : decode cX6_isEssential 108 = .ok (.ifCond .eq 17, 3) := by decide +kernel
theorem dX6_isEssential_111 : decode cX6_isEssential 111 = .ok (.aload_n 0, 1) := by decide +kernel
theorem dX6_isEssential_112 : decode cX6_isEssential 112 = .ok (.getfield 12, 3) := by decide +kernel
theorem dX6_isEssential_115 : decode cX6_isEssential 115 = .ok (.iload_n 3, 1) := by decide +kernel
theorem dX6_isEssential_116 : decode cX6_isEssential 116 = .ok (.iaload, 1) := by decide +kernel
theorem dX6_isEssential_117 : decode cX6_isEssential 117 = .ok (.iload 6, 2) := by decide +kernel
theorem dX6_isEssential_119 : decode cX6_isEssential 119 = .ok (.if_icmp .eq 25, 3) := by decide +kernel
theorem dX6_isEssential_122 : decode cX6_isEssential 122 = .ok (.goto 20, 3) := by decide +kernel
theorem dX6_isEssential_125 : decode cX6_isEssential 125 = .ok (.aload_n 0, 1) := by decide +kernel
theorem dX6_isEssential_126 : decode cX6_isEssential 126 = .ok (.aload_n 0, 1) := by decide +kernel
theorem dX6_isEssential_127 : decode cX6_isEssential 127 = .ok (.getfield 28, 3) := by decide +kernel
theorem dX6_isEssential_130 : decode cX6_isEssential 130 = .ok (.iload 6, 2) := by decide +kernel
theorem dX6_isEssential_132 : decode cX6_isEssential 132 = .ok (.iaload, 1) := by decide +kernel
theorem dX6_isEssential_133 : decode cX6_isEssential 133 = .ok (.iload_n 3, 1) := by decide +kernel
theorem dX6_isEssential_134 : decode cX6_isEssential 134 = .ok (.iload 8, 2) := by decide +kernel
theorem dX6_isEssential_136 : decode cX6_isEssential 136 = .ok (.invokevirtual 99, 3) := by decide +kernel
theorem dX6_isEssential_139 : decode cX6_isEssential 139 = .ok (.ifCond .ne 5, 3) := by decide +kernel
theorem dX6_isEssential_142 : decode cX6_isEssential 142 = .ok (.iconst 0, 1) := by decide +kernel
theorem dX6_isEssential_143 : decode cX6_isEssential 143 = .ok (.ireturn, 1) := by decide +kernel
theorem dX6_isEssential_144 : decode cX6_isEssential 144 = .ok (.iload_n 3, 1) := by decide +kernel
theorem dX6_isEssential_145 : decode cX6_isEssential 145 = .ok (.iload 8, 2) := by decide +kernel
theorem dX6_isEssential_147 : decode cX6_isEssential 147 = .ok (.iadd, 1) := by decide +kernel
theorem dX6_isEssential_148 : decode cX6_isEssential 148 = .ok (.istore_n 3, 1) := by decide +kernel
theorem dX6_isEssential_149 : decode cX6_isEssential 149 = .ok (.iinc 5 1, 3) := by decide +kernel
theorem dX6_isEssential_152 : decode cX6_isEssential 152 = .ok (.goto (-124), 3) := by decide +kernel
theorem dX6_isEssential_155 : decode cX6_isEssential 155 = .ok (.iload_n 3, 1) := by decide +kernel
theorem dX6_isEssential_156 : decode cX6_isEssential 156 = .ok (.iload 4, 2) := by decide +kernel
theorem dX6_isEssential_158 : decode cX6_isEssential 158 = .ok (.if_icmp .ne 7, 3) := by decide +kernel
theorem dX6_isEssential_161 : decode cX6_isEssential 161 = .ok (.iconst 1, 1) := by decide +kernel
theorem dX6_isEssential_162 : decode cX6_isEssential 162 = .ok (.goto 4, 3) := by decide +kernel
theorem dX6_isEssential_165 : decode cX6_isEssential 165 = .ok (.iconst 0, 1) := by decide +kernel
theorem dX6_isEssential_166 : decode cX6_isEssential 166 = .ok (.ireturn, 1) := by decide +kernel
theorem dX6_isSame_0 : decode cX6_isSame 0 = .ok (.iconst 0, 1) := by decide +kernel
theorem dX6_isSame_1 : decode cX6_isSame 1 = .ok (.istore 4, 2) := by decide +kernel
theorem dX6_isSame_3 : decode cX6_isSame 3 = .ok (.iload 4, 2) := by decide +kernel
theorem dX6_isSame_5 : decode cX6_isSame 5 = .ok (.iload_n 3, 1) := by decide +kernel
theorem dX6_isSame_6 : decode cX6_isSame 6 = .ok (.if_icmp .ge 32, 3) := by decide +kernel
theorem dX6_isSame_9 : decode cX6_isSame 9 = .ok (.aload_n 0, 1) := by decide +kernel
theorem dX6_isSame_10 : decode cX6_isSame 10 = .ok (.getfield 12, 3) := by decide +kernel
theorem dX6_isSame_13 : decode cX6_isSame 13 = .ok (.iload_n 1, 1) := by decide +kernel
theorem dX6_isSame_14 : decode cX6_isSame 14 = .ok (.iload 4, 2) := by decide +kernel
theorem dX6_isSame_16 : decode cX6_isSame 16 = .ok (.iadd, 1) := by decide +kernel
theorem dX6_isSame_17 : decode cX6_isSame 17 = .ok (.iaload, 1) := by decide +kernel
theorem dX6_isSame_18 : decode cX6_isSame 18 = .ok (.aload_n 0, 1) := by decide +kernel
theorem dX6_isSame_19 : decode cX6_isSame 19 = .ok (.getfield 12, 3) := by decide +kernel
theorem dX6_isSame_22 : decode cX6_isSame 22 = .ok (.iload_n 2, 1) := by decide +kernel
theorem dX6_isSame_23 : decode cX6_isSame 23 = .ok (.iload 4, 2) := by decide +kernel
theorem dX6_isSame_25 : decode cX6_isSame 25 = .ok (.iadd, 1) := by decide +kernel
theorem dX6_isSame_26 : decode cX6_isSame 26 = .ok (.iaload, 1) := by decide +kernel
theorem dX6_isSame_27 : decode cX6_isSame 27 = .ok (.if_icmp .eq 5, 3) := by decide +kernel
theorem dX6_isSame_30 : decode cX6_isSame 30 = .ok (.iconst 0, 1) := by decide +kernel
theorem dX6_isSame_31 : decode cX6_isSame 31 = .ok (.ireturn, 1) := by decide +kernel
theorem dX6_isSame_32 : decode cX6_isSame 32 = .ok (.iinc 4 1, 3) := by decide +kernel
theorem dX6_isSame_35 : decode cX6_isSame 35 = .ok (.goto (-32), 3) := by decide +kernel
theorem dX6_isSame_38 : decode cX6_isSame 38 = .ok (.iconst 1, 1) := by decide +kernel
theorem dX6_isSame_39 : decode cX6_isSame 39 = .ok (.ireturn, 1) := by decide +kernel
theorem dX6_keepsApart_0 : decode cX6_keepsApart 0 = .ok (.aload_n 0, 1) := by decide +kernel
theorem dX6_keepsApart_1 : decode cX6_keepsApart 1 = .ok (.getfield 47, 3) := by decide +kernel
theorem dX6_keepsApart_4 : decode cX6_keepsApart 4 = .ok (.getfield 103, 3) := by decide +kernel
theorem dX6_keepsApart_7 : decode cX6_keepsApart 7 = .ok (.iload_n 1, 1) := by decide +kernel
theorem dX6_keepsApart_8 : decode cX6_keepsApart 8 = .ok (.iaload, 1) := by decide +kernel
theorem dX6_keepsApart_9 : decode cX6_keepsApart 9 = .ok (.istore_n 2, 1) := by decide +kernel
theorem dX6_keepsApart_10 : decode cX6_keepsApart 10 = .ok (.iload_n 2, 1) := by decide +kernel
theorem dX6_keepsApart_11 : decode cX6_keepsApart 11 = .ok (.aload_n 0, 1) := by decide +kernel
theorem dX6_keepsApart_12 : decode cX6_keepsApart 12 = .ok (.getfield 47, 3) := by decide +kernel
theorem dX6_keepsApart_15 : decode cX6_keepsApart 15 = .ok (.getfield 103, 3) := by decide +kernel
theorem dX6_keepsApart_18 : decode cX6_keepsApart 18 = .ok (.iload_n 1, 1) := by decide +kernel
theorem dX6_keepsApart_19 : decode cX6_keepsApart 19 = .ok (.iaload, 1) := by decide +kernel
theorem dX6_keepsApart_20 : decode cX6_keepsApart 20 = .ok (.aload_n 0, 1) := by decide +kernel
theorem dX6_keepsApart_21 : decode cX6_keepsApart 21 = .ok (.getfield 47, 3) := by decide +kernel
theorem dX6_keepsApart_24 : decode cX6_keepsApart 24 = .ok (.getfield 106, 3) := by decide +kernel
theorem dX6_keepsApart_27 : decode cX6_keepsApart 27 = .ok (.iload_n 1, 1) := by decide +kernel
theorem dX6_keepsApart_28 : decode cX6_keepsApart 28 = .ok (.iaload, 1) := by decide +kernel
theorem dX6_keepsApart_29 : decode cX6_keepsApart 29 = .ok (.iadd, 1) := by decide +kernel
theorem dX6_keepsApart_30 : decode cX6_keepsApart 30 = .ok (.if_icmp .ge 56, 3) := by decide +kernel
theorem dX6_keepsApart_33 : decode cX6_keepsApart 33 = .ok (.aload_n 0, 1) := by decide +kernel
theorem dX6_keepsApart_34 : decode cX6_keepsApart 34 = .ok (.aload_n 0, 1) := by decide +kernel
theorem dX6_keepsApart_35 : decode cX6_keepsApart 35 = .ok (.getfield 47, 3) := by decide +kernel
theorem dX6_keepsApart_38 : decode cX6_keepsApart 38 = .ok (.iload_n 2, 1) := by decide +kernel
theorem dX6_keepsApart_39 : decode cX6_keepsApart 39 = .ok (.invokevirtual 109, 3) := by decide +kernel
theorem dX6_keepsApart_42 : decode cX6_keepsApart 42 = .ok (.aload_n 0, 1) := by decide +kernel
theorem dX6_keepsApart_43 : decode cX6_keepsApart 43 = .ok (.getfield 37, 3) := by decide +kernel
theorem dX6_keepsApart_46 : decode cX6_keepsApart 46 = .ok (.invokevirtual 112, 3) := by decide +kernel
theorem dX6_keepsApart_49 : decode cX6_keepsApart 49 = .ok (.istore_n 3, 1) := by decide +kernel
theorem dX6_keepsApart_50 : decode cX6_keepsApart 50 = .ok (.aload_n 0, 1) := by decide +kernel
theorem dX6_keepsApart_51 : decode cX6_keepsApart 51 = .ok (.aload_n 0, 1) := by decide +kernel
theorem dX6_keepsApart_52 : decode cX6_keepsApart 52 = .ok (.getfield 47, 3) := by decide +kernel
theorem dX6_keepsApart_55 : decode cX6_keepsApart 55 = .ok (.iload_n 2, 1) := by decide +kernel
theorem dX6_keepsApart_56 : decode cX6_keepsApart 56 = .ok (.invokevirtual 116, 3) := by decide +kernel
theorem dX6_keepsApart_59 : decode cX6_keepsApart 59 = .ok (.aload_n 0, 1) := by decide +kernel
theorem dX6_keepsApart_60 : decode cX6_keepsApart 60 = .ok (.getfield 40, 3) := by decide +kernel
theorem dX6_keepsApart_63 : decode cX6_keepsApart 63 = .ok (.invokevirtual 112, 3) := by decide +kernel
theorem dX6_keepsApart_66 : decode cX6_keepsApart 66 = .ok (.istore 4, 2) := by decide +kernel
theorem dX6_keepsApart_68 : decode cX6_keepsApart 68 = .ok (.aload_n 0, 1) := by decide +kernel
theorem dX6_keepsApart_69 : decode cX6_keepsApart 69 = .ok (.iload_n 3, 1) := by decide +kernel
theorem dX6_keepsApart_70 : decode cX6_keepsApart 70 = .ok (.iload 4, 2) := by decide +kernel
theorem dX6_keepsApart_72 : decode cX6_keepsApart 72 = .ok (.invokevirtual 119, 3) := by decide +kernel
theorem dX6_keepsApart_75 : decode cX6_keepsApart 75 = .ok (.ifCond .ne 5, 3) := by decide +kernel
theorem dX6_keepsApart_78 : decode cX6_keepsApart 78 = .ok (.iconst 0, 1) := by decide +kernel
theorem dX6_keepsApart_79 : decode cX6_keepsApart 79 = .ok (.ireturn, 1) := by decide +kernel
theorem dX6_keepsApart_80 : decode cX6_keepsApart 80 = .ok (.iinc 2 1, 3) := by decide +kernel
theorem dX6_keepsApart_83 : decode cX6_keepsApart 83 = .ok (.goto (-73), 3) := by decide +kernel
theorem dX6_keepsApart_86 : decode cX6_keepsApart 86 = .ok (.iconst 1, 1) := by decide +kernel
theorem dX6_keepsApart_87 : decode cX6_keepsApart 87 = .ok (.ireturn, 1) := by decide +kernel
theorem dX6_gather_0 : decode cX6_gather 0 = .ok (.aload_n 0, 1) := by decide +kernel
theorem dX6_gather_1 : decode cX6_gather 1 = .ok (.dup, 1) := by decide +kernel
theorem dX6_gather_2 : decode cX6_gather 2 = .ok (.getfield 122, 3) := by decide +kernel
theorem dX6_gather_5 : decode cX6_gather 5 = .ok (.iconst 1, 1) := by decide +kernel
theorem dX6_gather_6 : decode cX6_gather 6 = .ok (.iadd, 1) := by decide +kernel
theorem dX6_gather_7 : decode cX6_gather 7 = .ok (.putfield 122, 3) := by decide +kernel
theorem dX6_gather_10 : decode cX6_gather 10 = .ok (.iconst 0, 1) := by decide +kernel
theorem dX6_gather_11 : decode cX6_gather 11 = .ok (.istore_n 3, 1) := by decide +kernel
theorem dX6_gather_12 : decode cX6_gather 12 = .ok (.aload_n 0, 1) := by decide +kernel
theorem dX6_gather_13 : decode cX6_gather 13 = .ok (.getfield 28, 3) := by decide +kernel
theorem dX6_gather_16 : decode cX6_gather 16 = .ok (.iload_n 1, 1) := by decide +kernel
theorem dX6_gather_17 : decode cX6_gather 17 = .ok (.iaload, 1) := by decide +kernel
theorem dX6_gather_18 : decode cX6_gather 18 = .ok (.istore 4, 2) := by decide +kernel
theorem dX6_gather_20 : decode cX6_gather 20 = .ok (.iload 4, 2) := by decide +kernel
theorem dX6_gather_22 : decode cX6_gather 22 = .ok (.aload_n 0, 1) := by decide +kernel
theorem dX6_gather_23 : decode cX6_gather 23 = .ok (.getfield 28, 3) := by decide +kernel
theorem dX6_gather_26 : decode cX6_gather 26 = .ok (.iload_n 1, 1) := by decide +kernel
theorem dX6_gather_27 : decode cX6_gather 27 = .ok (.iaload, 1) := by decide +kernel
theorem dX6_gather_28 : decode cX6_gather 28 = .ok (.aload_n 0, 1) := by decide +kernel
theorem dX6_gather_29 : decode cX6_gather 29 = .ok (.getfield 31, 3) := by decide +kernel
theorem dX6_gather_32 : decode cX6_gather 32 = .ok (.iload_n 1, 1) := by decide +kernel
theorem dX6_gather_33 : decode cX6_gather 33 = .ok (.iaload, 1) := by decide +kernel
theorem dX6_gather_34 : decode cX6_gather 34 = .ok (.iadd, 1) := by decide +kernel
theorem dX6_gather_35 : decode cX6_gather 35 = .ok (.if_icmp .ge 64, 3) := by decide +kernel
theorem dX6_gather_38 : decode cX6_gather 38 = .ok (.aload_n 0, 1) := by decide +kernel
theorem dX6_gather_39 : decode cX6_gather 39 = .ok (.getfield 12, 3) := by decide +kernel
theorem dX6_gather_42 : decode cX6_gather 42 = .ok (.iload 4, 2) := by decide +kernel
theorem dX6_gather_44 : decode cX6_gather 44 = .ok (.iaload, 1) := by decide +kernel
theorem dX6_gather_45 : decode cX6_gather 45 = .ok (.istore 5, 2) := by decide +kernel
theorem dX6_gather_47 : decode cX6_gather 47 = .ok (.aload_n 0, 1) := by decide +kernel
theorem dX6_gather_48 : decode cX6_gather 48 = .ok (.getfield 43, 3) := by decide +kernel
theorem dX6_gather_51 : decode cX6_gather 51 = .ok (.getfield 125, 3) := by decide +kernel
theorem dX6_gather_54 : decode cX6_gather 54 = .ok (.iload 5, 2) := by decide +kernel
theorem dX6_gather_56 : decode cX6_gather 56 = .ok (.baload, 1) := by decide +kernel
theorem dX6_gather_57 : decode cX6_gather 57 = .ok (.ifCond .eq 36, 3) := by decide +kernel
theorem dX6_gather_60 : decode cX6_gather 60 = .ok (.aload_n 0, 1) := by decide +kernel
theorem dX6_gather_61 : decode cX6_gather 61 = .ok (.getfield 34, 3) := by decide +kernel
theorem dX6_gather_64 : decode cX6_gather 64 = .ok (.iload 5, 2) := by decide +kernel
theorem dX6_gather_66 : decode cX6_gather 66 = .ok (.iaload, 1) := by decide +kernel
theorem dX6_gather_67 : decode cX6_gather 67 = .ok (.aload_n 0, 1) := by decide +kernel
theorem dX6_gather_68 : decode cX6_gather 68 = .ok (.getfield 122, 3) := by decide +kernel
theorem dX6_gather_71 : decode cX6_gather 71 = .ok (.if_icmp .eq 22, 3) := by decide +kernel
theorem dX6_gather_74 : decode cX6_gather 74 = .ok (.aload_n 0, 1) := by decide +kernel
theorem dX6_gather_75 : decode cX6_gather 75 = .ok (.getfield 34, 3) := by decide +kernel
theorem dX6_gather_78 : decode cX6_gather 78 = .ok (.iload 5, 2) := by decide +kernel
theorem dX6_gather_80 : decode cX6_gather 80 = .ok (.aload_n 0, 1) := by decide +kernel
theorem dX6_gather_81 : decode cX6_gather 81 = .ok (.getfield 122, 3) := by decide +kernel
theorem dX6_gather_84 : decode cX6_gather 84 = .ok (.iastore, 1) := by decide +kernel
theorem dX6_gather_85 : decode cX6_gather 85 = .ok (.aload_n 2, 1) := by decide +kernel
theorem dX6_gather_86 : decode cX6_gather 86 = .ok (.iload_n 3, 1) := by decide +kernel
theorem dX6_gather_87 : decode cX6_gather 87 = .ok (.iload 5, 2) := by decide +kernel
theorem dX6_gather_89 : decode cX6_gather 89 = .ok (.iastore, 1) := by decide +kernel
theorem dX6_gather_90 : decode cX6_gather 90 = .ok (.iinc 3 1, 3) := by decide +kernel
theorem dX6_gather_93 : decode cX6_gather 93 = .ok (.iinc 4 1, 3) := by decide +kernel
theorem dX6_gather_96 : decode cX6_gather 96 = .ok (.goto (-76), 3) := by decide +kernel
theorem dX6_gather_99 : decode cX6_gather 99 = .ok (.iload_n 3, 1) := by decide +kernel
theorem dX6_gather_100 : decode cX6_gather 100 = .ok (.ireturn, 1) := by decide +kernel
theorem dX6_areApart_0 : decode cX6_areApart 0 = .ok (.iconst 0, 1) := by decide +kernel
theorem dX6_areApart_1 : decode cX6_areApart 1 = .ok (.istore_n 3, 1) := by decide +kernel
theorem dX6_areApart_2 : decode cX6_areApart 2 = .ok (.iload_n 3, 1) := by decide +kernel
theorem dX6_areApart_3 : decode cX6_areApart 3 = .ok (.iload_n 1, 1) := by decide +kernel
theorem dX6_areApart_4 : decode cX6_areApart 4 = .ok (.if_icmp .ge 49, 3) := by decide +kernel
theorem dX6_areApart_7 : decode cX6_areApart 7 = .ok (.iconst 0, 1) := by decide +kernel
theorem dX6_areApart_8 : decode cX6_areApart 8 = .ok (.istore 4, 2) := by decide +kernel
theorem dX6_areApart_10 : decode cX6_areApart 10 = .ok (.iload 4, 2) := by decide +kernel
theorem dX6_areApart_12 : decode cX6_areApart 12 = .ok (.iload_n 2, 1) := by decide +kernel
theorem dX6_areApart_13 : decode cX6_areApart 13 = .ok (.if_icmp .ge 34, 3) := by decide +kernel
theorem dX6_areApart_16 : decode cX6_areApart 16 = .ok (.aload_n 0, 1) := by decide +kernel
theorem dX6_areApart_17 : decode cX6_areApart 17 = .ok (.getfield 51, 3) := by decide +kernel
theorem dX6_areApart_20 : decode cX6_areApart 20 = .ok (.aload_n 0, 1) := by decide +kernel
theorem dX6_areApart_21 : decode cX6_areApart 21 = .ok (.getfield 37, 3) := by decide +kernel
theorem dX6_areApart_24 : decode cX6_areApart 24 = .ok (.iload_n 3, 1) := by decide +kernel
theorem dX6_areApart_25 : decode cX6_areApart 25 = .ok (.iaload, 1) := by decide +kernel
theorem dX6_areApart_26 : decode cX6_areApart 26 = .ok (.aload_n 0, 1) := by decide +kernel
theorem dX6_areApart_27 : decode cX6_areApart 27 = .ok (.getfield 40, 3) := by decide +kernel
theorem dX6_areApart_30 : decode cX6_areApart 30 = .ok (.iload 4, 2) := by decide +kernel
theorem dX6_areApart_32 : decode cX6_areApart 32 = .ok (.iaload, 1) := by decide +kernel
theorem dX6_areApart_33 : decode cX6_areApart 33 = .ok (.invokevirtual 129, 3) := by decide +kernel
theorem dX6_areApart_36 : decode cX6_areApart 36 = .ok (.ifCond .ne 5, 3) := by decide +kernel
theorem dX6_areApart_39 : decode cX6_areApart 39 = .ok (.iconst 0, 1) := by decide +kernel
theorem dX6_areApart_40 : decode cX6_areApart 40 = .ok (.ireturn, 1) := by decide +kernel
theorem dX6_areApart_41 : decode cX6_areApart 41 = .ok (.iinc 4 1, 3) := by decide +kernel
theorem dX6_areApart_44 : decode cX6_areApart 44 = .ok (.goto (-34), 3) := by decide +kernel
theorem dX6_areApart_47 : decode cX6_areApart 47 = .ok (.iinc 3 1, 3) := by decide +kernel
theorem dX6_areApart_50 : decode cX6_areApart 50 = .ok (.goto (-48), 3) := by decide +kernel
theorem dX6_areApart_53 : decode cX6_areApart 53 = .ok (.iconst 1, 1) := by decide +kernel
theorem dX6_areApart_54 : decode cX6_areApart 54 = .ok (.ireturn, 1) := by decide +kernel
theorem dX6_build_0 : decode cX6_build 0 = .ok (.iconst 0, 1) := by decide +kernel
theorem dX6_build_1 : decode cX6_build 1 = .ok (.istore_n 2, 1) := by decide +kernel
theorem dX6_build_2 : decode cX6_build 2 = .ok (.aload_n 0, 1) := by decide +kernel
theorem dX6_build_3 : decode cX6_build 3 = .ok (.getfield 43, 3) := by decide +kernel
theorem dX6_build_6 : decode cX6_build 6 = .ok (.getfield 92, 3) := by decide +kernel
theorem dX6_build_9 : decode cX6_build 9 = .ok (.iload_n 1, 1) := by decide +kernel
theorem dX6_build_10 : decode cX6_build 10 = .ok (.iaload, 1) := by decide +kernel
theorem dX6_build_11 : decode cX6_build 11 = .ok (.istore_n 3, 1) := by decide +kernel
theorem dX6_build_12 : decode cX6_build 12 = .ok (.iload_n 3, 1) := by decide +kernel
theorem dX6_build_13 : decode cX6_build 13 = .ok (.aload_n 0, 1) := by decide +kernel
theorem dX6_build_14 : decode cX6_build 14 = .ok (.getfield 43, 3) := by decide +kernel
theorem dX6_build_17 : decode cX6_build 17 = .ok (.getfield 92, 3) := by decide +kernel
theorem dX6_build_20 : decode cX6_build 20 = .ok (.iload_n 1, 1) := by decide +kernel
theorem dX6_build_21 : decode cX6_build 21 = .ok (.iconst 1, 1) := by decide +kernel
theorem dX6_build_22 : decode cX6_build 22 = .ok (.iadd, 1) := by decide +kernel
theorem dX6_build_23 : decode cX6_build 23 = .ok (.iaload, 1) := by decide +kernel
theorem dX6_build_24 : decode cX6_build 24 = .ok (.if_icmp .ge 43, 3) := by decide +kernel
theorem dX6_build_27 : decode cX6_build 27 = .ok (.iload_n 2, 1) := by decide +kernel
theorem dX6_build_28 : decode cX6_build 28 = .ok (.aload_n 0, 1) := by decide +kernel
theorem dX6_build_29 : decode cX6_build 29 = .ok (.getfield 43, 3) := by decide +kernel
theorem dX6_build_32 : decode cX6_build 32 = .ok (.getfield 96, 3) := by decide +kernel
theorem dX6_build_35 : decode cX6_build 35 = .ok (.iload_n 3, 1) := by decide +kernel
theorem dX6_build_36 : decode cX6_build 36 = .ok (.iaload, 1) := by decide +kernel
theorem dX6_build_37 : decode cX6_build 37 = .ok (.iconst (-1), 1) := by decide +kernel
theorem dX6_build_38 : decode cX6_build 38 = .ok (.if_icmp .ne 7, 3) := by decide +kernel
theorem dX6_build_41 : decode cX6_build 41 = .ok (.iconst 1, 1) := by decide +kernel
theorem dX6_build_42 : decode cX6_build 42 = .ok (.goto 17, 3) := by decide +kernel
theorem dX6_build_45 : decode cX6_build 45 = .ok (.aload_n 0, 1) := by decide +kernel
theorem dX6_build_46 : decode cX6_build 46 = .ok (.getfield 31, 3) := by decide +kernel
theorem dX6_build_49 : decode cX6_build 49 = .ok (.aload_n 0, 1) := by decide +kernel
theorem dX6_build_50 : decode cX6_build 50 = .ok (.getfield 43, 3) := by decide +kernel
theorem dX6_build_53 : decode cX6_build 53 = .ok (.getfield 93, 3) := by decide +kernel
theorem dX6_build_56 : decode cX6_build 56 = .ok (.iload_n 3, 1) := by decide +kernel
theorem dX6_build_57 : decode cX6_build 57 = .ok (.iaload, 1) := by decide +kernel
theorem dX6_build_58 : decode cX6_build 58 = .ok (.iaload, 1) := by decide +kernel
theorem dX6_build_59 : decode cX6_build 59 = .ok (.iadd, 1) := by decide +kernel
theorem dX6_build_60 : decode cX6_build 60 = .ok (.istore_n 2, 1) := by decide +kernel
theorem dX6_build_61 : decode cX6_build 61 = .ok (.iinc 3 1, 3) := by decide +kernel
theorem dX6_build_64 : decode cX6_build 64 = .ok (.goto (-52), 3) := by decide +kernel
theorem dX6_build_67 : decode cX6_build 67 = .ok (.iload_n 2, 1) := by decide +kernel
theorem dX6_build_68 : decode cX6_build 68 = .ok (.sipush 1000, 3) := by decide +kernel
theorem dX6_build_71 : decode cX6_build 71 = .ok (.if_icmp .le 5, 3) := by decide +kernel
theorem dX6_build_74 : decode cX6_build 74 = .ok (.iconst 0, 1) := by decide +kernel
theorem dX6_build_75 : decode cX6_build 75 = .ok (.ireturn, 1) := by decide +kernel
theorem dX6_build_76 : decode cX6_build 76 = .ok (.aload_n 0, 1) := by decide +kernel
theorem dX6_build_77 : decode cX6_build 77 = .ok (.iconst 0, 1) := by decide +kernel
theorem dX6_build_78 : decode cX6_build 78 = .ok (.putfield 132, 3) := by decide +kernel
theorem dX6_build_81 : decode cX6_build 81 = .ok (.aload_n 0, 1) := by decide +kernel
theorem dX6_build_82 : decode cX6_build 82 = .ok (.getfield 43, 3) := by decide +kernel
theorem dX6_build_85 : decode cX6_build 85 = .ok (.getfield 92, 3) := by decide +kernel
theorem dX6_build_88 : decode cX6_build 88 = .ok (.iload_n 1, 1) := by decide +kernel
theorem dX6_build_89 : decode cX6_build 89 = .ok (.iaload, 1) := by decide +kernel
theorem dX6_build_90 : decode cX6_build 90 = .ok (.istore_n 3, 1) := by decide +kernel
theorem dX6_build_91 : decode cX6_build 91 = .ok (.iload_n 3, 1) := by decide +kernel
theorem dX6_build_92 : decode cX6_build 92 = .ok (.aload_n 0, 1) := by decide +kernel
theorem dX6_build_93 : decode cX6_build 93 = .ok (.getfield 43, 3) := by decide +kernel
theorem dX6_build_96 : decode cX6_build 96 = .ok (.getfield 92, 3) := by decide +kernel
theorem dX6_build_99 : decode cX6_build 99 = .ok (.iload_n 1, 1) := by decide +kernel
theorem dX6_build_100 : decode cX6_build 100 = .ok (.iconst 1, 1) := by decide +kernel
theorem dX6_build_101 : decode cX6_build 101 = .ok (.iadd, 1) := by decide +kernel
theorem dX6_build_102 : decode cX6_build 102 = .ok (.iaload, 1) := by decide +kernel
theorem dX6_build_103 : decode cX6_build 103 = .ok (.if_icmp .ge 102, 3) := by decide +kernel
theorem dX6_build_106 : decode cX6_build 106 = .ok (.aload_n 0, 1) := by decide +kernel
theorem dX6_build_107 : decode cX6_build 107 = .ok (.getfield 43, 3) := by decide +kernel
theorem dX6_build_110 : decode cX6_build 110 = .ok (.getfield 93, 3) := by decide +kernel
theorem dX6_build_113 : decode cX6_build 113 = .ok (.iload_n 3, 1) := by decide +kernel
theorem dX6_build_114 : decode cX6_build 114 = .ok (.iaload, 1) := by decide +kernel
theorem dX6_build_115 : decode cX6_build 115 = .ok (.istore 4, 2) := by decide +kernel
theorem dX6_build_117 : decode cX6_build 117 = .ok (.aload_n 0, 1) := by decide +kernel
theorem dX6_build_118 : decode cX6_build 118 = .ok (.getfield 43, 3) := by decide +kernel
theorem dX6_build_121 : decode cX6_build 121 = .ok (.getfield 96, 3) := by decide +kernel
theorem dX6_build_124 : decode cX6_build 124 = .ok (.iload_n 3, 1) := by decide +kernel
theorem dX6_build_125 : decode cX6_build 125 = .ok (.iaload, 1) := by decide +kernel
theorem dX6_build_126 : decode cX6_build 126 = .ok (.iconst (-1), 1) := by decide +kernel
theorem dX6_build_127 : decode cX6_build 127 = .ok (.if_icmp .ne 27, 3) := by decide +kernel
theorem dX6_build_130 : decode cX6_build 130 = .ok (.aload_n 0, 1) := by decide +kernel
theorem dX6_build_131 : decode cX6_build 131 = .ok (.getfield 25, 3) := by decide +kernel
theorem dX6_build_134 : decode cX6_build 134 = .ok (.aload_n 0, 1) := by decide +kernel
theorem dX6_build_135 : decode cX6_build 135 = .ok (.getfield 132, 3) := by decide +kernel
theorem dX6_build_138 : decode cX6_build 138 = .ok (.iload 4, 2) := by decide +kernel
theorem dX6_build_140 : decode cX6_build 140 = .ok (.iastore, 1) := by decide +kernel
theorem dX6_build_141 : decode cX6_build 141 = .ok (.aload_n 0, 1) := by decide +kernel
theorem dX6_build_142 : decode cX6_build 142 = .ok (.dup, 1) := by decide +kernel
theorem dX6_build_143 : decode cX6_build 143 = .ok (.getfield 132, 3) := by decide +kernel
theorem dX6_build_146 : decode cX6_build 146 = .ok (.iconst 1, 1) := by decide +kernel
theorem dX6_build_147 : decode cX6_build 147 = .ok (.iadd, 1) := by decide +kernel
theorem dX6_build_148 : decode cX6_build 148 = .ok (.putfield 132, 3) := by decide +kernel
theorem dX6_build_151 : decode cX6_build 151 = .ok (.goto 48, 3) := by decide +kernel
theorem dX6_build_154 : decode cX6_build 154 = .ok (.aload_n 0, 1) := by decide +kernel
theorem dX6_build_155 : decode cX6_build 155 = .ok (.getfield 12, 3) := by decide +kernel
theorem dX6_build_158 : decode cX6_build 158 = .ok (.aload_n 0, 1) := by decide +kernel
theorem dX6_build_159 : decode cX6_build 159 = .ok (.getfield 28, 3) := by decide +kernel
theorem dX6_build_162 : decode cX6_build 162 = .ok (.iload 4, 2) := by decide +kernel
theorem dX6_build_164 : decode cX6_build 164 = .ok (.iaload, 1) := by decide +kernel
theorem dX6_build_165 : decode cX6_build 165 = .ok (.aload_n 0, 1) := by decide +kernel
theorem dX6_build_166 : decode cX6_build 166 = .ok (.getfield 25, 3) := by decide +kernel
theorem dX6_build_169 : decode cX6_build 169 = .ok (.aload_n 0, 1) := by decide +kernel
theorem dX6_build_170 : decode cX6_build 170 = .ok (.getfield 132, 3) := by decide +kernel
theorem dX6_build_173 : decode cX6_build 173 = .ok (.aload_n 0, 1) := by decide +kernel
theorem dX6_build_174 : decode cX6_build 174 = .ok (.getfield 31, 3) := by decide +kernel
theorem dX6_build_177 : decode cX6_build 177 = .ok (.iload 4, 2) := by decide +kernel
theorem dX6_build_179 : decode cX6_build 179 = .ok (.iaload, 1) := by decide +kernel
theorem dX6_build_180 : decode cX6_build 180 = .ok (.invokestatic 135, 3) := by decide +kernel
theorem dX6_build_183 : decode cX6_build 183 = .ok (.aload_n 0, 1) := by decide +kernel
theorem dX6_build_184 : decode cX6_build 184 = .ok (.dup, 1) := by decide +kernel
theorem dX6_build_185 : decode cX6_build 185 = .ok (.getfield 132, 3) := by decide +kernel
theorem dX6_build_188 : decode cX6_build 188 = .ok (.aload_n 0, 1) := by decide +kernel
theorem dX6_build_189 : decode cX6_build 189 = .ok (.getfield 31, 3) := by decide +kernel
theorem dX6_build_192 : decode cX6_build 192 = .ok (.iload 4, 2) := by decide +kernel
theorem dX6_build_194 : decode cX6_build 194 = .ok (.iaload, 1) := by decide +kernel
theorem dX6_build_195 : decode cX6_build 195 = .ok (.iadd, 1) := by decide +kernel
theorem dX6_build_196 : decode cX6_build 196 = .ok (.putfield 132, 3) := by decide +kernel
theorem dX6_build_199 : decode cX6_build 199 = .ok (.iinc 3 1, 3) := by decide +kernel
theorem dX6_build_202 : decode cX6_build 202 = .ok (.goto (-111), 3) := by decide +kernel
theorem dX6_build_205 : decode cX6_build 205 = .ok (.iconst 1, 1) := by decide +kernel
theorem dX6_build_206 : decode cX6_build 206 = .ok (.ireturn, 1) := by decide +kernel
theorem dX6_buildHypothesis_0 : decode cX6_buildHypothesis 0 = .ok (.aload_n 0, 1) := by decide +kernel
theorem dX6_buildHypothesis_1 : decode cX6_buildHypothesis 1 = .ok (.aload_n 0, 1) := by decide +kernel
theorem dX6_buildHypothesis_2 : decode cX6_buildHypothesis 2 = .ok (.getfield 43, 3) := by decide +kernel
theorem dX6_buildHypothesis_5 : decode cX6_buildHypothesis 5 = .ok (.iload_n 1, 1) := by decide +kernel
theorem dX6_buildHypothesis_6 : decode cX6_buildHypothesis 6 = .ok (.invokevirtual 141, 3) := by decide +kernel
theorem dX6_buildHypothesis_9 : decode cX6_buildHypothesis 9 = .ok (.putfield 132, 3) := by decide +kernel
theorem dX6_buildHypothesis_12 : decode cX6_buildHypothesis 12 = .ok (.aload_n 0, 1) := by decide +kernel
theorem dX6_buildHypothesis_13 : decode cX6_buildHypothesis 13 = .ok (.getfield 43, 3) := by decide +kernel
theorem dX6_buildHypothesis_16 : decode cX6_buildHypothesis 16 = .ok (.getfield 93, 3) := by decide +kernel
theorem dX6_buildHypothesis_19 : decode cX6_buildHypothesis 19 = .ok (.aload_n 0, 1) := by decide +kernel
theorem dX6_buildHypothesis_20 : decode cX6_buildHypothesis 20 = .ok (.getfield 43, 3) := by decide +kernel
theorem dX6_buildHypothesis_23 : decode cX6_buildHypothesis 23 = .ok (.getfield 92, 3) := by decide +kernel
theorem dX6_buildHypothesis_26 : decode cX6_buildHypothesis 26 = .ok (.iload_n 1, 1) := by decide +kernel
theorem dX6_buildHypothesis_27 : decode cX6_buildHypothesis 27 = .ok (.iaload, 1) := by decide +kernel
theorem dX6_buildHypothesis_28 : decode cX6_buildHypothesis 28 = .ok (.aload_n 0, 1) := by decide +kernel
theorem dX6_buildHypothesis_29 : decode cX6_buildHypothesis 29 = .ok (.getfield 25, 3) := by decide +kernel
theorem dX6_buildHypothesis_32 : decode cX6_buildHypothesis 32 = .ok (.iconst 0, 1) := by decide +kernel
theorem dX6_buildHypothesis_33 : decode cX6_buildHypothesis 33 = .ok (.aload_n 0, 1) := by decide +kernel
theorem dX6_buildHypothesis_34 : decode cX6_buildHypothesis 34 = .ok (.getfield 132, 3) := by decide +kernel
theorem dX6_buildHypothesis_37 : decode cX6_buildHypothesis 37 = .ok (.invokestatic 135, 3) := by decide +kernel
theorem dX6_buildHypothesis_40 : decode cX6_buildHypothesis 40 = .ok (.return_, 1) := by decide +kernel
theorem dX6_drop_0 : decode cX6_drop 0 = .ok (.iload_n 1, 1) := by decide +kernel
theorem dX6_drop_1 : decode cX6_drop 1 = .ok (.istore_n 3, 1) := by decide +kernel
theorem dX6_drop_2 : decode cX6_drop 2 = .ok (.iload_n 3, 1) := by decide +kernel
theorem dX6_drop_3 : decode cX6_drop 3 = .ok (.iload_n 1, 1) := by decide +kernel
theorem dX6_drop_4 : decode cX6_drop 4 = .ok (.iload_n 2, 1) := by decide +kernel
theorem dX6_drop_5 : decode cX6_drop 5 = .ok (.iadd, 1) := by decide +kernel
theorem dX6_drop_6 : decode cX6_drop 6 = .ok (.if_icmp .ge 47, 3) := by decide +kernel
theorem dX6_drop_9 : decode cX6_drop 9 = .ok (.aload_n 0, 1) := by decide +kernel
theorem dX6_drop_10 : decode cX6_drop 10 = .ok (.getfield 47, 3) := by decide +kernel
theorem dX6_drop_13 : decode cX6_drop 13 = .ok (.getfield 73, 3) := by decide +kernel
theorem dX6_drop_16 : decode cX6_drop 16 = .ok (.iload_n 3, 1) := by decide +kernel
theorem dX6_drop_17 : decode cX6_drop 17 = .ok (.iaload, 1) := by decide +kernel
theorem dX6_drop_18 : decode cX6_drop 18 = .ok (.istore 4, 2) := by decide +kernel
theorem dX6_drop_20 : decode cX6_drop 20 = .ok (.aload_n 0, 1) := by decide +kernel
theorem dX6_drop_21 : decode cX6_drop 21 = .ok (.getfield 22, 3) := by decide +kernel
theorem dX6_drop_24 : decode cX6_drop 24 = .ok (.iload 4, 2) := by decide +kernel
theorem dX6_drop_26 : decode cX6_drop 26 = .ok (.iaload, 1) := by decide +kernel
theorem dX6_drop_27 : decode cX6_drop 27 = .ok (.iconst 2, 1) := by decide +kernel
theorem dX6_drop_28 : decode cX6_drop 28 = .ok (.if_icmp .ge 19, 3) := by decide +kernel
theorem dX6_drop_31 : decode cX6_drop 31 = .ok (.aload_n 0, 1) := by decide +kernel
theorem dX6_drop_32 : decode cX6_drop 32 = .ok (.dup, 1) := by decide +kernel
theorem dX6_drop_33 : decode cX6_drop 33 = .ok (.getfield 55, 3) := by decide +kernel
theorem dX6_drop_36 : decode cX6_drop 36 = .ok (.aload_n 0, 1) := by decide +kernel
theorem dX6_drop_37 : decode cX6_drop 37 = .ok (.getfield 19, 3) := by decide +kernel
theorem dX6_drop_40 : decode cX6_drop 40 = .ok (.iload 4, 2) := by decide +kernel
theorem dX6_drop_42 : decode cX6_drop 42 = .ok (.iaload, 1) := by decide +kernel
theorem dX6_drop_43 : decode cX6_drop 43 = .ok (.isub, 1) := by decide +kernel
theorem dX6_drop_44 : decode cX6_drop 44 = .ok (.putfield 55, 3) := by decide +kernel
theorem dX6_drop_47 : decode cX6_drop 47 = .ok (.iinc 3 1, 3) := by decide +kernel
theorem dX6_drop_50 : decode cX6_drop 50 = .ok (.goto (-48), 3) := by decide +kernel
theorem dX6_drop_53 : decode cX6_drop 53 = .ok (.return_, 1) := by decide +kernel
theorem dX6_put_0 : decode cX6_put 0 = .ok (.aload_n 0, 1) := by decide +kernel
theorem dX6_put_1 : decode cX6_put 1 = .ok (.getfield 55, 3) := by decide +kernel
theorem dX6_put_4 : decode cX6_put 4 = .ok (.aload_n 0, 1) := by decide +kernel
theorem dX6_put_5 : decode cX6_put 5 = .ok (.getfield 132, 3) := by decide +kernel
theorem dX6_put_8 : decode cX6_put 8 = .ok (.iadd, 1) := by decide +kernel
theorem dX6_put_9 : decode cX6_put 9 = .ok (.aload_n 0, 1) := by decide +kernel
theorem dX6_put_10 : decode cX6_put 10 = .ok (.getfield 59, 3) := by decide +kernel
theorem dX6_put_13 : decode cX6_put 13 = .ok (.if_icmp .le 5, 3) := by decide +kernel
theorem dX6_put_16 : decode cX6_put 16 = .ok (.iconst 0, 1) := by decide +kernel
theorem dX6_put_17 : decode cX6_put 17 = .ok (.ireturn, 1) := by decide +kernel
theorem dX6_put_18 : decode cX6_put 18 = .ok (.aload_n 0, 1) := by decide +kernel
theorem dX6_put_19 : decode cX6_put 19 = .ok (.getfield 22, 3) := by decide +kernel
theorem dX6_put_22 : decode cX6_put 22 = .ok (.iload_n 1, 1) := by decide +kernel
theorem dX6_put_23 : decode cX6_put 23 = .ok (.iload_n 2, 1) := by decide +kernel
theorem dX6_put_24 : decode cX6_put 24 = .ok (.ifCond .eq 7, 3) := by decide +kernel
theorem dX6_put_27 : decode cX6_put 27 = .ok (.iconst 2, 1) := by decide +kernel
theorem dX6_put_28 : decode cX6_put 28 = .ok (.goto 4, 3) := by decide +kernel
theorem dX6_put_31 : decode cX6_put 31 = .ok (.iconst 1, 1) := by decide +kernel
theorem dX6_put_32 : decode cX6_put 32 = .ok (.iastore, 1) := by decide +kernel
theorem dX6_put_33 : decode cX6_put 33 = .ok (.aload_n 0, 1) := by decide +kernel
theorem dX6_put_34 : decode cX6_put 34 = .ok (.getfield 19, 3) := by decide +kernel
theorem dX6_put_37 : decode cX6_put 37 = .ok (.iload_n 1, 1) := by decide +kernel
theorem dX6_put_38 : decode cX6_put 38 = .ok (.aload_n 0, 1) := by decide +kernel
theorem dX6_put_39 : decode cX6_put 39 = .ok (.getfield 132, 3) := by decide +kernel
theorem dX6_put_42 : decode cX6_put 42 = .ok (.iastore, 1) := by decide +kernel
theorem dX6_put_43 : decode cX6_put 43 = .ok (.aload_n 0, 1) := by decide +kernel
theorem dX6_put_44 : decode cX6_put 44 = .ok (.getfield 16, 3) := by decide +kernel
theorem dX6_put_47 : decode cX6_put 47 = .ok (.iload_n 1, 1) := by decide +kernel
theorem dX6_put_48 : decode cX6_put 48 = .ok (.aload_n 0, 1) := by decide +kernel
theorem dX6_put_49 : decode cX6_put 49 = .ok (.getfield 55, 3) := by decide +kernel
theorem dX6_put_52 : decode cX6_put 52 = .ok (.iastore, 1) := by decide +kernel
theorem dX6_put_53 : decode cX6_put 53 = .ok (.iload_n 2, 1) := by decide +kernel
theorem dX6_put_54 : decode cX6_put 54 = .ok (.ifCond .eq 29, 3) := by decide +kernel
theorem dX6_put_57 : decode cX6_put 57 = .ok (.aload_n 0, 1) := by decide +kernel
theorem dX6_put_58 : decode cX6_put 58 = .ok (.dup, 1) := by decide +kernel
theorem dX6_put_59 : decode cX6_put 59 = .ok (.getfield 59, 3) := by decide +kernel
theorem dX6_put_62 : decode cX6_put 62 = .ok (.aload_n 0, 1) := by decide +kernel
theorem dX6_put_63 : decode cX6_put 63 = .ok (.getfield 132, 3) := by decide +kernel
theorem dX6_put_66 : decode cX6_put 66 = .ok (.isub, 1) := by decide +kernel
theorem dX6_put_67 : decode cX6_put 67 = .ok (.putfield 59, 3) := by decide +kernel
theorem dX6_put_70 : decode cX6_put 70 = .ok (.aload_n 0, 1) := by decide +kernel
theorem dX6_put_71 : decode cX6_put 71 = .ok (.getfield 16, 3) := by decide +kernel
theorem dX6_put_74 : decode cX6_put 74 = .ok (.iload_n 1, 1) := by decide +kernel
theorem dX6_put_75 : decode cX6_put 75 = .ok (.aload_n 0, 1) := by decide +kernel
theorem dX6_put_76 : decode cX6_put 76 = .ok (.getfield 59, 3) := by decide +kernel
theorem dX6_put_79 : decode cX6_put 79 = .ok (.iastore, 1) := by decide +kernel
theorem dX6_put_80 : decode cX6_put 80 = .ok (.goto 16, 3) := by decide +kernel
theorem dX6_put_83 : decode cX6_put 83 = .ok (.aload_n 0, 1) := by decide +kernel
theorem dX6_put_84 : decode cX6_put 84 = .ok (.dup, 1) := by decide +kernel
theorem dX6_put_85 : decode cX6_put 85 = .ok (.getfield 55, 3) := by decide +kernel
theorem dX6_put_88 : decode cX6_put 88 = .ok (.aload_n 0, 1) := by decide +kernel
theorem dX6_put_89 : decode cX6_put 89 = .ok (.getfield 132, 3) := by decide +kernel
theorem dX6_put_92 : decode cX6_put 92 = .ok (.iadd, 1) := by decide +kernel
theorem dX6_put_93 : decode cX6_put 93 = .ok (.putfield 55, 3) := by decide +kernel
theorem dX6_put_96 : decode cX6_put 96 = .ok (.aload_n 0, 1) := by decide +kernel
theorem dX6_put_97 : decode cX6_put 97 = .ok (.getfield 25, 3) := by decide +kernel
theorem dX6_put_100 : decode cX6_put 100 = .ok (.iconst 0, 1) := by decide +kernel
theorem dX6_put_101 : decode cX6_put 101 = .ok (.aload_n 0, 1) := by decide +kernel
theorem dX6_put_102 : decode cX6_put 102 = .ok (.getfield 12, 3) := by decide +kernel
theorem dX6_put_105 : decode cX6_put 105 = .ok (.aload_n 0, 1) := by decide +kernel
theorem dX6_put_106 : decode cX6_put 106 = .ok (.getfield 16, 3) := by decide +kernel
theorem dX6_put_109 : decode cX6_put 109 = .ok (.iload_n 1, 1) := by decide +kernel
theorem dX6_put_110 : decode cX6_put 110 = .ok (.iaload, 1) := by decide +kernel
theorem dX6_put_111 : decode cX6_put 111 = .ok (.aload_n 0, 1) := by decide +kernel
theorem dX6_put_112 : decode cX6_put 112 = .ok (.getfield 132, 3) := by decide +kernel
theorem dX6_put_115 : decode cX6_put 115 = .ok (.invokestatic 135, 3) := by decide +kernel
theorem dX6_put_118 : decode cX6_put 118 = .ok (.iconst 1, 1) := by decide +kernel
theorem dX6_put_119 : decode cX6_put 119 = .ok (.ireturn, 1) := by decide +kernel
theorem dX6_isStatement_0 : decode cX6_isStatement 0 = .ok (.aload_n 0, 1) := by decide +kernel
theorem dX6_isStatement_1 : decode cX6_isStatement 1 = .ok (.getfield 19, 3) := by decide +kernel
theorem dX6_isStatement_4 : decode cX6_isStatement 4 = .ok (.iload_n 1, 1) := by decide +kernel
theorem dX6_isStatement_5 : decode cX6_isStatement 5 = .ok (.iaload, 1) := by decide +kernel
theorem dX6_isStatement_6 : decode cX6_isStatement 6 = .ok (.aload_n 0, 1) := by decide +kernel
theorem dX6_isStatement_7 : decode cX6_isStatement 7 = .ok (.getfield 43, 3) := by decide +kernel
theorem dX6_isStatement_10 : decode cX6_isStatement 10 = .ok (.iload_n 2, 1) := by decide +kernel
theorem dX6_isStatement_11 : decode cX6_isStatement 11 = .ok (.invokevirtual 141, 3) := by decide +kernel
theorem dX6_isStatement_14 : decode cX6_isStatement 14 = .ok (.if_icmp .eq 5, 3) := by decide +kernel
theorem dX6_isStatement_17 : decode cX6_isStatement 17 = .ok (.iconst 0, 1) := by decide +kernel
theorem dX6_isStatement_18 : decode cX6_isStatement 18 = .ok (.ireturn, 1) := by decide +kernel
theorem dX6_isStatement_19 : decode cX6_isStatement 19 = .ok (.iconst 0, 1) := by decide +kernel
theorem dX6_isStatement_20 : decode cX6_isStatement 20 = .ok (.istore_n 3, 1) := by decide +kernel
theorem dX6_isStatement_21 : decode cX6_isStatement 21 = .ok (.iload_n 3, 1) := by decide +kernel
theorem dX6_isStatement_22 : decode cX6_isStatement 22 = .ok (.aload_n 0, 1) := by decide +kernel
theorem dX6_isStatement_23 : decode cX6_isStatement 23 = .ok (.getfield 19, 3) := by decide +kernel
theorem dX6_isStatement_26 : decode cX6_isStatement 26 = .ok (.iload_n 1, 1) := by decide +kernel
theorem dX6_isStatement_27 : decode cX6_isStatement 27 = .ok (.iaload, 1) := by decide +kernel
theorem dX6_isStatement_28 : decode cX6_isStatement 28 = .ok (.if_icmp .ge 46, 3) := by decide +kernel
theorem dX6_isStatement_31 : decode cX6_isStatement 31 = .ok (.aload_n 0, 1) := by decide +kernel
theorem dX6_isStatement_32 : decode cX6_isStatement 32 = .ok (.getfield 12, 3) := by decide +kernel
theorem dX6_isStatement_35 : decode cX6_isStatement 35 = .ok (.aload_n 0, 1) := by decide +kernel
theorem dX6_isStatement_36 : decode cX6_isStatement 36 = .ok (.getfield 16, 3) := by decide +kernel
theorem dX6_isStatement_39 : decode cX6_isStatement 39 = .ok (.iload_n 1, 1) := by decide +kernel
theorem dX6_isStatement_40 : decode cX6_isStatement 40 = .ok (.iaload, 1) := by decide +kernel
theorem dX6_isStatement_41 : decode cX6_isStatement 41 = .ok (.iload_n 3, 1) := by decide +kernel
theorem dX6_isStatement_42 : decode cX6_isStatement 42 = .ok (.iadd, 1) := by decide +kernel
theorem dX6_isStatement_43 : decode cX6_isStatement 43 = .ok (.iaload, 1) := by decide +kernel
theorem dX6_isStatement_44 : decode cX6_isStatement 44 = .ok (.aload_n 0, 1) := by decide +kernel
theorem dX6_isStatement_45 : decode cX6_isStatement 45 = .ok (.getfield 43, 3) := by decide +kernel
theorem dX6_isStatement_48 : decode cX6_isStatement 48 = .ok (.getfield 93, 3) := by decide +kernel
theorem dX6_isStatement_51 : decode cX6_isStatement 51 = .ok (.aload_n 0, 1) := by decide +kernel
theorem dX6_isStatement_52 : decode cX6_isStatement 52 = .ok (.getfield 43, 3) := by decide +kernel
theorem dX6_isStatement_55 : decode cX6_isStatement 55 = .ok (.getfield 92, 3) := by decide +kernel
theorem dX6_isStatement_58 : decode cX6_isStatement 58 = .ok (.iload_n 2, 1) := by decide +kernel
theorem dX6_isStatement_59 : decode cX6_isStatement 59 = .ok (.iaload, 1) := by decide +kernel
theorem dX6_isStatement_60 : decode cX6_isStatement 60 = .ok (.iload_n 3, 1) := by decide +kernel
theorem dX6_isStatement_61 : decode cX6_isStatement 61 = .ok (.iadd, 1) := by decide +kernel
theorem dX6_isStatement_62 : decode cX6_isStatement 62 = .ok (.iaload, 1) := by decide +kernel
theorem dX6_isStatement_63 : decode cX6_isStatement 63 = .ok (.if_icmp .eq 5, 3) := by decide +kernel
theorem dX6_isStatement_66 : decode cX6_isStatement 66 = .ok (.iconst 0, 1) := by decide +kernel
theorem dX6_isStatement_67 : decode cX6_isStatement 67 = .ok (.ireturn, 1) := by decide +kernel
theorem dX6_isStatement_68 : decode cX6_isStatement 68 = .ok (.iinc 3 1, 3) := by decide +kernel
theorem dX6_isStatement_71 : decode cX6_isStatement 71 = .ok (.goto (-50), 3) := by decide +kernel
theorem dX6_isStatement_74 : decode cX6_isStatement 74 = .ok (.iconst 1, 1) := by decide +kernel
theorem dX6_isStatement_75 : decode cX6_isStatement 75 = .ok (.ireturn, 1) := by decide +kernel
theorem dX6_goAgain_0 : decode cX6_goAgain 0 = .ok (.aload_n 0, 1) := by decide +kernel
theorem dX6_goAgain_1 : decode cX6_goAgain 1 = .ok (.invokevirtual 144, 3) := by decide +kernel
theorem dX6_goAgain_4 : decode cX6_goAgain 4 = .ok (.aload_n 0, 1) := by decide +kernel
theorem dX6_goAgain_5 : decode cX6_goAgain 5 = .ok (.getfield 47, 3) := by decide +kernel
theorem dX6_goAgain_8 : decode cX6_goAgain 8 = .ok (.getfield 147, 3) := by decide +kernel
theorem dX6_goAgain_11 : decode cX6_goAgain 11 = .ok (.iload_n 1, 1) := by decide +kernel
theorem dX6_goAgain_12 : decode cX6_goAgain 12 = .ok (.iaload, 1) := by decide +kernel
theorem dX6_goAgain_13 : decode cX6_goAgain 13 = .ok (.istore_n 3, 1) := by decide +kernel
theorem dX6_goAgain_14 : decode cX6_goAgain 14 = .ok (.iload_n 3, 1) := by decide +kernel
theorem dX6_goAgain_15 : decode cX6_goAgain 15 = .ok (.aload_n 0, 1) := by decide +kernel
theorem dX6_goAgain_16 : decode cX6_goAgain 16 = .ok (.getfield 47, 3) := by decide +kernel
theorem dX6_goAgain_19 : decode cX6_goAgain 19 = .ok (.getfield 150, 3) := by decide +kernel
theorem dX6_goAgain_22 : decode cX6_goAgain 22 = .ok (.iload_n 1, 1) := by decide +kernel
theorem dX6_goAgain_23 : decode cX6_goAgain 23 = .ok (.iaload, 1) := by decide +kernel
theorem dX6_goAgain_24 : decode cX6_goAgain 24 = .ok (.iadd, 1) := by decide +kernel
theorem dX6_goAgain_25 : decode cX6_goAgain 25 = .ok (.istore 4, 2) := by decide +kernel
theorem dX6_goAgain_27 : decode cX6_goAgain 27 = .ok (.aload_n 0, 1) := by decide +kernel
theorem dX6_goAgain_28 : decode cX6_goAgain 28 = .ok (.getfield 22, 3) := by decide +kernel
theorem dX6_goAgain_31 : decode cX6_goAgain 31 = .ok (.iconst 0, 1) := by decide +kernel
theorem dX6_goAgain_32 : decode cX6_goAgain 32 = .ok (.iload 4, 2) := by decide +kernel
theorem dX6_goAgain_34 : decode cX6_goAgain 34 = .ok (.iload_n 3, 1) := by decide +kernel
theorem dX6_goAgain_35 : decode cX6_goAgain 35 = .ok (.isub, 1) := by decide +kernel
theorem dX6_goAgain_36 : decode cX6_goAgain 36 = .ok (.iconst 0, 1) := by decide +kernel
theorem dX6_goAgain_37 : decode cX6_goAgain 37 = .ok (.invokestatic 153, 3) := by decide +kernel
theorem dX6_goAgain_40 : decode cX6_goAgain 40 = .ok (.aload_n 0, 1) := by decide +kernel
theorem dX6_goAgain_41 : decode cX6_goAgain 41 = .ok (.getfield 47, 3) := by decide +kernel
theorem dX6_goAgain_44 : decode cX6_goAgain 44 = .ok (.getfield 159, 3) := by decide +kernel
theorem dX6_goAgain_47 : decode cX6_goAgain 47 = .ok (.iload_n 3, 1) := by decide +kernel
theorem dX6_goAgain_48 : decode cX6_goAgain 48 = .ok (.iaload, 1) := by decide +kernel
theorem dX6_goAgain_49 : decode cX6_goAgain 49 = .ok (.istore 5, 2) := by decide +kernel
theorem dX6_goAgain_51 : decode cX6_goAgain 51 = .ok (.iload 5, 2) := by decide +kernel
theorem dX6_goAgain_53 : decode cX6_goAgain 53 = .ok (.aload_n 0, 1) := by decide +kernel
theorem dX6_goAgain_54 : decode cX6_goAgain 54 = .ok (.getfield 47, 3) := by decide +kernel
theorem dX6_goAgain_57 : decode cX6_goAgain 57 = .ok (.getfield 159, 3) := by decide +kernel
theorem dX6_goAgain_60 : decode cX6_goAgain 60 = .ok (.iload 4, 2) := by decide +kernel
theorem dX6_goAgain_62 : decode cX6_goAgain 62 = .ok (.iaload, 1) := by decide +kernel
theorem dX6_goAgain_63 : decode cX6_goAgain 63 = .ok (.if_icmp .ge 28, 3) := by decide +kernel
theorem dX6_goAgain_66 : decode cX6_goAgain 66 = .ok (.aload_n 0, 1) := by decide +kernel
theorem dX6_goAgain_67 : decode cX6_goAgain 67 = .ok (.getfield 22, 3) := by decide +kernel
theorem dX6_goAgain_70 : decode cX6_goAgain 70 = .ok (.aload_n 0, 1) := by decide +kernel
theorem dX6_goAgain_71 : decode cX6_goAgain 71 = .ok (.getfield 47, 3) := by decide +kernel
theorem dX6_goAgain_74 : decode cX6_goAgain 74 = .ok (.getfield 73, 3) := by decide +kernel
theorem dX6_goAgain_77 : decode cX6_goAgain 77 = .ok (.iload 5, 2) := by decide +kernel
theorem dX6_goAgain_79 : decode cX6_goAgain 79 = .ok (.iaload, 1) := by decide +kernel
theorem dX6_goAgain_80 : decode cX6_goAgain 80 = .ok (.dup2, 1) := by decide +kernel
theorem dX6_goAgain_81 : decode cX6_goAgain 81 = .ok (.iaload, 1) := by decide +kernel
theorem dX6_goAgain_82 : decode cX6_goAgain 82 = .ok (.iconst 1, 1) := by decide +kernel
theorem dX6_goAgain_83 : decode cX6_goAgain 83 = .ok (.iadd, 1) := by decide +kernel
theorem dX6_goAgain_84 : decode cX6_goAgain 84 = .ok (.iastore, 1) := by decide +kernel
theorem dX6_goAgain_85 : decode cX6_goAgain 85 = .ok (.iinc 5 1, 3) := by decide +kernel
theorem dX6_goAgain_88 : decode cX6_goAgain 88 = .ok (.goto (-37), 3) := by decide +kernel
theorem dX6_goAgain_91 : decode cX6_goAgain 91 = .ok (.iconst 0, 1) := by decide +kernel
theorem dX6_goAgain_92 : decode cX6_goAgain 92 = .ok (.istore 5, 2) := by decide +kernel
theorem dX6_goAgain_94 : decode cX6_goAgain 94 = .ok (.iload 5, 2) := by decide +kernel
theorem dX6_goAgain_96 : decode cX6_goAgain 96 = .ok (.iload_n 2, 1) := by decide +kernel
theorem dX6_goAgain_97 : decode cX6_goAgain 97 = .ok (.if_icmp .gt 126, 3) := by decide +kernel
theorem dX6_goAgain_100 : decode cX6_goAgain 100 = .ok (.aload_n 0, 1) := by decide +kernel
theorem dX6_goAgain_101 : decode cX6_goAgain 101 = .ok (.getfield 47, 3) := by decide +kernel
theorem dX6_goAgain_104 : decode cX6_goAgain 104 = .ok (.getfield 162, 3) := by decide +kernel
theorem dX6_goAgain_107 : decode cX6_goAgain 107 = .ok (.iload_n 3, 1) := by decide +kernel
theorem dX6_goAgain_108 : decode cX6_goAgain 108 = .ok (.iload 5, 2) := by decide +kernel
theorem dX6_goAgain_110 : decode cX6_goAgain 110 = .ok (.iadd, 1) := by decide +kernel
theorem dX6_goAgain_111 : decode cX6_goAgain 111 = .ok (.iaload, 1) := by decide +kernel
theorem dX6_goAgain_112 : decode cX6_goAgain 112 = .ok (.istore 6, 2) := by decide +kernel
theorem dX6_goAgain_114 : decode cX6_goAgain 114 = .ok (.aload_n 0, 1) := by decide +kernel
theorem dX6_goAgain_115 : decode cX6_goAgain 115 = .ok (.getfield 47, 3) := by decide +kernel
theorem dX6_goAgain_118 : decode cX6_goAgain 118 = .ok (.getfield 159, 3) := by decide +kernel
theorem dX6_goAgain_121 : decode cX6_goAgain 121 = .ok (.iload_n 3, 1) := by decide +kernel
theorem dX6_goAgain_122 : decode cX6_goAgain 122 = .ok (.iload 5, 2) := by decide +kernel
theorem dX6_goAgain_124 : decode cX6_goAgain 124 = .ok (.iadd, 1) := by decide +kernel
theorem dX6_goAgain_125 : decode cX6_goAgain 125 = .ok (.iaload, 1) := by decide +kernel
theorem dX6_goAgain_126 : decode cX6_goAgain 126 = .ok (.istore 7, 2) := by decide +kernel
theorem dX6_goAgain_128 : decode cX6_goAgain 128 = .ok (.aload_n 0, 1) := by decide +kernel
theorem dX6_goAgain_129 : decode cX6_goAgain 129 = .ok (.getfield 43, 3) := by decide +kernel
theorem dX6_goAgain_132 : decode cX6_goAgain 132 = .ok (.getfield 76, 3) := by decide +kernel
theorem dX6_goAgain_135 : decode cX6_goAgain 135 = .ok (.iload 6, 2) := by decide +kernel
theorem dX6_goAgain_137 : decode cX6_goAgain 137 = .ok (.iaload, 1) := by decide +kernel
theorem dX6_goAgain_138 : decode cX6_goAgain 138 = .ok (.iconst 2, 1) := by decide +kernel
theorem dX6_goAgain_139 : decode cX6_goAgain 139 = .ok (.if_icmp .ge 12, 3) := by decide +kernel
theorem dX6_goAgain_142 : decode cX6_goAgain 142 = .ok (.aload_n 0, 1) := by decide +kernel
theorem dX6_goAgain_143 : decode cX6_goAgain 143 = .ok (.iload 6, 2) := by decide +kernel
theorem dX6_goAgain_145 : decode cX6_goAgain 145 = .ok (.invokevirtual 165, 3) := by decide +kernel
theorem dX6_goAgain_148 : decode cX6_goAgain 148 = .ok (.goto 25, 3) := by decide +kernel
theorem dX6_goAgain_151 : decode cX6_goAgain 151 = .ok (.aload_n 0, 1) := by decide +kernel
theorem dX6_goAgain_152 : decode cX6_goAgain 152 = .ok (.iload 6, 2) := by decide +kernel
theorem dX6_goAgain_154 : decode cX6_goAgain 154 = .ok (.iload 7, 2) := by decide +kernel
theorem dX6_goAgain_156 : decode cX6_goAgain 156 = .ok (.invokevirtual 169, 3) := by decide +kernel
theorem dX6_goAgain_159 : decode cX6_goAgain 159 = .ok (.ifCond .eq 12, 3) := by decide +kernel
theorem dX6_goAgain_162 : decode cX6_goAgain 162 = .ok (.aload_n 0, 1) := by decide +kernel
theorem dX6_goAgain_163 : decode cX6_goAgain 163 = .ok (.iload 6, 2) := by decide +kernel
theorem dX6_goAgain_165 : decode cX6_goAgain 165 = .ok (.invokevirtual 172, 3) := by decide +kernel
theorem dX6_goAgain_168 : decode cX6_goAgain 168 = .ok (.ifCond .ne 5, 3) := by decide +kernel
theorem dX6_goAgain_171 : decode cX6_goAgain 171 = .ok (.iconst 0, 1) := by decide +kernel
theorem dX6_goAgain_172 : decode cX6_goAgain 172 = .ok (.ireturn, 1) := by decide +kernel
theorem dX6_goAgain_173 : decode cX6_goAgain 173 = .ok (.aload_n 0, 1) := by decide +kernel
theorem dX6_goAgain_174 : decode cX6_goAgain 174 = .ok (.iload 7, 2) := by decide +kernel
theorem dX6_goAgain_176 : decode cX6_goAgain 176 = .ok (.aload_n 0, 1) := by decide +kernel
theorem dX6_goAgain_177 : decode cX6_goAgain 177 = .ok (.getfield 47, 3) := by decide +kernel
theorem dX6_goAgain_180 : decode cX6_goAgain 180 = .ok (.iload_n 3, 1) := by decide +kernel
theorem dX6_goAgain_181 : decode cX6_goAgain 181 = .ok (.iload 5, 2) := by decide +kernel
theorem dX6_goAgain_183 : decode cX6_goAgain 183 = .ok (.iadd, 1) := by decide +kernel
theorem dX6_goAgain_184 : decode cX6_goAgain 184 = .ok (.invokevirtual 176, 3) := by decide +kernel
theorem dX6_goAgain_187 : decode cX6_goAgain 187 = .ok (.invokevirtual 179, 3) := by decide +kernel
theorem dX6_goAgain_190 : decode cX6_goAgain 190 = .ok (.aload_n 0, 1) := by decide +kernel
theorem dX6_goAgain_191 : decode cX6_goAgain 191 = .ok (.iload 5, 2) := by decide +kernel
theorem dX6_goAgain_193 : decode cX6_goAgain 193 = .ok (.aload_n 0, 1) := by decide +kernel
theorem dX6_goAgain_194 : decode cX6_goAgain 194 = .ok (.getfield 22, 3) := by decide +kernel
theorem dX6_goAgain_197 : decode cX6_goAgain 197 = .ok (.iload 5, 2) := by decide +kernel
theorem dX6_goAgain_199 : decode cX6_goAgain 199 = .ok (.iaload, 1) := by decide +kernel
theorem dX6_goAgain_200 : decode cX6_goAgain 200 = .ok (.iconst 1, 1) := by decide +kernel
theorem dX6_goAgain_201 : decode cX6_goAgain 201 = .ok (.if_icmp .le 7, 3) := by decide +kernel
theorem dX6_goAgain_204 : decode cX6_goAgain 204 = .ok (.iconst 1, 1) := by decide +kernel
theorem dX6_goAgain_205 : decode cX6_goAgain 205 = .ok (.goto 4, 3) := by decide +kernel
theorem dX6_goAgain_208 : decode cX6_goAgain 208 = .ok (.iconst 0, 1) := by decide +kernel
theorem dX6_goAgain_209 : decode cX6_goAgain 209 = .ok (.invokevirtual 183, 3) := by decide +kernel
theorem dX6_goAgain_212 : decode cX6_goAgain 212 = .ok (.ifCond .ne 5, 3) := by decide +kernel
theorem dX6_goAgain_215 : decode cX6_goAgain 215 = .ok (.iconst 0, 1) := by decide +kernel
theorem dX6_goAgain_216 : decode cX6_goAgain 216 = .ok (.ireturn, 1) := by decide +kernel
theorem dX6_goAgain_217 : decode cX6_goAgain 217 = .ok (.iinc 5 1, 3) := by decide +kernel
theorem dX6_goAgain_220 : decode cX6_goAgain 220 = .ok (.goto (-126), 3) := by decide +kernel
theorem dX6_goAgain_223 : decode cX6_goAgain 223 = .ok (.iconst 1, 1) := by decide +kernel
theorem dX6_goAgain_224 : decode cX6_goAgain 224 = .ok (.ireturn, 1) := by decide +kernel
theorem dX10_init_0 : decode cX10_init 0 = .ok (.aload_n 0, 1) := by decide +kernel
theorem dX10_init_1 : decode cX10_init 1 = .ok (.invokespecial 3, 3) := by decide +kernel
theorem dX10_init_4 : decode cX10_init 4 = .ok (.aload_n 0, 1) := by decide +kernel
theorem dX10_init_5 : decode cX10_init 5 = .ok (.sipush 20000, 3) := by decide +kernel
theorem dX10_init_8 : decode cX10_init 8 = .ok (.newarray .int, 2) := by decide +kernel
theorem dX10_init_10 : decode cX10_init 10 = .ok (.putfield 9, 3) := by decide +kernel
theorem dX10_init_13 : decode cX10_init 13 = .ok (.aload_n 0, 1) := by decide +kernel
theorem dX10_init_14 : decode cX10_init 14 = .ok (.sipush 20000, 3) := by decide +kernel
theorem dX10_init_17 : decode cX10_init 17 = .ok (.newarray .int, 2) := by decide +kernel
theorem dX10_init_19 : decode cX10_init 19 = .ok (.putfield 15, 3) := by decide +kernel
theorem dX10_init_22 : decode cX10_init 22 = .ok (.aload_n 0, 1) := by decide +kernel
theorem dX10_init_23 : decode cX10_init 23 = .ok (.sipush 300, 3) := by decide +kernel
theorem dX10_init_26 : decode cX10_init 26 = .ok (.newarray .int, 2) := by decide +kernel
theorem dX10_init_28 : decode cX10_init 28 = .ok (.putfield 18, 3) := by decide +kernel
theorem dX10_init_31 : decode cX10_init 31 = .ok (.aload_n 0, 1) := by decide +kernel
theorem dX10_init_32 : decode cX10_init 32 = .ok (.sipush 200, 3) := by decide +kernel
theorem dX10_init_35 : decode cX10_init 35 = .ok (.newarray .int, 2) := by decide +kernel
theorem dX10_init_37 : decode cX10_init 37 = .ok (.putfield 21, 3) := by decide +kernel
theorem dX10_init_40 : decode cX10_init 40 = .ok (.aload_n 0, 1) := by decide +kernel
theorem dX10_init_41 : decode cX10_init 41 = .ok (.sipush 300, 3) := by decide +kernel
theorem dX10_init_44 : decode cX10_init 44 = .ok (.newarray .int, 2) := by decide +kernel
theorem dX10_init_46 : decode cX10_init 46 = .ok (.putfield 24, 3) := by decide +kernel
theorem dX10_init_49 : decode cX10_init 49 = .ok (.aload_n 0, 1) := by decide +kernel
theorem dX10_init_50 : decode cX10_init 50 = .ok (.aload_n 1, 1) := by decide +kernel
theorem dX10_init_51 : decode cX10_init 51 = .ok (.putfield 27, 3) := by decide +kernel
theorem dX10_init_54 : decode cX10_init 54 = .ok (.aload_n 0, 1) := by decide +kernel
theorem dX10_init_55 : decode cX10_init 55 = .ok (.aload_n 2, 1) := by decide +kernel
theorem dX10_init_56 : decode cX10_init 56 = .ok (.putfield 31, 3) := by decide +kernel
theorem dX10_init_59 : decode cX10_init 59 = .ok (.aload_n 0, 1) := by decide +kernel
theorem dX10_init_60 : decode cX10_init 60 = .ok (.aload_n 3, 1) := by decide +kernel
theorem dX10_init_61 : decode cX10_init 61 = .ok (.putfield 35, 3) := by decide +kernel
theorem dX10_init_64 : decode cX10_init 64 = .ok (.aload_n 0, 1) := by decide +kernel
theorem dX10_init_65 : decode cX10_init 65 = .ok (.aload 4, 2) := by decide +kernel
theorem dX10_init_67 : decode cX10_init 67 = .ok (.putfield 39, 3) := by decide +kernel
theorem dX10_init_70 : decode cX10_init 70 = .ok (.return_, 1) := by decide +kernel
theorem dX10_begin_0 : decode cX10_begin 0 = .ok (.aload_n 0, 1) := by decide +kernel
theorem dX10_begin_1 : decode cX10_begin 1 = .ok (.iload_n 1, 1) := by decide +kernel
theorem dX10_begin_2 : decode cX10_begin 2 = .ok (.putfield 43, 3) := by decide +kernel
theorem dX10_begin_5 : decode cX10_begin 5 = .ok (.aload_n 0, 1) := by decide +kernel
theorem dX10_begin_6 : decode cX10_begin 6 = .ok (.iconst 0, 1) := by decide +kernel
theorem dX10_begin_7 : decode cX10_begin 7 = .ok (.putfield 47, 3) := by decide +kernel
theorem dX10_begin_10 : decode cX10_begin 10 = .ok (.aload_n 0, 1) := by decide +kernel
theorem dX10_begin_11 : decode cX10_begin 11 = .ok (.iconst 0, 1) := by decide +kernel
theorem dX10_begin_12 : decode cX10_begin 12 = .ok (.putfield 50, 3) := by decide +kernel
theorem dX10_begin_15 : decode cX10_begin 15 = .ok (.aload_n 0, 1) := by decide +kernel
theorem dX10_begin_16 : decode cX10_begin 16 = .ok (.iconst 0, 1) := by decide +kernel
theorem dX10_begin_17 : decode cX10_begin 17 = .ok (.putfield 53, 3) := by decide +kernel
theorem dX10_begin_20 : decode cX10_begin 20 = .ok (.aload_n 0, 1) := by decide +kernel
theorem dX10_begin_21 : decode cX10_begin 21 = .ok (.iconst 0, 1) := by decide +kernel
theorem dX10_begin_22 : decode cX10_begin 22 = .ok (.putfield 56, 3) := by decide +kernel
theorem dX10_begin_25 : decode cX10_begin 25 = .ok (.aload_n 0, 1) := by decide +kernel
theorem dX10_begin_26 : decode cX10_begin 26 = .ok (.iconst 0, 1) := by decide +kernel
theorem dX10_begin_27 : decode cX10_begin 27 = .ok (.putfield 59, 3) := by decide +kernel
theorem dX10_begin_30 : decode cX10_begin 30 = .ok (.aload_n 0, 1) := by decide +kernel
theorem dX10_begin_31 : decode cX10_begin 31 = .ok (.iconst 0, 1) := by decide +kernel
theorem dX10_begin_32 : decode cX10_begin 32 = .ok (.putfield 62, 3) := by decide +kernel
theorem dX10_begin_35 : decode cX10_begin 35 = .ok (.aload_n 0, 1) := by decide +kernel
theorem dX10_begin_36 : decode cX10_begin 36 = .ok (.iconst 0, 1) := by decide +kernel
theorem dX10_begin_37 : decode cX10_begin 37 = .ok (.putfield 66, 3) := by decide +kernel
theorem dX10_begin_40 : decode cX10_begin 40 = .ok (.return_, 1) := by decide +kernel
theorem dX10_isListing_0 : decode cX10_isListing 0 = .ok (.aload_n 0, 1) := by decide +kernel
theorem dX10_isListing_1 : decode cX10_isListing 1 = .ok (.getfield 47, 3) := by decide +kernel
theorem dX10_isListing_4 : decode cX10_isListing 4 = .ok (.iconst 2, 1) := by decide +kernel
theorem dX10_isListing_5 : decode cX10_isListing 5 = .ok (.if_icmp .ne 7, 3) := by decide +kernel
theorem dX10_isListing_8 : decode cX10_isListing 8 = .ok (.iconst 1, 1) := by decide +kernel
theorem dX10_isListing_9 : decode cX10_isListing 9 = .ok (.goto 4, 3) := by decide +kernel
theorem dX10_isListing_12 : decode cX10_isListing 12 = .ok (.iconst 0, 1) := by decide +kernel
theorem dX10_isListing_13 : decode cX10_isListing 13 = .ok (.ireturn, 1) := by decide +kernel
theorem dX10_isWithinNumber_0 : decode cX10_isWithinNumber 0 = .ok (.aload_n 0, 1) := by decide +kernel
theorem dX10_isWithinNumber_1 : decode cX10_isWithinNumber 1 = .ok (.getfield 59, 3) := by decide +kernel
theorem dX10_isWithinNumber_4 : decode cX10_isWithinNumber 4 = .ok (.ifCond .le 7, 3) := by decide +kernel
theorem dX10_isWithinNumber_7 : decode cX10_isWithinNumber 7 = .ok (.iconst 1, 1) := by decide +kernel
theorem dX10_isWithinNumber_8 : decode cX10_isWithinNumber 8 = .ok (.goto 4, 3) := by decide +kernel
theorem dX10_isWithinNumber_11 : decode cX10_isWithinNumber 11 = .ok (.iconst 0, 1) := by decide +kernel
theorem dX10_isWithinNumber_12 : decode cX10_isWithinNumber 12 = .ok (.ireturn, 1) := by decide +kernel
theorem dX10_isFull_0 : decode cX10_isFull 0 = .ok (.aload_n 0, 1) := by decide +kernel
theorem dX10_isFull_1 : decode cX10_isFull 1 = .ok (.getfield 31, 3) := by decide +kernel
theorem dX10_isFull_4 : decode cX10_isFull 4 = .ok (.getfield 69, 3) := by decide +kernel
theorem dX10_isFull_7 : decode cX10_isFull 7 = .ok (.aload_n 0, 1) := by decide +kernel
theorem dX10_isFull_8 : decode cX10_isFull 8 = .ok (.getfield 50, 3) := by decide +kernel
theorem dX10_isFull_11 : decode cX10_isFull 11 = .ok (.iadd, 1) := by decide +kernel
theorem dX10_isFull_12 : decode cX10_isFull 12 = .ok (.sipush 20000, 3) := by decide +kernel
theorem dX10_isFull_15 : decode cX10_isFull 15 = .ok (.if_icmp .lt 7, 3) := by decide +kernel
theorem dX10_isFull_18 : decode cX10_isFull 18 = .ok (.iconst 1, 1) := by decide +kernel
theorem dX10_isFull_19 : decode cX10_isFull 19 = .ok (.goto 4, 3) := by decide +kernel
theorem dX10_isFull_22 : decode cX10_isFull 22 = .ok (.iconst 0, 1) := by decide +kernel
theorem dX10_isFull_23 : decode cX10_isFull 23 = .ok (.ireturn, 1) := by decide +kernel
theorem dX10_word_0 : decode cX10_word 0 = .ok (.aload_n 0, 1) := by decide +kernel
theorem dX10_word_1 : decode cX10_word 1 = .ok (.iload_n 2, 1) := by decide +kernel
theorem dX10_word_2 : decode cX10_word 2 = .ok (.putfield 73, 3) := by decide +kernel
theorem dX10_word_5 : decode cX10_word 5 = .ok (.aload_n 0, 1) := by decide +kernel
theorem dX10_word_6 : decode cX10_word 6 = .ok (.getfield 47, 3) := by decide +kernel
theorem dX10_word_9 : decode cX10_word 9 = .ok (.ifCond .ne 33, 3) := by decide +kernel
theorem dX10_word_12 : decode cX10_word 12 = .ok (.aload_n 0, 1) := by decide +kernel
theorem dX10_word_13 : decode cX10_word 13 = .ok (.aload_n 1, 1) := by decide +kernel
theorem dX10_word_14 : decode cX10_word 14 = .ok (.iload_n 2, 1) := by decide +kernel
theorem dX10_word_15 : decode cX10_word 15 = .ok (.iload_n 3, 1) := by decide +kernel
theorem dX10_word_16 : decode cX10_word 16 = .ok (.bipush 40, 2) := by decide +kernel
theorem dX10_word_18 : decode cX10_word 18 = .ok (.invokestatic 76, 3) := by decide +kernel
theorem dX10_word_21 : decode cX10_word 21 = .ok (.ifCond .eq 7, 3) := by decide +kernel
theorem dX10_word_24 : decode cX10_word 24 = .ok (.iconst 2, 1) := by decide +kernel
theorem dX10_word_25 : decode cX10_word 25 = .ok (.goto 4, 3) := by decide +kernel
theorem dX10_word_28 : decode cX10_word 28 = .ok (.iconst 1, 1) := by decide +kernel
theorem dX10_word_29 : decode cX10_word 29 = .ok (.putfield 47, 3) := by decide +kernel
theorem dX10_word_32 : decode cX10_word 32 = .ok (.aload_n 0, 1) := by decide +kernel
theorem dX10_word_33 : decode cX10_word 33 = .ok (.getfield 47, 3) := by decide +kernel
theorem dX10_word_36 : decode cX10_word 36 = .ok (.iconst 2, 1) := by decide +kernel
theorem dX10_word_37 : decode cX10_word 37 = .ok (.if_icmp .ne 5, 3) := by decide +kernel
theorem dX10_word_40 : decode cX10_word 40 = .ok (.iconst 0, 1) := by decide +kernel
theorem dX10_word_41 : decode cX10_word 41 = .ok (.ireturn, 1) := by decide +kernel
theorem dX10_word_42 : decode cX10_word 42 = .ok (.aload_n 0, 1) := by decide +kernel
theorem dX10_word_43 : decode cX10_word 43 = .ok (.getfield 47, 3) := by decide +kernel
theorem dX10_word_46 : decode cX10_word 46 = .ok (.iconst 1, 1) := by decide +kernel
theorem dX10_word_47 : decode cX10_word 47 = .ok (.if_icmp .ne 13, 3) := by decide +kernel
theorem dX10_word_50 : decode cX10_word 50 = .ok (.aload_n 0, 1) := by decide +kernel
theorem dX10_word_51 : decode cX10_word 51 = .ok (.aload_n 1, 1) := by decide +kernel
theorem dX10_word_52 : decode cX10_word 52 = .ok (.iload_n 2, 1) := by decide +kernel
theorem dX10_word_53 : decode cX10_word 53 = .ok (.iload_n 3, 1) := by decide +kernel
theorem dX10_word_54 : decode cX10_word 54 = .ok (.iload 4, 2) := by decide +kernel
theorem dX10_word_56 : decode cX10_word 56 = .ok (.invokevirtual 80, 3) := by decide +kernel
theorem dX10_word_59 : decode cX10_word 59 = .ok (.ireturn, 1) := by decide +kernel
theorem dX10_word_60 : decode cX10_word 60 = .ok (.aload_n 0, 1) := by decide +kernel
theorem dX10_word_61 : decode cX10_word 61 = .ok (.getfield 47, 3) := by decide +kernel
theorem dX10_word_64 : decode cX10_word 64 = .ok (.iconst 2, 1) := by decide +kernel
theorem dX10_word_65 : decode cX10_word 65 = .ok (.if_icmp .ne 15, 3) := by decide +kernel
theorem dX10_word_68 : decode cX10_word 68 = .ok (.aload_n 0, 1) := by decide +kernel
theorem dX10_word_69 : decode cX10_word 69 = .ok (.aload_n 1, 1) := by decide +kernel
theorem dX10_word_70 : decode cX10_word 70 = .ok (.iload_n 2, 1) := by decide +kernel
theorem dX10_word_71 : decode cX10_word 71 = .ok (.iload_n 3, 1) := by decide +kernel
theorem dX10_word_72 : decode cX10_word 72 = .ok (.iload 4, 2) := by decide +kernel
theorem dX10_word_74 : decode cX10_word 74 = .ok (.invokevirtual 84, 3) := by decide +kernel
theorem dX10_word_77 : decode cX10_word 77 = .ok (.goto 10, 3) := by decide +kernel
theorem dX10_word_80 : decode cX10_word 80 = .ok (.aload_n 0, 1) := by decide +kernel
theorem dX10_word_81 : decode cX10_word 81 = .ok (.aload_n 1, 1) := by decide +kernel
theorem dX10_word_82 : decode cX10_word 82 = .ok (.iload_n 2, 1) := by decide +kernel
theorem dX10_word_83 : decode cX10_word 83 = .ok (.iload_n 3, 1) := by decide +kernel
theorem dX10_word_84 : decode cX10_word 84 = .ok (.invokevirtual 87, 3) := by decide +kernel
theorem dX10_word_87 : decode cX10_word 87 = .ok (.ireturn, 1) := by decide +kernel
theorem dX10_isOne_0 : decode cX10_isOne 0 = .ok (.iload_n 2, 1) := by decide +kernel
theorem dX10_isOne_1 : decode cX10_isOne 1 = .ok (.iconst 1, 1) := by decide +kernel
theorem dX10_isOne_2 : decode cX10_isOne 2 = .ok (.if_icmp .ne 14, 3) := by decide +kernel
theorem dX10_isOne_5 : decode cX10_isOne 5 = .ok (.aload_n 0, 1) := by decide +kernel
theorem dX10_isOne_6 : decode cX10_isOne 6 = .ok (.iload_n 1, 1) := by decide +kernel
theorem dX10_isOne_7 : decode cX10_isOne 7 = .ok (.caload, 1) := by decide +kernel
theorem dX10_isOne_8 : decode cX10_isOne 8 = .ok (.iload_n 3, 1) := by decide +kernel
theorem dX10_isOne_9 : decode cX10_isOne 9 = .ok (.if_icmp .ne 7, 3) := by decide +kernel
theorem dX10_isOne_12 : decode cX10_isOne 12 = .ok (.iconst 1, 1) := by decide +kernel
theorem dX10_isOne_13 : decode cX10_isOne 13 = .ok (.goto 4, 3) := by decide +kernel
theorem dX10_isOne_16 : decode cX10_isOne 16 = .ok (.iconst 0, 1) := by decide +kernel
theorem dX10_isOne_17 : decode cX10_isOne 17 = .ok (.ireturn, 1) := by decide +kernel
theorem dX10_plainStep_0 : decode cX10_plainStep 0 = .ok (.aload_n 1, 1) := by decide +kernel
theorem dX10_plainStep_1 : decode cX10_plainStep 1 = .ok (.iload_n 2, 1) := by decide +kernel
theorem dX10_plainStep_2 : decode cX10_plainStep 2 = .ok (.iload_n 3, 1) := by decide +kernel
theorem dX10_plainStep_3 : decode cX10_plainStep 3 = .ok (.bipush 63, 2) := by decide +kernel
theorem dX10_plainStep_5 : decode cX10_plainStep 5 = .ok (.invokestatic 76, 3) := by decide +kernel
theorem dX10_plainStep_8 : decode cX10_plainStep 8 = .ok (.ifCond .eq 10, 3) := by decide +kernel
theorem dX10_plainStep_11 : decode cX10_plainStep 11 = .ok (.aload_n 0, 1) := by decide +kernel
theorem dX10_plainStep_12 : decode cX10_plainStep 12 = .ok (.iconst 1, 1) := by decide +kernel
theorem dX10_plainStep_13 : decode cX10_plainStep 13 = .ok (.putfield 66, 3) := by decide +kernel
theorem dX10_plainStep_16 : decode cX10_plainStep 16 = .ok (.iconst 0, 1) := by decide +kernel
theorem dX10_plainStep_17 : decode cX10_plainStep 17 = .ok (.ireturn, 1) := by decide +kernel
theorem dX10_plainStep_18 : decode cX10_plainStep 18 = .ok (.aload_n 0, 1) := by decide +kernel
theorem dX10_plainStep_19 : decode cX10_plainStep 19 = .ok (.invokevirtual 91, 3) := by decide +kernel
theorem dX10_plainStep_22 : decode cX10_plainStep 22 = .ok (.ifCond .eq 14, 3) := by decide +kernel
theorem dX10_plainStep_25 : decode cX10_plainStep 25 = .ok (.aload_n 1, 1) := by decide +kernel
theorem dX10_plainStep_26 : decode cX10_plainStep 26 = .ok (.iload_n 2, 1) := by decide +kernel
theorem dX10_plainStep_27 : decode cX10_plainStep 27 = .ok (.iload_n 3, 1) := by decide +kernel
theorem dX10_plainStep_28 : decode cX10_plainStep 28 = .ok (.invokestatic 95, 3) := by decide +kernel
theorem dX10_plainStep_31 : decode cX10_plainStep 31 = .ok (.ifCond .eq 5, 3) := by decide +kernel
theorem dX10_plainStep_34 : decode cX10_plainStep 34 = .ok (.iconst 5, 1) := by decide +kernel
theorem dX10_plainStep_35 : decode cX10_plainStep 35 = .ok (.ireturn, 1) := by decide +kernel
theorem dX10_plainStep_36 : decode cX10_plainStep 36 = .ok (.aload_n 0, 1) := by decide +kernel
theorem dX10_plainStep_37 : decode cX10_plainStep 37 = .ok (.iload 4, 2) := by decide +kernel
theorem dX10_plainStep_39 : decode cX10_plainStep 39 = .ok (.invokevirtual 99, 3) := by decide +kernel
theorem dX10_plainStep_42 : decode cX10_plainStep 42 = .ok (.ifCond .ne 6, 3) := by decide +kernel
theorem dX10_plainStep_45 : decode cX10_plainStep 45 = .ok (.bipush 13, 2) := by decide +kernel
theorem dX10_plainStep_47 : decode cX10_plainStep 47 = .ok (.ireturn, 1) := by decide +kernel
theorem dX10_plainStep_48 : decode cX10_plainStep 48 = .ok (.aload_n 0, 1) := by decide +kernel
theorem dX10_plainStep_49 : decode cX10_plainStep 49 = .ok (.iload 4, 2) := by decide +kernel
theorem dX10_plainStep_51 : decode cX10_plainStep 51 = .ok (.invokevirtual 103, 3) := by decide +kernel
theorem dX10_plainStep_54 : decode cX10_plainStep 54 = .ok (.iconst 0, 1) := by decide +kernel
theorem dX10_plainStep_55 : decode cX10_plainStep 55 = .ok (.ireturn, 1) := by decide +kernel
theorem dX10_isUsable_0 : decode cX10_isUsable 0 = .ok (.iload_n 1, 1) := by decide +kernel
theorem dX10_isUsable_1 : decode cX10_isUsable 1 = .ok (.iconst (-1), 1) := by decide +kernel
theorem dX10_isUsable_2 : decode cX10_isUsable 2 = .ok (.if_icmp .eq 40, 3) := by decide +kernel
theorem dX10_isUsable_5 : decode cX10_isUsable 5 = .ok (.iload_n 1, 1) := by decide +kernel
theorem dX10_isUsable_6 : decode cX10_isUsable 6 = .ok (.aload_n 0, 1) := by decide +kernel
theorem dX10_isUsable_7 : decode cX10_isUsable 7 = .ok (.getfield 43, 3) := by decide +kernel
theorem dX10_isUsable_10 : decode cX10_isUsable 10 = .ok (.if_icmp .ge 32, 3) := by decide +kernel
theorem dX10_isUsable_13 : decode cX10_isUsable 13 = .ok (.aload_n 0, 1) := by decide +kernel
theorem dX10_isUsable_14 : decode cX10_isUsable 14 = .ok (.getfield 27, 3) := by decide +kernel
theorem dX10_isUsable_17 : decode cX10_isUsable 17 = .ok (.getfield 107, 3) := by decide +kernel
theorem dX10_isUsable_20 : decode cX10_isUsable 20 = .ok (.iload_n 1, 1) := by decide +kernel
theorem dX10_isUsable_21 : decode cX10_isUsable 21 = .ok (.iaload, 1) := by decide +kernel
theorem dX10_isUsable_22 : decode cX10_isUsable 22 = .ok (.iconst 2, 1) := by decide +kernel
theorem dX10_isUsable_23 : decode cX10_isUsable 23 = .ok (.if_icmp .ge 15, 3) := by decide +kernel
theorem dX10_isUsable_26 : decode cX10_isUsable 26 = .ok (.aload_n 0, 1) := by decide +kernel
theorem dX10_isUsable_27 : decode cX10_isUsable 27 = .ok (.getfield 35, 3) := by decide +kernel
theorem dX10_isUsable_30 : decode cX10_isUsable 30 = .ok (.getfield 112, 3) := by decide +kernel
theorem dX10_isUsable_33 : decode cX10_isUsable 33 = .ok (.iload_n 1, 1) := by decide +kernel
theorem dX10_isUsable_34 : decode cX10_isUsable 34 = .ok (.baload, 1) := by decide +kernel
theorem dX10_isUsable_35 : decode cX10_isUsable 35 = .ok (.ifCond .eq 7, 3) := by decide +kernel
theorem dX10_isUsable_38 : decode cX10_isUsable 38 = .ok (.iconst 1, 1) := by decide +kernel
theorem dX10_isUsable_39 : decode cX10_isUsable 39 = .ok (.goto 4, 3) := by decide +kernel
theorem dX10_isUsable_42 : decode cX10_isUsable 42 = .ok (.iconst 0, 1) := by decide +kernel
theorem dX10_isUsable_43 : decode cX10_isUsable 43 = .ok (.ireturn, 1) := by decide +kernel
theorem dX10_addStep_0 : decode cX10_addStep 0 = .ok (.aload_n 0, 1) := by decide +kernel
theorem dX10_addStep_1 : decode cX10_addStep 1 = .ok (.getfield 9, 3) := by decide +kernel
theorem dX10_addStep_4 : decode cX10_addStep 4 = .ok (.aload_n 0, 1) := by decide +kernel
theorem dX10_addStep_5 : decode cX10_addStep 5 = .ok (.getfield 50, 3) := by decide +kernel
theorem dX10_addStep_8 : decode cX10_addStep 8 = .ok (.iload_n 1, 1) := by decide +kernel
theorem dX10_addStep_9 : decode cX10_addStep 9 = .ok (.iastore, 1) := by decide +kernel
theorem dX10_addStep_10 : decode cX10_addStep 10 = .ok (.aload_n 0, 1) := by decide +kernel
theorem dX10_addStep_11 : decode cX10_addStep 11 = .ok (.getfield 15, 3) := by decide +kernel
theorem dX10_addStep_14 : decode cX10_addStep 14 = .ok (.aload_n 0, 1) := by decide +kernel
theorem dX10_addStep_15 : decode cX10_addStep 15 = .ok (.getfield 50, 3) := by decide +kernel
theorem dX10_addStep_18 : decode cX10_addStep 18 = .ok (.aload_n 0, 1) := by decide +kernel
theorem dX10_addStep_19 : decode cX10_addStep 19 = .ok (.getfield 73, 3) := by decide +kernel
theorem dX10_addStep_22 : decode cX10_addStep 22 = .ok (.iastore, 1) := by decide +kernel
theorem dX10_addStep_23 : decode cX10_addStep 23 = .ok (.aload_n 0, 1) := by decide +kernel
theorem dX10_addStep_24 : decode cX10_addStep 24 = .ok (.dup, 1) := by decide +kernel
theorem dX10_addStep_25 : decode cX10_addStep 25 = .ok (.getfield 50, 3) := by decide +kernel
theorem dX10_addStep_28 : decode cX10_addStep 28 = .ok (.iconst 1, 1) := by decide +kernel
theorem dX10_addStep_29 : decode cX10_addStep 29 = .ok (.iadd, 1) := by decide +kernel
theorem dX10_addStep_30 : decode cX10_addStep 30 = .ok (.putfield 50, 3) := by decide +kernel
theorem dX10_addStep_33 : decode cX10_addStep 33 = .ok (.return_, 1) := by decide +kernel
theorem dX10_listLabel_0 : decode cX10_listLabel 0 = .ok (.aload_n 1, 1) := by decide +kernel
theorem dX10_listLabel_1 : decode cX10_listLabel 1 = .ok (.iload_n 2, 1) := by decide +kernel
theorem dX10_listLabel_2 : decode cX10_listLabel 2 = .ok (.iload_n 3, 1) := by decide +kernel
theorem dX10_listLabel_3 : decode cX10_listLabel 3 = .ok (.bipush 41, 2) := by decide +kernel
theorem dX10_listLabel_5 : decode cX10_listLabel 5 = .ok (.invokestatic 76, 3) := by decide +kernel
theorem dX10_listLabel_8 : decode cX10_listLabel 8 = .ok (.ifCond .eq 10, 3) := by decide +kernel
theorem dX10_listLabel_11 : decode cX10_listLabel 11 = .ok (.aload_n 0, 1) := by decide +kernel
theorem dX10_listLabel_12 : decode cX10_listLabel 12 = .ok (.iconst 3, 1) := by decide +kernel
theorem dX10_listLabel_13 : decode cX10_listLabel 13 = .ok (.putfield 47, 3) := by decide +kernel
theorem dX10_listLabel_16 : decode cX10_listLabel 16 = .ok (.iconst 0, 1) := by decide +kernel
theorem dX10_listLabel_17 : decode cX10_listLabel 17 = .ok (.ireturn, 1) := by decide +kernel
theorem dX10_listLabel_18 : decode cX10_listLabel 18 = .ok (.aload_n 0, 1) := by decide +kernel
theorem dX10_listLabel_19 : decode cX10_listLabel 19 = .ok (.getfield 53, 3) := by decide +kernel
theorem dX10_listLabel_22 : decode cX10_listLabel 22 = .ok (.sipush 300, 3) := by decide +kernel
theorem dX10_listLabel_25 : decode cX10_listLabel 25 = .ok (.if_icmp .ne 14, 3) := by decide +kernel
theorem dX10_listLabel_28 : decode cX10_listLabel 28 = .ok (.aload_n 1, 1) := by decide +kernel
theorem dX10_listLabel_29 : decode cX10_listLabel 29 = .ok (.iload_n 2, 1) := by decide +kernel
theorem dX10_listLabel_30 : decode cX10_listLabel 30 = .ok (.iload_n 3, 1) := by decide +kernel
theorem dX10_listLabel_31 : decode cX10_listLabel 31 = .ok (.invokestatic 95, 3) := by decide +kernel
theorem dX10_listLabel_34 : decode cX10_listLabel 34 = .ok (.ifCond .eq 5, 3) := by decide +kernel
theorem dX10_listLabel_37 : decode cX10_listLabel 37 = .ok (.iconst 5, 1) := by decide +kernel
theorem dX10_listLabel_38 : decode cX10_listLabel 38 = .ok (.ireturn, 1) := by decide +kernel
theorem dX10_listLabel_39 : decode cX10_listLabel 39 = .ok (.aload_n 0, 1) := by decide +kernel
theorem dX10_listLabel_40 : decode cX10_listLabel 40 = .ok (.iload 4, 2) := by decide +kernel
theorem dX10_listLabel_42 : decode cX10_listLabel 42 = .ok (.invokevirtual 99, 3) := by decide +kernel
theorem dX10_listLabel_45 : decode cX10_listLabel 45 = .ok (.ifCond .ne 6, 3) := by decide +kernel
theorem dX10_listLabel_48 : decode cX10_listLabel 48 = .ok (.bipush 13, 2) := by decide +kernel
theorem dX10_listLabel_50 : decode cX10_listLabel 50 = .ok (.ireturn, 1) := by decide +kernel
theorem dX10_listLabel_51 : decode cX10_listLabel 51 = .ok (.aload_n 0, 1) := by decide +kernel
theorem dX10_listLabel_52 : decode cX10_listLabel 52 = .ok (.getfield 31, 3) := by decide +kernel
theorem dX10_listLabel_55 : decode cX10_listLabel 55 = .ok (.aload_n 0, 1) := by decide +kernel
theorem dX10_listLabel_56 : decode cX10_listLabel 56 = .ok (.getfield 43, 3) := by decide +kernel
theorem dX10_listLabel_59 : decode cX10_listLabel 59 = .ok (.iload 4, 2) := by decide +kernel
theorem dX10_listLabel_61 : decode cX10_listLabel 61 = .ok (.invokevirtual 118, 3) := by decide +kernel
theorem dX10_listLabel_64 : decode cX10_listLabel 64 = .ok (.iconst (-1), 1) := by decide +kernel
theorem dX10_listLabel_65 : decode cX10_listLabel 65 = .ok (.if_icmp .ne 12, 3) := by decide +kernel
theorem dX10_listLabel_68 : decode cX10_listLabel 68 = .ok (.aload_n 0, 1) := by decide +kernel
theorem dX10_listLabel_69 : decode cX10_listLabel 69 = .ok (.iload 4, 2) := by decide +kernel
theorem dX10_listLabel_71 : decode cX10_listLabel 71 = .ok (.invokevirtual 122, 3) := by decide +kernel
theorem dX10_listLabel_74 : decode cX10_listLabel 74 = .ok (.ifCond .eq 6, 3) := by decide +kernel
theorem dX10_listLabel_77 : decode cX10_listLabel 77 = .ok (.bipush 14, 2) := by decide +kernel
theorem dX10_listLabel_79 : decode cX10_listLabel 79 = .ok (.ireturn, 1) := by decide +kernel
theorem dX10_listLabel_80 : decode cX10_listLabel 80 = .ok (.aload_n 0, 1) := by decide +kernel
theorem dX10_listLabel_81 : decode cX10_listLabel 81 = .ok (.getfield 18, 3) := by decide +kernel
theorem dX10_listLabel_84 : decode cX10_listLabel 84 = .ok (.aload_n 0, 1) := by decide +kernel
theorem dX10_listLabel_85 : decode cX10_listLabel 85 = .ok (.getfield 53, 3) := by decide +kernel
theorem dX10_listLabel_88 : decode cX10_listLabel 88 = .ok (.iload 4, 2) := by decide +kernel
theorem dX10_listLabel_90 : decode cX10_listLabel 90 = .ok (.iastore, 1) := by decide +kernel
theorem dX10_listLabel_91 : decode cX10_listLabel 91 = .ok (.aload_n 0, 1) := by decide +kernel
theorem dX10_listLabel_92 : decode cX10_listLabel 92 = .ok (.dup, 1) := by decide +kernel
theorem dX10_listLabel_93 : decode cX10_listLabel 93 = .ok (.getfield 53, 3) := by decide +kernel
theorem dX10_listLabel_96 : decode cX10_listLabel 96 = .ok (.iconst 1, 1) := by decide +kernel
theorem dX10_listLabel_97 : decode cX10_listLabel 97 = .ok (.iadd, 1) := by decide +kernel
theorem dX10_listLabel_98 : decode cX10_listLabel 98 = .ok (.putfield 53, 3) := by decide +kernel
theorem dX10_listLabel_101 : decode cX10_listLabel 101 = .ok (.iconst 0, 1) := by decide +kernel
theorem dX10_listLabel_102 : decode cX10_listLabel 102 = .ok (.ireturn, 1) := by decide +kernel
theorem dX10_isListed_0 : decode cX10_isListed 0 = .ok (.iconst 0, 1) := by decide +kernel
theorem dX10_isListed_1 : decode cX10_isListed 1 = .ok (.istore_n 2, 1) := by decide +kernel
theorem dX10_isListed_2 : decode cX10_isListed 2 = .ok (.iload_n 2, 1) := by decide +kernel
theorem dX10_isListed_3 : decode cX10_isListed 3 = .ok (.aload_n 0, 1) := by decide +kernel
theorem dX10_isListed_4 : decode cX10_isListed 4 = .ok (.getfield 53, 3) := by decide +kernel
theorem dX10_isListed_7 : decode cX10_isListed 7 = .ok (.if_icmp .ge 21, 3) := by decide +kernel
theorem dX10_isListed_10 : decode cX10_isListed 10 = .ok (.aload_n 0, 1) := by decide +kernel
theorem dX10_isListed_11 : decode cX10_isListed 11 = .ok (.getfield 18, 3) := by decide +kernel
theorem dX10_isListed_14 : decode cX10_isListed 14 = .ok (.iload_n 2, 1) := by decide +kernel
theorem dX10_isListed_15 : decode cX10_isListed 15 = .ok (.iaload, 1) := by decide +kernel
theorem dX10_isListed_16 : decode cX10_isListed 16 = .ok (.iload_n 1, 1) := by decide +kernel
theorem dX10_isListed_17 : decode cX10_isListed 17 = .ok (.if_icmp .ne 5, 3) := by decide +kernel
theorem dX10_isListed_20 : decode cX10_isListed 20 = .ok (.iconst 1, 1) := by decide +kernel
theorem dX10_isListed_21 : decode cX10_isListed 21 = .ok (.ireturn, 1) := by decide +kernel
theorem dX10_isListed_22 : decode cX10_isListed 22 = .ok (.iinc 2 1, 3) := by decide +kernel
theorem dX10_isListed_25 : decode cX10_isListed 25 = .ok (.goto (-23), 3) := by decide +kernel
theorem dX10_isListed_28 : decode cX10_isListed 28 = .ok (.iconst 0, 1) := by decide +kernel
theorem dX10_isListed_29 : decode cX10_isListed 29 = .ok (.ireturn, 1) := by decide +kernel
theorem dX10_letters_0 : decode cX10_letters 0 = .ok (.iconst 0, 1) := by decide +kernel
theorem dX10_letters_1 : decode cX10_letters 1 = .ok (.istore 4, 2) := by decide +kernel
theorem dX10_letters_3 : decode cX10_letters 3 = .ok (.iload_n 2, 1) := by decide +kernel
theorem dX10_letters_4 : decode cX10_letters 4 = .ok (.istore 5, 2) := by decide +kernel
theorem dX10_letters_6 : decode cX10_letters 6 = .ok (.iload 5, 2) := by decide +kernel
theorem dX10_letters_8 : decode cX10_letters 8 = .ok (.iload_n 2, 1) := by decide +kernel
theorem dX10_letters_9 : decode cX10_letters 9 = .ok (.iload_n 3, 1) := by decide +kernel
theorem dX10_letters_10 : decode cX10_letters 10 = .ok (.iadd, 1) := by decide +kernel
theorem dX10_letters_11 : decode cX10_letters 11 = .ok (.if_icmp .ge 30, 3) := by decide +kernel
theorem dX10_letters_14 : decode cX10_letters 14 = .ok (.iload 4, 2) := by decide +kernel
theorem dX10_letters_16 : decode cX10_letters 16 = .ok (.ifCond .ne 25, 3) := by decide +kernel
theorem dX10_letters_19 : decode cX10_letters 19 = .ok (.aload_n 0, 1) := by decide +kernel
theorem dX10_letters_20 : decode cX10_letters 20 = .ok (.iload 5, 2) := by decide +kernel
theorem dX10_letters_22 : decode cX10_letters 22 = .ok (.putfield 73, 3) := by decide +kernel
theorem dX10_letters_25 : decode cX10_letters 25 = .ok (.aload_n 0, 1) := by decide +kernel
theorem dX10_letters_26 : decode cX10_letters 26 = .ok (.aload_n 1, 1) := by decide +kernel
theorem dX10_letters_27 : decode cX10_letters 27 = .ok (.iload 5, 2) := by decide +kernel
theorem dX10_letters_29 : decode cX10_letters 29 = .ok (.caload, 1) := by decide +kernel
theorem dX10_letters_30 : decode cX10_letters 30 = .ok (.invokevirtual 125, 3) := by decide +kernel
theorem dX10_letters_33 : decode cX10_letters 33 = .ok (.istore 4, 2) := by decide +kernel
theorem dX10_letters_35 : decode cX10_letters 35 = .ok (.iinc 5 1, 3) := by decide +kernel
theorem dX10_letters_38 : decode cX10_letters 38 = .ok (.goto (-32), 3) := by decide +kernel
theorem dX10_letters_41 : decode cX10_letters 41 = .ok (.iload 4, 2) := by decide +kernel
theorem dX10_letters_43 : decode cX10_letters 43 = .ok (.ireturn, 1) := by decide +kernel
theorem dX10_letter_0 : decode cX10_letter 0 = .ok (.iload_n 1, 1) := by decide +kernel
theorem dX10_letter_1 : decode cX10_letter 1 = .ok (.bipush 90, 2) := by decide +kernel
theorem dX10_letter_3 : decode cX10_letter 3 = .ok (.if_icmp .ne 8, 3) := by decide +kernel
theorem dX10_letter_6 : decode cX10_letter 6 = .ok (.aload_n 0, 1) := by decide +kernel
theorem dX10_letter_7 : decode cX10_letter 7 = .ok (.invokevirtual 129, 3) := by decide +kernel
theorem dX10_letter_10 : decode cX10_letter 10 = .ok (.ireturn, 1) := by decide +kernel
theorem dX10_letter_11 : decode cX10_letter 11 = .ok (.aload_n 0, 1) := by decide +kernel
theorem dX10_letter_12 : decode cX10_letter 12 = .ok (.getfield 62, 3) := by decide +kernel
theorem dX10_letter_15 : decode cX10_letter 15 = .ok (.istore_n 2, 1) := by decide +kernel
theorem dX10_letter_16 : decode cX10_letter 16 = .ok (.aload_n 0, 1) := by decide +kernel
theorem dX10_letter_17 : decode cX10_letter 17 = .ok (.iconst 0, 1) := by decide +kernel
theorem dX10_letter_18 : decode cX10_letter 18 = .ok (.putfield 62, 3) := by decide +kernel
theorem dX10_letter_21 : decode cX10_letter 21 = .ok (.iload_n 1, 1) := by decide +kernel
theorem dX10_letter_22 : decode cX10_letter 22 = .ok (.bipush 65, 2) := by decide +kernel
theorem dX10_letter_24 : decode cX10_letter 24 = .ok (.if_icmp .lt 28, 3) := by decide +kernel
theorem dX10_letter_27 : decode cX10_letter 27 = .ok (.iload_n 1, 1) := by decide +kernel
theorem dX10_letter_28 : decode cX10_letter 28 = .ok (.bipush 84, 2) := by decide +kernel
theorem dX10_letter_30 : decode cX10_letter 30 = .ok (.if_icmp .gt 22, 3) := by decide +kernel
theorem dX10_letter_33 : decode cX10_letter 33 = .ok (.aload_n 0, 1) := by decide +kernel
theorem dX10_letter_34 : decode cX10_letter 34 = .ok (.aload_n 0, 1) := by decide +kernel
theorem dX10_letter_35 : decode cX10_letter 35 = .ok (.getfield 59, 3) := by decide +kernel
theorem dX10_letter_38 : decode cX10_letter 38 = .ok (.bipush 20, 2) := by decide +kernel
theorem dX10_letter_40 : decode cX10_letter 40 = .ok (.imul, 1) := by decide +kernel
theorem dX10_letter_41 : decode cX10_letter 41 = .ok (.iload_n 1, 1) := by decide +kernel
theorem dX10_letter_42 : decode cX10_letter 42 = .ok (.iadd, 1) := by decide +kernel
theorem dX10_letter_43 : decode cX10_letter 43 = .ok (.bipush 65, 2) := by decide +kernel
theorem dX10_letter_45 : decode cX10_letter 45 = .ok (.isub, 1) := by decide +kernel
theorem dX10_letter_46 : decode cX10_letter 46 = .ok (.iconst 1, 1) := by decide +kernel
theorem dX10_letter_47 : decode cX10_letter 47 = .ok (.iadd, 1) := by decide +kernel
theorem dX10_letter_48 : decode cX10_letter 48 = .ok (.invokevirtual 133, 3) := by decide +kernel
theorem dX10_letter_51 : decode cX10_letter 51 = .ok (.ireturn, 1) := by decide +kernel
theorem dX10_letter_52 : decode cX10_letter 52 = .ok (.iload_n 1, 1) := by decide +kernel
theorem dX10_letter_53 : decode cX10_letter 53 = .ok (.bipush 85, 2) := by decide +kernel
theorem dX10_letter_55 : decode cX10_letter 55 = .ok (.if_icmp .lt 41, 3) := by decide +kernel
theorem dX10_letter_58 : decode cX10_letter 58 = .ok (.iload_n 1, 1) := by decide +kernel
theorem dX10_letter_59 : decode cX10_letter 59 = .ok (.bipush 89, 2) := by decide +kernel
theorem dX10_letter_61 : decode cX10_letter 61 = .ok (.if_icmp .gt 35, 3) := by decide +kernel
theorem dX10_letter_64 : decode cX10_letter 64 = .ok (.aload_n 0, 1) := by decide +kernel
theorem dX10_letter_65 : decode cX10_letter 65 = .ok (.aload_n 0, 1) := by decide +kernel
theorem dX10_letter_66 : decode cX10_letter 66 = .ok (.getfield 59, 3) := by decide +kernel
theorem dX10_letter_69 : decode cX10_letter 69 = .ok (.iconst 5, 1) := by decide +kernel
theorem dX10_letter_70 : decode cX10_letter 70 = .ok (.imul, 1) := by decide +kernel
theorem dX10_letter_71 : decode cX10_letter 71 = .ok (.iload_n 1, 1) := by decide +kernel
theorem dX10_letter_72 : decode cX10_letter 72 = .ok (.iadd, 1) := by decide +kernel
theorem dX10_letter_73 : decode cX10_letter 73 = .ok (.bipush 85, 2) := by decide +kernel
theorem dX10_letter_75 : decode cX10_letter 75 = .ok (.isub, 1) := by decide +kernel
theorem dX10_letter_76 : decode cX10_letter 76 = .ok (.iconst 1, 1) := by decide +kernel
theorem dX10_letter_77 : decode cX10_letter 77 = .ok (.iadd, 1) := by decide +kernel
theorem dX10_letter_78 : decode cX10_letter 78 = .ok (.putfield 59, 3) := by decide +kernel
theorem dX10_letter_81 : decode cX10_letter 81 = .ok (.aload_n 0, 1) := by decide +kernel
theorem dX10_letter_82 : decode cX10_letter 82 = .ok (.getfield 59, 3) := by decide +kernel
theorem dX10_letter_85 : decode cX10_letter 85 = .ok (.ldc 136, 2) := by decide +kernel
theorem dX10_letter_87 : decode cX10_letter 87 = .ok (.if_icmp .le 7, 3) := by decide +kernel
theorem dX10_letter_90 : decode cX10_letter 90 = .ok (.iconst 5, 1) := by decide +kernel
theorem dX10_letter_91 : decode cX10_letter 91 = .ok (.goto 4, 3) := by decide +kernel
theorem dX10_letter_94 : decode cX10_letter 94 = .ok (.iconst 0, 1) := by decide +kernel
theorem dX10_letter_95 : decode cX10_letter 95 = .ok (.ireturn, 1) := by decide +kernel
theorem dX10_letter_96 : decode cX10_letter 96 = .ok (.iload_n 1, 1) := by decide +kernel
theorem dX10_letter_97 : decode cX10_letter 97 = .ok (.bipush 63, 2) := by decide +kernel
theorem dX10_letter_99 : decode cX10_letter 99 = .ok (.if_icmp .ne 17, 3) := by decide +kernel
theorem dX10_letter_102 : decode cX10_letter 102 = .ok (.aload_n 0, 1) := by decide +kernel
theorem dX10_letter_103 : decode cX10_letter 103 = .ok (.getfield 59, 3) := by decide +kernel
theorem dX10_letter_106 : decode cX10_letter 106 = .ok (.ifCond .ne 10, 3) := by decide +kernel
theorem dX10_letter_109 : decode cX10_letter 109 = .ok (.aload_n 0, 1) := by decide +kernel
theorem dX10_letter_110 : decode cX10_letter 110 = .ok (.iconst 1, 1) := by decide +kernel
theorem dX10_letter_111 : decode cX10_letter 111 = .ok (.putfield 66, 3) := by decide +kernel
theorem dX10_letter_114 : decode cX10_letter 114 = .ok (.iconst 0, 1) := by decide +kernel
theorem dX10_letter_115 : decode cX10_letter 115 = .ok (.ireturn, 1) := by decide +kernel
theorem dX10_letter_116 : decode cX10_letter 116 = .ok (.bipush 14, 2) := by decide +kernel
theorem dX10_letter_118 : decode cX10_letter 118 = .ok (.ireturn, 1) := by decide +kernel
theorem dX10_save_0 : decode cX10_save 0 = .ok (.aload_n 0, 1) := by decide +kernel
theorem dX10_save_1 : decode cX10_save 1 = .ok (.getfield 62, 3) := by decide +kernel
theorem dX10_save_4 : decode cX10_save 4 = .ok (.ifCond .ne 6, 3) := by decide +kernel
theorem dX10_save_7 : decode cX10_save 7 = .ok (.bipush 14, 2) := by decide +kernel
theorem dX10_save_9 : decode cX10_save 9 = .ok (.ireturn, 1) := by decide +kernel
theorem dX10_save_10 : decode cX10_save 10 = .ok (.aload_n 0, 1) := by decide +kernel
theorem dX10_save_11 : decode cX10_save 11 = .ok (.getfield 56, 3) := by decide +kernel
theorem dX10_save_14 : decode cX10_save 14 = .ok (.sipush 300, 3) := by decide +kernel
theorem dX10_save_17 : decode cX10_save 17 = .ok (.if_icmp .ne 5, 3) := by decide +kernel
theorem dX10_save_20 : decode cX10_save 20 = .ok (.iconst 5, 1) := by decide +kernel
theorem dX10_save_21 : decode cX10_save 21 = .ok (.ireturn, 1) := by decide +kernel
theorem dX10_save_22 : decode cX10_save 22 = .ok (.aload_n 0, 1) := by decide +kernel
theorem dX10_save_23 : decode cX10_save 23 = .ok (.iconst 0, 1) := by decide +kernel
theorem dX10_save_24 : decode cX10_save 24 = .ok (.putfield 62, 3) := by decide +kernel
theorem dX10_save_27 : decode cX10_save 27 = .ok (.aload_n 0, 1) := by decide +kernel
theorem dX10_save_28 : decode cX10_save 28 = .ok (.getfield 9, 3) := by decide +kernel
theorem dX10_save_31 : decode cX10_save 31 = .ok (.aload_n 0, 1) := by decide +kernel
theorem dX10_save_32 : decode cX10_save 32 = .ok (.getfield 50, 3) := by decide +kernel
theorem dX10_save_35 : decode cX10_save 35 = .ok (.iconst 1, 1) := by decide +kernel
theorem dX10_save_36 : decode cX10_save 36 = .ok (.isub, 1) := by decide +kernel
theorem dX10_save_37 : decode cX10_save 37 = .ok (.dup2, 1) := by decide +kernel
theorem dX10_save_38 : decode cX10_save 38 = .ok (.iaload, 1) := by decide +kernel
theorem dX10_save_39 : decode cX10_save 39 = .ok (.ldc 137, 2) := by decide +kernel
theorem dX10_save_41 : decode cX10_save 41 = .ok (.ior, 1) := by decide +kernel
theorem dX10_save_42 : decode cX10_save 42 = .ok (.iastore, 1) := by decide +kernel
theorem dX10_save_43 : decode cX10_save 43 = .ok (.aload_n 0, 1) := by decide +kernel
theorem dX10_save_44 : decode cX10_save 44 = .ok (.dup, 1) := by decide +kernel
theorem dX10_save_45 : decode cX10_save 45 = .ok (.getfield 56, 3) := by decide +kernel
theorem dX10_save_48 : decode cX10_save 48 = .ok (.iconst 1, 1) := by decide +kernel
theorem dX10_save_49 : decode cX10_save 49 = .ok (.iadd, 1) := by decide +kernel
theorem dX10_save_50 : decode cX10_save 50 = .ok (.putfield 56, 3) := by decide +kernel
theorem dX10_save_53 : decode cX10_save 53 = .ok (.iconst 0, 1) := by decide +kernel
theorem dX10_save_54 : decode cX10_save 54 = .ok (.ireturn, 1) := by decide +kernel
theorem dX10_endNumber_0 : decode cX10_endNumber 0 = .ok (.aload_n 0, 1) := by decide +kernel
theorem dX10_endNumber_1 : decode cX10_endNumber 1 = .ok (.iconst 0, 1) := by decide +kernel
theorem dX10_endNumber_2 : decode cX10_endNumber 2 = .ok (.putfield 59, 3) := by decide +kernel
theorem dX10_endNumber_5 : decode cX10_endNumber 5 = .ok (.iload_n 1, 1) := by decide +kernel
theorem dX10_endNumber_6 : decode cX10_endNumber 6 = .ok (.ldc 136, 2) := by decide +kernel
theorem dX10_endNumber_8 : decode cX10_endNumber 8 = .ok (.if_icmp .gt 10, 3) := by decide +kernel
theorem dX10_endNumber_11 : decode cX10_endNumber 11 = .ok (.aload_n 0, 1) := by decide +kernel
theorem dX10_endNumber_12 : decode cX10_endNumber 12 = .ok (.invokevirtual 91, 3) := by decide +kernel
theorem dX10_endNumber_15 : decode cX10_endNumber 15 = .ok (.ifCond .eq 5, 3) := by decide +kernel
theorem dX10_endNumber_18 : decode cX10_endNumber 18 = .ok (.iconst 5, 1) := by decide +kernel
theorem dX10_endNumber_19 : decode cX10_endNumber 19 = .ok (.ireturn, 1) := by decide +kernel
theorem dX10_endNumber_20 : decode cX10_endNumber 20 = .ok (.aload_n 0, 1) := by decide +kernel
theorem dX10_endNumber_21 : decode cX10_endNumber 21 = .ok (.getfield 31, 3) := by decide +kernel
theorem dX10_endNumber_24 : decode cX10_endNumber 24 = .ok (.getfield 138, 3) := by decide +kernel
theorem dX10_endNumber_27 : decode cX10_endNumber 27 = .ok (.aload_n 0, 1) := by decide +kernel
theorem dX10_endNumber_28 : decode cX10_endNumber 28 = .ok (.getfield 43, 3) := by decide +kernel
theorem dX10_endNumber_31 : decode cX10_endNumber 31 = .ok (.iaload, 1) := by decide +kernel
theorem dX10_endNumber_32 : decode cX10_endNumber 32 = .ok (.istore_n 2, 1) := by decide +kernel
theorem dX10_endNumber_33 : decode cX10_endNumber 33 = .ok (.iload_n 1, 1) := by decide +kernel
theorem dX10_endNumber_34 : decode cX10_endNumber 34 = .ok (.iload_n 2, 1) := by decide +kernel
theorem dX10_endNumber_35 : decode cX10_endNumber 35 = .ok (.if_icmp .gt 34, 3) := by decide +kernel
theorem dX10_endNumber_38 : decode cX10_endNumber 38 = .ok (.aload_n 0, 1) := by decide +kernel
theorem dX10_endNumber_39 : decode cX10_endNumber 39 = .ok (.aload_n 0, 1) := by decide +kernel
theorem dX10_endNumber_40 : decode cX10_endNumber 40 = .ok (.getfield 31, 3) := by decide +kernel
theorem dX10_endNumber_43 : decode cX10_endNumber 43 = .ok (.getfield 141, 3) := by decide +kernel
theorem dX10_endNumber_46 : decode cX10_endNumber 46 = .ok (.aload_n 0, 1) := by decide +kernel
theorem dX10_endNumber_47 : decode cX10_endNumber 47 = .ok (.getfield 31, 3) := by decide +kernel
theorem dX10_endNumber_50 : decode cX10_endNumber 50 = .ok (.getfield 144, 3) := by decide +kernel
theorem dX10_endNumber_53 : decode cX10_endNumber 53 = .ok (.aload_n 0, 1) := by decide +kernel
theorem dX10_endNumber_54 : decode cX10_endNumber 54 = .ok (.getfield 43, 3) := by decide +kernel
theorem dX10_endNumber_57 : decode cX10_endNumber 57 = .ok (.iaload, 1) := by decide +kernel
theorem dX10_endNumber_58 : decode cX10_endNumber 58 = .ok (.iload_n 1, 1) := by decide +kernel
theorem dX10_endNumber_59 : decode cX10_endNumber 59 = .ok (.iadd, 1) := by decide +kernel
theorem dX10_endNumber_60 : decode cX10_endNumber 60 = .ok (.iconst 1, 1) := by decide +kernel
theorem dX10_endNumber_61 : decode cX10_endNumber 61 = .ok (.isub, 1) := by decide +kernel
theorem dX10_endNumber_62 : decode cX10_endNumber 62 = .ok (.iaload, 1) := by decide +kernel
theorem dX10_endNumber_63 : decode cX10_endNumber 63 = .ok (.invokevirtual 103, 3) := by decide +kernel
theorem dX10_endNumber_66 : decode cX10_endNumber 66 = .ok (.goto 91, 3) := by decide +kernel
theorem dX10_endNumber_69 : decode cX10_endNumber 69 = .ok (.iload_n 1, 1) := by decide +kernel
theorem dX10_endNumber_70 : decode cX10_endNumber 70 = .ok (.iload_n 2, 1) := by decide +kernel
theorem dX10_endNumber_71 : decode cX10_endNumber 71 = .ok (.aload_n 0, 1) := by decide +kernel
theorem dX10_endNumber_72 : decode cX10_endNumber 72 = .ok (.getfield 53, 3) := by decide +kernel
theorem dX10_endNumber_75 : decode cX10_endNumber 75 = .ok (.iadd, 1) := by decide +kernel
theorem dX10_endNumber_76 : decode cX10_endNumber 76 = .ok (.if_icmp .gt 44, 3) := by decide +kernel
theorem dX10_endNumber_79 : decode cX10_endNumber 79 = .ok (.aload_n 0, 1) := by decide +kernel
theorem dX10_endNumber_80 : decode cX10_endNumber 80 = .ok (.getfield 18, 3) := by decide +kernel
theorem dX10_endNumber_83 : decode cX10_endNumber 83 = .ok (.iload_n 1, 1) := by decide +kernel
theorem dX10_endNumber_84 : decode cX10_endNumber 84 = .ok (.iload_n 2, 1) := by decide +kernel
theorem dX10_endNumber_85 : decode cX10_endNumber 85 = .ok (.isub, 1) := by decide +kernel
theorem dX10_endNumber_86 : decode cX10_endNumber 86 = .ok (.iconst 1, 1) := by decide +kernel
theorem dX10_endNumber_87 : decode cX10_endNumber 87 = .ok (.isub, 1) := by decide +kernel
theorem dX10_endNumber_88 : decode cX10_endNumber 88 = .ok (.iaload, 1) := by decide +kernel
theorem dX10_endNumber_89 : decode cX10_endNumber 89 = .ok (.istore_n 3, 1) := by decide +kernel
theorem dX10_endNumber_90 : decode cX10_endNumber 90 = .ok (.aload_n 0, 1) := by decide +kernel
theorem dX10_endNumber_91 : decode cX10_endNumber 91 = .ok (.aload_n 0, 1) := by decide +kernel
theorem dX10_endNumber_92 : decode cX10_endNumber 92 = .ok (.getfield 27, 3) := by decide +kernel
theorem dX10_endNumber_95 : decode cX10_endNumber 95 = .ok (.getfield 107, 3) := by decide +kernel
theorem dX10_endNumber_98 : decode cX10_endNumber 98 = .ok (.iload_n 3, 1) := by decide +kernel
theorem dX10_endNumber_99 : decode cX10_endNumber 99 = .ok (.iaload, 1) := by decide +kernel
theorem dX10_endNumber_100 : decode cX10_endNumber 100 = .ok (.iconst 2, 1) := by decide +kernel
theorem dX10_endNumber_101 : decode cX10_endNumber 101 = .ok (.if_icmp .lt 7, 3) := by decide +kernel
theorem dX10_endNumber_104 : decode cX10_endNumber 104 = .ok (.iconst 1, 1) := by decide +kernel
theorem dX10_endNumber_105 : decode cX10_endNumber 105 = .ok (.goto 4, 3) := by decide +kernel
theorem dX10_endNumber_108 : decode cX10_endNumber 108 = .ok (.iconst 0, 1) := by decide +kernel
theorem dX10_endNumber_109 : decode cX10_endNumber 109 = .ok (.putfield 62, 3) := by decide +kernel
theorem dX10_endNumber_112 : decode cX10_endNumber 112 = .ok (.aload_n 0, 1) := by decide +kernel
theorem dX10_endNumber_113 : decode cX10_endNumber 113 = .ok (.iload_n 3, 1) := by decide +kernel
theorem dX10_endNumber_114 : decode cX10_endNumber 114 = .ok (.invokevirtual 103, 3) := by decide +kernel
theorem dX10_endNumber_117 : decode cX10_endNumber 117 = .ok (.goto 40, 3) := by decide +kernel
theorem dX10_endNumber_120 : decode cX10_endNumber 120 = .ok (.iload_n 1, 1) := by decide +kernel
theorem dX10_endNumber_121 : decode cX10_endNumber 121 = .ok (.iload_n 2, 1) := by decide +kernel
theorem dX10_endNumber_122 : decode cX10_endNumber 122 = .ok (.aload_n 0, 1) := by decide +kernel
theorem dX10_endNumber_123 : decode cX10_endNumber 123 = .ok (.getfield 53, 3) := by decide +kernel
theorem dX10_endNumber_126 : decode cX10_endNumber 126 = .ok (.iadd, 1) := by decide +kernel
theorem dX10_endNumber_127 : decode cX10_endNumber 127 = .ok (.aload_n 0, 1) := by decide +kernel
theorem dX10_endNumber_128 : decode cX10_endNumber 128 = .ok (.getfield 56, 3) := by decide +kernel
theorem dX10_endNumber_131 : decode cX10_endNumber 131 = .ok (.iadd, 1) := by decide +kernel
theorem dX10_endNumber_132 : decode cX10_endNumber 132 = .ok (.if_icmp .gt 22, 3) := by decide +kernel
theorem dX10_endNumber_135 : decode cX10_endNumber 135 = .ok (.aload_n 0, 1) := by decide +kernel
theorem dX10_endNumber_136 : decode cX10_endNumber 136 = .ok (.iload_n 1, 1) := by decide +kernel
theorem dX10_endNumber_137 : decode cX10_endNumber 137 = .ok (.iload_n 2, 1) := by decide +kernel
theorem dX10_endNumber_138 : decode cX10_endNumber 138 = .ok (.isub, 1) := by decide +kernel
theorem dX10_endNumber_139 : decode cX10_endNumber 139 = .ok (.aload_n 0, 1) := by decide +kernel
theorem dX10_endNumber_140 : decode cX10_endNumber 140 = .ok (.getfield 53, 3) := by decide +kernel
theorem dX10_endNumber_143 : decode cX10_endNumber 143 = .ok (.isub, 1) := by decide +kernel
theorem dX10_endNumber_144 : decode cX10_endNumber 144 = .ok (.iconst 1, 1) := by decide +kernel
theorem dX10_endNumber_145 : decode cX10_endNumber 145 = .ok (.isub, 1) := by decide +kernel
theorem dX10_endNumber_146 : decode cX10_endNumber 146 = .ok (.iconst (-1), 1) := by decide +kernel
theorem dX10_endNumber_147 : decode cX10_endNumber 147 = .ok (.ixor, 1) := by decide +kernel
theorem dX10_endNumber_148 : decode cX10_endNumber 148 = .ok (.invokevirtual 103, 3) := by decide +kernel
theorem dX10_endNumber_151 : decode cX10_endNumber 151 = .ok (.goto 6, 3) := by decide +kernel
theorem dX10_endNumber_154 : decode cX10_endNumber 154 = .ok (.bipush 14, 2) := by decide +kernel
theorem dX10_endNumber_156 : decode cX10_endNumber 156 = .ok (.ireturn, 1) := by decide +kernel
theorem dX10_endNumber_157 : decode cX10_endNumber 157 = .ok (.iconst 0, 1) := by decide +kernel
theorem dX10_endNumber_158 : decode cX10_endNumber 158 = .ok (.ireturn, 1) := by decide +kernel
theorem dX10_noteRests_0 : decode cX10_noteRests 0 = .ok (.iconst 0, 1) := by decide +kernel
theorem dX10_noteRests_1 : decode cX10_noteRests 1 = .ok (.istore_n 1, 1) := by decide +kernel
theorem dX10_noteRests_2 : decode cX10_noteRests 2 = .ok (.iload_n 1, 1) := by decide +kernel
theorem dX10_noteRests_3 : decode cX10_noteRests 3 = .ok (.aload_n 0, 1) := by decide +kernel
theorem dX10_noteRests_4 : decode cX10_noteRests 4 = .ok (.getfield 50, 3) := by decide +kernel
theorem dX10_noteRests_7 : decode cX10_noteRests 7 = .ok (.if_icmp .ge 68, 3) := by decide +kernel
theorem dX10_noteRests_10 : decode cX10_noteRests 10 = .ok (.aload_n 0, 1) := by decide +kernel
theorem dX10_noteRests_11 : decode cX10_noteRests 11 = .ok (.getfield 9, 3) := by decide +kernel
theorem dX10_noteRests_14 : decode cX10_noteRests 14 = .ok (.iload_n 1, 1) := by decide +kernel
theorem dX10_noteRests_15 : decode cX10_noteRests 15 = .ok (.iaload, 1) := by decide +kernel
theorem dX10_noteRests_16 : decode cX10_noteRests 16 = .ok (.ldc 147, 2) := by decide +kernel
theorem dX10_noteRests_18 : decode cX10_noteRests 18 = .ok (.iand, 1) := by decide +kernel
theorem dX10_noteRests_19 : decode cX10_noteRests 19 = .ok (.istore_n 2, 1) := by decide +kernel
theorem dX10_noteRests_20 : decode cX10_noteRests 20 = .ok (.aload_n 0, 1) := by decide +kernel
theorem dX10_noteRests_21 : decode cX10_noteRests 21 = .ok (.getfield 9, 3) := by decide +kernel
theorem dX10_noteRests_24 : decode cX10_noteRests 24 = .ok (.iload_n 1, 1) := by decide +kernel
theorem dX10_noteRests_25 : decode cX10_noteRests 25 = .ok (.iaload, 1) := by decide +kernel
theorem dX10_noteRests_26 : decode cX10_noteRests 26 = .ok (.ifCond .lt 43, 3) := by decide +kernel
theorem dX10_noteRests_29 : decode cX10_noteRests 29 = .ok (.aload_n 0, 1) := by decide +kernel
theorem dX10_noteRests_30 : decode cX10_noteRests 30 = .ok (.getfield 27, 3) := by decide +kernel
theorem dX10_noteRests_33 : decode cX10_noteRests 33 = .ok (.getfield 107, 3) := by decide +kernel
theorem dX10_noteRests_36 : decode cX10_noteRests 36 = .ok (.iload_n 2, 1) := by decide +kernel
theorem dX10_noteRests_37 : decode cX10_noteRests 37 = .ok (.iaload, 1) := by decide +kernel
theorem dX10_noteRests_38 : decode cX10_noteRests 38 = .ok (.iconst 2, 1) := by decide +kernel
theorem dX10_noteRests_39 : decode cX10_noteRests 39 = .ok (.if_icmp .lt 30, 3) := by decide +kernel
theorem dX10_noteRests_42 : decode cX10_noteRests 42 = .ok (.aload_n 0, 1) := by decide +kernel
theorem dX10_noteRests_43 : decode cX10_noteRests 43 = .ok (.getfield 31, 3) := by decide +kernel
theorem dX10_noteRests_46 : decode cX10_noteRests 46 = .ok (.aload_n 0, 1) := by decide +kernel
theorem dX10_noteRests_47 : decode cX10_noteRests 47 = .ok (.getfield 43, 3) := by decide +kernel
theorem dX10_noteRests_50 : decode cX10_noteRests 50 = .ok (.iload_n 2, 1) := by decide +kernel
theorem dX10_noteRests_51 : decode cX10_noteRests 51 = .ok (.invokevirtual 148, 3) := by decide +kernel
theorem dX10_noteRests_54 : decode cX10_noteRests 54 = .ok (.ifCond .ne 15, 3) := by decide +kernel
theorem dX10_noteRests_57 : decode cX10_noteRests 57 = .ok (.aload_n 0, 1) := by decide +kernel
theorem dX10_noteRests_58 : decode cX10_noteRests 58 = .ok (.getfield 31, 3) := by decide +kernel
theorem dX10_noteRests_61 : decode cX10_noteRests 61 = .ok (.aload_n 0, 1) := by decide +kernel
theorem dX10_noteRests_62 : decode cX10_noteRests 62 = .ok (.getfield 43, 3) := by decide +kernel
theorem dX10_noteRests_65 : decode cX10_noteRests 65 = .ok (.iload_n 2, 1) := by decide +kernel
theorem dX10_noteRests_66 : decode cX10_noteRests 66 = .ok (.invokevirtual 152, 3) := by decide +kernel
theorem dX10_noteRests_69 : decode cX10_noteRests 69 = .ok (.iinc 1 1, 3) := by decide +kernel
theorem dX10_noteRests_72 : decode cX10_noteRests 72 = .ok (.goto (-70), 3) := by decide +kernel
theorem dX10_noteRests_75 : decode cX10_noteRests 75 = .ok (.aload_n 0, 1) := by decide +kernel
theorem dX10_noteRests_76 : decode cX10_noteRests 76 = .ok (.getfield 31, 3) := by decide +kernel
theorem dX10_noteRests_79 : decode cX10_noteRests 79 = .ok (.dup, 1) := by decide +kernel
theorem dX10_noteRests_80 : decode cX10_noteRests 80 = .ok (.getfield 69, 3) := by decide +kernel
theorem dX10_noteRests_83 : decode cX10_noteRests 83 = .ok (.aload_n 0, 1) := by decide +kernel
theorem dX10_noteRests_84 : decode cX10_noteRests 84 = .ok (.getfield 50, 3) := by decide +kernel
theorem dX10_noteRests_87 : decode cX10_noteRests 87 = .ok (.iadd, 1) := by decide +kernel
theorem dX10_noteRests_88 : decode cX10_noteRests 88 = .ok (.putfield 69, 3) := by decide +kernel
theorem dX10_noteRests_91 : decode cX10_noteRests 91 = .ok (.return_, 1) := by decide +kernel
theorem dX10_goThrough_0 : decode cX10_goThrough 0 = .ok (.aload_n 0, 1) := by decide +kernel
theorem dX10_goThrough_1 : decode cX10_goThrough 1 = .ok (.getfield 39, 3) := by decide +kernel
theorem dX10_goThrough_4 : decode cX10_goThrough 4 = .ok (.invokevirtual 156, 3) := by decide +kernel
theorem dX10_goThrough_7 : decode cX10_goThrough 7 = .ok (.aload_n 0, 1) := by decide +kernel
theorem dX10_goThrough_8 : decode cX10_goThrough 8 = .ok (.iconst 0, 1) := by decide +kernel
theorem dX10_goThrough_9 : decode cX10_goThrough 9 = .ok (.putfield 161, 3) := by decide +kernel
theorem dX10_goThrough_12 : decode cX10_goThrough 12 = .ok (.aload_n 0, 1) := by decide +kernel
theorem dX10_goThrough_13 : decode cX10_goThrough 13 = .ok (.iconst 0, 1) := by decide +kernel
theorem dX10_goThrough_14 : decode cX10_goThrough 14 = .ok (.putfield 56, 3) := by decide +kernel
theorem dX10_goThrough_17 : decode cX10_goThrough 17 = .ok (.aload_n 0, 1) := by decide +kernel
theorem dX10_goThrough_18 : decode cX10_goThrough 18 = .ok (.iconst 0, 1) := by decide +kernel
theorem dX10_goThrough_19 : decode cX10_goThrough 19 = .ok (.putfield 164, 3) := by decide +kernel
theorem dX10_goThrough_22 : decode cX10_goThrough 22 = .ok (.aload_n 0, 1) := by decide +kernel
theorem dX10_goThrough_23 : decode cX10_goThrough 23 = .ok (.iconst 0, 1) := by decide +kernel
theorem dX10_goThrough_24 : decode cX10_goThrough 24 = .ok (.putfield 167, 3) := by decide +kernel
theorem dX10_goThrough_27 : decode cX10_goThrough 27 = .ok (.iconst 0, 1) := by decide +kernel
theorem dX10_goThrough_28 : decode cX10_goThrough 28 = .ok (.istore_n 2, 1) := by decide +kernel
theorem dX10_goThrough_29 : decode cX10_goThrough 29 = .ok (.iload_n 2, 1) := by decide +kernel
theorem dX10_goThrough_30 : decode cX10_goThrough 30 = .ok (.aload_n 0, 1) := by decide +kernel
theorem dX10_goThrough_31 : decode cX10_goThrough 31 = .ok (.getfield 50, 3) := by decide +kernel
theorem dX10_goThrough_34 : decode cX10_goThrough 34 = .ok (.if_icmp .ge 65, 3) := by decide +kernel
theorem dX10_goThrough_37 : decode cX10_goThrough 37 = .ok (.aload_n 0, 1) := by decide +kernel
theorem dX10_goThrough_38 : decode cX10_goThrough 38 = .ok (.aload_n 0, 1) := by decide +kernel
theorem dX10_goThrough_39 : decode cX10_goThrough 39 = .ok (.getfield 15, 3) := by decide +kernel
theorem dX10_goThrough_42 : decode cX10_goThrough 42 = .ok (.iload_n 2, 1) := by decide +kernel
theorem dX10_goThrough_43 : decode cX10_goThrough 43 = .ok (.iaload, 1) := by decide +kernel
theorem dX10_goThrough_44 : decode cX10_goThrough 44 = .ok (.putfield 73, 3) := by decide +kernel
theorem dX10_goThrough_47 : decode cX10_goThrough 47 = .ok (.aload_n 0, 1) := by decide +kernel
theorem dX10_goThrough_48 : decode cX10_goThrough 48 = .ok (.getfield 9, 3) := by decide +kernel
theorem dX10_goThrough_51 : decode cX10_goThrough 51 = .ok (.iload_n 2, 1) := by decide +kernel
theorem dX10_goThrough_52 : decode cX10_goThrough 52 = .ok (.iaload, 1) := by decide +kernel
theorem dX10_goThrough_53 : decode cX10_goThrough 53 = .ok (.ifCond .ge 23, 3) := by decide +kernel
theorem dX10_goThrough_56 : decode cX10_goThrough 56 = .ok (.aload_n 0, 1) := by decide +kernel
theorem dX10_goThrough_57 : decode cX10_goThrough 57 = .ok (.aload_n 0, 1) := by decide +kernel
theorem dX10_goThrough_58 : decode cX10_goThrough 58 = .ok (.getfield 24, 3) := by decide +kernel
theorem dX10_goThrough_61 : decode cX10_goThrough 61 = .ok (.aload_n 0, 1) := by decide +kernel
theorem dX10_goThrough_62 : decode cX10_goThrough 62 = .ok (.getfield 9, 3) := by decide +kernel
theorem dX10_goThrough_65 : decode cX10_goThrough 65 = .ok (.iload_n 2, 1) := by decide +kernel
theorem dX10_goThrough_66 : decode cX10_goThrough 66 = .ok (.iaload, 1) := by decide +kernel
theorem dX10_goThrough_67 : decode cX10_goThrough 67 = .ok (.iconst (-1), 1) := by decide +kernel
theorem dX10_goThrough_68 : decode cX10_goThrough 68 = .ok (.ixor, 1) := by decide +kernel
theorem dX10_goThrough_69 : decode cX10_goThrough 69 = .ok (.iaload, 1) := by decide +kernel
theorem dX10_goThrough_70 : decode cX10_goThrough 70 = .ok (.invokevirtual 170, 3) := by decide +kernel
theorem dX10_goThrough_73 : decode cX10_goThrough 73 = .ok (.goto 13, 3) := by decide +kernel
theorem dX10_goThrough_76 : decode cX10_goThrough 76 = .ok (.aload_n 0, 1) := by decide +kernel
theorem dX10_goThrough_77 : decode cX10_goThrough 77 = .ok (.aload_n 0, 1) := by decide +kernel
theorem dX10_goThrough_78 : decode cX10_goThrough 78 = .ok (.getfield 9, 3) := by decide +kernel
theorem dX10_goThrough_81 : decode cX10_goThrough 81 = .ok (.iload_n 2, 1) := by decide +kernel
theorem dX10_goThrough_82 : decode cX10_goThrough 82 = .ok (.iaload, 1) := by decide +kernel
theorem dX10_goThrough_83 : decode cX10_goThrough 83 = .ok (.invokevirtual 173, 3) := by decide +kernel
theorem dX10_goThrough_86 : decode cX10_goThrough 86 = .ok (.istore_n 3, 1) := by decide +kernel
theorem dX10_goThrough_87 : decode cX10_goThrough 87 = .ok (.iload_n 3, 1) := by decide +kernel
theorem dX10_goThrough_88 : decode cX10_goThrough 88 = .ok (.ifCond .eq 5, 3) := by decide +kernel
theorem dX10_goThrough_91 : decode cX10_goThrough 91 = .ok (.iload_n 3, 1) := by decide +kernel
theorem dX10_goThrough_92 : decode cX10_goThrough 92 = .ok (.ireturn, 1) := by decide +kernel
theorem dX10_goThrough_93 : decode cX10_goThrough 93 = .ok (.iinc 2 1, 3) := by decide +kernel
theorem dX10_goThrough_96 : decode cX10_goThrough 96 = .ok (.goto (-67), 3) := by decide +kernel
theorem dX10_goThrough_99 : decode cX10_goThrough 99 = .ok (.aload_n 0, 1) := by decide +kernel
theorem dX10_goThrough_100 : decode cX10_goThrough 100 = .ok (.iload_n 1, 1) := by decide +kernel
theorem dX10_goThrough_101 : decode cX10_goThrough 101 = .ok (.putfield 73, 3) := by decide +kernel
theorem dX10_goThrough_104 : decode cX10_goThrough 104 = .ok (.aload_n 0, 1) := by decide +kernel
theorem dX10_goThrough_105 : decode cX10_goThrough 105 = .ok (.getfield 161, 3) := by decide +kernel
theorem dX10_goThrough_108 : decode cX10_goThrough 108 = .ok (.iconst 1, 1) := by decide +kernel
theorem dX10_goThrough_109 : decode cX10_goThrough 109 = .ok (.if_icmp .eq 6, 3) := by decide +kernel
theorem dX10_goThrough_112 : decode cX10_goThrough 112 = .ok (.bipush 18, 2) := by decide +kernel
theorem dX10_goThrough_114 : decode cX10_goThrough 114 = .ok (.ireturn, 1) := by decide +kernel
theorem dX10_goThrough_115 : decode cX10_goThrough 115 = .ok (.aload_n 0, 1) := by decide +kernel
theorem dX10_goThrough_116 : decode cX10_goThrough 116 = .ok (.getfield 39, 3) := by decide +kernel
theorem dX10_goThrough_119 : decode cX10_goThrough 119 = .ok (.aload_n 0, 1) := by decide +kernel
theorem dX10_goThrough_120 : decode cX10_goThrough 120 = .ok (.getfield 21, 3) := by decide +kernel
theorem dX10_goThrough_123 : decode cX10_goThrough 123 = .ok (.iconst 0, 1) := by decide +kernel
theorem dX10_goThrough_124 : decode cX10_goThrough 124 = .ok (.iaload, 1) := by decide +kernel
theorem dX10_goThrough_125 : decode cX10_goThrough 125 = .ok (.aload_n 0, 1) := by decide +kernel
theorem dX10_goThrough_126 : decode cX10_goThrough 126 = .ok (.getfield 43, 3) := by decide +kernel
theorem dX10_goThrough_129 : decode cX10_goThrough 129 = .ok (.invokevirtual 176, 3) := by decide +kernel
theorem dX10_goThrough_132 : decode cX10_goThrough 132 = .ok (.ifCond .ne 6, 3) := by decide +kernel
theorem dX10_goThrough_135 : decode cX10_goThrough 135 = .ok (.bipush 19, 2) := by decide +kernel
theorem dX10_goThrough_137 : decode cX10_goThrough 137 = .ok (.ireturn, 1) := by decide +kernel
theorem dX10_goThrough_138 : decode cX10_goThrough 138 = .ok (.aload_n 0, 1) := by decide +kernel
theorem dX10_goThrough_139 : decode cX10_goThrough 139 = .ok (.getfield 31, 3) := by decide +kernel
theorem dX10_goThrough_142 : decode cX10_goThrough 142 = .ok (.aload_n 0, 1) := by decide +kernel
theorem dX10_goThrough_143 : decode cX10_goThrough 143 = .ok (.getfield 43, 3) := by decide +kernel
theorem dX10_goThrough_146 : decode cX10_goThrough 146 = .ok (.aload_n 0, 1) := by decide +kernel
theorem dX10_goThrough_147 : decode cX10_goThrough 147 = .ok (.getfield 167, 3) := by decide +kernel
theorem dX10_goThrough_150 : decode cX10_goThrough 150 = .ok (.invokevirtual 179, 3) := by decide +kernel
theorem dX10_goThrough_153 : decode cX10_goThrough 153 = .ok (.iconst 0, 1) := by decide +kernel
theorem dX10_goThrough_154 : decode cX10_goThrough 154 = .ok (.ireturn, 1) := by decide +kernel
theorem dX10_take_0 : decode cX10_take 0 = .ok (.iload_n 1, 1) := by decide +kernel
theorem dX10_take_1 : decode cX10_take 1 = .ok (.ldc 147, 2) := by decide +kernel
theorem dX10_take_3 : decode cX10_take 3 = .ok (.iand, 1) := by decide +kernel
theorem dX10_take_4 : decode cX10_take 4 = .ok (.istore_n 2, 1) := by decide +kernel
theorem dX10_take_5 : decode cX10_take 5 = .ok (.aload_n 0, 1) := by decide +kernel
theorem dX10_take_6 : decode cX10_take 6 = .ok (.getfield 31, 3) := by decide +kernel
theorem dX10_take_9 : decode cX10_take 9 = .ok (.getfield 182, 3) := by decide +kernel
theorem dX10_take_12 : decode cX10_take 12 = .ok (.aload_n 0, 1) := by decide +kernel
theorem dX10_take_13 : decode cX10_take 13 = .ok (.getfield 167, 3) := by decide +kernel
theorem dX10_take_16 : decode cX10_take 16 = .ok (.iadd, 1) := by decide +kernel
theorem dX10_take_17 : decode cX10_take 17 = .ok (.istore_n 3, 1) := by decide +kernel
theorem dX10_take_18 : decode cX10_take 18 = .ok (.aload_n 0, 1) := by decide +kernel
theorem dX10_take_19 : decode cX10_take 19 = .ok (.getfield 31, 3) := by decide +kernel
theorem dX10_take_22 : decode cX10_take 22 = .ok (.getfield 185, 3) := by decide +kernel
theorem dX10_take_25 : decode cX10_take 25 = .ok (.iload_n 3, 1) := by decide +kernel
theorem dX10_take_26 : decode cX10_take 26 = .ok (.iaload, 1) := by decide +kernel
theorem dX10_take_27 : decode cX10_take 27 = .ok (.istore 4, 2) := by decide +kernel
theorem dX10_take_29 : decode cX10_take 29 = .ok (.iconst 0, 1) := by decide +kernel
theorem dX10_take_30 : decode cX10_take 30 = .ok (.istore 5, 2) := by decide +kernel
theorem dX10_take_32 : decode cX10_take 32 = .ok (.aload_n 0, 1) := by decide +kernel
theorem dX10_take_33 : decode cX10_take 33 = .ok (.getfield 27, 3) := by decide +kernel
theorem dX10_take_36 : decode cX10_take 36 = .ok (.getfield 107, 3) := by decide +kernel
theorem dX10_take_39 : decode cX10_take 39 = .ok (.iload_n 2, 1) := by decide +kernel
theorem dX10_take_40 : decode cX10_take 40 = .ok (.iaload, 1) := by decide +kernel
theorem dX10_take_41 : decode cX10_take 41 = .ok (.iconst 2, 1) := by decide +kernel
theorem dX10_take_42 : decode cX10_take 42 = .ok (.if_icmp .ge 14, 3) := by decide +kernel
theorem dX10_take_45 : decode cX10_take 45 = .ok (.aload_n 0, 1) := by decide +kernel
theorem dX10_take_46 : decode cX10_take 46 = .ok (.getfield 39, 3) := by decide +kernel
theorem dX10_take_49 : decode cX10_take 49 = .ok (.iload_n 2, 1) := by decide +kernel
theorem dX10_take_50 : decode cX10_take 50 = .ok (.invokevirtual 188, 3) := by decide +kernel
theorem dX10_take_53 : decode cX10_take 53 = .ok (.goto 113, 3) := by decide +kernel
theorem dX10_take_56 : decode cX10_take 56 = .ok (.aload_n 0, 1) := by decide +kernel
theorem dX10_take_57 : decode cX10_take 57 = .ok (.getfield 31, 3) := by decide +kernel
theorem dX10_take_60 : decode cX10_take 60 = .ok (.getfield 138, 3) := by decide +kernel
theorem dX10_take_63 : decode cX10_take 63 = .ok (.iload_n 2, 1) := by decide +kernel
theorem dX10_take_64 : decode cX10_take 64 = .ok (.iaload, 1) := by decide +kernel
theorem dX10_take_65 : decode cX10_take 65 = .ok (.istore 5, 2) := by decide +kernel
theorem dX10_take_67 : decode cX10_take 67 = .ok (.aload_n 0, 1) := by decide +kernel
theorem dX10_take_68 : decode cX10_take 68 = .ok (.getfield 161, 3) := by decide +kernel
theorem dX10_take_71 : decode cX10_take 71 = .ok (.iload 5, 2) := by decide +kernel
theorem dX10_take_73 : decode cX10_take 73 = .ok (.if_icmp .ge 6, 3) := by decide +kernel
theorem dX10_take_76 : decode cX10_take 76 = .ok (.bipush 15, 2) := by decide +kernel
theorem dX10_take_78 : decode cX10_take 78 = .ok (.ireturn, 1) := by decide +kernel
theorem dX10_take_79 : decode cX10_take 79 = .ok (.iconst 0, 1) := by decide +kernel
theorem dX10_take_80 : decode cX10_take 80 = .ok (.istore 6, 2) := by decide +kernel
theorem dX10_take_82 : decode cX10_take 82 = .ok (.iload 6, 2) := by decide +kernel
theorem dX10_take_84 : decode cX10_take 84 = .ok (.iload 5, 2) := by decide +kernel
theorem dX10_take_86 : decode cX10_take 86 = .ok (.if_icmp .ge 37, 3) := by decide +kernel
theorem dX10_take_89 : decode cX10_take 89 = .ok (.aload_n 0, 1) := by decide +kernel
theorem dX10_take_90 : decode cX10_take 90 = .ok (.getfield 31, 3) := by decide +kernel
theorem dX10_take_93 : decode cX10_take 93 = .ok (.getfield 191, 3) := by decide +kernel
theorem dX10_take_96 : decode cX10_take 96 = .ok (.iload 4, 2) := by decide +kernel
theorem dX10_take_98 : decode cX10_take 98 = .ok (.iload 6, 2) := by decide +kernel
theorem dX10_take_100 : decode cX10_take 100 = .ok (.iadd, 1) := by decide +kernel
theorem dX10_take_101 : decode cX10_take 101 = .ok (.aload_n 0, 1) := by decide +kernel
theorem dX10_take_102 : decode cX10_take 102 = .ok (.getfield 21, 3) := by decide +kernel
theorem dX10_take_105 : decode cX10_take 105 = .ok (.aload_n 0, 1) := by decide +kernel
theorem dX10_take_106 : decode cX10_take 106 = .ok (.getfield 161, 3) := by decide +kernel
theorem dX10_take_109 : decode cX10_take 109 = .ok (.iload 5, 2) := by decide +kernel
theorem dX10_take_111 : decode cX10_take 111 = .ok (.isub, 1) := by decide +kernel
theorem dX10_take_112 : decode cX10_take 112 = .ok (.iload 6, 2) := by decide +kernel
theorem dX10_take_114 : decode cX10_take 114 = .ok (.iadd, 1) := by decide +kernel
theorem dX10_take_115 : decode cX10_take 115 = .ok (.iaload, 1) := by decide +kernel
theorem dX10_take_116 : decode cX10_take 116 = .ok (.iastore, 1) := by decide +kernel
theorem dX10_take_117 : decode cX10_take 117 = .ok (.iinc 6 1, 3) := by decide +kernel
theorem dX10_take_120 : decode cX10_take 120 = .ok (.goto (-38), 3) := by decide +kernel
theorem dX10_take_123 : decode cX10_take 123 = .ok (.aload_n 0, 1) := by decide +kernel
theorem dX10_take_124 : decode cX10_take 124 = .ok (.getfield 39, 3) := by decide +kernel
theorem dX10_take_127 : decode cX10_take 127 = .ok (.iload_n 2, 1) := by decide +kernel
theorem dX10_take_128 : decode cX10_take 128 = .ok (.iload 4, 2) := by decide +kernel
theorem dX10_take_130 : decode cX10_take 130 = .ok (.invokevirtual 194, 3) := by decide +kernel
theorem dX10_take_133 : decode cX10_take 133 = .ok (.ifCond .ne 6, 3) := by decide +kernel
theorem dX10_take_136 : decode cX10_take 136 = .ok (.bipush 16, 2) := by decide +kernel
theorem dX10_take_138 : decode cX10_take 138 = .ok (.ireturn, 1) := by decide +kernel
theorem dX10_take_139 : decode cX10_take 139 = .ok (.aload_n 0, 1) := by decide +kernel
theorem dX10_take_140 : decode cX10_take 140 = .ok (.getfield 39, 3) := by decide +kernel
theorem dX10_take_143 : decode cX10_take 143 = .ok (.iload_n 2, 1) := by decide +kernel
theorem dX10_take_144 : decode cX10_take 144 = .ok (.invokevirtual 197, 3) := by decide +kernel
theorem dX10_take_147 : decode cX10_take 147 = .ok (.ifCond .ne 6, 3) := by decide +kernel
theorem dX10_take_150 : decode cX10_take 150 = .ok (.bipush 17, 2) := by decide +kernel
theorem dX10_take_152 : decode cX10_take 152 = .ok (.ireturn, 1) := by decide +kernel
theorem dX10_take_153 : decode cX10_take 153 = .ok (.aload_n 0, 1) := by decide +kernel
theorem dX10_take_154 : decode cX10_take 154 = .ok (.getfield 39, 3) := by decide +kernel
theorem dX10_take_157 : decode cX10_take 157 = .ok (.iload_n 2, 1) := by decide +kernel
theorem dX10_take_158 : decode cX10_take 158 = .ok (.invokevirtual 200, 3) := by decide +kernel
theorem dX10_take_161 : decode cX10_take 161 = .ok (.ifCond .ne 5, 3) := by decide +kernel
theorem dX10_take_164 : decode cX10_take 164 = .ok (.iconst 5, 1) := by decide +kernel
theorem dX10_take_165 : decode cX10_take 165 = .ok (.ireturn, 1) := by decide +kernel
theorem dX10_take_166 : decode cX10_take 166 = .ok (.aload_n 0, 1) := by decide +kernel
theorem dX10_take_167 : decode cX10_take 167 = .ok (.getfield 31, 3) := by decide +kernel
theorem dX10_take_170 : decode cX10_take 170 = .ok (.getfield 203, 3) := by decide +kernel
theorem dX10_take_173 : decode cX10_take 173 = .ok (.iload_n 3, 1) := by decide +kernel
theorem dX10_take_174 : decode cX10_take 174 = .ok (.iload_n 2, 1) := by decide +kernel
theorem dX10_take_175 : decode cX10_take 175 = .ok (.iastore, 1) := by decide +kernel
theorem dX10_take_176 : decode cX10_take 176 = .ok (.aload_n 0, 1) := by decide +kernel
theorem dX10_take_177 : decode cX10_take 177 = .ok (.getfield 31, 3) := by decide +kernel
theorem dX10_take_180 : decode cX10_take 180 = .ok (.getfield 185, 3) := by decide +kernel
theorem dX10_take_183 : decode cX10_take 183 = .ok (.iload_n 3, 1) := by decide +kernel
theorem dX10_take_184 : decode cX10_take 184 = .ok (.iconst 1, 1) := by decide +kernel
theorem dX10_take_185 : decode cX10_take 185 = .ok (.iadd, 1) := by decide +kernel
theorem dX10_take_186 : decode cX10_take 186 = .ok (.iload 4, 2) := by decide +kernel
theorem dX10_take_188 : decode cX10_take 188 = .ok (.iload 5, 2) := by decide +kernel
theorem dX10_take_190 : decode cX10_take 190 = .ok (.iadd, 1) := by decide +kernel
theorem dX10_take_191 : decode cX10_take 191 = .ok (.iastore, 1) := by decide +kernel
theorem dX10_take_192 : decode cX10_take 192 = .ok (.iconst 0, 1) := by decide +kernel
theorem dX10_take_193 : decode cX10_take 193 = .ok (.istore 6, 2) := by decide +kernel
theorem dX10_take_195 : decode cX10_take 195 = .ok (.iload 6, 2) := by decide +kernel
theorem dX10_take_197 : decode cX10_take 197 = .ok (.iload 5, 2) := by decide +kernel
theorem dX10_take_199 : decode cX10_take 199 = .ok (.if_icmp .ge 39, 3) := by decide +kernel
theorem dX10_take_202 : decode cX10_take 202 = .ok (.aload_n 0, 1) := by decide +kernel
theorem dX10_take_203 : decode cX10_take 203 = .ok (.dup, 1) := by decide +kernel
theorem dX10_take_204 : decode cX10_take 204 = .ok (.getfield 164, 3) := by decide +kernel
theorem dX10_take_207 : decode cX10_take 207 = .ok (.aload_n 0, 1) := by decide +kernel
theorem dX10_take_208 : decode cX10_take 208 = .ok (.getfield 39, 3) := by decide +kernel
theorem dX10_take_211 : decode cX10_take 211 = .ok (.getfield 206, 3) := by decide +kernel
theorem dX10_take_214 : decode cX10_take 214 = .ok (.aload_n 0, 1) := by decide +kernel
theorem dX10_take_215 : decode cX10_take 215 = .ok (.getfield 31, 3) := by decide +kernel
theorem dX10_take_218 : decode cX10_take 218 = .ok (.getfield 191, 3) := by decide +kernel
theorem dX10_take_221 : decode cX10_take 221 = .ok (.iload 4, 2) := by decide +kernel
theorem dX10_take_223 : decode cX10_take 223 = .ok (.iload 6, 2) := by decide +kernel
theorem dX10_take_225 : decode cX10_take 225 = .ok (.iadd, 1) := by decide +kernel
theorem dX10_take_226 : decode cX10_take 226 = .ok (.iaload, 1) := by decide +kernel
theorem dX10_take_227 : decode cX10_take 227 = .ok (.iaload, 1) := by decide +kernel
theorem dX10_take_228 : decode cX10_take 228 = .ok (.isub, 1) := by decide +kernel
theorem dX10_take_229 : decode cX10_take 229 = .ok (.putfield 164, 3) := by decide +kernel
theorem dX10_take_232 : decode cX10_take 232 = .ok (.iinc 6 1, 3) := by decide +kernel
theorem dX10_take_235 : decode cX10_take 235 = .ok (.goto (-40), 3) := by decide +kernel
theorem dX10_take_238 : decode cX10_take 238 = .ok (.aload_n 0, 1) := by decide +kernel
theorem dX10_take_239 : decode cX10_take 239 = .ok (.dup, 1) := by decide +kernel
theorem dX10_take_240 : decode cX10_take 240 = .ok (.getfield 161, 3) := by decide +kernel
theorem dX10_take_243 : decode cX10_take 243 = .ok (.iload 5, 2) := by decide +kernel
theorem dX10_take_245 : decode cX10_take 245 = .ok (.isub, 1) := by decide +kernel
theorem dX10_take_246 : decode cX10_take 246 = .ok (.putfield 161, 3) := by decide +kernel
theorem dX10_take_249 : decode cX10_take 249 = .ok (.aload_n 0, 1) := by decide +kernel
theorem dX10_take_250 : decode cX10_take 250 = .ok (.getfield 39, 3) := by decide +kernel
theorem dX10_take_253 : decode cX10_take 253 = .ok (.iload 4, 2) := by decide +kernel
theorem dX10_take_255 : decode cX10_take 255 = .ok (.iload 5, 2) := by decide +kernel
theorem dX10_take_257 : decode cX10_take 257 = .ok (.invokevirtual 209, 3) := by decide +kernel
theorem dX10_take_260 : decode cX10_take 260 = .ok (.aload_n 0, 1) := by decide +kernel
theorem dX10_take_261 : decode cX10_take 261 = .ok (.iload_n 1, 1) := by decide +kernel
theorem dX10_take_262 : decode cX10_take 262 = .ok (.iload_n 2, 1) := by decide +kernel
theorem dX10_take_263 : decode cX10_take 263 = .ok (.if_icmp .eq 7, 3) := by decide +kernel
theorem dX10_take_266 : decode cX10_take 266 = .ok (.iconst 1, 1) := by decide +kernel
theorem dX10_take_267 : decode cX10_take 267 = .ok (.goto 4, 3) := by decide +kernel
theorem dX10_take_270 : decode cX10_take 270 = .ok (.iconst 0, 1) := by decide +kernel
theorem dX10_take_271 : decode cX10_take 271 = .ok (.invokevirtual 212, 3) := by decide +kernel
theorem dX10_take_274 : decode cX10_take 274 = .ok (.ireturn, 1) := by decide +kernel
theorem dX10_putNew_0 : decode cX10_putNew 0 = .ok (.aload_n 0, 1) := by decide +kernel
theorem dX10_putNew_1 : decode cX10_putNew 1 = .ok (.getfield 167, 3) := by decide +kernel
theorem dX10_putNew_4 : decode cX10_putNew 4 = .ok (.istore_n 2, 1) := by decide +kernel
theorem dX10_putNew_5 : decode cX10_putNew 5 = .ok (.aload_n 0, 1) := by decide +kernel
theorem dX10_putNew_6 : decode cX10_putNew 6 = .ok (.getfield 39, 3) := by decide +kernel
theorem dX10_putNew_9 : decode cX10_putNew 9 = .ok (.iload_n 2, 1) := by decide +kernel
theorem dX10_putNew_10 : decode cX10_putNew 10 = .ok (.iload_n 1, 1) := by decide +kernel
theorem dX10_putNew_11 : decode cX10_putNew 11 = .ok (.invokevirtual 216, 3) := by decide +kernel
theorem dX10_putNew_14 : decode cX10_putNew 14 = .ok (.ifCond .ne 5, 3) := by decide +kernel
theorem dX10_putNew_17 : decode cX10_putNew 17 = .ok (.iconst 5, 1) := by decide +kernel
theorem dX10_putNew_18 : decode cX10_putNew 18 = .ok (.ireturn, 1) := by decide +kernel
theorem dX10_putNew_19 : decode cX10_putNew 19 = .ok (.aload_n 0, 1) := by decide +kernel
theorem dX10_putNew_20 : decode cX10_putNew 20 = .ok (.dup, 1) := by decide +kernel
theorem dX10_putNew_21 : decode cX10_putNew 21 = .ok (.getfield 167, 3) := by decide +kernel
theorem dX10_putNew_24 : decode cX10_putNew 24 = .ok (.iconst 1, 1) := by decide +kernel
theorem dX10_putNew_25 : decode cX10_putNew 25 = .ok (.iadd, 1) := by decide +kernel
theorem dX10_putNew_26 : decode cX10_putNew 26 = .ok (.putfield 167, 3) := by decide +kernel
theorem dX10_putNew_29 : decode cX10_putNew 29 = .ok (.aload_n 0, 1) := by decide +kernel
theorem dX10_putNew_30 : decode cX10_putNew 30 = .ok (.iload_n 2, 1) := by decide +kernel
theorem dX10_putNew_31 : decode cX10_putNew 31 = .ok (.invokevirtual 170, 3) := by decide +kernel
theorem dX10_putNew_34 : decode cX10_putNew 34 = .ok (.istore_n 3, 1) := by decide +kernel
theorem dX10_putNew_35 : decode cX10_putNew 35 = .ok (.iload_n 3, 1) := by decide +kernel
theorem dX10_putNew_36 : decode cX10_putNew 36 = .ok (.ifCond .ne 7, 3) := by decide +kernel
theorem dX10_putNew_39 : decode cX10_putNew 39 = .ok (.iload_n 1, 1) := by decide +kernel
theorem dX10_putNew_40 : decode cX10_putNew 40 = .ok (.ifCond .ne 5, 3) := by decide +kernel
theorem dX10_putNew_43 : decode cX10_putNew 43 = .ok (.iload_n 3, 1) := by decide +kernel
theorem dX10_putNew_44 : decode cX10_putNew 44 = .ok (.ireturn, 1) := by decide +kernel
theorem dX10_putNew_45 : decode cX10_putNew 45 = .ok (.aload_n 0, 1) := by decide +kernel
theorem dX10_putNew_46 : decode cX10_putNew 46 = .ok (.getfield 24, 3) := by decide +kernel
theorem dX10_putNew_49 : decode cX10_putNew 49 = .ok (.aload_n 0, 1) := by decide +kernel
theorem dX10_putNew_50 : decode cX10_putNew 50 = .ok (.getfield 56, 3) := by decide +kernel
theorem dX10_putNew_53 : decode cX10_putNew 53 = .ok (.iload_n 2, 1) := by decide +kernel
theorem dX10_putNew_54 : decode cX10_putNew 54 = .ok (.iastore, 1) := by decide +kernel
theorem dX10_putNew_55 : decode cX10_putNew 55 = .ok (.aload_n 0, 1) := by decide +kernel
theorem dX10_putNew_56 : decode cX10_putNew 56 = .ok (.dup, 1) := by decide +kernel
theorem dX10_putNew_57 : decode cX10_putNew 57 = .ok (.getfield 56, 3) := by decide +kernel
theorem dX10_putNew_60 : decode cX10_putNew 60 = .ok (.iconst 1, 1) := by decide +kernel
theorem dX10_putNew_61 : decode cX10_putNew 61 = .ok (.iadd, 1) := by decide +kernel
theorem dX10_putNew_62 : decode cX10_putNew 62 = .ok (.putfield 56, 3) := by decide +kernel
theorem dX10_putNew_65 : decode cX10_putNew 65 = .ok (.aload_n 0, 1) := by decide +kernel
theorem dX10_putNew_66 : decode cX10_putNew 66 = .ok (.dup, 1) := by decide +kernel
theorem dX10_putNew_67 : decode cX10_putNew 67 = .ok (.getfield 164, 3) := by decide +kernel
theorem dX10_putNew_70 : decode cX10_putNew 70 = .ok (.aload_n 0, 1) := by decide +kernel
theorem dX10_putNew_71 : decode cX10_putNew 71 = .ok (.getfield 39, 3) := by decide +kernel
theorem dX10_putNew_74 : decode cX10_putNew 74 = .ok (.getfield 206, 3) := by decide +kernel
theorem dX10_putNew_77 : decode cX10_putNew 77 = .ok (.iload_n 2, 1) := by decide +kernel
theorem dX10_putNew_78 : decode cX10_putNew 78 = .ok (.iaload, 1) := by decide +kernel
theorem dX10_putNew_79 : decode cX10_putNew 79 = .ok (.iadd, 1) := by decide +kernel
theorem dX10_putNew_80 : decode cX10_putNew 80 = .ok (.putfield 164, 3) := by decide +kernel
theorem dX10_putNew_83 : decode cX10_putNew 83 = .ok (.aload_n 0, 1) := by decide +kernel
theorem dX10_putNew_84 : decode cX10_putNew 84 = .ok (.getfield 164, 3) := by decide +kernel
theorem dX10_putNew_87 : decode cX10_putNew 87 = .ok (.ldc 220, 2) := by decide +kernel
theorem dX10_putNew_89 : decode cX10_putNew 89 = .ok (.if_icmp .le 7, 3) := by decide +kernel
theorem dX10_putNew_92 : decode cX10_putNew 92 = .ok (.iconst 5, 1) := by decide +kernel
theorem dX10_putNew_93 : decode cX10_putNew 93 = .ok (.goto 4, 3) := by decide +kernel
theorem dX10_putNew_96 : decode cX10_putNew 96 = .ok (.iconst 0, 1) := by decide +kernel
theorem dX10_putNew_97 : decode cX10_putNew 97 = .ok (.ireturn, 1) := by decide +kernel
theorem dX10_putAgain_0 : decode cX10_putAgain 0 = .ok (.aload_n 0, 1) := by decide +kernel
theorem dX10_putAgain_1 : decode cX10_putAgain 1 = .ok (.dup, 1) := by decide +kernel
theorem dX10_putAgain_2 : decode cX10_putAgain 2 = .ok (.getfield 164, 3) := by decide +kernel
theorem dX10_putAgain_5 : decode cX10_putAgain 5 = .ok (.aload_n 0, 1) := by decide +kernel
theorem dX10_putAgain_6 : decode cX10_putAgain 6 = .ok (.getfield 39, 3) := by decide +kernel
theorem dX10_putAgain_9 : decode cX10_putAgain 9 = .ok (.getfield 206, 3) := by decide +kernel
theorem dX10_putAgain_12 : decode cX10_putAgain 12 = .ok (.iload_n 1, 1) := by decide +kernel
theorem dX10_putAgain_13 : decode cX10_putAgain 13 = .ok (.iaload, 1) := by decide +kernel
theorem dX10_putAgain_14 : decode cX10_putAgain 14 = .ok (.iadd, 1) := by decide +kernel
theorem dX10_putAgain_15 : decode cX10_putAgain 15 = .ok (.putfield 164, 3) := by decide +kernel
theorem dX10_putAgain_18 : decode cX10_putAgain 18 = .ok (.aload_n 0, 1) := by decide +kernel
theorem dX10_putAgain_19 : decode cX10_putAgain 19 = .ok (.getfield 161, 3) := by decide +kernel
theorem dX10_putAgain_22 : decode cX10_putAgain 22 = .ok (.sipush 200, 3) := by decide +kernel
theorem dX10_putAgain_25 : decode cX10_putAgain 25 = .ok (.if_icmp .eq 12, 3) := by decide +kernel
theorem dX10_putAgain_28 : decode cX10_putAgain 28 = .ok (.aload_n 0, 1) := by decide +kernel
theorem dX10_putAgain_29 : decode cX10_putAgain 29 = .ok (.getfield 164, 3) := by decide +kernel
theorem dX10_putAgain_32 : decode cX10_putAgain 32 = .ok (.ldc 220, 2) := by decide +kernel
theorem dX10_putAgain_34 : decode cX10_putAgain 34 = .ok (.if_icmp .le 5, 3) := by decide +kernel
theorem dX10_putAgain_37 : decode cX10_putAgain 37 = .ok (.iconst 5, 1) := by decide +kernel
theorem dX10_putAgain_38 : decode cX10_putAgain 38 = .ok (.ireturn, 1) := by decide +kernel
theorem dX10_putAgain_39 : decode cX10_putAgain 39 = .ok (.aload_n 0, 1) := by decide +kernel
theorem dX10_putAgain_40 : decode cX10_putAgain 40 = .ok (.getfield 21, 3) := by decide +kernel
theorem dX10_putAgain_43 : decode cX10_putAgain 43 = .ok (.aload_n 0, 1) := by decide +kernel
theorem dX10_putAgain_44 : decode cX10_putAgain 44 = .ok (.getfield 161, 3) := by decide +kernel
theorem dX10_putAgain_47 : decode cX10_putAgain 47 = .ok (.iload_n 1, 1) := by decide +kernel
theorem dX10_putAgain_48 : decode cX10_putAgain 48 = .ok (.iastore, 1) := by decide +kernel
theorem dX10_putAgain_49 : decode cX10_putAgain 49 = .ok (.aload_n 0, 1) := by decide +kernel
theorem dX10_putAgain_50 : decode cX10_putAgain 50 = .ok (.dup, 1) := by decide +kernel
theorem dX10_putAgain_51 : decode cX10_putAgain 51 = .ok (.getfield 161, 3) := by decide +kernel
theorem dX10_putAgain_54 : decode cX10_putAgain 54 = .ok (.iconst 1, 1) := by decide +kernel
theorem dX10_putAgain_55 : decode cX10_putAgain 55 = .ok (.iadd, 1) := by decide +kernel
theorem dX10_putAgain_56 : decode cX10_putAgain 56 = .ok (.putfield 161, 3) := by decide +kernel
theorem dX10_putAgain_59 : decode cX10_putAgain 59 = .ok (.iconst 0, 1) := by decide +kernel
theorem dX10_putAgain_60 : decode cX10_putAgain 60 = .ok (.ireturn, 1) := by decide +kernel
theorem dX7_init_0 : decode cX7_init 0 = .ok (.aload_n 0, 1) := by decide +kernel
theorem dX7_init_1 : decode cX7_init 1 = .ok (.invokespecial 3, 3) := by decide +kernel
theorem dX7_init_4 : decode cX7_init 4 = .ok (.aload_n 0, 1) := by decide +kernel
theorem dX7_init_5 : decode cX7_init 5 = .ok (.sipush 1000, 3) := by decide +kernel
theorem dX7_init_8 : decode cX7_init 8 = .ok (.newarray .int, 2) := by decide +kernel
theorem dX7_init_10 : decode cX7_init 10 = .ok (.putfield 9, 3) := by decide +kernel
theorem dX7_init_13 : decode cX7_init 13 = .ok (.aload_n 0, 1) := by decide +kernel
theorem dX7_init_14 : decode cX7_init 14 = .ok (.aload_n 1, 1) := by decide +kernel
theorem dX7_init_15 : decode cX7_init 15 = .ok (.putfield 15, 3) := by decide +kernel
theorem dX7_init_18 : decode cX7_init 18 = .ok (.aload_n 0, 1) := by decide +kernel
theorem dX7_init_19 : decode cX7_init 19 = .ok (.aload_n 2, 1) := by decide +kernel
theorem dX7_init_20 : decode cX7_init 20 = .ok (.putfield 19, 3) := by decide +kernel
theorem dX7_init_23 : decode cX7_init 23 = .ok (.aload_n 0, 1) := by decide +kernel
theorem dX7_init_24 : decode cX7_init 24 = .ok (.aload_n 3, 1) := by decide +kernel
theorem dX7_init_25 : decode cX7_init 25 = .ok (.putfield 23, 3) := by decide +kernel
theorem dX7_init_28 : decode cX7_init 28 = .ok (.aload_n 0, 1) := by decide +kernel
theorem dX7_init_29 : decode cX7_init 29 = .ok (.aload 4, 2) := by decide +kernel
theorem dX7_init_31 : decode cX7_init 31 = .ok (.putfield 27, 3) := by decide +kernel
theorem dX7_init_34 : decode cX7_init 34 = .ok (.return_, 1) := by decide +kernel
theorem dX7_readText_0 : decode cX7_readText 0 = .ok (.aload_n 0, 1) := by decide +kernel
theorem dX7_readText_1 : decode cX7_readText 1 = .ok (.aload_n 1, 1) := by decide +kernel
theorem dX7_readText_2 : decode cX7_readText 2 = .ok (.invokevirtual 31, 3) := by decide +kernel
theorem dX7_readText_5 : decode cX7_readText 5 = .ok (.iconst 0, 1) := by decide +kernel
theorem dX7_readText_6 : decode cX7_readText 6 = .ok (.istore_n 3, 1) := by decide +kernel
theorem dX7_readText_7 : decode cX7_readText 7 = .ok (.aload_n 1, 1) := by decide +kernel
theorem dX7_readText_8 : decode cX7_readText 8 = .ok (.iconst 0, 1) := by decide +kernel
theorem dX7_readText_9 : decode cX7_readText 9 = .ok (.iload_n 2, 1) := by decide +kernel
theorem dX7_readText_10 : decode cX7_readText 10 = .ok (.invokestatic 35, 3) := by decide +kernel
theorem dX7_readText_13 : decode cX7_readText 13 = .ok (.istore 4, 2) := by decide +kernel
theorem dX7_readText_15 : decode cX7_readText 15 = .ok (.iconst 0, 1) := by decide +kernel
theorem dX7_readText_16 : decode cX7_readText 16 = .ok (.istore 5, 2) := by decide +kernel
theorem dX7_readText_18 : decode cX7_readText 18 = .ok (.iload 5, 2) := by decide +kernel
theorem dX7_readText_20 : decode cX7_readText 20 = .ok (.iload_n 2, 1) := by decide +kernel
theorem dX7_readText_21 : decode cX7_readText 21 = .ok (.if_icmp .ge 84, 3) := by decide +kernel
theorem dX7_readText_24 : decode cX7_readText 24 = .ok (.iload 4, 2) := by decide +kernel
theorem dX7_readText_26 : decode cX7_readText 26 = .ok (.iload_n 2, 1) := by decide +kernel
theorem dX7_readText_27 : decode cX7_readText 27 = .ok (.if_icmp .ge 78, 3) := by decide +kernel
theorem dX7_readText_30 : decode cX7_readText 30 = .ok (.iload_n 3, 1) := by decide +kernel
theorem dX7_readText_31 : decode cX7_readText 31 = .ok (.ifCond .ne 74, 3) := by decide +kernel
theorem dX7_readText_34 : decode cX7_readText 34 = .ok (.aload_n 1, 1) := by decide +kernel
theorem dX7_readText_35 : decode cX7_readText 35 = .ok (.iload 4, 2) := by decide +kernel
theorem dX7_readText_37 : decode cX7_readText 37 = .ok (.iload_n 2, 1) := by decide +kernel
theorem dX7_readText_38 : decode cX7_readText 38 = .ok (.invokestatic 39, 3) := by decide +kernel
theorem dX7_readText_41 : decode cX7_readText 41 = .ok (.istore 6, 2) := by decide +kernel
theorem dX7_readText_43 : decode cX7_readText 43 = .ok (.aload_n 0, 1) := by decide +kernel
theorem dX7_readText_44 : decode cX7_readText 44 = .ok (.iload 4, 2) := by decide +kernel
theorem dX7_readText_46 : decode cX7_readText 46 = .ok (.putfield 42, 3) := by decide +kernel
theorem dX7_readText_49 : decode cX7_readText 49 = .ok (.iload 6, 2) := by decide +kernel
theorem dX7_readText_51 : decode cX7_readText 51 = .ok (.iload 4, 2) := by decide +kernel
theorem dX7_readText_53 : decode cX7_readText 53 = .ok (.if_icmp .ne 7, 3) := by decide +kernel
theorem dX7_readText_56 : decode cX7_readText 56 = .ok (.iconst 1, 1) := by decide +kernel
theorem dX7_readText_57 : decode cX7_readText 57 = .ok (.goto 14, 3) := by decide +kernel
theorem dX7_readText_60 : decode cX7_readText 60 = .ok (.aload_n 0, 1) := by decide +kernel
theorem dX7_readText_61 : decode cX7_readText 61 = .ok (.iload 4, 2) := by decide +kernel
theorem dX7_readText_63 : decode cX7_readText 63 = .ok (.iload 6, 2) := by decide +kernel
theorem dX7_readText_65 : decode cX7_readText 65 = .ok (.iload 4, 2) := by decide +kernel
theorem dX7_readText_67 : decode cX7_readText 67 = .ok (.isub, 1) := by decide +kernel
theorem dX7_readText_68 : decode cX7_readText 68 = .ok (.invokevirtual 46, 3) := by decide +kernel
theorem dX7_readText_71 : decode cX7_readText 71 = .ok (.istore_n 3, 1) := by decide +kernel
theorem dX7_readText_72 : decode cX7_readText 72 = .ok (.iload_n 3, 1) := by decide +kernel
theorem dX7_readText_73 : decode cX7_readText 73 = .ok (.ifCond .ne 17, 3) := by decide +kernel
theorem dX7_readText_76 : decode cX7_readText 76 = .ok (.aload_n 0, 1) := by decide +kernel
theorem dX7_readText_77 : decode cX7_readText 77 = .ok (.getfield 50, 3) := by decide +kernel
theorem dX7_readText_80 : decode cX7_readText 80 = .ok (.bipush 7, 2) := by decide +kernel
theorem dX7_readText_82 : decode cX7_readText 82 = .ok (.if_icmp .ne 8, 3) := by decide +kernel
theorem dX7_readText_85 : decode cX7_readText 85 = .ok (.aload_n 0, 1) := by decide +kernel
theorem dX7_readText_86 : decode cX7_readText 86 = .ok (.invokevirtual 53, 3) := by decide +kernel
theorem dX7_readText_89 : decode cX7_readText 89 = .ok (.istore_n 3, 1) := by decide +kernel
theorem dX7_readText_90 : decode cX7_readText 90 = .ok (.aload_n 1, 1) := by decide +kernel
theorem dX7_readText_91 : decode cX7_readText 91 = .ok (.iload 6, 2) := by decide +kernel
theorem dX7_readText_93 : decode cX7_readText 93 = .ok (.iload_n 2, 1) := by decide +kernel
theorem dX7_readText_94 : decode cX7_readText 94 = .ok (.invokestatic 35, 3) := by decide +kernel
theorem dX7_readText_97 : decode cX7_readText 97 = .ok (.istore 4, 2) := by decide +kernel
theorem dX7_readText_99 : decode cX7_readText 99 = .ok (.iinc 5 1, 3) := by decide +kernel
theorem dX7_readText_102 : decode cX7_readText 102 = .ok (.goto (-84), 3) := by decide +kernel
theorem dX7_readText_105 : decode cX7_readText 105 = .ok (.iload_n 3, 1) := by decide +kernel
theorem dX7_readText_106 : decode cX7_readText 106 = .ok (.ifCond .ne 13, 3) := by decide +kernel
theorem dX7_readText_109 : decode cX7_readText 109 = .ok (.aload_n 0, 1) := by decide +kernel
theorem dX7_readText_110 : decode cX7_readText 110 = .ok (.iload_n 2, 1) := by decide +kernel
theorem dX7_readText_111 : decode cX7_readText 111 = .ok (.putfield 42, 3) := by decide +kernel
theorem dX7_readText_114 : decode cX7_readText 114 = .ok (.aload_n 0, 1) := by decide +kernel
theorem dX7_readText_115 : decode cX7_readText 115 = .ok (.invokevirtual 57, 3) := by decide +kernel
theorem dX7_readText_118 : decode cX7_readText 118 = .ok (.istore_n 3, 1) := by decide +kernel
theorem dX7_readText_119 : decode cX7_readText 119 = .ok (.iload_n 3, 1) := by decide +kernel
theorem dX7_readText_120 : decode cX7_readText 120 = .ok (.ifCond .eq 24, 3) := by decide +kernel
theorem dX7_readText_123 : decode cX7_readText 123 = .ok (.aload_n 0, 1) := by decide +kernel
theorem dX7_readText_124 : decode cX7_readText 124 = .ok (.getfield 15, 3) := by decide +kernel
theorem dX7_readText_127 : decode cX7_readText 127 = .ok (.invokevirtual 60, 3) := by decide +kernel
theorem dX7_readText_130 : decode cX7_readText 130 = .ok (.aload_n 0, 1) := by decide +kernel
theorem dX7_readText_131 : decode cX7_readText 131 = .ok (.getfield 19, 3) := by decide +kernel
theorem dX7_readText_134 : decode cX7_readText 134 = .ok (.invokevirtual 65, 3) := by decide +kernel
theorem dX7_readText_137 : decode cX7_readText 137 = .ok (.aload_n 0, 1) := by decide +kernel
theorem dX7_readText_138 : decode cX7_readText 138 = .ok (.getfield 23, 3) := by decide +kernel
theorem dX7_readText_141 : decode cX7_readText 141 = .ok (.invokevirtual 68, 3) := by decide +kernel
theorem dX7_readText_144 : decode cX7_readText 144 = .ok (.iload_n 3, 1) := by decide +kernel
theorem dX7_readText_145 : decode cX7_readText 145 = .ok (.ireturn, 1) := by decide +kernel
theorem dX7_begin_0 : decode cX7_begin 0 = .ok (.aload_n 0, 1) := by decide +kernel
theorem dX7_begin_1 : decode cX7_begin 1 = .ok (.aload_n 1, 1) := by decide +kernel
theorem dX7_begin_2 : decode cX7_begin 2 = .ok (.putfield 71, 3) := by decide +kernel
theorem dX7_begin_5 : decode cX7_begin 5 = .ok (.aload_n 0, 1) := by decide +kernel
theorem dX7_begin_6 : decode cX7_begin 6 = .ok (.iconst 0, 1) := by decide +kernel
theorem dX7_begin_7 : decode cX7_begin 7 = .ok (.putfield 75, 3) := by decide +kernel
theorem dX7_begin_10 : decode cX7_begin 10 = .ok (.aload_n 0, 1) := by decide +kernel
theorem dX7_begin_11 : decode cX7_begin 11 = .ok (.iconst 0, 1) := by decide +kernel
theorem dX7_begin_12 : decode cX7_begin 12 = .ok (.putfield 50, 3) := by decide +kernel
theorem dX7_begin_15 : decode cX7_begin 15 = .ok (.aload_n 0, 1) := by decide +kernel
theorem dX7_begin_16 : decode cX7_begin 16 = .ok (.getfield 15, 3) := by decide +kernel
theorem dX7_begin_19 : decode cX7_begin 19 = .ok (.invokevirtual 79, 3) := by decide +kernel
theorem dX7_begin_22 : decode cX7_begin 22 = .ok (.aload_n 0, 1) := by decide +kernel
theorem dX7_begin_23 : decode cX7_begin 23 = .ok (.getfield 19, 3) := by decide +kernel
theorem dX7_begin_26 : decode cX7_begin 26 = .ok (.invokevirtual 82, 3) := by decide +kernel
theorem dX7_begin_29 : decode cX7_begin 29 = .ok (.aload_n 0, 1) := by decide +kernel
theorem dX7_begin_30 : decode cX7_begin 30 = .ok (.getfield 23, 3) := by decide +kernel
theorem dX7_begin_33 : decode cX7_begin 33 = .ok (.invokevirtual 83, 3) := by decide +kernel
theorem dX7_begin_36 : decode cX7_begin 36 = .ok (.return_, 1) := by decide +kernel
theorem dX7_faultAtEnd_0 : decode cX7_faultAtEnd 0 = .ok (.aload_n 0, 1) := by decide +kernel
theorem dX7_faultAtEnd_1 : decode cX7_faultAtEnd 1 = .ok (.getfield 75, 3) := by decide +kernel
theorem dX7_faultAtEnd_4 : decode cX7_faultAtEnd 4 = .ok (.ifCond .eq 5, 3) := by decide +kernel
theorem dX7_faultAtEnd_7 : decode cX7_faultAtEnd 7 = .ok (.iconst 2, 1) := by decide +kernel
theorem dX7_faultAtEnd_8 : decode cX7_faultAtEnd 8 = .ok (.ireturn, 1) := by decide +kernel
theorem dX7_faultAtEnd_9 : decode cX7_faultAtEnd 9 = .ok (.aload_n 0, 1) := by decide +kernel
theorem dX7_faultAtEnd_10 : decode cX7_faultAtEnd 10 = .ok (.getfield 50, 3) := by decide +kernel
theorem dX7_faultAtEnd_13 : decode cX7_faultAtEnd 13 = .ok (.ifCond .ne 13, 3) := by decide +kernel
theorem dX7_faultAtEnd_16 : decode cX7_faultAtEnd 16 = .ok (.aload_n 0, 1) := by decide +kernel
theorem dX7_faultAtEnd_17 : decode cX7_faultAtEnd 17 = .ok (.getfield 23, 3) := by decide +kernel
theorem dX7_faultAtEnd_20 : decode cX7_faultAtEnd 20 = .ok (.getfield 84, 3) := by decide +kernel
theorem dX7_faultAtEnd_23 : decode cX7_faultAtEnd 23 = .ok (.ifCond .le 7, 3) := by decide +kernel
theorem dX7_faultAtEnd_26 : decode cX7_faultAtEnd 26 = .ok (.iconst 4, 1) := by decide +kernel
theorem dX7_faultAtEnd_27 : decode cX7_faultAtEnd 27 = .ok (.goto 4, 3) := by decide +kernel
theorem dX7_faultAtEnd_30 : decode cX7_faultAtEnd 30 = .ok (.iconst 0, 1) := by decide +kernel
theorem dX7_faultAtEnd_31 : decode cX7_faultAtEnd 31 = .ok (.ireturn, 1) := by decide +kernel
theorem dX7_token_0 : decode cX7_token 0 = .ok (.iload_n 2, 1) := by decide +kernel
theorem dX7_token_1 : decode cX7_token 1 = .ok (.iconst 2, 1) := by decide +kernel
theorem dX7_token_2 : decode cX7_token 2 = .ok (.if_icmp .ne 18, 3) := by decide +kernel
theorem dX7_token_5 : decode cX7_token 5 = .ok (.aload_n 0, 1) := by decide +kernel
theorem dX7_token_6 : decode cX7_token 6 = .ok (.getfield 71, 3) := by decide +kernel
theorem dX7_token_9 : decode cX7_token 9 = .ok (.iload_n 1, 1) := by decide +kernel
theorem dX7_token_10 : decode cX7_token 10 = .ok (.caload, 1) := by decide +kernel
theorem dX7_token_11 : decode cX7_token 11 = .ok (.bipush 36, 2) := by decide +kernel
theorem dX7_token_13 : decode cX7_token 13 = .ok (.if_icmp .ne 7, 3) := by decide +kernel
theorem dX7_token_16 : decode cX7_token 16 = .ok (.iconst 1, 1) := by decide +kernel
theorem dX7_token_17 : decode cX7_token 17 = .ok (.goto 4, 3) := by decide +kernel
theorem dX7_token_20 : decode cX7_token 20 = .ok (.iconst 0, 1) := by decide +kernel
theorem dX7_token_21 : decode cX7_token 21 = .ok (.istore_n 3, 1) := by decide +kernel
theorem dX7_token_22 : decode cX7_token 22 = .ok (.iload_n 3, 1) := by decide +kernel
theorem dX7_token_23 : decode cX7_token 23 = .ok (.ifCond .eq 14, 3) := by decide +kernel
theorem dX7_token_26 : decode cX7_token 26 = .ok (.aload_n 0, 1) := by decide +kernel
theorem dX7_token_27 : decode cX7_token 27 = .ok (.getfield 71, 3) := by decide +kernel
theorem dX7_token_30 : decode cX7_token 30 = .ok (.iload_n 1, 1) := by decide +kernel
theorem dX7_token_31 : decode cX7_token 31 = .ok (.iconst 1, 1) := by decide +kernel
theorem dX7_token_32 : decode cX7_token 32 = .ok (.iadd, 1) := by decide +kernel
theorem dX7_token_33 : decode cX7_token 33 = .ok (.caload, 1) := by decide +kernel
theorem dX7_token_34 : decode cX7_token 34 = .ok (.goto 4, 3) := by decide +kernel
theorem dX7_token_37 : decode cX7_token 37 = .ok (.iconst 0, 1) := by decide +kernel
theorem dX7_token_38 : decode cX7_token 38 = .ok (.istore 4, 2) := by decide +kernel
theorem dX7_token_40 : decode cX7_token 40 = .ok (.aload_n 0, 1) := by decide +kernel
theorem dX7_token_41 : decode cX7_token 41 = .ok (.getfield 75, 3) := by decide +kernel
theorem dX7_token_44 : decode cX7_token 44 = .ok (.ifCond .eq 41, 3) := by decide +kernel
theorem dX7_token_47 : decode cX7_token 47 = .ok (.aload_n 0, 1) := by decide +kernel
theorem dX7_token_48 : decode cX7_token 48 = .ok (.iload 4, 2) := by decide +kernel
theorem dX7_token_50 : decode cX7_token 50 = .ok (.bipush 41, 2) := by decide +kernel
theorem dX7_token_52 : decode cX7_token 52 = .ok (.if_icmp .eq 7, 3) := by decide +kernel
theorem dX7_token_55 : decode cX7_token 55 = .ok (.iconst 1, 1) := by decide +kernel
theorem dX7_token_56 : decode cX7_token 56 = .ok (.goto 4, 3) := by decide +kernel
theorem dX7_token_59 : decode cX7_token 59 = .ok (.iconst 0, 1) := by decide +kernel
theorem dX7_token_60 : decode cX7_token 60 = .ok (.putfield 75, 3) := by decide +kernel
theorem dX7_token_63 : decode cX7_token 63 = .ok (.aload_n 0, 1) := by decide +kernel
theorem dX7_token_64 : decode cX7_token 64 = .ok (.getfield 75, 3) := by decide +kernel
theorem dX7_token_67 : decode cX7_token 67 = .ok (.ifCond .eq 16, 3) := by decide +kernel
theorem dX7_token_70 : decode cX7_token 70 = .ok (.aload_n 0, 1) := by decide +kernel
theorem dX7_token_71 : decode cX7_token 71 = .ok (.iload_n 1, 1) := by decide +kernel
theorem dX7_token_72 : decode cX7_token 72 = .ok (.iload_n 2, 1) := by decide +kernel
theorem dX7_token_73 : decode cX7_token 73 = .ok (.invokevirtual 87, 3) := by decide +kernel
theorem dX7_token_76 : decode cX7_token 76 = .ok (.ifCond .eq 7, 3) := by decide +kernel
theorem dX7_token_79 : decode cX7_token 79 = .ok (.iconst 2, 1) := by decide +kernel
theorem dX7_token_80 : decode cX7_token 80 = .ok (.goto 4, 3) := by decide +kernel
theorem dX7_token_83 : decode cX7_token 83 = .ok (.iconst 0, 1) := by decide +kernel
theorem dX7_token_84 : decode cX7_token 84 = .ok (.ireturn, 1) := by decide +kernel
theorem dX7_token_85 : decode cX7_token 85 = .ok (.iload 4, 2) := by decide +kernel
theorem dX7_token_87 : decode cX7_token 87 = .ok (.bipush 40, 2) := by decide +kernel
theorem dX7_token_89 : decode cX7_token 89 = .ok (.if_icmp .ne 10, 3) := by decide +kernel
theorem dX7_token_92 : decode cX7_token 92 = .ok (.aload_n 0, 1) := by decide +kernel
theorem dX7_token_93 : decode cX7_token 93 = .ok (.iconst 1, 1) := by decide +kernel
theorem dX7_token_94 : decode cX7_token 94 = .ok (.putfield 75, 3) := by decide +kernel
theorem dX7_token_97 : decode cX7_token 97 = .ok (.iconst 0, 1) := by decide +kernel
theorem dX7_token_98 : decode cX7_token 98 = .ok (.ireturn, 1) := by decide +kernel
theorem dX7_token_99 : decode cX7_token 99 = .ok (.iload 4, 2) := by decide +kernel
theorem dX7_token_101 : decode cX7_token 101 = .ok (.bipush 41, 2) := by decide +kernel
theorem dX7_token_103 : decode cX7_token 103 = .ok (.if_icmp .ne 5, 3) := by decide +kernel
theorem dX7_token_106 : decode cX7_token 106 = .ok (.iconst 2, 1) := by decide +kernel
theorem dX7_token_107 : decode cX7_token 107 = .ok (.ireturn, 1) := by decide +kernel
theorem dX7_token_108 : decode cX7_token 108 = .ok (.iload 4, 2) := by decide +kernel
theorem dX7_token_110 : decode cX7_token 110 = .ok (.bipush 46, 2) := by decide +kernel
theorem dX7_token_112 : decode cX7_token 112 = .ok (.if_icmp .ne 8, 3) := by decide +kernel
theorem dX7_token_115 : decode cX7_token 115 = .ok (.aload_n 0, 1) := by decide +kernel
theorem dX7_token_116 : decode cX7_token 116 = .ok (.invokevirtual 91, 3) := by decide +kernel
theorem dX7_token_119 : decode cX7_token 119 = .ok (.ireturn, 1) := by decide +kernel
theorem dX7_token_120 : decode cX7_token 120 = .ok (.iload_n 3, 1) := by decide +kernel
theorem dX7_token_121 : decode cX7_token 121 = .ok (.ifCond .eq 10, 3) := by decide +kernel
theorem dX7_token_124 : decode cX7_token 124 = .ok (.aload_n 0, 1) := by decide +kernel
theorem dX7_token_125 : decode cX7_token 125 = .ok (.iload 4, 2) := by decide +kernel
theorem dX7_token_127 : decode cX7_token 127 = .ok (.invokevirtual 94, 3) := by decide +kernel
theorem dX7_token_130 : decode cX7_token 130 = .ok (.ireturn, 1) := by decide +kernel
theorem dX7_token_131 : decode cX7_token 131 = .ok (.aload_n 0, 1) := by decide +kernel
theorem dX7_token_132 : decode cX7_token 132 = .ok (.iload_n 1, 1) := by decide +kernel
theorem dX7_token_133 : decode cX7_token 133 = .ok (.iload_n 2, 1) := by decide +kernel
theorem dX7_token_134 : decode cX7_token 134 = .ok (.invokevirtual 98, 3) := by decide +kernel
theorem dX7_token_137 : decode cX7_token 137 = .ok (.ifCond .eq 5, 3) := by decide +kernel
theorem dX7_token_140 : decode cX7_token 140 = .ok (.iconst 3, 1) := by decide +kernel
theorem dX7_token_141 : decode cX7_token 141 = .ok (.ireturn, 1) := by decide +kernel
theorem dX7_token_142 : decode cX7_token 142 = .ok (.aload_n 0, 1) := by decide +kernel
theorem dX7_token_143 : decode cX7_token 143 = .ok (.getfield 15, 3) := by decide +kernel
theorem dX7_token_146 : decode cX7_token 146 = .ok (.aload_n 0, 1) := by decide +kernel
theorem dX7_token_147 : decode cX7_token 147 = .ok (.getfield 71, 3) := by decide +kernel
theorem dX7_token_150 : decode cX7_token 150 = .ok (.iload_n 1, 1) := by decide +kernel
theorem dX7_token_151 : decode cX7_token 151 = .ok (.iload_n 2, 1) := by decide +kernel
theorem dX7_token_152 : decode cX7_token 152 = .ok (.invokevirtual 101, 3) := by decide +kernel
theorem dX7_token_155 : decode cX7_token 155 = .ok (.istore 5, 2) := by decide +kernel
theorem dX7_token_157 : decode cX7_token 157 = .ok (.aload_n 0, 1) := by decide +kernel
theorem dX7_token_158 : decode cX7_token 158 = .ok (.aload_n 0, 1) := by decide +kernel
theorem dX7_token_159 : decode cX7_token 159 = .ok (.getfield 15, 3) := by decide +kernel
theorem dX7_token_162 : decode cX7_token 162 = .ok (.iload 5, 2) := by decide +kernel
theorem dX7_token_164 : decode cX7_token 164 = .ok (.invokevirtual 104, 3) := by decide +kernel
theorem dX7_token_167 : decode cX7_token 167 = .ok (.putfield 107, 3) := by decide +kernel
theorem dX7_token_170 : decode cX7_token 170 = .ok (.aload_n 0, 1) := by decide +kernel
theorem dX7_token_171 : decode cX7_token 171 = .ok (.aload_n 0, 1) := by decide +kernel
theorem dX7_token_172 : decode cX7_token 172 = .ok (.getfield 15, 3) := by decide +kernel
theorem dX7_token_175 : decode cX7_token 175 = .ok (.iload 5, 2) := by decide +kernel
theorem dX7_token_177 : decode cX7_token 177 = .ok (.invokevirtual 110, 3) := by decide +kernel
theorem dX7_token_180 : decode cX7_token 180 = .ok (.putfield 113, 3) := by decide +kernel
theorem dX7_token_183 : decode cX7_token 183 = .ok (.aload_n 0, 1) := by decide +kernel
theorem dX7_token_184 : decode cX7_token 184 = .ok (.getfield 50, 3) := by decide +kernel
theorem dX7_token_187 : decode cX7_token 187 = .ok (.bipush 6, 2) := by decide +kernel
theorem dX7_token_189 : decode cX7_token 189 = .ok (.if_icmp .eq 10, 3) := by decide +kernel
theorem dX7_token_192 : decode cX7_token 192 = .ok (.aload_n 0, 1) := by decide +kernel
theorem dX7_token_193 : decode cX7_token 193 = .ok (.iload_n 1, 1) := by decide +kernel
theorem dX7_token_194 : decode cX7_token 194 = .ok (.iload_n 2, 1) := by decide +kernel
theorem dX7_token_195 : decode cX7_token 195 = .ok (.invokevirtual 116, 3) := by decide +kernel
theorem dX7_token_198 : decode cX7_token 198 = .ok (.ireturn, 1) := by decide +kernel
theorem dX7_token_199 : decode cX7_token 199 = .ok (.aload_n 0, 1) := by decide +kernel
theorem dX7_token_200 : decode cX7_token 200 = .ok (.getfield 27, 3) := by decide +kernel
theorem dX7_token_203 : decode cX7_token 203 = .ok (.aload_n 0, 1) := by decide +kernel
theorem dX7_token_204 : decode cX7_token 204 = .ok (.getfield 71, 3) := by decide +kernel
theorem dX7_token_207 : decode cX7_token 207 = .ok (.iload_n 1, 1) := by decide +kernel
theorem dX7_token_208 : decode cX7_token 208 = .ok (.iload_n 2, 1) := by decide +kernel
theorem dX7_token_209 : decode cX7_token 209 = .ok (.aload_n 0, 1) := by decide +kernel
theorem dX7_token_210 : decode cX7_token 210 = .ok (.getfield 113, 3) := by decide +kernel
theorem dX7_token_213 : decode cX7_token 213 = .ok (.invokevirtual 119, 3) := by decide +kernel
theorem dX7_token_216 : decode cX7_token 216 = .ok (.istore 6, 2) := by decide +kernel
theorem dX7_token_218 : decode cX7_token 218 = .ok (.aload_n 0, 1) := by decide +kernel
theorem dX7_token_219 : decode cX7_token 219 = .ok (.aload_n 0, 1) := by decide +kernel
theorem dX7_token_220 : decode cX7_token 220 = .ok (.getfield 27, 3) := by decide +kernel
theorem dX7_token_223 : decode cX7_token 223 = .ok (.getfield 124, 3) := by decide +kernel
theorem dX7_token_226 : decode cX7_token 226 = .ok (.putfield 42, 3) := by decide +kernel
theorem dX7_token_229 : decode cX7_token 229 = .ok (.iload 6, 2) := by decide +kernel
theorem dX7_token_231 : decode cX7_token 231 = .ok (.ireturn, 1) := by decide +kernel
