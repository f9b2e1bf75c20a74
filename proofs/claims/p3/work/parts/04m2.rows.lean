-- instructions
theorem dX13_stepBelow_0 : decode cX13_stepBelow 0 = .ok (.iconst (-1), 1) := by decide +kernel
theorem dX13_stepBelow_1 : decode cX13_stepBelow 1 = .ok (.istore_n 3, 1) := by decide +kernel
theorem dX13_stepBelow_2 : decode cX13_stepBelow 2 = .ok (.aload_n 0, 1) := by decide +kernel
theorem dX13_stepBelow_3 : decode cX13_stepBelow 3 = .ok (.getfield 272, 3) := by decide +kernel
theorem dX13_stepBelow_6 : decode cX13_stepBelow 6 = .ok (.iload_n 1, 1) := by decide +kernel
theorem dX13_stepBelow_7 : decode cX13_stepBelow 7 = .ok (.iaload, 1) := by decide +kernel
theorem dX13_stepBelow_8 : decode cX13_stepBelow 8 = .ok (.istore 4, 2) := by decide +kernel
theorem dX13_stepBelow_10 : decode cX13_stepBelow 10 = .ok (.iload 4, 2) := by decide +kernel
theorem dX13_stepBelow_12 : decode cX13_stepBelow 12 = .ok (.iconst (-1), 1) := by decide +kernel
theorem dX13_stepBelow_13 : decode cX13_stepBelow 13 = .ok (.if_icmp .eq 32, 3) := by decide +kernel
theorem dX13_stepBelow_16 : decode cX13_stepBelow 16 = .ok (.aload_n 0, 1) := by decide +kernel
theorem dX13_stepBelow_17 : decode cX13_stepBelow 17 = .ok (.getfield 266, 3) := by decide +kernel
theorem dX13_stepBelow_20 : decode cX13_stepBelow 20 = .ok (.iload 4, 2) := by decide +kernel
theorem dX13_stepBelow_22 : decode cX13_stepBelow 22 = .ok (.iaload, 1) := by decide +kernel
theorem dX13_stepBelow_23 : decode cX13_stepBelow 23 = .ok (.iload_n 2, 1) := by decide +kernel
theorem dX13_stepBelow_24 : decode cX13_stepBelow 24 = .ok (.if_icmp .ne 6, 3) := by decide +kernel
theorem dX13_stepBelow_27 : decode cX13_stepBelow 27 = .ok (.iload 4, 2) := by decide +kernel
theorem dX13_stepBelow_29 : decode cX13_stepBelow 29 = .ok (.ireturn, 1) := by decide +kernel
theorem dX13_stepBelow_30 : decode cX13_stepBelow 30 = .ok (.iload 4, 2) := by decide +kernel
theorem dX13_stepBelow_32 : decode cX13_stepBelow 32 = .ok (.istore_n 3, 1) := by decide +kernel
theorem dX13_stepBelow_33 : decode cX13_stepBelow 33 = .ok (.aload_n 0, 1) := by decide +kernel
theorem dX13_stepBelow_34 : decode cX13_stepBelow 34 = .ok (.getfield 275, 3) := by decide +kernel
theorem dX13_stepBelow_37 : decode cX13_stepBelow 37 = .ok (.iload 4, 2) := by decide +kernel
theorem dX13_stepBelow_39 : decode cX13_stepBelow 39 = .ok (.iaload, 1) := by decide +kernel
theorem dX13_stepBelow_40 : decode cX13_stepBelow 40 = .ok (.istore 4, 2) := by decide +kernel
theorem dX13_stepBelow_42 : decode cX13_stepBelow 42 = .ok (.goto (-32), 3) := by decide +kernel
theorem dX13_stepBelow_45 : decode cX13_stepBelow 45 = .ok (.aload_n 0, 1) := by decide +kernel
theorem dX13_stepBelow_46 : decode cX13_stepBelow 46 = .ok (.iload_n 1, 1) := by decide +kernel
theorem dX13_stepBelow_47 : decode cX13_stepBelow 47 = .ok (.iload_n 2, 1) := by decide +kernel
theorem dX13_stepBelow_48 : decode cX13_stepBelow 48 = .ok (.invokevirtual 827, 3) := by decide +kernel
theorem dX13_stepBelow_51 : decode cX13_stepBelow 51 = .ok (.istore 4, 2) := by decide +kernel
theorem dX13_stepBelow_53 : decode cX13_stepBelow 53 = .ok (.iload_n 3, 1) := by decide +kernel
theorem dX13_stepBelow_54 : decode cX13_stepBelow 54 = .ok (.iconst (-1), 1) := by decide +kernel
theorem dX13_stepBelow_55 : decode cX13_stepBelow 55 = .ok (.if_icmp .ne 14, 3) := by decide +kernel
theorem dX13_stepBelow_58 : decode cX13_stepBelow 58 = .ok (.aload_n 0, 1) := by decide +kernel
theorem dX13_stepBelow_59 : decode cX13_stepBelow 59 = .ok (.getfield 272, 3) := by decide +kernel
theorem dX13_stepBelow_62 : decode cX13_stepBelow 62 = .ok (.iload_n 1, 1) := by decide +kernel
theorem dX13_stepBelow_63 : decode cX13_stepBelow 63 = .ok (.iload 4, 2) := by decide +kernel
theorem dX13_stepBelow_65 : decode cX13_stepBelow 65 = .ok (.iastore, 1) := by decide +kernel
theorem dX13_stepBelow_66 : decode cX13_stepBelow 66 = .ok (.goto 11, 3) := by decide +kernel
theorem dX13_stepBelow_69 : decode cX13_stepBelow 69 = .ok (.aload_n 0, 1) := by decide +kernel
theorem dX13_stepBelow_70 : decode cX13_stepBelow 70 = .ok (.getfield 275, 3) := by decide +kernel
theorem dX13_stepBelow_73 : decode cX13_stepBelow 73 = .ok (.iload_n 3, 1) := by decide +kernel
theorem dX13_stepBelow_74 : decode cX13_stepBelow 74 = .ok (.iload 4, 2) := by decide +kernel
theorem dX13_stepBelow_76 : decode cX13_stepBelow 76 = .ok (.iastore, 1) := by decide +kernel
theorem dX13_stepBelow_77 : decode cX13_stepBelow 77 = .ok (.iload 4, 2) := by decide +kernel
theorem dX13_stepBelow_79 : decode cX13_stepBelow 79 = .ok (.ireturn, 1) := by decide +kernel
theorem dX13_treeRule_0 : decode cX13_treeRule 0 = .ok (.aload_n 0, 1) := by decide +kernel
theorem dX13_treeRule_1 : decode cX13_treeRule 1 = .ok (.iconst 0, 1) := by decide +kernel
theorem dX13_treeRule_2 : decode cX13_treeRule 2 = .ok (.aload_n 0, 1) := by decide +kernel
theorem dX13_treeRule_3 : decode cX13_treeRule 3 = .ok (.getfield 60, 3) := by decide +kernel
theorem dX13_treeRule_6 : decode cX13_treeRule 6 = .ok (.aload_n 0, 1) := by decide +kernel
theorem dX13_treeRule_7 : decode cX13_treeRule 7 = .ok (.getfield 54, 3) := by decide +kernel
theorem dX13_treeRule_10 : decode cX13_treeRule 10 = .ok (.iload_n 1, 1) := by decide +kernel
theorem dX13_treeRule_11 : decode cX13_treeRule 11 = .ok (.iaload, 1) := by decide +kernel
theorem dX13_treeRule_12 : decode cX13_treeRule 12 = .ok (.iaload, 1) := by decide +kernel
theorem dX13_treeRule_13 : decode cX13_treeRule 13 = .ok (.invokevirtual 831, 3) := by decide +kernel
theorem dX13_treeRule_16 : decode cX13_treeRule 16 = .ok (.istore_n 2, 1) := by decide +kernel
theorem dX13_treeRule_17 : decode cX13_treeRule 17 = .ok (.aload_n 0, 1) := by decide +kernel
theorem dX13_treeRule_18 : decode cX13_treeRule 18 = .ok (.getfield 284, 3) := by decide +kernel
theorem dX13_treeRule_21 : decode cX13_treeRule 21 = .ok (.iload_n 2, 1) := by decide +kernel
theorem dX13_treeRule_22 : decode cX13_treeRule 22 = .ok (.iload_n 1, 1) := by decide +kernel
theorem dX13_treeRule_23 : decode cX13_treeRule 23 = .ok (.aload_n 0, 1) := by decide +kernel
theorem dX13_treeRule_24 : decode cX13_treeRule 24 = .ok (.getfield 284, 3) := by decide +kernel
theorem dX13_treeRule_27 : decode cX13_treeRule 27 = .ok (.iload_n 2, 1) := by decide +kernel
theorem dX13_treeRule_28 : decode cX13_treeRule 28 = .ok (.iaload, 1) := by decide +kernel
theorem dX13_treeRule_29 : decode cX13_treeRule 29 = .ok (.if_icmp .ge 7, 3) := by decide +kernel
theorem dX13_treeRule_32 : decode cX13_treeRule 32 = .ok (.iload_n 1, 1) := by decide +kernel
theorem dX13_treeRule_33 : decode cX13_treeRule 33 = .ok (.goto 9, 3) := by decide +kernel
theorem dX13_treeRule_36 : decode cX13_treeRule 36 = .ok (.aload_n 0, 1) := by decide +kernel
theorem dX13_treeRule_37 : decode cX13_treeRule 37 = .ok (.getfield 284, 3) := by decide +kernel
theorem dX13_treeRule_40 : decode cX13_treeRule 40 = .ok (.iload_n 2, 1) := by decide +kernel
theorem dX13_treeRule_41 : decode cX13_treeRule 41 = .ok (.iaload, 1) := by decide +kernel
theorem dX13_treeRule_42 : decode cX13_treeRule 42 = .ok (.iastore, 1) := by decide +kernel
theorem dX13_treeRule_43 : decode cX13_treeRule 43 = .ok (.aload_n 0, 1) := by decide +kernel
theorem dX13_treeRule_44 : decode cX13_treeRule 44 = .ok (.getfield 54, 3) := by decide +kernel
theorem dX13_treeRule_47 : decode cX13_treeRule 47 = .ok (.iload_n 1, 1) := by decide +kernel
theorem dX13_treeRule_48 : decode cX13_treeRule 48 = .ok (.iaload, 1) := by decide +kernel
theorem dX13_treeRule_49 : decode cX13_treeRule 49 = .ok (.iconst 1, 1) := by decide +kernel
theorem dX13_treeRule_50 : decode cX13_treeRule 50 = .ok (.iadd, 1) := by decide +kernel
theorem dX13_treeRule_51 : decode cX13_treeRule 51 = .ok (.istore_n 3, 1) := by decide +kernel
theorem dX13_treeRule_52 : decode cX13_treeRule 52 = .ok (.iload_n 3, 1) := by decide +kernel
theorem dX13_treeRule_53 : decode cX13_treeRule 53 = .ok (.aload_n 0, 1) := by decide +kernel
theorem dX13_treeRule_54 : decode cX13_treeRule 54 = .ok (.getfield 54, 3) := by decide +kernel
theorem dX13_treeRule_57 : decode cX13_treeRule 57 = .ok (.iload_n 1, 1) := by decide +kernel
theorem dX13_treeRule_58 : decode cX13_treeRule 58 = .ok (.iaload, 1) := by decide +kernel
theorem dX13_treeRule_59 : decode cX13_treeRule 59 = .ok (.aload_n 0, 1) := by decide +kernel
theorem dX13_treeRule_60 : decode cX13_treeRule 60 = .ok (.getfield 57, 3) := by decide +kernel
theorem dX13_treeRule_63 : decode cX13_treeRule 63 = .ok (.iload_n 1, 1) := by decide +kernel
theorem dX13_treeRule_64 : decode cX13_treeRule 64 = .ok (.iaload, 1) := by decide +kernel
theorem dX13_treeRule_65 : decode cX13_treeRule 65 = .ok (.iadd, 1) := by decide +kernel
theorem dX13_treeRule_66 : decode cX13_treeRule 66 = .ok (.if_icmp .ge 74, 3) := by decide +kernel
theorem dX13_treeRule_69 : decode cX13_treeRule 69 = .ok (.aload_n 0, 1) := by decide +kernel
theorem dX13_treeRule_70 : decode cX13_treeRule 70 = .ok (.getfield 60, 3) := by decide +kernel
theorem dX13_treeRule_73 : decode cX13_treeRule 73 = .ok (.iload_n 3, 1) := by decide +kernel
theorem dX13_treeRule_74 : decode cX13_treeRule 74 = .ok (.iaload, 1) := by decide +kernel
theorem dX13_treeRule_75 : decode cX13_treeRule 75 = .ok (.istore 4, 2) := by decide +kernel
theorem dX13_treeRule_77 : decode cX13_treeRule 77 = .ok (.aload_n 0, 1) := by decide +kernel
theorem dX13_treeRule_78 : decode cX13_treeRule 78 = .ok (.iload_n 2, 1) := by decide +kernel
theorem dX13_treeRule_79 : decode cX13_treeRule 79 = .ok (.aload_n 0, 1) := by decide +kernel
theorem dX13_treeRule_80 : decode cX13_treeRule 80 = .ok (.getfield 35, 3) := by decide +kernel
theorem dX13_treeRule_83 : decode cX13_treeRule 83 = .ok (.iload 4, 2) := by decide +kernel
theorem dX13_treeRule_85 : decode cX13_treeRule 85 = .ok (.baload, 1) := by decide +kernel
theorem dX13_treeRule_86 : decode cX13_treeRule 86 = .ok (.ifCond .eq 16, 3) := by decide +kernel
theorem dX13_treeRule_89 : decode cX13_treeRule 89 = .ok (.bipush (-2), 2) := by decide +kernel
theorem dX13_treeRule_91 : decode cX13_treeRule 91 = .ok (.aload_n 0, 1) := by decide +kernel
theorem dX13_treeRule_92 : decode cX13_treeRule 92 = .ok (.getfield 42, 3) := by decide +kernel
theorem dX13_treeRule_95 : decode cX13_treeRule 95 = .ok (.iload 4, 2) := by decide +kernel
theorem dX13_treeRule_97 : decode cX13_treeRule 97 = .ok (.iaload, 1) := by decide +kernel
theorem dX13_treeRule_98 : decode cX13_treeRule 98 = .ok (.isub, 1) := by decide +kernel
theorem dX13_treeRule_99 : decode cX13_treeRule 99 = .ok (.goto 5, 3) := by decide +kernel
theorem dX13_treeRule_102 : decode cX13_treeRule 102 = .ok (.iload 4, 2) := by decide +kernel
theorem dX13_treeRule_104 : decode cX13_treeRule 104 = .ok (.invokevirtual 831, 3) := by decide +kernel
theorem dX13_treeRule_107 : decode cX13_treeRule 107 = .ok (.istore_n 2, 1) := by decide +kernel
theorem dX13_treeRule_108 : decode cX13_treeRule 108 = .ok (.aload_n 0, 1) := by decide +kernel
theorem dX13_treeRule_109 : decode cX13_treeRule 109 = .ok (.getfield 284, 3) := by decide +kernel
theorem dX13_treeRule_112 : decode cX13_treeRule 112 = .ok (.iload_n 2, 1) := by decide +kernel
theorem dX13_treeRule_113 : decode cX13_treeRule 113 = .ok (.iload_n 1, 1) := by decide +kernel
theorem dX13_treeRule_114 : decode cX13_treeRule 114 = .ok (.aload_n 0, 1) := by decide +kernel
theorem dX13_treeRule_115 : decode cX13_treeRule 115 = .ok (.getfield 284, 3) := by decide +kernel
theorem dX13_treeRule_118 : decode cX13_treeRule 118 = .ok (.iload_n 2, 1) := by decide +kernel
theorem dX13_treeRule_119 : decode cX13_treeRule 119 = .ok (.iaload, 1) := by decide +kernel
theorem dX13_treeRule_120 : decode cX13_treeRule 120 = .ok (.if_icmp .ge 7, 3) := by decide +kernel
theorem dX13_treeRule_123 : decode cX13_treeRule 123 = .ok (.iload_n 1, 1) := by decide +kernel
theorem dX13_treeRule_124 : decode cX13_treeRule 124 = .ok (.goto 9, 3) := by decide +kernel
theorem dX13_treeRule_127 : decode cX13_treeRule 127 = .ok (.aload_n 0, 1) := by decide +kernel
theorem dX13_treeRule_128 : decode cX13_treeRule 128 = .ok (.getfield 284, 3) := by decide +kernel
theorem dX13_treeRule_131 : decode cX13_treeRule 131 = .ok (.iload_n 2, 1) := by decide +kernel
theorem dX13_treeRule_132 : decode cX13_treeRule 132 = .ok (.iaload, 1) := by decide +kernel
theorem dX13_treeRule_133 : decode cX13_treeRule 133 = .ok (.iastore, 1) := by decide +kernel
theorem dX13_treeRule_134 : decode cX13_treeRule 134 = .ok (.iinc 3 1, 3) := by decide +kernel
theorem dX13_treeRule_137 : decode cX13_treeRule 137 = .ok (.goto (-85), 3) := by decide +kernel
theorem dX13_treeRule_140 : decode cX13_treeRule 140 = .ok (.aload_n 0, 1) := by decide +kernel
theorem dX13_treeRule_141 : decode cX13_treeRule 141 = .ok (.getfield 278, 3) := by decide +kernel
theorem dX13_treeRule_144 : decode cX13_treeRule 144 = .ok (.iload_n 2, 1) := by decide +kernel
theorem dX13_treeRule_145 : decode cX13_treeRule 145 = .ok (.iaload, 1) := by decide +kernel
theorem dX13_treeRule_146 : decode cX13_treeRule 146 = .ok (.sipush 1500, 3) := by decide +kernel
theorem dX13_treeRule_149 : decode cX13_treeRule 149 = .ok (.if_icmp .ne 13, 3) := by decide +kernel
theorem dX13_treeRule_152 : decode cX13_treeRule 152 = .ok (.aload_n 0, 1) := by decide +kernel
theorem dX13_treeRule_153 : decode cX13_treeRule 153 = .ok (.getfield 278, 3) := by decide +kernel
theorem dX13_treeRule_156 : decode cX13_treeRule 156 = .ok (.iload_n 2, 1) := by decide +kernel
theorem dX13_treeRule_157 : decode cX13_treeRule 157 = .ok (.iload_n 1, 1) := by decide +kernel
theorem dX13_treeRule_158 : decode cX13_treeRule 158 = .ok (.iastore, 1) := by decide +kernel
theorem dX13_treeRule_159 : decode cX13_treeRule 159 = .ok (.goto 22, 3) := by decide +kernel
theorem dX13_treeRule_162 : decode cX13_treeRule 162 = .ok (.aload_n 0, 1) := by decide +kernel
theorem dX13_treeRule_163 : decode cX13_treeRule 163 = .ok (.getfield 281, 3) := by decide +kernel
theorem dX13_treeRule_166 : decode cX13_treeRule 166 = .ok (.iload_n 2, 1) := by decide +kernel
theorem dX13_treeRule_167 : decode cX13_treeRule 167 = .ok (.iaload, 1) := by decide +kernel
theorem dX13_treeRule_168 : decode cX13_treeRule 168 = .ok (.sipush 1500, 3) := by decide +kernel
theorem dX13_treeRule_171 : decode cX13_treeRule 171 = .ok (.if_icmp .ne 10, 3) := by decide +kernel
theorem dX13_treeRule_174 : decode cX13_treeRule 174 = .ok (.aload_n 0, 1) := by decide +kernel
theorem dX13_treeRule_175 : decode cX13_treeRule 175 = .ok (.getfield 281, 3) := by decide +kernel
theorem dX13_treeRule_178 : decode cX13_treeRule 178 = .ok (.iload_n 2, 1) := by decide +kernel
theorem dX13_treeRule_179 : decode cX13_treeRule 179 = .ok (.iload_n 1, 1) := by decide +kernel
theorem dX13_treeRule_180 : decode cX13_treeRule 180 = .ok (.iastore, 1) := by decide +kernel
theorem dX13_treeRule_181 : decode cX13_treeRule 181 = .ok (.return_, 1) := by decide +kernel
theorem dX13_treeRules_0 : decode cX13_treeRules 0 = .ok (.aload_n 0, 1) := by decide +kernel
theorem dX13_treeRules_1 : decode cX13_treeRules 1 = .ok (.iconst 0, 1) := by decide +kernel
theorem dX13_treeRules_2 : decode cX13_treeRules 2 = .ok (.putfield 824, 3) := by decide +kernel
theorem dX13_treeRules_5 : decode cX13_treeRules 5 = .ok (.aload_n 0, 1) := by decide +kernel
theorem dX13_treeRules_6 : decode cX13_treeRules 6 = .ok (.iconst 0, 1) := by decide +kernel
theorem dX13_treeRules_7 : decode cX13_treeRules 7 = .ok (.putfield 834, 3) := by decide +kernel
theorem dX13_treeRules_10 : decode cX13_treeRules 10 = .ok (.aload_n 0, 1) := by decide +kernel
theorem dX13_treeRules_11 : decode cX13_treeRules 11 = .ok (.iconst (-1), 1) := by decide +kernel
theorem dX13_treeRules_12 : decode cX13_treeRules 12 = .ok (.iconst (-1), 1) := by decide +kernel
theorem dX13_treeRules_13 : decode cX13_treeRules 13 = .ok (.invokevirtual 827, 3) := by decide +kernel
theorem dX13_treeRules_16 : decode cX13_treeRules 16 = .ok (.pop, 1) := by decide +kernel
theorem dX13_treeRules_17 : decode cX13_treeRules 17 = .ok (.iconst 0, 1) := by decide +kernel
theorem dX13_treeRules_18 : decode cX13_treeRules 18 = .ok (.istore_n 1, 1) := by decide +kernel
theorem dX13_treeRules_19 : decode cX13_treeRules 19 = .ok (.iload_n 1, 1) := by decide +kernel
theorem dX13_treeRules_20 : decode cX13_treeRules 20 = .ok (.aload_n 0, 1) := by decide +kernel
theorem dX13_treeRules_21 : decode cX13_treeRules 21 = .ok (.getfield 512, 3) := by decide +kernel
theorem dX13_treeRules_24 : decode cX13_treeRules 24 = .ok (.if_icmp .ge 64, 3) := by decide +kernel
theorem dX13_treeRules_27 : decode cX13_treeRules 27 = .ok (.aload_n 0, 1) := by decide +kernel
theorem dX13_treeRules_28 : decode cX13_treeRules 28 = .ok (.getfield 57, 3) := by decide +kernel
theorem dX13_treeRules_31 : decode cX13_treeRules 31 = .ok (.iload_n 1, 1) := by decide +kernel
theorem dX13_treeRules_32 : decode cX13_treeRules 32 = .ok (.iaload, 1) := by decide +kernel
theorem dX13_treeRules_33 : decode cX13_treeRules 33 = .ok (.bipush 60, 2) := by decide +kernel
theorem dX13_treeRules_35 : decode cX13_treeRules 35 = .ok (.if_icmp .gt 47, 3) := by decide +kernel
theorem dX13_treeRules_38 : decode cX13_treeRules 38 = .ok (.aload_n 0, 1) := by decide +kernel
theorem dX13_treeRules_39 : decode cX13_treeRules 39 = .ok (.iload_n 1, 1) := by decide +kernel
theorem dX13_treeRules_40 : decode cX13_treeRules 40 = .ok (.invokevirtual 837, 3) := by decide +kernel
theorem dX13_treeRules_43 : decode cX13_treeRules 43 = .ok (.ifCond .eq 39, 3) := by decide +kernel
theorem dX13_treeRules_46 : decode cX13_treeRules 46 = .ok (.aload_n 0, 1) := by decide +kernel
theorem dX13_treeRules_47 : decode cX13_treeRules 47 = .ok (.iload_n 1, 1) := by decide +kernel
theorem dX13_treeRules_48 : decode cX13_treeRules 48 = .ok (.invokevirtual 840, 3) := by decide +kernel
theorem dX13_treeRules_51 : decode cX13_treeRules 51 = .ok (.ifCond .eq 26, 3) := by decide +kernel
theorem dX13_treeRules_54 : decode cX13_treeRules 54 = .ok (.aload_n 0, 1) := by decide +kernel
theorem dX13_treeRules_55 : decode cX13_treeRules 55 = .ok (.getfield 293, 3) := by decide +kernel
theorem dX13_treeRules_58 : decode cX13_treeRules 58 = .ok (.aload_n 0, 1) := by decide +kernel
theorem dX13_treeRules_59 : decode cX13_treeRules 59 = .ok (.getfield 834, 3) := by decide +kernel
theorem dX13_treeRules_62 : decode cX13_treeRules 62 = .ok (.iload_n 1, 1) := by decide +kernel
theorem dX13_treeRules_63 : decode cX13_treeRules 63 = .ok (.iastore, 1) := by decide +kernel
theorem dX13_treeRules_64 : decode cX13_treeRules 64 = .ok (.aload_n 0, 1) := by decide +kernel
theorem dX13_treeRules_65 : decode cX13_treeRules 65 = .ok (.dup, 1) := by decide +kernel
theorem dX13_treeRules_66 : decode cX13_treeRules 66 = .ok (.getfield 834, 3) := by decide +kernel
theorem dX13_treeRules_69 : decode cX13_treeRules 69 = .ok (.iconst 1, 1) := by decide +kernel
theorem dX13_treeRules_70 : decode cX13_treeRules 70 = .ok (.iadd, 1) := by decide +kernel
theorem dX13_treeRules_71 : decode cX13_treeRules 71 = .ok (.putfield 834, 3) := by decide +kernel
theorem dX13_treeRules_74 : decode cX13_treeRules 74 = .ok (.goto 8, 3) := by decide +kernel
theorem dX13_treeRules_77 : decode cX13_treeRules 77 = .ok (.aload_n 0, 1) := by decide +kernel
theorem dX13_treeRules_78 : decode cX13_treeRules 78 = .ok (.iload_n 1, 1) := by decide +kernel
theorem dX13_treeRules_79 : decode cX13_treeRules 79 = .ok (.invokevirtual 843, 3) := by decide +kernel
theorem dX13_treeRules_82 : decode cX13_treeRules 82 = .ok (.iinc 1 1, 3) := by decide +kernel
theorem dX13_treeRules_85 : decode cX13_treeRules 85 = .ok (.goto (-66), 3) := by decide +kernel
theorem dX13_treeRules_88 : decode cX13_treeRules 88 = .ok (.aload_n 0, 1) := by decide +kernel
theorem dX13_treeRules_89 : decode cX13_treeRules 89 = .ok (.iconst 1, 1) := by decide +kernel
theorem dX13_treeRules_90 : decode cX13_treeRules 90 = .ok (.putfield 846, 3) := by decide +kernel
theorem dX13_treeRules_93 : decode cX13_treeRules 93 = .ok (.return_, 1) := by decide +kernel
theorem dX13_closeUnits_0 : decode cX13_closeUnits 0 = .ok (.iconst 0, 1) := by decide +kernel
theorem dX13_closeUnits_1 : decode cX13_closeUnits 1 = .ok (.istore 4, 2) := by decide +kernel
theorem dX13_closeUnits_3 : decode cX13_closeUnits 3 = .ok (.iload 4, 2) := by decide +kernel
theorem dX13_closeUnits_5 : decode cX13_closeUnits 5 = .ok (.aload_n 0, 1) := by decide +kernel
theorem dX13_closeUnits_6 : decode cX13_closeUnits 6 = .ok (.getfield 814, 3) := by decide +kernel
theorem dX13_closeUnits_9 : decode cX13_closeUnits 9 = .ok (.if_icmp .ge 29, 3) := by decide +kernel
theorem dX13_closeUnits_12 : decode cX13_closeUnits 12 = .ok (.aload_n 0, 1) := by decide +kernel
theorem dX13_closeUnits_13 : decode cX13_closeUnits 13 = .ok (.getfield 317, 3) := by decide +kernel
theorem dX13_closeUnits_16 : decode cX13_closeUnits 16 = .ok (.iload 4, 2) := by decide +kernel
theorem dX13_closeUnits_18 : decode cX13_closeUnits 18 = .ok (.aload_n 0, 1) := by decide +kernel
theorem dX13_closeUnits_19 : decode cX13_closeUnits 19 = .ok (.getfield 254, 3) := by decide +kernel
theorem dX13_closeUnits_22 : decode cX13_closeUnits 22 = .ok (.aload_n 0, 1) := by decide +kernel
theorem dX13_closeUnits_23 : decode cX13_closeUnits 23 = .ok (.iload 4, 2) := by decide +kernel
theorem dX13_closeUnits_25 : decode cX13_closeUnits 25 = .ok (.iload_n 1, 1) := by decide +kernel
theorem dX13_closeUnits_26 : decode cX13_closeUnits 26 = .ok (.iload_n 2, 1) := by decide +kernel
theorem dX13_closeUnits_27 : decode cX13_closeUnits 27 = .ok (.invokevirtual 817, 3) := by decide +kernel
theorem dX13_closeUnits_30 : decode cX13_closeUnits 30 = .ok (.iaload, 1) := by decide +kernel
theorem dX13_closeUnits_31 : decode cX13_closeUnits 31 = .ok (.iastore, 1) := by decide +kernel
theorem dX13_closeUnits_32 : decode cX13_closeUnits 32 = .ok (.iinc 4 1, 3) := by decide +kernel
theorem dX13_closeUnits_35 : decode cX13_closeUnits 35 = .ok (.goto (-32), 3) := by decide +kernel
theorem dX13_closeUnits_38 : decode cX13_closeUnits 38 = .ok (.aload_n 0, 1) := by decide +kernel
theorem dX13_closeUnits_39 : decode cX13_closeUnits 39 = .ok (.getfield 834, 3) := by decide +kernel
theorem dX13_closeUnits_42 : decode cX13_closeUnits 42 = .ok (.ifCond .le 7, 3) := by decide +kernel
theorem dX13_closeUnits_45 : decode cX13_closeUnits 45 = .ok (.iconst 1, 1) := by decide +kernel
theorem dX13_closeUnits_46 : decode cX13_closeUnits 46 = .ok (.goto 4, 3) := by decide +kernel
theorem dX13_closeUnits_49 : decode cX13_closeUnits 49 = .ok (.iconst 0, 1) := by decide +kernel
theorem dX13_closeUnits_50 : decode cX13_closeUnits 50 = .ok (.istore 4, 2) := by decide +kernel
theorem dX13_closeUnits_52 : decode cX13_closeUnits 52 = .ok (.iload 4, 2) := by decide +kernel
theorem dX13_closeUnits_54 : decode cX13_closeUnits 54 = .ok (.ifCond .eq 245, 3) := by decide +kernel
theorem dX13_closeUnits_57 : decode cX13_closeUnits 57 = .ok (.iconst 0, 1) := by decide +kernel
theorem dX13_closeUnits_58 : decode cX13_closeUnits 58 = .ok (.istore 5, 2) := by decide +kernel
theorem dX13_closeUnits_60 : decode cX13_closeUnits 60 = .ok (.iload 5, 2) := by decide +kernel
theorem dX13_closeUnits_62 : decode cX13_closeUnits 62 = .ok (.aload_n 0, 1) := by decide +kernel
theorem dX13_closeUnits_63 : decode cX13_closeUnits 63 = .ok (.getfield 814, 3) := by decide +kernel
theorem dX13_closeUnits_66 : decode cX13_closeUnits 66 = .ok (.if_icmp .ge 23, 3) := by decide +kernel
theorem dX13_closeUnits_69 : decode cX13_closeUnits 69 = .ok (.aload_n 0, 1) := by decide +kernel
theorem dX13_closeUnits_70 : decode cX13_closeUnits 70 = .ok (.getfield 320, 3) := by decide +kernel
theorem dX13_closeUnits_73 : decode cX13_closeUnits 73 = .ok (.iload 5, 2) := by decide +kernel
theorem dX13_closeUnits_75 : decode cX13_closeUnits 75 = .ok (.aload_n 0, 1) := by decide +kernel
theorem dX13_closeUnits_76 : decode cX13_closeUnits 76 = .ok (.getfield 317, 3) := by decide +kernel
theorem dX13_closeUnits_79 : decode cX13_closeUnits 79 = .ok (.iload 5, 2) := by decide +kernel
theorem dX13_closeUnits_81 : decode cX13_closeUnits 81 = .ok (.iaload, 1) := by decide +kernel
theorem dX13_closeUnits_82 : decode cX13_closeUnits 82 = .ok (.iastore, 1) := by decide +kernel
theorem dX13_closeUnits_83 : decode cX13_closeUnits 83 = .ok (.iinc 5 1, 3) := by decide +kernel
theorem dX13_closeUnits_86 : decode cX13_closeUnits 86 = .ok (.goto (-26), 3) := by decide +kernel
theorem dX13_closeUnits_89 : decode cX13_closeUnits 89 = .ok (.iconst 0, 1) := by decide +kernel
theorem dX13_closeUnits_90 : decode cX13_closeUnits 90 = .ok (.istore 5, 2) := by decide +kernel
theorem dX13_closeUnits_92 : decode cX13_closeUnits 92 = .ok (.iload 5, 2) := by decide +kernel
theorem dX13_closeUnits_94 : decode cX13_closeUnits 94 = .ok (.aload_n 0, 1) := by decide +kernel
theorem dX13_closeUnits_95 : decode cX13_closeUnits 95 = .ok (.getfield 834, 3) := by decide +kernel
theorem dX13_closeUnits_98 : decode cX13_closeUnits 98 = .ok (.if_icmp .ge 116, 3) := by decide +kernel
theorem dX13_closeUnits_101 : decode cX13_closeUnits 101 = .ok (.aload_n 0, 1) := by decide +kernel
theorem dX13_closeUnits_102 : decode cX13_closeUnits 102 = .ok (.getfield 293, 3) := by decide +kernel
theorem dX13_closeUnits_105 : decode cX13_closeUnits 105 = .ok (.iload 5, 2) := by decide +kernel
theorem dX13_closeUnits_107 : decode cX13_closeUnits 107 = .ok (.iaload, 1) := by decide +kernel
theorem dX13_closeUnits_108 : decode cX13_closeUnits 108 = .ok (.iload_n 3, 1) := by decide +kernel
theorem dX13_closeUnits_109 : decode cX13_closeUnits 109 = .ok (.if_icmp .ge 105, 3) := by decide +kernel
theorem dX13_closeUnits_112 : decode cX13_closeUnits 112 = .ok (.aload_n 0, 1) := by decide +kernel
theorem dX13_closeUnits_113 : decode cX13_closeUnits 113 = .ok (.getfield 241, 3) := by decide +kernel
theorem dX13_closeUnits_116 : decode cX13_closeUnits 116 = .ok (.aload_n 0, 1) := by decide +kernel
theorem dX13_closeUnits_117 : decode cX13_closeUnits 117 = .ok (.getfield 60, 3) := by decide +kernel
theorem dX13_closeUnits_120 : decode cX13_closeUnits 120 = .ok (.aload_n 0, 1) := by decide +kernel
theorem dX13_closeUnits_121 : decode cX13_closeUnits 121 = .ok (.getfield 54, 3) := by decide +kernel
theorem dX13_closeUnits_124 : decode cX13_closeUnits 124 = .ok (.aload_n 0, 1) := by decide +kernel
theorem dX13_closeUnits_125 : decode cX13_closeUnits 125 = .ok (.getfield 293, 3) := by decide +kernel
theorem dX13_closeUnits_128 : decode cX13_closeUnits 128 = .ok (.iload 5, 2) := by decide +kernel
theorem dX13_closeUnits_130 : decode cX13_closeUnits 130 = .ok (.iaload, 1) := by decide +kernel
theorem dX13_closeUnits_131 : decode cX13_closeUnits 131 = .ok (.iaload, 1) := by decide +kernel
theorem dX13_closeUnits_132 : decode cX13_closeUnits 132 = .ok (.iaload, 1) := by decide +kernel
theorem dX13_closeUnits_133 : decode cX13_closeUnits 133 = .ok (.iaload, 1) := by decide +kernel
theorem dX13_closeUnits_134 : decode cX13_closeUnits 134 = .ok (.istore 6, 2) := by decide +kernel
theorem dX13_closeUnits_136 : decode cX13_closeUnits 136 = .ok (.aload_n 0, 1) := by decide +kernel
theorem dX13_closeUnits_137 : decode cX13_closeUnits 137 = .ok (.getfield 241, 3) := by decide +kernel
theorem dX13_closeUnits_140 : decode cX13_closeUnits 140 = .ok (.aload_n 0, 1) := by decide +kernel
theorem dX13_closeUnits_141 : decode cX13_closeUnits 141 = .ok (.getfield 42, 3) := by decide +kernel
theorem dX13_closeUnits_144 : decode cX13_closeUnits 144 = .ok (.aload_n 0, 1) := by decide +kernel
theorem dX13_closeUnits_145 : decode cX13_closeUnits 145 = .ok (.getfield 60, 3) := by decide +kernel
theorem dX13_closeUnits_148 : decode cX13_closeUnits 148 = .ok (.aload_n 0, 1) := by decide +kernel
theorem dX13_closeUnits_149 : decode cX13_closeUnits 149 = .ok (.getfield 54, 3) := by decide +kernel
theorem dX13_closeUnits_152 : decode cX13_closeUnits 152 = .ok (.aload_n 0, 1) := by decide +kernel
theorem dX13_closeUnits_153 : decode cX13_closeUnits 153 = .ok (.getfield 293, 3) := by decide +kernel
theorem dX13_closeUnits_156 : decode cX13_closeUnits 156 = .ok (.iload 5, 2) := by decide +kernel
theorem dX13_closeUnits_158 : decode cX13_closeUnits 158 = .ok (.iaload, 1) := by decide +kernel
theorem dX13_closeUnits_159 : decode cX13_closeUnits 159 = .ok (.iaload, 1) := by decide +kernel
theorem dX13_closeUnits_160 : decode cX13_closeUnits 160 = .ok (.iconst 1, 1) := by decide +kernel
theorem dX13_closeUnits_161 : decode cX13_closeUnits 161 = .ok (.iadd, 1) := by decide +kernel
theorem dX13_closeUnits_162 : decode cX13_closeUnits 162 = .ok (.iaload, 1) := by decide +kernel
theorem dX13_closeUnits_163 : decode cX13_closeUnits 163 = .ok (.iaload, 1) := by decide +kernel
theorem dX13_closeUnits_164 : decode cX13_closeUnits 164 = .ok (.iaload, 1) := by decide +kernel
theorem dX13_closeUnits_165 : decode cX13_closeUnits 165 = .ok (.istore 7, 2) := by decide +kernel
theorem dX13_closeUnits_167 : decode cX13_closeUnits 167 = .ok (.aload_n 0, 1) := by decide +kernel
theorem dX13_closeUnits_168 : decode cX13_closeUnits 168 = .ok (.getfield 320, 3) := by decide +kernel
theorem dX13_closeUnits_171 : decode cX13_closeUnits 171 = .ok (.iload 6, 2) := by decide +kernel
theorem dX13_closeUnits_173 : decode cX13_closeUnits 173 = .ok (.aload_n 0, 1) := by decide +kernel
theorem dX13_closeUnits_174 : decode cX13_closeUnits 174 = .ok (.getfield 320, 3) := by decide +kernel
theorem dX13_closeUnits_177 : decode cX13_closeUnits 177 = .ok (.iload 6, 2) := by decide +kernel
theorem dX13_closeUnits_179 : decode cX13_closeUnits 179 = .ok (.iaload, 1) := by decide +kernel
theorem dX13_closeUnits_180 : decode cX13_closeUnits 180 = .ok (.iload 7, 2) := by decide +kernel
theorem dX13_closeUnits_182 : decode cX13_closeUnits 182 = .ok (.iconst (-1), 1) := by decide +kernel
theorem dX13_closeUnits_183 : decode cX13_closeUnits 183 = .ok (.if_icmp .ne 7, 3) := by decide +kernel
theorem dX13_closeUnits_186 : decode cX13_closeUnits 186 = .ok (.iconst 0, 1) := by decide +kernel
theorem dX13_closeUnits_187 : decode cX13_closeUnits 187 = .ok (.goto 16, 3) := by decide +kernel
theorem dX13_closeUnits_190 : decode cX13_closeUnits 190 = .ok (.aload_n 0, 1) := by decide +kernel
theorem dX13_closeUnits_191 : decode cX13_closeUnits 191 = .ok (.getfield 254, 3) := by decide +kernel
theorem dX13_closeUnits_194 : decode cX13_closeUnits 194 = .ok (.aload_n 0, 1) := by decide +kernel
theorem dX13_closeUnits_195 : decode cX13_closeUnits 195 = .ok (.iload 7, 2) := by decide +kernel
theorem dX13_closeUnits_197 : decode cX13_closeUnits 197 = .ok (.iload_n 1, 1) := by decide +kernel
theorem dX13_closeUnits_198 : decode cX13_closeUnits 198 = .ok (.iload_n 2, 1) := by decide +kernel
theorem dX13_closeUnits_199 : decode cX13_closeUnits 199 = .ok (.invokevirtual 817, 3) := by decide +kernel
theorem dX13_closeUnits_202 : decode cX13_closeUnits 202 = .ok (.iaload, 1) := by decide +kernel
theorem dX13_closeUnits_203 : decode cX13_closeUnits 203 = .ok (.iadd, 1) := by decide +kernel
theorem dX13_closeUnits_204 : decode cX13_closeUnits 204 = .ok (.invokestatic 821, 3) := by decide +kernel
theorem dX13_closeUnits_207 : decode cX13_closeUnits 207 = .ok (.iastore, 1) := by decide +kernel
theorem dX13_closeUnits_208 : decode cX13_closeUnits 208 = .ok (.iinc 5 1, 3) := by decide +kernel
theorem dX13_closeUnits_211 : decode cX13_closeUnits 211 = .ok (.goto (-119), 3) := by decide +kernel
theorem dX13_closeUnits_214 : decode cX13_closeUnits 214 = .ok (.iconst 0, 1) := by decide +kernel
theorem dX13_closeUnits_215 : decode cX13_closeUnits 215 = .ok (.istore 4, 2) := by decide +kernel
theorem dX13_closeUnits_217 : decode cX13_closeUnits 217 = .ok (.iconst 0, 1) := by decide +kernel
theorem dX13_closeUnits_218 : decode cX13_closeUnits 218 = .ok (.istore 5, 2) := by decide +kernel
theorem dX13_closeUnits_220 : decode cX13_closeUnits 220 = .ok (.iload 5, 2) := by decide +kernel
theorem dX13_closeUnits_222 : decode cX13_closeUnits 222 = .ok (.aload_n 0, 1) := by decide +kernel
theorem dX13_closeUnits_223 : decode cX13_closeUnits 223 = .ok (.getfield 814, 3) := by decide +kernel
theorem dX13_closeUnits_226 : decode cX13_closeUnits 226 = .ok (.if_icmp .ge 70, 3) := by decide +kernel
theorem dX13_closeUnits_229 : decode cX13_closeUnits 229 = .ok (.iload 4, 2) := by decide +kernel
theorem dX13_closeUnits_231 : decode cX13_closeUnits 231 = .ok (.ifCond .ne 29, 3) := by decide +kernel
theorem dX13_closeUnits_234 : decode cX13_closeUnits 234 = .ok (.aload_n 0, 1) := by decide +kernel
theorem dX13_closeUnits_235 : decode cX13_closeUnits 235 = .ok (.getfield 320, 3) := by decide +kernel
theorem dX13_closeUnits_238 : decode cX13_closeUnits 238 = .ok (.iload 5, 2) := by decide +kernel
theorem dX13_closeUnits_240 : decode cX13_closeUnits 240 = .ok (.iaload, 1) := by decide +kernel
theorem dX13_closeUnits_241 : decode cX13_closeUnits 241 = .ok (.invokestatic 821, 3) := by decide +kernel
theorem dX13_closeUnits_244 : decode cX13_closeUnits 244 = .ok (.aload_n 0, 1) := by decide +kernel
theorem dX13_closeUnits_245 : decode cX13_closeUnits 245 = .ok (.getfield 254, 3) := by decide +kernel
theorem dX13_closeUnits_248 : decode cX13_closeUnits 248 = .ok (.aload_n 0, 1) := by decide +kernel
theorem dX13_closeUnits_249 : decode cX13_closeUnits 249 = .ok (.iload 5, 2) := by decide +kernel
theorem dX13_closeUnits_251 : decode cX13_closeUnits 251 = .ok (.iload_n 1, 1) := by decide +kernel
theorem dX13_closeUnits_252 : decode cX13_closeUnits 252 = .ok (.iload_n 2, 1) := by decide +kernel
theorem dX13_closeUnits_253 : decode cX13_closeUnits 253 = .ok (.invokevirtual 817, 3) := by decide +kernel
theorem dX13_closeUnits_256 : decode cX13_closeUnits 256 = .ok (.iaload, 1) := by decide +kernel
theorem dX13_closeUnits_257 : decode cX13_closeUnits 257 = .ok (.if_icmp .le 7, 3) := by decide +kernel
theorem dX13_closeUnits_260 : decode cX13_closeUnits 260 = .ok (.iconst 1, 1) := by decide +kernel
theorem dX13_closeUnits_261 : decode cX13_closeUnits 261 = .ok (.goto 4, 3) := by decide +kernel
theorem dX13_closeUnits_264 : decode cX13_closeUnits 264 = .ok (.iconst 0, 1) := by decide +kernel
theorem dX13_closeUnits_265 : decode cX13_closeUnits 265 = .ok (.istore 4, 2) := by decide +kernel
theorem dX13_closeUnits_267 : decode cX13_closeUnits 267 = .ok (.aload_n 0, 1) := by decide +kernel
theorem dX13_closeUnits_268 : decode cX13_closeUnits 268 = .ok (.getfield 254, 3) := by decide +kernel
theorem dX13_closeUnits_271 : decode cX13_closeUnits 271 = .ok (.aload_n 0, 1) := by decide +kernel
theorem dX13_closeUnits_272 : decode cX13_closeUnits 272 = .ok (.iload 5, 2) := by decide +kernel
theorem dX13_closeUnits_274 : decode cX13_closeUnits 274 = .ok (.iload_n 1, 1) := by decide +kernel
theorem dX13_closeUnits_275 : decode cX13_closeUnits 275 = .ok (.iload_n 2, 1) := by decide +kernel
theorem dX13_closeUnits_276 : decode cX13_closeUnits 276 = .ok (.invokevirtual 817, 3) := by decide +kernel
theorem dX13_closeUnits_279 : decode cX13_closeUnits 279 = .ok (.aload_n 0, 1) := by decide +kernel
theorem dX13_closeUnits_280 : decode cX13_closeUnits 280 = .ok (.getfield 320, 3) := by decide +kernel
theorem dX13_closeUnits_283 : decode cX13_closeUnits 283 = .ok (.iload 5, 2) := by decide +kernel
theorem dX13_closeUnits_285 : decode cX13_closeUnits 285 = .ok (.iaload, 1) := by decide +kernel
theorem dX13_closeUnits_286 : decode cX13_closeUnits 286 = .ok (.invokestatic 821, 3) := by decide +kernel
theorem dX13_closeUnits_289 : decode cX13_closeUnits 289 = .ok (.iastore, 1) := by decide +kernel
theorem dX13_closeUnits_290 : decode cX13_closeUnits 290 = .ok (.iinc 5 1, 3) := by decide +kernel
theorem dX13_closeUnits_293 : decode cX13_closeUnits 293 = .ok (.goto (-73), 3) := by decide +kernel
theorem dX13_closeUnits_296 : decode cX13_closeUnits 296 = .ok (.goto (-244), 3) := by decide +kernel
theorem dX13_closeUnits_299 : decode cX13_closeUnits 299 = .ok (.return_, 1) := by decide +kernel
theorem dX13_goTo_0 : decode cX13_goTo 0 = .ok (.aload_n 0, 1) := by decide +kernel
theorem dX13_goTo_1 : decode cX13_goTo 1 = .ok (.getfield 269, 3) := by decide +kernel
theorem dX13_goTo_4 : decode cX13_goTo 4 = .ok (.iload_n 1, 1) := by decide +kernel
theorem dX13_goTo_5 : decode cX13_goTo 5 = .ok (.iaload, 1) := by decide +kernel
theorem dX13_goTo_6 : decode cX13_goTo 6 = .ok (.istore_n 3, 1) := by decide +kernel
theorem dX13_goTo_7 : decode cX13_goTo 7 = .ok (.aload_n 0, 1) := by decide +kernel
theorem dX13_goTo_8 : decode cX13_goTo 8 = .ok (.getfield 266, 3) := by decide +kernel
theorem dX13_goTo_11 : decode cX13_goTo 11 = .ok (.iload_n 1, 1) := by decide +kernel
theorem dX13_goTo_12 : decode cX13_goTo 12 = .ok (.iaload, 1) := by decide +kernel
theorem dX13_goTo_13 : decode cX13_goTo 13 = .ok (.istore 4, 2) := by decide +kernel
theorem dX13_goTo_15 : decode cX13_goTo 15 = .ok (.aload_n 0, 1) := by decide +kernel
theorem dX13_goTo_16 : decode cX13_goTo 16 = .ok (.getfield 287, 3) := by decide +kernel
theorem dX13_goTo_19 : decode cX13_goTo 19 = .ok (.iload_n 3, 1) := by decide +kernel
theorem dX13_goTo_20 : decode cX13_goTo 20 = .ok (.laload, 1) := by decide +kernel
theorem dX13_goTo_21 : decode cX13_goTo 21 = .ok (.lstore 5, 2) := by decide +kernel
theorem dX13_goTo_23 : decode cX13_goTo 23 = .ok (.aload_n 0, 1) := by decide +kernel
theorem dX13_goTo_24 : decode cX13_goTo 24 = .ok (.getfield 290, 3) := by decide +kernel
theorem dX13_goTo_27 : decode cX13_goTo 27 = .ok (.iload_n 3, 1) := by decide +kernel
theorem dX13_goTo_28 : decode cX13_goTo 28 = .ok (.laload, 1) := by decide +kernel
theorem dX13_goTo_29 : decode cX13_goTo 29 = .ok (.lstore 7, 2) := by decide +kernel
theorem dX13_goTo_31 : decode cX13_goTo 31 = .ok (.iload 4, 2) := by decide +kernel
theorem dX13_goTo_33 : decode cX13_goTo 33 = .ok (.ifCond .lt 61, 3) := by decide +kernel
theorem dX13_goTo_36 : decode cX13_goTo 36 = .ok (.aload_n 0, 1) := by decide +kernel
theorem dX13_goTo_37 : decode cX13_goTo 37 = .ok (.getfield 244, 3) := by decide +kernel
theorem dX13_goTo_40 : decode cX13_goTo 40 = .ok (.iload_n 2, 1) := by decide +kernel
theorem dX13_goTo_41 : decode cX13_goTo 41 = .ok (.iconst 1, 1) := by decide +kernel
theorem dX13_goTo_42 : decode cX13_goTo 42 = .ok (.isub, 1) := by decide +kernel
theorem dX13_goTo_43 : decode cX13_goTo 43 = .ok (.iaload, 1) := by decide +kernel
theorem dX13_goTo_44 : decode cX13_goTo 44 = .ok (.iload 4, 2) := by decide +kernel
theorem dX13_goTo_46 : decode cX13_goTo 46 = .ok (.if_icmp .ne 47, 3) := by decide +kernel
theorem dX13_goTo_49 : decode cX13_goTo 49 = .ok (.lload 5, 2) := by decide +kernel
theorem dX13_goTo_51 : decode cX13_goTo 51 = .ok (.iload_n 2, 1) := by decide +kernel
theorem dX13_goTo_52 : decode cX13_goTo 52 = .ok (.iconst 1, 1) := by decide +kernel
theorem dX13_goTo_53 : decode cX13_goTo 53 = .ok (.isub, 1) := by decide +kernel
theorem dX13_goTo_54 : decode cX13_goTo 54 = .ok (.lshr, 1) := by decide +kernel
theorem dX13_goTo_55 : decode cX13_goTo 55 = .ok (.lconst 1, 1) := by decide +kernel
theorem dX13_goTo_56 : decode cX13_goTo 56 = .ok (.land, 1) := by decide +kernel
theorem dX13_goTo_57 : decode cX13_goTo 57 = .ok (.lconst 1, 1) := by decide +kernel
theorem dX13_goTo_58 : decode cX13_goTo 58 = .ok (.lcmp, 1) := by decide +kernel
theorem dX13_goTo_59 : decode cX13_goTo 59 = .ok (.ifCond .ne 34, 3) := by decide +kernel
theorem dX13_goTo_62 : decode cX13_goTo 62 = .ok (.aload_n 0, 1) := by decide +kernel
theorem dX13_goTo_63 : decode cX13_goTo 63 = .ok (.getfield 287, 3) := by decide +kernel
theorem dX13_goTo_66 : decode cX13_goTo 66 = .ok (.iload_n 1, 1) := by decide +kernel
theorem dX13_goTo_67 : decode cX13_goTo 67 = .ok (.dup2, 1) := by decide +kernel
theorem dX13_goTo_68 : decode cX13_goTo 68 = .ok (.laload, 1) := by decide +kernel
theorem dX13_goTo_69 : decode cX13_goTo 69 = .ok (.lconst 1, 1) := by decide +kernel
theorem dX13_goTo_70 : decode cX13_goTo 70 = .ok (.iload_n 2, 1) := by decide +kernel
theorem dX13_goTo_71 : decode cX13_goTo 71 = .ok (.lshl, 1) := by decide +kernel
theorem dX13_goTo_72 : decode cX13_goTo 72 = .ok (.lor, 1) := by decide +kernel
theorem dX13_goTo_73 : decode cX13_goTo 73 = .ok (.lastore, 1) := by decide +kernel
theorem dX13_goTo_74 : decode cX13_goTo 74 = .ok (.aload_n 0, 1) := by decide +kernel
theorem dX13_goTo_75 : decode cX13_goTo 75 = .ok (.getfield 290, 3) := by decide +kernel
theorem dX13_goTo_78 : decode cX13_goTo 78 = .ok (.iload_n 1, 1) := by decide +kernel
theorem dX13_goTo_79 : decode cX13_goTo 79 = .ok (.dup2, 1) := by decide +kernel
theorem dX13_goTo_80 : decode cX13_goTo 80 = .ok (.laload, 1) := by decide +kernel
theorem dX13_goTo_81 : decode cX13_goTo 81 = .ok (.lload 7, 2) := by decide +kernel
theorem dX13_goTo_83 : decode cX13_goTo 83 = .ok (.iload_n 2, 1) := by decide +kernel
theorem dX13_goTo_84 : decode cX13_goTo 84 = .ok (.iconst 1, 1) := by decide +kernel
theorem dX13_goTo_85 : decode cX13_goTo 85 = .ok (.isub, 1) := by decide +kernel
theorem dX13_goTo_86 : decode cX13_goTo 86 = .ok (.lshr, 1) := by decide +kernel
theorem dX13_goTo_87 : decode cX13_goTo 87 = .ok (.lconst 1, 1) := by decide +kernel
theorem dX13_goTo_88 : decode cX13_goTo 88 = .ok (.land, 1) := by decide +kernel
theorem dX13_goTo_89 : decode cX13_goTo 89 = .ok (.iload_n 2, 1) := by decide +kernel
theorem dX13_goTo_90 : decode cX13_goTo 90 = .ok (.lshl, 1) := by decide +kernel
theorem dX13_goTo_91 : decode cX13_goTo 91 = .ok (.lor, 1) := by decide +kernel
theorem dX13_goTo_92 : decode cX13_goTo 92 = .ok (.lastore, 1) := by decide +kernel
theorem dX13_goTo_93 : decode cX13_goTo 93 = .ok (.return_, 1) := by decide +kernel
theorem dX13_goTo_94 : decode cX13_goTo 94 = .ok (.aload_n 0, 1) := by decide +kernel
theorem dX13_goTo_95 : decode cX13_goTo 95 = .ok (.getfield 241, 3) := by decide +kernel
theorem dX13_goTo_98 : decode cX13_goTo 98 = .ok (.bipush (-2), 2) := by decide +kernel
theorem dX13_goTo_100 : decode cX13_goTo 100 = .ok (.iload 4, 2) := by decide +kernel
theorem dX13_goTo_102 : decode cX13_goTo 102 = .ok (.isub, 1) := by decide +kernel
theorem dX13_goTo_103 : decode cX13_goTo 103 = .ok (.iaload, 1) := by decide +kernel
theorem dX13_goTo_104 : decode cX13_goTo 104 = .ok (.istore 9, 2) := by decide +kernel
theorem dX13_goTo_106 : decode cX13_goTo 106 = .ok (.iload 9, 2) := by decide +kernel
theorem dX13_goTo_108 : decode cX13_goTo 108 = .ok (.iconst (-1), 1) := by decide +kernel
theorem dX13_goTo_109 : decode cX13_goTo 109 = .ok (.if_icmp .eq 23, 3) := by decide +kernel
theorem dX13_goTo_112 : decode cX13_goTo 112 = .ok (.lload 5, 2) := by decide +kernel
theorem dX13_goTo_114 : decode cX13_goTo 114 = .ok (.aload_n 0, 1) := by decide +kernel
theorem dX13_goTo_115 : decode cX13_goTo 115 = .ok (.getfield 260, 3) := by decide +kernel
theorem dX13_goTo_118 : decode cX13_goTo 118 = .ok (.bipush 61, 2) := by decide +kernel
theorem dX13_goTo_120 : decode cX13_goTo 120 = .ok (.iload 9, 2) := by decide +kernel
theorem dX13_goTo_122 : decode cX13_goTo 122 = .ok (.imul, 1) := by decide +kernel
theorem dX13_goTo_123 : decode cX13_goTo 123 = .ok (.iload_n 2, 1) := by decide +kernel
theorem dX13_goTo_124 : decode cX13_goTo 124 = .ok (.iadd, 1) := by decide +kernel
theorem dX13_goTo_125 : decode cX13_goTo 125 = .ok (.laload, 1) := by decide +kernel
theorem dX13_goTo_126 : decode cX13_goTo 126 = .ok (.land, 1) := by decide +kernel
theorem dX13_goTo_127 : decode cX13_goTo 127 = .ok (.lconst 0, 1) := by decide +kernel
theorem dX13_goTo_128 : decode cX13_goTo 128 = .ok (.lcmp, 1) := by decide +kernel
theorem dX13_goTo_129 : decode cX13_goTo 129 = .ok (.ifCond .ne 4, 3) := by decide +kernel
theorem dX13_goTo_132 : decode cX13_goTo 132 = .ok (.return_, 1) := by decide +kernel
theorem dX13_goTo_133 : decode cX13_goTo 133 = .ok (.lload 5, 2) := by decide +kernel
theorem dX13_goTo_135 : decode cX13_goTo 135 = .ok (.aload_n 0, 1) := by decide +kernel
theorem dX13_goTo_136 : decode cX13_goTo 136 = .ok (.getfield 260, 3) := by decide +kernel
theorem dX13_goTo_139 : decode cX13_goTo 139 = .ok (.bipush 61, 2) := by decide +kernel
theorem dX13_goTo_141 : decode cX13_goTo 141 = .ok (.iload 9, 2) := by decide +kernel
theorem dX13_goTo_143 : decode cX13_goTo 143 = .ok (.imul, 1) := by decide +kernel
theorem dX13_goTo_144 : decode cX13_goTo 144 = .ok (.iload_n 2, 1) := by decide +kernel
theorem dX13_goTo_145 : decode cX13_goTo 145 = .ok (.iadd, 1) := by decide +kernel
theorem dX13_goTo_146 : decode cX13_goTo 146 = .ok (.laload, 1) := by decide +kernel
theorem dX13_goTo_147 : decode cX13_goTo 147 = .ok (.land, 1) := by decide +kernel
theorem dX13_goTo_148 : decode cX13_goTo 148 = .ok (.lstore 10, 2) := by decide +kernel
theorem dX13_goTo_150 : decode cX13_goTo 150 = .ok (.aload_n 0, 1) := by decide +kernel
theorem dX13_goTo_151 : decode cX13_goTo 151 = .ok (.getfield 287, 3) := by decide +kernel
theorem dX13_goTo_154 : decode cX13_goTo 154 = .ok (.iload_n 1, 1) := by decide +kernel
theorem dX13_goTo_155 : decode cX13_goTo 155 = .ok (.dup2, 1) := by decide +kernel
theorem dX13_goTo_156 : decode cX13_goTo 156 = .ok (.laload, 1) := by decide +kernel
theorem dX13_goTo_157 : decode cX13_goTo 157 = .ok (.lconst 1, 1) := by decide +kernel
theorem dX13_goTo_158 : decode cX13_goTo 158 = .ok (.iload_n 2, 1) := by decide +kernel
theorem dX13_goTo_159 : decode cX13_goTo 159 = .ok (.lshl, 1) := by decide +kernel
theorem dX13_goTo_160 : decode cX13_goTo 160 = .ok (.lor, 1) := by decide +kernel
theorem dX13_goTo_161 : decode cX13_goTo 161 = .ok (.lastore, 1) := by decide +kernel
theorem dX13_goTo_162 : decode cX13_goTo 162 = .ok (.lload 10, 2) := by decide +kernel
theorem dX13_goTo_164 : decode cX13_goTo 164 = .ok (.lload 10, 2) := by decide +kernel
theorem dX13_goTo_166 : decode cX13_goTo 166 = .ok (.lconst 1, 1) := by decide +kernel
theorem dX13_goTo_167 : decode cX13_goTo 167 = .ok (.lsub, 1) := by decide +kernel
theorem dX13_goTo_168 : decode cX13_goTo 168 = .ok (.land, 1) := by decide +kernel
theorem dX13_goTo_169 : decode cX13_goTo 169 = .ok (.lconst 0, 1) := by decide +kernel
theorem dX13_goTo_170 : decode cX13_goTo 170 = .ok (.lcmp, 1) := by decide +kernel
theorem dX13_goTo_171 : decode cX13_goTo 171 = .ok (.ifCond .ne 43, 3) := by decide +kernel
theorem dX13_goTo_174 : decode cX13_goTo 174 = .ok (.lload 5, 2) := by decide +kernel
theorem dX13_goTo_176 : decode cX13_goTo 176 = .ok (.aload_n 0, 1) := by decide +kernel
theorem dX13_goTo_177 : decode cX13_goTo 177 = .ok (.getfield 263, 3) := by decide +kernel
theorem dX13_goTo_180 : decode cX13_goTo 180 = .ok (.bipush 61, 2) := by decide +kernel
theorem dX13_goTo_182 : decode cX13_goTo 182 = .ok (.iload 9, 2) := by decide +kernel
theorem dX13_goTo_184 : decode cX13_goTo 184 = .ok (.imul, 1) := by decide +kernel
theorem dX13_goTo_185 : decode cX13_goTo 185 = .ok (.iload_n 2, 1) := by decide +kernel
theorem dX13_goTo_186 : decode cX13_goTo 186 = .ok (.iadd, 1) := by decide +kernel
theorem dX13_goTo_187 : decode cX13_goTo 187 = .ok (.laload, 1) := by decide +kernel
theorem dX13_goTo_188 : decode cX13_goTo 188 = .ok (.land, 1) := by decide +kernel
theorem dX13_goTo_189 : decode cX13_goTo 189 = .ok (.lconst 0, 1) := by decide +kernel
theorem dX13_goTo_190 : decode cX13_goTo 190 = .ok (.lcmp, 1) := by decide +kernel
theorem dX13_goTo_191 : decode cX13_goTo 191 = .ok (.ifCond .ne 23, 3) := by decide +kernel
theorem dX13_goTo_194 : decode cX13_goTo 194 = .ok (.lload 7, 2) := by decide +kernel
theorem dX13_goTo_196 : decode cX13_goTo 196 = .ok (.aload_n 0, 1) := by decide +kernel
theorem dX13_goTo_197 : decode cX13_goTo 197 = .ok (.getfield 260, 3) := by decide +kernel
theorem dX13_goTo_200 : decode cX13_goTo 200 = .ok (.bipush 61, 2) := by decide +kernel
theorem dX13_goTo_202 : decode cX13_goTo 202 = .ok (.iload 9, 2) := by decide +kernel
theorem dX13_goTo_204 : decode cX13_goTo 204 = .ok (.imul, 1) := by decide +kernel
theorem dX13_goTo_205 : decode cX13_goTo 205 = .ok (.iload_n 2, 1) := by decide +kernel
theorem dX13_goTo_206 : decode cX13_goTo 206 = .ok (.iadd, 1) := by decide +kernel
theorem dX13_goTo_207 : decode cX13_goTo 207 = .ok (.laload, 1) := by decide +kernel
theorem dX13_goTo_208 : decode cX13_goTo 208 = .ok (.land, 1) := by decide +kernel
theorem dX13_goTo_209 : decode cX13_goTo 209 = .ok (.lconst 0, 1) := by decide +kernel
theorem dX13_goTo_210 : decode cX13_goTo 210 = .ok (.lcmp, 1) := by decide +kernel
theorem dX13_goTo_211 : decode cX13_goTo 211 = .ok (.ifCond .eq 7, 3) := by decide +kernel
theorem dX13_goTo_214 : decode cX13_goTo 214 = .ok (.iconst 1, 1) := by decide +kernel
theorem dX13_goTo_215 : decode cX13_goTo 215 = .ok (.goto 4, 3) := by decide +kernel
theorem dX13_goTo_218 : decode cX13_goTo 218 = .ok (.iconst 0, 1) := by decide +kernel
theorem dX13_goTo_219 : decode cX13_goTo 219 = .ok (.istore 12, 2) := by decide +kernel
theorem dX13_goTo_221 : decode cX13_goTo 221 = .ok (.aload_n 0, 1) := by decide +kernel
theorem dX13_goTo_222 : decode cX13_goTo 222 = .ok (.getfield 290, 3) := by decide +kernel
theorem dX13_goTo_225 : decode cX13_goTo 225 = .ok (.iload_n 1, 1) := by decide +kernel
theorem dX13_goTo_226 : decode cX13_goTo 226 = .ok (.dup2, 1) := by decide +kernel
theorem dX13_goTo_227 : decode cX13_goTo 227 = .ok (.laload, 1) := by decide +kernel
theorem dX13_goTo_228 : decode cX13_goTo 228 = .ok (.iload 12, 2) := by decide +kernel
theorem dX13_goTo_230 : decode cX13_goTo 230 = .ok (.ifCond .eq 9, 3) := by decide +kernel
theorem dX13_goTo_233 : decode cX13_goTo 233 = .ok (.lconst 1, 1) := by decide +kernel
theorem dX13_goTo_234 : decode cX13_goTo 234 = .ok (.iload_n 2, 1) := by decide +kernel
theorem dX13_goTo_235 : decode cX13_goTo 235 = .ok (.lshl, 1) := by decide +kernel
theorem dX13_goTo_236 : decode cX13_goTo 236 = .ok (.goto 4, 3) := by decide +kernel
theorem dX13_goTo_239 : decode cX13_goTo 239 = .ok (.lconst 0, 1) := by decide +kernel
theorem dX13_goTo_240 : decode cX13_goTo 240 = .ok (.lor, 1) := by decide +kernel
theorem dX13_goTo_241 : decode cX13_goTo 241 = .ok (.lastore, 1) := by decide +kernel
theorem dX13_goTo_242 : decode cX13_goTo 242 = .ok (.return_, 1) := by decide +kernel
theorem dX13_isSortNode_0 : decode cX13_isSortNode 0 = .ok (.aload_n 0, 1) := by decide +kernel
theorem dX13_isSortNode_1 : decode cX13_isSortNode 1 = .ok (.getfield 269, 3) := by decide +kernel
theorem dX13_isSortNode_4 : decode cX13_isSortNode 4 = .ok (.iload_n 1, 1) := by decide +kernel
theorem dX13_isSortNode_5 : decode cX13_isSortNode 5 = .ok (.iaload, 1) := by decide +kernel
theorem dX13_isSortNode_6 : decode cX13_isSortNode 6 = .ok (.ifCond .ne 7, 3) := by decide +kernel
theorem dX13_isSortNode_9 : decode cX13_isSortNode 9 = .ok (.iconst 1, 1) := by decide +kernel
theorem dX13_isSortNode_10 : decode cX13_isSortNode 10 = .ok (.goto 4, 3) := by decide +kernel
theorem dX13_isSortNode_13 : decode cX13_isSortNode 13 = .ok (.iconst 0, 1) := by decide +kernel
theorem dX13_isSortNode_14 : decode cX13_isSortNode 14 = .ok (.ireturn, 1) := by decide +kernel
theorem dX13_isFirstVariable_0 : decode cX13_isFirstVariable 0 = .ok (.aload_n 0, 1) := by decide +kernel
theorem dX13_isFirstVariable_1 : decode cX13_isFirstVariable 1 = .ok (.aload_n 0, 1) := by decide +kernel
theorem dX13_isFirstVariable_2 : decode cX13_isFirstVariable 2 = .ok (.getfield 269, 3) := by decide +kernel
theorem dX13_isFirstVariable_5 : decode cX13_isFirstVariable 5 = .ok (.iload_n 1, 1) := by decide +kernel
theorem dX13_isFirstVariable_6 : decode cX13_isFirstVariable 6 = .ok (.iaload, 1) := by decide +kernel
theorem dX13_isFirstVariable_7 : decode cX13_isFirstVariable 7 = .ok (.invokevirtual 849, 3) := by decide +kernel
theorem dX13_isFirstVariable_10 : decode cX13_isFirstVariable 10 = .ok (.ifCond .eq 16, 3) := by decide +kernel
theorem dX13_isFirstVariable_13 : decode cX13_isFirstVariable 13 = .ok (.aload_n 0, 1) := by decide +kernel
theorem dX13_isFirstVariable_14 : decode cX13_isFirstVariable 14 = .ok (.getfield 266, 3) := by decide +kernel
theorem dX13_isFirstVariable_17 : decode cX13_isFirstVariable 17 = .ok (.iload_n 1, 1) := by decide +kernel
theorem dX13_isFirstVariable_18 : decode cX13_isFirstVariable 18 = .ok (.iaload, 1) := by decide +kernel
theorem dX13_isFirstVariable_19 : decode cX13_isFirstVariable 19 = .ok (.ifCond .ge 7, 3) := by decide +kernel
theorem dX13_isFirstVariable_22 : decode cX13_isFirstVariable 22 = .ok (.iconst 1, 1) := by decide +kernel
theorem dX13_isFirstVariable_23 : decode cX13_isFirstVariable 23 = .ok (.goto 4, 3) := by decide +kernel
theorem dX13_isFirstVariable_26 : decode cX13_isFirstVariable 26 = .ok (.iconst 0, 1) := by decide +kernel
theorem dX13_isFirstVariable_27 : decode cX13_isFirstVariable 27 = .ok (.ireturn, 1) := by decide +kernel
theorem dX13_countStretch_0 : decode cX13_countStretch 0 = .ok (.iload_n 2, 1) := by decide +kernel
theorem dX13_countStretch_1 : decode cX13_countStretch 1 = .ok (.iload_n 1, 1) := by decide +kernel
theorem dX13_countStretch_2 : decode cX13_countStretch 2 = .ok (.iconst 1, 1) := by decide +kernel
theorem dX13_countStretch_3 : decode cX13_countStretch 3 = .ok (.iadd, 1) := by decide +kernel
theorem dX13_countStretch_4 : decode cX13_countStretch 4 = .ok (.if_icmp .ne 34, 3) := by decide +kernel
theorem dX13_countStretch_7 : decode cX13_countStretch 7 = .ok (.aload_n 0, 1) := by decide +kernel
theorem dX13_countStretch_8 : decode cX13_countStretch 8 = .ok (.getfield 247, 3) := by decide +kernel
theorem dX13_countStretch_11 : decode cX13_countStretch 11 = .ok (.iload_n 1, 1) := by decide +kernel
theorem dX13_countStretch_12 : decode cX13_countStretch 12 = .ok (.iaload, 1) := by decide +kernel
theorem dX13_countStretch_13 : decode cX13_countStretch 13 = .ok (.iconst (-1), 1) := by decide +kernel
theorem dX13_countStretch_14 : decode cX13_countStretch 14 = .ok (.if_icmp .eq 24, 3) := by decide +kernel
theorem dX13_countStretch_17 : decode cX13_countStretch 17 = .ok (.aload_n 0, 1) := by decide +kernel
theorem dX13_countStretch_18 : decode cX13_countStretch 18 = .ok (.getfield 254, 3) := by decide +kernel
theorem dX13_countStretch_21 : decode cX13_countStretch 21 = .ok (.aload_n 0, 1) := by decide +kernel
theorem dX13_countStretch_22 : decode cX13_countStretch 22 = .ok (.aload_n 0, 1) := by decide +kernel
theorem dX13_countStretch_23 : decode cX13_countStretch 23 = .ok (.getfield 247, 3) := by decide +kernel
theorem dX13_countStretch_26 : decode cX13_countStretch 26 = .ok (.iload_n 1, 1) := by decide +kernel
theorem dX13_countStretch_27 : decode cX13_countStretch 27 = .ok (.iaload, 1) := by decide +kernel
theorem dX13_countStretch_28 : decode cX13_countStretch 28 = .ok (.iload_n 1, 1) := by decide +kernel
theorem dX13_countStretch_29 : decode cX13_countStretch 29 = .ok (.iload_n 2, 1) := by decide +kernel
theorem dX13_countStretch_30 : decode cX13_countStretch 30 = .ok (.invokevirtual 817, 3) := by decide +kernel
theorem dX13_countStretch_33 : decode cX13_countStretch 33 = .ok (.dup2, 1) := by decide +kernel
theorem dX13_countStretch_34 : decode cX13_countStretch 34 = .ok (.iaload, 1) := by decide +kernel
theorem dX13_countStretch_35 : decode cX13_countStretch 35 = .ok (.iconst 1, 1) := by decide +kernel
theorem dX13_countStretch_36 : decode cX13_countStretch 36 = .ok (.iadd, 1) := by decide +kernel
theorem dX13_countStretch_37 : decode cX13_countStretch 37 = .ok (.iastore, 1) := by decide +kernel
theorem dX13_countStretch_38 : decode cX13_countStretch 38 = .ok (.iconst 1, 1) := by decide +kernel
theorem dX13_countStretch_39 : decode cX13_countStretch 39 = .ok (.istore 4, 2) := by decide +kernel
theorem dX13_countStretch_41 : decode cX13_countStretch 41 = .ok (.iload 4, 2) := by decide +kernel
theorem dX13_countStretch_43 : decode cX13_countStretch 43 = .ok (.aload_n 0, 1) := by decide +kernel
theorem dX13_countStretch_44 : decode cX13_countStretch 44 = .ok (.getfield 824, 3) := by decide +kernel
theorem dX13_countStretch_47 : decode cX13_countStretch 47 = .ok (.if_icmp .ge 226, 3) := by decide +kernel
theorem dX13_countStretch_50 : decode cX13_countStretch 50 = .ok (.aload_n 0, 1) := by decide +kernel
theorem dX13_countStretch_51 : decode cX13_countStretch 51 = .ok (.getfield 284, 3) := by decide +kernel
theorem dX13_countStretch_54 : decode cX13_countStretch 54 = .ok (.iload 4, 2) := by decide +kernel
theorem dX13_countStretch_56 : decode cX13_countStretch 56 = .ok (.iaload, 1) := by decide +kernel
theorem dX13_countStretch_57 : decode cX13_countStretch 57 = .ok (.iload_n 3, 1) := by decide +kernel
theorem dX13_countStretch_58 : decode cX13_countStretch 58 = .ok (.if_icmp .ge 209, 3) := by decide +kernel
theorem dX13_countStretch_61 : decode cX13_countStretch 61 = .ok (.aload_n 0, 1) := by decide +kernel
theorem dX13_countStretch_62 : decode cX13_countStretch 62 = .ok (.iload 4, 2) := by decide +kernel
theorem dX13_countStretch_64 : decode cX13_countStretch 64 = .ok (.invokevirtual 849, 3) := by decide +kernel
theorem dX13_countStretch_67 : decode cX13_countStretch 67 = .ok (.ifCond .ne 200, 3) := by decide +kernel
theorem dX13_countStretch_70 : decode cX13_countStretch 70 = .ok (.aload_n 0, 1) := by decide +kernel
theorem dX13_countStretch_71 : decode cX13_countStretch 71 = .ok (.getfield 287, 3) := by decide +kernel
theorem dX13_countStretch_74 : decode cX13_countStretch 74 = .ok (.aload_n 0, 1) := by decide +kernel
theorem dX13_countStretch_75 : decode cX13_countStretch 75 = .ok (.getfield 269, 3) := by decide +kernel
theorem dX13_countStretch_78 : decode cX13_countStretch 78 = .ok (.iload 4, 2) := by decide +kernel
theorem dX13_countStretch_80 : decode cX13_countStretch 80 = .ok (.iaload, 1) := by decide +kernel
theorem dX13_countStretch_81 : decode cX13_countStretch 81 = .ok (.laload, 1) := by decide +kernel
theorem dX13_countStretch_82 : decode cX13_countStretch 82 = .ok (.lconst 0, 1) := by decide +kernel
theorem dX13_countStretch_83 : decode cX13_countStretch 83 = .ok (.lcmp, 1) := by decide +kernel
theorem dX13_countStretch_84 : decode cX13_countStretch 84 = .ok (.ifCond .eq 183, 3) := by decide +kernel
theorem dX13_countStretch_87 : decode cX13_countStretch 87 = .ok (.aload_n 0, 1) := by decide +kernel
theorem dX13_countStretch_88 : decode cX13_countStretch 88 = .ok (.iload 4, 2) := by decide +kernel
theorem dX13_countStretch_90 : decode cX13_countStretch 90 = .ok (.invokevirtual 852, 3) := by decide +kernel
theorem dX13_countStretch_93 : decode cX13_countStretch 93 = .ok (.ifCond .eq 6, 3) := by decide +kernel
theorem dX13_countStretch_96 : decode cX13_countStretch 96 = .ok (.goto 171, 3) := by decide +kernel
theorem dX13_countStretch_99 : decode cX13_countStretch 99 = .ok (.aload_n 0, 1) := by decide +kernel
theorem dX13_countStretch_100 : decode cX13_countStretch 100 = .ok (.iload 4, 2) := by decide +kernel
theorem dX13_countStretch_102 : decode cX13_countStretch 102 = .ok (.iload_n 2, 1) := by decide +kernel
theorem dX13_countStretch_103 : decode cX13_countStretch 103 = .ok (.invokevirtual 855, 3) := by decide +kernel
theorem dX13_countStretch_106 : decode cX13_countStretch 106 = .ok (.aload_n 0, 1) := by decide +kernel
theorem dX13_countStretch_107 : decode cX13_countStretch 107 = .ok (.getfield 278, 3) := by decide +kernel
theorem dX13_countStretch_110 : decode cX13_countStretch 110 = .ok (.iload 4, 2) := by decide +kernel
theorem dX13_countStretch_112 : decode cX13_countStretch 112 = .ok (.iaload, 1) := by decide +kernel
theorem dX13_countStretch_113 : decode cX13_countStretch 113 = .ok (.iload_n 3, 1) := by decide +kernel
theorem dX13_countStretch_114 : decode cX13_countStretch 114 = .ok (.if_icmp .ge 153, 3) := by decide +kernel
theorem dX13_countStretch_117 : decode cX13_countStretch 117 = .ok (.aload_n 0, 1) := by decide +kernel
theorem dX13_countStretch_118 : decode cX13_countStretch 118 = .ok (.getfield 287, 3) := by decide +kernel
theorem dX13_countStretch_121 : decode cX13_countStretch 121 = .ok (.iload 4, 2) := by decide +kernel
theorem dX13_countStretch_123 : decode cX13_countStretch 123 = .ok (.laload, 1) := by decide +kernel
theorem dX13_countStretch_124 : decode cX13_countStretch 124 = .ok (.iload_n 2, 1) := by decide +kernel
theorem dX13_countStretch_125 : decode cX13_countStretch 125 = .ok (.lshr, 1) := by decide +kernel
theorem dX13_countStretch_126 : decode cX13_countStretch 126 = .ok (.lconst 1, 1) := by decide +kernel
theorem dX13_countStretch_127 : decode cX13_countStretch 127 = .ok (.land, 1) := by decide +kernel
theorem dX13_countStretch_128 : decode cX13_countStretch 128 = .ok (.lconst 1, 1) := by decide +kernel
theorem dX13_countStretch_129 : decode cX13_countStretch 129 = .ok (.lcmp, 1) := by decide +kernel
theorem dX13_countStretch_130 : decode cX13_countStretch 130 = .ok (.ifCond .ne 137, 3) := by decide +kernel
theorem dX13_countStretch_133 : decode cX13_countStretch 133 = .ok (.iload 4, 2) := by decide +kernel
theorem dX13_countStretch_135 : decode cX13_countStretch 135 = .ok (.istore 5, 2) := by decide +kernel
theorem dX13_countStretch_137 : decode cX13_countStretch 137 = .ok (.aload_n 0, 1) := by decide +kernel
theorem dX13_countStretch_138 : decode cX13_countStretch 138 = .ok (.iload 5, 2) := by decide +kernel
theorem dX13_countStretch_140 : decode cX13_countStretch 140 = .ok (.invokevirtual 849, 3) := by decide +kernel
theorem dX13_countStretch_143 : decode cX13_countStretch 143 = .ok (.ifCond .ne 15, 3) := by decide +kernel
theorem dX13_countStretch_146 : decode cX13_countStretch 146 = .ok (.aload_n 0, 1) := by decide +kernel
theorem dX13_countStretch_147 : decode cX13_countStretch 147 = .ok (.getfield 269, 3) := by decide +kernel
theorem dX13_countStretch_150 : decode cX13_countStretch 150 = .ok (.iload 5, 2) := by decide +kernel
theorem dX13_countStretch_152 : decode cX13_countStretch 152 = .ok (.iaload, 1) := by decide +kernel
theorem dX13_countStretch_153 : decode cX13_countStretch 153 = .ok (.istore 5, 2) := by decide +kernel
theorem dX13_countStretch_155 : decode cX13_countStretch 155 = .ok (.goto (-18), 3) := by decide +kernel
theorem dX13_countStretch_158 : decode cX13_countStretch 158 = .ok (.aload_n 0, 1) := by decide +kernel
theorem dX13_countStretch_159 : decode cX13_countStretch 159 = .ok (.aload_n 0, 1) := by decide +kernel
theorem dX13_countStretch_160 : decode cX13_countStretch 160 = .ok (.getfield 241, 3) := by decide +kernel
theorem dX13_countStretch_163 : decode cX13_countStretch 163 = .ok (.aload_n 0, 1) := by decide +kernel
theorem dX13_countStretch_164 : decode cX13_countStretch 164 = .ok (.getfield 266, 3) := by decide +kernel
theorem dX13_countStretch_167 : decode cX13_countStretch 167 = .ok (.iload 5, 2) := by decide +kernel
theorem dX13_countStretch_169 : decode cX13_countStretch 169 = .ok (.iaload, 1) := by decide +kernel
theorem dX13_countStretch_170 : decode cX13_countStretch 170 = .ok (.iaload, 1) := by decide +kernel
theorem dX13_countStretch_171 : decode cX13_countStretch 171 = .ok (.iload_n 1, 1) := by decide +kernel
theorem dX13_countStretch_172 : decode cX13_countStretch 172 = .ok (.iload_n 2, 1) := by decide +kernel
theorem dX13_countStretch_173 : decode cX13_countStretch 173 = .ok (.invokevirtual 817, 3) := by decide +kernel
theorem dX13_countStretch_176 : decode cX13_countStretch 176 = .ok (.istore 6, 2) := by decide +kernel
theorem dX13_countStretch_178 : decode cX13_countStretch 178 = .ok (.aload_n 0, 1) := by decide +kernel
theorem dX13_countStretch_179 : decode cX13_countStretch 179 = .ok (.getfield 290, 3) := by decide +kernel
theorem dX13_countStretch_182 : decode cX13_countStretch 182 = .ok (.iload 4, 2) := by decide +kernel
theorem dX13_countStretch_184 : decode cX13_countStretch 184 = .ok (.laload, 1) := by decide +kernel
theorem dX13_countStretch_185 : decode cX13_countStretch 185 = .ok (.iload_n 2, 1) := by decide +kernel
theorem dX13_countStretch_186 : decode cX13_countStretch 186 = .ok (.lshr, 1) := by decide +kernel
theorem dX13_countStretch_187 : decode cX13_countStretch 187 = .ok (.lconst 1, 1) := by decide +kernel
theorem dX13_countStretch_188 : decode cX13_countStretch 188 = .ok (.land, 1) := by decide +kernel
theorem dX13_countStretch_189 : decode cX13_countStretch 189 = .ok (.lconst 1, 1) := by decide +kernel
theorem dX13_countStretch_190 : decode cX13_countStretch 190 = .ok (.lcmp, 1) := by decide +kernel
theorem dX13_countStretch_191 : decode cX13_countStretch 191 = .ok (.ifCond .eq 14, 3) := by decide +kernel
theorem dX13_countStretch_194 : decode cX13_countStretch 194 = .ok (.aload_n 0, 1) := by decide +kernel
theorem dX13_countStretch_195 : decode cX13_countStretch 195 = .ok (.getfield 281, 3) := by decide +kernel
theorem dX13_countStretch_198 : decode cX13_countStretch 198 = .ok (.iload 4, 2) := by decide +kernel
theorem dX13_countStretch_200 : decode cX13_countStretch 200 = .ok (.iaload, 1) := by decide +kernel
theorem dX13_countStretch_201 : decode cX13_countStretch 201 = .ok (.iload_n 3, 1) := by decide +kernel
theorem dX13_countStretch_202 : decode cX13_countStretch 202 = .ok (.if_icmp .ge 7, 3) := by decide +kernel
theorem dX13_countStretch_205 : decode cX13_countStretch 205 = .ok (.iconst 2, 1) := by decide +kernel
theorem dX13_countStretch_206 : decode cX13_countStretch 206 = .ok (.goto 4, 3) := by decide +kernel
theorem dX13_countStretch_209 : decode cX13_countStretch 209 = .ok (.iconst 1, 1) := by decide +kernel
theorem dX13_countStretch_210 : decode cX13_countStretch 210 = .ok (.istore 7, 2) := by decide +kernel
theorem dX13_countStretch_212 : decode cX13_countStretch 212 = .ok (.aload_n 0, 1) := by decide +kernel
theorem dX13_countStretch_213 : decode cX13_countStretch 213 = .ok (.getfield 257, 3) := by decide +kernel
theorem dX13_countStretch_216 : decode cX13_countStretch 216 = .ok (.iload 6, 2) := by decide +kernel
theorem dX13_countStretch_218 : decode cX13_countStretch 218 = .ok (.aload_n 0, 1) := by decide +kernel
theorem dX13_countStretch_219 : decode cX13_countStretch 219 = .ok (.getfield 257, 3) := by decide +kernel
theorem dX13_countStretch_222 : decode cX13_countStretch 222 = .ok (.iload 6, 2) := by decide +kernel
theorem dX13_countStretch_224 : decode cX13_countStretch 224 = .ok (.iaload, 1) := by decide +kernel
theorem dX13_countStretch_225 : decode cX13_countStretch 225 = .ok (.iconst (-1), 1) := by decide +kernel
theorem dX13_countStretch_226 : decode cX13_countStretch 226 = .ok (.if_icmp .ne 13, 3) := by decide +kernel
theorem dX13_countStretch_229 : decode cX13_countStretch 229 = .ok (.aload_n 0, 1) := by decide +kernel
theorem dX13_countStretch_230 : decode cX13_countStretch 230 = .ok (.getfield 278, 3) := by decide +kernel
theorem dX13_countStretch_233 : decode cX13_countStretch 233 = .ok (.iload 4, 2) := by decide +kernel
theorem dX13_countStretch_235 : decode cX13_countStretch 235 = .ok (.iaload, 1) := by decide +kernel
theorem dX13_countStretch_236 : decode cX13_countStretch 236 = .ok (.goto 10, 3) := by decide +kernel
theorem dX13_countStretch_239 : decode cX13_countStretch 239 = .ok (.aload_n 0, 1) := by decide +kernel
theorem dX13_countStretch_240 : decode cX13_countStretch 240 = .ok (.getfield 257, 3) := by decide +kernel
theorem dX13_countStretch_243 : decode cX13_countStretch 243 = .ok (.iload 6, 2) := by decide +kernel
theorem dX13_countStretch_245 : decode cX13_countStretch 245 = .ok (.iaload, 1) := by decide +kernel
theorem dX13_countStretch_246 : decode cX13_countStretch 246 = .ok (.iastore, 1) := by decide +kernel
theorem dX13_countStretch_247 : decode cX13_countStretch 247 = .ok (.aload_n 0, 1) := by decide +kernel
theorem dX13_countStretch_248 : decode cX13_countStretch 248 = .ok (.getfield 254, 3) := by decide +kernel
theorem dX13_countStretch_251 : decode cX13_countStretch 251 = .ok (.iload 6, 2) := by decide +kernel
theorem dX13_countStretch_253 : decode cX13_countStretch 253 = .ok (.aload_n 0, 1) := by decide +kernel
theorem dX13_countStretch_254 : decode cX13_countStretch 254 = .ok (.getfield 254, 3) := by decide +kernel
theorem dX13_countStretch_257 : decode cX13_countStretch 257 = .ok (.iload 6, 2) := by decide +kernel
theorem dX13_countStretch_259 : decode cX13_countStretch 259 = .ok (.iaload, 1) := by decide +kernel
theorem dX13_countStretch_260 : decode cX13_countStretch 260 = .ok (.iload 7, 2) := by decide +kernel
theorem dX13_countStretch_262 : decode cX13_countStretch 262 = .ok (.iadd, 1) := by decide +kernel
theorem dX13_countStretch_263 : decode cX13_countStretch 263 = .ok (.invokestatic 821, 3) := by decide +kernel
theorem dX13_countStretch_266 : decode cX13_countStretch 266 = .ok (.iastore, 1) := by decide +kernel
theorem dX13_countStretch_267 : decode cX13_countStretch 267 = .ok (.iinc 4 1, 3) := by decide +kernel
theorem dX13_countStretch_270 : decode cX13_countStretch 270 = .ok (.goto (-229), 3) := by decide +kernel
theorem dX13_countStretch_273 : decode cX13_countStretch 273 = .ok (.aload_n 0, 1) := by decide +kernel
theorem dX13_countStretch_274 : decode cX13_countStretch 274 = .ok (.iload_n 1, 1) := by decide +kernel
theorem dX13_countStretch_275 : decode cX13_countStretch 275 = .ok (.iload_n 2, 1) := by decide +kernel
theorem dX13_countStretch_276 : decode cX13_countStretch 276 = .ok (.iload_n 3, 1) := by decide +kernel
theorem dX13_countStretch_277 : decode cX13_countStretch 277 = .ok (.invokevirtual 858, 3) := by decide +kernel
theorem dX13_countStretch_280 : decode cX13_countStretch 280 = .ok (.iconst 0, 1) := by decide +kernel
theorem dX13_countStretch_281 : decode cX13_countStretch 281 = .ok (.istore 4, 2) := by decide +kernel
theorem dX13_countStretch_283 : decode cX13_countStretch 283 = .ok (.iload 4, 2) := by decide +kernel
theorem dX13_countStretch_285 : decode cX13_countStretch 285 = .ok (.aload_n 0, 1) := by decide +kernel
theorem dX13_countStretch_286 : decode cX13_countStretch 286 = .ok (.getfield 814, 3) := by decide +kernel
theorem dX13_countStretch_289 : decode cX13_countStretch 289 = .ok (.if_icmp .ge 86, 3) := by decide +kernel
theorem dX13_countStretch_292 : decode cX13_countStretch 292 = .ok (.aload_n 0, 1) := by decide +kernel
theorem dX13_countStretch_293 : decode cX13_countStretch 293 = .ok (.getfield 260, 3) := by decide +kernel
theorem dX13_countStretch_296 : decode cX13_countStretch 296 = .ok (.bipush 61, 2) := by decide +kernel
theorem dX13_countStretch_298 : decode cX13_countStretch 298 = .ok (.iload 4, 2) := by decide +kernel
theorem dX13_countStretch_300 : decode cX13_countStretch 300 = .ok (.imul, 1) := by decide +kernel
theorem dX13_countStretch_301 : decode cX13_countStretch 301 = .ok (.iload_n 2, 1) := by decide +kernel
theorem dX13_countStretch_302 : decode cX13_countStretch 302 = .ok (.iadd, 1) := by decide +kernel
theorem dX13_countStretch_303 : decode cX13_countStretch 303 = .ok (.dup2, 1) := by decide +kernel
theorem dX13_countStretch_304 : decode cX13_countStretch 304 = .ok (.laload, 1) := by decide +kernel
theorem dX13_countStretch_305 : decode cX13_countStretch 305 = .ok (.aload_n 0, 1) := by decide +kernel
theorem dX13_countStretch_306 : decode cX13_countStretch 306 = .ok (.getfield 254, 3) := by decide +kernel
theorem dX13_countStretch_309 : decode cX13_countStretch 309 = .ok (.aload_n 0, 1) := by decide +kernel
theorem dX13_countStretch_310 : decode cX13_countStretch 310 = .ok (.iload 4, 2) := by decide +kernel
theorem dX13_countStretch_312 : decode cX13_countStretch 312 = .ok (.iload_n 1, 1) := by decide +kernel
theorem dX13_countStretch_313 : decode cX13_countStretch 313 = .ok (.iload_n 2, 1) := by decide +kernel
theorem dX13_countStretch_314 : decode cX13_countStretch 314 = .ok (.invokevirtual 817, 3) := by decide +kernel
theorem dX13_countStretch_317 : decode cX13_countStretch 317 = .ok (.iaload, 1) := by decide +kernel
theorem dX13_countStretch_318 : decode cX13_countStretch 318 = .ok (.ifCond .le 9, 3) := by decide +kernel
theorem dX13_countStretch_321 : decode cX13_countStretch 321 = .ok (.lconst 1, 1) := by decide +kernel
theorem dX13_countStretch_322 : decode cX13_countStretch 322 = .ok (.iload_n 1, 1) := by decide +kernel
theorem dX13_countStretch_323 : decode cX13_countStretch 323 = .ok (.lshl, 1) := by decide +kernel
theorem dX13_countStretch_324 : decode cX13_countStretch 324 = .ok (.goto 4, 3) := by decide +kernel
theorem dX13_countStretch_327 : decode cX13_countStretch 327 = .ok (.lconst 0, 1) := by decide +kernel
theorem dX13_countStretch_328 : decode cX13_countStretch 328 = .ok (.lor, 1) := by decide +kernel
theorem dX13_countStretch_329 : decode cX13_countStretch 329 = .ok (.lastore, 1) := by decide +kernel
theorem dX13_countStretch_330 : decode cX13_countStretch 330 = .ok (.aload_n 0, 1) := by decide +kernel
theorem dX13_countStretch_331 : decode cX13_countStretch 331 = .ok (.getfield 263, 3) := by decide +kernel
theorem dX13_countStretch_334 : decode cX13_countStretch 334 = .ok (.bipush 61, 2) := by decide +kernel
theorem dX13_countStretch_336 : decode cX13_countStretch 336 = .ok (.iload 4, 2) := by decide +kernel
theorem dX13_countStretch_338 : decode cX13_countStretch 338 = .ok (.imul, 1) := by decide +kernel
theorem dX13_countStretch_339 : decode cX13_countStretch 339 = .ok (.iload_n 2, 1) := by decide +kernel
theorem dX13_countStretch_340 : decode cX13_countStretch 340 = .ok (.iadd, 1) := by decide +kernel
theorem dX13_countStretch_341 : decode cX13_countStretch 341 = .ok (.dup2, 1) := by decide +kernel
theorem dX13_countStretch_342 : decode cX13_countStretch 342 = .ok (.laload, 1) := by decide +kernel
theorem dX13_countStretch_343 : decode cX13_countStretch 343 = .ok (.aload_n 0, 1) := by decide +kernel
theorem dX13_countStretch_344 : decode cX13_countStretch 344 = .ok (.getfield 254, 3) := by decide +kernel
theorem dX13_countStretch_347 : decode cX13_countStretch 347 = .ok (.aload_n 0, 1) := by decide +kernel
theorem dX13_countStretch_348 : decode cX13_countStretch 348 = .ok (.iload 4, 2) := by decide +kernel
theorem dX13_countStretch_350 : decode cX13_countStretch 350 = .ok (.iload_n 1, 1) := by decide +kernel
theorem dX13_countStretch_351 : decode cX13_countStretch 351 = .ok (.iload_n 2, 1) := by decide +kernel
theorem dX13_countStretch_352 : decode cX13_countStretch 352 = .ok (.invokevirtual 817, 3) := by decide +kernel
theorem dX13_countStretch_355 : decode cX13_countStretch 355 = .ok (.iaload, 1) := by decide +kernel
theorem dX13_countStretch_356 : decode cX13_countStretch 356 = .ok (.iconst 1, 1) := by decide +kernel
theorem dX13_countStretch_357 : decode cX13_countStretch 357 = .ok (.if_icmp .le 9, 3) := by decide +kernel
theorem dX13_countStretch_360 : decode cX13_countStretch 360 = .ok (.lconst 1, 1) := by decide +kernel
theorem dX13_countStretch_361 : decode cX13_countStretch 361 = .ok (.iload_n 1, 1) := by decide +kernel
theorem dX13_countStretch_362 : decode cX13_countStretch 362 = .ok (.lshl, 1) := by decide +kernel
theorem dX13_countStretch_363 : decode cX13_countStretch 363 = .ok (.goto 4, 3) := by decide +kernel
theorem dX13_countStretch_366 : decode cX13_countStretch 366 = .ok (.lconst 0, 1) := by decide +kernel
theorem dX13_countStretch_367 : decode cX13_countStretch 367 = .ok (.lor, 1) := by decide +kernel
theorem dX13_countStretch_368 : decode cX13_countStretch 368 = .ok (.lastore, 1) := by decide +kernel
theorem dX13_countStretch_369 : decode cX13_countStretch 369 = .ok (.iinc 4 1, 3) := by decide +kernel
theorem dX13_countStretch_372 : decode cX13_countStretch 372 = .ok (.goto (-89), 3) := by decide +kernel
theorem dX13_countStretch_375 : decode cX13_countStretch 375 = .ok (.iconst 1, 1) := by decide +kernel
theorem dX13_countStretch_376 : decode cX13_countStretch 376 = .ok (.istore 4, 2) := by decide +kernel
theorem dX13_countStretch_378 : decode cX13_countStretch 378 = .ok (.iload 4, 2) := by decide +kernel
theorem dX13_countStretch_380 : decode cX13_countStretch 380 = .ok (.aload_n 0, 1) := by decide +kernel
theorem dX13_countStretch_381 : decode cX13_countStretch 381 = .ok (.getfield 824, 3) := by decide +kernel
theorem dX13_countStretch_384 : decode cX13_countStretch 384 = .ok (.if_icmp .ge 45, 3) := by decide +kernel
theorem dX13_countStretch_387 : decode cX13_countStretch 387 = .ok (.aload_n 0, 1) := by decide +kernel
theorem dX13_countStretch_388 : decode cX13_countStretch 388 = .ok (.getfield 284, 3) := by decide +kernel
theorem dX13_countStretch_391 : decode cX13_countStretch 391 = .ok (.iload 4, 2) := by decide +kernel
theorem dX13_countStretch_393 : decode cX13_countStretch 393 = .ok (.iaload, 1) := by decide +kernel
theorem dX13_countStretch_394 : decode cX13_countStretch 394 = .ok (.iload_n 3, 1) := by decide +kernel
theorem dX13_countStretch_395 : decode cX13_countStretch 395 = .ok (.if_icmp .ge 28, 3) := by decide +kernel
theorem dX13_countStretch_398 : decode cX13_countStretch 398 = .ok (.aload_n 0, 1) := by decide +kernel
theorem dX13_countStretch_399 : decode cX13_countStretch 399 = .ok (.iload 4, 2) := by decide +kernel
theorem dX13_countStretch_401 : decode cX13_countStretch 401 = .ok (.invokevirtual 849, 3) := by decide +kernel
theorem dX13_countStretch_404 : decode cX13_countStretch 404 = .ok (.ifCond .ne 19, 3) := by decide +kernel
theorem dX13_countStretch_407 : decode cX13_countStretch 407 = .ok (.aload_n 0, 1) := by decide +kernel
theorem dX13_countStretch_408 : decode cX13_countStretch 408 = .ok (.iload 4, 2) := by decide +kernel
theorem dX13_countStretch_410 : decode cX13_countStretch 410 = .ok (.invokevirtual 852, 3) := by decide +kernel
theorem dX13_countStretch_413 : decode cX13_countStretch 413 = .ok (.ifCond .eq 10, 3) := by decide +kernel
theorem dX13_countStretch_416 : decode cX13_countStretch 416 = .ok (.aload_n 0, 1) := by decide +kernel
theorem dX13_countStretch_417 : decode cX13_countStretch 417 = .ok (.iload 4, 2) := by decide +kernel
theorem dX13_countStretch_419 : decode cX13_countStretch 419 = .ok (.iload_n 2, 1) := by decide +kernel
theorem dX13_countStretch_420 : decode cX13_countStretch 420 = .ok (.invokevirtual 855, 3) := by decide +kernel
theorem dX13_countStretch_423 : decode cX13_countStretch 423 = .ok (.iinc 4 1, 3) := by decide +kernel
theorem dX13_countStretch_426 : decode cX13_countStretch 426 = .ok (.goto (-48), 3) := by decide +kernel
theorem dX13_countStretch_429 : decode cX13_countStretch 429 = .ok (.return_, 1) := by decide +kernel
theorem dX13_countWays_0 : decode cX13_countWays 0 = .ok (.aload_n 0, 1) := by decide +kernel
theorem dX13_countWays_1 : decode cX13_countWays 1 = .ok (.iload_n 2, 1) := by decide +kernel
theorem dX13_countWays_2 : decode cX13_countWays 2 = .ok (.putfield 861, 3) := by decide +kernel
theorem dX13_countWays_5 : decode cX13_countWays 5 = .ok (.aload_n 0, 1) := by decide +kernel
theorem dX13_countWays_6 : decode cX13_countWays 6 = .ok (.getfield 846, 3) := by decide +kernel
theorem dX13_countWays_9 : decode cX13_countWays 9 = .ok (.ifCond .ne 7, 3) := by decide +kernel
theorem dX13_countWays_12 : decode cX13_countWays 12 = .ok (.aload_n 0, 1) := by decide +kernel
theorem dX13_countWays_13 : decode cX13_countWays 13 = .ok (.invokevirtual 864, 3) := by decide +kernel
theorem dX13_countWays_16 : decode cX13_countWays 16 = .ok (.iconst 0, 1) := by decide +kernel
theorem dX13_countWays_17 : decode cX13_countWays 17 = .ok (.istore_n 3, 1) := by decide +kernel
theorem dX13_countWays_18 : decode cX13_countWays 18 = .ok (.iload_n 3, 1) := by decide +kernel
theorem dX13_countWays_19 : decode cX13_countWays 19 = .ok (.aload_n 0, 1) := by decide +kernel
theorem dX13_countWays_20 : decode cX13_countWays 20 = .ok (.getfield 814, 3) := by decide +kernel
theorem dX13_countWays_23 : decode cX13_countWays 23 = .ok (.if_icmp .ge 104, 3) := by decide +kernel
theorem dX13_countWays_26 : decode cX13_countWays 26 = .ok (.iconst 0, 1) := by decide +kernel
theorem dX13_countWays_27 : decode cX13_countWays 27 = .ok (.istore 4, 2) := by decide +kernel
theorem dX13_countWays_29 : decode cX13_countWays 29 = .ok (.iload 4, 2) := by decide +kernel
theorem dX13_countWays_31 : decode cX13_countWays 31 = .ok (.aload_n 0, 1) := by decide +kernel
theorem dX13_countWays_32 : decode cX13_countWays 32 = .ok (.getfield 867, 3) := by decide +kernel
theorem dX13_countWays_35 : decode cX13_countWays 35 = .ok (.if_icmp .gt 86, 3) := by decide +kernel
theorem dX13_countWays_38 : decode cX13_countWays 38 = .ok (.aload_n 0, 1) := by decide +kernel
theorem dX13_countWays_39 : decode cX13_countWays 39 = .ok (.getfield 260, 3) := by decide +kernel
theorem dX13_countWays_42 : decode cX13_countWays 42 = .ok (.bipush 61, 2) := by decide +kernel
theorem dX13_countWays_44 : decode cX13_countWays 44 = .ok (.iload_n 3, 1) := by decide +kernel
theorem dX13_countWays_45 : decode cX13_countWays 45 = .ok (.imul, 1) := by decide +kernel
theorem dX13_countWays_46 : decode cX13_countWays 46 = .ok (.iload 4, 2) := by decide +kernel
theorem dX13_countWays_48 : decode cX13_countWays 48 = .ok (.iadd, 1) := by decide +kernel
theorem dX13_countWays_49 : decode cX13_countWays 49 = .ok (.lconst 0, 1) := by decide +kernel
theorem dX13_countWays_50 : decode cX13_countWays 50 = .ok (.lastore, 1) := by decide +kernel
theorem dX13_countWays_51 : decode cX13_countWays 51 = .ok (.aload_n 0, 1) := by decide +kernel
theorem dX13_countWays_52 : decode cX13_countWays 52 = .ok (.getfield 263, 3) := by decide +kernel
theorem dX13_countWays_55 : decode cX13_countWays 55 = .ok (.bipush 61, 2) := by decide +kernel
theorem dX13_countWays_57 : decode cX13_countWays 57 = .ok (.iload_n 3, 1) := by decide +kernel
theorem dX13_countWays_58 : decode cX13_countWays 58 = .ok (.imul, 1) := by decide +kernel
theorem dX13_countWays_59 : decode cX13_countWays 59 = .ok (.iload 4, 2) := by decide +kernel
theorem dX13_countWays_61 : decode cX13_countWays 61 = .ok (.iadd, 1) := by decide +kernel
theorem dX13_countWays_62 : decode cX13_countWays 62 = .ok (.lconst 0, 1) := by decide +kernel
theorem dX13_countWays_63 : decode cX13_countWays 63 = .ok (.lastore, 1) := by decide +kernel
theorem dX13_countWays_64 : decode cX13_countWays 64 = .ok (.iload 4, 2) := by decide +kernel
theorem dX13_countWays_66 : decode cX13_countWays 66 = .ok (.iconst 1, 1) := by decide +kernel
theorem dX13_countWays_67 : decode cX13_countWays 67 = .ok (.iadd, 1) := by decide +kernel
theorem dX13_countWays_68 : decode cX13_countWays 68 = .ok (.istore 5, 2) := by decide +kernel
theorem dX13_countWays_70 : decode cX13_countWays 70 = .ok (.iload 5, 2) := by decide +kernel
theorem dX13_countWays_72 : decode cX13_countWays 72 = .ok (.aload_n 0, 1) := by decide +kernel
theorem dX13_countWays_73 : decode cX13_countWays 73 = .ok (.getfield 867, 3) := by decide +kernel
theorem dX13_countWays_76 : decode cX13_countWays 76 = .ok (.if_icmp .gt 39, 3) := by decide +kernel
theorem dX13_countWays_79 : decode cX13_countWays 79 = .ok (.aload_n 0, 1) := by decide +kernel
theorem dX13_countWays_80 : decode cX13_countWays 80 = .ok (.getfield 254, 3) := by decide +kernel
theorem dX13_countWays_83 : decode cX13_countWays 83 = .ok (.aload_n 0, 1) := by decide +kernel
theorem dX13_countWays_84 : decode cX13_countWays 84 = .ok (.iload_n 3, 1) := by decide +kernel
theorem dX13_countWays_85 : decode cX13_countWays 85 = .ok (.iload 4, 2) := by decide +kernel
theorem dX13_countWays_87 : decode cX13_countWays 87 = .ok (.iload 5, 2) := by decide +kernel
theorem dX13_countWays_89 : decode cX13_countWays 89 = .ok (.invokevirtual 817, 3) := by decide +kernel
theorem dX13_countWays_92 : decode cX13_countWays 92 = .ok (.iconst 0, 1) := by decide +kernel
theorem dX13_countWays_93 : decode cX13_countWays 93 = .ok (.iastore, 1) := by decide +kernel
theorem dX13_countWays_94 : decode cX13_countWays 94 = .ok (.aload_n 0, 1) := by decide +kernel
theorem dX13_countWays_95 : decode cX13_countWays 95 = .ok (.getfield 257, 3) := by decide +kernel
theorem dX13_countWays_98 : decode cX13_countWays 98 = .ok (.aload_n 0, 1) := by decide +kernel
theorem dX13_countWays_99 : decode cX13_countWays 99 = .ok (.iload_n 3, 1) := by decide +kernel
theorem dX13_countWays_100 : decode cX13_countWays 100 = .ok (.iload 4, 2) := by decide +kernel
theorem dX13_countWays_102 : decode cX13_countWays 102 = .ok (.iload 5, 2) := by decide +kernel
theorem dX13_countWays_104 : decode cX13_countWays 104 = .ok (.invokevirtual 817, 3) := by decide +kernel
theorem dX13_countWays_107 : decode cX13_countWays 107 = .ok (.iconst (-1), 1) := by decide +kernel
theorem dX13_countWays_108 : decode cX13_countWays 108 = .ok (.iastore, 1) := by decide +kernel
theorem dX13_countWays_109 : decode cX13_countWays 109 = .ok (.iinc 5 1, 3) := by decide +kernel
theorem dX13_countWays_112 : decode cX13_countWays 112 = .ok (.goto (-42), 3) := by decide +kernel
theorem dX13_countWays_115 : decode cX13_countWays 115 = .ok (.iinc 4 1, 3) := by decide +kernel
theorem dX13_countWays_118 : decode cX13_countWays 118 = .ok (.goto (-89), 3) := by decide +kernel
theorem dX13_countWays_121 : decode cX13_countWays 121 = .ok (.iinc 3 1, 3) := by decide +kernel
theorem dX13_countWays_124 : decode cX13_countWays 124 = .ok (.goto (-106), 3) := by decide +kernel
theorem dX13_countWays_127 : decode cX13_countWays 127 = .ok (.aload_n 0, 1) := by decide +kernel
theorem dX13_countWays_128 : decode cX13_countWays 128 = .ok (.getfield 867, 3) := by decide +kernel
theorem dX13_countWays_131 : decode cX13_countWays 131 = .ok (.iconst 1, 1) := by decide +kernel
theorem dX13_countWays_132 : decode cX13_countWays 132 = .ok (.isub, 1) := by decide +kernel
theorem dX13_countWays_133 : decode cX13_countWays 133 = .ok (.istore_n 3, 1) := by decide +kernel
theorem dX13_countWays_134 : decode cX13_countWays 134 = .ok (.iload_n 3, 1) := by decide +kernel
theorem dX13_countWays_135 : decode cX13_countWays 135 = .ok (.ifCond .lt 86, 3) := by decide +kernel
theorem dX13_countWays_138 : decode cX13_countWays 138 = .ok (.iconst 1, 1) := by decide +kernel
theorem dX13_countWays_139 : decode cX13_countWays 139 = .ok (.istore 4, 2) := by decide +kernel
theorem dX13_countWays_141 : decode cX13_countWays 141 = .ok (.iload 4, 2) := by decide +kernel
theorem dX13_countWays_143 : decode cX13_countWays 143 = .ok (.aload_n 0, 1) := by decide +kernel
theorem dX13_countWays_144 : decode cX13_countWays 144 = .ok (.getfield 824, 3) := by decide +kernel
theorem dX13_countWays_147 : decode cX13_countWays 147 = .ok (.if_icmp .ge 40, 3) := by decide +kernel
theorem dX13_countWays_150 : decode cX13_countWays 150 = .ok (.aload_n 0, 1) := by decide +kernel
theorem dX13_countWays_151 : decode cX13_countWays 151 = .ok (.getfield 287, 3) := by decide +kernel
theorem dX13_countWays_154 : decode cX13_countWays 154 = .ok (.iload 4, 2) := by decide +kernel
theorem dX13_countWays_156 : decode cX13_countWays 156 = .ok (.aload_n 0, 1) := by decide +kernel
theorem dX13_countWays_157 : decode cX13_countWays 157 = .ok (.iload 4, 2) := by decide +kernel
theorem dX13_countWays_159 : decode cX13_countWays 159 = .ok (.invokevirtual 849, 3) := by decide +kernel
theorem dX13_countWays_162 : decode cX13_countWays 162 = .ok (.ifCond .eq 9, 3) := by decide +kernel
theorem dX13_countWays_165 : decode cX13_countWays 165 = .ok (.lconst 1, 1) := by decide +kernel
theorem dX13_countWays_166 : decode cX13_countWays 166 = .ok (.iload_n 3, 1) := by decide +kernel
theorem dX13_countWays_167 : decode cX13_countWays 167 = .ok (.lshl, 1) := by decide +kernel
theorem dX13_countWays_168 : decode cX13_countWays 168 = .ok (.goto 4, 3) := by decide +kernel
theorem dX13_countWays_171 : decode cX13_countWays 171 = .ok (.lconst 0, 1) := by decide +kernel
theorem dX13_countWays_172 : decode cX13_countWays 172 = .ok (.lastore, 1) := by decide +kernel
theorem dX13_countWays_173 : decode cX13_countWays 173 = .ok (.aload_n 0, 1) := by decide +kernel
theorem dX13_countWays_174 : decode cX13_countWays 174 = .ok (.getfield 290, 3) := by decide +kernel
theorem dX13_countWays_177 : decode cX13_countWays 177 = .ok (.iload 4, 2) := by decide +kernel
theorem dX13_countWays_179 : decode cX13_countWays 179 = .ok (.lconst 0, 1) := by decide +kernel
theorem dX13_countWays_180 : decode cX13_countWays 180 = .ok (.lastore, 1) := by decide +kernel
theorem dX13_countWays_181 : decode cX13_countWays 181 = .ok (.iinc 4 1, 3) := by decide +kernel
theorem dX13_countWays_184 : decode cX13_countWays 184 = .ok (.goto (-43), 3) := by decide +kernel
theorem dX13_countWays_187 : decode cX13_countWays 187 = .ok (.iload_n 3, 1) := by decide +kernel
theorem dX13_countWays_188 : decode cX13_countWays 188 = .ok (.iconst 1, 1) := by decide +kernel
theorem dX13_countWays_189 : decode cX13_countWays 189 = .ok (.iadd, 1) := by decide +kernel
theorem dX13_countWays_190 : decode cX13_countWays 190 = .ok (.istore 4, 2) := by decide +kernel
theorem dX13_countWays_192 : decode cX13_countWays 192 = .ok (.iload 4, 2) := by decide +kernel
theorem dX13_countWays_194 : decode cX13_countWays 194 = .ok (.aload_n 0, 1) := by decide +kernel
theorem dX13_countWays_195 : decode cX13_countWays 195 = .ok (.getfield 867, 3) := by decide +kernel
theorem dX13_countWays_198 : decode cX13_countWays 198 = .ok (.if_icmp .gt 17, 3) := by decide +kernel
theorem dX13_countWays_201 : decode cX13_countWays 201 = .ok (.aload_n 0, 1) := by decide +kernel
theorem dX13_countWays_202 : decode cX13_countWays 202 = .ok (.iload_n 3, 1) := by decide +kernel
theorem dX13_countWays_203 : decode cX13_countWays 203 = .ok (.iload 4, 2) := by decide +kernel
theorem dX13_countWays_205 : decode cX13_countWays 205 = .ok (.iload_n 2, 1) := by decide +kernel
theorem dX13_countWays_206 : decode cX13_countWays 206 = .ok (.invokevirtual 870, 3) := by decide +kernel
theorem dX13_countWays_209 : decode cX13_countWays 209 = .ok (.iinc 4 1, 3) := by decide +kernel
theorem dX13_countWays_212 : decode cX13_countWays 212 = .ok (.goto (-20), 3) := by decide +kernel
theorem dX13_countWays_215 : decode cX13_countWays 215 = .ok (.iinc 3 (-1), 3) := by decide +kernel
theorem dX13_countWays_218 : decode cX13_countWays 218 = .ok (.goto (-84), 3) := by decide +kernel
theorem dX13_countWays_221 : decode cX13_countWays 221 = .ok (.iload_n 1, 1) := by decide +kernel
theorem dX13_countWays_222 : decode cX13_countWays 222 = .ok (.iconst (-1), 1) := by decide +kernel
theorem dX13_countWays_223 : decode cX13_countWays 223 = .ok (.if_icmp .eq 10, 3) := by decide +kernel
theorem dX13_countWays_226 : decode cX13_countWays 226 = .ok (.aload_n 0, 1) := by decide +kernel
theorem dX13_countWays_227 : decode cX13_countWays 227 = .ok (.getfield 867, 3) := by decide +kernel
theorem dX13_countWays_230 : decode cX13_countWays 230 = .ok (.ifCond .ne 7, 3) := by decide +kernel
theorem dX13_countWays_233 : decode cX13_countWays 233 = .ok (.iconst 0, 1) := by decide +kernel
theorem dX13_countWays_234 : decode cX13_countWays 234 = .ok (.goto 18, 3) := by decide +kernel
theorem dX13_countWays_237 : decode cX13_countWays 237 = .ok (.aload_n 0, 1) := by decide +kernel
theorem dX13_countWays_238 : decode cX13_countWays 238 = .ok (.getfield 254, 3) := by decide +kernel
theorem dX13_countWays_241 : decode cX13_countWays 241 = .ok (.aload_n 0, 1) := by decide +kernel
theorem dX13_countWays_242 : decode cX13_countWays 242 = .ok (.iload_n 1, 1) := by decide +kernel
theorem dX13_countWays_243 : decode cX13_countWays 243 = .ok (.iconst 0, 1) := by decide +kernel
theorem dX13_countWays_244 : decode cX13_countWays 244 = .ok (.aload_n 0, 1) := by decide +kernel
theorem dX13_countWays_245 : decode cX13_countWays 245 = .ok (.getfield 867, 3) := by decide +kernel
theorem dX13_countWays_248 : decode cX13_countWays 248 = .ok (.invokevirtual 817, 3) := by decide +kernel
theorem dX13_countWays_251 : decode cX13_countWays 251 = .ok (.iaload, 1) := by decide +kernel
theorem dX13_countWays_252 : decode cX13_countWays 252 = .ok (.ireturn, 1) := by decide +kernel
theorem dX13_treeSort_0 : decode cX13_treeSort 0 = .ok (.aload_n 0, 1) := by decide +kernel
theorem dX13_treeSort_1 : decode cX13_treeSort 1 = .ok (.getfield 35, 3) := by decide +kernel
theorem dX13_treeSort_4 : decode cX13_treeSort 4 = .ok (.iload_n 1, 1) := by decide +kernel
theorem dX13_treeSort_5 : decode cX13_treeSort 5 = .ok (.baload, 1) := by decide +kernel
theorem dX13_treeSort_6 : decode cX13_treeSort 6 = .ok (.ifCond .eq 5, 3) := by decide +kernel
theorem dX13_treeSort_9 : decode cX13_treeSort 9 = .ok (.iconst (-1), 1) := by decide +kernel
theorem dX13_treeSort_10 : decode cX13_treeSort 10 = .ok (.ireturn, 1) := by decide +kernel
theorem dX13_treeSort_11 : decode cX13_treeSort 11 = .ok (.iload_n 1, 1) := by decide +kernel
theorem dX13_treeSort_12 : decode cX13_treeSort 12 = .ok (.aload_n 0, 1) := by decide +kernel
theorem dX13_treeSort_13 : decode cX13_treeSort 13 = .ok (.getfield 373, 3) := by decide +kernel
theorem dX13_treeSort_16 : decode cX13_treeSort 16 = .ok (.if_icmp .eq 12, 3) := by decide +kernel
theorem dX13_treeSort_19 : decode cX13_treeSort 19 = .ok (.aload_n 0, 1) := by decide +kernel
theorem dX13_treeSort_20 : decode cX13_treeSort 20 = .ok (.getfield 241, 3) := by decide +kernel
theorem dX13_treeSort_23 : decode cX13_treeSort 23 = .ok (.iload_n 1, 1) := by decide +kernel
theorem dX13_treeSort_24 : decode cX13_treeSort 24 = .ok (.iaload, 1) := by decide +kernel
theorem dX13_treeSort_25 : decode cX13_treeSort 25 = .ok (.goto 36, 3) := by decide +kernel
theorem dX13_treeSort_28 : decode cX13_treeSort 28 = .ok (.aload_n 0, 1) := by decide +kernel
theorem dX13_treeSort_29 : decode cX13_treeSort 29 = .ok (.getfield 370, 3) := by decide +kernel
theorem dX13_treeSort_32 : decode cX13_treeSort 32 = .ok (.iconst (-1), 1) := by decide +kernel
theorem dX13_treeSort_33 : decode cX13_treeSort 33 = .ok (.if_icmp .eq 15, 3) := by decide +kernel
theorem dX13_treeSort_36 : decode cX13_treeSort 36 = .ok (.aload_n 0, 1) := by decide +kernel
theorem dX13_treeSort_37 : decode cX13_treeSort 37 = .ok (.getfield 35, 3) := by decide +kernel
theorem dX13_treeSort_40 : decode cX13_treeSort 40 = .ok (.aload_n 0, 1) := by decide +kernel
theorem dX13_treeSort_41 : decode cX13_treeSort 41 = .ok (.getfield 370, 3) := by decide +kernel
theorem dX13_treeSort_44 : decode cX13_treeSort 44 = .ok (.baload, 1) := by decide +kernel
theorem dX13_treeSort_45 : decode cX13_treeSort 45 = .ok (.ifCond .eq 7, 3) := by decide +kernel
theorem dX13_treeSort_48 : decode cX13_treeSort 48 = .ok (.iconst (-1), 1) := by decide +kernel
theorem dX13_treeSort_49 : decode cX13_treeSort 49 = .ok (.goto 12, 3) := by decide +kernel
theorem dX13_treeSort_52 : decode cX13_treeSort 52 = .ok (.aload_n 0, 1) := by decide +kernel
theorem dX13_treeSort_53 : decode cX13_treeSort 53 = .ok (.getfield 241, 3) := by decide +kernel
theorem dX13_treeSort_56 : decode cX13_treeSort 56 = .ok (.aload_n 0, 1) := by decide +kernel
theorem dX13_treeSort_57 : decode cX13_treeSort 57 = .ok (.getfield 370, 3) := by decide +kernel
theorem dX13_treeSort_60 : decode cX13_treeSort 60 = .ok (.iaload, 1) := by decide +kernel
theorem dX13_treeSort_61 : decode cX13_treeSort 61 = .ok (.ireturn, 1) := by decide +kernel
theorem dX13_takeStatement_0 : decode cX13_takeStatement 0 = .ok (.aload_n 0, 1) := by decide +kernel
theorem dX13_takeStatement_1 : decode cX13_takeStatement 1 = .ok (.invokevirtual 873, 3) := by decide +kernel
theorem dX13_takeStatement_4 : decode cX13_takeStatement 4 = .ok (.aload_n 0, 1) := by decide +kernel
theorem dX13_takeStatement_5 : decode cX13_takeStatement 5 = .ok (.aload_n 0, 1) := by decide +kernel
theorem dX13_takeStatement_6 : decode cX13_takeStatement 6 = .ok (.getfield 57, 3) := by decide +kernel
theorem dX13_takeStatement_9 : decode cX13_takeStatement 9 = .ok (.iload_n 1, 1) := by decide +kernel
theorem dX13_takeStatement_10 : decode cX13_takeStatement 10 = .ok (.iaload, 1) := by decide +kernel
theorem dX13_takeStatement_11 : decode cX13_takeStatement 11 = .ok (.iconst 1, 1) := by decide +kernel
theorem dX13_takeStatement_12 : decode cX13_takeStatement 12 = .ok (.isub, 1) := by decide +kernel
theorem dX13_takeStatement_13 : decode cX13_takeStatement 13 = .ok (.putfield 867, 3) := by decide +kernel
theorem dX13_takeStatement_16 : decode cX13_takeStatement 16 = .ok (.iconst 0, 1) := by decide +kernel
theorem dX13_takeStatement_17 : decode cX13_takeStatement 17 = .ok (.istore_n 2, 1) := by decide +kernel
theorem dX13_takeStatement_18 : decode cX13_takeStatement 18 = .ok (.iload_n 2, 1) := by decide +kernel
theorem dX13_takeStatement_19 : decode cX13_takeStatement 19 = .ok (.aload_n 0, 1) := by decide +kernel
theorem dX13_takeStatement_20 : decode cX13_takeStatement 20 = .ok (.getfield 867, 3) := by decide +kernel
theorem dX13_takeStatement_23 : decode cX13_takeStatement 23 = .ok (.if_icmp .ge 84, 3) := by decide +kernel
theorem dX13_takeStatement_26 : decode cX13_takeStatement 26 = .ok (.aload_n 0, 1) := by decide +kernel
theorem dX13_takeStatement_27 : decode cX13_takeStatement 27 = .ok (.getfield 63, 3) := by decide +kernel
theorem dX13_takeStatement_30 : decode cX13_takeStatement 30 = .ok (.aload_n 0, 1) := by decide +kernel
theorem dX13_takeStatement_31 : decode cX13_takeStatement 31 = .ok (.getfield 54, 3) := by decide +kernel
theorem dX13_takeStatement_34 : decode cX13_takeStatement 34 = .ok (.iload_n 1, 1) := by decide +kernel
theorem dX13_takeStatement_35 : decode cX13_takeStatement 35 = .ok (.iaload, 1) := by decide +kernel
theorem dX13_takeStatement_36 : decode cX13_takeStatement 36 = .ok (.iconst 1, 1) := by decide +kernel
theorem dX13_takeStatement_37 : decode cX13_takeStatement 37 = .ok (.iadd, 1) := by decide +kernel
theorem dX13_takeStatement_38 : decode cX13_takeStatement 38 = .ok (.iload_n 2, 1) := by decide +kernel
theorem dX13_takeStatement_39 : decode cX13_takeStatement 39 = .ok (.iadd, 1) := by decide +kernel
theorem dX13_takeStatement_40 : decode cX13_takeStatement 40 = .ok (.iaload, 1) := by decide +kernel
theorem dX13_takeStatement_41 : decode cX13_takeStatement 41 = .ok (.istore_n 3, 1) := by decide +kernel
theorem dX13_takeStatement_42 : decode cX13_takeStatement 42 = .ok (.aload_n 0, 1) := by decide +kernel
theorem dX13_takeStatement_43 : decode cX13_takeStatement 43 = .ok (.getfield 244, 3) := by decide +kernel
theorem dX13_takeStatement_46 : decode cX13_takeStatement 46 = .ok (.iload_n 2, 1) := by decide +kernel
theorem dX13_takeStatement_47 : decode cX13_takeStatement 47 = .ok (.aload_n 0, 1) := by decide +kernel
theorem dX13_takeStatement_48 : decode cX13_takeStatement 48 = .ok (.getfield 60, 3) := by decide +kernel
theorem dX13_takeStatement_51 : decode cX13_takeStatement 51 = .ok (.aload_n 0, 1) := by decide +kernel
theorem dX13_takeStatement_52 : decode cX13_takeStatement 52 = .ok (.getfield 54, 3) := by decide +kernel
theorem dX13_takeStatement_55 : decode cX13_takeStatement 55 = .ok (.iload_n 1, 1) := by decide +kernel
theorem dX13_takeStatement_56 : decode cX13_takeStatement 56 = .ok (.iaload, 1) := by decide +kernel
theorem dX13_takeStatement_57 : decode cX13_takeStatement 57 = .ok (.iconst 1, 1) := by decide +kernel
theorem dX13_takeStatement_58 : decode cX13_takeStatement 58 = .ok (.iadd, 1) := by decide +kernel
theorem dX13_takeStatement_59 : decode cX13_takeStatement 59 = .ok (.iload_n 2, 1) := by decide +kernel
theorem dX13_takeStatement_60 : decode cX13_takeStatement 60 = .ok (.iadd, 1) := by decide +kernel
theorem dX13_takeStatement_61 : decode cX13_takeStatement 61 = .ok (.iaload, 1) := by decide +kernel
theorem dX13_takeStatement_62 : decode cX13_takeStatement 62 = .ok (.iastore, 1) := by decide +kernel
theorem dX13_takeStatement_63 : decode cX13_takeStatement 63 = .ok (.aload_n 0, 1) := by decide +kernel
theorem dX13_takeStatement_64 : decode cX13_takeStatement 64 = .ok (.getfield 247, 3) := by decide +kernel
theorem dX13_takeStatement_67 : decode cX13_takeStatement 67 = .ok (.iload_n 2, 1) := by decide +kernel
theorem dX13_takeStatement_68 : decode cX13_takeStatement 68 = .ok (.iload_n 3, 1) := by decide +kernel
theorem dX13_takeStatement_69 : decode cX13_takeStatement 69 = .ok (.iconst (-1), 1) := by decide +kernel
theorem dX13_takeStatement_70 : decode cX13_takeStatement 70 = .ok (.if_icmp .ne 7, 3) := by decide +kernel
theorem dX13_takeStatement_73 : decode cX13_takeStatement 73 = .ok (.iconst (-1), 1) := by decide +kernel
theorem dX13_takeStatement_74 : decode cX13_takeStatement 74 = .ok (.goto 19, 3) := by decide +kernel
theorem dX13_takeStatement_77 : decode cX13_takeStatement 77 = .ok (.aload_n 0, 1) := by decide +kernel
theorem dX13_takeStatement_78 : decode cX13_takeStatement 78 = .ok (.getfield 241, 3) := by decide +kernel
theorem dX13_takeStatement_81 : decode cX13_takeStatement 81 = .ok (.aload_n 0, 1) := by decide +kernel
theorem dX13_takeStatement_82 : decode cX13_takeStatement 82 = .ok (.getfield 60, 3) := by decide +kernel
theorem dX13_takeStatement_85 : decode cX13_takeStatement 85 = .ok (.aload_n 0, 1) := by decide +kernel
theorem dX13_takeStatement_86 : decode cX13_takeStatement 86 = .ok (.getfield 54, 3) := by decide +kernel
theorem dX13_takeStatement_89 : decode cX13_takeStatement 89 = .ok (.iload_n 3, 1) := by decide +kernel
theorem dX13_takeStatement_90 : decode cX13_takeStatement 90 = .ok (.iaload, 1) := by decide +kernel
theorem dX13_takeStatement_91 : decode cX13_takeStatement 91 = .ok (.iaload, 1) := by decide +kernel
theorem dX13_takeStatement_92 : decode cX13_takeStatement 92 = .ok (.iaload, 1) := by decide +kernel
theorem dX13_takeStatement_93 : decode cX13_takeStatement 93 = .ok (.iastore, 1) := by decide +kernel
theorem dX13_takeStatement_94 : decode cX13_takeStatement 94 = .ok (.aload_n 0, 1) := by decide +kernel
theorem dX13_takeStatement_95 : decode cX13_takeStatement 95 = .ok (.getfield 250, 3) := by decide +kernel
theorem dX13_takeStatement_98 : decode cX13_takeStatement 98 = .ok (.iload_n 2, 1) := by decide +kernel
theorem dX13_takeStatement_99 : decode cX13_takeStatement 99 = .ok (.iload_n 3, 1) := by decide +kernel
theorem dX13_takeStatement_100 : decode cX13_takeStatement 100 = .ok (.iastore, 1) := by decide +kernel
theorem dX13_takeStatement_101 : decode cX13_takeStatement 101 = .ok (.iinc 2 1, 3) := by decide +kernel
theorem dX13_takeStatement_104 : decode cX13_takeStatement 104 = .ok (.goto (-86), 3) := by decide +kernel
theorem dX13_takeStatement_107 : decode cX13_takeStatement 107 = .ok (.return_, 1) := by decide +kernel
theorem dX13_newNode_0 : decode cX13_newNode 0 = .ok (.aload_n 0, 1) := by decide +kernel
theorem dX13_newNode_1 : decode cX13_newNode 1 = .ok (.getfield 311, 3) := by decide +kernel
theorem dX13_newNode_4 : decode cX13_newNode 4 = .ok (.aload_n 0, 1) := by decide +kernel
theorem dX13_newNode_5 : decode cX13_newNode 5 = .ok (.getfield 876, 3) := by decide +kernel
theorem dX13_newNode_8 : decode cX13_newNode 8 = .ok (.iload_n 1, 1) := by decide +kernel
theorem dX13_newNode_9 : decode cX13_newNode 9 = .ok (.iastore, 1) := by decide +kernel
theorem dX13_newNode_10 : decode cX13_newNode 10 = .ok (.aload_n 0, 1) := by decide +kernel
theorem dX13_newNode_11 : decode cX13_newNode 11 = .ok (.getfield 305, 3) := by decide +kernel
theorem dX13_newNode_14 : decode cX13_newNode 14 = .ok (.aload_n 0, 1) := by decide +kernel
theorem dX13_newNode_15 : decode cX13_newNode 15 = .ok (.getfield 876, 3) := by decide +kernel
theorem dX13_newNode_18 : decode cX13_newNode 18 = .ok (.iload_n 2, 1) := by decide +kernel
theorem dX13_newNode_19 : decode cX13_newNode 19 = .ok (.iastore, 1) := by decide +kernel
theorem dX13_newNode_20 : decode cX13_newNode 20 = .ok (.aload_n 0, 1) := by decide +kernel
theorem dX13_newNode_21 : decode cX13_newNode 21 = .ok (.getfield 308, 3) := by decide +kernel
theorem dX13_newNode_24 : decode cX13_newNode 24 = .ok (.aload_n 0, 1) := by decide +kernel
theorem dX13_newNode_25 : decode cX13_newNode 25 = .ok (.getfield 876, 3) := by decide +kernel
theorem dX13_newNode_28 : decode cX13_newNode 28 = .ok (.iload_n 3, 1) := by decide +kernel
theorem dX13_newNode_29 : decode cX13_newNode 29 = .ok (.iastore, 1) := by decide +kernel
theorem dX13_newNode_30 : decode cX13_newNode 30 = .ok (.aload_n 0, 1) := by decide +kernel
theorem dX13_newNode_31 : decode cX13_newNode 31 = .ok (.dup, 1) := by decide +kernel
theorem dX13_newNode_32 : decode cX13_newNode 32 = .ok (.getfield 876, 3) := by decide +kernel
theorem dX13_newNode_35 : decode cX13_newNode 35 = .ok (.iconst 1, 1) := by decide +kernel
theorem dX13_newNode_36 : decode cX13_newNode 36 = .ok (.iadd, 1) := by decide +kernel
theorem dX13_newNode_37 : decode cX13_newNode 37 = .ok (.putfield 876, 3) := by decide +kernel
theorem dX13_newNode_40 : decode cX13_newNode 40 = .ok (.aload_n 0, 1) := by decide +kernel
theorem dX13_newNode_41 : decode cX13_newNode 41 = .ok (.getfield 876, 3) := by decide +kernel
theorem dX13_newNode_44 : decode cX13_newNode 44 = .ok (.iconst 1, 1) := by decide +kernel
theorem dX13_newNode_45 : decode cX13_newNode 45 = .ok (.isub, 1) := by decide +kernel
theorem dX13_newNode_46 : decode cX13_newNode 46 = .ok (.ireturn, 1) := by decide +kernel
theorem dX13_hypOf_0 : decode cX13_hypOf 0 = .ok (.iconst 0, 1) := by decide +kernel
theorem dX13_hypOf_1 : decode cX13_hypOf 1 = .ok (.istore_n 3, 1) := by decide +kernel
theorem dX13_hypOf_2 : decode cX13_hypOf 2 = .ok (.iload_n 3, 1) := by decide +kernel
theorem dX13_hypOf_3 : decode cX13_hypOf 3 = .ok (.aload_n 0, 1) := by decide +kernel
theorem dX13_hypOf_4 : decode cX13_hypOf 4 = .ok (.getfield 69, 3) := by decide +kernel
theorem dX13_hypOf_7 : decode cX13_hypOf 7 = .ok (.iload_n 1, 1) := by decide +kernel
theorem dX13_hypOf_8 : decode cX13_hypOf 8 = .ok (.iaload, 1) := by decide +kernel
theorem dX13_hypOf_9 : decode cX13_hypOf 9 = .ok (.if_icmp .ge 40, 3) := by decide +kernel
theorem dX13_hypOf_12 : decode cX13_hypOf 12 = .ok (.aload_n 0, 1) := by decide +kernel
theorem dX13_hypOf_13 : decode cX13_hypOf 13 = .ok (.getfield 60, 3) := by decide +kernel
theorem dX13_hypOf_16 : decode cX13_hypOf 16 = .ok (.aload_n 0, 1) := by decide +kernel
theorem dX13_hypOf_17 : decode cX13_hypOf 17 = .ok (.getfield 54, 3) := by decide +kernel
theorem dX13_hypOf_20 : decode cX13_hypOf 20 = .ok (.aload_n 0, 1) := by decide +kernel
theorem dX13_hypOf_21 : decode cX13_hypOf 21 = .ok (.getfield 73, 3) := by decide +kernel
theorem dX13_hypOf_24 : decode cX13_hypOf 24 = .ok (.aload_n 0, 1) := by decide +kernel
theorem dX13_hypOf_25 : decode cX13_hypOf 25 = .ok (.getfield 66, 3) := by decide +kernel
theorem dX13_hypOf_28 : decode cX13_hypOf 28 = .ok (.iload_n 1, 1) := by decide +kernel
theorem dX13_hypOf_29 : decode cX13_hypOf 29 = .ok (.iaload, 1) := by decide +kernel
theorem dX13_hypOf_30 : decode cX13_hypOf 30 = .ok (.iload_n 3, 1) := by decide +kernel
theorem dX13_hypOf_31 : decode cX13_hypOf 31 = .ok (.iadd, 1) := by decide +kernel
theorem dX13_hypOf_32 : decode cX13_hypOf 32 = .ok (.iaload, 1) := by decide +kernel
theorem dX13_hypOf_33 : decode cX13_hypOf 33 = .ok (.iaload, 1) := by decide +kernel
theorem dX13_hypOf_34 : decode cX13_hypOf 34 = .ok (.iconst 1, 1) := by decide +kernel
theorem dX13_hypOf_35 : decode cX13_hypOf 35 = .ok (.iadd, 1) := by decide +kernel
theorem dX13_hypOf_36 : decode cX13_hypOf 36 = .ok (.iaload, 1) := by decide +kernel
theorem dX13_hypOf_37 : decode cX13_hypOf 37 = .ok (.iload_n 2, 1) := by decide +kernel
theorem dX13_hypOf_38 : decode cX13_hypOf 38 = .ok (.if_icmp .ne 5, 3) := by decide +kernel
theorem dX13_hypOf_41 : decode cX13_hypOf 41 = .ok (.iload_n 3, 1) := by decide +kernel
theorem dX13_hypOf_42 : decode cX13_hypOf 42 = .ok (.ireturn, 1) := by decide +kernel
theorem dX13_hypOf_43 : decode cX13_hypOf 43 = .ok (.iinc 3 1, 3) := by decide +kernel
theorem dX13_hypOf_46 : decode cX13_hypOf 46 = .ok (.goto (-44), 3) := by decide +kernel
theorem dX13_hypOf_49 : decode cX13_hypOf 49 = .ok (.iconst (-1), 1) := by decide +kernel
theorem dX13_hypOf_50 : decode cX13_hypOf 50 = .ok (.ireturn, 1) := by decide +kernel
theorem dX13_part_0 : decode cX13_part 0 = .ok (.aload_n 0, 1) := by decide +kernel
theorem dX13_part_1 : decode cX13_part 1 = .ok (.getfield 299, 3) := by decide +kernel
theorem dX13_part_4 : decode cX13_part 4 = .ok (.iload_n 1, 1) := by decide +kernel
theorem dX13_part_5 : decode cX13_part 5 = .ok (.iload_n 2, 1) := by decide +kernel
theorem dX13_part_6 : decode cX13_part 6 = .ok (.iastore, 1) := by decide +kernel
theorem dX13_part_7 : decode cX13_part 7 = .ok (.aload_n 0, 1) := by decide +kernel
theorem dX13_part_8 : decode cX13_part 8 = .ok (.getfield 302, 3) := by decide +kernel
theorem dX13_part_11 : decode cX13_part 11 = .ok (.iload_n 1, 1) := by decide +kernel
theorem dX13_part_12 : decode cX13_part 12 = .ok (.aload_n 0, 1) := by decide +kernel
theorem dX13_part_13 : decode cX13_part 13 = .ok (.getfield 879, 3) := by decide +kernel
theorem dX13_part_16 : decode cX13_part 16 = .ok (.iastore, 1) := by decide +kernel
theorem dX13_part_17 : decode cX13_part 17 = .ok (.aload_n 0, 1) := by decide +kernel
theorem dX13_part_18 : decode cX13_part 18 = .ok (.dup, 1) := by decide +kernel
theorem dX13_part_19 : decode cX13_part 19 = .ok (.getfield 879, 3) := by decide +kernel
theorem dX13_part_22 : decode cX13_part 22 = .ok (.aload_n 0, 1) := by decide +kernel
theorem dX13_part_23 : decode cX13_part 23 = .ok (.getfield 69, 3) := by decide +kernel
theorem dX13_part_26 : decode cX13_part 26 = .ok (.iload_n 2, 1) := by decide +kernel
theorem dX13_part_27 : decode cX13_part 27 = .ok (.iaload, 1) := by decide +kernel
theorem dX13_part_28 : decode cX13_part 28 = .ok (.iadd, 1) := by decide +kernel
theorem dX13_part_29 : decode cX13_part 29 = .ok (.putfield 879, 3) := by decide +kernel
theorem dX13_part_32 : decode cX13_part 32 = .ok (.aload_n 0, 1) := by decide +kernel
theorem dX13_part_33 : decode cX13_part 33 = .ok (.getfield 57, 3) := by decide +kernel
theorem dX13_part_36 : decode cX13_part 36 = .ok (.iload_n 2, 1) := by decide +kernel
theorem dX13_part_37 : decode cX13_part 37 = .ok (.iaload, 1) := by decide +kernel
theorem dX13_part_38 : decode cX13_part 38 = .ok (.iconst 1, 1) := by decide +kernel
theorem dX13_part_39 : decode cX13_part 39 = .ok (.isub, 1) := by decide +kernel
theorem dX13_part_40 : decode cX13_part 40 = .ok (.istore_n 3, 1) := by decide +kernel
theorem dX13_part_41 : decode cX13_part 41 = .ok (.aload_n 0, 1) := by decide +kernel
theorem dX13_part_42 : decode cX13_part 42 = .ok (.getfield 54, 3) := by decide +kernel
theorem dX13_part_45 : decode cX13_part 45 = .ok (.iload_n 2, 1) := by decide +kernel
theorem dX13_part_46 : decode cX13_part 46 = .ok (.iaload, 1) := by decide +kernel
theorem dX13_part_47 : decode cX13_part 47 = .ok (.iconst 1, 1) := by decide +kernel
theorem dX13_part_48 : decode cX13_part 48 = .ok (.iadd, 1) := by decide +kernel
theorem dX13_part_49 : decode cX13_part 49 = .ok (.istore 4, 2) := by decide +kernel
theorem dX13_part_51 : decode cX13_part 51 = .ok (.aload_n 0, 1) := by decide +kernel
theorem dX13_part_52 : decode cX13_part 52 = .ok (.iload_n 2, 1) := by decide +kernel
theorem dX13_part_53 : decode cX13_part 53 = .ok (.invokevirtual 840, 3) := by decide +kernel
theorem dX13_part_56 : decode cX13_part 56 = .ok (.ifCond .eq 48, 3) := by decide +kernel
theorem dX13_part_59 : decode cX13_part 59 = .ok (.aload_n 0, 1) := by decide +kernel
theorem dX13_part_60 : decode cX13_part 60 = .ok (.getfield 314, 3) := by decide +kernel
theorem dX13_part_63 : decode cX13_part 63 = .ok (.aload_n 0, 1) := by decide +kernel
theorem dX13_part_64 : decode cX13_part 64 = .ok (.getfield 302, 3) := by decide +kernel
theorem dX13_part_67 : decode cX13_part 67 = .ok (.iload_n 1, 1) := by decide +kernel
theorem dX13_part_68 : decode cX13_part 68 = .ok (.iaload, 1) := by decide +kernel
theorem dX13_part_69 : decode cX13_part 69 = .ok (.aload_n 0, 1) := by decide +kernel
theorem dX13_part_70 : decode cX13_part 70 = .ok (.aload_n 0, 1) := by decide +kernel
theorem dX13_part_71 : decode cX13_part 71 = .ok (.getfield 241, 3) := by decide +kernel
theorem dX13_part_74 : decode cX13_part 74 = .ok (.aload_n 0, 1) := by decide +kernel
theorem dX13_part_75 : decode cX13_part 75 = .ok (.getfield 42, 3) := by decide +kernel
theorem dX13_part_78 : decode cX13_part 78 = .ok (.aload_n 0, 1) := by decide +kernel
theorem dX13_part_79 : decode cX13_part 79 = .ok (.getfield 60, 3) := by decide +kernel
theorem dX13_part_82 : decode cX13_part 82 = .ok (.iload 4, 2) := by decide +kernel
theorem dX13_part_84 : decode cX13_part 84 = .ok (.iaload, 1) := by decide +kernel
theorem dX13_part_85 : decode cX13_part 85 = .ok (.iaload, 1) := by decide +kernel
theorem dX13_part_86 : decode cX13_part 86 = .ok (.iaload, 1) := by decide +kernel
theorem dX13_part_87 : decode cX13_part 87 = .ok (.aload_n 0, 1) := by decide +kernel
theorem dX13_part_88 : decode cX13_part 88 = .ok (.getfield 305, 3) := by decide +kernel
theorem dX13_part_91 : decode cX13_part 91 = .ok (.iload_n 1, 1) := by decide +kernel
theorem dX13_part_92 : decode cX13_part 92 = .ok (.iaload, 1) := by decide +kernel
theorem dX13_part_93 : decode cX13_part 93 = .ok (.aload_n 0, 1) := by decide +kernel
theorem dX13_part_94 : decode cX13_part 94 = .ok (.getfield 308, 3) := by decide +kernel
theorem dX13_part_97 : decode cX13_part 97 = .ok (.iload_n 1, 1) := by decide +kernel
theorem dX13_part_98 : decode cX13_part 98 = .ok (.iaload, 1) := by decide +kernel
theorem dX13_part_99 : decode cX13_part 99 = .ok (.invokevirtual 882, 3) := by decide +kernel
theorem dX13_part_102 : decode cX13_part 102 = .ok (.iastore, 1) := by decide +kernel
theorem dX13_part_103 : decode cX13_part 103 = .ok (.return_, 1) := by decide +kernel
theorem dX13_part_104 : decode cX13_part 104 = .ok (.aload_n 0, 1) := by decide +kernel
theorem dX13_part_105 : decode cX13_part 105 = .ok (.iload_n 2, 1) := by decide +kernel
theorem dX13_part_106 : decode cX13_part 106 = .ok (.aload_n 0, 1) := by decide +kernel
theorem dX13_part_107 : decode cX13_part 107 = .ok (.getfield 305, 3) := by decide +kernel
theorem dX13_part_110 : decode cX13_part 110 = .ok (.iload_n 1, 1) := by decide +kernel
theorem dX13_part_111 : decode cX13_part 111 = .ok (.iaload, 1) := by decide +kernel
theorem dX13_part_112 : decode cX13_part 112 = .ok (.aload_n 0, 1) := by decide +kernel
theorem dX13_part_113 : decode cX13_part 113 = .ok (.getfield 308, 3) := by decide +kernel
theorem dX13_part_116 : decode cX13_part 116 = .ok (.iload_n 1, 1) := by decide +kernel
theorem dX13_part_117 : decode cX13_part 117 = .ok (.iaload, 1) := by decide +kernel
theorem dX13_part_118 : decode cX13_part 118 = .ok (.invokevirtual 885, 3) := by decide +kernel
theorem dX13_part_121 : decode cX13_part 121 = .ok (.pop, 1) := by decide +kernel
theorem dX13_part_122 : decode cX13_part 122 = .ok (.aload_n 0, 1) := by decide +kernel
theorem dX13_part_123 : decode cX13_part 123 = .ok (.getfield 308, 3) := by decide +kernel
theorem dX13_part_126 : decode cX13_part 126 = .ok (.iload_n 1, 1) := by decide +kernel
theorem dX13_part_127 : decode cX13_part 127 = .ok (.iaload, 1) := by decide +kernel
theorem dX13_part_128 : decode cX13_part 128 = .ok (.istore 5, 2) := by decide +kernel
theorem dX13_part_130 : decode cX13_part 130 = .ok (.iload_n 3, 1) := by decide +kernel
theorem dX13_part_131 : decode cX13_part 131 = .ok (.istore 6, 2) := by decide +kernel
theorem dX13_part_133 : decode cX13_part 133 = .ok (.iload 6, 2) := by decide +kernel
theorem dX13_part_135 : decode cX13_part 135 = .ok (.iconst 1, 1) := by decide +kernel
theorem dX13_part_136 : decode cX13_part 136 = .ok (.if_icmp .lt 128, 3) := by decide +kernel
theorem dX13_part_139 : decode cX13_part 139 = .ok (.aload_n 0, 1) := by decide +kernel
theorem dX13_part_140 : decode cX13_part 140 = .ok (.getfield 60, 3) := by decide +kernel
theorem dX13_part_143 : decode cX13_part 143 = .ok (.iload 4, 2) := by decide +kernel
theorem dX13_part_145 : decode cX13_part 145 = .ok (.iload 6, 2) := by decide +kernel
theorem dX13_part_147 : decode cX13_part 147 = .ok (.iadd, 1) := by decide +kernel
theorem dX13_part_148 : decode cX13_part 148 = .ok (.iconst 1, 1) := by decide +kernel
theorem dX13_part_149 : decode cX13_part 149 = .ok (.isub, 1) := by decide +kernel
theorem dX13_part_150 : decode cX13_part 150 = .ok (.iaload, 1) := by decide +kernel
theorem dX13_part_151 : decode cX13_part 151 = .ok (.istore 7, 2) := by decide +kernel
theorem dX13_part_153 : decode cX13_part 153 = .ok (.iload 5, 2) := by decide +kernel
theorem dX13_part_155 : decode cX13_part 155 = .ok (.iconst 1, 1) := by decide +kernel
theorem dX13_part_156 : decode cX13_part 156 = .ok (.isub, 1) := by decide +kernel
theorem dX13_part_157 : decode cX13_part 157 = .ok (.istore 8, 2) := by decide +kernel
theorem dX13_part_159 : decode cX13_part 159 = .ok (.aload_n 0, 1) := by decide +kernel
theorem dX13_part_160 : decode cX13_part 160 = .ok (.getfield 35, 3) := by decide +kernel
theorem dX13_part_163 : decode cX13_part 163 = .ok (.iload 7, 2) := by decide +kernel
theorem dX13_part_165 : decode cX13_part 165 = .ok (.baload, 1) := by decide +kernel
theorem dX13_part_166 : decode cX13_part 166 = .ok (.ifCond .eq 88, 3) := by decide +kernel
theorem dX13_part_169 : decode cX13_part 169 = .ok (.aload_n 0, 1) := by decide +kernel
theorem dX13_part_170 : decode cX13_part 170 = .ok (.getfield 241, 3) := by decide +kernel
theorem dX13_part_173 : decode cX13_part 173 = .ok (.aload_n 0, 1) := by decide +kernel
theorem dX13_part_174 : decode cX13_part 174 = .ok (.getfield 42, 3) := by decide +kernel
theorem dX13_part_177 : decode cX13_part 177 = .ok (.iload 7, 2) := by decide +kernel
theorem dX13_part_179 : decode cX13_part 179 = .ok (.iaload, 1) := by decide +kernel
theorem dX13_part_180 : decode cX13_part 180 = .ok (.iaload, 1) := by decide +kernel
theorem dX13_part_181 : decode cX13_part 181 = .ok (.istore 9, 2) := by decide +kernel
theorem dX13_part_183 : decode cX13_part 183 = .ok (.aload_n 0, 1) := by decide +kernel
theorem dX13_part_184 : decode cX13_part 184 = .ok (.getfield 296, 3) := by decide +kernel
theorem dX13_part_187 : decode cX13_part 187 = .ok (.bipush 61, 2) := by decide +kernel
theorem dX13_part_189 : decode cX13_part 189 = .ok (.iload 6, 2) := by decide +kernel
theorem dX13_part_191 : decode cX13_part 191 = .ok (.iconst 1, 1) := by decide +kernel
theorem dX13_part_192 : decode cX13_part 192 = .ok (.isub, 1) := by decide +kernel
theorem dX13_part_193 : decode cX13_part 193 = .ok (.imul, 1) := by decide +kernel
theorem dX13_part_194 : decode cX13_part 194 = .ok (.iload 8, 2) := by decide +kernel
theorem dX13_part_196 : decode cX13_part 196 = .ok (.iadd, 1) := by decide +kernel
theorem dX13_part_197 : decode cX13_part 197 = .ok (.iaload, 1) := by decide +kernel
theorem dX13_part_198 : decode cX13_part 198 = .ok (.ifCond .eq 21, 3) := by decide +kernel
theorem dX13_part_201 : decode cX13_part 201 = .ok (.aload_n 0, 1) := by decide +kernel
theorem dX13_part_202 : decode cX13_part 202 = .ok (.getfield 254, 3) := by decide +kernel
theorem dX13_part_205 : decode cX13_part 205 = .ok (.aload_n 0, 1) := by decide +kernel
theorem dX13_part_206 : decode cX13_part 206 = .ok (.iload 9, 2) := by decide +kernel
theorem dX13_part_208 : decode cX13_part 208 = .ok (.iload 8, 2) := by decide +kernel
theorem dX13_part_210 : decode cX13_part 210 = .ok (.iload 5, 2) := by decide +kernel
theorem dX13_part_212 : decode cX13_part 212 = .ok (.invokevirtual 817, 3) := by decide +kernel
theorem dX13_part_215 : decode cX13_part 215 = .ok (.iaload, 1) := by decide +kernel
theorem dX13_part_216 : decode cX13_part 216 = .ok (.ifCond .ne 9, 3) := by decide +kernel
theorem dX13_part_219 : decode cX13_part 219 = .ok (.iinc 8 (-1), 3) := by decide +kernel
theorem dX13_part_222 : decode cX13_part 222 = .ok (.goto (-39), 3) := by decide +kernel
theorem dX13_part_225 : decode cX13_part 225 = .ok (.aload_n 0, 1) := by decide +kernel
theorem dX13_part_226 : decode cX13_part 226 = .ok (.getfield 314, 3) := by decide +kernel
theorem dX13_part_229 : decode cX13_part 229 = .ok (.aload_n 0, 1) := by decide +kernel
theorem dX13_part_230 : decode cX13_part 230 = .ok (.getfield 302, 3) := by decide +kernel
theorem dX13_part_233 : decode cX13_part 233 = .ok (.iload_n 1, 1) := by decide +kernel
theorem dX13_part_234 : decode cX13_part 234 = .ok (.iaload, 1) := by decide +kernel
theorem dX13_part_235 : decode cX13_part 235 = .ok (.aload_n 0, 1) := by decide +kernel
theorem dX13_part_236 : decode cX13_part 236 = .ok (.iload_n 2, 1) := by decide +kernel
theorem dX13_part_237 : decode cX13_part 237 = .ok (.iload 7, 2) := by decide +kernel
theorem dX13_part_239 : decode cX13_part 239 = .ok (.invokevirtual 888, 3) := by decide +kernel
theorem dX13_part_242 : decode cX13_part 242 = .ok (.iadd, 1) := by decide +kernel
theorem dX13_part_243 : decode cX13_part 243 = .ok (.aload_n 0, 1) := by decide +kernel
theorem dX13_part_244 : decode cX13_part 244 = .ok (.iload 9, 2) := by decide +kernel
theorem dX13_part_246 : decode cX13_part 246 = .ok (.iload 8, 2) := by decide +kernel
theorem dX13_part_248 : decode cX13_part 248 = .ok (.iload 5, 2) := by decide +kernel
theorem dX13_part_250 : decode cX13_part 250 = .ok (.invokevirtual 882, 3) := by decide +kernel
theorem dX13_part_253 : decode cX13_part 253 = .ok (.iastore, 1) := by decide +kernel
theorem dX13_part_254 : decode cX13_part 254 = .ok (.iload 8, 2) := by decide +kernel
theorem dX13_part_256 : decode cX13_part 256 = .ok (.istore 5, 2) := by decide +kernel
theorem dX13_part_258 : decode cX13_part 258 = .ok (.iinc 6 (-1), 3) := by decide +kernel
theorem dX13_part_261 : decode cX13_part 261 = .ok (.goto (-128), 3) := by decide +kernel
theorem dX13_part_264 : decode cX13_part 264 = .ok (.return_, 1) := by decide +kernel
theorem dX13_lookAt_0 : decode cX13_lookAt 0 = .ok (.aload_n 0, 1) := by decide +kernel
theorem dX13_lookAt_1 : decode cX13_lookAt 1 = .ok (.getfield 305, 3) := by decide +kernel
theorem dX13_lookAt_4 : decode cX13_lookAt 4 = .ok (.iload_n 1, 1) := by decide +kernel
theorem dX13_lookAt_5 : decode cX13_lookAt 5 = .ok (.iaload, 1) := by decide +kernel
theorem dX13_lookAt_6 : decode cX13_lookAt 6 = .ok (.istore_n 2, 1) := by decide +kernel
theorem dX13_lookAt_7 : decode cX13_lookAt 7 = .ok (.aload_n 0, 1) := by decide +kernel
theorem dX13_lookAt_8 : decode cX13_lookAt 8 = .ok (.getfield 308, 3) := by decide +kernel
theorem dX13_lookAt_11 : decode cX13_lookAt 11 = .ok (.iload_n 1, 1) := by decide +kernel
theorem dX13_lookAt_12 : decode cX13_lookAt 12 = .ok (.iaload, 1) := by decide +kernel
theorem dX13_lookAt_13 : decode cX13_lookAt 13 = .ok (.istore_n 3, 1) := by decide +kernel
theorem dX13_lookAt_14 : decode cX13_lookAt 14 = .ok (.iload_n 3, 1) := by decide +kernel
theorem dX13_lookAt_15 : decode cX13_lookAt 15 = .ok (.iload_n 2, 1) := by decide +kernel
theorem dX13_lookAt_16 : decode cX13_lookAt 16 = .ok (.iconst 1, 1) := by decide +kernel
theorem dX13_lookAt_17 : decode cX13_lookAt 17 = .ok (.iadd, 1) := by decide +kernel
theorem dX13_lookAt_18 : decode cX13_lookAt 18 = .ok (.if_icmp .ne 33, 3) := by decide +kernel
theorem dX13_lookAt_21 : decode cX13_lookAt 21 = .ok (.aload_n 0, 1) := by decide +kernel
theorem dX13_lookAt_22 : decode cX13_lookAt 22 = .ok (.getfield 247, 3) := by decide +kernel
theorem dX13_lookAt_25 : decode cX13_lookAt 25 = .ok (.iload_n 2, 1) := by decide +kernel
theorem dX13_lookAt_26 : decode cX13_lookAt 26 = .ok (.iaload, 1) := by decide +kernel
theorem dX13_lookAt_27 : decode cX13_lookAt 27 = .ok (.aload_n 0, 1) := by decide +kernel
theorem dX13_lookAt_28 : decode cX13_lookAt 28 = .ok (.getfield 311, 3) := by decide +kernel
theorem dX13_lookAt_31 : decode cX13_lookAt 31 = .ok (.iload_n 1, 1) := by decide +kernel
theorem dX13_lookAt_32 : decode cX13_lookAt 32 = .ok (.iaload, 1) := by decide +kernel
theorem dX13_lookAt_33 : decode cX13_lookAt 33 = .ok (.if_icmp .ne 18, 3) := by decide +kernel
theorem dX13_lookAt_36 : decode cX13_lookAt 36 = .ok (.aload_n 0, 1) := by decide +kernel
theorem dX13_lookAt_37 : decode cX13_lookAt 37 = .ok (.getfield 299, 3) := by decide +kernel
theorem dX13_lookAt_40 : decode cX13_lookAt 40 = .ok (.iload_n 1, 1) := by decide +kernel
theorem dX13_lookAt_41 : decode cX13_lookAt 41 = .ok (.iconst (-1), 1) := by decide +kernel
theorem dX13_lookAt_42 : decode cX13_lookAt 42 = .ok (.aload_n 0, 1) := by decide +kernel
theorem dX13_lookAt_43 : decode cX13_lookAt 43 = .ok (.getfield 250, 3) := by decide +kernel
theorem dX13_lookAt_46 : decode cX13_lookAt 46 = .ok (.iload_n 2, 1) := by decide +kernel
theorem dX13_lookAt_47 : decode cX13_lookAt 47 = .ok (.iaload, 1) := by decide +kernel
theorem dX13_lookAt_48 : decode cX13_lookAt 48 = .ok (.isub, 1) := by decide +kernel
theorem dX13_lookAt_49 : decode cX13_lookAt 49 = .ok (.iastore, 1) := by decide +kernel
theorem dX13_lookAt_50 : decode cX13_lookAt 50 = .ok (.return_, 1) := by decide +kernel
theorem dX13_lookAt_51 : decode cX13_lookAt 51 = .ok (.aload_n 0, 1) := by decide +kernel
theorem dX13_lookAt_52 : decode cX13_lookAt 52 = .ok (.getfield 257, 3) := by decide +kernel
theorem dX13_lookAt_55 : decode cX13_lookAt 55 = .ok (.aload_n 0, 1) := by decide +kernel
theorem dX13_lookAt_56 : decode cX13_lookAt 56 = .ok (.aload_n 0, 1) := by decide +kernel
theorem dX13_lookAt_57 : decode cX13_lookAt 57 = .ok (.getfield 311, 3) := by decide +kernel
theorem dX13_lookAt_60 : decode cX13_lookAt 60 = .ok (.iload_n 1, 1) := by decide +kernel
theorem dX13_lookAt_61 : decode cX13_lookAt 61 = .ok (.iaload, 1) := by decide +kernel
theorem dX13_lookAt_62 : decode cX13_lookAt 62 = .ok (.iload_n 2, 1) := by decide +kernel
theorem dX13_lookAt_63 : decode cX13_lookAt 63 = .ok (.iload_n 3, 1) := by decide +kernel
theorem dX13_lookAt_64 : decode cX13_lookAt 64 = .ok (.invokevirtual 817, 3) := by decide +kernel
theorem dX13_lookAt_67 : decode cX13_lookAt 67 = .ok (.iaload, 1) := by decide +kernel
theorem dX13_lookAt_68 : decode cX13_lookAt 68 = .ok (.istore 4, 2) := by decide +kernel
theorem dX13_lookAt_70 : decode cX13_lookAt 70 = .ok (.iconst 0, 1) := by decide +kernel
theorem dX13_lookAt_71 : decode cX13_lookAt 71 = .ok (.istore 5, 2) := by decide +kernel
theorem dX13_lookAt_73 : decode cX13_lookAt 73 = .ok (.iload 5, 2) := by decide +kernel
theorem dX13_lookAt_75 : decode cX13_lookAt 75 = .ok (.aload_n 0, 1) := by decide +kernel
theorem dX13_lookAt_76 : decode cX13_lookAt 76 = .ok (.getfield 834, 3) := by decide +kernel
theorem dX13_lookAt_79 : decode cX13_lookAt 79 = .ok (.if_icmp .ge 139, 3) := by decide +kernel
theorem dX13_lookAt_82 : decode cX13_lookAt 82 = .ok (.aload_n 0, 1) := by decide +kernel
theorem dX13_lookAt_83 : decode cX13_lookAt 83 = .ok (.getfield 293, 3) := by decide +kernel
theorem dX13_lookAt_86 : decode cX13_lookAt 86 = .ok (.iload 5, 2) := by decide +kernel
theorem dX13_lookAt_88 : decode cX13_lookAt 88 = .ok (.iaload, 1) := by decide +kernel
theorem dX13_lookAt_89 : decode cX13_lookAt 89 = .ok (.aload_n 0, 1) := by decide +kernel
theorem dX13_lookAt_90 : decode cX13_lookAt 90 = .ok (.getfield 861, 3) := by decide +kernel
theorem dX13_lookAt_93 : decode cX13_lookAt 93 = .ok (.if_icmp .ge 125, 3) := by decide +kernel
theorem dX13_lookAt_96 : decode cX13_lookAt 96 = .ok (.iload 4, 2) := by decide +kernel
theorem dX13_lookAt_98 : decode cX13_lookAt 98 = .ok (.iconst (-1), 1) := by decide +kernel
theorem dX13_lookAt_99 : decode cX13_lookAt 99 = .ok (.if_icmp .ne 119, 3) := by decide +kernel
theorem dX13_lookAt_102 : decode cX13_lookAt 102 = .ok (.aload_n 0, 1) := by decide +kernel
theorem dX13_lookAt_103 : decode cX13_lookAt 103 = .ok (.getfield 241, 3) := by decide +kernel
theorem dX13_lookAt_106 : decode cX13_lookAt 106 = .ok (.aload_n 0, 1) := by decide +kernel
theorem dX13_lookAt_107 : decode cX13_lookAt 107 = .ok (.getfield 42, 3) := by decide +kernel
theorem dX13_lookAt_110 : decode cX13_lookAt 110 = .ok (.aload_n 0, 1) := by decide +kernel
theorem dX13_lookAt_111 : decode cX13_lookAt 111 = .ok (.getfield 60, 3) := by decide +kernel
theorem dX13_lookAt_114 : decode cX13_lookAt 114 = .ok (.aload_n 0, 1) := by decide +kernel
theorem dX13_lookAt_115 : decode cX13_lookAt 115 = .ok (.getfield 54, 3) := by decide +kernel
theorem dX13_lookAt_118 : decode cX13_lookAt 118 = .ok (.aload_n 0, 1) := by decide +kernel
theorem dX13_lookAt_119 : decode cX13_lookAt 119 = .ok (.getfield 293, 3) := by decide +kernel
theorem dX13_lookAt_122 : decode cX13_lookAt 122 = .ok (.iload 5, 2) := by decide +kernel
theorem dX13_lookAt_124 : decode cX13_lookAt 124 = .ok (.iaload, 1) := by decide +kernel
theorem dX13_lookAt_125 : decode cX13_lookAt 125 = .ok (.iaload, 1) := by decide +kernel
theorem dX13_lookAt_126 : decode cX13_lookAt 126 = .ok (.iconst 1, 1) := by decide +kernel
theorem dX13_lookAt_127 : decode cX13_lookAt 127 = .ok (.iadd, 1) := by decide +kernel
theorem dX13_lookAt_128 : decode cX13_lookAt 128 = .ok (.iaload, 1) := by decide +kernel
theorem dX13_lookAt_129 : decode cX13_lookAt 129 = .ok (.iaload, 1) := by decide +kernel
theorem dX13_lookAt_130 : decode cX13_lookAt 130 = .ok (.iaload, 1) := by decide +kernel
theorem dX13_lookAt_131 : decode cX13_lookAt 131 = .ok (.istore 6, 2) := by decide +kernel
theorem dX13_lookAt_133 : decode cX13_lookAt 133 = .ok (.aload_n 0, 1) := by decide +kernel
theorem dX13_lookAt_134 : decode cX13_lookAt 134 = .ok (.getfield 241, 3) := by decide +kernel
theorem dX13_lookAt_137 : decode cX13_lookAt 137 = .ok (.aload_n 0, 1) := by decide +kernel
theorem dX13_lookAt_138 : decode cX13_lookAt 138 = .ok (.getfield 60, 3) := by decide +kernel
theorem dX13_lookAt_141 : decode cX13_lookAt 141 = .ok (.aload_n 0, 1) := by decide +kernel
theorem dX13_lookAt_142 : decode cX13_lookAt 142 = .ok (.getfield 54, 3) := by decide +kernel
theorem dX13_lookAt_145 : decode cX13_lookAt 145 = .ok (.aload_n 0, 1) := by decide +kernel
theorem dX13_lookAt_146 : decode cX13_lookAt 146 = .ok (.getfield 293, 3) := by decide +kernel
theorem dX13_lookAt_149 : decode cX13_lookAt 149 = .ok (.iload 5, 2) := by decide +kernel
theorem dX13_lookAt_151 : decode cX13_lookAt 151 = .ok (.iaload, 1) := by decide +kernel
theorem dX13_lookAt_152 : decode cX13_lookAt 152 = .ok (.iaload, 1) := by decide +kernel
theorem dX13_lookAt_153 : decode cX13_lookAt 153 = .ok (.iaload, 1) := by decide +kernel
theorem dX13_lookAt_154 : decode cX13_lookAt 154 = .ok (.iaload, 1) := by decide +kernel
theorem dX13_lookAt_155 : decode cX13_lookAt 155 = .ok (.aload_n 0, 1) := by decide +kernel
theorem dX13_lookAt_156 : decode cX13_lookAt 156 = .ok (.getfield 311, 3) := by decide +kernel
theorem dX13_lookAt_159 : decode cX13_lookAt 159 = .ok (.iload_n 1, 1) := by decide +kernel
theorem dX13_lookAt_160 : decode cX13_lookAt 160 = .ok (.iaload, 1) := by decide +kernel
theorem dX13_lookAt_161 : decode cX13_lookAt 161 = .ok (.if_icmp .ne 29, 3) := by decide +kernel
theorem dX13_lookAt_164 : decode cX13_lookAt 164 = .ok (.iload 6, 2) := by decide +kernel
theorem dX13_lookAt_166 : decode cX13_lookAt 166 = .ok (.iconst (-1), 1) := by decide +kernel
theorem dX13_lookAt_167 : decode cX13_lookAt 167 = .ok (.if_icmp .eq 23, 3) := by decide +kernel
theorem dX13_lookAt_170 : decode cX13_lookAt 170 = .ok (.aload_n 0, 1) := by decide +kernel
theorem dX13_lookAt_171 : decode cX13_lookAt 171 = .ok (.getfield 254, 3) := by decide +kernel
theorem dX13_lookAt_174 : decode cX13_lookAt 174 = .ok (.aload_n 0, 1) := by decide +kernel
theorem dX13_lookAt_175 : decode cX13_lookAt 175 = .ok (.iload 6, 2) := by decide +kernel
theorem dX13_lookAt_177 : decode cX13_lookAt 177 = .ok (.iload_n 2, 1) := by decide +kernel
theorem dX13_lookAt_178 : decode cX13_lookAt 178 = .ok (.iload_n 3, 1) := by decide +kernel
theorem dX13_lookAt_179 : decode cX13_lookAt 179 = .ok (.invokevirtual 817, 3) := by decide +kernel
theorem dX13_lookAt_182 : decode cX13_lookAt 182 = .ok (.iaload, 1) := by decide +kernel
theorem dX13_lookAt_183 : decode cX13_lookAt 183 = .ok (.ifCond .le 7, 3) := by decide +kernel
theorem dX13_lookAt_186 : decode cX13_lookAt 186 = .ok (.iconst 1, 1) := by decide +kernel
theorem dX13_lookAt_187 : decode cX13_lookAt 187 = .ok (.goto 4, 3) := by decide +kernel
theorem dX13_lookAt_190 : decode cX13_lookAt 190 = .ok (.iconst 0, 1) := by decide +kernel
theorem dX13_lookAt_191 : decode cX13_lookAt 191 = .ok (.istore 7, 2) := by decide +kernel
theorem dX13_lookAt_193 : decode cX13_lookAt 193 = .ok (.iload 7, 2) := by decide +kernel
theorem dX13_lookAt_195 : decode cX13_lookAt 195 = .ok (.ifCond .eq 13, 3) := by decide +kernel
theorem dX13_lookAt_198 : decode cX13_lookAt 198 = .ok (.aload_n 0, 1) := by decide +kernel
theorem dX13_lookAt_199 : decode cX13_lookAt 199 = .ok (.getfield 293, 3) := by decide +kernel
theorem dX13_lookAt_202 : decode cX13_lookAt 202 = .ok (.iload 5, 2) := by decide +kernel
theorem dX13_lookAt_204 : decode cX13_lookAt 204 = .ok (.iaload, 1) := by decide +kernel
theorem dX13_lookAt_205 : decode cX13_lookAt 205 = .ok (.goto 5, 3) := by decide +kernel
theorem dX13_lookAt_208 : decode cX13_lookAt 208 = .ok (.iload 4, 2) := by decide +kernel
theorem dX13_lookAt_210 : decode cX13_lookAt 210 = .ok (.istore 4, 2) := by decide +kernel
theorem dX13_lookAt_212 : decode cX13_lookAt 212 = .ok (.iinc 5 1, 3) := by decide +kernel
theorem dX13_lookAt_215 : decode cX13_lookAt 215 = .ok (.goto (-142), 3) := by decide +kernel
theorem dX13_lookAt_218 : decode cX13_lookAt 218 = .ok (.iload 4, 2) := by decide +kernel
theorem dX13_lookAt_220 : decode cX13_lookAt 220 = .ok (.iconst (-1), 1) := by decide +kernel
theorem dX13_lookAt_221 : decode cX13_lookAt 221 = .ok (.if_icmp .eq 10, 3) := by decide +kernel
theorem dX13_lookAt_224 : decode cX13_lookAt 224 = .ok (.aload_n 0, 1) := by decide +kernel
theorem dX13_lookAt_225 : decode cX13_lookAt 225 = .ok (.iload_n 1, 1) := by decide +kernel
theorem dX13_lookAt_226 : decode cX13_lookAt 226 = .ok (.iload 4, 2) := by decide +kernel
theorem dX13_lookAt_228 : decode cX13_lookAt 228 = .ok (.invokevirtual 891, 3) := by decide +kernel
theorem dX13_lookAt_231 : decode cX13_lookAt 231 = .ok (.return_, 1) := by decide +kernel
theorem dX13_makeTree_0 : decode cX13_makeTree 0 = .ok (.aload_n 0, 1) := by decide +kernel
theorem dX13_makeTree_1 : decode cX13_makeTree 1 = .ok (.iload_n 1, 1) := by decide +kernel
theorem dX13_makeTree_2 : decode cX13_makeTree 2 = .ok (.iconst 0, 1) := by decide +kernel
theorem dX13_makeTree_3 : decode cX13_makeTree 3 = .ok (.aload_n 0, 1) := by decide +kernel
theorem dX13_makeTree_4 : decode cX13_makeTree 4 = .ok (.getfield 867, 3) := by decide +kernel
theorem dX13_makeTree_7 : decode cX13_makeTree 7 = .ok (.invokevirtual 882, 3) := by decide +kernel
theorem dX13_makeTree_10 : decode cX13_makeTree 10 = .ok (.istore_n 2, 1) := by decide +kernel
theorem dX13_makeTree_11 : decode cX13_makeTree 11 = .ok (.iload_n 2, 1) := by decide +kernel
theorem dX13_makeTree_12 : decode cX13_makeTree 12 = .ok (.istore_n 3, 1) := by decide +kernel
theorem dX13_makeTree_13 : decode cX13_makeTree 13 = .ok (.iload_n 3, 1) := by decide +kernel
theorem dX13_makeTree_14 : decode cX13_makeTree 14 = .ok (.aload_n 0, 1) := by decide +kernel
theorem dX13_makeTree_15 : decode cX13_makeTree 15 = .ok (.getfield 876, 3) := by decide +kernel
theorem dX13_makeTree_18 : decode cX13_makeTree 18 = .ok (.if_icmp .ge 14, 3) := by decide +kernel
theorem dX13_makeTree_21 : decode cX13_makeTree 21 = .ok (.aload_n 0, 1) := by decide +kernel
theorem dX13_makeTree_22 : decode cX13_makeTree 22 = .ok (.iload_n 3, 1) := by decide +kernel
theorem dX13_makeTree_23 : decode cX13_makeTree 23 = .ok (.invokevirtual 894, 3) := by decide +kernel
theorem dX13_makeTree_26 : decode cX13_makeTree 26 = .ok (.iinc 3 1, 3) := by decide +kernel
theorem dX13_makeTree_29 : decode cX13_makeTree 29 = .ok (.goto (-16), 3) := by decide +kernel
theorem dX13_makeTree_32 : decode cX13_makeTree 32 = .ok (.iload_n 2, 1) := by decide +kernel
theorem dX13_makeTree_33 : decode cX13_makeTree 33 = .ok (.ireturn, 1) := by decide +kernel
theorem dX13_forgetTrees_0 : decode cX13_forgetTrees 0 = .ok (.aload_n 0, 1) := by decide +kernel
theorem dX13_forgetTrees_1 : decode cX13_forgetTrees 1 = .ok (.iconst 0, 1) := by decide +kernel
theorem dX13_forgetTrees_2 : decode cX13_forgetTrees 2 = .ok (.putfield 846, 3) := by decide +kernel
theorem dX13_forgetTrees_5 : decode cX13_forgetTrees 5 = .ok (.iload_n 1, 1) := by decide +kernel
theorem dX13_forgetTrees_6 : decode cX13_forgetTrees 6 = .ok (.istore_n 2, 1) := by decide +kernel
theorem dX13_forgetTrees_7 : decode cX13_forgetTrees 7 = .ok (.iload_n 2, 1) := by decide +kernel
theorem dX13_forgetTrees_8 : decode cX13_forgetTrees 8 = .ok (.sipush 1500, 3) := by decide +kernel
theorem dX13_forgetTrees_11 : decode cX13_forgetTrees 11 = .ok (.if_icmp .ge 23, 3) := by decide +kernel
theorem dX13_forgetTrees_14 : decode cX13_forgetTrees 14 = .ok (.aload_n 0, 1) := by decide +kernel
theorem dX13_forgetTrees_15 : decode cX13_forgetTrees 15 = .ok (.getfield 323, 3) := by decide +kernel
theorem dX13_forgetTrees_18 : decode cX13_forgetTrees 18 = .ok (.iload_n 2, 1) := by decide +kernel
theorem dX13_forgetTrees_19 : decode cX13_forgetTrees 19 = .ok (.iconst (-1), 1) := by decide +kernel
theorem dX13_forgetTrees_20 : decode cX13_forgetTrees 20 = .ok (.iastore, 1) := by decide +kernel
theorem dX13_forgetTrees_21 : decode cX13_forgetTrees 21 = .ok (.aload_n 0, 1) := by decide +kernel
theorem dX13_forgetTrees_22 : decode cX13_forgetTrees 22 = .ok (.getfield 332, 3) := by decide +kernel
theorem dX13_forgetTrees_25 : decode cX13_forgetTrees 25 = .ok (.iload_n 2, 1) := by decide +kernel
theorem dX13_forgetTrees_26 : decode cX13_forgetTrees 26 = .ok (.iconst 0, 1) := by decide +kernel
theorem dX13_forgetTrees_27 : decode cX13_forgetTrees 27 = .ok (.bastore, 1) := by decide +kernel
theorem dX13_forgetTrees_28 : decode cX13_forgetTrees 28 = .ok (.iinc 2 1, 3) := by decide +kernel
theorem dX13_forgetTrees_31 : decode cX13_forgetTrees 31 = .ok (.goto (-24), 3) := by decide +kernel
theorem dX13_forgetTrees_34 : decode cX13_forgetTrees 34 = .ok (.iconst 0, 1) := by decide +kernel
theorem dX13_forgetTrees_35 : decode cX13_forgetTrees 35 = .ok (.istore_n 2, 1) := by decide +kernel
theorem dX13_forgetTrees_36 : decode cX13_forgetTrees 36 = .ok (.iload_n 2, 1) := by decide +kernel
theorem dX13_forgetTrees_37 : decode cX13_forgetTrees 37 = .ok (.sipush 1500, 3) := by decide +kernel
theorem dX13_forgetTrees_40 : decode cX13_forgetTrees 40 = .ok (.if_icmp .ge 17, 3) := by decide +kernel
theorem dX13_forgetTrees_43 : decode cX13_forgetTrees 43 = .ok (.aload_n 0, 1) := by decide +kernel
theorem dX13_forgetTrees_44 : decode cX13_forgetTrees 44 = .ok (.getfield 329, 3) := by decide +kernel
theorem dX13_forgetTrees_47 : decode cX13_forgetTrees 47 = .ok (.iload_n 2, 1) := by decide +kernel
theorem dX13_forgetTrees_48 : decode cX13_forgetTrees 48 = .ok (.bipush (-9), 2) := by decide +kernel
theorem dX13_forgetTrees_50 : decode cX13_forgetTrees 50 = .ok (.iastore, 1) := by decide +kernel
theorem dX13_forgetTrees_51 : decode cX13_forgetTrees 51 = .ok (.iinc 2 1, 3) := by decide +kernel
theorem dX13_forgetTrees_54 : decode cX13_forgetTrees 54 = .ok (.goto (-18), 3) := by decide +kernel
theorem dX13_forgetTrees_57 : decode cX13_forgetTrees 57 = .ok (.aload_n 0, 1) := by decide +kernel
theorem dX13_forgetTrees_58 : decode cX13_forgetTrees 58 = .ok (.iconst 0, 1) := by decide +kernel
theorem dX13_forgetTrees_59 : decode cX13_forgetTrees 59 = .ok (.putfield 727, 3) := by decide +kernel
theorem dX13_forgetTrees_62 : decode cX13_forgetTrees 62 = .ok (.return_, 1) := by decide +kernel
theorem dX13_treeOf_0 : decode cX13_treeOf 0 = .ok (.aload_n 0, 1) := by decide +kernel
theorem dX13_treeOf_1 : decode cX13_treeOf 1 = .ok (.iload_n 1, 1) := by decide +kernel
theorem dX13_treeOf_2 : decode cX13_treeOf 2 = .ok (.invokevirtual 897, 3) := by decide +kernel
theorem dX13_treeOf_5 : decode cX13_treeOf 5 = .ok (.aload_n 0, 1) := by decide +kernel
theorem dX13_treeOf_6 : decode cX13_treeOf 6 = .ok (.aload_n 0, 1) := by decide +kernel
theorem dX13_treeOf_7 : decode cX13_treeOf 7 = .ok (.getfield 60, 3) := by decide +kernel
theorem dX13_treeOf_10 : decode cX13_treeOf 10 = .ok (.aload_n 0, 1) := by decide +kernel
theorem dX13_treeOf_11 : decode cX13_treeOf 11 = .ok (.getfield 54, 3) := by decide +kernel
theorem dX13_treeOf_14 : decode cX13_treeOf 14 = .ok (.iload_n 1, 1) := by decide +kernel
theorem dX13_treeOf_15 : decode cX13_treeOf 15 = .ok (.iaload, 1) := by decide +kernel
theorem dX13_treeOf_16 : decode cX13_treeOf 16 = .ok (.iaload, 1) := by decide +kernel
theorem dX13_treeOf_17 : decode cX13_treeOf 17 = .ok (.invokevirtual 900, 3) := by decide +kernel
theorem dX13_treeOf_20 : decode cX13_treeOf 20 = .ok (.istore_n 2, 1) := by decide +kernel
theorem dX13_treeOf_21 : decode cX13_treeOf 21 = .ok (.aload_n 0, 1) := by decide +kernel
theorem dX13_treeOf_22 : decode cX13_treeOf 22 = .ok (.iload_n 2, 1) := by decide +kernel
theorem dX13_treeOf_23 : decode cX13_treeOf 23 = .ok (.iload_n 1, 1) := by decide +kernel
theorem dX13_treeOf_24 : decode cX13_treeOf 24 = .ok (.invokevirtual 903, 3) := by decide +kernel
theorem dX13_treeOf_27 : decode cX13_treeOf 27 = .ok (.istore_n 3, 1) := by decide +kernel
theorem dX13_treeOf_28 : decode cX13_treeOf 28 = .ok (.aload_n 0, 1) := by decide +kernel
theorem dX13_treeOf_29 : decode cX13_treeOf 29 = .ok (.getfield 323, 3) := by decide +kernel
theorem dX13_treeOf_32 : decode cX13_treeOf 32 = .ok (.iload_n 1, 1) := by decide +kernel
theorem dX13_treeOf_33 : decode cX13_treeOf 33 = .ok (.iload_n 3, 1) := by decide +kernel
theorem dX13_treeOf_34 : decode cX13_treeOf 34 = .ok (.iastore, 1) := by decide +kernel
theorem dX13_treeOf_35 : decode cX13_treeOf 35 = .ok (.iload_n 3, 1) := by decide +kernel
theorem dX13_treeOf_36 : decode cX13_treeOf 36 = .ok (.iconst 1, 1) := by decide +kernel
theorem dX13_treeOf_37 : decode cX13_treeOf 37 = .ok (.if_icmp .ne 11, 3) := by decide +kernel
theorem dX13_treeOf_40 : decode cX13_treeOf 40 = .ok (.aload_n 0, 1) := by decide +kernel
theorem dX13_treeOf_41 : decode cX13_treeOf 41 = .ok (.iload_n 2, 1) := by decide +kernel
theorem dX13_treeOf_42 : decode cX13_treeOf 42 = .ok (.invokevirtual 906, 3) := by decide +kernel
theorem dX13_treeOf_45 : decode cX13_treeOf 45 = .ok (.goto 4, 3) := by decide +kernel
theorem dX13_treeOf_48 : decode cX13_treeOf 48 = .ok (.iconst (-1), 1) := by decide +kernel
theorem dX13_treeOf_49 : decode cX13_treeOf 49 = .ok (.ireturn, 1) := by decide +kernel
theorem dX13_countTrees_0 : decode cX13_countTrees 0 = .ok (.aload_n 0, 1) := by decide +kernel
theorem dX13_countTrees_1 : decode cX13_countTrees 1 = .ok (.getfield 323, 3) := by decide +kernel
theorem dX13_countTrees_4 : decode cX13_countTrees 4 = .ok (.iload_n 1, 1) := by decide +kernel
theorem dX13_countTrees_5 : decode cX13_countTrees 5 = .ok (.iaload, 1) := by decide +kernel
theorem dX13_countTrees_6 : decode cX13_countTrees 6 = .ok (.iconst (-1), 1) := by decide +kernel
theorem dX13_countTrees_7 : decode cX13_countTrees 7 = .ok (.if_icmp .eq 10, 3) := by decide +kernel
theorem dX13_countTrees_10 : decode cX13_countTrees 10 = .ok (.aload_n 0, 1) := by decide +kernel
theorem dX13_countTrees_11 : decode cX13_countTrees 11 = .ok (.getfield 323, 3) := by decide +kernel
theorem dX13_countTrees_14 : decode cX13_countTrees 14 = .ok (.iload_n 1, 1) := by decide +kernel
theorem dX13_countTrees_15 : decode cX13_countTrees 15 = .ok (.iaload, 1) := by decide +kernel
theorem dX13_countTrees_16 : decode cX13_countTrees 16 = .ok (.ireturn, 1) := by decide +kernel
theorem dX13_countTrees_17 : decode cX13_countTrees 17 = .ok (.aload_n 0, 1) := by decide +kernel
theorem dX13_countTrees_18 : decode cX13_countTrees 18 = .ok (.getfield 876, 3) := by decide +kernel
theorem dX13_countTrees_21 : decode cX13_countTrees 21 = .ok (.istore_n 2, 1) := by decide +kernel
theorem dX13_countTrees_22 : decode cX13_countTrees 22 = .ok (.aload_n 0, 1) := by decide +kernel
theorem dX13_countTrees_23 : decode cX13_countTrees 23 = .ok (.getfield 879, 3) := by decide +kernel
theorem dX13_countTrees_26 : decode cX13_countTrees 26 = .ok (.istore_n 3, 1) := by decide +kernel
theorem dX13_countTrees_27 : decode cX13_countTrees 27 = .ok (.aload_n 0, 1) := by decide +kernel
theorem dX13_countTrees_28 : decode cX13_countTrees 28 = .ok (.iload_n 1, 1) := by decide +kernel
theorem dX13_countTrees_29 : decode cX13_countTrees 29 = .ok (.invokevirtual 909, 3) := by decide +kernel
theorem dX13_countTrees_32 : decode cX13_countTrees 32 = .ok (.istore 4, 2) := by decide +kernel
theorem dX13_countTrees_34 : decode cX13_countTrees 34 = .ok (.iconst 0, 1) := by decide +kernel
theorem dX13_countTrees_35 : decode cX13_countTrees 35 = .ok (.istore 5, 2) := by decide +kernel
theorem dX13_countTrees_37 : decode cX13_countTrees 37 = .ok (.iload 5, 2) := by decide +kernel
theorem dX13_countTrees_39 : decode cX13_countTrees 39 = .ok (.bipush 24, 2) := by decide +kernel
theorem dX13_countTrees_41 : decode cX13_countTrees 41 = .ok (.if_icmp .ge 22, 3) := by decide +kernel
theorem dX13_countTrees_44 : decode cX13_countTrees 44 = .ok (.aload_n 0, 1) := by decide +kernel
theorem dX13_countTrees_45 : decode cX13_countTrees 45 = .ok (.getfield 326, 3) := by decide +kernel
theorem dX13_countTrees_48 : decode cX13_countTrees 48 = .ok (.bipush 24, 2) := by decide +kernel
theorem dX13_countTrees_50 : decode cX13_countTrees 50 = .ok (.iload_n 1, 1) := by decide +kernel
theorem dX13_countTrees_51 : decode cX13_countTrees 51 = .ok (.imul, 1) := by decide +kernel
theorem dX13_countTrees_52 : decode cX13_countTrees 52 = .ok (.iload 5, 2) := by decide +kernel
theorem dX13_countTrees_54 : decode cX13_countTrees 54 = .ok (.iadd, 1) := by decide +kernel
theorem dX13_countTrees_55 : decode cX13_countTrees 55 = .ok (.lconst 0, 1) := by decide +kernel
theorem dX13_countTrees_56 : decode cX13_countTrees 56 = .ok (.lastore, 1) := by decide +kernel
theorem dX13_countTrees_57 : decode cX13_countTrees 57 = .ok (.iinc 5 1, 3) := by decide +kernel
theorem dX13_countTrees_60 : decode cX13_countTrees 60 = .ok (.goto (-23), 3) := by decide +kernel
theorem dX13_countTrees_63 : decode cX13_countTrees 63 = .ok (.iload_n 2, 1) := by decide +kernel
theorem dX13_countTrees_64 : decode cX13_countTrees 64 = .ok (.istore 5, 2) := by decide +kernel
theorem dX13_countTrees_66 : decode cX13_countTrees 66 = .ok (.iload 5, 2) := by decide +kernel
theorem dX13_countTrees_68 : decode cX13_countTrees 68 = .ok (.aload_n 0, 1) := by decide +kernel
theorem dX13_countTrees_69 : decode cX13_countTrees 69 = .ok (.getfield 876, 3) := by decide +kernel
theorem dX13_countTrees_72 : decode cX13_countTrees 72 = .ok (.if_icmp .ge 60, 3) := by decide +kernel
theorem dX13_countTrees_75 : decode cX13_countTrees 75 = .ok (.iload 4, 2) := by decide +kernel
theorem dX13_countTrees_77 : decode cX13_countTrees 77 = .ok (.iconst (-1), 1) := by decide +kernel
theorem dX13_countTrees_78 : decode cX13_countTrees 78 = .ok (.if_icmp .eq 54, 3) := by decide +kernel
theorem dX13_countTrees_81 : decode cX13_countTrees 81 = .ok (.aload_n 0, 1) := by decide +kernel
theorem dX13_countTrees_82 : decode cX13_countTrees 82 = .ok (.getfield 299, 3) := by decide +kernel
theorem dX13_countTrees_85 : decode cX13_countTrees 85 = .ok (.iload 5, 2) := by decide +kernel
theorem dX13_countTrees_87 : decode cX13_countTrees 87 = .ok (.iaload, 1) := by decide +kernel
theorem dX13_countTrees_88 : decode cX13_countTrees 88 = .ok (.ifCond .lt 38, 3) := by decide +kernel
theorem dX13_countTrees_91 : decode cX13_countTrees 91 = .ok (.aload_n 0, 1) := by decide +kernel
theorem dX13_countTrees_92 : decode cX13_countTrees 92 = .ok (.getfield 326, 3) := by decide +kernel
theorem dX13_countTrees_95 : decode cX13_countTrees 95 = .ok (.bipush 24, 2) := by decide +kernel
theorem dX13_countTrees_97 : decode cX13_countTrees 97 = .ok (.iload_n 1, 1) := by decide +kernel
theorem dX13_countTrees_98 : decode cX13_countTrees 98 = .ok (.imul, 1) := by decide +kernel
theorem dX13_countTrees_99 : decode cX13_countTrees 99 = .ok (.aload_n 0, 1) := by decide +kernel
theorem dX13_countTrees_100 : decode cX13_countTrees 100 = .ok (.getfield 299, 3) := by decide +kernel
theorem dX13_countTrees_103 : decode cX13_countTrees 103 = .ok (.iload 5, 2) := by decide +kernel
theorem dX13_countTrees_105 : decode cX13_countTrees 105 = .ok (.iaload, 1) := by decide +kernel
theorem dX13_countTrees_106 : decode cX13_countTrees 106 = .ok (.bipush 64, 2) := by decide +kernel
theorem dX13_countTrees_108 : decode cX13_countTrees 108 = .ok (.idiv, 1) := by decide +kernel
theorem dX13_countTrees_109 : decode cX13_countTrees 109 = .ok (.iadd, 1) := by decide +kernel
theorem dX13_countTrees_110 : decode cX13_countTrees 110 = .ok (.dup2, 1) := by decide +kernel
theorem dX13_countTrees_111 : decode cX13_countTrees 111 = .ok (.laload, 1) := by decide +kernel
theorem dX13_countTrees_112 : decode cX13_countTrees 112 = .ok (.lconst 1, 1) := by decide +kernel
theorem dX13_countTrees_113 : decode cX13_countTrees 113 = .ok (.aload_n 0, 1) := by decide +kernel
theorem dX13_countTrees_114 : decode cX13_countTrees 114 = .ok (.getfield 299, 3) := by decide +kernel
theorem dX13_countTrees_117 : decode cX13_countTrees 117 = .ok (.iload 5, 2) := by decide +kernel
theorem dX13_countTrees_119 : decode cX13_countTrees 119 = .ok (.iaload, 1) := by decide +kernel
theorem dX13_countTrees_120 : decode cX13_countTrees 120 = .ok (.bipush 64, 2) := by decide +kernel
theorem dX13_countTrees_122 : decode cX13_countTrees 122 = .ok (.irem, 1) := by decide +kernel
theorem dX13_countTrees_123 : decode cX13_countTrees 123 = .ok (.lshl, 1) := by decide +kernel
theorem dX13_countTrees_124 : decode cX13_countTrees 124 = .ok (.lor, 1) := by decide +kernel
theorem dX13_countTrees_125 : decode cX13_countTrees 125 = .ok (.lastore, 1) := by decide +kernel
theorem dX13_countTrees_126 : decode cX13_countTrees 126 = .ok (.iinc 5 1, 3) := by decide +kernel
theorem dX13_countTrees_129 : decode cX13_countTrees 129 = .ok (.goto (-63), 3) := by decide +kernel
theorem dX13_countTrees_132 : decode cX13_countTrees 132 = .ok (.aload_n 0, 1) := by decide +kernel
theorem dX13_countTrees_133 : decode cX13_countTrees 133 = .ok (.iload_n 2, 1) := by decide +kernel
theorem dX13_countTrees_134 : decode cX13_countTrees 134 = .ok (.putfield 876, 3) := by decide +kernel
theorem dX13_countTrees_137 : decode cX13_countTrees 137 = .ok (.aload_n 0, 1) := by decide +kernel
theorem dX13_countTrees_138 : decode cX13_countTrees 138 = .ok (.iload_n 3, 1) := by decide +kernel
theorem dX13_countTrees_139 : decode cX13_countTrees 139 = .ok (.putfield 879, 3) := by decide +kernel
theorem dX13_countTrees_142 : decode cX13_countTrees 142 = .ok (.aload_n 0, 1) := by decide +kernel
theorem dX13_countTrees_143 : decode cX13_countTrees 143 = .ok (.getfield 323, 3) := by decide +kernel
theorem dX13_countTrees_146 : decode cX13_countTrees 146 = .ok (.iload_n 1, 1) := by decide +kernel
theorem dX13_countTrees_147 : decode cX13_countTrees 147 = .ok (.iaload, 1) := by decide +kernel
theorem dX13_countTrees_148 : decode cX13_countTrees 148 = .ok (.ireturn, 1) := by decide +kernel
theorem dX13_trees_0 : decode cX13_trees 0 = .ok (.aload_n 0, 1) := by decide +kernel
theorem dX13_trees_1 : decode cX13_trees 1 = .ok (.iload_n 1, 1) := by decide +kernel
theorem dX13_trees_2 : decode cX13_trees 2 = .ok (.invokevirtual 709, 3) := by decide +kernel
theorem dX13_trees_5 : decode cX13_trees 5 = .ok (.ifCond .ne 7, 3) := by decide +kernel
theorem dX13_trees_8 : decode cX13_trees 8 = .ok (.iconst (-1), 1) := by decide +kernel
theorem dX13_trees_9 : decode cX13_trees 9 = .ok (.goto 24, 3) := by decide +kernel
theorem dX13_trees_12 : decode cX13_trees 12 = .ok (.aload_n 0, 1) := by decide +kernel
theorem dX13_trees_13 : decode cX13_trees 13 = .ok (.getfield 57, 3) := by decide +kernel
theorem dX13_trees_16 : decode cX13_trees 16 = .ok (.iload_n 1, 1) := by decide +kernel
theorem dX13_trees_17 : decode cX13_trees 17 = .ok (.iaload, 1) := by decide +kernel
theorem dX13_trees_18 : decode cX13_trees 18 = .ok (.bipush 60, 2) := by decide +kernel
theorem dX13_trees_20 : decode cX13_trees 20 = .ok (.if_icmp .le 8, 3) := by decide +kernel
theorem dX13_trees_23 : decode cX13_trees 23 = .ok (.bipush (-2), 2) := by decide +kernel
theorem dX13_trees_25 : decode cX13_trees 25 = .ok (.goto 8, 3) := by decide +kernel
theorem dX13_trees_28 : decode cX13_trees 28 = .ok (.aload_n 0, 1) := by decide +kernel
theorem dX13_trees_29 : decode cX13_trees 29 = .ok (.iload_n 1, 1) := by decide +kernel
theorem dX13_trees_30 : decode cX13_trees 30 = .ok (.invokevirtual 912, 3) := by decide +kernel
theorem dX13_trees_33 : decode cX13_trees 33 = .ok (.ireturn, 1) := by decide +kernel
theorem dX13_beginTrees_0 : decode cX13_beginTrees 0 = .ok (.aload_n 0, 1) := by decide +kernel
theorem dX13_beginTrees_1 : decode cX13_beginTrees 1 = .ok (.iconst 0, 1) := by decide +kernel
theorem dX13_beginTrees_2 : decode cX13_beginTrees 2 = .ok (.putfield 876, 3) := by decide +kernel
theorem dX13_beginTrees_5 : decode cX13_beginTrees 5 = .ok (.aload_n 0, 1) := by decide +kernel
theorem dX13_beginTrees_6 : decode cX13_beginTrees 6 = .ok (.iconst 0, 1) := by decide +kernel
theorem dX13_beginTrees_7 : decode cX13_beginTrees 7 = .ok (.putfield 879, 3) := by decide +kernel
theorem dX13_beginTrees_10 : decode cX13_beginTrees 10 = .ok (.return_, 1) := by decide +kernel
theorem dX13_putTree_0 : decode cX13_putTree 0 = .ok (.aload_n 0, 1) := by decide +kernel
theorem dX13_putTree_1 : decode cX13_putTree 1 = .ok (.iconst 0, 1) := by decide +kernel
theorem dX13_putTree_2 : decode cX13_putTree 2 = .ok (.putfield 785, 3) := by decide +kernel
theorem dX13_putTree_5 : decode cX13_putTree 5 = .ok (.aload_n 0, 1) := by decide +kernel
theorem dX13_putTree_6 : decode cX13_putTree 6 = .ok (.iload_n 1, 1) := by decide +kernel
theorem dX13_putTree_7 : decode cX13_putTree 7 = .ok (.invokevirtual 791, 3) := by decide +kernel
theorem dX13_putTree_10 : decode cX13_putTree 10 = .ok (.aload_n 0, 1) := by decide +kernel
theorem dX13_putTree_11 : decode cX13_putTree 11 = .ok (.getfield 785, 3) := by decide +kernel
theorem dX13_putTree_14 : decode cX13_putTree 14 = .ok (.ifCond .le 117, 3) := by decide +kernel
theorem dX13_putTree_17 : decode cX13_putTree 17 = .ok (.aload_n 0, 1) := by decide +kernel
theorem dX13_putTree_18 : decode cX13_putTree 18 = .ok (.getfield 222, 3) := by decide +kernel
theorem dX13_putTree_21 : decode cX13_putTree 21 = .ok (.aload_n 0, 1) := by decide +kernel
theorem dX13_putTree_22 : decode cX13_putTree 22 = .ok (.getfield 785, 3) := by decide +kernel
theorem dX13_putTree_25 : decode cX13_putTree 25 = .ok (.iconst 1, 1) := by decide +kernel
theorem dX13_putTree_26 : decode cX13_putTree 26 = .ok (.isub, 1) := by decide +kernel
theorem dX13_putTree_27 : decode cX13_putTree 27 = .ok (.iaload, 1) := by decide +kernel
theorem dX13_putTree_28 : decode cX13_putTree 28 = .ok (.istore_n 2, 1) := by decide +kernel
theorem dX13_putTree_29 : decode cX13_putTree 29 = .ok (.aload_n 0, 1) := by decide +kernel
theorem dX13_putTree_30 : decode cX13_putTree 30 = .ok (.getfield 225, 3) := by decide +kernel
theorem dX13_putTree_33 : decode cX13_putTree 33 = .ok (.aload_n 0, 1) := by decide +kernel
theorem dX13_putTree_34 : decode cX13_putTree 34 = .ok (.getfield 785, 3) := by decide +kernel
theorem dX13_putTree_37 : decode cX13_putTree 37 = .ok (.iconst 1, 1) := by decide +kernel
theorem dX13_putTree_38 : decode cX13_putTree 38 = .ok (.isub, 1) := by decide +kernel
theorem dX13_putTree_39 : decode cX13_putTree 39 = .ok (.iaload, 1) := by decide +kernel
theorem dX13_putTree_40 : decode cX13_putTree 40 = .ok (.istore_n 3, 1) := by decide +kernel
theorem dX13_putTree_41 : decode cX13_putTree 41 = .ok (.aload_n 0, 1) := by decide +kernel
theorem dX13_putTree_42 : decode cX13_putTree 42 = .ok (.getfield 299, 3) := by decide +kernel
theorem dX13_putTree_45 : decode cX13_putTree 45 = .ok (.iload_n 2, 1) := by decide +kernel
theorem dX13_putTree_46 : decode cX13_putTree 46 = .ok (.iaload, 1) := by decide +kernel
theorem dX13_putTree_47 : decode cX13_putTree 47 = .ok (.istore 4, 2) := by decide +kernel
theorem dX13_putTree_49 : decode cX13_putTree 49 = .ok (.iload 4, 2) := by decide +kernel
theorem dX13_putTree_51 : decode cX13_putTree 51 = .ok (.ifCond .lt 14, 3) := by decide +kernel
theorem dX13_putTree_54 : decode cX13_putTree 54 = .ok (.iload_n 3, 1) := by decide +kernel
theorem dX13_putTree_55 : decode cX13_putTree 55 = .ok (.aload_n 0, 1) := by decide +kernel
theorem dX13_putTree_56 : decode cX13_putTree 56 = .ok (.getfield 69, 3) := by decide +kernel
theorem dX13_putTree_59 : decode cX13_putTree 59 = .ok (.iload 4, 2) := by decide +kernel
theorem dX13_putTree_61 : decode cX13_putTree 61 = .ok (.iaload, 1) := by decide +kernel
theorem dX13_putTree_62 : decode cX13_putTree 62 = .ok (.if_icmp .ne 34, 3) := by decide +kernel
theorem dX13_putTree_65 : decode cX13_putTree 65 = .ok (.aload_n 0, 1) := by decide +kernel
theorem dX13_putTree_66 : decode cX13_putTree 66 = .ok (.dup, 1) := by decide +kernel
theorem dX13_putTree_67 : decode cX13_putTree 67 = .ok (.getfield 785, 3) := by decide +kernel
theorem dX13_putTree_70 : decode cX13_putTree 70 = .ok (.iconst 1, 1) := by decide +kernel
theorem dX13_putTree_71 : decode cX13_putTree 71 = .ok (.isub, 1) := by decide +kernel
theorem dX13_putTree_72 : decode cX13_putTree 72 = .ok (.putfield 785, 3) := by decide +kernel
theorem dX13_putTree_75 : decode cX13_putTree 75 = .ok (.aload_n 0, 1) := by decide +kernel
theorem dX13_putTree_76 : decode cX13_putTree 76 = .ok (.iload 4, 2) := by decide +kernel
theorem dX13_putTree_78 : decode cX13_putTree 78 = .ok (.ifCond .ge 10, 3) := by decide +kernel
theorem dX13_putTree_81 : decode cX13_putTree 81 = .ok (.iconst (-1), 1) := by decide +kernel
theorem dX13_putTree_82 : decode cX13_putTree 82 = .ok (.iload 4, 2) := by decide +kernel
theorem dX13_putTree_84 : decode cX13_putTree 84 = .ok (.isub, 1) := by decide +kernel
theorem dX13_putTree_85 : decode cX13_putTree 85 = .ok (.goto 5, 3) := by decide +kernel
theorem dX13_putTree_88 : decode cX13_putTree 88 = .ok (.iload 4, 2) := by decide +kernel
theorem dX13_putTree_90 : decode cX13_putTree 90 = .ok (.invokevirtual 803, 3) := by decide +kernel
theorem dX13_putTree_93 : decode cX13_putTree 93 = .ok (.goto 35, 3) := by decide +kernel
theorem dX13_putTree_96 : decode cX13_putTree 96 = .ok (.aload_n 0, 1) := by decide +kernel
theorem dX13_putTree_97 : decode cX13_putTree 97 = .ok (.getfield 225, 3) := by decide +kernel
theorem dX13_putTree_100 : decode cX13_putTree 100 = .ok (.aload_n 0, 1) := by decide +kernel
theorem dX13_putTree_101 : decode cX13_putTree 101 = .ok (.getfield 785, 3) := by decide +kernel
theorem dX13_putTree_104 : decode cX13_putTree 104 = .ok (.iconst 1, 1) := by decide +kernel
theorem dX13_putTree_105 : decode cX13_putTree 105 = .ok (.isub, 1) := by decide +kernel
theorem dX13_putTree_106 : decode cX13_putTree 106 = .ok (.dup2, 1) := by decide +kernel
theorem dX13_putTree_107 : decode cX13_putTree 107 = .ok (.iaload, 1) := by decide +kernel
theorem dX13_putTree_108 : decode cX13_putTree 108 = .ok (.iconst 1, 1) := by decide +kernel
theorem dX13_putTree_109 : decode cX13_putTree 109 = .ok (.iadd, 1) := by decide +kernel
theorem dX13_putTree_110 : decode cX13_putTree 110 = .ok (.iastore, 1) := by decide +kernel
theorem dX13_putTree_111 : decode cX13_putTree 111 = .ok (.aload_n 0, 1) := by decide +kernel
theorem dX13_putTree_112 : decode cX13_putTree 112 = .ok (.aload_n 0, 1) := by decide +kernel
theorem dX13_putTree_113 : decode cX13_putTree 113 = .ok (.getfield 314, 3) := by decide +kernel
theorem dX13_putTree_116 : decode cX13_putTree 116 = .ok (.aload_n 0, 1) := by decide +kernel
theorem dX13_putTree_117 : decode cX13_putTree 117 = .ok (.getfield 302, 3) := by decide +kernel
theorem dX13_putTree_120 : decode cX13_putTree 120 = .ok (.iload_n 2, 1) := by decide +kernel
theorem dX13_putTree_121 : decode cX13_putTree 121 = .ok (.iaload, 1) := by decide +kernel
theorem dX13_putTree_122 : decode cX13_putTree 122 = .ok (.iload_n 3, 1) := by decide +kernel
theorem dX13_putTree_123 : decode cX13_putTree 123 = .ok (.iadd, 1) := by decide +kernel
theorem dX13_putTree_124 : decode cX13_putTree 124 = .ok (.iaload, 1) := by decide +kernel
theorem dX13_putTree_125 : decode cX13_putTree 125 = .ok (.invokevirtual 791, 3) := by decide +kernel
theorem dX13_putTree_128 : decode cX13_putTree 128 = .ok (.goto (-118), 3) := by decide +kernel
theorem dX13_putTree_131 : decode cX13_putTree 131 = .ok (.return_, 1) := by decide +kernel
theorem dX13_variablesOf_0 : decode cX13_variablesOf 0 = .ok (.iconst 0, 1) := by decide +kernel
theorem dX13_variablesOf_1 : decode cX13_variablesOf 1 = .ok (.istore_n 2, 1) := by decide +kernel
theorem dX13_variablesOf_2 : decode cX13_variablesOf 2 = .ok (.aload_n 0, 1) := by decide +kernel
theorem dX13_variablesOf_3 : decode cX13_variablesOf 3 = .ok (.getfield 54, 3) := by decide +kernel
theorem dX13_variablesOf_6 : decode cX13_variablesOf 6 = .ok (.iload_n 1, 1) := by decide +kernel
theorem dX13_variablesOf_7 : decode cX13_variablesOf 7 = .ok (.iaload, 1) := by decide +kernel
theorem dX13_variablesOf_8 : decode cX13_variablesOf 8 = .ok (.istore_n 3, 1) := by decide +kernel
theorem dX13_variablesOf_9 : decode cX13_variablesOf 9 = .ok (.iload_n 3, 1) := by decide +kernel
theorem dX13_variablesOf_10 : decode cX13_variablesOf 10 = .ok (.aload_n 0, 1) := by decide +kernel
theorem dX13_variablesOf_11 : decode cX13_variablesOf 11 = .ok (.getfield 54, 3) := by decide +kernel
theorem dX13_variablesOf_14 : decode cX13_variablesOf 14 = .ok (.iload_n 1, 1) := by decide +kernel
theorem dX13_variablesOf_15 : decode cX13_variablesOf 15 = .ok (.iaload, 1) := by decide +kernel
theorem dX13_variablesOf_16 : decode cX13_variablesOf 16 = .ok (.aload_n 0, 1) := by decide +kernel
theorem dX13_variablesOf_17 : decode cX13_variablesOf 17 = .ok (.getfield 57, 3) := by decide +kernel
theorem dX13_variablesOf_20 : decode cX13_variablesOf 20 = .ok (.iload_n 1, 1) := by decide +kernel
theorem dX13_variablesOf_21 : decode cX13_variablesOf 21 = .ok (.iaload, 1) := by decide +kernel
theorem dX13_variablesOf_22 : decode cX13_variablesOf 22 = .ok (.iadd, 1) := by decide +kernel
theorem dX13_variablesOf_23 : decode cX13_variablesOf 23 = .ok (.if_icmp .ge 31, 3) := by decide +kernel
theorem dX13_variablesOf_26 : decode cX13_variablesOf 26 = .ok (.iload_n 2, 1) := by decide +kernel
theorem dX13_variablesOf_27 : decode cX13_variablesOf 27 = .ok (.aload_n 0, 1) := by decide +kernel
theorem dX13_variablesOf_28 : decode cX13_variablesOf 28 = .ok (.getfield 35, 3) := by decide +kernel
theorem dX13_variablesOf_31 : decode cX13_variablesOf 31 = .ok (.aload_n 0, 1) := by decide +kernel
theorem dX13_variablesOf_32 : decode cX13_variablesOf 32 = .ok (.getfield 60, 3) := by decide +kernel
theorem dX13_variablesOf_35 : decode cX13_variablesOf 35 = .ok (.iload_n 3, 1) := by decide +kernel
theorem dX13_variablesOf_36 : decode cX13_variablesOf 36 = .ok (.iaload, 1) := by decide +kernel
theorem dX13_variablesOf_37 : decode cX13_variablesOf 37 = .ok (.baload, 1) := by decide +kernel
theorem dX13_variablesOf_38 : decode cX13_variablesOf 38 = .ok (.ifCond .eq 7, 3) := by decide +kernel
theorem dX13_variablesOf_41 : decode cX13_variablesOf 41 = .ok (.iconst 1, 1) := by decide +kernel
theorem dX13_variablesOf_42 : decode cX13_variablesOf 42 = .ok (.goto 4, 3) := by decide +kernel
theorem dX13_variablesOf_45 : decode cX13_variablesOf 45 = .ok (.iconst 0, 1) := by decide +kernel
theorem dX13_variablesOf_46 : decode cX13_variablesOf 46 = .ok (.iadd, 1) := by decide +kernel
theorem dX13_variablesOf_47 : decode cX13_variablesOf 47 = .ok (.istore_n 2, 1) := by decide +kernel
theorem dX13_variablesOf_48 : decode cX13_variablesOf 48 = .ok (.iinc 3 1, 3) := by decide +kernel
theorem dX13_variablesOf_51 : decode cX13_variablesOf 51 = .ok (.goto (-42), 3) := by decide +kernel
theorem dX13_variablesOf_54 : decode cX13_variablesOf 54 = .ok (.iload_n 2, 1) := by decide +kernel
theorem dX13_variablesOf_55 : decode cX13_variablesOf 55 = .ok (.ireturn, 1) := by decide +kernel
theorem dX13_equate_0 : decode cX13_equate 0 = .ok (.aload_n 0, 1) := by decide +kernel
theorem dX13_equate_1 : decode cX13_equate 1 = .ok (.iload_n 1, 1) := by decide +kernel
theorem dX13_equate_2 : decode cX13_equate 2 = .ok (.invokevirtual 709, 3) := by decide +kernel
theorem dX13_equate_5 : decode cX13_equate 5 = .ok (.ifCond .eq 13, 3) := by decide +kernel
theorem dX13_equate_8 : decode cX13_equate 8 = .ok (.aload_n 0, 1) := by decide +kernel
theorem dX13_equate_9 : decode cX13_equate 9 = .ok (.getfield 51, 3) := by decide +kernel
theorem dX13_equate_12 : decode cX13_equate 12 = .ok (.iload_n 1, 1) := by decide +kernel
theorem dX13_equate_13 : decode cX13_equate 13 = .ok (.iaload, 1) := by decide +kernel
theorem dX13_equate_14 : decode cX13_equate 14 = .ok (.iconst 2, 1) := by decide +kernel
theorem dX13_equate_15 : decode cX13_equate 15 = .ok (.if_icmp .eq 5, 3) := by decide +kernel
theorem dX13_equate_18 : decode cX13_equate 18 = .ok (.iconst (-1), 1) := by decide +kernel
theorem dX13_equate_19 : decode cX13_equate 19 = .ok (.ireturn, 1) := by decide +kernel
theorem dX13_equate_20 : decode cX13_equate 20 = .ok (.aload_n 0, 1) := by decide +kernel
theorem dX13_equate_21 : decode cX13_equate 21 = .ok (.iload_n 1, 1) := by decide +kernel
theorem dX13_equate_22 : decode cX13_equate 22 = .ok (.invokevirtual 837, 3) := by decide +kernel
theorem dX13_equate_25 : decode cX13_equate 25 = .ok (.ifCond .eq 12, 3) := by decide +kernel
theorem dX13_equate_28 : decode cX13_equate 28 = .ok (.aload_n 0, 1) := by decide +kernel
theorem dX13_equate_29 : decode cX13_equate 29 = .ok (.iload_n 1, 1) := by decide +kernel
theorem dX13_equate_30 : decode cX13_equate 30 = .ok (.invokevirtual 915, 3) := by decide +kernel
theorem dX13_equate_33 : decode cX13_equate 33 = .ok (.iconst 2, 1) := by decide +kernel
theorem dX13_equate_34 : decode cX13_equate 34 = .ok (.if_icmp .eq 5, 3) := by decide +kernel
theorem dX13_equate_37 : decode cX13_equate 37 = .ok (.iconst (-1), 1) := by decide +kernel
theorem dX13_equate_38 : decode cX13_equate 38 = .ok (.ireturn, 1) := by decide +kernel
theorem dX13_equate_39 : decode cX13_equate 39 = .ok (.aload_n 0, 1) := by decide +kernel
theorem dX13_equate_40 : decode cX13_equate 40 = .ok (.getfield 332, 3) := by decide +kernel
theorem dX13_equate_43 : decode cX13_equate 43 = .ok (.iload_n 1, 1) := by decide +kernel
theorem dX13_equate_44 : decode cX13_equate 44 = .ok (.aload_n 0, 1) := by decide +kernel
theorem dX13_equate_45 : decode cX13_equate 45 = .ok (.getfield 332, 3) := by decide +kernel
theorem dX13_equate_48 : decode cX13_equate 48 = .ok (.iload_n 1, 1) := by decide +kernel
theorem dX13_equate_49 : decode cX13_equate 49 = .ok (.baload, 1) := by decide +kernel
theorem dX13_equate_50 : decode cX13_equate 50 = .ok (.ifCond .ne 7, 3) := by decide +kernel
theorem dX13_equate_53 : decode cX13_equate 53 = .ok (.iconst 1, 1) := by decide +kernel
theorem dX13_equate_54 : decode cX13_equate 54 = .ok (.goto 4, 3) := by decide +kernel
theorem dX13_equate_57 : decode cX13_equate 57 = .ok (.iconst 0, 1) := by decide +kernel
theorem dX13_equate_58 : decode cX13_equate 58 = .ok (.bastore, 1) := by decide +kernel
theorem dX13_equate_59 : decode cX13_equate 59 = .ok (.iconst 0, 1) := by decide +kernel
theorem dX13_equate_60 : decode cX13_equate 60 = .ok (.istore_n 2, 1) := by decide +kernel
theorem dX13_equate_61 : decode cX13_equate 61 = .ok (.iconst 0, 1) := by decide +kernel
theorem dX13_equate_62 : decode cX13_equate 62 = .ok (.istore_n 3, 1) := by decide +kernel
theorem dX13_equate_63 : decode cX13_equate 63 = .ok (.iload_n 3, 1) := by decide +kernel
theorem dX13_equate_64 : decode cX13_equate 64 = .ok (.aload_n 0, 1) := by decide +kernel
theorem dX13_equate_65 : decode cX13_equate 65 = .ok (.getfield 512, 3) := by decide +kernel
theorem dX13_equate_68 : decode cX13_equate 68 = .ok (.if_icmp .ge 34, 3) := by decide +kernel
theorem dX13_equate_71 : decode cX13_equate 71 = .ok (.iload_n 2, 1) := by decide +kernel
theorem dX13_equate_72 : decode cX13_equate 72 = .ok (.aload_n 0, 1) := by decide +kernel
theorem dX13_equate_73 : decode cX13_equate 73 = .ok (.getfield 332, 3) := by decide +kernel
theorem dX13_equate_76 : decode cX13_equate 76 = .ok (.iload_n 3, 1) := by decide +kernel
theorem dX13_equate_77 : decode cX13_equate 77 = .ok (.baload, 1) := by decide +kernel
theorem dX13_equate_78 : decode cX13_equate 78 = .ok (.ifCond .eq 7, 3) := by decide +kernel
theorem dX13_equate_81 : decode cX13_equate 81 = .ok (.iconst 1, 1) := by decide +kernel
theorem dX13_equate_82 : decode cX13_equate 82 = .ok (.goto 4, 3) := by decide +kernel
theorem dX13_equate_85 : decode cX13_equate 85 = .ok (.iconst 0, 1) := by decide +kernel
theorem dX13_equate_86 : decode cX13_equate 86 = .ok (.iadd, 1) := by decide +kernel
theorem dX13_equate_87 : decode cX13_equate 87 = .ok (.istore_n 2, 1) := by decide +kernel
theorem dX13_equate_88 : decode cX13_equate 88 = .ok (.aload_n 0, 1) := by decide +kernel
theorem dX13_equate_89 : decode cX13_equate 89 = .ok (.getfield 329, 3) := by decide +kernel
theorem dX13_equate_92 : decode cX13_equate 92 = .ok (.iload_n 3, 1) := by decide +kernel
theorem dX13_equate_93 : decode cX13_equate 93 = .ok (.bipush (-9), 2) := by decide +kernel
theorem dX13_equate_95 : decode cX13_equate 95 = .ok (.iastore, 1) := by decide +kernel
theorem dX13_equate_96 : decode cX13_equate 96 = .ok (.iinc 3 1, 3) := by decide +kernel
theorem dX13_equate_99 : decode cX13_equate 99 = .ok (.goto (-36), 3) := by decide +kernel
theorem dX13_equate_102 : decode cX13_equate 102 = .ok (.iload_n 2, 1) := by decide +kernel
theorem dX13_equate_103 : decode cX13_equate 103 = .ok (.ireturn, 1) := by decide +kernel
theorem dX13_firstSide_0 : decode cX13_firstSide 0 = .ok (.aload_n 0, 1) := by decide +kernel
theorem dX13_firstSide_1 : decode cX13_firstSide 1 = .ok (.getfield 54, 3) := by decide +kernel
theorem dX13_firstSide_4 : decode cX13_firstSide 4 = .ok (.iload_n 1, 1) := by decide +kernel
theorem dX13_firstSide_5 : decode cX13_firstSide 5 = .ok (.iaload, 1) := by decide +kernel
theorem dX13_firstSide_6 : decode cX13_firstSide 6 = .ok (.iconst 1, 1) := by decide +kernel
theorem dX13_firstSide_7 : decode cX13_firstSide 7 = .ok (.iadd, 1) := by decide +kernel
theorem dX13_firstSide_8 : decode cX13_firstSide 8 = .ok (.istore_n 2, 1) := by decide +kernel
theorem dX13_firstSide_9 : decode cX13_firstSide 9 = .ok (.aload_n 0, 1) := by decide +kernel
theorem dX13_firstSide_10 : decode cX13_firstSide 10 = .ok (.getfield 35, 3) := by decide +kernel
theorem dX13_firstSide_13 : decode cX13_firstSide 13 = .ok (.aload_n 0, 1) := by decide +kernel
theorem dX13_firstSide_14 : decode cX13_firstSide 14 = .ok (.getfield 60, 3) := by decide +kernel
theorem dX13_firstSide_17 : decode cX13_firstSide 17 = .ok (.iload_n 2, 1) := by decide +kernel
theorem dX13_firstSide_18 : decode cX13_firstSide 18 = .ok (.iaload, 1) := by decide +kernel
theorem dX13_firstSide_19 : decode cX13_firstSide 19 = .ok (.baload, 1) := by decide +kernel
theorem dX13_firstSide_20 : decode cX13_firstSide 20 = .ok (.ifCond .ne 9, 3) := by decide +kernel
theorem dX13_firstSide_23 : decode cX13_firstSide 23 = .ok (.iinc 2 1, 3) := by decide +kernel
theorem dX13_firstSide_26 : decode cX13_firstSide 26 = .ok (.goto (-17), 3) := by decide +kernel
theorem dX13_firstSide_29 : decode cX13_firstSide 29 = .ok (.aload_n 0, 1) := by decide +kernel
theorem dX13_firstSide_30 : decode cX13_firstSide 30 = .ok (.iload_n 1, 1) := by decide +kernel
theorem dX13_firstSide_31 : decode cX13_firstSide 31 = .ok (.aload_n 0, 1) := by decide +kernel
theorem dX13_firstSide_32 : decode cX13_firstSide 32 = .ok (.getfield 60, 3) := by decide +kernel
theorem dX13_firstSide_35 : decode cX13_firstSide 35 = .ok (.iload_n 2, 1) := by decide +kernel
theorem dX13_firstSide_36 : decode cX13_firstSide 36 = .ok (.iaload, 1) := by decide +kernel
theorem dX13_firstSide_37 : decode cX13_firstSide 37 = .ok (.invokevirtual 888, 3) := by decide +kernel
theorem dX13_firstSide_40 : decode cX13_firstSide 40 = .ok (.ireturn, 1) := by decide +kernel
theorem dX13_isUsedBefore_0 : decode cX13_isUsedBefore 0 = .ok (.iconst 0, 1) := by decide +kernel
theorem dX13_isUsedBefore_1 : decode cX13_isUsedBefore 1 = .ok (.istore_n 3, 1) := by decide +kernel
theorem dX13_isUsedBefore_2 : decode cX13_isUsedBefore 2 = .ok (.iconst 0, 1) := by decide +kernel
theorem dX13_isUsedBefore_3 : decode cX13_isUsedBefore 3 = .ok (.istore 4, 2) := by decide +kernel
theorem dX13_isUsedBefore_5 : decode cX13_isUsedBefore 5 = .ok (.iload 4, 2) := by decide +kernel
theorem dX13_isUsedBefore_7 : decode cX13_isUsedBefore 7 = .ok (.iload_n 1, 1) := by decide +kernel
theorem dX13_isUsedBefore_8 : decode cX13_isUsedBefore 8 = .ok (.if_icmp .ge 87, 3) := by decide +kernel
theorem dX13_isUsedBefore_11 : decode cX13_isUsedBefore 11 = .ok (.iload_n 3, 1) := by decide +kernel
theorem dX13_isUsedBefore_12 : decode cX13_isUsedBefore 12 = .ok (.ifCond .ne 83, 3) := by decide +kernel
theorem dX13_isUsedBefore_15 : decode cX13_isUsedBefore 15 = .ok (.aload_n 0, 1) := by decide +kernel
theorem dX13_isUsedBefore_16 : decode cX13_isUsedBefore 16 = .ok (.getfield 60, 3) := by decide +kernel
theorem dX13_isUsedBefore_19 : decode cX13_isUsedBefore 19 = .ok (.aload_n 0, 1) := by decide +kernel
theorem dX13_isUsedBefore_20 : decode cX13_isUsedBefore 20 = .ok (.getfield 54, 3) := by decide +kernel
theorem dX13_isUsedBefore_23 : decode cX13_isUsedBefore 23 = .ok (.iload 4, 2) := by decide +kernel
theorem dX13_isUsedBefore_25 : decode cX13_isUsedBefore 25 = .ok (.iaload, 1) := by decide +kernel
theorem dX13_isUsedBefore_26 : decode cX13_isUsedBefore 26 = .ok (.iaload, 1) := by decide +kernel
theorem dX13_isUsedBefore_27 : decode cX13_isUsedBefore 27 = .ok (.aload_n 0, 1) := by decide +kernel
theorem dX13_isUsedBefore_28 : decode cX13_isUsedBefore 28 = .ok (.getfield 373, 3) := by decide +kernel
theorem dX13_isUsedBefore_31 : decode cX13_isUsedBefore 31 = .ok (.if_icmp .ne 58, 3) := by decide +kernel
theorem dX13_isUsedBefore_34 : decode cX13_isUsedBefore 34 = .ok (.aload_n 0, 1) := by decide +kernel
theorem dX13_isUsedBefore_35 : decode cX13_isUsedBefore 35 = .ok (.getfield 57, 3) := by decide +kernel
theorem dX13_isUsedBefore_38 : decode cX13_isUsedBefore 38 = .ok (.iload 4, 2) := by decide +kernel
theorem dX13_isUsedBefore_40 : decode cX13_isUsedBefore 40 = .ok (.iaload, 1) := by decide +kernel
theorem dX13_isUsedBefore_41 : decode cX13_isUsedBefore 41 = .ok (.bipush 60, 2) := by decide +kernel
theorem dX13_isUsedBefore_43 : decode cX13_isUsedBefore 43 = .ok (.if_icmp .gt 46, 3) := by decide +kernel
theorem dX13_isUsedBefore_46 : decode cX13_isUsedBefore 46 = .ok (.aload_n 0, 1) := by decide +kernel
theorem dX13_isUsedBefore_47 : decode cX13_isUsedBefore 47 = .ok (.iload 4, 2) := by decide +kernel
theorem dX13_isUsedBefore_49 : decode cX13_isUsedBefore 49 = .ok (.invokevirtual 912, 3) := by decide +kernel
theorem dX13_isUsedBefore_52 : decode cX13_isUsedBefore 52 = .ok (.iconst 1, 1) := by decide +kernel
theorem dX13_isUsedBefore_53 : decode cX13_isUsedBefore 53 = .ok (.if_icmp .ne 36, 3) := by decide +kernel
theorem dX13_isUsedBefore_56 : decode cX13_isUsedBefore 56 = .ok (.aload_n 0, 1) := by decide +kernel
theorem dX13_isUsedBefore_57 : decode cX13_isUsedBefore 57 = .ok (.getfield 326, 3) := by decide +kernel
theorem dX13_isUsedBefore_60 : decode cX13_isUsedBefore 60 = .ok (.bipush 24, 2) := by decide +kernel
theorem dX13_isUsedBefore_62 : decode cX13_isUsedBefore 62 = .ok (.iload 4, 2) := by decide +kernel
theorem dX13_isUsedBefore_64 : decode cX13_isUsedBefore 64 = .ok (.imul, 1) := by decide +kernel
theorem dX13_isUsedBefore_65 : decode cX13_isUsedBefore 65 = .ok (.iload_n 2, 1) := by decide +kernel
theorem dX13_isUsedBefore_66 : decode cX13_isUsedBefore 66 = .ok (.bipush 64, 2) := by decide +kernel
theorem dX13_isUsedBefore_68 : decode cX13_isUsedBefore 68 = .ok (.idiv, 1) := by decide +kernel
theorem dX13_isUsedBefore_69 : decode cX13_isUsedBefore 69 = .ok (.iadd, 1) := by decide +kernel
theorem dX13_isUsedBefore_70 : decode cX13_isUsedBefore 70 = .ok (.laload, 1) := by decide +kernel
theorem dX13_isUsedBefore_71 : decode cX13_isUsedBefore 71 = .ok (.iload_n 2, 1) := by decide +kernel
theorem dX13_isUsedBefore_72 : decode cX13_isUsedBefore 72 = .ok (.bipush 64, 2) := by decide +kernel
theorem dX13_isUsedBefore_74 : decode cX13_isUsedBefore 74 = .ok (.irem, 1) := by decide +kernel
theorem dX13_isUsedBefore_75 : decode cX13_isUsedBefore 75 = .ok (.lshr, 1) := by decide +kernel
theorem dX13_isUsedBefore_76 : decode cX13_isUsedBefore 76 = .ok (.lconst 1, 1) := by decide +kernel
theorem dX13_isUsedBefore_77 : decode cX13_isUsedBefore 77 = .ok (.land, 1) := by decide +kernel
theorem dX13_isUsedBefore_78 : decode cX13_isUsedBefore 78 = .ok (.lconst 1, 1) := by decide +kernel
theorem dX13_isUsedBefore_79 : decode cX13_isUsedBefore 79 = .ok (.lcmp, 1) := by decide +kernel
theorem dX13_isUsedBefore_80 : decode cX13_isUsedBefore 80 = .ok (.ifCond .ne 7, 3) := by decide +kernel
theorem dX13_isUsedBefore_83 : decode cX13_isUsedBefore 83 = .ok (.iconst 1, 1) := by decide +kernel
theorem dX13_isUsedBefore_84 : decode cX13_isUsedBefore 84 = .ok (.goto 4, 3) := by decide +kernel
theorem dX13_isUsedBefore_87 : decode cX13_isUsedBefore 87 = .ok (.iconst 0, 1) := by decide +kernel
theorem dX13_isUsedBefore_88 : decode cX13_isUsedBefore 88 = .ok (.istore_n 3, 1) := by decide +kernel
theorem dX13_isUsedBefore_89 : decode cX13_isUsedBefore 89 = .ok (.iinc 4 1, 3) := by decide +kernel
theorem dX13_isUsedBefore_92 : decode cX13_isUsedBefore 92 = .ok (.goto (-87), 3) := by decide +kernel
theorem dX13_isUsedBefore_95 : decode cX13_isUsedBefore 95 = .ok (.iload_n 3, 1) := by decide +kernel
theorem dX13_isUsedBefore_96 : decode cX13_isUsedBefore 96 = .ok (.ireturn, 1) := by decide +kernel
theorem dX13_hasLeaf_0 : decode cX13_hasLeaf 0 = .ok (.iconst 0, 1) := by decide +kernel
theorem dX13_hasLeaf_1 : decode cX13_hasLeaf 1 = .ok (.istore_n 3, 1) := by decide +kernel
theorem dX13_hasLeaf_2 : decode cX13_hasLeaf 2 = .ok (.iconst 0, 1) := by decide +kernel
theorem dX13_hasLeaf_3 : decode cX13_hasLeaf 3 = .ok (.istore 4, 2) := by decide +kernel
theorem dX13_hasLeaf_5 : decode cX13_hasLeaf 5 = .ok (.iload 4, 2) := by decide +kernel
theorem dX13_hasLeaf_7 : decode cX13_hasLeaf 7 = .ok (.aload_n 0, 1) := by decide +kernel
theorem dX13_hasLeaf_8 : decode cX13_hasLeaf 8 = .ok (.getfield 69, 3) := by decide +kernel
theorem dX13_hasLeaf_11 : decode cX13_hasLeaf 11 = .ok (.aload_n 0, 1) := by decide +kernel
theorem dX13_hasLeaf_12 : decode cX13_hasLeaf 12 = .ok (.getfield 299, 3) := by decide +kernel
theorem dX13_hasLeaf_15 : decode cX13_hasLeaf 15 = .ok (.iload_n 1, 1) := by decide +kernel
theorem dX13_hasLeaf_16 : decode cX13_hasLeaf 16 = .ok (.iaload, 1) := by decide +kernel
theorem dX13_hasLeaf_17 : decode cX13_hasLeaf 17 = .ok (.iaload, 1) := by decide +kernel
theorem dX13_hasLeaf_18 : decode cX13_hasLeaf 18 = .ok (.if_icmp .ge 42, 3) := by decide +kernel
theorem dX13_hasLeaf_21 : decode cX13_hasLeaf 21 = .ok (.iload_n 3, 1) := by decide +kernel
theorem dX13_hasLeaf_22 : decode cX13_hasLeaf 22 = .ok (.ifCond .ne 26, 3) := by decide +kernel
theorem dX13_hasLeaf_25 : decode cX13_hasLeaf 25 = .ok (.aload_n 0, 1) := by decide +kernel
theorem dX13_hasLeaf_26 : decode cX13_hasLeaf 26 = .ok (.getfield 299, 3) := by decide +kernel
theorem dX13_hasLeaf_29 : decode cX13_hasLeaf 29 = .ok (.aload_n 0, 1) := by decide +kernel
theorem dX13_hasLeaf_30 : decode cX13_hasLeaf 30 = .ok (.getfield 314, 3) := by decide +kernel
theorem dX13_hasLeaf_33 : decode cX13_hasLeaf 33 = .ok (.aload_n 0, 1) := by decide +kernel
theorem dX13_hasLeaf_34 : decode cX13_hasLeaf 34 = .ok (.getfield 302, 3) := by decide +kernel
theorem dX13_hasLeaf_37 : decode cX13_hasLeaf 37 = .ok (.iload_n 1, 1) := by decide +kernel
theorem dX13_hasLeaf_38 : decode cX13_hasLeaf 38 = .ok (.iaload, 1) := by decide +kernel
theorem dX13_hasLeaf_39 : decode cX13_hasLeaf 39 = .ok (.iload 4, 2) := by decide +kernel
theorem dX13_hasLeaf_41 : decode cX13_hasLeaf 41 = .ok (.iadd, 1) := by decide +kernel
theorem dX13_hasLeaf_42 : decode cX13_hasLeaf 42 = .ok (.iaload, 1) := by decide +kernel
theorem dX13_hasLeaf_43 : decode cX13_hasLeaf 43 = .ok (.iaload, 1) := by decide +kernel
theorem dX13_hasLeaf_44 : decode cX13_hasLeaf 44 = .ok (.iload_n 2, 1) := by decide +kernel
theorem dX13_hasLeaf_45 : decode cX13_hasLeaf 45 = .ok (.if_icmp .ne 7, 3) := by decide +kernel
theorem dX13_hasLeaf_48 : decode cX13_hasLeaf 48 = .ok (.iconst 1, 1) := by decide +kernel
theorem dX13_hasLeaf_49 : decode cX13_hasLeaf 49 = .ok (.goto 4, 3) := by decide +kernel
theorem dX13_hasLeaf_52 : decode cX13_hasLeaf 52 = .ok (.iconst 0, 1) := by decide +kernel
theorem dX13_hasLeaf_53 : decode cX13_hasLeaf 53 = .ok (.istore_n 3, 1) := by decide +kernel
theorem dX13_hasLeaf_54 : decode cX13_hasLeaf 54 = .ok (.iinc 4 1, 3) := by decide +kernel
theorem dX13_hasLeaf_57 : decode cX13_hasLeaf 57 = .ok (.goto (-52), 3) := by decide +kernel
theorem dX13_hasLeaf_60 : decode cX13_hasLeaf 60 = .ok (.iload_n 3, 1) := by decide +kernel
theorem dX13_hasLeaf_61 : decode cX13_hasLeaf 61 = .ok (.ireturn, 1) := by decide +kernel
theorem dX13_isFlat_0 : decode cX13_isFlat 0 = .ok (.iconst 1, 1) := by decide +kernel
theorem dX13_isFlat_1 : decode cX13_isFlat 1 = .ok (.istore_n 2, 1) := by decide +kernel
theorem dX13_isFlat_2 : decode cX13_isFlat 2 = .ok (.iconst 0, 1) := by decide +kernel
theorem dX13_isFlat_3 : decode cX13_isFlat 3 = .ok (.istore_n 3, 1) := by decide +kernel
theorem dX13_isFlat_4 : decode cX13_isFlat 4 = .ok (.iload_n 3, 1) := by decide +kernel
theorem dX13_isFlat_5 : decode cX13_isFlat 5 = .ok (.aload_n 0, 1) := by decide +kernel
theorem dX13_isFlat_6 : decode cX13_isFlat 6 = .ok (.getfield 69, 3) := by decide +kernel
theorem dX13_isFlat_9 : decode cX13_isFlat 9 = .ok (.aload_n 0, 1) := by decide +kernel
theorem dX13_isFlat_10 : decode cX13_isFlat 10 = .ok (.getfield 299, 3) := by decide +kernel
theorem dX13_isFlat_13 : decode cX13_isFlat 13 = .ok (.iload_n 1, 1) := by decide +kernel
theorem dX13_isFlat_14 : decode cX13_isFlat 14 = .ok (.iaload, 1) := by decide +kernel
theorem dX13_isFlat_15 : decode cX13_isFlat 15 = .ok (.iaload, 1) := by decide +kernel
theorem dX13_isFlat_16 : decode cX13_isFlat 16 = .ok (.if_icmp .ge 93, 3) := by decide +kernel
theorem dX13_isFlat_19 : decode cX13_isFlat 19 = .ok (.iload_n 2, 1) := by decide +kernel
theorem dX13_isFlat_20 : decode cX13_isFlat 20 = .ok (.ifCond .eq 89, 3) := by decide +kernel
theorem dX13_isFlat_23 : decode cX13_isFlat 23 = .ok (.aload_n 0, 1) := by decide +kernel
theorem dX13_isFlat_24 : decode cX13_isFlat 24 = .ok (.getfield 299, 3) := by decide +kernel
theorem dX13_isFlat_27 : decode cX13_isFlat 27 = .ok (.aload_n 0, 1) := by decide +kernel
theorem dX13_isFlat_28 : decode cX13_isFlat 28 = .ok (.getfield 314, 3) := by decide +kernel
theorem dX13_isFlat_31 : decode cX13_isFlat 31 = .ok (.aload_n 0, 1) := by decide +kernel
theorem dX13_isFlat_32 : decode cX13_isFlat 32 = .ok (.getfield 302, 3) := by decide +kernel
theorem dX13_isFlat_35 : decode cX13_isFlat 35 = .ok (.iload_n 1, 1) := by decide +kernel
theorem dX13_isFlat_36 : decode cX13_isFlat 36 = .ok (.iaload, 1) := by decide +kernel
theorem dX13_isFlat_37 : decode cX13_isFlat 37 = .ok (.iload_n 3, 1) := by decide +kernel
theorem dX13_isFlat_38 : decode cX13_isFlat 38 = .ok (.iadd, 1) := by decide +kernel
theorem dX13_isFlat_39 : decode cX13_isFlat 39 = .ok (.iaload, 1) := by decide +kernel
theorem dX13_isFlat_40 : decode cX13_isFlat 40 = .ok (.iaload, 1) := by decide +kernel
theorem dX13_isFlat_41 : decode cX13_isFlat 41 = .ok (.istore 4, 2) := by decide +kernel
theorem dX13_isFlat_43 : decode cX13_isFlat 43 = .ok (.iload 4, 2) := by decide +kernel
theorem dX13_isFlat_45 : decode cX13_isFlat 45 = .ok (.ifCond .ge 7, 3) := by decide +kernel
theorem dX13_isFlat_48 : decode cX13_isFlat 48 = .ok (.iconst 1, 1) := by decide +kernel
theorem dX13_isFlat_49 : decode cX13_isFlat 49 = .ok (.goto 4, 3) := by decide +kernel
theorem dX13_isFlat_52 : decode cX13_isFlat 52 = .ok (.iconst 0, 1) := by decide +kernel
theorem dX13_isFlat_53 : decode cX13_isFlat 53 = .ok (.istore_n 2, 1) := by decide +kernel
theorem dX13_isFlat_54 : decode cX13_isFlat 54 = .ok (.iconst 0, 1) := by decide +kernel
theorem dX13_isFlat_55 : decode cX13_isFlat 55 = .ok (.istore 5, 2) := by decide +kernel
theorem dX13_isFlat_57 : decode cX13_isFlat 57 = .ok (.iload 5, 2) := by decide +kernel
theorem dX13_isFlat_59 : decode cX13_isFlat 59 = .ok (.iload_n 3, 1) := by decide +kernel
theorem dX13_isFlat_60 : decode cX13_isFlat 60 = .ok (.if_icmp .ge 43, 3) := by decide +kernel
theorem dX13_isFlat_63 : decode cX13_isFlat 63 = .ok (.iload_n 2, 1) := by decide +kernel
theorem dX13_isFlat_64 : decode cX13_isFlat 64 = .ok (.ifCond .eq 39, 3) := by decide +kernel
theorem dX13_isFlat_67 : decode cX13_isFlat 67 = .ok (.aload_n 0, 1) := by decide +kernel
theorem dX13_isFlat_68 : decode cX13_isFlat 68 = .ok (.getfield 299, 3) := by decide +kernel
theorem dX13_isFlat_71 : decode cX13_isFlat 71 = .ok (.aload_n 0, 1) := by decide +kernel
theorem dX13_isFlat_72 : decode cX13_isFlat 72 = .ok (.getfield 314, 3) := by decide +kernel
theorem dX13_isFlat_75 : decode cX13_isFlat 75 = .ok (.aload_n 0, 1) := by decide +kernel
theorem dX13_isFlat_76 : decode cX13_isFlat 76 = .ok (.getfield 302, 3) := by decide +kernel
theorem dX13_isFlat_79 : decode cX13_isFlat 79 = .ok (.iload_n 1, 1) := by decide +kernel
theorem dX13_isFlat_80 : decode cX13_isFlat 80 = .ok (.iaload, 1) := by decide +kernel
theorem dX13_isFlat_81 : decode cX13_isFlat 81 = .ok (.iload 5, 2) := by decide +kernel
theorem dX13_isFlat_83 : decode cX13_isFlat 83 = .ok (.iadd, 1) := by decide +kernel
theorem dX13_isFlat_84 : decode cX13_isFlat 84 = .ok (.iaload, 1) := by decide +kernel
theorem dX13_isFlat_85 : decode cX13_isFlat 85 = .ok (.iaload, 1) := by decide +kernel
theorem dX13_isFlat_86 : decode cX13_isFlat 86 = .ok (.iload 4, 2) := by decide +kernel
theorem dX13_isFlat_88 : decode cX13_isFlat 88 = .ok (.if_icmp .eq 7, 3) := by decide +kernel
theorem dX13_isFlat_91 : decode cX13_isFlat 91 = .ok (.iconst 1, 1) := by decide +kernel
theorem dX13_isFlat_92 : decode cX13_isFlat 92 = .ok (.goto 4, 3) := by decide +kernel
theorem dX13_isFlat_95 : decode cX13_isFlat 95 = .ok (.iconst 0, 1) := by decide +kernel
theorem dX13_isFlat_96 : decode cX13_isFlat 96 = .ok (.istore_n 2, 1) := by decide +kernel
theorem dX13_isFlat_97 : decode cX13_isFlat 97 = .ok (.iinc 5 1, 3) := by decide +kernel
theorem dX13_isFlat_100 : decode cX13_isFlat 100 = .ok (.goto (-43), 3) := by decide +kernel
theorem dX13_isFlat_103 : decode cX13_isFlat 103 = .ok (.iinc 3 1, 3) := by decide +kernel
theorem dX13_isFlat_106 : decode cX13_isFlat 106 = .ok (.goto (-102), 3) := by decide +kernel
theorem dX13_isFlat_109 : decode cX13_isFlat 109 = .ok (.iload_n 2, 1) := by decide +kernel
theorem dX13_isFlat_110 : decode cX13_isFlat 110 = .ok (.ireturn, 1) := by decide +kernel
theorem dX13_isPlain_0 : decode cX13_isPlain 0 = .ok (.aload_n 0, 1) := by decide +kernel
theorem dX13_isPlain_1 : decode cX13_isPlain 1 = .ok (.iconst 0, 1) := by decide +kernel
theorem dX13_isPlain_2 : decode cX13_isPlain 2 = .ok (.putfield 785, 3) := by decide +kernel
theorem dX13_isPlain_5 : decode cX13_isPlain 5 = .ok (.aload_n 0, 1) := by decide +kernel
theorem dX13_isPlain_6 : decode cX13_isPlain 6 = .ok (.iload_n 1, 1) := by decide +kernel
theorem dX13_isPlain_7 : decode cX13_isPlain 7 = .ok (.invokevirtual 791, 3) := by decide +kernel
theorem dX13_isPlain_10 : decode cX13_isPlain 10 = .ok (.iconst 1, 1) := by decide +kernel
theorem dX13_isPlain_11 : decode cX13_isPlain 11 = .ok (.istore 4, 2) := by decide +kernel
theorem dX13_isPlain_13 : decode cX13_isPlain 13 = .ok (.aload_n 0, 1) := by decide +kernel
theorem dX13_isPlain_14 : decode cX13_isPlain 14 = .ok (.getfield 785, 3) := by decide +kernel
theorem dX13_isPlain_17 : decode cX13_isPlain 17 = .ok (.ifCond .le 114, 3) := by decide +kernel
theorem dX13_isPlain_20 : decode cX13_isPlain 20 = .ok (.iload 4, 2) := by decide +kernel
theorem dX13_isPlain_22 : decode cX13_isPlain 22 = .ok (.ifCond .eq 109, 3) := by decide +kernel
theorem dX13_isPlain_25 : decode cX13_isPlain 25 = .ok (.aload_n 0, 1) := by decide +kernel
theorem dX13_isPlain_26 : decode cX13_isPlain 26 = .ok (.dup, 1) := by decide +kernel
theorem dX13_isPlain_27 : decode cX13_isPlain 27 = .ok (.getfield 785, 3) := by decide +kernel
theorem dX13_isPlain_30 : decode cX13_isPlain 30 = .ok (.iconst 1, 1) := by decide +kernel
theorem dX13_isPlain_31 : decode cX13_isPlain 31 = .ok (.isub, 1) := by decide +kernel
theorem dX13_isPlain_32 : decode cX13_isPlain 32 = .ok (.putfield 785, 3) := by decide +kernel
theorem dX13_isPlain_35 : decode cX13_isPlain 35 = .ok (.aload_n 0, 1) := by decide +kernel
theorem dX13_isPlain_36 : decode cX13_isPlain 36 = .ok (.getfield 222, 3) := by decide +kernel
theorem dX13_isPlain_39 : decode cX13_isPlain 39 = .ok (.aload_n 0, 1) := by decide +kernel
theorem dX13_isPlain_40 : decode cX13_isPlain 40 = .ok (.getfield 785, 3) := by decide +kernel
theorem dX13_isPlain_43 : decode cX13_isPlain 43 = .ok (.iaload, 1) := by decide +kernel
theorem dX13_isPlain_44 : decode cX13_isPlain 44 = .ok (.istore 5, 2) := by decide +kernel
theorem dX13_isPlain_46 : decode cX13_isPlain 46 = .ok (.aload_n 0, 1) := by decide +kernel
theorem dX13_isPlain_47 : decode cX13_isPlain 47 = .ok (.getfield 299, 3) := by decide +kernel
theorem dX13_isPlain_50 : decode cX13_isPlain 50 = .ok (.iload 5, 2) := by decide +kernel
theorem dX13_isPlain_52 : decode cX13_isPlain 52 = .ok (.iaload, 1) := by decide +kernel
theorem dX13_isPlain_53 : decode cX13_isPlain 53 = .ok (.istore 6, 2) := by decide +kernel
theorem dX13_isPlain_55 : decode cX13_isPlain 55 = .ok (.iload 6, 2) := by decide +kernel
theorem dX13_isPlain_57 : decode cX13_isPlain 57 = .ok (.iload_n 2, 1) := by decide +kernel
theorem dX13_isPlain_58 : decode cX13_isPlain 58 = .ok (.if_icmp .eq 22, 3) := by decide +kernel
theorem dX13_isPlain_61 : decode cX13_isPlain 61 = .ok (.iload 6, 2) := by decide +kernel
theorem dX13_isPlain_63 : decode cX13_isPlain 63 = .ok (.ifCond .ge 13, 3) := by decide +kernel
theorem dX13_isPlain_66 : decode cX13_isPlain 66 = .ok (.aload_n 0, 1) := by decide +kernel
theorem dX13_isPlain_67 : decode cX13_isPlain 67 = .ok (.iload_n 3, 1) := by decide +kernel
theorem dX13_isPlain_68 : decode cX13_isPlain 68 = .ok (.iload 6, 2) := by decide +kernel
theorem dX13_isPlain_70 : decode cX13_isPlain 70 = .ok (.invokevirtual 918, 3) := by decide +kernel
theorem dX13_isPlain_73 : decode cX13_isPlain 73 = .ok (.ifCond .eq 7, 3) := by decide +kernel
theorem dX13_isPlain_76 : decode cX13_isPlain 76 = .ok (.iconst 1, 1) := by decide +kernel
theorem dX13_isPlain_77 : decode cX13_isPlain 77 = .ok (.goto 4, 3) := by decide +kernel
theorem dX13_isPlain_80 : decode cX13_isPlain 80 = .ok (.iconst 0, 1) := by decide +kernel
theorem dX13_isPlain_81 : decode cX13_isPlain 81 = .ok (.istore 4, 2) := by decide +kernel
theorem dX13_isPlain_83 : decode cX13_isPlain 83 = .ok (.iconst 0, 1) := by decide +kernel
theorem dX13_isPlain_84 : decode cX13_isPlain 84 = .ok (.istore 7, 2) := by decide +kernel
theorem dX13_isPlain_86 : decode cX13_isPlain 86 = .ok (.iload 6, 2) := by decide +kernel
theorem dX13_isPlain_88 : decode cX13_isPlain 88 = .ok (.ifCond .lt 40, 3) := by decide +kernel
theorem dX13_isPlain_91 : decode cX13_isPlain 91 = .ok (.iload 7, 2) := by decide +kernel
theorem dX13_isPlain_93 : decode cX13_isPlain 93 = .ok (.aload_n 0, 1) := by decide +kernel
theorem dX13_isPlain_94 : decode cX13_isPlain 94 = .ok (.getfield 69, 3) := by decide +kernel
theorem dX13_isPlain_97 : decode cX13_isPlain 97 = .ok (.iload 6, 2) := by decide +kernel
theorem dX13_isPlain_99 : decode cX13_isPlain 99 = .ok (.iaload, 1) := by decide +kernel
theorem dX13_isPlain_100 : decode cX13_isPlain 100 = .ok (.if_icmp .ge 28, 3) := by decide +kernel
theorem dX13_isPlain_103 : decode cX13_isPlain 103 = .ok (.aload_n 0, 1) := by decide +kernel
theorem dX13_isPlain_104 : decode cX13_isPlain 104 = .ok (.aload_n 0, 1) := by decide +kernel
theorem dX13_isPlain_105 : decode cX13_isPlain 105 = .ok (.getfield 314, 3) := by decide +kernel
theorem dX13_isPlain_108 : decode cX13_isPlain 108 = .ok (.aload_n 0, 1) := by decide +kernel
theorem dX13_isPlain_109 : decode cX13_isPlain 109 = .ok (.getfield 302, 3) := by decide +kernel
theorem dX13_isPlain_112 : decode cX13_isPlain 112 = .ok (.iload 5, 2) := by decide +kernel
theorem dX13_isPlain_114 : decode cX13_isPlain 114 = .ok (.iaload, 1) := by decide +kernel
theorem dX13_isPlain_115 : decode cX13_isPlain 115 = .ok (.iload 7, 2) := by decide +kernel
theorem dX13_isPlain_117 : decode cX13_isPlain 117 = .ok (.iadd, 1) := by decide +kernel
theorem dX13_isPlain_118 : decode cX13_isPlain 118 = .ok (.iaload, 1) := by decide +kernel
theorem dX13_isPlain_119 : decode cX13_isPlain 119 = .ok (.invokevirtual 791, 3) := by decide +kernel
theorem dX13_isPlain_122 : decode cX13_isPlain 122 = .ok (.iinc 7 1, 3) := by decide +kernel
theorem dX13_isPlain_125 : decode cX13_isPlain 125 = .ok (.goto (-39), 3) := by decide +kernel
theorem dX13_isPlain_128 : decode cX13_isPlain 128 = .ok (.goto (-115), 3) := by decide +kernel
theorem dX13_isPlain_131 : decode cX13_isPlain 131 = .ok (.iload 4, 2) := by decide +kernel
theorem dX13_isPlain_133 : decode cX13_isPlain 133 = .ok (.ireturn, 1) := by decide +kernel
theorem dX13_findDefinition_0 : decode cX13_findDefinition 0 = .ok (.aload_n 0, 1) := by decide +kernel
theorem dX13_findDefinition_1 : decode cX13_findDefinition 1 = .ok (.getfield 60, 3) := by decide +kernel
theorem dX13_findDefinition_4 : decode cX13_findDefinition 4 = .ok (.aload_n 0, 1) := by decide +kernel
theorem dX13_findDefinition_5 : decode cX13_findDefinition 5 = .ok (.getfield 54, 3) := by decide +kernel
theorem dX13_findDefinition_8 : decode cX13_findDefinition 8 = .ok (.iload_n 1, 1) := by decide +kernel
theorem dX13_findDefinition_9 : decode cX13_findDefinition 9 = .ok (.iaload, 1) := by decide +kernel
theorem dX13_findDefinition_10 : decode cX13_findDefinition 10 = .ok (.iaload, 1) := by decide +kernel
theorem dX13_findDefinition_11 : decode cX13_findDefinition 11 = .ok (.aload_n 0, 1) := by decide +kernel
theorem dX13_findDefinition_12 : decode cX13_findDefinition 12 = .ok (.getfield 373, 3) := by decide +kernel
theorem dX13_findDefinition_15 : decode cX13_findDefinition 15 = .ok (.if_icmp .eq 5, 3) := by decide +kernel
theorem dX13_findDefinition_18 : decode cX13_findDefinition 18 = .ok (.iconst (-1), 1) := by decide +kernel
theorem dX13_findDefinition_19 : decode cX13_findDefinition 19 = .ok (.ireturn, 1) := by decide +kernel
theorem dX13_findDefinition_20 : decode cX13_findDefinition 20 = .ok (.aload_n 0, 1) := by decide +kernel
theorem dX13_findDefinition_21 : decode cX13_findDefinition 21 = .ok (.getfield 66, 3) := by decide +kernel
theorem dX13_findDefinition_24 : decode cX13_findDefinition 24 = .ok (.iload_n 1, 1) := by decide +kernel
theorem dX13_findDefinition_25 : decode cX13_findDefinition 25 = .ok (.iaload, 1) := by decide +kernel
theorem dX13_findDefinition_26 : decode cX13_findDefinition 26 = .ok (.istore_n 2, 1) := by decide +kernel
theorem dX13_findDefinition_27 : decode cX13_findDefinition 27 = .ok (.iload_n 2, 1) := by decide +kernel
theorem dX13_findDefinition_28 : decode cX13_findDefinition 28 = .ok (.aload_n 0, 1) := by decide +kernel
theorem dX13_findDefinition_29 : decode cX13_findDefinition 29 = .ok (.getfield 66, 3) := by decide +kernel
theorem dX13_findDefinition_32 : decode cX13_findDefinition 32 = .ok (.iload_n 1, 1) := by decide +kernel
theorem dX13_findDefinition_33 : decode cX13_findDefinition 33 = .ok (.iaload, 1) := by decide +kernel
theorem dX13_findDefinition_34 : decode cX13_findDefinition 34 = .ok (.aload_n 0, 1) := by decide +kernel
theorem dX13_findDefinition_35 : decode cX13_findDefinition 35 = .ok (.getfield 69, 3) := by decide +kernel
theorem dX13_findDefinition_38 : decode cX13_findDefinition 38 = .ok (.iload_n 1, 1) := by decide +kernel
theorem dX13_findDefinition_39 : decode cX13_findDefinition 39 = .ok (.iaload, 1) := by decide +kernel
theorem dX13_findDefinition_40 : decode cX13_findDefinition 40 = .ok (.iadd, 1) := by decide +kernel
theorem dX13_findDefinition_41 : decode cX13_findDefinition 41 = .ok (.if_icmp .ge 26, 3) := by decide +kernel
theorem dX13_findDefinition_44 : decode cX13_findDefinition 44 = .ok (.aload_n 0, 1) := by decide +kernel
theorem dX13_findDefinition_45 : decode cX13_findDefinition 45 = .ok (.getfield 51, 3) := by decide +kernel
theorem dX13_findDefinition_48 : decode cX13_findDefinition 48 = .ok (.aload_n 0, 1) := by decide +kernel
theorem dX13_findDefinition_49 : decode cX13_findDefinition 49 = .ok (.getfield 73, 3) := by decide +kernel
theorem dX13_findDefinition_52 : decode cX13_findDefinition 52 = .ok (.iload_n 2, 1) := by decide +kernel
theorem dX13_findDefinition_53 : decode cX13_findDefinition 53 = .ok (.iaload, 1) := by decide +kernel
theorem dX13_findDefinition_54 : decode cX13_findDefinition 54 = .ok (.iaload, 1) := by decide +kernel
theorem dX13_findDefinition_55 : decode cX13_findDefinition 55 = .ok (.iconst 1, 1) := by decide +kernel
theorem dX13_findDefinition_56 : decode cX13_findDefinition 56 = .ok (.if_icmp .ne 5, 3) := by decide +kernel
theorem dX13_findDefinition_59 : decode cX13_findDefinition 59 = .ok (.iconst (-1), 1) := by decide +kernel
theorem dX13_findDefinition_60 : decode cX13_findDefinition 60 = .ok (.ireturn, 1) := by decide +kernel
theorem dX13_findDefinition_61 : decode cX13_findDefinition 61 = .ok (.iinc 2 1, 3) := by decide +kernel
theorem dX13_findDefinition_64 : decode cX13_findDefinition 64 = .ok (.goto (-37), 3) := by decide +kernel
theorem dX13_findDefinition_67 : decode cX13_findDefinition 67 = .ok (.aload_n 0, 1) := by decide +kernel
theorem dX13_findDefinition_68 : decode cX13_findDefinition 68 = .ok (.iload_n 1, 1) := by decide +kernel
theorem dX13_findDefinition_69 : decode cX13_findDefinition 69 = .ok (.invokevirtual 912, 3) := by decide +kernel
theorem dX13_findDefinition_72 : decode cX13_findDefinition 72 = .ok (.iconst 1, 1) := by decide +kernel
theorem dX13_findDefinition_73 : decode cX13_findDefinition 73 = .ok (.if_icmp .eq 5, 3) := by decide +kernel
theorem dX13_findDefinition_76 : decode cX13_findDefinition 76 = .ok (.iconst (-1), 1) := by decide +kernel
theorem dX13_findDefinition_77 : decode cX13_findDefinition 77 = .ok (.ireturn, 1) := by decide +kernel
theorem dX13_findDefinition_78 : decode cX13_findDefinition 78 = .ok (.aload_n 0, 1) := by decide +kernel
theorem dX13_findDefinition_79 : decode cX13_findDefinition 79 = .ok (.getfield 876, 3) := by decide +kernel
theorem dX13_findDefinition_82 : decode cX13_findDefinition 82 = .ok (.istore_n 2, 1) := by decide +kernel
theorem dX13_findDefinition_83 : decode cX13_findDefinition 83 = .ok (.aload_n 0, 1) := by decide +kernel
theorem dX13_findDefinition_84 : decode cX13_findDefinition 84 = .ok (.getfield 879, 3) := by decide +kernel
theorem dX13_findDefinition_87 : decode cX13_findDefinition 87 = .ok (.istore_n 3, 1) := by decide +kernel
theorem dX13_findDefinition_88 : decode cX13_findDefinition 88 = .ok (.aload_n 0, 1) := by decide +kernel
theorem dX13_findDefinition_89 : decode cX13_findDefinition 89 = .ok (.iload_n 1, 1) := by decide +kernel
theorem dX13_findDefinition_90 : decode cX13_findDefinition 90 = .ok (.invokevirtual 909, 3) := by decide +kernel
theorem dX13_findDefinition_93 : decode cX13_findDefinition 93 = .ok (.istore 4, 2) := by decide +kernel
theorem dX13_findDefinition_95 : decode cX13_findDefinition 95 = .ok (.iconst (-1), 1) := by decide +kernel
theorem dX13_findDefinition_96 : decode cX13_findDefinition 96 = .ok (.istore 5, 2) := by decide +kernel
theorem dX13_findDefinition_98 : decode cX13_findDefinition 98 = .ok (.aload_n 0, 1) := by decide +kernel
theorem dX13_findDefinition_99 : decode cX13_findDefinition 99 = .ok (.getfield 299, 3) := by decide +kernel
theorem dX13_findDefinition_102 : decode cX13_findDefinition 102 = .ok (.iload 4, 2) := by decide +kernel
theorem dX13_findDefinition_104 : decode cX13_findDefinition 104 = .ok (.iaload, 1) := by decide +kernel
theorem dX13_findDefinition_105 : decode cX13_findDefinition 105 = .ok (.istore 6, 2) := by decide +kernel
theorem dX13_findDefinition_107 : decode cX13_findDefinition 107 = .ok (.iload 6, 2) := by decide +kernel
theorem dX13_findDefinition_109 : decode cX13_findDefinition 109 = .ok (.ifCond .lt 107, 3) := by decide +kernel
theorem dX13_findDefinition_112 : decode cX13_findDefinition 112 = .ok (.aload_n 0, 1) := by decide +kernel
theorem dX13_findDefinition_113 : decode cX13_findDefinition 113 = .ok (.getfield 332, 3) := by decide +kernel
theorem dX13_findDefinition_116 : decode cX13_findDefinition 116 = .ok (.iload 6, 2) := by decide +kernel
theorem dX13_findDefinition_118 : decode cX13_findDefinition 118 = .ok (.baload, 1) := by decide +kernel
theorem dX13_findDefinition_119 : decode cX13_findDefinition 119 = .ok (.ifCond .eq 97, 3) := by decide +kernel
theorem dX13_findDefinition_122 : decode cX13_findDefinition 122 = .ok (.aload_n 0, 1) := by decide +kernel
theorem dX13_findDefinition_123 : decode cX13_findDefinition 123 = .ok (.iload 6, 2) := by decide +kernel
theorem dX13_findDefinition_125 : decode cX13_findDefinition 125 = .ok (.invokevirtual 921, 3) := by decide +kernel
theorem dX13_findDefinition_128 : decode cX13_findDefinition 128 = .ok (.istore 7, 2) := by decide +kernel
theorem dX13_findDefinition_130 : decode cX13_findDefinition 130 = .ok (.aload_n 0, 1) := by decide +kernel
theorem dX13_findDefinition_131 : decode cX13_findDefinition 131 = .ok (.getfield 314, 3) := by decide +kernel
theorem dX13_findDefinition_134 : decode cX13_findDefinition 134 = .ok (.aload_n 0, 1) := by decide +kernel
theorem dX13_findDefinition_135 : decode cX13_findDefinition 135 = .ok (.getfield 302, 3) := by decide +kernel
theorem dX13_findDefinition_138 : decode cX13_findDefinition 138 = .ok (.iload 4, 2) := by decide +kernel
theorem dX13_findDefinition_140 : decode cX13_findDefinition 140 = .ok (.iaload, 1) := by decide +kernel
theorem dX13_findDefinition_141 : decode cX13_findDefinition 141 = .ok (.iload 7, 2) := by decide +kernel
theorem dX13_findDefinition_143 : decode cX13_findDefinition 143 = .ok (.iadd, 1) := by decide +kernel
theorem dX13_findDefinition_144 : decode cX13_findDefinition 144 = .ok (.iaload, 1) := by decide +kernel
theorem dX13_findDefinition_145 : decode cX13_findDefinition 145 = .ok (.istore 8, 2) := by decide +kernel
theorem dX13_findDefinition_147 : decode cX13_findDefinition 147 = .ok (.aload_n 0, 1) := by decide +kernel
theorem dX13_findDefinition_148 : decode cX13_findDefinition 148 = .ok (.getfield 314, 3) := by decide +kernel
theorem dX13_findDefinition_151 : decode cX13_findDefinition 151 = .ok (.aload_n 0, 1) := by decide +kernel
theorem dX13_findDefinition_152 : decode cX13_findDefinition 152 = .ok (.getfield 302, 3) := by decide +kernel
theorem dX13_findDefinition_155 : decode cX13_findDefinition 155 = .ok (.iload 4, 2) := by decide +kernel
theorem dX13_findDefinition_157 : decode cX13_findDefinition 157 = .ok (.iaload, 1) := by decide +kernel
theorem dX13_findDefinition_158 : decode cX13_findDefinition 158 = .ok (.iconst 1, 1) := by decide +kernel
theorem dX13_findDefinition_159 : decode cX13_findDefinition 159 = .ok (.iadd, 1) := by decide +kernel
theorem dX13_findDefinition_160 : decode cX13_findDefinition 160 = .ok (.iload 7, 2) := by decide +kernel
theorem dX13_findDefinition_162 : decode cX13_findDefinition 162 = .ok (.isub, 1) := by decide +kernel
theorem dX13_findDefinition_163 : decode cX13_findDefinition 163 = .ok (.iaload, 1) := by decide +kernel
theorem dX13_findDefinition_164 : decode cX13_findDefinition 164 = .ok (.istore 9, 2) := by decide +kernel
theorem dX13_findDefinition_166 : decode cX13_findDefinition 166 = .ok (.aload_n 0, 1) := by decide +kernel
theorem dX13_findDefinition_167 : decode cX13_findDefinition 167 = .ok (.getfield 299, 3) := by decide +kernel
theorem dX13_findDefinition_170 : decode cX13_findDefinition 170 = .ok (.iload 8, 2) := by decide +kernel
theorem dX13_findDefinition_172 : decode cX13_findDefinition 172 = .ok (.iaload, 1) := by decide +kernel
theorem dX13_findDefinition_173 : decode cX13_findDefinition 173 = .ok (.istore 10, 2) := by decide +kernel
theorem dX13_findDefinition_175 : decode cX13_findDefinition 175 = .ok (.iload 10, 2) := by decide +kernel
theorem dX13_findDefinition_177 : decode cX13_findDefinition 177 = .ok (.ifCond .lt 39, 3) := by decide +kernel
theorem dX13_findDefinition_180 : decode cX13_findDefinition 180 = .ok (.aload_n 0, 1) := by decide +kernel
theorem dX13_findDefinition_181 : decode cX13_findDefinition 181 = .ok (.getfield 332, 3) := by decide +kernel
theorem dX13_findDefinition_184 : decode cX13_findDefinition 184 = .ok (.iload 10, 2) := by decide +kernel
theorem dX13_findDefinition_186 : decode cX13_findDefinition 186 = .ok (.baload, 1) := by decide +kernel
theorem dX13_findDefinition_187 : decode cX13_findDefinition 187 = .ok (.ifCond .ne 29, 3) := by decide +kernel
theorem dX13_findDefinition_190 : decode cX13_findDefinition 190 = .ok (.aload_n 0, 1) := by decide +kernel
theorem dX13_findDefinition_191 : decode cX13_findDefinition 191 = .ok (.iload 8, 2) := by decide +kernel
theorem dX13_findDefinition_193 : decode cX13_findDefinition 193 = .ok (.invokevirtual 924, 3) := by decide +kernel
theorem dX13_findDefinition_196 : decode cX13_findDefinition 196 = .ok (.ifCond .eq 20, 3) := by decide +kernel
theorem dX13_findDefinition_199 : decode cX13_findDefinition 199 = .ok (.aload_n 0, 1) := by decide +kernel
theorem dX13_findDefinition_200 : decode cX13_findDefinition 200 = .ok (.iload 9, 2) := by decide +kernel
theorem dX13_findDefinition_202 : decode cX13_findDefinition 202 = .ok (.iload 10, 2) := by decide +kernel
theorem dX13_findDefinition_204 : decode cX13_findDefinition 204 = .ok (.iload 8, 2) := by decide +kernel
theorem dX13_findDefinition_206 : decode cX13_findDefinition 206 = .ok (.invokevirtual 927, 3) := by decide +kernel
theorem dX13_findDefinition_209 : decode cX13_findDefinition 209 = .ok (.ifCond .eq 7, 3) := by decide +kernel
theorem dX13_findDefinition_212 : decode cX13_findDefinition 212 = .ok (.iload 10, 2) := by decide +kernel
theorem dX13_findDefinition_214 : decode cX13_findDefinition 214 = .ok (.istore 5, 2) := by decide +kernel
theorem dX13_findDefinition_216 : decode cX13_findDefinition 216 = .ok (.aload_n 0, 1) := by decide +kernel
theorem dX13_findDefinition_217 : decode cX13_findDefinition 217 = .ok (.iload_n 2, 1) := by decide +kernel
theorem dX13_findDefinition_218 : decode cX13_findDefinition 218 = .ok (.putfield 876, 3) := by decide +kernel
theorem dX13_findDefinition_221 : decode cX13_findDefinition 221 = .ok (.aload_n 0, 1) := by decide +kernel
theorem dX13_findDefinition_222 : decode cX13_findDefinition 222 = .ok (.iload_n 3, 1) := by decide +kernel
theorem dX13_findDefinition_223 : decode cX13_findDefinition 223 = .ok (.putfield 879, 3) := by decide +kernel
theorem dX13_findDefinition_226 : decode cX13_findDefinition 226 = .ok (.iload 5, 2) := by decide +kernel
theorem dX13_findDefinition_228 : decode cX13_findDefinition 228 = .ok (.iconst (-1), 1) := by decide +kernel
theorem dX13_findDefinition_229 : decode cX13_findDefinition 229 = .ok (.if_icmp .eq 13, 3) := by decide +kernel
theorem dX13_findDefinition_232 : decode cX13_findDefinition 232 = .ok (.aload_n 0, 1) := by decide +kernel
theorem dX13_findDefinition_233 : decode cX13_findDefinition 233 = .ok (.iload_n 1, 1) := by decide +kernel
theorem dX13_findDefinition_234 : decode cX13_findDefinition 234 = .ok (.iload 5, 2) := by decide +kernel
theorem dX13_findDefinition_236 : decode cX13_findDefinition 236 = .ok (.invokevirtual 931, 3) := by decide +kernel
theorem dX13_findDefinition_239 : decode cX13_findDefinition 239 = .ok (.ifCond .eq 7, 3) := by decide +kernel
theorem dX13_findDefinition_242 : decode cX13_findDefinition 242 = .ok (.iconst (-1), 1) := by decide +kernel
theorem dX13_findDefinition_243 : decode cX13_findDefinition 243 = .ok (.goto 5, 3) := by decide +kernel
theorem dX13_findDefinition_246 : decode cX13_findDefinition 246 = .ok (.iload 5, 2) := by decide +kernel
theorem dX13_findDefinition_248 : decode cX13_findDefinition 248 = .ok (.ireturn, 1) := by decide +kernel
theorem dX13_definitionOf_0 : decode cX13_definitionOf 0 = .ok (.aload_n 0, 1) := by decide +kernel
theorem dX13_definitionOf_1 : decode cX13_definitionOf 1 = .ok (.getfield 329, 3) := by decide +kernel
theorem dX13_definitionOf_4 : decode cX13_definitionOf 4 = .ok (.iload_n 1, 1) := by decide +kernel
theorem dX13_definitionOf_5 : decode cX13_definitionOf 5 = .ok (.iaload, 1) := by decide +kernel
theorem dX13_definitionOf_6 : decode cX13_definitionOf 6 = .ok (.bipush (-9), 2) := by decide +kernel
theorem dX13_definitionOf_8 : decode cX13_definitionOf 8 = .ok (.if_icmp .ne 14, 3) := by decide +kernel
theorem dX13_definitionOf_11 : decode cX13_definitionOf 11 = .ok (.aload_n 0, 1) := by decide +kernel
theorem dX13_definitionOf_12 : decode cX13_definitionOf 12 = .ok (.getfield 329, 3) := by decide +kernel
theorem dX13_definitionOf_15 : decode cX13_definitionOf 15 = .ok (.iload_n 1, 1) := by decide +kernel
theorem dX13_definitionOf_16 : decode cX13_definitionOf 16 = .ok (.aload_n 0, 1) := by decide +kernel
theorem dX13_definitionOf_17 : decode cX13_definitionOf 17 = .ok (.iload_n 1, 1) := by decide +kernel
theorem dX13_definitionOf_18 : decode cX13_definitionOf 18 = .ok (.invokevirtual 934, 3) := by decide +kernel
theorem dX13_definitionOf_21 : decode cX13_definitionOf 21 = .ok (.iastore, 1) := by decide +kernel
theorem dX13_definitionOf_22 : decode cX13_definitionOf 22 = .ok (.aload_n 0, 1) := by decide +kernel
theorem dX13_definitionOf_23 : decode cX13_definitionOf 23 = .ok (.getfield 329, 3) := by decide +kernel
theorem dX13_definitionOf_26 : decode cX13_definitionOf 26 = .ok (.iload_n 1, 1) := by decide +kernel
theorem dX13_definitionOf_27 : decode cX13_definitionOf 27 = .ok (.iaload, 1) := by decide +kernel
theorem dX13_definitionOf_28 : decode cX13_definitionOf 28 = .ok (.ireturn, 1) := by decide +kernel
theorem dX13_definition_0 : decode cX13_definition 0 = .ok (.aload_n 0, 1) := by decide +kernel
theorem dX13_definition_1 : decode cX13_definition 1 = .ok (.iload_n 1, 1) := by decide +kernel
theorem dX13_definition_2 : decode cX13_definition 2 = .ok (.invokevirtual 709, 3) := by decide +kernel
theorem dX13_definition_5 : decode cX13_definition 5 = .ok (.ifCond .eq 13, 3) := by decide +kernel
theorem dX13_definition_8 : decode cX13_definition 8 = .ok (.aload_n 0, 1) := by decide +kernel
theorem dX13_definition_9 : decode cX13_definition 9 = .ok (.getfield 51, 3) := by decide +kernel
theorem dX13_definition_12 : decode cX13_definition 12 = .ok (.iload_n 1, 1) := by decide +kernel
theorem dX13_definition_13 : decode cX13_definition 13 = .ok (.iaload, 1) := by decide +kernel
theorem dX13_definition_14 : decode cX13_definition 14 = .ok (.iconst 2, 1) := by decide +kernel
theorem dX13_definition_15 : decode cX13_definition 15 = .ok (.if_icmp .eq 5, 3) := by decide +kernel
theorem dX13_definition_18 : decode cX13_definition 18 = .ok (.iconst (-1), 1) := by decide +kernel
theorem dX13_definition_19 : decode cX13_definition 19 = .ok (.ireturn, 1) := by decide +kernel
theorem dX13_definition_20 : decode cX13_definition 20 = .ok (.aload_n 0, 1) := by decide +kernel
theorem dX13_definition_21 : decode cX13_definition 21 = .ok (.getfield 57, 3) := by decide +kernel
theorem dX13_definition_24 : decode cX13_definition 24 = .ok (.iload_n 1, 1) := by decide +kernel
theorem dX13_definition_25 : decode cX13_definition 25 = .ok (.iaload, 1) := by decide +kernel
theorem dX13_definition_26 : decode cX13_definition 26 = .ok (.bipush 60, 2) := by decide +kernel
theorem dX13_definition_28 : decode cX13_definition 28 = .ok (.if_icmp .le 8, 3) := by decide +kernel
theorem dX13_definition_31 : decode cX13_definition 31 = .ok (.bipush (-2), 2) := by decide +kernel
theorem dX13_definition_33 : decode cX13_definition 33 = .ok (.goto 8, 3) := by decide +kernel
theorem dX13_definition_36 : decode cX13_definition 36 = .ok (.aload_n 0, 1) := by decide +kernel
theorem dX13_definition_37 : decode cX13_definition 37 = .ok (.iload_n 1, 1) := by decide +kernel
theorem dX13_definition_38 : decode cX13_definition 38 = .ok (.invokevirtual 937, 3) := by decide +kernel
theorem dX13_definition_41 : decode cX13_definition 41 = .ok (.ireturn, 1) := by decide +kernel
theorem dX13_ruleOf_0 : decode cX13_ruleOf 0 = .ok (.aload_n 0, 1) := by decide +kernel
theorem dX13_ruleOf_1 : decode cX13_ruleOf 1 = .ok (.getfield 51, 3) := by decide +kernel
theorem dX13_ruleOf_4 : decode cX13_ruleOf 4 = .ok (.iload_n 1, 1) := by decide +kernel
theorem dX13_ruleOf_5 : decode cX13_ruleOf 5 = .ok (.iaload, 1) := by decide +kernel
theorem dX13_ruleOf_6 : decode cX13_ruleOf 6 = .ok (.iconst 2, 1) := by decide +kernel
theorem dX13_ruleOf_7 : decode cX13_ruleOf 7 = .ok (.if_icmp .ne 22, 3) := by decide +kernel
theorem dX13_ruleOf_10 : decode cX13_ruleOf 10 = .ok (.aload_n 0, 1) := by decide +kernel
theorem dX13_ruleOf_11 : decode cX13_ruleOf 11 = .ok (.getfield 57, 3) := by decide +kernel
theorem dX13_ruleOf_14 : decode cX13_ruleOf 14 = .ok (.iload_n 1, 1) := by decide +kernel
theorem dX13_ruleOf_15 : decode cX13_ruleOf 15 = .ok (.iaload, 1) := by decide +kernel
theorem dX13_ruleOf_16 : decode cX13_ruleOf 16 = .ok (.bipush 60, 2) := by decide +kernel
theorem dX13_ruleOf_18 : decode cX13_ruleOf 18 = .ok (.if_icmp .gt 11, 3) := by decide +kernel
theorem dX13_ruleOf_21 : decode cX13_ruleOf 21 = .ok (.aload_n 0, 1) := by decide +kernel
theorem dX13_ruleOf_22 : decode cX13_ruleOf 22 = .ok (.iload_n 1, 1) := by decide +kernel
theorem dX13_ruleOf_23 : decode cX13_ruleOf 23 = .ok (.invokevirtual 937, 3) := by decide +kernel
theorem dX13_ruleOf_26 : decode cX13_ruleOf 26 = .ok (.goto 4, 3) := by decide +kernel
theorem dX13_ruleOf_29 : decode cX13_ruleOf 29 = .ok (.iconst (-1), 1) := by decide +kernel
theorem dX13_ruleOf_30 : decode cX13_ruleOf 30 = .ok (.ireturn, 1) := by decide +kernel
theorem dX13_needRules_0 : decode cX13_needRules 0 = .ok (.aload_n 0, 1) := by decide +kernel
theorem dX13_needRules_1 : decode cX13_needRules 1 = .ok (.iload_n 1, 1) := by decide +kernel
theorem dX13_needRules_2 : decode cX13_needRules 2 = .ok (.invokevirtual 912, 3) := by decide +kernel
theorem dX13_needRules_5 : decode cX13_needRules 5 = .ok (.pop, 1) := by decide +kernel
theorem dX13_needRules_6 : decode cX13_needRules 6 = .ok (.iconst 0, 1) := by decide +kernel
theorem dX13_needRules_7 : decode cX13_needRules 7 = .ok (.istore_n 3, 1) := by decide +kernel
theorem dX13_needRules_8 : decode cX13_needRules 8 = .ok (.iload_n 3, 1) := by decide +kernel
theorem dX13_needRules_9 : decode cX13_needRules 9 = .ok (.aload_n 0, 1) := by decide +kernel
theorem dX13_needRules_10 : decode cX13_needRules 10 = .ok (.getfield 512, 3) := by decide +kernel
theorem dX13_needRules_13 : decode cX13_needRules 13 = .ok (.if_icmp .ge 60, 3) := by decide +kernel
theorem dX13_needRules_16 : decode cX13_needRules 16 = .ok (.aload_n 0, 1) := by decide +kernel
theorem dX13_needRules_17 : decode cX13_needRules 17 = .ok (.getfield 338, 3) := by decide +kernel
theorem dX13_needRules_20 : decode cX13_needRules 20 = .ok (.iload_n 3, 1) := by decide +kernel
theorem dX13_needRules_21 : decode cX13_needRules 21 = .ok (.aload_n 0, 1) := by decide +kernel
theorem dX13_needRules_22 : decode cX13_needRules 22 = .ok (.getfield 338, 3) := by decide +kernel
theorem dX13_needRules_25 : decode cX13_needRules 25 = .ok (.iload_n 3, 1) := by decide +kernel
theorem dX13_needRules_26 : decode cX13_needRules 26 = .ok (.baload, 1) := by decide +kernel
theorem dX13_needRules_27 : decode cX13_needRules 27 = .ok (.ifCond .ne 34, 3) := by decide +kernel
theorem dX13_needRules_30 : decode cX13_needRules 30 = .ok (.iload_n 3, 1) := by decide +kernel
theorem dX13_needRules_31 : decode cX13_needRules 31 = .ok (.iload_n 2, 1) := by decide +kernel
theorem dX13_needRules_32 : decode cX13_needRules 32 = .ok (.if_icmp .eq 33, 3) := by decide +kernel
theorem dX13_needRules_35 : decode cX13_needRules 35 = .ok (.aload_n 0, 1) := by decide +kernel
theorem dX13_needRules_36 : decode cX13_needRules 36 = .ok (.getfield 326, 3) := by decide +kernel
theorem dX13_needRules_39 : decode cX13_needRules 39 = .ok (.bipush 24, 2) := by decide +kernel
theorem dX13_needRules_41 : decode cX13_needRules 41 = .ok (.iload_n 1, 1) := by decide +kernel
theorem dX13_needRules_42 : decode cX13_needRules 42 = .ok (.imul, 1) := by decide +kernel
theorem dX13_needRules_43 : decode cX13_needRules 43 = .ok (.iload_n 3, 1) := by decide +kernel
theorem dX13_needRules_44 : decode cX13_needRules 44 = .ok (.bipush 64, 2) := by decide +kernel
theorem dX13_needRules_46 : decode cX13_needRules 46 = .ok (.idiv, 1) := by decide +kernel
theorem dX13_needRules_47 : decode cX13_needRules 47 = .ok (.iadd, 1) := by decide +kernel
theorem dX13_needRules_48 : decode cX13_needRules 48 = .ok (.laload, 1) := by decide +kernel
theorem dX13_needRules_49 : decode cX13_needRules 49 = .ok (.iload_n 3, 1) := by decide +kernel
theorem dX13_needRules_50 : decode cX13_needRules 50 = .ok (.bipush 64, 2) := by decide +kernel
theorem dX13_needRules_52 : decode cX13_needRules 52 = .ok (.irem, 1) := by decide +kernel
theorem dX13_needRules_53 : decode cX13_needRules 53 = .ok (.lshr, 1) := by decide +kernel
theorem dX13_needRules_54 : decode cX13_needRules 54 = .ok (.lconst 1, 1) := by decide +kernel
theorem dX13_needRules_55 : decode cX13_needRules 55 = .ok (.land, 1) := by decide +kernel
theorem dX13_needRules_56 : decode cX13_needRules 56 = .ok (.lconst 1, 1) := by decide +kernel
theorem dX13_needRules_57 : decode cX13_needRules 57 = .ok (.lcmp, 1) := by decide +kernel
theorem dX13_needRules_58 : decode cX13_needRules 58 = .ok (.ifCond .ne 7, 3) := by decide +kernel
theorem dX13_needRules_61 : decode cX13_needRules 61 = .ok (.iconst 1, 1) := by decide +kernel
theorem dX13_needRules_62 : decode cX13_needRules 62 = .ok (.goto 4, 3) := by decide +kernel
theorem dX13_needRules_65 : decode cX13_needRules 65 = .ok (.iconst 0, 1) := by decide +kernel
theorem dX13_needRules_66 : decode cX13_needRules 66 = .ok (.bastore, 1) := by decide +kernel
theorem dX13_needRules_67 : decode cX13_needRules 67 = .ok (.iinc 3 1, 3) := by decide +kernel
theorem dX13_needRules_70 : decode cX13_needRules 70 = .ok (.goto (-62), 3) := by decide +kernel
theorem dX13_needRules_73 : decode cX13_needRules 73 = .ok (.return_, 1) := by decide +kernel
theorem dX13_findDefiners_0 : decode cX13_findDefiners 0 = .ok (.iconst 0, 1) := by decide +kernel
theorem dX13_findDefiners_1 : decode cX13_findDefiners 1 = .ok (.istore_n 2, 1) := by decide +kernel
theorem dX13_findDefiners_2 : decode cX13_findDefiners 2 = .ok (.iload_n 2, 1) := by decide +kernel
theorem dX13_findDefiners_3 : decode cX13_findDefiners 3 = .ok (.aload_n 0, 1) := by decide +kernel
theorem dX13_findDefiners_4 : decode cX13_findDefiners 4 = .ok (.getfield 512, 3) := by decide +kernel
theorem dX13_findDefiners_7 : decode cX13_findDefiners 7 = .ok (.if_icmp .ge 23, 3) := by decide +kernel
theorem dX13_findDefiners_10 : decode cX13_findDefiners 10 = .ok (.aload_n 0, 1) := by decide +kernel
theorem dX13_findDefiners_11 : decode cX13_findDefiners 11 = .ok (.getfield 335, 3) := by decide +kernel
theorem dX13_findDefiners_14 : decode cX13_findDefiners 14 = .ok (.iload_n 2, 1) := by decide +kernel
theorem dX13_findDefiners_15 : decode cX13_findDefiners 15 = .ok (.iconst (-1), 1) := by decide +kernel
theorem dX13_findDefiners_16 : decode cX13_findDefiners 16 = .ok (.iastore, 1) := by decide +kernel
theorem dX13_findDefiners_17 : decode cX13_findDefiners 17 = .ok (.aload_n 0, 1) := by decide +kernel
theorem dX13_findDefiners_18 : decode cX13_findDefiners 18 = .ok (.getfield 338, 3) := by decide +kernel
theorem dX13_findDefiners_21 : decode cX13_findDefiners 21 = .ok (.iload_n 2, 1) := by decide +kernel
theorem dX13_findDefiners_22 : decode cX13_findDefiners 22 = .ok (.iconst 0, 1) := by decide +kernel
theorem dX13_findDefiners_23 : decode cX13_findDefiners 23 = .ok (.bastore, 1) := by decide +kernel
theorem dX13_findDefiners_24 : decode cX13_findDefiners 24 = .ok (.iinc 2 1, 3) := by decide +kernel
theorem dX13_findDefiners_27 : decode cX13_findDefiners 27 = .ok (.goto (-25), 3) := by decide +kernel
theorem dX13_findDefiners_30 : decode cX13_findDefiners 30 = .ok (.iconst 0, 1) := by decide +kernel
theorem dX13_findDefiners_31 : decode cX13_findDefiners 31 = .ok (.istore_n 2, 1) := by decide +kernel
theorem dX13_findDefiners_32 : decode cX13_findDefiners 32 = .ok (.iload_n 2, 1) := by decide +kernel
theorem dX13_findDefiners_33 : decode cX13_findDefiners 33 = .ok (.iload_n 1, 1) := by decide +kernel
theorem dX13_findDefiners_34 : decode cX13_findDefiners 34 = .ok (.if_icmp .ge 37, 3) := by decide +kernel
theorem dX13_findDefiners_37 : decode cX13_findDefiners 37 = .ok (.aload_n 0, 1) := by decide +kernel
theorem dX13_findDefiners_38 : decode cX13_findDefiners 38 = .ok (.iload_n 2, 1) := by decide +kernel
theorem dX13_findDefiners_39 : decode cX13_findDefiners 39 = .ok (.invokevirtual 940, 3) := by decide +kernel
theorem dX13_findDefiners_42 : decode cX13_findDefiners 42 = .ok (.istore_n 3, 1) := by decide +kernel
theorem dX13_findDefiners_43 : decode cX13_findDefiners 43 = .ok (.iload_n 3, 1) := by decide +kernel
theorem dX13_findDefiners_44 : decode cX13_findDefiners 44 = .ok (.iconst (-1), 1) := by decide +kernel
theorem dX13_findDefiners_45 : decode cX13_findDefiners 45 = .ok (.if_icmp .eq 20, 3) := by decide +kernel
theorem dX13_findDefiners_48 : decode cX13_findDefiners 48 = .ok (.aload_n 0, 1) := by decide +kernel
theorem dX13_findDefiners_49 : decode cX13_findDefiners 49 = .ok (.getfield 335, 3) := by decide +kernel
theorem dX13_findDefiners_52 : decode cX13_findDefiners 52 = .ok (.iload_n 3, 1) := by decide +kernel
theorem dX13_findDefiners_53 : decode cX13_findDefiners 53 = .ok (.iaload, 1) := by decide +kernel
theorem dX13_findDefiners_54 : decode cX13_findDefiners 54 = .ok (.iconst (-1), 1) := by decide +kernel
theorem dX13_findDefiners_55 : decode cX13_findDefiners 55 = .ok (.if_icmp .ne 10, 3) := by decide +kernel
theorem dX13_findDefiners_58 : decode cX13_findDefiners 58 = .ok (.aload_n 0, 1) := by decide +kernel
theorem dX13_findDefiners_59 : decode cX13_findDefiners 59 = .ok (.getfield 335, 3) := by decide +kernel
theorem dX13_findDefiners_62 : decode cX13_findDefiners 62 = .ok (.iload_n 3, 1) := by decide +kernel
theorem dX13_findDefiners_63 : decode cX13_findDefiners 63 = .ok (.iload_n 2, 1) := by decide +kernel
theorem dX13_findDefiners_64 : decode cX13_findDefiners 64 = .ok (.iastore, 1) := by decide +kernel
theorem dX13_findDefiners_65 : decode cX13_findDefiners 65 = .ok (.iinc 2 1, 3) := by decide +kernel
theorem dX13_findDefiners_68 : decode cX13_findDefiners 68 = .ok (.goto (-36), 3) := by decide +kernel
theorem dX13_findDefiners_71 : decode cX13_findDefiners 71 = .ok (.aload_n 0, 1) := by decide +kernel
theorem dX13_findDefiners_72 : decode cX13_findDefiners 72 = .ok (.iload_n 1, 1) := by decide +kernel
theorem dX13_findDefiners_73 : decode cX13_findDefiners 73 = .ok (.iconst (-1), 1) := by decide +kernel
theorem dX13_findDefiners_74 : decode cX13_findDefiners 74 = .ok (.invokevirtual 943, 3) := by decide +kernel
theorem dX13_findDefiners_77 : decode cX13_findDefiners 77 = .ok (.iload_n 1, 1) := by decide +kernel
theorem dX13_findDefiners_78 : decode cX13_findDefiners 78 = .ok (.iconst 1, 1) := by decide +kernel
theorem dX13_findDefiners_79 : decode cX13_findDefiners 79 = .ok (.isub, 1) := by decide +kernel
theorem dX13_findDefiners_80 : decode cX13_findDefiners 80 = .ok (.istore_n 2, 1) := by decide +kernel
theorem dX13_findDefiners_81 : decode cX13_findDefiners 81 = .ok (.iload_n 2, 1) := by decide +kernel
theorem dX13_findDefiners_82 : decode cX13_findDefiners 82 = .ok (.ifCond .lt 45, 3) := by decide +kernel
theorem dX13_findDefiners_85 : decode cX13_findDefiners 85 = .ok (.aload_n 0, 1) := by decide +kernel
theorem dX13_findDefiners_86 : decode cX13_findDefiners 86 = .ok (.iload_n 2, 1) := by decide +kernel
theorem dX13_findDefiners_87 : decode cX13_findDefiners 87 = .ok (.invokevirtual 940, 3) := by decide +kernel
theorem dX13_findDefiners_90 : decode cX13_findDefiners 90 = .ok (.istore_n 3, 1) := by decide +kernel
theorem dX13_findDefiners_91 : decode cX13_findDefiners 91 = .ok (.iload_n 3, 1) := by decide +kernel
theorem dX13_findDefiners_92 : decode cX13_findDefiners 92 = .ok (.iconst (-1), 1) := by decide +kernel
theorem dX13_findDefiners_93 : decode cX13_findDefiners 93 = .ok (.if_icmp .eq 28, 3) := by decide +kernel
theorem dX13_findDefiners_96 : decode cX13_findDefiners 96 = .ok (.aload_n 0, 1) := by decide +kernel
theorem dX13_findDefiners_97 : decode cX13_findDefiners 97 = .ok (.getfield 335, 3) := by decide +kernel
theorem dX13_findDefiners_100 : decode cX13_findDefiners 100 = .ok (.iload_n 3, 1) := by decide +kernel
theorem dX13_findDefiners_101 : decode cX13_findDefiners 101 = .ok (.iaload, 1) := by decide +kernel
theorem dX13_findDefiners_102 : decode cX13_findDefiners 102 = .ok (.iload_n 2, 1) := by decide +kernel
theorem dX13_findDefiners_103 : decode cX13_findDefiners 103 = .ok (.if_icmp .ne 18, 3) := by decide +kernel
theorem dX13_findDefiners_106 : decode cX13_findDefiners 106 = .ok (.aload_n 0, 1) := by decide +kernel
theorem dX13_findDefiners_107 : decode cX13_findDefiners 107 = .ok (.getfield 338, 3) := by decide +kernel
theorem dX13_findDefiners_110 : decode cX13_findDefiners 110 = .ok (.iload_n 3, 1) := by decide +kernel
theorem dX13_findDefiners_111 : decode cX13_findDefiners 111 = .ok (.baload, 1) := by decide +kernel
theorem dX13_findDefiners_112 : decode cX13_findDefiners 112 = .ok (.ifCond .eq 9, 3) := by decide +kernel
theorem dX13_findDefiners_115 : decode cX13_findDefiners 115 = .ok (.aload_n 0, 1) := by decide +kernel
theorem dX13_findDefiners_116 : decode cX13_findDefiners 116 = .ok (.iload_n 2, 1) := by decide +kernel
theorem dX13_findDefiners_117 : decode cX13_findDefiners 117 = .ok (.iload_n 3, 1) := by decide +kernel
theorem dX13_findDefiners_118 : decode cX13_findDefiners 118 = .ok (.invokevirtual 943, 3) := by decide +kernel
theorem dX13_findDefiners_121 : decode cX13_findDefiners 121 = .ok (.iinc 2 (-1), 3) := by decide +kernel
theorem dX13_findDefiners_124 : decode cX13_findDefiners 124 = .ok (.goto (-43), 3) := by decide +kernel
theorem dX13_findDefiners_127 : decode cX13_findDefiners 127 = .ok (.return_, 1) := by decide +kernel
theorem dX13_addTask_0 : decode cX13_addTask 0 = .ok (.aload_n 0, 1) := by decide +kernel
theorem dX13_addTask_1 : decode cX13_addTask 1 = .ok (.getfield 351, 3) := by decide +kernel
theorem dX13_addTask_4 : decode cX13_addTask 4 = .ok (.aload_n 0, 1) := by decide +kernel
theorem dX13_addTask_5 : decode cX13_addTask 5 = .ok (.getfield 946, 3) := by decide +kernel
theorem dX13_addTask_8 : decode cX13_addTask 8 = .ok (.iload_n 1, 1) := by decide +kernel
theorem dX13_addTask_9 : decode cX13_addTask 9 = .ok (.iastore, 1) := by decide +kernel
theorem dX13_addTask_10 : decode cX13_addTask 10 = .ok (.aload_n 0, 1) := by decide +kernel
theorem dX13_addTask_11 : decode cX13_addTask 11 = .ok (.dup, 1) := by decide +kernel
theorem dX13_addTask_12 : decode cX13_addTask 12 = .ok (.getfield 946, 3) := by decide +kernel
theorem dX13_addTask_15 : decode cX13_addTask 15 = .ok (.iconst 1, 1) := by decide +kernel
theorem dX13_addTask_16 : decode cX13_addTask 16 = .ok (.iadd, 1) := by decide +kernel
theorem dX13_addTask_17 : decode cX13_addTask 17 = .ok (.putfield 946, 3) := by decide +kernel
theorem dX13_addTask_20 : decode cX13_addTask 20 = .ok (.return_, 1) := by decide +kernel
theorem dX13_leafOf_0 : decode cX13_leafOf 0 = .ok (.iload_n 2, 1) := by decide +kernel
theorem dX13_leafOf_1 : decode cX13_leafOf 1 = .ok (.iconst (-1), 1) := by decide +kernel
theorem dX13_leafOf_2 : decode cX13_leafOf 2 = .ok (.if_icmp .ne 24, 3) := by decide +kernel
theorem dX13_leafOf_5 : decode cX13_leafOf 5 = .ok (.aload_n 0, 1) := by decide +kernel
theorem dX13_leafOf_6 : decode cX13_leafOf 6 = .ok (.getfield 60, 3) := by decide +kernel
theorem dX13_leafOf_9 : decode cX13_leafOf 9 = .ok (.aload_n 0, 1) := by decide +kernel
theorem dX13_leafOf_10 : decode cX13_leafOf 10 = .ok (.getfield 54, 3) := by decide +kernel
theorem dX13_leafOf_13 : decode cX13_leafOf 13 = .ok (.iconst (-1), 1) := by decide +kernel
theorem dX13_leafOf_14 : decode cX13_leafOf 14 = .ok (.aload_n 0, 1) := by decide +kernel
theorem dX13_leafOf_15 : decode cX13_leafOf 15 = .ok (.getfield 299, 3) := by decide +kernel
theorem dX13_leafOf_18 : decode cX13_leafOf 18 = .ok (.iload_n 1, 1) := by decide +kernel
theorem dX13_leafOf_19 : decode cX13_leafOf 19 = .ok (.iaload, 1) := by decide +kernel
theorem dX13_leafOf_20 : decode cX13_leafOf 20 = .ok (.isub, 1) := by decide +kernel
theorem dX13_leafOf_21 : decode cX13_leafOf 21 = .ok (.iaload, 1) := by decide +kernel
theorem dX13_leafOf_22 : decode cX13_leafOf 22 = .ok (.iconst 1, 1) := by decide +kernel
theorem dX13_leafOf_23 : decode cX13_leafOf 23 = .ok (.iadd, 1) := by decide +kernel
theorem dX13_leafOf_24 : decode cX13_leafOf 24 = .ok (.iaload, 1) := by decide +kernel
theorem dX13_leafOf_25 : decode cX13_leafOf 25 = .ok (.ireturn, 1) := by decide +kernel
theorem dX13_leafOf_26 : decode cX13_leafOf 26 = .ok (.iconst 0, 1) := by decide +kernel
theorem dX13_leafOf_27 : decode cX13_leafOf 27 = .ok (.istore_n 3, 1) := by decide +kernel
theorem dX13_leafOf_28 : decode cX13_leafOf 28 = .ok (.aload_n 0, 1) := by decide +kernel
theorem dX13_leafOf_29 : decode cX13_leafOf 29 = .ok (.getfield 299, 3) := by decide +kernel
theorem dX13_leafOf_32 : decode cX13_leafOf 32 = .ok (.aload_n 0, 1) := by decide +kernel
theorem dX13_leafOf_33 : decode cX13_leafOf 33 = .ok (.getfield 314, 3) := by decide +kernel
theorem dX13_leafOf_36 : decode cX13_leafOf 36 = .ok (.aload_n 0, 1) := by decide +kernel
theorem dX13_leafOf_37 : decode cX13_leafOf 37 = .ok (.getfield 302, 3) := by decide +kernel
theorem dX13_leafOf_40 : decode cX13_leafOf 40 = .ok (.iload_n 2, 1) := by decide +kernel
theorem dX13_leafOf_41 : decode cX13_leafOf 41 = .ok (.iaload, 1) := by decide +kernel
theorem dX13_leafOf_42 : decode cX13_leafOf 42 = .ok (.iload_n 3, 1) := by decide +kernel
theorem dX13_leafOf_43 : decode cX13_leafOf 43 = .ok (.iadd, 1) := by decide +kernel
theorem dX13_leafOf_44 : decode cX13_leafOf 44 = .ok (.iaload, 1) := by decide +kernel
theorem dX13_leafOf_45 : decode cX13_leafOf 45 = .ok (.iaload, 1) := by decide +kernel
theorem dX13_leafOf_46 : decode cX13_leafOf 46 = .ok (.aload_n 0, 1) := by decide +kernel
theorem dX13_leafOf_47 : decode cX13_leafOf 47 = .ok (.getfield 299, 3) := by decide +kernel
theorem dX13_leafOf_50 : decode cX13_leafOf 50 = .ok (.iload_n 1, 1) := by decide +kernel
theorem dX13_leafOf_51 : decode cX13_leafOf 51 = .ok (.iaload, 1) := by decide +kernel
theorem dX13_leafOf_52 : decode cX13_leafOf 52 = .ok (.if_icmp .eq 9, 3) := by decide +kernel
theorem dX13_leafOf_55 : decode cX13_leafOf 55 = .ok (.iinc 3 1, 3) := by decide +kernel
theorem dX13_leafOf_58 : decode cX13_leafOf 58 = .ok (.goto (-30), 3) := by decide +kernel
theorem dX13_leafOf_61 : decode cX13_leafOf 61 = .ok (.iconst (-1), 1) := by decide +kernel
theorem dX13_leafOf_62 : decode cX13_leafOf 62 = .ok (.iload_n 3, 1) := by decide +kernel
theorem dX13_leafOf_63 : decode cX13_leafOf 63 = .ok (.isub, 1) := by decide +kernel
theorem dX13_leafOf_64 : decode cX13_leafOf 64 = .ok (.ireturn, 1) := by decide +kernel
theorem dX13_spread_0 : decode cX13_spread 0 = .ok (.aload_n 0, 1) := by decide +kernel
theorem dX13_spread_1 : decode cX13_spread 1 = .ok (.getfield 299, 3) := by decide +kernel
theorem dX13_spread_4 : decode cX13_spread 4 = .ok (.iload_n 1, 1) := by decide +kernel
theorem dX13_spread_5 : decode cX13_spread 5 = .ok (.iaload, 1) := by decide +kernel
theorem dX13_spread_6 : decode cX13_spread 6 = .ok (.istore_n 2, 1) := by decide +kernel
theorem dX13_spread_7 : decode cX13_spread 7 = .ok (.aload_n 0, 1) := by decide +kernel
theorem dX13_spread_8 : decode cX13_spread 8 = .ok (.getfield 335, 3) := by decide +kernel
theorem dX13_spread_11 : decode cX13_spread 11 = .ok (.iload_n 2, 1) := by decide +kernel
theorem dX13_spread_12 : decode cX13_spread 12 = .ok (.iaload, 1) := by decide +kernel
theorem dX13_spread_13 : decode cX13_spread 13 = .ok (.iconst (-1), 1) := by decide +kernel
theorem dX13_spread_14 : decode cX13_spread 14 = .ok (.if_icmp .eq 85, 3) := by decide +kernel
theorem dX13_spread_17 : decode cX13_spread 17 = .ok (.aload_n 0, 1) := by decide +kernel
theorem dX13_spread_18 : decode cX13_spread 18 = .ok (.getfield 344, 3) := by decide +kernel
theorem dX13_spread_21 : decode cX13_spread 21 = .ok (.iload_n 2, 1) := by decide +kernel
theorem dX13_spread_22 : decode cX13_spread 22 = .ok (.iaload, 1) := by decide +kernel
theorem dX13_spread_23 : decode cX13_spread 23 = .ok (.iconst 1, 1) := by decide +kernel
theorem dX13_spread_24 : decode cX13_spread 24 = .ok (.isub, 1) := by decide +kernel
theorem dX13_spread_25 : decode cX13_spread 25 = .ok (.istore_n 3, 1) := by decide +kernel
theorem dX13_spread_26 : decode cX13_spread 26 = .ok (.iload_n 3, 1) := by decide +kernel
theorem dX13_spread_27 : decode cX13_spread 27 = .ok (.ifCond .lt 56, 3) := by decide +kernel
theorem dX13_spread_30 : decode cX13_spread 30 = .ok (.aload_n 0, 1) := by decide +kernel
theorem dX13_spread_31 : decode cX13_spread 31 = .ok (.getfield 348, 3) := by decide +kernel
theorem dX13_spread_34 : decode cX13_spread 34 = .ok (.aload_n 0, 1) := by decide +kernel
theorem dX13_spread_35 : decode cX13_spread 35 = .ok (.getfield 341, 3) := by decide +kernel
theorem dX13_spread_38 : decode cX13_spread 38 = .ok (.iload_n 2, 1) := by decide +kernel
theorem dX13_spread_39 : decode cX13_spread 39 = .ok (.iaload, 1) := by decide +kernel
theorem dX13_spread_40 : decode cX13_spread 40 = .ok (.iload_n 3, 1) := by decide +kernel
theorem dX13_spread_41 : decode cX13_spread 41 = .ok (.iadd, 1) := by decide +kernel
theorem dX13_spread_42 : decode cX13_spread 42 = .ok (.iaload, 1) := by decide +kernel
theorem dX13_spread_43 : decode cX13_spread 43 = .ok (.istore 4, 2) := by decide +kernel
theorem dX13_spread_45 : decode cX13_spread 45 = .ok (.aload_n 0, 1) := by decide +kernel
theorem dX13_spread_46 : decode cX13_spread 46 = .ok (.iload 4, 2) := by decide +kernel
theorem dX13_spread_48 : decode cX13_spread 48 = .ok (.ifCond .ge 22, 3) := by decide +kernel
theorem dX13_spread_51 : decode cX13_spread 51 = .ok (.aload_n 0, 1) := by decide +kernel
theorem dX13_spread_52 : decode cX13_spread 52 = .ok (.getfield 314, 3) := by decide +kernel
theorem dX13_spread_55 : decode cX13_spread 55 = .ok (.aload_n 0, 1) := by decide +kernel
theorem dX13_spread_56 : decode cX13_spread 56 = .ok (.getfield 302, 3) := by decide +kernel
theorem dX13_spread_59 : decode cX13_spread 59 = .ok (.iload_n 1, 1) := by decide +kernel
theorem dX13_spread_60 : decode cX13_spread 60 = .ok (.iaload, 1) := by decide +kernel
theorem dX13_spread_61 : decode cX13_spread 61 = .ok (.iconst 1, 1) := by decide +kernel
theorem dX13_spread_62 : decode cX13_spread 62 = .ok (.isub, 1) := by decide +kernel
theorem dX13_spread_63 : decode cX13_spread 63 = .ok (.iload 4, 2) := by decide +kernel
theorem dX13_spread_65 : decode cX13_spread 65 = .ok (.isub, 1) := by decide +kernel
theorem dX13_spread_66 : decode cX13_spread 66 = .ok (.iaload, 1) := by decide +kernel
theorem dX13_spread_67 : decode cX13_spread 67 = .ok (.goto 7, 3) := by decide +kernel
theorem dX13_spread_70 : decode cX13_spread 70 = .ok (.iconst (-1), 1) := by decide +kernel
theorem dX13_spread_71 : decode cX13_spread 71 = .ok (.iload 4, 2) := by decide +kernel
theorem dX13_spread_73 : decode cX13_spread 73 = .ok (.isub, 1) := by decide +kernel
theorem dX13_spread_74 : decode cX13_spread 74 = .ok (.invokevirtual 949, 3) := by decide +kernel
theorem dX13_spread_77 : decode cX13_spread 77 = .ok (.iinc 3 (-1), 3) := by decide +kernel
theorem dX13_spread_80 : decode cX13_spread 80 = .ok (.goto (-54), 3) := by decide +kernel
theorem dX13_spread_83 : decode cX13_spread 83 = .ok (.aload_n 0, 1) := by decide +kernel
theorem dX13_spread_84 : decode cX13_spread 84 = .ok (.getfield 344, 3) := by decide +kernel
theorem dX13_spread_87 : decode cX13_spread 87 = .ok (.iload_n 2, 1) := by decide +kernel
theorem dX13_spread_88 : decode cX13_spread 88 = .ok (.iaload, 1) := by decide +kernel
theorem dX13_spread_89 : decode cX13_spread 89 = .ok (.iconst (-1), 1) := by decide +kernel
theorem dX13_spread_90 : decode cX13_spread 90 = .ok (.if_icmp .eq 7, 3) := by decide +kernel
theorem dX13_spread_93 : decode cX13_spread 93 = .ok (.iconst 1, 1) := by decide +kernel
theorem dX13_spread_94 : decode cX13_spread 94 = .ok (.goto 4, 3) := by decide +kernel
theorem dX13_spread_97 : decode cX13_spread 97 = .ok (.iconst 0, 1) := by decide +kernel
theorem dX13_spread_98 : decode cX13_spread 98 = .ok (.ireturn, 1) := by decide +kernel
theorem dX13_spread_99 : decode cX13_spread 99 = .ok (.aload_n 0, 1) := by decide +kernel
theorem dX13_spread_100 : decode cX13_spread 100 = .ok (.getfield 54, 3) := by decide +kernel
theorem dX13_spread_103 : decode cX13_spread 103 = .ok (.iload_n 2, 1) := by decide +kernel
theorem dX13_spread_104 : decode cX13_spread 104 = .ok (.iaload, 1) := by decide +kernel
theorem dX13_spread_105 : decode cX13_spread 105 = .ok (.aload_n 0, 1) := by decide +kernel
theorem dX13_spread_106 : decode cX13_spread 106 = .ok (.getfield 57, 3) := by decide +kernel
theorem dX13_spread_109 : decode cX13_spread 109 = .ok (.iload_n 2, 1) := by decide +kernel
theorem dX13_spread_110 : decode cX13_spread 110 = .ok (.iaload, 1) := by decide +kernel
theorem dX13_spread_111 : decode cX13_spread 111 = .ok (.iadd, 1) := by decide +kernel
theorem dX13_spread_112 : decode cX13_spread 112 = .ok (.iconst 1, 1) := by decide +kernel
theorem dX13_spread_113 : decode cX13_spread 113 = .ok (.isub, 1) := by decide +kernel
theorem dX13_spread_114 : decode cX13_spread 114 = .ok (.istore_n 3, 1) := by decide +kernel
theorem dX13_spread_115 : decode cX13_spread 115 = .ok (.iload_n 3, 1) := by decide +kernel
theorem dX13_spread_116 : decode cX13_spread 116 = .ok (.aload_n 0, 1) := by decide +kernel
theorem dX13_spread_117 : decode cX13_spread 117 = .ok (.getfield 54, 3) := by decide +kernel
theorem dX13_spread_120 : decode cX13_spread 120 = .ok (.iload_n 2, 1) := by decide +kernel
theorem dX13_spread_121 : decode cX13_spread 121 = .ok (.iaload, 1) := by decide +kernel
theorem dX13_spread_122 : decode cX13_spread 122 = .ok (.if_icmp .le 61, 3) := by decide +kernel
theorem dX13_spread_125 : decode cX13_spread 125 = .ok (.aload_n 0, 1) := by decide +kernel
theorem dX13_spread_126 : decode cX13_spread 126 = .ok (.aload_n 0, 1) := by decide +kernel
theorem dX13_spread_127 : decode cX13_spread 127 = .ok (.getfield 35, 3) := by decide +kernel
theorem dX13_spread_130 : decode cX13_spread 130 = .ok (.aload_n 0, 1) := by decide +kernel
theorem dX13_spread_131 : decode cX13_spread 131 = .ok (.getfield 60, 3) := by decide +kernel
theorem dX13_spread_134 : decode cX13_spread 134 = .ok (.iload_n 3, 1) := by decide +kernel
theorem dX13_spread_135 : decode cX13_spread 135 = .ok (.iaload, 1) := by decide +kernel
theorem dX13_spread_136 : decode cX13_spread 136 = .ok (.baload, 1) := by decide +kernel
theorem dX13_spread_137 : decode cX13_spread 137 = .ok (.ifCond .eq 29, 3) := by decide +kernel
theorem dX13_spread_140 : decode cX13_spread 140 = .ok (.aload_n 0, 1) := by decide +kernel
theorem dX13_spread_141 : decode cX13_spread 141 = .ok (.getfield 314, 3) := by decide +kernel
theorem dX13_spread_144 : decode cX13_spread 144 = .ok (.aload_n 0, 1) := by decide +kernel
theorem dX13_spread_145 : decode cX13_spread 145 = .ok (.getfield 302, 3) := by decide +kernel
theorem dX13_spread_148 : decode cX13_spread 148 = .ok (.iload_n 1, 1) := by decide +kernel
theorem dX13_spread_149 : decode cX13_spread 149 = .ok (.iaload, 1) := by decide +kernel
theorem dX13_spread_150 : decode cX13_spread 150 = .ok (.aload_n 0, 1) := by decide +kernel
theorem dX13_spread_151 : decode cX13_spread 151 = .ok (.iload_n 2, 1) := by decide +kernel
theorem dX13_spread_152 : decode cX13_spread 152 = .ok (.aload_n 0, 1) := by decide +kernel
theorem dX13_spread_153 : decode cX13_spread 153 = .ok (.getfield 60, 3) := by decide +kernel
theorem dX13_spread_156 : decode cX13_spread 156 = .ok (.iload_n 3, 1) := by decide +kernel
theorem dX13_spread_157 : decode cX13_spread 157 = .ok (.iaload, 1) := by decide +kernel
theorem dX13_spread_158 : decode cX13_spread 158 = .ok (.invokevirtual 888, 3) := by decide +kernel
theorem dX13_spread_161 : decode cX13_spread 161 = .ok (.iadd, 1) := by decide +kernel
theorem dX13_spread_162 : decode cX13_spread 162 = .ok (.iaload, 1) := by decide +kernel
theorem dX13_spread_163 : decode cX13_spread 163 = .ok (.goto 11, 3) := by decide +kernel
theorem dX13_spread_166 : decode cX13_spread 166 = .ok (.iconst (-1), 1) := by decide +kernel
theorem dX13_spread_167 : decode cX13_spread 167 = .ok (.aload_n 0, 1) := by decide +kernel
theorem dX13_spread_168 : decode cX13_spread 168 = .ok (.getfield 60, 3) := by decide +kernel
theorem dX13_spread_171 : decode cX13_spread 171 = .ok (.iload_n 3, 1) := by decide +kernel
theorem dX13_spread_172 : decode cX13_spread 172 = .ok (.iaload, 1) := by decide +kernel
theorem dX13_spread_173 : decode cX13_spread 173 = .ok (.isub, 1) := by decide +kernel
theorem dX13_spread_174 : decode cX13_spread 174 = .ok (.invokevirtual 949, 3) := by decide +kernel
theorem dX13_spread_177 : decode cX13_spread 177 = .ok (.iinc 3 (-1), 3) := by decide +kernel
theorem dX13_spread_180 : decode cX13_spread 180 = .ok (.goto (-65), 3) := by decide +kernel
theorem dX13_spread_183 : decode cX13_spread 183 = .ok (.iconst 1, 1) := by decide +kernel
theorem dX13_spread_184 : decode cX13_spread 184 = .ok (.ireturn, 1) := by decide +kernel
theorem dX13_tellBare_0 : decode cX13_tellBare 0 = .ok (.aload_n 0, 1) := by decide +kernel
theorem dX13_tellBare_1 : decode cX13_tellBare 1 = .ok (.getfield 952, 3) := by decide +kernel
theorem dX13_tellBare_4 : decode cX13_tellBare 4 = .ok (.istore_n 3, 1) := by decide +kernel
theorem dX13_tellBare_5 : decode cX13_tellBare 5 = .ok (.aload_n 0, 1) := by decide +kernel
theorem dX13_tellBare_6 : decode cX13_tellBare 6 = .ok (.iconst 0, 1) := by decide +kernel
theorem dX13_tellBare_7 : decode cX13_tellBare 7 = .ok (.putfield 946, 3) := by decide +kernel
theorem dX13_tellBare_10 : decode cX13_tellBare 10 = .ok (.aload_n 0, 1) := by decide +kernel
theorem dX13_tellBare_11 : decode cX13_tellBare 11 = .ok (.iload_n 1, 1) := by decide +kernel
theorem dX13_tellBare_12 : decode cX13_tellBare 12 = .ok (.invokevirtual 949, 3) := by decide +kernel
theorem dX13_tellBare_15 : decode cX13_tellBare 15 = .ok (.aload_n 0, 1) := by decide +kernel
theorem dX13_tellBare_16 : decode cX13_tellBare 16 = .ok (.getfield 946, 3) := by decide +kernel
theorem dX13_tellBare_19 : decode cX13_tellBare 19 = .ok (.ifCond .le 123, 3) := by decide +kernel
theorem dX13_tellBare_22 : decode cX13_tellBare 22 = .ok (.aload_n 0, 1) := by decide +kernel
theorem dX13_tellBare_23 : decode cX13_tellBare 23 = .ok (.getfield 952, 3) := by decide +kernel
theorem dX13_tellBare_26 : decode cX13_tellBare 26 = .ok (.iload_n 3, 1) := by decide +kernel
theorem dX13_tellBare_27 : decode cX13_tellBare 27 = .ok (.isub, 1) := by decide +kernel
theorem dX13_tellBare_28 : decode cX13_tellBare 28 = .ok (.aload_n 0, 1) := by decide +kernel
theorem dX13_tellBare_29 : decode cX13_tellBare 29 = .ok (.getfield 946, 3) := by decide +kernel
theorem dX13_tellBare_32 : decode cX13_tellBare 32 = .ok (.iadd, 1) := by decide +kernel
theorem dX13_tellBare_33 : decode cX13_tellBare 33 = .ok (.sipush 599, 3) := by decide +kernel
theorem dX13_tellBare_36 : decode cX13_tellBare 36 = .ok (.if_icmp .le 10, 3) := by decide +kernel
theorem dX13_tellBare_39 : decode cX13_tellBare 39 = .ok (.aload_n 0, 1) := by decide +kernel
theorem dX13_tellBare_40 : decode cX13_tellBare 40 = .ok (.iload_n 3, 1) := by decide +kernel
theorem dX13_tellBare_41 : decode cX13_tellBare 41 = .ok (.putfield 952, 3) := by decide +kernel
theorem dX13_tellBare_44 : decode cX13_tellBare 44 = .ok (.iconst (-1), 1) := by decide +kernel
theorem dX13_tellBare_45 : decode cX13_tellBare 45 = .ok (.ireturn, 1) := by decide +kernel
theorem dX13_tellBare_46 : decode cX13_tellBare 46 = .ok (.aload_n 0, 1) := by decide +kernel
theorem dX13_tellBare_47 : decode cX13_tellBare 47 = .ok (.dup, 1) := by decide +kernel
theorem dX13_tellBare_48 : decode cX13_tellBare 48 = .ok (.getfield 946, 3) := by decide +kernel
theorem dX13_tellBare_51 : decode cX13_tellBare 51 = .ok (.iconst 1, 1) := by decide +kernel
theorem dX13_tellBare_52 : decode cX13_tellBare 52 = .ok (.isub, 1) := by decide +kernel
theorem dX13_tellBare_53 : decode cX13_tellBare 53 = .ok (.putfield 946, 3) := by decide +kernel
theorem dX13_tellBare_56 : decode cX13_tellBare 56 = .ok (.aload_n 0, 1) := by decide +kernel
theorem dX13_tellBare_57 : decode cX13_tellBare 57 = .ok (.getfield 351, 3) := by decide +kernel
theorem dX13_tellBare_60 : decode cX13_tellBare 60 = .ok (.aload_n 0, 1) := by decide +kernel
theorem dX13_tellBare_61 : decode cX13_tellBare 61 = .ok (.getfield 946, 3) := by decide +kernel
theorem dX13_tellBare_64 : decode cX13_tellBare 64 = .ok (.iaload, 1) := by decide +kernel
theorem dX13_tellBare_65 : decode cX13_tellBare 65 = .ok (.istore 4, 2) := by decide +kernel
theorem dX13_tellBare_67 : decode cX13_tellBare 67 = .ok (.iload 4, 2) := by decide +kernel
theorem dX13_tellBare_69 : decode cX13_tellBare 69 = .ok (.ifCond .lt 13, 3) := by decide +kernel
theorem dX13_tellBare_72 : decode cX13_tellBare 72 = .ok (.aload_n 0, 1) := by decide +kernel
theorem dX13_tellBare_73 : decode cX13_tellBare 73 = .ok (.getfield 299, 3) := by decide +kernel
theorem dX13_tellBare_76 : decode cX13_tellBare 76 = .ok (.iload 4, 2) := by decide +kernel
theorem dX13_tellBare_78 : decode cX13_tellBare 78 = .ok (.iaload, 1) := by decide +kernel
theorem dX13_tellBare_79 : decode cX13_tellBare 79 = .ok (.ifCond .ge 44, 3) := by decide +kernel
theorem dX13_tellBare_82 : decode cX13_tellBare 82 = .ok (.aload_n 0, 1) := by decide +kernel
theorem dX13_tellBare_83 : decode cX13_tellBare 83 = .ok (.getfield 348, 3) := by decide +kernel
theorem dX13_tellBare_86 : decode cX13_tellBare 86 = .ok (.aload_n 0, 1) := by decide +kernel
theorem dX13_tellBare_87 : decode cX13_tellBare 87 = .ok (.getfield 952, 3) := by decide +kernel
theorem dX13_tellBare_90 : decode cX13_tellBare 90 = .ok (.iload 4, 2) := by decide +kernel
theorem dX13_tellBare_92 : decode cX13_tellBare 92 = .ok (.ifCond .ge 10, 3) := by decide +kernel
theorem dX13_tellBare_95 : decode cX13_tellBare 95 = .ok (.iconst (-1), 1) := by decide +kernel
theorem dX13_tellBare_96 : decode cX13_tellBare 96 = .ok (.iload 4, 2) := by decide +kernel
theorem dX13_tellBare_98 : decode cX13_tellBare 98 = .ok (.isub, 1) := by decide +kernel
theorem dX13_tellBare_99 : decode cX13_tellBare 99 = .ok (.goto 10, 3) := by decide +kernel
theorem dX13_tellBare_102 : decode cX13_tellBare 102 = .ok (.aload_n 0, 1) := by decide +kernel
theorem dX13_tellBare_103 : decode cX13_tellBare 103 = .ok (.iload 4, 2) := by decide +kernel
theorem dX13_tellBare_105 : decode cX13_tellBare 105 = .ok (.iload_n 2, 1) := by decide +kernel
theorem dX13_tellBare_106 : decode cX13_tellBare 106 = .ok (.invokevirtual 955, 3) := by decide +kernel
theorem dX13_tellBare_109 : decode cX13_tellBare 109 = .ok (.iastore, 1) := by decide +kernel
theorem dX13_tellBare_110 : decode cX13_tellBare 110 = .ok (.aload_n 0, 1) := by decide +kernel
theorem dX13_tellBare_111 : decode cX13_tellBare 111 = .ok (.dup, 1) := by decide +kernel
theorem dX13_tellBare_112 : decode cX13_tellBare 112 = .ok (.getfield 952, 3) := by decide +kernel
theorem dX13_tellBare_115 : decode cX13_tellBare 115 = .ok (.iconst 1, 1) := by decide +kernel
theorem dX13_tellBare_116 : decode cX13_tellBare 116 = .ok (.iadd, 1) := by decide +kernel
theorem dX13_tellBare_117 : decode cX13_tellBare 117 = .ok (.putfield 952, 3) := by decide +kernel
theorem dX13_tellBare_120 : decode cX13_tellBare 120 = .ok (.goto 19, 3) := by decide +kernel
theorem dX13_tellBare_123 : decode cX13_tellBare 123 = .ok (.aload_n 0, 1) := by decide +kernel
theorem dX13_tellBare_124 : decode cX13_tellBare 124 = .ok (.iload 4, 2) := by decide +kernel
theorem dX13_tellBare_126 : decode cX13_tellBare 126 = .ok (.invokevirtual 958, 3) := by decide +kernel
theorem dX13_tellBare_129 : decode cX13_tellBare 129 = .ok (.ifCond .ne 10, 3) := by decide +kernel
theorem dX13_tellBare_132 : decode cX13_tellBare 132 = .ok (.aload_n 0, 1) := by decide +kernel
theorem dX13_tellBare_133 : decode cX13_tellBare 133 = .ok (.iload_n 3, 1) := by decide +kernel
theorem dX13_tellBare_134 : decode cX13_tellBare 134 = .ok (.putfield 952, 3) := by decide +kernel
theorem dX13_tellBare_137 : decode cX13_tellBare 137 = .ok (.iconst (-1), 1) := by decide +kernel
theorem dX13_tellBare_138 : decode cX13_tellBare 138 = .ok (.ireturn, 1) := by decide +kernel
theorem dX13_tellBare_139 : decode cX13_tellBare 139 = .ok (.goto (-124), 3) := by decide +kernel
theorem dX13_tellBare_142 : decode cX13_tellBare 142 = .ok (.aload_n 0, 1) := by decide +kernel
theorem dX13_tellBare_143 : decode cX13_tellBare 143 = .ok (.getfield 952, 3) := by decide +kernel
theorem dX13_tellBare_146 : decode cX13_tellBare 146 = .ok (.iload_n 3, 1) := by decide +kernel
theorem dX13_tellBare_147 : decode cX13_tellBare 147 = .ok (.isub, 1) := by decide +kernel
theorem dX13_tellBare_148 : decode cX13_tellBare 148 = .ok (.ireturn, 1) := by decide +kernel
theorem dX13_printBare_0 : decode cX13_printBare 0 = .ok (.aload_n 0, 1) := by decide +kernel
theorem dX13_printBare_1 : decode cX13_printBare 1 = .ok (.iload_n 1, 1) := by decide +kernel
theorem dX13_printBare_2 : decode cX13_printBare 2 = .ok (.invokevirtual 961, 3) := by decide +kernel
theorem dX13_printBare_5 : decode cX13_printBare 5 = .ok (.aload_n 0, 1) := by decide +kernel
theorem dX13_printBare_6 : decode cX13_printBare 6 = .ok (.iconst 0, 1) := by decide +kernel
theorem dX13_printBare_7 : decode cX13_printBare 7 = .ok (.putfield 952, 3) := by decide +kernel
theorem dX13_printBare_10 : decode cX13_printBare 10 = .ok (.iconst 0, 1) := by decide +kernel
theorem dX13_printBare_11 : decode cX13_printBare 11 = .ok (.istore_n 2, 1) := by decide +kernel
theorem dX13_printBare_12 : decode cX13_printBare 12 = .ok (.iload_n 2, 1) := by decide +kernel
theorem dX13_printBare_13 : decode cX13_printBare 13 = .ok (.iload_n 1, 1) := by decide +kernel
theorem dX13_printBare_14 : decode cX13_printBare 14 = .ok (.if_icmp .ge 115, 3) := by decide +kernel
theorem dX13_printBare_17 : decode cX13_printBare 17 = .ok (.aload_n 0, 1) := by decide +kernel
theorem dX13_printBare_18 : decode cX13_printBare 18 = .ok (.iload_n 2, 1) := by decide +kernel
theorem dX13_printBare_19 : decode cX13_printBare 19 = .ok (.invokevirtual 940, 3) := by decide +kernel
theorem dX13_printBare_22 : decode cX13_printBare 22 = .ok (.istore_n 3, 1) := by decide +kernel
theorem dX13_printBare_23 : decode cX13_printBare 23 = .ok (.iload_n 3, 1) := by decide +kernel
theorem dX13_printBare_24 : decode cX13_printBare 24 = .ok (.iconst (-1), 1) := by decide +kernel
theorem dX13_printBare_25 : decode cX13_printBare 25 = .ok (.if_icmp .eq 98, 3) := by decide +kernel
theorem dX13_printBare_28 : decode cX13_printBare 28 = .ok (.aload_n 0, 1) := by decide +kernel
theorem dX13_printBare_29 : decode cX13_printBare 29 = .ok (.getfield 335, 3) := by decide +kernel
theorem dX13_printBare_32 : decode cX13_printBare 32 = .ok (.iload_n 3, 1) := by decide +kernel
theorem dX13_printBare_33 : decode cX13_printBare 33 = .ok (.iaload, 1) := by decide +kernel
theorem dX13_printBare_34 : decode cX13_printBare 34 = .ok (.iload_n 2, 1) := by decide +kernel
theorem dX13_printBare_35 : decode cX13_printBare 35 = .ok (.if_icmp .ne 88, 3) := by decide +kernel
theorem dX13_printBare_38 : decode cX13_printBare 38 = .ok (.aload_n 0, 1) := by decide +kernel
theorem dX13_printBare_39 : decode cX13_printBare 39 = .ok (.getfield 338, 3) := by decide +kernel
theorem dX13_printBare_42 : decode cX13_printBare 42 = .ok (.iload_n 3, 1) := by decide +kernel
theorem dX13_printBare_43 : decode cX13_printBare 43 = .ok (.baload, 1) := by decide +kernel
theorem dX13_printBare_44 : decode cX13_printBare 44 = .ok (.ifCond .eq 79, 3) := by decide +kernel
theorem dX13_printBare_47 : decode cX13_printBare 47 = .ok (.aload_n 0, 1) := by decide +kernel
theorem dX13_printBare_48 : decode cX13_printBare 48 = .ok (.invokevirtual 964, 3) := by decide +kernel
theorem dX13_printBare_51 : decode cX13_printBare 51 = .ok (.aload_n 0, 1) := by decide +kernel
theorem dX13_printBare_52 : decode cX13_printBare 52 = .ok (.iload_n 2, 1) := by decide +kernel
theorem dX13_printBare_53 : decode cX13_printBare 53 = .ok (.invokevirtual 909, 3) := by decide +kernel
theorem dX13_printBare_56 : decode cX13_printBare 56 = .ok (.istore 4, 2) := by decide +kernel
theorem dX13_printBare_58 : decode cX13_printBare 58 = .ok (.aload_n 0, 1) := by decide +kernel
theorem dX13_printBare_59 : decode cX13_printBare 59 = .ok (.aload_n 0, 1) := by decide +kernel
theorem dX13_printBare_60 : decode cX13_printBare 60 = .ok (.getfield 299, 3) := by decide +kernel
theorem dX13_printBare_63 : decode cX13_printBare 63 = .ok (.iload 4, 2) := by decide +kernel
theorem dX13_printBare_65 : decode cX13_printBare 65 = .ok (.iaload, 1) := by decide +kernel
theorem dX13_printBare_66 : decode cX13_printBare 66 = .ok (.invokevirtual 921, 3) := by decide +kernel
theorem dX13_printBare_69 : decode cX13_printBare 69 = .ok (.istore 5, 2) := by decide +kernel
theorem dX13_printBare_71 : decode cX13_printBare 71 = .ok (.aload_n 0, 1) := by decide +kernel
theorem dX13_printBare_72 : decode cX13_printBare 72 = .ok (.getfield 341, 3) := by decide +kernel
theorem dX13_printBare_75 : decode cX13_printBare 75 = .ok (.iload_n 3, 1) := by decide +kernel
theorem dX13_printBare_76 : decode cX13_printBare 76 = .ok (.aload_n 0, 1) := by decide +kernel
theorem dX13_printBare_77 : decode cX13_printBare 77 = .ok (.getfield 952, 3) := by decide +kernel
theorem dX13_printBare_80 : decode cX13_printBare 80 = .ok (.iastore, 1) := by decide +kernel
theorem dX13_printBare_81 : decode cX13_printBare 81 = .ok (.aload_n 0, 1) := by decide +kernel
theorem dX13_printBare_82 : decode cX13_printBare 82 = .ok (.getfield 344, 3) := by decide +kernel
theorem dX13_printBare_85 : decode cX13_printBare 85 = .ok (.iload_n 3, 1) := by decide +kernel
theorem dX13_printBare_86 : decode cX13_printBare 86 = .ok (.aload_n 0, 1) := by decide +kernel
theorem dX13_printBare_87 : decode cX13_printBare 87 = .ok (.aload_n 0, 1) := by decide +kernel
theorem dX13_printBare_88 : decode cX13_printBare 88 = .ok (.getfield 314, 3) := by decide +kernel
theorem dX13_printBare_91 : decode cX13_printBare 91 = .ok (.aload_n 0, 1) := by decide +kernel
theorem dX13_printBare_92 : decode cX13_printBare 92 = .ok (.getfield 302, 3) := by decide +kernel
theorem dX13_printBare_95 : decode cX13_printBare 95 = .ok (.iload 4, 2) := by decide +kernel
theorem dX13_printBare_97 : decode cX13_printBare 97 = .ok (.iaload, 1) := by decide +kernel
theorem dX13_printBare_98 : decode cX13_printBare 98 = .ok (.iconst 1, 1) := by decide +kernel
theorem dX13_printBare_99 : decode cX13_printBare 99 = .ok (.iadd, 1) := by decide +kernel
theorem dX13_printBare_100 : decode cX13_printBare 100 = .ok (.iload 5, 2) := by decide +kernel
theorem dX13_printBare_102 : decode cX13_printBare 102 = .ok (.isub, 1) := by decide +kernel
theorem dX13_printBare_103 : decode cX13_printBare 103 = .ok (.iaload, 1) := by decide +kernel
theorem dX13_printBare_104 : decode cX13_printBare 104 = .ok (.aload_n 0, 1) := by decide +kernel
theorem dX13_printBare_105 : decode cX13_printBare 105 = .ok (.getfield 314, 3) := by decide +kernel
theorem dX13_printBare_108 : decode cX13_printBare 108 = .ok (.aload_n 0, 1) := by decide +kernel
theorem dX13_printBare_109 : decode cX13_printBare 109 = .ok (.getfield 302, 3) := by decide +kernel
theorem dX13_printBare_112 : decode cX13_printBare 112 = .ok (.iload 4, 2) := by decide +kernel
theorem dX13_printBare_114 : decode cX13_printBare 114 = .ok (.iaload, 1) := by decide +kernel
theorem dX13_printBare_115 : decode cX13_printBare 115 = .ok (.iload 5, 2) := by decide +kernel
theorem dX13_printBare_117 : decode cX13_printBare 117 = .ok (.iadd, 1) := by decide +kernel
theorem dX13_printBare_118 : decode cX13_printBare 118 = .ok (.iaload, 1) := by decide +kernel
theorem dX13_printBare_119 : decode cX13_printBare 119 = .ok (.invokevirtual 967, 3) := by decide +kernel
theorem dX13_printBare_122 : decode cX13_printBare 122 = .ok (.iastore, 1) := by decide +kernel
theorem dX13_printBare_123 : decode cX13_printBare 123 = .ok (.iinc 2 1, 3) := by decide +kernel
theorem dX13_printBare_126 : decode cX13_printBare 126 = .ok (.goto (-114), 3) := by decide +kernel
theorem dX13_printBare_129 : decode cX13_printBare 129 = .ok (.aload_n 0, 1) := by decide +kernel
theorem dX13_printBare_130 : decode cX13_printBare 130 = .ok (.invokevirtual 964, 3) := by decide +kernel
theorem dX13_printBare_133 : decode cX13_printBare 133 = .ok (.aload_n 0, 1) := by decide +kernel
theorem dX13_printBare_134 : decode cX13_printBare 134 = .ok (.getfield 952, 3) := by decide +kernel
theorem dX13_printBare_137 : decode cX13_printBare 137 = .ok (.istore_n 2, 1) := by decide +kernel
theorem dX13_printBare_138 : decode cX13_printBare 138 = .ok (.aload_n 0, 1) := by decide +kernel
theorem dX13_printBare_139 : decode cX13_printBare 139 = .ok (.aload_n 0, 1) := by decide +kernel
theorem dX13_printBare_140 : decode cX13_printBare 140 = .ok (.iload_n 1, 1) := by decide +kernel
theorem dX13_printBare_141 : decode cX13_printBare 141 = .ok (.invokevirtual 909, 3) := by decide +kernel
theorem dX13_printBare_144 : decode cX13_printBare 144 = .ok (.iconst (-1), 1) := by decide +kernel
theorem dX13_printBare_145 : decode cX13_printBare 145 = .ok (.invokevirtual 967, 3) := by decide +kernel
theorem dX13_printBare_148 : decode cX13_printBare 148 = .ok (.istore_n 3, 1) := by decide +kernel
theorem dX13_printBare_149 : decode cX13_printBare 149 = .ok (.iload_n 3, 1) := by decide +kernel
theorem dX13_printBare_150 : decode cX13_printBare 150 = .ok (.iconst (-1), 1) := by decide +kernel
theorem dX13_printBare_151 : decode cX13_printBare 151 = .ok (.if_icmp .ne 6, 3) := by decide +kernel
theorem dX13_printBare_154 : decode cX13_printBare 154 = .ok (.bipush (-2), 2) := by decide +kernel
theorem dX13_printBare_156 : decode cX13_printBare 156 = .ok (.ireturn, 1) := by decide +kernel
theorem dX13_printBare_157 : decode cX13_printBare 157 = .ok (.aload_n 0, 1) := by decide +kernel
theorem dX13_printBare_158 : decode cX13_printBare 158 = .ok (.aload_n 0, 1) := by decide +kernel
theorem dX13_printBare_159 : decode cX13_printBare 159 = .ok (.getfield 60, 3) := by decide +kernel
theorem dX13_printBare_162 : decode cX13_printBare 162 = .ok (.aload_n 0, 1) := by decide +kernel
theorem dX13_printBare_163 : decode cX13_printBare 163 = .ok (.getfield 54, 3) := by decide +kernel
theorem dX13_printBare_166 : decode cX13_printBare 166 = .ok (.iload_n 1, 1) := by decide +kernel
theorem dX13_printBare_167 : decode cX13_printBare 167 = .ok (.iaload, 1) := by decide +kernel
theorem dX13_printBare_168 : decode cX13_printBare 168 = .ok (.iaload, 1) := by decide +kernel
theorem dX13_printBare_169 : decode cX13_printBare 169 = .ok (.invokevirtual 775, 3) := by decide +kernel
theorem dX13_printBare_172 : decode cX13_printBare 172 = .ok (.iconst 0, 1) := by decide +kernel
theorem dX13_printBare_173 : decode cX13_printBare 173 = .ok (.istore 4, 2) := by decide +kernel
theorem dX13_printBare_175 : decode cX13_printBare 175 = .ok (.iload 4, 2) := by decide +kernel
theorem dX13_printBare_177 : decode cX13_printBare 177 = .ok (.iload_n 3, 1) := by decide +kernel
theorem dX13_printBare_178 : decode cX13_printBare 178 = .ok (.if_icmp .ge 22, 3) := by decide +kernel
theorem dX13_printBare_181 : decode cX13_printBare 181 = .ok (.aload_n 0, 1) := by decide +kernel
theorem dX13_printBare_182 : decode cX13_printBare 182 = .ok (.aload_n 0, 1) := by decide +kernel
theorem dX13_printBare_183 : decode cX13_printBare 183 = .ok (.getfield 348, 3) := by decide +kernel
theorem dX13_printBare_186 : decode cX13_printBare 186 = .ok (.iload_n 2, 1) := by decide +kernel
theorem dX13_printBare_187 : decode cX13_printBare 187 = .ok (.iload 4, 2) := by decide +kernel
theorem dX13_printBare_189 : decode cX13_printBare 189 = .ok (.iadd, 1) := by decide +kernel
theorem dX13_printBare_190 : decode cX13_printBare 190 = .ok (.iaload, 1) := by decide +kernel
theorem dX13_printBare_191 : decode cX13_printBare 191 = .ok (.invokevirtual 775, 3) := by decide +kernel
theorem dX13_printBare_194 : decode cX13_printBare 194 = .ok (.iinc 4 1, 3) := by decide +kernel
theorem dX13_printBare_197 : decode cX13_printBare 197 = .ok (.goto (-22), 3) := by decide +kernel
theorem dX13_printBare_200 : decode cX13_printBare 200 = .ok (.aload_n 0, 1) := by decide +kernel
theorem dX13_printBare_201 : decode cX13_printBare 201 = .ok (.invokevirtual 778, 3) := by decide +kernel
theorem dX13_printBare_204 : decode cX13_printBare 204 = .ok (.ireturn, 1) := by decide +kernel
theorem dX13_printTree_0 : decode cX13_printTree 0 = .ok (.aload_n 0, 1) := by decide +kernel
theorem dX13_printTree_1 : decode cX13_printTree 1 = .ok (.getfield 57, 3) := by decide +kernel
theorem dX13_printTree_4 : decode cX13_printTree 4 = .ok (.iload_n 2, 1) := by decide +kernel
theorem dX13_printTree_5 : decode cX13_printTree 5 = .ok (.iaload, 1) := by decide +kernel
theorem dX13_printTree_6 : decode cX13_printTree 6 = .ok (.bipush 60, 2) := by decide +kernel
theorem dX13_printTree_8 : decode cX13_printTree 8 = .ok (.if_icmp .le 6, 3) := by decide +kernel
theorem dX13_printTree_11 : decode cX13_printTree 11 = .ok (.bipush (-2), 2) := by decide +kernel
theorem dX13_printTree_13 : decode cX13_printTree 13 = .ok (.ireturn, 1) := by decide +kernel
theorem dX13_printTree_14 : decode cX13_printTree 14 = .ok (.aload_n 0, 1) := by decide +kernel
theorem dX13_printTree_15 : decode cX13_printTree 15 = .ok (.invokevirtual 964, 3) := by decide +kernel
theorem dX13_printTree_18 : decode cX13_printTree 18 = .ok (.aload_n 0, 1) := by decide +kernel
theorem dX13_printTree_19 : decode cX13_printTree 19 = .ok (.iload_n 2, 1) := by decide +kernel
theorem dX13_printTree_20 : decode cX13_printTree 20 = .ok (.invokevirtual 912, 3) := by decide +kernel
theorem dX13_printTree_23 : decode cX13_printTree 23 = .ok (.iconst 1, 1) := by decide +kernel
theorem dX13_printTree_24 : decode cX13_printTree 24 = .ok (.if_icmp .eq 5, 3) := by decide +kernel
theorem dX13_printTree_27 : decode cX13_printTree 27 = .ok (.iconst (-1), 1) := by decide +kernel
theorem dX13_printTree_28 : decode cX13_printTree 28 = .ok (.ireturn, 1) := by decide +kernel
theorem dX13_printTree_29 : decode cX13_printTree 29 = .ok (.iload_n 1, 1) := by decide +kernel
theorem dX13_printTree_30 : decode cX13_printTree 30 = .ok (.bipush 7, 2) := by decide +kernel
theorem dX13_printTree_32 : decode cX13_printTree 32 = .ok (.if_icmp .ne 9, 3) := by decide +kernel
theorem dX13_printTree_35 : decode cX13_printTree 35 = .ok (.aload_n 0, 1) := by decide +kernel
theorem dX13_printTree_36 : decode cX13_printTree 36 = .ok (.iload_n 2, 1) := by decide +kernel
theorem dX13_printTree_37 : decode cX13_printTree 37 = .ok (.invokevirtual 970, 3) := by decide +kernel
theorem dX13_printTree_40 : decode cX13_printTree 40 = .ok (.ireturn, 1) := by decide +kernel
theorem dX13_printTree_41 : decode cX13_printTree 41 = .ok (.aload_n 0, 1) := by decide +kernel
theorem dX13_printTree_42 : decode cX13_printTree 42 = .ok (.aload_n 0, 1) := by decide +kernel
theorem dX13_printTree_43 : decode cX13_printTree 43 = .ok (.iload_n 2, 1) := by decide +kernel
theorem dX13_printTree_44 : decode cX13_printTree 44 = .ok (.invokevirtual 909, 3) := by decide +kernel
theorem dX13_printTree_47 : decode cX13_printTree 47 = .ok (.invokevirtual 973, 3) := by decide +kernel
theorem dX13_printTree_50 : decode cX13_printTree 50 = .ok (.aload_n 0, 1) := by decide +kernel
theorem dX13_printTree_51 : decode cX13_printTree 51 = .ok (.invokevirtual 778, 3) := by decide +kernel
theorem dX13_printTree_54 : decode cX13_printTree 54 = .ok (.ireturn, 1) := by decide +kernel
theorem dX13_print_0 : decode cX13_print 0 = .ok (.aload_n 0, 1) := by decide +kernel
theorem dX13_print_1 : decode cX13_print 1 = .ok (.iconst 0, 1) := by decide +kernel
theorem dX13_print_2 : decode cX13_print 2 = .ok (.putfield 760, 3) := by decide +kernel
theorem dX13_print_5 : decode cX13_print 5 = .ok (.aload_n 0, 1) := by decide +kernel
theorem dX13_print_6 : decode cX13_print 6 = .ok (.invokevirtual 964, 3) := by decide +kernel
theorem dX13_print_9 : decode cX13_print 9 = .ok (.iload_n 1, 1) := by decide +kernel
theorem dX13_print_10 : decode cX13_print 10 = .ok (.tableswitch 187 0 7 #[46, 66, 94, 112, 132, 150, 168, 168], 46) := by decide +kernel
theorem dX13_print_56 : decode cX13_print 56 = .ok (.aload_n 0, 1) := by decide +kernel
theorem dX13_print_57 : decode cX13_print 57 = .ok (.iload_n 2, 1) := by decide +kernel
theorem dX13_print_58 : decode cX13_print 58 = .ok (.invokevirtual 709, 3) := by decide +kernel
theorem dX13_print_61 : decode cX13_print 61 = .ok (.ifCond .ne 5, 3) := by decide +kernel
theorem dX13_print_64 : decode cX13_print 64 = .ok (.iconst (-1), 1) := by decide +kernel
theorem dX13_print_65 : decode cX13_print 65 = .ok (.ireturn, 1) := by decide +kernel
theorem dX13_print_66 : decode cX13_print 66 = .ok (.aload_n 0, 1) := by decide +kernel
theorem dX13_print_67 : decode cX13_print 67 = .ok (.iload_n 2, 1) := by decide +kernel
theorem dX13_print_68 : decode cX13_print 68 = .ok (.invokevirtual 803, 3) := by decide +kernel
theorem dX13_print_71 : decode cX13_print 71 = .ok (.aload_n 0, 1) := by decide +kernel
theorem dX13_print_72 : decode cX13_print 72 = .ok (.invokevirtual 778, 3) := by decide +kernel
theorem dX13_print_75 : decode cX13_print 75 = .ok (.ireturn, 1) := by decide +kernel
theorem dX13_print_76 : decode cX13_print 76 = .ok (.iload_n 2, 1) := by decide +kernel
theorem dX13_print_77 : decode cX13_print 77 = .ok (.i2l, 1) := by decide +kernel
theorem dX13_print_78 : decode cX13_print 78 = .ok (.lconst 0, 1) := by decide +kernel
theorem dX13_print_79 : decode cX13_print 79 = .ok (.aload_n 0, 1) := by decide +kernel
theorem dX13_print_80 : decode cX13_print 80 = .ok (.getfield 471, 3) := by decide +kernel
theorem dX13_print_83 : decode cX13_print 83 = .ok (.iconst 1, 1) := by decide +kernel
theorem dX13_print_84 : decode cX13_print 84 = .ok (.isub, 1) := by decide +kernel
theorem dX13_print_85 : decode cX13_print 85 = .ok (.i2l, 1) := by decide +kernel
theorem dX13_print_86 : decode cX13_print 86 = .ok (.invokestatic 388, 3) := by decide +kernel
theorem dX13_print_89 : decode cX13_print 89 = .ok (.ifCond .ne 5, 3) := by decide +kernel
theorem dX13_print_92 : decode cX13_print 92 = .ok (.iconst (-1), 1) := by decide +kernel
theorem dX13_print_93 : decode cX13_print 93 = .ok (.ireturn, 1) := by decide +kernel
theorem dX13_print_94 : decode cX13_print 94 = .ok (.aload_n 0, 1) := by decide +kernel
theorem dX13_print_95 : decode cX13_print 95 = .ok (.iload_n 2, 1) := by decide +kernel
theorem dX13_print_96 : decode cX13_print 96 = .ok (.invokevirtual 775, 3) := by decide +kernel
theorem dX13_print_99 : decode cX13_print 99 = .ok (.aload_n 0, 1) := by decide +kernel
theorem dX13_print_100 : decode cX13_print 100 = .ok (.invokevirtual 778, 3) := by decide +kernel
theorem dX13_print_103 : decode cX13_print 103 = .ok (.ireturn, 1) := by decide +kernel
theorem dX13_print_104 : decode cX13_print 104 = .ok (.aload_n 0, 1) := by decide +kernel
theorem dX13_print_105 : decode cX13_print 105 = .ok (.iload_n 2, 1) := by decide +kernel
theorem dX13_print_106 : decode cX13_print 106 = .ok (.invokevirtual 709, 3) := by decide +kernel
theorem dX13_print_109 : decode cX13_print 109 = .ok (.ifCond .eq 11, 3) := by decide +kernel
theorem dX13_print_112 : decode cX13_print 112 = .ok (.aload_n 0, 1) := by decide +kernel
theorem dX13_print_113 : decode cX13_print 113 = .ok (.iload_n 2, 1) := by decide +kernel
theorem dX13_print_114 : decode cX13_print 114 = .ok (.invokevirtual 976, 3) := by decide +kernel
theorem dX13_print_117 : decode cX13_print 117 = .ok (.goto 4, 3) := by decide +kernel
theorem dX13_print_120 : decode cX13_print 120 = .ok (.iconst (-1), 1) := by decide +kernel
theorem dX13_print_121 : decode cX13_print 121 = .ok (.ireturn, 1) := by decide +kernel
theorem dX13_print_122 : decode cX13_print 122 = .ok (.aload_n 0, 1) := by decide +kernel
theorem dX13_print_123 : decode cX13_print 123 = .ok (.iload_n 2, 1) := by decide +kernel
theorem dX13_print_124 : decode cX13_print 124 = .ok (.iload_n 3, 1) := by decide +kernel
theorem dX13_print_125 : decode cX13_print 125 = .ok (.invokevirtual 745, 3) := by decide +kernel
theorem dX13_print_128 : decode cX13_print 128 = .ok (.ifCond .eq 12, 3) := by decide +kernel
theorem dX13_print_131 : decode cX13_print 131 = .ok (.aload_n 0, 1) := by decide +kernel
theorem dX13_print_132 : decode cX13_print 132 = .ok (.iload_n 2, 1) := by decide +kernel
theorem dX13_print_133 : decode cX13_print 133 = .ok (.iload_n 3, 1) := by decide +kernel
theorem dX13_print_134 : decode cX13_print 134 = .ok (.invokevirtual 979, 3) := by decide +kernel
theorem dX13_print_137 : decode cX13_print 137 = .ok (.goto 4, 3) := by decide +kernel
theorem dX13_print_140 : decode cX13_print 140 = .ok (.iconst (-1), 1) := by decide +kernel
theorem dX13_print_141 : decode cX13_print 141 = .ok (.ireturn, 1) := by decide +kernel
theorem dX13_print_142 : decode cX13_print 142 = .ok (.aload_n 0, 1) := by decide +kernel
theorem dX13_print_143 : decode cX13_print 143 = .ok (.iload_n 2, 1) := by decide +kernel
theorem dX13_print_144 : decode cX13_print 144 = .ok (.invokevirtual 736, 3) := by decide +kernel
theorem dX13_print_147 : decode cX13_print 147 = .ok (.ifCond .eq 11, 3) := by decide +kernel
theorem dX13_print_150 : decode cX13_print 150 = .ok (.aload_n 0, 1) := by decide +kernel
theorem dX13_print_151 : decode cX13_print 151 = .ok (.iload_n 2, 1) := by decide +kernel
theorem dX13_print_152 : decode cX13_print 152 = .ok (.invokevirtual 982, 3) := by decide +kernel
theorem dX13_print_155 : decode cX13_print 155 = .ok (.goto 4, 3) := by decide +kernel
theorem dX13_print_158 : decode cX13_print 158 = .ok (.iconst (-1), 1) := by decide +kernel
theorem dX13_print_159 : decode cX13_print 159 = .ok (.ireturn, 1) := by decide +kernel
theorem dX13_print_160 : decode cX13_print 160 = .ok (.aload_n 0, 1) := by decide +kernel
theorem dX13_print_161 : decode cX13_print 161 = .ok (.iload_n 2, 1) := by decide +kernel
theorem dX13_print_162 : decode cX13_print 162 = .ok (.invokevirtual 736, 3) := by decide +kernel
theorem dX13_print_165 : decode cX13_print 165 = .ok (.ifCond .eq 11, 3) := by decide +kernel
theorem dX13_print_168 : decode cX13_print 168 = .ok (.aload_n 0, 1) := by decide +kernel
theorem dX13_print_169 : decode cX13_print 169 = .ok (.iload_n 2, 1) := by decide +kernel
theorem dX13_print_170 : decode cX13_print 170 = .ok (.invokevirtual 985, 3) := by decide +kernel
theorem dX13_print_173 : decode cX13_print 173 = .ok (.goto 4, 3) := by decide +kernel
theorem dX13_print_176 : decode cX13_print 176 = .ok (.iconst (-1), 1) := by decide +kernel
theorem dX13_print_177 : decode cX13_print 177 = .ok (.ireturn, 1) := by decide +kernel
theorem dX13_print_178 : decode cX13_print 178 = .ok (.aload_n 0, 1) := by decide +kernel
theorem dX13_print_179 : decode cX13_print 179 = .ok (.iload_n 2, 1) := by decide +kernel
theorem dX13_print_180 : decode cX13_print 180 = .ok (.invokevirtual 709, 3) := by decide +kernel
theorem dX13_print_183 : decode cX13_print 183 = .ok (.ifCond .eq 12, 3) := by decide +kernel
theorem dX13_print_186 : decode cX13_print 186 = .ok (.aload_n 0, 1) := by decide +kernel
theorem dX13_print_187 : decode cX13_print 187 = .ok (.iload_n 1, 1) := by decide +kernel
theorem dX13_print_188 : decode cX13_print 188 = .ok (.iload_n 2, 1) := by decide +kernel
theorem dX13_print_189 : decode cX13_print 189 = .ok (.invokevirtual 988, 3) := by decide +kernel
theorem dX13_print_192 : decode cX13_print 192 = .ok (.goto 4, 3) := by decide +kernel
theorem dX13_print_195 : decode cX13_print 195 = .ok (.iconst (-1), 1) := by decide +kernel
theorem dX13_print_196 : decode cX13_print 196 = .ok (.ireturn, 1) := by decide +kernel
theorem dX13_print_197 : decode cX13_print 197 = .ok (.iconst (-1), 1) := by decide +kernel
theorem dX13_print_198 : decode cX13_print 198 = .ok (.ireturn, 1) := by decide +kernel
theorem dX13_takeRow_0 : decode cX13_takeRow 0 = .ok (.iconst 0, 1) := by decide +kernel
theorem dX13_takeRow_1 : decode cX13_takeRow 1 = .ok (.istore_n 1, 1) := by decide +kernel
theorem dX13_takeRow_2 : decode cX13_takeRow 2 = .ok (.aload_n 0, 1) := by decide +kernel
theorem dX13_takeRow_3 : decode cX13_takeRow 3 = .ok (.iconst 0, 1) := by decide +kernel
theorem dX13_takeRow_4 : decode cX13_takeRow 4 = .ok (.invokevirtual 712, 3) := by decide +kernel
theorem dX13_takeRow_7 : decode cX13_takeRow 7 = .ok (.istore_n 2, 1) := by decide +kernel
theorem dX13_takeRow_8 : decode cX13_takeRow 8 = .ok (.iload_n 2, 1) := by decide +kernel
theorem dX13_takeRow_9 : decode cX13_takeRow 9 = .ok (.iconst 1, 1) := by decide +kernel
theorem dX13_takeRow_10 : decode cX13_takeRow 10 = .ok (.if_icmp .ne 7, 3) := by decide +kernel
theorem dX13_takeRow_13 : decode cX13_takeRow 13 = .ok (.iconst 1, 1) := by decide +kernel
theorem dX13_takeRow_14 : decode cX13_takeRow 14 = .ok (.goto 4, 3) := by decide +kernel
theorem dX13_takeRow_17 : decode cX13_takeRow 17 = .ok (.iconst 0, 1) := by decide +kernel
theorem dX13_takeRow_18 : decode cX13_takeRow 18 = .ok (.istore_n 3, 1) := by decide +kernel
theorem dX13_takeRow_19 : decode cX13_takeRow 19 = .ok (.iload_n 2, 1) := by decide +kernel
theorem dX13_takeRow_20 : decode cX13_takeRow 20 = .ok (.iconst 1, 1) := by decide +kernel
theorem dX13_takeRow_21 : decode cX13_takeRow 21 = .ok (.if_icmp .ne 58, 3) := by decide +kernel
theorem dX13_takeRow_24 : decode cX13_takeRow 24 = .ok (.iload_n 3, 1) := by decide +kernel
theorem dX13_takeRow_25 : decode cX13_takeRow 25 = .ok (.ifCond .eq 54, 3) := by decide +kernel
theorem dX13_takeRow_28 : decode cX13_takeRow 28 = .ok (.aload_n 0, 1) := by decide +kernel
theorem dX13_takeRow_29 : decode cX13_takeRow 29 = .ok (.invokevirtual 467, 3) := by decide +kernel
theorem dX13_takeRow_32 : decode cX13_takeRow 32 = .ok (.istore 4, 2) := by decide +kernel
theorem dX13_takeRow_34 : decode cX13_takeRow 34 = .ok (.iload 4, 2) := by decide +kernel
theorem dX13_takeRow_36 : decode cX13_takeRow 36 = .ok (.iconst (-1), 1) := by decide +kernel
theorem dX13_takeRow_37 : decode cX13_takeRow 37 = .ok (.if_icmp .eq 7, 3) := by decide +kernel
theorem dX13_takeRow_40 : decode cX13_takeRow 40 = .ok (.iconst 1, 1) := by decide +kernel
theorem dX13_takeRow_41 : decode cX13_takeRow 41 = .ok (.goto 4, 3) := by decide +kernel
theorem dX13_takeRow_44 : decode cX13_takeRow 44 = .ok (.iconst 0, 1) := by decide +kernel
theorem dX13_takeRow_45 : decode cX13_takeRow 45 = .ok (.istore_n 3, 1) := by decide +kernel
theorem dX13_takeRow_46 : decode cX13_takeRow 46 = .ok (.iload_n 3, 1) := by decide +kernel
theorem dX13_takeRow_47 : decode cX13_takeRow 47 = .ok (.ifCond .eq 17, 3) := by decide +kernel
theorem dX13_takeRow_50 : decode cX13_takeRow 50 = .ok (.iload_n 1, 1) := by decide +kernel
theorem dX13_takeRow_51 : decode cX13_takeRow 51 = .ok (.bipush 60, 2) := by decide +kernel
theorem dX13_takeRow_53 : decode cX13_takeRow 53 = .ok (.if_icmp .ge 11, 3) := by decide +kernel
theorem dX13_takeRow_56 : decode cX13_takeRow 56 = .ok (.aload_n 0, 1) := by decide +kernel
theorem dX13_takeRow_57 : decode cX13_takeRow 57 = .ok (.getfield 354, 3) := by decide +kernel
theorem dX13_takeRow_60 : decode cX13_takeRow 60 = .ok (.iload_n 1, 1) := by decide +kernel
theorem dX13_takeRow_61 : decode cX13_takeRow 61 = .ok (.iload 4, 2) := by decide +kernel
theorem dX13_takeRow_63 : decode cX13_takeRow 63 = .ok (.iastore, 1) := by decide +kernel
theorem dX13_takeRow_64 : decode cX13_takeRow 64 = .ok (.iinc 1 1, 3) := by decide +kernel
theorem dX13_takeRow_67 : decode cX13_takeRow 67 = .ok (.aload_n 0, 1) := by decide +kernel
theorem dX13_takeRow_68 : decode cX13_takeRow 68 = .ok (.aload_n 0, 1) := by decide +kernel
theorem dX13_takeRow_69 : decode cX13_takeRow 69 = .ok (.getfield 427, 3) := by decide +kernel
theorem dX13_takeRow_72 : decode cX13_takeRow 72 = .ok (.invokevirtual 712, 3) := by decide +kernel
theorem dX13_takeRow_75 : decode cX13_takeRow 75 = .ok (.istore_n 2, 1) := by decide +kernel
theorem dX13_takeRow_76 : decode cX13_takeRow 76 = .ok (.goto (-57), 3) := by decide +kernel
theorem dX13_takeRow_79 : decode cX13_takeRow 79 = .ok (.iload_n 3, 1) := by decide +kernel
theorem dX13_takeRow_80 : decode cX13_takeRow 80 = .ok (.ifCond .eq 11, 3) := by decide +kernel
theorem dX13_takeRow_83 : decode cX13_takeRow 83 = .ok (.iload_n 2, 1) := by decide +kernel
theorem dX13_takeRow_84 : decode cX13_takeRow 84 = .ok (.ifCond .ne 7, 3) := by decide +kernel
theorem dX13_takeRow_87 : decode cX13_takeRow 87 = .ok (.iload_n 1, 1) := by decide +kernel
theorem dX13_takeRow_88 : decode cX13_takeRow 88 = .ok (.goto 4, 3) := by decide +kernel
theorem dX13_takeRow_91 : decode cX13_takeRow 91 = .ok (.iconst (-1), 1) := by decide +kernel
theorem dX13_takeRow_92 : decode cX13_takeRow 92 = .ok (.ireturn, 1) := by decide +kernel
theorem dX13_isSameStretch_0 : decode cX13_isSameStretch 0 = .ok (.iload_n 2, 1) := by decide +kernel
theorem dX13_isSameStretch_1 : decode cX13_isSameStretch 1 = .ok (.iload_n 1, 1) := by decide +kernel
theorem dX13_isSameStretch_2 : decode cX13_isSameStretch 2 = .ok (.isub, 1) := by decide +kernel
theorem dX13_isSameStretch_3 : decode cX13_isSameStretch 3 = .ok (.iload 4, 2) := by decide +kernel
theorem dX13_isSameStretch_5 : decode cX13_isSameStretch 5 = .ok (.iload_n 3, 1) := by decide +kernel
theorem dX13_isSameStretch_6 : decode cX13_isSameStretch 6 = .ok (.isub, 1) := by decide +kernel
theorem dX13_isSameStretch_7 : decode cX13_isSameStretch 7 = .ok (.if_icmp .ne 7, 3) := by decide +kernel
theorem dX13_isSameStretch_10 : decode cX13_isSameStretch 10 = .ok (.iconst 1, 1) := by decide +kernel
theorem dX13_isSameStretch_11 : decode cX13_isSameStretch 11 = .ok (.goto 4, 3) := by decide +kernel
theorem dX13_isSameStretch_14 : decode cX13_isSameStretch 14 = .ok (.iconst 0, 1) := by decide +kernel
theorem dX13_isSameStretch_15 : decode cX13_isSameStretch 15 = .ok (.istore 5, 2) := by decide +kernel
theorem dX13_isSameStretch_17 : decode cX13_isSameStretch 17 = .ok (.iconst 0, 1) := by decide +kernel
theorem dX13_isSameStretch_18 : decode cX13_isSameStretch 18 = .ok (.istore 6, 2) := by decide +kernel
theorem dX13_isSameStretch_20 : decode cX13_isSameStretch 20 = .ok (.iload 6, 2) := by decide +kernel
theorem dX13_isSameStretch_22 : decode cX13_isSameStretch 22 = .ok (.iload_n 2, 1) := by decide +kernel
theorem dX13_isSameStretch_23 : decode cX13_isSameStretch 23 = .ok (.iload_n 1, 1) := by decide +kernel
theorem dX13_isSameStretch_24 : decode cX13_isSameStretch 24 = .ok (.isub, 1) := by decide +kernel
theorem dX13_isSameStretch_25 : decode cX13_isSameStretch 25 = .ok (.if_icmp .ge 46, 3) := by decide +kernel
theorem dX13_isSameStretch_28 : decode cX13_isSameStretch 28 = .ok (.iload 5, 2) := by decide +kernel
theorem dX13_isSameStretch_30 : decode cX13_isSameStretch 30 = .ok (.ifCond .eq 41, 3) := by decide +kernel
theorem dX13_isSameStretch_33 : decode cX13_isSameStretch 33 = .ok (.aload_n 0, 1) := by decide +kernel
theorem dX13_isSameStretch_34 : decode cX13_isSameStretch 34 = .ok (.getfield 354, 3) := by decide +kernel
theorem dX13_isSameStretch_37 : decode cX13_isSameStretch 37 = .ok (.iconst 1, 1) := by decide +kernel
theorem dX13_isSameStretch_38 : decode cX13_isSameStretch 38 = .ok (.iload_n 1, 1) := by decide +kernel
theorem dX13_isSameStretch_39 : decode cX13_isSameStretch 39 = .ok (.iadd, 1) := by decide +kernel
theorem dX13_isSameStretch_40 : decode cX13_isSameStretch 40 = .ok (.iload 6, 2) := by decide +kernel
theorem dX13_isSameStretch_42 : decode cX13_isSameStretch 42 = .ok (.iadd, 1) := by decide +kernel
theorem dX13_isSameStretch_43 : decode cX13_isSameStretch 43 = .ok (.iaload, 1) := by decide +kernel
theorem dX13_isSameStretch_44 : decode cX13_isSameStretch 44 = .ok (.aload_n 0, 1) := by decide +kernel
theorem dX13_isSameStretch_45 : decode cX13_isSameStretch 45 = .ok (.getfield 354, 3) := by decide +kernel
theorem dX13_isSameStretch_48 : decode cX13_isSameStretch 48 = .ok (.iconst 1, 1) := by decide +kernel
theorem dX13_isSameStretch_49 : decode cX13_isSameStretch 49 = .ok (.iload_n 3, 1) := by decide +kernel
theorem dX13_isSameStretch_50 : decode cX13_isSameStretch 50 = .ok (.iadd, 1) := by decide +kernel
theorem dX13_isSameStretch_51 : decode cX13_isSameStretch 51 = .ok (.iload 6, 2) := by decide +kernel
theorem dX13_isSameStretch_53 : decode cX13_isSameStretch 53 = .ok (.iadd, 1) := by decide +kernel
theorem dX13_isSameStretch_54 : decode cX13_isSameStretch 54 = .ok (.iaload, 1) := by decide +kernel
theorem dX13_isSameStretch_55 : decode cX13_isSameStretch 55 = .ok (.if_icmp .ne 7, 3) := by decide +kernel
theorem dX13_isSameStretch_58 : decode cX13_isSameStretch 58 = .ok (.iconst 1, 1) := by decide +kernel
theorem dX13_isSameStretch_59 : decode cX13_isSameStretch 59 = .ok (.goto 4, 3) := by decide +kernel
theorem dX13_isSameStretch_62 : decode cX13_isSameStretch 62 = .ok (.iconst 0, 1) := by decide +kernel
theorem dX13_isSameStretch_63 : decode cX13_isSameStretch 63 = .ok (.istore 5, 2) := by decide +kernel
theorem dX13_isSameStretch_65 : decode cX13_isSameStretch 65 = .ok (.iinc 6 1, 3) := by decide +kernel
theorem dX13_isSameStretch_68 : decode cX13_isSameStretch 68 = .ok (.goto (-48), 3) := by decide +kernel
theorem dX13_isSameStretch_71 : decode cX13_isSameStretch 71 = .ok (.iload 5, 2) := by decide +kernel
theorem dX13_isSameStretch_73 : decode cX13_isSameStretch 73 = .ok (.ireturn, 1) := by decide +kernel
theorem dX13_fits_0 : decode cX13_fits 0 = .ok (.aload_n 0, 1) := by decide +kernel
theorem dX13_fits_1 : decode cX13_fits 1 = .ok (.iconst 0, 1) := by decide +kernel
theorem dX13_fits_2 : decode cX13_fits 2 = .ok (.putfield 785, 3) := by decide +kernel
theorem dX13_fits_5 : decode cX13_fits 5 = .ok (.aload_n 0, 1) := by decide +kernel
theorem dX13_fits_6 : decode cX13_fits 6 = .ok (.getfield 222, 3) := by decide +kernel
theorem dX13_fits_9 : decode cX13_fits 9 = .ok (.iconst 0, 1) := by decide +kernel
theorem dX13_fits_10 : decode cX13_fits 10 = .ok (.iload_n 1, 1) := by decide +kernel
theorem dX13_fits_11 : decode cX13_fits 11 = .ok (.iastore, 1) := by decide +kernel
theorem dX13_fits_12 : decode cX13_fits 12 = .ok (.aload_n 0, 1) := by decide +kernel
theorem dX13_fits_13 : decode cX13_fits 13 = .ok (.getfield 363, 3) := by decide +kernel
theorem dX13_fits_16 : decode cX13_fits 16 = .ok (.iconst 0, 1) := by decide +kernel
theorem dX13_fits_17 : decode cX13_fits 17 = .ok (.iload_n 2, 1) := by decide +kernel
theorem dX13_fits_18 : decode cX13_fits 18 = .ok (.iastore, 1) := by decide +kernel
theorem dX13_fits_19 : decode cX13_fits 19 = .ok (.aload_n 0, 1) := by decide +kernel
theorem dX13_fits_20 : decode cX13_fits 20 = .ok (.iconst 1, 1) := by decide +kernel
theorem dX13_fits_21 : decode cX13_fits 21 = .ok (.putfield 785, 3) := by decide +kernel
theorem dX13_fits_24 : decode cX13_fits 24 = .ok (.aload_n 0, 1) := by decide +kernel
theorem dX13_fits_25 : decode cX13_fits 25 = .ok (.getfield 785, 3) := by decide +kernel
theorem dX13_fits_28 : decode cX13_fits 28 = .ok (.ifCond .le 239, 3) := by decide +kernel
theorem dX13_fits_31 : decode cX13_fits 31 = .ok (.aload_n 0, 1) := by decide +kernel
theorem dX13_fits_32 : decode cX13_fits 32 = .ok (.dup, 1) := by decide +kernel
theorem dX13_fits_33 : decode cX13_fits 33 = .ok (.getfield 785, 3) := by decide +kernel
theorem dX13_fits_36 : decode cX13_fits 36 = .ok (.iconst 1, 1) := by decide +kernel
theorem dX13_fits_37 : decode cX13_fits 37 = .ok (.isub, 1) := by decide +kernel
theorem dX13_fits_38 : decode cX13_fits 38 = .ok (.putfield 785, 3) := by decide +kernel
theorem dX13_fits_41 : decode cX13_fits 41 = .ok (.aload_n 0, 1) := by decide +kernel
theorem dX13_fits_42 : decode cX13_fits 42 = .ok (.getfield 222, 3) := by decide +kernel
theorem dX13_fits_45 : decode cX13_fits 45 = .ok (.aload_n 0, 1) := by decide +kernel
theorem dX13_fits_46 : decode cX13_fits 46 = .ok (.getfield 785, 3) := by decide +kernel
theorem dX13_fits_49 : decode cX13_fits 49 = .ok (.iaload, 1) := by decide +kernel
theorem dX13_fits_50 : decode cX13_fits 50 = .ok (.istore_n 3, 1) := by decide +kernel
theorem dX13_fits_51 : decode cX13_fits 51 = .ok (.aload_n 0, 1) := by decide +kernel
theorem dX13_fits_52 : decode cX13_fits 52 = .ok (.getfield 363, 3) := by decide +kernel
theorem dX13_fits_55 : decode cX13_fits 55 = .ok (.aload_n 0, 1) := by decide +kernel
theorem dX13_fits_56 : decode cX13_fits 56 = .ok (.getfield 785, 3) := by decide +kernel
theorem dX13_fits_59 : decode cX13_fits 59 = .ok (.iaload, 1) := by decide +kernel
theorem dX13_fits_60 : decode cX13_fits 60 = .ok (.istore 4, 2) := by decide +kernel
theorem dX13_fits_62 : decode cX13_fits 62 = .ok (.aload_n 0, 1) := by decide +kernel
theorem dX13_fits_63 : decode cX13_fits 63 = .ok (.getfield 299, 3) := by decide +kernel
theorem dX13_fits_66 : decode cX13_fits 66 = .ok (.iload_n 3, 1) := by decide +kernel
theorem dX13_fits_67 : decode cX13_fits 67 = .ok (.iaload, 1) := by decide +kernel
theorem dX13_fits_68 : decode cX13_fits 68 = .ok (.istore 5, 2) := by decide +kernel
theorem dX13_fits_70 : decode cX13_fits 70 = .ok (.iload 5, 2) := by decide +kernel
theorem dX13_fits_72 : decode cX13_fits 72 = .ok (.ifCond .ge 100, 3) := by decide +kernel
theorem dX13_fits_75 : decode cX13_fits 75 = .ok (.aload_n 0, 1) := by decide +kernel
theorem dX13_fits_76 : decode cX13_fits 76 = .ok (.getfield 60, 3) := by decide +kernel
theorem dX13_fits_79 : decode cX13_fits 79 = .ok (.aload_n 0, 1) := by decide +kernel
theorem dX13_fits_80 : decode cX13_fits 80 = .ok (.getfield 54, 3) := by decide +kernel
theorem dX13_fits_83 : decode cX13_fits 83 = .ok (.iconst (-1), 1) := by decide +kernel
theorem dX13_fits_84 : decode cX13_fits 84 = .ok (.iload 5, 2) := by decide +kernel
theorem dX13_fits_86 : decode cX13_fits 86 = .ok (.isub, 1) := by decide +kernel
theorem dX13_fits_87 : decode cX13_fits 87 = .ok (.iaload, 1) := by decide +kernel
theorem dX13_fits_88 : decode cX13_fits 88 = .ok (.iconst 1, 1) := by decide +kernel
theorem dX13_fits_89 : decode cX13_fits 89 = .ok (.iadd, 1) := by decide +kernel
theorem dX13_fits_90 : decode cX13_fits 90 = .ok (.iaload, 1) := by decide +kernel
theorem dX13_fits_91 : decode cX13_fits 91 = .ok (.istore 6, 2) := by decide +kernel
theorem dX13_fits_93 : decode cX13_fits 93 = .ok (.aload_n 0, 1) := by decide +kernel
theorem dX13_fits_94 : decode cX13_fits 94 = .ok (.getfield 357, 3) := by decide +kernel
theorem dX13_fits_97 : decode cX13_fits 97 = .ok (.iload 6, 2) := by decide +kernel
theorem dX13_fits_99 : decode cX13_fits 99 = .ok (.iaload, 1) := by decide +kernel
theorem dX13_fits_100 : decode cX13_fits 100 = .ok (.iconst (-1), 1) := by decide +kernel
theorem dX13_fits_101 : decode cX13_fits 101 = .ok (.if_icmp .ne 34, 3) := by decide +kernel
theorem dX13_fits_104 : decode cX13_fits 104 = .ok (.aload_n 0, 1) := by decide +kernel
theorem dX13_fits_105 : decode cX13_fits 105 = .ok (.getfield 357, 3) := by decide +kernel
theorem dX13_fits_108 : decode cX13_fits 108 = .ok (.iload 6, 2) := by decide +kernel
theorem dX13_fits_110 : decode cX13_fits 110 = .ok (.aload_n 0, 1) := by decide +kernel
theorem dX13_fits_111 : decode cX13_fits 111 = .ok (.getfield 305, 3) := by decide +kernel
theorem dX13_fits_114 : decode cX13_fits 114 = .ok (.iload 4, 2) := by decide +kernel
theorem dX13_fits_116 : decode cX13_fits 116 = .ok (.iaload, 1) := by decide +kernel
theorem dX13_fits_117 : decode cX13_fits 117 = .ok (.iastore, 1) := by decide +kernel
theorem dX13_fits_118 : decode cX13_fits 118 = .ok (.aload_n 0, 1) := by decide +kernel
theorem dX13_fits_119 : decode cX13_fits 119 = .ok (.getfield 360, 3) := by decide +kernel
theorem dX13_fits_122 : decode cX13_fits 122 = .ok (.iload 6, 2) := by decide +kernel
theorem dX13_fits_124 : decode cX13_fits 124 = .ok (.aload_n 0, 1) := by decide +kernel
theorem dX13_fits_125 : decode cX13_fits 125 = .ok (.getfield 308, 3) := by decide +kernel
theorem dX13_fits_128 : decode cX13_fits 128 = .ok (.iload 4, 2) := by decide +kernel
theorem dX13_fits_130 : decode cX13_fits 130 = .ok (.iaload, 1) := by decide +kernel
theorem dX13_fits_131 : decode cX13_fits 131 = .ok (.iastore, 1) := by decide +kernel
theorem dX13_fits_132 : decode cX13_fits 132 = .ok (.goto (-108), 3) := by decide +kernel
theorem dX13_fits_135 : decode cX13_fits 135 = .ok (.aload_n 0, 1) := by decide +kernel
theorem dX13_fits_136 : decode cX13_fits 136 = .ok (.aload_n 0, 1) := by decide +kernel
theorem dX13_fits_137 : decode cX13_fits 137 = .ok (.getfield 357, 3) := by decide +kernel
theorem dX13_fits_140 : decode cX13_fits 140 = .ok (.iload 6, 2) := by decide +kernel
theorem dX13_fits_142 : decode cX13_fits 142 = .ok (.iaload, 1) := by decide +kernel
theorem dX13_fits_143 : decode cX13_fits 143 = .ok (.aload_n 0, 1) := by decide +kernel
theorem dX13_fits_144 : decode cX13_fits 144 = .ok (.getfield 360, 3) := by decide +kernel
theorem dX13_fits_147 : decode cX13_fits 147 = .ok (.iload 6, 2) := by decide +kernel
theorem dX13_fits_149 : decode cX13_fits 149 = .ok (.iaload, 1) := by decide +kernel
theorem dX13_fits_150 : decode cX13_fits 150 = .ok (.aload_n 0, 1) := by decide +kernel
theorem dX13_fits_151 : decode cX13_fits 151 = .ok (.getfield 305, 3) := by decide +kernel
theorem dX13_fits_154 : decode cX13_fits 154 = .ok (.iload 4, 2) := by decide +kernel
theorem dX13_fits_156 : decode cX13_fits 156 = .ok (.iaload, 1) := by decide +kernel
theorem dX13_fits_157 : decode cX13_fits 157 = .ok (.aload_n 0, 1) := by decide +kernel
theorem dX13_fits_158 : decode cX13_fits 158 = .ok (.getfield 308, 3) := by decide +kernel
theorem dX13_fits_161 : decode cX13_fits 161 = .ok (.iload 4, 2) := by decide +kernel
theorem dX13_fits_163 : decode cX13_fits 163 = .ok (.iaload, 1) := by decide +kernel
theorem dX13_fits_164 : decode cX13_fits 164 = .ok (.invokevirtual 991, 3) := by decide +kernel
theorem dX13_fits_167 : decode cX13_fits 167 = .ok (.ifCond .ne (-143), 3) := by decide +kernel
theorem dX13_fits_170 : decode cX13_fits 170 = .ok (.iconst 0, 1) := by decide +kernel
theorem dX13_fits_171 : decode cX13_fits 171 = .ok (.ireturn, 1) := by decide +kernel
theorem dX13_fits_172 : decode cX13_fits 172 = .ok (.aload_n 0, 1) := by decide +kernel
theorem dX13_fits_173 : decode cX13_fits 173 = .ok (.getfield 299, 3) := by decide +kernel
theorem dX13_fits_176 : decode cX13_fits 176 = .ok (.iload 4, 2) := by decide +kernel
theorem dX13_fits_178 : decode cX13_fits 178 = .ok (.iaload, 1) := by decide +kernel
theorem dX13_fits_179 : decode cX13_fits 179 = .ok (.iload 5, 2) := by decide +kernel
theorem dX13_fits_181 : decode cX13_fits 181 = .ok (.if_icmp .eq 5, 3) := by decide +kernel
theorem dX13_fits_184 : decode cX13_fits 184 = .ok (.iconst 0, 1) := by decide +kernel
theorem dX13_fits_185 : decode cX13_fits 185 = .ok (.ireturn, 1) := by decide +kernel
theorem dX13_fits_186 : decode cX13_fits 186 = .ok (.iconst 0, 1) := by decide +kernel
theorem dX13_fits_187 : decode cX13_fits 187 = .ok (.istore 6, 2) := by decide +kernel
theorem dX13_fits_189 : decode cX13_fits 189 = .ok (.iload 6, 2) := by decide +kernel
theorem dX13_fits_191 : decode cX13_fits 191 = .ok (.aload_n 0, 1) := by decide +kernel
theorem dX13_fits_192 : decode cX13_fits 192 = .ok (.getfield 69, 3) := by decide +kernel
theorem dX13_fits_195 : decode cX13_fits 195 = .ok (.iload 5, 2) := by decide +kernel
theorem dX13_fits_197 : decode cX13_fits 197 = .ok (.iaload, 1) := by decide +kernel
theorem dX13_fits_198 : decode cX13_fits 198 = .ok (.if_icmp .ge 66, 3) := by decide +kernel
theorem dX13_fits_201 : decode cX13_fits 201 = .ok (.aload_n 0, 1) := by decide +kernel
theorem dX13_fits_202 : decode cX13_fits 202 = .ok (.getfield 222, 3) := by decide +kernel
theorem dX13_fits_205 : decode cX13_fits 205 = .ok (.aload_n 0, 1) := by decide +kernel
theorem dX13_fits_206 : decode cX13_fits 206 = .ok (.getfield 785, 3) := by decide +kernel
theorem dX13_fits_209 : decode cX13_fits 209 = .ok (.aload_n 0, 1) := by decide +kernel
theorem dX13_fits_210 : decode cX13_fits 210 = .ok (.getfield 314, 3) := by decide +kernel
theorem dX13_fits_213 : decode cX13_fits 213 = .ok (.aload_n 0, 1) := by decide +kernel
theorem dX13_fits_214 : decode cX13_fits 214 = .ok (.getfield 302, 3) := by decide +kernel
theorem dX13_fits_217 : decode cX13_fits 217 = .ok (.iload_n 3, 1) := by decide +kernel
theorem dX13_fits_218 : decode cX13_fits 218 = .ok (.iaload, 1) := by decide +kernel
theorem dX13_fits_219 : decode cX13_fits 219 = .ok (.iload 6, 2) := by decide +kernel
theorem dX13_fits_221 : decode cX13_fits 221 = .ok (.iadd, 1) := by decide +kernel
theorem dX13_fits_222 : decode cX13_fits 222 = .ok (.iaload, 1) := by decide +kernel
theorem dX13_fits_223 : decode cX13_fits 223 = .ok (.iastore, 1) := by decide +kernel
theorem dX13_fits_224 : decode cX13_fits 224 = .ok (.aload_n 0, 1) := by decide +kernel
theorem dX13_fits_225 : decode cX13_fits 225 = .ok (.getfield 363, 3) := by decide +kernel
theorem dX13_fits_228 : decode cX13_fits 228 = .ok (.aload_n 0, 1) := by decide +kernel
theorem dX13_fits_229 : decode cX13_fits 229 = .ok (.getfield 785, 3) := by decide +kernel
theorem dX13_fits_232 : decode cX13_fits 232 = .ok (.aload_n 0, 1) := by decide +kernel
theorem dX13_fits_233 : decode cX13_fits 233 = .ok (.getfield 314, 3) := by decide +kernel
theorem dX13_fits_236 : decode cX13_fits 236 = .ok (.aload_n 0, 1) := by decide +kernel
theorem dX13_fits_237 : decode cX13_fits 237 = .ok (.getfield 302, 3) := by decide +kernel
theorem dX13_fits_240 : decode cX13_fits 240 = .ok (.iload 4, 2) := by decide +kernel
theorem dX13_fits_242 : decode cX13_fits 242 = .ok (.iaload, 1) := by decide +kernel
theorem dX13_fits_243 : decode cX13_fits 243 = .ok (.iload 6, 2) := by decide +kernel
theorem dX13_fits_245 : decode cX13_fits 245 = .ok (.iadd, 1) := by decide +kernel
theorem dX13_fits_246 : decode cX13_fits 246 = .ok (.iaload, 1) := by decide +kernel
theorem dX13_fits_247 : decode cX13_fits 247 = .ok (.iastore, 1) := by decide +kernel
theorem dX13_fits_248 : decode cX13_fits 248 = .ok (.aload_n 0, 1) := by decide +kernel
theorem dX13_fits_249 : decode cX13_fits 249 = .ok (.dup, 1) := by decide +kernel
theorem dX13_fits_250 : decode cX13_fits 250 = .ok (.getfield 785, 3) := by decide +kernel
theorem dX13_fits_253 : decode cX13_fits 253 = .ok (.iconst 1, 1) := by decide +kernel
theorem dX13_fits_254 : decode cX13_fits 254 = .ok (.iadd, 1) := by decide +kernel
theorem dX13_fits_255 : decode cX13_fits 255 = .ok (.putfield 785, 3) := by decide +kernel
theorem dX13_fits_258 : decode cX13_fits 258 = .ok (.iinc 6 1, 3) := by decide +kernel
theorem dX13_fits_261 : decode cX13_fits 261 = .ok (.goto (-72), 3) := by decide +kernel
theorem dX13_fits_264 : decode cX13_fits 264 = .ok (.goto (-240), 3) := by decide +kernel
theorem dX13_fits_267 : decode cX13_fits 267 = .ok (.iconst 1, 1) := by decide +kernel
theorem dX13_fits_268 : decode cX13_fits 268 = .ok (.ireturn, 1) := by decide +kernel
theorem dX13_rowTree_0 : decode cX13_rowTree 0 = .ok (.aload_n 0, 1) := by decide +kernel
theorem dX13_rowTree_1 : decode cX13_rowTree 1 = .ok (.invokevirtual 873, 3) := by decide +kernel
theorem dX13_rowTree_4 : decode cX13_rowTree 4 = .ok (.aload_n 0, 1) := by decide +kernel
theorem dX13_rowTree_5 : decode cX13_rowTree 5 = .ok (.iload_n 1, 1) := by decide +kernel
theorem dX13_rowTree_6 : decode cX13_rowTree 6 = .ok (.iconst 1, 1) := by decide +kernel
theorem dX13_rowTree_7 : decode cX13_rowTree 7 = .ok (.isub, 1) := by decide +kernel
theorem dX13_rowTree_8 : decode cX13_rowTree 8 = .ok (.putfield 867, 3) := by decide +kernel
theorem dX13_rowTree_11 : decode cX13_rowTree 11 = .ok (.iconst 0, 1) := by decide +kernel
theorem dX13_rowTree_12 : decode cX13_rowTree 12 = .ok (.istore_n 2, 1) := by decide +kernel
theorem dX13_rowTree_13 : decode cX13_rowTree 13 = .ok (.iload_n 2, 1) := by decide +kernel
theorem dX13_rowTree_14 : decode cX13_rowTree 14 = .ok (.aload_n 0, 1) := by decide +kernel
theorem dX13_rowTree_15 : decode cX13_rowTree 15 = .ok (.getfield 867, 3) := by decide +kernel
theorem dX13_rowTree_18 : decode cX13_rowTree 18 = .ok (.if_icmp .ge 72, 3) := by decide +kernel
theorem dX13_rowTree_21 : decode cX13_rowTree 21 = .ok (.aload_n 0, 1) := by decide +kernel
theorem dX13_rowTree_22 : decode cX13_rowTree 22 = .ok (.getfield 354, 3) := by decide +kernel
theorem dX13_rowTree_25 : decode cX13_rowTree 25 = .ok (.iconst 1, 1) := by decide +kernel
theorem dX13_rowTree_26 : decode cX13_rowTree 26 = .ok (.iload_n 2, 1) := by decide +kernel
theorem dX13_rowTree_27 : decode cX13_rowTree 27 = .ok (.iadd, 1) := by decide +kernel
theorem dX13_rowTree_28 : decode cX13_rowTree 28 = .ok (.iaload, 1) := by decide +kernel
theorem dX13_rowTree_29 : decode cX13_rowTree 29 = .ok (.istore_n 3, 1) := by decide +kernel
theorem dX13_rowTree_30 : decode cX13_rowTree 30 = .ok (.aload_n 0, 1) := by decide +kernel
theorem dX13_rowTree_31 : decode cX13_rowTree 31 = .ok (.getfield 244, 3) := by decide +kernel
theorem dX13_rowTree_34 : decode cX13_rowTree 34 = .ok (.iload_n 2, 1) := by decide +kernel
theorem dX13_rowTree_35 : decode cX13_rowTree 35 = .ok (.iload_n 3, 1) := by decide +kernel
theorem dX13_rowTree_36 : decode cX13_rowTree 36 = .ok (.iastore, 1) := by decide +kernel
theorem dX13_rowTree_37 : decode cX13_rowTree 37 = .ok (.aload_n 0, 1) := by decide +kernel
theorem dX13_rowTree_38 : decode cX13_rowTree 38 = .ok (.getfield 247, 3) := by decide +kernel
theorem dX13_rowTree_41 : decode cX13_rowTree 41 = .ok (.iload_n 2, 1) := by decide +kernel
theorem dX13_rowTree_42 : decode cX13_rowTree 42 = .ok (.aload_n 0, 1) := by decide +kernel
theorem dX13_rowTree_43 : decode cX13_rowTree 43 = .ok (.getfield 35, 3) := by decide +kernel
theorem dX13_rowTree_46 : decode cX13_rowTree 46 = .ok (.iload_n 3, 1) := by decide +kernel
theorem dX13_rowTree_47 : decode cX13_rowTree 47 = .ok (.baload, 1) := by decide +kernel
theorem dX13_rowTree_48 : decode cX13_rowTree 48 = .ok (.ifCond .eq 27, 3) := by decide +kernel
theorem dX13_rowTree_51 : decode cX13_rowTree 51 = .ok (.aload_n 0, 1) := by decide +kernel
theorem dX13_rowTree_52 : decode cX13_rowTree 52 = .ok (.getfield 42, 3) := by decide +kernel
theorem dX13_rowTree_55 : decode cX13_rowTree 55 = .ok (.iload_n 3, 1) := by decide +kernel
theorem dX13_rowTree_56 : decode cX13_rowTree 56 = .ok (.iaload, 1) := by decide +kernel
theorem dX13_rowTree_57 : decode cX13_rowTree 57 = .ok (.iconst (-1), 1) := by decide +kernel
theorem dX13_rowTree_58 : decode cX13_rowTree 58 = .ok (.if_icmp .eq 17, 3) := by decide +kernel
theorem dX13_rowTree_61 : decode cX13_rowTree 61 = .ok (.aload_n 0, 1) := by decide +kernel
theorem dX13_rowTree_62 : decode cX13_rowTree 62 = .ok (.getfield 241, 3) := by decide +kernel
theorem dX13_rowTree_65 : decode cX13_rowTree 65 = .ok (.aload_n 0, 1) := by decide +kernel
theorem dX13_rowTree_66 : decode cX13_rowTree 66 = .ok (.getfield 42, 3) := by decide +kernel
theorem dX13_rowTree_69 : decode cX13_rowTree 69 = .ok (.iload_n 3, 1) := by decide +kernel
theorem dX13_rowTree_70 : decode cX13_rowTree 70 = .ok (.iaload, 1) := by decide +kernel
theorem dX13_rowTree_71 : decode cX13_rowTree 71 = .ok (.iaload, 1) := by decide +kernel
theorem dX13_rowTree_72 : decode cX13_rowTree 72 = .ok (.goto 4, 3) := by decide +kernel
theorem dX13_rowTree_75 : decode cX13_rowTree 75 = .ok (.iconst (-1), 1) := by decide +kernel
theorem dX13_rowTree_76 : decode cX13_rowTree 76 = .ok (.iastore, 1) := by decide +kernel
theorem dX13_rowTree_77 : decode cX13_rowTree 77 = .ok (.aload_n 0, 1) := by decide +kernel
theorem dX13_rowTree_78 : decode cX13_rowTree 78 = .ok (.getfield 250, 3) := by decide +kernel
theorem dX13_rowTree_81 : decode cX13_rowTree 81 = .ok (.iload_n 2, 1) := by decide +kernel
theorem dX13_rowTree_82 : decode cX13_rowTree 82 = .ok (.iload_n 3, 1) := by decide +kernel
theorem dX13_rowTree_83 : decode cX13_rowTree 83 = .ok (.iastore, 1) := by decide +kernel
theorem dX13_rowTree_84 : decode cX13_rowTree 84 = .ok (.iinc 2 1, 3) := by decide +kernel
theorem dX13_rowTree_87 : decode cX13_rowTree 87 = .ok (.goto (-74), 3) := by decide +kernel
theorem dX13_rowTree_90 : decode cX13_rowTree 90 = .ok (.aload_n 0, 1) := by decide +kernel
theorem dX13_rowTree_91 : decode cX13_rowTree 91 = .ok (.aload_n 0, 1) := by decide +kernel
theorem dX13_rowTree_92 : decode cX13_rowTree 92 = .ok (.getfield 354, 3) := by decide +kernel
theorem dX13_rowTree_95 : decode cX13_rowTree 95 = .ok (.iconst 0, 1) := by decide +kernel
theorem dX13_rowTree_96 : decode cX13_rowTree 96 = .ok (.iaload, 1) := by decide +kernel
theorem dX13_rowTree_97 : decode cX13_rowTree 97 = .ok (.invokevirtual 900, 3) := by decide +kernel
theorem dX13_rowTree_100 : decode cX13_rowTree 100 = .ok (.istore_n 2, 1) := by decide +kernel
theorem dX13_rowTree_101 : decode cX13_rowTree 101 = .ok (.aload_n 0, 1) := by decide +kernel
theorem dX13_rowTree_102 : decode cX13_rowTree 102 = .ok (.iload_n 2, 1) := by decide +kernel
theorem dX13_rowTree_103 : decode cX13_rowTree 103 = .ok (.aload_n 0, 1) := by decide +kernel
theorem dX13_rowTree_104 : decode cX13_rowTree 104 = .ok (.getfield 512, 3) := by decide +kernel
theorem dX13_rowTree_107 : decode cX13_rowTree 107 = .ok (.invokevirtual 903, 3) := by decide +kernel
theorem dX13_rowTree_110 : decode cX13_rowTree 110 = .ok (.iconst 1, 1) := by decide +kernel
theorem dX13_rowTree_111 : decode cX13_rowTree 111 = .ok (.if_icmp .ne 11, 3) := by decide +kernel
theorem dX13_rowTree_114 : decode cX13_rowTree 114 = .ok (.aload_n 0, 1) := by decide +kernel
theorem dX13_rowTree_115 : decode cX13_rowTree 115 = .ok (.iload_n 2, 1) := by decide +kernel
theorem dX13_rowTree_116 : decode cX13_rowTree 116 = .ok (.invokevirtual 906, 3) := by decide +kernel
theorem dX13_rowTree_119 : decode cX13_rowTree 119 = .ok (.goto 4, 3) := by decide +kernel
theorem dX13_rowTree_122 : decode cX13_rowTree 122 = .ok (.iconst (-1), 1) := by decide +kernel
theorem dX13_rowTree_123 : decode cX13_rowTree 123 = .ok (.ireturn, 1) := by decide +kernel
theorem dX13_tellHyps_0 : decode cX13_tellHyps 0 = .ok (.iconst 0, 1) := by decide +kernel
theorem dX13_tellHyps_1 : decode cX13_tellHyps 1 = .ok (.istore_n 2, 1) := by decide +kernel
theorem dX13_tellHyps_2 : decode cX13_tellHyps 2 = .ok (.aload_n 0, 1) := by decide +kernel
theorem dX13_tellHyps_3 : decode cX13_tellHyps 3 = .ok (.iconst 0, 1) := by decide +kernel
theorem dX13_tellHyps_4 : decode cX13_tellHyps 4 = .ok (.putfield 760, 3) := by decide +kernel
theorem dX13_tellHyps_7 : decode cX13_tellHyps 7 = .ok (.aload_n 0, 1) := by decide +kernel
theorem dX13_tellHyps_8 : decode cX13_tellHyps 8 = .ok (.getfield 66, 3) := by decide +kernel
theorem dX13_tellHyps_11 : decode cX13_tellHyps 11 = .ok (.iload_n 1, 1) := by decide +kernel
theorem dX13_tellHyps_12 : decode cX13_tellHyps 12 = .ok (.iaload, 1) := by decide +kernel
theorem dX13_tellHyps_13 : decode cX13_tellHyps 13 = .ok (.istore_n 3, 1) := by decide +kernel
theorem dX13_tellHyps_14 : decode cX13_tellHyps 14 = .ok (.iload_n 3, 1) := by decide +kernel
theorem dX13_tellHyps_15 : decode cX13_tellHyps 15 = .ok (.aload_n 0, 1) := by decide +kernel
theorem dX13_tellHyps_16 : decode cX13_tellHyps 16 = .ok (.getfield 66, 3) := by decide +kernel
theorem dX13_tellHyps_19 : decode cX13_tellHyps 19 = .ok (.iload_n 1, 1) := by decide +kernel
theorem dX13_tellHyps_20 : decode cX13_tellHyps 20 = .ok (.iaload, 1) := by decide +kernel
theorem dX13_tellHyps_21 : decode cX13_tellHyps 21 = .ok (.aload_n 0, 1) := by decide +kernel
theorem dX13_tellHyps_22 : decode cX13_tellHyps 22 = .ok (.getfield 69, 3) := by decide +kernel
theorem dX13_tellHyps_25 : decode cX13_tellHyps 25 = .ok (.iload_n 1, 1) := by decide +kernel
theorem dX13_tellHyps_26 : decode cX13_tellHyps 26 = .ok (.iaload, 1) := by decide +kernel
theorem dX13_tellHyps_27 : decode cX13_tellHyps 27 = .ok (.iadd, 1) := by decide +kernel
theorem dX13_tellHyps_28 : decode cX13_tellHyps 28 = .ok (.if_icmp .ge 163, 3) := by decide +kernel
theorem dX13_tellHyps_31 : decode cX13_tellHyps 31 = .ok (.aload_n 0, 1) := by decide +kernel
theorem dX13_tellHyps_32 : decode cX13_tellHyps 32 = .ok (.getfield 73, 3) := by decide +kernel
theorem dX13_tellHyps_35 : decode cX13_tellHyps 35 = .ok (.iload_n 3, 1) := by decide +kernel
theorem dX13_tellHyps_36 : decode cX13_tellHyps 36 = .ok (.iaload, 1) := by decide +kernel
theorem dX13_tellHyps_37 : decode cX13_tellHyps 37 = .ok (.istore 4, 2) := by decide +kernel
theorem dX13_tellHyps_39 : decode cX13_tellHyps 39 = .ok (.aload_n 0, 1) := by decide +kernel
theorem dX13_tellHyps_40 : decode cX13_tellHyps 40 = .ok (.getfield 51, 3) := by decide +kernel
theorem dX13_tellHyps_43 : decode cX13_tellHyps 43 = .ok (.iload 4, 2) := by decide +kernel
theorem dX13_tellHyps_45 : decode cX13_tellHyps 45 = .ok (.iaload, 1) := by decide +kernel
theorem dX13_tellHyps_46 : decode cX13_tellHyps 46 = .ok (.ifCond .ne 6, 3) := by decide +kernel
theorem dX13_tellHyps_49 : decode cX13_tellHyps 49 = .ok (.goto 136, 3) := by decide +kernel
theorem dX13_tellHyps_52 : decode cX13_tellHyps 52 = .ok (.iload_n 2, 1) := by decide +kernel
theorem dX13_tellHyps_53 : decode cX13_tellHyps 53 = .ok (.ifCond .le 13, 3) := by decide +kernel
theorem dX13_tellHyps_56 : decode cX13_tellHyps 56 = .ok (.aload_n 0, 1) := by decide +kernel
theorem dX13_tellHyps_57 : decode cX13_tellHyps 57 = .ok (.invokevirtual 766, 3) := by decide +kernel
theorem dX13_tellHyps_60 : decode cX13_tellHyps 60 = .ok (.aload_n 0, 1) := by decide +kernel
theorem dX13_tellHyps_61 : decode cX13_tellHyps 61 = .ok (.bipush 44, 2) := by decide +kernel
theorem dX13_tellHyps_63 : decode cX13_tellHyps 63 = .ok (.invokevirtual 763, 3) := by decide +kernel
theorem dX13_tellHyps_66 : decode cX13_tellHyps 66 = .ok (.iinc 2 1, 3) := by decide +kernel
theorem dX13_tellHyps_69 : decode cX13_tellHyps 69 = .ok (.aload_n 0, 1) := by decide +kernel
theorem dX13_tellHyps_70 : decode cX13_tellHyps 70 = .ok (.getfield 54, 3) := by decide +kernel
theorem dX13_tellHyps_73 : decode cX13_tellHyps 73 = .ok (.iload 4, 2) := by decide +kernel
theorem dX13_tellHyps_75 : decode cX13_tellHyps 75 = .ok (.iaload, 1) := by decide +kernel
theorem dX13_tellHyps_76 : decode cX13_tellHyps 76 = .ok (.istore 5, 2) := by decide +kernel
theorem dX13_tellHyps_78 : decode cX13_tellHyps 78 = .ok (.iload 5, 2) := by decide +kernel
theorem dX13_tellHyps_80 : decode cX13_tellHyps 80 = .ok (.aload_n 0, 1) := by decide +kernel
theorem dX13_tellHyps_81 : decode cX13_tellHyps 81 = .ok (.getfield 54, 3) := by decide +kernel
theorem dX13_tellHyps_84 : decode cX13_tellHyps 84 = .ok (.iload 4, 2) := by decide +kernel
theorem dX13_tellHyps_86 : decode cX13_tellHyps 86 = .ok (.iaload, 1) := by decide +kernel
theorem dX13_tellHyps_87 : decode cX13_tellHyps 87 = .ok (.aload_n 0, 1) := by decide +kernel
theorem dX13_tellHyps_88 : decode cX13_tellHyps 88 = .ok (.getfield 57, 3) := by decide +kernel
theorem dX13_tellHyps_91 : decode cX13_tellHyps 91 = .ok (.iload 4, 2) := by decide +kernel
theorem dX13_tellHyps_93 : decode cX13_tellHyps 93 = .ok (.iaload, 1) := by decide +kernel
theorem dX13_tellHyps_94 : decode cX13_tellHyps 94 = .ok (.iadd, 1) := by decide +kernel
theorem dX13_tellHyps_95 : decode cX13_tellHyps 95 = .ok (.if_icmp .ge 90, 3) := by decide +kernel
theorem dX13_tellHyps_98 : decode cX13_tellHyps 98 = .ok (.aload_n 0, 1) := by decide +kernel
theorem dX13_tellHyps_99 : decode cX13_tellHyps 99 = .ok (.getfield 60, 3) := by decide +kernel
theorem dX13_tellHyps_102 : decode cX13_tellHyps 102 = .ok (.iload 5, 2) := by decide +kernel
theorem dX13_tellHyps_104 : decode cX13_tellHyps 104 = .ok (.iaload, 1) := by decide +kernel
theorem dX13_tellHyps_105 : decode cX13_tellHyps 105 = .ok (.istore 6, 2) := by decide +kernel
theorem dX13_tellHyps_107 : decode cX13_tellHyps 107 = .ok (.aload_n 0, 1) := by decide +kernel
theorem dX13_tellHyps_108 : decode cX13_tellHyps 108 = .ok (.getfield 35, 3) := by decide +kernel
theorem dX13_tellHyps_111 : decode cX13_tellHyps 111 = .ok (.iload 6, 2) := by decide +kernel
theorem dX13_tellHyps_113 : decode cX13_tellHyps 113 = .ok (.baload, 1) := by decide +kernel
theorem dX13_tellHyps_114 : decode cX13_tellHyps 114 = .ok (.ifCond .ne 12, 3) := by decide +kernel
theorem dX13_tellHyps_117 : decode cX13_tellHyps 117 = .ok (.aload_n 0, 1) := by decide +kernel
theorem dX13_tellHyps_118 : decode cX13_tellHyps 118 = .ok (.iload 6, 2) := by decide +kernel
theorem dX13_tellHyps_120 : decode cX13_tellHyps 120 = .ok (.invokevirtual 775, 3) := by decide +kernel
theorem dX13_tellHyps_123 : decode cX13_tellHyps 123 = .ok (.goto 56, 3) := by decide +kernel
theorem dX13_tellHyps_126 : decode cX13_tellHyps 126 = .ok (.aload_n 0, 1) := by decide +kernel
theorem dX13_tellHyps_127 : decode cX13_tellHyps 127 = .ok (.getfield 357, 3) := by decide +kernel
theorem dX13_tellHyps_130 : decode cX13_tellHyps 130 = .ok (.iload 6, 2) := by decide +kernel
theorem dX13_tellHyps_132 : decode cX13_tellHyps 132 = .ok (.iaload, 1) := by decide +kernel
theorem dX13_tellHyps_133 : decode cX13_tellHyps 133 = .ok (.iconst (-1), 1) := by decide +kernel
theorem dX13_tellHyps_134 : decode cX13_tellHyps 134 = .ok (.if_icmp .ne 5, 3) := by decide +kernel
theorem dX13_tellHyps_137 : decode cX13_tellHyps 137 = .ok (.iconst (-1), 1) := by decide +kernel
theorem dX13_tellHyps_138 : decode cX13_tellHyps 138 = .ok (.ireturn, 1) := by decide +kernel
theorem dX13_tellHyps_139 : decode cX13_tellHyps 139 = .ok (.aload_n 0, 1) := by decide +kernel
theorem dX13_tellHyps_140 : decode cX13_tellHyps 140 = .ok (.getfield 357, 3) := by decide +kernel
theorem dX13_tellHyps_143 : decode cX13_tellHyps 143 = .ok (.iload 6, 2) := by decide +kernel
theorem dX13_tellHyps_145 : decode cX13_tellHyps 145 = .ok (.iaload, 1) := by decide +kernel
theorem dX13_tellHyps_146 : decode cX13_tellHyps 146 = .ok (.istore 7, 2) := by decide +kernel
theorem dX13_tellHyps_148 : decode cX13_tellHyps 148 = .ok (.iload 7, 2) := by decide +kernel
theorem dX13_tellHyps_150 : decode cX13_tellHyps 150 = .ok (.aload_n 0, 1) := by decide +kernel
theorem dX13_tellHyps_151 : decode cX13_tellHyps 151 = .ok (.getfield 360, 3) := by decide +kernel
theorem dX13_tellHyps_154 : decode cX13_tellHyps 154 = .ok (.iload 6, 2) := by decide +kernel
theorem dX13_tellHyps_156 : decode cX13_tellHyps 156 = .ok (.iaload, 1) := by decide +kernel
theorem dX13_tellHyps_157 : decode cX13_tellHyps 157 = .ok (.if_icmp .ge 22, 3) := by decide +kernel
theorem dX13_tellHyps_160 : decode cX13_tellHyps 160 = .ok (.aload_n 0, 1) := by decide +kernel
theorem dX13_tellHyps_161 : decode cX13_tellHyps 161 = .ok (.aload_n 0, 1) := by decide +kernel
theorem dX13_tellHyps_162 : decode cX13_tellHyps 162 = .ok (.getfield 354, 3) := by decide +kernel
theorem dX13_tellHyps_165 : decode cX13_tellHyps 165 = .ok (.iconst 1, 1) := by decide +kernel
theorem dX13_tellHyps_166 : decode cX13_tellHyps 166 = .ok (.iload 7, 2) := by decide +kernel
theorem dX13_tellHyps_168 : decode cX13_tellHyps 168 = .ok (.iadd, 1) := by decide +kernel
theorem dX13_tellHyps_169 : decode cX13_tellHyps 169 = .ok (.iaload, 1) := by decide +kernel
theorem dX13_tellHyps_170 : decode cX13_tellHyps 170 = .ok (.invokevirtual 775, 3) := by decide +kernel
theorem dX13_tellHyps_173 : decode cX13_tellHyps 173 = .ok (.iinc 7 1, 3) := by decide +kernel
theorem dX13_tellHyps_176 : decode cX13_tellHyps 176 = .ok (.goto (-28), 3) := by decide +kernel
theorem dX13_tellHyps_179 : decode cX13_tellHyps 179 = .ok (.iinc 5 1, 3) := by decide +kernel
theorem dX13_tellHyps_182 : decode cX13_tellHyps 182 = .ok (.goto (-104), 3) := by decide +kernel
theorem dX13_tellHyps_185 : decode cX13_tellHyps 185 = .ok (.iinc 3 1, 3) := by decide +kernel
theorem dX13_tellHyps_188 : decode cX13_tellHyps 188 = .ok (.goto (-174), 3) := by decide +kernel
theorem dX13_tellHyps_191 : decode cX13_tellHyps 191 = .ok (.iload_n 2, 1) := by decide +kernel
theorem dX13_tellHyps_192 : decode cX13_tellHyps 192 = .ok (.ireturn, 1) := by decide +kernel
theorem dX13_apply_0 : decode cX13_apply 0 = .ok (.aload_n 0, 1) := by decide +kernel
theorem dX13_apply_1 : decode cX13_apply 1 = .ok (.invokevirtual 995, 3) := by decide +kernel
theorem dX13_apply_4 : decode cX13_apply 4 = .ok (.istore_n 2, 1) := by decide +kernel
theorem dX13_apply_5 : decode cX13_apply 5 = .ok (.aload_n 0, 1) := by decide +kernel
theorem dX13_apply_6 : decode cX13_apply 6 = .ok (.invokevirtual 716, 3) := by decide +kernel
theorem dX13_apply_9 : decode cX13_apply 9 = .ok (.aload_n 0, 1) := by decide +kernel
theorem dX13_apply_10 : decode cX13_apply 10 = .ok (.iload_n 1, 1) := by decide +kernel
theorem dX13_apply_11 : decode cX13_apply 11 = .ok (.invokevirtual 719, 3) := by decide +kernel
theorem dX13_apply_14 : decode cX13_apply 14 = .ok (.ifCond .eq 8, 3) := by decide +kernel
theorem dX13_apply_17 : decode cX13_apply 17 = .ok (.iload_n 2, 1) := by decide +kernel
theorem dX13_apply_18 : decode cX13_apply 18 = .ok (.iconst (-1), 1) := by decide +kernel
theorem dX13_apply_19 : decode cX13_apply 19 = .ok (.if_icmp .ne 5, 3) := by decide +kernel
theorem dX13_apply_22 : decode cX13_apply 22 = .ok (.iconst (-1), 1) := by decide +kernel
theorem dX13_apply_23 : decode cX13_apply 23 = .ok (.ireturn, 1) := by decide +kernel
theorem dX13_apply_24 : decode cX13_apply 24 = .ok (.iload_n 2, 1) := by decide +kernel
theorem dX13_apply_25 : decode cX13_apply 25 = .ok (.bipush 60, 2) := by decide +kernel
theorem dX13_apply_27 : decode cX13_apply 27 = .ok (.if_icmp .gt 14, 3) := by decide +kernel
theorem dX13_apply_30 : decode cX13_apply 30 = .ok (.aload_n 0, 1) := by decide +kernel
theorem dX13_apply_31 : decode cX13_apply 31 = .ok (.getfield 57, 3) := by decide +kernel
theorem dX13_apply_34 : decode cX13_apply 34 = .ok (.iload_n 1, 1) := by decide +kernel
theorem dX13_apply_35 : decode cX13_apply 35 = .ok (.iaload, 1) := by decide +kernel
theorem dX13_apply_36 : decode cX13_apply 36 = .ok (.bipush 60, 2) := by decide +kernel
theorem dX13_apply_38 : decode cX13_apply 38 = .ok (.if_icmp .le 6, 3) := by decide +kernel
theorem dX13_apply_41 : decode cX13_apply 41 = .ok (.bipush (-2), 2) := by decide +kernel
theorem dX13_apply_43 : decode cX13_apply 43 = .ok (.ireturn, 1) := by decide +kernel
theorem dX13_apply_44 : decode cX13_apply 44 = .ok (.aload_n 0, 1) := by decide +kernel
theorem dX13_apply_45 : decode cX13_apply 45 = .ok (.invokevirtual 964, 3) := by decide +kernel
theorem dX13_apply_48 : decode cX13_apply 48 = .ok (.aload_n 0, 1) := by decide +kernel
theorem dX13_apply_49 : decode cX13_apply 49 = .ok (.getfield 354, 3) := by decide +kernel
theorem dX13_apply_52 : decode cX13_apply 52 = .ok (.iconst 0, 1) := by decide +kernel
theorem dX13_apply_53 : decode cX13_apply 53 = .ok (.iaload, 1) := by decide +kernel
theorem dX13_apply_54 : decode cX13_apply 54 = .ok (.aload_n 0, 1) := by decide +kernel
theorem dX13_apply_55 : decode cX13_apply 55 = .ok (.getfield 60, 3) := by decide +kernel
theorem dX13_apply_58 : decode cX13_apply 58 = .ok (.aload_n 0, 1) := by decide +kernel
theorem dX13_apply_59 : decode cX13_apply 59 = .ok (.getfield 54, 3) := by decide +kernel
theorem dX13_apply_62 : decode cX13_apply 62 = .ok (.iload_n 1, 1) := by decide +kernel
theorem dX13_apply_63 : decode cX13_apply 63 = .ok (.iaload, 1) := by decide +kernel
theorem dX13_apply_64 : decode cX13_apply 64 = .ok (.iaload, 1) := by decide +kernel
theorem dX13_apply_65 : decode cX13_apply 65 = .ok (.if_icmp .ne 12, 3) := by decide +kernel
theorem dX13_apply_68 : decode cX13_apply 68 = .ok (.aload_n 0, 1) := by decide +kernel
theorem dX13_apply_69 : decode cX13_apply 69 = .ok (.iload_n 1, 1) := by decide +kernel
theorem dX13_apply_70 : decode cX13_apply 70 = .ok (.invokevirtual 912, 3) := by decide +kernel
theorem dX13_apply_73 : decode cX13_apply 73 = .ok (.iconst 1, 1) := by decide +kernel
theorem dX13_apply_74 : decode cX13_apply 74 = .ok (.if_icmp .eq 5, 3) := by decide +kernel
theorem dX13_apply_77 : decode cX13_apply 77 = .ok (.iconst (-1), 1) := by decide +kernel
theorem dX13_apply_78 : decode cX13_apply 78 = .ok (.ireturn, 1) := by decide +kernel
theorem dX13_apply_79 : decode cX13_apply 79 = .ok (.aload_n 0, 1) := by decide +kernel
theorem dX13_apply_80 : decode cX13_apply 80 = .ok (.iload_n 1, 1) := by decide +kernel
theorem dX13_apply_81 : decode cX13_apply 81 = .ok (.invokevirtual 909, 3) := by decide +kernel
theorem dX13_apply_84 : decode cX13_apply 84 = .ok (.istore_n 3, 1) := by decide +kernel
theorem dX13_apply_85 : decode cX13_apply 85 = .ok (.aload_n 0, 1) := by decide +kernel
theorem dX13_apply_86 : decode cX13_apply 86 = .ok (.iload_n 2, 1) := by decide +kernel
theorem dX13_apply_87 : decode cX13_apply 87 = .ok (.invokevirtual 998, 3) := by decide +kernel
theorem dX13_apply_90 : decode cX13_apply 90 = .ok (.istore 4, 2) := by decide +kernel
theorem dX13_apply_92 : decode cX13_apply 92 = .ok (.iload 4, 2) := by decide +kernel
theorem dX13_apply_94 : decode cX13_apply 94 = .ok (.iconst (-1), 1) := by decide +kernel
theorem dX13_apply_95 : decode cX13_apply 95 = .ok (.if_icmp .ne 5, 3) := by decide +kernel
theorem dX13_apply_98 : decode cX13_apply 98 = .ok (.iconst (-1), 1) := by decide +kernel
theorem dX13_apply_99 : decode cX13_apply 99 = .ok (.ireturn, 1) := by decide +kernel
theorem dX13_apply_100 : decode cX13_apply 100 = .ok (.iconst 0, 1) := by decide +kernel
theorem dX13_apply_101 : decode cX13_apply 101 = .ok (.istore 5, 2) := by decide +kernel
theorem dX13_apply_103 : decode cX13_apply 103 = .ok (.iload 5, 2) := by decide +kernel
theorem dX13_apply_105 : decode cX13_apply 105 = .ok (.aload_n 0, 1) := by decide +kernel
theorem dX13_apply_106 : decode cX13_apply 106 = .ok (.getfield 471, 3) := by decide +kernel
theorem dX13_apply_109 : decode cX13_apply 109 = .ok (.if_icmp .ge 17, 3) := by decide +kernel
theorem dX13_apply_112 : decode cX13_apply 112 = .ok (.aload_n 0, 1) := by decide +kernel
theorem dX13_apply_113 : decode cX13_apply 113 = .ok (.getfield 357, 3) := by decide +kernel
theorem dX13_apply_116 : decode cX13_apply 116 = .ok (.iload 5, 2) := by decide +kernel
theorem dX13_apply_118 : decode cX13_apply 118 = .ok (.iconst (-1), 1) := by decide +kernel
theorem dX13_apply_119 : decode cX13_apply 119 = .ok (.iastore, 1) := by decide +kernel
theorem dX13_apply_120 : decode cX13_apply 120 = .ok (.iinc 5 1, 3) := by decide +kernel
theorem dX13_apply_123 : decode cX13_apply 123 = .ok (.goto (-20), 3) := by decide +kernel
theorem dX13_apply_126 : decode cX13_apply 126 = .ok (.aload_n 0, 1) := by decide +kernel
theorem dX13_apply_127 : decode cX13_apply 127 = .ok (.iload_n 3, 1) := by decide +kernel
theorem dX13_apply_128 : decode cX13_apply 128 = .ok (.iload 4, 2) := by decide +kernel
theorem dX13_apply_130 : decode cX13_apply 130 = .ok (.invokevirtual 1001, 3) := by decide +kernel
theorem dX13_apply_133 : decode cX13_apply 133 = .ok (.ifCond .ne 5, 3) := by decide +kernel
theorem dX13_apply_136 : decode cX13_apply 136 = .ok (.iconst (-1), 1) := by decide +kernel
theorem dX13_apply_137 : decode cX13_apply 137 = .ok (.ireturn, 1) := by decide +kernel
theorem dX13_apply_138 : decode cX13_apply 138 = .ok (.aload_n 0, 1) := by decide +kernel
theorem dX13_apply_139 : decode cX13_apply 139 = .ok (.iload_n 1, 1) := by decide +kernel
theorem dX13_apply_140 : decode cX13_apply 140 = .ok (.invokevirtual 1004, 3) := by decide +kernel
theorem dX13_apply_143 : decode cX13_apply 143 = .ok (.istore 5, 2) := by decide +kernel
theorem dX13_apply_145 : decode cX13_apply 145 = .ok (.iload 5, 2) := by decide +kernel
theorem dX13_apply_147 : decode cX13_apply 147 = .ok (.iconst (-1), 1) := by decide +kernel
theorem dX13_apply_148 : decode cX13_apply 148 = .ok (.if_icmp .ne 5, 3) := by decide +kernel
theorem dX13_apply_151 : decode cX13_apply 151 = .ok (.iconst (-1), 1) := by decide +kernel
theorem dX13_apply_152 : decode cX13_apply 152 = .ok (.ireturn, 1) := by decide +kernel
theorem dX13_apply_153 : decode cX13_apply 153 = .ok (.aload_n 0, 1) := by decide +kernel
theorem dX13_apply_154 : decode cX13_apply 154 = .ok (.invokevirtual 778, 3) := by decide +kernel
theorem dX13_apply_157 : decode cX13_apply 157 = .ok (.bipush (-2), 2) := by decide +kernel
theorem dX13_apply_159 : decode cX13_apply 159 = .ok (.if_icmp .ne 8, 3) := by decide +kernel
theorem dX13_apply_162 : decode cX13_apply 162 = .ok (.bipush (-2), 2) := by decide +kernel
theorem dX13_apply_164 : decode cX13_apply 164 = .ok (.goto 5, 3) := by decide +kernel
theorem dX13_apply_167 : decode cX13_apply 167 = .ok (.iload 5, 2) := by decide +kernel
theorem dX13_apply_169 : decode cX13_apply 169 = .ok (.ireturn, 1) := by decide +kernel
theorem dX13_check_0 : decode cX13_check 0 = .ok (.iconst 1, 1) := by decide +kernel
theorem dX13_check_1 : decode cX13_check 1 = .ok (.ireturn, 1) := by decide +kernel
