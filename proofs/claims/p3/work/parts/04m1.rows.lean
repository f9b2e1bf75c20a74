-- instructions
theorem dX13_areKept_0 : decode cX13_areKept 0 = .ok (.iconst 0, 1) := by decide +kernel
theorem dX13_areKept_1 : decode cX13_areKept 1 = .ok (.istore_n 3, 1) := by decide +kernel
theorem dX13_areKept_2 : decode cX13_areKept 2 = .ok (.iload_n 3, 1) := by decide +kernel
theorem dX13_areKept_3 : decode cX13_areKept 3 = .ok (.aload_n 0, 1) := by decide +kernel
theorem dX13_areKept_4 : decode cX13_areKept 4 = .ok (.getfield 169, 3) := by decide +kernel
theorem dX13_areKept_7 : decode cX13_areKept 7 = .ok (.iload_n 1, 1) := by decide +kernel
theorem dX13_areKept_8 : decode cX13_areKept 8 = .ok (.iaload, 1) := by decide +kernel
theorem dX13_areKept_9 : decode cX13_areKept 9 = .ok (.if_icmp .ge 100, 3) := by decide +kernel
theorem dX13_areKept_12 : decode cX13_areKept 12 = .ok (.aload_n 0, 1) := by decide +kernel
theorem dX13_areKept_13 : decode cX13_areKept 13 = .ok (.getfield 151, 3) := by decide +kernel
theorem dX13_areKept_16 : decode cX13_areKept 16 = .ok (.aload_n 0, 1) := by decide +kernel
theorem dX13_areKept_17 : decode cX13_areKept 17 = .ok (.getfield 166, 3) := by decide +kernel
theorem dX13_areKept_20 : decode cX13_areKept 20 = .ok (.iload_n 1, 1) := by decide +kernel
theorem dX13_areKept_21 : decode cX13_areKept 21 = .ok (.iaload, 1) := by decide +kernel
theorem dX13_areKept_22 : decode cX13_areKept 22 = .ok (.iload_n 3, 1) := by decide +kernel
theorem dX13_areKept_23 : decode cX13_areKept 23 = .ok (.iadd, 1) := by decide +kernel
theorem dX13_areKept_24 : decode cX13_areKept 24 = .ok (.iaload, 1) := by decide +kernel
theorem dX13_areKept_25 : decode cX13_areKept 25 = .ok (.istore 4, 2) := by decide +kernel
theorem dX13_areKept_27 : decode cX13_areKept 27 = .ok (.iconst 0, 1) := by decide +kernel
theorem dX13_areKept_28 : decode cX13_areKept 28 = .ok (.istore 5, 2) := by decide +kernel
theorem dX13_areKept_30 : decode cX13_areKept 30 = .ok (.iload 5, 2) := by decide +kernel
theorem dX13_areKept_32 : decode cX13_areKept 32 = .ok (.aload_n 0, 1) := by decide +kernel
theorem dX13_areKept_33 : decode cX13_areKept 33 = .ok (.getfield 169, 3) := by decide +kernel
theorem dX13_areKept_36 : decode cX13_areKept 36 = .ok (.iload_n 2, 1) := by decide +kernel
theorem dX13_areKept_37 : decode cX13_areKept 37 = .ok (.iaload, 1) := by decide +kernel
theorem dX13_areKept_38 : decode cX13_areKept 38 = .ok (.if_icmp .ge 65, 3) := by decide +kernel
theorem dX13_areKept_41 : decode cX13_areKept 41 = .ok (.aload_n 0, 1) := by decide +kernel
theorem dX13_areKept_42 : decode cX13_areKept 42 = .ok (.getfield 35, 3) := by decide +kernel
theorem dX13_areKept_45 : decode cX13_areKept 45 = .ok (.iload 4, 2) := by decide +kernel
theorem dX13_areKept_47 : decode cX13_areKept 47 = .ok (.baload, 1) := by decide +kernel
theorem dX13_areKept_48 : decode cX13_areKept 48 = .ok (.ifCond .eq 55, 3) := by decide +kernel
theorem dX13_areKept_51 : decode cX13_areKept 51 = .ok (.aload_n 0, 1) := by decide +kernel
theorem dX13_areKept_52 : decode cX13_areKept 52 = .ok (.getfield 151, 3) := by decide +kernel
theorem dX13_areKept_55 : decode cX13_areKept 55 = .ok (.aload_n 0, 1) := by decide +kernel
theorem dX13_areKept_56 : decode cX13_areKept 56 = .ok (.getfield 166, 3) := by decide +kernel
theorem dX13_areKept_59 : decode cX13_areKept 59 = .ok (.iload_n 2, 1) := by decide +kernel
theorem dX13_areKept_60 : decode cX13_areKept 60 = .ok (.iaload, 1) := by decide +kernel
theorem dX13_areKept_61 : decode cX13_areKept 61 = .ok (.iload 5, 2) := by decide +kernel
theorem dX13_areKept_63 : decode cX13_areKept 63 = .ok (.iadd, 1) := by decide +kernel
theorem dX13_areKept_64 : decode cX13_areKept 64 = .ok (.iaload, 1) := by decide +kernel
theorem dX13_areKept_65 : decode cX13_areKept 65 = .ok (.istore 6, 2) := by decide +kernel
theorem dX13_areKept_67 : decode cX13_areKept 67 = .ok (.aload_n 0, 1) := by decide +kernel
theorem dX13_areKept_68 : decode cX13_areKept 68 = .ok (.getfield 35, 3) := by decide +kernel
theorem dX13_areKept_71 : decode cX13_areKept 71 = .ok (.iload 6, 2) := by decide +kernel
theorem dX13_areKept_73 : decode cX13_areKept 73 = .ok (.baload, 1) := by decide +kernel
theorem dX13_areKept_74 : decode cX13_areKept 74 = .ok (.ifCond .eq 23, 3) := by decide +kernel
theorem dX13_areKept_77 : decode cX13_areKept 77 = .ok (.iload 4, 2) := by decide +kernel
theorem dX13_areKept_79 : decode cX13_areKept 79 = .ok (.iload 6, 2) := by decide +kernel
theorem dX13_areKept_81 : decode cX13_areKept 81 = .ok (.if_icmp .eq 14, 3) := by decide +kernel
theorem dX13_areKept_84 : decode cX13_areKept 84 = .ok (.aload_n 0, 1) := by decide +kernel
theorem dX13_areKept_85 : decode cX13_areKept 85 = .ok (.iload 4, 2) := by decide +kernel
theorem dX13_areKept_87 : decode cX13_areKept 87 = .ok (.iload 6, 2) := by decide +kernel
theorem dX13_areKept_89 : decode cX13_areKept 89 = .ok (.invokevirtual 497, 3) := by decide +kernel
theorem dX13_areKept_92 : decode cX13_areKept 92 = .ok (.ifCond .ne 5, 3) := by decide +kernel
theorem dX13_areKept_95 : decode cX13_areKept 95 = .ok (.iconst 0, 1) := by decide +kernel
theorem dX13_areKept_96 : decode cX13_areKept 96 = .ok (.ireturn, 1) := by decide +kernel
theorem dX13_areKept_97 : decode cX13_areKept 97 = .ok (.iinc 5 1, 3) := by decide +kernel
theorem dX13_areKept_100 : decode cX13_areKept 100 = .ok (.goto (-70), 3) := by decide +kernel
theorem dX13_areKept_103 : decode cX13_areKept 103 = .ok (.iinc 3 1, 3) := by decide +kernel
theorem dX13_areKept_106 : decode cX13_areKept 106 = .ok (.goto (-104), 3) := by decide +kernel
theorem dX13_areKept_109 : decode cX13_areKept 109 = .ok (.iconst 1, 1) := by decide +kernel
theorem dX13_areKept_110 : decode cX13_areKept 110 = .ok (.ireturn, 1) := by decide +kernel
theorem dX13_applyStep_0 : decode cX13_applyStep 0 = .ok (.aload_n 0, 1) := by decide +kernel
theorem dX13_applyStep_1 : decode cX13_applyStep 1 = .ok (.getfield 69, 3) := by decide +kernel
theorem dX13_applyStep_4 : decode cX13_applyStep 4 = .ok (.iload_n 1, 1) := by decide +kernel
theorem dX13_applyStep_5 : decode cX13_applyStep 5 = .ok (.iaload, 1) := by decide +kernel
theorem dX13_applyStep_6 : decode cX13_applyStep 6 = .ok (.istore 4, 2) := by decide +kernel
theorem dX13_applyStep_8 : decode cX13_applyStep 8 = .ok (.aload_n 0, 1) := by decide +kernel
theorem dX13_applyStep_9 : decode cX13_applyStep 9 = .ok (.getfield 621, 3) := by decide +kernel
theorem dX13_applyStep_12 : decode cX13_applyStep 12 = .ok (.iload 4, 2) := by decide +kernel
theorem dX13_applyStep_14 : decode cX13_applyStep 14 = .ok (.if_icmp .ge 10, 3) := by decide +kernel
theorem dX13_applyStep_17 : decode cX13_applyStep 17 = .ok (.aload_n 0, 1) := by decide +kernel
theorem dX13_applyStep_18 : decode cX13_applyStep 18 = .ok (.bipush 15, 2) := by decide +kernel
theorem dX13_applyStep_20 : decode cX13_applyStep 20 = .ok (.invokevirtual 631, 3) := by decide +kernel
theorem dX13_applyStep_23 : decode cX13_applyStep 23 = .ok (.return_, 1) := by decide +kernel
theorem dX13_applyStep_24 : decode cX13_applyStep 24 = .ok (.aload_n 0, 1) := by decide +kernel
theorem dX13_applyStep_25 : decode cX13_applyStep 25 = .ok (.getfield 621, 3) := by decide +kernel
theorem dX13_applyStep_28 : decode cX13_applyStep 28 = .ok (.iload 4, 2) := by decide +kernel
theorem dX13_applyStep_30 : decode cX13_applyStep 30 = .ok (.isub, 1) := by decide +kernel
theorem dX13_applyStep_31 : decode cX13_applyStep 31 = .ok (.istore 5, 2) := by decide +kernel
theorem dX13_applyStep_33 : decode cX13_applyStep 33 = .ok (.iconst 0, 1) := by decide +kernel
theorem dX13_applyStep_34 : decode cX13_applyStep 34 = .ok (.istore 6, 2) := by decide +kernel
theorem dX13_applyStep_36 : decode cX13_applyStep 36 = .ok (.iload 6, 2) := by decide +kernel
theorem dX13_applyStep_38 : decode cX13_applyStep 38 = .ok (.iload 4, 2) := by decide +kernel
theorem dX13_applyStep_40 : decode cX13_applyStep 40 = .ok (.if_icmp .ge 159, 3) := by decide +kernel
theorem dX13_applyStep_43 : decode cX13_applyStep 43 = .ok (.aload_n 0, 1) := by decide +kernel
theorem dX13_applyStep_44 : decode cX13_applyStep 44 = .ok (.getfield 73, 3) := by decide +kernel
theorem dX13_applyStep_47 : decode cX13_applyStep 47 = .ok (.aload_n 0, 1) := by decide +kernel
theorem dX13_applyStep_48 : decode cX13_applyStep 48 = .ok (.getfield 66, 3) := by decide +kernel
theorem dX13_applyStep_51 : decode cX13_applyStep 51 = .ok (.iload_n 1, 1) := by decide +kernel
theorem dX13_applyStep_52 : decode cX13_applyStep 52 = .ok (.iaload, 1) := by decide +kernel
theorem dX13_applyStep_53 : decode cX13_applyStep 53 = .ok (.iload 6, 2) := by decide +kernel
theorem dX13_applyStep_55 : decode cX13_applyStep 55 = .ok (.iadd, 1) := by decide +kernel
theorem dX13_applyStep_56 : decode cX13_applyStep 56 = .ok (.iaload, 1) := by decide +kernel
theorem dX13_applyStep_57 : decode cX13_applyStep 57 = .ok (.istore 7, 2) := by decide +kernel
theorem dX13_applyStep_59 : decode cX13_applyStep 59 = .ok (.aload_n 0, 1) := by decide +kernel
theorem dX13_applyStep_60 : decode cX13_applyStep 60 = .ok (.getfield 51, 3) := by decide +kernel
theorem dX13_applyStep_63 : decode cX13_applyStep 63 = .ok (.iload 7, 2) := by decide +kernel
theorem dX13_applyStep_65 : decode cX13_applyStep 65 = .ok (.iaload, 1) := by decide +kernel
theorem dX13_applyStep_66 : decode cX13_applyStep 66 = .ok (.ifCond .ne 127, 3) := by decide +kernel
theorem dX13_applyStep_69 : decode cX13_applyStep 69 = .ok (.aload_n 0, 1) := by decide +kernel
theorem dX13_applyStep_70 : decode cX13_applyStep 70 = .ok (.getfield 144, 3) := by decide +kernel
theorem dX13_applyStep_73 : decode cX13_applyStep 73 = .ok (.iload 5, 2) := by decide +kernel
theorem dX13_applyStep_75 : decode cX13_applyStep 75 = .ok (.iload 6, 2) := by decide +kernel
theorem dX13_applyStep_77 : decode cX13_applyStep 77 = .ok (.iadd, 1) := by decide +kernel
theorem dX13_applyStep_78 : decode cX13_applyStep 78 = .ok (.iaload, 1) := by decide +kernel
theorem dX13_applyStep_79 : decode cX13_applyStep 79 = .ok (.ifCond .le 37, 3) := by decide +kernel
theorem dX13_applyStep_82 : decode cX13_applyStep 82 = .ok (.aload_n 0, 1) := by decide +kernel
theorem dX13_applyStep_83 : decode cX13_applyStep 83 = .ok (.getfield 151, 3) := by decide +kernel
theorem dX13_applyStep_86 : decode cX13_applyStep 86 = .ok (.aload_n 0, 1) := by decide +kernel
theorem dX13_applyStep_87 : decode cX13_applyStep 87 = .ok (.getfield 141, 3) := by decide +kernel
theorem dX13_applyStep_90 : decode cX13_applyStep 90 = .ok (.iload 5, 2) := by decide +kernel
theorem dX13_applyStep_92 : decode cX13_applyStep 92 = .ok (.iload 6, 2) := by decide +kernel
theorem dX13_applyStep_94 : decode cX13_applyStep 94 = .ok (.iadd, 1) := by decide +kernel
theorem dX13_applyStep_95 : decode cX13_applyStep 95 = .ok (.iaload, 1) := by decide +kernel
theorem dX13_applyStep_96 : decode cX13_applyStep 96 = .ok (.iaload, 1) := by decide +kernel
theorem dX13_applyStep_97 : decode cX13_applyStep 97 = .ok (.aload_n 0, 1) := by decide +kernel
theorem dX13_applyStep_98 : decode cX13_applyStep 98 = .ok (.getfield 60, 3) := by decide +kernel
theorem dX13_applyStep_101 : decode cX13_applyStep 101 = .ok (.aload_n 0, 1) := by decide +kernel
theorem dX13_applyStep_102 : decode cX13_applyStep 102 = .ok (.getfield 54, 3) := by decide +kernel
theorem dX13_applyStep_105 : decode cX13_applyStep 105 = .ok (.iload 7, 2) := by decide +kernel
theorem dX13_applyStep_107 : decode cX13_applyStep 107 = .ok (.iaload, 1) := by decide +kernel
theorem dX13_applyStep_108 : decode cX13_applyStep 108 = .ok (.iaload, 1) := by decide +kernel
theorem dX13_applyStep_109 : decode cX13_applyStep 109 = .ok (.if_icmp .ne 7, 3) := by decide +kernel
theorem dX13_applyStep_112 : decode cX13_applyStep 112 = .ok (.iconst 1, 1) := by decide +kernel
theorem dX13_applyStep_113 : decode cX13_applyStep 113 = .ok (.goto 4, 3) := by decide +kernel
theorem dX13_applyStep_116 : decode cX13_applyStep 116 = .ok (.iconst 0, 1) := by decide +kernel
theorem dX13_applyStep_117 : decode cX13_applyStep 117 = .ok (.istore 8, 2) := by decide +kernel
theorem dX13_applyStep_119 : decode cX13_applyStep 119 = .ok (.iload 8, 2) := by decide +kernel
theorem dX13_applyStep_121 : decode cX13_applyStep 121 = .ok (.ifCond .ne 10, 3) := by decide +kernel
theorem dX13_applyStep_124 : decode cX13_applyStep 124 = .ok (.aload_n 0, 1) := by decide +kernel
theorem dX13_applyStep_125 : decode cX13_applyStep 125 = .ok (.bipush 16, 2) := by decide +kernel
theorem dX13_applyStep_127 : decode cX13_applyStep 127 = .ok (.invokevirtual 631, 3) := by decide +kernel
theorem dX13_applyStep_130 : decode cX13_applyStep 130 = .ok (.return_, 1) := by decide +kernel
theorem dX13_applyStep_131 : decode cX13_applyStep 131 = .ok (.aload_n 0, 1) := by decide +kernel
theorem dX13_applyStep_132 : decode cX13_applyStep 132 = .ok (.getfield 166, 3) := by decide +kernel
theorem dX13_applyStep_135 : decode cX13_applyStep 135 = .ok (.aload_n 0, 1) := by decide +kernel
theorem dX13_applyStep_136 : decode cX13_applyStep 136 = .ok (.getfield 60, 3) := by decide +kernel
theorem dX13_applyStep_139 : decode cX13_applyStep 139 = .ok (.aload_n 0, 1) := by decide +kernel
theorem dX13_applyStep_140 : decode cX13_applyStep 140 = .ok (.getfield 54, 3) := by decide +kernel
theorem dX13_applyStep_143 : decode cX13_applyStep 143 = .ok (.iload 7, 2) := by decide +kernel
theorem dX13_applyStep_145 : decode cX13_applyStep 145 = .ok (.iaload, 1) := by decide +kernel
theorem dX13_applyStep_146 : decode cX13_applyStep 146 = .ok (.iconst 1, 1) := by decide +kernel
theorem dX13_applyStep_147 : decode cX13_applyStep 147 = .ok (.iadd, 1) := by decide +kernel
theorem dX13_applyStep_148 : decode cX13_applyStep 148 = .ok (.iaload, 1) := by decide +kernel
theorem dX13_applyStep_149 : decode cX13_applyStep 149 = .ok (.aload_n 0, 1) := by decide +kernel
theorem dX13_applyStep_150 : decode cX13_applyStep 150 = .ok (.getfield 141, 3) := by decide +kernel
theorem dX13_applyStep_153 : decode cX13_applyStep 153 = .ok (.iload 5, 2) := by decide +kernel
theorem dX13_applyStep_155 : decode cX13_applyStep 155 = .ok (.iload 6, 2) := by decide +kernel
theorem dX13_applyStep_157 : decode cX13_applyStep 157 = .ok (.iadd, 1) := by decide +kernel
theorem dX13_applyStep_158 : decode cX13_applyStep 158 = .ok (.iaload, 1) := by decide +kernel
theorem dX13_applyStep_159 : decode cX13_applyStep 159 = .ok (.iconst 1, 1) := by decide +kernel
theorem dX13_applyStep_160 : decode cX13_applyStep 160 = .ok (.iadd, 1) := by decide +kernel
theorem dX13_applyStep_161 : decode cX13_applyStep 161 = .ok (.iastore, 1) := by decide +kernel
theorem dX13_applyStep_162 : decode cX13_applyStep 162 = .ok (.aload_n 0, 1) := by decide +kernel
theorem dX13_applyStep_163 : decode cX13_applyStep 163 = .ok (.getfield 169, 3) := by decide +kernel
theorem dX13_applyStep_166 : decode cX13_applyStep 166 = .ok (.aload_n 0, 1) := by decide +kernel
theorem dX13_applyStep_167 : decode cX13_applyStep 167 = .ok (.getfield 60, 3) := by decide +kernel
theorem dX13_applyStep_170 : decode cX13_applyStep 170 = .ok (.aload_n 0, 1) := by decide +kernel
theorem dX13_applyStep_171 : decode cX13_applyStep 171 = .ok (.getfield 54, 3) := by decide +kernel
theorem dX13_applyStep_174 : decode cX13_applyStep 174 = .ok (.iload 7, 2) := by decide +kernel
theorem dX13_applyStep_176 : decode cX13_applyStep 176 = .ok (.iaload, 1) := by decide +kernel
theorem dX13_applyStep_177 : decode cX13_applyStep 177 = .ok (.iconst 1, 1) := by decide +kernel
theorem dX13_applyStep_178 : decode cX13_applyStep 178 = .ok (.iadd, 1) := by decide +kernel
theorem dX13_applyStep_179 : decode cX13_applyStep 179 = .ok (.iaload, 1) := by decide +kernel
theorem dX13_applyStep_180 : decode cX13_applyStep 180 = .ok (.aload_n 0, 1) := by decide +kernel
theorem dX13_applyStep_181 : decode cX13_applyStep 181 = .ok (.getfield 144, 3) := by decide +kernel
theorem dX13_applyStep_184 : decode cX13_applyStep 184 = .ok (.iload 5, 2) := by decide +kernel
theorem dX13_applyStep_186 : decode cX13_applyStep 186 = .ok (.iload 6, 2) := by decide +kernel
theorem dX13_applyStep_188 : decode cX13_applyStep 188 = .ok (.iadd, 1) := by decide +kernel
theorem dX13_applyStep_189 : decode cX13_applyStep 189 = .ok (.iaload, 1) := by decide +kernel
theorem dX13_applyStep_190 : decode cX13_applyStep 190 = .ok (.iconst 1, 1) := by decide +kernel
theorem dX13_applyStep_191 : decode cX13_applyStep 191 = .ok (.isub, 1) := by decide +kernel
theorem dX13_applyStep_192 : decode cX13_applyStep 192 = .ok (.iastore, 1) := by decide +kernel
theorem dX13_applyStep_193 : decode cX13_applyStep 193 = .ok (.iinc 6 1, 3) := by decide +kernel
theorem dX13_applyStep_196 : decode cX13_applyStep 196 = .ok (.goto (-160), 3) := by decide +kernel
theorem dX13_applyStep_199 : decode cX13_applyStep 199 = .ok (.iconst 0, 1) := by decide +kernel
theorem dX13_applyStep_200 : decode cX13_applyStep 200 = .ok (.istore 6, 2) := by decide +kernel
theorem dX13_applyStep_202 : decode cX13_applyStep 202 = .ok (.iload 6, 2) := by decide +kernel
theorem dX13_applyStep_204 : decode cX13_applyStep 204 = .ok (.iload 4, 2) := by decide +kernel
theorem dX13_applyStep_206 : decode cX13_applyStep 206 = .ok (.if_icmp .ge 80, 3) := by decide +kernel
theorem dX13_applyStep_209 : decode cX13_applyStep 209 = .ok (.iload_n 3, 1) := by decide +kernel
theorem dX13_applyStep_210 : decode cX13_applyStep 210 = .ok (.ifCond .eq 76, 3) := by decide +kernel
theorem dX13_applyStep_213 : decode cX13_applyStep 213 = .ok (.aload_n 0, 1) := by decide +kernel
theorem dX13_applyStep_214 : decode cX13_applyStep 214 = .ok (.getfield 73, 3) := by decide +kernel
theorem dX13_applyStep_217 : decode cX13_applyStep 217 = .ok (.aload_n 0, 1) := by decide +kernel
theorem dX13_applyStep_218 : decode cX13_applyStep 218 = .ok (.getfield 66, 3) := by decide +kernel
theorem dX13_applyStep_221 : decode cX13_applyStep 221 = .ok (.iload_n 1, 1) := by decide +kernel
theorem dX13_applyStep_222 : decode cX13_applyStep 222 = .ok (.iaload, 1) := by decide +kernel
theorem dX13_applyStep_223 : decode cX13_applyStep 223 = .ok (.iload 6, 2) := by decide +kernel
theorem dX13_applyStep_225 : decode cX13_applyStep 225 = .ok (.iadd, 1) := by decide +kernel
theorem dX13_applyStep_226 : decode cX13_applyStep 226 = .ok (.iaload, 1) := by decide +kernel
theorem dX13_applyStep_227 : decode cX13_applyStep 227 = .ok (.istore 7, 2) := by decide +kernel
theorem dX13_applyStep_229 : decode cX13_applyStep 229 = .ok (.aload_n 0, 1) := by decide +kernel
theorem dX13_applyStep_230 : decode cX13_applyStep 230 = .ok (.getfield 51, 3) := by decide +kernel
theorem dX13_applyStep_233 : decode cX13_applyStep 233 = .ok (.iload 7, 2) := by decide +kernel
theorem dX13_applyStep_235 : decode cX13_applyStep 235 = .ok (.iaload, 1) := by decide +kernel
theorem dX13_applyStep_236 : decode cX13_applyStep 236 = .ok (.iconst 1, 1) := by decide +kernel
theorem dX13_applyStep_237 : decode cX13_applyStep 237 = .ok (.if_icmp .ne 43, 3) := by decide +kernel
theorem dX13_applyStep_240 : decode cX13_applyStep 240 = .ok (.aload_n 0, 1) := by decide +kernel
theorem dX13_applyStep_241 : decode cX13_applyStep 241 = .ok (.iload 7, 2) := by decide +kernel
theorem dX13_applyStep_243 : decode cX13_applyStep 243 = .ok (.invokevirtual 637, 3) := by decide +kernel
theorem dX13_applyStep_246 : decode cX13_applyStep 246 = .ok (.aload_n 0, 1) := by decide +kernel
theorem dX13_applyStep_247 : decode cX13_applyStep 247 = .ok (.aload_n 0, 1) := by decide +kernel
theorem dX13_applyStep_248 : decode cX13_applyStep 248 = .ok (.getfield 141, 3) := by decide +kernel
theorem dX13_applyStep_251 : decode cX13_applyStep 251 = .ok (.iload 5, 2) := by decide +kernel
theorem dX13_applyStep_253 : decode cX13_applyStep 253 = .ok (.iload 6, 2) := by decide +kernel
theorem dX13_applyStep_255 : decode cX13_applyStep 255 = .ok (.iadd, 1) := by decide +kernel
theorem dX13_applyStep_256 : decode cX13_applyStep 256 = .ok (.iaload, 1) := by decide +kernel
theorem dX13_applyStep_257 : decode cX13_applyStep 257 = .ok (.aload_n 0, 1) := by decide +kernel
theorem dX13_applyStep_258 : decode cX13_applyStep 258 = .ok (.getfield 144, 3) := by decide +kernel
theorem dX13_applyStep_261 : decode cX13_applyStep 261 = .ok (.iload 5, 2) := by decide +kernel
theorem dX13_applyStep_263 : decode cX13_applyStep 263 = .ok (.iload 6, 2) := by decide +kernel
theorem dX13_applyStep_265 : decode cX13_applyStep 265 = .ok (.iadd, 1) := by decide +kernel
theorem dX13_applyStep_266 : decode cX13_applyStep 266 = .ok (.iaload, 1) := by decide +kernel
theorem dX13_applyStep_267 : decode cX13_applyStep 267 = .ok (.invokevirtual 640, 3) := by decide +kernel
theorem dX13_applyStep_270 : decode cX13_applyStep 270 = .ok (.ifCond .ne 10, 3) := by decide +kernel
theorem dX13_applyStep_273 : decode cX13_applyStep 273 = .ok (.aload_n 0, 1) := by decide +kernel
theorem dX13_applyStep_274 : decode cX13_applyStep 274 = .ok (.bipush 16, 2) := by decide +kernel
theorem dX13_applyStep_276 : decode cX13_applyStep 276 = .ok (.invokevirtual 631, 3) := by decide +kernel
theorem dX13_applyStep_279 : decode cX13_applyStep 279 = .ok (.return_, 1) := by decide +kernel
theorem dX13_applyStep_280 : decode cX13_applyStep 280 = .ok (.iinc 6 1, 3) := by decide +kernel
theorem dX13_applyStep_283 : decode cX13_applyStep 283 = .ok (.goto (-81), 3) := by decide +kernel
theorem dX13_applyStep_286 : decode cX13_applyStep 286 = .ok (.aload_n 0, 1) := by decide +kernel
theorem dX13_applyStep_287 : decode cX13_applyStep 287 = .ok (.getfield 76, 3) := by decide +kernel
theorem dX13_applyStep_290 : decode cX13_applyStep 290 = .ok (.iload_n 1, 1) := by decide +kernel
theorem dX13_applyStep_291 : decode cX13_applyStep 291 = .ok (.iaload, 1) := by decide +kernel
theorem dX13_applyStep_292 : decode cX13_applyStep 292 = .ok (.istore 6, 2) := by decide +kernel
theorem dX13_applyStep_294 : decode cX13_applyStep 294 = .ok (.iload 6, 2) := by decide +kernel
theorem dX13_applyStep_296 : decode cX13_applyStep 296 = .ok (.aload_n 0, 1) := by decide +kernel
theorem dX13_applyStep_297 : decode cX13_applyStep 297 = .ok (.getfield 76, 3) := by decide +kernel
theorem dX13_applyStep_300 : decode cX13_applyStep 300 = .ok (.iload_n 1, 1) := by decide +kernel
theorem dX13_applyStep_301 : decode cX13_applyStep 301 = .ok (.iaload, 1) := by decide +kernel
theorem dX13_applyStep_302 : decode cX13_applyStep 302 = .ok (.aload_n 0, 1) := by decide +kernel
theorem dX13_applyStep_303 : decode cX13_applyStep 303 = .ok (.getfield 79, 3) := by decide +kernel
theorem dX13_applyStep_306 : decode cX13_applyStep 306 = .ok (.iload_n 1, 1) := by decide +kernel
theorem dX13_applyStep_307 : decode cX13_applyStep 307 = .ok (.iaload, 1) := by decide +kernel
theorem dX13_applyStep_308 : decode cX13_applyStep 308 = .ok (.iadd, 1) := by decide +kernel
theorem dX13_applyStep_309 : decode cX13_applyStep 309 = .ok (.if_icmp .ge 41, 3) := by decide +kernel
theorem dX13_applyStep_312 : decode cX13_applyStep 312 = .ok (.iload_n 3, 1) := by decide +kernel
theorem dX13_applyStep_313 : decode cX13_applyStep 313 = .ok (.ifCond .eq 37, 3) := by decide +kernel
theorem dX13_applyStep_316 : decode cX13_applyStep 316 = .ok (.aload_n 0, 1) := by decide +kernel
theorem dX13_applyStep_317 : decode cX13_applyStep 317 = .ok (.aload_n 0, 1) := by decide +kernel
theorem dX13_applyStep_318 : decode cX13_applyStep 318 = .ok (.getfield 82, 3) := by decide +kernel
theorem dX13_applyStep_321 : decode cX13_applyStep 321 = .ok (.iload 6, 2) := by decide +kernel
theorem dX13_applyStep_323 : decode cX13_applyStep 323 = .ok (.iaload, 1) := by decide +kernel
theorem dX13_applyStep_324 : decode cX13_applyStep 324 = .ok (.aload_n 0, 1) := by decide +kernel
theorem dX13_applyStep_325 : decode cX13_applyStep 325 = .ok (.getfield 85, 3) := by decide +kernel
theorem dX13_applyStep_328 : decode cX13_applyStep 328 = .ok (.iload 6, 2) := by decide +kernel
theorem dX13_applyStep_330 : decode cX13_applyStep 330 = .ok (.iaload, 1) := by decide +kernel
theorem dX13_applyStep_331 : decode cX13_applyStep 331 = .ok (.invokevirtual 643, 3) := by decide +kernel
theorem dX13_applyStep_334 : decode cX13_applyStep 334 = .ok (.ifCond .ne 10, 3) := by decide +kernel
theorem dX13_applyStep_337 : decode cX13_applyStep 337 = .ok (.aload_n 0, 1) := by decide +kernel
theorem dX13_applyStep_338 : decode cX13_applyStep 338 = .ok (.bipush 17, 2) := by decide +kernel
theorem dX13_applyStep_340 : decode cX13_applyStep 340 = .ok (.invokevirtual 631, 3) := by decide +kernel
theorem dX13_applyStep_343 : decode cX13_applyStep 343 = .ok (.return_, 1) := by decide +kernel
theorem dX13_applyStep_344 : decode cX13_applyStep 344 = .ok (.iinc 6 1, 3) := by decide +kernel
theorem dX13_applyStep_347 : decode cX13_applyStep 347 = .ok (.goto (-53), 3) := by decide +kernel
theorem dX13_applyStep_350 : decode cX13_applyStep 350 = .ok (.aload_n 0, 1) := by decide +kernel
theorem dX13_applyStep_351 : decode cX13_applyStep 351 = .ok (.iload_n 1, 1) := by decide +kernel
theorem dX13_applyStep_352 : decode cX13_applyStep 352 = .ok (.invokevirtual 637, 3) := by decide +kernel
theorem dX13_applyStep_355 : decode cX13_applyStep 355 = .ok (.aload_n 0, 1) := by decide +kernel
theorem dX13_applyStep_356 : decode cX13_applyStep 356 = .ok (.iload 4, 2) := by decide +kernel
theorem dX13_applyStep_358 : decode cX13_applyStep 358 = .ok (.ifCond .ne 10, 3) := by decide +kernel
theorem dX13_applyStep_361 : decode cX13_applyStep 361 = .ok (.aload_n 0, 1) := by decide +kernel
theorem dX13_applyStep_362 : decode cX13_applyStep 362 = .ok (.getfield 624, 3) := by decide +kernel
theorem dX13_applyStep_365 : decode cX13_applyStep 365 = .ok (.goto 10, 3) := by decide +kernel
theorem dX13_applyStep_368 : decode cX13_applyStep 368 = .ok (.aload_n 0, 1) := by decide +kernel
theorem dX13_applyStep_369 : decode cX13_applyStep 369 = .ok (.getfield 141, 3) := by decide +kernel
theorem dX13_applyStep_372 : decode cX13_applyStep 372 = .ok (.iload 5, 2) := by decide +kernel
theorem dX13_applyStep_374 : decode cX13_applyStep 374 = .ok (.iaload, 1) := by decide +kernel
theorem dX13_applyStep_375 : decode cX13_applyStep 375 = .ok (.putfield 624, 3) := by decide +kernel
theorem dX13_applyStep_378 : decode cX13_applyStep 378 = .ok (.aload_n 0, 1) := by decide +kernel
theorem dX13_applyStep_379 : decode cX13_applyStep 379 = .ok (.iload 5, 2) := by decide +kernel
theorem dX13_applyStep_381 : decode cX13_applyStep 381 = .ok (.putfield 621, 3) := by decide +kernel
theorem dX13_applyStep_384 : decode cX13_applyStep 384 = .ok (.aload_n 0, 1) := by decide +kernel
theorem dX13_applyStep_385 : decode cX13_applyStep 385 = .ok (.aload_n 0, 1) := by decide +kernel
theorem dX13_applyStep_386 : decode cX13_applyStep 386 = .ok (.getfield 172, 3) := by decide +kernel
theorem dX13_applyStep_389 : decode cX13_applyStep 389 = .ok (.iconst 0, 1) := by decide +kernel
theorem dX13_applyStep_390 : decode cX13_applyStep 390 = .ok (.aload_n 0, 1) := by decide +kernel
theorem dX13_applyStep_391 : decode cX13_applyStep 391 = .ok (.getfield 634, 3) := by decide +kernel
theorem dX13_applyStep_394 : decode cX13_applyStep 394 = .ok (.iload_n 2, 1) := by decide +kernel
theorem dX13_applyStep_395 : decode cX13_applyStep 395 = .ok (.invokevirtual 646, 3) := by decide +kernel
theorem dX13_applyStep_398 : decode cX13_applyStep 398 = .ok (.return_, 1) := by decide +kernel
theorem dX13_saveTop_0 : decode cX13_saveTop 0 = .ok (.aload_n 0, 1) := by decide +kernel
theorem dX13_saveTop_1 : decode cX13_saveTop 1 = .ok (.getfield 144, 3) := by decide +kernel
theorem dX13_saveTop_4 : decode cX13_saveTop 4 = .ok (.aload_n 0, 1) := by decide +kernel
theorem dX13_saveTop_5 : decode cX13_saveTop 5 = .ok (.getfield 621, 3) := by decide +kernel
theorem dX13_saveTop_8 : decode cX13_saveTop 8 = .ok (.iconst 1, 1) := by decide +kernel
theorem dX13_saveTop_9 : decode cX13_saveTop 9 = .ok (.isub, 1) := by decide +kernel
theorem dX13_saveTop_10 : decode cX13_saveTop 10 = .ok (.iaload, 1) := by decide +kernel
theorem dX13_saveTop_11 : decode cX13_saveTop 11 = .ok (.istore_n 1, 1) := by decide +kernel
theorem dX13_saveTop_12 : decode cX13_saveTop 12 = .ok (.aload_n 0, 1) := by decide +kernel
theorem dX13_saveTop_13 : decode cX13_saveTop 13 = .ok (.getfield 624, 3) := by decide +kernel
theorem dX13_saveTop_16 : decode cX13_saveTop 16 = .ok (.aload_n 0, 1) := by decide +kernel
theorem dX13_saveTop_17 : decode cX13_saveTop 17 = .ok (.getfield 627, 3) := by decide +kernel
theorem dX13_saveTop_20 : decode cX13_saveTop 20 = .ok (.iadd, 1) := by decide +kernel
theorem dX13_saveTop_21 : decode cX13_saveTop 21 = .ok (.iload_n 1, 1) := by decide +kernel
theorem dX13_saveTop_22 : decode cX13_saveTop 22 = .ok (.iadd, 1) := by decide +kernel
theorem dX13_saveTop_23 : decode cX13_saveTop 23 = .ok (.ldc_w 630, 3) := by decide +kernel
theorem dX13_saveTop_26 : decode cX13_saveTop 26 = .ok (.if_icmp .le 9, 3) := by decide +kernel
theorem dX13_saveTop_29 : decode cX13_saveTop 29 = .ok (.aload_n 0, 1) := by decide +kernel
theorem dX13_saveTop_30 : decode cX13_saveTop 30 = .ok (.iconst 5, 1) := by decide +kernel
theorem dX13_saveTop_31 : decode cX13_saveTop 31 = .ok (.invokevirtual 631, 3) := by decide +kernel
theorem dX13_saveTop_34 : decode cX13_saveTop 34 = .ok (.return_, 1) := by decide +kernel
theorem dX13_saveTop_35 : decode cX13_saveTop 35 = .ok (.iconst 0, 1) := by decide +kernel
theorem dX13_saveTop_36 : decode cX13_saveTop 36 = .ok (.istore_n 2, 1) := by decide +kernel
theorem dX13_saveTop_37 : decode cX13_saveTop 37 = .ok (.iload_n 2, 1) := by decide +kernel
theorem dX13_saveTop_38 : decode cX13_saveTop 38 = .ok (.iload_n 1, 1) := by decide +kernel
theorem dX13_saveTop_39 : decode cX13_saveTop 39 = .ok (.if_icmp .ge 38, 3) := by decide +kernel
theorem dX13_saveTop_42 : decode cX13_saveTop 42 = .ok (.aload_n 0, 1) := by decide +kernel
theorem dX13_saveTop_43 : decode cX13_saveTop 43 = .ok (.getfield 163, 3) := by decide +kernel
theorem dX13_saveTop_46 : decode cX13_saveTop 46 = .ok (.aload_n 0, 1) := by decide +kernel
theorem dX13_saveTop_47 : decode cX13_saveTop 47 = .ok (.getfield 627, 3) := by decide +kernel
theorem dX13_saveTop_50 : decode cX13_saveTop 50 = .ok (.iload_n 2, 1) := by decide +kernel
theorem dX13_saveTop_51 : decode cX13_saveTop 51 = .ok (.iadd, 1) := by decide +kernel
theorem dX13_saveTop_52 : decode cX13_saveTop 52 = .ok (.aload_n 0, 1) := by decide +kernel
theorem dX13_saveTop_53 : decode cX13_saveTop 53 = .ok (.getfield 151, 3) := by decide +kernel
theorem dX13_saveTop_56 : decode cX13_saveTop 56 = .ok (.aload_n 0, 1) := by decide +kernel
theorem dX13_saveTop_57 : decode cX13_saveTop 57 = .ok (.getfield 141, 3) := by decide +kernel
theorem dX13_saveTop_60 : decode cX13_saveTop 60 = .ok (.aload_n 0, 1) := by decide +kernel
theorem dX13_saveTop_61 : decode cX13_saveTop 61 = .ok (.getfield 621, 3) := by decide +kernel
theorem dX13_saveTop_64 : decode cX13_saveTop 64 = .ok (.iconst 1, 1) := by decide +kernel
theorem dX13_saveTop_65 : decode cX13_saveTop 65 = .ok (.isub, 1) := by decide +kernel
theorem dX13_saveTop_66 : decode cX13_saveTop 66 = .ok (.iaload, 1) := by decide +kernel
theorem dX13_saveTop_67 : decode cX13_saveTop 67 = .ok (.iload_n 2, 1) := by decide +kernel
theorem dX13_saveTop_68 : decode cX13_saveTop 68 = .ok (.iadd, 1) := by decide +kernel
theorem dX13_saveTop_69 : decode cX13_saveTop 69 = .ok (.iaload, 1) := by decide +kernel
theorem dX13_saveTop_70 : decode cX13_saveTop 70 = .ok (.iastore, 1) := by decide +kernel
theorem dX13_saveTop_71 : decode cX13_saveTop 71 = .ok (.iinc 2 1, 3) := by decide +kernel
theorem dX13_saveTop_74 : decode cX13_saveTop 74 = .ok (.goto (-37), 3) := by decide +kernel
theorem dX13_saveTop_77 : decode cX13_saveTop 77 = .ok (.aload_n 0, 1) := by decide +kernel
theorem dX13_saveTop_78 : decode cX13_saveTop 78 = .ok (.getfield 154, 3) := by decide +kernel
theorem dX13_saveTop_81 : decode cX13_saveTop 81 = .ok (.aload_n 0, 1) := by decide +kernel
theorem dX13_saveTop_82 : decode cX13_saveTop 82 = .ok (.getfield 650, 3) := by decide +kernel
theorem dX13_saveTop_85 : decode cX13_saveTop 85 = .ok (.aload_n 0, 1) := by decide +kernel
theorem dX13_saveTop_86 : decode cX13_saveTop 86 = .ok (.getfield 627, 3) := by decide +kernel
theorem dX13_saveTop_89 : decode cX13_saveTop 89 = .ok (.iastore, 1) := by decide +kernel
theorem dX13_saveTop_90 : decode cX13_saveTop 90 = .ok (.aload_n 0, 1) := by decide +kernel
theorem dX13_saveTop_91 : decode cX13_saveTop 91 = .ok (.getfield 157, 3) := by decide +kernel
theorem dX13_saveTop_94 : decode cX13_saveTop 94 = .ok (.aload_n 0, 1) := by decide +kernel
theorem dX13_saveTop_95 : decode cX13_saveTop 95 = .ok (.getfield 650, 3) := by decide +kernel
theorem dX13_saveTop_98 : decode cX13_saveTop 98 = .ok (.iload_n 1, 1) := by decide +kernel
theorem dX13_saveTop_99 : decode cX13_saveTop 99 = .ok (.iastore, 1) := by decide +kernel
theorem dX13_saveTop_100 : decode cX13_saveTop 100 = .ok (.aload_n 0, 1) := by decide +kernel
theorem dX13_saveTop_101 : decode cX13_saveTop 101 = .ok (.getfield 160, 3) := by decide +kernel
theorem dX13_saveTop_104 : decode cX13_saveTop 104 = .ok (.aload_n 0, 1) := by decide +kernel
theorem dX13_saveTop_105 : decode cX13_saveTop 105 = .ok (.getfield 650, 3) := by decide +kernel
theorem dX13_saveTop_108 : decode cX13_saveTop 108 = .ok (.aload_n 0, 1) := by decide +kernel
theorem dX13_saveTop_109 : decode cX13_saveTop 109 = .ok (.getfield 147, 3) := by decide +kernel
theorem dX13_saveTop_112 : decode cX13_saveTop 112 = .ok (.aload_n 0, 1) := by decide +kernel
theorem dX13_saveTop_113 : decode cX13_saveTop 113 = .ok (.getfield 621, 3) := by decide +kernel
theorem dX13_saveTop_116 : decode cX13_saveTop 116 = .ok (.iconst 1, 1) := by decide +kernel
theorem dX13_saveTop_117 : decode cX13_saveTop 117 = .ok (.isub, 1) := by decide +kernel
theorem dX13_saveTop_118 : decode cX13_saveTop 118 = .ok (.iaload, 1) := by decide +kernel
theorem dX13_saveTop_119 : decode cX13_saveTop 119 = .ok (.iastore, 1) := by decide +kernel
theorem dX13_saveTop_120 : decode cX13_saveTop 120 = .ok (.aload_n 0, 1) := by decide +kernel
theorem dX13_saveTop_121 : decode cX13_saveTop 121 = .ok (.dup, 1) := by decide +kernel
theorem dX13_saveTop_122 : decode cX13_saveTop 122 = .ok (.getfield 627, 3) := by decide +kernel
theorem dX13_saveTop_125 : decode cX13_saveTop 125 = .ok (.iload_n 1, 1) := by decide +kernel
theorem dX13_saveTop_126 : decode cX13_saveTop 126 = .ok (.iadd, 1) := by decide +kernel
theorem dX13_saveTop_127 : decode cX13_saveTop 127 = .ok (.putfield 627, 3) := by decide +kernel
theorem dX13_saveTop_130 : decode cX13_saveTop 130 = .ok (.aload_n 0, 1) := by decide +kernel
theorem dX13_saveTop_131 : decode cX13_saveTop 131 = .ok (.dup, 1) := by decide +kernel
theorem dX13_saveTop_132 : decode cX13_saveTop 132 = .ok (.getfield 650, 3) := by decide +kernel
theorem dX13_saveTop_135 : decode cX13_saveTop 135 = .ok (.iconst 1, 1) := by decide +kernel
theorem dX13_saveTop_136 : decode cX13_saveTop 136 = .ok (.iadd, 1) := by decide +kernel
theorem dX13_saveTop_137 : decode cX13_saveTop 137 = .ok (.putfield 650, 3) := by decide +kernel
theorem dX13_saveTop_140 : decode cX13_saveTop 140 = .ok (.return_, 1) := by decide +kernel
theorem dX13_beginSteps_0 : decode cX13_beginSteps 0 = .ok (.aload_n 0, 1) := by decide +kernel
theorem dX13_beginSteps_1 : decode cX13_beginSteps 1 = .ok (.iconst 0, 1) := by decide +kernel
theorem dX13_beginSteps_2 : decode cX13_beginSteps 2 = .ok (.putfield 621, 3) := by decide +kernel
theorem dX13_beginSteps_5 : decode cX13_beginSteps 5 = .ok (.aload_n 0, 1) := by decide +kernel
theorem dX13_beginSteps_6 : decode cX13_beginSteps 6 = .ok (.iconst 0, 1) := by decide +kernel
theorem dX13_beginSteps_7 : decode cX13_beginSteps 7 = .ok (.putfield 624, 3) := by decide +kernel
theorem dX13_beginSteps_10 : decode cX13_beginSteps 10 = .ok (.aload_n 0, 1) := by decide +kernel
theorem dX13_beginSteps_11 : decode cX13_beginSteps 11 = .ok (.iconst 0, 1) := by decide +kernel
theorem dX13_beginSteps_12 : decode cX13_beginSteps 12 = .ok (.putfield 650, 3) := by decide +kernel
theorem dX13_beginSteps_15 : decode cX13_beginSteps 15 = .ok (.aload_n 0, 1) := by decide +kernel
theorem dX13_beginSteps_16 : decode cX13_beginSteps 16 = .ok (.iconst 0, 1) := by decide +kernel
theorem dX13_beginSteps_17 : decode cX13_beginSteps 17 = .ok (.putfield 627, 3) := by decide +kernel
theorem dX13_beginSteps_20 : decode cX13_beginSteps 20 = .ok (.aload_n 0, 1) := by decide +kernel
theorem dX13_beginSteps_21 : decode cX13_beginSteps 21 = .ok (.iconst 0, 1) := by decide +kernel
theorem dX13_beginSteps_22 : decode cX13_beginSteps 22 = .ok (.putfield 618, 3) := by decide +kernel
theorem dX13_beginSteps_25 : decode cX13_beginSteps 25 = .ok (.return_, 1) := by decide +kernel
theorem dX13_doStep_0 : decode cX13_doStep 0 = .ok (.aload_n 0, 1) := by decide +kernel
theorem dX13_doStep_1 : decode cX13_doStep 1 = .ok (.getfield 94, 3) := by decide +kernel
theorem dX13_doStep_4 : decode cX13_doStep 4 = .ok (.iload_n 1, 1) := by decide +kernel
theorem dX13_doStep_5 : decode cX13_doStep 5 = .ok (.iaload, 1) := by decide +kernel
theorem dX13_doStep_6 : decode cX13_doStep 6 = .ok (.istore 4, 2) := by decide +kernel
theorem dX13_doStep_8 : decode cX13_doStep 8 = .ok (.iload 4, 2) := by decide +kernel
theorem dX13_doStep_10 : decode cX13_doStep 10 = .ok (.ifCond .ge 41, 3) := by decide +kernel
theorem dX13_doStep_13 : decode cX13_doStep 13 = .ok (.aload_n 0, 1) := by decide +kernel
theorem dX13_doStep_14 : decode cX13_doStep 14 = .ok (.aload_n 0, 1) := by decide +kernel
theorem dX13_doStep_15 : decode cX13_doStep 15 = .ok (.getfield 163, 3) := by decide +kernel
theorem dX13_doStep_18 : decode cX13_doStep 18 = .ok (.aload_n 0, 1) := by decide +kernel
theorem dX13_doStep_19 : decode cX13_doStep 19 = .ok (.getfield 154, 3) := by decide +kernel
theorem dX13_doStep_22 : decode cX13_doStep 22 = .ok (.iconst (-1), 1) := by decide +kernel
theorem dX13_doStep_23 : decode cX13_doStep 23 = .ok (.iload 4, 2) := by decide +kernel
theorem dX13_doStep_25 : decode cX13_doStep 25 = .ok (.isub, 1) := by decide +kernel
theorem dX13_doStep_26 : decode cX13_doStep 26 = .ok (.iaload, 1) := by decide +kernel
theorem dX13_doStep_27 : decode cX13_doStep 27 = .ok (.aload_n 0, 1) := by decide +kernel
theorem dX13_doStep_28 : decode cX13_doStep 28 = .ok (.getfield 157, 3) := by decide +kernel
theorem dX13_doStep_31 : decode cX13_doStep 31 = .ok (.iconst (-1), 1) := by decide +kernel
theorem dX13_doStep_32 : decode cX13_doStep 32 = .ok (.iload 4, 2) := by decide +kernel
theorem dX13_doStep_34 : decode cX13_doStep 34 = .ok (.isub, 1) := by decide +kernel
theorem dX13_doStep_35 : decode cX13_doStep 35 = .ok (.iaload, 1) := by decide +kernel
theorem dX13_doStep_36 : decode cX13_doStep 36 = .ok (.aload_n 0, 1) := by decide +kernel
theorem dX13_doStep_37 : decode cX13_doStep 37 = .ok (.getfield 160, 3) := by decide +kernel
theorem dX13_doStep_40 : decode cX13_doStep 40 = .ok (.iconst (-1), 1) := by decide +kernel
theorem dX13_doStep_41 : decode cX13_doStep 41 = .ok (.iload 4, 2) := by decide +kernel
theorem dX13_doStep_43 : decode cX13_doStep 43 = .ok (.isub, 1) := by decide +kernel
theorem dX13_doStep_44 : decode cX13_doStep 44 = .ok (.iaload, 1) := by decide +kernel
theorem dX13_doStep_45 : decode cX13_doStep 45 = .ok (.invokevirtual 646, 3) := by decide +kernel
theorem dX13_doStep_48 : decode cX13_doStep 48 = .ok (.goto 48, 3) := by decide +kernel
theorem dX13_doStep_51 : decode cX13_doStep 51 = .ok (.aload_n 0, 1) := by decide +kernel
theorem dX13_doStep_52 : decode cX13_doStep 52 = .ok (.getfield 51, 3) := by decide +kernel
theorem dX13_doStep_55 : decode cX13_doStep 55 = .ok (.iload 4, 2) := by decide +kernel
theorem dX13_doStep_57 : decode cX13_doStep 57 = .ok (.iaload, 1) := by decide +kernel
theorem dX13_doStep_58 : decode cX13_doStep 58 = .ok (.iconst 2, 1) := by decide +kernel
theorem dX13_doStep_59 : decode cX13_doStep 59 = .ok (.if_icmp .ge 29, 3) := by decide +kernel
theorem dX13_doStep_62 : decode cX13_doStep 62 = .ok (.aload_n 0, 1) := by decide +kernel
theorem dX13_doStep_63 : decode cX13_doStep 63 = .ok (.aload_n 0, 1) := by decide +kernel
theorem dX13_doStep_64 : decode cX13_doStep 64 = .ok (.getfield 60, 3) := by decide +kernel
theorem dX13_doStep_67 : decode cX13_doStep 67 = .ok (.aload_n 0, 1) := by decide +kernel
theorem dX13_doStep_68 : decode cX13_doStep 68 = .ok (.getfield 54, 3) := by decide +kernel
theorem dX13_doStep_71 : decode cX13_doStep 71 = .ok (.iload 4, 2) := by decide +kernel
theorem dX13_doStep_73 : decode cX13_doStep 73 = .ok (.iaload, 1) := by decide +kernel
theorem dX13_doStep_74 : decode cX13_doStep 74 = .ok (.aload_n 0, 1) := by decide +kernel
theorem dX13_doStep_75 : decode cX13_doStep 75 = .ok (.getfield 57, 3) := by decide +kernel
theorem dX13_doStep_78 : decode cX13_doStep 78 = .ok (.iload 4, 2) := by decide +kernel
theorem dX13_doStep_80 : decode cX13_doStep 80 = .ok (.iaload, 1) := by decide +kernel
theorem dX13_doStep_81 : decode cX13_doStep 81 = .ok (.iload_n 2, 1) := by decide +kernel
theorem dX13_doStep_82 : decode cX13_doStep 82 = .ok (.invokevirtual 646, 3) := by decide +kernel
theorem dX13_doStep_85 : decode cX13_doStep 85 = .ok (.goto 11, 3) := by decide +kernel
theorem dX13_doStep_88 : decode cX13_doStep 88 = .ok (.aload_n 0, 1) := by decide +kernel
theorem dX13_doStep_89 : decode cX13_doStep 89 = .ok (.iload 4, 2) := by decide +kernel
theorem dX13_doStep_91 : decode cX13_doStep 91 = .ok (.iload_n 2, 1) := by decide +kernel
theorem dX13_doStep_92 : decode cX13_doStep 92 = .ok (.iload_n 3, 1) := by decide +kernel
theorem dX13_doStep_93 : decode cX13_doStep 93 = .ok (.invokevirtual 653, 3) := by decide +kernel
theorem dX13_doStep_96 : decode cX13_doStep 96 = .ok (.aload_n 0, 1) := by decide +kernel
theorem dX13_doStep_97 : decode cX13_doStep 97 = .ok (.getfield 618, 3) := by decide +kernel
theorem dX13_doStep_100 : decode cX13_doStep 100 = .ok (.ifCond .ne 16, 3) := by decide +kernel
theorem dX13_doStep_103 : decode cX13_doStep 103 = .ok (.aload_n 0, 1) := by decide +kernel
theorem dX13_doStep_104 : decode cX13_doStep 104 = .ok (.getfield 97, 3) := by decide +kernel
theorem dX13_doStep_107 : decode cX13_doStep 107 = .ok (.iload_n 1, 1) := by decide +kernel
theorem dX13_doStep_108 : decode cX13_doStep 108 = .ok (.baload, 1) := by decide +kernel
theorem dX13_doStep_109 : decode cX13_doStep 109 = .ok (.ifCond .eq 7, 3) := by decide +kernel
theorem dX13_doStep_112 : decode cX13_doStep 112 = .ok (.aload_n 0, 1) := by decide +kernel
theorem dX13_doStep_113 : decode cX13_doStep 113 = .ok (.invokevirtual 656, 3) := by decide +kernel
theorem dX13_doStep_116 : decode cX13_doStep 116 = .ok (.return_, 1) := by decide +kernel
theorem dX13_verify_0 : decode cX13_verify 0 = .ok (.aload_n 0, 1) := by decide +kernel
theorem dX13_verify_1 : decode cX13_verify 1 = .ok (.invokevirtual 659, 3) := by decide +kernel
theorem dX13_verify_4 : decode cX13_verify 4 = .ok (.aload_n 0, 1) := by decide +kernel
theorem dX13_verify_5 : decode cX13_verify 5 = .ok (.getfield 88, 3) := by decide +kernel
theorem dX13_verify_8 : decode cX13_verify 8 = .ok (.aload_n 0, 1) := by decide +kernel
theorem dX13_verify_9 : decode cX13_verify 9 = .ok (.getfield 518, 3) := by decide +kernel
theorem dX13_verify_12 : decode cX13_verify 12 = .ok (.iaload, 1) := by decide +kernel
theorem dX13_verify_13 : decode cX13_verify 13 = .ok (.istore_n 1, 1) := by decide +kernel
theorem dX13_verify_14 : decode cX13_verify 14 = .ok (.iload_n 1, 1) := by decide +kernel
theorem dX13_verify_15 : decode cX13_verify 15 = .ok (.aload_n 0, 1) := by decide +kernel
theorem dX13_verify_16 : decode cX13_verify 16 = .ok (.getfield 88, 3) := by decide +kernel
theorem dX13_verify_19 : decode cX13_verify 19 = .ok (.aload_n 0, 1) := by decide +kernel
theorem dX13_verify_20 : decode cX13_verify 20 = .ok (.getfield 518, 3) := by decide +kernel
theorem dX13_verify_23 : decode cX13_verify 23 = .ok (.iaload, 1) := by decide +kernel
theorem dX13_verify_24 : decode cX13_verify 24 = .ok (.aload_n 0, 1) := by decide +kernel
theorem dX13_verify_25 : decode cX13_verify 25 = .ok (.getfield 91, 3) := by decide +kernel
theorem dX13_verify_28 : decode cX13_verify 28 = .ok (.aload_n 0, 1) := by decide +kernel
theorem dX13_verify_29 : decode cX13_verify 29 = .ok (.getfield 518, 3) := by decide +kernel
theorem dX13_verify_32 : decode cX13_verify 32 = .ok (.iaload, 1) := by decide +kernel
theorem dX13_verify_33 : decode cX13_verify 33 = .ok (.iadd, 1) := by decide +kernel
theorem dX13_verify_34 : decode cX13_verify 34 = .ok (.if_icmp .ge 44, 3) := by decide +kernel
theorem dX13_verify_37 : decode cX13_verify 37 = .ok (.aload_n 0, 1) := by decide +kernel
theorem dX13_verify_38 : decode cX13_verify 38 = .ok (.getfield 418, 3) := by decide +kernel
theorem dX13_verify_41 : decode cX13_verify 41 = .ok (.ifCond .ne 37, 3) := by decide +kernel
theorem dX13_verify_44 : decode cX13_verify 44 = .ok (.aload_n 0, 1) := by decide +kernel
theorem dX13_verify_45 : decode cX13_verify 45 = .ok (.iload_n 1, 1) := by decide +kernel
theorem dX13_verify_46 : decode cX13_verify 46 = .ok (.iconst 0, 1) := by decide +kernel
theorem dX13_verify_47 : decode cX13_verify 47 = .ok (.iconst 1, 1) := by decide +kernel
theorem dX13_verify_48 : decode cX13_verify 48 = .ok (.invokevirtual 662, 3) := by decide +kernel
theorem dX13_verify_51 : decode cX13_verify 51 = .ok (.aload_n 0, 1) := by decide +kernel
theorem dX13_verify_52 : decode cX13_verify 52 = .ok (.getfield 618, 3) := by decide +kernel
theorem dX13_verify_55 : decode cX13_verify 55 = .ok (.ifCond .le 17, 3) := by decide +kernel
theorem dX13_verify_58 : decode cX13_verify 58 = .ok (.aload_n 0, 1) := by decide +kernel
theorem dX13_verify_59 : decode cX13_verify 59 = .ok (.aload_n 0, 1) := by decide +kernel
theorem dX13_verify_60 : decode cX13_verify 60 = .ok (.getfield 618, 3) := by decide +kernel
theorem dX13_verify_63 : decode cX13_verify 63 = .ok (.aload_n 0, 1) := by decide +kernel
theorem dX13_verify_64 : decode cX13_verify 64 = .ok (.getfield 100, 3) := by decide +kernel
theorem dX13_verify_67 : decode cX13_verify 67 = .ok (.iload_n 1, 1) := by decide +kernel
theorem dX13_verify_68 : decode cX13_verify 68 = .ok (.iaload, 1) := by decide +kernel
theorem dX13_verify_69 : decode cX13_verify 69 = .ok (.invokevirtual 437, 3) := by decide +kernel
theorem dX13_verify_72 : decode cX13_verify 72 = .ok (.iinc 1 1, 3) := by decide +kernel
theorem dX13_verify_75 : decode cX13_verify 75 = .ok (.goto (-61), 3) := by decide +kernel
theorem dX13_verify_78 : decode cX13_verify 78 = .ok (.aload_n 0, 1) := by decide +kernel
theorem dX13_verify_79 : decode cX13_verify 79 = .ok (.getfield 418, 3) := by decide +kernel
theorem dX13_verify_82 : decode cX13_verify 82 = .ok (.ifCond .le 4, 3) := by decide +kernel
theorem dX13_verify_85 : decode cX13_verify 85 = .ok (.return_, 1) := by decide +kernel
theorem dX13_verify_86 : decode cX13_verify 86 = .ok (.aload_n 0, 1) := by decide +kernel
theorem dX13_verify_87 : decode cX13_verify 87 = .ok (.getfield 621, 3) := by decide +kernel
theorem dX13_verify_90 : decode cX13_verify 90 = .ok (.iconst 1, 1) := by decide +kernel
theorem dX13_verify_91 : decode cX13_verify 91 = .ok (.if_icmp .eq 14, 3) := by decide +kernel
theorem dX13_verify_94 : decode cX13_verify 94 = .ok (.aload_n 0, 1) := by decide +kernel
theorem dX13_verify_95 : decode cX13_verify 95 = .ok (.bipush 18, 2) := by decide +kernel
theorem dX13_verify_97 : decode cX13_verify 97 = .ok (.aload_n 0, 1) := by decide +kernel
theorem dX13_verify_98 : decode cX13_verify 98 = .ok (.getfield 609, 3) := by decide +kernel
theorem dX13_verify_101 : decode cX13_verify 101 = .ok (.invokevirtual 437, 3) := by decide +kernel
theorem dX13_verify_104 : decode cX13_verify 104 = .ok (.return_, 1) := by decide +kernel
theorem dX13_verify_105 : decode cX13_verify 105 = .ok (.aload_n 0, 1) := by decide +kernel
theorem dX13_verify_106 : decode cX13_verify 106 = .ok (.getfield 144, 3) := by decide +kernel
theorem dX13_verify_109 : decode cX13_verify 109 = .ok (.iconst 0, 1) := by decide +kernel
theorem dX13_verify_110 : decode cX13_verify 110 = .ok (.iaload, 1) := by decide +kernel
theorem dX13_verify_111 : decode cX13_verify 111 = .ok (.aload_n 0, 1) := by decide +kernel
theorem dX13_verify_112 : decode cX13_verify 112 = .ok (.getfield 57, 3) := by decide +kernel
theorem dX13_verify_115 : decode cX13_verify 115 = .ok (.aload_n 0, 1) := by decide +kernel
theorem dX13_verify_116 : decode cX13_verify 116 = .ok (.getfield 518, 3) := by decide +kernel
theorem dX13_verify_119 : decode cX13_verify 119 = .ok (.iaload, 1) := by decide +kernel
theorem dX13_verify_120 : decode cX13_verify 120 = .ok (.if_icmp .ne 7, 3) := by decide +kernel
theorem dX13_verify_123 : decode cX13_verify 123 = .ok (.iconst 1, 1) := by decide +kernel
theorem dX13_verify_124 : decode cX13_verify 124 = .ok (.goto 4, 3) := by decide +kernel
theorem dX13_verify_127 : decode cX13_verify 127 = .ok (.iconst 0, 1) := by decide +kernel
theorem dX13_verify_128 : decode cX13_verify 128 = .ok (.istore_n 1, 1) := by decide +kernel
theorem dX13_verify_129 : decode cX13_verify 129 = .ok (.iconst 0, 1) := by decide +kernel
theorem dX13_verify_130 : decode cX13_verify 130 = .ok (.istore_n 2, 1) := by decide +kernel
theorem dX13_verify_131 : decode cX13_verify 131 = .ok (.iload_n 2, 1) := by decide +kernel
theorem dX13_verify_132 : decode cX13_verify 132 = .ok (.aload_n 0, 1) := by decide +kernel
theorem dX13_verify_133 : decode cX13_verify 133 = .ok (.getfield 57, 3) := by decide +kernel
theorem dX13_verify_136 : decode cX13_verify 136 = .ok (.aload_n 0, 1) := by decide +kernel
theorem dX13_verify_137 : decode cX13_verify 137 = .ok (.getfield 518, 3) := by decide +kernel
theorem dX13_verify_140 : decode cX13_verify 140 = .ok (.iaload, 1) := by decide +kernel
theorem dX13_verify_141 : decode cX13_verify 141 = .ok (.if_icmp .ge 44, 3) := by decide +kernel
theorem dX13_verify_144 : decode cX13_verify 144 = .ok (.iload_n 1, 1) := by decide +kernel
theorem dX13_verify_145 : decode cX13_verify 145 = .ok (.ifCond .eq 40, 3) := by decide +kernel
theorem dX13_verify_148 : decode cX13_verify 148 = .ok (.aload_n 0, 1) := by decide +kernel
theorem dX13_verify_149 : decode cX13_verify 149 = .ok (.getfield 151, 3) := by decide +kernel
theorem dX13_verify_152 : decode cX13_verify 152 = .ok (.iload_n 2, 1) := by decide +kernel
theorem dX13_verify_153 : decode cX13_verify 153 = .ok (.iaload, 1) := by decide +kernel
theorem dX13_verify_154 : decode cX13_verify 154 = .ok (.aload_n 0, 1) := by decide +kernel
theorem dX13_verify_155 : decode cX13_verify 155 = .ok (.getfield 60, 3) := by decide +kernel
theorem dX13_verify_158 : decode cX13_verify 158 = .ok (.aload_n 0, 1) := by decide +kernel
theorem dX13_verify_159 : decode cX13_verify 159 = .ok (.getfield 54, 3) := by decide +kernel
theorem dX13_verify_162 : decode cX13_verify 162 = .ok (.aload_n 0, 1) := by decide +kernel
theorem dX13_verify_163 : decode cX13_verify 163 = .ok (.getfield 518, 3) := by decide +kernel
theorem dX13_verify_166 : decode cX13_verify 166 = .ok (.iaload, 1) := by decide +kernel
theorem dX13_verify_167 : decode cX13_verify 167 = .ok (.iload_n 2, 1) := by decide +kernel
theorem dX13_verify_168 : decode cX13_verify 168 = .ok (.iadd, 1) := by decide +kernel
theorem dX13_verify_169 : decode cX13_verify 169 = .ok (.iaload, 1) := by decide +kernel
theorem dX13_verify_170 : decode cX13_verify 170 = .ok (.if_icmp .ne 7, 3) := by decide +kernel
theorem dX13_verify_173 : decode cX13_verify 173 = .ok (.iconst 1, 1) := by decide +kernel
theorem dX13_verify_174 : decode cX13_verify 174 = .ok (.goto 4, 3) := by decide +kernel
theorem dX13_verify_177 : decode cX13_verify 177 = .ok (.iconst 0, 1) := by decide +kernel
theorem dX13_verify_178 : decode cX13_verify 178 = .ok (.istore_n 1, 1) := by decide +kernel
theorem dX13_verify_179 : decode cX13_verify 179 = .ok (.iinc 2 1, 3) := by decide +kernel
theorem dX13_verify_182 : decode cX13_verify 182 = .ok (.goto (-51), 3) := by decide +kernel
theorem dX13_verify_185 : decode cX13_verify 185 = .ok (.iload_n 1, 1) := by decide +kernel
theorem dX13_verify_186 : decode cX13_verify 186 = .ok (.ifCond .ne 13, 3) := by decide +kernel
theorem dX13_verify_189 : decode cX13_verify 189 = .ok (.aload_n 0, 1) := by decide +kernel
theorem dX13_verify_190 : decode cX13_verify 190 = .ok (.bipush 19, 2) := by decide +kernel
theorem dX13_verify_192 : decode cX13_verify 192 = .ok (.aload_n 0, 1) := by decide +kernel
theorem dX13_verify_193 : decode cX13_verify 193 = .ok (.getfield 609, 3) := by decide +kernel
theorem dX13_verify_196 : decode cX13_verify 196 = .ok (.invokevirtual 437, 3) := by decide +kernel
theorem dX13_verify_199 : decode cX13_verify 199 = .ok (.return_, 1) := by decide +kernel
theorem dX13_restOf_0 : decode cX13_restOf 0 = .ok (.aload_n 0, 1) := by decide +kernel
theorem dX13_restOf_1 : decode cX13_restOf 1 = .ok (.getfield 88, 3) := by decide +kernel
theorem dX13_restOf_4 : decode cX13_restOf 4 = .ok (.aload_n 0, 1) := by decide +kernel
theorem dX13_restOf_5 : decode cX13_restOf 5 = .ok (.getfield 518, 3) := by decide +kernel
theorem dX13_restOf_8 : decode cX13_restOf 8 = .ok (.iaload, 1) := by decide +kernel
theorem dX13_restOf_9 : decode cX13_restOf 9 = .ok (.istore_n 1, 1) := by decide +kernel
theorem dX13_restOf_10 : decode cX13_restOf 10 = .ok (.iload_n 1, 1) := by decide +kernel
theorem dX13_restOf_11 : decode cX13_restOf 11 = .ok (.aload_n 0, 1) := by decide +kernel
theorem dX13_restOf_12 : decode cX13_restOf 12 = .ok (.getfield 88, 3) := by decide +kernel
theorem dX13_restOf_15 : decode cX13_restOf 15 = .ok (.aload_n 0, 1) := by decide +kernel
theorem dX13_restOf_16 : decode cX13_restOf 16 = .ok (.getfield 518, 3) := by decide +kernel
theorem dX13_restOf_19 : decode cX13_restOf 19 = .ok (.iaload, 1) := by decide +kernel
theorem dX13_restOf_20 : decode cX13_restOf 20 = .ok (.aload_n 0, 1) := by decide +kernel
theorem dX13_restOf_21 : decode cX13_restOf 21 = .ok (.getfield 91, 3) := by decide +kernel
theorem dX13_restOf_24 : decode cX13_restOf 24 = .ok (.aload_n 0, 1) := by decide +kernel
theorem dX13_restOf_25 : decode cX13_restOf 25 = .ok (.getfield 518, 3) := by decide +kernel
theorem dX13_restOf_28 : decode cX13_restOf 28 = .ok (.iaload, 1) := by decide +kernel
theorem dX13_restOf_29 : decode cX13_restOf 29 = .ok (.iadd, 1) := by decide +kernel
theorem dX13_restOf_30 : decode cX13_restOf 30 = .ok (.if_icmp .ge 98, 3) := by decide +kernel
theorem dX13_restOf_33 : decode cX13_restOf 33 = .ok (.aload_n 0, 1) := by decide +kernel
theorem dX13_restOf_34 : decode cX13_restOf 34 = .ok (.getfield 94, 3) := by decide +kernel
theorem dX13_restOf_37 : decode cX13_restOf 37 = .ok (.iload_n 1, 1) := by decide +kernel
theorem dX13_restOf_38 : decode cX13_restOf 38 = .ok (.iaload, 1) := by decide +kernel
theorem dX13_restOf_39 : decode cX13_restOf 39 = .ok (.istore_n 2, 1) := by decide +kernel
theorem dX13_restOf_40 : decode cX13_restOf 40 = .ok (.iload_n 2, 1) := by decide +kernel
theorem dX13_restOf_41 : decode cX13_restOf 41 = .ok (.ifCond .lt 81, 3) := by decide +kernel
theorem dX13_restOf_44 : decode cX13_restOf 44 = .ok (.aload_n 0, 1) := by decide +kernel
theorem dX13_restOf_45 : decode cX13_restOf 45 = .ok (.getfield 51, 3) := by decide +kernel
theorem dX13_restOf_48 : decode cX13_restOf 48 = .ok (.iload_n 2, 1) := by decide +kernel
theorem dX13_restOf_49 : decode cX13_restOf 49 = .ok (.iaload, 1) := by decide +kernel
theorem dX13_restOf_50 : decode cX13_restOf 50 = .ok (.iconst 2, 1) := by decide +kernel
theorem dX13_restOf_51 : decode cX13_restOf 51 = .ok (.if_icmp .lt 71, 3) := by decide +kernel
theorem dX13_restOf_54 : decode cX13_restOf 54 = .ok (.aload_n 0, 1) := by decide +kernel
theorem dX13_restOf_55 : decode cX13_restOf 55 = .ok (.getfield 104, 3) := by decide +kernel
theorem dX13_restOf_58 : decode cX13_restOf 58 = .ok (.bipush 24, 2) := by decide +kernel
theorem dX13_restOf_60 : decode cX13_restOf 60 = .ok (.aload_n 0, 1) := by decide +kernel
theorem dX13_restOf_61 : decode cX13_restOf 61 = .ok (.getfield 518, 3) := by decide +kernel
theorem dX13_restOf_64 : decode cX13_restOf 64 = .ok (.imul, 1) := by decide +kernel
theorem dX13_restOf_65 : decode cX13_restOf 65 = .ok (.iload_n 2, 1) := by decide +kernel
theorem dX13_restOf_66 : decode cX13_restOf 66 = .ok (.bipush 64, 2) := by decide +kernel
theorem dX13_restOf_68 : decode cX13_restOf 68 = .ok (.idiv, 1) := by decide +kernel
theorem dX13_restOf_69 : decode cX13_restOf 69 = .ok (.iadd, 1) := by decide +kernel
theorem dX13_restOf_70 : decode cX13_restOf 70 = .ok (.dup2, 1) := by decide +kernel
theorem dX13_restOf_71 : decode cX13_restOf 71 = .ok (.laload, 1) := by decide +kernel
theorem dX13_restOf_72 : decode cX13_restOf 72 = .ok (.lconst 1, 1) := by decide +kernel
theorem dX13_restOf_73 : decode cX13_restOf 73 = .ok (.iload_n 2, 1) := by decide +kernel
theorem dX13_restOf_74 : decode cX13_restOf 74 = .ok (.bipush 64, 2) := by decide +kernel
theorem dX13_restOf_76 : decode cX13_restOf 76 = .ok (.irem, 1) := by decide +kernel
theorem dX13_restOf_77 : decode cX13_restOf 77 = .ok (.lshl, 1) := by decide +kernel
theorem dX13_restOf_78 : decode cX13_restOf 78 = .ok (.lor, 1) := by decide +kernel
theorem dX13_restOf_79 : decode cX13_restOf 79 = .ok (.lastore, 1) := by decide +kernel
theorem dX13_restOf_80 : decode cX13_restOf 80 = .ok (.iconst 0, 1) := by decide +kernel
theorem dX13_restOf_81 : decode cX13_restOf 81 = .ok (.istore_n 3, 1) := by decide +kernel
theorem dX13_restOf_82 : decode cX13_restOf 82 = .ok (.iload_n 3, 1) := by decide +kernel
theorem dX13_restOf_83 : decode cX13_restOf 83 = .ok (.bipush 24, 2) := by decide +kernel
theorem dX13_restOf_85 : decode cX13_restOf 85 = .ok (.if_icmp .ge 37, 3) := by decide +kernel
theorem dX13_restOf_88 : decode cX13_restOf 88 = .ok (.aload_n 0, 1) := by decide +kernel
theorem dX13_restOf_89 : decode cX13_restOf 89 = .ok (.getfield 104, 3) := by decide +kernel
theorem dX13_restOf_92 : decode cX13_restOf 92 = .ok (.bipush 24, 2) := by decide +kernel
theorem dX13_restOf_94 : decode cX13_restOf 94 = .ok (.aload_n 0, 1) := by decide +kernel
theorem dX13_restOf_95 : decode cX13_restOf 95 = .ok (.getfield 518, 3) := by decide +kernel
theorem dX13_restOf_98 : decode cX13_restOf 98 = .ok (.imul, 1) := by decide +kernel
theorem dX13_restOf_99 : decode cX13_restOf 99 = .ok (.iload_n 3, 1) := by decide +kernel
theorem dX13_restOf_100 : decode cX13_restOf 100 = .ok (.iadd, 1) := by decide +kernel
theorem dX13_restOf_101 : decode cX13_restOf 101 = .ok (.dup2, 1) := by decide +kernel
theorem dX13_restOf_102 : decode cX13_restOf 102 = .ok (.laload, 1) := by decide +kernel
theorem dX13_restOf_103 : decode cX13_restOf 103 = .ok (.aload_n 0, 1) := by decide +kernel
theorem dX13_restOf_104 : decode cX13_restOf 104 = .ok (.getfield 104, 3) := by decide +kernel
theorem dX13_restOf_107 : decode cX13_restOf 107 = .ok (.bipush 24, 2) := by decide +kernel
theorem dX13_restOf_109 : decode cX13_restOf 109 = .ok (.iload_n 2, 1) := by decide +kernel
theorem dX13_restOf_110 : decode cX13_restOf 110 = .ok (.imul, 1) := by decide +kernel
theorem dX13_restOf_111 : decode cX13_restOf 111 = .ok (.iload_n 3, 1) := by decide +kernel
theorem dX13_restOf_112 : decode cX13_restOf 112 = .ok (.iadd, 1) := by decide +kernel
theorem dX13_restOf_113 : decode cX13_restOf 113 = .ok (.laload, 1) := by decide +kernel
theorem dX13_restOf_114 : decode cX13_restOf 114 = .ok (.lor, 1) := by decide +kernel
theorem dX13_restOf_115 : decode cX13_restOf 115 = .ok (.lastore, 1) := by decide +kernel
theorem dX13_restOf_116 : decode cX13_restOf 116 = .ok (.iinc 3 1, 3) := by decide +kernel
theorem dX13_restOf_119 : decode cX13_restOf 119 = .ok (.goto (-37), 3) := by decide +kernel
theorem dX13_restOf_122 : decode cX13_restOf 122 = .ok (.iinc 1 1, 3) := by decide +kernel
theorem dX13_restOf_125 : decode cX13_restOf 125 = .ok (.goto (-115), 3) := by decide +kernel
theorem dX13_restOf_128 : decode cX13_restOf 128 = .ok (.return_, 1) := by decide +kernel
theorem dX13_readAssertion_0 : decode cX13_readAssertion 0 = .ok (.iload_n 1, 1) := by decide +kernel
theorem dX13_readAssertion_1 : decode cX13_readAssertion 1 = .ok (.ifCond .eq 8, 3) := by decide +kernel
theorem dX13_readAssertion_4 : decode cX13_readAssertion 4 = .ok (.aload_n 0, 1) := by decide +kernel
theorem dX13_readAssertion_5 : decode cX13_readAssertion 5 = .ok (.invokevirtual 665, 3) := by decide +kernel
theorem dX13_readAssertion_8 : decode cX13_readAssertion 8 = .ok (.return_, 1) := by decide +kernel
theorem dX13_readAssertion_9 : decode cX13_readAssertion 9 = .ok (.aload_n 0, 1) := by decide +kernel
theorem dX13_readAssertion_10 : decode cX13_readAssertion 10 = .ok (.bipush 46, 2) := by decide +kernel
theorem dX13_readAssertion_12 : decode cX13_readAssertion 12 = .ok (.invokevirtual 597, 3) := by decide +kernel
theorem dX13_readAssertion_15 : decode cX13_readAssertion 15 = .ok (.aload_n 0, 1) := by decide +kernel
theorem dX13_readAssertion_16 : decode cX13_readAssertion 16 = .ok (.getfield 418, 3) := by decide +kernel
theorem dX13_readAssertion_19 : decode cX13_readAssertion 19 = .ok (.ifCond .ne 7, 3) := by decide +kernel
theorem dX13_readAssertion_22 : decode cX13_readAssertion 22 = .ok (.aload_n 0, 1) := by decide +kernel
theorem dX13_readAssertion_23 : decode cX13_readAssertion 23 = .ok (.invokevirtual 600, 3) := by decide +kernel
theorem dX13_readAssertion_26 : decode cX13_readAssertion 26 = .ok (.aload_n 0, 1) := by decide +kernel
theorem dX13_readAssertion_27 : decode cX13_readAssertion 27 = .ok (.getfield 418, 3) := by decide +kernel
theorem dX13_readAssertion_30 : decode cX13_readAssertion 30 = .ok (.ifCond .ne 8, 3) := by decide +kernel
theorem dX13_readAssertion_33 : decode cX13_readAssertion 33 = .ok (.aload_n 0, 1) := by decide +kernel
theorem dX13_readAssertion_34 : decode cX13_readAssertion 34 = .ok (.iconst 2, 1) := by decide +kernel
theorem dX13_readAssertion_35 : decode cX13_readAssertion 35 = .ok (.invokevirtual 545, 3) := by decide +kernel
theorem dX13_readAssertion_38 : decode cX13_readAssertion 38 = .ok (.return_, 1) := by decide +kernel
theorem dX13_readLabelled_0 : decode cX13_readLabelled 0 = .ok (.aload_n 0, 1) := by decide +kernel
theorem dX13_readLabelled_1 : decode cX13_readLabelled 1 = .ok (.invokevirtual 668, 3) := by decide +kernel
theorem dX13_readLabelled_4 : decode cX13_readLabelled 4 = .ok (.aload_n 0, 1) := by decide +kernel
theorem dX13_readLabelled_5 : decode cX13_readLabelled 5 = .ok (.getfield 418, 3) := by decide +kernel
theorem dX13_readLabelled_8 : decode cX13_readLabelled 8 = .ok (.ifCond .ne 7, 3) := by decide +kernel
theorem dX13_readLabelled_11 : decode cX13_readLabelled 11 = .ok (.aload_n 0, 1) := by decide +kernel
theorem dX13_readLabelled_12 : decode cX13_readLabelled 12 = .ok (.invokevirtual 490, 3) := by decide +kernel
theorem dX13_readLabelled_15 : decode cX13_readLabelled 15 = .ok (.aload_n 0, 1) := by decide +kernel
theorem dX13_readLabelled_16 : decode cX13_readLabelled 16 = .ok (.getfield 418, 3) := by decide +kernel
theorem dX13_readLabelled_19 : decode cX13_readLabelled 19 = .ok (.ifCond .le 4, 3) := by decide +kernel
theorem dX13_readLabelled_22 : decode cX13_readLabelled 22 = .ok (.return_, 1) := by decide +kernel
theorem dX13_readLabelled_23 : decode cX13_readLabelled 23 = .ok (.aload_n 0, 1) := by decide +kernel
theorem dX13_readLabelled_24 : decode cX13_readLabelled 24 = .ok (.getfield 452, 3) := by decide +kernel
theorem dX13_readLabelled_27 : decode cX13_readLabelled 27 = .ok (.bipush 102, 2) := by decide +kernel
theorem dX13_readLabelled_29 : decode cX13_readLabelled 29 = .ok (.if_icmp .ne 10, 3) := by decide +kernel
theorem dX13_readLabelled_32 : decode cX13_readLabelled 32 = .ok (.aload_n 0, 1) := by decide +kernel
theorem dX13_readLabelled_33 : decode cX13_readLabelled 33 = .ok (.invokevirtual 671, 3) := by decide +kernel
theorem dX13_readLabelled_36 : decode cX13_readLabelled 36 = .ok (.goto 81, 3) := by decide +kernel
theorem dX13_readLabelled_39 : decode cX13_readLabelled 39 = .ok (.aload_n 0, 1) := by decide +kernel
theorem dX13_readLabelled_40 : decode cX13_readLabelled 40 = .ok (.getfield 452, 3) := by decide +kernel
theorem dX13_readLabelled_43 : decode cX13_readLabelled 43 = .ok (.bipush 101, 2) := by decide +kernel
theorem dX13_readLabelled_45 : decode cX13_readLabelled 45 = .ok (.if_icmp .ne 28, 3) := by decide +kernel
theorem dX13_readLabelled_48 : decode cX13_readLabelled 48 = .ok (.aload_n 0, 1) := by decide +kernel
theorem dX13_readLabelled_49 : decode cX13_readLabelled 49 = .ok (.bipush 46, 2) := by decide +kernel
theorem dX13_readLabelled_51 : decode cX13_readLabelled 51 = .ok (.invokevirtual 597, 3) := by decide +kernel
theorem dX13_readLabelled_54 : decode cX13_readLabelled 54 = .ok (.aload_n 0, 1) := by decide +kernel
theorem dX13_readLabelled_55 : decode cX13_readLabelled 55 = .ok (.getfield 418, 3) := by decide +kernel
theorem dX13_readLabelled_58 : decode cX13_readLabelled 58 = .ok (.ifCond .ne 59, 3) := by decide +kernel
theorem dX13_readLabelled_61 : decode cX13_readLabelled 61 = .ok (.aload_n 0, 1) := by decide +kernel
theorem dX13_readLabelled_62 : decode cX13_readLabelled 62 = .ok (.iconst 1, 1) := by decide +kernel
theorem dX13_readLabelled_63 : decode cX13_readLabelled 63 = .ok (.invokevirtual 545, 3) := by decide +kernel
theorem dX13_readLabelled_66 : decode cX13_readLabelled 66 = .ok (.aload_n 0, 1) := by decide +kernel
theorem dX13_readLabelled_67 : decode cX13_readLabelled 67 = .ok (.invokevirtual 548, 3) := by decide +kernel
theorem dX13_readLabelled_70 : decode cX13_readLabelled 70 = .ok (.goto 47, 3) := by decide +kernel
theorem dX13_readLabelled_73 : decode cX13_readLabelled 73 = .ok (.aload_n 0, 1) := by decide +kernel
theorem dX13_readLabelled_74 : decode cX13_readLabelled 74 = .ok (.getfield 452, 3) := by decide +kernel
theorem dX13_readLabelled_77 : decode cX13_readLabelled 77 = .ok (.bipush 97, 2) := by decide +kernel
theorem dX13_readLabelled_79 : decode cX13_readLabelled 79 = .ok (.if_icmp .eq 12, 3) := by decide +kernel
theorem dX13_readLabelled_82 : decode cX13_readLabelled 82 = .ok (.aload_n 0, 1) := by decide +kernel
theorem dX13_readLabelled_83 : decode cX13_readLabelled 83 = .ok (.getfield 452, 3) := by decide +kernel
theorem dX13_readLabelled_86 : decode cX13_readLabelled 86 = .ok (.bipush 112, 2) := by decide +kernel
theorem dX13_readLabelled_88 : decode cX13_readLabelled 88 = .ok (.if_icmp .ne 24, 3) := by decide +kernel
theorem dX13_readLabelled_91 : decode cX13_readLabelled 91 = .ok (.aload_n 0, 1) := by decide +kernel
theorem dX13_readLabelled_92 : decode cX13_readLabelled 92 = .ok (.aload_n 0, 1) := by decide +kernel
theorem dX13_readLabelled_93 : decode cX13_readLabelled 93 = .ok (.getfield 452, 3) := by decide +kernel
theorem dX13_readLabelled_96 : decode cX13_readLabelled 96 = .ok (.bipush 112, 2) := by decide +kernel
theorem dX13_readLabelled_98 : decode cX13_readLabelled 98 = .ok (.if_icmp .ne 7, 3) := by decide +kernel
theorem dX13_readLabelled_101 : decode cX13_readLabelled 101 = .ok (.iconst 1, 1) := by decide +kernel
theorem dX13_readLabelled_102 : decode cX13_readLabelled 102 = .ok (.goto 4, 3) := by decide +kernel
theorem dX13_readLabelled_105 : decode cX13_readLabelled 105 = .ok (.iconst 0, 1) := by decide +kernel
theorem dX13_readLabelled_106 : decode cX13_readLabelled 106 = .ok (.invokevirtual 674, 3) := by decide +kernel
theorem dX13_readLabelled_109 : decode cX13_readLabelled 109 = .ok (.goto 8, 3) := by decide +kernel
theorem dX13_readLabelled_112 : decode cX13_readLabelled 112 = .ok (.aload_n 0, 1) := by decide +kernel
theorem dX13_readLabelled_113 : decode cX13_readLabelled 113 = .ok (.iconst 4, 1) := by decide +kernel
theorem dX13_readLabelled_114 : decode cX13_readLabelled 114 = .ok (.invokevirtual 474, 3) := by decide +kernel
theorem dX13_readLabelled_117 : decode cX13_readLabelled 117 = .ok (.return_, 1) := by decide +kernel
theorem dX13_readScope_0 : decode cX13_readScope 0 = .ok (.iload_n 1, 1) := by decide +kernel
theorem dX13_readScope_1 : decode cX13_readScope 1 = .ok (.ifCond .eq 20, 3) := by decide +kernel
theorem dX13_readScope_4 : decode cX13_readScope 4 = .ok (.aload_n 0, 1) := by decide +kernel
theorem dX13_readScope_5 : decode cX13_readScope 5 = .ok (.getfield 677, 3) := by decide +kernel
theorem dX13_readScope_8 : decode cX13_readScope 8 = .ok (.bipush 50, 2) := by decide +kernel
theorem dX13_readScope_10 : decode cX13_readScope 10 = .ok (.if_icmp .ne 11, 3) := by decide +kernel
theorem dX13_readScope_13 : decode cX13_readScope 13 = .ok (.aload_n 0, 1) := by decide +kernel
theorem dX13_readScope_14 : decode cX13_readScope 14 = .ok (.iconst 5, 1) := by decide +kernel
theorem dX13_readScope_15 : decode cX13_readScope 15 = .ok (.invokevirtual 474, 3) := by decide +kernel
theorem dX13_readScope_18 : decode cX13_readScope 18 = .ok (.goto 115, 3) := by decide +kernel
theorem dX13_readScope_21 : decode cX13_readScope 21 = .ok (.iload_n 1, 1) := by decide +kernel
theorem dX13_readScope_22 : decode cX13_readScope 22 = .ok (.ifCond .eq 55, 3) := by decide +kernel
theorem dX13_readScope_25 : decode cX13_readScope 25 = .ok (.aload_n 0, 1) := by decide +kernel
theorem dX13_readScope_26 : decode cX13_readScope 26 = .ok (.getfield 123, 3) := by decide +kernel
theorem dX13_readScope_29 : decode cX13_readScope 29 = .ok (.aload_n 0, 1) := by decide +kernel
theorem dX13_readScope_30 : decode cX13_readScope 30 = .ok (.getfield 677, 3) := by decide +kernel
theorem dX13_readScope_33 : decode cX13_readScope 33 = .ok (.aload_n 0, 1) := by decide +kernel
theorem dX13_readScope_34 : decode cX13_readScope 34 = .ok (.getfield 405, 3) := by decide +kernel
theorem dX13_readScope_37 : decode cX13_readScope 37 = .ok (.iastore, 1) := by decide +kernel
theorem dX13_readScope_38 : decode cX13_readScope 38 = .ok (.aload_n 0, 1) := by decide +kernel
theorem dX13_readScope_39 : decode cX13_readScope 39 = .ok (.getfield 126, 3) := by decide +kernel
theorem dX13_readScope_42 : decode cX13_readScope 42 = .ok (.aload_n 0, 1) := by decide +kernel
theorem dX13_readScope_43 : decode cX13_readScope 43 = .ok (.getfield 677, 3) := by decide +kernel
theorem dX13_readScope_46 : decode cX13_readScope 46 = .ok (.aload_n 0, 1) := by decide +kernel
theorem dX13_readScope_47 : decode cX13_readScope 47 = .ok (.getfield 408, 3) := by decide +kernel
theorem dX13_readScope_50 : decode cX13_readScope 50 = .ok (.iastore, 1) := by decide +kernel
theorem dX13_readScope_51 : decode cX13_readScope 51 = .ok (.aload_n 0, 1) := by decide +kernel
theorem dX13_readScope_52 : decode cX13_readScope 52 = .ok (.getfield 129, 3) := by decide +kernel
theorem dX13_readScope_55 : decode cX13_readScope 55 = .ok (.aload_n 0, 1) := by decide +kernel
theorem dX13_readScope_56 : decode cX13_readScope 56 = .ok (.getfield 677, 3) := by decide +kernel
theorem dX13_readScope_59 : decode cX13_readScope 59 = .ok (.aload_n 0, 1) := by decide +kernel
theorem dX13_readScope_60 : decode cX13_readScope 60 = .ok (.getfield 411, 3) := by decide +kernel
theorem dX13_readScope_63 : decode cX13_readScope 63 = .ok (.iastore, 1) := by decide +kernel
theorem dX13_readScope_64 : decode cX13_readScope 64 = .ok (.aload_n 0, 1) := by decide +kernel
theorem dX13_readScope_65 : decode cX13_readScope 65 = .ok (.dup, 1) := by decide +kernel
theorem dX13_readScope_66 : decode cX13_readScope 66 = .ok (.getfield 677, 3) := by decide +kernel
theorem dX13_readScope_69 : decode cX13_readScope 69 = .ok (.iconst 1, 1) := by decide +kernel
theorem dX13_readScope_70 : decode cX13_readScope 70 = .ok (.iadd, 1) := by decide +kernel
theorem dX13_readScope_71 : decode cX13_readScope 71 = .ok (.putfield 677, 3) := by decide +kernel
theorem dX13_readScope_74 : decode cX13_readScope 74 = .ok (.goto 59, 3) := by decide +kernel
theorem dX13_readScope_77 : decode cX13_readScope 77 = .ok (.aload_n 0, 1) := by decide +kernel
theorem dX13_readScope_78 : decode cX13_readScope 78 = .ok (.getfield 677, 3) := by decide +kernel
theorem dX13_readScope_81 : decode cX13_readScope 81 = .ok (.ifCond .ne 11, 3) := by decide +kernel
theorem dX13_readScope_84 : decode cX13_readScope 84 = .ok (.aload_n 0, 1) := by decide +kernel
theorem dX13_readScope_85 : decode cX13_readScope 85 = .ok (.iconst 4, 1) := by decide +kernel
theorem dX13_readScope_86 : decode cX13_readScope 86 = .ok (.invokevirtual 474, 3) := by decide +kernel
theorem dX13_readScope_89 : decode cX13_readScope 89 = .ok (.goto 44, 3) := by decide +kernel
theorem dX13_readScope_92 : decode cX13_readScope 92 = .ok (.aload_n 0, 1) := by decide +kernel
theorem dX13_readScope_93 : decode cX13_readScope 93 = .ok (.dup, 1) := by decide +kernel
theorem dX13_readScope_94 : decode cX13_readScope 94 = .ok (.getfield 677, 3) := by decide +kernel
theorem dX13_readScope_97 : decode cX13_readScope 97 = .ok (.iconst 1, 1) := by decide +kernel
theorem dX13_readScope_98 : decode cX13_readScope 98 = .ok (.isub, 1) := by decide +kernel
theorem dX13_readScope_99 : decode cX13_readScope 99 = .ok (.putfield 677, 3) := by decide +kernel
theorem dX13_readScope_102 : decode cX13_readScope 102 = .ok (.aload_n 0, 1) := by decide +kernel
theorem dX13_readScope_103 : decode cX13_readScope 103 = .ok (.aload_n 0, 1) := by decide +kernel
theorem dX13_readScope_104 : decode cX13_readScope 104 = .ok (.getfield 123, 3) := by decide +kernel
theorem dX13_readScope_107 : decode cX13_readScope 107 = .ok (.aload_n 0, 1) := by decide +kernel
theorem dX13_readScope_108 : decode cX13_readScope 108 = .ok (.getfield 677, 3) := by decide +kernel
theorem dX13_readScope_111 : decode cX13_readScope 111 = .ok (.iaload, 1) := by decide +kernel
theorem dX13_readScope_112 : decode cX13_readScope 112 = .ok (.aload_n 0, 1) := by decide +kernel
theorem dX13_readScope_113 : decode cX13_readScope 113 = .ok (.getfield 126, 3) := by decide +kernel
theorem dX13_readScope_116 : decode cX13_readScope 116 = .ok (.aload_n 0, 1) := by decide +kernel
theorem dX13_readScope_117 : decode cX13_readScope 117 = .ok (.getfield 677, 3) := by decide +kernel
theorem dX13_readScope_120 : decode cX13_readScope 120 = .ok (.iaload, 1) := by decide +kernel
theorem dX13_readScope_121 : decode cX13_readScope 121 = .ok (.aload_n 0, 1) := by decide +kernel
theorem dX13_readScope_122 : decode cX13_readScope 122 = .ok (.getfield 129, 3) := by decide +kernel
theorem dX13_readScope_125 : decode cX13_readScope 125 = .ok (.aload_n 0, 1) := by decide +kernel
theorem dX13_readScope_126 : decode cX13_readScope 126 = .ok (.getfield 677, 3) := by decide +kernel
theorem dX13_readScope_129 : decode cX13_readScope 129 = .ok (.iaload, 1) := by decide +kernel
theorem dX13_readScope_130 : decode cX13_readScope 130 = .ok (.invokevirtual 680, 3) := by decide +kernel
theorem dX13_readScope_133 : decode cX13_readScope 133 = .ok (.return_, 1) := by decide +kernel
theorem dX13_readStatement_0 : decode cX13_readStatement 0 = .ok (.aload_n 0, 1) := by decide +kernel
theorem dX13_readStatement_1 : decode cX13_readStatement 1 = .ok (.getfield 452, 3) := by decide +kernel
theorem dX13_readStatement_4 : decode cX13_readStatement 4 = .ok (.iconst 1, 1) := by decide +kernel
theorem dX13_readStatement_5 : decode cX13_readStatement 5 = .ok (.if_icmp .ne 10, 3) := by decide +kernel
theorem dX13_readStatement_8 : decode cX13_readStatement 8 = .ok (.aload_n 0, 1) := by decide +kernel
theorem dX13_readStatement_9 : decode cX13_readStatement 9 = .ok (.invokevirtual 684, 3) := by decide +kernel
theorem dX13_readStatement_12 : decode cX13_readStatement 12 = .ok (.goto 113, 3) := by decide +kernel
theorem dX13_readStatement_15 : decode cX13_readStatement 15 = .ok (.aload_n 0, 1) := by decide +kernel
theorem dX13_readStatement_16 : decode cX13_readStatement 16 = .ok (.getfield 452, 3) := by decide +kernel
theorem dX13_readStatement_19 : decode cX13_readStatement 19 = .ok (.bipush 99, 2) := by decide +kernel
theorem dX13_readStatement_21 : decode cX13_readStatement 21 = .ok (.if_icmp .ne 27, 3) := by decide +kernel
theorem dX13_readStatement_24 : decode cX13_readStatement 24 = .ok (.aload_n 0, 1) := by decide +kernel
theorem dX13_readStatement_25 : decode cX13_readStatement 25 = .ok (.getfield 677, 3) := by decide +kernel
theorem dX13_readStatement_28 : decode cX13_readStatement 28 = .ok (.ifCond .le 12, 3) := by decide +kernel
theorem dX13_readStatement_31 : decode cX13_readStatement 31 = .ok (.aload_n 0, 1) := by decide +kernel
theorem dX13_readStatement_32 : decode cX13_readStatement 32 = .ok (.bipush 8, 2) := by decide +kernel
theorem dX13_readStatement_34 : decode cX13_readStatement 34 = .ok (.invokevirtual 474, 3) := by decide +kernel
theorem dX13_readStatement_37 : decode cX13_readStatement 37 = .ok (.goto 88, 3) := by decide +kernel
theorem dX13_readStatement_40 : decode cX13_readStatement 40 = .ok (.aload_n 0, 1) := by decide +kernel
theorem dX13_readStatement_41 : decode cX13_readStatement 41 = .ok (.iconst 0, 1) := by decide +kernel
theorem dX13_readStatement_42 : decode cX13_readStatement 42 = .ok (.invokevirtual 687, 3) := by decide +kernel
theorem dX13_readStatement_45 : decode cX13_readStatement 45 = .ok (.goto 80, 3) := by decide +kernel
theorem dX13_readStatement_48 : decode cX13_readStatement 48 = .ok (.aload_n 0, 1) := by decide +kernel
theorem dX13_readStatement_49 : decode cX13_readStatement 49 = .ok (.getfield 452, 3) := by decide +kernel
theorem dX13_readStatement_52 : decode cX13_readStatement 52 = .ok (.bipush 118, 2) := by decide +kernel
theorem dX13_readStatement_54 : decode cX13_readStatement 54 = .ok (.if_icmp .ne 11, 3) := by decide +kernel
theorem dX13_readStatement_57 : decode cX13_readStatement 57 = .ok (.aload_n 0, 1) := by decide +kernel
theorem dX13_readStatement_58 : decode cX13_readStatement 58 = .ok (.iconst 1, 1) := by decide +kernel
theorem dX13_readStatement_59 : decode cX13_readStatement 59 = .ok (.invokevirtual 687, 3) := by decide +kernel
theorem dX13_readStatement_62 : decode cX13_readStatement 62 = .ok (.goto 63, 3) := by decide +kernel
theorem dX13_readStatement_65 : decode cX13_readStatement 65 = .ok (.aload_n 0, 1) := by decide +kernel
theorem dX13_readStatement_66 : decode cX13_readStatement 66 = .ok (.getfield 452, 3) := by decide +kernel
theorem dX13_readStatement_69 : decode cX13_readStatement 69 = .ok (.bipush 100, 2) := by decide +kernel
theorem dX13_readStatement_71 : decode cX13_readStatement 71 = .ok (.if_icmp .ne 10, 3) := by decide +kernel
theorem dX13_readStatement_74 : decode cX13_readStatement 74 = .ok (.aload_n 0, 1) := by decide +kernel
theorem dX13_readStatement_75 : decode cX13_readStatement 75 = .ok (.invokevirtual 690, 3) := by decide +kernel
theorem dX13_readStatement_78 : decode cX13_readStatement 78 = .ok (.goto 47, 3) := by decide +kernel
theorem dX13_readStatement_81 : decode cX13_readStatement 81 = .ok (.aload_n 0, 1) := by decide +kernel
theorem dX13_readStatement_82 : decode cX13_readStatement 82 = .ok (.getfield 452, 3) := by decide +kernel
theorem dX13_readStatement_85 : decode cX13_readStatement 85 = .ok (.bipush 123, 2) := by decide +kernel
theorem dX13_readStatement_87 : decode cX13_readStatement 87 = .ok (.if_icmp .eq 12, 3) := by decide +kernel
theorem dX13_readStatement_90 : decode cX13_readStatement 90 = .ok (.aload_n 0, 1) := by decide +kernel
theorem dX13_readStatement_91 : decode cX13_readStatement 91 = .ok (.getfield 452, 3) := by decide +kernel
theorem dX13_readStatement_94 : decode cX13_readStatement 94 = .ok (.bipush 125, 2) := by decide +kernel
theorem dX13_readStatement_96 : decode cX13_readStatement 96 = .ok (.if_icmp .ne 24, 3) := by decide +kernel
theorem dX13_readStatement_99 : decode cX13_readStatement 99 = .ok (.aload_n 0, 1) := by decide +kernel
theorem dX13_readStatement_100 : decode cX13_readStatement 100 = .ok (.aload_n 0, 1) := by decide +kernel
theorem dX13_readStatement_101 : decode cX13_readStatement 101 = .ok (.getfield 452, 3) := by decide +kernel
theorem dX13_readStatement_104 : decode cX13_readStatement 104 = .ok (.bipush 123, 2) := by decide +kernel
theorem dX13_readStatement_106 : decode cX13_readStatement 106 = .ok (.if_icmp .ne 7, 3) := by decide +kernel
theorem dX13_readStatement_109 : decode cX13_readStatement 109 = .ok (.iconst 1, 1) := by decide +kernel
theorem dX13_readStatement_110 : decode cX13_readStatement 110 = .ok (.goto 4, 3) := by decide +kernel
theorem dX13_readStatement_113 : decode cX13_readStatement 113 = .ok (.iconst 0, 1) := by decide +kernel
theorem dX13_readStatement_114 : decode cX13_readStatement 114 = .ok (.invokevirtual 693, 3) := by decide +kernel
theorem dX13_readStatement_117 : decode cX13_readStatement 117 = .ok (.goto 8, 3) := by decide +kernel
theorem dX13_readStatement_120 : decode cX13_readStatement 120 = .ok (.aload_n 0, 1) := by decide +kernel
theorem dX13_readStatement_121 : decode cX13_readStatement 121 = .ok (.iconst 4, 1) := by decide +kernel
theorem dX13_readStatement_122 : decode cX13_readStatement 122 = .ok (.invokevirtual 474, 3) := by decide +kernel
theorem dX13_readStatement_125 : decode cX13_readStatement 125 = .ok (.return_, 1) := by decide +kernel
theorem dX13_noteAll_0 : decode cX13_noteAll 0 = .ok (.iconst 0, 1) := by decide +kernel
theorem dX13_noteAll_1 : decode cX13_noteAll 1 = .ok (.istore_n 1, 1) := by decide +kernel
theorem dX13_noteAll_2 : decode cX13_noteAll 2 = .ok (.iload_n 1, 1) := by decide +kernel
theorem dX13_noteAll_3 : decode cX13_noteAll 3 = .ok (.aload_n 0, 1) := by decide +kernel
theorem dX13_noteAll_4 : decode cX13_noteAll 4 = .ok (.getfield 471, 3) := by decide +kernel
theorem dX13_noteAll_7 : decode cX13_noteAll 7 = .ok (.if_icmp .ge 69, 3) := by decide +kernel
theorem dX13_noteAll_10 : decode cX13_noteAll 10 = .ok (.aload_n 0, 1) := by decide +kernel
theorem dX13_noteAll_11 : decode cX13_noteAll 11 = .ok (.getfield 175, 3) := by decide +kernel
theorem dX13_noteAll_14 : decode cX13_noteAll 14 = .ok (.iload_n 1, 1) := by decide +kernel
theorem dX13_noteAll_15 : decode cX13_noteAll 15 = .ok (.aload_n 0, 1) := by decide +kernel
theorem dX13_noteAll_16 : decode cX13_noteAll 16 = .ok (.getfield 35, 3) := by decide +kernel
theorem dX13_noteAll_19 : decode cX13_noteAll 19 = .ok (.iload_n 1, 1) := by decide +kernel
theorem dX13_noteAll_20 : decode cX13_noteAll 20 = .ok (.baload, 1) := by decide +kernel
theorem dX13_noteAll_21 : decode cX13_noteAll 21 = .ok (.bastore, 1) := by decide +kernel
theorem dX13_noteAll_22 : decode cX13_noteAll 22 = .ok (.aload_n 0, 1) := by decide +kernel
theorem dX13_noteAll_23 : decode cX13_noteAll 23 = .ok (.getfield 178, 3) := by decide +kernel
theorem dX13_noteAll_26 : decode cX13_noteAll 26 = .ok (.iload_n 1, 1) := by decide +kernel
theorem dX13_noteAll_27 : decode cX13_noteAll 27 = .ok (.aload_n 0, 1) := by decide +kernel
theorem dX13_noteAll_28 : decode cX13_noteAll 28 = .ok (.getfield 39, 3) := by decide +kernel
theorem dX13_noteAll_31 : decode cX13_noteAll 31 = .ok (.iload_n 1, 1) := by decide +kernel
theorem dX13_noteAll_32 : decode cX13_noteAll 32 = .ok (.baload, 1) := by decide +kernel
theorem dX13_noteAll_33 : decode cX13_noteAll 33 = .ok (.bastore, 1) := by decide +kernel
theorem dX13_noteAll_34 : decode cX13_noteAll 34 = .ok (.aload_n 0, 1) := by decide +kernel
theorem dX13_noteAll_35 : decode cX13_noteAll 35 = .ok (.getfield 181, 3) := by decide +kernel
theorem dX13_noteAll_38 : decode cX13_noteAll 38 = .ok (.iload_n 1, 1) := by decide +kernel
theorem dX13_noteAll_39 : decode cX13_noteAll 39 = .ok (.aload_n 0, 1) := by decide +kernel
theorem dX13_noteAll_40 : decode cX13_noteAll 40 = .ok (.getfield 48, 3) := by decide +kernel
theorem dX13_noteAll_43 : decode cX13_noteAll 43 = .ok (.iload_n 1, 1) := by decide +kernel
theorem dX13_noteAll_44 : decode cX13_noteAll 44 = .ok (.baload, 1) := by decide +kernel
theorem dX13_noteAll_45 : decode cX13_noteAll 45 = .ok (.bastore, 1) := by decide +kernel
theorem dX13_noteAll_46 : decode cX13_noteAll 46 = .ok (.aload_n 0, 1) := by decide +kernel
theorem dX13_noteAll_47 : decode cX13_noteAll 47 = .ok (.getfield 184, 3) := by decide +kernel
theorem dX13_noteAll_50 : decode cX13_noteAll 50 = .ok (.iload_n 1, 1) := by decide +kernel
theorem dX13_noteAll_51 : decode cX13_noteAll 51 = .ok (.aload_n 0, 1) := by decide +kernel
theorem dX13_noteAll_52 : decode cX13_noteAll 52 = .ok (.getfield 42, 3) := by decide +kernel
theorem dX13_noteAll_55 : decode cX13_noteAll 55 = .ok (.iload_n 1, 1) := by decide +kernel
theorem dX13_noteAll_56 : decode cX13_noteAll 56 = .ok (.iaload, 1) := by decide +kernel
theorem dX13_noteAll_57 : decode cX13_noteAll 57 = .ok (.iastore, 1) := by decide +kernel
theorem dX13_noteAll_58 : decode cX13_noteAll 58 = .ok (.aload_n 0, 1) := by decide +kernel
theorem dX13_noteAll_59 : decode cX13_noteAll 59 = .ok (.getfield 187, 3) := by decide +kernel
theorem dX13_noteAll_62 : decode cX13_noteAll 62 = .ok (.iload_n 1, 1) := by decide +kernel
theorem dX13_noteAll_63 : decode cX13_noteAll 63 = .ok (.aload_n 0, 1) := by decide +kernel
theorem dX13_noteAll_64 : decode cX13_noteAll 64 = .ok (.getfield 45, 3) := by decide +kernel
theorem dX13_noteAll_67 : decode cX13_noteAll 67 = .ok (.iload_n 1, 1) := by decide +kernel
theorem dX13_noteAll_68 : decode cX13_noteAll 68 = .ok (.iaload, 1) := by decide +kernel
theorem dX13_noteAll_69 : decode cX13_noteAll 69 = .ok (.iastore, 1) := by decide +kernel
theorem dX13_noteAll_70 : decode cX13_noteAll 70 = .ok (.iinc 1 1, 3) := by decide +kernel
theorem dX13_noteAll_73 : decode cX13_noteAll 73 = .ok (.goto (-71), 3) := by decide +kernel
theorem dX13_noteAll_76 : decode cX13_noteAll 76 = .ok (.return_, 1) := by decide +kernel
theorem dX13_forgetText_0 : decode cX13_forgetText 0 = .ok (.aload_n 0, 1) := by decide +kernel
theorem dX13_forgetText_1 : decode cX13_forgetText 1 = .ok (.iload 4, 2) := by decide +kernel
theorem dX13_forgetText_3 : decode cX13_forgetText 3 = .ok (.iload 5, 2) := by decide +kernel
theorem dX13_forgetText_5 : decode cX13_forgetText 5 = .ok (.iload 6, 2) := by decide +kernel
theorem dX13_forgetText_7 : decode cX13_forgetText 7 = .ok (.invokevirtual 680, 3) := by decide +kernel
theorem dX13_forgetText_10 : decode cX13_forgetText 10 = .ok (.aload_n 0, 1) := by decide +kernel
theorem dX13_forgetText_11 : decode cX13_forgetText 11 = .ok (.iload_n 1, 1) := by decide +kernel
theorem dX13_forgetText_12 : decode cX13_forgetText 12 = .ok (.putfield 471, 3) := by decide +kernel
theorem dX13_forgetText_15 : decode cX13_forgetText 15 = .ok (.aload_n 0, 1) := by decide +kernel
theorem dX13_forgetText_16 : decode cX13_forgetText 16 = .ok (.iload_n 2, 1) := by decide +kernel
theorem dX13_forgetText_17 : decode cX13_forgetText 17 = .ok (.putfield 512, 3) := by decide +kernel
theorem dX13_forgetText_20 : decode cX13_forgetText 20 = .ok (.aload_n 0, 1) := by decide +kernel
theorem dX13_forgetText_21 : decode cX13_forgetText 21 = .ok (.iload_n 3, 1) := by decide +kernel
theorem dX13_forgetText_22 : decode cX13_forgetText 22 = .ok (.putfield 400, 3) := by decide +kernel
theorem dX13_forgetText_25 : decode cX13_forgetText 25 = .ok (.aload_n 0, 1) := by decide +kernel
theorem dX13_forgetText_26 : decode cX13_forgetText 26 = .ok (.aload_n 0, 1) := by decide +kernel
theorem dX13_forgetText_27 : decode cX13_forgetText 27 = .ok (.getfield 512, 3) := by decide +kernel
theorem dX13_forgetText_30 : decode cX13_forgetText 30 = .ok (.ifCond .ne 7, 3) := by decide +kernel
theorem dX13_forgetText_33 : decode cX13_forgetText 33 = .ok (.iconst 0, 1) := by decide +kernel
theorem dX13_forgetText_34 : decode cX13_forgetText 34 = .ok (.goto 26, 3) := by decide +kernel
theorem dX13_forgetText_37 : decode cX13_forgetText 37 = .ok (.aload_n 0, 1) := by decide +kernel
theorem dX13_forgetText_38 : decode cX13_forgetText 38 = .ok (.getfield 54, 3) := by decide +kernel
theorem dX13_forgetText_41 : decode cX13_forgetText 41 = .ok (.aload_n 0, 1) := by decide +kernel
theorem dX13_forgetText_42 : decode cX13_forgetText 42 = .ok (.getfield 512, 3) := by decide +kernel
theorem dX13_forgetText_45 : decode cX13_forgetText 45 = .ok (.iconst 1, 1) := by decide +kernel
theorem dX13_forgetText_46 : decode cX13_forgetText 46 = .ok (.isub, 1) := by decide +kernel
theorem dX13_forgetText_47 : decode cX13_forgetText 47 = .ok (.iaload, 1) := by decide +kernel
theorem dX13_forgetText_48 : decode cX13_forgetText 48 = .ok (.aload_n 0, 1) := by decide +kernel
theorem dX13_forgetText_49 : decode cX13_forgetText 49 = .ok (.getfield 57, 3) := by decide +kernel
theorem dX13_forgetText_52 : decode cX13_forgetText 52 = .ok (.aload_n 0, 1) := by decide +kernel
theorem dX13_forgetText_53 : decode cX13_forgetText 53 = .ok (.getfield 512, 3) := by decide +kernel
theorem dX13_forgetText_56 : decode cX13_forgetText 56 = .ok (.iconst 1, 1) := by decide +kernel
theorem dX13_forgetText_57 : decode cX13_forgetText 57 = .ok (.isub, 1) := by decide +kernel
theorem dX13_forgetText_58 : decode cX13_forgetText 58 = .ok (.iaload, 1) := by decide +kernel
theorem dX13_forgetText_59 : decode cX13_forgetText 59 = .ok (.iadd, 1) := by decide +kernel
theorem dX13_forgetText_60 : decode cX13_forgetText 60 = .ok (.putfield 524, 3) := by decide +kernel
theorem dX13_forgetText_63 : decode cX13_forgetText 63 = .ok (.aload_n 0, 1) := by decide +kernel
theorem dX13_forgetText_64 : decode cX13_forgetText 64 = .ok (.aload_n 0, 1) := by decide +kernel
theorem dX13_forgetText_65 : decode cX13_forgetText 65 = .ok (.getfield 512, 3) := by decide +kernel
theorem dX13_forgetText_68 : decode cX13_forgetText 68 = .ok (.ifCond .ne 7, 3) := by decide +kernel
theorem dX13_forgetText_71 : decode cX13_forgetText 71 = .ok (.iconst 0, 1) := by decide +kernel
theorem dX13_forgetText_72 : decode cX13_forgetText 72 = .ok (.goto 26, 3) := by decide +kernel
theorem dX13_forgetText_75 : decode cX13_forgetText 75 = .ok (.aload_n 0, 1) := by decide +kernel
theorem dX13_forgetText_76 : decode cX13_forgetText 76 = .ok (.getfield 66, 3) := by decide +kernel
theorem dX13_forgetText_79 : decode cX13_forgetText 79 = .ok (.aload_n 0, 1) := by decide +kernel
theorem dX13_forgetText_80 : decode cX13_forgetText 80 = .ok (.getfield 512, 3) := by decide +kernel
theorem dX13_forgetText_83 : decode cX13_forgetText 83 = .ok (.iconst 1, 1) := by decide +kernel
theorem dX13_forgetText_84 : decode cX13_forgetText 84 = .ok (.isub, 1) := by decide +kernel
theorem dX13_forgetText_85 : decode cX13_forgetText 85 = .ok (.iaload, 1) := by decide +kernel
theorem dX13_forgetText_86 : decode cX13_forgetText 86 = .ok (.aload_n 0, 1) := by decide +kernel
theorem dX13_forgetText_87 : decode cX13_forgetText 87 = .ok (.getfield 69, 3) := by decide +kernel
theorem dX13_forgetText_90 : decode cX13_forgetText 90 = .ok (.aload_n 0, 1) := by decide +kernel
theorem dX13_forgetText_91 : decode cX13_forgetText 91 = .ok (.getfield 512, 3) := by decide +kernel
theorem dX13_forgetText_94 : decode cX13_forgetText 94 = .ok (.iconst 1, 1) := by decide +kernel
theorem dX13_forgetText_95 : decode cX13_forgetText 95 = .ok (.isub, 1) := by decide +kernel
theorem dX13_forgetText_96 : decode cX13_forgetText 96 = .ok (.iaload, 1) := by decide +kernel
theorem dX13_forgetText_97 : decode cX13_forgetText 97 = .ok (.iadd, 1) := by decide +kernel
theorem dX13_forgetText_98 : decode cX13_forgetText 98 = .ok (.putfield 527, 3) := by decide +kernel
theorem dX13_forgetText_101 : decode cX13_forgetText 101 = .ok (.aload_n 0, 1) := by decide +kernel
theorem dX13_forgetText_102 : decode cX13_forgetText 102 = .ok (.aload_n 0, 1) := by decide +kernel
theorem dX13_forgetText_103 : decode cX13_forgetText 103 = .ok (.getfield 512, 3) := by decide +kernel
theorem dX13_forgetText_106 : decode cX13_forgetText 106 = .ok (.ifCond .ne 7, 3) := by decide +kernel
theorem dX13_forgetText_109 : decode cX13_forgetText 109 = .ok (.iconst 0, 1) := by decide +kernel
theorem dX13_forgetText_110 : decode cX13_forgetText 110 = .ok (.goto 26, 3) := by decide +kernel
theorem dX13_forgetText_113 : decode cX13_forgetText 113 = .ok (.aload_n 0, 1) := by decide +kernel
theorem dX13_forgetText_114 : decode cX13_forgetText 114 = .ok (.getfield 76, 3) := by decide +kernel
theorem dX13_forgetText_117 : decode cX13_forgetText 117 = .ok (.aload_n 0, 1) := by decide +kernel
theorem dX13_forgetText_118 : decode cX13_forgetText 118 = .ok (.getfield 512, 3) := by decide +kernel
theorem dX13_forgetText_121 : decode cX13_forgetText 121 = .ok (.iconst 1, 1) := by decide +kernel
theorem dX13_forgetText_122 : decode cX13_forgetText 122 = .ok (.isub, 1) := by decide +kernel
theorem dX13_forgetText_123 : decode cX13_forgetText 123 = .ok (.iaload, 1) := by decide +kernel
theorem dX13_forgetText_124 : decode cX13_forgetText 124 = .ok (.aload_n 0, 1) := by decide +kernel
theorem dX13_forgetText_125 : decode cX13_forgetText 125 = .ok (.getfield 79, 3) := by decide +kernel
theorem dX13_forgetText_128 : decode cX13_forgetText 128 = .ok (.aload_n 0, 1) := by decide +kernel
theorem dX13_forgetText_129 : decode cX13_forgetText 129 = .ok (.getfield 512, 3) := by decide +kernel
theorem dX13_forgetText_132 : decode cX13_forgetText 132 = .ok (.iconst 1, 1) := by decide +kernel
theorem dX13_forgetText_133 : decode cX13_forgetText 133 = .ok (.isub, 1) := by decide +kernel
theorem dX13_forgetText_134 : decode cX13_forgetText 134 = .ok (.iaload, 1) := by decide +kernel
theorem dX13_forgetText_135 : decode cX13_forgetText 135 = .ok (.iadd, 1) := by decide +kernel
theorem dX13_forgetText_136 : decode cX13_forgetText 136 = .ok (.putfield 530, 3) := by decide +kernel
theorem dX13_forgetText_139 : decode cX13_forgetText 139 = .ok (.aload_n 0, 1) := by decide +kernel
theorem dX13_forgetText_140 : decode cX13_forgetText 140 = .ok (.aload_n 0, 1) := by decide +kernel
theorem dX13_forgetText_141 : decode cX13_forgetText 141 = .ok (.getfield 512, 3) := by decide +kernel
theorem dX13_forgetText_144 : decode cX13_forgetText 144 = .ok (.ifCond .ne 7, 3) := by decide +kernel
theorem dX13_forgetText_147 : decode cX13_forgetText 147 = .ok (.iconst 0, 1) := by decide +kernel
theorem dX13_forgetText_148 : decode cX13_forgetText 148 = .ok (.goto 26, 3) := by decide +kernel
theorem dX13_forgetText_151 : decode cX13_forgetText 151 = .ok (.aload_n 0, 1) := by decide +kernel
theorem dX13_forgetText_152 : decode cX13_forgetText 152 = .ok (.getfield 88, 3) := by decide +kernel
theorem dX13_forgetText_155 : decode cX13_forgetText 155 = .ok (.aload_n 0, 1) := by decide +kernel
theorem dX13_forgetText_156 : decode cX13_forgetText 156 = .ok (.getfield 512, 3) := by decide +kernel
theorem dX13_forgetText_159 : decode cX13_forgetText 159 = .ok (.iconst 1, 1) := by decide +kernel
theorem dX13_forgetText_160 : decode cX13_forgetText 160 = .ok (.isub, 1) := by decide +kernel
theorem dX13_forgetText_161 : decode cX13_forgetText 161 = .ok (.iaload, 1) := by decide +kernel
theorem dX13_forgetText_162 : decode cX13_forgetText 162 = .ok (.aload_n 0, 1) := by decide +kernel
theorem dX13_forgetText_163 : decode cX13_forgetText 163 = .ok (.getfield 91, 3) := by decide +kernel
theorem dX13_forgetText_166 : decode cX13_forgetText 166 = .ok (.aload_n 0, 1) := by decide +kernel
theorem dX13_forgetText_167 : decode cX13_forgetText 167 = .ok (.getfield 512, 3) := by decide +kernel
theorem dX13_forgetText_170 : decode cX13_forgetText 170 = .ok (.iconst 1, 1) := by decide +kernel
theorem dX13_forgetText_171 : decode cX13_forgetText 171 = .ok (.isub, 1) := by decide +kernel
theorem dX13_forgetText_172 : decode cX13_forgetText 172 = .ok (.iaload, 1) := by decide +kernel
theorem dX13_forgetText_173 : decode cX13_forgetText 173 = .ok (.iadd, 1) := by decide +kernel
theorem dX13_forgetText_174 : decode cX13_forgetText 174 = .ok (.putfield 533, 3) := by decide +kernel
theorem dX13_forgetText_177 : decode cX13_forgetText 177 = .ok (.aload_n 0, 1) := by decide +kernel
theorem dX13_forgetText_178 : decode cX13_forgetText 178 = .ok (.iconst 0, 1) := by decide +kernel
theorem dX13_forgetText_179 : decode cX13_forgetText 179 = .ok (.putfield 536, 3) := by decide +kernel
theorem dX13_forgetText_182 : decode cX13_forgetText 182 = .ok (.iconst 0, 1) := by decide +kernel
theorem dX13_forgetText_183 : decode cX13_forgetText 183 = .ok (.istore 7, 2) := by decide +kernel
theorem dX13_forgetText_185 : decode cX13_forgetText 185 = .ok (.iload 7, 2) := by decide +kernel
theorem dX13_forgetText_187 : decode cX13_forgetText 187 = .ok (.aload_n 0, 1) := by decide +kernel
theorem dX13_forgetText_188 : decode cX13_forgetText 188 = .ok (.getfield 471, 3) := by decide +kernel
theorem dX13_forgetText_191 : decode cX13_forgetText 191 = .ok (.if_icmp .ge 103, 3) := by decide +kernel
theorem dX13_forgetText_194 : decode cX13_forgetText 194 = .ok (.aload_n 0, 1) := by decide +kernel
theorem dX13_forgetText_195 : decode cX13_forgetText 195 = .ok (.getfield 35, 3) := by decide +kernel
theorem dX13_forgetText_198 : decode cX13_forgetText 198 = .ok (.iload 7, 2) := by decide +kernel
theorem dX13_forgetText_200 : decode cX13_forgetText 200 = .ok (.aload_n 0, 1) := by decide +kernel
theorem dX13_forgetText_201 : decode cX13_forgetText 201 = .ok (.getfield 175, 3) := by decide +kernel
theorem dX13_forgetText_204 : decode cX13_forgetText 204 = .ok (.iload 7, 2) := by decide +kernel
theorem dX13_forgetText_206 : decode cX13_forgetText 206 = .ok (.baload, 1) := by decide +kernel
theorem dX13_forgetText_207 : decode cX13_forgetText 207 = .ok (.bastore, 1) := by decide +kernel
theorem dX13_forgetText_208 : decode cX13_forgetText 208 = .ok (.aload_n 0, 1) := by decide +kernel
theorem dX13_forgetText_209 : decode cX13_forgetText 209 = .ok (.getfield 39, 3) := by decide +kernel
theorem dX13_forgetText_212 : decode cX13_forgetText 212 = .ok (.iload 7, 2) := by decide +kernel
theorem dX13_forgetText_214 : decode cX13_forgetText 214 = .ok (.aload_n 0, 1) := by decide +kernel
theorem dX13_forgetText_215 : decode cX13_forgetText 215 = .ok (.getfield 178, 3) := by decide +kernel
theorem dX13_forgetText_218 : decode cX13_forgetText 218 = .ok (.iload 7, 2) := by decide +kernel
theorem dX13_forgetText_220 : decode cX13_forgetText 220 = .ok (.baload, 1) := by decide +kernel
theorem dX13_forgetText_221 : decode cX13_forgetText 221 = .ok (.bastore, 1) := by decide +kernel
theorem dX13_forgetText_222 : decode cX13_forgetText 222 = .ok (.aload_n 0, 1) := by decide +kernel
theorem dX13_forgetText_223 : decode cX13_forgetText 223 = .ok (.getfield 48, 3) := by decide +kernel
theorem dX13_forgetText_226 : decode cX13_forgetText 226 = .ok (.iload 7, 2) := by decide +kernel
theorem dX13_forgetText_228 : decode cX13_forgetText 228 = .ok (.aload_n 0, 1) := by decide +kernel
theorem dX13_forgetText_229 : decode cX13_forgetText 229 = .ok (.getfield 181, 3) := by decide +kernel
theorem dX13_forgetText_232 : decode cX13_forgetText 232 = .ok (.iload 7, 2) := by decide +kernel
theorem dX13_forgetText_234 : decode cX13_forgetText 234 = .ok (.baload, 1) := by decide +kernel
theorem dX13_forgetText_235 : decode cX13_forgetText 235 = .ok (.bastore, 1) := by decide +kernel
theorem dX13_forgetText_236 : decode cX13_forgetText 236 = .ok (.aload_n 0, 1) := by decide +kernel
theorem dX13_forgetText_237 : decode cX13_forgetText 237 = .ok (.getfield 42, 3) := by decide +kernel
theorem dX13_forgetText_240 : decode cX13_forgetText 240 = .ok (.iload 7, 2) := by decide +kernel
theorem dX13_forgetText_242 : decode cX13_forgetText 242 = .ok (.aload_n 0, 1) := by decide +kernel
theorem dX13_forgetText_243 : decode cX13_forgetText 243 = .ok (.getfield 184, 3) := by decide +kernel
theorem dX13_forgetText_246 : decode cX13_forgetText 246 = .ok (.iload 7, 2) := by decide +kernel
theorem dX13_forgetText_248 : decode cX13_forgetText 248 = .ok (.iaload, 1) := by decide +kernel
theorem dX13_forgetText_249 : decode cX13_forgetText 249 = .ok (.iastore, 1) := by decide +kernel
theorem dX13_forgetText_250 : decode cX13_forgetText 250 = .ok (.aload_n 0, 1) := by decide +kernel
theorem dX13_forgetText_251 : decode cX13_forgetText 251 = .ok (.getfield 45, 3) := by decide +kernel
theorem dX13_forgetText_254 : decode cX13_forgetText 254 = .ok (.iload 7, 2) := by decide +kernel
theorem dX13_forgetText_256 : decode cX13_forgetText 256 = .ok (.aload_n 0, 1) := by decide +kernel
theorem dX13_forgetText_257 : decode cX13_forgetText 257 = .ok (.getfield 187, 3) := by decide +kernel
theorem dX13_forgetText_260 : decode cX13_forgetText 260 = .ok (.iload 7, 2) := by decide +kernel
theorem dX13_forgetText_262 : decode cX13_forgetText 262 = .ok (.iaload, 1) := by decide +kernel
theorem dX13_forgetText_263 : decode cX13_forgetText 263 = .ok (.iastore, 1) := by decide +kernel
theorem dX13_forgetText_264 : decode cX13_forgetText 264 = .ok (.aload_n 0, 1) := by decide +kernel
theorem dX13_forgetText_265 : decode cX13_forgetText 265 = .ok (.dup, 1) := by decide +kernel
theorem dX13_forgetText_266 : decode cX13_forgetText 266 = .ok (.getfield 536, 3) := by decide +kernel
theorem dX13_forgetText_269 : decode cX13_forgetText 269 = .ok (.aload_n 0, 1) := by decide +kernel
theorem dX13_forgetText_270 : decode cX13_forgetText 270 = .ok (.getfield 48, 3) := by decide +kernel
theorem dX13_forgetText_273 : decode cX13_forgetText 273 = .ok (.iload 7, 2) := by decide +kernel
theorem dX13_forgetText_275 : decode cX13_forgetText 275 = .ok (.baload, 1) := by decide +kernel
theorem dX13_forgetText_276 : decode cX13_forgetText 276 = .ok (.ifCond .eq 7, 3) := by decide +kernel
theorem dX13_forgetText_279 : decode cX13_forgetText 279 = .ok (.iconst 1, 1) := by decide +kernel
theorem dX13_forgetText_280 : decode cX13_forgetText 280 = .ok (.goto 4, 3) := by decide +kernel
theorem dX13_forgetText_283 : decode cX13_forgetText 283 = .ok (.iconst 0, 1) := by decide +kernel
theorem dX13_forgetText_284 : decode cX13_forgetText 284 = .ok (.iadd, 1) := by decide +kernel
theorem dX13_forgetText_285 : decode cX13_forgetText 285 = .ok (.putfield 536, 3) := by decide +kernel
theorem dX13_forgetText_288 : decode cX13_forgetText 288 = .ok (.iinc 7 1, 3) := by decide +kernel
theorem dX13_forgetText_291 : decode cX13_forgetText 291 = .ok (.goto (-106), 3) := by decide +kernel
theorem dX13_forgetText_294 : decode cX13_forgetText 294 = .ok (.aload_n 0, 1) := by decide +kernel
theorem dX13_forgetText_295 : decode cX13_forgetText 295 = .ok (.aload_n 0, 1) := by decide +kernel
theorem dX13_forgetText_296 : decode cX13_forgetText 296 = .ok (.getfield 370, 3) := by decide +kernel
theorem dX13_forgetText_299 : decode cX13_forgetText 299 = .ok (.aload_n 0, 1) := by decide +kernel
theorem dX13_forgetText_300 : decode cX13_forgetText 300 = .ok (.getfield 471, 3) := by decide +kernel
theorem dX13_forgetText_303 : decode cX13_forgetText 303 = .ok (.if_icmp .lt 7, 3) := by decide +kernel
theorem dX13_forgetText_306 : decode cX13_forgetText 306 = .ok (.iconst (-1), 1) := by decide +kernel
theorem dX13_forgetText_307 : decode cX13_forgetText 307 = .ok (.goto 7, 3) := by decide +kernel
theorem dX13_forgetText_310 : decode cX13_forgetText 310 = .ok (.aload_n 0, 1) := by decide +kernel
theorem dX13_forgetText_311 : decode cX13_forgetText 311 = .ok (.getfield 370, 3) := by decide +kernel
theorem dX13_forgetText_314 : decode cX13_forgetText 314 = .ok (.putfield 370, 3) := by decide +kernel
theorem dX13_forgetText_317 : decode cX13_forgetText 317 = .ok (.aload_n 0, 1) := by decide +kernel
theorem dX13_forgetText_318 : decode cX13_forgetText 318 = .ok (.aload_n 0, 1) := by decide +kernel
theorem dX13_forgetText_319 : decode cX13_forgetText 319 = .ok (.getfield 373, 3) := by decide +kernel
theorem dX13_forgetText_322 : decode cX13_forgetText 322 = .ok (.aload_n 0, 1) := by decide +kernel
theorem dX13_forgetText_323 : decode cX13_forgetText 323 = .ok (.getfield 471, 3) := by decide +kernel
theorem dX13_forgetText_326 : decode cX13_forgetText 326 = .ok (.if_icmp .lt 7, 3) := by decide +kernel
theorem dX13_forgetText_329 : decode cX13_forgetText 329 = .ok (.iconst (-1), 1) := by decide +kernel
theorem dX13_forgetText_330 : decode cX13_forgetText 330 = .ok (.goto 7, 3) := by decide +kernel
theorem dX13_forgetText_333 : decode cX13_forgetText 333 = .ok (.aload_n 0, 1) := by decide +kernel
theorem dX13_forgetText_334 : decode cX13_forgetText 334 = .ok (.getfield 373, 3) := by decide +kernel
theorem dX13_forgetText_337 : decode cX13_forgetText 337 = .ok (.putfield 373, 3) := by decide +kernel
theorem dX13_forgetText_340 : decode cX13_forgetText 340 = .ok (.aload_n 0, 1) := by decide +kernel
theorem dX13_forgetText_341 : decode cX13_forgetText 341 = .ok (.invokevirtual 376, 3) := by decide +kernel
theorem dX13_forgetText_344 : decode cX13_forgetText 344 = .ok (.iconst 0, 1) := by decide +kernel
theorem dX13_forgetText_345 : decode cX13_forgetText 345 = .ok (.istore 7, 2) := by decide +kernel
theorem dX13_forgetText_347 : decode cX13_forgetText 347 = .ok (.iload 7, 2) := by decide +kernel
theorem dX13_forgetText_349 : decode cX13_forgetText 349 = .ok (.aload_n 0, 1) := by decide +kernel
theorem dX13_forgetText_350 : decode cX13_forgetText 350 = .ok (.getfield 471, 3) := by decide +kernel
theorem dX13_forgetText_353 : decode cX13_forgetText 353 = .ok (.if_icmp .ge 15, 3) := by decide +kernel
theorem dX13_forgetText_356 : decode cX13_forgetText 356 = .ok (.aload_n 0, 1) := by decide +kernel
theorem dX13_forgetText_357 : decode cX13_forgetText 357 = .ok (.iload 7, 2) := by decide +kernel
theorem dX13_forgetText_359 : decode cX13_forgetText 359 = .ok (.invokevirtual 484, 3) := by decide +kernel
theorem dX13_forgetText_362 : decode cX13_forgetText 362 = .ok (.iinc 7 1, 3) := by decide +kernel
theorem dX13_forgetText_365 : decode cX13_forgetText 365 = .ok (.goto (-18), 3) := by decide +kernel
theorem dX13_forgetText_368 : decode cX13_forgetText 368 = .ok (.iconst 0, 1) := by decide +kernel
theorem dX13_forgetText_369 : decode cX13_forgetText 369 = .ok (.istore 7, 2) := by decide +kernel
theorem dX13_forgetText_371 : decode cX13_forgetText 371 = .ok (.iload 7, 2) := by decide +kernel
theorem dX13_forgetText_373 : decode cX13_forgetText 373 = .ok (.aload_n 0, 1) := by decide +kernel
theorem dX13_forgetText_374 : decode cX13_forgetText 374 = .ok (.getfield 512, 3) := by decide +kernel
theorem dX13_forgetText_377 : decode cX13_forgetText 377 = .ok (.if_icmp .ge 15, 3) := by decide +kernel
theorem dX13_forgetText_380 : decode cX13_forgetText 380 = .ok (.aload_n 0, 1) := by decide +kernel
theorem dX13_forgetText_381 : decode cX13_forgetText 381 = .ok (.iload 7, 2) := by decide +kernel
theorem dX13_forgetText_383 : decode cX13_forgetText 383 = .ok (.invokevirtual 521, 3) := by decide +kernel
theorem dX13_forgetText_386 : decode cX13_forgetText 386 = .ok (.iinc 7 1, 3) := by decide +kernel
theorem dX13_forgetText_389 : decode cX13_forgetText 389 = .ok (.goto (-18), 3) := by decide +kernel
theorem dX13_forgetText_392 : decode cX13_forgetText 392 = .ok (.return_, 1) := by decide +kernel
theorem dX13_read_0 : decode cX13_read 0 = .ok (.aload_n 0, 1) := by decide +kernel
theorem dX13_read_1 : decode cX13_read 1 = .ok (.getfield 471, 3) := by decide +kernel
theorem dX13_read_4 : decode cX13_read 4 = .ok (.istore_n 1, 1) := by decide +kernel
theorem dX13_read_5 : decode cX13_read 5 = .ok (.aload_n 0, 1) := by decide +kernel
theorem dX13_read_6 : decode cX13_read 6 = .ok (.getfield 512, 3) := by decide +kernel
theorem dX13_read_9 : decode cX13_read 9 = .ok (.istore_n 2, 1) := by decide +kernel
theorem dX13_read_10 : decode cX13_read 10 = .ok (.aload_n 0, 1) := by decide +kernel
theorem dX13_read_11 : decode cX13_read 11 = .ok (.getfield 400, 3) := by decide +kernel
theorem dX13_read_14 : decode cX13_read 14 = .ok (.istore_n 3, 1) := by decide +kernel
theorem dX13_read_15 : decode cX13_read 15 = .ok (.aload_n 0, 1) := by decide +kernel
theorem dX13_read_16 : decode cX13_read 16 = .ok (.getfield 405, 3) := by decide +kernel
theorem dX13_read_19 : decode cX13_read 19 = .ok (.istore 4, 2) := by decide +kernel
theorem dX13_read_21 : decode cX13_read 21 = .ok (.aload_n 0, 1) := by decide +kernel
theorem dX13_read_22 : decode cX13_read 22 = .ok (.getfield 408, 3) := by decide +kernel
theorem dX13_read_25 : decode cX13_read 25 = .ok (.istore 5, 2) := by decide +kernel
theorem dX13_read_27 : decode cX13_read 27 = .ok (.aload_n 0, 1) := by decide +kernel
theorem dX13_read_28 : decode cX13_read 28 = .ok (.getfield 411, 3) := by decide +kernel
theorem dX13_read_31 : decode cX13_read 31 = .ok (.istore 6, 2) := by decide +kernel
theorem dX13_read_33 : decode cX13_read 33 = .ok (.aload_n 0, 1) := by decide +kernel
theorem dX13_read_34 : decode cX13_read 34 = .ok (.invokevirtual 696, 3) := by decide +kernel
theorem dX13_read_37 : decode cX13_read 37 = .ok (.aload_n 0, 1) := by decide +kernel
theorem dX13_read_38 : decode cX13_read 38 = .ok (.iconst 0, 1) := by decide +kernel
theorem dX13_read_39 : decode cX13_read 39 = .ok (.putfield 427, 3) := by decide +kernel
theorem dX13_read_42 : decode cX13_read 42 = .ok (.aload_n 0, 1) := by decide +kernel
theorem dX13_read_43 : decode cX13_read 43 = .ok (.iconst 0, 1) := by decide +kernel
theorem dX13_read_44 : decode cX13_read 44 = .ok (.putfield 418, 3) := by decide +kernel
theorem dX13_read_47 : decode cX13_read 47 = .ok (.aload_n 0, 1) := by decide +kernel
theorem dX13_read_48 : decode cX13_read 48 = .ok (.iconst (-1), 1) := by decide +kernel
theorem dX13_read_49 : decode cX13_read 49 = .ok (.putfield 366, 3) := by decide +kernel
theorem dX13_read_52 : decode cX13_read 52 = .ok (.aload_n 0, 1) := by decide +kernel
theorem dX13_read_53 : decode cX13_read 53 = .ok (.iconst 0, 1) := by decide +kernel
theorem dX13_read_54 : decode cX13_read 54 = .ok (.putfield 677, 3) := by decide +kernel
theorem dX13_read_57 : decode cX13_read 57 = .ok (.aload_n 0, 1) := by decide +kernel
theorem dX13_read_58 : decode cX13_read 58 = .ok (.invokevirtual 490, 3) := by decide +kernel
theorem dX13_read_61 : decode cX13_read 61 = .ok (.aload_n 0, 1) := by decide +kernel
theorem dX13_read_62 : decode cX13_read 62 = .ok (.getfield 418, 3) := by decide +kernel
theorem dX13_read_65 : decode cX13_read 65 = .ok (.ifCond .ne 28, 3) := by decide +kernel
theorem dX13_read_68 : decode cX13_read 68 = .ok (.aload_n 0, 1) := by decide +kernel
theorem dX13_read_69 : decode cX13_read 69 = .ok (.getfield 452, 3) := by decide +kernel
theorem dX13_read_72 : decode cX13_read 72 = .ok (.ifCond .eq 21, 3) := by decide +kernel
theorem dX13_read_75 : decode cX13_read 75 = .ok (.aload_n 0, 1) := by decide +kernel
theorem dX13_read_76 : decode cX13_read 76 = .ok (.invokevirtual 699, 3) := by decide +kernel
theorem dX13_read_79 : decode cX13_read 79 = .ok (.aload_n 0, 1) := by decide +kernel
theorem dX13_read_80 : decode cX13_read 80 = .ok (.getfield 418, 3) := by decide +kernel
theorem dX13_read_83 : decode cX13_read 83 = .ok (.ifCond .ne (-22), 3) := by decide +kernel
theorem dX13_read_86 : decode cX13_read 86 = .ok (.aload_n 0, 1) := by decide +kernel
theorem dX13_read_87 : decode cX13_read 87 = .ok (.invokevirtual 490, 3) := by decide +kernel
theorem dX13_read_90 : decode cX13_read 90 = .ok (.goto (-29), 3) := by decide +kernel
theorem dX13_read_93 : decode cX13_read 93 = .ok (.aload_n 0, 1) := by decide +kernel
theorem dX13_read_94 : decode cX13_read 94 = .ok (.getfield 418, 3) := by decide +kernel
theorem dX13_read_97 : decode cX13_read 97 = .ok (.ifCond .ne 19, 3) := by decide +kernel
theorem dX13_read_100 : decode cX13_read 100 = .ok (.aload_n 0, 1) := by decide +kernel
theorem dX13_read_101 : decode cX13_read 101 = .ok (.getfield 677, 3) := by decide +kernel
theorem dX13_read_104 : decode cX13_read 104 = .ok (.ifCond .le 12, 3) := by decide +kernel
theorem dX13_read_107 : decode cX13_read 107 = .ok (.aload_n 0, 1) := by decide +kernel
theorem dX13_read_108 : decode cX13_read 108 = .ok (.iconst 4, 1) := by decide +kernel
theorem dX13_read_109 : decode cX13_read 109 = .ok (.aload_n 0, 1) := by decide +kernel
theorem dX13_read_110 : decode cX13_read 110 = .ok (.getfield 379, 3) := by decide +kernel
theorem dX13_read_113 : decode cX13_read 113 = .ok (.invokevirtual 437, 3) := by decide +kernel
theorem dX13_read_116 : decode cX13_read 116 = .ok (.aload_n 0, 1) := by decide +kernel
theorem dX13_read_117 : decode cX13_read 117 = .ok (.getfield 418, 3) := by decide +kernel
theorem dX13_read_120 : decode cX13_read 120 = .ok (.ifCond .le 16, 3) := by decide +kernel
theorem dX13_read_123 : decode cX13_read 123 = .ok (.aload_n 0, 1) := by decide +kernel
theorem dX13_read_124 : decode cX13_read 124 = .ok (.iload_n 1, 1) := by decide +kernel
theorem dX13_read_125 : decode cX13_read 125 = .ok (.iload_n 2, 1) := by decide +kernel
theorem dX13_read_126 : decode cX13_read 126 = .ok (.iload_n 3, 1) := by decide +kernel
theorem dX13_read_127 : decode cX13_read 127 = .ok (.iload 4, 2) := by decide +kernel
theorem dX13_read_129 : decode cX13_read 129 = .ok (.iload 5, 2) := by decide +kernel
theorem dX13_read_131 : decode cX13_read 131 = .ok (.iload 6, 2) := by decide +kernel
theorem dX13_read_133 : decode cX13_read 133 = .ok (.invokevirtual 702, 3) := by decide +kernel
theorem dX13_read_136 : decode cX13_read 136 = .ok (.aload_n 0, 1) := by decide +kernel
theorem dX13_read_137 : decode cX13_read 137 = .ok (.iconst 0, 1) := by decide +kernel
theorem dX13_read_138 : decode cX13_read 138 = .ok (.putfield 379, 3) := by decide +kernel
theorem dX13_read_141 : decode cX13_read 141 = .ok (.aload_n 0, 1) := by decide +kernel
theorem dX13_read_142 : decode cX13_read 142 = .ok (.iconst 0, 1) := by decide +kernel
theorem dX13_read_143 : decode cX13_read 143 = .ok (.putfield 382, 3) := by decide +kernel
theorem dX13_read_146 : decode cX13_read 146 = .ok (.aload_n 0, 1) := by decide +kernel
theorem dX13_read_147 : decode cX13_read 147 = .ok (.iload_n 2, 1) := by decide +kernel
theorem dX13_read_148 : decode cX13_read 148 = .ok (.invokevirtual 706, 3) := by decide +kernel
theorem dX13_read_151 : decode cX13_read 151 = .ok (.aload_n 0, 1) := by decide +kernel
theorem dX13_read_152 : decode cX13_read 152 = .ok (.getfield 418, 3) := by decide +kernel
theorem dX13_read_155 : decode cX13_read 155 = .ok (.ireturn, 1) := by decide +kernel
theorem dX13_place_0 : decode cX13_place 0 = .ok (.aload_n 0, 1) := by decide +kernel
theorem dX13_place_1 : decode cX13_place 1 = .ok (.getfield 366, 3) := by decide +kernel
theorem dX13_place_4 : decode cX13_place 4 = .ok (.ireturn, 1) := by decide +kernel
theorem dX13_isStatement_0 : decode cX13_isStatement 0 = .ok (.iload_n 1, 1) := by decide +kernel
theorem dX13_isStatement_1 : decode cX13_isStatement 1 = .ok (.i2l, 1) := by decide +kernel
theorem dX13_isStatement_2 : decode cX13_isStatement 2 = .ok (.lconst 0, 1) := by decide +kernel
theorem dX13_isStatement_3 : decode cX13_isStatement 3 = .ok (.aload_n 0, 1) := by decide +kernel
theorem dX13_isStatement_4 : decode cX13_isStatement 4 = .ok (.getfield 512, 3) := by decide +kernel
theorem dX13_isStatement_7 : decode cX13_isStatement 7 = .ok (.iconst 1, 1) := by decide +kernel
theorem dX13_isStatement_8 : decode cX13_isStatement 8 = .ok (.isub, 1) := by decide +kernel
theorem dX13_isStatement_9 : decode cX13_isStatement 9 = .ok (.i2l, 1) := by decide +kernel
theorem dX13_isStatement_10 : decode cX13_isStatement 10 = .ok (.invokestatic 388, 3) := by decide +kernel
theorem dX13_isStatement_13 : decode cX13_isStatement 13 = .ok (.ireturn, 1) := by decide +kernel
theorem dX13_isAssertion_0 : decode cX13_isAssertion 0 = .ok (.aload_n 0, 1) := by decide +kernel
theorem dX13_isAssertion_1 : decode cX13_isAssertion 1 = .ok (.iload_n 1, 1) := by decide +kernel
theorem dX13_isAssertion_2 : decode cX13_isAssertion 2 = .ok (.invokevirtual 709, 3) := by decide +kernel
theorem dX13_isAssertion_5 : decode cX13_isAssertion 5 = .ok (.ifCond .eq 17, 3) := by decide +kernel
theorem dX13_isAssertion_8 : decode cX13_isAssertion 8 = .ok (.aload_n 0, 1) := by decide +kernel
theorem dX13_isAssertion_9 : decode cX13_isAssertion 9 = .ok (.getfield 51, 3) := by decide +kernel
theorem dX13_isAssertion_12 : decode cX13_isAssertion 12 = .ok (.iload_n 1, 1) := by decide +kernel
theorem dX13_isAssertion_13 : decode cX13_isAssertion 13 = .ok (.iaload, 1) := by decide +kernel
theorem dX13_isAssertion_14 : decode cX13_isAssertion 14 = .ok (.iconst 2, 1) := by decide +kernel
theorem dX13_isAssertion_15 : decode cX13_isAssertion 15 = .ok (.if_icmp .lt 7, 3) := by decide +kernel
theorem dX13_isAssertion_18 : decode cX13_isAssertion 18 = .ok (.iconst 1, 1) := by decide +kernel
theorem dX13_isAssertion_19 : decode cX13_isAssertion 19 = .ok (.goto 4, 3) := by decide +kernel
theorem dX13_isAssertion_22 : decode cX13_isAssertion 22 = .ok (.iconst 0, 1) := by decide +kernel
theorem dX13_isAssertion_23 : decode cX13_isAssertion 23 = .ok (.ireturn, 1) := by decide +kernel
theorem dX13_isProved_0 : decode cX13_isProved 0 = .ok (.aload_n 0, 1) := by decide +kernel
theorem dX13_isProved_1 : decode cX13_isProved 1 = .ok (.iload_n 1, 1) := by decide +kernel
theorem dX13_isProved_2 : decode cX13_isProved 2 = .ok (.invokevirtual 709, 3) := by decide +kernel
theorem dX13_isProved_5 : decode cX13_isProved 5 = .ok (.ifCond .eq 17, 3) := by decide +kernel
theorem dX13_isProved_8 : decode cX13_isProved 8 = .ok (.aload_n 0, 1) := by decide +kernel
theorem dX13_isProved_9 : decode cX13_isProved 9 = .ok (.getfield 51, 3) := by decide +kernel
theorem dX13_isProved_12 : decode cX13_isProved 12 = .ok (.iload_n 1, 1) := by decide +kernel
theorem dX13_isProved_13 : decode cX13_isProved 13 = .ok (.iaload, 1) := by decide +kernel
theorem dX13_isProved_14 : decode cX13_isProved 14 = .ok (.iconst 3, 1) := by decide +kernel
theorem dX13_isProved_15 : decode cX13_isProved 15 = .ok (.if_icmp .ne 7, 3) := by decide +kernel
theorem dX13_isProved_18 : decode cX13_isProved 18 = .ok (.iconst 1, 1) := by decide +kernel
theorem dX13_isProved_19 : decode cX13_isProved 19 = .ok (.goto 4, 3) := by decide +kernel
theorem dX13_isProved_22 : decode cX13_isProved 22 = .ok (.iconst 0, 1) := by decide +kernel
theorem dX13_isProved_23 : decode cX13_isProved 23 = .ok (.ireturn, 1) := by decide +kernel
theorem dX13_count_0 : decode cX13_count 0 = .ok (.iconst 0, 1) := by decide +kernel
theorem dX13_count_1 : decode cX13_count 1 = .ok (.istore_n 2, 1) := by decide +kernel
theorem dX13_count_2 : decode cX13_count 2 = .ok (.iconst 0, 1) := by decide +kernel
theorem dX13_count_3 : decode cX13_count 3 = .ok (.istore_n 3, 1) := by decide +kernel
theorem dX13_count_4 : decode cX13_count 4 = .ok (.iload_n 3, 1) := by decide +kernel
theorem dX13_count_5 : decode cX13_count 5 = .ok (.aload_n 0, 1) := by decide +kernel
theorem dX13_count_6 : decode cX13_count 6 = .ok (.getfield 471, 3) := by decide +kernel
theorem dX13_count_9 : decode cX13_count 9 = .ok (.if_icmp .ge 26, 3) := by decide +kernel
theorem dX13_count_12 : decode cX13_count 12 = .ok (.iload_n 2, 1) := by decide +kernel
theorem dX13_count_13 : decode cX13_count 13 = .ok (.aload_n 0, 1) := by decide +kernel
theorem dX13_count_14 : decode cX13_count 14 = .ok (.getfield 35, 3) := by decide +kernel
theorem dX13_count_17 : decode cX13_count 17 = .ok (.iload_n 3, 1) := by decide +kernel
theorem dX13_count_18 : decode cX13_count 18 = .ok (.baload, 1) := by decide +kernel
theorem dX13_count_19 : decode cX13_count 19 = .ok (.ifCond .eq 7, 3) := by decide +kernel
theorem dX13_count_22 : decode cX13_count 22 = .ok (.iconst 0, 1) := by decide +kernel
theorem dX13_count_23 : decode cX13_count 23 = .ok (.goto 4, 3) := by decide +kernel
theorem dX13_count_26 : decode cX13_count 26 = .ok (.iconst 1, 1) := by decide +kernel
theorem dX13_count_27 : decode cX13_count 27 = .ok (.iadd, 1) := by decide +kernel
theorem dX13_count_28 : decode cX13_count 28 = .ok (.istore_n 2, 1) := by decide +kernel
theorem dX13_count_29 : decode cX13_count 29 = .ok (.iinc 3 1, 3) := by decide +kernel
theorem dX13_count_32 : decode cX13_count 32 = .ok (.goto (-28), 3) := by decide +kernel
theorem dX13_count_35 : decode cX13_count 35 = .ok (.iconst 0, 1) := by decide +kernel
theorem dX13_count_36 : decode cX13_count 36 = .ok (.istore_n 3, 1) := by decide +kernel
theorem dX13_count_37 : decode cX13_count 37 = .ok (.iconst 0, 1) := by decide +kernel
theorem dX13_count_38 : decode cX13_count 38 = .ok (.istore 4, 2) := by decide +kernel
theorem dX13_count_40 : decode cX13_count 40 = .ok (.iload 4, 2) := by decide +kernel
theorem dX13_count_42 : decode cX13_count 42 = .ok (.aload_n 0, 1) := by decide +kernel
theorem dX13_count_43 : decode cX13_count 43 = .ok (.getfield 512, 3) := by decide +kernel
theorem dX13_count_46 : decode cX13_count 46 = .ok (.if_icmp .ge 61, 3) := by decide +kernel
theorem dX13_count_49 : decode cX13_count 49 = .ok (.iload_n 1, 1) := by decide +kernel
theorem dX13_count_50 : decode cX13_count 50 = .ok (.bipush 7, 2) := by decide +kernel
theorem dX13_count_52 : decode cX13_count 52 = .ok (.if_icmp .ne 7, 3) := by decide +kernel
theorem dX13_count_55 : decode cX13_count 55 = .ok (.iconst 4, 1) := by decide +kernel
theorem dX13_count_56 : decode cX13_count 56 = .ok (.goto 6, 3) := by decide +kernel
theorem dX13_count_59 : decode cX13_count 59 = .ok (.iload_n 1, 1) := by decide +kernel
theorem dX13_count_60 : decode cX13_count 60 = .ok (.iconst 3, 1) := by decide +kernel
theorem dX13_count_61 : decode cX13_count 61 = .ok (.isub, 1) := by decide +kernel
theorem dX13_count_62 : decode cX13_count 62 = .ok (.istore 5, 2) := by decide +kernel
theorem dX13_count_64 : decode cX13_count 64 = .ok (.iload_n 3, 1) := by decide +kernel
theorem dX13_count_65 : decode cX13_count 65 = .ok (.aload_n 0, 1) := by decide +kernel
theorem dX13_count_66 : decode cX13_count 66 = .ok (.getfield 51, 3) := by decide +kernel
theorem dX13_count_69 : decode cX13_count 69 = .ok (.iload 4, 2) := by decide +kernel
theorem dX13_count_71 : decode cX13_count 71 = .ok (.iaload, 1) := by decide +kernel
theorem dX13_count_72 : decode cX13_count 72 = .ok (.iload 5, 2) := by decide +kernel
theorem dX13_count_74 : decode cX13_count 74 = .ok (.if_icmp .eq 20, 3) := by decide +kernel
theorem dX13_count_77 : decode cX13_count 77 = .ok (.iload_n 1, 1) := by decide +kernel
theorem dX13_count_78 : decode cX13_count 78 = .ok (.bipush 6, 2) := by decide +kernel
theorem dX13_count_80 : decode cX13_count 80 = .ok (.if_icmp .ne 18, 3) := by decide +kernel
theorem dX13_count_83 : decode cX13_count 83 = .ok (.aload_n 0, 1) := by decide +kernel
theorem dX13_count_84 : decode cX13_count 84 = .ok (.getfield 51, 3) := by decide +kernel
theorem dX13_count_87 : decode cX13_count 87 = .ok (.iload 4, 2) := by decide +kernel
theorem dX13_count_89 : decode cX13_count 89 = .ok (.iaload, 1) := by decide +kernel
theorem dX13_count_90 : decode cX13_count 90 = .ok (.iconst 4, 1) := by decide +kernel
theorem dX13_count_91 : decode cX13_count 91 = .ok (.if_icmp .ne 7, 3) := by decide +kernel
theorem dX13_count_94 : decode cX13_count 94 = .ok (.iconst 1, 1) := by decide +kernel
theorem dX13_count_95 : decode cX13_count 95 = .ok (.goto 4, 3) := by decide +kernel
theorem dX13_count_98 : decode cX13_count 98 = .ok (.iconst 0, 1) := by decide +kernel
theorem dX13_count_99 : decode cX13_count 99 = .ok (.iadd, 1) := by decide +kernel
theorem dX13_count_100 : decode cX13_count 100 = .ok (.istore_n 3, 1) := by decide +kernel
theorem dX13_count_101 : decode cX13_count 101 = .ok (.iinc 4 1, 3) := by decide +kernel
theorem dX13_count_104 : decode cX13_count 104 = .ok (.goto (-64), 3) := by decide +kernel
theorem dX13_count_107 : decode cX13_count 107 = .ok (.iload_n 1, 1) := by decide +kernel
theorem dX13_count_108 : decode cX13_count 108 = .ok (.tableswitch 80 0 9 #[56, 61, 66, 68, 68, 68, 68, 68, 70, 75], 56) := by decide +kernel
theorem dX13_count_164 : decode cX13_count 164 = .ok (.aload_n 0, 1) := by decide +kernel
theorem dX13_count_165 : decode cX13_count 165 = .ok (.getfield 512, 3) := by decide +kernel
theorem dX13_count_168 : decode cX13_count 168 = .ok (.ireturn, 1) := by decide +kernel
theorem dX13_count_169 : decode cX13_count 169 = .ok (.aload_n 0, 1) := by decide +kernel
theorem dX13_count_170 : decode cX13_count 170 = .ok (.getfield 471, 3) := by decide +kernel
theorem dX13_count_173 : decode cX13_count 173 = .ok (.ireturn, 1) := by decide +kernel
theorem dX13_count_174 : decode cX13_count 174 = .ok (.iload_n 2, 1) := by decide +kernel
theorem dX13_count_175 : decode cX13_count 175 = .ok (.ireturn, 1) := by decide +kernel
theorem dX13_count_176 : decode cX13_count 176 = .ok (.iload_n 3, 1) := by decide +kernel
theorem dX13_count_177 : decode cX13_count 177 = .ok (.ireturn, 1) := by decide +kernel
theorem dX13_count_178 : decode cX13_count 178 = .ok (.aload_n 0, 1) := by decide +kernel
theorem dX13_count_179 : decode cX13_count 179 = .ok (.getfield 533, 3) := by decide +kernel
theorem dX13_count_182 : decode cX13_count 182 = .ok (.ireturn, 1) := by decide +kernel
theorem dX13_count_183 : decode cX13_count 183 = .ok (.aload_n 0, 1) := by decide +kernel
theorem dX13_count_184 : decode cX13_count 184 = .ok (.getfield 530, 3) := by decide +kernel
theorem dX13_count_187 : decode cX13_count 187 = .ok (.ireturn, 1) := by decide +kernel
theorem dX13_count_188 : decode cX13_count 188 = .ok (.iconst (-1), 1) := by decide +kernel
theorem dX13_count_189 : decode cX13_count 189 = .ok (.ireturn, 1) := by decide +kernel
theorem dX13_kind_0 : decode cX13_kind 0 = .ok (.aload_n 0, 1) := by decide +kernel
theorem dX13_kind_1 : decode cX13_kind 1 = .ok (.iload_n 1, 1) := by decide +kernel
theorem dX13_kind_2 : decode cX13_kind 2 = .ok (.invokevirtual 709, 3) := by decide +kernel
theorem dX13_kind_5 : decode cX13_kind 5 = .ok (.ifCond .eq 12, 3) := by decide +kernel
theorem dX13_kind_8 : decode cX13_kind 8 = .ok (.aload_n 0, 1) := by decide +kernel
theorem dX13_kind_9 : decode cX13_kind 9 = .ok (.getfield 51, 3) := by decide +kernel
theorem dX13_kind_12 : decode cX13_kind 12 = .ok (.iload_n 1, 1) := by decide +kernel
theorem dX13_kind_13 : decode cX13_kind 13 = .ok (.iaload, 1) := by decide +kernel
theorem dX13_kind_14 : decode cX13_kind 14 = .ok (.goto 4, 3) := by decide +kernel
theorem dX13_kind_17 : decode cX13_kind 17 = .ok (.iconst (-1), 1) := by decide +kernel
theorem dX13_kind_18 : decode cX13_kind 18 = .ok (.ireturn, 1) := by decide +kernel
theorem dX13_length_0 : decode cX13_length 0 = .ok (.aload_n 0, 1) := by decide +kernel
theorem dX13_length_1 : decode cX13_length 1 = .ok (.iload_n 1, 1) := by decide +kernel
theorem dX13_length_2 : decode cX13_length 2 = .ok (.invokevirtual 709, 3) := by decide +kernel
theorem dX13_length_5 : decode cX13_length 5 = .ok (.ifCond .eq 12, 3) := by decide +kernel
theorem dX13_length_8 : decode cX13_length 8 = .ok (.aload_n 0, 1) := by decide +kernel
theorem dX13_length_9 : decode cX13_length 9 = .ok (.getfield 57, 3) := by decide +kernel
theorem dX13_length_12 : decode cX13_length 12 = .ok (.iload_n 1, 1) := by decide +kernel
theorem dX13_length_13 : decode cX13_length 13 = .ok (.iaload, 1) := by decide +kernel
theorem dX13_length_14 : decode cX13_length 14 = .ok (.goto 4, 3) := by decide +kernel
theorem dX13_length_17 : decode cX13_length 17 = .ok (.iconst (-1), 1) := by decide +kernel
theorem dX13_length_18 : decode cX13_length 18 = .ok (.ireturn, 1) := by decide +kernel
theorem dX13_symbol_0 : decode cX13_symbol 0 = .ok (.aload_n 0, 1) := by decide +kernel
theorem dX13_symbol_1 : decode cX13_symbol 1 = .ok (.iload_n 1, 1) := by decide +kernel
theorem dX13_symbol_2 : decode cX13_symbol 2 = .ok (.invokevirtual 709, 3) := by decide +kernel
theorem dX13_symbol_5 : decode cX13_symbol 5 = .ok (.ifCond .eq 37, 3) := by decide +kernel
theorem dX13_symbol_8 : decode cX13_symbol 8 = .ok (.iload_n 2, 1) := by decide +kernel
theorem dX13_symbol_9 : decode cX13_symbol 9 = .ok (.i2l, 1) := by decide +kernel
theorem dX13_symbol_10 : decode cX13_symbol 10 = .ok (.lconst 0, 1) := by decide +kernel
theorem dX13_symbol_11 : decode cX13_symbol 11 = .ok (.aload_n 0, 1) := by decide +kernel
theorem dX13_symbol_12 : decode cX13_symbol 12 = .ok (.getfield 57, 3) := by decide +kernel
theorem dX13_symbol_15 : decode cX13_symbol 15 = .ok (.iload_n 1, 1) := by decide +kernel
theorem dX13_symbol_16 : decode cX13_symbol 16 = .ok (.iaload, 1) := by decide +kernel
theorem dX13_symbol_17 : decode cX13_symbol 17 = .ok (.iconst 1, 1) := by decide +kernel
theorem dX13_symbol_18 : decode cX13_symbol 18 = .ok (.isub, 1) := by decide +kernel
theorem dX13_symbol_19 : decode cX13_symbol 19 = .ok (.i2l, 1) := by decide +kernel
theorem dX13_symbol_20 : decode cX13_symbol 20 = .ok (.invokestatic 388, 3) := by decide +kernel
theorem dX13_symbol_23 : decode cX13_symbol 23 = .ok (.ifCond .eq 19, 3) := by decide +kernel
theorem dX13_symbol_26 : decode cX13_symbol 26 = .ok (.aload_n 0, 1) := by decide +kernel
theorem dX13_symbol_27 : decode cX13_symbol 27 = .ok (.getfield 60, 3) := by decide +kernel
theorem dX13_symbol_30 : decode cX13_symbol 30 = .ok (.aload_n 0, 1) := by decide +kernel
theorem dX13_symbol_31 : decode cX13_symbol 31 = .ok (.getfield 54, 3) := by decide +kernel
theorem dX13_symbol_34 : decode cX13_symbol 34 = .ok (.iload_n 1, 1) := by decide +kernel
theorem dX13_symbol_35 : decode cX13_symbol 35 = .ok (.iaload, 1) := by decide +kernel
theorem dX13_symbol_36 : decode cX13_symbol 36 = .ok (.iload_n 2, 1) := by decide +kernel
theorem dX13_symbol_37 : decode cX13_symbol 37 = .ok (.iadd, 1) := by decide +kernel
theorem dX13_symbol_38 : decode cX13_symbol 38 = .ok (.iaload, 1) := by decide +kernel
theorem dX13_symbol_39 : decode cX13_symbol 39 = .ok (.goto 4, 3) := by decide +kernel
theorem dX13_symbol_42 : decode cX13_symbol 42 = .ok (.iconst (-1), 1) := by decide +kernel
theorem dX13_symbol_43 : decode cX13_symbol 43 = .ok (.ireturn, 1) := by decide +kernel
theorem dX13_variable_0 : decode cX13_variable 0 = .ok (.iload_n 1, 1) := by decide +kernel
theorem dX13_variable_1 : decode cX13_variable 1 = .ok (.i2l, 1) := by decide +kernel
theorem dX13_variable_2 : decode cX13_variable 2 = .ok (.lconst 0, 1) := by decide +kernel
theorem dX13_variable_3 : decode cX13_variable 3 = .ok (.aload_n 0, 1) := by decide +kernel
theorem dX13_variable_4 : decode cX13_variable 4 = .ok (.getfield 471, 3) := by decide +kernel
theorem dX13_variable_7 : decode cX13_variable 7 = .ok (.iconst 1, 1) := by decide +kernel
theorem dX13_variable_8 : decode cX13_variable 8 = .ok (.isub, 1) := by decide +kernel
theorem dX13_variable_9 : decode cX13_variable 9 = .ok (.i2l, 1) := by decide +kernel
theorem dX13_variable_10 : decode cX13_variable 10 = .ok (.invokestatic 388, 3) := by decide +kernel
theorem dX13_variable_13 : decode cX13_variable 13 = .ok (.ifCond .ne 7, 3) := by decide +kernel
theorem dX13_variable_16 : decode cX13_variable 16 = .ok (.iconst (-1), 1) := by decide +kernel
theorem dX13_variable_17 : decode cX13_variable 17 = .ok (.goto 17, 3) := by decide +kernel
theorem dX13_variable_20 : decode cX13_variable 20 = .ok (.aload_n 0, 1) := by decide +kernel
theorem dX13_variable_21 : decode cX13_variable 21 = .ok (.getfield 35, 3) := by decide +kernel
theorem dX13_variable_24 : decode cX13_variable 24 = .ok (.iload_n 1, 1) := by decide +kernel
theorem dX13_variable_25 : decode cX13_variable 25 = .ok (.baload, 1) := by decide +kernel
theorem dX13_variable_26 : decode cX13_variable 26 = .ok (.ifCond .eq 7, 3) := by decide +kernel
theorem dX13_variable_29 : decode cX13_variable 29 = .ok (.iconst 1, 1) := by decide +kernel
theorem dX13_variable_30 : decode cX13_variable 30 = .ok (.goto 4, 3) := by decide +kernel
theorem dX13_variable_33 : decode cX13_variable 33 = .ok (.iconst 0, 1) := by decide +kernel
theorem dX13_variable_34 : decode cX13_variable 34 = .ok (.ireturn, 1) := by decide +kernel
theorem dX13_rowFrom_0 : decode cX13_rowFrom 0 = .ok (.aload_n 0, 1) := by decide +kernel
theorem dX13_rowFrom_1 : decode cX13_rowFrom 1 = .ok (.iload_n 1, 1) := by decide +kernel
theorem dX13_rowFrom_2 : decode cX13_rowFrom 2 = .ok (.putfield 427, 3) := by decide +kernel
theorem dX13_rowFrom_5 : decode cX13_rowFrom 5 = .ok (.aload_n 0, 1) := by decide +kernel
theorem dX13_rowFrom_6 : decode cX13_rowFrom 6 = .ok (.getfield 427, 3) := by decide +kernel
theorem dX13_rowFrom_9 : decode cX13_rowFrom 9 = .ok (.aload_n 0, 1) := by decide +kernel
theorem dX13_rowFrom_10 : decode cX13_rowFrom 10 = .ok (.getfield 379, 3) := by decide +kernel
theorem dX13_rowFrom_13 : decode cX13_rowFrom 13 = .ok (.if_icmp .ge 31, 3) := by decide +kernel
theorem dX13_rowFrom_16 : decode cX13_rowFrom 16 = .ok (.aload_n 0, 1) := by decide +kernel
theorem dX13_rowFrom_17 : decode cX13_rowFrom 17 = .ok (.getfield 8, 3) := by decide +kernel
theorem dX13_rowFrom_20 : decode cX13_rowFrom 20 = .ok (.aload_n 0, 1) := by decide +kernel
theorem dX13_rowFrom_21 : decode cX13_rowFrom 21 = .ok (.getfield 427, 3) := by decide +kernel
theorem dX13_rowFrom_24 : decode cX13_rowFrom 24 = .ok (.iaload, 1) := by decide +kernel
theorem dX13_rowFrom_25 : decode cX13_rowFrom 25 = .ok (.invokestatic 430, 3) := by decide +kernel
theorem dX13_rowFrom_28 : decode cX13_rowFrom 28 = .ok (.ifCond .eq 16, 3) := by decide +kernel
theorem dX13_rowFrom_31 : decode cX13_rowFrom 31 = .ok (.aload_n 0, 1) := by decide +kernel
theorem dX13_rowFrom_32 : decode cX13_rowFrom 32 = .ok (.dup, 1) := by decide +kernel
theorem dX13_rowFrom_33 : decode cX13_rowFrom 33 = .ok (.getfield 427, 3) := by decide +kernel
theorem dX13_rowFrom_36 : decode cX13_rowFrom 36 = .ok (.iconst 1, 1) := by decide +kernel
theorem dX13_rowFrom_37 : decode cX13_rowFrom 37 = .ok (.iadd, 1) := by decide +kernel
theorem dX13_rowFrom_38 : decode cX13_rowFrom 38 = .ok (.putfield 427, 3) := by decide +kernel
theorem dX13_rowFrom_41 : decode cX13_rowFrom 41 = .ok (.goto (-36), 3) := by decide +kernel
theorem dX13_rowFrom_44 : decode cX13_rowFrom 44 = .ok (.aload_n 0, 1) := by decide +kernel
theorem dX13_rowFrom_45 : decode cX13_rowFrom 45 = .ok (.aload_n 0, 1) := by decide +kernel
theorem dX13_rowFrom_46 : decode cX13_rowFrom 46 = .ok (.getfield 427, 3) := by decide +kernel
theorem dX13_rowFrom_49 : decode cX13_rowFrom 49 = .ok (.putfield 424, 3) := by decide +kernel
theorem dX13_rowFrom_52 : decode cX13_rowFrom 52 = .ok (.aload_n 0, 1) := by decide +kernel
theorem dX13_rowFrom_53 : decode cX13_rowFrom 53 = .ok (.getfield 427, 3) := by decide +kernel
theorem dX13_rowFrom_56 : decode cX13_rowFrom 56 = .ok (.aload_n 0, 1) := by decide +kernel
theorem dX13_rowFrom_57 : decode cX13_rowFrom 57 = .ok (.getfield 379, 3) := by decide +kernel
theorem dX13_rowFrom_60 : decode cX13_rowFrom 60 = .ok (.if_icmp .ge 31, 3) := by decide +kernel
theorem dX13_rowFrom_63 : decode cX13_rowFrom 63 = .ok (.aload_n 0, 1) := by decide +kernel
theorem dX13_rowFrom_64 : decode cX13_rowFrom 64 = .ok (.getfield 8, 3) := by decide +kernel
theorem dX13_rowFrom_67 : decode cX13_rowFrom 67 = .ok (.aload_n 0, 1) := by decide +kernel
theorem dX13_rowFrom_68 : decode cX13_rowFrom 68 = .ok (.getfield 427, 3) := by decide +kernel
theorem dX13_rowFrom_71 : decode cX13_rowFrom 71 = .ok (.iaload, 1) := by decide +kernel
theorem dX13_rowFrom_72 : decode cX13_rowFrom 72 = .ok (.invokestatic 434, 3) := by decide +kernel
theorem dX13_rowFrom_75 : decode cX13_rowFrom 75 = .ok (.ifCond .eq 16, 3) := by decide +kernel
theorem dX13_rowFrom_78 : decode cX13_rowFrom 78 = .ok (.aload_n 0, 1) := by decide +kernel
theorem dX13_rowFrom_79 : decode cX13_rowFrom 79 = .ok (.dup, 1) := by decide +kernel
theorem dX13_rowFrom_80 : decode cX13_rowFrom 80 = .ok (.getfield 427, 3) := by decide +kernel
theorem dX13_rowFrom_83 : decode cX13_rowFrom 83 = .ok (.iconst 1, 1) := by decide +kernel
theorem dX13_rowFrom_84 : decode cX13_rowFrom 84 = .ok (.iadd, 1) := by decide +kernel
theorem dX13_rowFrom_85 : decode cX13_rowFrom 85 = .ok (.putfield 427, 3) := by decide +kernel
theorem dX13_rowFrom_88 : decode cX13_rowFrom 88 = .ok (.goto (-36), 3) := by decide +kernel
theorem dX13_rowFrom_91 : decode cX13_rowFrom 91 = .ok (.aload_n 0, 1) := by decide +kernel
theorem dX13_rowFrom_92 : decode cX13_rowFrom 92 = .ok (.aload_n 0, 1) := by decide +kernel
theorem dX13_rowFrom_93 : decode cX13_rowFrom 93 = .ok (.getfield 427, 3) := by decide +kernel
theorem dX13_rowFrom_96 : decode cX13_rowFrom 96 = .ok (.aload_n 0, 1) := by decide +kernel
theorem dX13_rowFrom_97 : decode cX13_rowFrom 97 = .ok (.getfield 424, 3) := by decide +kernel
theorem dX13_rowFrom_100 : decode cX13_rowFrom 100 = .ok (.isub, 1) := by decide +kernel
theorem dX13_rowFrom_101 : decode cX13_rowFrom 101 = .ok (.putfield 421, 3) := by decide +kernel
theorem dX13_rowFrom_104 : decode cX13_rowFrom 104 = .ok (.aload_n 0, 1) := by decide +kernel
theorem dX13_rowFrom_105 : decode cX13_rowFrom 105 = .ok (.getfield 421, 3) := by decide +kernel
theorem dX13_rowFrom_108 : decode cX13_rowFrom 108 = .ok (.ifCond .le 7, 3) := by decide +kernel
theorem dX13_rowFrom_111 : decode cX13_rowFrom 111 = .ok (.iconst 1, 1) := by decide +kernel
theorem dX13_rowFrom_112 : decode cX13_rowFrom 112 = .ok (.goto 19, 3) := by decide +kernel
theorem dX13_rowFrom_115 : decode cX13_rowFrom 115 = .ok (.aload_n 0, 1) := by decide +kernel
theorem dX13_rowFrom_116 : decode cX13_rowFrom 116 = .ok (.getfield 427, 3) := by decide +kernel
theorem dX13_rowFrom_119 : decode cX13_rowFrom 119 = .ok (.aload_n 0, 1) := by decide +kernel
theorem dX13_rowFrom_120 : decode cX13_rowFrom 120 = .ok (.getfield 379, 3) := by decide +kernel
theorem dX13_rowFrom_123 : decode cX13_rowFrom 123 = .ok (.if_icmp .ge 7, 3) := by decide +kernel
theorem dX13_rowFrom_126 : decode cX13_rowFrom 126 = .ok (.iconst (-1), 1) := by decide +kernel
theorem dX13_rowFrom_127 : decode cX13_rowFrom 127 = .ok (.goto 4, 3) := by decide +kernel
theorem dX13_rowFrom_130 : decode cX13_rowFrom 130 = .ok (.iconst 0, 1) := by decide +kernel
theorem dX13_rowFrom_131 : decode cX13_rowFrom 131 = .ok (.ireturn, 1) := by decide +kernel
theorem dX13_useTape_0 : decode cX13_useTape 0 = .ok (.aload_n 0, 1) := by decide +kernel
theorem dX13_useTape_1 : decode cX13_useTape 1 = .ok (.iconst 0, 1) := by decide +kernel
theorem dX13_useTape_2 : decode cX13_useTape 2 = .ok (.putfield 379, 3) := by decide +kernel
theorem dX13_useTape_5 : decode cX13_useTape 5 = .ok (.aload_n 0, 1) := by decide +kernel
theorem dX13_useTape_6 : decode cX13_useTape 6 = .ok (.iconst 0, 1) := by decide +kernel
theorem dX13_useTape_7 : decode cX13_useTape 7 = .ok (.putfield 382, 3) := by decide +kernel
theorem dX13_useTape_10 : decode cX13_useTape 10 = .ok (.return_, 1) := by decide +kernel
theorem dX13_find_0 : decode cX13_find 0 = .ok (.aload_n 0, 1) := by decide +kernel
theorem dX13_find_1 : decode cX13_find 1 = .ok (.iconst 0, 1) := by decide +kernel
theorem dX13_find_2 : decode cX13_find 2 = .ok (.invokevirtual 712, 3) := by decide +kernel
theorem dX13_find_5 : decode cX13_find 5 = .ok (.istore_n 2, 1) := by decide +kernel
theorem dX13_find_6 : decode cX13_find 6 = .ok (.aload_n 0, 1) := by decide +kernel
theorem dX13_find_7 : decode cX13_find 7 = .ok (.getfield 424, 3) := by decide +kernel
theorem dX13_find_10 : decode cX13_find 10 = .ok (.istore_n 3, 1) := by decide +kernel
theorem dX13_find_11 : decode cX13_find 11 = .ok (.aload_n 0, 1) := by decide +kernel
theorem dX13_find_12 : decode cX13_find 12 = .ok (.getfield 421, 3) := by decide +kernel
theorem dX13_find_15 : decode cX13_find 15 = .ok (.istore 4, 2) := by decide +kernel
theorem dX13_find_17 : decode cX13_find 17 = .ok (.iload_n 2, 1) := by decide +kernel
theorem dX13_find_18 : decode cX13_find 18 = .ok (.iconst 1, 1) := by decide +kernel
theorem dX13_find_19 : decode cX13_find 19 = .ok (.if_icmp .ne 18, 3) := by decide +kernel
theorem dX13_find_22 : decode cX13_find 22 = .ok (.aload_n 0, 1) := by decide +kernel
theorem dX13_find_23 : decode cX13_find 23 = .ok (.aload_n 0, 1) := by decide +kernel
theorem dX13_find_24 : decode cX13_find 24 = .ok (.getfield 427, 3) := by decide +kernel
theorem dX13_find_27 : decode cX13_find 27 = .ok (.invokevirtual 712, 3) := by decide +kernel
theorem dX13_find_30 : decode cX13_find 30 = .ok (.ifCond .ne 7, 3) := by decide +kernel
theorem dX13_find_33 : decode cX13_find 33 = .ok (.iconst 1, 1) := by decide +kernel
theorem dX13_find_34 : decode cX13_find 34 = .ok (.goto 4, 3) := by decide +kernel
theorem dX13_find_37 : decode cX13_find 37 = .ok (.iconst 0, 1) := by decide +kernel
theorem dX13_find_38 : decode cX13_find 38 = .ok (.istore 5, 2) := by decide +kernel
theorem dX13_find_40 : decode cX13_find 40 = .ok (.iload 5, 2) := by decide +kernel
theorem dX13_find_42 : decode cX13_find 42 = .ok (.ifCond .eq 13, 3) := by decide +kernel
theorem dX13_find_45 : decode cX13_find 45 = .ok (.iload_n 1, 1) := by decide +kernel
theorem dX13_find_46 : decode cX13_find 46 = .ok (.i2l, 1) := by decide +kernel
theorem dX13_find_47 : decode cX13_find 47 = .ok (.lconst 0, 1) := by decide +kernel
theorem dX13_find_48 : decode cX13_find 48 = .ok (.lconst 1, 1) := by decide +kernel
theorem dX13_find_49 : decode cX13_find 49 = .ok (.invokestatic 388, 3) := by decide +kernel
theorem dX13_find_52 : decode cX13_find 52 = .ok (.ifCond .ne 7, 3) := by decide +kernel
theorem dX13_find_55 : decode cX13_find 55 = .ok (.iconst (-1), 1) := by decide +kernel
theorem dX13_find_56 : decode cX13_find 56 = .ok (.goto 32, 3) := by decide +kernel
theorem dX13_find_59 : decode cX13_find 59 = .ok (.iload_n 1, 1) := by decide +kernel
theorem dX13_find_60 : decode cX13_find 60 = .ok (.ifCond .ne 17, 3) := by decide +kernel
theorem dX13_find_63 : decode cX13_find 63 = .ok (.aload_n 0, 1) := by decide +kernel
theorem dX13_find_64 : decode cX13_find 64 = .ok (.aload_n 0, 1) := by decide +kernel
theorem dX13_find_65 : decode cX13_find 65 = .ok (.getfield 8, 3) := by decide +kernel
theorem dX13_find_68 : decode cX13_find 68 = .ok (.iload_n 3, 1) := by decide +kernel
theorem dX13_find_69 : decode cX13_find 69 = .ok (.iload 4, 2) := by decide +kernel
theorem dX13_find_71 : decode cX13_find 71 = .ok (.invokevirtual 478, 3) := by decide +kernel
theorem dX13_find_74 : decode cX13_find 74 = .ok (.goto 14, 3) := by decide +kernel
theorem dX13_find_77 : decode cX13_find 77 = .ok (.aload_n 0, 1) := by decide +kernel
theorem dX13_find_78 : decode cX13_find 78 = .ok (.aload_n 0, 1) := by decide +kernel
theorem dX13_find_79 : decode cX13_find 79 = .ok (.getfield 8, 3) := by decide +kernel
theorem dX13_find_82 : decode cX13_find 82 = .ok (.iload_n 3, 1) := by decide +kernel
theorem dX13_find_83 : decode cX13_find 83 = .ok (.iload 4, 2) := by decide +kernel
theorem dX13_find_85 : decode cX13_find 85 = .ok (.invokevirtual 464, 3) := by decide +kernel
theorem dX13_find_88 : decode cX13_find 88 = .ok (.istore 6, 2) := by decide +kernel
theorem dX13_find_90 : decode cX13_find 90 = .ok (.aload_n 0, 1) := by decide +kernel
theorem dX13_find_91 : decode cX13_find 91 = .ok (.invokevirtual 716, 3) := by decide +kernel
theorem dX13_find_94 : decode cX13_find 94 = .ok (.iload 6, 2) := by decide +kernel
theorem dX13_find_96 : decode cX13_find 96 = .ok (.ireturn, 1) := by decide +kernel
theorem dX13_resting_0 : decode cX13_resting 0 = .ok (.iconst 0, 1) := by decide +kernel
theorem dX13_resting_1 : decode cX13_resting 1 = .ok (.istore_n 2, 1) := by decide +kernel
theorem dX13_resting_2 : decode cX13_resting 2 = .ok (.iconst 0, 1) := by decide +kernel
theorem dX13_resting_3 : decode cX13_resting 3 = .ok (.istore_n 3, 1) := by decide +kernel
theorem dX13_resting_4 : decode cX13_resting 4 = .ok (.iload_n 3, 1) := by decide +kernel
theorem dX13_resting_5 : decode cX13_resting 5 = .ok (.aload_n 0, 1) := by decide +kernel
theorem dX13_resting_6 : decode cX13_resting 6 = .ok (.getfield 512, 3) := by decide +kernel
theorem dX13_resting_9 : decode cX13_resting 9 = .ok (.if_icmp .ge 43, 3) := by decide +kernel
theorem dX13_resting_12 : decode cX13_resting 12 = .ok (.iload_n 2, 1) := by decide +kernel
theorem dX13_resting_13 : decode cX13_resting 13 = .ok (.aload_n 0, 1) := by decide +kernel
theorem dX13_resting_14 : decode cX13_resting 14 = .ok (.getfield 104, 3) := by decide +kernel
theorem dX13_resting_17 : decode cX13_resting 17 = .ok (.bipush 24, 2) := by decide +kernel
theorem dX13_resting_19 : decode cX13_resting 19 = .ok (.iload_n 1, 1) := by decide +kernel
theorem dX13_resting_20 : decode cX13_resting 20 = .ok (.imul, 1) := by decide +kernel
theorem dX13_resting_21 : decode cX13_resting 21 = .ok (.iload_n 3, 1) := by decide +kernel
theorem dX13_resting_22 : decode cX13_resting 22 = .ok (.bipush 64, 2) := by decide +kernel
theorem dX13_resting_24 : decode cX13_resting 24 = .ok (.idiv, 1) := by decide +kernel
theorem dX13_resting_25 : decode cX13_resting 25 = .ok (.iadd, 1) := by decide +kernel
theorem dX13_resting_26 : decode cX13_resting 26 = .ok (.laload, 1) := by decide +kernel
theorem dX13_resting_27 : decode cX13_resting 27 = .ok (.iload_n 3, 1) := by decide +kernel
theorem dX13_resting_28 : decode cX13_resting 28 = .ok (.bipush 64, 2) := by decide +kernel
theorem dX13_resting_30 : decode cX13_resting 30 = .ok (.irem, 1) := by decide +kernel
theorem dX13_resting_31 : decode cX13_resting 31 = .ok (.lshr, 1) := by decide +kernel
theorem dX13_resting_32 : decode cX13_resting 32 = .ok (.lconst 1, 1) := by decide +kernel
theorem dX13_resting_33 : decode cX13_resting 33 = .ok (.land, 1) := by decide +kernel
theorem dX13_resting_34 : decode cX13_resting 34 = .ok (.lconst 1, 1) := by decide +kernel
theorem dX13_resting_35 : decode cX13_resting 35 = .ok (.lcmp, 1) := by decide +kernel
theorem dX13_resting_36 : decode cX13_resting 36 = .ok (.ifCond .ne 7, 3) := by decide +kernel
theorem dX13_resting_39 : decode cX13_resting 39 = .ok (.iconst 1, 1) := by decide +kernel
theorem dX13_resting_40 : decode cX13_resting 40 = .ok (.goto 4, 3) := by decide +kernel
theorem dX13_resting_43 : decode cX13_resting 43 = .ok (.iconst 0, 1) := by decide +kernel
theorem dX13_resting_44 : decode cX13_resting 44 = .ok (.iadd, 1) := by decide +kernel
theorem dX13_resting_45 : decode cX13_resting 45 = .ok (.istore_n 2, 1) := by decide +kernel
theorem dX13_resting_46 : decode cX13_resting 46 = .ok (.iinc 3 1, 3) := by decide +kernel
theorem dX13_resting_49 : decode cX13_resting 49 = .ok (.goto (-45), 3) := by decide +kernel
theorem dX13_resting_52 : decode cX13_resting 52 = .ok (.iload_n 2, 1) := by decide +kernel
theorem dX13_resting_53 : decode cX13_resting 53 = .ok (.ireturn, 1) := by decide +kernel
theorem dX13_frame_0 : decode cX13_frame 0 = .ok (.aload_n 0, 1) := by decide +kernel
theorem dX13_frame_1 : decode cX13_frame 1 = .ok (.iload_n 1, 1) := by decide +kernel
theorem dX13_frame_2 : decode cX13_frame 2 = .ok (.invokevirtual 719, 3) := by decide +kernel
theorem dX13_frame_5 : decode cX13_frame 5 = .ok (.ifCond .eq 15, 3) := by decide +kernel
theorem dX13_frame_8 : decode cX13_frame 8 = .ok (.iload_n 2, 1) := by decide +kernel
theorem dX13_frame_9 : decode cX13_frame 9 = .ok (.i2l, 1) := by decide +kernel
theorem dX13_frame_10 : decode cX13_frame 10 = .ok (.lconst 0, 1) := by decide +kernel
theorem dX13_frame_11 : decode cX13_frame 11 = .ok (.ldc2_w 722, 3) := by decide +kernel
theorem dX13_frame_14 : decode cX13_frame 14 = .ok (.invokestatic 388, 3) := by decide +kernel
theorem dX13_frame_17 : decode cX13_frame 17 = .ok (.ifCond .ne 5, 3) := by decide +kernel
theorem dX13_frame_20 : decode cX13_frame 20 = .ok (.iconst (-1), 1) := by decide +kernel
theorem dX13_frame_21 : decode cX13_frame 21 = .ok (.ireturn, 1) := by decide +kernel
theorem dX13_frame_22 : decode cX13_frame 22 = .ok (.iload_n 2, 1) := by decide +kernel
theorem dX13_frame_23 : decode cX13_frame 23 = .ok (.ifCond .ne 12, 3) := by decide +kernel
theorem dX13_frame_26 : decode cX13_frame 26 = .ok (.aload_n 0, 1) := by decide +kernel
theorem dX13_frame_27 : decode cX13_frame 27 = .ok (.getfield 69, 3) := by decide +kernel
theorem dX13_frame_30 : decode cX13_frame 30 = .ok (.iload_n 1, 1) := by decide +kernel
theorem dX13_frame_31 : decode cX13_frame 31 = .ok (.iaload, 1) := by decide +kernel
theorem dX13_frame_32 : decode cX13_frame 32 = .ok (.goto 36, 3) := by decide +kernel
theorem dX13_frame_35 : decode cX13_frame 35 = .ok (.iload_n 2, 1) := by decide +kernel
theorem dX13_frame_36 : decode cX13_frame 36 = .ok (.iconst 1, 1) := by decide +kernel
theorem dX13_frame_37 : decode cX13_frame 37 = .ok (.if_icmp .ne 12, 3) := by decide +kernel
theorem dX13_frame_40 : decode cX13_frame 40 = .ok (.aload_n 0, 1) := by decide +kernel
theorem dX13_frame_41 : decode cX13_frame 41 = .ok (.getfield 79, 3) := by decide +kernel
theorem dX13_frame_44 : decode cX13_frame 44 = .ok (.iload_n 1, 1) := by decide +kernel
theorem dX13_frame_45 : decode cX13_frame 45 = .ok (.iaload, 1) := by decide +kernel
theorem dX13_frame_46 : decode cX13_frame 46 = .ok (.goto 22, 3) := by decide +kernel
theorem dX13_frame_49 : decode cX13_frame 49 = .ok (.aload_n 0, 1) := by decide +kernel
theorem dX13_frame_50 : decode cX13_frame 50 = .ok (.getfield 51, 3) := by decide +kernel
theorem dX13_frame_53 : decode cX13_frame 53 = .ok (.iload_n 1, 1) := by decide +kernel
theorem dX13_frame_54 : decode cX13_frame 54 = .ok (.iaload, 1) := by decide +kernel
theorem dX13_frame_55 : decode cX13_frame 55 = .ok (.iconst 4, 1) := by decide +kernel
theorem dX13_frame_56 : decode cX13_frame 56 = .ok (.if_icmp .ne 7, 3) := by decide +kernel
theorem dX13_frame_59 : decode cX13_frame 59 = .ok (.iconst (-1), 1) := by decide +kernel
theorem dX13_frame_60 : decode cX13_frame 60 = .ok (.goto 8, 3) := by decide +kernel
theorem dX13_frame_63 : decode cX13_frame 63 = .ok (.aload_n 0, 1) := by decide +kernel
theorem dX13_frame_64 : decode cX13_frame 64 = .ok (.iload_n 1, 1) := by decide +kernel
theorem dX13_frame_65 : decode cX13_frame 65 = .ok (.invokevirtual 724, 3) := by decide +kernel
theorem dX13_frame_68 : decode cX13_frame 68 = .ok (.ireturn, 1) := by decide +kernel
theorem dX13_hypothesis_0 : decode cX13_hypothesis 0 = .ok (.aload_n 0, 1) := by decide +kernel
theorem dX13_hypothesis_1 : decode cX13_hypothesis 1 = .ok (.iload_n 1, 1) := by decide +kernel
theorem dX13_hypothesis_2 : decode cX13_hypothesis 2 = .ok (.invokevirtual 719, 3) := by decide +kernel
theorem dX13_hypothesis_5 : decode cX13_hypothesis 5 = .ok (.ifCond .eq 37, 3) := by decide +kernel
theorem dX13_hypothesis_8 : decode cX13_hypothesis 8 = .ok (.iload_n 2, 1) := by decide +kernel
theorem dX13_hypothesis_9 : decode cX13_hypothesis 9 = .ok (.i2l, 1) := by decide +kernel
theorem dX13_hypothesis_10 : decode cX13_hypothesis 10 = .ok (.lconst 0, 1) := by decide +kernel
theorem dX13_hypothesis_11 : decode cX13_hypothesis 11 = .ok (.aload_n 0, 1) := by decide +kernel
theorem dX13_hypothesis_12 : decode cX13_hypothesis 12 = .ok (.getfield 69, 3) := by decide +kernel
theorem dX13_hypothesis_15 : decode cX13_hypothesis 15 = .ok (.iload_n 1, 1) := by decide +kernel
theorem dX13_hypothesis_16 : decode cX13_hypothesis 16 = .ok (.iaload, 1) := by decide +kernel
theorem dX13_hypothesis_17 : decode cX13_hypothesis 17 = .ok (.iconst 1, 1) := by decide +kernel
theorem dX13_hypothesis_18 : decode cX13_hypothesis 18 = .ok (.isub, 1) := by decide +kernel
theorem dX13_hypothesis_19 : decode cX13_hypothesis 19 = .ok (.i2l, 1) := by decide +kernel
theorem dX13_hypothesis_20 : decode cX13_hypothesis 20 = .ok (.invokestatic 388, 3) := by decide +kernel
theorem dX13_hypothesis_23 : decode cX13_hypothesis 23 = .ok (.ifCond .eq 19, 3) := by decide +kernel
theorem dX13_hypothesis_26 : decode cX13_hypothesis 26 = .ok (.aload_n 0, 1) := by decide +kernel
theorem dX13_hypothesis_27 : decode cX13_hypothesis 27 = .ok (.getfield 73, 3) := by decide +kernel
theorem dX13_hypothesis_30 : decode cX13_hypothesis 30 = .ok (.aload_n 0, 1) := by decide +kernel
theorem dX13_hypothesis_31 : decode cX13_hypothesis 31 = .ok (.getfield 66, 3) := by decide +kernel
theorem dX13_hypothesis_34 : decode cX13_hypothesis 34 = .ok (.iload_n 1, 1) := by decide +kernel
theorem dX13_hypothesis_35 : decode cX13_hypothesis 35 = .ok (.iaload, 1) := by decide +kernel
theorem dX13_hypothesis_36 : decode cX13_hypothesis 36 = .ok (.iload_n 2, 1) := by decide +kernel
theorem dX13_hypothesis_37 : decode cX13_hypothesis 37 = .ok (.iadd, 1) := by decide +kernel
theorem dX13_hypothesis_38 : decode cX13_hypothesis 38 = .ok (.iaload, 1) := by decide +kernel
theorem dX13_hypothesis_39 : decode cX13_hypothesis 39 = .ok (.goto 4, 3) := by decide +kernel
theorem dX13_hypothesis_42 : decode cX13_hypothesis 42 = .ok (.iconst (-1), 1) := by decide +kernel
theorem dX13_hypothesis_43 : decode cX13_hypothesis 43 = .ok (.ireturn, 1) := by decide +kernel
theorem dX13_apart_0 : decode cX13_apart 0 = .ok (.aload_n 0, 1) := by decide +kernel
theorem dX13_apart_1 : decode cX13_apart 1 = .ok (.iload_n 1, 1) := by decide +kernel
theorem dX13_apart_2 : decode cX13_apart 2 = .ok (.invokevirtual 719, 3) := by decide +kernel
theorem dX13_apart_5 : decode cX13_apart 5 = .ok (.ifCond .ne 5, 3) := by decide +kernel
theorem dX13_apart_8 : decode cX13_apart 8 = .ok (.iconst (-1), 1) := by decide +kernel
theorem dX13_apart_9 : decode cX13_apart 9 = .ok (.ireturn, 1) := by decide +kernel
theorem dX13_apart_10 : decode cX13_apart 10 = .ok (.aload_n 0, 1) := by decide +kernel
theorem dX13_apart_11 : decode cX13_apart 11 = .ok (.getfield 76, 3) := by decide +kernel
theorem dX13_apart_14 : decode cX13_apart 14 = .ok (.iload_n 1, 1) := by decide +kernel
theorem dX13_apart_15 : decode cX13_apart 15 = .ok (.iaload, 1) := by decide +kernel
theorem dX13_apart_16 : decode cX13_apart 16 = .ok (.istore 4, 2) := by decide +kernel
theorem dX13_apart_18 : decode cX13_apart 18 = .ok (.iload 4, 2) := by decide +kernel
theorem dX13_apart_20 : decode cX13_apart 20 = .ok (.aload_n 0, 1) := by decide +kernel
theorem dX13_apart_21 : decode cX13_apart 21 = .ok (.getfield 76, 3) := by decide +kernel
theorem dX13_apart_24 : decode cX13_apart 24 = .ok (.iload_n 1, 1) := by decide +kernel
theorem dX13_apart_25 : decode cX13_apart 25 = .ok (.iaload, 1) := by decide +kernel
theorem dX13_apart_26 : decode cX13_apart 26 = .ok (.aload_n 0, 1) := by decide +kernel
theorem dX13_apart_27 : decode cX13_apart 27 = .ok (.getfield 79, 3) := by decide +kernel
theorem dX13_apart_30 : decode cX13_apart 30 = .ok (.iload_n 1, 1) := by decide +kernel
theorem dX13_apart_31 : decode cX13_apart 31 = .ok (.iaload, 1) := by decide +kernel
theorem dX13_apart_32 : decode cX13_apart 32 = .ok (.iadd, 1) := by decide +kernel
theorem dX13_apart_33 : decode cX13_apart 33 = .ok (.if_icmp .ge 55, 3) := by decide +kernel
theorem dX13_apart_36 : decode cX13_apart 36 = .ok (.aload_n 0, 1) := by decide +kernel
theorem dX13_apart_37 : decode cX13_apart 37 = .ok (.getfield 82, 3) := by decide +kernel
theorem dX13_apart_40 : decode cX13_apart 40 = .ok (.iload 4, 2) := by decide +kernel
theorem dX13_apart_42 : decode cX13_apart 42 = .ok (.iaload, 1) := by decide +kernel
theorem dX13_apart_43 : decode cX13_apart 43 = .ok (.iload_n 2, 1) := by decide +kernel
theorem dX13_apart_44 : decode cX13_apart 44 = .ok (.if_icmp .ne 14, 3) := by decide +kernel
theorem dX13_apart_47 : decode cX13_apart 47 = .ok (.aload_n 0, 1) := by decide +kernel
theorem dX13_apart_48 : decode cX13_apart 48 = .ok (.getfield 85, 3) := by decide +kernel
theorem dX13_apart_51 : decode cX13_apart 51 = .ok (.iload 4, 2) := by decide +kernel
theorem dX13_apart_53 : decode cX13_apart 53 = .ok (.iaload, 1) := by decide +kernel
theorem dX13_apart_54 : decode cX13_apart 54 = .ok (.iload_n 3, 1) := by decide +kernel
theorem dX13_apart_55 : decode cX13_apart 55 = .ok (.if_icmp .eq 25, 3) := by decide +kernel
theorem dX13_apart_58 : decode cX13_apart 58 = .ok (.aload_n 0, 1) := by decide +kernel
theorem dX13_apart_59 : decode cX13_apart 59 = .ok (.getfield 82, 3) := by decide +kernel
theorem dX13_apart_62 : decode cX13_apart 62 = .ok (.iload 4, 2) := by decide +kernel
theorem dX13_apart_64 : decode cX13_apart 64 = .ok (.iaload, 1) := by decide +kernel
theorem dX13_apart_65 : decode cX13_apart 65 = .ok (.iload_n 3, 1) := by decide +kernel
theorem dX13_apart_66 : decode cX13_apart 66 = .ok (.if_icmp .ne 16, 3) := by decide +kernel
theorem dX13_apart_69 : decode cX13_apart 69 = .ok (.aload_n 0, 1) := by decide +kernel
theorem dX13_apart_70 : decode cX13_apart 70 = .ok (.getfield 85, 3) := by decide +kernel
theorem dX13_apart_73 : decode cX13_apart 73 = .ok (.iload 4, 2) := by decide +kernel
theorem dX13_apart_75 : decode cX13_apart 75 = .ok (.iaload, 1) := by decide +kernel
theorem dX13_apart_76 : decode cX13_apart 76 = .ok (.iload_n 2, 1) := by decide +kernel
theorem dX13_apart_77 : decode cX13_apart 77 = .ok (.if_icmp .ne 5, 3) := by decide +kernel
theorem dX13_apart_80 : decode cX13_apart 80 = .ok (.iconst 1, 1) := by decide +kernel
theorem dX13_apart_81 : decode cX13_apart 81 = .ok (.ireturn, 1) := by decide +kernel
theorem dX13_apart_82 : decode cX13_apart 82 = .ok (.iinc 4 1, 3) := by decide +kernel
theorem dX13_apart_85 : decode cX13_apart 85 = .ok (.goto (-67), 3) := by decide +kernel
theorem dX13_apart_88 : decode cX13_apart 88 = .ok (.iconst 0, 1) := by decide +kernel
theorem dX13_apart_89 : decode cX13_apart 89 = .ok (.ireturn, 1) := by decide +kernel
theorem dX13_makeRows_0 : decode cX13_makeRows 0 = .ok (.aload_n 0, 1) := by decide +kernel
theorem dX13_makeRows_1 : decode cX13_makeRows 1 = .ok (.getfield 727, 3) := by decide +kernel
theorem dX13_makeRows_4 : decode cX13_makeRows 4 = .ok (.iload_n 1, 1) := by decide +kernel
theorem dX13_makeRows_5 : decode cX13_makeRows 5 = .ok (.iconst 1, 1) := by decide +kernel
theorem dX13_makeRows_6 : decode cX13_makeRows 6 = .ok (.iadd, 1) := by decide +kernel
theorem dX13_makeRows_7 : decode cX13_makeRows 7 = .ok (.if_icmp .ne 4, 3) := by decide +kernel
theorem dX13_makeRows_10 : decode cX13_makeRows 10 = .ok (.return_, 1) := by decide +kernel
theorem dX13_makeRows_11 : decode cX13_makeRows 11 = .ok (.aload_n 0, 1) := by decide +kernel
theorem dX13_makeRows_12 : decode cX13_makeRows 12 = .ok (.iload_n 1, 1) := by decide +kernel
theorem dX13_makeRows_13 : decode cX13_makeRows 13 = .ok (.iconst 1, 1) := by decide +kernel
theorem dX13_makeRows_14 : decode cX13_makeRows 14 = .ok (.iadd, 1) := by decide +kernel
theorem dX13_makeRows_15 : decode cX13_makeRows 15 = .ok (.putfield 727, 3) := by decide +kernel
theorem dX13_makeRows_18 : decode cX13_makeRows 18 = .ok (.aload_n 0, 1) := by decide +kernel
theorem dX13_makeRows_19 : decode cX13_makeRows 19 = .ok (.iconst 0, 1) := by decide +kernel
theorem dX13_makeRows_20 : decode cX13_makeRows 20 = .ok (.putfield 730, 3) := by decide +kernel
theorem dX13_makeRows_23 : decode cX13_makeRows 23 = .ok (.aload_n 0, 1) := by decide +kernel
theorem dX13_makeRows_24 : decode cX13_makeRows 24 = .ok (.iconst 0, 1) := by decide +kernel
theorem dX13_makeRows_25 : decode cX13_makeRows 25 = .ok (.putfield 733, 3) := by decide +kernel
theorem dX13_makeRows_28 : decode cX13_makeRows 28 = .ok (.aload_n 0, 1) := by decide +kernel
theorem dX13_makeRows_29 : decode cX13_makeRows 29 = .ok (.iconst 0, 1) := by decide +kernel
theorem dX13_makeRows_30 : decode cX13_makeRows 30 = .ok (.putfield 621, 3) := by decide +kernel
theorem dX13_makeRows_33 : decode cX13_makeRows 33 = .ok (.aload_n 0, 1) := by decide +kernel
theorem dX13_makeRows_34 : decode cX13_makeRows 34 = .ok (.iconst 0, 1) := by decide +kernel
theorem dX13_makeRows_35 : decode cX13_makeRows 35 = .ok (.putfield 650, 3) := by decide +kernel
theorem dX13_makeRows_38 : decode cX13_makeRows 38 = .ok (.aload_n 0, 1) := by decide +kernel
theorem dX13_makeRows_39 : decode cX13_makeRows 39 = .ok (.getfield 88, 3) := by decide +kernel
theorem dX13_makeRows_42 : decode cX13_makeRows 42 = .ok (.iload_n 1, 1) := by decide +kernel
theorem dX13_makeRows_43 : decode cX13_makeRows 43 = .ok (.iaload, 1) := by decide +kernel
theorem dX13_makeRows_44 : decode cX13_makeRows 44 = .ok (.istore_n 2, 1) := by decide +kernel
theorem dX13_makeRows_45 : decode cX13_makeRows 45 = .ok (.iload_n 2, 1) := by decide +kernel
theorem dX13_makeRows_46 : decode cX13_makeRows 46 = .ok (.aload_n 0, 1) := by decide +kernel
theorem dX13_makeRows_47 : decode cX13_makeRows 47 = .ok (.getfield 88, 3) := by decide +kernel
theorem dX13_makeRows_50 : decode cX13_makeRows 50 = .ok (.iload_n 1, 1) := by decide +kernel
theorem dX13_makeRows_51 : decode cX13_makeRows 51 = .ok (.iaload, 1) := by decide +kernel
theorem dX13_makeRows_52 : decode cX13_makeRows 52 = .ok (.aload_n 0, 1) := by decide +kernel
theorem dX13_makeRows_53 : decode cX13_makeRows 53 = .ok (.getfield 91, 3) := by decide +kernel
theorem dX13_makeRows_56 : decode cX13_makeRows 56 = .ok (.iload_n 1, 1) := by decide +kernel
theorem dX13_makeRows_57 : decode cX13_makeRows 57 = .ok (.iaload, 1) := by decide +kernel
theorem dX13_makeRows_58 : decode cX13_makeRows 58 = .ok (.iadd, 1) := by decide +kernel
theorem dX13_makeRows_59 : decode cX13_makeRows 59 = .ok (.if_icmp .ge 218, 3) := by decide +kernel
theorem dX13_makeRows_62 : decode cX13_makeRows 62 = .ok (.aload_n 0, 1) := by decide +kernel
theorem dX13_makeRows_63 : decode cX13_makeRows 63 = .ok (.getfield 94, 3) := by decide +kernel
theorem dX13_makeRows_66 : decode cX13_makeRows 66 = .ok (.iload_n 2, 1) := by decide +kernel
theorem dX13_makeRows_67 : decode cX13_makeRows 67 = .ok (.iaload, 1) := by decide +kernel
theorem dX13_makeRows_68 : decode cX13_makeRows 68 = .ok (.istore_n 3, 1) := by decide +kernel
theorem dX13_makeRows_69 : decode cX13_makeRows 69 = .ok (.iload_n 3, 1) := by decide +kernel
theorem dX13_makeRows_70 : decode cX13_makeRows 70 = .ok (.ifCond .ge 33, 3) := by decide +kernel
theorem dX13_makeRows_73 : decode cX13_makeRows 73 = .ok (.aload_n 0, 1) := by decide +kernel
theorem dX13_makeRows_74 : decode cX13_makeRows 74 = .ok (.getfield 147, 3) := by decide +kernel
theorem dX13_makeRows_77 : decode cX13_makeRows 77 = .ok (.aload_n 0, 1) := by decide +kernel
theorem dX13_makeRows_78 : decode cX13_makeRows 78 = .ok (.getfield 621, 3) := by decide +kernel
theorem dX13_makeRows_81 : decode cX13_makeRows 81 = .ok (.aload_n 0, 1) := by decide +kernel
theorem dX13_makeRows_82 : decode cX13_makeRows 82 = .ok (.getfield 160, 3) := by decide +kernel
theorem dX13_makeRows_85 : decode cX13_makeRows 85 = .ok (.iconst (-1), 1) := by decide +kernel
theorem dX13_makeRows_86 : decode cX13_makeRows 86 = .ok (.iload_n 3, 1) := by decide +kernel
theorem dX13_makeRows_87 : decode cX13_makeRows 87 = .ok (.isub, 1) := by decide +kernel
theorem dX13_makeRows_88 : decode cX13_makeRows 88 = .ok (.iaload, 1) := by decide +kernel
theorem dX13_makeRows_89 : decode cX13_makeRows 89 = .ok (.iastore, 1) := by decide +kernel
theorem dX13_makeRows_90 : decode cX13_makeRows 90 = .ok (.aload_n 0, 1) := by decide +kernel
theorem dX13_makeRows_91 : decode cX13_makeRows 91 = .ok (.dup, 1) := by decide +kernel
theorem dX13_makeRows_92 : decode cX13_makeRows 92 = .ok (.getfield 621, 3) := by decide +kernel
theorem dX13_makeRows_95 : decode cX13_makeRows 95 = .ok (.iconst 1, 1) := by decide +kernel
theorem dX13_makeRows_96 : decode cX13_makeRows 96 = .ok (.iadd, 1) := by decide +kernel
theorem dX13_makeRows_97 : decode cX13_makeRows 97 = .ok (.putfield 621, 3) := by decide +kernel
theorem dX13_makeRows_100 : decode cX13_makeRows 100 = .ok (.goto 171, 3) := by decide +kernel
theorem dX13_makeRows_103 : decode cX13_makeRows 103 = .ok (.aload_n 0, 1) := by decide +kernel
theorem dX13_makeRows_104 : decode cX13_makeRows 104 = .ok (.getfield 51, 3) := by decide +kernel
theorem dX13_makeRows_107 : decode cX13_makeRows 107 = .ok (.iload_n 3, 1) := by decide +kernel
theorem dX13_makeRows_108 : decode cX13_makeRows 108 = .ok (.iaload, 1) := by decide +kernel
theorem dX13_makeRows_109 : decode cX13_makeRows 109 = .ok (.iconst 2, 1) := by decide +kernel
theorem dX13_makeRows_110 : decode cX13_makeRows 110 = .ok (.if_icmp .ge 7, 3) := by decide +kernel
theorem dX13_makeRows_113 : decode cX13_makeRows 113 = .ok (.iconst 0, 1) := by decide +kernel
theorem dX13_makeRows_114 : decode cX13_makeRows 114 = .ok (.goto 9, 3) := by decide +kernel
theorem dX13_makeRows_117 : decode cX13_makeRows 117 = .ok (.aload_n 0, 1) := by decide +kernel
theorem dX13_makeRows_118 : decode cX13_makeRows 118 = .ok (.getfield 69, 3) := by decide +kernel
theorem dX13_makeRows_121 : decode cX13_makeRows 121 = .ok (.iload_n 3, 1) := by decide +kernel
theorem dX13_makeRows_122 : decode cX13_makeRows 122 = .ok (.iaload, 1) := by decide +kernel
theorem dX13_makeRows_123 : decode cX13_makeRows 123 = .ok (.istore 4, 2) := by decide +kernel
theorem dX13_makeRows_125 : decode cX13_makeRows 125 = .ok (.aload_n 0, 1) := by decide +kernel
theorem dX13_makeRows_126 : decode cX13_makeRows 126 = .ok (.getfield 190, 3) := by decide +kernel
theorem dX13_makeRows_129 : decode cX13_makeRows 129 = .ok (.aload_n 0, 1) := by decide +kernel
theorem dX13_makeRows_130 : decode cX13_makeRows 130 = .ok (.getfield 730, 3) := by decide +kernel
theorem dX13_makeRows_133 : decode cX13_makeRows 133 = .ok (.iload_n 3, 1) := by decide +kernel
theorem dX13_makeRows_134 : decode cX13_makeRows 134 = .ok (.iastore, 1) := by decide +kernel
theorem dX13_makeRows_135 : decode cX13_makeRows 135 = .ok (.aload_n 0, 1) := by decide +kernel
theorem dX13_makeRows_136 : decode cX13_makeRows 136 = .ok (.getfield 193, 3) := by decide +kernel
theorem dX13_makeRows_139 : decode cX13_makeRows 139 = .ok (.aload_n 0, 1) := by decide +kernel
theorem dX13_makeRows_140 : decode cX13_makeRows 140 = .ok (.getfield 730, 3) := by decide +kernel
theorem dX13_makeRows_143 : decode cX13_makeRows 143 = .ok (.aload_n 0, 1) := by decide +kernel
theorem dX13_makeRows_144 : decode cX13_makeRows 144 = .ok (.getfield 733, 3) := by decide +kernel
theorem dX13_makeRows_147 : decode cX13_makeRows 147 = .ok (.iastore, 1) := by decide +kernel
theorem dX13_makeRows_148 : decode cX13_makeRows 148 = .ok (.aload_n 0, 1) := by decide +kernel
theorem dX13_makeRows_149 : decode cX13_makeRows 149 = .ok (.dup, 1) := by decide +kernel
theorem dX13_makeRows_150 : decode cX13_makeRows 150 = .ok (.getfield 621, 3) := by decide +kernel
theorem dX13_makeRows_153 : decode cX13_makeRows 153 = .ok (.iload 4, 2) := by decide +kernel
theorem dX13_makeRows_155 : decode cX13_makeRows 155 = .ok (.isub, 1) := by decide +kernel
theorem dX13_makeRows_156 : decode cX13_makeRows 156 = .ok (.putfield 621, 3) := by decide +kernel
theorem dX13_makeRows_159 : decode cX13_makeRows 159 = .ok (.iconst 0, 1) := by decide +kernel
theorem dX13_makeRows_160 : decode cX13_makeRows 160 = .ok (.istore 5, 2) := by decide +kernel
theorem dX13_makeRows_162 : decode cX13_makeRows 162 = .ok (.iload 5, 2) := by decide +kernel
theorem dX13_makeRows_164 : decode cX13_makeRows 164 = .ok (.iload 4, 2) := by decide +kernel
theorem dX13_makeRows_166 : decode cX13_makeRows 166 = .ok (.if_icmp .ge 40, 3) := by decide +kernel
theorem dX13_makeRows_169 : decode cX13_makeRows 169 = .ok (.aload_n 0, 1) := by decide +kernel
theorem dX13_makeRows_170 : decode cX13_makeRows 170 = .ok (.getfield 197, 3) := by decide +kernel
theorem dX13_makeRows_173 : decode cX13_makeRows 173 = .ok (.aload_n 0, 1) := by decide +kernel
theorem dX13_makeRows_174 : decode cX13_makeRows 174 = .ok (.getfield 733, 3) := by decide +kernel
theorem dX13_makeRows_177 : decode cX13_makeRows 177 = .ok (.aload_n 0, 1) := by decide +kernel
theorem dX13_makeRows_178 : decode cX13_makeRows 178 = .ok (.getfield 147, 3) := by decide +kernel
theorem dX13_makeRows_181 : decode cX13_makeRows 181 = .ok (.aload_n 0, 1) := by decide +kernel
theorem dX13_makeRows_182 : decode cX13_makeRows 182 = .ok (.getfield 621, 3) := by decide +kernel
theorem dX13_makeRows_185 : decode cX13_makeRows 185 = .ok (.iload 5, 2) := by decide +kernel
theorem dX13_makeRows_187 : decode cX13_makeRows 187 = .ok (.iadd, 1) := by decide +kernel
theorem dX13_makeRows_188 : decode cX13_makeRows 188 = .ok (.iaload, 1) := by decide +kernel
theorem dX13_makeRows_189 : decode cX13_makeRows 189 = .ok (.iastore, 1) := by decide +kernel
theorem dX13_makeRows_190 : decode cX13_makeRows 190 = .ok (.aload_n 0, 1) := by decide +kernel
theorem dX13_makeRows_191 : decode cX13_makeRows 191 = .ok (.dup, 1) := by decide +kernel
theorem dX13_makeRows_192 : decode cX13_makeRows 192 = .ok (.getfield 733, 3) := by decide +kernel
theorem dX13_makeRows_195 : decode cX13_makeRows 195 = .ok (.iconst 1, 1) := by decide +kernel
theorem dX13_makeRows_196 : decode cX13_makeRows 196 = .ok (.iadd, 1) := by decide +kernel
theorem dX13_makeRows_197 : decode cX13_makeRows 197 = .ok (.putfield 733, 3) := by decide +kernel
theorem dX13_makeRows_200 : decode cX13_makeRows 200 = .ok (.iinc 5 1, 3) := by decide +kernel
theorem dX13_makeRows_203 : decode cX13_makeRows 203 = .ok (.goto (-41), 3) := by decide +kernel
theorem dX13_makeRows_206 : decode cX13_makeRows 206 = .ok (.aload_n 0, 1) := by decide +kernel
theorem dX13_makeRows_207 : decode cX13_makeRows 207 = .ok (.getfield 147, 3) := by decide +kernel
theorem dX13_makeRows_210 : decode cX13_makeRows 210 = .ok (.aload_n 0, 1) := by decide +kernel
theorem dX13_makeRows_211 : decode cX13_makeRows 211 = .ok (.getfield 621, 3) := by decide +kernel
theorem dX13_makeRows_214 : decode cX13_makeRows 214 = .ok (.aload_n 0, 1) := by decide +kernel
theorem dX13_makeRows_215 : decode cX13_makeRows 215 = .ok (.getfield 730, 3) := by decide +kernel
theorem dX13_makeRows_218 : decode cX13_makeRows 218 = .ok (.iastore, 1) := by decide +kernel
theorem dX13_makeRows_219 : decode cX13_makeRows 219 = .ok (.aload_n 0, 1) := by decide +kernel
theorem dX13_makeRows_220 : decode cX13_makeRows 220 = .ok (.dup, 1) := by decide +kernel
theorem dX13_makeRows_221 : decode cX13_makeRows 221 = .ok (.getfield 621, 3) := by decide +kernel
theorem dX13_makeRows_224 : decode cX13_makeRows 224 = .ok (.iconst 1, 1) := by decide +kernel
theorem dX13_makeRows_225 : decode cX13_makeRows 225 = .ok (.iadd, 1) := by decide +kernel
theorem dX13_makeRows_226 : decode cX13_makeRows 226 = .ok (.putfield 621, 3) := by decide +kernel
theorem dX13_makeRows_229 : decode cX13_makeRows 229 = .ok (.aload_n 0, 1) := by decide +kernel
theorem dX13_makeRows_230 : decode cX13_makeRows 230 = .ok (.getfield 97, 3) := by decide +kernel
theorem dX13_makeRows_233 : decode cX13_makeRows 233 = .ok (.iload_n 2, 1) := by decide +kernel
theorem dX13_makeRows_234 : decode cX13_makeRows 234 = .ok (.baload, 1) := by decide +kernel
theorem dX13_makeRows_235 : decode cX13_makeRows 235 = .ok (.ifCond .eq 26, 3) := by decide +kernel
theorem dX13_makeRows_238 : decode cX13_makeRows 238 = .ok (.aload_n 0, 1) := by decide +kernel
theorem dX13_makeRows_239 : decode cX13_makeRows 239 = .ok (.getfield 160, 3) := by decide +kernel
theorem dX13_makeRows_242 : decode cX13_makeRows 242 = .ok (.aload_n 0, 1) := by decide +kernel
theorem dX13_makeRows_243 : decode cX13_makeRows 243 = .ok (.getfield 650, 3) := by decide +kernel
theorem dX13_makeRows_246 : decode cX13_makeRows 246 = .ok (.aload_n 0, 1) := by decide +kernel
theorem dX13_makeRows_247 : decode cX13_makeRows 247 = .ok (.getfield 730, 3) := by decide +kernel
theorem dX13_makeRows_250 : decode cX13_makeRows 250 = .ok (.iastore, 1) := by decide +kernel
theorem dX13_makeRows_251 : decode cX13_makeRows 251 = .ok (.aload_n 0, 1) := by decide +kernel
theorem dX13_makeRows_252 : decode cX13_makeRows 252 = .ok (.dup, 1) := by decide +kernel
theorem dX13_makeRows_253 : decode cX13_makeRows 253 = .ok (.getfield 650, 3) := by decide +kernel
theorem dX13_makeRows_256 : decode cX13_makeRows 256 = .ok (.iconst 1, 1) := by decide +kernel
theorem dX13_makeRows_257 : decode cX13_makeRows 257 = .ok (.iadd, 1) := by decide +kernel
theorem dX13_makeRows_258 : decode cX13_makeRows 258 = .ok (.putfield 650, 3) := by decide +kernel
theorem dX13_makeRows_261 : decode cX13_makeRows 261 = .ok (.aload_n 0, 1) := by decide +kernel
theorem dX13_makeRows_262 : decode cX13_makeRows 262 = .ok (.dup, 1) := by decide +kernel
theorem dX13_makeRows_263 : decode cX13_makeRows 263 = .ok (.getfield 730, 3) := by decide +kernel
theorem dX13_makeRows_266 : decode cX13_makeRows 266 = .ok (.iconst 1, 1) := by decide +kernel
theorem dX13_makeRows_267 : decode cX13_makeRows 267 = .ok (.iadd, 1) := by decide +kernel
theorem dX13_makeRows_268 : decode cX13_makeRows 268 = .ok (.putfield 730, 3) := by decide +kernel
theorem dX13_makeRows_271 : decode cX13_makeRows 271 = .ok (.iinc 2 1, 3) := by decide +kernel
theorem dX13_makeRows_274 : decode cX13_makeRows 274 = .ok (.goto (-229), 3) := by decide +kernel
theorem dX13_makeRows_277 : decode cX13_makeRows 277 = .ok (.return_, 1) := by decide +kernel
theorem dX13_rowWidth_0 : decode cX13_rowWidth 0 = .ok (.aload_n 0, 1) := by decide +kernel
theorem dX13_rowWidth_1 : decode cX13_rowWidth 1 = .ok (.getfield 190, 3) := by decide +kernel
theorem dX13_rowWidth_4 : decode cX13_rowWidth 4 = .ok (.iload_n 1, 1) := by decide +kernel
theorem dX13_rowWidth_5 : decode cX13_rowWidth 5 = .ok (.iaload, 1) := by decide +kernel
theorem dX13_rowWidth_6 : decode cX13_rowWidth 6 = .ok (.istore_n 2, 1) := by decide +kernel
theorem dX13_rowWidth_7 : decode cX13_rowWidth 7 = .ok (.aload_n 0, 1) := by decide +kernel
theorem dX13_rowWidth_8 : decode cX13_rowWidth 8 = .ok (.getfield 51, 3) := by decide +kernel
theorem dX13_rowWidth_11 : decode cX13_rowWidth 11 = .ok (.iload_n 2, 1) := by decide +kernel
theorem dX13_rowWidth_12 : decode cX13_rowWidth 12 = .ok (.iaload, 1) := by decide +kernel
theorem dX13_rowWidth_13 : decode cX13_rowWidth 13 = .ok (.iconst 2, 1) := by decide +kernel
theorem dX13_rowWidth_14 : decode cX13_rowWidth 14 = .ok (.if_icmp .ge 7, 3) := by decide +kernel
theorem dX13_rowWidth_17 : decode cX13_rowWidth 17 = .ok (.iconst 0, 1) := by decide +kernel
theorem dX13_rowWidth_18 : decode cX13_rowWidth 18 = .ok (.goto 9, 3) := by decide +kernel
theorem dX13_rowWidth_21 : decode cX13_rowWidth 21 = .ok (.aload_n 0, 1) := by decide +kernel
theorem dX13_rowWidth_22 : decode cX13_rowWidth 22 = .ok (.getfield 69, 3) := by decide +kernel
theorem dX13_rowWidth_25 : decode cX13_rowWidth 25 = .ok (.iload_n 2, 1) := by decide +kernel
theorem dX13_rowWidth_26 : decode cX13_rowWidth 26 = .ok (.iaload, 1) := by decide +kernel
theorem dX13_rowWidth_27 : decode cX13_rowWidth 27 = .ok (.ireturn, 1) := by decide +kernel
theorem dX13_rows_0 : decode cX13_rows 0 = .ok (.aload_n 0, 1) := by decide +kernel
theorem dX13_rows_1 : decode cX13_rows 1 = .ok (.iload_n 1, 1) := by decide +kernel
theorem dX13_rows_2 : decode cX13_rows 2 = .ok (.invokevirtual 736, 3) := by decide +kernel
theorem dX13_rows_5 : decode cX13_rows 5 = .ok (.ifCond .ne 5, 3) := by decide +kernel
theorem dX13_rows_8 : decode cX13_rows 8 = .ok (.iconst (-1), 1) := by decide +kernel
theorem dX13_rows_9 : decode cX13_rows 9 = .ok (.ireturn, 1) := by decide +kernel
theorem dX13_rows_10 : decode cX13_rows 10 = .ok (.aload_n 0, 1) := by decide +kernel
theorem dX13_rows_11 : decode cX13_rows 11 = .ok (.iload_n 1, 1) := by decide +kernel
theorem dX13_rows_12 : decode cX13_rows 12 = .ok (.invokevirtual 739, 3) := by decide +kernel
theorem dX13_rows_15 : decode cX13_rows 15 = .ok (.aload_n 0, 1) := by decide +kernel
theorem dX13_rows_16 : decode cX13_rows 16 = .ok (.getfield 730, 3) := by decide +kernel
theorem dX13_rows_19 : decode cX13_rows 19 = .ok (.ireturn, 1) := by decide +kernel
theorem dX13_isRow_0 : decode cX13_isRow 0 = .ok (.aload_n 0, 1) := by decide +kernel
theorem dX13_isRow_1 : decode cX13_isRow 1 = .ok (.iload_n 1, 1) := by decide +kernel
theorem dX13_isRow_2 : decode cX13_isRow 2 = .ok (.invokevirtual 736, 3) := by decide +kernel
theorem dX13_isRow_5 : decode cX13_isRow 5 = .ok (.ifCond .eq 20, 3) := by decide +kernel
theorem dX13_isRow_8 : decode cX13_isRow 8 = .ok (.iload_n 2, 1) := by decide +kernel
theorem dX13_isRow_9 : decode cX13_isRow 9 = .ok (.ifCond .lt 16, 3) := by decide +kernel
theorem dX13_isRow_12 : decode cX13_isRow 12 = .ok (.iload_n 2, 1) := by decide +kernel
theorem dX13_isRow_13 : decode cX13_isRow 13 = .ok (.aload_n 0, 1) := by decide +kernel
theorem dX13_isRow_14 : decode cX13_isRow 14 = .ok (.iload_n 1, 1) := by decide +kernel
theorem dX13_isRow_15 : decode cX13_isRow 15 = .ok (.invokevirtual 742, 3) := by decide +kernel
theorem dX13_isRow_18 : decode cX13_isRow 18 = .ok (.if_icmp .ge 7, 3) := by decide +kernel
theorem dX13_isRow_21 : decode cX13_isRow 21 = .ok (.iconst 1, 1) := by decide +kernel
theorem dX13_isRow_22 : decode cX13_isRow 22 = .ok (.goto 4, 3) := by decide +kernel
theorem dX13_isRow_25 : decode cX13_isRow 25 = .ok (.iconst 0, 1) := by decide +kernel
theorem dX13_isRow_26 : decode cX13_isRow 26 = .ok (.ireturn, 1) := by decide +kernel
theorem dX13_row_0 : decode cX13_row 0 = .ok (.aload_n 0, 1) := by decide +kernel
theorem dX13_row_1 : decode cX13_row 1 = .ok (.iload_n 1, 1) := by decide +kernel
theorem dX13_row_2 : decode cX13_row 2 = .ok (.iload_n 2, 1) := by decide +kernel
theorem dX13_row_3 : decode cX13_row 3 = .ok (.invokevirtual 745, 3) := by decide +kernel
theorem dX13_row_6 : decode cX13_row 6 = .ok (.ifCond .eq 12, 3) := by decide +kernel
theorem dX13_row_9 : decode cX13_row 9 = .ok (.aload_n 0, 1) := by decide +kernel
theorem dX13_row_10 : decode cX13_row 10 = .ok (.getfield 190, 3) := by decide +kernel
theorem dX13_row_13 : decode cX13_row 13 = .ok (.iload_n 2, 1) := by decide +kernel
theorem dX13_row_14 : decode cX13_row 14 = .ok (.iaload, 1) := by decide +kernel
theorem dX13_row_15 : decode cX13_row 15 = .ok (.goto 4, 3) := by decide +kernel
theorem dX13_row_18 : decode cX13_row 18 = .ok (.iconst (-1), 1) := by decide +kernel
theorem dX13_row_19 : decode cX13_row 19 = .ok (.ireturn, 1) := by decide +kernel
theorem dX13_from_0 : decode cX13_from 0 = .ok (.aload_n 0, 1) := by decide +kernel
theorem dX13_from_1 : decode cX13_from 1 = .ok (.iload_n 1, 1) := by decide +kernel
theorem dX13_from_2 : decode cX13_from 2 = .ok (.iload_n 2, 1) := by decide +kernel
theorem dX13_from_3 : decode cX13_from 3 = .ok (.invokevirtual 745, 3) := by decide +kernel
theorem dX13_from_6 : decode cX13_from 6 = .ok (.ifCond .eq 36, 3) := by decide +kernel
theorem dX13_from_9 : decode cX13_from 9 = .ok (.iload_n 3, 1) := by decide +kernel
theorem dX13_from_10 : decode cX13_from 10 = .ok (.i2l, 1) := by decide +kernel
theorem dX13_from_11 : decode cX13_from 11 = .ok (.lconst 0, 1) := by decide +kernel
theorem dX13_from_12 : decode cX13_from 12 = .ok (.aload_n 0, 1) := by decide +kernel
theorem dX13_from_13 : decode cX13_from 13 = .ok (.iload_n 2, 1) := by decide +kernel
theorem dX13_from_14 : decode cX13_from 14 = .ok (.invokevirtual 748, 3) := by decide +kernel
theorem dX13_from_17 : decode cX13_from 17 = .ok (.iconst 1, 1) := by decide +kernel
theorem dX13_from_18 : decode cX13_from 18 = .ok (.isub, 1) := by decide +kernel
theorem dX13_from_19 : decode cX13_from 19 = .ok (.i2l, 1) := by decide +kernel
theorem dX13_from_20 : decode cX13_from 20 = .ok (.invokestatic 388, 3) := by decide +kernel
theorem dX13_from_23 : decode cX13_from 23 = .ok (.ifCond .eq 19, 3) := by decide +kernel
theorem dX13_from_26 : decode cX13_from 26 = .ok (.aload_n 0, 1) := by decide +kernel
theorem dX13_from_27 : decode cX13_from 27 = .ok (.getfield 197, 3) := by decide +kernel
theorem dX13_from_30 : decode cX13_from 30 = .ok (.aload_n 0, 1) := by decide +kernel
theorem dX13_from_31 : decode cX13_from 31 = .ok (.getfield 193, 3) := by decide +kernel
theorem dX13_from_34 : decode cX13_from 34 = .ok (.iload_n 2, 1) := by decide +kernel
theorem dX13_from_35 : decode cX13_from 35 = .ok (.iaload, 1) := by decide +kernel
theorem dX13_from_36 : decode cX13_from 36 = .ok (.iload_n 3, 1) := by decide +kernel
theorem dX13_from_37 : decode cX13_from 37 = .ok (.iadd, 1) := by decide +kernel
theorem dX13_from_38 : decode cX13_from 38 = .ok (.iaload, 1) := by decide +kernel
theorem dX13_from_39 : decode cX13_from 39 = .ok (.goto 4, 3) := by decide +kernel
theorem dX13_from_42 : decode cX13_from 42 = .ok (.iconst (-1), 1) := by decide +kernel
theorem dX13_from_43 : decode cX13_from 43 = .ok (.ireturn, 1) := by decide +kernel
theorem dX13_rests_0 : decode cX13_rests 0 = .ok (.aload_n 0, 1) := by decide +kernel
theorem dX13_rests_1 : decode cX13_rests 1 = .ok (.iload_n 1, 1) := by decide +kernel
theorem dX13_rests_2 : decode cX13_rests 2 = .ok (.invokevirtual 719, 3) := by decide +kernel
theorem dX13_rests_5 : decode cX13_rests 5 = .ok (.ifCond .eq 21, 3) := by decide +kernel
theorem dX13_rests_8 : decode cX13_rests 8 = .ok (.aload_n 0, 1) := by decide +kernel
theorem dX13_rests_9 : decode cX13_rests 9 = .ok (.getfield 51, 3) := by decide +kernel
theorem dX13_rests_12 : decode cX13_rests 12 = .ok (.iload_n 1, 1) := by decide +kernel
theorem dX13_rests_13 : decode cX13_rests 13 = .ok (.iaload, 1) := by decide +kernel
theorem dX13_rests_14 : decode cX13_rests 14 = .ok (.iconst 3, 1) := by decide +kernel
theorem dX13_rests_15 : decode cX13_rests 15 = .ok (.if_icmp .ne 11, 3) := by decide +kernel
theorem dX13_rests_18 : decode cX13_rests 18 = .ok (.aload_n 0, 1) := by decide +kernel
theorem dX13_rests_19 : decode cX13_rests 19 = .ok (.iload_n 2, 1) := by decide +kernel
theorem dX13_rests_20 : decode cX13_rests 20 = .ok (.invokevirtual 719, 3) := by decide +kernel
theorem dX13_rests_23 : decode cX13_rests 23 = .ok (.ifCond .ne 5, 3) := by decide +kernel
theorem dX13_rests_26 : decode cX13_rests 26 = .ok (.iconst (-1), 1) := by decide +kernel
theorem dX13_rests_27 : decode cX13_rests 27 = .ok (.ireturn, 1) := by decide +kernel
theorem dX13_rests_28 : decode cX13_rests 28 = .ok (.aload_n 0, 1) := by decide +kernel
theorem dX13_rests_29 : decode cX13_rests 29 = .ok (.getfield 104, 3) := by decide +kernel
theorem dX13_rests_32 : decode cX13_rests 32 = .ok (.bipush 24, 2) := by decide +kernel
theorem dX13_rests_34 : decode cX13_rests 34 = .ok (.iload_n 1, 1) := by decide +kernel
theorem dX13_rests_35 : decode cX13_rests 35 = .ok (.imul, 1) := by decide +kernel
theorem dX13_rests_36 : decode cX13_rests 36 = .ok (.iload_n 2, 1) := by decide +kernel
theorem dX13_rests_37 : decode cX13_rests 37 = .ok (.bipush 64, 2) := by decide +kernel
theorem dX13_rests_39 : decode cX13_rests 39 = .ok (.idiv, 1) := by decide +kernel
theorem dX13_rests_40 : decode cX13_rests 40 = .ok (.iadd, 1) := by decide +kernel
theorem dX13_rests_41 : decode cX13_rests 41 = .ok (.laload, 1) := by decide +kernel
theorem dX13_rests_42 : decode cX13_rests 42 = .ok (.iload_n 2, 1) := by decide +kernel
theorem dX13_rests_43 : decode cX13_rests 43 = .ok (.bipush 64, 2) := by decide +kernel
theorem dX13_rests_45 : decode cX13_rests 45 = .ok (.irem, 1) := by decide +kernel
theorem dX13_rests_46 : decode cX13_rests 46 = .ok (.lshr, 1) := by decide +kernel
theorem dX13_rests_47 : decode cX13_rests 47 = .ok (.lconst 1, 1) := by decide +kernel
theorem dX13_rests_48 : decode cX13_rests 48 = .ok (.land, 1) := by decide +kernel
theorem dX13_rests_49 : decode cX13_rests 49 = .ok (.l2i, 1) := by decide +kernel
theorem dX13_rests_50 : decode cX13_rests 50 = .ok (.ireturn, 1) := by decide +kernel
theorem dX13_makeSizes_0 : decode cX13_makeSizes 0 = .ok (.aload_n 0, 1) := by decide +kernel
theorem dX13_makeSizes_1 : decode cX13_makeSizes 1 = .ok (.iload_n 1, 1) := by decide +kernel
theorem dX13_makeSizes_2 : decode cX13_makeSizes 2 = .ok (.invokevirtual 739, 3) := by decide +kernel
theorem dX13_makeSizes_5 : decode cX13_makeSizes 5 = .ok (.iconst 0, 1) := by decide +kernel
theorem dX13_makeSizes_6 : decode cX13_makeSizes 6 = .ok (.istore_n 2, 1) := by decide +kernel
theorem dX13_makeSizes_7 : decode cX13_makeSizes 7 = .ok (.iload_n 2, 1) := by decide +kernel
theorem dX13_makeSizes_8 : decode cX13_makeSizes 8 = .ok (.aload_n 0, 1) := by decide +kernel
theorem dX13_makeSizes_9 : decode cX13_makeSizes 9 = .ok (.getfield 730, 3) := by decide +kernel
theorem dX13_makeSizes_12 : decode cX13_makeSizes 12 = .ok (.if_icmp .ge 75, 3) := by decide +kernel
theorem dX13_makeSizes_15 : decode cX13_makeSizes 15 = .ok (.lconst 1, 1) := by decide +kernel
theorem dX13_makeSizes_16 : decode cX13_makeSizes 16 = .ok (.lstore_n 3, 1) := by decide +kernel
theorem dX13_makeSizes_17 : decode cX13_makeSizes 17 = .ok (.iconst 0, 1) := by decide +kernel
theorem dX13_makeSizes_18 : decode cX13_makeSizes 18 = .ok (.istore 5, 2) := by decide +kernel
theorem dX13_makeSizes_20 : decode cX13_makeSizes 20 = .ok (.iload 5, 2) := by decide +kernel
theorem dX13_makeSizes_22 : decode cX13_makeSizes 22 = .ok (.aload_n 0, 1) := by decide +kernel
theorem dX13_makeSizes_23 : decode cX13_makeSizes 23 = .ok (.iload_n 2, 1) := by decide +kernel
theorem dX13_makeSizes_24 : decode cX13_makeSizes 24 = .ok (.invokevirtual 748, 3) := by decide +kernel
theorem dX13_makeSizes_27 : decode cX13_makeSizes 27 = .ok (.if_icmp .ge 47, 3) := by decide +kernel
theorem dX13_makeSizes_30 : decode cX13_makeSizes 30 = .ok (.lload_n 3, 1) := by decide +kernel
theorem dX13_makeSizes_31 : decode cX13_makeSizes 31 = .ok (.aload_n 0, 1) := by decide +kernel
theorem dX13_makeSizes_32 : decode cX13_makeSizes 32 = .ok (.getfield 200, 3) := by decide +kernel
theorem dX13_makeSizes_35 : decode cX13_makeSizes 35 = .ok (.aload_n 0, 1) := by decide +kernel
theorem dX13_makeSizes_36 : decode cX13_makeSizes 36 = .ok (.getfield 197, 3) := by decide +kernel
theorem dX13_makeSizes_39 : decode cX13_makeSizes 39 = .ok (.aload_n 0, 1) := by decide +kernel
theorem dX13_makeSizes_40 : decode cX13_makeSizes 40 = .ok (.getfield 193, 3) := by decide +kernel
theorem dX13_makeSizes_43 : decode cX13_makeSizes 43 = .ok (.iload_n 2, 1) := by decide +kernel
theorem dX13_makeSizes_44 : decode cX13_makeSizes 44 = .ok (.iaload, 1) := by decide +kernel
theorem dX13_makeSizes_45 : decode cX13_makeSizes 45 = .ok (.iload 5, 2) := by decide +kernel
theorem dX13_makeSizes_47 : decode cX13_makeSizes 47 = .ok (.iadd, 1) := by decide +kernel
theorem dX13_makeSizes_48 : decode cX13_makeSizes 48 = .ok (.iaload, 1) := by decide +kernel
theorem dX13_makeSizes_49 : decode cX13_makeSizes 49 = .ok (.laload, 1) := by decide +kernel
theorem dX13_makeSizes_50 : decode cX13_makeSizes 50 = .ok (.ladd, 1) := by decide +kernel
theorem dX13_makeSizes_51 : decode cX13_makeSizes 51 = .ok (.lstore_n 3, 1) := by decide +kernel
theorem dX13_makeSizes_52 : decode cX13_makeSizes 52 = .ok (.lload_n 3, 1) := by decide +kernel
theorem dX13_makeSizes_53 : decode cX13_makeSizes 53 = .ok (.ldc2_w 751, 3) := by decide +kernel
theorem dX13_makeSizes_56 : decode cX13_makeSizes 56 = .ok (.lcmp, 1) := by decide +kernel
theorem dX13_makeSizes_57 : decode cX13_makeSizes 57 = .ok (.ifCond .le 9, 3) := by decide +kernel
theorem dX13_makeSizes_60 : decode cX13_makeSizes 60 = .ok (.ldc2_w 753, 3) := by decide +kernel
theorem dX13_makeSizes_63 : decode cX13_makeSizes 63 = .ok (.goto 4, 3) := by decide +kernel
theorem dX13_makeSizes_66 : decode cX13_makeSizes 66 = .ok (.lload_n 3, 1) := by decide +kernel
theorem dX13_makeSizes_67 : decode cX13_makeSizes 67 = .ok (.lstore_n 3, 1) := by decide +kernel
theorem dX13_makeSizes_68 : decode cX13_makeSizes 68 = .ok (.iinc 5 1, 3) := by decide +kernel
theorem dX13_makeSizes_71 : decode cX13_makeSizes 71 = .ok (.goto (-51), 3) := by decide +kernel
theorem dX13_makeSizes_74 : decode cX13_makeSizes 74 = .ok (.aload_n 0, 1) := by decide +kernel
theorem dX13_makeSizes_75 : decode cX13_makeSizes 75 = .ok (.getfield 200, 3) := by decide +kernel
theorem dX13_makeSizes_78 : decode cX13_makeSizes 78 = .ok (.iload_n 2, 1) := by decide +kernel
theorem dX13_makeSizes_79 : decode cX13_makeSizes 79 = .ok (.lload_n 3, 1) := by decide +kernel
theorem dX13_makeSizes_80 : decode cX13_makeSizes 80 = .ok (.lastore, 1) := by decide +kernel
theorem dX13_makeSizes_81 : decode cX13_makeSizes 81 = .ok (.iinc 2 1, 3) := by decide +kernel
theorem dX13_makeSizes_84 : decode cX13_makeSizes 84 = .ok (.goto (-77), 3) := by decide +kernel
theorem dX13_makeSizes_87 : decode cX13_makeSizes 87 = .ok (.return_, 1) := by decide +kernel
theorem dX13_size_0 : decode cX13_size 0 = .ok (.aload_n 0, 1) := by decide +kernel
theorem dX13_size_1 : decode cX13_size 1 = .ok (.iload_n 1, 1) := by decide +kernel
theorem dX13_size_2 : decode cX13_size 2 = .ok (.invokevirtual 736, 3) := by decide +kernel
theorem dX13_size_5 : decode cX13_size 5 = .ok (.ifCond .ne 7, 3) := by decide +kernel
theorem dX13_size_8 : decode cX13_size 8 = .ok (.ldc2_w 403, 3) := by decide +kernel
theorem dX13_size_11 : decode cX13_size 11 = .ok (.lreturn, 1) := by decide +kernel
theorem dX13_size_12 : decode cX13_size 12 = .ok (.aload_n 0, 1) := by decide +kernel
theorem dX13_size_13 : decode cX13_size 13 = .ok (.iload_n 1, 1) := by decide +kernel
theorem dX13_size_14 : decode cX13_size 14 = .ok (.invokevirtual 755, 3) := by decide +kernel
theorem dX13_size_17 : decode cX13_size 17 = .ok (.aload_n 0, 1) := by decide +kernel
theorem dX13_size_18 : decode cX13_size 18 = .ok (.getfield 200, 3) := by decide +kernel
theorem dX13_size_21 : decode cX13_size 21 = .ok (.aload_n 0, 1) := by decide +kernel
theorem dX13_size_22 : decode cX13_size 22 = .ok (.getfield 730, 3) := by decide +kernel
theorem dX13_size_25 : decode cX13_size 25 = .ok (.iconst 1, 1) := by decide +kernel
theorem dX13_size_26 : decode cX13_size 26 = .ok (.isub, 1) := by decide +kernel
theorem dX13_size_27 : decode cX13_size 27 = .ok (.laload, 1) := by decide +kernel
theorem dX13_size_28 : decode cX13_size 28 = .ok (.ldc2_w 751, 3) := by decide +kernel
theorem dX13_size_31 : decode cX13_size 31 = .ok (.lcmp, 1) := by decide +kernel
theorem dX13_size_32 : decode cX13_size 32 = .ok (.ifCond .le 9, 3) := by decide +kernel
theorem dX13_size_35 : decode cX13_size 35 = .ok (.ldc2_w 758, 3) := by decide +kernel
theorem dX13_size_38 : decode cX13_size 38 = .ok (.goto 14, 3) := by decide +kernel
theorem dX13_size_41 : decode cX13_size 41 = .ok (.aload_n 0, 1) := by decide +kernel
theorem dX13_size_42 : decode cX13_size 42 = .ok (.getfield 200, 3) := by decide +kernel
theorem dX13_size_45 : decode cX13_size 45 = .ok (.aload_n 0, 1) := by decide +kernel
theorem dX13_size_46 : decode cX13_size 46 = .ok (.getfield 730, 3) := by decide +kernel
theorem dX13_size_49 : decode cX13_size 49 = .ok (.iconst 1, 1) := by decide +kernel
theorem dX13_size_50 : decode cX13_size 50 = .ok (.isub, 1) := by decide +kernel
theorem dX13_size_51 : decode cX13_size 51 = .ok (.laload, 1) := by decide +kernel
theorem dX13_size_52 : decode cX13_size 52 = .ok (.lreturn, 1) := by decide +kernel
theorem dX13_put_0 : decode cX13_put 0 = .ok (.aload_n 0, 1) := by decide +kernel
theorem dX13_put_1 : decode cX13_put 1 = .ok (.getfield 760, 3) := by decide +kernel
theorem dX13_put_4 : decode cX13_put 4 = .ok (.sipush 24000, 3) := by decide +kernel
theorem dX13_put_7 : decode cX13_put 7 = .ok (.if_icmp .gt 23, 3) := by decide +kernel
theorem dX13_put_10 : decode cX13_put 10 = .ok (.aload_n 0, 1) := by decide +kernel
theorem dX13_put_11 : decode cX13_put 11 = .ok (.getfield 203, 3) := by decide +kernel
theorem dX13_put_14 : decode cX13_put 14 = .ok (.aload_n 0, 1) := by decide +kernel
theorem dX13_put_15 : decode cX13_put 15 = .ok (.getfield 760, 3) := by decide +kernel
theorem dX13_put_18 : decode cX13_put 18 = .ok (.iload_n 1, 1) := by decide +kernel
theorem dX13_put_19 : decode cX13_put 19 = .ok (.iastore, 1) := by decide +kernel
theorem dX13_put_20 : decode cX13_put 20 = .ok (.aload_n 0, 1) := by decide +kernel
theorem dX13_put_21 : decode cX13_put 21 = .ok (.dup, 1) := by decide +kernel
theorem dX13_put_22 : decode cX13_put 22 = .ok (.getfield 760, 3) := by decide +kernel
theorem dX13_put_25 : decode cX13_put 25 = .ok (.iconst 1, 1) := by decide +kernel
theorem dX13_put_26 : decode cX13_put 26 = .ok (.iadd, 1) := by decide +kernel
theorem dX13_put_27 : decode cX13_put 27 = .ok (.putfield 760, 3) := by decide +kernel
theorem dX13_put_30 : decode cX13_put 30 = .ok (.return_, 1) := by decide +kernel
theorem dX13_putBlank_0 : decode cX13_putBlank 0 = .ok (.aload_n 0, 1) := by decide +kernel
theorem dX13_putBlank_1 : decode cX13_putBlank 1 = .ok (.getfield 760, 3) := by decide +kernel
theorem dX13_putBlank_4 : decode cX13_putBlank 4 = .ok (.ifCond .le 9, 3) := by decide +kernel
theorem dX13_putBlank_7 : decode cX13_putBlank 7 = .ok (.aload_n 0, 1) := by decide +kernel
theorem dX13_putBlank_8 : decode cX13_putBlank 8 = .ok (.bipush 32, 2) := by decide +kernel
theorem dX13_putBlank_10 : decode cX13_putBlank 10 = .ok (.invokevirtual 763, 3) := by decide +kernel
theorem dX13_putBlank_13 : decode cX13_putBlank 13 = .ok (.return_, 1) := by decide +kernel
theorem dX13_putName_0 : decode cX13_putName 0 = .ok (.iconst 0, 1) := by decide +kernel
theorem dX13_putName_1 : decode cX13_putName 1 = .ok (.istore_n 3, 1) := by decide +kernel
theorem dX13_putName_2 : decode cX13_putName 2 = .ok (.iload_n 3, 1) := by decide +kernel
theorem dX13_putName_3 : decode cX13_putName 3 = .ok (.iload_n 2, 1) := by decide +kernel
theorem dX13_putName_4 : decode cX13_putName 4 = .ok (.if_icmp .ge 21, 3) := by decide +kernel
theorem dX13_putName_7 : decode cX13_putName 7 = .ok (.aload_n 0, 1) := by decide +kernel
theorem dX13_putName_8 : decode cX13_putName 8 = .ok (.aload_n 0, 1) := by decide +kernel
theorem dX13_putName_9 : decode cX13_putName 9 = .ok (.getfield 14, 3) := by decide +kernel
theorem dX13_putName_12 : decode cX13_putName 12 = .ok (.iload_n 1, 1) := by decide +kernel
theorem dX13_putName_13 : decode cX13_putName 13 = .ok (.iload_n 3, 1) := by decide +kernel
theorem dX13_putName_14 : decode cX13_putName 14 = .ok (.iadd, 1) := by decide +kernel
theorem dX13_putName_15 : decode cX13_putName 15 = .ok (.iaload, 1) := by decide +kernel
theorem dX13_putName_16 : decode cX13_putName 16 = .ok (.invokevirtual 763, 3) := by decide +kernel
theorem dX13_putName_19 : decode cX13_putName 19 = .ok (.iinc 3 1, 3) := by decide +kernel
theorem dX13_putName_22 : decode cX13_putName 22 = .ok (.goto (-20), 3) := by decide +kernel
theorem dX13_putName_25 : decode cX13_putName 25 = .ok (.return_, 1) := by decide +kernel
theorem dX13_putSymbol_0 : decode cX13_putSymbol 0 = .ok (.aload_n 0, 1) := by decide +kernel
theorem dX13_putSymbol_1 : decode cX13_putSymbol 1 = .ok (.invokevirtual 766, 3) := by decide +kernel
theorem dX13_putSymbol_4 : decode cX13_putSymbol 4 = .ok (.aload_n 0, 1) := by decide +kernel
theorem dX13_putSymbol_5 : decode cX13_putSymbol 5 = .ok (.aload_n 0, 1) := by decide +kernel
theorem dX13_putSymbol_6 : decode cX13_putSymbol 6 = .ok (.getfield 17, 3) := by decide +kernel
theorem dX13_putSymbol_9 : decode cX13_putSymbol 9 = .ok (.iload_n 1, 1) := by decide +kernel
theorem dX13_putSymbol_10 : decode cX13_putSymbol 10 = .ok (.iaload, 1) := by decide +kernel
theorem dX13_putSymbol_11 : decode cX13_putSymbol 11 = .ok (.aload_n 0, 1) := by decide +kernel
theorem dX13_putSymbol_12 : decode cX13_putSymbol 12 = .ok (.getfield 20, 3) := by decide +kernel
theorem dX13_putSymbol_15 : decode cX13_putSymbol 15 = .ok (.iload_n 1, 1) := by decide +kernel
theorem dX13_putSymbol_16 : decode cX13_putSymbol 16 = .ok (.iaload, 1) := by decide +kernel
theorem dX13_putSymbol_17 : decode cX13_putSymbol 17 = .ok (.invokevirtual 769, 3) := by decide +kernel
theorem dX13_putSymbol_20 : decode cX13_putSymbol 20 = .ok (.return_, 1) := by decide +kernel
theorem dX13_putLabel_0 : decode cX13_putLabel 0 = .ok (.aload_n 0, 1) := by decide +kernel
theorem dX13_putLabel_1 : decode cX13_putLabel 1 = .ok (.invokevirtual 766, 3) := by decide +kernel
theorem dX13_putLabel_4 : decode cX13_putLabel 4 = .ok (.aload_n 0, 1) := by decide +kernel
theorem dX13_putLabel_5 : decode cX13_putLabel 5 = .ok (.aload_n 0, 1) := by decide +kernel
theorem dX13_putLabel_6 : decode cX13_putLabel 6 = .ok (.getfield 23, 3) := by decide +kernel
theorem dX13_putLabel_9 : decode cX13_putLabel 9 = .ok (.iload_n 1, 1) := by decide +kernel
theorem dX13_putLabel_10 : decode cX13_putLabel 10 = .ok (.iaload, 1) := by decide +kernel
theorem dX13_putLabel_11 : decode cX13_putLabel 11 = .ok (.aload_n 0, 1) := by decide +kernel
theorem dX13_putLabel_12 : decode cX13_putLabel 12 = .ok (.getfield 26, 3) := by decide +kernel
theorem dX13_putLabel_15 : decode cX13_putLabel 15 = .ok (.iload_n 1, 1) := by decide +kernel
theorem dX13_putLabel_16 : decode cX13_putLabel 16 = .ok (.iaload, 1) := by decide +kernel
theorem dX13_putLabel_17 : decode cX13_putLabel 17 = .ok (.invokevirtual 769, 3) := by decide +kernel
theorem dX13_putLabel_20 : decode cX13_putLabel 20 = .ok (.return_, 1) := by decide +kernel
theorem dX13_keepDraft_0 : decode cX13_keepDraft 0 = .ok (.aload_n 0, 1) := by decide +kernel
theorem dX13_keepDraft_1 : decode cX13_keepDraft 1 = .ok (.getfield 760, 3) := by decide +kernel
theorem dX13_keepDraft_4 : decode cX13_keepDraft 4 = .ok (.sipush 24000, 3) := by decide +kernel
theorem dX13_keepDraft_7 : decode cX13_keepDraft 7 = .ok (.if_icmp .le 6, 3) := by decide +kernel
theorem dX13_keepDraft_10 : decode cX13_keepDraft 10 = .ok (.bipush (-2), 2) := by decide +kernel
theorem dX13_keepDraft_12 : decode cX13_keepDraft 12 = .ok (.ireturn, 1) := by decide +kernel
theorem dX13_keepDraft_13 : decode cX13_keepDraft 13 = .ok (.iconst 0, 1) := by decide +kernel
theorem dX13_keepDraft_14 : decode cX13_keepDraft 14 = .ok (.istore_n 1, 1) := by decide +kernel
theorem dX13_keepDraft_15 : decode cX13_keepDraft 15 = .ok (.iload_n 1, 1) := by decide +kernel
theorem dX13_keepDraft_16 : decode cX13_keepDraft 16 = .ok (.aload_n 0, 1) := by decide +kernel
theorem dX13_keepDraft_17 : decode cX13_keepDraft 17 = .ok (.getfield 760, 3) := by decide +kernel
theorem dX13_keepDraft_20 : decode cX13_keepDraft 20 = .ok (.if_icmp .ge 21, 3) := by decide +kernel
theorem dX13_keepDraft_23 : decode cX13_keepDraft 23 = .ok (.aload_n 0, 1) := by decide +kernel
theorem dX13_keepDraft_24 : decode cX13_keepDraft 24 = .ok (.getfield 206, 3) := by decide +kernel
theorem dX13_keepDraft_27 : decode cX13_keepDraft 27 = .ok (.iload_n 1, 1) := by decide +kernel
theorem dX13_keepDraft_28 : decode cX13_keepDraft 28 = .ok (.aload_n 0, 1) := by decide +kernel
theorem dX13_keepDraft_29 : decode cX13_keepDraft 29 = .ok (.getfield 203, 3) := by decide +kernel
theorem dX13_keepDraft_32 : decode cX13_keepDraft 32 = .ok (.iload_n 1, 1) := by decide +kernel
theorem dX13_keepDraft_33 : decode cX13_keepDraft 33 = .ok (.iaload, 1) := by decide +kernel
theorem dX13_keepDraft_34 : decode cX13_keepDraft 34 = .ok (.iastore, 1) := by decide +kernel
theorem dX13_keepDraft_35 : decode cX13_keepDraft 35 = .ok (.iinc 1 1, 3) := by decide +kernel
theorem dX13_keepDraft_38 : decode cX13_keepDraft 38 = .ok (.goto (-23), 3) := by decide +kernel
theorem dX13_keepDraft_41 : decode cX13_keepDraft 41 = .ok (.aload_n 0, 1) := by decide +kernel
theorem dX13_keepDraft_42 : decode cX13_keepDraft 42 = .ok (.aload_n 0, 1) := by decide +kernel
theorem dX13_keepDraft_43 : decode cX13_keepDraft 43 = .ok (.getfield 760, 3) := by decide +kernel
theorem dX13_keepDraft_46 : decode cX13_keepDraft 46 = .ok (.putfield 772, 3) := by decide +kernel
theorem dX13_keepDraft_49 : decode cX13_keepDraft 49 = .ok (.aload_n 0, 1) := by decide +kernel
theorem dX13_keepDraft_50 : decode cX13_keepDraft 50 = .ok (.getfield 772, 3) := by decide +kernel
theorem dX13_keepDraft_53 : decode cX13_keepDraft 53 = .ok (.ireturn, 1) := by decide +kernel
theorem dX13_character_0 : decode cX13_character 0 = .ok (.iload_n 1, 1) := by decide +kernel
theorem dX13_character_1 : decode cX13_character 1 = .ok (.i2l, 1) := by decide +kernel
theorem dX13_character_2 : decode cX13_character 2 = .ok (.lconst 0, 1) := by decide +kernel
theorem dX13_character_3 : decode cX13_character 3 = .ok (.aload_n 0, 1) := by decide +kernel
theorem dX13_character_4 : decode cX13_character 4 = .ok (.getfield 772, 3) := by decide +kernel
theorem dX13_character_7 : decode cX13_character 7 = .ok (.iconst 1, 1) := by decide +kernel
theorem dX13_character_8 : decode cX13_character 8 = .ok (.isub, 1) := by decide +kernel
theorem dX13_character_9 : decode cX13_character 9 = .ok (.i2l, 1) := by decide +kernel
theorem dX13_character_10 : decode cX13_character 10 = .ok (.invokestatic 388, 3) := by decide +kernel
theorem dX13_character_13 : decode cX13_character 13 = .ok (.ifCond .eq 12, 3) := by decide +kernel
theorem dX13_character_16 : decode cX13_character 16 = .ok (.aload_n 0, 1) := by decide +kernel
theorem dX13_character_17 : decode cX13_character 17 = .ok (.getfield 206, 3) := by decide +kernel
theorem dX13_character_20 : decode cX13_character 20 = .ok (.iload_n 1, 1) := by decide +kernel
theorem dX13_character_21 : decode cX13_character 21 = .ok (.iaload, 1) := by decide +kernel
theorem dX13_character_22 : decode cX13_character 22 = .ok (.goto 4, 3) := by decide +kernel
theorem dX13_character_25 : decode cX13_character 25 = .ok (.iconst (-1), 1) := by decide +kernel
theorem dX13_character_26 : decode cX13_character 26 = .ok (.ireturn, 1) := by decide +kernel
theorem dX13_printTexts_0 : decode cX13_printTexts 0 = .ok (.aload_n 0, 1) := by decide +kernel
theorem dX13_printTexts_1 : decode cX13_printTexts 1 = .ok (.getfield 54, 3) := by decide +kernel
theorem dX13_printTexts_4 : decode cX13_printTexts 4 = .ok (.iload_n 1, 1) := by decide +kernel
theorem dX13_printTexts_5 : decode cX13_printTexts 5 = .ok (.iaload, 1) := by decide +kernel
theorem dX13_printTexts_6 : decode cX13_printTexts 6 = .ok (.istore_n 2, 1) := by decide +kernel
theorem dX13_printTexts_7 : decode cX13_printTexts 7 = .ok (.iload_n 2, 1) := by decide +kernel
theorem dX13_printTexts_8 : decode cX13_printTexts 8 = .ok (.aload_n 0, 1) := by decide +kernel
theorem dX13_printTexts_9 : decode cX13_printTexts 9 = .ok (.getfield 54, 3) := by decide +kernel
theorem dX13_printTexts_12 : decode cX13_printTexts 12 = .ok (.iload_n 1, 1) := by decide +kernel
theorem dX13_printTexts_13 : decode cX13_printTexts 13 = .ok (.iaload, 1) := by decide +kernel
theorem dX13_printTexts_14 : decode cX13_printTexts 14 = .ok (.aload_n 0, 1) := by decide +kernel
theorem dX13_printTexts_15 : decode cX13_printTexts 15 = .ok (.getfield 57, 3) := by decide +kernel
theorem dX13_printTexts_18 : decode cX13_printTexts 18 = .ok (.iload_n 1, 1) := by decide +kernel
theorem dX13_printTexts_19 : decode cX13_printTexts 19 = .ok (.iaload, 1) := by decide +kernel
theorem dX13_printTexts_20 : decode cX13_printTexts 20 = .ok (.iadd, 1) := by decide +kernel
theorem dX13_printTexts_21 : decode cX13_printTexts 21 = .ok (.if_icmp .ge 19, 3) := by decide +kernel
theorem dX13_printTexts_24 : decode cX13_printTexts 24 = .ok (.aload_n 0, 1) := by decide +kernel
theorem dX13_printTexts_25 : decode cX13_printTexts 25 = .ok (.aload_n 0, 1) := by decide +kernel
theorem dX13_printTexts_26 : decode cX13_printTexts 26 = .ok (.getfield 60, 3) := by decide +kernel
theorem dX13_printTexts_29 : decode cX13_printTexts 29 = .ok (.iload_n 2, 1) := by decide +kernel
theorem dX13_printTexts_30 : decode cX13_printTexts 30 = .ok (.iaload, 1) := by decide +kernel
theorem dX13_printTexts_31 : decode cX13_printTexts 31 = .ok (.invokevirtual 775, 3) := by decide +kernel
theorem dX13_printTexts_34 : decode cX13_printTexts 34 = .ok (.iinc 2 1, 3) := by decide +kernel
theorem dX13_printTexts_37 : decode cX13_printTexts 37 = .ok (.goto (-30), 3) := by decide +kernel
theorem dX13_printTexts_40 : decode cX13_printTexts 40 = .ok (.aload_n 0, 1) := by decide +kernel
theorem dX13_printTexts_41 : decode cX13_printTexts 41 = .ok (.invokevirtual 778, 3) := by decide +kernel
theorem dX13_printTexts_44 : decode cX13_printTexts 44 = .ok (.ireturn, 1) := by decide +kernel
theorem dX13_printRow_0 : decode cX13_printRow 0 = .ok (.aload_n 0, 1) := by decide +kernel
theorem dX13_printRow_1 : decode cX13_printRow 1 = .ok (.invokevirtual 659, 3) := by decide +kernel
theorem dX13_printRow_4 : decode cX13_printRow 4 = .ok (.iconst (-1), 1) := by decide +kernel
theorem dX13_printRow_5 : decode cX13_printRow 5 = .ok (.istore_n 3, 1) := by decide +kernel
theorem dX13_printRow_6 : decode cX13_printRow 6 = .ok (.aload_n 0, 1) := by decide +kernel
theorem dX13_printRow_7 : decode cX13_printRow 7 = .ok (.getfield 88, 3) := by decide +kernel
theorem dX13_printRow_10 : decode cX13_printRow 10 = .ok (.iload_n 1, 1) := by decide +kernel
theorem dX13_printRow_11 : decode cX13_printRow 11 = .ok (.iaload, 1) := by decide +kernel
theorem dX13_printRow_12 : decode cX13_printRow 12 = .ok (.istore 4, 2) := by decide +kernel
theorem dX13_printRow_14 : decode cX13_printRow 14 = .ok (.iload_n 3, 1) := by decide +kernel
theorem dX13_printRow_15 : decode cX13_printRow 15 = .ok (.iload_n 2, 1) := by decide +kernel
theorem dX13_printRow_16 : decode cX13_printRow 16 = .ok (.if_icmp .ge 88, 3) := by decide +kernel
theorem dX13_printRow_19 : decode cX13_printRow 19 = .ok (.iload_n 3, 1) := by decide +kernel
theorem dX13_printRow_20 : decode cX13_printRow 20 = .ok (.aload_n 0, 1) := by decide +kernel
theorem dX13_printRow_21 : decode cX13_printRow 21 = .ok (.getfield 94, 3) := by decide +kernel
theorem dX13_printRow_24 : decode cX13_printRow 24 = .ok (.iload 4, 2) := by decide +kernel
theorem dX13_printRow_26 : decode cX13_printRow 26 = .ok (.iaload, 1) := by decide +kernel
theorem dX13_printRow_27 : decode cX13_printRow 27 = .ok (.ifCond .lt 7, 3) := by decide +kernel
theorem dX13_printRow_30 : decode cX13_printRow 30 = .ok (.iconst 1, 1) := by decide +kernel
theorem dX13_printRow_31 : decode cX13_printRow 31 = .ok (.goto 4, 3) := by decide +kernel
theorem dX13_printRow_34 : decode cX13_printRow 34 = .ok (.iconst 0, 1) := by decide +kernel
theorem dX13_printRow_35 : decode cX13_printRow 35 = .ok (.iadd, 1) := by decide +kernel
theorem dX13_printRow_36 : decode cX13_printRow 36 = .ok (.istore_n 3, 1) := by decide +kernel
theorem dX13_printRow_37 : decode cX13_printRow 37 = .ok (.aload_n 0, 1) := by decide +kernel
theorem dX13_printRow_38 : decode cX13_printRow 38 = .ok (.iload 4, 2) := by decide +kernel
theorem dX13_printRow_40 : decode cX13_printRow 40 = .ok (.iconst 0, 1) := by decide +kernel
theorem dX13_printRow_41 : decode cX13_printRow 41 = .ok (.iconst 0, 1) := by decide +kernel
theorem dX13_printRow_42 : decode cX13_printRow 42 = .ok (.invokevirtual 662, 3) := by decide +kernel
theorem dX13_printRow_45 : decode cX13_printRow 45 = .ok (.iload_n 3, 1) := by decide +kernel
theorem dX13_printRow_46 : decode cX13_printRow 46 = .ok (.iload_n 2, 1) := by decide +kernel
theorem dX13_printRow_47 : decode cX13_printRow 47 = .ok (.if_icmp .ne 51, 3) := by decide +kernel
theorem dX13_printRow_50 : decode cX13_printRow 50 = .ok (.iconst 0, 1) := by decide +kernel
theorem dX13_printRow_51 : decode cX13_printRow 51 = .ok (.istore 5, 2) := by decide +kernel
theorem dX13_printRow_53 : decode cX13_printRow 53 = .ok (.iload 5, 2) := by decide +kernel
theorem dX13_printRow_55 : decode cX13_printRow 55 = .ok (.aload_n 0, 1) := by decide +kernel
theorem dX13_printRow_56 : decode cX13_printRow 56 = .ok (.getfield 144, 3) := by decide +kernel
theorem dX13_printRow_59 : decode cX13_printRow 59 = .ok (.aload_n 0, 1) := by decide +kernel
theorem dX13_printRow_60 : decode cX13_printRow 60 = .ok (.getfield 621, 3) := by decide +kernel
theorem dX13_printRow_63 : decode cX13_printRow 63 = .ok (.iconst 1, 1) := by decide +kernel
theorem dX13_printRow_64 : decode cX13_printRow 64 = .ok (.isub, 1) := by decide +kernel
theorem dX13_printRow_65 : decode cX13_printRow 65 = .ok (.iaload, 1) := by decide +kernel
theorem dX13_printRow_66 : decode cX13_printRow 66 = .ok (.if_icmp .ge 32, 3) := by decide +kernel
theorem dX13_printRow_69 : decode cX13_printRow 69 = .ok (.aload_n 0, 1) := by decide +kernel
theorem dX13_printRow_70 : decode cX13_printRow 70 = .ok (.aload_n 0, 1) := by decide +kernel
theorem dX13_printRow_71 : decode cX13_printRow 71 = .ok (.getfield 151, 3) := by decide +kernel
theorem dX13_printRow_74 : decode cX13_printRow 74 = .ok (.aload_n 0, 1) := by decide +kernel
theorem dX13_printRow_75 : decode cX13_printRow 75 = .ok (.getfield 141, 3) := by decide +kernel
theorem dX13_printRow_78 : decode cX13_printRow 78 = .ok (.aload_n 0, 1) := by decide +kernel
theorem dX13_printRow_79 : decode cX13_printRow 79 = .ok (.getfield 621, 3) := by decide +kernel
theorem dX13_printRow_82 : decode cX13_printRow 82 = .ok (.iconst 1, 1) := by decide +kernel
theorem dX13_printRow_83 : decode cX13_printRow 83 = .ok (.isub, 1) := by decide +kernel
theorem dX13_printRow_84 : decode cX13_printRow 84 = .ok (.iaload, 1) := by decide +kernel
theorem dX13_printRow_85 : decode cX13_printRow 85 = .ok (.iload 5, 2) := by decide +kernel
theorem dX13_printRow_87 : decode cX13_printRow 87 = .ok (.iadd, 1) := by decide +kernel
theorem dX13_printRow_88 : decode cX13_printRow 88 = .ok (.iaload, 1) := by decide +kernel
theorem dX13_printRow_89 : decode cX13_printRow 89 = .ok (.invokevirtual 775, 3) := by decide +kernel
theorem dX13_printRow_92 : decode cX13_printRow 92 = .ok (.iinc 5 1, 3) := by decide +kernel
theorem dX13_printRow_95 : decode cX13_printRow 95 = .ok (.goto (-42), 3) := by decide +kernel
theorem dX13_printRow_98 : decode cX13_printRow 98 = .ok (.iinc 4 1, 3) := by decide +kernel
theorem dX13_printRow_101 : decode cX13_printRow 101 = .ok (.goto (-87), 3) := by decide +kernel
theorem dX13_printRow_104 : decode cX13_printRow 104 = .ok (.aload_n 0, 1) := by decide +kernel
theorem dX13_printRow_105 : decode cX13_printRow 105 = .ok (.invokevirtual 778, 3) := by decide +kernel
theorem dX13_printRow_108 : decode cX13_printRow 108 = .ok (.ireturn, 1) := by decide +kernel
theorem dX13_areSame_0 : decode cX13_areSame 0 = .ok (.aload_n 0, 1) := by decide +kernel
theorem dX13_areSame_1 : decode cX13_areSame 1 = .ok (.getfield 190, 3) := by decide +kernel
theorem dX13_areSame_4 : decode cX13_areSame 4 = .ok (.iload_n 1, 1) := by decide +kernel
theorem dX13_areSame_5 : decode cX13_areSame 5 = .ok (.iaload, 1) := by decide +kernel
theorem dX13_areSame_6 : decode cX13_areSame 6 = .ok (.aload_n 0, 1) := by decide +kernel
theorem dX13_areSame_7 : decode cX13_areSame 7 = .ok (.getfield 190, 3) := by decide +kernel
theorem dX13_areSame_10 : decode cX13_areSame 10 = .ok (.iload_n 2, 1) := by decide +kernel
theorem dX13_areSame_11 : decode cX13_areSame 11 = .ok (.iaload, 1) := by decide +kernel
theorem dX13_areSame_12 : decode cX13_areSame 12 = .ok (.if_icmp .eq 5, 3) := by decide +kernel
theorem dX13_areSame_15 : decode cX13_areSame 15 = .ok (.iconst 0, 1) := by decide +kernel
theorem dX13_areSame_16 : decode cX13_areSame 16 = .ok (.ireturn, 1) := by decide +kernel
theorem dX13_areSame_17 : decode cX13_areSame 17 = .ok (.iconst 0, 1) := by decide +kernel
theorem dX13_areSame_18 : decode cX13_areSame 18 = .ok (.istore_n 3, 1) := by decide +kernel
theorem dX13_areSame_19 : decode cX13_areSame 19 = .ok (.iload_n 3, 1) := by decide +kernel
theorem dX13_areSame_20 : decode cX13_areSame 20 = .ok (.aload_n 0, 1) := by decide +kernel
theorem dX13_areSame_21 : decode cX13_areSame 21 = .ok (.iload_n 1, 1) := by decide +kernel
theorem dX13_areSame_22 : decode cX13_areSame 22 = .ok (.invokevirtual 748, 3) := by decide +kernel
theorem dX13_areSame_25 : decode cX13_areSame 25 = .ok (.if_icmp .ge 50, 3) := by decide +kernel
theorem dX13_areSame_28 : decode cX13_areSame 28 = .ok (.aload_n 0, 1) := by decide +kernel
theorem dX13_areSame_29 : decode cX13_areSame 29 = .ok (.getfield 209, 3) := by decide +kernel
theorem dX13_areSame_32 : decode cX13_areSame 32 = .ok (.aload_n 0, 1) := by decide +kernel
theorem dX13_areSame_33 : decode cX13_areSame 33 = .ok (.getfield 197, 3) := by decide +kernel
theorem dX13_areSame_36 : decode cX13_areSame 36 = .ok (.aload_n 0, 1) := by decide +kernel
theorem dX13_areSame_37 : decode cX13_areSame 37 = .ok (.getfield 193, 3) := by decide +kernel
theorem dX13_areSame_40 : decode cX13_areSame 40 = .ok (.iload_n 1, 1) := by decide +kernel
theorem dX13_areSame_41 : decode cX13_areSame 41 = .ok (.iaload, 1) := by decide +kernel
theorem dX13_areSame_42 : decode cX13_areSame 42 = .ok (.iload_n 3, 1) := by decide +kernel
theorem dX13_areSame_43 : decode cX13_areSame 43 = .ok (.iadd, 1) := by decide +kernel
theorem dX13_areSame_44 : decode cX13_areSame 44 = .ok (.iaload, 1) := by decide +kernel
theorem dX13_areSame_45 : decode cX13_areSame 45 = .ok (.iaload, 1) := by decide +kernel
theorem dX13_areSame_46 : decode cX13_areSame 46 = .ok (.aload_n 0, 1) := by decide +kernel
theorem dX13_areSame_47 : decode cX13_areSame 47 = .ok (.getfield 209, 3) := by decide +kernel
theorem dX13_areSame_50 : decode cX13_areSame 50 = .ok (.aload_n 0, 1) := by decide +kernel
theorem dX13_areSame_51 : decode cX13_areSame 51 = .ok (.getfield 197, 3) := by decide +kernel
theorem dX13_areSame_54 : decode cX13_areSame 54 = .ok (.aload_n 0, 1) := by decide +kernel
theorem dX13_areSame_55 : decode cX13_areSame 55 = .ok (.getfield 193, 3) := by decide +kernel
theorem dX13_areSame_58 : decode cX13_areSame 58 = .ok (.iload_n 2, 1) := by decide +kernel
theorem dX13_areSame_59 : decode cX13_areSame 59 = .ok (.iaload, 1) := by decide +kernel
theorem dX13_areSame_60 : decode cX13_areSame 60 = .ok (.iload_n 3, 1) := by decide +kernel
theorem dX13_areSame_61 : decode cX13_areSame 61 = .ok (.iadd, 1) := by decide +kernel
theorem dX13_areSame_62 : decode cX13_areSame 62 = .ok (.iaload, 1) := by decide +kernel
theorem dX13_areSame_63 : decode cX13_areSame 63 = .ok (.iaload, 1) := by decide +kernel
theorem dX13_areSame_64 : decode cX13_areSame 64 = .ok (.if_icmp .eq 5, 3) := by decide +kernel
theorem dX13_areSame_67 : decode cX13_areSame 67 = .ok (.iconst 0, 1) := by decide +kernel
theorem dX13_areSame_68 : decode cX13_areSame 68 = .ok (.ireturn, 1) := by decide +kernel
theorem dX13_areSame_69 : decode cX13_areSame 69 = .ok (.iinc 3 1, 3) := by decide +kernel
theorem dX13_areSame_72 : decode cX13_areSame 72 = .ok (.goto (-53), 3) := by decide +kernel
theorem dX13_areSame_75 : decode cX13_areSame 75 = .ok (.iconst 1, 1) := by decide +kernel
theorem dX13_areSame_76 : decode cX13_areSame 76 = .ok (.ireturn, 1) := by decide +kernel
theorem dX13_findSame_0 : decode cX13_findSame 0 = .ok (.iconst 0, 1) := by decide +kernel
theorem dX13_findSame_1 : decode cX13_findSame 1 = .ok (.istore_n 1, 1) := by decide +kernel
theorem dX13_findSame_2 : decode cX13_findSame 2 = .ok (.iload_n 1, 1) := by decide +kernel
theorem dX13_findSame_3 : decode cX13_findSame 3 = .ok (.ldc 234, 2) := by decide +kernel
theorem dX13_findSame_5 : decode cX13_findSame 5 = .ok (.if_icmp .ge 16, 3) := by decide +kernel
theorem dX13_findSame_8 : decode cX13_findSame 8 = .ok (.aload_n 0, 1) := by decide +kernel
theorem dX13_findSame_9 : decode cX13_findSame 9 = .ok (.getfield 235, 3) := by decide +kernel
theorem dX13_findSame_12 : decode cX13_findSame 12 = .ok (.iload_n 1, 1) := by decide +kernel
theorem dX13_findSame_13 : decode cX13_findSame 13 = .ok (.iconst (-1), 1) := by decide +kernel
theorem dX13_findSame_14 : decode cX13_findSame 14 = .ok (.iastore, 1) := by decide +kernel
theorem dX13_findSame_15 : decode cX13_findSame 15 = .ok (.iinc 1 1, 3) := by decide +kernel
theorem dX13_findSame_18 : decode cX13_findSame 18 = .ok (.goto (-16), 3) := by decide +kernel
theorem dX13_findSame_21 : decode cX13_findSame 21 = .ok (.iconst 0, 1) := by decide +kernel
theorem dX13_findSame_22 : decode cX13_findSame 22 = .ok (.istore_n 1, 1) := by decide +kernel
theorem dX13_findSame_23 : decode cX13_findSame 23 = .ok (.iload_n 1, 1) := by decide +kernel
theorem dX13_findSame_24 : decode cX13_findSame 24 = .ok (.aload_n 0, 1) := by decide +kernel
theorem dX13_findSame_25 : decode cX13_findSame 25 = .ok (.getfield 730, 3) := by decide +kernel
theorem dX13_findSame_28 : decode cX13_findSame 28 = .ok (.if_icmp .ge 139, 3) := by decide +kernel
theorem dX13_findSame_31 : decode cX13_findSame 31 = .ok (.aload_n 0, 1) := by decide +kernel
theorem dX13_findSame_32 : decode cX13_findSame 32 = .ok (.getfield 190, 3) := by decide +kernel
theorem dX13_findSame_35 : decode cX13_findSame 35 = .ok (.iload_n 1, 1) := by decide +kernel
theorem dX13_findSame_36 : decode cX13_findSame 36 = .ok (.iaload, 1) := by decide +kernel
theorem dX13_findSame_37 : decode cX13_findSame 37 = .ok (.istore_n 2, 1) := by decide +kernel
theorem dX13_findSame_38 : decode cX13_findSame 38 = .ok (.iconst 0, 1) := by decide +kernel
theorem dX13_findSame_39 : decode cX13_findSame 39 = .ok (.istore_n 3, 1) := by decide +kernel
theorem dX13_findSame_40 : decode cX13_findSame 40 = .ok (.iload_n 3, 1) := by decide +kernel
theorem dX13_findSame_41 : decode cX13_findSame 41 = .ok (.aload_n 0, 1) := by decide +kernel
theorem dX13_findSame_42 : decode cX13_findSame 42 = .ok (.iload_n 1, 1) := by decide +kernel
theorem dX13_findSame_43 : decode cX13_findSame 43 = .ok (.invokevirtual 748, 3) := by decide +kernel
theorem dX13_findSame_46 : decode cX13_findSame 46 = .ok (.if_icmp .ge 33, 3) := by decide +kernel
theorem dX13_findSame_49 : decode cX13_findSame 49 = .ok (.bipush 31, 2) := by decide +kernel
theorem dX13_findSame_51 : decode cX13_findSame 51 = .ok (.iload_n 2, 1) := by decide +kernel
theorem dX13_findSame_52 : decode cX13_findSame 52 = .ok (.imul, 1) := by decide +kernel
theorem dX13_findSame_53 : decode cX13_findSame 53 = .ok (.aload_n 0, 1) := by decide +kernel
theorem dX13_findSame_54 : decode cX13_findSame 54 = .ok (.getfield 209, 3) := by decide +kernel
theorem dX13_findSame_57 : decode cX13_findSame 57 = .ok (.aload_n 0, 1) := by decide +kernel
theorem dX13_findSame_58 : decode cX13_findSame 58 = .ok (.getfield 197, 3) := by decide +kernel
theorem dX13_findSame_61 : decode cX13_findSame 61 = .ok (.aload_n 0, 1) := by decide +kernel
theorem dX13_findSame_62 : decode cX13_findSame 62 = .ok (.getfield 193, 3) := by decide +kernel
theorem dX13_findSame_65 : decode cX13_findSame 65 = .ok (.iload_n 1, 1) := by decide +kernel
theorem dX13_findSame_66 : decode cX13_findSame 66 = .ok (.iaload, 1) := by decide +kernel
theorem dX13_findSame_67 : decode cX13_findSame 67 = .ok (.iload_n 3, 1) := by decide +kernel
theorem dX13_findSame_68 : decode cX13_findSame 68 = .ok (.iadd, 1) := by decide +kernel
theorem dX13_findSame_69 : decode cX13_findSame 69 = .ok (.iaload, 1) := by decide +kernel
theorem dX13_findSame_70 : decode cX13_findSame 70 = .ok (.iaload, 1) := by decide +kernel
theorem dX13_findSame_71 : decode cX13_findSame 71 = .ok (.iadd, 1) := by decide +kernel
theorem dX13_findSame_72 : decode cX13_findSame 72 = .ok (.istore_n 2, 1) := by decide +kernel
theorem dX13_findSame_73 : decode cX13_findSame 73 = .ok (.iinc 3 1, 3) := by decide +kernel
theorem dX13_findSame_76 : decode cX13_findSame 76 = .ok (.goto (-36), 3) := by decide +kernel
theorem dX13_findSame_79 : decode cX13_findSame 79 = .ok (.iload_n 2, 1) := by decide +kernel
theorem dX13_findSame_80 : decode cX13_findSame 80 = .ok (.iload_n 2, 1) := by decide +kernel
theorem dX13_findSame_81 : decode cX13_findSame 81 = .ok (.bipush 16, 2) := by decide +kernel
theorem dX13_findSame_83 : decode cX13_findSame 83 = .ok (.iushr, 1) := by decide +kernel
theorem dX13_findSame_84 : decode cX13_findSame 84 = .ok (.ixor, 1) := by decide +kernel
theorem dX13_findSame_85 : decode cX13_findSame 85 = .ok (.ldc_w 781, 3) := by decide +kernel
theorem dX13_findSame_88 : decode cX13_findSame 88 = .ok (.iand, 1) := by decide +kernel
theorem dX13_findSame_89 : decode cX13_findSame 89 = .ok (.istore_n 2, 1) := by decide +kernel
theorem dX13_findSame_90 : decode cX13_findSame 90 = .ok (.aload_n 0, 1) := by decide +kernel
theorem dX13_findSame_91 : decode cX13_findSame 91 = .ok (.getfield 235, 3) := by decide +kernel
theorem dX13_findSame_94 : decode cX13_findSame 94 = .ok (.iload_n 2, 1) := by decide +kernel
theorem dX13_findSame_95 : decode cX13_findSame 95 = .ok (.iaload, 1) := by decide +kernel
theorem dX13_findSame_96 : decode cX13_findSame 96 = .ok (.iconst (-1), 1) := by decide +kernel
theorem dX13_findSame_97 : decode cX13_findSame 97 = .ok (.if_icmp .eq 28, 3) := by decide +kernel
theorem dX13_findSame_100 : decode cX13_findSame 100 = .ok (.aload_n 0, 1) := by decide +kernel
theorem dX13_findSame_101 : decode cX13_findSame 101 = .ok (.aload_n 0, 1) := by decide +kernel
theorem dX13_findSame_102 : decode cX13_findSame 102 = .ok (.getfield 235, 3) := by decide +kernel
theorem dX13_findSame_105 : decode cX13_findSame 105 = .ok (.iload_n 2, 1) := by decide +kernel
theorem dX13_findSame_106 : decode cX13_findSame 106 = .ok (.iaload, 1) := by decide +kernel
theorem dX13_findSame_107 : decode cX13_findSame 107 = .ok (.iload_n 1, 1) := by decide +kernel
theorem dX13_findSame_108 : decode cX13_findSame 108 = .ok (.invokevirtual 782, 3) := by decide +kernel
theorem dX13_findSame_111 : decode cX13_findSame 111 = .ok (.ifCond .ne 14, 3) := by decide +kernel
theorem dX13_findSame_114 : decode cX13_findSame 114 = .ok (.iload_n 2, 1) := by decide +kernel
theorem dX13_findSame_115 : decode cX13_findSame 115 = .ok (.iconst 1, 1) := by decide +kernel
theorem dX13_findSame_116 : decode cX13_findSame 116 = .ok (.iadd, 1) := by decide +kernel
theorem dX13_findSame_117 : decode cX13_findSame 117 = .ok (.ldc_w 781, 3) := by decide +kernel
theorem dX13_findSame_120 : decode cX13_findSame 120 = .ok (.iand, 1) := by decide +kernel
theorem dX13_findSame_121 : decode cX13_findSame 121 = .ok (.istore_n 2, 1) := by decide +kernel
theorem dX13_findSame_122 : decode cX13_findSame 122 = .ok (.goto (-32), 3) := by decide +kernel
theorem dX13_findSame_125 : decode cX13_findSame 125 = .ok (.aload_n 0, 1) := by decide +kernel
theorem dX13_findSame_126 : decode cX13_findSame 126 = .ok (.getfield 235, 3) := by decide +kernel
theorem dX13_findSame_129 : decode cX13_findSame 129 = .ok (.iload_n 2, 1) := by decide +kernel
theorem dX13_findSame_130 : decode cX13_findSame 130 = .ok (.iaload, 1) := by decide +kernel
theorem dX13_findSame_131 : decode cX13_findSame 131 = .ok (.iconst (-1), 1) := by decide +kernel
theorem dX13_findSame_132 : decode cX13_findSame 132 = .ok (.if_icmp .ne 10, 3) := by decide +kernel
theorem dX13_findSame_135 : decode cX13_findSame 135 = .ok (.aload_n 0, 1) := by decide +kernel
theorem dX13_findSame_136 : decode cX13_findSame 136 = .ok (.getfield 235, 3) := by decide +kernel
theorem dX13_findSame_139 : decode cX13_findSame 139 = .ok (.iload_n 2, 1) := by decide +kernel
theorem dX13_findSame_140 : decode cX13_findSame 140 = .ok (.iload_n 1, 1) := by decide +kernel
theorem dX13_findSame_141 : decode cX13_findSame 141 = .ok (.iastore, 1) := by decide +kernel
theorem dX13_findSame_142 : decode cX13_findSame 142 = .ok (.aload_n 0, 1) := by decide +kernel
theorem dX13_findSame_143 : decode cX13_findSame 143 = .ok (.getfield 209, 3) := by decide +kernel
theorem dX13_findSame_146 : decode cX13_findSame 146 = .ok (.iload_n 1, 1) := by decide +kernel
theorem dX13_findSame_147 : decode cX13_findSame 147 = .ok (.aload_n 0, 1) := by decide +kernel
theorem dX13_findSame_148 : decode cX13_findSame 148 = .ok (.getfield 235, 3) := by decide +kernel
theorem dX13_findSame_151 : decode cX13_findSame 151 = .ok (.iload_n 2, 1) := by decide +kernel
theorem dX13_findSame_152 : decode cX13_findSame 152 = .ok (.iaload, 1) := by decide +kernel
theorem dX13_findSame_153 : decode cX13_findSame 153 = .ok (.iastore, 1) := by decide +kernel
theorem dX13_findSame_154 : decode cX13_findSame 154 = .ok (.aload_n 0, 1) := by decide +kernel
theorem dX13_findSame_155 : decode cX13_findSame 155 = .ok (.getfield 212, 3) := by decide +kernel
theorem dX13_findSame_158 : decode cX13_findSame 158 = .ok (.iload_n 1, 1) := by decide +kernel
theorem dX13_findSame_159 : decode cX13_findSame 159 = .ok (.iconst 0, 1) := by decide +kernel
theorem dX13_findSame_160 : decode cX13_findSame 160 = .ok (.iastore, 1) := by decide +kernel
theorem dX13_findSame_161 : decode cX13_findSame 161 = .ok (.iinc 1 1, 3) := by decide +kernel
theorem dX13_findSame_164 : decode cX13_findSame 164 = .ok (.goto (-141), 3) := by decide +kernel
theorem dX13_findSame_167 : decode cX13_findSame 167 = .ok (.return_, 1) := by decide +kernel
theorem dX13_enter_0 : decode cX13_enter 0 = .ok (.aload_n 0, 1) := by decide +kernel
theorem dX13_enter_1 : decode cX13_enter 1 = .ok (.getfield 222, 3) := by decide +kernel
theorem dX13_enter_4 : decode cX13_enter 4 = .ok (.aload_n 0, 1) := by decide +kernel
theorem dX13_enter_5 : decode cX13_enter 5 = .ok (.getfield 785, 3) := by decide +kernel
theorem dX13_enter_8 : decode cX13_enter 8 = .ok (.iload_n 1, 1) := by decide +kernel
theorem dX13_enter_9 : decode cX13_enter 9 = .ok (.iastore, 1) := by decide +kernel
theorem dX13_enter_10 : decode cX13_enter 10 = .ok (.aload_n 0, 1) := by decide +kernel
theorem dX13_enter_11 : decode cX13_enter 11 = .ok (.getfield 225, 3) := by decide +kernel
theorem dX13_enter_14 : decode cX13_enter 14 = .ok (.aload_n 0, 1) := by decide +kernel
theorem dX13_enter_15 : decode cX13_enter 15 = .ok (.getfield 785, 3) := by decide +kernel
theorem dX13_enter_18 : decode cX13_enter 18 = .ok (.iconst 0, 1) := by decide +kernel
theorem dX13_enter_19 : decode cX13_enter 19 = .ok (.iastore, 1) := by decide +kernel
theorem dX13_enter_20 : decode cX13_enter 20 = .ok (.aload_n 0, 1) := by decide +kernel
theorem dX13_enter_21 : decode cX13_enter 21 = .ok (.dup, 1) := by decide +kernel
theorem dX13_enter_22 : decode cX13_enter 22 = .ok (.getfield 785, 3) := by decide +kernel
theorem dX13_enter_25 : decode cX13_enter 25 = .ok (.iconst 1, 1) := by decide +kernel
theorem dX13_enter_26 : decode cX13_enter 26 = .ok (.iadd, 1) := by decide +kernel
theorem dX13_enter_27 : decode cX13_enter 27 = .ok (.putfield 785, 3) := by decide +kernel
theorem dX13_enter_30 : decode cX13_enter 30 = .ok (.return_, 1) := by decide +kernel
theorem dX13_tellSteps_0 : decode cX13_tellSteps 0 = .ok (.aload_n 0, 1) := by decide +kernel
theorem dX13_tellSteps_1 : decode cX13_tellSteps 1 = .ok (.iconst 0, 1) := by decide +kernel
theorem dX13_tellSteps_2 : decode cX13_tellSteps 2 = .ok (.putfield 788, 3) := by decide +kernel
theorem dX13_tellSteps_5 : decode cX13_tellSteps 5 = .ok (.aload_n 0, 1) := by decide +kernel
theorem dX13_tellSteps_6 : decode cX13_tellSteps 6 = .ok (.iconst 0, 1) := by decide +kernel
theorem dX13_tellSteps_7 : decode cX13_tellSteps 7 = .ok (.putfield 785, 3) := by decide +kernel
theorem dX13_tellSteps_10 : decode cX13_tellSteps 10 = .ok (.aload_n 0, 1) := by decide +kernel
theorem dX13_tellSteps_11 : decode cX13_tellSteps 11 = .ok (.aload_n 0, 1) := by decide +kernel
theorem dX13_tellSteps_12 : decode cX13_tellSteps 12 = .ok (.getfield 209, 3) := by decide +kernel
theorem dX13_tellSteps_15 : decode cX13_tellSteps 15 = .ok (.aload_n 0, 1) := by decide +kernel
theorem dX13_tellSteps_16 : decode cX13_tellSteps 16 = .ok (.getfield 730, 3) := by decide +kernel
theorem dX13_tellSteps_19 : decode cX13_tellSteps 19 = .ok (.iconst 1, 1) := by decide +kernel
theorem dX13_tellSteps_20 : decode cX13_tellSteps 20 = .ok (.isub, 1) := by decide +kernel
theorem dX13_tellSteps_21 : decode cX13_tellSteps 21 = .ok (.iaload, 1) := by decide +kernel
theorem dX13_tellSteps_22 : decode cX13_tellSteps 22 = .ok (.invokevirtual 791, 3) := by decide +kernel
theorem dX13_tellSteps_25 : decode cX13_tellSteps 25 = .ok (.aload_n 0, 1) := by decide +kernel
theorem dX13_tellSteps_26 : decode cX13_tellSteps 26 = .ok (.getfield 212, 3) := by decide +kernel
theorem dX13_tellSteps_29 : decode cX13_tellSteps 29 = .ok (.aload_n 0, 1) := by decide +kernel
theorem dX13_tellSteps_30 : decode cX13_tellSteps 30 = .ok (.getfield 209, 3) := by decide +kernel
theorem dX13_tellSteps_33 : decode cX13_tellSteps 33 = .ok (.aload_n 0, 1) := by decide +kernel
theorem dX13_tellSteps_34 : decode cX13_tellSteps 34 = .ok (.getfield 730, 3) := by decide +kernel
theorem dX13_tellSteps_37 : decode cX13_tellSteps 37 = .ok (.iconst 1, 1) := by decide +kernel
theorem dX13_tellSteps_38 : decode cX13_tellSteps 38 = .ok (.isub, 1) := by decide +kernel
theorem dX13_tellSteps_39 : decode cX13_tellSteps 39 = .ok (.iaload, 1) := by decide +kernel
theorem dX13_tellSteps_40 : decode cX13_tellSteps 40 = .ok (.iconst 1, 1) := by decide +kernel
theorem dX13_tellSteps_41 : decode cX13_tellSteps 41 = .ok (.iastore, 1) := by decide +kernel
theorem dX13_tellSteps_42 : decode cX13_tellSteps 42 = .ok (.aload_n 0, 1) := by decide +kernel
theorem dX13_tellSteps_43 : decode cX13_tellSteps 43 = .ok (.getfield 785, 3) := by decide +kernel
theorem dX13_tellSteps_46 : decode cX13_tellSteps 46 = .ok (.ifCond .le 164, 3) := by decide +kernel
theorem dX13_tellSteps_49 : decode cX13_tellSteps 49 = .ok (.aload_n 0, 1) := by decide +kernel
theorem dX13_tellSteps_50 : decode cX13_tellSteps 50 = .ok (.getfield 222, 3) := by decide +kernel
theorem dX13_tellSteps_53 : decode cX13_tellSteps 53 = .ok (.aload_n 0, 1) := by decide +kernel
theorem dX13_tellSteps_54 : decode cX13_tellSteps 54 = .ok (.getfield 785, 3) := by decide +kernel
theorem dX13_tellSteps_57 : decode cX13_tellSteps 57 = .ok (.iconst 1, 1) := by decide +kernel
theorem dX13_tellSteps_58 : decode cX13_tellSteps 58 = .ok (.isub, 1) := by decide +kernel
theorem dX13_tellSteps_59 : decode cX13_tellSteps 59 = .ok (.iaload, 1) := by decide +kernel
theorem dX13_tellSteps_60 : decode cX13_tellSteps 60 = .ok (.istore_n 1, 1) := by decide +kernel
theorem dX13_tellSteps_61 : decode cX13_tellSteps 61 = .ok (.aload_n 0, 1) := by decide +kernel
theorem dX13_tellSteps_62 : decode cX13_tellSteps 62 = .ok (.getfield 225, 3) := by decide +kernel
theorem dX13_tellSteps_65 : decode cX13_tellSteps 65 = .ok (.aload_n 0, 1) := by decide +kernel
theorem dX13_tellSteps_66 : decode cX13_tellSteps 66 = .ok (.getfield 785, 3) := by decide +kernel
theorem dX13_tellSteps_69 : decode cX13_tellSteps 69 = .ok (.iconst 1, 1) := by decide +kernel
theorem dX13_tellSteps_70 : decode cX13_tellSteps 70 = .ok (.isub, 1) := by decide +kernel
theorem dX13_tellSteps_71 : decode cX13_tellSteps 71 = .ok (.iaload, 1) := by decide +kernel
theorem dX13_tellSteps_72 : decode cX13_tellSteps 72 = .ok (.istore_n 2, 1) := by decide +kernel
theorem dX13_tellSteps_73 : decode cX13_tellSteps 73 = .ok (.iload_n 2, 1) := by decide +kernel
theorem dX13_tellSteps_74 : decode cX13_tellSteps 74 = .ok (.aload_n 0, 1) := by decide +kernel
theorem dX13_tellSteps_75 : decode cX13_tellSteps 75 = .ok (.iload_n 1, 1) := by decide +kernel
theorem dX13_tellSteps_76 : decode cX13_tellSteps 76 = .ok (.invokevirtual 748, 3) := by decide +kernel
theorem dX13_tellSteps_79 : decode cX13_tellSteps 79 = .ok (.if_icmp .ne 36, 3) := by decide +kernel
theorem dX13_tellSteps_82 : decode cX13_tellSteps 82 = .ok (.aload_n 0, 1) := by decide +kernel
theorem dX13_tellSteps_83 : decode cX13_tellSteps 83 = .ok (.dup, 1) := by decide +kernel
theorem dX13_tellSteps_84 : decode cX13_tellSteps 84 = .ok (.getfield 785, 3) := by decide +kernel
theorem dX13_tellSteps_87 : decode cX13_tellSteps 87 = .ok (.iconst 1, 1) := by decide +kernel
theorem dX13_tellSteps_88 : decode cX13_tellSteps 88 = .ok (.isub, 1) := by decide +kernel
theorem dX13_tellSteps_89 : decode cX13_tellSteps 89 = .ok (.putfield 785, 3) := by decide +kernel
theorem dX13_tellSteps_92 : decode cX13_tellSteps 92 = .ok (.aload_n 0, 1) := by decide +kernel
theorem dX13_tellSteps_93 : decode cX13_tellSteps 93 = .ok (.getfield 238, 3) := by decide +kernel
theorem dX13_tellSteps_96 : decode cX13_tellSteps 96 = .ok (.aload_n 0, 1) := by decide +kernel
theorem dX13_tellSteps_97 : decode cX13_tellSteps 97 = .ok (.getfield 788, 3) := by decide +kernel
theorem dX13_tellSteps_100 : decode cX13_tellSteps 100 = .ok (.iload_n 1, 1) := by decide +kernel
theorem dX13_tellSteps_101 : decode cX13_tellSteps 101 = .ok (.iastore, 1) := by decide +kernel
theorem dX13_tellSteps_102 : decode cX13_tellSteps 102 = .ok (.aload_n 0, 1) := by decide +kernel
theorem dX13_tellSteps_103 : decode cX13_tellSteps 103 = .ok (.dup, 1) := by decide +kernel
theorem dX13_tellSteps_104 : decode cX13_tellSteps 104 = .ok (.getfield 788, 3) := by decide +kernel
theorem dX13_tellSteps_107 : decode cX13_tellSteps 107 = .ok (.iconst 1, 1) := by decide +kernel
theorem dX13_tellSteps_108 : decode cX13_tellSteps 108 = .ok (.iadd, 1) := by decide +kernel
theorem dX13_tellSteps_109 : decode cX13_tellSteps 109 = .ok (.putfield 788, 3) := by decide +kernel
theorem dX13_tellSteps_112 : decode cX13_tellSteps 112 = .ok (.goto (-70), 3) := by decide +kernel
theorem dX13_tellSteps_115 : decode cX13_tellSteps 115 = .ok (.aload_n 0, 1) := by decide +kernel
theorem dX13_tellSteps_116 : decode cX13_tellSteps 116 = .ok (.getfield 225, 3) := by decide +kernel
theorem dX13_tellSteps_119 : decode cX13_tellSteps 119 = .ok (.aload_n 0, 1) := by decide +kernel
theorem dX13_tellSteps_120 : decode cX13_tellSteps 120 = .ok (.getfield 785, 3) := by decide +kernel
theorem dX13_tellSteps_123 : decode cX13_tellSteps 123 = .ok (.iconst 1, 1) := by decide +kernel
theorem dX13_tellSteps_124 : decode cX13_tellSteps 124 = .ok (.isub, 1) := by decide +kernel
theorem dX13_tellSteps_125 : decode cX13_tellSteps 125 = .ok (.dup2, 1) := by decide +kernel
theorem dX13_tellSteps_126 : decode cX13_tellSteps 126 = .ok (.iaload, 1) := by decide +kernel
theorem dX13_tellSteps_127 : decode cX13_tellSteps 127 = .ok (.iconst 1, 1) := by decide +kernel
theorem dX13_tellSteps_128 : decode cX13_tellSteps 128 = .ok (.iadd, 1) := by decide +kernel
theorem dX13_tellSteps_129 : decode cX13_tellSteps 129 = .ok (.iastore, 1) := by decide +kernel
theorem dX13_tellSteps_130 : decode cX13_tellSteps 130 = .ok (.aload_n 0, 1) := by decide +kernel
theorem dX13_tellSteps_131 : decode cX13_tellSteps 131 = .ok (.getfield 209, 3) := by decide +kernel
theorem dX13_tellSteps_134 : decode cX13_tellSteps 134 = .ok (.aload_n 0, 1) := by decide +kernel
theorem dX13_tellSteps_135 : decode cX13_tellSteps 135 = .ok (.getfield 197, 3) := by decide +kernel
theorem dX13_tellSteps_138 : decode cX13_tellSteps 138 = .ok (.aload_n 0, 1) := by decide +kernel
theorem dX13_tellSteps_139 : decode cX13_tellSteps 139 = .ok (.getfield 193, 3) := by decide +kernel
theorem dX13_tellSteps_142 : decode cX13_tellSteps 142 = .ok (.iload_n 1, 1) := by decide +kernel
theorem dX13_tellSteps_143 : decode cX13_tellSteps 143 = .ok (.iaload, 1) := by decide +kernel
theorem dX13_tellSteps_144 : decode cX13_tellSteps 144 = .ok (.iload_n 2, 1) := by decide +kernel
theorem dX13_tellSteps_145 : decode cX13_tellSteps 145 = .ok (.iadd, 1) := by decide +kernel
theorem dX13_tellSteps_146 : decode cX13_tellSteps 146 = .ok (.iaload, 1) := by decide +kernel
theorem dX13_tellSteps_147 : decode cX13_tellSteps 147 = .ok (.iaload, 1) := by decide +kernel
theorem dX13_tellSteps_148 : decode cX13_tellSteps 148 = .ok (.istore_n 3, 1) := by decide +kernel
theorem dX13_tellSteps_149 : decode cX13_tellSteps 149 = .ok (.aload_n 0, 1) := by decide +kernel
theorem dX13_tellSteps_150 : decode cX13_tellSteps 150 = .ok (.getfield 212, 3) := by decide +kernel
theorem dX13_tellSteps_153 : decode cX13_tellSteps 153 = .ok (.iload_n 3, 1) := by decide +kernel
theorem dX13_tellSteps_154 : decode cX13_tellSteps 154 = .ok (.dup2, 1) := by decide +kernel
theorem dX13_tellSteps_155 : decode cX13_tellSteps 155 = .ok (.iaload, 1) := by decide +kernel
theorem dX13_tellSteps_156 : decode cX13_tellSteps 156 = .ok (.iconst 1, 1) := by decide +kernel
theorem dX13_tellSteps_157 : decode cX13_tellSteps 157 = .ok (.iadd, 1) := by decide +kernel
theorem dX13_tellSteps_158 : decode cX13_tellSteps 158 = .ok (.iastore, 1) := by decide +kernel
theorem dX13_tellSteps_159 : decode cX13_tellSteps 159 = .ok (.aload_n 0, 1) := by decide +kernel
theorem dX13_tellSteps_160 : decode cX13_tellSteps 160 = .ok (.getfield 212, 3) := by decide +kernel
theorem dX13_tellSteps_163 : decode cX13_tellSteps 163 = .ok (.iload_n 3, 1) := by decide +kernel
theorem dX13_tellSteps_164 : decode cX13_tellSteps 164 = .ok (.iaload, 1) := by decide +kernel
theorem dX13_tellSteps_165 : decode cX13_tellSteps 165 = .ok (.iconst 1, 1) := by decide +kernel
theorem dX13_tellSteps_166 : decode cX13_tellSteps 166 = .ok (.if_icmp .le 36, 3) := by decide +kernel
theorem dX13_tellSteps_169 : decode cX13_tellSteps 169 = .ok (.aload_n 0, 1) := by decide +kernel
theorem dX13_tellSteps_170 : decode cX13_tellSteps 170 = .ok (.iload_n 3, 1) := by decide +kernel
theorem dX13_tellSteps_171 : decode cX13_tellSteps 171 = .ok (.invokevirtual 748, 3) := by decide +kernel
theorem dX13_tellSteps_174 : decode cX13_tellSteps 174 = .ok (.ifCond .le 28, 3) := by decide +kernel
theorem dX13_tellSteps_177 : decode cX13_tellSteps 177 = .ok (.aload_n 0, 1) := by decide +kernel
theorem dX13_tellSteps_178 : decode cX13_tellSteps 178 = .ok (.getfield 238, 3) := by decide +kernel
theorem dX13_tellSteps_181 : decode cX13_tellSteps 181 = .ok (.aload_n 0, 1) := by decide +kernel
theorem dX13_tellSteps_182 : decode cX13_tellSteps 182 = .ok (.getfield 788, 3) := by decide +kernel
theorem dX13_tellSteps_185 : decode cX13_tellSteps 185 = .ok (.iconst (-1), 1) := by decide +kernel
theorem dX13_tellSteps_186 : decode cX13_tellSteps 186 = .ok (.iload_n 3, 1) := by decide +kernel
theorem dX13_tellSteps_187 : decode cX13_tellSteps 187 = .ok (.isub, 1) := by decide +kernel
theorem dX13_tellSteps_188 : decode cX13_tellSteps 188 = .ok (.iastore, 1) := by decide +kernel
theorem dX13_tellSteps_189 : decode cX13_tellSteps 189 = .ok (.aload_n 0, 1) := by decide +kernel
theorem dX13_tellSteps_190 : decode cX13_tellSteps 190 = .ok (.dup, 1) := by decide +kernel
theorem dX13_tellSteps_191 : decode cX13_tellSteps 191 = .ok (.getfield 788, 3) := by decide +kernel
theorem dX13_tellSteps_194 : decode cX13_tellSteps 194 = .ok (.iconst 1, 1) := by decide +kernel
theorem dX13_tellSteps_195 : decode cX13_tellSteps 195 = .ok (.iadd, 1) := by decide +kernel
theorem dX13_tellSteps_196 : decode cX13_tellSteps 196 = .ok (.putfield 788, 3) := by decide +kernel
theorem dX13_tellSteps_199 : decode cX13_tellSteps 199 = .ok (.goto 8, 3) := by decide +kernel
theorem dX13_tellSteps_202 : decode cX13_tellSteps 202 = .ok (.aload_n 0, 1) := by decide +kernel
theorem dX13_tellSteps_203 : decode cX13_tellSteps 203 = .ok (.iload_n 3, 1) := by decide +kernel
theorem dX13_tellSteps_204 : decode cX13_tellSteps 204 = .ok (.invokevirtual 791, 3) := by decide +kernel
theorem dX13_tellSteps_207 : decode cX13_tellSteps 207 = .ok (.goto (-165), 3) := by decide +kernel
theorem dX13_tellSteps_210 : decode cX13_tellSteps 210 = .ok (.return_, 1) := by decide +kernel
theorem dX13_putNumber_0 : decode cX13_putNumber 0 = .ok (.iload_n 1, 1) := by decide +kernel
theorem dX13_putNumber_1 : decode cX13_putNumber 1 = .ok (.iconst 1, 1) := by decide +kernel
theorem dX13_putNumber_2 : decode cX13_putNumber 2 = .ok (.isub, 1) := by decide +kernel
theorem dX13_putNumber_3 : decode cX13_putNumber 3 = .ok (.bipush 20, 2) := by decide +kernel
theorem dX13_putNumber_5 : decode cX13_putNumber 5 = .ok (.idiv, 1) := by decide +kernel
theorem dX13_putNumber_6 : decode cX13_putNumber 6 = .ok (.istore_n 2, 1) := by decide +kernel
theorem dX13_putNumber_7 : decode cX13_putNumber 7 = .ok (.iconst 1, 1) := by decide +kernel
theorem dX13_putNumber_8 : decode cX13_putNumber 8 = .ok (.istore_n 3, 1) := by decide +kernel
theorem dX13_putNumber_9 : decode cX13_putNumber 9 = .ok (.iconst 0, 1) := by decide +kernel
theorem dX13_putNumber_10 : decode cX13_putNumber 10 = .ok (.istore 4, 2) := by decide +kernel
theorem dX13_putNumber_12 : decode cX13_putNumber 12 = .ok (.iload_n 2, 1) := by decide +kernel
theorem dX13_putNumber_13 : decode cX13_putNumber 13 = .ok (.istore 5, 2) := by decide +kernel
theorem dX13_putNumber_15 : decode cX13_putNumber 15 = .ok (.iload 5, 2) := by decide +kernel
theorem dX13_putNumber_17 : decode cX13_putNumber 17 = .ok (.ifCond .le 17, 3) := by decide +kernel
theorem dX13_putNumber_20 : decode cX13_putNumber 20 = .ok (.iinc 4 1, 3) := by decide +kernel
theorem dX13_putNumber_23 : decode cX13_putNumber 23 = .ok (.iload 5, 2) := by decide +kernel
theorem dX13_putNumber_25 : decode cX13_putNumber 25 = .ok (.iconst 1, 1) := by decide +kernel
theorem dX13_putNumber_26 : decode cX13_putNumber 26 = .ok (.isub, 1) := by decide +kernel
theorem dX13_putNumber_27 : decode cX13_putNumber 27 = .ok (.iconst 5, 1) := by decide +kernel
theorem dX13_putNumber_28 : decode cX13_putNumber 28 = .ok (.idiv, 1) := by decide +kernel
theorem dX13_putNumber_29 : decode cX13_putNumber 29 = .ok (.istore 5, 2) := by decide +kernel
theorem dX13_putNumber_31 : decode cX13_putNumber 31 = .ok (.goto (-16), 3) := by decide +kernel
theorem dX13_putNumber_34 : decode cX13_putNumber 34 = .ok (.iload 4, 2) := by decide +kernel
theorem dX13_putNumber_36 : decode cX13_putNumber 36 = .ok (.iconst 1, 1) := by decide +kernel
theorem dX13_putNumber_37 : decode cX13_putNumber 37 = .ok (.isub, 1) := by decide +kernel
theorem dX13_putNumber_38 : decode cX13_putNumber 38 = .ok (.istore 5, 2) := by decide +kernel
theorem dX13_putNumber_40 : decode cX13_putNumber 40 = .ok (.iload 5, 2) := by decide +kernel
theorem dX13_putNumber_42 : decode cX13_putNumber 42 = .ok (.ifCond .lt 49, 3) := by decide +kernel
theorem dX13_putNumber_45 : decode cX13_putNumber 45 = .ok (.iload_n 2, 1) := by decide +kernel
theorem dX13_putNumber_46 : decode cX13_putNumber 46 = .ok (.istore 6, 2) := by decide +kernel
theorem dX13_putNumber_48 : decode cX13_putNumber 48 = .ok (.iconst 0, 1) := by decide +kernel
theorem dX13_putNumber_49 : decode cX13_putNumber 49 = .ok (.istore 7, 2) := by decide +kernel
theorem dX13_putNumber_51 : decode cX13_putNumber 51 = .ok (.iload 7, 2) := by decide +kernel
theorem dX13_putNumber_53 : decode cX13_putNumber 53 = .ok (.iload 5, 2) := by decide +kernel
theorem dX13_putNumber_55 : decode cX13_putNumber 55 = .ok (.if_icmp .ge 17, 3) := by decide +kernel
theorem dX13_putNumber_58 : decode cX13_putNumber 58 = .ok (.iload 6, 2) := by decide +kernel
theorem dX13_putNumber_60 : decode cX13_putNumber 60 = .ok (.iconst 1, 1) := by decide +kernel
theorem dX13_putNumber_61 : decode cX13_putNumber 61 = .ok (.isub, 1) := by decide +kernel
theorem dX13_putNumber_62 : decode cX13_putNumber 62 = .ok (.iconst 5, 1) := by decide +kernel
theorem dX13_putNumber_63 : decode cX13_putNumber 63 = .ok (.idiv, 1) := by decide +kernel
theorem dX13_putNumber_64 : decode cX13_putNumber 64 = .ok (.istore 6, 2) := by decide +kernel
theorem dX13_putNumber_66 : decode cX13_putNumber 66 = .ok (.iinc 7 1, 3) := by decide +kernel
theorem dX13_putNumber_69 : decode cX13_putNumber 69 = .ok (.goto (-18), 3) := by decide +kernel
theorem dX13_putNumber_72 : decode cX13_putNumber 72 = .ok (.aload_n 0, 1) := by decide +kernel
theorem dX13_putNumber_73 : decode cX13_putNumber 73 = .ok (.bipush 85, 2) := by decide +kernel
theorem dX13_putNumber_75 : decode cX13_putNumber 75 = .ok (.iload 6, 2) := by decide +kernel
theorem dX13_putNumber_77 : decode cX13_putNumber 77 = .ok (.iconst 1, 1) := by decide +kernel
theorem dX13_putNumber_78 : decode cX13_putNumber 78 = .ok (.isub, 1) := by decide +kernel
theorem dX13_putNumber_79 : decode cX13_putNumber 79 = .ok (.iconst 5, 1) := by decide +kernel
theorem dX13_putNumber_80 : decode cX13_putNumber 80 = .ok (.irem, 1) := by decide +kernel
theorem dX13_putNumber_81 : decode cX13_putNumber 81 = .ok (.iadd, 1) := by decide +kernel
theorem dX13_putNumber_82 : decode cX13_putNumber 82 = .ok (.invokevirtual 763, 3) := by decide +kernel
theorem dX13_putNumber_85 : decode cX13_putNumber 85 = .ok (.iinc 5 (-1), 3) := by decide +kernel
theorem dX13_putNumber_88 : decode cX13_putNumber 88 = .ok (.goto (-48), 3) := by decide +kernel
theorem dX13_putNumber_91 : decode cX13_putNumber 91 = .ok (.aload_n 0, 1) := by decide +kernel
theorem dX13_putNumber_92 : decode cX13_putNumber 92 = .ok (.bipush 64, 2) := by decide +kernel
theorem dX13_putNumber_94 : decode cX13_putNumber 94 = .ok (.iload_n 3, 1) := by decide +kernel
theorem dX13_putNumber_95 : decode cX13_putNumber 95 = .ok (.iadd, 1) := by decide +kernel
theorem dX13_putNumber_96 : decode cX13_putNumber 96 = .ok (.iload_n 1, 1) := by decide +kernel
theorem dX13_putNumber_97 : decode cX13_putNumber 97 = .ok (.iconst 1, 1) := by decide +kernel
theorem dX13_putNumber_98 : decode cX13_putNumber 98 = .ok (.isub, 1) := by decide +kernel
theorem dX13_putNumber_99 : decode cX13_putNumber 99 = .ok (.bipush 20, 2) := by decide +kernel
theorem dX13_putNumber_101 : decode cX13_putNumber 101 = .ok (.irem, 1) := by decide +kernel
theorem dX13_putNumber_102 : decode cX13_putNumber 102 = .ok (.iadd, 1) := by decide +kernel
theorem dX13_putNumber_103 : decode cX13_putNumber 103 = .ok (.invokevirtual 763, 3) := by decide +kernel
theorem dX13_putNumber_106 : decode cX13_putNumber 106 = .ok (.return_, 1) := by decide +kernel
theorem dX13_printPacked_0 : decode cX13_printPacked 0 = .ok (.aload_n 0, 1) := by decide +kernel
theorem dX13_printPacked_1 : decode cX13_printPacked 1 = .ok (.iload_n 1, 1) := by decide +kernel
theorem dX13_printPacked_2 : decode cX13_printPacked 2 = .ok (.invokevirtual 739, 3) := by decide +kernel
theorem dX13_printPacked_5 : decode cX13_printPacked 5 = .ok (.aload_n 0, 1) := by decide +kernel
theorem dX13_printPacked_6 : decode cX13_printPacked 6 = .ok (.invokevirtual 794, 3) := by decide +kernel
theorem dX13_printPacked_9 : decode cX13_printPacked 9 = .ok (.aload_n 0, 1) := by decide +kernel
theorem dX13_printPacked_10 : decode cX13_printPacked 10 = .ok (.invokevirtual 797, 3) := by decide +kernel
theorem dX13_printPacked_13 : decode cX13_printPacked 13 = .ok (.aload_n 0, 1) := by decide +kernel
theorem dX13_printPacked_14 : decode cX13_printPacked 14 = .ok (.iconst 0, 1) := by decide +kernel
theorem dX13_printPacked_15 : decode cX13_printPacked 15 = .ok (.putfield 800, 3) := by decide +kernel
theorem dX13_printPacked_18 : decode cX13_printPacked 18 = .ok (.iconst 0, 1) := by decide +kernel
theorem dX13_printPacked_19 : decode cX13_printPacked 19 = .ok (.istore_n 2, 1) := by decide +kernel
theorem dX13_printPacked_20 : decode cX13_printPacked 20 = .ok (.iload_n 2, 1) := by decide +kernel
theorem dX13_printPacked_21 : decode cX13_printPacked 21 = .ok (.aload_n 0, 1) := by decide +kernel
theorem dX13_printPacked_22 : decode cX13_printPacked 22 = .ok (.getfield 512, 3) := by decide +kernel
theorem dX13_printPacked_25 : decode cX13_printPacked 25 = .ok (.if_icmp .ge 16, 3) := by decide +kernel
theorem dX13_printPacked_28 : decode cX13_printPacked 28 = .ok (.aload_n 0, 1) := by decide +kernel
theorem dX13_printPacked_29 : decode cX13_printPacked 29 = .ok (.getfield 231, 3) := by decide +kernel
theorem dX13_printPacked_32 : decode cX13_printPacked 32 = .ok (.iload_n 2, 1) := by decide +kernel
theorem dX13_printPacked_33 : decode cX13_printPacked 33 = .ok (.iconst 0, 1) := by decide +kernel
theorem dX13_printPacked_34 : decode cX13_printPacked 34 = .ok (.iastore, 1) := by decide +kernel
theorem dX13_printPacked_35 : decode cX13_printPacked 35 = .ok (.iinc 2 1, 3) := by decide +kernel
theorem dX13_printPacked_38 : decode cX13_printPacked 38 = .ok (.goto (-18), 3) := by decide +kernel
theorem dX13_printPacked_41 : decode cX13_printPacked 41 = .ok (.iconst 0, 1) := by decide +kernel
theorem dX13_printPacked_42 : decode cX13_printPacked 42 = .ok (.istore_n 2, 1) := by decide +kernel
theorem dX13_printPacked_43 : decode cX13_printPacked 43 = .ok (.iload_n 2, 1) := by decide +kernel
theorem dX13_printPacked_44 : decode cX13_printPacked 44 = .ok (.aload_n 0, 1) := by decide +kernel
theorem dX13_printPacked_45 : decode cX13_printPacked 45 = .ok (.getfield 69, 3) := by decide +kernel
theorem dX13_printPacked_48 : decode cX13_printPacked 48 = .ok (.iload_n 1, 1) := by decide +kernel
theorem dX13_printPacked_49 : decode cX13_printPacked 49 = .ok (.iaload, 1) := by decide +kernel
theorem dX13_printPacked_50 : decode cX13_printPacked 50 = .ok (.if_icmp .ge 30, 3) := by decide +kernel
theorem dX13_printPacked_53 : decode cX13_printPacked 53 = .ok (.aload_n 0, 1) := by decide +kernel
theorem dX13_printPacked_54 : decode cX13_printPacked 54 = .ok (.getfield 231, 3) := by decide +kernel
theorem dX13_printPacked_57 : decode cX13_printPacked 57 = .ok (.aload_n 0, 1) := by decide +kernel
theorem dX13_printPacked_58 : decode cX13_printPacked 58 = .ok (.getfield 73, 3) := by decide +kernel
theorem dX13_printPacked_61 : decode cX13_printPacked 61 = .ok (.aload_n 0, 1) := by decide +kernel
theorem dX13_printPacked_62 : decode cX13_printPacked 62 = .ok (.getfield 66, 3) := by decide +kernel
theorem dX13_printPacked_65 : decode cX13_printPacked 65 = .ok (.iload_n 1, 1) := by decide +kernel
theorem dX13_printPacked_66 : decode cX13_printPacked 66 = .ok (.iaload, 1) := by decide +kernel
theorem dX13_printPacked_67 : decode cX13_printPacked 67 = .ok (.iload_n 2, 1) := by decide +kernel
theorem dX13_printPacked_68 : decode cX13_printPacked 68 = .ok (.iadd, 1) := by decide +kernel
theorem dX13_printPacked_69 : decode cX13_printPacked 69 = .ok (.iaload, 1) := by decide +kernel
theorem dX13_printPacked_70 : decode cX13_printPacked 70 = .ok (.iload_n 2, 1) := by decide +kernel
theorem dX13_printPacked_71 : decode cX13_printPacked 71 = .ok (.iconst 1, 1) := by decide +kernel
theorem dX13_printPacked_72 : decode cX13_printPacked 72 = .ok (.iadd, 1) := by decide +kernel
theorem dX13_printPacked_73 : decode cX13_printPacked 73 = .ok (.iastore, 1) := by decide +kernel
theorem dX13_printPacked_74 : decode cX13_printPacked 74 = .ok (.iinc 2 1, 3) := by decide +kernel
theorem dX13_printPacked_77 : decode cX13_printPacked 77 = .ok (.goto (-34), 3) := by decide +kernel
theorem dX13_printPacked_80 : decode cX13_printPacked 80 = .ok (.iconst 0, 1) := by decide +kernel
theorem dX13_printPacked_81 : decode cX13_printPacked 81 = .ok (.istore_n 2, 1) := by decide +kernel
theorem dX13_printPacked_82 : decode cX13_printPacked 82 = .ok (.iload_n 2, 1) := by decide +kernel
theorem dX13_printPacked_83 : decode cX13_printPacked 83 = .ok (.aload_n 0, 1) := by decide +kernel
theorem dX13_printPacked_84 : decode cX13_printPacked 84 = .ok (.getfield 788, 3) := by decide +kernel
theorem dX13_printPacked_87 : decode cX13_printPacked 87 = .ok (.if_icmp .ge 85, 3) := by decide +kernel
theorem dX13_printPacked_90 : decode cX13_printPacked 90 = .ok (.aload_n 0, 1) := by decide +kernel
theorem dX13_printPacked_91 : decode cX13_printPacked 91 = .ok (.getfield 238, 3) := by decide +kernel
theorem dX13_printPacked_94 : decode cX13_printPacked 94 = .ok (.iload_n 2, 1) := by decide +kernel
theorem dX13_printPacked_95 : decode cX13_printPacked 95 = .ok (.iaload, 1) := by decide +kernel
theorem dX13_printPacked_96 : decode cX13_printPacked 96 = .ok (.ifCond .ge 7, 3) := by decide +kernel
theorem dX13_printPacked_99 : decode cX13_printPacked 99 = .ok (.iconst (-1), 1) := by decide +kernel
theorem dX13_printPacked_100 : decode cX13_printPacked 100 = .ok (.goto 14, 3) := by decide +kernel
theorem dX13_printPacked_103 : decode cX13_printPacked 103 = .ok (.aload_n 0, 1) := by decide +kernel
theorem dX13_printPacked_104 : decode cX13_printPacked 104 = .ok (.getfield 190, 3) := by decide +kernel
theorem dX13_printPacked_107 : decode cX13_printPacked 107 = .ok (.aload_n 0, 1) := by decide +kernel
theorem dX13_printPacked_108 : decode cX13_printPacked 108 = .ok (.getfield 238, 3) := by decide +kernel
theorem dX13_printPacked_111 : decode cX13_printPacked 111 = .ok (.iload_n 2, 1) := by decide +kernel
theorem dX13_printPacked_112 : decode cX13_printPacked 112 = .ok (.iaload, 1) := by decide +kernel
theorem dX13_printPacked_113 : decode cX13_printPacked 113 = .ok (.iaload, 1) := by decide +kernel
theorem dX13_printPacked_114 : decode cX13_printPacked 114 = .ok (.istore_n 3, 1) := by decide +kernel
theorem dX13_printPacked_115 : decode cX13_printPacked 115 = .ok (.iload_n 3, 1) := by decide +kernel
theorem dX13_printPacked_116 : decode cX13_printPacked 116 = .ok (.iconst (-1), 1) := by decide +kernel
theorem dX13_printPacked_117 : decode cX13_printPacked 117 = .ok (.if_icmp .eq 49, 3) := by decide +kernel
theorem dX13_printPacked_120 : decode cX13_printPacked 120 = .ok (.aload_n 0, 1) := by decide +kernel
theorem dX13_printPacked_121 : decode cX13_printPacked 121 = .ok (.getfield 231, 3) := by decide +kernel
theorem dX13_printPacked_124 : decode cX13_printPacked 124 = .ok (.iload_n 3, 1) := by decide +kernel
theorem dX13_printPacked_125 : decode cX13_printPacked 125 = .ok (.iaload, 1) := by decide +kernel
theorem dX13_printPacked_126 : decode cX13_printPacked 126 = .ok (.ifCond .ne 40, 3) := by decide +kernel
theorem dX13_printPacked_129 : decode cX13_printPacked 129 = .ok (.aload_n 0, 1) := by decide +kernel
theorem dX13_printPacked_130 : decode cX13_printPacked 130 = .ok (.getfield 228, 3) := by decide +kernel
theorem dX13_printPacked_133 : decode cX13_printPacked 133 = .ok (.aload_n 0, 1) := by decide +kernel
theorem dX13_printPacked_134 : decode cX13_printPacked 134 = .ok (.getfield 800, 3) := by decide +kernel
theorem dX13_printPacked_137 : decode cX13_printPacked 137 = .ok (.iload_n 3, 1) := by decide +kernel
theorem dX13_printPacked_138 : decode cX13_printPacked 138 = .ok (.iastore, 1) := by decide +kernel
theorem dX13_printPacked_139 : decode cX13_printPacked 139 = .ok (.aload_n 0, 1) := by decide +kernel
theorem dX13_printPacked_140 : decode cX13_printPacked 140 = .ok (.dup, 1) := by decide +kernel
theorem dX13_printPacked_141 : decode cX13_printPacked 141 = .ok (.getfield 800, 3) := by decide +kernel
theorem dX13_printPacked_144 : decode cX13_printPacked 144 = .ok (.iconst 1, 1) := by decide +kernel
theorem dX13_printPacked_145 : decode cX13_printPacked 145 = .ok (.iadd, 1) := by decide +kernel
theorem dX13_printPacked_146 : decode cX13_printPacked 146 = .ok (.putfield 800, 3) := by decide +kernel
theorem dX13_printPacked_149 : decode cX13_printPacked 149 = .ok (.aload_n 0, 1) := by decide +kernel
theorem dX13_printPacked_150 : decode cX13_printPacked 150 = .ok (.getfield 231, 3) := by decide +kernel
theorem dX13_printPacked_153 : decode cX13_printPacked 153 = .ok (.iload_n 3, 1) := by decide +kernel
theorem dX13_printPacked_154 : decode cX13_printPacked 154 = .ok (.aload_n 0, 1) := by decide +kernel
theorem dX13_printPacked_155 : decode cX13_printPacked 155 = .ok (.getfield 69, 3) := by decide +kernel
theorem dX13_printPacked_158 : decode cX13_printPacked 158 = .ok (.iload_n 1, 1) := by decide +kernel
theorem dX13_printPacked_159 : decode cX13_printPacked 159 = .ok (.iaload, 1) := by decide +kernel
theorem dX13_printPacked_160 : decode cX13_printPacked 160 = .ok (.aload_n 0, 1) := by decide +kernel
theorem dX13_printPacked_161 : decode cX13_printPacked 161 = .ok (.getfield 800, 3) := by decide +kernel
theorem dX13_printPacked_164 : decode cX13_printPacked 164 = .ok (.iadd, 1) := by decide +kernel
theorem dX13_printPacked_165 : decode cX13_printPacked 165 = .ok (.iastore, 1) := by decide +kernel
theorem dX13_printPacked_166 : decode cX13_printPacked 166 = .ok (.iinc 2 1, 3) := by decide +kernel
theorem dX13_printPacked_169 : decode cX13_printPacked 169 = .ok (.goto (-87), 3) := by decide +kernel
theorem dX13_printPacked_172 : decode cX13_printPacked 172 = .ok (.aload_n 0, 1) := by decide +kernel
theorem dX13_printPacked_173 : decode cX13_printPacked 173 = .ok (.bipush 40, 2) := by decide +kernel
theorem dX13_printPacked_175 : decode cX13_printPacked 175 = .ok (.invokevirtual 763, 3) := by decide +kernel
theorem dX13_printPacked_178 : decode cX13_printPacked 178 = .ok (.iconst 0, 1) := by decide +kernel
theorem dX13_printPacked_179 : decode cX13_printPacked 179 = .ok (.istore_n 2, 1) := by decide +kernel
theorem dX13_printPacked_180 : decode cX13_printPacked 180 = .ok (.iload_n 2, 1) := by decide +kernel
theorem dX13_printPacked_181 : decode cX13_printPacked 181 = .ok (.aload_n 0, 1) := by decide +kernel
theorem dX13_printPacked_182 : decode cX13_printPacked 182 = .ok (.getfield 800, 3) := by decide +kernel
theorem dX13_printPacked_185 : decode cX13_printPacked 185 = .ok (.if_icmp .ge 19, 3) := by decide +kernel
theorem dX13_printPacked_188 : decode cX13_printPacked 188 = .ok (.aload_n 0, 1) := by decide +kernel
theorem dX13_printPacked_189 : decode cX13_printPacked 189 = .ok (.aload_n 0, 1) := by decide +kernel
theorem dX13_printPacked_190 : decode cX13_printPacked 190 = .ok (.getfield 228, 3) := by decide +kernel
theorem dX13_printPacked_193 : decode cX13_printPacked 193 = .ok (.iload_n 2, 1) := by decide +kernel
theorem dX13_printPacked_194 : decode cX13_printPacked 194 = .ok (.iaload, 1) := by decide +kernel
theorem dX13_printPacked_195 : decode cX13_printPacked 195 = .ok (.invokevirtual 803, 3) := by decide +kernel
theorem dX13_printPacked_198 : decode cX13_printPacked 198 = .ok (.iinc 2 1, 3) := by decide +kernel
theorem dX13_printPacked_201 : decode cX13_printPacked 201 = .ok (.goto (-21), 3) := by decide +kernel
theorem dX13_printPacked_204 : decode cX13_printPacked 204 = .ok (.aload_n 0, 1) := by decide +kernel
theorem dX13_printPacked_205 : decode cX13_printPacked 205 = .ok (.bipush 32, 2) := by decide +kernel
theorem dX13_printPacked_207 : decode cX13_printPacked 207 = .ok (.invokevirtual 763, 3) := by decide +kernel
theorem dX13_printPacked_210 : decode cX13_printPacked 210 = .ok (.aload_n 0, 1) := by decide +kernel
theorem dX13_printPacked_211 : decode cX13_printPacked 211 = .ok (.bipush 41, 2) := by decide +kernel
theorem dX13_printPacked_213 : decode cX13_printPacked 213 = .ok (.invokevirtual 763, 3) := by decide +kernel
theorem dX13_printPacked_216 : decode cX13_printPacked 216 = .ok (.aload_n 0, 1) := by decide +kernel
theorem dX13_printPacked_217 : decode cX13_printPacked 217 = .ok (.bipush 32, 2) := by decide +kernel
theorem dX13_printPacked_219 : decode cX13_printPacked 219 = .ok (.invokevirtual 763, 3) := by decide +kernel
theorem dX13_printPacked_222 : decode cX13_printPacked 222 = .ok (.iconst 0, 1) := by decide +kernel
theorem dX13_printPacked_223 : decode cX13_printPacked 223 = .ok (.istore_n 2, 1) := by decide +kernel
theorem dX13_printPacked_224 : decode cX13_printPacked 224 = .ok (.iconst 0, 1) := by decide +kernel
theorem dX13_printPacked_225 : decode cX13_printPacked 225 = .ok (.istore_n 3, 1) := by decide +kernel
theorem dX13_printPacked_226 : decode cX13_printPacked 226 = .ok (.iload_n 3, 1) := by decide +kernel
theorem dX13_printPacked_227 : decode cX13_printPacked 227 = .ok (.aload_n 0, 1) := by decide +kernel
theorem dX13_printPacked_228 : decode cX13_printPacked 228 = .ok (.getfield 788, 3) := by decide +kernel
theorem dX13_printPacked_231 : decode cX13_printPacked 231 = .ok (.if_icmp .ge 103, 3) := by decide +kernel
theorem dX13_printPacked_234 : decode cX13_printPacked 234 = .ok (.aload_n 0, 1) := by decide +kernel
theorem dX13_printPacked_235 : decode cX13_printPacked 235 = .ok (.getfield 238, 3) := by decide +kernel
theorem dX13_printPacked_238 : decode cX13_printPacked 238 = .ok (.iload_n 3, 1) := by decide +kernel
theorem dX13_printPacked_239 : decode cX13_printPacked 239 = .ok (.iaload, 1) := by decide +kernel
theorem dX13_printPacked_240 : decode cX13_printPacked 240 = .ok (.istore 4, 2) := by decide +kernel
theorem dX13_printPacked_242 : decode cX13_printPacked 242 = .ok (.iload 4, 2) := by decide +kernel
theorem dX13_printPacked_244 : decode cX13_printPacked 244 = .ok (.ifCond .ge 19, 3) := by decide +kernel
theorem dX13_printPacked_247 : decode cX13_printPacked 247 = .ok (.aload_n 0, 1) := by decide +kernel
theorem dX13_printPacked_248 : decode cX13_printPacked 248 = .ok (.aload_n 0, 1) := by decide +kernel
theorem dX13_printPacked_249 : decode cX13_printPacked 249 = .ok (.getfield 215, 3) := by decide +kernel
theorem dX13_printPacked_252 : decode cX13_printPacked 252 = .ok (.iconst (-1), 1) := by decide +kernel
theorem dX13_printPacked_253 : decode cX13_printPacked 253 = .ok (.iload 4, 2) := by decide +kernel
theorem dX13_printPacked_255 : decode cX13_printPacked 255 = .ok (.isub, 1) := by decide +kernel
theorem dX13_printPacked_256 : decode cX13_printPacked 256 = .ok (.iaload, 1) := by decide +kernel
theorem dX13_printPacked_257 : decode cX13_printPacked 257 = .ok (.invokevirtual 806, 3) := by decide +kernel
theorem dX13_printPacked_260 : decode cX13_printPacked 260 = .ok (.goto 68, 3) := by decide +kernel
theorem dX13_printPacked_263 : decode cX13_printPacked 263 = .ok (.aload_n 0, 1) := by decide +kernel
theorem dX13_printPacked_264 : decode cX13_printPacked 264 = .ok (.aload_n 0, 1) := by decide +kernel
theorem dX13_printPacked_265 : decode cX13_printPacked 265 = .ok (.getfield 231, 3) := by decide +kernel
theorem dX13_printPacked_268 : decode cX13_printPacked 268 = .ok (.aload_n 0, 1) := by decide +kernel
theorem dX13_printPacked_269 : decode cX13_printPacked 269 = .ok (.getfield 190, 3) := by decide +kernel
theorem dX13_printPacked_272 : decode cX13_printPacked 272 = .ok (.iload 4, 2) := by decide +kernel
theorem dX13_printPacked_274 : decode cX13_printPacked 274 = .ok (.iaload, 1) := by decide +kernel
theorem dX13_printPacked_275 : decode cX13_printPacked 275 = .ok (.iaload, 1) := by decide +kernel
theorem dX13_printPacked_276 : decode cX13_printPacked 276 = .ok (.invokevirtual 806, 3) := by decide +kernel
theorem dX13_printPacked_279 : decode cX13_printPacked 279 = .ok (.aload_n 0, 1) := by decide +kernel
theorem dX13_printPacked_280 : decode cX13_printPacked 280 = .ok (.getfield 212, 3) := by decide +kernel
theorem dX13_printPacked_283 : decode cX13_printPacked 283 = .ok (.iload 4, 2) := by decide +kernel
theorem dX13_printPacked_285 : decode cX13_printPacked 285 = .ok (.iaload, 1) := by decide +kernel
theorem dX13_printPacked_286 : decode cX13_printPacked 286 = .ok (.iconst 1, 1) := by decide +kernel
theorem dX13_printPacked_287 : decode cX13_printPacked 287 = .ok (.if_icmp .le 41, 3) := by decide +kernel
theorem dX13_printPacked_290 : decode cX13_printPacked 290 = .ok (.aload_n 0, 1) := by decide +kernel
theorem dX13_printPacked_291 : decode cX13_printPacked 291 = .ok (.iload 4, 2) := by decide +kernel
theorem dX13_printPacked_293 : decode cX13_printPacked 293 = .ok (.invokevirtual 748, 3) := by decide +kernel
theorem dX13_printPacked_296 : decode cX13_printPacked 296 = .ok (.ifCond .le 32, 3) := by decide +kernel
theorem dX13_printPacked_299 : decode cX13_printPacked 299 = .ok (.iinc 2 1, 3) := by decide +kernel
theorem dX13_printPacked_302 : decode cX13_printPacked 302 = .ok (.aload_n 0, 1) := by decide +kernel
theorem dX13_printPacked_303 : decode cX13_printPacked 303 = .ok (.getfield 215, 3) := by decide +kernel
theorem dX13_printPacked_306 : decode cX13_printPacked 306 = .ok (.iload 4, 2) := by decide +kernel
theorem dX13_printPacked_308 : decode cX13_printPacked 308 = .ok (.aload_n 0, 1) := by decide +kernel
theorem dX13_printPacked_309 : decode cX13_printPacked 309 = .ok (.getfield 69, 3) := by decide +kernel
theorem dX13_printPacked_312 : decode cX13_printPacked 312 = .ok (.iload_n 1, 1) := by decide +kernel
theorem dX13_printPacked_313 : decode cX13_printPacked 313 = .ok (.iaload, 1) := by decide +kernel
theorem dX13_printPacked_314 : decode cX13_printPacked 314 = .ok (.aload_n 0, 1) := by decide +kernel
theorem dX13_printPacked_315 : decode cX13_printPacked 315 = .ok (.getfield 800, 3) := by decide +kernel
theorem dX13_printPacked_318 : decode cX13_printPacked 318 = .ok (.iadd, 1) := by decide +kernel
theorem dX13_printPacked_319 : decode cX13_printPacked 319 = .ok (.iload_n 2, 1) := by decide +kernel
theorem dX13_printPacked_320 : decode cX13_printPacked 320 = .ok (.iadd, 1) := by decide +kernel
theorem dX13_printPacked_321 : decode cX13_printPacked 321 = .ok (.iastore, 1) := by decide +kernel
theorem dX13_printPacked_322 : decode cX13_printPacked 322 = .ok (.aload_n 0, 1) := by decide +kernel
theorem dX13_printPacked_323 : decode cX13_printPacked 323 = .ok (.bipush 90, 2) := by decide +kernel
theorem dX13_printPacked_325 : decode cX13_printPacked 325 = .ok (.invokevirtual 763, 3) := by decide +kernel
theorem dX13_printPacked_328 : decode cX13_printPacked 328 = .ok (.iinc 3 1, 3) := by decide +kernel
theorem dX13_printPacked_331 : decode cX13_printPacked 331 = .ok (.goto (-105), 3) := by decide +kernel
theorem dX13_printPacked_334 : decode cX13_printPacked 334 = .ok (.aload_n 0, 1) := by decide +kernel
theorem dX13_printPacked_335 : decode cX13_printPacked 335 = .ok (.invokevirtual 778, 3) := by decide +kernel
theorem dX13_printPacked_338 : decode cX13_printPacked 338 = .ok (.ireturn, 1) := by decide +kernel
theorem dX13_printPlain_0 : decode cX13_printPlain 0 = .ok (.aload_n 0, 1) := by decide +kernel
theorem dX13_printPlain_1 : decode cX13_printPlain 1 = .ok (.iload_n 1, 1) := by decide +kernel
theorem dX13_printPlain_2 : decode cX13_printPlain 2 = .ok (.invokevirtual 755, 3) := by decide +kernel
theorem dX13_printPlain_5 : decode cX13_printPlain 5 = .ok (.aload_n 0, 1) := by decide +kernel
theorem dX13_printPlain_6 : decode cX13_printPlain 6 = .ok (.getfield 200, 3) := by decide +kernel
theorem dX13_printPlain_9 : decode cX13_printPlain 9 = .ok (.aload_n 0, 1) := by decide +kernel
theorem dX13_printPlain_10 : decode cX13_printPlain 10 = .ok (.getfield 730, 3) := by decide +kernel
theorem dX13_printPlain_13 : decode cX13_printPlain 13 = .ok (.iconst 1, 1) := by decide +kernel
theorem dX13_printPlain_14 : decode cX13_printPlain 14 = .ok (.isub, 1) := by decide +kernel
theorem dX13_printPlain_15 : decode cX13_printPlain 15 = .ok (.laload, 1) := by decide +kernel
theorem dX13_printPlain_16 : decode cX13_printPlain 16 = .ok (.ldc2_w 809, 3) := by decide +kernel
theorem dX13_printPlain_19 : decode cX13_printPlain 19 = .ok (.lcmp, 1) := by decide +kernel
theorem dX13_printPlain_20 : decode cX13_printPlain 20 = .ok (.ifCond .le 6, 3) := by decide +kernel
theorem dX13_printPlain_23 : decode cX13_printPlain 23 = .ok (.bipush (-2), 2) := by decide +kernel
theorem dX13_printPlain_25 : decode cX13_printPlain 25 = .ok (.ireturn, 1) := by decide +kernel
theorem dX13_printPlain_26 : decode cX13_printPlain 26 = .ok (.aload_n 0, 1) := by decide +kernel
theorem dX13_printPlain_27 : decode cX13_printPlain 27 = .ok (.iconst 0, 1) := by decide +kernel
theorem dX13_printPlain_28 : decode cX13_printPlain 28 = .ok (.putfield 785, 3) := by decide +kernel
theorem dX13_printPlain_31 : decode cX13_printPlain 31 = .ok (.aload_n 0, 1) := by decide +kernel
theorem dX13_printPlain_32 : decode cX13_printPlain 32 = .ok (.aload_n 0, 1) := by decide +kernel
theorem dX13_printPlain_33 : decode cX13_printPlain 33 = .ok (.getfield 730, 3) := by decide +kernel
theorem dX13_printPlain_36 : decode cX13_printPlain 36 = .ok (.iconst 1, 1) := by decide +kernel
theorem dX13_printPlain_37 : decode cX13_printPlain 37 = .ok (.isub, 1) := by decide +kernel
theorem dX13_printPlain_38 : decode cX13_printPlain 38 = .ok (.invokevirtual 791, 3) := by decide +kernel
theorem dX13_printPlain_41 : decode cX13_printPlain 41 = .ok (.aload_n 0, 1) := by decide +kernel
theorem dX13_printPlain_42 : decode cX13_printPlain 42 = .ok (.getfield 785, 3) := by decide +kernel
theorem dX13_printPlain_45 : decode cX13_printPlain 45 = .ok (.ifCond .le 94, 3) := by decide +kernel
theorem dX13_printPlain_48 : decode cX13_printPlain 48 = .ok (.aload_n 0, 1) := by decide +kernel
theorem dX13_printPlain_49 : decode cX13_printPlain 49 = .ok (.getfield 222, 3) := by decide +kernel
theorem dX13_printPlain_52 : decode cX13_printPlain 52 = .ok (.aload_n 0, 1) := by decide +kernel
theorem dX13_printPlain_53 : decode cX13_printPlain 53 = .ok (.getfield 785, 3) := by decide +kernel
theorem dX13_printPlain_56 : decode cX13_printPlain 56 = .ok (.iconst 1, 1) := by decide +kernel
theorem dX13_printPlain_57 : decode cX13_printPlain 57 = .ok (.isub, 1) := by decide +kernel
theorem dX13_printPlain_58 : decode cX13_printPlain 58 = .ok (.iaload, 1) := by decide +kernel
theorem dX13_printPlain_59 : decode cX13_printPlain 59 = .ok (.istore_n 2, 1) := by decide +kernel
theorem dX13_printPlain_60 : decode cX13_printPlain 60 = .ok (.aload_n 0, 1) := by decide +kernel
theorem dX13_printPlain_61 : decode cX13_printPlain 61 = .ok (.getfield 225, 3) := by decide +kernel
theorem dX13_printPlain_64 : decode cX13_printPlain 64 = .ok (.aload_n 0, 1) := by decide +kernel
theorem dX13_printPlain_65 : decode cX13_printPlain 65 = .ok (.getfield 785, 3) := by decide +kernel
theorem dX13_printPlain_68 : decode cX13_printPlain 68 = .ok (.iconst 1, 1) := by decide +kernel
theorem dX13_printPlain_69 : decode cX13_printPlain 69 = .ok (.isub, 1) := by decide +kernel
theorem dX13_printPlain_70 : decode cX13_printPlain 70 = .ok (.iaload, 1) := by decide +kernel
theorem dX13_printPlain_71 : decode cX13_printPlain 71 = .ok (.istore_n 3, 1) := by decide +kernel
theorem dX13_printPlain_72 : decode cX13_printPlain 72 = .ok (.iload_n 3, 1) := by decide +kernel
theorem dX13_printPlain_73 : decode cX13_printPlain 73 = .ok (.aload_n 0, 1) := by decide +kernel
theorem dX13_printPlain_74 : decode cX13_printPlain 74 = .ok (.iload_n 2, 1) := by decide +kernel
theorem dX13_printPlain_75 : decode cX13_printPlain 75 = .ok (.invokevirtual 748, 3) := by decide +kernel
theorem dX13_printPlain_78 : decode cX13_printPlain 78 = .ok (.if_icmp .ne 26, 3) := by decide +kernel
theorem dX13_printPlain_81 : decode cX13_printPlain 81 = .ok (.aload_n 0, 1) := by decide +kernel
theorem dX13_printPlain_82 : decode cX13_printPlain 82 = .ok (.dup, 1) := by decide +kernel
theorem dX13_printPlain_83 : decode cX13_printPlain 83 = .ok (.getfield 785, 3) := by decide +kernel
theorem dX13_printPlain_86 : decode cX13_printPlain 86 = .ok (.iconst 1, 1) := by decide +kernel
theorem dX13_printPlain_87 : decode cX13_printPlain 87 = .ok (.isub, 1) := by decide +kernel
theorem dX13_printPlain_88 : decode cX13_printPlain 88 = .ok (.putfield 785, 3) := by decide +kernel
theorem dX13_printPlain_91 : decode cX13_printPlain 91 = .ok (.aload_n 0, 1) := by decide +kernel
theorem dX13_printPlain_92 : decode cX13_printPlain 92 = .ok (.aload_n 0, 1) := by decide +kernel
theorem dX13_printPlain_93 : decode cX13_printPlain 93 = .ok (.getfield 190, 3) := by decide +kernel
theorem dX13_printPlain_96 : decode cX13_printPlain 96 = .ok (.iload_n 2, 1) := by decide +kernel
theorem dX13_printPlain_97 : decode cX13_printPlain 97 = .ok (.iaload, 1) := by decide +kernel
theorem dX13_printPlain_98 : decode cX13_printPlain 98 = .ok (.invokevirtual 803, 3) := by decide +kernel
theorem dX13_printPlain_101 : decode cX13_printPlain 101 = .ok (.goto 35, 3) := by decide +kernel
theorem dX13_printPlain_104 : decode cX13_printPlain 104 = .ok (.aload_n 0, 1) := by decide +kernel
theorem dX13_printPlain_105 : decode cX13_printPlain 105 = .ok (.getfield 225, 3) := by decide +kernel
theorem dX13_printPlain_108 : decode cX13_printPlain 108 = .ok (.aload_n 0, 1) := by decide +kernel
theorem dX13_printPlain_109 : decode cX13_printPlain 109 = .ok (.getfield 785, 3) := by decide +kernel
theorem dX13_printPlain_112 : decode cX13_printPlain 112 = .ok (.iconst 1, 1) := by decide +kernel
theorem dX13_printPlain_113 : decode cX13_printPlain 113 = .ok (.isub, 1) := by decide +kernel
theorem dX13_printPlain_114 : decode cX13_printPlain 114 = .ok (.dup2, 1) := by decide +kernel
theorem dX13_printPlain_115 : decode cX13_printPlain 115 = .ok (.iaload, 1) := by decide +kernel
theorem dX13_printPlain_116 : decode cX13_printPlain 116 = .ok (.iconst 1, 1) := by decide +kernel
theorem dX13_printPlain_117 : decode cX13_printPlain 117 = .ok (.iadd, 1) := by decide +kernel
theorem dX13_printPlain_118 : decode cX13_printPlain 118 = .ok (.iastore, 1) := by decide +kernel
theorem dX13_printPlain_119 : decode cX13_printPlain 119 = .ok (.aload_n 0, 1) := by decide +kernel
theorem dX13_printPlain_120 : decode cX13_printPlain 120 = .ok (.aload_n 0, 1) := by decide +kernel
theorem dX13_printPlain_121 : decode cX13_printPlain 121 = .ok (.getfield 197, 3) := by decide +kernel
theorem dX13_printPlain_124 : decode cX13_printPlain 124 = .ok (.aload_n 0, 1) := by decide +kernel
theorem dX13_printPlain_125 : decode cX13_printPlain 125 = .ok (.getfield 193, 3) := by decide +kernel
theorem dX13_printPlain_128 : decode cX13_printPlain 128 = .ok (.iload_n 2, 1) := by decide +kernel
theorem dX13_printPlain_129 : decode cX13_printPlain 129 = .ok (.iaload, 1) := by decide +kernel
theorem dX13_printPlain_130 : decode cX13_printPlain 130 = .ok (.iload_n 3, 1) := by decide +kernel
theorem dX13_printPlain_131 : decode cX13_printPlain 131 = .ok (.iadd, 1) := by decide +kernel
theorem dX13_printPlain_132 : decode cX13_printPlain 132 = .ok (.iaload, 1) := by decide +kernel
theorem dX13_printPlain_133 : decode cX13_printPlain 133 = .ok (.invokevirtual 791, 3) := by decide +kernel
theorem dX13_printPlain_136 : decode cX13_printPlain 136 = .ok (.goto (-95), 3) := by decide +kernel
theorem dX13_printPlain_139 : decode cX13_printPlain 139 = .ok (.aload_n 0, 1) := by decide +kernel
theorem dX13_printPlain_140 : decode cX13_printPlain 140 = .ok (.invokevirtual 778, 3) := by decide +kernel
theorem dX13_printPlain_143 : decode cX13_printPlain 143 = .ok (.ireturn, 1) := by decide +kernel
theorem dX13_isSort_0 : decode cX13_isSort 0 = .ok (.iload_n 1, 1) := by decide +kernel
theorem dX13_isSort_1 : decode cX13_isSort 1 = .ok (.iconst (-1), 1) := by decide +kernel
theorem dX13_isSort_2 : decode cX13_isSort 2 = .ok (.if_icmp .eq 24, 3) := by decide +kernel
theorem dX13_isSort_5 : decode cX13_isSort 5 = .ok (.aload_n 0, 1) := by decide +kernel
theorem dX13_isSort_6 : decode cX13_isSort 6 = .ok (.getfield 35, 3) := by decide +kernel
theorem dX13_isSort_9 : decode cX13_isSort 9 = .ok (.iload_n 1, 1) := by decide +kernel
theorem dX13_isSort_10 : decode cX13_isSort 10 = .ok (.baload, 1) := by decide +kernel
theorem dX13_isSort_11 : decode cX13_isSort 11 = .ok (.ifCond .ne 15, 3) := by decide +kernel
theorem dX13_isSort_14 : decode cX13_isSort 14 = .ok (.iload_n 1, 1) := by decide +kernel
theorem dX13_isSort_15 : decode cX13_isSort 15 = .ok (.aload_n 0, 1) := by decide +kernel
theorem dX13_isSort_16 : decode cX13_isSort 16 = .ok (.getfield 373, 3) := by decide +kernel
theorem dX13_isSort_19 : decode cX13_isSort 19 = .ok (.if_icmp .eq 7, 3) := by decide +kernel
theorem dX13_isSort_22 : decode cX13_isSort 22 = .ok (.iconst 1, 1) := by decide +kernel
theorem dX13_isSort_23 : decode cX13_isSort 23 = .ok (.goto 4, 3) := by decide +kernel
theorem dX13_isSort_26 : decode cX13_isSort 26 = .ok (.iconst 0, 1) := by decide +kernel
theorem dX13_isSort_27 : decode cX13_isSort 27 = .ok (.ireturn, 1) := by decide +kernel
theorem dX13_isRule_0 : decode cX13_isRule 0 = .ok (.aload_n 0, 1) := by decide +kernel
theorem dX13_isRule_1 : decode cX13_isRule 1 = .ok (.getfield 51, 3) := by decide +kernel
theorem dX13_isRule_4 : decode cX13_isRule 4 = .ok (.iload_n 1, 1) := by decide +kernel
theorem dX13_isRule_5 : decode cX13_isRule 5 = .ok (.iaload, 1) := by decide +kernel
theorem dX13_isRule_6 : decode cX13_isRule 6 = .ok (.iconst 2, 1) := by decide +kernel
theorem dX13_isRule_7 : decode cX13_isRule 7 = .ok (.if_icmp .ne 31, 3) := by decide +kernel
theorem dX13_isRule_10 : decode cX13_isRule 10 = .ok (.aload_n 0, 1) := by decide +kernel
theorem dX13_isRule_11 : decode cX13_isRule 11 = .ok (.getfield 57, 3) := by decide +kernel
theorem dX13_isRule_14 : decode cX13_isRule 14 = .ok (.iload_n 1, 1) := by decide +kernel
theorem dX13_isRule_15 : decode cX13_isRule 15 = .ok (.iaload, 1) := by decide +kernel
theorem dX13_isRule_16 : decode cX13_isRule 16 = .ok (.iconst 2, 1) := by decide +kernel
theorem dX13_isRule_17 : decode cX13_isRule 17 = .ok (.if_icmp .lt 21, 3) := by decide +kernel
theorem dX13_isRule_20 : decode cX13_isRule 20 = .ok (.aload_n 0, 1) := by decide +kernel
theorem dX13_isRule_21 : decode cX13_isRule 21 = .ok (.aload_n 0, 1) := by decide +kernel
theorem dX13_isRule_22 : decode cX13_isRule 22 = .ok (.getfield 60, 3) := by decide +kernel
theorem dX13_isRule_25 : decode cX13_isRule 25 = .ok (.aload_n 0, 1) := by decide +kernel
theorem dX13_isRule_26 : decode cX13_isRule 26 = .ok (.getfield 54, 3) := by decide +kernel
theorem dX13_isRule_29 : decode cX13_isRule 29 = .ok (.iload_n 1, 1) := by decide +kernel
theorem dX13_isRule_30 : decode cX13_isRule 30 = .ok (.iaload, 1) := by decide +kernel
theorem dX13_isRule_31 : decode cX13_isRule 31 = .ok (.iaload, 1) := by decide +kernel
theorem dX13_isRule_32 : decode cX13_isRule 32 = .ok (.invokevirtual 811, 3) := by decide +kernel
theorem dX13_isRule_35 : decode cX13_isRule 35 = .ok (.ifCond .ne 5, 3) := by decide +kernel
theorem dX13_isRule_38 : decode cX13_isRule 38 = .ok (.iconst 0, 1) := by decide +kernel
theorem dX13_isRule_39 : decode cX13_isRule 39 = .ok (.ireturn, 1) := by decide +kernel
theorem dX13_isRule_40 : decode cX13_isRule 40 = .ok (.iconst 1, 1) := by decide +kernel
theorem dX13_isRule_41 : decode cX13_isRule 41 = .ok (.istore_n 2, 1) := by decide +kernel
theorem dX13_isRule_42 : decode cX13_isRule 42 = .ok (.aload_n 0, 1) := by decide +kernel
theorem dX13_isRule_43 : decode cX13_isRule 43 = .ok (.getfield 66, 3) := by decide +kernel
theorem dX13_isRule_46 : decode cX13_isRule 46 = .ok (.iload_n 1, 1) := by decide +kernel
theorem dX13_isRule_47 : decode cX13_isRule 47 = .ok (.iaload, 1) := by decide +kernel
theorem dX13_isRule_48 : decode cX13_isRule 48 = .ok (.istore_n 3, 1) := by decide +kernel
theorem dX13_isRule_49 : decode cX13_isRule 49 = .ok (.iload_n 3, 1) := by decide +kernel
theorem dX13_isRule_50 : decode cX13_isRule 50 = .ok (.aload_n 0, 1) := by decide +kernel
theorem dX13_isRule_51 : decode cX13_isRule 51 = .ok (.getfield 66, 3) := by decide +kernel
theorem dX13_isRule_54 : decode cX13_isRule 54 = .ok (.iload_n 1, 1) := by decide +kernel
theorem dX13_isRule_55 : decode cX13_isRule 55 = .ok (.iaload, 1) := by decide +kernel
theorem dX13_isRule_56 : decode cX13_isRule 56 = .ok (.aload_n 0, 1) := by decide +kernel
theorem dX13_isRule_57 : decode cX13_isRule 57 = .ok (.getfield 69, 3) := by decide +kernel
theorem dX13_isRule_60 : decode cX13_isRule 60 = .ok (.iload_n 1, 1) := by decide +kernel
theorem dX13_isRule_61 : decode cX13_isRule 61 = .ok (.iaload, 1) := by decide +kernel
theorem dX13_isRule_62 : decode cX13_isRule 62 = .ok (.iadd, 1) := by decide +kernel
theorem dX13_isRule_63 : decode cX13_isRule 63 = .ok (.if_icmp .ge 56, 3) := by decide +kernel
theorem dX13_isRule_66 : decode cX13_isRule 66 = .ok (.iload_n 2, 1) := by decide +kernel
theorem dX13_isRule_67 : decode cX13_isRule 67 = .ok (.ifCond .eq 44, 3) := by decide +kernel
theorem dX13_isRule_70 : decode cX13_isRule 70 = .ok (.aload_n 0, 1) := by decide +kernel
theorem dX13_isRule_71 : decode cX13_isRule 71 = .ok (.getfield 51, 3) := by decide +kernel
theorem dX13_isRule_74 : decode cX13_isRule 74 = .ok (.aload_n 0, 1) := by decide +kernel
theorem dX13_isRule_75 : decode cX13_isRule 75 = .ok (.getfield 73, 3) := by decide +kernel
theorem dX13_isRule_78 : decode cX13_isRule 78 = .ok (.iload_n 3, 1) := by decide +kernel
theorem dX13_isRule_79 : decode cX13_isRule 79 = .ok (.iaload, 1) := by decide +kernel
theorem dX13_isRule_80 : decode cX13_isRule 80 = .ok (.iaload, 1) := by decide +kernel
theorem dX13_isRule_81 : decode cX13_isRule 81 = .ok (.ifCond .ne 30, 3) := by decide +kernel
theorem dX13_isRule_84 : decode cX13_isRule 84 = .ok (.aload_n 0, 1) := by decide +kernel
theorem dX13_isRule_85 : decode cX13_isRule 85 = .ok (.getfield 60, 3) := by decide +kernel
theorem dX13_isRule_88 : decode cX13_isRule 88 = .ok (.aload_n 0, 1) := by decide +kernel
theorem dX13_isRule_89 : decode cX13_isRule 89 = .ok (.getfield 54, 3) := by decide +kernel
theorem dX13_isRule_92 : decode cX13_isRule 92 = .ok (.aload_n 0, 1) := by decide +kernel
theorem dX13_isRule_93 : decode cX13_isRule 93 = .ok (.getfield 73, 3) := by decide +kernel
theorem dX13_isRule_96 : decode cX13_isRule 96 = .ok (.iload_n 3, 1) := by decide +kernel
theorem dX13_isRule_97 : decode cX13_isRule 97 = .ok (.iaload, 1) := by decide +kernel
theorem dX13_isRule_98 : decode cX13_isRule 98 = .ok (.iaload, 1) := by decide +kernel
theorem dX13_isRule_99 : decode cX13_isRule 99 = .ok (.iaload, 1) := by decide +kernel
theorem dX13_isRule_100 : decode cX13_isRule 100 = .ok (.aload_n 0, 1) := by decide +kernel
theorem dX13_isRule_101 : decode cX13_isRule 101 = .ok (.getfield 373, 3) := by decide +kernel
theorem dX13_isRule_104 : decode cX13_isRule 104 = .ok (.if_icmp .eq 7, 3) := by decide +kernel
theorem dX13_isRule_107 : decode cX13_isRule 107 = .ok (.iconst 1, 1) := by decide +kernel
theorem dX13_isRule_108 : decode cX13_isRule 108 = .ok (.goto 4, 3) := by decide +kernel
theorem dX13_isRule_111 : decode cX13_isRule 111 = .ok (.iconst 0, 1) := by decide +kernel
theorem dX13_isRule_112 : decode cX13_isRule 112 = .ok (.istore_n 2, 1) := by decide +kernel
theorem dX13_isRule_113 : decode cX13_isRule 113 = .ok (.iinc 3 1, 3) := by decide +kernel
theorem dX13_isRule_116 : decode cX13_isRule 116 = .ok (.goto (-67), 3) := by decide +kernel
theorem dX13_isRule_119 : decode cX13_isRule 119 = .ok (.aload_n 0, 1) := by decide +kernel
theorem dX13_isRule_120 : decode cX13_isRule 120 = .ok (.getfield 54, 3) := by decide +kernel
theorem dX13_isRule_123 : decode cX13_isRule 123 = .ok (.iload_n 1, 1) := by decide +kernel
theorem dX13_isRule_124 : decode cX13_isRule 124 = .ok (.iaload, 1) := by decide +kernel
theorem dX13_isRule_125 : decode cX13_isRule 125 = .ok (.iconst 1, 1) := by decide +kernel
theorem dX13_isRule_126 : decode cX13_isRule 126 = .ok (.iadd, 1) := by decide +kernel
theorem dX13_isRule_127 : decode cX13_isRule 127 = .ok (.istore_n 3, 1) := by decide +kernel
theorem dX13_isRule_128 : decode cX13_isRule 128 = .ok (.iload_n 3, 1) := by decide +kernel
theorem dX13_isRule_129 : decode cX13_isRule 129 = .ok (.aload_n 0, 1) := by decide +kernel
theorem dX13_isRule_130 : decode cX13_isRule 130 = .ok (.getfield 54, 3) := by decide +kernel
theorem dX13_isRule_133 : decode cX13_isRule 133 = .ok (.iload_n 1, 1) := by decide +kernel
theorem dX13_isRule_134 : decode cX13_isRule 134 = .ok (.iaload, 1) := by decide +kernel
theorem dX13_isRule_135 : decode cX13_isRule 135 = .ok (.aload_n 0, 1) := by decide +kernel
theorem dX13_isRule_136 : decode cX13_isRule 136 = .ok (.getfield 57, 3) := by decide +kernel
theorem dX13_isRule_139 : decode cX13_isRule 139 = .ok (.iload_n 1, 1) := by decide +kernel
theorem dX13_isRule_140 : decode cX13_isRule 140 = .ok (.iaload, 1) := by decide +kernel
theorem dX13_isRule_141 : decode cX13_isRule 141 = .ok (.iadd, 1) := by decide +kernel
theorem dX13_isRule_142 : decode cX13_isRule 142 = .ok (.if_icmp .ge 75, 3) := by decide +kernel
theorem dX13_isRule_145 : decode cX13_isRule 145 = .ok (.iload_n 2, 1) := by decide +kernel
theorem dX13_isRule_146 : decode cX13_isRule 146 = .ok (.ifCond .eq 71, 3) := by decide +kernel
theorem dX13_isRule_149 : decode cX13_isRule 149 = .ok (.aload_n 0, 1) := by decide +kernel
theorem dX13_isRule_150 : decode cX13_isRule 150 = .ok (.getfield 54, 3) := by decide +kernel
theorem dX13_isRule_153 : decode cX13_isRule 153 = .ok (.iload_n 1, 1) := by decide +kernel
theorem dX13_isRule_154 : decode cX13_isRule 154 = .ok (.iaload, 1) := by decide +kernel
theorem dX13_isRule_155 : decode cX13_isRule 155 = .ok (.iconst 1, 1) := by decide +kernel
theorem dX13_isRule_156 : decode cX13_isRule 156 = .ok (.iadd, 1) := by decide +kernel
theorem dX13_isRule_157 : decode cX13_isRule 157 = .ok (.istore 4, 2) := by decide +kernel
theorem dX13_isRule_159 : decode cX13_isRule 159 = .ok (.iload 4, 2) := by decide +kernel
theorem dX13_isRule_161 : decode cX13_isRule 161 = .ok (.iload_n 3, 1) := by decide +kernel
theorem dX13_isRule_162 : decode cX13_isRule 162 = .ok (.if_icmp .ge 49, 3) := by decide +kernel
theorem dX13_isRule_165 : decode cX13_isRule 165 = .ok (.iload_n 2, 1) := by decide +kernel
theorem dX13_isRule_166 : decode cX13_isRule 166 = .ok (.ifCond .eq 45, 3) := by decide +kernel
theorem dX13_isRule_169 : decode cX13_isRule 169 = .ok (.aload_n 0, 1) := by decide +kernel
theorem dX13_isRule_170 : decode cX13_isRule 170 = .ok (.getfield 35, 3) := by decide +kernel
theorem dX13_isRule_173 : decode cX13_isRule 173 = .ok (.aload_n 0, 1) := by decide +kernel
theorem dX13_isRule_174 : decode cX13_isRule 174 = .ok (.getfield 60, 3) := by decide +kernel
theorem dX13_isRule_177 : decode cX13_isRule 177 = .ok (.iload_n 3, 1) := by decide +kernel
theorem dX13_isRule_178 : decode cX13_isRule 178 = .ok (.iaload, 1) := by decide +kernel
theorem dX13_isRule_179 : decode cX13_isRule 179 = .ok (.baload, 1) := by decide +kernel
theorem dX13_isRule_180 : decode cX13_isRule 180 = .ok (.ifCond .eq 19, 3) := by decide +kernel
theorem dX13_isRule_183 : decode cX13_isRule 183 = .ok (.aload_n 0, 1) := by decide +kernel
theorem dX13_isRule_184 : decode cX13_isRule 184 = .ok (.getfield 60, 3) := by decide +kernel
theorem dX13_isRule_187 : decode cX13_isRule 187 = .ok (.iload 4, 2) := by decide +kernel
theorem dX13_isRule_189 : decode cX13_isRule 189 = .ok (.iaload, 1) := by decide +kernel
theorem dX13_isRule_190 : decode cX13_isRule 190 = .ok (.aload_n 0, 1) := by decide +kernel
theorem dX13_isRule_191 : decode cX13_isRule 191 = .ok (.getfield 60, 3) := by decide +kernel
theorem dX13_isRule_194 : decode cX13_isRule 194 = .ok (.iload_n 3, 1) := by decide +kernel
theorem dX13_isRule_195 : decode cX13_isRule 195 = .ok (.iaload, 1) := by decide +kernel
theorem dX13_isRule_196 : decode cX13_isRule 196 = .ok (.if_icmp .eq 7, 3) := by decide +kernel
theorem dX13_isRule_199 : decode cX13_isRule 199 = .ok (.iconst 1, 1) := by decide +kernel
theorem dX13_isRule_200 : decode cX13_isRule 200 = .ok (.goto 4, 3) := by decide +kernel
theorem dX13_isRule_203 : decode cX13_isRule 203 = .ok (.iconst 0, 1) := by decide +kernel
theorem dX13_isRule_204 : decode cX13_isRule 204 = .ok (.istore_n 2, 1) := by decide +kernel
theorem dX13_isRule_205 : decode cX13_isRule 205 = .ok (.iinc 4 1, 3) := by decide +kernel
theorem dX13_isRule_208 : decode cX13_isRule 208 = .ok (.goto (-49), 3) := by decide +kernel
theorem dX13_isRule_211 : decode cX13_isRule 211 = .ok (.iinc 3 1, 3) := by decide +kernel
theorem dX13_isRule_214 : decode cX13_isRule 214 = .ok (.goto (-86), 3) := by decide +kernel
theorem dX13_isRule_217 : decode cX13_isRule 217 = .ok (.iload_n 2, 1) := by decide +kernel
theorem dX13_isRule_218 : decode cX13_isRule 218 = .ok (.ireturn, 1) := by decide +kernel
theorem dX13_findSorts_0 : decode cX13_findSorts 0 = .ok (.aload_n 0, 1) := by decide +kernel
theorem dX13_findSorts_1 : decode cX13_findSorts 1 = .ok (.iconst 0, 1) := by decide +kernel
theorem dX13_findSorts_2 : decode cX13_findSorts 2 = .ok (.putfield 814, 3) := by decide +kernel
theorem dX13_findSorts_5 : decode cX13_findSorts 5 = .ok (.iconst 0, 1) := by decide +kernel
theorem dX13_findSorts_6 : decode cX13_findSorts 6 = .ok (.istore_n 1, 1) := by decide +kernel
theorem dX13_findSorts_7 : decode cX13_findSorts 7 = .ok (.iload_n 1, 1) := by decide +kernel
theorem dX13_findSorts_8 : decode cX13_findSorts 8 = .ok (.aload_n 0, 1) := by decide +kernel
theorem dX13_findSorts_9 : decode cX13_findSorts 9 = .ok (.getfield 471, 3) := by decide +kernel
theorem dX13_findSorts_12 : decode cX13_findSorts 12 = .ok (.if_icmp .ge 53, 3) := by decide +kernel
theorem dX13_findSorts_15 : decode cX13_findSorts 15 = .ok (.aload_n 0, 1) := by decide +kernel
theorem dX13_findSorts_16 : decode cX13_findSorts 16 = .ok (.getfield 241, 3) := by decide +kernel
theorem dX13_findSorts_19 : decode cX13_findSorts 19 = .ok (.iload_n 1, 1) := by decide +kernel
theorem dX13_findSorts_20 : decode cX13_findSorts 20 = .ok (.iconst (-1), 1) := by decide +kernel
theorem dX13_findSorts_21 : decode cX13_findSorts 21 = .ok (.iastore, 1) := by decide +kernel
theorem dX13_findSorts_22 : decode cX13_findSorts 22 = .ok (.aload_n 0, 1) := by decide +kernel
theorem dX13_findSorts_23 : decode cX13_findSorts 23 = .ok (.getfield 48, 3) := by decide +kernel
theorem dX13_findSorts_26 : decode cX13_findSorts 26 = .ok (.iload_n 1, 1) := by decide +kernel
theorem dX13_findSorts_27 : decode cX13_findSorts 27 = .ok (.baload, 1) := by decide +kernel
theorem dX13_findSorts_28 : decode cX13_findSorts 28 = .ok (.ifCond .eq 31, 3) := by decide +kernel
theorem dX13_findSorts_31 : decode cX13_findSorts 31 = .ok (.aload_n 0, 1) := by decide +kernel
theorem dX13_findSorts_32 : decode cX13_findSorts 32 = .ok (.iload_n 1, 1) := by decide +kernel
theorem dX13_findSorts_33 : decode cX13_findSorts 33 = .ok (.invokevirtual 811, 3) := by decide +kernel
theorem dX13_findSorts_36 : decode cX13_findSorts 36 = .ok (.ifCond .eq 23, 3) := by decide +kernel
theorem dX13_findSorts_39 : decode cX13_findSorts 39 = .ok (.aload_n 0, 1) := by decide +kernel
theorem dX13_findSorts_40 : decode cX13_findSorts 40 = .ok (.getfield 241, 3) := by decide +kernel
theorem dX13_findSorts_43 : decode cX13_findSorts 43 = .ok (.iload_n 1, 1) := by decide +kernel
theorem dX13_findSorts_44 : decode cX13_findSorts 44 = .ok (.aload_n 0, 1) := by decide +kernel
theorem dX13_findSorts_45 : decode cX13_findSorts 45 = .ok (.getfield 814, 3) := by decide +kernel
theorem dX13_findSorts_48 : decode cX13_findSorts 48 = .ok (.iastore, 1) := by decide +kernel
theorem dX13_findSorts_49 : decode cX13_findSorts 49 = .ok (.aload_n 0, 1) := by decide +kernel
theorem dX13_findSorts_50 : decode cX13_findSorts 50 = .ok (.dup, 1) := by decide +kernel
theorem dX13_findSorts_51 : decode cX13_findSorts 51 = .ok (.getfield 814, 3) := by decide +kernel
theorem dX13_findSorts_54 : decode cX13_findSorts 54 = .ok (.iconst 1, 1) := by decide +kernel
theorem dX13_findSorts_55 : decode cX13_findSorts 55 = .ok (.iadd, 1) := by decide +kernel
theorem dX13_findSorts_56 : decode cX13_findSorts 56 = .ok (.putfield 814, 3) := by decide +kernel
theorem dX13_findSorts_59 : decode cX13_findSorts 59 = .ok (.iinc 1 1, 3) := by decide +kernel
theorem dX13_findSorts_62 : decode cX13_findSorts 62 = .ok (.goto (-55), 3) := by decide +kernel
theorem dX13_findSorts_65 : decode cX13_findSorts 65 = .ok (.return_, 1) := by decide +kernel
theorem dX13_wayAt_0 : decode cX13_wayAt 0 = .ok (.iload_n 1, 1) := by decide +kernel
theorem dX13_wayAt_1 : decode cX13_wayAt 1 = .ok (.bipush 61, 2) := by decide +kernel
theorem dX13_wayAt_3 : decode cX13_wayAt 3 = .ok (.imul, 1) := by decide +kernel
theorem dX13_wayAt_4 : decode cX13_wayAt 4 = .ok (.iload_n 2, 1) := by decide +kernel
theorem dX13_wayAt_5 : decode cX13_wayAt 5 = .ok (.iadd, 1) := by decide +kernel
theorem dX13_wayAt_6 : decode cX13_wayAt 6 = .ok (.bipush 61, 2) := by decide +kernel
theorem dX13_wayAt_8 : decode cX13_wayAt 8 = .ok (.imul, 1) := by decide +kernel
theorem dX13_wayAt_9 : decode cX13_wayAt 9 = .ok (.iload_n 3, 1) := by decide +kernel
theorem dX13_wayAt_10 : decode cX13_wayAt 10 = .ok (.iadd, 1) := by decide +kernel
theorem dX13_wayAt_11 : decode cX13_wayAt 11 = .ok (.ireturn, 1) := by decide +kernel
theorem dX13_capped_0 : decode cX13_capped 0 = .ok (.iload_n 0, 1) := by decide +kernel
theorem dX13_capped_1 : decode cX13_capped 1 = .ok (.iconst 2, 1) := by decide +kernel
theorem dX13_capped_2 : decode cX13_capped 2 = .ok (.if_icmp .le 7, 3) := by decide +kernel
theorem dX13_capped_5 : decode cX13_capped 5 = .ok (.iconst 2, 1) := by decide +kernel
theorem dX13_capped_6 : decode cX13_capped 6 = .ok (.goto 4, 3) := by decide +kernel
theorem dX13_capped_9 : decode cX13_capped 9 = .ok (.iload_n 0, 1) := by decide +kernel
theorem dX13_capped_10 : decode cX13_capped 10 = .ok (.ireturn, 1) := by decide +kernel
theorem dX13_match_0 : decode cX13_match 0 = .ok (.aload_n 0, 1) := by decide +kernel
theorem dX13_match_1 : decode cX13_match 1 = .ok (.getfield 57, 3) := by decide +kernel
theorem dX13_match_4 : decode cX13_match 4 = .ok (.iload_n 1, 1) := by decide +kernel
theorem dX13_match_5 : decode cX13_match 5 = .ok (.iaload, 1) := by decide +kernel
theorem dX13_match_6 : decode cX13_match 6 = .ok (.iconst 1, 1) := by decide +kernel
theorem dX13_match_7 : decode cX13_match 7 = .ok (.isub, 1) := by decide +kernel
theorem dX13_match_8 : decode cX13_match 8 = .ok (.istore 4, 2) := by decide +kernel
theorem dX13_match_10 : decode cX13_match 10 = .ok (.aload_n 0, 1) := by decide +kernel
theorem dX13_match_11 : decode cX13_match 11 = .ok (.getfield 54, 3) := by decide +kernel
theorem dX13_match_14 : decode cX13_match 14 = .ok (.iload_n 1, 1) := by decide +kernel
theorem dX13_match_15 : decode cX13_match 15 = .ok (.iaload, 1) := by decide +kernel
theorem dX13_match_16 : decode cX13_match 16 = .ok (.iconst 1, 1) := by decide +kernel
theorem dX13_match_17 : decode cX13_match 17 = .ok (.iadd, 1) := by decide +kernel
theorem dX13_match_18 : decode cX13_match 18 = .ok (.istore 5, 2) := by decide +kernel
theorem dX13_match_20 : decode cX13_match 20 = .ok (.iload 4, 2) := by decide +kernel
theorem dX13_match_22 : decode cX13_match 22 = .ok (.iload_n 3, 1) := by decide +kernel
theorem dX13_match_23 : decode cX13_match 23 = .ok (.iload_n 2, 1) := by decide +kernel
theorem dX13_match_24 : decode cX13_match 24 = .ok (.isub, 1) := by decide +kernel
theorem dX13_match_25 : decode cX13_match 25 = .ok (.if_icmp .gt 34, 3) := by decide +kernel
theorem dX13_match_28 : decode cX13_match 28 = .ok (.aload_n 0, 1) := by decide +kernel
theorem dX13_match_29 : decode cX13_match 29 = .ok (.getfield 35, 3) := by decide +kernel
theorem dX13_match_32 : decode cX13_match 32 = .ok (.aload_n 0, 1) := by decide +kernel
theorem dX13_match_33 : decode cX13_match 33 = .ok (.getfield 60, 3) := by decide +kernel
theorem dX13_match_36 : decode cX13_match 36 = .ok (.iload 5, 2) := by decide +kernel
theorem dX13_match_38 : decode cX13_match 38 = .ok (.iaload, 1) := by decide +kernel
theorem dX13_match_39 : decode cX13_match 39 = .ok (.baload, 1) := by decide +kernel
theorem dX13_match_40 : decode cX13_match 40 = .ok (.ifCond .ne 21, 3) := by decide +kernel
theorem dX13_match_43 : decode cX13_match 43 = .ok (.aload_n 0, 1) := by decide +kernel
theorem dX13_match_44 : decode cX13_match 44 = .ok (.getfield 60, 3) := by decide +kernel
theorem dX13_match_47 : decode cX13_match 47 = .ok (.iload 5, 2) := by decide +kernel
theorem dX13_match_49 : decode cX13_match 49 = .ok (.iaload, 1) := by decide +kernel
theorem dX13_match_50 : decode cX13_match 50 = .ok (.aload_n 0, 1) := by decide +kernel
theorem dX13_match_51 : decode cX13_match 51 = .ok (.getfield 244, 3) := by decide +kernel
theorem dX13_match_54 : decode cX13_match 54 = .ok (.iload_n 2, 1) := by decide +kernel
theorem dX13_match_55 : decode cX13_match 55 = .ok (.iaload, 1) := by decide +kernel
theorem dX13_match_56 : decode cX13_match 56 = .ok (.if_icmp .eq 5, 3) := by decide +kernel
theorem dX13_match_59 : decode cX13_match 59 = .ok (.iconst 0, 1) := by decide +kernel
theorem dX13_match_60 : decode cX13_match 60 = .ok (.ireturn, 1) := by decide +kernel
theorem dX13_match_61 : decode cX13_match 61 = .ok (.aload_n 0, 1) := by decide +kernel
theorem dX13_match_62 : decode cX13_match 62 = .ok (.getfield 35, 3) := by decide +kernel
theorem dX13_match_65 : decode cX13_match 65 = .ok (.aload_n 0, 1) := by decide +kernel
theorem dX13_match_66 : decode cX13_match 66 = .ok (.getfield 60, 3) := by decide +kernel
theorem dX13_match_69 : decode cX13_match 69 = .ok (.iload 5, 2) := by decide +kernel
theorem dX13_match_71 : decode cX13_match 71 = .ok (.iload 4, 2) := by decide +kernel
theorem dX13_match_73 : decode cX13_match 73 = .ok (.iadd, 1) := by decide +kernel
theorem dX13_match_74 : decode cX13_match 74 = .ok (.iconst 1, 1) := by decide +kernel
theorem dX13_match_75 : decode cX13_match 75 = .ok (.isub, 1) := by decide +kernel
theorem dX13_match_76 : decode cX13_match 76 = .ok (.iaload, 1) := by decide +kernel
theorem dX13_match_77 : decode cX13_match 77 = .ok (.baload, 1) := by decide +kernel
theorem dX13_match_78 : decode cX13_match 78 = .ok (.ifCond .ne 28, 3) := by decide +kernel
theorem dX13_match_81 : decode cX13_match 81 = .ok (.aload_n 0, 1) := by decide +kernel
theorem dX13_match_82 : decode cX13_match 82 = .ok (.getfield 60, 3) := by decide +kernel
theorem dX13_match_85 : decode cX13_match 85 = .ok (.iload 5, 2) := by decide +kernel
theorem dX13_match_87 : decode cX13_match 87 = .ok (.iload 4, 2) := by decide +kernel
theorem dX13_match_89 : decode cX13_match 89 = .ok (.iadd, 1) := by decide +kernel
theorem dX13_match_90 : decode cX13_match 90 = .ok (.iconst 1, 1) := by decide +kernel
theorem dX13_match_91 : decode cX13_match 91 = .ok (.isub, 1) := by decide +kernel
theorem dX13_match_92 : decode cX13_match 92 = .ok (.iaload, 1) := by decide +kernel
theorem dX13_match_93 : decode cX13_match 93 = .ok (.aload_n 0, 1) := by decide +kernel
theorem dX13_match_94 : decode cX13_match 94 = .ok (.getfield 244, 3) := by decide +kernel
theorem dX13_match_97 : decode cX13_match 97 = .ok (.iload_n 3, 1) := by decide +kernel
theorem dX13_match_98 : decode cX13_match 98 = .ok (.iconst 1, 1) := by decide +kernel
theorem dX13_match_99 : decode cX13_match 99 = .ok (.isub, 1) := by decide +kernel
theorem dX13_match_100 : decode cX13_match 100 = .ok (.iaload, 1) := by decide +kernel
theorem dX13_match_101 : decode cX13_match 101 = .ok (.if_icmp .eq 5, 3) := by decide +kernel
theorem dX13_match_104 : decode cX13_match 104 = .ok (.iconst 0, 1) := by decide +kernel
theorem dX13_match_105 : decode cX13_match 105 = .ok (.ireturn, 1) := by decide +kernel
theorem dX13_match_106 : decode cX13_match 106 = .ok (.iload_n 2, 1) := by decide +kernel
theorem dX13_match_107 : decode cX13_match 107 = .ok (.istore 6, 2) := by decide +kernel
theorem dX13_match_109 : decode cX13_match 109 = .ok (.iload 6, 2) := by decide +kernel
theorem dX13_match_111 : decode cX13_match 111 = .ok (.iload_n 3, 1) := by decide +kernel
theorem dX13_match_112 : decode cX13_match 112 = .ok (.if_icmp .gt 27, 3) := by decide +kernel
theorem dX13_match_115 : decode cX13_match 115 = .ok (.aload_n 0, 1) := by decide +kernel
theorem dX13_match_116 : decode cX13_match 116 = .ok (.getfield 296, 3) := by decide +kernel
theorem dX13_match_119 : decode cX13_match 119 = .ok (.iload 6, 2) := by decide +kernel
theorem dX13_match_121 : decode cX13_match 121 = .ok (.iload 6, 2) := by decide +kernel
theorem dX13_match_123 : decode cX13_match 123 = .ok (.iload_n 2, 1) := by decide +kernel
theorem dX13_match_124 : decode cX13_match 124 = .ok (.if_icmp .ne 7, 3) := by decide +kernel
theorem dX13_match_127 : decode cX13_match 127 = .ok (.iconst 1, 1) := by decide +kernel
theorem dX13_match_128 : decode cX13_match 128 = .ok (.goto 4, 3) := by decide +kernel
theorem dX13_match_131 : decode cX13_match 131 = .ok (.iconst 0, 1) := by decide +kernel
theorem dX13_match_132 : decode cX13_match 132 = .ok (.iastore, 1) := by decide +kernel
theorem dX13_match_133 : decode cX13_match 133 = .ok (.iinc 6 1, 3) := by decide +kernel
theorem dX13_match_136 : decode cX13_match 136 = .ok (.goto (-27), 3) := by decide +kernel
theorem dX13_match_139 : decode cX13_match 139 = .ok (.iconst 1, 1) := by decide +kernel
theorem dX13_match_140 : decode cX13_match 140 = .ok (.istore 6, 2) := by decide +kernel
theorem dX13_match_142 : decode cX13_match 142 = .ok (.iload 6, 2) := by decide +kernel
theorem dX13_match_144 : decode cX13_match 144 = .ok (.iload 4, 2) := by decide +kernel
theorem dX13_match_146 : decode cX13_match 146 = .ok (.if_icmp .gt 290, 3) := by decide +kernel
theorem dX13_match_149 : decode cX13_match 149 = .ok (.aload_n 0, 1) := by decide +kernel
theorem dX13_match_150 : decode cX13_match 150 = .ok (.getfield 60, 3) := by decide +kernel
theorem dX13_match_153 : decode cX13_match 153 = .ok (.iload 5, 2) := by decide +kernel
theorem dX13_match_155 : decode cX13_match 155 = .ok (.iload 6, 2) := by decide +kernel
theorem dX13_match_157 : decode cX13_match 157 = .ok (.iadd, 1) := by decide +kernel
theorem dX13_match_158 : decode cX13_match 158 = .ok (.iconst 1, 1) := by decide +kernel
theorem dX13_match_159 : decode cX13_match 159 = .ok (.isub, 1) := by decide +kernel
theorem dX13_match_160 : decode cX13_match 160 = .ok (.iaload, 1) := by decide +kernel
theorem dX13_match_161 : decode cX13_match 161 = .ok (.istore 7, 2) := by decide +kernel
theorem dX13_match_163 : decode cX13_match 163 = .ok (.iconst 0, 1) := by decide +kernel
theorem dX13_match_164 : decode cX13_match 164 = .ok (.istore 8, 2) := by decide +kernel
theorem dX13_match_166 : decode cX13_match 166 = .ok (.iload_n 2, 1) := by decide +kernel
theorem dX13_match_167 : decode cX13_match 167 = .ok (.istore 9, 2) := by decide +kernel
theorem dX13_match_169 : decode cX13_match 169 = .ok (.iload 9, 2) := by decide +kernel
theorem dX13_match_171 : decode cX13_match 171 = .ok (.iload_n 3, 1) := by decide +kernel
theorem dX13_match_172 : decode cX13_match 172 = .ok (.if_icmp .gt 23, 3) := by decide +kernel
theorem dX13_match_175 : decode cX13_match 175 = .ok (.aload_n 0, 1) := by decide +kernel
theorem dX13_match_176 : decode cX13_match 176 = .ok (.getfield 296, 3) := by decide +kernel
theorem dX13_match_179 : decode cX13_match 179 = .ok (.bipush 61, 2) := by decide +kernel
theorem dX13_match_181 : decode cX13_match 181 = .ok (.iload 6, 2) := by decide +kernel
theorem dX13_match_183 : decode cX13_match 183 = .ok (.imul, 1) := by decide +kernel
theorem dX13_match_184 : decode cX13_match 184 = .ok (.iload 9, 2) := by decide +kernel
theorem dX13_match_186 : decode cX13_match 186 = .ok (.iadd, 1) := by decide +kernel
theorem dX13_match_187 : decode cX13_match 187 = .ok (.iconst 0, 1) := by decide +kernel
theorem dX13_match_188 : decode cX13_match 188 = .ok (.iastore, 1) := by decide +kernel
theorem dX13_match_189 : decode cX13_match 189 = .ok (.iinc 9 1, 3) := by decide +kernel
theorem dX13_match_192 : decode cX13_match 192 = .ok (.goto (-23), 3) := by decide +kernel
theorem dX13_match_195 : decode cX13_match 195 = .ok (.iload_n 2, 1) := by decide +kernel
theorem dX13_match_196 : decode cX13_match 196 = .ok (.istore 9, 2) := by decide +kernel
theorem dX13_match_198 : decode cX13_match 198 = .ok (.iload 9, 2) := by decide +kernel
theorem dX13_match_200 : decode cX13_match 200 = .ok (.iload_n 3, 1) := by decide +kernel
theorem dX13_match_201 : decode cX13_match 201 = .ok (.if_icmp .ge 222, 3) := by decide +kernel
theorem dX13_match_204 : decode cX13_match 204 = .ok (.aload_n 0, 1) := by decide +kernel
theorem dX13_match_205 : decode cX13_match 205 = .ok (.getfield 296, 3) := by decide +kernel
theorem dX13_match_208 : decode cX13_match 208 = .ok (.bipush 61, 2) := by decide +kernel
theorem dX13_match_210 : decode cX13_match 210 = .ok (.iload 6, 2) := by decide +kernel
theorem dX13_match_212 : decode cX13_match 212 = .ok (.iconst 1, 1) := by decide +kernel
theorem dX13_match_213 : decode cX13_match 213 = .ok (.isub, 1) := by decide +kernel
theorem dX13_match_214 : decode cX13_match 214 = .ok (.imul, 1) := by decide +kernel
theorem dX13_match_215 : decode cX13_match 215 = .ok (.iload 9, 2) := by decide +kernel
theorem dX13_match_217 : decode cX13_match 217 = .ok (.iadd, 1) := by decide +kernel
theorem dX13_match_218 : decode cX13_match 218 = .ok (.iaload, 1) := by decide +kernel
theorem dX13_match_219 : decode cX13_match 219 = .ok (.istore 10, 2) := by decide +kernel
theorem dX13_match_221 : decode cX13_match 221 = .ok (.iload 10, 2) := by decide +kernel
theorem dX13_match_223 : decode cX13_match 223 = .ok (.ifCond .ne 6, 3) := by decide +kernel
theorem dX13_match_226 : decode cX13_match 226 = .ok (.goto 191, 3) := by decide +kernel
theorem dX13_match_229 : decode cX13_match 229 = .ok (.aload_n 0, 1) := by decide +kernel
theorem dX13_match_230 : decode cX13_match 230 = .ok (.getfield 35, 3) := by decide +kernel
theorem dX13_match_233 : decode cX13_match 233 = .ok (.iload 7, 2) := by decide +kernel
theorem dX13_match_235 : decode cX13_match 235 = .ok (.baload, 1) := by decide +kernel
theorem dX13_match_236 : decode cX13_match 236 = .ok (.ifCond .ne 64, 3) := by decide +kernel
theorem dX13_match_239 : decode cX13_match 239 = .ok (.aload_n 0, 1) := by decide +kernel
theorem dX13_match_240 : decode cX13_match 240 = .ok (.getfield 296, 3) := by decide +kernel
theorem dX13_match_243 : decode cX13_match 243 = .ok (.bipush 61, 2) := by decide +kernel
theorem dX13_match_245 : decode cX13_match 245 = .ok (.iload 6, 2) := by decide +kernel
theorem dX13_match_247 : decode cX13_match 247 = .ok (.imul, 1) := by decide +kernel
theorem dX13_match_248 : decode cX13_match 248 = .ok (.iload 9, 2) := by decide +kernel
theorem dX13_match_250 : decode cX13_match 250 = .ok (.iadd, 1) := by decide +kernel
theorem dX13_match_251 : decode cX13_match 251 = .ok (.iconst 1, 1) := by decide +kernel
theorem dX13_match_252 : decode cX13_match 252 = .ok (.iadd, 1) := by decide +kernel
theorem dX13_match_253 : decode cX13_match 253 = .ok (.dup2, 1) := by decide +kernel
theorem dX13_match_254 : decode cX13_match 254 = .ok (.iaload, 1) := by decide +kernel
theorem dX13_match_255 : decode cX13_match 255 = .ok (.aload_n 0, 1) := by decide +kernel
theorem dX13_match_256 : decode cX13_match 256 = .ok (.getfield 244, 3) := by decide +kernel
theorem dX13_match_259 : decode cX13_match 259 = .ok (.iload 9, 2) := by decide +kernel
theorem dX13_match_261 : decode cX13_match 261 = .ok (.iaload, 1) := by decide +kernel
theorem dX13_match_262 : decode cX13_match 262 = .ok (.iload 7, 2) := by decide +kernel
theorem dX13_match_264 : decode cX13_match 264 = .ok (.if_icmp .ne 8, 3) := by decide +kernel
theorem dX13_match_267 : decode cX13_match 267 = .ok (.iload 10, 2) := by decide +kernel
theorem dX13_match_269 : decode cX13_match 269 = .ok (.goto 4, 3) := by decide +kernel
theorem dX13_match_272 : decode cX13_match 272 = .ok (.iconst 0, 1) := by decide +kernel
theorem dX13_match_273 : decode cX13_match 273 = .ok (.iadd, 1) := by decide +kernel
theorem dX13_match_274 : decode cX13_match 274 = .ok (.iastore, 1) := by decide +kernel
theorem dX13_match_275 : decode cX13_match 275 = .ok (.iload 8, 2) := by decide +kernel
theorem dX13_match_277 : decode cX13_match 277 = .ok (.aload_n 0, 1) := by decide +kernel
theorem dX13_match_278 : decode cX13_match 278 = .ok (.getfield 244, 3) := by decide +kernel
theorem dX13_match_281 : decode cX13_match 281 = .ok (.iload 9, 2) := by decide +kernel
theorem dX13_match_283 : decode cX13_match 283 = .ok (.iaload, 1) := by decide +kernel
theorem dX13_match_284 : decode cX13_match 284 = .ok (.iload 7, 2) := by decide +kernel
theorem dX13_match_286 : decode cX13_match 286 = .ok (.if_icmp .ne 7, 3) := by decide +kernel
theorem dX13_match_289 : decode cX13_match 289 = .ok (.iconst 1, 1) := by decide +kernel
theorem dX13_match_290 : decode cX13_match 290 = .ok (.goto 4, 3) := by decide +kernel
theorem dX13_match_293 : decode cX13_match 293 = .ok (.iconst 0, 1) := by decide +kernel
theorem dX13_match_294 : decode cX13_match 294 = .ok (.iadd, 1) := by decide +kernel
theorem dX13_match_295 : decode cX13_match 295 = .ok (.istore 8, 2) := by decide +kernel
theorem dX13_match_297 : decode cX13_match 297 = .ok (.goto 120, 3) := by decide +kernel
theorem dX13_match_300 : decode cX13_match 300 = .ok (.aload_n 0, 1) := by decide +kernel
theorem dX13_match_301 : decode cX13_match 301 = .ok (.getfield 241, 3) := by decide +kernel
theorem dX13_match_304 : decode cX13_match 304 = .ok (.aload_n 0, 1) := by decide +kernel
theorem dX13_match_305 : decode cX13_match 305 = .ok (.getfield 42, 3) := by decide +kernel
theorem dX13_match_308 : decode cX13_match 308 = .ok (.iload 7, 2) := by decide +kernel
theorem dX13_match_310 : decode cX13_match 310 = .ok (.iaload, 1) := by decide +kernel
theorem dX13_match_311 : decode cX13_match 311 = .ok (.iaload, 1) := by decide +kernel
theorem dX13_match_312 : decode cX13_match 312 = .ok (.istore 11, 2) := by decide +kernel
theorem dX13_match_314 : decode cX13_match 314 = .ok (.iload 4, 2) := by decide +kernel
theorem dX13_match_316 : decode cX13_match 316 = .ok (.iconst 1, 1) := by decide +kernel
theorem dX13_match_317 : decode cX13_match 317 = .ok (.if_icmp .ne 7, 3) := by decide +kernel
theorem dX13_match_320 : decode cX13_match 320 = .ok (.iload_n 3, 1) := by decide +kernel
theorem dX13_match_321 : decode cX13_match 321 = .ok (.goto 10, 3) := by decide +kernel
theorem dX13_match_324 : decode cX13_match 324 = .ok (.iload_n 3, 1) := by decide +kernel
theorem dX13_match_325 : decode cX13_match 325 = .ok (.iload 4, 2) := by decide +kernel
theorem dX13_match_327 : decode cX13_match 327 = .ok (.iload 6, 2) := by decide +kernel
theorem dX13_match_329 : decode cX13_match 329 = .ok (.isub, 1) := by decide +kernel
theorem dX13_match_330 : decode cX13_match 330 = .ok (.isub, 1) := by decide +kernel
theorem dX13_match_331 : decode cX13_match 331 = .ok (.istore 12, 2) := by decide +kernel
theorem dX13_match_333 : decode cX13_match 333 = .ok (.iload 9, 2) := by decide +kernel
theorem dX13_match_335 : decode cX13_match 335 = .ok (.iconst 1, 1) := by decide +kernel
theorem dX13_match_336 : decode cX13_match 336 = .ok (.iadd, 1) := by decide +kernel
theorem dX13_match_337 : decode cX13_match 337 = .ok (.istore 13, 2) := by decide +kernel
theorem dX13_match_339 : decode cX13_match 339 = .ok (.iload 13, 2) := by decide +kernel
theorem dX13_match_341 : decode cX13_match 341 = .ok (.iload 12, 2) := by decide +kernel
theorem dX13_match_343 : decode cX13_match 343 = .ok (.if_icmp .gt 74, 3) := by decide +kernel
theorem dX13_match_346 : decode cX13_match 346 = .ok (.iload 11, 2) := by decide +kernel
theorem dX13_match_348 : decode cX13_match 348 = .ok (.iconst (-1), 1) := by decide +kernel
theorem dX13_match_349 : decode cX13_match 349 = .ok (.if_icmp .eq 68, 3) := by decide +kernel
theorem dX13_match_352 : decode cX13_match 352 = .ok (.aload_n 0, 1) := by decide +kernel
theorem dX13_match_353 : decode cX13_match 353 = .ok (.getfield 254, 3) := by decide +kernel
theorem dX13_match_356 : decode cX13_match 356 = .ok (.aload_n 0, 1) := by decide +kernel
theorem dX13_match_357 : decode cX13_match 357 = .ok (.iload 11, 2) := by decide +kernel
theorem dX13_match_359 : decode cX13_match 359 = .ok (.iload 9, 2) := by decide +kernel
theorem dX13_match_361 : decode cX13_match 361 = .ok (.iload 13, 2) := by decide +kernel
theorem dX13_match_363 : decode cX13_match 363 = .ok (.invokevirtual 817, 3) := by decide +kernel
theorem dX13_match_366 : decode cX13_match 366 = .ok (.iaload, 1) := by decide +kernel
theorem dX13_match_367 : decode cX13_match 367 = .ok (.istore 14, 2) := by decide +kernel
theorem dX13_match_369 : decode cX13_match 369 = .ok (.aload_n 0, 1) := by decide +kernel
theorem dX13_match_370 : decode cX13_match 370 = .ok (.getfield 296, 3) := by decide +kernel
theorem dX13_match_373 : decode cX13_match 373 = .ok (.bipush 61, 2) := by decide +kernel
theorem dX13_match_375 : decode cX13_match 375 = .ok (.iload 6, 2) := by decide +kernel
theorem dX13_match_377 : decode cX13_match 377 = .ok (.imul, 1) := by decide +kernel
theorem dX13_match_378 : decode cX13_match 378 = .ok (.iload 13, 2) := by decide +kernel
theorem dX13_match_380 : decode cX13_match 380 = .ok (.iadd, 1) := by decide +kernel
theorem dX13_match_381 : decode cX13_match 381 = .ok (.aload_n 0, 1) := by decide +kernel
theorem dX13_match_382 : decode cX13_match 382 = .ok (.getfield 296, 3) := by decide +kernel
theorem dX13_match_385 : decode cX13_match 385 = .ok (.bipush 61, 2) := by decide +kernel
theorem dX13_match_387 : decode cX13_match 387 = .ok (.iload 6, 2) := by decide +kernel
theorem dX13_match_389 : decode cX13_match 389 = .ok (.imul, 1) := by decide +kernel
theorem dX13_match_390 : decode cX13_match 390 = .ok (.iload 13, 2) := by decide +kernel
theorem dX13_match_392 : decode cX13_match 392 = .ok (.iadd, 1) := by decide +kernel
theorem dX13_match_393 : decode cX13_match 393 = .ok (.iaload, 1) := by decide +kernel
theorem dX13_match_394 : decode cX13_match 394 = .ok (.iload 10, 2) := by decide +kernel
theorem dX13_match_396 : decode cX13_match 396 = .ok (.iload 14, 2) := by decide +kernel
theorem dX13_match_398 : decode cX13_match 398 = .ok (.imul, 1) := by decide +kernel
theorem dX13_match_399 : decode cX13_match 399 = .ok (.iadd, 1) := by decide +kernel
theorem dX13_match_400 : decode cX13_match 400 = .ok (.invokestatic 821, 3) := by decide +kernel
theorem dX13_match_403 : decode cX13_match 403 = .ok (.iastore, 1) := by decide +kernel
theorem dX13_match_404 : decode cX13_match 404 = .ok (.iload 8, 2) := by decide +kernel
theorem dX13_match_406 : decode cX13_match 406 = .ok (.iload 14, 2) := by decide +kernel
theorem dX13_match_408 : decode cX13_match 408 = .ok (.iadd, 1) := by decide +kernel
theorem dX13_match_409 : decode cX13_match 409 = .ok (.istore 8, 2) := by decide +kernel
theorem dX13_match_411 : decode cX13_match 411 = .ok (.iinc 13 1, 3) := by decide +kernel
theorem dX13_match_414 : decode cX13_match 414 = .ok (.goto (-75), 3) := by decide +kernel
theorem dX13_match_417 : decode cX13_match 417 = .ok (.iinc 9 1, 3) := by decide +kernel
theorem dX13_match_420 : decode cX13_match 420 = .ok (.goto (-222), 3) := by decide +kernel
theorem dX13_match_423 : decode cX13_match 423 = .ok (.iload 8, 2) := by decide +kernel
theorem dX13_match_425 : decode cX13_match 425 = .ok (.ifCond .ne 5, 3) := by decide +kernel
theorem dX13_match_428 : decode cX13_match 428 = .ok (.iconst 0, 1) := by decide +kernel
theorem dX13_match_429 : decode cX13_match 429 = .ok (.ireturn, 1) := by decide +kernel
theorem dX13_match_430 : decode cX13_match 430 = .ok (.iinc 6 1, 3) := by decide +kernel
theorem dX13_match_433 : decode cX13_match 433 = .ok (.goto (-291), 3) := by decide +kernel
theorem dX13_match_436 : decode cX13_match 436 = .ok (.aload_n 0, 1) := by decide +kernel
theorem dX13_match_437 : decode cX13_match 437 = .ok (.getfield 296, 3) := by decide +kernel
theorem dX13_match_440 : decode cX13_match 440 = .ok (.bipush 61, 2) := by decide +kernel
theorem dX13_match_442 : decode cX13_match 442 = .ok (.iload 4, 2) := by decide +kernel
theorem dX13_match_444 : decode cX13_match 444 = .ok (.imul, 1) := by decide +kernel
theorem dX13_match_445 : decode cX13_match 445 = .ok (.iload_n 3, 1) := by decide +kernel
theorem dX13_match_446 : decode cX13_match 446 = .ok (.iadd, 1) := by decide +kernel
theorem dX13_match_447 : decode cX13_match 447 = .ok (.iaload, 1) := by decide +kernel
theorem dX13_match_448 : decode cX13_match 448 = .ok (.ireturn, 1) := by decide +kernel
theorem dX13_isUnit_0 : decode cX13_isUnit 0 = .ok (.aload_n 0, 1) := by decide +kernel
theorem dX13_isUnit_1 : decode cX13_isUnit 1 = .ok (.getfield 57, 3) := by decide +kernel
theorem dX13_isUnit_4 : decode cX13_isUnit 4 = .ok (.iload_n 1, 1) := by decide +kernel
theorem dX13_isUnit_5 : decode cX13_isUnit 5 = .ok (.iaload, 1) := by decide +kernel
theorem dX13_isUnit_6 : decode cX13_isUnit 6 = .ok (.iconst 2, 1) := by decide +kernel
theorem dX13_isUnit_7 : decode cX13_isUnit 7 = .ok (.if_icmp .ne 28, 3) := by decide +kernel
theorem dX13_isUnit_10 : decode cX13_isUnit 10 = .ok (.aload_n 0, 1) := by decide +kernel
theorem dX13_isUnit_11 : decode cX13_isUnit 11 = .ok (.getfield 35, 3) := by decide +kernel
theorem dX13_isUnit_14 : decode cX13_isUnit 14 = .ok (.aload_n 0, 1) := by decide +kernel
theorem dX13_isUnit_15 : decode cX13_isUnit 15 = .ok (.getfield 60, 3) := by decide +kernel
theorem dX13_isUnit_18 : decode cX13_isUnit 18 = .ok (.aload_n 0, 1) := by decide +kernel
theorem dX13_isUnit_19 : decode cX13_isUnit 19 = .ok (.getfield 54, 3) := by decide +kernel
theorem dX13_isUnit_22 : decode cX13_isUnit 22 = .ok (.iload_n 1, 1) := by decide +kernel
theorem dX13_isUnit_23 : decode cX13_isUnit 23 = .ok (.iaload, 1) := by decide +kernel
theorem dX13_isUnit_24 : decode cX13_isUnit 24 = .ok (.iconst 1, 1) := by decide +kernel
theorem dX13_isUnit_25 : decode cX13_isUnit 25 = .ok (.iadd, 1) := by decide +kernel
theorem dX13_isUnit_26 : decode cX13_isUnit 26 = .ok (.iaload, 1) := by decide +kernel
theorem dX13_isUnit_27 : decode cX13_isUnit 27 = .ok (.baload, 1) := by decide +kernel
theorem dX13_isUnit_28 : decode cX13_isUnit 28 = .ok (.ifCond .eq 7, 3) := by decide +kernel
theorem dX13_isUnit_31 : decode cX13_isUnit 31 = .ok (.iconst 1, 1) := by decide +kernel
theorem dX13_isUnit_32 : decode cX13_isUnit 32 = .ok (.goto 4, 3) := by decide +kernel
theorem dX13_isUnit_35 : decode cX13_isUnit 35 = .ok (.iconst 0, 1) := by decide +kernel
theorem dX13_isUnit_36 : decode cX13_isUnit 36 = .ok (.ireturn, 1) := by decide +kernel
theorem dX13_newRuleNode_0 : decode cX13_newRuleNode 0 = .ok (.aload_n 0, 1) := by decide +kernel
theorem dX13_newRuleNode_1 : decode cX13_newRuleNode 1 = .ok (.getfield 824, 3) := by decide +kernel
theorem dX13_newRuleNode_4 : decode cX13_newRuleNode 4 = .ok (.istore_n 3, 1) := by decide +kernel
theorem dX13_newRuleNode_5 : decode cX13_newRuleNode 5 = .ok (.aload_n 0, 1) := by decide +kernel
theorem dX13_newRuleNode_6 : decode cX13_newRuleNode 6 = .ok (.dup, 1) := by decide +kernel
theorem dX13_newRuleNode_7 : decode cX13_newRuleNode 7 = .ok (.getfield 824, 3) := by decide +kernel
theorem dX13_newRuleNode_10 : decode cX13_newRuleNode 10 = .ok (.iconst 1, 1) := by decide +kernel
theorem dX13_newRuleNode_11 : decode cX13_newRuleNode 11 = .ok (.iadd, 1) := by decide +kernel
theorem dX13_newRuleNode_12 : decode cX13_newRuleNode 12 = .ok (.putfield 824, 3) := by decide +kernel
theorem dX13_newRuleNode_15 : decode cX13_newRuleNode 15 = .ok (.aload_n 0, 1) := by decide +kernel
theorem dX13_newRuleNode_16 : decode cX13_newRuleNode 16 = .ok (.getfield 266, 3) := by decide +kernel
theorem dX13_newRuleNode_19 : decode cX13_newRuleNode 19 = .ok (.iload_n 3, 1) := by decide +kernel
theorem dX13_newRuleNode_20 : decode cX13_newRuleNode 20 = .ok (.iload_n 2, 1) := by decide +kernel
theorem dX13_newRuleNode_21 : decode cX13_newRuleNode 21 = .ok (.iastore, 1) := by decide +kernel
theorem dX13_newRuleNode_22 : decode cX13_newRuleNode 22 = .ok (.aload_n 0, 1) := by decide +kernel
theorem dX13_newRuleNode_23 : decode cX13_newRuleNode 23 = .ok (.getfield 269, 3) := by decide +kernel
theorem dX13_newRuleNode_26 : decode cX13_newRuleNode 26 = .ok (.iload_n 3, 1) := by decide +kernel
theorem dX13_newRuleNode_27 : decode cX13_newRuleNode 27 = .ok (.iload_n 1, 1) := by decide +kernel
theorem dX13_newRuleNode_28 : decode cX13_newRuleNode 28 = .ok (.iastore, 1) := by decide +kernel
theorem dX13_newRuleNode_29 : decode cX13_newRuleNode 29 = .ok (.aload_n 0, 1) := by decide +kernel
theorem dX13_newRuleNode_30 : decode cX13_newRuleNode 30 = .ok (.getfield 272, 3) := by decide +kernel
theorem dX13_newRuleNode_33 : decode cX13_newRuleNode 33 = .ok (.iload_n 3, 1) := by decide +kernel
theorem dX13_newRuleNode_34 : decode cX13_newRuleNode 34 = .ok (.iconst (-1), 1) := by decide +kernel
theorem dX13_newRuleNode_35 : decode cX13_newRuleNode 35 = .ok (.iastore, 1) := by decide +kernel
theorem dX13_newRuleNode_36 : decode cX13_newRuleNode 36 = .ok (.aload_n 0, 1) := by decide +kernel
theorem dX13_newRuleNode_37 : decode cX13_newRuleNode 37 = .ok (.getfield 275, 3) := by decide +kernel
theorem dX13_newRuleNode_40 : decode cX13_newRuleNode 40 = .ok (.iload_n 3, 1) := by decide +kernel
theorem dX13_newRuleNode_41 : decode cX13_newRuleNode 41 = .ok (.iconst (-1), 1) := by decide +kernel
theorem dX13_newRuleNode_42 : decode cX13_newRuleNode 42 = .ok (.iastore, 1) := by decide +kernel
theorem dX13_newRuleNode_43 : decode cX13_newRuleNode 43 = .ok (.aload_n 0, 1) := by decide +kernel
theorem dX13_newRuleNode_44 : decode cX13_newRuleNode 44 = .ok (.getfield 278, 3) := by decide +kernel
theorem dX13_newRuleNode_47 : decode cX13_newRuleNode 47 = .ok (.iload_n 3, 1) := by decide +kernel
theorem dX13_newRuleNode_48 : decode cX13_newRuleNode 48 = .ok (.sipush 1500, 3) := by decide +kernel
theorem dX13_newRuleNode_51 : decode cX13_newRuleNode 51 = .ok (.iastore, 1) := by decide +kernel
theorem dX13_newRuleNode_52 : decode cX13_newRuleNode 52 = .ok (.aload_n 0, 1) := by decide +kernel
theorem dX13_newRuleNode_53 : decode cX13_newRuleNode 53 = .ok (.getfield 281, 3) := by decide +kernel
theorem dX13_newRuleNode_56 : decode cX13_newRuleNode 56 = .ok (.iload_n 3, 1) := by decide +kernel
theorem dX13_newRuleNode_57 : decode cX13_newRuleNode 57 = .ok (.sipush 1500, 3) := by decide +kernel
theorem dX13_newRuleNode_60 : decode cX13_newRuleNode 60 = .ok (.iastore, 1) := by decide +kernel
theorem dX13_newRuleNode_61 : decode cX13_newRuleNode 61 = .ok (.aload_n 0, 1) := by decide +kernel
theorem dX13_newRuleNode_62 : decode cX13_newRuleNode 62 = .ok (.getfield 284, 3) := by decide +kernel
theorem dX13_newRuleNode_65 : decode cX13_newRuleNode 65 = .ok (.iload_n 3, 1) := by decide +kernel
theorem dX13_newRuleNode_66 : decode cX13_newRuleNode 66 = .ok (.sipush 1500, 3) := by decide +kernel
theorem dX13_newRuleNode_69 : decode cX13_newRuleNode 69 = .ok (.iastore, 1) := by decide +kernel
theorem dX13_newRuleNode_70 : decode cX13_newRuleNode 70 = .ok (.iload_n 3, 1) := by decide +kernel
theorem dX13_newRuleNode_71 : decode cX13_newRuleNode 71 = .ok (.ireturn, 1) := by decide +kernel
