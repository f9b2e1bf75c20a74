-- instructions
theorem dX11_startsOf_0 : decode cX11_startsOf 0 = .ok (.aload_n 0, 1) := by decide +kernel
theorem dX11_startsOf_1 : decode cX11_startsOf 1 = .ok (.getfield 40, 3) := by decide +kernel
theorem dX11_startsOf_4 : decode cX11_startsOf 4 = .ok (.getfield 114, 3) := by decide +kernel
theorem dX11_startsOf_7 : decode cX11_startsOf 7 = .ok (.iload_n 1, 1) := by decide +kernel
theorem dX11_startsOf_8 : decode cX11_startsOf 8 = .ok (.iaload, 1) := by decide +kernel
theorem dX11_startsOf_9 : decode cX11_startsOf 9 = .ok (.iconst (-1), 1) := by decide +kernel
theorem dX11_startsOf_10 : decode cX11_startsOf 10 = .ok (.if_icmp .ne 25, 3) := by decide +kernel
theorem dX11_startsOf_13 : decode cX11_startsOf 13 = .ok (.aload_n 0, 1) := by decide +kernel
theorem dX11_startsOf_14 : decode cX11_startsOf 14 = .ok (.getfield 48, 3) := by decide +kernel
theorem dX11_startsOf_17 : decode cX11_startsOf 17 = .ok (.getfield 135, 3) := by decide +kernel
theorem dX11_startsOf_20 : decode cX11_startsOf 20 = .ok (.aload_n 0, 1) := by decide +kernel
theorem dX11_startsOf_21 : decode cX11_startsOf 21 = .ok (.getfield 40, 3) := by decide +kernel
theorem dX11_startsOf_24 : decode cX11_startsOf 24 = .ok (.getfield 111, 3) := by decide +kernel
theorem dX11_startsOf_27 : decode cX11_startsOf 27 = .ok (.iload_n 1, 1) := by decide +kernel
theorem dX11_startsOf_28 : decode cX11_startsOf 28 = .ok (.iaload, 1) := by decide +kernel
theorem dX11_startsOf_29 : decode cX11_startsOf 29 = .ok (.laload, 1) := by decide +kernel
theorem dX11_startsOf_30 : decode cX11_startsOf 30 = .ok (.lload_n 2, 1) := by decide +kernel
theorem dX11_startsOf_31 : decode cX11_startsOf 31 = .ok (.iconst 1, 1) := by decide +kernel
theorem dX11_startsOf_32 : decode cX11_startsOf 32 = .ok (.lushr, 1) := by decide +kernel
theorem dX11_startsOf_33 : decode cX11_startsOf 33 = .ok (.land, 1) := by decide +kernel
theorem dX11_startsOf_34 : decode cX11_startsOf 34 = .ok (.lreturn, 1) := by decide +kernel
theorem dX11_startsOf_35 : decode cX11_startsOf 35 = .ok (.aload_n 0, 1) := by decide +kernel
theorem dX11_startsOf_36 : decode cX11_startsOf 36 = .ok (.iload_n 1, 1) := by decide +kernel
theorem dX11_startsOf_37 : decode cX11_startsOf 37 = .ok (.invokevirtual 120, 3) := by decide +kernel
theorem dX11_startsOf_40 : decode cX11_startsOf 40 = .ok (.bipush 60, 2) := by decide +kernel
theorem dX11_startsOf_42 : decode cX11_startsOf 42 = .ok (.imul, 1) := by decide +kernel
theorem dX11_startsOf_43 : decode cX11_startsOf 43 = .ok (.istore 6, 2) := by decide +kernel
theorem dX11_startsOf_45 : decode cX11_startsOf 45 = .ok (.lconst 0, 1) := by decide +kernel
theorem dX11_startsOf_46 : decode cX11_startsOf 46 = .ok (.lstore 7, 2) := by decide +kernel
theorem dX11_startsOf_48 : decode cX11_startsOf 48 = .ok (.iload 4, 2) := by decide +kernel
theorem dX11_startsOf_50 : decode cX11_startsOf 50 = .ok (.istore 9, 2) := by decide +kernel
theorem dX11_startsOf_52 : decode cX11_startsOf 52 = .ok (.iload 9, 2) := by decide +kernel
theorem dX11_startsOf_54 : decode cX11_startsOf 54 = .ok (.iload 5, 2) := by decide +kernel
theorem dX11_startsOf_56 : decode cX11_startsOf 56 = .ok (.if_icmp .ge 38, 3) := by decide +kernel
theorem dX11_startsOf_59 : decode cX11_startsOf 59 = .ok (.aload_n 0, 1) := by decide +kernel
theorem dX11_startsOf_60 : decode cX11_startsOf 60 = .ok (.getfield 48, 3) := by decide +kernel
theorem dX11_startsOf_63 : decode cX11_startsOf 63 = .ok (.getfield 117, 3) := by decide +kernel
theorem dX11_startsOf_66 : decode cX11_startsOf 66 = .ok (.iload 6, 2) := by decide +kernel
theorem dX11_startsOf_68 : decode cX11_startsOf 68 = .ok (.iload 9, 2) := by decide +kernel
theorem dX11_startsOf_70 : decode cX11_startsOf 70 = .ok (.iadd, 1) := by decide +kernel
theorem dX11_startsOf_71 : decode cX11_startsOf 71 = .ok (.laload, 1) := by decide +kernel
theorem dX11_startsOf_72 : decode cX11_startsOf 72 = .ok (.lload_n 2, 1) := by decide +kernel
theorem dX11_startsOf_73 : decode cX11_startsOf 73 = .ok (.land, 1) := by decide +kernel
theorem dX11_startsOf_74 : decode cX11_startsOf 74 = .ok (.lconst 0, 1) := by decide +kernel
theorem dX11_startsOf_75 : decode cX11_startsOf 75 = .ok (.lcmp, 1) := by decide +kernel
theorem dX11_startsOf_76 : decode cX11_startsOf 76 = .ok (.ifCond .eq 12, 3) := by decide +kernel
theorem dX11_startsOf_79 : decode cX11_startsOf 79 = .ok (.lload 7, 2) := by decide +kernel
theorem dX11_startsOf_81 : decode cX11_startsOf 81 = .ok (.lconst 1, 1) := by decide +kernel
theorem dX11_startsOf_82 : decode cX11_startsOf 82 = .ok (.iload 9, 2) := by decide +kernel
theorem dX11_startsOf_84 : decode cX11_startsOf 84 = .ok (.lshl, 1) := by decide +kernel
theorem dX11_startsOf_85 : decode cX11_startsOf 85 = .ok (.lor, 1) := by decide +kernel
theorem dX11_startsOf_86 : decode cX11_startsOf 86 = .ok (.lstore 7, 2) := by decide +kernel
theorem dX11_startsOf_88 : decode cX11_startsOf 88 = .ok (.iinc 9 1, 3) := by decide +kernel
theorem dX11_startsOf_91 : decode cX11_startsOf 91 = .ok (.goto (-39), 3) := by decide +kernel
theorem dX11_startsOf_94 : decode cX11_startsOf 94 = .ok (.lload 7, 2) := by decide +kernel
theorem dX11_startsOf_96 : decode cX11_startsOf 96 = .ok (.lreturn, 1) := by decide +kernel
theorem dX11_behind_0 : decode cX11_behind 0 = .ok (.iconst 1, 1) := by decide +kernel
theorem dX11_behind_1 : decode cX11_behind 1 = .ok (.istore_n 2, 1) := by decide +kernel
theorem dX11_behind_2 : decode cX11_behind 2 = .ok (.iload_n 1, 1) := by decide +kernel
theorem dX11_behind_3 : decode cX11_behind 3 = .ok (.istore_n 3, 1) := by decide +kernel
theorem dX11_behind_4 : decode cX11_behind 4 = .ok (.iload_n 3, 1) := by decide +kernel
theorem dX11_behind_5 : decode cX11_behind 5 = .ok (.aload_n 0, 1) := by decide +kernel
theorem dX11_behind_6 : decode cX11_behind 6 = .ok (.getfield 52, 3) := by decide +kernel
theorem dX11_behind_9 : decode cX11_behind 9 = .ok (.if_icmp .ge 53, 3) := by decide +kernel
theorem dX11_behind_12 : decode cX11_behind 12 = .ok (.iload_n 2, 1) := by decide +kernel
theorem dX11_behind_13 : decode cX11_behind 13 = .ok (.ifCond .le 49, 3) := by decide +kernel
theorem dX11_behind_16 : decode cX11_behind 16 = .ok (.aload_n 0, 1) := by decide +kernel
theorem dX11_behind_17 : decode cX11_behind 17 = .ok (.getfield 9, 3) := by decide +kernel
theorem dX11_behind_20 : decode cX11_behind 20 = .ok (.iload_n 3, 1) := by decide +kernel
theorem dX11_behind_21 : decode cX11_behind 21 = .ok (.iaload, 1) := by decide +kernel
theorem dX11_behind_22 : decode cX11_behind 22 = .ok (.istore 4, 2) := by decide +kernel
theorem dX11_behind_24 : decode cX11_behind 24 = .ok (.iload_n 2, 1) := by decide +kernel
theorem dX11_behind_25 : decode cX11_behind 25 = .ok (.aload_n 0, 1) := by decide +kernel
theorem dX11_behind_26 : decode cX11_behind 26 = .ok (.getfield 40, 3) := by decide +kernel
theorem dX11_behind_29 : decode cX11_behind 29 = .ok (.getfield 71, 3) := by decide +kernel
theorem dX11_behind_32 : decode cX11_behind 32 = .ok (.iload 4, 2) := by decide +kernel
theorem dX11_behind_34 : decode cX11_behind 34 = .ok (.iaload, 1) := by decide +kernel
theorem dX11_behind_35 : decode cX11_behind 35 = .ok (.ifCond .ne 7, 3) := by decide +kernel
theorem dX11_behind_38 : decode cX11_behind 38 = .ok (.iconst (-1), 1) := by decide +kernel
theorem dX11_behind_39 : decode cX11_behind 39 = .ok (.goto 15, 3) := by decide +kernel
theorem dX11_behind_42 : decode cX11_behind 42 = .ok (.aload_n 0, 1) := by decide +kernel
theorem dX11_behind_43 : decode cX11_behind 43 = .ok (.getfield 44, 3) := by decide +kernel
theorem dX11_behind_46 : decode cX11_behind 46 = .ok (.getfield 85, 3) := by decide +kernel
theorem dX11_behind_49 : decode cX11_behind 49 = .ok (.iload 4, 2) := by decide +kernel
theorem dX11_behind_51 : decode cX11_behind 51 = .ok (.iaload, 1) := by decide +kernel
theorem dX11_behind_52 : decode cX11_behind 52 = .ok (.iconst 1, 1) := by decide +kernel
theorem dX11_behind_53 : decode cX11_behind 53 = .ok (.isub, 1) := by decide +kernel
theorem dX11_behind_54 : decode cX11_behind 54 = .ok (.iadd, 1) := by decide +kernel
theorem dX11_behind_55 : decode cX11_behind 55 = .ok (.istore_n 2, 1) := by decide +kernel
theorem dX11_behind_56 : decode cX11_behind 56 = .ok (.iinc 3 1, 3) := by decide +kernel
theorem dX11_behind_59 : decode cX11_behind 59 = .ok (.goto (-55), 3) := by decide +kernel
theorem dX11_behind_62 : decode cX11_behind 62 = .ok (.iload_n 3, 1) := by decide +kernel
theorem dX11_behind_63 : decode cX11_behind 63 = .ok (.ireturn, 1) := by decide +kernel
theorem dX11_keepPattern_0 : decode cX11_keepPattern 0 = .ok (.aload_n 0, 1) := by decide +kernel
theorem dX11_keepPattern_1 : decode cX11_keepPattern 1 = .ok (.getfield 9, 3) := by decide +kernel
theorem dX11_keepPattern_4 : decode cX11_keepPattern 4 = .ok (.iconst 0, 1) := by decide +kernel
theorem dX11_keepPattern_5 : decode cX11_keepPattern 5 = .ok (.aload_n 0, 1) := by decide +kernel
theorem dX11_keepPattern_6 : decode cX11_keepPattern 6 = .ok (.getfield 21, 3) := by decide +kernel
theorem dX11_keepPattern_9 : decode cX11_keepPattern 9 = .ok (.iconst 0, 1) := by decide +kernel
theorem dX11_keepPattern_10 : decode cX11_keepPattern 10 = .ok (.aload_n 0, 1) := by decide +kernel
theorem dX11_keepPattern_11 : decode cX11_keepPattern 11 = .ok (.getfield 52, 3) := by decide +kernel
theorem dX11_keepPattern_14 : decode cX11_keepPattern 14 = .ok (.invokestatic 138, 3) := by decide +kernel
theorem dX11_keepPattern_17 : decode cX11_keepPattern 17 = .ok (.aload_n 0, 1) := by decide +kernel
theorem dX11_keepPattern_18 : decode cX11_keepPattern 18 = .ok (.aload_n 0, 1) := by decide +kernel
theorem dX11_keepPattern_19 : decode cX11_keepPattern 19 = .ok (.getfield 52, 3) := by decide +kernel
theorem dX11_keepPattern_22 : decode cX11_keepPattern 22 = .ok (.putfield 144, 3) := by decide +kernel
theorem dX11_keepPattern_25 : decode cX11_keepPattern 25 = .ok (.return_, 1) := by decide +kernel
theorem dX11_fitsPattern_0 : decode cX11_fitsPattern 0 = .ok (.aload_n 0, 1) := by decide +kernel
theorem dX11_fitsPattern_1 : decode cX11_fitsPattern 1 = .ok (.dup, 1) := by decide +kernel
theorem dX11_fitsPattern_2 : decode cX11_fitsPattern 2 = .ok (.getfield 147, 3) := by decide +kernel
theorem dX11_fitsPattern_5 : decode cX11_fitsPattern 5 = .ok (.iconst 1, 1) := by decide +kernel
theorem dX11_fitsPattern_6 : decode cX11_fitsPattern 6 = .ok (.iadd, 1) := by decide +kernel
theorem dX11_fitsPattern_7 : decode cX11_fitsPattern 7 = .ok (.putfield 147, 3) := by decide +kernel
theorem dX11_fitsPattern_10 : decode cX11_fitsPattern 10 = .ok (.iconst 0, 1) := by decide +kernel
theorem dX11_fitsPattern_11 : decode cX11_fitsPattern 11 = .ok (.istore_n 1, 1) := by decide +kernel
theorem dX11_fitsPattern_12 : decode cX11_fitsPattern 12 = .ok (.iconst 0, 1) := by decide +kernel
theorem dX11_fitsPattern_13 : decode cX11_fitsPattern 13 = .ok (.istore_n 2, 1) := by decide +kernel
theorem dX11_fitsPattern_14 : decode cX11_fitsPattern 14 = .ok (.iload_n 2, 1) := by decide +kernel
theorem dX11_fitsPattern_15 : decode cX11_fitsPattern 15 = .ok (.aload_n 0, 1) := by decide +kernel
theorem dX11_fitsPattern_16 : decode cX11_fitsPattern 16 = .ok (.getfield 144, 3) := by decide +kernel
theorem dX11_fitsPattern_19 : decode cX11_fitsPattern 19 = .ok (.if_icmp .ge 83, 3) := by decide +kernel
theorem dX11_fitsPattern_22 : decode cX11_fitsPattern 22 = .ok (.aload_n 0, 1) := by decide +kernel
theorem dX11_fitsPattern_23 : decode cX11_fitsPattern 23 = .ok (.getfield 21, 3) := by decide +kernel
theorem dX11_fitsPattern_26 : decode cX11_fitsPattern 26 = .ok (.iload_n 2, 1) := by decide +kernel
theorem dX11_fitsPattern_27 : decode cX11_fitsPattern 27 = .ok (.iaload, 1) := by decide +kernel
theorem dX11_fitsPattern_28 : decode cX11_fitsPattern 28 = .ok (.istore_n 3, 1) := by decide +kernel
theorem dX11_fitsPattern_29 : decode cX11_fitsPattern 29 = .ok (.iload_n 1, 1) := by decide +kernel
theorem dX11_fitsPattern_30 : decode cX11_fitsPattern 30 = .ok (.aload_n 0, 1) := by decide +kernel
theorem dX11_fitsPattern_31 : decode cX11_fitsPattern 31 = .ok (.getfield 52, 3) := by decide +kernel
theorem dX11_fitsPattern_34 : decode cX11_fitsPattern 34 = .ok (.if_icmp .lt 5, 3) := by decide +kernel
theorem dX11_fitsPattern_37 : decode cX11_fitsPattern 37 = .ok (.iconst 0, 1) := by decide +kernel
theorem dX11_fitsPattern_38 : decode cX11_fitsPattern 38 = .ok (.ireturn, 1) := by decide +kernel
theorem dX11_fitsPattern_39 : decode cX11_fitsPattern 39 = .ok (.aload_n 0, 1) := by decide +kernel
theorem dX11_fitsPattern_40 : decode cX11_fitsPattern 40 = .ok (.getfield 40, 3) := by decide +kernel
theorem dX11_fitsPattern_43 : decode cX11_fitsPattern 43 = .ok (.getfield 71, 3) := by decide +kernel
theorem dX11_fitsPattern_46 : decode cX11_fitsPattern 46 = .ok (.iload_n 3, 1) := by decide +kernel
theorem dX11_fitsPattern_47 : decode cX11_fitsPattern 47 = .ok (.iaload, 1) := by decide +kernel
theorem dX11_fitsPattern_48 : decode cX11_fitsPattern 48 = .ok (.ifCond .ne 30, 3) := by decide +kernel
theorem dX11_fitsPattern_51 : decode cX11_fitsPattern 51 = .ok (.aload_n 0, 1) := by decide +kernel
theorem dX11_fitsPattern_52 : decode cX11_fitsPattern 52 = .ok (.aload_n 0, 1) := by decide +kernel
theorem dX11_fitsPattern_53 : decode cX11_fitsPattern 53 = .ok (.getfield 40, 3) := by decide +kernel
theorem dX11_fitsPattern_56 : decode cX11_fitsPattern 56 = .ok (.iload_n 3, 1) := by decide +kernel
theorem dX11_fitsPattern_57 : decode cX11_fitsPattern 57 = .ok (.invokevirtual 91, 3) := by decide +kernel
theorem dX11_fitsPattern_60 : decode cX11_fitsPattern 60 = .ok (.iload_n 1, 1) := by decide +kernel
theorem dX11_fitsPattern_61 : decode cX11_fitsPattern 61 = .ok (.invokevirtual 150, 3) := by decide +kernel
theorem dX11_fitsPattern_64 : decode cX11_fitsPattern 64 = .ok (.ifCond .ne 5, 3) := by decide +kernel
theorem dX11_fitsPattern_67 : decode cX11_fitsPattern 67 = .ok (.iconst 0, 1) := by decide +kernel
theorem dX11_fitsPattern_68 : decode cX11_fitsPattern 68 = .ok (.ireturn, 1) := by decide +kernel
theorem dX11_fitsPattern_69 : decode cX11_fitsPattern 69 = .ok (.aload_n 0, 1) := by decide +kernel
theorem dX11_fitsPattern_70 : decode cX11_fitsPattern 70 = .ok (.iload_n 1, 1) := by decide +kernel
theorem dX11_fitsPattern_71 : decode cX11_fitsPattern 71 = .ok (.invokevirtual 154, 3) := by decide +kernel
theorem dX11_fitsPattern_74 : decode cX11_fitsPattern 74 = .ok (.istore_n 1, 1) := by decide +kernel
theorem dX11_fitsPattern_75 : decode cX11_fitsPattern 75 = .ok (.goto 21, 3) := by decide +kernel
theorem dX11_fitsPattern_78 : decode cX11_fitsPattern 78 = .ok (.iload_n 3, 1) := by decide +kernel
theorem dX11_fitsPattern_79 : decode cX11_fitsPattern 79 = .ok (.aload_n 0, 1) := by decide +kernel
theorem dX11_fitsPattern_80 : decode cX11_fitsPattern 80 = .ok (.getfield 9, 3) := by decide +kernel
theorem dX11_fitsPattern_83 : decode cX11_fitsPattern 83 = .ok (.iload_n 1, 1) := by decide +kernel
theorem dX11_fitsPattern_84 : decode cX11_fitsPattern 84 = .ok (.iaload, 1) := by decide +kernel
theorem dX11_fitsPattern_85 : decode cX11_fitsPattern 85 = .ok (.if_icmp .ne 9, 3) := by decide +kernel
theorem dX11_fitsPattern_88 : decode cX11_fitsPattern 88 = .ok (.iinc 1 1, 3) := by decide +kernel
theorem dX11_fitsPattern_91 : decode cX11_fitsPattern 91 = .ok (.goto 5, 3) := by decide +kernel
theorem dX11_fitsPattern_94 : decode cX11_fitsPattern 94 = .ok (.iconst 0, 1) := by decide +kernel
theorem dX11_fitsPattern_95 : decode cX11_fitsPattern 95 = .ok (.ireturn, 1) := by decide +kernel
theorem dX11_fitsPattern_96 : decode cX11_fitsPattern 96 = .ok (.iinc 2 1, 3) := by decide +kernel
theorem dX11_fitsPattern_99 : decode cX11_fitsPattern 99 = .ok (.goto (-85), 3) := by decide +kernel
theorem dX11_fitsPattern_102 : decode cX11_fitsPattern 102 = .ok (.iload_n 1, 1) := by decide +kernel
theorem dX11_fitsPattern_103 : decode cX11_fitsPattern 103 = .ok (.aload_n 0, 1) := by decide +kernel
theorem dX11_fitsPattern_104 : decode cX11_fitsPattern 104 = .ok (.getfield 52, 3) := by decide +kernel
theorem dX11_fitsPattern_107 : decode cX11_fitsPattern 107 = .ok (.if_icmp .ne 7, 3) := by decide +kernel
theorem dX11_fitsPattern_110 : decode cX11_fitsPattern 110 = .ok (.iconst 1, 1) := by decide +kernel
theorem dX11_fitsPattern_111 : decode cX11_fitsPattern 111 = .ok (.goto 4, 3) := by decide +kernel
theorem dX11_fitsPattern_114 : decode cX11_fitsPattern 114 = .ok (.iconst 0, 1) := by decide +kernel
theorem dX11_fitsPattern_115 : decode cX11_fitsPattern 115 = .ok (.ireturn, 1) := by decide +kernel
theorem dX11_binds_0 : decode cX11_binds 0 = .ok (.aload_n 0, 1) := by decide +kernel
theorem dX11_binds_1 : decode cX11_binds 1 = .ok (.getfield 37, 3) := by decide +kernel
theorem dX11_binds_4 : decode cX11_binds 4 = .ok (.iload_n 1, 1) := by decide +kernel
theorem dX11_binds_5 : decode cX11_binds 5 = .ok (.iaload, 1) := by decide +kernel
theorem dX11_binds_6 : decode cX11_binds 6 = .ok (.aload_n 0, 1) := by decide +kernel
theorem dX11_binds_7 : decode cX11_binds 7 = .ok (.getfield 147, 3) := by decide +kernel
theorem dX11_binds_10 : decode cX11_binds 10 = .ok (.if_icmp .eq 39, 3) := by decide +kernel
theorem dX11_binds_13 : decode cX11_binds 13 = .ok (.aload_n 0, 1) := by decide +kernel
theorem dX11_binds_14 : decode cX11_binds 14 = .ok (.getfield 37, 3) := by decide +kernel
theorem dX11_binds_17 : decode cX11_binds 17 = .ok (.iload_n 1, 1) := by decide +kernel
theorem dX11_binds_18 : decode cX11_binds 18 = .ok (.aload_n 0, 1) := by decide +kernel
theorem dX11_binds_19 : decode cX11_binds 19 = .ok (.getfield 147, 3) := by decide +kernel
theorem dX11_binds_22 : decode cX11_binds 22 = .ok (.iastore, 1) := by decide +kernel
theorem dX11_binds_23 : decode cX11_binds 23 = .ok (.aload_n 0, 1) := by decide +kernel
theorem dX11_binds_24 : decode cX11_binds 24 = .ok (.getfield 31, 3) := by decide +kernel
theorem dX11_binds_27 : decode cX11_binds 27 = .ok (.iload_n 1, 1) := by decide +kernel
theorem dX11_binds_28 : decode cX11_binds 28 = .ok (.aload_n 0, 1) := by decide +kernel
theorem dX11_binds_29 : decode cX11_binds 29 = .ok (.getfield 15, 3) := by decide +kernel
theorem dX11_binds_32 : decode cX11_binds 32 = .ok (.iload_n 2, 1) := by decide +kernel
theorem dX11_binds_33 : decode cX11_binds 33 = .ok (.iaload, 1) := by decide +kernel
theorem dX11_binds_34 : decode cX11_binds 34 = .ok (.iastore, 1) := by decide +kernel
theorem dX11_binds_35 : decode cX11_binds 35 = .ok (.aload_n 0, 1) := by decide +kernel
theorem dX11_binds_36 : decode cX11_binds 36 = .ok (.getfield 34, 3) := by decide +kernel
theorem dX11_binds_39 : decode cX11_binds 39 = .ok (.iload_n 1, 1) := by decide +kernel
theorem dX11_binds_40 : decode cX11_binds 40 = .ok (.aload_n 0, 1) := by decide +kernel
theorem dX11_binds_41 : decode cX11_binds 41 = .ok (.getfield 18, 3) := by decide +kernel
theorem dX11_binds_44 : decode cX11_binds 44 = .ok (.iload_n 2, 1) := by decide +kernel
theorem dX11_binds_45 : decode cX11_binds 45 = .ok (.iaload, 1) := by decide +kernel
theorem dX11_binds_46 : decode cX11_binds 46 = .ok (.iastore, 1) := by decide +kernel
theorem dX11_binds_47 : decode cX11_binds 47 = .ok (.iconst 1, 1) := by decide +kernel
theorem dX11_binds_48 : decode cX11_binds 48 = .ok (.ireturn, 1) := by decide +kernel
theorem dX11_binds_49 : decode cX11_binds 49 = .ok (.aload_n 0, 1) := by decide +kernel
theorem dX11_binds_50 : decode cX11_binds 50 = .ok (.getfield 18, 3) := by decide +kernel
theorem dX11_binds_53 : decode cX11_binds 53 = .ok (.iload_n 2, 1) := by decide +kernel
theorem dX11_binds_54 : decode cX11_binds 54 = .ok (.iaload, 1) := by decide +kernel
theorem dX11_binds_55 : decode cX11_binds 55 = .ok (.aload_n 0, 1) := by decide +kernel
theorem dX11_binds_56 : decode cX11_binds 56 = .ok (.getfield 15, 3) := by decide +kernel
theorem dX11_binds_59 : decode cX11_binds 59 = .ok (.iload_n 2, 1) := by decide +kernel
theorem dX11_binds_60 : decode cX11_binds 60 = .ok (.iaload, 1) := by decide +kernel
theorem dX11_binds_61 : decode cX11_binds 61 = .ok (.isub, 1) := by decide +kernel
theorem dX11_binds_62 : decode cX11_binds 62 = .ok (.istore_n 3, 1) := by decide +kernel
theorem dX11_binds_63 : decode cX11_binds 63 = .ok (.aload_n 0, 1) := by decide +kernel
theorem dX11_binds_64 : decode cX11_binds 64 = .ok (.getfield 34, 3) := by decide +kernel
theorem dX11_binds_67 : decode cX11_binds 67 = .ok (.iload_n 1, 1) := by decide +kernel
theorem dX11_binds_68 : decode cX11_binds 68 = .ok (.iaload, 1) := by decide +kernel
theorem dX11_binds_69 : decode cX11_binds 69 = .ok (.aload_n 0, 1) := by decide +kernel
theorem dX11_binds_70 : decode cX11_binds 70 = .ok (.getfield 31, 3) := by decide +kernel
theorem dX11_binds_73 : decode cX11_binds 73 = .ok (.iload_n 1, 1) := by decide +kernel
theorem dX11_binds_74 : decode cX11_binds 74 = .ok (.iaload, 1) := by decide +kernel
theorem dX11_binds_75 : decode cX11_binds 75 = .ok (.isub, 1) := by decide +kernel
theorem dX11_binds_76 : decode cX11_binds 76 = .ok (.iload_n 3, 1) := by decide +kernel
theorem dX11_binds_77 : decode cX11_binds 77 = .ok (.if_icmp .eq 5, 3) := by decide +kernel
theorem dX11_binds_80 : decode cX11_binds 80 = .ok (.iconst 0, 1) := by decide +kernel
theorem dX11_binds_81 : decode cX11_binds 81 = .ok (.ireturn, 1) := by decide +kernel
theorem dX11_binds_82 : decode cX11_binds 82 = .ok (.iconst 0, 1) := by decide +kernel
theorem dX11_binds_83 : decode cX11_binds 83 = .ok (.istore 4, 2) := by decide +kernel
theorem dX11_binds_85 : decode cX11_binds 85 = .ok (.iload 4, 2) := by decide +kernel
theorem dX11_binds_87 : decode cX11_binds 87 = .ok (.iload_n 3, 1) := by decide +kernel
theorem dX11_binds_88 : decode cX11_binds 88 = .ok (.if_icmp .ge 48, 3) := by decide +kernel
theorem dX11_binds_91 : decode cX11_binds 91 = .ok (.aload_n 0, 1) := by decide +kernel
theorem dX11_binds_92 : decode cX11_binds 92 = .ok (.getfield 48, 3) := by decide +kernel
theorem dX11_binds_95 : decode cX11_binds 95 = .ok (.getfield 157, 3) := by decide +kernel
theorem dX11_binds_98 : decode cX11_binds 98 = .ok (.aload_n 0, 1) := by decide +kernel
theorem dX11_binds_99 : decode cX11_binds 99 = .ok (.getfield 31, 3) := by decide +kernel
theorem dX11_binds_102 : decode cX11_binds 102 = .ok (.iload_n 1, 1) := by decide +kernel
theorem dX11_binds_103 : decode cX11_binds 103 = .ok (.iaload, 1) := by decide +kernel
theorem dX11_binds_104 : decode cX11_binds 104 = .ok (.iload 4, 2) := by decide +kernel
theorem dX11_binds_106 : decode cX11_binds 106 = .ok (.iadd, 1) := by decide +kernel
theorem dX11_binds_107 : decode cX11_binds 107 = .ok (.iaload, 1) := by decide +kernel
theorem dX11_binds_108 : decode cX11_binds 108 = .ok (.aload_n 0, 1) := by decide +kernel
theorem dX11_binds_109 : decode cX11_binds 109 = .ok (.getfield 48, 3) := by decide +kernel
theorem dX11_binds_112 : decode cX11_binds 112 = .ok (.getfield 157, 3) := by decide +kernel
theorem dX11_binds_115 : decode cX11_binds 115 = .ok (.aload_n 0, 1) := by decide +kernel
theorem dX11_binds_116 : decode cX11_binds 116 = .ok (.getfield 15, 3) := by decide +kernel
theorem dX11_binds_119 : decode cX11_binds 119 = .ok (.iload_n 2, 1) := by decide +kernel
theorem dX11_binds_120 : decode cX11_binds 120 = .ok (.iaload, 1) := by decide +kernel
theorem dX11_binds_121 : decode cX11_binds 121 = .ok (.iload 4, 2) := by decide +kernel
theorem dX11_binds_123 : decode cX11_binds 123 = .ok (.iadd, 1) := by decide +kernel
theorem dX11_binds_124 : decode cX11_binds 124 = .ok (.iaload, 1) := by decide +kernel
theorem dX11_binds_125 : decode cX11_binds 125 = .ok (.if_icmp .eq 5, 3) := by decide +kernel
theorem dX11_binds_128 : decode cX11_binds 128 = .ok (.iconst 0, 1) := by decide +kernel
theorem dX11_binds_129 : decode cX11_binds 129 = .ok (.ireturn, 1) := by decide +kernel
theorem dX11_binds_130 : decode cX11_binds 130 = .ok (.iinc 4 1, 3) := by decide +kernel
theorem dX11_binds_133 : decode cX11_binds 133 = .ok (.goto (-48), 3) := by decide +kernel
theorem dX11_binds_136 : decode cX11_binds 136 = .ok (.iconst 1, 1) := by decide +kernel
theorem dX11_binds_137 : decode cX11_binds 137 = .ok (.ireturn, 1) := by decide +kernel
theorem dX11_bindsEssentials_0 : decode cX11_bindsEssentials 0 = .ok (.aload_n 0, 1) := by decide +kernel
theorem dX11_bindsEssentials_1 : decode cX11_bindsEssentials 1 = .ok (.getfield 44, 3) := by decide +kernel
theorem dX11_bindsEssentials_4 : decode cX11_bindsEssentials 4 = .ok (.getfield 80, 3) := by decide +kernel
theorem dX11_bindsEssentials_7 : decode cX11_bindsEssentials 7 = .ok (.iload_n 1, 1) := by decide +kernel
theorem dX11_bindsEssentials_8 : decode cX11_bindsEssentials 8 = .ok (.iaload, 1) := by decide +kernel
theorem dX11_bindsEssentials_9 : decode cX11_bindsEssentials 9 = .ok (.istore_n 2, 1) := by decide +kernel
theorem dX11_bindsEssentials_10 : decode cX11_bindsEssentials 10 = .ok (.iload_n 2, 1) := by decide +kernel
theorem dX11_bindsEssentials_11 : decode cX11_bindsEssentials 11 = .ok (.istore_n 3, 1) := by decide +kernel
theorem dX11_bindsEssentials_12 : decode cX11_bindsEssentials 12 = .ok (.iload_n 3, 1) := by decide +kernel
theorem dX11_bindsEssentials_13 : decode cX11_bindsEssentials 13 = .ok (.iload_n 2, 1) := by decide +kernel
theorem dX11_bindsEssentials_14 : decode cX11_bindsEssentials 14 = .ok (.aload_n 0, 1) := by decide +kernel
theorem dX11_bindsEssentials_15 : decode cX11_bindsEssentials 15 = .ok (.getfield 44, 3) := by decide +kernel
theorem dX11_bindsEssentials_18 : decode cX11_bindsEssentials 18 = .ok (.getfield 85, 3) := by decide +kernel
theorem dX11_bindsEssentials_21 : decode cX11_bindsEssentials 21 = .ok (.iload_n 1, 1) := by decide +kernel
theorem dX11_bindsEssentials_22 : decode cX11_bindsEssentials 22 = .ok (.iaload, 1) := by decide +kernel
theorem dX11_bindsEssentials_23 : decode cX11_bindsEssentials 23 = .ok (.iadd, 1) := by decide +kernel
theorem dX11_bindsEssentials_24 : decode cX11_bindsEssentials 24 = .ok (.if_icmp .ge 56, 3) := by decide +kernel
theorem dX11_bindsEssentials_27 : decode cX11_bindsEssentials 27 = .ok (.aload_n 0, 1) := by decide +kernel
theorem dX11_bindsEssentials_28 : decode cX11_bindsEssentials 28 = .ok (.getfield 44, 3) := by decide +kernel
theorem dX11_bindsEssentials_31 : decode cX11_bindsEssentials 31 = .ok (.getfield 88, 3) := by decide +kernel
theorem dX11_bindsEssentials_34 : decode cX11_bindsEssentials 34 = .ok (.iload_n 3, 1) := by decide +kernel
theorem dX11_bindsEssentials_35 : decode cX11_bindsEssentials 35 = .ok (.iaload, 1) := by decide +kernel
theorem dX11_bindsEssentials_36 : decode cX11_bindsEssentials 36 = .ok (.istore 4, 2) := by decide +kernel
theorem dX11_bindsEssentials_38 : decode cX11_bindsEssentials 38 = .ok (.aload_n 0, 1) := by decide +kernel
theorem dX11_bindsEssentials_39 : decode cX11_bindsEssentials 39 = .ok (.getfield 40, 3) := by decide +kernel
theorem dX11_bindsEssentials_42 : decode cX11_bindsEssentials 42 = .ok (.getfield 71, 3) := by decide +kernel
theorem dX11_bindsEssentials_45 : decode cX11_bindsEssentials 45 = .ok (.iload 4, 2) := by decide +kernel
theorem dX11_bindsEssentials_47 : decode cX11_bindsEssentials 47 = .ok (.iaload, 1) := by decide +kernel
theorem dX11_bindsEssentials_48 : decode cX11_bindsEssentials 48 = .ok (.ifCond .ne 26, 3) := by decide +kernel
theorem dX11_bindsEssentials_51 : decode cX11_bindsEssentials 51 = .ok (.aload_n 0, 1) := by decide +kernel
theorem dX11_bindsEssentials_52 : decode cX11_bindsEssentials 52 = .ok (.getfield 37, 3) := by decide +kernel
theorem dX11_bindsEssentials_55 : decode cX11_bindsEssentials 55 = .ok (.aload_n 0, 1) := by decide +kernel
theorem dX11_bindsEssentials_56 : decode cX11_bindsEssentials 56 = .ok (.getfield 40, 3) := by decide +kernel
theorem dX11_bindsEssentials_59 : decode cX11_bindsEssentials 59 = .ok (.iload 4, 2) := by decide +kernel
theorem dX11_bindsEssentials_61 : decode cX11_bindsEssentials 61 = .ok (.invokevirtual 91, 3) := by decide +kernel
theorem dX11_bindsEssentials_64 : decode cX11_bindsEssentials 64 = .ok (.iaload, 1) := by decide +kernel
theorem dX11_bindsEssentials_65 : decode cX11_bindsEssentials 65 = .ok (.aload_n 0, 1) := by decide +kernel
theorem dX11_bindsEssentials_66 : decode cX11_bindsEssentials 66 = .ok (.getfield 147, 3) := by decide +kernel
theorem dX11_bindsEssentials_69 : decode cX11_bindsEssentials 69 = .ok (.if_icmp .eq 5, 3) := by decide +kernel
theorem dX11_bindsEssentials_72 : decode cX11_bindsEssentials 72 = .ok (.iconst 0, 1) := by decide +kernel
theorem dX11_bindsEssentials_73 : decode cX11_bindsEssentials 73 = .ok (.ireturn, 1) := by decide +kernel
theorem dX11_bindsEssentials_74 : decode cX11_bindsEssentials 74 = .ok (.iinc 3 1, 3) := by decide +kernel
theorem dX11_bindsEssentials_77 : decode cX11_bindsEssentials 77 = .ok (.goto (-65), 3) := by decide +kernel
theorem dX11_bindsEssentials_80 : decode cX11_bindsEssentials 80 = .ok (.iconst 1, 1) := by decide +kernel
theorem dX11_bindsEssentials_81 : decode cX11_bindsEssentials 81 = .ok (.ireturn, 1) := by decide +kernel
theorem dX2_init_0 : decode cX2_init 0 = .ok (.aload_n 0, 1) := by decide +kernel
theorem dX2_init_1 : decode cX2_init 1 = .ok (.invokespecial 3, 3) := by decide +kernel
theorem dX2_init_4 : decode cX2_init 4 = .ok (.aload_n 0, 1) := by decide +kernel
theorem dX2_init_5 : decode cX2_init 5 = .ok (.sipush 1500, 3) := by decide +kernel
theorem dX2_init_8 : decode cX2_init 8 = .ok (.newarray .int, 2) := by decide +kernel
theorem dX2_init_10 : decode cX2_init 10 = .ok (.putfield 9, 3) := by decide +kernel
theorem dX2_init_13 : decode cX2_init 13 = .ok (.aload_n 0, 1) := by decide +kernel
theorem dX2_init_14 : decode cX2_init 14 = .ok (.sipush 1500, 3) := by decide +kernel
theorem dX2_init_17 : decode cX2_init 17 = .ok (.newarray .int, 2) := by decide +kernel
theorem dX2_init_19 : decode cX2_init 19 = .ok (.putfield 15, 3) := by decide +kernel
theorem dX2_init_22 : decode cX2_init 22 = .ok (.aload_n 0, 1) := by decide +kernel
theorem dX2_init_23 : decode cX2_init 23 = .ok (.sipush 1500, 3) := by decide +kernel
theorem dX2_init_26 : decode cX2_init 26 = .ok (.newarray .int, 2) := by decide +kernel
theorem dX2_init_28 : decode cX2_init 28 = .ok (.putfield 18, 3) := by decide +kernel
theorem dX2_init_31 : decode cX2_init 31 = .ok (.aload_n 0, 1) := by decide +kernel
theorem dX2_init_32 : decode cX2_init 32 = .ok (.sipush 1500, 3) := by decide +kernel
theorem dX2_init_35 : decode cX2_init 35 = .ok (.newarray .int, 2) := by decide +kernel
theorem dX2_init_37 : decode cX2_init 37 = .ok (.putfield 21, 3) := by decide +kernel
theorem dX2_init_40 : decode cX2_init 40 = .ok (.aload_n 0, 1) := by decide +kernel
theorem dX2_init_41 : decode cX2_init 41 = .ok (.sipush 1500, 3) := by decide +kernel
theorem dX2_init_44 : decode cX2_init 44 = .ok (.newarray .boolean, 2) := by decide +kernel
theorem dX2_init_46 : decode cX2_init 46 = .ok (.putfield 24, 3) := by decide +kernel
theorem dX2_init_49 : decode cX2_init 49 = .ok (.aload_n 0, 1) := by decide +kernel
theorem dX2_init_50 : decode cX2_init 50 = .ok (.sipush 16384, 3) := by decide +kernel
theorem dX2_init_53 : decode cX2_init 53 = .ok (.newarray .int, 2) := by decide +kernel
theorem dX2_init_55 : decode cX2_init 55 = .ok (.putfield 28, 3) := by decide +kernel
theorem dX2_init_58 : decode cX2_init 58 = .ok (.aload_n 0, 1) := by decide +kernel
theorem dX2_init_59 : decode cX2_init 59 = .ok (.sipush 1500, 3) := by decide +kernel
theorem dX2_init_62 : decode cX2_init 62 = .ok (.newarray .int, 2) := by decide +kernel
theorem dX2_init_64 : decode cX2_init 64 = .ok (.putfield 31, 3) := by decide +kernel
theorem dX2_init_67 : decode cX2_init 67 = .ok (.aload_n 0, 1) := by decide +kernel
theorem dX2_init_68 : decode cX2_init 68 = .ok (.sipush 1500, 3) := by decide +kernel
theorem dX2_init_71 : decode cX2_init 71 = .ok (.newarray .int, 2) := by decide +kernel
theorem dX2_init_73 : decode cX2_init 73 = .ok (.putfield 34, 3) := by decide +kernel
theorem dX2_init_76 : decode cX2_init 76 = .ok (.aload_n 0, 1) := by decide +kernel
theorem dX2_init_77 : decode cX2_init 77 = .ok (.sipush 1000, 3) := by decide +kernel
theorem dX2_init_80 : decode cX2_init 80 = .ok (.newarray .int, 2) := by decide +kernel
theorem dX2_init_82 : decode cX2_init 82 = .ok (.putfield 37, 3) := by decide +kernel
theorem dX2_init_85 : decode cX2_init 85 = .ok (.aload_n 0, 1) := by decide +kernel
theorem dX2_init_86 : decode cX2_init 86 = .ok (.aload_n 1, 1) := by decide +kernel
theorem dX2_init_87 : decode cX2_init 87 = .ok (.putfield 40, 3) := by decide +kernel
theorem dX2_init_90 : decode cX2_init 90 = .ok (.aload_n 0, 1) := by decide +kernel
theorem dX2_init_91 : decode cX2_init 91 = .ok (.aload_n 2, 1) := by decide +kernel
theorem dX2_init_92 : decode cX2_init 92 = .ok (.putfield 44, 3) := by decide +kernel
theorem dX2_init_95 : decode cX2_init 95 = .ok (.aload_n 0, 1) := by decide +kernel
theorem dX2_init_96 : decode cX2_init 96 = .ok (.aload_n 3, 1) := by decide +kernel
theorem dX2_init_97 : decode cX2_init 97 = .ok (.putfield 48, 3) := by decide +kernel
theorem dX2_init_100 : decode cX2_init 100 = .ok (.aload_n 0, 1) := by decide +kernel
theorem dX2_init_101 : decode cX2_init 101 = .ok (.aload 4, 2) := by decide +kernel
theorem dX2_init_103 : decode cX2_init 103 = .ok (.putfield 52, 3) := by decide +kernel
theorem dX2_init_106 : decode cX2_init 106 = .ok (.aload_n 0, 1) := by decide +kernel
theorem dX2_init_107 : decode cX2_init 107 = .ok (.aload 5, 2) := by decide +kernel
theorem dX2_init_109 : decode cX2_init 109 = .ok (.putfield 56, 3) := by decide +kernel
theorem dX2_init_112 : decode cX2_init 112 = .ok (.aload_n 0, 1) := by decide +kernel
theorem dX2_init_113 : decode cX2_init 113 = .ok (.aload 6, 2) := by decide +kernel
theorem dX2_init_115 : decode cX2_init 115 = .ok (.putfield 60, 3) := by decide +kernel
theorem dX2_init_118 : decode cX2_init 118 = .ok (.return_, 1) := by decide +kernel
theorem dX2_turn_0 : decode cX2_turn 0 = .ok (.aload_n 0, 1) := by decide +kernel
theorem dX2_turn_1 : decode cX2_turn 1 = .ok (.getfield 24, 3) := by decide +kernel
theorem dX2_turn_4 : decode cX2_turn 4 = .ok (.iload_n 1, 1) := by decide +kernel
theorem dX2_turn_5 : decode cX2_turn 5 = .ok (.aload_n 0, 1) := by decide +kernel
theorem dX2_turn_6 : decode cX2_turn 6 = .ok (.getfield 24, 3) := by decide +kernel
theorem dX2_turn_9 : decode cX2_turn 9 = .ok (.iload_n 1, 1) := by decide +kernel
theorem dX2_turn_10 : decode cX2_turn 10 = .ok (.baload, 1) := by decide +kernel
theorem dX2_turn_11 : decode cX2_turn 11 = .ok (.ifCond .ne 7, 3) := by decide +kernel
theorem dX2_turn_14 : decode cX2_turn 14 = .ok (.iconst 1, 1) := by decide +kernel
theorem dX2_turn_15 : decode cX2_turn 15 = .ok (.goto 4, 3) := by decide +kernel
theorem dX2_turn_18 : decode cX2_turn 18 = .ok (.iconst 0, 1) := by decide +kernel
theorem dX2_turn_19 : decode cX2_turn 19 = .ok (.bastore, 1) := by decide +kernel
theorem dX2_turn_20 : decode cX2_turn 20 = .ok (.aload_n 0, 1) := by decide +kernel
theorem dX2_turn_21 : decode cX2_turn 21 = .ok (.dup, 1) := by decide +kernel
theorem dX2_turn_22 : decode cX2_turn 22 = .ok (.getfield 64, 3) := by decide +kernel
theorem dX2_turn_25 : decode cX2_turn 25 = .ok (.aload_n 0, 1) := by decide +kernel
theorem dX2_turn_26 : decode cX2_turn 26 = .ok (.getfield 24, 3) := by decide +kernel
theorem dX2_turn_29 : decode cX2_turn 29 = .ok (.iload_n 1, 1) := by decide +kernel
theorem dX2_turn_30 : decode cX2_turn 30 = .ok (.baload, 1) := by decide +kernel
theorem dX2_turn_31 : decode cX2_turn 31 = .ok (.ifCond .eq 7, 3) := by decide +kernel
theorem dX2_turn_34 : decode cX2_turn 34 = .ok (.iconst 1, 1) := by decide +kernel
theorem dX2_turn_35 : decode cX2_turn 35 = .ok (.goto 4, 3) := by decide +kernel
theorem dX2_turn_38 : decode cX2_turn 38 = .ok (.iconst (-1), 1) := by decide +kernel
theorem dX2_turn_39 : decode cX2_turn 39 = .ok (.iadd, 1) := by decide +kernel
theorem dX2_turn_40 : decode cX2_turn 40 = .ok (.putfield 64, 3) := by decide +kernel
theorem dX2_turn_43 : decode cX2_turn 43 = .ok (.aload_n 0, 1) := by decide +kernel
theorem dX2_turn_44 : decode cX2_turn 44 = .ok (.getfield 21, 3) := by decide +kernel
theorem dX2_turn_47 : decode cX2_turn 47 = .ok (.iconst 0, 1) := by decide +kernel
theorem dX2_turn_48 : decode cX2_turn 48 = .ok (.invokestatic 68, 3) := by decide +kernel
theorem dX2_turn_51 : decode cX2_turn 51 = .ok (.aload_n 0, 1) := by decide +kernel
theorem dX2_turn_52 : decode cX2_turn 52 = .ok (.iconst 0, 1) := by decide +kernel
theorem dX2_turn_53 : decode cX2_turn 53 = .ok (.putfield 74, 3) := by decide +kernel
theorem dX2_turn_56 : decode cX2_turn 56 = .ok (.aload_n 0, 1) := by decide +kernel
theorem dX2_turn_57 : decode cX2_turn 57 = .ok (.iconst 0, 1) := by decide +kernel
theorem dX2_turn_58 : decode cX2_turn 58 = .ok (.putfield 77, 3) := by decide +kernel
theorem dX2_turn_61 : decode cX2_turn 61 = .ok (.aload_n 0, 1) := by decide +kernel
theorem dX2_turn_62 : decode cX2_turn 62 = .ok (.getfield 64, 3) := by decide +kernel
theorem dX2_turn_65 : decode cX2_turn 65 = .ok (.ireturn, 1) := by decide +kernel
theorem dX2_study_0 : decode cX2_study 0 = .ok (.aload_n 0, 1) := by decide +kernel
theorem dX2_study_1 : decode cX2_study 1 = .ok (.getfield 80, 3) := by decide +kernel
theorem dX2_study_4 : decode cX2_study 4 = .ok (.istore_n 2, 1) := by decide +kernel
theorem dX2_study_5 : decode cX2_study 5 = .ok (.iload_n 2, 1) := by decide +kernel
theorem dX2_study_6 : decode cX2_study 6 = .ok (.iload_n 1, 1) := by decide +kernel
theorem dX2_study_7 : decode cX2_study 7 = .ok (.if_icmp .ge 143, 3) := by decide +kernel
theorem dX2_study_10 : decode cX2_study 10 = .ok (.aload_n 0, 1) := by decide +kernel
theorem dX2_study_11 : decode cX2_study 11 = .ok (.getfield 40, 3) := by decide +kernel
theorem dX2_study_14 : decode cX2_study 14 = .ok (.iload_n 2, 1) := by decide +kernel
theorem dX2_study_15 : decode cX2_study 15 = .ok (.invokevirtual 83, 3) := by decide +kernel
theorem dX2_study_18 : decode cX2_study 18 = .ok (.aload_n 0, 1) := by decide +kernel
theorem dX2_study_19 : decode cX2_study 19 = .ok (.getfield 48, 3) := by decide +kernel
theorem dX2_study_22 : decode cX2_study 22 = .ok (.getfield 89, 3) := by decide +kernel
theorem dX2_study_25 : decode cX2_study 25 = .ok (.if_icmp .ne 119, 3) := by decide +kernel
theorem dX2_study_28 : decode cX2_study 28 = .ok (.aload_n 0, 1) := by decide +kernel
theorem dX2_study_29 : decode cX2_study 29 = .ok (.getfield 40, 3) := by decide +kernel
theorem dX2_study_32 : decode cX2_study 32 = .ok (.iload_n 2, 1) := by decide +kernel
theorem dX2_study_33 : decode cX2_study 33 = .ok (.invokevirtual 94, 3) := by decide +kernel
theorem dX2_study_36 : decode cX2_study 36 = .ok (.bipush 60, 2) := by decide +kernel
theorem dX2_study_38 : decode cX2_study 38 = .ok (.if_icmp .le 6, 3) := by decide +kernel
theorem dX2_study_41 : decode cX2_study 41 = .ok (.goto 103, 3) := by decide +kernel
theorem dX2_study_44 : decode cX2_study 44 = .ok (.aload_n 0, 1) := by decide +kernel
theorem dX2_study_45 : decode cX2_study 45 = .ok (.getfield 52, 3) := by decide +kernel
theorem dX2_study_48 : decode cX2_study 48 = .ok (.iload_n 2, 1) := by decide +kernel
theorem dX2_study_49 : decode cX2_study 49 = .ok (.invokevirtual 97, 3) := by decide +kernel
theorem dX2_study_52 : decode cX2_study 52 = .ok (.aload_n 0, 1) := by decide +kernel
theorem dX2_study_53 : decode cX2_study 53 = .ok (.getfield 52, 3) := by decide +kernel
theorem dX2_study_56 : decode cX2_study 56 = .ok (.invokevirtual 103, 3) := by decide +kernel
theorem dX2_study_59 : decode cX2_study 59 = .ok (.iconst 1, 1) := by decide +kernel
theorem dX2_study_60 : decode cX2_study 60 = .ok (.if_icmp .ne 84, 3) := by decide +kernel
theorem dX2_study_63 : decode cX2_study 63 = .ok (.aload_n 0, 1) := by decide +kernel
theorem dX2_study_64 : decode cX2_study 64 = .ok (.getfield 56, 3) := by decide +kernel
theorem dX2_study_67 : decode cX2_study 67 = .ok (.invokevirtual 107, 3) := by decide +kernel
theorem dX2_study_70 : decode cX2_study 70 = .ok (.aload_n 0, 1) := by decide +kernel
theorem dX2_study_71 : decode cX2_study 71 = .ok (.iload_n 2, 1) := by decide +kernel
theorem dX2_study_72 : decode cX2_study 72 = .ok (.invokevirtual 112, 3) := by decide +kernel
theorem dX2_study_75 : decode cX2_study 75 = .ok (.aload_n 0, 1) := by decide +kernel
theorem dX2_study_76 : decode cX2_study 76 = .ok (.getfield 40, 3) := by decide +kernel
theorem dX2_study_79 : decode cX2_study 79 = .ok (.getfield 115, 3) := by decide +kernel
theorem dX2_study_82 : decode cX2_study 82 = .ok (.iload_n 2, 1) := by decide +kernel
theorem dX2_study_83 : decode cX2_study 83 = .ok (.iaload, 1) := by decide +kernel
theorem dX2_study_84 : decode cX2_study 84 = .ok (.iconst 2, 1) := by decide +kernel
theorem dX2_study_85 : decode cX2_study 85 = .ok (.if_icmp .ne 59, 3) := by decide +kernel
theorem dX2_study_88 : decode cX2_study 88 = .ok (.aload_n 0, 1) := by decide +kernel
theorem dX2_study_89 : decode cX2_study 89 = .ok (.getfield 44, 3) := by decide +kernel
theorem dX2_study_92 : decode cX2_study 92 = .ok (.iload_n 2, 1) := by decide +kernel
theorem dX2_study_93 : decode cX2_study 93 = .ok (.invokevirtual 118, 3) := by decide +kernel
theorem dX2_study_96 : decode cX2_study 96 = .ok (.ifCond .ne 48, 3) := by decide +kernel
theorem dX2_study_99 : decode cX2_study 99 = .ok (.aload_n 0, 1) := by decide +kernel
theorem dX2_study_100 : decode cX2_study 100 = .ok (.iload_n 2, 1) := by decide +kernel
theorem dX2_study_101 : decode cX2_study 101 = .ok (.invokevirtual 124, 3) := by decide +kernel
theorem dX2_study_104 : decode cX2_study 104 = .ok (.ifCond .eq 40, 3) := by decide +kernel
theorem dX2_study_107 : decode cX2_study 107 = .ok (.aload_n 0, 1) := by decide +kernel
theorem dX2_study_108 : decode cX2_study 108 = .ok (.getfield 15, 3) := by decide +kernel
theorem dX2_study_111 : decode cX2_study 111 = .ok (.iload_n 2, 1) := by decide +kernel
theorem dX2_study_112 : decode cX2_study 112 = .ok (.aload_n 0, 1) := by decide +kernel
theorem dX2_study_113 : decode cX2_study 113 = .ok (.getfield 56, 3) := by decide +kernel
theorem dX2_study_116 : decode cX2_study 116 = .ok (.getfield 127, 3) := by decide +kernel
theorem dX2_study_119 : decode cX2_study 119 = .ok (.iconst 0, 1) := by decide +kernel
theorem dX2_study_120 : decode cX2_study 120 = .ok (.iaload, 1) := by decide +kernel
theorem dX2_study_121 : decode cX2_study 121 = .ok (.iconst 1, 1) := by decide +kernel
theorem dX2_study_122 : decode cX2_study 122 = .ok (.iadd, 1) := by decide +kernel
theorem dX2_study_123 : decode cX2_study 123 = .ok (.iastore, 1) := by decide +kernel
theorem dX2_study_124 : decode cX2_study 124 = .ok (.aload_n 0, 1) := by decide +kernel
theorem dX2_study_125 : decode cX2_study 125 = .ok (.getfield 18, 3) := by decide +kernel
theorem dX2_study_128 : decode cX2_study 128 = .ok (.iload_n 2, 1) := by decide +kernel
theorem dX2_study_129 : decode cX2_study 129 = .ok (.aload_n 0, 1) := by decide +kernel
theorem dX2_study_130 : decode cX2_study 130 = .ok (.getfield 56, 3) := by decide +kernel
theorem dX2_study_133 : decode cX2_study 133 = .ok (.getfield 127, 3) := by decide +kernel
theorem dX2_study_136 : decode cX2_study 136 = .ok (.aload_n 0, 1) := by decide +kernel
theorem dX2_study_137 : decode cX2_study 137 = .ok (.getfield 130, 3) := by decide +kernel
theorem dX2_study_140 : decode cX2_study 140 = .ok (.iaload, 1) := by decide +kernel
theorem dX2_study_141 : decode cX2_study 141 = .ok (.iconst 1, 1) := by decide +kernel
theorem dX2_study_142 : decode cX2_study 142 = .ok (.iadd, 1) := by decide +kernel
theorem dX2_study_143 : decode cX2_study 143 = .ok (.iastore, 1) := by decide +kernel
theorem dX2_study_144 : decode cX2_study 144 = .ok (.iinc 2 1, 3) := by decide +kernel
theorem dX2_study_147 : decode cX2_study 147 = .ok (.goto (-142), 3) := by decide +kernel
theorem dX2_study_150 : decode cX2_study 150 = .ok (.aload_n 0, 1) := by decide +kernel
theorem dX2_study_151 : decode cX2_study 151 = .ok (.aload_n 0, 1) := by decide +kernel
theorem dX2_study_152 : decode cX2_study 152 = .ok (.getfield 80, 3) := by decide +kernel
theorem dX2_study_155 : decode cX2_study 155 = .ok (.iload_n 1, 1) := by decide +kernel
theorem dX2_study_156 : decode cX2_study 156 = .ok (.invokestatic 133, 3) := by decide +kernel
theorem dX2_study_159 : decode cX2_study 159 = .ok (.putfield 80, 3) := by decide +kernel
theorem dX2_study_162 : decode cX2_study 162 = .ok (.return_, 1) := by decide +kernel
theorem dX2_noteUses_0 : decode cX2_noteUses 0 = .ok (.iconst 0, 1) := by decide +kernel
theorem dX2_noteUses_1 : decode cX2_noteUses 1 = .ok (.istore_n 2, 1) := by decide +kernel
theorem dX2_noteUses_2 : decode cX2_noteUses 2 = .ok (.iload_n 2, 1) := by decide +kernel
theorem dX2_noteUses_3 : decode cX2_noteUses 3 = .ok (.aload_n 0, 1) := by decide +kernel
theorem dX2_noteUses_4 : decode cX2_noteUses 4 = .ok (.getfield 56, 3) := by decide +kernel
theorem dX2_noteUses_7 : decode cX2_noteUses 7 = .ok (.getfield 139, 3) := by decide +kernel
theorem dX2_noteUses_10 : decode cX2_noteUses 10 = .ok (.if_icmp .ge 43, 3) := by decide +kernel
theorem dX2_noteUses_13 : decode cX2_noteUses 13 = .ok (.aload_n 0, 1) := by decide +kernel
theorem dX2_noteUses_14 : decode cX2_noteUses 14 = .ok (.getfield 9, 3) := by decide +kernel
theorem dX2_noteUses_17 : decode cX2_noteUses 17 = .ok (.aload_n 0, 1) := by decide +kernel
theorem dX2_noteUses_18 : decode cX2_noteUses 18 = .ok (.getfield 56, 3) := by decide +kernel
theorem dX2_noteUses_21 : decode cX2_noteUses 21 = .ok (.getfield 127, 3) := by decide +kernel
theorem dX2_noteUses_24 : decode cX2_noteUses 24 = .ok (.iload_n 2, 1) := by decide +kernel
theorem dX2_noteUses_25 : decode cX2_noteUses 25 = .ok (.iaload, 1) := by decide +kernel
theorem dX2_noteUses_26 : decode cX2_noteUses 26 = .ok (.iaload, 1) := by decide +kernel
theorem dX2_noteUses_27 : decode cX2_noteUses 27 = .ok (.ifCond .ne 20, 3) := by decide +kernel
theorem dX2_noteUses_30 : decode cX2_noteUses 30 = .ok (.aload_n 0, 1) := by decide +kernel
theorem dX2_noteUses_31 : decode cX2_noteUses 31 = .ok (.getfield 9, 3) := by decide +kernel
theorem dX2_noteUses_34 : decode cX2_noteUses 34 = .ok (.aload_n 0, 1) := by decide +kernel
theorem dX2_noteUses_35 : decode cX2_noteUses 35 = .ok (.getfield 56, 3) := by decide +kernel
theorem dX2_noteUses_38 : decode cX2_noteUses 38 = .ok (.getfield 127, 3) := by decide +kernel
theorem dX2_noteUses_41 : decode cX2_noteUses 41 = .ok (.iload_n 2, 1) := by decide +kernel
theorem dX2_noteUses_42 : decode cX2_noteUses 42 = .ok (.iaload, 1) := by decide +kernel
theorem dX2_noteUses_43 : decode cX2_noteUses 43 = .ok (.iload_n 1, 1) := by decide +kernel
theorem dX2_noteUses_44 : decode cX2_noteUses 44 = .ok (.iconst 1, 1) := by decide +kernel
theorem dX2_noteUses_45 : decode cX2_noteUses 45 = .ok (.iadd, 1) := by decide +kernel
theorem dX2_noteUses_46 : decode cX2_noteUses 46 = .ok (.iastore, 1) := by decide +kernel
theorem dX2_noteUses_47 : decode cX2_noteUses 47 = .ok (.iinc 2 1, 3) := by decide +kernel
theorem dX2_noteUses_50 : decode cX2_noteUses 50 = .ok (.goto (-48), 3) := by decide +kernel
theorem dX2_noteUses_53 : decode cX2_noteUses 53 = .ok (.return_, 1) := by decide +kernel
theorem dX2_canDefine_0 : decode cX2_canDefine 0 = .ok (.aload_n 0, 1) := by decide +kernel
theorem dX2_canDefine_1 : decode cX2_canDefine 1 = .ok (.invokevirtual 142, 3) := by decide +kernel
theorem dX2_canDefine_4 : decode cX2_canDefine 4 = .ok (.ifCond .ne 5, 3) := by decide +kernel
theorem dX2_canDefine_7 : decode cX2_canDefine 7 = .ok (.iconst 0, 1) := by decide +kernel
theorem dX2_canDefine_8 : decode cX2_canDefine 8 = .ok (.ireturn, 1) := by decide +kernel
theorem dX2_canDefine_9 : decode cX2_canDefine 9 = .ok (.aload_n 0, 1) := by decide +kernel
theorem dX2_canDefine_10 : decode cX2_canDefine 10 = .ok (.getfield 56, 3) := by decide +kernel
theorem dX2_canDefine_13 : decode cX2_canDefine 13 = .ok (.getfield 127, 3) := by decide +kernel
theorem dX2_canDefine_16 : decode cX2_canDefine 16 = .ok (.aload_n 0, 1) := by decide +kernel
theorem dX2_canDefine_17 : decode cX2_canDefine 17 = .ok (.getfield 130, 3) := by decide +kernel
theorem dX2_canDefine_20 : decode cX2_canDefine 20 = .ok (.iaload, 1) := by decide +kernel
theorem dX2_canDefine_21 : decode cX2_canDefine 21 = .ok (.istore_n 2, 1) := by decide +kernel
theorem dX2_canDefine_22 : decode cX2_canDefine 22 = .ok (.aload_n 0, 1) := by decide +kernel
theorem dX2_canDefine_23 : decode cX2_canDefine 23 = .ok (.getfield 40, 3) := by decide +kernel
theorem dX2_canDefine_26 : decode cX2_canDefine 26 = .ok (.getfield 115, 3) := by decide +kernel
theorem dX2_canDefine_29 : decode cX2_canDefine 29 = .ok (.iload_n 2, 1) := by decide +kernel
theorem dX2_canDefine_30 : decode cX2_canDefine 30 = .ok (.iaload, 1) := by decide +kernel
theorem dX2_canDefine_31 : decode cX2_canDefine 31 = .ok (.iconst 2, 1) := by decide +kernel
theorem dX2_canDefine_32 : decode cX2_canDefine 32 = .ok (.if_icmp .ne 15, 3) := by decide +kernel
theorem dX2_canDefine_35 : decode cX2_canDefine 35 = .ok (.aload_n 0, 1) := by decide +kernel
theorem dX2_canDefine_36 : decode cX2_canDefine 36 = .ok (.getfield 9, 3) := by decide +kernel
theorem dX2_canDefine_39 : decode cX2_canDefine 39 = .ok (.iload_n 2, 1) := by decide +kernel
theorem dX2_canDefine_40 : decode cX2_canDefine 40 = .ok (.iaload, 1) := by decide +kernel
theorem dX2_canDefine_41 : decode cX2_canDefine 41 = .ok (.iload_n 1, 1) := by decide +kernel
theorem dX2_canDefine_42 : decode cX2_canDefine 42 = .ok (.iconst 1, 1) := by decide +kernel
theorem dX2_canDefine_43 : decode cX2_canDefine 43 = .ok (.iadd, 1) := by decide +kernel
theorem dX2_canDefine_44 : decode cX2_canDefine 44 = .ok (.if_icmp .eq 5, 3) := by decide +kernel
theorem dX2_canDefine_47 : decode cX2_canDefine 47 = .ok (.iconst 0, 1) := by decide +kernel
theorem dX2_canDefine_48 : decode cX2_canDefine 48 = .ok (.ireturn, 1) := by decide +kernel
theorem dX2_canDefine_49 : decode cX2_canDefine 49 = .ok (.aload_n 0, 1) := by decide +kernel
theorem dX2_canDefine_50 : decode cX2_canDefine 50 = .ok (.iload_n 2, 1) := by decide +kernel
theorem dX2_canDefine_51 : decode cX2_canDefine 51 = .ok (.invokevirtual 146, 3) := by decide +kernel
theorem dX2_canDefine_54 : decode cX2_canDefine 54 = .ok (.ifCond .eq 15, 3) := by decide +kernel
theorem dX2_canDefine_57 : decode cX2_canDefine 57 = .ok (.aload_n 0, 1) := by decide +kernel
theorem dX2_canDefine_58 : decode cX2_canDefine 58 = .ok (.iload_n 2, 1) := by decide +kernel
theorem dX2_canDefine_59 : decode cX2_canDefine 59 = .ok (.invokevirtual 149, 3) := by decide +kernel
theorem dX2_canDefine_62 : decode cX2_canDefine 62 = .ok (.ifCond .eq 7, 3) := by decide +kernel
theorem dX2_canDefine_65 : decode cX2_canDefine 65 = .ok (.iconst 1, 1) := by decide +kernel
theorem dX2_canDefine_66 : decode cX2_canDefine 66 = .ok (.goto 4, 3) := by decide +kernel
theorem dX2_canDefine_69 : decode cX2_canDefine 69 = .ok (.iconst 0, 1) := by decide +kernel
theorem dX2_canDefine_70 : decode cX2_canDefine 70 = .ok (.istore_n 3, 1) := by decide +kernel
theorem dX2_canDefine_71 : decode cX2_canDefine 71 = .ok (.aload_n 0, 1) := by decide +kernel
theorem dX2_canDefine_72 : decode cX2_canDefine 72 = .ok (.iload_n 2, 1) := by decide +kernel
theorem dX2_canDefine_73 : decode cX2_canDefine 73 = .ok (.invokevirtual 152, 3) := by decide +kernel
theorem dX2_canDefine_76 : decode cX2_canDefine 76 = .ok (.iload_n 3, 1) := by decide +kernel
theorem dX2_canDefine_77 : decode cX2_canDefine 77 = .ok (.ireturn, 1) := by decide +kernel
theorem dX2_partSides_0 : decode cX2_partSides 0 = .ok (.aload_n 0, 1) := by decide +kernel
theorem dX2_partSides_1 : decode cX2_partSides 1 = .ok (.getfield 56, 3) := by decide +kernel
theorem dX2_partSides_4 : decode cX2_partSides 4 = .ok (.getfield 127, 3) := by decide +kernel
theorem dX2_partSides_7 : decode cX2_partSides 7 = .ok (.iconst 0, 1) := by decide +kernel
theorem dX2_partSides_8 : decode cX2_partSides 8 = .ok (.iaload, 1) := by decide +kernel
theorem dX2_partSides_9 : decode cX2_partSides 9 = .ok (.istore_n 1, 1) := by decide +kernel
theorem dX2_partSides_10 : decode cX2_partSides 10 = .ok (.aload_n 0, 1) := by decide +kernel
theorem dX2_partSides_11 : decode cX2_partSides 11 = .ok (.getfield 40, 3) := by decide +kernel
theorem dX2_partSides_14 : decode cX2_partSides 14 = .ok (.getfield 115, 3) := by decide +kernel
theorem dX2_partSides_17 : decode cX2_partSides 17 = .ok (.iload_n 1, 1) := by decide +kernel
theorem dX2_partSides_18 : decode cX2_partSides 18 = .ok (.iaload, 1) := by decide +kernel
theorem dX2_partSides_19 : decode cX2_partSides 19 = .ok (.iconst 2, 1) := by decide +kernel
theorem dX2_partSides_20 : decode cX2_partSides 20 = .ok (.if_icmp .ne 16, 3) := by decide +kernel
theorem dX2_partSides_23 : decode cX2_partSides 23 = .ok (.aload_n 0, 1) := by decide +kernel
theorem dX2_partSides_24 : decode cX2_partSides 24 = .ok (.getfield 44, 3) := by decide +kernel
theorem dX2_partSides_27 : decode cX2_partSides 27 = .ok (.getfield 155, 3) := by decide +kernel
theorem dX2_partSides_30 : decode cX2_partSides 30 = .ok (.iload_n 1, 1) := by decide +kernel
theorem dX2_partSides_31 : decode cX2_partSides 31 = .ok (.iaload, 1) := by decide +kernel
theorem dX2_partSides_32 : decode cX2_partSides 32 = .ok (.iconst 2, 1) := by decide +kernel
theorem dX2_partSides_33 : decode cX2_partSides 33 = .ok (.if_icmp .eq 5, 3) := by decide +kernel
theorem dX2_partSides_36 : decode cX2_partSides 36 = .ok (.iconst 0, 1) := by decide +kernel
theorem dX2_partSides_37 : decode cX2_partSides 37 = .ok (.ireturn, 1) := by decide +kernel
theorem dX2_partSides_38 : decode cX2_partSides 38 = .ok (.aload_n 0, 1) := by decide +kernel
theorem dX2_partSides_39 : decode cX2_partSides 39 = .ok (.getfield 40, 3) := by decide +kernel
theorem dX2_partSides_42 : decode cX2_partSides 42 = .ok (.getfield 158, 3) := by decide +kernel
theorem dX2_partSides_45 : decode cX2_partSides 45 = .ok (.iload_n 1, 1) := by decide +kernel
theorem dX2_partSides_46 : decode cX2_partSides 46 = .ok (.iaload, 1) := by decide +kernel
theorem dX2_partSides_47 : decode cX2_partSides 47 = .ok (.iconst 1, 1) := by decide +kernel
theorem dX2_partSides_48 : decode cX2_partSides 48 = .ok (.iadd, 1) := by decide +kernel
theorem dX2_partSides_49 : decode cX2_partSides 49 = .ok (.istore_n 2, 1) := by decide +kernel
theorem dX2_partSides_50 : decode cX2_partSides 50 = .ok (.iload_n 2, 1) := by decide +kernel
theorem dX2_partSides_51 : decode cX2_partSides 51 = .ok (.aload_n 0, 1) := by decide +kernel
theorem dX2_partSides_52 : decode cX2_partSides 52 = .ok (.getfield 40, 3) := by decide +kernel
theorem dX2_partSides_55 : decode cX2_partSides 55 = .ok (.getfield 158, 3) := by decide +kernel
theorem dX2_partSides_58 : decode cX2_partSides 58 = .ok (.iload_n 1, 1) := by decide +kernel
theorem dX2_partSides_59 : decode cX2_partSides 59 = .ok (.iconst 1, 1) := by decide +kernel
theorem dX2_partSides_60 : decode cX2_partSides 60 = .ok (.iadd, 1) := by decide +kernel
theorem dX2_partSides_61 : decode cX2_partSides 61 = .ok (.iaload, 1) := by decide +kernel
theorem dX2_partSides_62 : decode cX2_partSides 62 = .ok (.iconst 1, 1) := by decide +kernel
theorem dX2_partSides_63 : decode cX2_partSides 63 = .ok (.isub, 1) := by decide +kernel
theorem dX2_partSides_64 : decode cX2_partSides 64 = .ok (.if_icmp .ge 22, 3) := by decide +kernel
theorem dX2_partSides_67 : decode cX2_partSides 67 = .ok (.aload_n 0, 1) := by decide +kernel
theorem dX2_partSides_68 : decode cX2_partSides 68 = .ok (.getfield 40, 3) := by decide +kernel
theorem dX2_partSides_71 : decode cX2_partSides 71 = .ok (.getfield 161, 3) := by decide +kernel
theorem dX2_partSides_74 : decode cX2_partSides 74 = .ok (.iload_n 2, 1) := by decide +kernel
theorem dX2_partSides_75 : decode cX2_partSides 75 = .ok (.iaload, 1) := by decide +kernel
theorem dX2_partSides_76 : decode cX2_partSides 76 = .ok (.iconst (-1), 1) := by decide +kernel
theorem dX2_partSides_77 : decode cX2_partSides 77 = .ok (.if_icmp .ne 9, 3) := by decide +kernel
theorem dX2_partSides_80 : decode cX2_partSides 80 = .ok (.iinc 2 1, 3) := by decide +kernel
theorem dX2_partSides_83 : decode cX2_partSides 83 = .ok (.goto (-33), 3) := by decide +kernel
theorem dX2_partSides_86 : decode cX2_partSides 86 = .ok (.aload_n 0, 1) := by decide +kernel
theorem dX2_partSides_87 : decode cX2_partSides 87 = .ok (.getfield 44, 3) := by decide +kernel
theorem dX2_partSides_90 : decode cX2_partSides 90 = .ok (.getfield 164, 3) := by decide +kernel
theorem dX2_partSides_93 : decode cX2_partSides 93 = .ok (.aload_n 0, 1) := by decide +kernel
theorem dX2_partSides_94 : decode cX2_partSides 94 = .ok (.getfield 44, 3) := by decide +kernel
theorem dX2_partSides_97 : decode cX2_partSides 97 = .ok (.getfield 167, 3) := by decide +kernel
theorem dX2_partSides_100 : decode cX2_partSides 100 = .ok (.iload_n 1, 1) := by decide +kernel
theorem dX2_partSides_101 : decode cX2_partSides 101 = .ok (.iaload, 1) := by decide +kernel
theorem dX2_partSides_102 : decode cX2_partSides 102 = .ok (.iaload, 1) := by decide +kernel
theorem dX2_partSides_103 : decode cX2_partSides 103 = .ok (.aload_n 0, 1) := by decide +kernel
theorem dX2_partSides_104 : decode cX2_partSides 104 = .ok (.getfield 40, 3) := by decide +kernel
theorem dX2_partSides_107 : decode cX2_partSides 107 = .ok (.getfield 161, 3) := by decide +kernel
theorem dX2_partSides_110 : decode cX2_partSides 110 = .ok (.iload_n 2, 1) := by decide +kernel
theorem dX2_partSides_111 : decode cX2_partSides 111 = .ok (.iaload, 1) := by decide +kernel
theorem dX2_partSides_112 : decode cX2_partSides 112 = .ok (.if_icmp .ne 7, 3) := by decide +kernel
theorem dX2_partSides_115 : decode cX2_partSides 115 = .ok (.iconst 1, 1) := by decide +kernel
theorem dX2_partSides_116 : decode cX2_partSides 116 = .ok (.goto 4, 3) := by decide +kernel
theorem dX2_partSides_119 : decode cX2_partSides 119 = .ok (.iconst 0, 1) := by decide +kernel
theorem dX2_partSides_120 : decode cX2_partSides 120 = .ok (.istore_n 3, 1) := by decide +kernel
theorem dX2_partSides_121 : decode cX2_partSides 121 = .ok (.aload_n 0, 1) := by decide +kernel
theorem dX2_partSides_122 : decode cX2_partSides 122 = .ok (.getfield 56, 3) := by decide +kernel
theorem dX2_partSides_125 : decode cX2_partSides 125 = .ok (.iconst 1, 1) := by decide +kernel
theorem dX2_partSides_126 : decode cX2_partSides 126 = .ok (.invokevirtual 170, 3) := by decide +kernel
theorem dX2_partSides_129 : decode cX2_partSides 129 = .ok (.istore 4, 2) := by decide +kernel
theorem dX2_partSides_131 : decode cX2_partSides 131 = .ok (.aload_n 0, 1) := by decide +kernel
theorem dX2_partSides_132 : decode cX2_partSides 132 = .ok (.iload_n 3, 1) := by decide +kernel
theorem dX2_partSides_133 : decode cX2_partSides 133 = .ok (.ifCond .eq 8, 3) := by decide +kernel
theorem dX2_partSides_136 : decode cX2_partSides 136 = .ok (.iload 4, 2) := by decide +kernel
theorem dX2_partSides_138 : decode cX2_partSides 138 = .ok (.goto 4, 3) := by decide +kernel
theorem dX2_partSides_141 : decode cX2_partSides 141 = .ok (.iconst 1, 1) := by decide +kernel
theorem dX2_partSides_142 : decode cX2_partSides 142 = .ok (.putfield 130, 3) := by decide +kernel
theorem dX2_partSides_145 : decode cX2_partSides 145 = .ok (.aload_n 0, 1) := by decide +kernel
theorem dX2_partSides_146 : decode cX2_partSides 146 = .ok (.iload_n 3, 1) := by decide +kernel
theorem dX2_partSides_147 : decode cX2_partSides 147 = .ok (.ifCond .eq 7, 3) := by decide +kernel
theorem dX2_partSides_150 : decode cX2_partSides 150 = .ok (.iconst 1, 1) := by decide +kernel
theorem dX2_partSides_151 : decode cX2_partSides 151 = .ok (.goto 5, 3) := by decide +kernel
theorem dX2_partSides_154 : decode cX2_partSides 154 = .ok (.iload 4, 2) := by decide +kernel
theorem dX2_partSides_156 : decode cX2_partSides 156 = .ok (.putfield 173, 3) := by decide +kernel
theorem dX2_partSides_159 : decode cX2_partSides 159 = .ok (.iload 4, 2) := by decide +kernel
theorem dX2_partSides_161 : decode cX2_partSides 161 = .ok (.aload_n 0, 1) := by decide +kernel
theorem dX2_partSides_162 : decode cX2_partSides 162 = .ok (.getfield 56, 3) := by decide +kernel
theorem dX2_partSides_165 : decode cX2_partSides 165 = .ok (.getfield 139, 3) := by decide +kernel
theorem dX2_partSides_168 : decode cX2_partSides 168 = .ok (.if_icmp .ge 7, 3) := by decide +kernel
theorem dX2_partSides_171 : decode cX2_partSides 171 = .ok (.iconst 1, 1) := by decide +kernel
theorem dX2_partSides_172 : decode cX2_partSides 172 = .ok (.goto 4, 3) := by decide +kernel
theorem dX2_partSides_175 : decode cX2_partSides 175 = .ok (.iconst 0, 1) := by decide +kernel
theorem dX2_partSides_176 : decode cX2_partSides 176 = .ok (.ireturn, 1) := by decide +kernel
theorem dX2_fillSlots_0 : decode cX2_fillSlots 0 = .ok (.aload_n 0, 1) := by decide +kernel
theorem dX2_fillSlots_1 : decode cX2_fillSlots 1 = .ok (.getfield 44, 3) := by decide +kernel
theorem dX2_fillSlots_4 : decode cX2_fillSlots 4 = .ok (.getfield 155, 3) := by decide +kernel
theorem dX2_fillSlots_7 : decode cX2_fillSlots 7 = .ok (.iload_n 1, 1) := by decide +kernel
theorem dX2_fillSlots_8 : decode cX2_fillSlots 8 = .ok (.iaload, 1) := by decide +kernel
theorem dX2_fillSlots_9 : decode cX2_fillSlots 9 = .ok (.istore_n 2, 1) := by decide +kernel
theorem dX2_fillSlots_10 : decode cX2_fillSlots 10 = .ok (.iconst 1, 1) := by decide +kernel
theorem dX2_fillSlots_11 : decode cX2_fillSlots 11 = .ok (.istore_n 3, 1) := by decide +kernel
theorem dX2_fillSlots_12 : decode cX2_fillSlots 12 = .ok (.iload_n 3, 1) := by decide +kernel
theorem dX2_fillSlots_13 : decode cX2_fillSlots 13 = .ok (.iload_n 2, 1) := by decide +kernel
theorem dX2_fillSlots_14 : decode cX2_fillSlots 14 = .ok (.if_icmp .gt 78, 3) := by decide +kernel
theorem dX2_fillSlots_17 : decode cX2_fillSlots 17 = .ok (.aload_n 0, 1) := by decide +kernel
theorem dX2_fillSlots_18 : decode cX2_fillSlots 18 = .ok (.getfield 56, 3) := by decide +kernel
theorem dX2_fillSlots_21 : decode cX2_fillSlots 21 = .ok (.getfield 127, 3) := by decide +kernel
theorem dX2_fillSlots_24 : decode cX2_fillSlots 24 = .ok (.aload_n 0, 1) := by decide +kernel
theorem dX2_fillSlots_25 : decode cX2_fillSlots 25 = .ok (.getfield 130, 3) := by decide +kernel
theorem dX2_fillSlots_28 : decode cX2_fillSlots 28 = .ok (.iload_n 3, 1) := by decide +kernel
theorem dX2_fillSlots_29 : decode cX2_fillSlots 29 = .ok (.iadd, 1) := by decide +kernel
theorem dX2_fillSlots_30 : decode cX2_fillSlots 30 = .ok (.iaload, 1) := by decide +kernel
theorem dX2_fillSlots_31 : decode cX2_fillSlots 31 = .ok (.istore 4, 2) := by decide +kernel
theorem dX2_fillSlots_33 : decode cX2_fillSlots 33 = .ok (.aload_n 0, 1) := by decide +kernel
theorem dX2_fillSlots_34 : decode cX2_fillSlots 34 = .ok (.getfield 40, 3) := by decide +kernel
theorem dX2_fillSlots_37 : decode cX2_fillSlots 37 = .ok (.getfield 115, 3) := by decide +kernel
theorem dX2_fillSlots_40 : decode cX2_fillSlots 40 = .ok (.iload 4, 2) := by decide +kernel
theorem dX2_fillSlots_42 : decode cX2_fillSlots 42 = .ok (.iaload, 1) := by decide +kernel
theorem dX2_fillSlots_43 : decode cX2_fillSlots 43 = .ok (.ifCond .ne 20, 3) := by decide +kernel
theorem dX2_fillSlots_46 : decode cX2_fillSlots 46 = .ok (.aload_n 0, 1) := by decide +kernel
theorem dX2_fillSlots_47 : decode cX2_fillSlots 47 = .ok (.getfield 37, 3) := by decide +kernel
theorem dX2_fillSlots_50 : decode cX2_fillSlots 50 = .ok (.aload_n 0, 1) := by decide +kernel
theorem dX2_fillSlots_51 : decode cX2_fillSlots 51 = .ok (.getfield 40, 3) := by decide +kernel
theorem dX2_fillSlots_54 : decode cX2_fillSlots 54 = .ok (.iload 4, 2) := by decide +kernel
theorem dX2_fillSlots_56 : decode cX2_fillSlots 56 = .ok (.invokevirtual 176, 3) := by decide +kernel
theorem dX2_fillSlots_59 : decode cX2_fillSlots 59 = .ok (.iaload, 1) := by decide +kernel
theorem dX2_fillSlots_60 : decode cX2_fillSlots 60 = .ok (.ifCond .eq 5, 3) := by decide +kernel
theorem dX2_fillSlots_63 : decode cX2_fillSlots 63 = .ok (.iconst 0, 1) := by decide +kernel
theorem dX2_fillSlots_64 : decode cX2_fillSlots 64 = .ok (.ireturn, 1) := by decide +kernel
theorem dX2_fillSlots_65 : decode cX2_fillSlots 65 = .ok (.aload_n 0, 1) := by decide +kernel
theorem dX2_fillSlots_66 : decode cX2_fillSlots 66 = .ok (.getfield 37, 3) := by decide +kernel
theorem dX2_fillSlots_69 : decode cX2_fillSlots 69 = .ok (.aload_n 0, 1) := by decide +kernel
theorem dX2_fillSlots_70 : decode cX2_fillSlots 70 = .ok (.getfield 40, 3) := by decide +kernel
theorem dX2_fillSlots_73 : decode cX2_fillSlots 73 = .ok (.iload 4, 2) := by decide +kernel
theorem dX2_fillSlots_75 : decode cX2_fillSlots 75 = .ok (.invokevirtual 176, 3) := by decide +kernel
theorem dX2_fillSlots_78 : decode cX2_fillSlots 78 = .ok (.sipush 1000, 3) := by decide +kernel
theorem dX2_fillSlots_81 : decode cX2_fillSlots 81 = .ok (.iload_n 2, 1) := by decide +kernel
theorem dX2_fillSlots_82 : decode cX2_fillSlots 82 = .ok (.iadd, 1) := by decide +kernel
theorem dX2_fillSlots_83 : decode cX2_fillSlots 83 = .ok (.iload_n 3, 1) := by decide +kernel
theorem dX2_fillSlots_84 : decode cX2_fillSlots 84 = .ok (.isub, 1) := by decide +kernel
theorem dX2_fillSlots_85 : decode cX2_fillSlots 85 = .ok (.iastore, 1) := by decide +kernel
theorem dX2_fillSlots_86 : decode cX2_fillSlots 86 = .ok (.iinc 3 1, 3) := by decide +kernel
theorem dX2_fillSlots_89 : decode cX2_fillSlots 89 = .ok (.goto (-77), 3) := by decide +kernel
theorem dX2_fillSlots_92 : decode cX2_fillSlots 92 = .ok (.iconst 1, 1) := by decide +kernel
theorem dX2_fillSlots_93 : decode cX2_fillSlots 93 = .ok (.ireturn, 1) := by decide +kernel
theorem dX2_clearSlots_0 : decode cX2_clearSlots 0 = .ok (.iconst 1, 1) := by decide +kernel
theorem dX2_clearSlots_1 : decode cX2_clearSlots 1 = .ok (.istore_n 2, 1) := by decide +kernel
theorem dX2_clearSlots_2 : decode cX2_clearSlots 2 = .ok (.iload_n 2, 1) := by decide +kernel
theorem dX2_clearSlots_3 : decode cX2_clearSlots 3 = .ok (.aload_n 0, 1) := by decide +kernel
theorem dX2_clearSlots_4 : decode cX2_clearSlots 4 = .ok (.getfield 44, 3) := by decide +kernel
theorem dX2_clearSlots_7 : decode cX2_clearSlots 7 = .ok (.getfield 155, 3) := by decide +kernel
theorem dX2_clearSlots_10 : decode cX2_clearSlots 10 = .ok (.iload_n 1, 1) := by decide +kernel
theorem dX2_clearSlots_11 : decode cX2_clearSlots 11 = .ok (.iaload, 1) := by decide +kernel
theorem dX2_clearSlots_12 : decode cX2_clearSlots 12 = .ok (.if_icmp .gt 50, 3) := by decide +kernel
theorem dX2_clearSlots_15 : decode cX2_clearSlots 15 = .ok (.aload_n 0, 1) := by decide +kernel
theorem dX2_clearSlots_16 : decode cX2_clearSlots 16 = .ok (.getfield 56, 3) := by decide +kernel
theorem dX2_clearSlots_19 : decode cX2_clearSlots 19 = .ok (.getfield 127, 3) := by decide +kernel
theorem dX2_clearSlots_22 : decode cX2_clearSlots 22 = .ok (.aload_n 0, 1) := by decide +kernel
theorem dX2_clearSlots_23 : decode cX2_clearSlots 23 = .ok (.getfield 130, 3) := by decide +kernel
theorem dX2_clearSlots_26 : decode cX2_clearSlots 26 = .ok (.iload_n 2, 1) := by decide +kernel
theorem dX2_clearSlots_27 : decode cX2_clearSlots 27 = .ok (.iadd, 1) := by decide +kernel
theorem dX2_clearSlots_28 : decode cX2_clearSlots 28 = .ok (.iaload, 1) := by decide +kernel
theorem dX2_clearSlots_29 : decode cX2_clearSlots 29 = .ok (.istore_n 3, 1) := by decide +kernel
theorem dX2_clearSlots_30 : decode cX2_clearSlots 30 = .ok (.aload_n 0, 1) := by decide +kernel
theorem dX2_clearSlots_31 : decode cX2_clearSlots 31 = .ok (.getfield 40, 3) := by decide +kernel
theorem dX2_clearSlots_34 : decode cX2_clearSlots 34 = .ok (.getfield 115, 3) := by decide +kernel
theorem dX2_clearSlots_37 : decode cX2_clearSlots 37 = .ok (.iload_n 3, 1) := by decide +kernel
theorem dX2_clearSlots_38 : decode cX2_clearSlots 38 = .ok (.iaload, 1) := by decide +kernel
theorem dX2_clearSlots_39 : decode cX2_clearSlots 39 = .ok (.ifCond .ne 17, 3) := by decide +kernel
theorem dX2_clearSlots_42 : decode cX2_clearSlots 42 = .ok (.aload_n 0, 1) := by decide +kernel
theorem dX2_clearSlots_43 : decode cX2_clearSlots 43 = .ok (.getfield 37, 3) := by decide +kernel
theorem dX2_clearSlots_46 : decode cX2_clearSlots 46 = .ok (.aload_n 0, 1) := by decide +kernel
theorem dX2_clearSlots_47 : decode cX2_clearSlots 47 = .ok (.getfield 40, 3) := by decide +kernel
theorem dX2_clearSlots_50 : decode cX2_clearSlots 50 = .ok (.iload_n 3, 1) := by decide +kernel
theorem dX2_clearSlots_51 : decode cX2_clearSlots 51 = .ok (.invokevirtual 176, 3) := by decide +kernel
theorem dX2_clearSlots_54 : decode cX2_clearSlots 54 = .ok (.iconst 0, 1) := by decide +kernel
theorem dX2_clearSlots_55 : decode cX2_clearSlots 55 = .ok (.iastore, 1) := by decide +kernel
theorem dX2_clearSlots_56 : decode cX2_clearSlots 56 = .ok (.iinc 2 1, 3) := by decide +kernel
theorem dX2_clearSlots_59 : decode cX2_clearSlots 59 = .ok (.goto (-57), 3) := by decide +kernel
theorem dX2_clearSlots_62 : decode cX2_clearSlots 62 = .ok (.return_, 1) := by decide +kernel
theorem dX2_secondHasNoOther_0 : decode cX2_secondHasNoOther 0 = .ok (.aload_n 0, 1) := by decide +kernel
theorem dX2_secondHasNoOther_1 : decode cX2_secondHasNoOther 1 = .ok (.getfield 56, 3) := by decide +kernel
theorem dX2_secondHasNoOther_4 : decode cX2_secondHasNoOther 4 = .ok (.aload_n 0, 1) := by decide +kernel
theorem dX2_secondHasNoOther_5 : decode cX2_secondHasNoOther 5 = .ok (.getfield 173, 3) := by decide +kernel
theorem dX2_secondHasNoOther_8 : decode cX2_secondHasNoOther 8 = .ok (.invokevirtual 170, 3) := by decide +kernel
theorem dX2_secondHasNoOther_11 : decode cX2_secondHasNoOther 11 = .ok (.istore_n 2, 1) := by decide +kernel
theorem dX2_secondHasNoOther_12 : decode cX2_secondHasNoOther 12 = .ok (.aload_n 0, 1) := by decide +kernel
theorem dX2_secondHasNoOther_13 : decode cX2_secondHasNoOther 13 = .ok (.getfield 173, 3) := by decide +kernel
theorem dX2_secondHasNoOther_16 : decode cX2_secondHasNoOther 16 = .ok (.istore_n 3, 1) := by decide +kernel
theorem dX2_secondHasNoOther_17 : decode cX2_secondHasNoOther 17 = .ok (.iload_n 3, 1) := by decide +kernel
theorem dX2_secondHasNoOther_18 : decode cX2_secondHasNoOther 18 = .ok (.iload_n 2, 1) := by decide +kernel
theorem dX2_secondHasNoOther_19 : decode cX2_secondHasNoOther 19 = .ok (.if_icmp .ge 58, 3) := by decide +kernel
theorem dX2_secondHasNoOther_22 : decode cX2_secondHasNoOther 22 = .ok (.aload_n 0, 1) := by decide +kernel
theorem dX2_secondHasNoOther_23 : decode cX2_secondHasNoOther 23 = .ok (.getfield 56, 3) := by decide +kernel
theorem dX2_secondHasNoOther_26 : decode cX2_secondHasNoOther 26 = .ok (.getfield 127, 3) := by decide +kernel
theorem dX2_secondHasNoOther_29 : decode cX2_secondHasNoOther 29 = .ok (.iload_n 3, 1) := by decide +kernel
theorem dX2_secondHasNoOther_30 : decode cX2_secondHasNoOther 30 = .ok (.iaload, 1) := by decide +kernel
theorem dX2_secondHasNoOther_31 : decode cX2_secondHasNoOther 31 = .ok (.istore 4, 2) := by decide +kernel
theorem dX2_secondHasNoOther_33 : decode cX2_secondHasNoOther 33 = .ok (.iload 4, 2) := by decide +kernel
theorem dX2_secondHasNoOther_35 : decode cX2_secondHasNoOther 35 = .ok (.iload_n 1, 1) := by decide +kernel
theorem dX2_secondHasNoOther_36 : decode cX2_secondHasNoOther 36 = .ok (.if_icmp .eq 33, 3) := by decide +kernel
theorem dX2_secondHasNoOther_39 : decode cX2_secondHasNoOther 39 = .ok (.aload_n 0, 1) := by decide +kernel
theorem dX2_secondHasNoOther_40 : decode cX2_secondHasNoOther 40 = .ok (.getfield 40, 3) := by decide +kernel
theorem dX2_secondHasNoOther_43 : decode cX2_secondHasNoOther 43 = .ok (.getfield 115, 3) := by decide +kernel
theorem dX2_secondHasNoOther_46 : decode cX2_secondHasNoOther 46 = .ok (.iload 4, 2) := by decide +kernel
theorem dX2_secondHasNoOther_48 : decode cX2_secondHasNoOther 48 = .ok (.iaload, 1) := by decide +kernel
theorem dX2_secondHasNoOther_49 : decode cX2_secondHasNoOther 49 = .ok (.ifCond .ne 22, 3) := by decide +kernel
theorem dX2_secondHasNoOther_52 : decode cX2_secondHasNoOther 52 = .ok (.aload_n 0, 1) := by decide +kernel
theorem dX2_secondHasNoOther_53 : decode cX2_secondHasNoOther 53 = .ok (.getfield 37, 3) := by decide +kernel
theorem dX2_secondHasNoOther_56 : decode cX2_secondHasNoOther 56 = .ok (.aload_n 0, 1) := by decide +kernel
theorem dX2_secondHasNoOther_57 : decode cX2_secondHasNoOther 57 = .ok (.getfield 40, 3) := by decide +kernel
theorem dX2_secondHasNoOther_60 : decode cX2_secondHasNoOther 60 = .ok (.iload 4, 2) := by decide +kernel
theorem dX2_secondHasNoOther_62 : decode cX2_secondHasNoOther 62 = .ok (.invokevirtual 176, 3) := by decide +kernel
theorem dX2_secondHasNoOther_65 : decode cX2_secondHasNoOther 65 = .ok (.iaload, 1) := by decide +kernel
theorem dX2_secondHasNoOther_66 : decode cX2_secondHasNoOther 66 = .ok (.ifCond .ne 5, 3) := by decide +kernel
theorem dX2_secondHasNoOther_69 : decode cX2_secondHasNoOther 69 = .ok (.iconst 0, 1) := by decide +kernel
theorem dX2_secondHasNoOther_70 : decode cX2_secondHasNoOther 70 = .ok (.ireturn, 1) := by decide +kernel
theorem dX2_secondHasNoOther_71 : decode cX2_secondHasNoOther 71 = .ok (.iinc 3 1, 3) := by decide +kernel
theorem dX2_secondHasNoOther_74 : decode cX2_secondHasNoOther 74 = .ok (.goto (-57), 3) := by decide +kernel
theorem dX2_secondHasNoOther_77 : decode cX2_secondHasNoOther 77 = .ok (.iconst 1, 1) := by decide +kernel
theorem dX2_secondHasNoOther_78 : decode cX2_secondHasNoOther 78 = .ok (.ireturn, 1) := by decide +kernel
theorem dX2_definedRule_0 : decode cX2_definedRule 0 = .ok (.aload_n 0, 1) := by decide +kernel
theorem dX2_definedRule_1 : decode cX2_definedRule 1 = .ok (.getfield 15, 3) := by decide +kernel
theorem dX2_definedRule_4 : decode cX2_definedRule 4 = .ok (.iload_n 1, 1) := by decide +kernel
theorem dX2_definedRule_5 : decode cX2_definedRule 5 = .ok (.iaload, 1) := by decide +kernel
theorem dX2_definedRule_6 : decode cX2_definedRule 6 = .ok (.ifCond .eq 35, 3) := by decide +kernel
theorem dX2_definedRule_9 : decode cX2_definedRule 9 = .ok (.aload_n 0, 1) := by decide +kernel
theorem dX2_definedRule_10 : decode cX2_definedRule 10 = .ok (.getfield 24, 3) := by decide +kernel
theorem dX2_definedRule_13 : decode cX2_definedRule 13 = .ok (.aload_n 0, 1) := by decide +kernel
theorem dX2_definedRule_14 : decode cX2_definedRule 14 = .ok (.getfield 15, 3) := by decide +kernel
theorem dX2_definedRule_17 : decode cX2_definedRule 17 = .ok (.iload_n 1, 1) := by decide +kernel
theorem dX2_definedRule_18 : decode cX2_definedRule 18 = .ok (.iaload, 1) := by decide +kernel
theorem dX2_definedRule_19 : decode cX2_definedRule 19 = .ok (.iconst 1, 1) := by decide +kernel
theorem dX2_definedRule_20 : decode cX2_definedRule 20 = .ok (.isub, 1) := by decide +kernel
theorem dX2_definedRule_21 : decode cX2_definedRule 21 = .ok (.baload, 1) := by decide +kernel
theorem dX2_definedRule_22 : decode cX2_definedRule 22 = .ok (.ifCond .eq 19, 3) := by decide +kernel
theorem dX2_definedRule_25 : decode cX2_definedRule 25 = .ok (.aload_n 0, 1) := by decide +kernel
theorem dX2_definedRule_26 : decode cX2_definedRule 26 = .ok (.getfield 24, 3) := by decide +kernel
theorem dX2_definedRule_29 : decode cX2_definedRule 29 = .ok (.aload_n 0, 1) := by decide +kernel
theorem dX2_definedRule_30 : decode cX2_definedRule 30 = .ok (.getfield 18, 3) := by decide +kernel
theorem dX2_definedRule_33 : decode cX2_definedRule 33 = .ok (.iload_n 1, 1) := by decide +kernel
theorem dX2_definedRule_34 : decode cX2_definedRule 34 = .ok (.iaload, 1) := by decide +kernel
theorem dX2_definedRule_35 : decode cX2_definedRule 35 = .ok (.iconst 1, 1) := by decide +kernel
theorem dX2_definedRule_36 : decode cX2_definedRule 36 = .ok (.isub, 1) := by decide +kernel
theorem dX2_definedRule_37 : decode cX2_definedRule 37 = .ok (.baload, 1) := by decide +kernel
theorem dX2_definedRule_38 : decode cX2_definedRule 38 = .ok (.ifCond .eq 5, 3) := by decide +kernel
theorem dX2_definedRule_41 : decode cX2_definedRule 41 = .ok (.iconst (-1), 1) := by decide +kernel
theorem dX2_definedRule_42 : decode cX2_definedRule 42 = .ok (.ireturn, 1) := by decide +kernel
theorem dX2_definedRule_43 : decode cX2_definedRule 43 = .ok (.aload_n 0, 1) := by decide +kernel
theorem dX2_definedRule_44 : decode cX2_definedRule 44 = .ok (.getfield 18, 3) := by decide +kernel
theorem dX2_definedRule_47 : decode cX2_definedRule 47 = .ok (.iload_n 1, 1) := by decide +kernel
theorem dX2_definedRule_48 : decode cX2_definedRule 48 = .ok (.iaload, 1) := by decide +kernel
theorem dX2_definedRule_49 : decode cX2_definedRule 49 = .ok (.iconst 1, 1) := by decide +kernel
theorem dX2_definedRule_50 : decode cX2_definedRule 50 = .ok (.isub, 1) := by decide +kernel
theorem dX2_definedRule_51 : decode cX2_definedRule 51 = .ok (.ireturn, 1) := by decide +kernel
theorem dX2_prepare_0 : decode cX2_prepare 0 = .ok (.aload_n 0, 1) := by decide +kernel
theorem dX2_prepare_1 : decode cX2_prepare 1 = .ok (.getfield 74, 3) := by decide +kernel
theorem dX2_prepare_4 : decode cX2_prepare 4 = .ok (.istore_n 2, 1) := by decide +kernel
theorem dX2_prepare_5 : decode cX2_prepare 5 = .ok (.iload_n 2, 1) := by decide +kernel
theorem dX2_prepare_6 : decode cX2_prepare 6 = .ok (.iload_n 1, 1) := by decide +kernel
theorem dX2_prepare_7 : decode cX2_prepare 7 = .ok (.if_icmp .ge 48, 3) := by decide +kernel
theorem dX2_prepare_10 : decode cX2_prepare 10 = .ok (.aload_n 0, 1) := by decide +kernel
theorem dX2_prepare_11 : decode cX2_prepare 11 = .ok (.iload_n 2, 1) := by decide +kernel
theorem dX2_prepare_12 : decode cX2_prepare 12 = .ok (.invokevirtual 179, 3) := by decide +kernel
theorem dX2_prepare_15 : decode cX2_prepare 15 = .ok (.istore_n 3, 1) := by decide +kernel
theorem dX2_prepare_16 : decode cX2_prepare 16 = .ok (.iload_n 3, 1) := by decide +kernel
theorem dX2_prepare_17 : decode cX2_prepare 17 = .ok (.iconst (-1), 1) := by decide +kernel
theorem dX2_prepare_18 : decode cX2_prepare 18 = .ok (.if_icmp .ne 6, 3) := by decide +kernel
theorem dX2_prepare_21 : decode cX2_prepare 21 = .ok (.goto 28, 3) := by decide +kernel
theorem dX2_prepare_24 : decode cX2_prepare 24 = .ok (.aload_n 0, 1) := by decide +kernel
theorem dX2_prepare_25 : decode cX2_prepare 25 = .ok (.getfield 52, 3) := by decide +kernel
theorem dX2_prepare_28 : decode cX2_prepare 28 = .ok (.iload_n 2, 1) := by decide +kernel
theorem dX2_prepare_29 : decode cX2_prepare 29 = .ok (.invokevirtual 97, 3) := by decide +kernel
theorem dX2_prepare_32 : decode cX2_prepare 32 = .ok (.aload_n 0, 1) := by decide +kernel
theorem dX2_prepare_33 : decode cX2_prepare 33 = .ok (.getfield 52, 3) := by decide +kernel
theorem dX2_prepare_36 : decode cX2_prepare 36 = .ok (.invokevirtual 103, 3) := by decide +kernel
theorem dX2_prepare_39 : decode cX2_prepare 39 = .ok (.iconst 1, 1) := by decide +kernel
theorem dX2_prepare_40 : decode cX2_prepare 40 = .ok (.if_icmp .ne 9, 3) := by decide +kernel
theorem dX2_prepare_43 : decode cX2_prepare 43 = .ok (.aload_n 0, 1) := by decide +kernel
theorem dX2_prepare_44 : decode cX2_prepare 44 = .ok (.iload_n 2, 1) := by decide +kernel
theorem dX2_prepare_45 : decode cX2_prepare 45 = .ok (.iload_n 3, 1) := by decide +kernel
theorem dX2_prepare_46 : decode cX2_prepare 46 = .ok (.invokevirtual 182, 3) := by decide +kernel
theorem dX2_prepare_49 : decode cX2_prepare 49 = .ok (.iinc 2 1, 3) := by decide +kernel
theorem dX2_prepare_52 : decode cX2_prepare 52 = .ok (.goto (-47), 3) := by decide +kernel
theorem dX2_prepare_55 : decode cX2_prepare 55 = .ok (.aload_n 0, 1) := by decide +kernel
theorem dX2_prepare_56 : decode cX2_prepare 56 = .ok (.aload_n 0, 1) := by decide +kernel
theorem dX2_prepare_57 : decode cX2_prepare 57 = .ok (.getfield 74, 3) := by decide +kernel
theorem dX2_prepare_60 : decode cX2_prepare 60 = .ok (.iload_n 1, 1) := by decide +kernel
theorem dX2_prepare_61 : decode cX2_prepare 61 = .ok (.invokestatic 133, 3) := by decide +kernel
theorem dX2_prepare_64 : decode cX2_prepare 64 = .ok (.putfield 74, 3) := by decide +kernel
theorem dX2_prepare_67 : decode cX2_prepare 67 = .ok (.return_, 1) := by decide +kernel
theorem dX2_makeBody_0 : decode cX2_makeBody 0 = .ok (.aload_n 0, 1) := by decide +kernel
theorem dX2_makeBody_1 : decode cX2_makeBody 1 = .ok (.getfield 56, 3) := by decide +kernel
theorem dX2_makeBody_4 : decode cX2_makeBody 4 = .ok (.invokevirtual 107, 3) := by decide +kernel
theorem dX2_makeBody_7 : decode cX2_makeBody 7 = .ok (.aload_n 0, 1) := by decide +kernel
theorem dX2_makeBody_8 : decode cX2_makeBody 8 = .ok (.invokevirtual 142, 3) := by decide +kernel
theorem dX2_makeBody_11 : decode cX2_makeBody 11 = .ok (.ifCond .eq 11, 3) := by decide +kernel
theorem dX2_makeBody_14 : decode cX2_makeBody 14 = .ok (.aload_n 0, 1) := by decide +kernel
theorem dX2_makeBody_15 : decode cX2_makeBody 15 = .ok (.iload_n 2, 1) := by decide +kernel
theorem dX2_makeBody_16 : decode cX2_makeBody 16 = .ok (.invokevirtual 146, 3) := by decide +kernel
theorem dX2_makeBody_19 : decode cX2_makeBody 19 = .ok (.ifCond .ne 4, 3) := by decide +kernel
theorem dX2_makeBody_22 : decode cX2_makeBody 22 = .ok (.return_, 1) := by decide +kernel
theorem dX2_makeBody_23 : decode cX2_makeBody 23 = .ok (.aload_n 0, 1) := by decide +kernel
theorem dX2_makeBody_24 : decode cX2_makeBody 24 = .ok (.aload_n 0, 1) := by decide +kernel
theorem dX2_makeBody_25 : decode cX2_makeBody 25 = .ok (.getfield 173, 3) := by decide +kernel
theorem dX2_makeBody_28 : decode cX2_makeBody 28 = .ok (.aload_n 0, 1) := by decide +kernel
theorem dX2_makeBody_29 : decode cX2_makeBody 29 = .ok (.getfield 56, 3) := by decide +kernel
theorem dX2_makeBody_32 : decode cX2_makeBody 32 = .ok (.aload_n 0, 1) := by decide +kernel
theorem dX2_makeBody_33 : decode cX2_makeBody 33 = .ok (.getfield 173, 3) := by decide +kernel
theorem dX2_makeBody_36 : decode cX2_makeBody 36 = .ok (.invokevirtual 170, 3) := by decide +kernel
theorem dX2_makeBody_39 : decode cX2_makeBody 39 = .ok (.iload_n 1, 1) := by decide +kernel
theorem dX2_makeBody_40 : decode cX2_makeBody 40 = .ok (.invokevirtual 186, 3) := by decide +kernel
theorem dX2_makeBody_43 : decode cX2_makeBody 43 = .ok (.istore_n 3, 1) := by decide +kernel
theorem dX2_makeBody_44 : decode cX2_makeBody 44 = .ok (.aload_n 0, 1) := by decide +kernel
theorem dX2_makeBody_45 : decode cX2_makeBody 45 = .ok (.iload_n 2, 1) := by decide +kernel
theorem dX2_makeBody_46 : decode cX2_makeBody 46 = .ok (.invokevirtual 152, 3) := by decide +kernel
theorem dX2_makeBody_49 : decode cX2_makeBody 49 = .ok (.aload_n 0, 1) := by decide +kernel
theorem dX2_makeBody_50 : decode cX2_makeBody 50 = .ok (.getfield 21, 3) := by decide +kernel
theorem dX2_makeBody_53 : decode cX2_makeBody 53 = .ok (.iload_n 2, 1) := by decide +kernel
theorem dX2_makeBody_54 : decode cX2_makeBody 54 = .ok (.iload_n 1, 1) := by decide +kernel
theorem dX2_makeBody_55 : decode cX2_makeBody 55 = .ok (.iconst 1, 1) := by decide +kernel
theorem dX2_makeBody_56 : decode cX2_makeBody 56 = .ok (.iadd, 1) := by decide +kernel
theorem dX2_makeBody_57 : decode cX2_makeBody 57 = .ok (.iastore, 1) := by decide +kernel
theorem dX2_makeBody_58 : decode cX2_makeBody 58 = .ok (.aload_n 0, 1) := by decide +kernel
theorem dX2_makeBody_59 : decode cX2_makeBody 59 = .ok (.getfield 34, 3) := by decide +kernel
theorem dX2_makeBody_62 : decode cX2_makeBody 62 = .ok (.iload_n 2, 1) := by decide +kernel
theorem dX2_makeBody_63 : decode cX2_makeBody 63 = .ok (.bipush (-2), 2) := by decide +kernel
theorem dX2_makeBody_65 : decode cX2_makeBody 65 = .ok (.iastore, 1) := by decide +kernel
theorem dX2_makeBody_66 : decode cX2_makeBody 66 = .ok (.iload_n 3, 1) := by decide +kernel
theorem dX2_makeBody_67 : decode cX2_makeBody 67 = .ok (.ifCond .ne 4, 3) := by decide +kernel
theorem dX2_makeBody_70 : decode cX2_makeBody 70 = .ok (.return_, 1) := by decide +kernel
theorem dX2_makeBody_71 : decode cX2_makeBody 71 = .ok (.aload_n 0, 1) := by decide +kernel
theorem dX2_makeBody_72 : decode cX2_makeBody 72 = .ok (.getfield 60, 3) := by decide +kernel
theorem dX2_makeBody_75 : decode cX2_makeBody 75 = .ok (.getfield 190, 3) := by decide +kernel
theorem dX2_makeBody_78 : decode cX2_makeBody 78 = .ok (.iconst 0, 1) := by decide +kernel
theorem dX2_makeBody_79 : decode cX2_makeBody 79 = .ok (.iaload, 1) := by decide +kernel
theorem dX2_makeBody_80 : decode cX2_makeBody 80 = .ok (.istore 4, 2) := by decide +kernel
theorem dX2_makeBody_82 : decode cX2_makeBody 82 = .ok (.aload_n 0, 1) := by decide +kernel
theorem dX2_makeBody_83 : decode cX2_makeBody 83 = .ok (.getfield 77, 3) := by decide +kernel
theorem dX2_makeBody_86 : decode cX2_makeBody 86 = .ok (.iload 4, 2) := by decide +kernel
theorem dX2_makeBody_88 : decode cX2_makeBody 88 = .ok (.iadd, 1) := by decide +kernel
theorem dX2_makeBody_89 : decode cX2_makeBody 89 = .ok (.aload_n 0, 1) := by decide +kernel
theorem dX2_makeBody_90 : decode cX2_makeBody 90 = .ok (.getfield 28, 3) := by decide +kernel
theorem dX2_makeBody_93 : decode cX2_makeBody 93 = .ok (.arraylength, 1) := by decide +kernel
theorem dX2_makeBody_94 : decode cX2_makeBody 94 = .ok (.if_icmp .le 21, 3) := by decide +kernel
theorem dX2_makeBody_97 : decode cX2_makeBody 97 = .ok (.aload_n 0, 1) := by decide +kernel
theorem dX2_makeBody_98 : decode cX2_makeBody 98 = .ok (.aload_n 0, 1) := by decide +kernel
theorem dX2_makeBody_99 : decode cX2_makeBody 99 = .ok (.getfield 28, 3) := by decide +kernel
theorem dX2_makeBody_102 : decode cX2_makeBody 102 = .ok (.iconst 2, 1) := by decide +kernel
theorem dX2_makeBody_103 : decode cX2_makeBody 103 = .ok (.aload_n 0, 1) := by decide +kernel
theorem dX2_makeBody_104 : decode cX2_makeBody 104 = .ok (.getfield 28, 3) := by decide +kernel
theorem dX2_makeBody_107 : decode cX2_makeBody 107 = .ok (.arraylength, 1) := by decide +kernel
theorem dX2_makeBody_108 : decode cX2_makeBody 108 = .ok (.imul, 1) := by decide +kernel
theorem dX2_makeBody_109 : decode cX2_makeBody 109 = .ok (.invokestatic 194, 3) := by decide +kernel
theorem dX2_makeBody_112 : decode cX2_makeBody 112 = .ok (.putfield 28, 3) := by decide +kernel
theorem dX2_makeBody_115 : decode cX2_makeBody 115 = .ok (.aload_n 0, 1) := by decide +kernel
theorem dX2_makeBody_116 : decode cX2_makeBody 116 = .ok (.getfield 31, 3) := by decide +kernel
theorem dX2_makeBody_119 : decode cX2_makeBody 119 = .ok (.iload_n 2, 1) := by decide +kernel
theorem dX2_makeBody_120 : decode cX2_makeBody 120 = .ok (.aload_n 0, 1) := by decide +kernel
theorem dX2_makeBody_121 : decode cX2_makeBody 121 = .ok (.getfield 77, 3) := by decide +kernel
theorem dX2_makeBody_124 : decode cX2_makeBody 124 = .ok (.iastore, 1) := by decide +kernel
theorem dX2_makeBody_125 : decode cX2_makeBody 125 = .ok (.aload_n 0, 1) := by decide +kernel
theorem dX2_makeBody_126 : decode cX2_makeBody 126 = .ok (.getfield 34, 3) := by decide +kernel
theorem dX2_makeBody_129 : decode cX2_makeBody 129 = .ok (.iload_n 2, 1) := by decide +kernel
theorem dX2_makeBody_130 : decode cX2_makeBody 130 = .ok (.iload 4, 2) := by decide +kernel
theorem dX2_makeBody_132 : decode cX2_makeBody 132 = .ok (.iastore, 1) := by decide +kernel
theorem dX2_makeBody_133 : decode cX2_makeBody 133 = .ok (.aload_n 0, 1) := by decide +kernel
theorem dX2_makeBody_134 : decode cX2_makeBody 134 = .ok (.getfield 60, 3) := by decide +kernel
theorem dX2_makeBody_137 : decode cX2_makeBody 137 = .ok (.getfield 198, 3) := by decide +kernel
theorem dX2_makeBody_140 : decode cX2_makeBody 140 = .ok (.aload_n 0, 1) := by decide +kernel
theorem dX2_makeBody_141 : decode cX2_makeBody 141 = .ok (.getfield 60, 3) := by decide +kernel
theorem dX2_makeBody_144 : decode cX2_makeBody 144 = .ok (.getfield 201, 3) := by decide +kernel
theorem dX2_makeBody_147 : decode cX2_makeBody 147 = .ok (.iconst 0, 1) := by decide +kernel
theorem dX2_makeBody_148 : decode cX2_makeBody 148 = .ok (.iaload, 1) := by decide +kernel
theorem dX2_makeBody_149 : decode cX2_makeBody 149 = .ok (.aload_n 0, 1) := by decide +kernel
theorem dX2_makeBody_150 : decode cX2_makeBody 150 = .ok (.getfield 28, 3) := by decide +kernel
theorem dX2_makeBody_153 : decode cX2_makeBody 153 = .ok (.aload_n 0, 1) := by decide +kernel
theorem dX2_makeBody_154 : decode cX2_makeBody 154 = .ok (.getfield 77, 3) := by decide +kernel
theorem dX2_makeBody_157 : decode cX2_makeBody 157 = .ok (.iload 4, 2) := by decide +kernel
theorem dX2_makeBody_159 : decode cX2_makeBody 159 = .ok (.invokestatic 202, 3) := by decide +kernel
theorem dX2_makeBody_162 : decode cX2_makeBody 162 = .ok (.aload_n 0, 1) := by decide +kernel
theorem dX2_makeBody_163 : decode cX2_makeBody 163 = .ok (.dup, 1) := by decide +kernel
theorem dX2_makeBody_164 : decode cX2_makeBody 164 = .ok (.getfield 77, 3) := by decide +kernel
theorem dX2_makeBody_167 : decode cX2_makeBody 167 = .ok (.iload 4, 2) := by decide +kernel
theorem dX2_makeBody_169 : decode cX2_makeBody 169 = .ok (.iadd, 1) := by decide +kernel
theorem dX2_makeBody_170 : decode cX2_makeBody 170 = .ok (.putfield 77, 3) := by decide +kernel
theorem dX2_makeBody_173 : decode cX2_makeBody 173 = .ok (.return_, 1) := by decide +kernel
theorem dX2_evaluate_0 : decode cX2_evaluate 0 = .ok (.aload_n 0, 1) := by decide +kernel
theorem dX2_evaluate_1 : decode cX2_evaluate 1 = .ok (.getfield 60, 3) := by decide +kernel
theorem dX2_evaluate_4 : decode cX2_evaluate 4 = .ok (.invokevirtual 208, 3) := by decide +kernel
theorem dX2_evaluate_7 : decode cX2_evaluate 7 = .ok (.iconst 0, 1) := by decide +kernel
theorem dX2_evaluate_8 : decode cX2_evaluate 8 = .ok (.istore 4, 2) := by decide +kernel
theorem dX2_evaluate_10 : decode cX2_evaluate 10 = .ok (.iload_n 2, 1) := by decide +kernel
theorem dX2_evaluate_11 : decode cX2_evaluate 11 = .ok (.iconst 1, 1) := by decide +kernel
theorem dX2_evaluate_12 : decode cX2_evaluate 12 = .ok (.isub, 1) := by decide +kernel
theorem dX2_evaluate_13 : decode cX2_evaluate 13 = .ok (.istore 5, 2) := by decide +kernel
theorem dX2_evaluate_15 : decode cX2_evaluate 15 = .ok (.iload 5, 2) := by decide +kernel
theorem dX2_evaluate_17 : decode cX2_evaluate 17 = .ok (.iload_n 1, 1) := by decide +kernel
theorem dX2_evaluate_18 : decode cX2_evaluate 18 = .ok (.if_icmp .lt 229, 3) := by decide +kernel
theorem dX2_evaluate_21 : decode cX2_evaluate 21 = .ok (.aload_n 0, 1) := by decide +kernel
theorem dX2_evaluate_22 : decode cX2_evaluate 22 = .ok (.getfield 56, 3) := by decide +kernel
theorem dX2_evaluate_25 : decode cX2_evaluate 25 = .ok (.getfield 127, 3) := by decide +kernel
theorem dX2_evaluate_28 : decode cX2_evaluate 28 = .ok (.iload 5, 2) := by decide +kernel
theorem dX2_evaluate_30 : decode cX2_evaluate 30 = .ok (.iaload, 1) := by decide +kernel
theorem dX2_evaluate_31 : decode cX2_evaluate 31 = .ok (.istore 6, 2) := by decide +kernel
theorem dX2_evaluate_33 : decode cX2_evaluate 33 = .ok (.iconst 1, 1) := by decide +kernel
theorem dX2_evaluate_34 : decode cX2_evaluate 34 = .ok (.istore 7, 2) := by decide +kernel
theorem dX2_evaluate_36 : decode cX2_evaluate 36 = .ok (.aload_n 0, 1) := by decide +kernel
theorem dX2_evaluate_37 : decode cX2_evaluate 37 = .ok (.getfield 40, 3) := by decide +kernel
theorem dX2_evaluate_40 : decode cX2_evaluate 40 = .ok (.getfield 115, 3) := by decide +kernel
theorem dX2_evaluate_43 : decode cX2_evaluate 43 = .ok (.iload 6, 2) := by decide +kernel
theorem dX2_evaluate_45 : decode cX2_evaluate 45 = .ok (.iaload, 1) := by decide +kernel
theorem dX2_evaluate_46 : decode cX2_evaluate 46 = .ok (.ifCond .ne 56, 3) := by decide +kernel
theorem dX2_evaluate_49 : decode cX2_evaluate 49 = .ok (.aload_n 0, 1) := by decide +kernel
theorem dX2_evaluate_50 : decode cX2_evaluate 50 = .ok (.getfield 40, 3) := by decide +kernel
theorem dX2_evaluate_53 : decode cX2_evaluate 53 = .ok (.iload 6, 2) := by decide +kernel
theorem dX2_evaluate_55 : decode cX2_evaluate 55 = .ok (.invokevirtual 176, 3) := by decide +kernel
theorem dX2_evaluate_58 : decode cX2_evaluate 58 = .ok (.istore 8, 2) := by decide +kernel
theorem dX2_evaluate_60 : decode cX2_evaluate 60 = .ok (.aload_n 0, 1) := by decide +kernel
theorem dX2_evaluate_61 : decode cX2_evaluate 61 = .ok (.getfield 60, 3) := by decide +kernel
theorem dX2_evaluate_64 : decode cX2_evaluate 64 = .ok (.getfield 211, 3) := by decide +kernel
theorem dX2_evaluate_67 : decode cX2_evaluate 67 = .ok (.iconst 0, 1) := by decide +kernel
theorem dX2_evaluate_68 : decode cX2_evaluate 68 = .ok (.aload_n 0, 1) := by decide +kernel
theorem dX2_evaluate_69 : decode cX2_evaluate 69 = .ok (.getfield 37, 3) := by decide +kernel
theorem dX2_evaluate_72 : decode cX2_evaluate 72 = .ok (.iload 8, 2) := by decide +kernel
theorem dX2_evaluate_74 : decode cX2_evaluate 74 = .ok (.iaload, 1) := by decide +kernel
theorem dX2_evaluate_75 : decode cX2_evaluate 75 = .ok (.ifCond .ne 8, 3) := by decide +kernel
theorem dX2_evaluate_78 : decode cX2_evaluate 78 = .ok (.iload 8, 2) := by decide +kernel
theorem dX2_evaluate_80 : decode cX2_evaluate 80 = .ok (.goto 10, 3) := by decide +kernel
theorem dX2_evaluate_83 : decode cX2_evaluate 83 = .ok (.aload_n 0, 1) := by decide +kernel
theorem dX2_evaluate_84 : decode cX2_evaluate 84 = .ok (.getfield 37, 3) := by decide +kernel
theorem dX2_evaluate_87 : decode cX2_evaluate 87 = .ok (.iload 8, 2) := by decide +kernel
theorem dX2_evaluate_89 : decode cX2_evaluate 89 = .ok (.iaload, 1) := by decide +kernel
theorem dX2_evaluate_90 : decode cX2_evaluate 90 = .ok (.iastore, 1) := by decide +kernel
theorem dX2_evaluate_91 : decode cX2_evaluate 91 = .ok (.aload_n 0, 1) := by decide +kernel
theorem dX2_evaluate_92 : decode cX2_evaluate 92 = .ok (.getfield 60, 3) := by decide +kernel
theorem dX2_evaluate_95 : decode cX2_evaluate 95 = .ok (.iconst 1, 1) := by decide +kernel
theorem dX2_evaluate_96 : decode cX2_evaluate 96 = .ok (.putfield 214, 3) := by decide +kernel
theorem dX2_evaluate_99 : decode cX2_evaluate 99 = .ok (.goto 74, 3) := by decide +kernel
theorem dX2_evaluate_102 : decode cX2_evaluate 102 = .ok (.aload_n 0, 1) := by decide +kernel
theorem dX2_evaluate_103 : decode cX2_evaluate 103 = .ok (.getfield 44, 3) := by decide +kernel
theorem dX2_evaluate_106 : decode cX2_evaluate 106 = .ok (.getfield 155, 3) := by decide +kernel
theorem dX2_evaluate_109 : decode cX2_evaluate 109 = .ok (.iload 6, 2) := by decide +kernel
theorem dX2_evaluate_111 : decode cX2_evaluate 111 = .ok (.iaload, 1) := by decide +kernel
theorem dX2_evaluate_112 : decode cX2_evaluate 112 = .ok (.istore 8, 2) := by decide +kernel
theorem dX2_evaluate_114 : decode cX2_evaluate 114 = .ok (.iload 8, 2) := by decide +kernel
theorem dX2_evaluate_116 : decode cX2_evaluate 116 = .ok (.iload 4, 2) := by decide +kernel
theorem dX2_evaluate_118 : decode cX2_evaluate 118 = .ok (.if_icmp .le 5, 3) := by decide +kernel
theorem dX2_evaluate_121 : decode cX2_evaluate 121 = .ok (.iconst 0, 1) := by decide +kernel
theorem dX2_evaluate_122 : decode cX2_evaluate 122 = .ok (.ireturn, 1) := by decide +kernel
theorem dX2_evaluate_123 : decode cX2_evaluate 123 = .ok (.iload 4, 2) := by decide +kernel
theorem dX2_evaluate_125 : decode cX2_evaluate 125 = .ok (.iload 8, 2) := by decide +kernel
theorem dX2_evaluate_127 : decode cX2_evaluate 127 = .ok (.isub, 1) := by decide +kernel
theorem dX2_evaluate_128 : decode cX2_evaluate 128 = .ok (.istore 4, 2) := by decide +kernel
theorem dX2_evaluate_130 : decode cX2_evaluate 130 = .ok (.aload_n 0, 1) := by decide +kernel
theorem dX2_evaluate_131 : decode cX2_evaluate 131 = .ok (.iload 6, 2) := by decide +kernel
theorem dX2_evaluate_133 : decode cX2_evaluate 133 = .ok (.iload 4, 2) := by decide +kernel
theorem dX2_evaluate_135 : decode cX2_evaluate 135 = .ok (.iload_n 3, 1) := by decide +kernel
theorem dX2_evaluate_136 : decode cX2_evaluate 136 = .ok (.invokevirtual 217, 3) := by decide +kernel
theorem dX2_evaluate_139 : decode cX2_evaluate 139 = .ok (.istore 7, 2) := by decide +kernel
theorem dX2_evaluate_141 : decode cX2_evaluate 141 = .ok (.aload_n 0, 1) := by decide +kernel
theorem dX2_evaluate_142 : decode cX2_evaluate 142 = .ok (.getfield 60, 3) := by decide +kernel
theorem dX2_evaluate_145 : decode cX2_evaluate 145 = .ok (.iload 8, 2) := by decide +kernel
theorem dX2_evaluate_147 : decode cX2_evaluate 147 = .ok (.ifCond .le 16, 3) := by decide +kernel
theorem dX2_evaluate_150 : decode cX2_evaluate 150 = .ok (.aload_n 0, 1) := by decide +kernel
theorem dX2_evaluate_151 : decode cX2_evaluate 151 = .ok (.getfield 60, 3) := by decide +kernel
theorem dX2_evaluate_154 : decode cX2_evaluate 154 = .ok (.getfield 201, 3) := by decide +kernel
theorem dX2_evaluate_157 : decode cX2_evaluate 157 = .ok (.iload 4, 2) := by decide +kernel
theorem dX2_evaluate_159 : decode cX2_evaluate 159 = .ok (.iaload, 1) := by decide +kernel
theorem dX2_evaluate_160 : decode cX2_evaluate 160 = .ok (.goto 10, 3) := by decide +kernel
theorem dX2_evaluate_163 : decode cX2_evaluate 163 = .ok (.aload_n 0, 1) := by decide +kernel
theorem dX2_evaluate_164 : decode cX2_evaluate 164 = .ok (.getfield 60, 3) := by decide +kernel
theorem dX2_evaluate_167 : decode cX2_evaluate 167 = .ok (.getfield 220, 3) := by decide +kernel
theorem dX2_evaluate_170 : decode cX2_evaluate 170 = .ok (.putfield 220, 3) := by decide +kernel
theorem dX2_evaluate_173 : decode cX2_evaluate 173 = .ok (.aload_n 0, 1) := by decide +kernel
theorem dX2_evaluate_174 : decode cX2_evaluate 174 = .ok (.getfield 60, 3) := by decide +kernel
theorem dX2_evaluate_177 : decode cX2_evaluate 177 = .ok (.iload 7, 2) := by decide +kernel
theorem dX2_evaluate_179 : decode cX2_evaluate 179 = .ok (.ifCond .eq 13, 3) := by decide +kernel
theorem dX2_evaluate_182 : decode cX2_evaluate 182 = .ok (.aload_n 0, 1) := by decide +kernel
theorem dX2_evaluate_183 : decode cX2_evaluate 183 = .ok (.getfield 60, 3) := by decide +kernel
theorem dX2_evaluate_186 : decode cX2_evaluate 186 = .ok (.getfield 214, 3) := by decide +kernel
theorem dX2_evaluate_189 : decode cX2_evaluate 189 = .ok (.goto 4, 3) := by decide +kernel
theorem dX2_evaluate_192 : decode cX2_evaluate 192 = .ok (.iconst 0, 1) := by decide +kernel
theorem dX2_evaluate_193 : decode cX2_evaluate 193 = .ok (.putfield 214, 3) := by decide +kernel
theorem dX2_evaluate_196 : decode cX2_evaluate 196 = .ok (.aload_n 0, 1) := by decide +kernel
theorem dX2_evaluate_197 : decode cX2_evaluate 197 = .ok (.getfield 60, 3) := by decide +kernel
theorem dX2_evaluate_200 : decode cX2_evaluate 200 = .ok (.iload 4, 2) := by decide +kernel
theorem dX2_evaluate_202 : decode cX2_evaluate 202 = .ok (.iconst 0, 1) := by decide +kernel
theorem dX2_evaluate_203 : decode cX2_evaluate 203 = .ok (.invokevirtual 223, 3) := by decide +kernel
theorem dX2_evaluate_206 : decode cX2_evaluate 206 = .ok (.ifCond .ne 5, 3) := by decide +kernel
theorem dX2_evaluate_209 : decode cX2_evaluate 209 = .ok (.iconst 0, 1) := by decide +kernel
theorem dX2_evaluate_210 : decode cX2_evaluate 210 = .ok (.ireturn, 1) := by decide +kernel
theorem dX2_evaluate_211 : decode cX2_evaluate 211 = .ok (.aload_n 0, 1) := by decide +kernel
theorem dX2_evaluate_212 : decode cX2_evaluate 212 = .ok (.getfield 60, 3) := by decide +kernel
theorem dX2_evaluate_215 : decode cX2_evaluate 215 = .ok (.getfield 190, 3) := by decide +kernel
theorem dX2_evaluate_218 : decode cX2_evaluate 218 = .ok (.iload 4, 2) := by decide +kernel
theorem dX2_evaluate_220 : decode cX2_evaluate 220 = .ok (.iload 7, 2) := by decide +kernel
theorem dX2_evaluate_222 : decode cX2_evaluate 222 = .ok (.ifCond .eq 13, 3) := by decide +kernel
theorem dX2_evaluate_225 : decode cX2_evaluate 225 = .ok (.aload_n 0, 1) := by decide +kernel
theorem dX2_evaluate_226 : decode cX2_evaluate 226 = .ok (.getfield 60, 3) := by decide +kernel
theorem dX2_evaluate_229 : decode cX2_evaluate 229 = .ok (.getfield 214, 3) := by decide +kernel
theorem dX2_evaluate_232 : decode cX2_evaluate 232 = .ok (.goto 5, 3) := by decide +kernel
theorem dX2_evaluate_235 : decode cX2_evaluate 235 = .ok (.bipush (-2), 2) := by decide +kernel
theorem dX2_evaluate_237 : decode cX2_evaluate 237 = .ok (.iastore, 1) := by decide +kernel
theorem dX2_evaluate_238 : decode cX2_evaluate 238 = .ok (.iinc 4 1, 3) := by decide +kernel
theorem dX2_evaluate_241 : decode cX2_evaluate 241 = .ok (.iinc 5 (-1), 3) := by decide +kernel
theorem dX2_evaluate_244 : decode cX2_evaluate 244 = .ok (.goto (-229), 3) := by decide +kernel
theorem dX2_evaluate_247 : decode cX2_evaluate 247 = .ok (.iload 4, 2) := by decide +kernel
theorem dX2_evaluate_249 : decode cX2_evaluate 249 = .ok (.iconst 1, 1) := by decide +kernel
theorem dX2_evaluate_250 : decode cX2_evaluate 250 = .ok (.if_icmp .ne 21, 3) := by decide +kernel
theorem dX2_evaluate_253 : decode cX2_evaluate 253 = .ok (.aload_n 0, 1) := by decide +kernel
theorem dX2_evaluate_254 : decode cX2_evaluate 254 = .ok (.getfield 60, 3) := by decide +kernel
theorem dX2_evaluate_257 : decode cX2_evaluate 257 = .ok (.getfield 190, 3) := by decide +kernel
theorem dX2_evaluate_260 : decode cX2_evaluate 260 = .ok (.iconst 0, 1) := by decide +kernel
theorem dX2_evaluate_261 : decode cX2_evaluate 261 = .ok (.iaload, 1) := by decide +kernel
theorem dX2_evaluate_262 : decode cX2_evaluate 262 = .ok (.bipush (-2), 2) := by decide +kernel
theorem dX2_evaluate_264 : decode cX2_evaluate 264 = .ok (.if_icmp .eq 7, 3) := by decide +kernel
theorem dX2_evaluate_267 : decode cX2_evaluate 267 = .ok (.iconst 1, 1) := by decide +kernel
theorem dX2_evaluate_268 : decode cX2_evaluate 268 = .ok (.goto 4, 3) := by decide +kernel
theorem dX2_evaluate_271 : decode cX2_evaluate 271 = .ok (.iconst 0, 1) := by decide +kernel
theorem dX2_evaluate_272 : decode cX2_evaluate 272 = .ok (.ireturn, 1) := by decide +kernel
theorem dX2_compose_0 : decode cX2_compose 0 = .ok (.aload_n 0, 1) := by decide +kernel
theorem dX2_compose_1 : decode cX2_compose 1 = .ok (.getfield 60, 3) := by decide +kernel
theorem dX2_compose_4 : decode cX2_compose 4 = .ok (.iconst 0, 1) := by decide +kernel
theorem dX2_compose_5 : decode cX2_compose 5 = .ok (.putfield 214, 3) := by decide +kernel
theorem dX2_compose_8 : decode cX2_compose 8 = .ok (.iconst 1, 1) := by decide +kernel
theorem dX2_compose_9 : decode cX2_compose 9 = .ok (.istore 4, 2) := by decide +kernel
theorem dX2_compose_11 : decode cX2_compose 11 = .ok (.aload_n 0, 1) := by decide +kernel
theorem dX2_compose_12 : decode cX2_compose 12 = .ok (.getfield 21, 3) := by decide +kernel
theorem dX2_compose_15 : decode cX2_compose 15 = .ok (.iload_n 1, 1) := by decide +kernel
theorem dX2_compose_16 : decode cX2_compose 16 = .ok (.iaload, 1) := by decide +kernel
theorem dX2_compose_17 : decode cX2_compose 17 = .ok (.ifCond .eq 13, 3) := by decide +kernel
theorem dX2_compose_20 : decode cX2_compose 20 = .ok (.aload_n 0, 1) := by decide +kernel
theorem dX2_compose_21 : decode cX2_compose 21 = .ok (.getfield 21, 3) := by decide +kernel
theorem dX2_compose_24 : decode cX2_compose 24 = .ok (.iload_n 1, 1) := by decide +kernel
theorem dX2_compose_25 : decode cX2_compose 25 = .ok (.iaload, 1) := by decide +kernel
theorem dX2_compose_26 : decode cX2_compose 26 = .ok (.iload_n 3, 1) := by decide +kernel
theorem dX2_compose_27 : decode cX2_compose 27 = .ok (.if_icmp .le 99, 3) := by decide +kernel
theorem dX2_compose_30 : decode cX2_compose 30 = .ok (.aload_n 0, 1) := by decide +kernel
theorem dX2_compose_31 : decode cX2_compose 31 = .ok (.getfield 40, 3) := by decide +kernel
theorem dX2_compose_34 : decode cX2_compose 34 = .ok (.getfield 158, 3) := by decide +kernel
theorem dX2_compose_37 : decode cX2_compose 37 = .ok (.iload_n 1, 1) := by decide +kernel
theorem dX2_compose_38 : decode cX2_compose 38 = .ok (.iaload, 1) := by decide +kernel
theorem dX2_compose_39 : decode cX2_compose 39 = .ok (.iconst 1, 1) := by decide +kernel
theorem dX2_compose_40 : decode cX2_compose 40 = .ok (.iadd, 1) := by decide +kernel
theorem dX2_compose_41 : decode cX2_compose 41 = .ok (.istore 5, 2) := by decide +kernel
theorem dX2_compose_43 : decode cX2_compose 43 = .ok (.iload 5, 2) := by decide +kernel
theorem dX2_compose_45 : decode cX2_compose 45 = .ok (.aload_n 0, 1) := by decide +kernel
theorem dX2_compose_46 : decode cX2_compose 46 = .ok (.getfield 40, 3) := by decide +kernel
theorem dX2_compose_49 : decode cX2_compose 49 = .ok (.getfield 158, 3) := by decide +kernel
theorem dX2_compose_52 : decode cX2_compose 52 = .ok (.iload_n 1, 1) := by decide +kernel
theorem dX2_compose_53 : decode cX2_compose 53 = .ok (.iconst 1, 1) := by decide +kernel
theorem dX2_compose_54 : decode cX2_compose 54 = .ok (.iadd, 1) := by decide +kernel
theorem dX2_compose_55 : decode cX2_compose 55 = .ok (.iaload, 1) := by decide +kernel
theorem dX2_compose_56 : decode cX2_compose 56 = .ok (.if_icmp .ge 67, 3) := by decide +kernel
theorem dX2_compose_59 : decode cX2_compose 59 = .ok (.iload 4, 2) := by decide +kernel
theorem dX2_compose_61 : decode cX2_compose 61 = .ok (.ifCond .eq 62, 3) := by decide +kernel
theorem dX2_compose_64 : decode cX2_compose 64 = .ok (.aload_n 0, 1) := by decide +kernel
theorem dX2_compose_65 : decode cX2_compose 65 = .ok (.getfield 40, 3) := by decide +kernel
theorem dX2_compose_68 : decode cX2_compose 68 = .ok (.getfield 161, 3) := by decide +kernel
theorem dX2_compose_71 : decode cX2_compose 71 = .ok (.iload 5, 2) := by decide +kernel
theorem dX2_compose_73 : decode cX2_compose 73 = .ok (.iaload, 1) := by decide +kernel
theorem dX2_compose_74 : decode cX2_compose 74 = .ok (.istore 6, 2) := by decide +kernel
theorem dX2_compose_76 : decode cX2_compose 76 = .ok (.iload 6, 2) := by decide +kernel
theorem dX2_compose_78 : decode cX2_compose 78 = .ok (.iconst (-1), 1) := by decide +kernel
theorem dX2_compose_79 : decode cX2_compose 79 = .ok (.if_icmp .ne 20, 3) := by decide +kernel
theorem dX2_compose_82 : decode cX2_compose 82 = .ok (.aload_n 0, 1) := by decide +kernel
theorem dX2_compose_83 : decode cX2_compose 83 = .ok (.aload_n 0, 1) := by decide +kernel
theorem dX2_compose_84 : decode cX2_compose 84 = .ok (.getfield 40, 3) := by decide +kernel
theorem dX2_compose_87 : decode cX2_compose 87 = .ok (.getfield 227, 3) := by decide +kernel
theorem dX2_compose_90 : decode cX2_compose 90 = .ok (.iload 5, 2) := by decide +kernel
theorem dX2_compose_92 : decode cX2_compose 92 = .ok (.iaload, 1) := by decide +kernel
theorem dX2_compose_93 : decode cX2_compose 93 = .ok (.invokevirtual 230, 3) := by decide +kernel
theorem dX2_compose_96 : decode cX2_compose 96 = .ok (.goto 19, 3) := by decide +kernel
theorem dX2_compose_99 : decode cX2_compose 99 = .ok (.aload_n 0, 1) := by decide +kernel
theorem dX2_compose_100 : decode cX2_compose 100 = .ok (.iload_n 2, 1) := by decide +kernel
theorem dX2_compose_101 : decode cX2_compose 101 = .ok (.aload_n 0, 1) := by decide +kernel
theorem dX2_compose_102 : decode cX2_compose 102 = .ok (.getfield 44, 3) := by decide +kernel
theorem dX2_compose_105 : decode cX2_compose 105 = .ok (.iload_n 1, 1) := by decide +kernel
theorem dX2_compose_106 : decode cX2_compose 106 = .ok (.iload 6, 2) := by decide +kernel
theorem dX2_compose_108 : decode cX2_compose 108 = .ok (.invokevirtual 233, 3) := by decide +kernel
theorem dX2_compose_111 : decode cX2_compose 111 = .ok (.iadd, 1) := by decide +kernel
theorem dX2_compose_112 : decode cX2_compose 112 = .ok (.invokevirtual 236, 3) := by decide +kernel
theorem dX2_compose_115 : decode cX2_compose 115 = .ok (.istore 4, 2) := by decide +kernel
theorem dX2_compose_117 : decode cX2_compose 117 = .ok (.iinc 5 1, 3) := by decide +kernel
theorem dX2_compose_120 : decode cX2_compose 120 = .ok (.goto (-77), 3) := by decide +kernel
theorem dX2_compose_123 : decode cX2_compose 123 = .ok (.iload 4, 2) := by decide +kernel
theorem dX2_compose_125 : decode cX2_compose 125 = .ok (.ireturn, 1) := by decide +kernel
theorem dX2_compose_126 : decode cX2_compose 126 = .ok (.aload_n 0, 1) := by decide +kernel
theorem dX2_compose_127 : decode cX2_compose 127 = .ok (.getfield 34, 3) := by decide +kernel
theorem dX2_compose_130 : decode cX2_compose 130 = .ok (.iload_n 1, 1) := by decide +kernel
theorem dX2_compose_131 : decode cX2_compose 131 = .ok (.iaload, 1) := by decide +kernel
theorem dX2_compose_132 : decode cX2_compose 132 = .ok (.bipush (-2), 2) := by decide +kernel
theorem dX2_compose_134 : decode cX2_compose 134 = .ok (.if_icmp .ne 5, 3) := by decide +kernel
theorem dX2_compose_137 : decode cX2_compose 137 = .ok (.iconst 0, 1) := by decide +kernel
theorem dX2_compose_138 : decode cX2_compose 138 = .ok (.ireturn, 1) := by decide +kernel
theorem dX2_compose_139 : decode cX2_compose 139 = .ok (.aload_n 0, 1) := by decide +kernel
theorem dX2_compose_140 : decode cX2_compose 140 = .ok (.getfield 31, 3) := by decide +kernel
theorem dX2_compose_143 : decode cX2_compose 143 = .ok (.iload_n 1, 1) := by decide +kernel
theorem dX2_compose_144 : decode cX2_compose 144 = .ok (.iaload, 1) := by decide +kernel
theorem dX2_compose_145 : decode cX2_compose 145 = .ok (.istore 5, 2) := by decide +kernel
theorem dX2_compose_147 : decode cX2_compose 147 = .ok (.iload 5, 2) := by decide +kernel
theorem dX2_compose_149 : decode cX2_compose 149 = .ok (.aload_n 0, 1) := by decide +kernel
theorem dX2_compose_150 : decode cX2_compose 150 = .ok (.getfield 31, 3) := by decide +kernel
theorem dX2_compose_153 : decode cX2_compose 153 = .ok (.iload_n 1, 1) := by decide +kernel
theorem dX2_compose_154 : decode cX2_compose 154 = .ok (.iaload, 1) := by decide +kernel
theorem dX2_compose_155 : decode cX2_compose 155 = .ok (.aload_n 0, 1) := by decide +kernel
theorem dX2_compose_156 : decode cX2_compose 156 = .ok (.getfield 34, 3) := by decide +kernel
theorem dX2_compose_159 : decode cX2_compose 159 = .ok (.iload_n 1, 1) := by decide +kernel
theorem dX2_compose_160 : decode cX2_compose 160 = .ok (.iaload, 1) := by decide +kernel
theorem dX2_compose_161 : decode cX2_compose 161 = .ok (.iadd, 1) := by decide +kernel
theorem dX2_compose_162 : decode cX2_compose 162 = .ok (.if_icmp .ge 60, 3) := by decide +kernel
theorem dX2_compose_165 : decode cX2_compose 165 = .ok (.iload 4, 2) := by decide +kernel
theorem dX2_compose_167 : decode cX2_compose 167 = .ok (.ifCond .eq 55, 3) := by decide +kernel
theorem dX2_compose_170 : decode cX2_compose 170 = .ok (.aload_n 0, 1) := by decide +kernel
theorem dX2_compose_171 : decode cX2_compose 171 = .ok (.getfield 28, 3) := by decide +kernel
theorem dX2_compose_174 : decode cX2_compose 174 = .ok (.iload 5, 2) := by decide +kernel
theorem dX2_compose_176 : decode cX2_compose 176 = .ok (.iaload, 1) := by decide +kernel
theorem dX2_compose_177 : decode cX2_compose 177 = .ok (.sipush 1000, 3) := by decide +kernel
theorem dX2_compose_180 : decode cX2_compose 180 = .ok (.if_icmp .ge 17, 3) := by decide +kernel
theorem dX2_compose_183 : decode cX2_compose 183 = .ok (.aload_n 0, 1) := by decide +kernel
theorem dX2_compose_184 : decode cX2_compose 184 = .ok (.aload_n 0, 1) := by decide +kernel
theorem dX2_compose_185 : decode cX2_compose 185 = .ok (.getfield 28, 3) := by decide +kernel
theorem dX2_compose_188 : decode cX2_compose 188 = .ok (.iload 5, 2) := by decide +kernel
theorem dX2_compose_190 : decode cX2_compose 190 = .ok (.iaload, 1) := by decide +kernel
theorem dX2_compose_191 : decode cX2_compose 191 = .ok (.invokevirtual 230, 3) := by decide +kernel
theorem dX2_compose_194 : decode cX2_compose 194 = .ok (.goto 20, 3) := by decide +kernel
theorem dX2_compose_197 : decode cX2_compose 197 = .ok (.aload_n 0, 1) := by decide +kernel
theorem dX2_compose_198 : decode cX2_compose 198 = .ok (.iload_n 2, 1) := by decide +kernel
theorem dX2_compose_199 : decode cX2_compose 199 = .ok (.aload_n 0, 1) := by decide +kernel
theorem dX2_compose_200 : decode cX2_compose 200 = .ok (.getfield 28, 3) := by decide +kernel
theorem dX2_compose_203 : decode cX2_compose 203 = .ok (.iload 5, 2) := by decide +kernel
theorem dX2_compose_205 : decode cX2_compose 205 = .ok (.iaload, 1) := by decide +kernel
theorem dX2_compose_206 : decode cX2_compose 206 = .ok (.iadd, 1) := by decide +kernel
theorem dX2_compose_207 : decode cX2_compose 207 = .ok (.sipush 1000, 3) := by decide +kernel
theorem dX2_compose_210 : decode cX2_compose 210 = .ok (.isub, 1) := by decide +kernel
theorem dX2_compose_211 : decode cX2_compose 211 = .ok (.invokevirtual 236, 3) := by decide +kernel
theorem dX2_compose_214 : decode cX2_compose 214 = .ok (.istore 4, 2) := by decide +kernel
theorem dX2_compose_216 : decode cX2_compose 216 = .ok (.iinc 5 1, 3) := by decide +kernel
theorem dX2_compose_219 : decode cX2_compose 219 = .ok (.goto (-72), 3) := by decide +kernel
theorem dX2_compose_222 : decode cX2_compose 222 = .ok (.iload 4, 2) := by decide +kernel
theorem dX2_compose_224 : decode cX2_compose 224 = .ok (.ireturn, 1) := by decide +kernel
theorem dX2_composeSymbol_0 : decode cX2_composeSymbol 0 = .ok (.aload_n 0, 1) := by decide +kernel
theorem dX2_composeSymbol_1 : decode cX2_composeSymbol 1 = .ok (.getfield 60, 3) := by decide +kernel
theorem dX2_composeSymbol_4 : decode cX2_composeSymbol 4 = .ok (.getfield 214, 3) := by decide +kernel
theorem dX2_composeSymbol_7 : decode cX2_composeSymbol 7 = .ok (.iconst 1, 1) := by decide +kernel
theorem dX2_composeSymbol_8 : decode cX2_composeSymbol 8 = .ok (.iadd, 1) := by decide +kernel
theorem dX2_composeSymbol_9 : decode cX2_composeSymbol 9 = .ok (.sipush 600, 3) := by decide +kernel
theorem dX2_composeSymbol_12 : decode cX2_composeSymbol 12 = .ok (.if_icmp .lt 5, 3) := by decide +kernel
theorem dX2_composeSymbol_15 : decode cX2_composeSymbol 15 = .ok (.iconst 0, 1) := by decide +kernel
theorem dX2_composeSymbol_16 : decode cX2_composeSymbol 16 = .ok (.ireturn, 1) := by decide +kernel
theorem dX2_composeSymbol_17 : decode cX2_composeSymbol 17 = .ok (.aload_n 0, 1) := by decide +kernel
theorem dX2_composeSymbol_18 : decode cX2_composeSymbol 18 = .ok (.getfield 60, 3) := by decide +kernel
theorem dX2_composeSymbol_21 : decode cX2_composeSymbol 21 = .ok (.getfield 211, 3) := by decide +kernel
theorem dX2_composeSymbol_24 : decode cX2_composeSymbol 24 = .ok (.aload_n 0, 1) := by decide +kernel
theorem dX2_composeSymbol_25 : decode cX2_composeSymbol 25 = .ok (.getfield 60, 3) := by decide +kernel
theorem dX2_composeSymbol_28 : decode cX2_composeSymbol 28 = .ok (.getfield 214, 3) := by decide +kernel
theorem dX2_composeSymbol_31 : decode cX2_composeSymbol 31 = .ok (.iload_n 1, 1) := by decide +kernel
theorem dX2_composeSymbol_32 : decode cX2_composeSymbol 32 = .ok (.iastore, 1) := by decide +kernel
theorem dX2_composeSymbol_33 : decode cX2_composeSymbol 33 = .ok (.aload_n 0, 1) := by decide +kernel
theorem dX2_composeSymbol_34 : decode cX2_composeSymbol 34 = .ok (.getfield 60, 3) := by decide +kernel
theorem dX2_composeSymbol_37 : decode cX2_composeSymbol 37 = .ok (.dup, 1) := by decide +kernel
theorem dX2_composeSymbol_38 : decode cX2_composeSymbol 38 = .ok (.getfield 214, 3) := by decide +kernel
theorem dX2_composeSymbol_41 : decode cX2_composeSymbol 41 = .ok (.iconst 1, 1) := by decide +kernel
theorem dX2_composeSymbol_42 : decode cX2_composeSymbol 42 = .ok (.iadd, 1) := by decide +kernel
theorem dX2_composeSymbol_43 : decode cX2_composeSymbol 43 = .ok (.putfield 214, 3) := by decide +kernel
theorem dX2_composeSymbol_46 : decode cX2_composeSymbol 46 = .ok (.iconst 1, 1) := by decide +kernel
theorem dX2_composeSymbol_47 : decode cX2_composeSymbol 47 = .ok (.ireturn, 1) := by decide +kernel
theorem dX2_composeRow_0 : decode cX2_composeRow 0 = .ok (.aload_n 0, 1) := by decide +kernel
theorem dX2_composeRow_1 : decode cX2_composeRow 1 = .ok (.getfield 60, 3) := by decide +kernel
theorem dX2_composeRow_4 : decode cX2_composeRow 4 = .ok (.getfield 190, 3) := by decide +kernel
theorem dX2_composeRow_7 : decode cX2_composeRow 7 = .ok (.iload_n 1, 1) := by decide +kernel
theorem dX2_composeRow_8 : decode cX2_composeRow 8 = .ok (.iaload, 1) := by decide +kernel
theorem dX2_composeRow_9 : decode cX2_composeRow 9 = .ok (.istore_n 2, 1) := by decide +kernel
theorem dX2_composeRow_10 : decode cX2_composeRow 10 = .ok (.iload_n 2, 1) := by decide +kernel
theorem dX2_composeRow_11 : decode cX2_composeRow 11 = .ok (.bipush (-2), 2) := by decide +kernel
theorem dX2_composeRow_13 : decode cX2_composeRow 13 = .ok (.if_icmp .eq 18, 3) := by decide +kernel
theorem dX2_composeRow_16 : decode cX2_composeRow 16 = .ok (.aload_n 0, 1) := by decide +kernel
theorem dX2_composeRow_17 : decode cX2_composeRow 17 = .ok (.getfield 60, 3) := by decide +kernel
theorem dX2_composeRow_20 : decode cX2_composeRow 20 = .ok (.getfield 214, 3) := by decide +kernel
theorem dX2_composeRow_23 : decode cX2_composeRow 23 = .ok (.iload_n 2, 1) := by decide +kernel
theorem dX2_composeRow_24 : decode cX2_composeRow 24 = .ok (.iadd, 1) := by decide +kernel
theorem dX2_composeRow_25 : decode cX2_composeRow 25 = .ok (.sipush 600, 3) := by decide +kernel
theorem dX2_composeRow_28 : decode cX2_composeRow 28 = .ok (.if_icmp .lt 5, 3) := by decide +kernel
theorem dX2_composeRow_31 : decode cX2_composeRow 31 = .ok (.iconst 0, 1) := by decide +kernel
theorem dX2_composeRow_32 : decode cX2_composeRow 32 = .ok (.ireturn, 1) := by decide +kernel
theorem dX2_composeRow_33 : decode cX2_composeRow 33 = .ok (.aload_n 0, 1) := by decide +kernel
theorem dX2_composeRow_34 : decode cX2_composeRow 34 = .ok (.getfield 60, 3) := by decide +kernel
theorem dX2_composeRow_37 : decode cX2_composeRow 37 = .ok (.getfield 198, 3) := by decide +kernel
theorem dX2_composeRow_40 : decode cX2_composeRow 40 = .ok (.aload_n 0, 1) := by decide +kernel
theorem dX2_composeRow_41 : decode cX2_composeRow 41 = .ok (.getfield 60, 3) := by decide +kernel
theorem dX2_composeRow_44 : decode cX2_composeRow 44 = .ok (.getfield 201, 3) := by decide +kernel
theorem dX2_composeRow_47 : decode cX2_composeRow 47 = .ok (.iload_n 1, 1) := by decide +kernel
theorem dX2_composeRow_48 : decode cX2_composeRow 48 = .ok (.iaload, 1) := by decide +kernel
theorem dX2_composeRow_49 : decode cX2_composeRow 49 = .ok (.aload_n 0, 1) := by decide +kernel
theorem dX2_composeRow_50 : decode cX2_composeRow 50 = .ok (.getfield 60, 3) := by decide +kernel
theorem dX2_composeRow_53 : decode cX2_composeRow 53 = .ok (.getfield 211, 3) := by decide +kernel
theorem dX2_composeRow_56 : decode cX2_composeRow 56 = .ok (.aload_n 0, 1) := by decide +kernel
theorem dX2_composeRow_57 : decode cX2_composeRow 57 = .ok (.getfield 60, 3) := by decide +kernel
theorem dX2_composeRow_60 : decode cX2_composeRow 60 = .ok (.getfield 214, 3) := by decide +kernel
theorem dX2_composeRow_63 : decode cX2_composeRow 63 = .ok (.iload_n 2, 1) := by decide +kernel
theorem dX2_composeRow_64 : decode cX2_composeRow 64 = .ok (.invokestatic 202, 3) := by decide +kernel
theorem dX2_composeRow_67 : decode cX2_composeRow 67 = .ok (.aload_n 0, 1) := by decide +kernel
theorem dX2_composeRow_68 : decode cX2_composeRow 68 = .ok (.getfield 60, 3) := by decide +kernel
theorem dX2_composeRow_71 : decode cX2_composeRow 71 = .ok (.dup, 1) := by decide +kernel
theorem dX2_composeRow_72 : decode cX2_composeRow 72 = .ok (.getfield 214, 3) := by decide +kernel
theorem dX2_composeRow_75 : decode cX2_composeRow 75 = .ok (.iload_n 2, 1) := by decide +kernel
theorem dX2_composeRow_76 : decode cX2_composeRow 76 = .ok (.iadd, 1) := by decide +kernel
theorem dX2_composeRow_77 : decode cX2_composeRow 77 = .ok (.putfield 214, 3) := by decide +kernel
theorem dX2_composeRow_80 : decode cX2_composeRow 80 = .ok (.iconst 1, 1) := by decide +kernel
theorem dX2_composeRow_81 : decode cX2_composeRow 81 = .ok (.ireturn, 1) := by decide +kernel
theorem dX12_init_0 : decode cX12_init 0 = .ok (.aload_n 0, 1) := by decide +kernel
theorem dX12_init_1 : decode cX12_init 1 = .ok (.invokespecial 3, 3) := by decide +kernel
theorem dX12_init_4 : decode cX12_init 4 = .ok (.aload_n 0, 1) := by decide +kernel
theorem dX12_init_5 : decode cX12_init 5 = .ok (.ldc 9, 2) := by decide +kernel
theorem dX12_init_7 : decode cX12_init 7 = .ok (.newarray .char, 2) := by decide +kernel
theorem dX12_init_9 : decode cX12_init 9 = .ok (.putfield 10, 3) := by decide +kernel
theorem dX12_init_12 : decode cX12_init 12 = .ok (.aload_n 0, 1) := by decide +kernel
theorem dX12_init_13 : decode cX12_init 13 = .ok (.iconst (-1), 1) := by decide +kernel
theorem dX12_init_14 : decode cX12_init 14 = .ok (.putfield 14, 3) := by decide +kernel
theorem dX12_init_17 : decode cX12_init 17 = .ok (.aload_n 0, 1) := by decide +kernel
theorem dX12_init_18 : decode cX12_init 18 = .ok (.bipush 60, 2) := by decide +kernel
theorem dX12_init_20 : decode cX12_init 20 = .ok (.newarray .int, 2) := by decide +kernel
theorem dX12_init_22 : decode cX12_init 22 = .ok (.putfield 18, 3) := by decide +kernel
theorem dX12_init_25 : decode cX12_init 25 = .ok (.aload_n 0, 1) := by decide +kernel
theorem dX12_init_26 : decode cX12_init 26 = .ok (.new 22, 3) := by decide +kernel
theorem dX12_init_29 : decode cX12_init 29 = .ok (.dup, 1) := by decide +kernel
theorem dX12_init_30 : decode cX12_init 30 = .ok (.invokespecial 24, 3) := by decide +kernel
theorem dX12_init_33 : decode cX12_init 33 = .ok (.putfield 25, 3) := by decide +kernel
theorem dX12_init_36 : decode cX12_init 36 = .ok (.aload_n 0, 1) := by decide +kernel
theorem dX12_init_37 : decode cX12_init 37 = .ok (.new 29, 3) := by decide +kernel
theorem dX12_init_40 : decode cX12_init 40 = .ok (.dup, 1) := by decide +kernel
theorem dX12_init_41 : decode cX12_init 41 = .ok (.aload_n 0, 1) := by decide +kernel
theorem dX12_init_42 : decode cX12_init 42 = .ok (.getfield 25, 3) := by decide +kernel
theorem dX12_init_45 : decode cX12_init 45 = .ok (.invokespecial 31, 3) := by decide +kernel
theorem dX12_init_48 : decode cX12_init 48 = .ok (.putfield 34, 3) := by decide +kernel
theorem dX12_init_51 : decode cX12_init 51 = .ok (.aload_n 0, 1) := by decide +kernel
theorem dX12_init_52 : decode cX12_init 52 = .ok (.new 38, 3) := by decide +kernel
theorem dX12_init_55 : decode cX12_init 55 = .ok (.dup, 1) := by decide +kernel
theorem dX12_init_56 : decode cX12_init 56 = .ok (.aload_n 0, 1) := by decide +kernel
theorem dX12_init_57 : decode cX12_init 57 = .ok (.getfield 25, 3) := by decide +kernel
theorem dX12_init_60 : decode cX12_init 60 = .ok (.aload_n 0, 1) := by decide +kernel
theorem dX12_init_61 : decode cX12_init 61 = .ok (.getfield 34, 3) := by decide +kernel
theorem dX12_init_64 : decode cX12_init 64 = .ok (.invokespecial 40, 3) := by decide +kernel
theorem dX12_init_67 : decode cX12_init 67 = .ok (.putfield 43, 3) := by decide +kernel
theorem dX12_init_70 : decode cX12_init 70 = .ok (.aload_n 0, 1) := by decide +kernel
theorem dX12_init_71 : decode cX12_init 71 = .ok (.new 47, 3) := by decide +kernel
theorem dX12_init_74 : decode cX12_init 74 = .ok (.dup, 1) := by decide +kernel
theorem dX12_init_75 : decode cX12_init 75 = .ok (.aload_n 0, 1) := by decide +kernel
theorem dX12_init_76 : decode cX12_init 76 = .ok (.getfield 25, 3) := by decide +kernel
theorem dX12_init_79 : decode cX12_init 79 = .ok (.aload_n 0, 1) := by decide +kernel
theorem dX12_init_80 : decode cX12_init 80 = .ok (.getfield 43, 3) := by decide +kernel
theorem dX12_init_83 : decode cX12_init 83 = .ok (.aload_n 0, 1) := by decide +kernel
theorem dX12_init_84 : decode cX12_init 84 = .ok (.getfield 34, 3) := by decide +kernel
theorem dX12_init_87 : decode cX12_init 87 = .ok (.invokespecial 49, 3) := by decide +kernel
theorem dX12_init_90 : decode cX12_init 90 = .ok (.putfield 52, 3) := by decide +kernel
theorem dX12_init_93 : decode cX12_init 93 = .ok (.aload_n 0, 1) := by decide +kernel
theorem dX12_init_94 : decode cX12_init 94 = .ok (.new 56, 3) := by decide +kernel
theorem dX12_init_97 : decode cX12_init 97 = .ok (.dup, 1) := by decide +kernel
theorem dX12_init_98 : decode cX12_init 98 = .ok (.aload_n 0, 1) := by decide +kernel
theorem dX12_init_99 : decode cX12_init 99 = .ok (.getfield 25, 3) := by decide +kernel
theorem dX12_init_102 : decode cX12_init 102 = .ok (.aload_n 0, 1) := by decide +kernel
theorem dX12_init_103 : decode cX12_init 103 = .ok (.getfield 43, 3) := by decide +kernel
theorem dX12_init_106 : decode cX12_init 106 = .ok (.aload_n 0, 1) := by decide +kernel
theorem dX12_init_107 : decode cX12_init 107 = .ok (.getfield 34, 3) := by decide +kernel
theorem dX12_init_110 : decode cX12_init 110 = .ok (.new 58, 3) := by decide +kernel
theorem dX12_init_113 : decode cX12_init 113 = .ok (.dup, 1) := by decide +kernel
theorem dX12_init_114 : decode cX12_init 114 = .ok (.aload_n 0, 1) := by decide +kernel
theorem dX12_init_115 : decode cX12_init 115 = .ok (.getfield 25, 3) := by decide +kernel
theorem dX12_init_118 : decode cX12_init 118 = .ok (.aload_n 0, 1) := by decide +kernel
theorem dX12_init_119 : decode cX12_init 119 = .ok (.getfield 43, 3) := by decide +kernel
theorem dX12_init_122 : decode cX12_init 122 = .ok (.aload_n 0, 1) := by decide +kernel
theorem dX12_init_123 : decode cX12_init 123 = .ok (.getfield 34, 3) := by decide +kernel
theorem dX12_init_126 : decode cX12_init 126 = .ok (.aload_n 0, 1) := by decide +kernel
theorem dX12_init_127 : decode cX12_init 127 = .ok (.getfield 52, 3) := by decide +kernel
theorem dX12_init_130 : decode cX12_init 130 = .ok (.invokespecial 60, 3) := by decide +kernel
theorem dX12_init_133 : decode cX12_init 133 = .ok (.invokespecial 63, 3) := by decide +kernel
theorem dX12_init_136 : decode cX12_init 136 = .ok (.putfield 66, 3) := by decide +kernel
theorem dX12_init_139 : decode cX12_init 139 = .ok (.aload_n 0, 1) := by decide +kernel
theorem dX12_init_140 : decode cX12_init 140 = .ok (.new 70, 3) := by decide +kernel
theorem dX12_init_143 : decode cX12_init 143 = .ok (.dup, 1) := by decide +kernel
theorem dX12_init_144 : decode cX12_init 144 = .ok (.aload_n 0, 1) := by decide +kernel
theorem dX12_init_145 : decode cX12_init 145 = .ok (.getfield 25, 3) := by decide +kernel
theorem dX12_init_148 : decode cX12_init 148 = .ok (.aload_n 0, 1) := by decide +kernel
theorem dX12_init_149 : decode cX12_init 149 = .ok (.getfield 43, 3) := by decide +kernel
theorem dX12_init_152 : decode cX12_init 152 = .ok (.invokespecial 72, 3) := by decide +kernel
theorem dX12_init_155 : decode cX12_init 155 = .ok (.putfield 75, 3) := by decide +kernel
theorem dX12_init_158 : decode cX12_init 158 = .ok (.aload_n 0, 1) := by decide +kernel
theorem dX12_init_159 : decode cX12_init 159 = .ok (.new 79, 3) := by decide +kernel
theorem dX12_init_162 : decode cX12_init 162 = .ok (.dup, 1) := by decide +kernel
theorem dX12_init_163 : decode cX12_init 163 = .ok (.aload_n 0, 1) := by decide +kernel
theorem dX12_init_164 : decode cX12_init 164 = .ok (.getfield 25, 3) := by decide +kernel
theorem dX12_init_167 : decode cX12_init 167 = .ok (.aload_n 0, 1) := by decide +kernel
theorem dX12_init_168 : decode cX12_init 168 = .ok (.getfield 43, 3) := by decide +kernel
theorem dX12_init_171 : decode cX12_init 171 = .ok (.invokespecial 81, 3) := by decide +kernel
theorem dX12_init_174 : decode cX12_init 174 = .ok (.putfield 82, 3) := by decide +kernel
theorem dX12_init_177 : decode cX12_init 177 = .ok (.aload_n 0, 1) := by decide +kernel
theorem dX12_init_178 : decode cX12_init 178 = .ok (.new 86, 3) := by decide +kernel
theorem dX12_init_181 : decode cX12_init 181 = .ok (.dup, 1) := by decide +kernel
theorem dX12_init_182 : decode cX12_init 182 = .ok (.aload_n 0, 1) := by decide +kernel
theorem dX12_init_183 : decode cX12_init 183 = .ok (.getfield 25, 3) := by decide +kernel
theorem dX12_init_186 : decode cX12_init 186 = .ok (.aload_n 0, 1) := by decide +kernel
theorem dX12_init_187 : decode cX12_init 187 = .ok (.getfield 82, 3) := by decide +kernel
theorem dX12_init_190 : decode cX12_init 190 = .ok (.invokespecial 88, 3) := by decide +kernel
theorem dX12_init_193 : decode cX12_init 193 = .ok (.putfield 91, 3) := by decide +kernel
theorem dX12_init_196 : decode cX12_init 196 = .ok (.aload_n 0, 1) := by decide +kernel
theorem dX12_init_197 : decode cX12_init 197 = .ok (.new 95, 3) := by decide +kernel
theorem dX12_init_200 : decode cX12_init 200 = .ok (.dup, 1) := by decide +kernel
theorem dX12_init_201 : decode cX12_init 201 = .ok (.aload_n 0, 1) := by decide +kernel
theorem dX12_init_202 : decode cX12_init 202 = .ok (.getfield 25, 3) := by decide +kernel
theorem dX12_init_205 : decode cX12_init 205 = .ok (.aload_n 0, 1) := by decide +kernel
theorem dX12_init_206 : decode cX12_init 206 = .ok (.getfield 43, 3) := by decide +kernel
theorem dX12_init_209 : decode cX12_init 209 = .ok (.aload_n 0, 1) := by decide +kernel
theorem dX12_init_210 : decode cX12_init 210 = .ok (.getfield 91, 3) := by decide +kernel
theorem dX12_init_213 : decode cX12_init 213 = .ok (.invokespecial 97, 3) := by decide +kernel
theorem dX12_init_216 : decode cX12_init 216 = .ok (.putfield 100, 3) := by decide +kernel
theorem dX12_init_219 : decode cX12_init 219 = .ok (.aload_n 0, 1) := by decide +kernel
theorem dX12_init_220 : decode cX12_init 220 = .ok (.new 104, 3) := by decide +kernel
theorem dX12_init_223 : decode cX12_init 223 = .ok (.dup, 1) := by decide +kernel
theorem dX12_init_224 : decode cX12_init 224 = .ok (.aload_n 0, 1) := by decide +kernel
theorem dX12_init_225 : decode cX12_init 225 = .ok (.getfield 25, 3) := by decide +kernel
theorem dX12_init_228 : decode cX12_init 228 = .ok (.aload_n 0, 1) := by decide +kernel
theorem dX12_init_229 : decode cX12_init 229 = .ok (.getfield 43, 3) := by decide +kernel
theorem dX12_init_232 : decode cX12_init 232 = .ok (.aload_n 0, 1) := by decide +kernel
theorem dX12_init_233 : decode cX12_init 233 = .ok (.getfield 82, 3) := by decide +kernel
theorem dX12_init_236 : decode cX12_init 236 = .ok (.aload_n 0, 1) := by decide +kernel
theorem dX12_init_237 : decode cX12_init 237 = .ok (.getfield 91, 3) := by decide +kernel
theorem dX12_init_240 : decode cX12_init 240 = .ok (.aload_n 0, 1) := by decide +kernel
theorem dX12_init_241 : decode cX12_init 241 = .ok (.getfield 100, 3) := by decide +kernel
theorem dX12_init_244 : decode cX12_init 244 = .ok (.aload_n 0, 1) := by decide +kernel
theorem dX12_init_245 : decode cX12_init 245 = .ok (.getfield 52, 3) := by decide +kernel
theorem dX12_init_248 : decode cX12_init 248 = .ok (.invokespecial 106, 3) := by decide +kernel
theorem dX12_init_251 : decode cX12_init 251 = .ok (.putfield 109, 3) := by decide +kernel
theorem dX12_init_254 : decode cX12_init 254 = .ok (.aload_n 0, 1) := by decide +kernel
theorem dX12_init_255 : decode cX12_init 255 = .ok (.new 113, 3) := by decide +kernel
theorem dX12_init_258 : decode cX12_init 258 = .ok (.dup, 1) := by decide +kernel
theorem dX12_init_259 : decode cX12_init 259 = .ok (.aload_n 0, 1) := by decide +kernel
theorem dX12_init_260 : decode cX12_init 260 = .ok (.getfield 25, 3) := by decide +kernel
theorem dX12_init_263 : decode cX12_init 263 = .ok (.invokespecial 115, 3) := by decide +kernel
theorem dX12_init_266 : decode cX12_init 266 = .ok (.putfield 116, 3) := by decide +kernel
theorem dX12_init_269 : decode cX12_init 269 = .ok (.return_, 1) := by decide +kernel
theorem dX12_feed_0 : decode cX12_feed 0 = .ok (.aload_n 0, 1) := by decide +kernel
theorem dX12_feed_1 : decode cX12_feed 1 = .ok (.aload_n 0, 1) := by decide +kernel
theorem dX12_feed_2 : decode cX12_feed 2 = .ok (.getfield 120, 3) := by decide +kernel
theorem dX12_feed_5 : decode cX12_feed 5 = .ok (.bipush 20, 2) := by decide +kernel
theorem dX12_feed_7 : decode cX12_feed 7 = .ok (.iadd, 1) := by decide +kernel
theorem dX12_feed_8 : decode cX12_feed 8 = .ok (.ldc 9, 2) := by decide +kernel
theorem dX12_feed_10 : decode cX12_feed 10 = .ok (.if_icmp .gt 7, 3) := by decide +kernel
theorem dX12_feed_13 : decode cX12_feed 13 = .ok (.iconst 1, 1) := by decide +kernel
theorem dX12_feed_14 : decode cX12_feed 14 = .ok (.goto 4, 3) := by decide +kernel
theorem dX12_feed_17 : decode cX12_feed 17 = .ok (.iconst 0, 1) := by decide +kernel
theorem dX12_feed_18 : decode cX12_feed 18 = .ok (.putfield 123, 3) := by decide +kernel
theorem dX12_feed_21 : decode cX12_feed 21 = .ok (.aload_n 0, 1) := by decide +kernel
theorem dX12_feed_22 : decode cX12_feed 22 = .ok (.getfield 123, 3) := by decide +kernel
theorem dX12_feed_25 : decode cX12_feed 25 = .ok (.ifCond .ne 6, 3) := by decide +kernel
theorem dX12_feed_28 : decode cX12_feed 28 = .ok (.bipush (-2), 2) := by decide +kernel
theorem dX12_feed_30 : decode cX12_feed 30 = .ok (.ireturn, 1) := by decide +kernel
theorem dX12_feed_31 : decode cX12_feed 31 = .ok (.aload_n 0, 1) := by decide +kernel
theorem dX12_feed_32 : decode cX12_feed 32 = .ok (.iload_n 1, 1) := by decide +kernel
theorem dX12_feed_33 : decode cX12_feed 33 = .ok (.invokevirtual 127, 3) := by decide +kernel
theorem dX12_feed_36 : decode cX12_feed 36 = .ok (.aload_n 0, 1) := by decide +kernel
theorem dX12_feed_37 : decode cX12_feed 37 = .ok (.iload_n 2, 1) := by decide +kernel
theorem dX12_feed_38 : decode cX12_feed 38 = .ok (.invokevirtual 127, 3) := by decide +kernel
theorem dX12_feed_41 : decode cX12_feed 41 = .ok (.aload_n 0, 1) := by decide +kernel
theorem dX12_feed_42 : decode cX12_feed 42 = .ok (.iload_n 3, 1) := by decide +kernel
theorem dX12_feed_43 : decode cX12_feed 43 = .ok (.invokevirtual 127, 3) := by decide +kernel
theorem dX12_feed_46 : decode cX12_feed 46 = .ok (.aload_n 0, 1) := by decide +kernel
theorem dX12_feed_47 : decode cX12_feed 47 = .ok (.iload 4, 2) := by decide +kernel
theorem dX12_feed_49 : decode cX12_feed 49 = .ok (.invokevirtual 127, 3) := by decide +kernel
theorem dX12_feed_52 : decode cX12_feed 52 = .ok (.aload_n 0, 1) := by decide +kernel
theorem dX12_feed_53 : decode cX12_feed 53 = .ok (.iload 5, 2) := by decide +kernel
theorem dX12_feed_55 : decode cX12_feed 55 = .ok (.invokevirtual 127, 3) := by decide +kernel
theorem dX12_feed_58 : decode cX12_feed 58 = .ok (.aload_n 0, 1) := by decide +kernel
theorem dX12_feed_59 : decode cX12_feed 59 = .ok (.getfield 120, 3) := by decide +kernel
theorem dX12_feed_62 : decode cX12_feed 62 = .ok (.ireturn, 1) := by decide +kernel
theorem dX12_putFour_0 : decode cX12_putFour 0 = .ok (.bipush 24, 2) := by decide +kernel
theorem dX12_putFour_2 : decode cX12_putFour 2 = .ok (.istore_n 2, 1) := by decide +kernel
theorem dX12_putFour_3 : decode cX12_putFour 3 = .ok (.iload_n 2, 1) := by decide +kernel
theorem dX12_putFour_4 : decode cX12_putFour 4 = .ok (.ifCond .lt 36, 3) := by decide +kernel
theorem dX12_putFour_7 : decode cX12_putFour 7 = .ok (.aload_n 0, 1) := by decide +kernel
theorem dX12_putFour_8 : decode cX12_putFour 8 = .ok (.getfield 10, 3) := by decide +kernel
theorem dX12_putFour_11 : decode cX12_putFour 11 = .ok (.aload_n 0, 1) := by decide +kernel
theorem dX12_putFour_12 : decode cX12_putFour 12 = .ok (.getfield 120, 3) := by decide +kernel
theorem dX12_putFour_15 : decode cX12_putFour 15 = .ok (.iload_n 1, 1) := by decide +kernel
theorem dX12_putFour_16 : decode cX12_putFour 16 = .ok (.iload_n 2, 1) := by decide +kernel
theorem dX12_putFour_17 : decode cX12_putFour 17 = .ok (.ishr, 1) := by decide +kernel
theorem dX12_putFour_18 : decode cX12_putFour 18 = .ok (.sipush 255, 3) := by decide +kernel
theorem dX12_putFour_21 : decode cX12_putFour 21 = .ok (.iand, 1) := by decide +kernel
theorem dX12_putFour_22 : decode cX12_putFour 22 = .ok (.i2c, 1) := by decide +kernel
theorem dX12_putFour_23 : decode cX12_putFour 23 = .ok (.castore, 1) := by decide +kernel
theorem dX12_putFour_24 : decode cX12_putFour 24 = .ok (.aload_n 0, 1) := by decide +kernel
theorem dX12_putFour_25 : decode cX12_putFour 25 = .ok (.dup, 1) := by decide +kernel
theorem dX12_putFour_26 : decode cX12_putFour 26 = .ok (.getfield 120, 3) := by decide +kernel
theorem dX12_putFour_29 : decode cX12_putFour 29 = .ok (.iconst 1, 1) := by decide +kernel
theorem dX12_putFour_30 : decode cX12_putFour 30 = .ok (.iadd, 1) := by decide +kernel
theorem dX12_putFour_31 : decode cX12_putFour 31 = .ok (.putfield 120, 3) := by decide +kernel
theorem dX12_putFour_34 : decode cX12_putFour 34 = .ok (.iinc 2 (-8), 3) := by decide +kernel
theorem dX12_putFour_37 : decode cX12_putFour 37 = .ok (.goto (-34), 3) := by decide +kernel
theorem dX12_putFour_40 : decode cX12_putFour 40 = .ok (.return_, 1) := by decide +kernel
theorem dX12_end_0 : decode cX12_end 0 = .ok (.aload_n 0, 1) := by decide +kernel
theorem dX12_end_1 : decode cX12_end 1 = .ok (.getfield 123, 3) := by decide +kernel
theorem dX12_end_4 : decode cX12_end 4 = .ok (.ifCond .eq 13, 3) := by decide +kernel
theorem dX12_end_7 : decode cX12_end 7 = .ok (.iload_n 1, 1) := by decide +kernel
theorem dX12_end_8 : decode cX12_end 8 = .ok (.ifCond .lt 9, 3) := by decide +kernel
theorem dX12_end_11 : decode cX12_end 11 = .ok (.iload_n 1, 1) := by decide +kernel
theorem dX12_end_12 : decode cX12_end 12 = .ok (.bipush 20, 2) := by decide +kernel
theorem dX12_end_14 : decode cX12_end 14 = .ok (.if_icmp .lt 5, 3) := by decide +kernel
theorem dX12_end_17 : decode cX12_end 17 = .ok (.iconst (-1), 1) := by decide +kernel
theorem dX12_end_18 : decode cX12_end 18 = .ok (.ireturn, 1) := by decide +kernel
theorem dX12_end_19 : decode cX12_end 19 = .ok (.aload_n 0, 1) := by decide +kernel
theorem dX12_end_20 : decode cX12_end 20 = .ok (.iconst 0, 1) := by decide +kernel
theorem dX12_end_21 : decode cX12_end 21 = .ok (.putfield 123, 3) := by decide +kernel
theorem dX12_end_24 : decode cX12_end 24 = .ok (.aload_n 0, 1) := by decide +kernel
theorem dX12_end_25 : decode cX12_end 25 = .ok (.dup, 1) := by decide +kernel
theorem dX12_end_26 : decode cX12_end 26 = .ok (.getfield 120, 3) := by decide +kernel
theorem dX12_end_29 : decode cX12_end 29 = .ok (.bipush 20, 2) := by decide +kernel
theorem dX12_end_31 : decode cX12_end 31 = .ok (.iload_n 1, 1) := by decide +kernel
theorem dX12_end_32 : decode cX12_end 32 = .ok (.isub, 1) := by decide +kernel
theorem dX12_end_33 : decode cX12_end 33 = .ok (.isub, 1) := by decide +kernel
theorem dX12_end_34 : decode cX12_end 34 = .ok (.putfield 120, 3) := by decide +kernel
theorem dX12_end_37 : decode cX12_end 37 = .ok (.aload_n 0, 1) := by decide +kernel
theorem dX12_end_38 : decode cX12_end 38 = .ok (.getfield 120, 3) := by decide +kernel
theorem dX12_end_41 : decode cX12_end 41 = .ok (.ireturn, 1) := by decide +kernel
theorem dX12_read_0 : decode cX12_read 0 = .ok (.aload_n 0, 1) := by decide +kernel
theorem dX12_read_1 : decode cX12_read 1 = .ok (.getfield 66, 3) := by decide +kernel
theorem dX12_read_4 : decode cX12_read 4 = .ok (.aload_n 0, 1) := by decide +kernel
theorem dX12_read_5 : decode cX12_read 5 = .ok (.getfield 10, 3) := by decide +kernel
theorem dX12_read_8 : decode cX12_read 8 = .ok (.aload_n 0, 1) := by decide +kernel
theorem dX12_read_9 : decode cX12_read 9 = .ok (.getfield 120, 3) := by decide +kernel
theorem dX12_read_12 : decode cX12_read 12 = .ok (.invokevirtual 131, 3) := by decide +kernel
theorem dX12_read_15 : decode cX12_read 15 = .ok (.istore_n 1, 1) := by decide +kernel
theorem dX12_read_16 : decode cX12_read 16 = .ok (.aload_n 0, 1) := by decide +kernel
theorem dX12_read_17 : decode cX12_read 17 = .ok (.iload_n 1, 1) := by decide +kernel
theorem dX12_read_18 : decode cX12_read 18 = .ok (.ifCond .ne 7, 3) := by decide +kernel
theorem dX12_read_21 : decode cX12_read 21 = .ok (.iconst (-1), 1) := by decide +kernel
theorem dX12_read_22 : decode cX12_read 22 = .ok (.goto 10, 3) := by decide +kernel
theorem dX12_read_25 : decode cX12_read 25 = .ok (.aload_n 0, 1) := by decide +kernel
theorem dX12_read_26 : decode cX12_read 26 = .ok (.getfield 66, 3) := by decide +kernel
theorem dX12_read_29 : decode cX12_read 29 = .ok (.getfield 135, 3) := by decide +kernel
theorem dX12_read_32 : decode cX12_read 32 = .ok (.putfield 14, 3) := by decide +kernel
theorem dX12_read_35 : decode cX12_read 35 = .ok (.aload_n 0, 1) := by decide +kernel
theorem dX12_read_36 : decode cX12_read 36 = .ok (.invokevirtual 138, 3) := by decide +kernel
theorem dX12_read_39 : decode cX12_read 39 = .ok (.iload_n 1, 1) := by decide +kernel
theorem dX12_read_40 : decode cX12_read 40 = .ok (.ireturn, 1) := by decide +kernel
theorem dX12_useTape_0 : decode cX12_useTape 0 = .ok (.aload_n 0, 1) := by decide +kernel
theorem dX12_useTape_1 : decode cX12_useTape 1 = .ok (.iconst 0, 1) := by decide +kernel
theorem dX12_useTape_2 : decode cX12_useTape 2 = .ok (.putfield 120, 3) := by decide +kernel
theorem dX12_useTape_5 : decode cX12_useTape 5 = .ok (.aload_n 0, 1) := by decide +kernel
theorem dX12_useTape_6 : decode cX12_useTape 6 = .ok (.iconst 0, 1) := by decide +kernel
theorem dX12_useTape_7 : decode cX12_useTape 7 = .ok (.putfield 123, 3) := by decide +kernel
theorem dX12_useTape_10 : decode cX12_useTape 10 = .ok (.return_, 1) := by decide +kernel
theorem dX12_place_0 : decode cX12_place 0 = .ok (.aload_n 0, 1) := by decide +kernel
theorem dX12_place_1 : decode cX12_place 1 = .ok (.getfield 14, 3) := by decide +kernel
theorem dX12_place_4 : decode cX12_place 4 = .ok (.ireturn, 1) := by decide +kernel
theorem dX12_count_0 : decode cX12_count 0 = .ok (.iload_n 1, 1) := by decide +kernel
theorem dX12_count_1 : decode cX12_count 1 = .ok (.tableswitch 149 0 9 #[55, 63, 71, 79, 88, 97, 106, 124, 133, 141], 55) := by decide +kernel
theorem dX12_count_56 : decode cX12_count 56 = .ok (.aload_n 0, 1) := by decide +kernel
theorem dX12_count_57 : decode cX12_count 57 = .ok (.getfield 25, 3) := by decide +kernel
theorem dX12_count_60 : decode cX12_count 60 = .ok (.getfield 141, 3) := by decide +kernel
theorem dX12_count_63 : decode cX12_count 63 = .ok (.ireturn, 1) := by decide +kernel
theorem dX12_count_64 : decode cX12_count 64 = .ok (.aload_n 0, 1) := by decide +kernel
theorem dX12_count_65 : decode cX12_count 65 = .ok (.getfield 25, 3) := by decide +kernel
theorem dX12_count_68 : decode cX12_count 68 = .ok (.getfield 144, 3) := by decide +kernel
theorem dX12_count_71 : decode cX12_count 71 = .ok (.ireturn, 1) := by decide +kernel
theorem dX12_count_72 : decode cX12_count 72 = .ok (.aload_n 0, 1) := by decide +kernel
theorem dX12_count_73 : decode cX12_count 73 = .ok (.getfield 25, 3) := by decide +kernel
theorem dX12_count_76 : decode cX12_count 76 = .ok (.invokevirtual 147, 3) := by decide +kernel
theorem dX12_count_79 : decode cX12_count 79 = .ok (.ireturn, 1) := by decide +kernel
theorem dX12_count_80 : decode cX12_count 80 = .ok (.aload_n 0, 1) := by decide +kernel
theorem dX12_count_81 : decode cX12_count 81 = .ok (.getfield 25, 3) := by decide +kernel
theorem dX12_count_84 : decode cX12_count 84 = .ok (.iconst 0, 1) := by decide +kernel
theorem dX12_count_85 : decode cX12_count 85 = .ok (.invokevirtual 151, 3) := by decide +kernel
theorem dX12_count_88 : decode cX12_count 88 = .ok (.ireturn, 1) := by decide +kernel
theorem dX12_count_89 : decode cX12_count 89 = .ok (.aload_n 0, 1) := by decide +kernel
theorem dX12_count_90 : decode cX12_count 90 = .ok (.getfield 25, 3) := by decide +kernel
theorem dX12_count_93 : decode cX12_count 93 = .ok (.iconst 1, 1) := by decide +kernel
theorem dX12_count_94 : decode cX12_count 94 = .ok (.invokevirtual 151, 3) := by decide +kernel
theorem dX12_count_97 : decode cX12_count 97 = .ok (.ireturn, 1) := by decide +kernel
theorem dX12_count_98 : decode cX12_count 98 = .ok (.aload_n 0, 1) := by decide +kernel
theorem dX12_count_99 : decode cX12_count 99 = .ok (.getfield 25, 3) := by decide +kernel
theorem dX12_count_102 : decode cX12_count 102 = .ok (.iconst 2, 1) := by decide +kernel
theorem dX12_count_103 : decode cX12_count 103 = .ok (.invokevirtual 151, 3) := by decide +kernel
theorem dX12_count_106 : decode cX12_count 106 = .ok (.ireturn, 1) := by decide +kernel
theorem dX12_count_107 : decode cX12_count 107 = .ok (.aload_n 0, 1) := by decide +kernel
theorem dX12_count_108 : decode cX12_count 108 = .ok (.getfield 25, 3) := by decide +kernel
theorem dX12_count_111 : decode cX12_count 111 = .ok (.iconst 3, 1) := by decide +kernel
theorem dX12_count_112 : decode cX12_count 112 = .ok (.invokevirtual 151, 3) := by decide +kernel
theorem dX12_count_115 : decode cX12_count 115 = .ok (.aload_n 0, 1) := by decide +kernel
theorem dX12_count_116 : decode cX12_count 116 = .ok (.getfield 25, 3) := by decide +kernel
theorem dX12_count_119 : decode cX12_count 119 = .ok (.iconst 4, 1) := by decide +kernel
theorem dX12_count_120 : decode cX12_count 120 = .ok (.invokevirtual 151, 3) := by decide +kernel
theorem dX12_count_123 : decode cX12_count 123 = .ok (.iadd, 1) := by decide +kernel
theorem dX12_count_124 : decode cX12_count 124 = .ok (.ireturn, 1) := by decide +kernel
theorem dX12_count_125 : decode cX12_count 125 = .ok (.aload_n 0, 1) := by decide +kernel
theorem dX12_count_126 : decode cX12_count 126 = .ok (.getfield 25, 3) := by decide +kernel
theorem dX12_count_129 : decode cX12_count 129 = .ok (.iconst 4, 1) := by decide +kernel
theorem dX12_count_130 : decode cX12_count 130 = .ok (.invokevirtual 151, 3) := by decide +kernel
theorem dX12_count_133 : decode cX12_count 133 = .ok (.ireturn, 1) := by decide +kernel
theorem dX12_count_134 : decode cX12_count 134 = .ok (.aload_n 0, 1) := by decide +kernel
theorem dX12_count_135 : decode cX12_count 135 = .ok (.getfield 43, 3) := by decide +kernel
theorem dX12_count_138 : decode cX12_count 138 = .ok (.getfield 155, 3) := by decide +kernel
theorem dX12_count_141 : decode cX12_count 141 = .ok (.ireturn, 1) := by decide +kernel
theorem dX12_count_142 : decode cX12_count 142 = .ok (.aload_n 0, 1) := by decide +kernel
theorem dX12_count_143 : decode cX12_count 143 = .ok (.getfield 43, 3) := by decide +kernel
theorem dX12_count_146 : decode cX12_count 146 = .ok (.getfield 158, 3) := by decide +kernel
theorem dX12_count_149 : decode cX12_count 149 = .ok (.ireturn, 1) := by decide +kernel
theorem dX12_count_150 : decode cX12_count 150 = .ok (.iconst (-1), 1) := by decide +kernel
theorem dX12_count_151 : decode cX12_count 151 = .ok (.ireturn, 1) := by decide +kernel
theorem dX12_kind_0 : decode cX12_kind 0 = .ok (.aload_n 0, 1) := by decide +kernel
theorem dX12_kind_1 : decode cX12_kind 1 = .ok (.getfield 25, 3) := by decide +kernel
theorem dX12_kind_4 : decode cX12_kind 4 = .ok (.iload_n 1, 1) := by decide +kernel
theorem dX12_kind_5 : decode cX12_kind 5 = .ok (.invokevirtual 161, 3) := by decide +kernel
theorem dX12_kind_8 : decode cX12_kind 8 = .ok (.ifCond .eq 15, 3) := by decide +kernel
theorem dX12_kind_11 : decode cX12_kind 11 = .ok (.aload_n 0, 1) := by decide +kernel
theorem dX12_kind_12 : decode cX12_kind 12 = .ok (.getfield 25, 3) := by decide +kernel
theorem dX12_kind_15 : decode cX12_kind 15 = .ok (.getfield 165, 3) := by decide +kernel
theorem dX12_kind_18 : decode cX12_kind 18 = .ok (.iload_n 1, 1) := by decide +kernel
theorem dX12_kind_19 : decode cX12_kind 19 = .ok (.iaload, 1) := by decide +kernel
theorem dX12_kind_20 : decode cX12_kind 20 = .ok (.goto 4, 3) := by decide +kernel
theorem dX12_kind_23 : decode cX12_kind 23 = .ok (.iconst (-1), 1) := by decide +kernel
theorem dX12_kind_24 : decode cX12_kind 24 = .ok (.ireturn, 1) := by decide +kernel
theorem dX12_length_0 : decode cX12_length 0 = .ok (.aload_n 0, 1) := by decide +kernel
theorem dX12_length_1 : decode cX12_length 1 = .ok (.getfield 25, 3) := by decide +kernel
theorem dX12_length_4 : decode cX12_length 4 = .ok (.iload_n 1, 1) := by decide +kernel
theorem dX12_length_5 : decode cX12_length 5 = .ok (.invokevirtual 161, 3) := by decide +kernel
theorem dX12_length_8 : decode cX12_length 8 = .ok (.ifCond .eq 14, 3) := by decide +kernel
theorem dX12_length_11 : decode cX12_length 11 = .ok (.aload_n 0, 1) := by decide +kernel
theorem dX12_length_12 : decode cX12_length 12 = .ok (.getfield 25, 3) := by decide +kernel
theorem dX12_length_15 : decode cX12_length 15 = .ok (.iload_n 1, 1) := by decide +kernel
theorem dX12_length_16 : decode cX12_length 16 = .ok (.invokevirtual 168, 3) := by decide +kernel
theorem dX12_length_19 : decode cX12_length 19 = .ok (.goto 4, 3) := by decide +kernel
theorem dX12_length_22 : decode cX12_length 22 = .ok (.iconst (-1), 1) := by decide +kernel
theorem dX12_length_23 : decode cX12_length 23 = .ok (.ireturn, 1) := by decide +kernel
theorem dX12_symbol_0 : decode cX12_symbol 0 = .ok (.aload_n 0, 1) := by decide +kernel
theorem dX12_symbol_1 : decode cX12_symbol 1 = .ok (.getfield 25, 3) := by decide +kernel
theorem dX12_symbol_4 : decode cX12_symbol 4 = .ok (.iload_n 1, 1) := by decide +kernel
theorem dX12_symbol_5 : decode cX12_symbol 5 = .ok (.invokevirtual 161, 3) := by decide +kernel
theorem dX12_symbol_8 : decode cX12_symbol 8 = .ok (.ifCond .eq 19, 3) := by decide +kernel
theorem dX12_symbol_11 : decode cX12_symbol 11 = .ok (.iload_n 2, 1) := by decide +kernel
theorem dX12_symbol_12 : decode cX12_symbol 12 = .ok (.ifCond .lt 15, 3) := by decide +kernel
theorem dX12_symbol_15 : decode cX12_symbol 15 = .ok (.iload_n 2, 1) := by decide +kernel
theorem dX12_symbol_16 : decode cX12_symbol 16 = .ok (.aload_n 0, 1) := by decide +kernel
theorem dX12_symbol_17 : decode cX12_symbol 17 = .ok (.getfield 25, 3) := by decide +kernel
theorem dX12_symbol_20 : decode cX12_symbol 20 = .ok (.iload_n 1, 1) := by decide +kernel
theorem dX12_symbol_21 : decode cX12_symbol 21 = .ok (.invokevirtual 168, 3) := by decide +kernel
theorem dX12_symbol_24 : decode cX12_symbol 24 = .ok (.if_icmp .lt 5, 3) := by decide +kernel
theorem dX12_symbol_27 : decode cX12_symbol 27 = .ok (.iconst (-1), 1) := by decide +kernel
theorem dX12_symbol_28 : decode cX12_symbol 28 = .ok (.ireturn, 1) := by decide +kernel
theorem dX12_symbol_29 : decode cX12_symbol 29 = .ok (.aload_n 0, 1) := by decide +kernel
theorem dX12_symbol_30 : decode cX12_symbol 30 = .ok (.getfield 25, 3) := by decide +kernel
theorem dX12_symbol_33 : decode cX12_symbol 33 = .ok (.getfield 171, 3) := by decide +kernel
theorem dX12_symbol_36 : decode cX12_symbol 36 = .ok (.aload_n 0, 1) := by decide +kernel
theorem dX12_symbol_37 : decode cX12_symbol 37 = .ok (.getfield 25, 3) := by decide +kernel
theorem dX12_symbol_40 : decode cX12_symbol 40 = .ok (.getfield 174, 3) := by decide +kernel
theorem dX12_symbol_43 : decode cX12_symbol 43 = .ok (.iload_n 1, 1) := by decide +kernel
theorem dX12_symbol_44 : decode cX12_symbol 44 = .ok (.iaload, 1) := by decide +kernel
theorem dX12_symbol_45 : decode cX12_symbol 45 = .ok (.iload_n 2, 1) := by decide +kernel
theorem dX12_symbol_46 : decode cX12_symbol 46 = .ok (.iadd, 1) := by decide +kernel
theorem dX12_symbol_47 : decode cX12_symbol 47 = .ok (.iaload, 1) := by decide +kernel
theorem dX12_symbol_48 : decode cX12_symbol 48 = .ok (.ireturn, 1) := by decide +kernel
theorem dX12_variable_0 : decode cX12_variable 0 = .ok (.aload_n 0, 1) := by decide +kernel
theorem dX12_variable_1 : decode cX12_variable 1 = .ok (.getfield 25, 3) := by decide +kernel
theorem dX12_variable_4 : decode cX12_variable 4 = .ok (.iload_n 1, 1) := by decide +kernel
theorem dX12_variable_5 : decode cX12_variable 5 = .ok (.invokevirtual 177, 3) := by decide +kernel
theorem dX12_variable_8 : decode cX12_variable 8 = .ok (.ifCond .ne 5, 3) := by decide +kernel
theorem dX12_variable_11 : decode cX12_variable 11 = .ok (.iconst (-1), 1) := by decide +kernel
theorem dX12_variable_12 : decode cX12_variable 12 = .ok (.ireturn, 1) := by decide +kernel
theorem dX12_variable_13 : decode cX12_variable 13 = .ok (.aload_n 0, 1) := by decide +kernel
theorem dX12_variable_14 : decode cX12_variable 14 = .ok (.getfield 25, 3) := by decide +kernel
theorem dX12_variable_17 : decode cX12_variable 17 = .ok (.getfield 180, 3) := by decide +kernel
theorem dX12_variable_20 : decode cX12_variable 20 = .ok (.iload_n 1, 1) := by decide +kernel
theorem dX12_variable_21 : decode cX12_variable 21 = .ok (.baload, 1) := by decide +kernel
theorem dX12_variable_22 : decode cX12_variable 22 = .ok (.ifCond .eq 7, 3) := by decide +kernel
theorem dX12_variable_25 : decode cX12_variable 25 = .ok (.iconst 1, 1) := by decide +kernel
theorem dX12_variable_26 : decode cX12_variable 26 = .ok (.goto 4, 3) := by decide +kernel
theorem dX12_variable_29 : decode cX12_variable 29 = .ok (.iconst 0, 1) := by decide +kernel
theorem dX12_variable_30 : decode cX12_variable 30 = .ok (.ireturn, 1) := by decide +kernel
theorem dX12_find_0 : decode cX12_find 0 = .ok (.aload_n 0, 1) := by decide +kernel
theorem dX12_find_1 : decode cX12_find 1 = .ok (.getfield 120, 3) := by decide +kernel
theorem dX12_find_4 : decode cX12_find 4 = .ok (.istore_n 2, 1) := by decide +kernel
theorem dX12_find_5 : decode cX12_find 5 = .ok (.aload_n 0, 1) := by decide +kernel
theorem dX12_find_6 : decode cX12_find 6 = .ok (.invokevirtual 138, 3) := by decide +kernel
theorem dX12_find_9 : decode cX12_find 9 = .ok (.aload_n 0, 1) := by decide +kernel
theorem dX12_find_10 : decode cX12_find 10 = .ok (.getfield 10, 3) := by decide +kernel
theorem dX12_find_13 : decode cX12_find 13 = .ok (.iconst 0, 1) := by decide +kernel
theorem dX12_find_14 : decode cX12_find 14 = .ok (.iload_n 2, 1) := by decide +kernel
theorem dX12_find_15 : decode cX12_find 15 = .ok (.invokestatic 184, 3) := by decide +kernel
theorem dX12_find_18 : decode cX12_find 18 = .ok (.istore_n 3, 1) := by decide +kernel
theorem dX12_find_19 : decode cX12_find 19 = .ok (.aload_n 0, 1) := by decide +kernel
theorem dX12_find_20 : decode cX12_find 20 = .ok (.getfield 10, 3) := by decide +kernel
theorem dX12_find_23 : decode cX12_find 23 = .ok (.iload_n 3, 1) := by decide +kernel
theorem dX12_find_24 : decode cX12_find 24 = .ok (.iload_n 2, 1) := by decide +kernel
theorem dX12_find_25 : decode cX12_find 25 = .ok (.invokestatic 188, 3) := by decide +kernel
theorem dX12_find_28 : decode cX12_find 28 = .ok (.istore 4, 2) := by decide +kernel
theorem dX12_find_30 : decode cX12_find 30 = .ok (.iload 4, 2) := by decide +kernel
theorem dX12_find_32 : decode cX12_find 32 = .ok (.iload_n 3, 1) := by decide +kernel
theorem dX12_find_33 : decode cX12_find 33 = .ok (.if_icmp .eq 17, 3) := by decide +kernel
theorem dX12_find_36 : decode cX12_find 36 = .ok (.aload_n 0, 1) := by decide +kernel
theorem dX12_find_37 : decode cX12_find 37 = .ok (.getfield 10, 3) := by decide +kernel
theorem dX12_find_40 : decode cX12_find 40 = .ok (.iload 4, 2) := by decide +kernel
theorem dX12_find_42 : decode cX12_find 42 = .ok (.iload_n 2, 1) := by decide +kernel
theorem dX12_find_43 : decode cX12_find 43 = .ok (.invokestatic 184, 3) := by decide +kernel
theorem dX12_find_46 : decode cX12_find 46 = .ok (.iload_n 2, 1) := by decide +kernel
theorem dX12_find_47 : decode cX12_find 47 = .ok (.if_icmp .ge 5, 3) := by decide +kernel
theorem dX12_find_50 : decode cX12_find 50 = .ok (.iconst (-1), 1) := by decide +kernel
theorem dX12_find_51 : decode cX12_find 51 = .ok (.ireturn, 1) := by decide +kernel
theorem dX12_find_52 : decode cX12_find 52 = .ok (.iload_n 1, 1) := by decide +kernel
theorem dX12_find_53 : decode cX12_find 53 = .ok (.ifCond .ne 20, 3) := by decide +kernel
theorem dX12_find_56 : decode cX12_find 56 = .ok (.aload_n 0, 1) := by decide +kernel
theorem dX12_find_57 : decode cX12_find 57 = .ok (.getfield 25, 3) := by decide +kernel
theorem dX12_find_60 : decode cX12_find 60 = .ok (.aload_n 0, 1) := by decide +kernel
theorem dX12_find_61 : decode cX12_find 61 = .ok (.getfield 10, 3) := by decide +kernel
theorem dX12_find_64 : decode cX12_find 64 = .ok (.iload_n 3, 1) := by decide +kernel
theorem dX12_find_65 : decode cX12_find 65 = .ok (.iload 4, 2) := by decide +kernel
theorem dX12_find_67 : decode cX12_find 67 = .ok (.iload_n 3, 1) := by decide +kernel
theorem dX12_find_68 : decode cX12_find 68 = .ok (.isub, 1) := by decide +kernel
theorem dX12_find_69 : decode cX12_find 69 = .ok (.invokevirtual 191, 3) := by decide +kernel
theorem dX12_find_72 : decode cX12_find 72 = .ok (.ireturn, 1) := by decide +kernel
theorem dX12_find_73 : decode cX12_find 73 = .ok (.iload_n 1, 1) := by decide +kernel
theorem dX12_find_74 : decode cX12_find 74 = .ok (.iconst 1, 1) := by decide +kernel
theorem dX12_find_75 : decode cX12_find 75 = .ok (.if_icmp .ne 22, 3) := by decide +kernel
theorem dX12_find_78 : decode cX12_find 78 = .ok (.aload_n 0, 1) := by decide +kernel
theorem dX12_find_79 : decode cX12_find 79 = .ok (.getfield 25, 3) := by decide +kernel
theorem dX12_find_82 : decode cX12_find 82 = .ok (.aload_n 0, 1) := by decide +kernel
theorem dX12_find_83 : decode cX12_find 83 = .ok (.getfield 10, 3) := by decide +kernel
theorem dX12_find_86 : decode cX12_find 86 = .ok (.iload_n 3, 1) := by decide +kernel
theorem dX12_find_87 : decode cX12_find 87 = .ok (.iload 4, 2) := by decide +kernel
theorem dX12_find_89 : decode cX12_find 89 = .ok (.iload_n 3, 1) := by decide +kernel
theorem dX12_find_90 : decode cX12_find 90 = .ok (.isub, 1) := by decide +kernel
theorem dX12_find_91 : decode cX12_find 91 = .ok (.invokevirtual 194, 3) := by decide +kernel
theorem dX12_find_94 : decode cX12_find 94 = .ok (.goto 4, 3) := by decide +kernel
theorem dX12_find_97 : decode cX12_find 97 = .ok (.iconst (-1), 1) := by decide +kernel
theorem dX12_find_98 : decode cX12_find 98 = .ok (.ireturn, 1) := by decide +kernel
theorem dX12_frame_0 : decode cX12_frame 0 = .ok (.aload_n 0, 1) := by decide +kernel
theorem dX12_frame_1 : decode cX12_frame 1 = .ok (.getfield 25, 3) := by decide +kernel
theorem dX12_frame_4 : decode cX12_frame 4 = .ok (.iload_n 1, 1) := by decide +kernel
theorem dX12_frame_5 : decode cX12_frame 5 = .ok (.invokevirtual 197, 3) := by decide +kernel
theorem dX12_frame_8 : decode cX12_frame 8 = .ok (.ifCond .ne 5, 3) := by decide +kernel
theorem dX12_frame_11 : decode cX12_frame 11 = .ok (.iconst (-1), 1) := by decide +kernel
theorem dX12_frame_12 : decode cX12_frame 12 = .ok (.ireturn, 1) := by decide +kernel
theorem dX12_frame_13 : decode cX12_frame 13 = .ok (.iload_n 2, 1) := by decide +kernel
theorem dX12_frame_14 : decode cX12_frame 14 = .ok (.tableswitch 72 0 2 #[26, 36, 46], 26) := by decide +kernel
theorem dX12_frame_40 : decode cX12_frame 40 = .ok (.aload_n 0, 1) := by decide +kernel
theorem dX12_frame_41 : decode cX12_frame 41 = .ok (.getfield 43, 3) := by decide +kernel
theorem dX12_frame_44 : decode cX12_frame 44 = .ok (.getfield 200, 3) := by decide +kernel
theorem dX12_frame_47 : decode cX12_frame 47 = .ok (.iload_n 1, 1) := by decide +kernel
theorem dX12_frame_48 : decode cX12_frame 48 = .ok (.iaload, 1) := by decide +kernel
theorem dX12_frame_49 : decode cX12_frame 49 = .ok (.ireturn, 1) := by decide +kernel
theorem dX12_frame_50 : decode cX12_frame 50 = .ok (.aload_n 0, 1) := by decide +kernel
theorem dX12_frame_51 : decode cX12_frame 51 = .ok (.getfield 43, 3) := by decide +kernel
theorem dX12_frame_54 : decode cX12_frame 54 = .ok (.getfield 203, 3) := by decide +kernel
theorem dX12_frame_57 : decode cX12_frame 57 = .ok (.iload_n 1, 1) := by decide +kernel
theorem dX12_frame_58 : decode cX12_frame 58 = .ok (.iaload, 1) := by decide +kernel
theorem dX12_frame_59 : decode cX12_frame 59 = .ok (.ireturn, 1) := by decide +kernel
theorem dX12_frame_60 : decode cX12_frame 60 = .ok (.aload_n 0, 1) := by decide +kernel
theorem dX12_frame_61 : decode cX12_frame 61 = .ok (.getfield 25, 3) := by decide +kernel
theorem dX12_frame_64 : decode cX12_frame 64 = .ok (.getfield 165, 3) := by decide +kernel
theorem dX12_frame_67 : decode cX12_frame 67 = .ok (.iload_n 1, 1) := by decide +kernel
theorem dX12_frame_68 : decode cX12_frame 68 = .ok (.iaload, 1) := by decide +kernel
theorem dX12_frame_69 : decode cX12_frame 69 = .ok (.iconst 4, 1) := by decide +kernel
theorem dX12_frame_70 : decode cX12_frame 70 = .ok (.if_icmp .ne 7, 3) := by decide +kernel
theorem dX12_frame_73 : decode cX12_frame 73 = .ok (.iconst (-1), 1) := by decide +kernel
theorem dX12_frame_74 : decode cX12_frame 74 = .ok (.goto 11, 3) := by decide +kernel
theorem dX12_frame_77 : decode cX12_frame 77 = .ok (.aload_n 0, 1) := by decide +kernel
theorem dX12_frame_78 : decode cX12_frame 78 = .ok (.getfield 43, 3) := by decide +kernel
theorem dX12_frame_81 : decode cX12_frame 81 = .ok (.iload_n 1, 1) := by decide +kernel
theorem dX12_frame_82 : decode cX12_frame 82 = .ok (.invokevirtual 206, 3) := by decide +kernel
theorem dX12_frame_85 : decode cX12_frame 85 = .ok (.ireturn, 1) := by decide +kernel
theorem dX12_frame_86 : decode cX12_frame 86 = .ok (.iconst (-1), 1) := by decide +kernel
theorem dX12_frame_87 : decode cX12_frame 87 = .ok (.ireturn, 1) := by decide +kernel
theorem dX12_hypothesis_0 : decode cX12_hypothesis 0 = .ok (.aload_n 0, 1) := by decide +kernel
theorem dX12_hypothesis_1 : decode cX12_hypothesis 1 = .ok (.getfield 25, 3) := by decide +kernel
theorem dX12_hypothesis_4 : decode cX12_hypothesis 4 = .ok (.iload_n 1, 1) := by decide +kernel
theorem dX12_hypothesis_5 : decode cX12_hypothesis 5 = .ok (.invokevirtual 197, 3) := by decide +kernel
theorem dX12_hypothesis_8 : decode cX12_hypothesis 8 = .ok (.ifCond .eq 20, 3) := by decide +kernel
theorem dX12_hypothesis_11 : decode cX12_hypothesis 11 = .ok (.iload_n 2, 1) := by decide +kernel
theorem dX12_hypothesis_12 : decode cX12_hypothesis 12 = .ok (.ifCond .lt 16, 3) := by decide +kernel
theorem dX12_hypothesis_15 : decode cX12_hypothesis 15 = .ok (.iload_n 2, 1) := by decide +kernel
theorem dX12_hypothesis_16 : decode cX12_hypothesis 16 = .ok (.aload_n 0, 1) := by decide +kernel
theorem dX12_hypothesis_17 : decode cX12_hypothesis 17 = .ok (.getfield 43, 3) := by decide +kernel
theorem dX12_hypothesis_20 : decode cX12_hypothesis 20 = .ok (.getfield 200, 3) := by decide +kernel
theorem dX12_hypothesis_23 : decode cX12_hypothesis 23 = .ok (.iload_n 1, 1) := by decide +kernel
theorem dX12_hypothesis_24 : decode cX12_hypothesis 24 = .ok (.iaload, 1) := by decide +kernel
theorem dX12_hypothesis_25 : decode cX12_hypothesis 25 = .ok (.if_icmp .lt 5, 3) := by decide +kernel
theorem dX12_hypothesis_28 : decode cX12_hypothesis 28 = .ok (.iconst (-1), 1) := by decide +kernel
theorem dX12_hypothesis_29 : decode cX12_hypothesis 29 = .ok (.ireturn, 1) := by decide +kernel
theorem dX12_hypothesis_30 : decode cX12_hypothesis 30 = .ok (.aload_n 0, 1) := by decide +kernel
theorem dX12_hypothesis_31 : decode cX12_hypothesis 31 = .ok (.getfield 43, 3) := by decide +kernel
theorem dX12_hypothesis_34 : decode cX12_hypothesis 34 = .ok (.getfield 209, 3) := by decide +kernel
theorem dX12_hypothesis_37 : decode cX12_hypothesis 37 = .ok (.aload_n 0, 1) := by decide +kernel
theorem dX12_hypothesis_38 : decode cX12_hypothesis 38 = .ok (.getfield 43, 3) := by decide +kernel
theorem dX12_hypothesis_41 : decode cX12_hypothesis 41 = .ok (.getfield 212, 3) := by decide +kernel
theorem dX12_hypothesis_44 : decode cX12_hypothesis 44 = .ok (.iload_n 1, 1) := by decide +kernel
theorem dX12_hypothesis_45 : decode cX12_hypothesis 45 = .ok (.iaload, 1) := by decide +kernel
theorem dX12_hypothesis_46 : decode cX12_hypothesis 46 = .ok (.iload_n 2, 1) := by decide +kernel
theorem dX12_hypothesis_47 : decode cX12_hypothesis 47 = .ok (.iadd, 1) := by decide +kernel
theorem dX12_hypothesis_48 : decode cX12_hypothesis 48 = .ok (.iaload, 1) := by decide +kernel
theorem dX12_hypothesis_49 : decode cX12_hypothesis 49 = .ok (.ireturn, 1) := by decide +kernel
theorem dX12_apart_0 : decode cX12_apart 0 = .ok (.aload_n 0, 1) := by decide +kernel
theorem dX12_apart_1 : decode cX12_apart 1 = .ok (.getfield 25, 3) := by decide +kernel
theorem dX12_apart_4 : decode cX12_apart 4 = .ok (.iload_n 1, 1) := by decide +kernel
theorem dX12_apart_5 : decode cX12_apart 5 = .ok (.invokevirtual 197, 3) := by decide +kernel
theorem dX12_apart_8 : decode cX12_apart 8 = .ok (.ifCond .ne 5, 3) := by decide +kernel
theorem dX12_apart_11 : decode cX12_apart 11 = .ok (.iconst (-1), 1) := by decide +kernel
theorem dX12_apart_12 : decode cX12_apart 12 = .ok (.ireturn, 1) := by decide +kernel
theorem dX12_apart_13 : decode cX12_apart 13 = .ok (.aload_n 0, 1) := by decide +kernel
theorem dX12_apart_14 : decode cX12_apart 14 = .ok (.getfield 43, 3) := by decide +kernel
theorem dX12_apart_17 : decode cX12_apart 17 = .ok (.iload_n 1, 1) := by decide +kernel
theorem dX12_apart_18 : decode cX12_apart 18 = .ok (.iload_n 2, 1) := by decide +kernel
theorem dX12_apart_19 : decode cX12_apart 19 = .ok (.iload_n 3, 1) := by decide +kernel
theorem dX12_apart_20 : decode cX12_apart 20 = .ok (.invokevirtual 215, 3) := by decide +kernel
theorem dX12_apart_23 : decode cX12_apart 23 = .ok (.ifCond .eq 7, 3) := by decide +kernel
theorem dX12_apart_26 : decode cX12_apart 26 = .ok (.iconst 1, 1) := by decide +kernel
theorem dX12_apart_27 : decode cX12_apart 27 = .ok (.goto 4, 3) := by decide +kernel
theorem dX12_apart_30 : decode cX12_apart 30 = .ok (.iconst 0, 1) := by decide +kernel
theorem dX12_apart_31 : decode cX12_apart 31 = .ok (.ireturn, 1) := by decide +kernel
theorem dX12_rows_0 : decode cX12_rows 0 = .ok (.aload_n 0, 1) := by decide +kernel
theorem dX12_rows_1 : decode cX12_rows 1 = .ok (.getfield 25, 3) := by decide +kernel
theorem dX12_rows_4 : decode cX12_rows 4 = .ok (.iload_n 1, 1) := by decide +kernel
theorem dX12_rows_5 : decode cX12_rows 5 = .ok (.invokevirtual 219, 3) := by decide +kernel
theorem dX12_rows_8 : decode cX12_rows 8 = .ok (.ifCond .eq 15, 3) := by decide +kernel
theorem dX12_rows_11 : decode cX12_rows 11 = .ok (.aload_n 0, 1) := by decide +kernel
theorem dX12_rows_12 : decode cX12_rows 12 = .ok (.getfield 43, 3) := by decide +kernel
theorem dX12_rows_15 : decode cX12_rows 15 = .ok (.getfield 222, 3) := by decide +kernel
theorem dX12_rows_18 : decode cX12_rows 18 = .ok (.iload_n 1, 1) := by decide +kernel
theorem dX12_rows_19 : decode cX12_rows 19 = .ok (.iaload, 1) := by decide +kernel
theorem dX12_rows_20 : decode cX12_rows 20 = .ok (.goto 4, 3) := by decide +kernel
theorem dX12_rows_23 : decode cX12_rows 23 = .ok (.iconst (-1), 1) := by decide +kernel
theorem dX12_rows_24 : decode cX12_rows 24 = .ok (.ireturn, 1) := by decide +kernel
theorem dX12_isRow_0 : decode cX12_isRow 0 = .ok (.aload_n 0, 1) := by decide +kernel
theorem dX12_isRow_1 : decode cX12_isRow 1 = .ok (.getfield 25, 3) := by decide +kernel
theorem dX12_isRow_4 : decode cX12_isRow 4 = .ok (.iload_n 1, 1) := by decide +kernel
theorem dX12_isRow_5 : decode cX12_isRow 5 = .ok (.invokevirtual 219, 3) := by decide +kernel
theorem dX12_isRow_8 : decode cX12_isRow 8 = .ok (.ifCond .eq 24, 3) := by decide +kernel
theorem dX12_isRow_11 : decode cX12_isRow 11 = .ok (.iload_n 2, 1) := by decide +kernel
theorem dX12_isRow_12 : decode cX12_isRow 12 = .ok (.ifCond .lt 20, 3) := by decide +kernel
theorem dX12_isRow_15 : decode cX12_isRow 15 = .ok (.iload_n 2, 1) := by decide +kernel
theorem dX12_isRow_16 : decode cX12_isRow 16 = .ok (.aload_n 0, 1) := by decide +kernel
theorem dX12_isRow_17 : decode cX12_isRow 17 = .ok (.getfield 43, 3) := by decide +kernel
theorem dX12_isRow_20 : decode cX12_isRow 20 = .ok (.getfield 222, 3) := by decide +kernel
theorem dX12_isRow_23 : decode cX12_isRow 23 = .ok (.iload_n 1, 1) := by decide +kernel
theorem dX12_isRow_24 : decode cX12_isRow 24 = .ok (.iaload, 1) := by decide +kernel
theorem dX12_isRow_25 : decode cX12_isRow 25 = .ok (.if_icmp .ge 7, 3) := by decide +kernel
theorem dX12_isRow_28 : decode cX12_isRow 28 = .ok (.iconst 1, 1) := by decide +kernel
theorem dX12_isRow_29 : decode cX12_isRow 29 = .ok (.goto 4, 3) := by decide +kernel
theorem dX12_isRow_32 : decode cX12_isRow 32 = .ok (.iconst 0, 1) := by decide +kernel
theorem dX12_isRow_33 : decode cX12_isRow 33 = .ok (.ireturn, 1) := by decide +kernel
theorem dX12_row_0 : decode cX12_row 0 = .ok (.aload_n 0, 1) := by decide +kernel
theorem dX12_row_1 : decode cX12_row 1 = .ok (.iload_n 1, 1) := by decide +kernel
theorem dX12_row_2 : decode cX12_row 2 = .ok (.iload_n 2, 1) := by decide +kernel
theorem dX12_row_3 : decode cX12_row 3 = .ok (.invokevirtual 225, 3) := by decide +kernel
theorem dX12_row_6 : decode cX12_row 6 = .ok (.ifCond .eq 25, 3) := by decide +kernel
theorem dX12_row_9 : decode cX12_row 9 = .ok (.aload_n 0, 1) := by decide +kernel
theorem dX12_row_10 : decode cX12_row 10 = .ok (.getfield 43, 3) := by decide +kernel
theorem dX12_row_13 : decode cX12_row 13 = .ok (.getfield 229, 3) := by decide +kernel
theorem dX12_row_16 : decode cX12_row 16 = .ok (.aload_n 0, 1) := by decide +kernel
theorem dX12_row_17 : decode cX12_row 17 = .ok (.getfield 43, 3) := by decide +kernel
theorem dX12_row_20 : decode cX12_row 20 = .ok (.getfield 232, 3) := by decide +kernel
theorem dX12_row_23 : decode cX12_row 23 = .ok (.iload_n 1, 1) := by decide +kernel
theorem dX12_row_24 : decode cX12_row 24 = .ok (.iaload, 1) := by decide +kernel
theorem dX12_row_25 : decode cX12_row 25 = .ok (.iload_n 2, 1) := by decide +kernel
theorem dX12_row_26 : decode cX12_row 26 = .ok (.iadd, 1) := by decide +kernel
theorem dX12_row_27 : decode cX12_row 27 = .ok (.iaload, 1) := by decide +kernel
theorem dX12_row_28 : decode cX12_row 28 = .ok (.goto 4, 3) := by decide +kernel
theorem dX12_row_31 : decode cX12_row 31 = .ok (.iconst (-1), 1) := by decide +kernel
theorem dX12_row_32 : decode cX12_row 32 = .ok (.ireturn, 1) := by decide +kernel
theorem dX12_from_0 : decode cX12_from 0 = .ok (.aload_n 0, 1) := by decide +kernel
theorem dX12_from_1 : decode cX12_from 1 = .ok (.iload_n 1, 1) := by decide +kernel
theorem dX12_from_2 : decode cX12_from 2 = .ok (.iload_n 2, 1) := by decide +kernel
theorem dX12_from_3 : decode cX12_from 3 = .ok (.invokevirtual 225, 3) := by decide +kernel
theorem dX12_from_6 : decode cX12_from 6 = .ok (.ifCond .ne 5, 3) := by decide +kernel
theorem dX12_from_9 : decode cX12_from 9 = .ok (.iconst (-1), 1) := by decide +kernel
theorem dX12_from_10 : decode cX12_from 10 = .ok (.ireturn, 1) := by decide +kernel
theorem dX12_from_11 : decode cX12_from 11 = .ok (.aload_n 0, 1) := by decide +kernel
theorem dX12_from_12 : decode cX12_from 12 = .ok (.getfield 43, 3) := by decide +kernel
theorem dX12_from_15 : decode cX12_from 15 = .ok (.getfield 232, 3) := by decide +kernel
theorem dX12_from_18 : decode cX12_from 18 = .ok (.iload_n 1, 1) := by decide +kernel
theorem dX12_from_19 : decode cX12_from 19 = .ok (.iaload, 1) := by decide +kernel
theorem dX12_from_20 : decode cX12_from 20 = .ok (.iload_n 2, 1) := by decide +kernel
theorem dX12_from_21 : decode cX12_from 21 = .ok (.iadd, 1) := by decide +kernel
theorem dX12_from_22 : decode cX12_from 22 = .ok (.istore 4, 2) := by decide +kernel
theorem dX12_from_24 : decode cX12_from 24 = .ok (.iload_n 3, 1) := by decide +kernel
theorem dX12_from_25 : decode cX12_from 25 = .ok (.ifCond .lt 16, 3) := by decide +kernel
theorem dX12_from_28 : decode cX12_from 28 = .ok (.iload_n 3, 1) := by decide +kernel
theorem dX12_from_29 : decode cX12_from 29 = .ok (.aload_n 0, 1) := by decide +kernel
theorem dX12_from_30 : decode cX12_from 30 = .ok (.getfield 43, 3) := by decide +kernel
theorem dX12_from_33 : decode cX12_from 33 = .ok (.iload 4, 2) := by decide +kernel
theorem dX12_from_35 : decode cX12_from 35 = .ok (.invokevirtual 235, 3) := by decide +kernel
theorem dX12_from_38 : decode cX12_from 38 = .ok (.if_icmp .lt 5, 3) := by decide +kernel
theorem dX12_from_41 : decode cX12_from 41 = .ok (.iconst (-1), 1) := by decide +kernel
theorem dX12_from_42 : decode cX12_from 42 = .ok (.ireturn, 1) := by decide +kernel
theorem dX12_from_43 : decode cX12_from 43 = .ok (.aload_n 0, 1) := by decide +kernel
theorem dX12_from_44 : decode cX12_from 44 = .ok (.getfield 43, 3) := by decide +kernel
theorem dX12_from_47 : decode cX12_from 47 = .ok (.getfield 238, 3) := by decide +kernel
theorem dX12_from_50 : decode cX12_from 50 = .ok (.aload_n 0, 1) := by decide +kernel
theorem dX12_from_51 : decode cX12_from 51 = .ok (.getfield 43, 3) := by decide +kernel
theorem dX12_from_54 : decode cX12_from 54 = .ok (.getfield 241, 3) := by decide +kernel
theorem dX12_from_57 : decode cX12_from 57 = .ok (.iload 4, 2) := by decide +kernel
theorem dX12_from_59 : decode cX12_from 59 = .ok (.iaload, 1) := by decide +kernel
theorem dX12_from_60 : decode cX12_from 60 = .ok (.iload_n 3, 1) := by decide +kernel
theorem dX12_from_61 : decode cX12_from 61 = .ok (.iadd, 1) := by decide +kernel
theorem dX12_from_62 : decode cX12_from 62 = .ok (.iaload, 1) := by decide +kernel
theorem dX12_from_63 : decode cX12_from 63 = .ok (.ireturn, 1) := by decide +kernel
theorem dX12_rests_0 : decode cX12_rests 0 = .ok (.aload_n 0, 1) := by decide +kernel
theorem dX12_rests_1 : decode cX12_rests 1 = .ok (.getfield 25, 3) := by decide +kernel
theorem dX12_rests_4 : decode cX12_rests 4 = .ok (.iload_n 1, 1) := by decide +kernel
theorem dX12_rests_5 : decode cX12_rests 5 = .ok (.invokevirtual 219, 3) := by decide +kernel
theorem dX12_rests_8 : decode cX12_rests 8 = .ok (.ifCond .eq 14, 3) := by decide +kernel
theorem dX12_rests_11 : decode cX12_rests 11 = .ok (.aload_n 0, 1) := by decide +kernel
theorem dX12_rests_12 : decode cX12_rests 12 = .ok (.getfield 25, 3) := by decide +kernel
theorem dX12_rests_15 : decode cX12_rests 15 = .ok (.iload_n 2, 1) := by decide +kernel
theorem dX12_rests_16 : decode cX12_rests 16 = .ok (.invokevirtual 197, 3) := by decide +kernel
theorem dX12_rests_19 : decode cX12_rests 19 = .ok (.ifCond .ne 5, 3) := by decide +kernel
theorem dX12_rests_22 : decode cX12_rests 22 = .ok (.iconst (-1), 1) := by decide +kernel
theorem dX12_rests_23 : decode cX12_rests 23 = .ok (.ireturn, 1) := by decide +kernel
theorem dX12_rests_24 : decode cX12_rests 24 = .ok (.aload_n 0, 1) := by decide +kernel
theorem dX12_rests_25 : decode cX12_rests 25 = .ok (.getfield 43, 3) := by decide +kernel
theorem dX12_rests_28 : decode cX12_rests 28 = .ok (.iload_n 1, 1) := by decide +kernel
theorem dX12_rests_29 : decode cX12_rests 29 = .ok (.iload_n 2, 1) := by decide +kernel
theorem dX12_rests_30 : decode cX12_rests 30 = .ok (.invokevirtual 244, 3) := by decide +kernel
theorem dX12_rests_33 : decode cX12_rests 33 = .ok (.ifCond .eq 7, 3) := by decide +kernel
theorem dX12_rests_36 : decode cX12_rests 36 = .ok (.iconst 1, 1) := by decide +kernel
theorem dX12_rests_37 : decode cX12_rests 37 = .ok (.goto 4, 3) := by decide +kernel
theorem dX12_rests_40 : decode cX12_rests 40 = .ok (.iconst 0, 1) := by decide +kernel
theorem dX12_rests_41 : decode cX12_rests 41 = .ok (.ireturn, 1) := by decide +kernel
theorem dX12_size_0 : decode cX12_size 0 = .ok (.aload_n 0, 1) := by decide +kernel
theorem dX12_size_1 : decode cX12_size 1 = .ok (.getfield 25, 3) := by decide +kernel
theorem dX12_size_4 : decode cX12_size 4 = .ok (.iload_n 1, 1) := by decide +kernel
theorem dX12_size_5 : decode cX12_size 5 = .ok (.invokevirtual 219, 3) := by decide +kernel
theorem dX12_size_8 : decode cX12_size 8 = .ok (.ifCond .ne 7, 3) := by decide +kernel
theorem dX12_size_11 : decode cX12_size 11 = .ok (.ldc2_w 247, 3) := by decide +kernel
theorem dX12_size_14 : decode cX12_size 14 = .ok (.lreturn, 1) := by decide +kernel
theorem dX12_size_15 : decode cX12_size 15 = .ok (.aload_n 0, 1) := by decide +kernel
theorem dX12_size_16 : decode cX12_size 16 = .ok (.getfield 43, 3) := by decide +kernel
theorem dX12_size_19 : decode cX12_size 19 = .ok (.iload_n 1, 1) := by decide +kernel
theorem dX12_size_20 : decode cX12_size 20 = .ok (.invokevirtual 249, 3) := by decide +kernel
theorem dX12_size_23 : decode cX12_size 23 = .ok (.lstore_n 2, 1) := by decide +kernel
theorem dX12_size_24 : decode cX12_size 24 = .ok (.lload_n 2, 1) := by decide +kernel
theorem dX12_size_25 : decode cX12_size 25 = .ok (.ldc2_w 253, 3) := by decide +kernel
theorem dX12_size_28 : decode cX12_size 28 = .ok (.lcmp, 1) := by decide +kernel
theorem dX12_size_29 : decode cX12_size 29 = .ok (.ifCond .le 9, 3) := by decide +kernel
theorem dX12_size_32 : decode cX12_size 32 = .ok (.ldc2_w 255, 3) := by decide +kernel
theorem dX12_size_35 : decode cX12_size 35 = .ok (.goto 4, 3) := by decide +kernel
theorem dX12_size_38 : decode cX12_size 38 = .ok (.lload_n 2, 1) := by decide +kernel
theorem dX12_size_39 : decode cX12_size 39 = .ok (.lreturn, 1) := by decide +kernel
theorem dX12_print_0 : decode cX12_print 0 = .ok (.iload_n 1, 1) := by decide +kernel
theorem dX12_print_1 : decode cX12_print 1 = .ok (.iconst 1, 1) := by decide +kernel
theorem dX12_print_2 : decode cX12_print 2 = .ok (.if_icmp .ne 9, 3) := by decide +kernel
theorem dX12_print_5 : decode cX12_print 5 = .ok (.aload_n 0, 1) := by decide +kernel
theorem dX12_print_6 : decode cX12_print 6 = .ok (.iload_n 2, 1) := by decide +kernel
theorem dX12_print_7 : decode cX12_print 7 = .ok (.invokevirtual 257, 3) := by decide +kernel
theorem dX12_print_10 : decode cX12_print 10 = .ok (.ireturn, 1) := by decide +kernel
theorem dX12_print_11 : decode cX12_print 11 = .ok (.aload_n 0, 1) := by decide +kernel
theorem dX12_print_12 : decode cX12_print 12 = .ok (.getfield 25, 3) := by decide +kernel
theorem dX12_print_15 : decode cX12_print 15 = .ok (.iload_n 2, 1) := by decide +kernel
theorem dX12_print_16 : decode cX12_print 16 = .ok (.invokevirtual 161, 3) := by decide +kernel
theorem dX12_print_19 : decode cX12_print 19 = .ok (.ifCond .ne 5, 3) := by decide +kernel
theorem dX12_print_22 : decode cX12_print 22 = .ok (.iconst (-1), 1) := by decide +kernel
theorem dX12_print_23 : decode cX12_print 23 = .ok (.ireturn, 1) := by decide +kernel
theorem dX12_print_24 : decode cX12_print 24 = .ok (.iload_n 1, 1) := by decide +kernel
theorem dX12_print_25 : decode cX12_print 25 = .ok (.tableswitch 115 0 7 #[47, 115, 78, 84, 91, 97, 103, 109], 47) := by decide +kernel
theorem dX12_print_72 : decode cX12_print 72 = .ok (.aload_n 0, 1) := by decide +kernel
theorem dX12_print_73 : decode cX12_print 73 = .ok (.getfield 116, 3) := by decide +kernel
theorem dX12_print_76 : decode cX12_print 76 = .ok (.invokevirtual 260, 3) := by decide +kernel
theorem dX12_print_79 : decode cX12_print 79 = .ok (.aload_n 0, 1) := by decide +kernel
theorem dX12_print_80 : decode cX12_print 80 = .ok (.getfield 116, 3) := by decide +kernel
theorem dX12_print_83 : decode cX12_print 83 = .ok (.aload_n 0, 1) := by decide +kernel
theorem dX12_print_84 : decode cX12_print 84 = .ok (.getfield 25, 3) := by decide +kernel
theorem dX12_print_87 : decode cX12_print 87 = .ok (.getfield 263, 3) := by decide +kernel
theorem dX12_print_90 : decode cX12_print 90 = .ok (.iload_n 2, 1) := by decide +kernel
theorem dX12_print_91 : decode cX12_print 91 = .ok (.iaload, 1) := by decide +kernel
theorem dX12_print_92 : decode cX12_print 92 = .ok (.invokevirtual 266, 3) := by decide +kernel
theorem dX12_print_95 : decode cX12_print 95 = .ok (.aload_n 0, 1) := by decide +kernel
theorem dX12_print_96 : decode cX12_print 96 = .ok (.getfield 116, 3) := by decide +kernel
theorem dX12_print_99 : decode cX12_print 99 = .ok (.invokevirtual 269, 3) := by decide +kernel
theorem dX12_print_102 : decode cX12_print 102 = .ok (.ireturn, 1) := by decide +kernel
theorem dX12_print_103 : decode cX12_print 103 = .ok (.aload_n 0, 1) := by decide +kernel
theorem dX12_print_104 : decode cX12_print 104 = .ok (.iload_n 2, 1) := by decide +kernel
theorem dX12_print_105 : decode cX12_print 105 = .ok (.invokevirtual 272, 3) := by decide +kernel
theorem dX12_print_108 : decode cX12_print 108 = .ok (.ireturn, 1) := by decide +kernel
theorem dX12_print_109 : decode cX12_print 109 = .ok (.aload_n 0, 1) := by decide +kernel
theorem dX12_print_110 : decode cX12_print 110 = .ok (.iload_n 2, 1) := by decide +kernel
theorem dX12_print_111 : decode cX12_print 111 = .ok (.iload_n 3, 1) := by decide +kernel
theorem dX12_print_112 : decode cX12_print 112 = .ok (.invokevirtual 275, 3) := by decide +kernel
theorem dX12_print_115 : decode cX12_print 115 = .ok (.ireturn, 1) := by decide +kernel
theorem dX12_print_116 : decode cX12_print 116 = .ok (.aload_n 0, 1) := by decide +kernel
theorem dX12_print_117 : decode cX12_print 117 = .ok (.iload_n 2, 1) := by decide +kernel
theorem dX12_print_118 : decode cX12_print 118 = .ok (.invokevirtual 279, 3) := by decide +kernel
theorem dX12_print_121 : decode cX12_print 121 = .ok (.ireturn, 1) := by decide +kernel
theorem dX12_print_122 : decode cX12_print 122 = .ok (.aload_n 0, 1) := by decide +kernel
theorem dX12_print_123 : decode cX12_print 123 = .ok (.iload_n 2, 1) := by decide +kernel
theorem dX12_print_124 : decode cX12_print 124 = .ok (.invokevirtual 282, 3) := by decide +kernel
theorem dX12_print_127 : decode cX12_print 127 = .ok (.ireturn, 1) := by decide +kernel
theorem dX12_print_128 : decode cX12_print 128 = .ok (.aload_n 0, 1) := by decide +kernel
theorem dX12_print_129 : decode cX12_print 129 = .ok (.iload_n 2, 1) := by decide +kernel
theorem dX12_print_130 : decode cX12_print 130 = .ok (.invokevirtual 285, 3) := by decide +kernel
theorem dX12_print_133 : decode cX12_print 133 = .ok (.ireturn, 1) := by decide +kernel
theorem dX12_print_134 : decode cX12_print 134 = .ok (.aload_n 0, 1) := by decide +kernel
theorem dX12_print_135 : decode cX12_print 135 = .ok (.iload_n 2, 1) := by decide +kernel
theorem dX12_print_136 : decode cX12_print 136 = .ok (.invokevirtual 288, 3) := by decide +kernel
theorem dX12_print_139 : decode cX12_print 139 = .ok (.ireturn, 1) := by decide +kernel
theorem dX12_print_140 : decode cX12_print 140 = .ok (.iconst (-1), 1) := by decide +kernel
theorem dX12_print_141 : decode cX12_print 141 = .ok (.ireturn, 1) := by decide +kernel
theorem dX12_printSymbol_0 : decode cX12_printSymbol 0 = .ok (.aload_n 0, 1) := by decide +kernel
theorem dX12_printSymbol_1 : decode cX12_printSymbol 1 = .ok (.getfield 25, 3) := by decide +kernel
theorem dX12_printSymbol_4 : decode cX12_printSymbol 4 = .ok (.iload_n 1, 1) := by decide +kernel
theorem dX12_printSymbol_5 : decode cX12_printSymbol 5 = .ok (.invokevirtual 177, 3) := by decide +kernel
theorem dX12_printSymbol_8 : decode cX12_printSymbol 8 = .ok (.ifCond .ne 5, 3) := by decide +kernel
theorem dX12_printSymbol_11 : decode cX12_printSymbol 11 = .ok (.iconst (-1), 1) := by decide +kernel
theorem dX12_printSymbol_12 : decode cX12_printSymbol 12 = .ok (.ireturn, 1) := by decide +kernel
theorem dX12_printSymbol_13 : decode cX12_printSymbol 13 = .ok (.aload_n 0, 1) := by decide +kernel
theorem dX12_printSymbol_14 : decode cX12_printSymbol 14 = .ok (.getfield 116, 3) := by decide +kernel
theorem dX12_printSymbol_17 : decode cX12_printSymbol 17 = .ok (.invokevirtual 260, 3) := by decide +kernel
theorem dX12_printSymbol_20 : decode cX12_printSymbol 20 = .ok (.aload_n 0, 1) := by decide +kernel
theorem dX12_printSymbol_21 : decode cX12_printSymbol 21 = .ok (.getfield 116, 3) := by decide +kernel
theorem dX12_printSymbol_24 : decode cX12_printSymbol 24 = .ok (.iload_n 1, 1) := by decide +kernel
theorem dX12_printSymbol_25 : decode cX12_printSymbol 25 = .ok (.invokevirtual 291, 3) := by decide +kernel
theorem dX12_printSymbol_28 : decode cX12_printSymbol 28 = .ok (.aload_n 0, 1) := by decide +kernel
theorem dX12_printSymbol_29 : decode cX12_printSymbol 29 = .ok (.getfield 116, 3) := by decide +kernel
theorem dX12_printSymbol_32 : decode cX12_printSymbol 32 = .ok (.invokevirtual 269, 3) := by decide +kernel
theorem dX12_printSymbol_35 : decode cX12_printSymbol 35 = .ok (.ireturn, 1) := by decide +kernel
theorem dX12_printStatement_0 : decode cX12_printStatement 0 = .ok (.aload_n 0, 1) := by decide +kernel
theorem dX12_printStatement_1 : decode cX12_printStatement 1 = .ok (.getfield 116, 3) := by decide +kernel
theorem dX12_printStatement_4 : decode cX12_printStatement 4 = .ok (.invokevirtual 260, 3) := by decide +kernel
theorem dX12_printStatement_7 : decode cX12_printStatement 7 = .ok (.aload_n 0, 1) := by decide +kernel
theorem dX12_printStatement_8 : decode cX12_printStatement 8 = .ok (.getfield 25, 3) := by decide +kernel
theorem dX12_printStatement_11 : decode cX12_printStatement 11 = .ok (.getfield 174, 3) := by decide +kernel
theorem dX12_printStatement_14 : decode cX12_printStatement 14 = .ok (.iload_n 1, 1) := by decide +kernel
theorem dX12_printStatement_15 : decode cX12_printStatement 15 = .ok (.iaload, 1) := by decide +kernel
theorem dX12_printStatement_16 : decode cX12_printStatement 16 = .ok (.istore_n 2, 1) := by decide +kernel
theorem dX12_printStatement_17 : decode cX12_printStatement 17 = .ok (.iload_n 2, 1) := by decide +kernel
theorem dX12_printStatement_18 : decode cX12_printStatement 18 = .ok (.aload_n 0, 1) := by decide +kernel
theorem dX12_printStatement_19 : decode cX12_printStatement 19 = .ok (.getfield 25, 3) := by decide +kernel
theorem dX12_printStatement_22 : decode cX12_printStatement 22 = .ok (.getfield 174, 3) := by decide +kernel
theorem dX12_printStatement_25 : decode cX12_printStatement 25 = .ok (.iload_n 1, 1) := by decide +kernel
theorem dX12_printStatement_26 : decode cX12_printStatement 26 = .ok (.iconst 1, 1) := by decide +kernel
theorem dX12_printStatement_27 : decode cX12_printStatement 27 = .ok (.iadd, 1) := by decide +kernel
theorem dX12_printStatement_28 : decode cX12_printStatement 28 = .ok (.iaload, 1) := by decide +kernel
theorem dX12_printStatement_29 : decode cX12_printStatement 29 = .ok (.if_icmp .ge 25, 3) := by decide +kernel
theorem dX12_printStatement_32 : decode cX12_printStatement 32 = .ok (.aload_n 0, 1) := by decide +kernel
theorem dX12_printStatement_33 : decode cX12_printStatement 33 = .ok (.getfield 116, 3) := by decide +kernel
theorem dX12_printStatement_36 : decode cX12_printStatement 36 = .ok (.aload_n 0, 1) := by decide +kernel
theorem dX12_printStatement_37 : decode cX12_printStatement 37 = .ok (.getfield 25, 3) := by decide +kernel
theorem dX12_printStatement_40 : decode cX12_printStatement 40 = .ok (.getfield 171, 3) := by decide +kernel
theorem dX12_printStatement_43 : decode cX12_printStatement 43 = .ok (.iload_n 2, 1) := by decide +kernel
theorem dX12_printStatement_44 : decode cX12_printStatement 44 = .ok (.iaload, 1) := by decide +kernel
theorem dX12_printStatement_45 : decode cX12_printStatement 45 = .ok (.invokevirtual 291, 3) := by decide +kernel
theorem dX12_printStatement_48 : decode cX12_printStatement 48 = .ok (.iinc 2 1, 3) := by decide +kernel
theorem dX12_printStatement_51 : decode cX12_printStatement 51 = .ok (.goto (-34), 3) := by decide +kernel
theorem dX12_printStatement_54 : decode cX12_printStatement 54 = .ok (.aload_n 0, 1) := by decide +kernel
theorem dX12_printStatement_55 : decode cX12_printStatement 55 = .ok (.getfield 116, 3) := by decide +kernel
theorem dX12_printStatement_58 : decode cX12_printStatement 58 = .ok (.invokevirtual 269, 3) := by decide +kernel
theorem dX12_printStatement_61 : decode cX12_printStatement 61 = .ok (.ireturn, 1) := by decide +kernel
theorem dX12_printRow_0 : decode cX12_printRow 0 = .ok (.aload_n 0, 1) := by decide +kernel
theorem dX12_printRow_1 : decode cX12_printRow 1 = .ok (.iload_n 1, 1) := by decide +kernel
theorem dX12_printRow_2 : decode cX12_printRow 2 = .ok (.iload_n 2, 1) := by decide +kernel
theorem dX12_printRow_3 : decode cX12_printRow 3 = .ok (.invokevirtual 225, 3) := by decide +kernel
theorem dX12_printRow_6 : decode cX12_printRow 6 = .ok (.ifCond .eq 15, 3) := by decide +kernel
theorem dX12_printRow_9 : decode cX12_printRow 9 = .ok (.aload_n 0, 1) := by decide +kernel
theorem dX12_printRow_10 : decode cX12_printRow 10 = .ok (.getfield 52, 3) := by decide +kernel
theorem dX12_printRow_13 : decode cX12_printRow 13 = .ok (.iload_n 1, 1) := by decide +kernel
theorem dX12_printRow_14 : decode cX12_printRow 14 = .ok (.iload_n 2, 1) := by decide +kernel
theorem dX12_printRow_15 : decode cX12_printRow 15 = .ok (.invokevirtual 294, 3) := by decide +kernel
theorem dX12_printRow_18 : decode cX12_printRow 18 = .ok (.ifCond .ne 5, 3) := by decide +kernel
theorem dX12_printRow_21 : decode cX12_printRow 21 = .ok (.iconst (-1), 1) := by decide +kernel
theorem dX12_printRow_22 : decode cX12_printRow 22 = .ok (.ireturn, 1) := by decide +kernel
theorem dX12_printRow_23 : decode cX12_printRow 23 = .ok (.aload_n 0, 1) := by decide +kernel
theorem dX12_printRow_24 : decode cX12_printRow 24 = .ok (.getfield 116, 3) := by decide +kernel
theorem dX12_printRow_27 : decode cX12_printRow 27 = .ok (.invokevirtual 260, 3) := by decide +kernel
theorem dX12_printRow_30 : decode cX12_printRow 30 = .ok (.aload_n 0, 1) := by decide +kernel
theorem dX12_printRow_31 : decode cX12_printRow 31 = .ok (.getfield 116, 3) := by decide +kernel
theorem dX12_printRow_34 : decode cX12_printRow 34 = .ok (.aload_n 0, 1) := by decide +kernel
theorem dX12_printRow_35 : decode cX12_printRow 35 = .ok (.getfield 52, 3) := by decide +kernel
theorem dX12_printRow_38 : decode cX12_printRow 38 = .ok (.getfield 297, 3) := by decide +kernel
theorem dX12_printRow_41 : decode cX12_printRow 41 = .ok (.aload_n 0, 1) := by decide +kernel
theorem dX12_printRow_42 : decode cX12_printRow 42 = .ok (.getfield 52, 3) := by decide +kernel
theorem dX12_printRow_45 : decode cX12_printRow 45 = .ok (.getfield 300, 3) := by decide +kernel
theorem dX12_printRow_48 : decode cX12_printRow 48 = .ok (.iload_n 2, 1) := by decide +kernel
theorem dX12_printRow_49 : decode cX12_printRow 49 = .ok (.iaload, 1) := by decide +kernel
theorem dX12_printRow_50 : decode cX12_printRow 50 = .ok (.aload_n 0, 1) := by decide +kernel
theorem dX12_printRow_51 : decode cX12_printRow 51 = .ok (.getfield 52, 3) := by decide +kernel
theorem dX12_printRow_54 : decode cX12_printRow 54 = .ok (.getfield 300, 3) := by decide +kernel
theorem dX12_printRow_57 : decode cX12_printRow 57 = .ok (.iload_n 2, 1) := by decide +kernel
theorem dX12_printRow_58 : decode cX12_printRow 58 = .ok (.iaload, 1) := by decide +kernel
theorem dX12_printRow_59 : decode cX12_printRow 59 = .ok (.aload_n 0, 1) := by decide +kernel
theorem dX12_printRow_60 : decode cX12_printRow 60 = .ok (.getfield 52, 3) := by decide +kernel
theorem dX12_printRow_63 : decode cX12_printRow 63 = .ok (.getfield 301, 3) := by decide +kernel
theorem dX12_printRow_66 : decode cX12_printRow 66 = .ok (.iload_n 2, 1) := by decide +kernel
theorem dX12_printRow_67 : decode cX12_printRow 67 = .ok (.iaload, 1) := by decide +kernel
theorem dX12_printRow_68 : decode cX12_printRow 68 = .ok (.iadd, 1) := by decide +kernel
theorem dX12_printRow_69 : decode cX12_printRow 69 = .ok (.invokevirtual 304, 3) := by decide +kernel
theorem dX12_printRow_72 : decode cX12_printRow 72 = .ok (.aload_n 0, 1) := by decide +kernel
theorem dX12_printRow_73 : decode cX12_printRow 73 = .ok (.getfield 116, 3) := by decide +kernel
theorem dX12_printRow_76 : decode cX12_printRow 76 = .ok (.invokevirtual 269, 3) := by decide +kernel
theorem dX12_printRow_79 : decode cX12_printRow 79 = .ok (.ireturn, 1) := by decide +kernel
theorem dX12_printPacked_0 : decode cX12_printPacked 0 = .ok (.aload_n 0, 1) := by decide +kernel
theorem dX12_printPacked_1 : decode cX12_printPacked 1 = .ok (.getfield 25, 3) := by decide +kernel
theorem dX12_printPacked_4 : decode cX12_printPacked 4 = .ok (.iload_n 1, 1) := by decide +kernel
theorem dX12_printPacked_5 : decode cX12_printPacked 5 = .ok (.invokevirtual 219, 3) := by decide +kernel
theorem dX12_printPacked_8 : decode cX12_printPacked 8 = .ok (.ifCond .ne 5, 3) := by decide +kernel
theorem dX12_printPacked_11 : decode cX12_printPacked 11 = .ok (.iconst (-1), 1) := by decide +kernel
theorem dX12_printPacked_12 : decode cX12_printPacked 12 = .ok (.ireturn, 1) := by decide +kernel
theorem dX12_printPacked_13 : decode cX12_printPacked 13 = .ok (.aload_n 0, 1) := by decide +kernel
theorem dX12_printPacked_14 : decode cX12_printPacked 14 = .ok (.getfield 75, 3) := by decide +kernel
theorem dX12_printPacked_17 : decode cX12_printPacked 17 = .ok (.iload_n 1, 1) := by decide +kernel
theorem dX12_printPacked_18 : decode cX12_printPacked 18 = .ok (.invokevirtual 308, 3) := by decide +kernel
theorem dX12_printPacked_21 : decode cX12_printPacked 21 = .ok (.aload_n 0, 1) := by decide +kernel
theorem dX12_printPacked_22 : decode cX12_printPacked 22 = .ok (.getfield 116, 3) := by decide +kernel
theorem dX12_printPacked_25 : decode cX12_printPacked 25 = .ok (.invokevirtual 260, 3) := by decide +kernel
theorem dX12_printPacked_28 : decode cX12_printPacked 28 = .ok (.aload_n 0, 1) := by decide +kernel
theorem dX12_printPacked_29 : decode cX12_printPacked 29 = .ok (.getfield 116, 3) := by decide +kernel
theorem dX12_printPacked_32 : decode cX12_printPacked 32 = .ok (.bipush 40, 2) := by decide +kernel
theorem dX12_printPacked_34 : decode cX12_printPacked 34 = .ok (.invokevirtual 311, 3) := by decide +kernel
theorem dX12_printPacked_37 : decode cX12_printPacked 37 = .ok (.iconst 0, 1) := by decide +kernel
theorem dX12_printPacked_38 : decode cX12_printPacked 38 = .ok (.istore_n 2, 1) := by decide +kernel
theorem dX12_printPacked_39 : decode cX12_printPacked 39 = .ok (.iload_n 2, 1) := by decide +kernel
theorem dX12_printPacked_40 : decode cX12_printPacked 40 = .ok (.aload_n 0, 1) := by decide +kernel
theorem dX12_printPacked_41 : decode cX12_printPacked 41 = .ok (.getfield 75, 3) := by decide +kernel
theorem dX12_printPacked_44 : decode cX12_printPacked 44 = .ok (.getfield 314, 3) := by decide +kernel
theorem dX12_printPacked_47 : decode cX12_printPacked 47 = .ok (.if_icmp .ge 33, 3) := by decide +kernel
theorem dX12_printPacked_50 : decode cX12_printPacked 50 = .ok (.aload_n 0, 1) := by decide +kernel
theorem dX12_printPacked_51 : decode cX12_printPacked 51 = .ok (.getfield 116, 3) := by decide +kernel
theorem dX12_printPacked_54 : decode cX12_printPacked 54 = .ok (.aload_n 0, 1) := by decide +kernel
theorem dX12_printPacked_55 : decode cX12_printPacked 55 = .ok (.getfield 25, 3) := by decide +kernel
theorem dX12_printPacked_58 : decode cX12_printPacked 58 = .ok (.getfield 263, 3) := by decide +kernel
theorem dX12_printPacked_61 : decode cX12_printPacked 61 = .ok (.aload_n 0, 1) := by decide +kernel
theorem dX12_printPacked_62 : decode cX12_printPacked 62 = .ok (.getfield 75, 3) := by decide +kernel
theorem dX12_printPacked_65 : decode cX12_printPacked 65 = .ok (.getfield 317, 3) := by decide +kernel
theorem dX12_printPacked_68 : decode cX12_printPacked 68 = .ok (.iload_n 2, 1) := by decide +kernel
theorem dX12_printPacked_69 : decode cX12_printPacked 69 = .ok (.iaload, 1) := by decide +kernel
theorem dX12_printPacked_70 : decode cX12_printPacked 70 = .ok (.iaload, 1) := by decide +kernel
theorem dX12_printPacked_71 : decode cX12_printPacked 71 = .ok (.invokevirtual 266, 3) := by decide +kernel
theorem dX12_printPacked_74 : decode cX12_printPacked 74 = .ok (.iinc 2 1, 3) := by decide +kernel
theorem dX12_printPacked_77 : decode cX12_printPacked 77 = .ok (.goto (-38), 3) := by decide +kernel
theorem dX12_printPacked_80 : decode cX12_printPacked 80 = .ok (.aload_n 0, 1) := by decide +kernel
theorem dX12_printPacked_81 : decode cX12_printPacked 81 = .ok (.getfield 116, 3) := by decide +kernel
theorem dX12_printPacked_84 : decode cX12_printPacked 84 = .ok (.bipush 41, 2) := by decide +kernel
theorem dX12_printPacked_86 : decode cX12_printPacked 86 = .ok (.invokevirtual 311, 3) := by decide +kernel
theorem dX12_printPacked_89 : decode cX12_printPacked 89 = .ok (.aload_n 0, 1) := by decide +kernel
theorem dX12_printPacked_90 : decode cX12_printPacked 90 = .ok (.getfield 116, 3) := by decide +kernel
theorem dX12_printPacked_93 : decode cX12_printPacked 93 = .ok (.invokevirtual 320, 3) := by decide +kernel
theorem dX12_printPacked_96 : decode cX12_printPacked 96 = .ok (.iconst 0, 1) := by decide +kernel
theorem dX12_printPacked_97 : decode cX12_printPacked 97 = .ok (.istore_n 2, 1) := by decide +kernel
theorem dX12_printPacked_98 : decode cX12_printPacked 98 = .ok (.iload_n 2, 1) := by decide +kernel
theorem dX12_printPacked_99 : decode cX12_printPacked 99 = .ok (.aload_n 0, 1) := by decide +kernel
theorem dX12_printPacked_100 : decode cX12_printPacked 100 = .ok (.getfield 75, 3) := by decide +kernel
theorem dX12_printPacked_103 : decode cX12_printPacked 103 = .ok (.getfield 323, 3) := by decide +kernel
theorem dX12_printPacked_106 : decode cX12_printPacked 106 = .ok (.if_icmp .ge 44, 3) := by decide +kernel
theorem dX12_printPacked_109 : decode cX12_printPacked 109 = .ok (.aload_n 0, 1) := by decide +kernel
theorem dX12_printPacked_110 : decode cX12_printPacked 110 = .ok (.getfield 116, 3) := by decide +kernel
theorem dX12_printPacked_113 : decode cX12_printPacked 113 = .ok (.aload_n 0, 1) := by decide +kernel
theorem dX12_printPacked_114 : decode cX12_printPacked 114 = .ok (.getfield 75, 3) := by decide +kernel
theorem dX12_printPacked_117 : decode cX12_printPacked 117 = .ok (.iload_n 2, 1) := by decide +kernel
theorem dX12_printPacked_118 : decode cX12_printPacked 118 = .ok (.invokevirtual 326, 3) := by decide +kernel
theorem dX12_printPacked_121 : decode cX12_printPacked 121 = .ok (.invokevirtual 329, 3) := by decide +kernel
theorem dX12_printPacked_124 : decode cX12_printPacked 124 = .ok (.aload_n 0, 1) := by decide +kernel
theorem dX12_printPacked_125 : decode cX12_printPacked 125 = .ok (.getfield 75, 3) := by decide +kernel
theorem dX12_printPacked_128 : decode cX12_printPacked 128 = .ok (.iload_n 2, 1) := by decide +kernel
theorem dX12_printPacked_129 : decode cX12_printPacked 129 = .ok (.invokevirtual 332, 3) := by decide +kernel
theorem dX12_printPacked_132 : decode cX12_printPacked 132 = .ok (.ifCond .eq 12, 3) := by decide +kernel
theorem dX12_printPacked_135 : decode cX12_printPacked 135 = .ok (.aload_n 0, 1) := by decide +kernel
theorem dX12_printPacked_136 : decode cX12_printPacked 136 = .ok (.getfield 116, 3) := by decide +kernel
theorem dX12_printPacked_139 : decode cX12_printPacked 139 = .ok (.bipush 90, 2) := by decide +kernel
theorem dX12_printPacked_141 : decode cX12_printPacked 141 = .ok (.invokevirtual 335, 3) := by decide +kernel
theorem dX12_printPacked_144 : decode cX12_printPacked 144 = .ok (.iinc 2 1, 3) := by decide +kernel
theorem dX12_printPacked_147 : decode cX12_printPacked 147 = .ok (.goto (-49), 3) := by decide +kernel
theorem dX12_printPacked_150 : decode cX12_printPacked 150 = .ok (.aload_n 0, 1) := by decide +kernel
theorem dX12_printPacked_151 : decode cX12_printPacked 151 = .ok (.getfield 116, 3) := by decide +kernel
theorem dX12_printPacked_154 : decode cX12_printPacked 154 = .ok (.invokevirtual 269, 3) := by decide +kernel
theorem dX12_printPacked_157 : decode cX12_printPacked 157 = .ok (.ireturn, 1) := by decide +kernel
theorem dX12_printUnpacked_0 : decode cX12_printUnpacked 0 = .ok (.aload_n 0, 1) := by decide +kernel
theorem dX12_printUnpacked_1 : decode cX12_printUnpacked 1 = .ok (.getfield 25, 3) := by decide +kernel
theorem dX12_printUnpacked_4 : decode cX12_printUnpacked 4 = .ok (.iload_n 1, 1) := by decide +kernel
theorem dX12_printUnpacked_5 : decode cX12_printUnpacked 5 = .ok (.invokevirtual 219, 3) := by decide +kernel
theorem dX12_printUnpacked_8 : decode cX12_printUnpacked 8 = .ok (.ifCond .ne 5, 3) := by decide +kernel
theorem dX12_printUnpacked_11 : decode cX12_printUnpacked 11 = .ok (.iconst (-1), 1) := by decide +kernel
theorem dX12_printUnpacked_12 : decode cX12_printUnpacked 12 = .ok (.ireturn, 1) := by decide +kernel
theorem dX12_printUnpacked_13 : decode cX12_printUnpacked 13 = .ok (.aload_n 0, 1) := by decide +kernel
theorem dX12_printUnpacked_14 : decode cX12_printUnpacked 14 = .ok (.getfield 43, 3) := by decide +kernel
theorem dX12_printUnpacked_17 : decode cX12_printUnpacked 17 = .ok (.iload_n 1, 1) := by decide +kernel
theorem dX12_printUnpacked_18 : decode cX12_printUnpacked 18 = .ok (.invokevirtual 249, 3) := by decide +kernel
theorem dX12_printUnpacked_21 : decode cX12_printUnpacked 21 = .ok (.ldc2_w 338, 3) := by decide +kernel
theorem dX12_printUnpacked_24 : decode cX12_printUnpacked 24 = .ok (.lcmp, 1) := by decide +kernel
theorem dX12_printUnpacked_25 : decode cX12_printUnpacked 25 = .ok (.ifCond .le 6, 3) := by decide +kernel
theorem dX12_printUnpacked_28 : decode cX12_printUnpacked 28 = .ok (.bipush (-2), 2) := by decide +kernel
theorem dX12_printUnpacked_30 : decode cX12_printUnpacked 30 = .ok (.ireturn, 1) := by decide +kernel
theorem dX12_printUnpacked_31 : decode cX12_printUnpacked 31 = .ok (.aload_n 0, 1) := by decide +kernel
theorem dX12_printUnpacked_32 : decode cX12_printUnpacked 32 = .ok (.getfield 75, 3) := by decide +kernel
theorem dX12_printUnpacked_35 : decode cX12_printUnpacked 35 = .ok (.iload_n 1, 1) := by decide +kernel
theorem dX12_printUnpacked_36 : decode cX12_printUnpacked 36 = .ok (.invokevirtual 340, 3) := by decide +kernel
theorem dX12_printUnpacked_39 : decode cX12_printUnpacked 39 = .ok (.aload_n 0, 1) := by decide +kernel
theorem dX12_printUnpacked_40 : decode cX12_printUnpacked 40 = .ok (.getfield 116, 3) := by decide +kernel
theorem dX12_printUnpacked_43 : decode cX12_printUnpacked 43 = .ok (.invokevirtual 260, 3) := by decide +kernel
theorem dX12_printUnpacked_46 : decode cX12_printUnpacked 46 = .ok (.iconst 0, 1) := by decide +kernel
theorem dX12_printUnpacked_47 : decode cX12_printUnpacked 47 = .ok (.istore_n 2, 1) := by decide +kernel
theorem dX12_printUnpacked_48 : decode cX12_printUnpacked 48 = .ok (.iload_n 2, 1) := by decide +kernel
theorem dX12_printUnpacked_49 : decode cX12_printUnpacked 49 = .ok (.aload_n 0, 1) := by decide +kernel
theorem dX12_printUnpacked_50 : decode cX12_printUnpacked 50 = .ok (.getfield 75, 3) := by decide +kernel
theorem dX12_printUnpacked_53 : decode cX12_printUnpacked 53 = .ok (.getfield 323, 3) := by decide +kernel
theorem dX12_printUnpacked_56 : decode cX12_printUnpacked 56 = .ok (.if_icmp .ge 32, 3) := by decide +kernel
theorem dX12_printUnpacked_59 : decode cX12_printUnpacked 59 = .ok (.aload_n 0, 1) := by decide +kernel
theorem dX12_printUnpacked_60 : decode cX12_printUnpacked 60 = .ok (.getfield 116, 3) := by decide +kernel
theorem dX12_printUnpacked_63 : decode cX12_printUnpacked 63 = .ok (.aload_n 0, 1) := by decide +kernel
theorem dX12_printUnpacked_64 : decode cX12_printUnpacked 64 = .ok (.getfield 25, 3) := by decide +kernel
theorem dX12_printUnpacked_67 : decode cX12_printUnpacked 67 = .ok (.getfield 263, 3) := by decide +kernel
theorem dX12_printUnpacked_70 : decode cX12_printUnpacked 70 = .ok (.aload_n 0, 1) := by decide +kernel
theorem dX12_printUnpacked_71 : decode cX12_printUnpacked 71 = .ok (.getfield 75, 3) := by decide +kernel
theorem dX12_printUnpacked_74 : decode cX12_printUnpacked 74 = .ok (.iload_n 2, 1) := by decide +kernel
theorem dX12_printUnpacked_75 : decode cX12_printUnpacked 75 = .ok (.invokevirtual 343, 3) := by decide +kernel
theorem dX12_printUnpacked_78 : decode cX12_printUnpacked 78 = .ok (.iaload, 1) := by decide +kernel
theorem dX12_printUnpacked_79 : decode cX12_printUnpacked 79 = .ok (.invokevirtual 266, 3) := by decide +kernel
theorem dX12_printUnpacked_82 : decode cX12_printUnpacked 82 = .ok (.iinc 2 1, 3) := by decide +kernel
theorem dX12_printUnpacked_85 : decode cX12_printUnpacked 85 = .ok (.goto (-37), 3) := by decide +kernel
theorem dX12_printUnpacked_88 : decode cX12_printUnpacked 88 = .ok (.aload_n 0, 1) := by decide +kernel
theorem dX12_printUnpacked_89 : decode cX12_printUnpacked 89 = .ok (.getfield 116, 3) := by decide +kernel
theorem dX12_printUnpacked_92 : decode cX12_printUnpacked 92 = .ok (.invokevirtual 269, 3) := by decide +kernel
theorem dX12_printUnpacked_95 : decode cX12_printUnpacked 95 = .ok (.ireturn, 1) := by decide +kernel
theorem dX12_printTree_0 : decode cX12_printTree 0 = .ok (.aload_n 0, 1) := by decide +kernel
theorem dX12_printTree_1 : decode cX12_printTree 1 = .ok (.iload_n 1, 1) := by decide +kernel
theorem dX12_printTree_2 : decode cX12_printTree 2 = .ok (.invokevirtual 346, 3) := by decide +kernel
theorem dX12_printTree_5 : decode cX12_printTree 5 = .ok (.istore_n 2, 1) := by decide +kernel
theorem dX12_printTree_6 : decode cX12_printTree 6 = .ok (.iload_n 2, 1) := by decide +kernel
theorem dX12_printTree_7 : decode cX12_printTree 7 = .ok (.iconst 1, 1) := by decide +kernel
theorem dX12_printTree_8 : decode cX12_printTree 8 = .ok (.if_icmp .eq 16, 3) := by decide +kernel
theorem dX12_printTree_11 : decode cX12_printTree 11 = .ok (.iload_n 2, 1) := by decide +kernel
theorem dX12_printTree_12 : decode cX12_printTree 12 = .ok (.bipush (-2), 2) := by decide +kernel
theorem dX12_printTree_14 : decode cX12_printTree 14 = .ok (.if_icmp .ne 8, 3) := by decide +kernel
theorem dX12_printTree_17 : decode cX12_printTree 17 = .ok (.bipush (-2), 2) := by decide +kernel
theorem dX12_printTree_19 : decode cX12_printTree 19 = .ok (.goto 4, 3) := by decide +kernel
theorem dX12_printTree_22 : decode cX12_printTree 22 = .ok (.iconst (-1), 1) := by decide +kernel
theorem dX12_printTree_23 : decode cX12_printTree 23 = .ok (.ireturn, 1) := by decide +kernel
theorem dX12_printTree_24 : decode cX12_printTree 24 = .ok (.aload_n 0, 1) := by decide +kernel
theorem dX12_printTree_25 : decode cX12_printTree 25 = .ok (.getfield 100, 3) := by decide +kernel
theorem dX12_printTree_28 : decode cX12_printTree 28 = .ok (.invokevirtual 349, 3) := by decide +kernel
theorem dX12_printTree_31 : decode cX12_printTree 31 = .ok (.aload_n 0, 1) := by decide +kernel
theorem dX12_printTree_32 : decode cX12_printTree 32 = .ok (.getfield 116, 3) := by decide +kernel
theorem dX12_printTree_35 : decode cX12_printTree 35 = .ok (.invokevirtual 260, 3) := by decide +kernel
theorem dX12_printTree_38 : decode cX12_printTree 38 = .ok (.aload_n 0, 1) := by decide +kernel
theorem dX12_printTree_39 : decode cX12_printTree 39 = .ok (.getfield 100, 3) := by decide +kernel
theorem dX12_printTree_42 : decode cX12_printTree 42 = .ok (.getfield 352, 3) := by decide +kernel
theorem dX12_printTree_45 : decode cX12_printTree 45 = .ok (.iconst 1, 1) := by decide +kernel
theorem dX12_printTree_46 : decode cX12_printTree 46 = .ok (.isub, 1) := by decide +kernel
theorem dX12_printTree_47 : decode cX12_printTree 47 = .ok (.istore_n 3, 1) := by decide +kernel
theorem dX12_printTree_48 : decode cX12_printTree 48 = .ok (.iload_n 3, 1) := by decide +kernel
theorem dX12_printTree_49 : decode cX12_printTree 49 = .ok (.ifCond .lt 33, 3) := by decide +kernel
theorem dX12_printTree_52 : decode cX12_printTree 52 = .ok (.aload_n 0, 1) := by decide +kernel
theorem dX12_printTree_53 : decode cX12_printTree 53 = .ok (.getfield 116, 3) := by decide +kernel
theorem dX12_printTree_56 : decode cX12_printTree 56 = .ok (.aload_n 0, 1) := by decide +kernel
theorem dX12_printTree_57 : decode cX12_printTree 57 = .ok (.getfield 25, 3) := by decide +kernel
theorem dX12_printTree_60 : decode cX12_printTree 60 = .ok (.getfield 263, 3) := by decide +kernel
theorem dX12_printTree_63 : decode cX12_printTree 63 = .ok (.aload_n 0, 1) := by decide +kernel
theorem dX12_printTree_64 : decode cX12_printTree 64 = .ok (.getfield 100, 3) := by decide +kernel
theorem dX12_printTree_67 : decode cX12_printTree 67 = .ok (.getfield 354, 3) := by decide +kernel
theorem dX12_printTree_70 : decode cX12_printTree 70 = .ok (.iload_n 3, 1) := by decide +kernel
theorem dX12_printTree_71 : decode cX12_printTree 71 = .ok (.iaload, 1) := by decide +kernel
theorem dX12_printTree_72 : decode cX12_printTree 72 = .ok (.iaload, 1) := by decide +kernel
theorem dX12_printTree_73 : decode cX12_printTree 73 = .ok (.invokevirtual 266, 3) := by decide +kernel
theorem dX12_printTree_76 : decode cX12_printTree 76 = .ok (.iinc 3 (-1), 3) := by decide +kernel
theorem dX12_printTree_79 : decode cX12_printTree 79 = .ok (.goto (-31), 3) := by decide +kernel
theorem dX12_printTree_82 : decode cX12_printTree 82 = .ok (.aload_n 0, 1) := by decide +kernel
theorem dX12_printTree_83 : decode cX12_printTree 83 = .ok (.getfield 116, 3) := by decide +kernel
theorem dX12_printTree_86 : decode cX12_printTree 86 = .ok (.invokevirtual 269, 3) := by decide +kernel
theorem dX12_printTree_89 : decode cX12_printTree 89 = .ok (.ireturn, 1) := by decide +kernel
theorem dX12_printWithout_0 : decode cX12_printWithout 0 = .ok (.aload_n 0, 1) := by decide +kernel
theorem dX12_printWithout_1 : decode cX12_printWithout 1 = .ok (.getfield 25, 3) := by decide +kernel
theorem dX12_printWithout_4 : decode cX12_printWithout 4 = .ok (.iload_n 1, 1) := by decide +kernel
theorem dX12_printWithout_5 : decode cX12_printWithout 5 = .ok (.invokevirtual 168, 3) := by decide +kernel
theorem dX12_printWithout_8 : decode cX12_printWithout 8 = .ok (.bipush 60, 2) := by decide +kernel
theorem dX12_printWithout_10 : decode cX12_printWithout 10 = .ok (.if_icmp .le 6, 3) := by decide +kernel
theorem dX12_printWithout_13 : decode cX12_printWithout 13 = .ok (.bipush (-2), 2) := by decide +kernel
theorem dX12_printWithout_15 : decode cX12_printWithout 15 = .ok (.ireturn, 1) := by decide +kernel
theorem dX12_printWithout_16 : decode cX12_printWithout 16 = .ok (.aload_n 0, 1) := by decide +kernel
theorem dX12_printWithout_17 : decode cX12_printWithout 17 = .ok (.getfield 82, 3) := by decide +kernel
theorem dX12_printWithout_20 : decode cX12_printWithout 20 = .ok (.invokevirtual 357, 3) := by decide +kernel
theorem dX12_printWithout_23 : decode cX12_printWithout 23 = .ok (.aload_n 0, 1) := by decide +kernel
theorem dX12_printWithout_24 : decode cX12_printWithout 24 = .ok (.getfield 109, 3) := by decide +kernel
theorem dX12_printWithout_27 : decode cX12_printWithout 27 = .ok (.iload_n 1, 1) := by decide +kernel
theorem dX12_printWithout_28 : decode cX12_printWithout 28 = .ok (.invokevirtual 360, 3) := by decide +kernel
theorem dX12_printWithout_31 : decode cX12_printWithout 31 = .ok (.aload_n 0, 1) := by decide +kernel
theorem dX12_printWithout_32 : decode cX12_printWithout 32 = .ok (.getfield 109, 3) := by decide +kernel
theorem dX12_printWithout_35 : decode cX12_printWithout 35 = .ok (.iload_n 1, 1) := by decide +kernel
theorem dX12_printWithout_36 : decode cX12_printWithout 36 = .ok (.invokevirtual 363, 3) := by decide +kernel
theorem dX12_printWithout_39 : decode cX12_printWithout 39 = .ok (.aload_n 0, 1) := by decide +kernel
theorem dX12_printWithout_40 : decode cX12_printWithout 40 = .ok (.iload_n 1, 1) := by decide +kernel
theorem dX12_printWithout_41 : decode cX12_printWithout 41 = .ok (.invokevirtual 346, 3) := by decide +kernel
theorem dX12_printWithout_44 : decode cX12_printWithout 44 = .ok (.iconst 1, 1) := by decide +kernel
theorem dX12_printWithout_45 : decode cX12_printWithout 45 = .ok (.if_icmp .eq 5, 3) := by decide +kernel
theorem dX12_printWithout_48 : decode cX12_printWithout 48 = .ok (.iconst (-1), 1) := by decide +kernel
theorem dX12_printWithout_49 : decode cX12_printWithout 49 = .ok (.ireturn, 1) := by decide +kernel
theorem dX12_printWithout_50 : decode cX12_printWithout 50 = .ok (.aload_n 0, 1) := by decide +kernel
theorem dX12_printWithout_51 : decode cX12_printWithout 51 = .ok (.getfield 100, 3) := by decide +kernel
theorem dX12_printWithout_54 : decode cX12_printWithout 54 = .ok (.invokevirtual 349, 3) := by decide +kernel
theorem dX12_printWithout_57 : decode cX12_printWithout 57 = .ok (.aload_n 0, 1) := by decide +kernel
theorem dX12_printWithout_58 : decode cX12_printWithout 58 = .ok (.getfield 109, 3) := by decide +kernel
theorem dX12_printWithout_61 : decode cX12_printWithout 61 = .ok (.iconst 0, 1) := by decide +kernel
theorem dX12_printWithout_62 : decode cX12_printWithout 62 = .ok (.aload_n 0, 1) := by decide +kernel
theorem dX12_printWithout_63 : decode cX12_printWithout 63 = .ok (.getfield 100, 3) := by decide +kernel
theorem dX12_printWithout_66 : decode cX12_printWithout 66 = .ok (.getfield 352, 3) := by decide +kernel
theorem dX12_printWithout_69 : decode cX12_printWithout 69 = .ok (.iload_n 1, 1) := by decide +kernel
theorem dX12_printWithout_70 : decode cX12_printWithout 70 = .ok (.invokevirtual 366, 3) := by decide +kernel
theorem dX12_printWithout_73 : decode cX12_printWithout 73 = .ok (.ifCond .ne 6, 3) := by decide +kernel
theorem dX12_printWithout_76 : decode cX12_printWithout 76 = .ok (.bipush (-2), 2) := by decide +kernel
theorem dX12_printWithout_78 : decode cX12_printWithout 78 = .ok (.ireturn, 1) := by decide +kernel
theorem dX12_printWithout_79 : decode cX12_printWithout 79 = .ok (.aload_n 0, 1) := by decide +kernel
theorem dX12_printWithout_80 : decode cX12_printWithout 80 = .ok (.getfield 116, 3) := by decide +kernel
theorem dX12_printWithout_83 : decode cX12_printWithout 83 = .ok (.invokevirtual 260, 3) := by decide +kernel
theorem dX12_printWithout_86 : decode cX12_printWithout 86 = .ok (.aload_n 0, 1) := by decide +kernel
theorem dX12_printWithout_87 : decode cX12_printWithout 87 = .ok (.getfield 116, 3) := by decide +kernel
theorem dX12_printWithout_90 : decode cX12_printWithout 90 = .ok (.aload_n 0, 1) := by decide +kernel
theorem dX12_printWithout_91 : decode cX12_printWithout 91 = .ok (.getfield 25, 3) := by decide +kernel
theorem dX12_printWithout_94 : decode cX12_printWithout 94 = .ok (.getfield 171, 3) := by decide +kernel
theorem dX12_printWithout_97 : decode cX12_printWithout 97 = .ok (.aload_n 0, 1) := by decide +kernel
theorem dX12_printWithout_98 : decode cX12_printWithout 98 = .ok (.getfield 25, 3) := by decide +kernel
theorem dX12_printWithout_101 : decode cX12_printWithout 101 = .ok (.getfield 174, 3) := by decide +kernel
theorem dX12_printWithout_104 : decode cX12_printWithout 104 = .ok (.iload_n 1, 1) := by decide +kernel
theorem dX12_printWithout_105 : decode cX12_printWithout 105 = .ok (.iaload, 1) := by decide +kernel
theorem dX12_printWithout_106 : decode cX12_printWithout 106 = .ok (.iaload, 1) := by decide +kernel
theorem dX12_printWithout_107 : decode cX12_printWithout 107 = .ok (.invokevirtual 291, 3) := by decide +kernel
theorem dX12_printWithout_110 : decode cX12_printWithout 110 = .ok (.aload_n 0, 1) := by decide +kernel
theorem dX12_printWithout_111 : decode cX12_printWithout 111 = .ok (.getfield 116, 3) := by decide +kernel
theorem dX12_printWithout_114 : decode cX12_printWithout 114 = .ok (.aload_n 0, 1) := by decide +kernel
theorem dX12_printWithout_115 : decode cX12_printWithout 115 = .ok (.getfield 52, 3) := by decide +kernel
theorem dX12_printWithout_118 : decode cX12_printWithout 118 = .ok (.getfield 297, 3) := by decide +kernel
theorem dX12_printWithout_121 : decode cX12_printWithout 121 = .ok (.aload_n 0, 1) := by decide +kernel
theorem dX12_printWithout_122 : decode cX12_printWithout 122 = .ok (.getfield 52, 3) := by decide +kernel
theorem dX12_printWithout_125 : decode cX12_printWithout 125 = .ok (.getfield 300, 3) := by decide +kernel
theorem dX12_printWithout_128 : decode cX12_printWithout 128 = .ok (.iconst 0, 1) := by decide +kernel
theorem dX12_printWithout_129 : decode cX12_printWithout 129 = .ok (.iaload, 1) := by decide +kernel
theorem dX12_printWithout_130 : decode cX12_printWithout 130 = .ok (.aload_n 0, 1) := by decide +kernel
theorem dX12_printWithout_131 : decode cX12_printWithout 131 = .ok (.getfield 52, 3) := by decide +kernel
theorem dX12_printWithout_134 : decode cX12_printWithout 134 = .ok (.getfield 300, 3) := by decide +kernel
theorem dX12_printWithout_137 : decode cX12_printWithout 137 = .ok (.iconst 0, 1) := by decide +kernel
theorem dX12_printWithout_138 : decode cX12_printWithout 138 = .ok (.iaload, 1) := by decide +kernel
theorem dX12_printWithout_139 : decode cX12_printWithout 139 = .ok (.aload_n 0, 1) := by decide +kernel
theorem dX12_printWithout_140 : decode cX12_printWithout 140 = .ok (.getfield 52, 3) := by decide +kernel
theorem dX12_printWithout_143 : decode cX12_printWithout 143 = .ok (.getfield 301, 3) := by decide +kernel
theorem dX12_printWithout_146 : decode cX12_printWithout 146 = .ok (.iconst 0, 1) := by decide +kernel
theorem dX12_printWithout_147 : decode cX12_printWithout 147 = .ok (.iaload, 1) := by decide +kernel
theorem dX12_printWithout_148 : decode cX12_printWithout 148 = .ok (.iadd, 1) := by decide +kernel
theorem dX12_printWithout_149 : decode cX12_printWithout 149 = .ok (.invokevirtual 304, 3) := by decide +kernel
theorem dX12_printWithout_152 : decode cX12_printWithout 152 = .ok (.aload_n 0, 1) := by decide +kernel
theorem dX12_printWithout_153 : decode cX12_printWithout 153 = .ok (.getfield 116, 3) := by decide +kernel
theorem dX12_printWithout_156 : decode cX12_printWithout 156 = .ok (.invokevirtual 269, 3) := by decide +kernel
theorem dX12_printWithout_159 : decode cX12_printWithout 159 = .ok (.ireturn, 1) := by decide +kernel
theorem dX12_character_0 : decode cX12_character 0 = .ok (.aload_n 0, 1) := by decide +kernel
theorem dX12_character_1 : decode cX12_character 1 = .ok (.getfield 116, 3) := by decide +kernel
theorem dX12_character_4 : decode cX12_character 4 = .ok (.iload_n 1, 1) := by decide +kernel
theorem dX12_character_5 : decode cX12_character 5 = .ok (.invokevirtual 369, 3) := by decide +kernel
theorem dX12_character_8 : decode cX12_character 8 = .ok (.ireturn, 1) := by decide +kernel
theorem dX12_trees_0 : decode cX12_trees 0 = .ok (.aload_n 0, 1) := by decide +kernel
theorem dX12_trees_1 : decode cX12_trees 1 = .ok (.getfield 25, 3) := by decide +kernel
theorem dX12_trees_4 : decode cX12_trees 4 = .ok (.iload_n 1, 1) := by decide +kernel
theorem dX12_trees_5 : decode cX12_trees 5 = .ok (.invokevirtual 161, 3) := by decide +kernel
theorem dX12_trees_8 : decode cX12_trees 8 = .ok (.ifCond .eq 11, 3) := by decide +kernel
theorem dX12_trees_11 : decode cX12_trees 11 = .ok (.aload_n 0, 1) := by decide +kernel
theorem dX12_trees_12 : decode cX12_trees 12 = .ok (.iload_n 1, 1) := by decide +kernel
theorem dX12_trees_13 : decode cX12_trees 13 = .ok (.invokevirtual 346, 3) := by decide +kernel
theorem dX12_trees_16 : decode cX12_trees 16 = .ok (.goto 4, 3) := by decide +kernel
theorem dX12_trees_19 : decode cX12_trees 19 = .ok (.iconst (-1), 1) := by decide +kernel
theorem dX12_trees_20 : decode cX12_trees 20 = .ok (.ireturn, 1) := by decide +kernel
theorem dX12_treesOf_0 : decode cX12_treesOf 0 = .ok (.aload_n 0, 1) := by decide +kernel
theorem dX12_treesOf_1 : decode cX12_treesOf 1 = .ok (.getfield 25, 3) := by decide +kernel
theorem dX12_treesOf_4 : decode cX12_treesOf 4 = .ok (.iload_n 1, 1) := by decide +kernel
theorem dX12_treesOf_5 : decode cX12_treesOf 5 = .ok (.invokevirtual 168, 3) := by decide +kernel
theorem dX12_treesOf_8 : decode cX12_treesOf 8 = .ok (.bipush 60, 2) := by decide +kernel
theorem dX12_treesOf_10 : decode cX12_treesOf 10 = .ok (.if_icmp .le 6, 3) := by decide +kernel
theorem dX12_treesOf_13 : decode cX12_treesOf 13 = .ok (.bipush (-2), 2) := by decide +kernel
theorem dX12_treesOf_15 : decode cX12_treesOf 15 = .ok (.ireturn, 1) := by decide +kernel
theorem dX12_treesOf_16 : decode cX12_treesOf 16 = .ok (.aload_n 0, 1) := by decide +kernel
theorem dX12_treesOf_17 : decode cX12_treesOf 17 = .ok (.getfield 82, 3) := by decide +kernel
theorem dX12_treesOf_20 : decode cX12_treesOf 20 = .ok (.invokevirtual 357, 3) := by decide +kernel
theorem dX12_treesOf_23 : decode cX12_treesOf 23 = .ok (.aload_n 0, 1) := by decide +kernel
theorem dX12_treesOf_24 : decode cX12_treesOf 24 = .ok (.getfield 91, 3) := by decide +kernel
theorem dX12_treesOf_27 : decode cX12_treesOf 27 = .ok (.iload_n 1, 1) := by decide +kernel
theorem dX12_treesOf_28 : decode cX12_treesOf 28 = .ok (.invokevirtual 372, 3) := by decide +kernel
theorem dX12_treesOf_31 : decode cX12_treesOf 31 = .ok (.aload_n 0, 1) := by decide +kernel
theorem dX12_treesOf_32 : decode cX12_treesOf 32 = .ok (.getfield 91, 3) := by decide +kernel
theorem dX12_treesOf_35 : decode cX12_treesOf 35 = .ok (.invokevirtual 375, 3) := by decide +kernel
theorem dX12_treesOf_38 : decode cX12_treesOf 38 = .ok (.ireturn, 1) := by decide +kernel
theorem dX12_equate_0 : decode cX12_equate 0 = .ok (.aload_n 0, 1) := by decide +kernel
theorem dX12_equate_1 : decode cX12_equate 1 = .ok (.getfield 82, 3) := by decide +kernel
theorem dX12_equate_4 : decode cX12_equate 4 = .ok (.invokevirtual 357, 3) := by decide +kernel
theorem dX12_equate_7 : decode cX12_equate 7 = .ok (.aload_n 0, 1) := by decide +kernel
theorem dX12_equate_8 : decode cX12_equate 8 = .ok (.getfield 25, 3) := by decide +kernel
theorem dX12_equate_11 : decode cX12_equate 11 = .ok (.iload_n 1, 1) := by decide +kernel
theorem dX12_equate_12 : decode cX12_equate 12 = .ok (.invokevirtual 161, 3) := by decide +kernel
theorem dX12_equate_15 : decode cX12_equate 15 = .ok (.ifCond .eq 27, 3) := by decide +kernel
theorem dX12_equate_18 : decode cX12_equate 18 = .ok (.aload_n 0, 1) := by decide +kernel
theorem dX12_equate_19 : decode cX12_equate 19 = .ok (.getfield 82, 3) := by decide +kernel
theorem dX12_equate_22 : decode cX12_equate 22 = .ok (.iload_n 1, 1) := by decide +kernel
theorem dX12_equate_23 : decode cX12_equate 23 = .ok (.invokevirtual 378, 3) := by decide +kernel
theorem dX12_equate_26 : decode cX12_equate 26 = .ok (.ifCond .eq 16, 3) := by decide +kernel
theorem dX12_equate_29 : decode cX12_equate 29 = .ok (.aload_n 0, 1) := by decide +kernel
theorem dX12_equate_30 : decode cX12_equate 30 = .ok (.getfield 43, 3) := by decide +kernel
theorem dX12_equate_33 : decode cX12_equate 33 = .ok (.getfield 200, 3) := by decide +kernel
theorem dX12_equate_36 : decode cX12_equate 36 = .ok (.iload_n 1, 1) := by decide +kernel
theorem dX12_equate_37 : decode cX12_equate 37 = .ok (.iaload, 1) := by decide +kernel
theorem dX12_equate_38 : decode cX12_equate 38 = .ok (.iconst 2, 1) := by decide +kernel
theorem dX12_equate_39 : decode cX12_equate 39 = .ok (.if_icmp .eq 5, 3) := by decide +kernel
theorem dX12_equate_42 : decode cX12_equate 42 = .ok (.iconst (-1), 1) := by decide +kernel
theorem dX12_equate_43 : decode cX12_equate 43 = .ok (.ireturn, 1) := by decide +kernel
theorem dX12_equate_44 : decode cX12_equate 44 = .ok (.aload_n 0, 1) := by decide +kernel
theorem dX12_equate_45 : decode cX12_equate 45 = .ok (.getfield 109, 3) := by decide +kernel
theorem dX12_equate_48 : decode cX12_equate 48 = .ok (.iload_n 1, 1) := by decide +kernel
theorem dX12_equate_49 : decode cX12_equate 49 = .ok (.invokevirtual 381, 3) := by decide +kernel
theorem dX12_equate_52 : decode cX12_equate 52 = .ok (.ireturn, 1) := by decide +kernel
theorem dX12_definition_0 : decode cX12_definition 0 = .ok (.aload_n 0, 1) := by decide +kernel
theorem dX12_definition_1 : decode cX12_definition 1 = .ok (.getfield 25, 3) := by decide +kernel
theorem dX12_definition_4 : decode cX12_definition 4 = .ok (.iload_n 1, 1) := by decide +kernel
theorem dX12_definition_5 : decode cX12_definition 5 = .ok (.invokevirtual 161, 3) := by decide +kernel
theorem dX12_definition_8 : decode cX12_definition 8 = .ok (.ifCond .eq 16, 3) := by decide +kernel
theorem dX12_definition_11 : decode cX12_definition 11 = .ok (.aload_n 0, 1) := by decide +kernel
theorem dX12_definition_12 : decode cX12_definition 12 = .ok (.getfield 25, 3) := by decide +kernel
theorem dX12_definition_15 : decode cX12_definition 15 = .ok (.getfield 165, 3) := by decide +kernel
theorem dX12_definition_18 : decode cX12_definition 18 = .ok (.iload_n 1, 1) := by decide +kernel
theorem dX12_definition_19 : decode cX12_definition 19 = .ok (.iaload, 1) := by decide +kernel
theorem dX12_definition_20 : decode cX12_definition 20 = .ok (.iconst 2, 1) := by decide +kernel
theorem dX12_definition_21 : decode cX12_definition 21 = .ok (.if_icmp .eq 5, 3) := by decide +kernel
theorem dX12_definition_24 : decode cX12_definition 24 = .ok (.iconst (-1), 1) := by decide +kernel
theorem dX12_definition_25 : decode cX12_definition 25 = .ok (.ireturn, 1) := by decide +kernel
theorem dX12_definition_26 : decode cX12_definition 26 = .ok (.aload_n 0, 1) := by decide +kernel
theorem dX12_definition_27 : decode cX12_definition 27 = .ok (.getfield 25, 3) := by decide +kernel
theorem dX12_definition_30 : decode cX12_definition 30 = .ok (.iload_n 1, 1) := by decide +kernel
theorem dX12_definition_31 : decode cX12_definition 31 = .ok (.invokevirtual 168, 3) := by decide +kernel
theorem dX12_definition_34 : decode cX12_definition 34 = .ok (.bipush 60, 2) := by decide +kernel
theorem dX12_definition_36 : decode cX12_definition 36 = .ok (.if_icmp .le 6, 3) := by decide +kernel
theorem dX12_definition_39 : decode cX12_definition 39 = .ok (.bipush (-2), 2) := by decide +kernel
theorem dX12_definition_41 : decode cX12_definition 41 = .ok (.ireturn, 1) := by decide +kernel
theorem dX12_definition_42 : decode cX12_definition 42 = .ok (.aload_n 0, 1) := by decide +kernel
theorem dX12_definition_43 : decode cX12_definition 43 = .ok (.getfield 82, 3) := by decide +kernel
theorem dX12_definition_46 : decode cX12_definition 46 = .ok (.invokevirtual 357, 3) := by decide +kernel
theorem dX12_definition_49 : decode cX12_definition 49 = .ok (.aload_n 0, 1) := by decide +kernel
theorem dX12_definition_50 : decode cX12_definition 50 = .ok (.getfield 109, 3) := by decide +kernel
theorem dX12_definition_53 : decode cX12_definition 53 = .ok (.iload_n 1, 1) := by decide +kernel
theorem dX12_definition_54 : decode cX12_definition 54 = .ok (.iconst 1, 1) := by decide +kernel
theorem dX12_definition_55 : decode cX12_definition 55 = .ok (.iadd, 1) := by decide +kernel
theorem dX12_definition_56 : decode cX12_definition 56 = .ok (.invokevirtual 360, 3) := by decide +kernel
theorem dX12_definition_59 : decode cX12_definition 59 = .ok (.aload_n 0, 1) := by decide +kernel
theorem dX12_definition_60 : decode cX12_definition 60 = .ok (.getfield 109, 3) := by decide +kernel
theorem dX12_definition_63 : decode cX12_definition 63 = .ok (.iload_n 1, 1) := by decide +kernel
theorem dX12_definition_64 : decode cX12_definition 64 = .ok (.invokevirtual 384, 3) := by decide +kernel
theorem dX12_definition_67 : decode cX12_definition 67 = .ok (.ireturn, 1) := by decide +kernel
theorem dX12_apply_0 : decode cX12_apply 0 = .ok (.aload_n 0, 1) := by decide +kernel
theorem dX12_apply_1 : decode cX12_apply 1 = .ok (.invokevirtual 387, 3) := by decide +kernel
theorem dX12_apply_4 : decode cX12_apply 4 = .ok (.istore_n 2, 1) := by decide +kernel
theorem dX12_apply_5 : decode cX12_apply 5 = .ok (.aload_n 0, 1) := by decide +kernel
theorem dX12_apply_6 : decode cX12_apply 6 = .ok (.getfield 25, 3) := by decide +kernel
theorem dX12_apply_9 : decode cX12_apply 9 = .ok (.iload_n 1, 1) := by decide +kernel
theorem dX12_apply_10 : decode cX12_apply 10 = .ok (.invokevirtual 197, 3) := by decide +kernel
theorem dX12_apply_13 : decode cX12_apply 13 = .ok (.ifCond .eq 7, 3) := by decide +kernel
theorem dX12_apply_16 : decode cX12_apply 16 = .ok (.iload_n 2, 1) := by decide +kernel
theorem dX12_apply_17 : decode cX12_apply 17 = .ok (.ifCond .gt 5, 3) := by decide +kernel
theorem dX12_apply_20 : decode cX12_apply 20 = .ok (.iconst (-1), 1) := by decide +kernel
theorem dX12_apply_21 : decode cX12_apply 21 = .ok (.ireturn, 1) := by decide +kernel
theorem dX12_apply_22 : decode cX12_apply 22 = .ok (.iload_n 2, 1) := by decide +kernel
theorem dX12_apply_23 : decode cX12_apply 23 = .ok (.bipush 60, 2) := by decide +kernel
theorem dX12_apply_25 : decode cX12_apply 25 = .ok (.if_icmp .gt 16, 3) := by decide +kernel
theorem dX12_apply_28 : decode cX12_apply 28 = .ok (.aload_n 0, 1) := by decide +kernel
theorem dX12_apply_29 : decode cX12_apply 29 = .ok (.getfield 25, 3) := by decide +kernel
theorem dX12_apply_32 : decode cX12_apply 32 = .ok (.iload_n 1, 1) := by decide +kernel
theorem dX12_apply_33 : decode cX12_apply 33 = .ok (.invokevirtual 168, 3) := by decide +kernel
theorem dX12_apply_36 : decode cX12_apply 36 = .ok (.bipush 60, 2) := by decide +kernel
theorem dX12_apply_38 : decode cX12_apply 38 = .ok (.if_icmp .le 6, 3) := by decide +kernel
theorem dX12_apply_41 : decode cX12_apply 41 = .ok (.bipush (-2), 2) := by decide +kernel
theorem dX12_apply_43 : decode cX12_apply 43 = .ok (.ireturn, 1) := by decide +kernel
theorem dX12_apply_44 : decode cX12_apply 44 = .ok (.aload_n 0, 1) := by decide +kernel
theorem dX12_apply_45 : decode cX12_apply 45 = .ok (.getfield 18, 3) := by decide +kernel
theorem dX12_apply_48 : decode cX12_apply 48 = .ok (.iconst 0, 1) := by decide +kernel
theorem dX12_apply_49 : decode cX12_apply 49 = .ok (.iaload, 1) := by decide +kernel
theorem dX12_apply_50 : decode cX12_apply 50 = .ok (.aload_n 0, 1) := by decide +kernel
theorem dX12_apply_51 : decode cX12_apply 51 = .ok (.getfield 25, 3) := by decide +kernel
theorem dX12_apply_54 : decode cX12_apply 54 = .ok (.iload_n 1, 1) := by decide +kernel
theorem dX12_apply_55 : decode cX12_apply 55 = .ok (.invokevirtual 390, 3) := by decide +kernel
theorem dX12_apply_58 : decode cX12_apply 58 = .ok (.if_icmp .ne 12, 3) := by decide +kernel
theorem dX12_apply_61 : decode cX12_apply 61 = .ok (.aload_n 0, 1) := by decide +kernel
theorem dX12_apply_62 : decode cX12_apply 62 = .ok (.iload_n 1, 1) := by decide +kernel
theorem dX12_apply_63 : decode cX12_apply 63 = .ok (.invokevirtual 346, 3) := by decide +kernel
theorem dX12_apply_66 : decode cX12_apply 66 = .ok (.iconst 1, 1) := by decide +kernel
theorem dX12_apply_67 : decode cX12_apply 67 = .ok (.if_icmp .eq 5, 3) := by decide +kernel
theorem dX12_apply_70 : decode cX12_apply 70 = .ok (.iconst (-1), 1) := by decide +kernel
theorem dX12_apply_71 : decode cX12_apply 71 = .ok (.ireturn, 1) := by decide +kernel
theorem dX12_apply_72 : decode cX12_apply 72 = .ok (.aload_n 0, 1) := by decide +kernel
theorem dX12_apply_73 : decode cX12_apply 73 = .ok (.getfield 100, 3) := by decide +kernel
theorem dX12_apply_76 : decode cX12_apply 76 = .ok (.invokevirtual 349, 3) := by decide +kernel
theorem dX12_apply_79 : decode cX12_apply 79 = .ok (.aload_n 0, 1) := by decide +kernel
theorem dX12_apply_80 : decode cX12_apply 80 = .ok (.getfield 100, 3) := by decide +kernel
theorem dX12_apply_83 : decode cX12_apply 83 = .ok (.invokevirtual 393, 3) := by decide +kernel
theorem dX12_apply_86 : decode cX12_apply 86 = .ok (.aload_n 0, 1) := by decide +kernel
theorem dX12_apply_87 : decode cX12_apply 87 = .ok (.getfield 91, 3) := by decide +kernel
theorem dX12_apply_90 : decode cX12_apply 90 = .ok (.aload_n 0, 1) := by decide +kernel
theorem dX12_apply_91 : decode cX12_apply 91 = .ok (.getfield 18, 3) := by decide +kernel
theorem dX12_apply_94 : decode cX12_apply 94 = .ok (.iload_n 2, 1) := by decide +kernel
theorem dX12_apply_95 : decode cX12_apply 95 = .ok (.invokevirtual 396, 3) := by decide +kernel
theorem dX12_apply_98 : decode cX12_apply 98 = .ok (.aload_n 0, 1) := by decide +kernel
theorem dX12_apply_99 : decode cX12_apply 99 = .ok (.getfield 91, 3) := by decide +kernel
theorem dX12_apply_102 : decode cX12_apply 102 = .ok (.invokevirtual 375, 3) := by decide +kernel
theorem dX12_apply_105 : decode cX12_apply 105 = .ok (.iconst 1, 1) := by decide +kernel
theorem dX12_apply_106 : decode cX12_apply 106 = .ok (.if_icmp .eq 5, 3) := by decide +kernel
theorem dX12_apply_109 : decode cX12_apply 109 = .ok (.iconst (-1), 1) := by decide +kernel
theorem dX12_apply_110 : decode cX12_apply 110 = .ok (.ireturn, 1) := by decide +kernel
theorem dX12_apply_111 : decode cX12_apply 111 = .ok (.aload_n 0, 1) := by decide +kernel
theorem dX12_apply_112 : decode cX12_apply 112 = .ok (.getfield 100, 3) := by decide +kernel
theorem dX12_apply_115 : decode cX12_apply 115 = .ok (.invokevirtual 349, 3) := by decide +kernel
theorem dX12_apply_118 : decode cX12_apply 118 = .ok (.aload_n 0, 1) := by decide +kernel
theorem dX12_apply_119 : decode cX12_apply 119 = .ok (.getfield 100, 3) := by decide +kernel
theorem dX12_apply_122 : decode cX12_apply 122 = .ok (.invokevirtual 399, 3) := by decide +kernel
theorem dX12_apply_125 : decode cX12_apply 125 = .ok (.ifCond .eq 14, 3) := by decide +kernel
theorem dX12_apply_128 : decode cX12_apply 128 = .ok (.aload_n 0, 1) := by decide +kernel
theorem dX12_apply_129 : decode cX12_apply 129 = .ok (.getfield 100, 3) := by decide +kernel
theorem dX12_apply_132 : decode cX12_apply 132 = .ok (.iload_n 1, 1) := by decide +kernel
theorem dX12_apply_133 : decode cX12_apply 133 = .ok (.invokevirtual 403, 3) := by decide +kernel
theorem dX12_apply_136 : decode cX12_apply 136 = .ok (.ifCond .ne 5, 3) := by decide +kernel
theorem dX12_apply_139 : decode cX12_apply 139 = .ok (.iconst (-1), 1) := by decide +kernel
theorem dX12_apply_140 : decode cX12_apply 140 = .ok (.ireturn, 1) := by decide +kernel
theorem dX12_apply_141 : decode cX12_apply 141 = .ok (.aload_n 0, 1) := by decide +kernel
theorem dX12_apply_142 : decode cX12_apply 142 = .ok (.iload_n 1, 1) := by decide +kernel
theorem dX12_apply_143 : decode cX12_apply 143 = .ok (.invokevirtual 406, 3) := by decide +kernel
theorem dX12_apply_146 : decode cX12_apply 146 = .ok (.ireturn, 1) := by decide +kernel
theorem dX12_takeRow_0 : decode cX12_takeRow 0 = .ok (.aload_n 0, 1) := by decide +kernel
theorem dX12_takeRow_1 : decode cX12_takeRow 1 = .ok (.getfield 120, 3) := by decide +kernel
theorem dX12_takeRow_4 : decode cX12_takeRow 4 = .ok (.istore_n 1, 1) := by decide +kernel
theorem dX12_takeRow_5 : decode cX12_takeRow 5 = .ok (.aload_n 0, 1) := by decide +kernel
theorem dX12_takeRow_6 : decode cX12_takeRow 6 = .ok (.invokevirtual 138, 3) := by decide +kernel
theorem dX12_takeRow_9 : decode cX12_takeRow 9 = .ok (.iconst 0, 1) := by decide +kernel
theorem dX12_takeRow_10 : decode cX12_takeRow 10 = .ok (.istore_n 2, 1) := by decide +kernel
theorem dX12_takeRow_11 : decode cX12_takeRow 11 = .ok (.aload_n 0, 1) := by decide +kernel
theorem dX12_takeRow_12 : decode cX12_takeRow 12 = .ok (.getfield 10, 3) := by decide +kernel
theorem dX12_takeRow_15 : decode cX12_takeRow 15 = .ok (.iconst 0, 1) := by decide +kernel
theorem dX12_takeRow_16 : decode cX12_takeRow 16 = .ok (.iload_n 1, 1) := by decide +kernel
theorem dX12_takeRow_17 : decode cX12_takeRow 17 = .ok (.invokestatic 184, 3) := by decide +kernel
theorem dX12_takeRow_20 : decode cX12_takeRow 20 = .ok (.istore_n 3, 1) := by decide +kernel
theorem dX12_takeRow_21 : decode cX12_takeRow 21 = .ok (.iconst 0, 1) := by decide +kernel
theorem dX12_takeRow_22 : decode cX12_takeRow 22 = .ok (.istore 4, 2) := by decide +kernel
theorem dX12_takeRow_24 : decode cX12_takeRow 24 = .ok (.iload 4, 2) := by decide +kernel
theorem dX12_takeRow_26 : decode cX12_takeRow 26 = .ok (.iload_n 1, 1) := by decide +kernel
theorem dX12_takeRow_27 : decode cX12_takeRow 27 = .ok (.if_icmp .ge 89, 3) := by decide +kernel
theorem dX12_takeRow_30 : decode cX12_takeRow 30 = .ok (.iload_n 3, 1) := by decide +kernel
theorem dX12_takeRow_31 : decode cX12_takeRow 31 = .ok (.iload_n 1, 1) := by decide +kernel
theorem dX12_takeRow_32 : decode cX12_takeRow 32 = .ok (.if_icmp .ge 84, 3) := by decide +kernel
theorem dX12_takeRow_35 : decode cX12_takeRow 35 = .ok (.aload_n 0, 1) := by decide +kernel
theorem dX12_takeRow_36 : decode cX12_takeRow 36 = .ok (.getfield 10, 3) := by decide +kernel
theorem dX12_takeRow_39 : decode cX12_takeRow 39 = .ok (.iload_n 3, 1) := by decide +kernel
theorem dX12_takeRow_40 : decode cX12_takeRow 40 = .ok (.iload_n 1, 1) := by decide +kernel
theorem dX12_takeRow_41 : decode cX12_takeRow 41 = .ok (.invokestatic 188, 3) := by decide +kernel
theorem dX12_takeRow_44 : decode cX12_takeRow 44 = .ok (.istore 5, 2) := by decide +kernel
theorem dX12_takeRow_46 : decode cX12_takeRow 46 = .ok (.iload 5, 2) := by decide +kernel
theorem dX12_takeRow_48 : decode cX12_takeRow 48 = .ok (.iload_n 3, 1) := by decide +kernel
theorem dX12_takeRow_49 : decode cX12_takeRow 49 = .ok (.if_icmp .ne 7, 3) := by decide +kernel
theorem dX12_takeRow_52 : decode cX12_takeRow 52 = .ok (.iconst (-1), 1) := by decide +kernel
theorem dX12_takeRow_53 : decode cX12_takeRow 53 = .ok (.goto 19, 3) := by decide +kernel
theorem dX12_takeRow_56 : decode cX12_takeRow 56 = .ok (.aload_n 0, 1) := by decide +kernel
theorem dX12_takeRow_57 : decode cX12_takeRow 57 = .ok (.getfield 25, 3) := by decide +kernel
theorem dX12_takeRow_60 : decode cX12_takeRow 60 = .ok (.aload_n 0, 1) := by decide +kernel
theorem dX12_takeRow_61 : decode cX12_takeRow 61 = .ok (.getfield 10, 3) := by decide +kernel
theorem dX12_takeRow_64 : decode cX12_takeRow 64 = .ok (.iload_n 3, 1) := by decide +kernel
theorem dX12_takeRow_65 : decode cX12_takeRow 65 = .ok (.iload 5, 2) := by decide +kernel
theorem dX12_takeRow_67 : decode cX12_takeRow 67 = .ok (.iload_n 3, 1) := by decide +kernel
theorem dX12_takeRow_68 : decode cX12_takeRow 68 = .ok (.isub, 1) := by decide +kernel
theorem dX12_takeRow_69 : decode cX12_takeRow 69 = .ok (.invokevirtual 194, 3) := by decide +kernel
theorem dX12_takeRow_72 : decode cX12_takeRow 72 = .ok (.istore 6, 2) := by decide +kernel
theorem dX12_takeRow_74 : decode cX12_takeRow 74 = .ok (.iload 6, 2) := by decide +kernel
theorem dX12_takeRow_76 : decode cX12_takeRow 76 = .ok (.iconst (-1), 1) := by decide +kernel
theorem dX12_takeRow_77 : decode cX12_takeRow 77 = .ok (.if_icmp .ne 5, 3) := by decide +kernel
theorem dX12_takeRow_80 : decode cX12_takeRow 80 = .ok (.iconst (-1), 1) := by decide +kernel
theorem dX12_takeRow_81 : decode cX12_takeRow 81 = .ok (.ireturn, 1) := by decide +kernel
theorem dX12_takeRow_82 : decode cX12_takeRow 82 = .ok (.iload_n 2, 1) := by decide +kernel
theorem dX12_takeRow_83 : decode cX12_takeRow 83 = .ok (.bipush 60, 2) := by decide +kernel
theorem dX12_takeRow_85 : decode cX12_takeRow 85 = .ok (.if_icmp .ge 11, 3) := by decide +kernel
theorem dX12_takeRow_88 : decode cX12_takeRow 88 = .ok (.aload_n 0, 1) := by decide +kernel
theorem dX12_takeRow_89 : decode cX12_takeRow 89 = .ok (.getfield 18, 3) := by decide +kernel
theorem dX12_takeRow_92 : decode cX12_takeRow 92 = .ok (.iload_n 2, 1) := by decide +kernel
theorem dX12_takeRow_93 : decode cX12_takeRow 93 = .ok (.iload 6, 2) := by decide +kernel
theorem dX12_takeRow_95 : decode cX12_takeRow 95 = .ok (.iastore, 1) := by decide +kernel
theorem dX12_takeRow_96 : decode cX12_takeRow 96 = .ok (.iinc 2 1, 3) := by decide +kernel
theorem dX12_takeRow_99 : decode cX12_takeRow 99 = .ok (.aload_n 0, 1) := by decide +kernel
theorem dX12_takeRow_100 : decode cX12_takeRow 100 = .ok (.getfield 10, 3) := by decide +kernel
theorem dX12_takeRow_103 : decode cX12_takeRow 103 = .ok (.iload 5, 2) := by decide +kernel
theorem dX12_takeRow_105 : decode cX12_takeRow 105 = .ok (.iload_n 1, 1) := by decide +kernel
theorem dX12_takeRow_106 : decode cX12_takeRow 106 = .ok (.invokestatic 184, 3) := by decide +kernel
theorem dX12_takeRow_109 : decode cX12_takeRow 109 = .ok (.istore_n 3, 1) := by decide +kernel
theorem dX12_takeRow_110 : decode cX12_takeRow 110 = .ok (.iinc 4 1, 3) := by decide +kernel
theorem dX12_takeRow_113 : decode cX12_takeRow 113 = .ok (.goto (-89), 3) := by decide +kernel
theorem dX12_takeRow_116 : decode cX12_takeRow 116 = .ok (.iload_n 2, 1) := by decide +kernel
theorem dX12_takeRow_117 : decode cX12_takeRow 117 = .ok (.ireturn, 1) := by decide +kernel
theorem dX12_printEssentials_0 : decode cX12_printEssentials 0 = .ok (.iconst 0, 1) := by decide +kernel
theorem dX12_printEssentials_1 : decode cX12_printEssentials 1 = .ok (.istore_n 2, 1) := by decide +kernel
theorem dX12_printEssentials_2 : decode cX12_printEssentials 2 = .ok (.aload_n 0, 1) := by decide +kernel
theorem dX12_printEssentials_3 : decode cX12_printEssentials 3 = .ok (.getfield 116, 3) := by decide +kernel
theorem dX12_printEssentials_6 : decode cX12_printEssentials 6 = .ok (.invokevirtual 260, 3) := by decide +kernel
theorem dX12_printEssentials_9 : decode cX12_printEssentials 9 = .ok (.aload_n 0, 1) := by decide +kernel
theorem dX12_printEssentials_10 : decode cX12_printEssentials 10 = .ok (.getfield 43, 3) := by decide +kernel
theorem dX12_printEssentials_13 : decode cX12_printEssentials 13 = .ok (.getfield 212, 3) := by decide +kernel
theorem dX12_printEssentials_16 : decode cX12_printEssentials 16 = .ok (.iload_n 1, 1) := by decide +kernel
theorem dX12_printEssentials_17 : decode cX12_printEssentials 17 = .ok (.iaload, 1) := by decide +kernel
theorem dX12_printEssentials_18 : decode cX12_printEssentials 18 = .ok (.istore_n 3, 1) := by decide +kernel
theorem dX12_printEssentials_19 : decode cX12_printEssentials 19 = .ok (.iload_n 3, 1) := by decide +kernel
theorem dX12_printEssentials_20 : decode cX12_printEssentials 20 = .ok (.istore 4, 2) := by decide +kernel
theorem dX12_printEssentials_22 : decode cX12_printEssentials 22 = .ok (.iload 4, 2) := by decide +kernel
theorem dX12_printEssentials_24 : decode cX12_printEssentials 24 = .ok (.iload_n 3, 1) := by decide +kernel
theorem dX12_printEssentials_25 : decode cX12_printEssentials 25 = .ok (.aload_n 0, 1) := by decide +kernel
theorem dX12_printEssentials_26 : decode cX12_printEssentials 26 = .ok (.getfield 43, 3) := by decide +kernel
theorem dX12_printEssentials_29 : decode cX12_printEssentials 29 = .ok (.getfield 200, 3) := by decide +kernel
theorem dX12_printEssentials_32 : decode cX12_printEssentials 32 = .ok (.iload_n 1, 1) := by decide +kernel
theorem dX12_printEssentials_33 : decode cX12_printEssentials 33 = .ok (.iaload, 1) := by decide +kernel
theorem dX12_printEssentials_34 : decode cX12_printEssentials 34 = .ok (.iadd, 1) := by decide +kernel
theorem dX12_printEssentials_35 : decode cX12_printEssentials 35 = .ok (.if_icmp .ge 60, 3) := by decide +kernel
theorem dX12_printEssentials_38 : decode cX12_printEssentials 38 = .ok (.aload_n 0, 1) := by decide +kernel
theorem dX12_printEssentials_39 : decode cX12_printEssentials 39 = .ok (.getfield 43, 3) := by decide +kernel
theorem dX12_printEssentials_42 : decode cX12_printEssentials 42 = .ok (.getfield 209, 3) := by decide +kernel
theorem dX12_printEssentials_45 : decode cX12_printEssentials 45 = .ok (.iload 4, 2) := by decide +kernel
theorem dX12_printEssentials_47 : decode cX12_printEssentials 47 = .ok (.iaload, 1) := by decide +kernel
theorem dX12_printEssentials_48 : decode cX12_printEssentials 48 = .ok (.istore 5, 2) := by decide +kernel
theorem dX12_printEssentials_50 : decode cX12_printEssentials 50 = .ok (.aload_n 0, 1) := by decide +kernel
theorem dX12_printEssentials_51 : decode cX12_printEssentials 51 = .ok (.getfield 25, 3) := by decide +kernel
theorem dX12_printEssentials_54 : decode cX12_printEssentials 54 = .ok (.getfield 165, 3) := by decide +kernel
theorem dX12_printEssentials_57 : decode cX12_printEssentials 57 = .ok (.iload 5, 2) := by decide +kernel
theorem dX12_printEssentials_59 : decode cX12_printEssentials 59 = .ok (.iaload, 1) := by decide +kernel
theorem dX12_printEssentials_60 : decode cX12_printEssentials 60 = .ok (.iconst 1, 1) := by decide +kernel
theorem dX12_printEssentials_61 : decode cX12_printEssentials 61 = .ok (.if_icmp .eq 6, 3) := by decide +kernel
theorem dX12_printEssentials_64 : decode cX12_printEssentials 64 = .ok (.goto 25, 3) := by decide +kernel
theorem dX12_printEssentials_67 : decode cX12_printEssentials 67 = .ok (.iload_n 2, 1) := by decide +kernel
theorem dX12_printEssentials_68 : decode cX12_printEssentials 68 = .ok (.ifCond .le 12, 3) := by decide +kernel
theorem dX12_printEssentials_71 : decode cX12_printEssentials 71 = .ok (.aload_n 0, 1) := by decide +kernel
theorem dX12_printEssentials_72 : decode cX12_printEssentials 72 = .ok (.getfield 116, 3) := by decide +kernel
theorem dX12_printEssentials_75 : decode cX12_printEssentials 75 = .ok (.bipush 44, 2) := by decide +kernel
theorem dX12_printEssentials_77 : decode cX12_printEssentials 77 = .ok (.invokevirtual 311, 3) := by decide +kernel
theorem dX12_printEssentials_80 : decode cX12_printEssentials 80 = .ok (.iinc 2 1, 3) := by decide +kernel
theorem dX12_printEssentials_83 : decode cX12_printEssentials 83 = .ok (.aload_n 0, 1) := by decide +kernel
theorem dX12_printEssentials_84 : decode cX12_printEssentials 84 = .ok (.iload 5, 2) := by decide +kernel
theorem dX12_printEssentials_86 : decode cX12_printEssentials 86 = .ok (.invokevirtual 409, 3) := by decide +kernel
theorem dX12_printEssentials_89 : decode cX12_printEssentials 89 = .ok (.iinc 4 1, 3) := by decide +kernel
theorem dX12_printEssentials_92 : decode cX12_printEssentials 92 = .ok (.goto (-70), 3) := by decide +kernel
theorem dX12_printEssentials_95 : decode cX12_printEssentials 95 = .ok (.aload_n 0, 1) := by decide +kernel
theorem dX12_printEssentials_96 : decode cX12_printEssentials 96 = .ok (.getfield 116, 3) := by decide +kernel
theorem dX12_printEssentials_99 : decode cX12_printEssentials 99 = .ok (.invokevirtual 269, 3) := by decide +kernel
theorem dX12_printEssentials_102 : decode cX12_printEssentials 102 = .ok (.istore 4, 2) := by decide +kernel
theorem dX12_printEssentials_104 : decode cX12_printEssentials 104 = .ok (.iload 4, 2) := by decide +kernel
theorem dX12_printEssentials_106 : decode cX12_printEssentials 106 = .ok (.bipush (-2), 2) := by decide +kernel
theorem dX12_printEssentials_108 : decode cX12_printEssentials 108 = .ok (.if_icmp .ne 8, 3) := by decide +kernel
theorem dX12_printEssentials_111 : decode cX12_printEssentials 111 = .ok (.bipush (-2), 2) := by decide +kernel
theorem dX12_printEssentials_113 : decode cX12_printEssentials 113 = .ok (.goto 4, 3) := by decide +kernel
theorem dX12_printEssentials_116 : decode cX12_printEssentials 116 = .ok (.iload_n 2, 1) := by decide +kernel
theorem dX12_printEssentials_117 : decode cX12_printEssentials 117 = .ok (.ireturn, 1) := by decide +kernel
theorem dX12_printBound_0 : decode cX12_printBound 0 = .ok (.aload_n 0, 1) := by decide +kernel
theorem dX12_printBound_1 : decode cX12_printBound 1 = .ok (.getfield 25, 3) := by decide +kernel
theorem dX12_printBound_4 : decode cX12_printBound 4 = .ok (.getfield 174, 3) := by decide +kernel
theorem dX12_printBound_7 : decode cX12_printBound 7 = .ok (.iload_n 1, 1) := by decide +kernel
theorem dX12_printBound_8 : decode cX12_printBound 8 = .ok (.iaload, 1) := by decide +kernel
theorem dX12_printBound_9 : decode cX12_printBound 9 = .ok (.istore_n 2, 1) := by decide +kernel
theorem dX12_printBound_10 : decode cX12_printBound 10 = .ok (.iload_n 2, 1) := by decide +kernel
theorem dX12_printBound_11 : decode cX12_printBound 11 = .ok (.aload_n 0, 1) := by decide +kernel
theorem dX12_printBound_12 : decode cX12_printBound 12 = .ok (.getfield 25, 3) := by decide +kernel
theorem dX12_printBound_15 : decode cX12_printBound 15 = .ok (.getfield 174, 3) := by decide +kernel
theorem dX12_printBound_18 : decode cX12_printBound 18 = .ok (.iload_n 1, 1) := by decide +kernel
theorem dX12_printBound_19 : decode cX12_printBound 19 = .ok (.iconst 1, 1) := by decide +kernel
theorem dX12_printBound_20 : decode cX12_printBound 20 = .ok (.iadd, 1) := by decide +kernel
theorem dX12_printBound_21 : decode cX12_printBound 21 = .ok (.iaload, 1) := by decide +kernel
theorem dX12_printBound_22 : decode cX12_printBound 22 = .ok (.if_icmp .ge 75, 3) := by decide +kernel
theorem dX12_printBound_25 : decode cX12_printBound 25 = .ok (.aload_n 0, 1) := by decide +kernel
theorem dX12_printBound_26 : decode cX12_printBound 26 = .ok (.getfield 25, 3) := by decide +kernel
theorem dX12_printBound_29 : decode cX12_printBound 29 = .ok (.getfield 171, 3) := by decide +kernel
theorem dX12_printBound_32 : decode cX12_printBound 32 = .ok (.iload_n 2, 1) := by decide +kernel
theorem dX12_printBound_33 : decode cX12_printBound 33 = .ok (.iaload, 1) := by decide +kernel
theorem dX12_printBound_34 : decode cX12_printBound 34 = .ok (.istore_n 3, 1) := by decide +kernel
theorem dX12_printBound_35 : decode cX12_printBound 35 = .ok (.aload_n 0, 1) := by decide +kernel
theorem dX12_printBound_36 : decode cX12_printBound 36 = .ok (.getfield 25, 3) := by decide +kernel
theorem dX12_printBound_39 : decode cX12_printBound 39 = .ok (.getfield 412, 3) := by decide +kernel
theorem dX12_printBound_42 : decode cX12_printBound 42 = .ok (.iload_n 2, 1) := by decide +kernel
theorem dX12_printBound_43 : decode cX12_printBound 43 = .ok (.iaload, 1) := by decide +kernel
theorem dX12_printBound_44 : decode cX12_printBound 44 = .ok (.iconst (-1), 1) := by decide +kernel
theorem dX12_printBound_45 : decode cX12_printBound 45 = .ok (.if_icmp .ne 14, 3) := by decide +kernel
theorem dX12_printBound_48 : decode cX12_printBound 48 = .ok (.aload_n 0, 1) := by decide +kernel
theorem dX12_printBound_49 : decode cX12_printBound 49 = .ok (.getfield 116, 3) := by decide +kernel
theorem dX12_printBound_52 : decode cX12_printBound 52 = .ok (.iload_n 3, 1) := by decide +kernel
theorem dX12_printBound_53 : decode cX12_printBound 53 = .ok (.invokevirtual 291, 3) := by decide +kernel
theorem dX12_printBound_56 : decode cX12_printBound 56 = .ok (.goto 35, 3) := by decide +kernel
theorem dX12_printBound_59 : decode cX12_printBound 59 = .ok (.aload_n 0, 1) := by decide +kernel
theorem dX12_printBound_60 : decode cX12_printBound 60 = .ok (.getfield 116, 3) := by decide +kernel
theorem dX12_printBound_63 : decode cX12_printBound 63 = .ok (.aload_n 0, 1) := by decide +kernel
theorem dX12_printBound_64 : decode cX12_printBound 64 = .ok (.getfield 91, 3) := by decide +kernel
theorem dX12_printBound_67 : decode cX12_printBound 67 = .ok (.getfield 415, 3) := by decide +kernel
theorem dX12_printBound_70 : decode cX12_printBound 70 = .ok (.aload_n 0, 1) := by decide +kernel
theorem dX12_printBound_71 : decode cX12_printBound 71 = .ok (.getfield 100, 3) := by decide +kernel
theorem dX12_printBound_74 : decode cX12_printBound 74 = .ok (.getfield 418, 3) := by decide +kernel
theorem dX12_printBound_77 : decode cX12_printBound 77 = .ok (.iload_n 3, 1) := by decide +kernel
theorem dX12_printBound_78 : decode cX12_printBound 78 = .ok (.iaload, 1) := by decide +kernel
theorem dX12_printBound_79 : decode cX12_printBound 79 = .ok (.aload_n 0, 1) := by decide +kernel
theorem dX12_printBound_80 : decode cX12_printBound 80 = .ok (.getfield 100, 3) := by decide +kernel
theorem dX12_printBound_83 : decode cX12_printBound 83 = .ok (.getfield 421, 3) := by decide +kernel
theorem dX12_printBound_86 : decode cX12_printBound 86 = .ok (.iload_n 3, 1) := by decide +kernel
theorem dX12_printBound_87 : decode cX12_printBound 87 = .ok (.iaload, 1) := by decide +kernel
theorem dX12_printBound_88 : decode cX12_printBound 88 = .ok (.invokevirtual 304, 3) := by decide +kernel
theorem dX12_printBound_91 : decode cX12_printBound 91 = .ok (.iinc 2 1, 3) := by decide +kernel
theorem dX12_printBound_94 : decode cX12_printBound 94 = .ok (.goto (-84), 3) := by decide +kernel
theorem dX12_printBound_97 : decode cX12_printBound 97 = .ok (.return_, 1) := by decide +kernel
theorem dX12_check_0 : decode cX12_check 0 = .ok (.iconst 0, 1) := by decide +kernel
theorem dX12_check_1 : decode cX12_check 1 = .ok (.istore_n 1, 1) := by decide +kernel
theorem dX12_check_2 : decode cX12_check 2 = .ok (.iload_n 1, 1) := by decide +kernel
theorem dX12_check_3 : decode cX12_check 3 = .ok (.aload_n 0, 1) := by decide +kernel
theorem dX12_check_4 : decode cX12_check 4 = .ok (.getfield 25, 3) := by decide +kernel
theorem dX12_check_7 : decode cX12_check 7 = .ok (.getfield 141, 3) := by decide +kernel
theorem dX12_check_10 : decode cX12_check 10 = .ok (.if_icmp .ge 32, 3) := by decide +kernel
theorem dX12_check_13 : decode cX12_check 13 = .ok (.aload_n 0, 1) := by decide +kernel
theorem dX12_check_14 : decode cX12_check 14 = .ok (.getfield 25, 3) := by decide +kernel
theorem dX12_check_17 : decode cX12_check 17 = .ok (.getfield 165, 3) := by decide +kernel
theorem dX12_check_20 : decode cX12_check 20 = .ok (.iload_n 1, 1) := by decide +kernel
theorem dX12_check_21 : decode cX12_check 21 = .ok (.iaload, 1) := by decide +kernel
theorem dX12_check_22 : decode cX12_check 22 = .ok (.iconst 3, 1) := by decide +kernel
theorem dX12_check_23 : decode cX12_check 23 = .ok (.if_icmp .ne 13, 3) := by decide +kernel
theorem dX12_check_26 : decode cX12_check 26 = .ok (.aload_n 0, 1) := by decide +kernel
theorem dX12_check_27 : decode cX12_check 27 = .ok (.iload_n 1, 1) := by decide +kernel
theorem dX12_check_28 : decode cX12_check 28 = .ok (.invokevirtual 424, 3) := by decide +kernel
theorem dX12_check_31 : decode cX12_check 31 = .ok (.ifCond .ne 5, 3) := by decide +kernel
theorem dX12_check_34 : decode cX12_check 34 = .ok (.iconst 0, 1) := by decide +kernel
theorem dX12_check_35 : decode cX12_check 35 = .ok (.ireturn, 1) := by decide +kernel
theorem dX12_check_36 : decode cX12_check 36 = .ok (.iinc 1 1, 3) := by decide +kernel
theorem dX12_check_39 : decode cX12_check 39 = .ok (.goto (-37), 3) := by decide +kernel
theorem dX12_check_42 : decode cX12_check 42 = .ok (.iconst 0, 1) := by decide +kernel
theorem dX12_check_43 : decode cX12_check 43 = .ok (.aload_n 0, 1) := by decide +kernel
theorem dX12_check_44 : decode cX12_check 44 = .ok (.getfield 25, 3) := by decide +kernel
theorem dX12_check_47 : decode cX12_check 47 = .ok (.getfield 141, 3) := by decide +kernel
theorem dX12_check_50 : decode cX12_check 50 = .ok (.iconst 4, 1) := by decide +kernel
theorem dX12_check_51 : decode cX12_check 51 = .ok (.isub, 1) := by decide +kernel
theorem dX12_check_52 : decode cX12_check 52 = .ok (.invokestatic 427, 3) := by decide +kernel
theorem dX12_check_55 : decode cX12_check 55 = .ok (.istore_n 1, 1) := by decide +kernel
theorem dX12_check_56 : decode cX12_check 56 = .ok (.iload_n 1, 1) := by decide +kernel
theorem dX12_check_57 : decode cX12_check 57 = .ok (.aload_n 0, 1) := by decide +kernel
theorem dX12_check_58 : decode cX12_check 58 = .ok (.getfield 25, 3) := by decide +kernel
theorem dX12_check_61 : decode cX12_check 61 = .ok (.getfield 141, 3) := by decide +kernel
theorem dX12_check_64 : decode cX12_check 64 = .ok (.if_icmp .ge 28, 3) := by decide +kernel
theorem dX12_check_67 : decode cX12_check 67 = .ok (.aload_n 0, 1) := by decide +kernel
theorem dX12_check_68 : decode cX12_check 68 = .ok (.iload_n 1, 1) := by decide +kernel
theorem dX12_check_69 : decode cX12_check 69 = .ok (.invokevirtual 346, 3) := by decide +kernel
theorem dX12_check_72 : decode cX12_check 72 = .ok (.iconst 1, 1) := by decide +kernel
theorem dX12_check_73 : decode cX12_check 73 = .ok (.if_icmp .ne 13, 3) := by decide +kernel
theorem dX12_check_76 : decode cX12_check 76 = .ok (.aload_n 0, 1) := by decide +kernel
theorem dX12_check_77 : decode cX12_check 77 = .ok (.iload_n 1, 1) := by decide +kernel
theorem dX12_check_78 : decode cX12_check 78 = .ok (.invokevirtual 432, 3) := by decide +kernel
theorem dX12_check_81 : decode cX12_check 81 = .ok (.ifCond .ne 5, 3) := by decide +kernel
theorem dX12_check_84 : decode cX12_check 84 = .ok (.iconst 0, 1) := by decide +kernel
theorem dX12_check_85 : decode cX12_check 85 = .ok (.ireturn, 1) := by decide +kernel
theorem dX12_check_86 : decode cX12_check 86 = .ok (.iinc 1 1, 3) := by decide +kernel
theorem dX12_check_89 : decode cX12_check 89 = .ok (.goto (-33), 3) := by decide +kernel
theorem dX12_check_92 : decode cX12_check 92 = .ok (.iconst 1, 1) := by decide +kernel
theorem dX12_check_93 : decode cX12_check 93 = .ok (.ireturn, 1) := by decide +kernel
theorem dX12_isSound_0 : decode cX12_isSound 0 = .ok (.aload_n 0, 1) := by decide +kernel
theorem dX12_isSound_1 : decode cX12_isSound 1 = .ok (.getfield 43, 3) := by decide +kernel
theorem dX12_isSound_4 : decode cX12_isSound 4 = .ok (.getfield 222, 3) := by decide +kernel
theorem dX12_isSound_7 : decode cX12_isSound 7 = .ok (.iload_n 1, 1) := by decide +kernel
theorem dX12_isSound_8 : decode cX12_isSound 8 = .ok (.iaload, 1) := by decide +kernel
theorem dX12_isSound_9 : decode cX12_isSound 9 = .ok (.iconst 1, 1) := by decide +kernel
theorem dX12_isSound_10 : decode cX12_isSound 10 = .ok (.isub, 1) := by decide +kernel
theorem dX12_isSound_11 : decode cX12_isSound 11 = .ok (.istore_n 2, 1) := by decide +kernel
theorem dX12_isSound_12 : decode cX12_isSound 12 = .ok (.aload_n 0, 1) := by decide +kernel
theorem dX12_isSound_13 : decode cX12_isSound 13 = .ok (.getfield 52, 3) := by decide +kernel
theorem dX12_isSound_16 : decode cX12_isSound 16 = .ok (.iload_n 1, 1) := by decide +kernel
theorem dX12_isSound_17 : decode cX12_isSound 17 = .ok (.iload_n 2, 1) := by decide +kernel
theorem dX12_isSound_18 : decode cX12_isSound 18 = .ok (.invokevirtual 294, 3) := by decide +kernel
theorem dX12_isSound_21 : decode cX12_isSound 21 = .ok (.ifCond .eq 15, 3) := by decide +kernel
theorem dX12_isSound_24 : decode cX12_isSound 24 = .ok (.aload_n 0, 1) := by decide +kernel
theorem dX12_isSound_25 : decode cX12_isSound 25 = .ok (.getfield 52, 3) := by decide +kernel
theorem dX12_isSound_28 : decode cX12_isSound 28 = .ok (.iload_n 2, 1) := by decide +kernel
theorem dX12_isSound_29 : decode cX12_isSound 29 = .ok (.iload_n 1, 1) := by decide +kernel
theorem dX12_isSound_30 : decode cX12_isSound 30 = .ok (.invokevirtual 435, 3) := by decide +kernel
theorem dX12_isSound_33 : decode cX12_isSound 33 = .ok (.ifCond .ne 5, 3) := by decide +kernel
theorem dX12_isSound_36 : decode cX12_isSound 36 = .ok (.iconst 0, 1) := by decide +kernel
theorem dX12_isSound_37 : decode cX12_isSound 37 = .ok (.ireturn, 1) := by decide +kernel
theorem dX12_isSound_38 : decode cX12_isSound 38 = .ok (.aload_n 0, 1) := by decide +kernel
theorem dX12_isSound_39 : decode cX12_isSound 39 = .ok (.getfield 43, 3) := by decide +kernel
theorem dX12_isSound_42 : decode cX12_isSound 42 = .ok (.iload_n 1, 1) := by decide +kernel
theorem dX12_isSound_43 : decode cX12_isSound 43 = .ok (.invokevirtual 249, 3) := by decide +kernel
theorem dX12_isSound_46 : decode cX12_isSound 46 = .ok (.ldc2_w 338, 3) := by decide +kernel
theorem dX12_isSound_49 : decode cX12_isSound 49 = .ok (.lcmp, 1) := by decide +kernel
theorem dX12_isSound_50 : decode cX12_isSound 50 = .ok (.ifCond .gt 16, 3) := by decide +kernel
theorem dX12_isSound_53 : decode cX12_isSound 53 = .ok (.aload_n 0, 1) := by decide +kernel
theorem dX12_isSound_54 : decode cX12_isSound 54 = .ok (.getfield 75, 3) := by decide +kernel
theorem dX12_isSound_57 : decode cX12_isSound 57 = .ok (.iload_n 1, 1) := by decide +kernel
theorem dX12_isSound_58 : decode cX12_isSound 58 = .ok (.invokevirtual 437, 3) := by decide +kernel
theorem dX12_isSound_61 : decode cX12_isSound 61 = .ok (.ifCond .ne 5, 3) := by decide +kernel
theorem dX12_isSound_64 : decode cX12_isSound 64 = .ok (.iconst 0, 1) := by decide +kernel
theorem dX12_isSound_65 : decode cX12_isSound 65 = .ok (.ireturn, 1) := by decide +kernel
theorem dX12_isSound_66 : decode cX12_isSound 66 = .ok (.aload_n 0, 1) := by decide +kernel
theorem dX12_isSound_67 : decode cX12_isSound 67 = .ok (.getfield 43, 3) := by decide +kernel
theorem dX12_isSound_70 : decode cX12_isSound 70 = .ok (.iload_n 1, 1) := by decide +kernel
theorem dX12_isSound_71 : decode cX12_isSound 71 = .ok (.invokevirtual 440, 3) := by decide +kernel
theorem dX12_isSound_74 : decode cX12_isSound 74 = .ok (.ireturn, 1) := by decide +kernel
theorem dX12_makesItsSymbols_0 : decode cX12_makesItsSymbols 0 = .ok (.aload_n 0, 1) := by decide +kernel
theorem dX12_makesItsSymbols_1 : decode cX12_makesItsSymbols 1 = .ok (.getfield 100, 3) := by decide +kernel
theorem dX12_makesItsSymbols_4 : decode cX12_makesItsSymbols 4 = .ok (.invokevirtual 349, 3) := by decide +kernel
theorem dX12_makesItsSymbols_7 : decode cX12_makesItsSymbols 7 = .ok (.aload_n 0, 1) := by decide +kernel
theorem dX12_makesItsSymbols_8 : decode cX12_makesItsSymbols 8 = .ok (.getfield 109, 3) := by decide +kernel
theorem dX12_makesItsSymbols_11 : decode cX12_makesItsSymbols 11 = .ok (.iconst 0, 1) := by decide +kernel
theorem dX12_makesItsSymbols_12 : decode cX12_makesItsSymbols 12 = .ok (.aload_n 0, 1) := by decide +kernel
theorem dX12_makesItsSymbols_13 : decode cX12_makesItsSymbols 13 = .ok (.getfield 100, 3) := by decide +kernel
theorem dX12_makesItsSymbols_16 : decode cX12_makesItsSymbols 16 = .ok (.getfield 352, 3) := by decide +kernel
theorem dX12_makesItsSymbols_19 : decode cX12_makesItsSymbols 19 = .ok (.iconst 0, 1) := by decide +kernel
theorem dX12_makesItsSymbols_20 : decode cX12_makesItsSymbols 20 = .ok (.invokevirtual 366, 3) := by decide +kernel
theorem dX12_makesItsSymbols_23 : decode cX12_makesItsSymbols 23 = .ok (.ifCond .eq 25, 3) := by decide +kernel
theorem dX12_makesItsSymbols_26 : decode cX12_makesItsSymbols 26 = .ok (.aload_n 0, 1) := by decide +kernel
theorem dX12_makesItsSymbols_27 : decode cX12_makesItsSymbols 27 = .ok (.getfield 52, 3) := by decide +kernel
theorem dX12_makesItsSymbols_30 : decode cX12_makesItsSymbols 30 = .ok (.getfield 301, 3) := by decide +kernel
theorem dX12_makesItsSymbols_33 : decode cX12_makesItsSymbols 33 = .ok (.iconst 0, 1) := by decide +kernel
theorem dX12_makesItsSymbols_34 : decode cX12_makesItsSymbols 34 = .ok (.iaload, 1) := by decide +kernel
theorem dX12_makesItsSymbols_35 : decode cX12_makesItsSymbols 35 = .ok (.aload_n 0, 1) := by decide +kernel
theorem dX12_makesItsSymbols_36 : decode cX12_makesItsSymbols 36 = .ok (.getfield 25, 3) := by decide +kernel
theorem dX12_makesItsSymbols_39 : decode cX12_makesItsSymbols 39 = .ok (.iload_n 1, 1) := by decide +kernel
theorem dX12_makesItsSymbols_40 : decode cX12_makesItsSymbols 40 = .ok (.invokevirtual 168, 3) := by decide +kernel
theorem dX12_makesItsSymbols_43 : decode cX12_makesItsSymbols 43 = .ok (.iconst 1, 1) := by decide +kernel
theorem dX12_makesItsSymbols_44 : decode cX12_makesItsSymbols 44 = .ok (.isub, 1) := by decide +kernel
theorem dX12_makesItsSymbols_45 : decode cX12_makesItsSymbols 45 = .ok (.if_icmp .eq 5, 3) := by decide +kernel
theorem dX12_makesItsSymbols_48 : decode cX12_makesItsSymbols 48 = .ok (.iconst 0, 1) := by decide +kernel
theorem dX12_makesItsSymbols_49 : decode cX12_makesItsSymbols 49 = .ok (.ireturn, 1) := by decide +kernel
theorem dX12_makesItsSymbols_50 : decode cX12_makesItsSymbols 50 = .ok (.iconst 0, 1) := by decide +kernel
theorem dX12_makesItsSymbols_51 : decode cX12_makesItsSymbols 51 = .ok (.istore_n 2, 1) := by decide +kernel
theorem dX12_makesItsSymbols_52 : decode cX12_makesItsSymbols 52 = .ok (.iload_n 2, 1) := by decide +kernel
theorem dX12_makesItsSymbols_53 : decode cX12_makesItsSymbols 53 = .ok (.aload_n 0, 1) := by decide +kernel
theorem dX12_makesItsSymbols_54 : decode cX12_makesItsSymbols 54 = .ok (.getfield 52, 3) := by decide +kernel
theorem dX12_makesItsSymbols_57 : decode cX12_makesItsSymbols 57 = .ok (.getfield 301, 3) := by decide +kernel
theorem dX12_makesItsSymbols_60 : decode cX12_makesItsSymbols 60 = .ok (.iconst 0, 1) := by decide +kernel
theorem dX12_makesItsSymbols_61 : decode cX12_makesItsSymbols 61 = .ok (.iaload, 1) := by decide +kernel
theorem dX12_makesItsSymbols_62 : decode cX12_makesItsSymbols 62 = .ok (.if_icmp .ge 54, 3) := by decide +kernel
theorem dX12_makesItsSymbols_65 : decode cX12_makesItsSymbols 65 = .ok (.aload_n 0, 1) := by decide +kernel
theorem dX12_makesItsSymbols_66 : decode cX12_makesItsSymbols 66 = .ok (.getfield 52, 3) := by decide +kernel
theorem dX12_makesItsSymbols_69 : decode cX12_makesItsSymbols 69 = .ok (.getfield 297, 3) := by decide +kernel
theorem dX12_makesItsSymbols_72 : decode cX12_makesItsSymbols 72 = .ok (.aload_n 0, 1) := by decide +kernel
theorem dX12_makesItsSymbols_73 : decode cX12_makesItsSymbols 73 = .ok (.getfield 52, 3) := by decide +kernel
theorem dX12_makesItsSymbols_76 : decode cX12_makesItsSymbols 76 = .ok (.getfield 300, 3) := by decide +kernel
theorem dX12_makesItsSymbols_79 : decode cX12_makesItsSymbols 79 = .ok (.iconst 0, 1) := by decide +kernel
theorem dX12_makesItsSymbols_80 : decode cX12_makesItsSymbols 80 = .ok (.iaload, 1) := by decide +kernel
theorem dX12_makesItsSymbols_81 : decode cX12_makesItsSymbols 81 = .ok (.iload_n 2, 1) := by decide +kernel
theorem dX12_makesItsSymbols_82 : decode cX12_makesItsSymbols 82 = .ok (.iadd, 1) := by decide +kernel
theorem dX12_makesItsSymbols_83 : decode cX12_makesItsSymbols 83 = .ok (.iaload, 1) := by decide +kernel
theorem dX12_makesItsSymbols_84 : decode cX12_makesItsSymbols 84 = .ok (.aload_n 0, 1) := by decide +kernel
theorem dX12_makesItsSymbols_85 : decode cX12_makesItsSymbols 85 = .ok (.getfield 25, 3) := by decide +kernel
theorem dX12_makesItsSymbols_88 : decode cX12_makesItsSymbols 88 = .ok (.getfield 171, 3) := by decide +kernel
theorem dX12_makesItsSymbols_91 : decode cX12_makesItsSymbols 91 = .ok (.aload_n 0, 1) := by decide +kernel
theorem dX12_makesItsSymbols_92 : decode cX12_makesItsSymbols 92 = .ok (.getfield 25, 3) := by decide +kernel
theorem dX12_makesItsSymbols_95 : decode cX12_makesItsSymbols 95 = .ok (.getfield 174, 3) := by decide +kernel
theorem dX12_makesItsSymbols_98 : decode cX12_makesItsSymbols 98 = .ok (.iload_n 1, 1) := by decide +kernel
theorem dX12_makesItsSymbols_99 : decode cX12_makesItsSymbols 99 = .ok (.iaload, 1) := by decide +kernel
theorem dX12_makesItsSymbols_100 : decode cX12_makesItsSymbols 100 = .ok (.iconst 1, 1) := by decide +kernel
theorem dX12_makesItsSymbols_101 : decode cX12_makesItsSymbols 101 = .ok (.iadd, 1) := by decide +kernel
theorem dX12_makesItsSymbols_102 : decode cX12_makesItsSymbols 102 = .ok (.iload_n 2, 1) := by decide +kernel
theorem dX12_makesItsSymbols_103 : decode cX12_makesItsSymbols 103 = .ok (.iadd, 1) := by decide +kernel
theorem dX12_makesItsSymbols_104 : decode cX12_makesItsSymbols 104 = .ok (.iaload, 1) := by decide +kernel
theorem dX12_makesItsSymbols_105 : decode cX12_makesItsSymbols 105 = .ok (.if_icmp .eq 5, 3) := by decide +kernel
theorem dX12_makesItsSymbols_108 : decode cX12_makesItsSymbols 108 = .ok (.iconst 0, 1) := by decide +kernel
theorem dX12_makesItsSymbols_109 : decode cX12_makesItsSymbols 109 = .ok (.ireturn, 1) := by decide +kernel
theorem dX12_makesItsSymbols_110 : decode cX12_makesItsSymbols 110 = .ok (.iinc 2 1, 3) := by decide +kernel
theorem dX12_makesItsSymbols_113 : decode cX12_makesItsSymbols 113 = .ok (.goto (-61), 3) := by decide +kernel
theorem dX12_makesItsSymbols_116 : decode cX12_makesItsSymbols 116 = .ok (.iconst 1, 1) := by decide +kernel
theorem dX12_makesItsSymbols_117 : decode cX12_makesItsSymbols 117 = .ok (.ireturn, 1) := by decide +kernel
theorem dX12_isBlank_0 : decode cX12_isBlank 0 = .ok (.iload_n 0, 1) := by decide +kernel
theorem dX12_isBlank_1 : decode cX12_isBlank 1 = .ok (.bipush 32, 2) := by decide +kernel
theorem dX12_isBlank_3 : decode cX12_isBlank 3 = .ok (.if_icmp .eq 27, 3) := by decide +kernel
theorem dX12_isBlank_6 : decode cX12_isBlank 6 = .ok (.iload_n 0, 1) := by decide +kernel
theorem dX12_isBlank_7 : decode cX12_isBlank 7 = .ok (.bipush 9, 2) := by decide +kernel
theorem dX12_isBlank_9 : decode cX12_isBlank 9 = .ok (.if_icmp .eq 21, 3) := by decide +kernel
theorem dX12_isBlank_12 : decode cX12_isBlank 12 = .ok (.iload_n 0, 1) := by decide +kernel
theorem dX12_isBlank_13 : decode cX12_isBlank 13 = .ok (.bipush 10, 2) := by decide +kernel
theorem dX12_isBlank_15 : decode cX12_isBlank 15 = .ok (.if_icmp .eq 15, 3) := by decide +kernel
theorem dX12_isBlank_18 : decode cX12_isBlank 18 = .ok (.iload_n 0, 1) := by decide +kernel
theorem dX12_isBlank_19 : decode cX12_isBlank 19 = .ok (.bipush 12, 2) := by decide +kernel
theorem dX12_isBlank_21 : decode cX12_isBlank 21 = .ok (.if_icmp .eq 9, 3) := by decide +kernel
theorem dX12_isBlank_24 : decode cX12_isBlank 24 = .ok (.iload_n 0, 1) := by decide +kernel
theorem dX12_isBlank_25 : decode cX12_isBlank 25 = .ok (.bipush 13, 2) := by decide +kernel
theorem dX12_isBlank_27 : decode cX12_isBlank 27 = .ok (.if_icmp .ne 7, 3) := by decide +kernel
theorem dX12_isBlank_30 : decode cX12_isBlank 30 = .ok (.iconst 1, 1) := by decide +kernel
theorem dX12_isBlank_31 : decode cX12_isBlank 31 = .ok (.goto 4, 3) := by decide +kernel
theorem dX12_isBlank_34 : decode cX12_isBlank 34 = .ok (.iconst 0, 1) := by decide +kernel
theorem dX12_isBlank_35 : decode cX12_isBlank 35 = .ok (.ireturn, 1) := by decide +kernel
theorem dX12_isVisible_0 : decode cX12_isVisible 0 = .ok (.iload_n 0, 1) := by decide +kernel
theorem dX12_isVisible_1 : decode cX12_isVisible 1 = .ok (.bipush 33, 2) := by decide +kernel
theorem dX12_isVisible_3 : decode cX12_isVisible 3 = .ok (.if_icmp .lt 13, 3) := by decide +kernel
theorem dX12_isVisible_6 : decode cX12_isVisible 6 = .ok (.iload_n 0, 1) := by decide +kernel
theorem dX12_isVisible_7 : decode cX12_isVisible 7 = .ok (.bipush 126, 2) := by decide +kernel
theorem dX12_isVisible_9 : decode cX12_isVisible 9 = .ok (.if_icmp .gt 7, 3) := by decide +kernel
theorem dX12_isVisible_12 : decode cX12_isVisible 12 = .ok (.iconst 1, 1) := by decide +kernel
theorem dX12_isVisible_13 : decode cX12_isVisible 13 = .ok (.goto 4, 3) := by decide +kernel
theorem dX12_isVisible_16 : decode cX12_isVisible 16 = .ok (.iconst 0, 1) := by decide +kernel
theorem dX12_isVisible_17 : decode cX12_isVisible 17 = .ok (.ireturn, 1) := by decide +kernel
theorem dX12_isLabelCharacter_0 : decode cX12_isLabelCharacter 0 = .ok (.iload_n 0, 1) := by decide +kernel
theorem dX12_isLabelCharacter_1 : decode cX12_isLabelCharacter 1 = .ok (.bipush 97, 2) := by decide +kernel
theorem dX12_isLabelCharacter_3 : decode cX12_isLabelCharacter 3 = .ok (.if_icmp .lt 9, 3) := by decide +kernel
theorem dX12_isLabelCharacter_6 : decode cX12_isLabelCharacter 6 = .ok (.iload_n 0, 1) := by decide +kernel
theorem dX12_isLabelCharacter_7 : decode cX12_isLabelCharacter 7 = .ok (.bipush 122, 2) := by decide +kernel
theorem dX12_isLabelCharacter_9 : decode cX12_isLabelCharacter 9 = .ok (.if_icmp .le 15, 3) := by decide +kernel
theorem dX12_isLabelCharacter_12 : decode cX12_isLabelCharacter 12 = .ok (.iload_n 0, 1) := by decide +kernel
theorem dX12_isLabelCharacter_13 : decode cX12_isLabelCharacter 13 = .ok (.bipush 65, 2) := by decide +kernel
theorem dX12_isLabelCharacter_15 : decode cX12_isLabelCharacter 15 = .ok (.if_icmp .lt 13, 3) := by decide +kernel
theorem dX12_isLabelCharacter_18 : decode cX12_isLabelCharacter 18 = .ok (.iload_n 0, 1) := by decide +kernel
theorem dX12_isLabelCharacter_19 : decode cX12_isLabelCharacter 19 = .ok (.bipush 90, 2) := by decide +kernel
theorem dX12_isLabelCharacter_21 : decode cX12_isLabelCharacter 21 = .ok (.if_icmp .gt 7, 3) := by decide +kernel
theorem dX12_isLabelCharacter_24 : decode cX12_isLabelCharacter 24 = .ok (.iconst 1, 1) := by decide +kernel
theorem dX12_isLabelCharacter_25 : decode cX12_isLabelCharacter 25 = .ok (.goto 4, 3) := by decide +kernel
theorem dX12_isLabelCharacter_28 : decode cX12_isLabelCharacter 28 = .ok (.iconst 0, 1) := by decide +kernel
theorem dX12_isLabelCharacter_29 : decode cX12_isLabelCharacter 29 = .ok (.istore_n 1, 1) := by decide +kernel
theorem dX12_isLabelCharacter_30 : decode cX12_isLabelCharacter 30 = .ok (.iload_n 1, 1) := by decide +kernel
theorem dX12_isLabelCharacter_31 : decode cX12_isLabelCharacter 31 = .ok (.ifCond .ne 33, 3) := by decide +kernel
theorem dX12_isLabelCharacter_34 : decode cX12_isLabelCharacter 34 = .ok (.iload_n 0, 1) := by decide +kernel
theorem dX12_isLabelCharacter_35 : decode cX12_isLabelCharacter 35 = .ok (.bipush 48, 2) := by decide +kernel
theorem dX12_isLabelCharacter_37 : decode cX12_isLabelCharacter 37 = .ok (.if_icmp .lt 9, 3) := by decide +kernel
theorem dX12_isLabelCharacter_40 : decode cX12_isLabelCharacter 40 = .ok (.iload_n 0, 1) := by decide +kernel
theorem dX12_isLabelCharacter_41 : decode cX12_isLabelCharacter 41 = .ok (.bipush 57, 2) := by decide +kernel
theorem dX12_isLabelCharacter_43 : decode cX12_isLabelCharacter 43 = .ok (.if_icmp .le 21, 3) := by decide +kernel
theorem dX12_isLabelCharacter_46 : decode cX12_isLabelCharacter 46 = .ok (.iload_n 0, 1) := by decide +kernel
theorem dX12_isLabelCharacter_47 : decode cX12_isLabelCharacter 47 = .ok (.bipush 46, 2) := by decide +kernel
theorem dX12_isLabelCharacter_49 : decode cX12_isLabelCharacter 49 = .ok (.if_icmp .eq 15, 3) := by decide +kernel
theorem dX12_isLabelCharacter_52 : decode cX12_isLabelCharacter 52 = .ok (.iload_n 0, 1) := by decide +kernel
theorem dX12_isLabelCharacter_53 : decode cX12_isLabelCharacter 53 = .ok (.bipush 45, 2) := by decide +kernel
theorem dX12_isLabelCharacter_55 : decode cX12_isLabelCharacter 55 = .ok (.if_icmp .eq 9, 3) := by decide +kernel
theorem dX12_isLabelCharacter_58 : decode cX12_isLabelCharacter 58 = .ok (.iload_n 0, 1) := by decide +kernel
theorem dX12_isLabelCharacter_59 : decode cX12_isLabelCharacter 59 = .ok (.bipush 95, 2) := by decide +kernel
theorem dX12_isLabelCharacter_61 : decode cX12_isLabelCharacter 61 = .ok (.if_icmp .ne 7, 3) := by decide +kernel
theorem dX12_isLabelCharacter_64 : decode cX12_isLabelCharacter 64 = .ok (.iconst 1, 1) := by decide +kernel
theorem dX12_isLabelCharacter_65 : decode cX12_isLabelCharacter 65 = .ok (.goto 4, 3) := by decide +kernel
theorem dX12_isLabelCharacter_68 : decode cX12_isLabelCharacter 68 = .ok (.iconst 0, 1) := by decide +kernel
theorem dX12_isLabelCharacter_69 : decode cX12_isLabelCharacter 69 = .ok (.ireturn, 1) := by decide +kernel
theorem dX12_skipBlanks_0 : decode cX12_skipBlanks 0 = .ok (.iload_n 1, 1) := by decide +kernel
theorem dX12_skipBlanks_1 : decode cX12_skipBlanks 1 = .ok (.istore_n 3, 1) := by decide +kernel
theorem dX12_skipBlanks_2 : decode cX12_skipBlanks 2 = .ok (.iload_n 3, 1) := by decide +kernel
theorem dX12_skipBlanks_3 : decode cX12_skipBlanks 3 = .ok (.iload_n 2, 1) := by decide +kernel
theorem dX12_skipBlanks_4 : decode cX12_skipBlanks 4 = .ok (.if_icmp .ge 18, 3) := by decide +kernel
theorem dX12_skipBlanks_7 : decode cX12_skipBlanks 7 = .ok (.aload_n 0, 1) := by decide +kernel
theorem dX12_skipBlanks_8 : decode cX12_skipBlanks 8 = .ok (.iload_n 3, 1) := by decide +kernel
theorem dX12_skipBlanks_9 : decode cX12_skipBlanks 9 = .ok (.caload, 1) := by decide +kernel
theorem dX12_skipBlanks_10 : decode cX12_skipBlanks 10 = .ok (.invokestatic 443, 3) := by decide +kernel
theorem dX12_skipBlanks_13 : decode cX12_skipBlanks 13 = .ok (.ifCond .eq 9, 3) := by decide +kernel
theorem dX12_skipBlanks_16 : decode cX12_skipBlanks 16 = .ok (.iinc 3 1, 3) := by decide +kernel
theorem dX12_skipBlanks_19 : decode cX12_skipBlanks 19 = .ok (.goto (-17), 3) := by decide +kernel
theorem dX12_skipBlanks_22 : decode cX12_skipBlanks 22 = .ok (.iload_n 3, 1) := by decide +kernel
theorem dX12_skipBlanks_23 : decode cX12_skipBlanks 23 = .ok (.ireturn, 1) := by decide +kernel
theorem dX12_tokenEnd_0 : decode cX12_tokenEnd 0 = .ok (.iload_n 1, 1) := by decide +kernel
theorem dX12_tokenEnd_1 : decode cX12_tokenEnd 1 = .ok (.istore_n 3, 1) := by decide +kernel
theorem dX12_tokenEnd_2 : decode cX12_tokenEnd 2 = .ok (.iload_n 3, 1) := by decide +kernel
theorem dX12_tokenEnd_3 : decode cX12_tokenEnd 3 = .ok (.iload_n 2, 1) := by decide +kernel
theorem dX12_tokenEnd_4 : decode cX12_tokenEnd 4 = .ok (.if_icmp .ge 18, 3) := by decide +kernel
theorem dX12_tokenEnd_7 : decode cX12_tokenEnd 7 = .ok (.aload_n 0, 1) := by decide +kernel
theorem dX12_tokenEnd_8 : decode cX12_tokenEnd 8 = .ok (.iload_n 3, 1) := by decide +kernel
theorem dX12_tokenEnd_9 : decode cX12_tokenEnd 9 = .ok (.caload, 1) := by decide +kernel
theorem dX12_tokenEnd_10 : decode cX12_tokenEnd 10 = .ok (.invokestatic 446, 3) := by decide +kernel
theorem dX12_tokenEnd_13 : decode cX12_tokenEnd 13 = .ok (.ifCond .eq 9, 3) := by decide +kernel
theorem dX12_tokenEnd_16 : decode cX12_tokenEnd 16 = .ok (.iinc 3 1, 3) := by decide +kernel
theorem dX12_tokenEnd_19 : decode cX12_tokenEnd 19 = .ok (.goto (-17), 3) := by decide +kernel
theorem dX12_tokenEnd_22 : decode cX12_tokenEnd 22 = .ok (.iload_n 3, 1) := by decide +kernel
theorem dX12_tokenEnd_23 : decode cX12_tokenEnd 23 = .ok (.ireturn, 1) := by decide +kernel
theorem dX12_isLabel_0 : decode cX12_isLabel 0 = .ok (.iconst 0, 1) := by decide +kernel
theorem dX12_isLabel_1 : decode cX12_isLabel 1 = .ok (.istore_n 3, 1) := by decide +kernel
theorem dX12_isLabel_2 : decode cX12_isLabel 2 = .ok (.iload_n 3, 1) := by decide +kernel
theorem dX12_isLabel_3 : decode cX12_isLabel 3 = .ok (.iload_n 2, 1) := by decide +kernel
theorem dX12_isLabel_4 : decode cX12_isLabel 4 = .ok (.if_icmp .ge 22, 3) := by decide +kernel
theorem dX12_isLabel_7 : decode cX12_isLabel 7 = .ok (.aload_n 0, 1) := by decide +kernel
theorem dX12_isLabel_8 : decode cX12_isLabel 8 = .ok (.iload_n 1, 1) := by decide +kernel
theorem dX12_isLabel_9 : decode cX12_isLabel 9 = .ok (.iload_n 3, 1) := by decide +kernel
theorem dX12_isLabel_10 : decode cX12_isLabel 10 = .ok (.iadd, 1) := by decide +kernel
theorem dX12_isLabel_11 : decode cX12_isLabel 11 = .ok (.caload, 1) := by decide +kernel
theorem dX12_isLabel_12 : decode cX12_isLabel 12 = .ok (.invokestatic 449, 3) := by decide +kernel
theorem dX12_isLabel_15 : decode cX12_isLabel 15 = .ok (.ifCond .ne 5, 3) := by decide +kernel
theorem dX12_isLabel_18 : decode cX12_isLabel 18 = .ok (.iconst 0, 1) := by decide +kernel
theorem dX12_isLabel_19 : decode cX12_isLabel 19 = .ok (.ireturn, 1) := by decide +kernel
theorem dX12_isLabel_20 : decode cX12_isLabel 20 = .ok (.iinc 3 1, 3) := by decide +kernel
theorem dX12_isLabel_23 : decode cX12_isLabel 23 = .ok (.goto (-21), 3) := by decide +kernel
theorem dX12_isLabel_26 : decode cX12_isLabel 26 = .ok (.iconst 1, 1) := by decide +kernel
theorem dX12_isLabel_27 : decode cX12_isLabel 27 = .ok (.ireturn, 1) := by decide +kernel
theorem dJ7_rangeCheck_23922_0 : decode cJ7_rangeCheck_23922 0 = .ok (.iload_n 1, 1) := by decide +kernel
theorem dJ7_rangeCheck_23922_1 : decode cJ7_rangeCheck_23922 1 = .ok (.iload_n 2, 1) := by decide +kernel
theorem dJ7_rangeCheck_23922_2 : decode cJ7_rangeCheck_23922 2 = .ok (.if_icmp .le 44, 3) := by decide +kernel
theorem dJ7_rangeCheck_23922_5 : decode cJ7_rangeCheck_23922 5 = .ok (.new 43, 3) := by decide +kernel
theorem dJ7_rangeCheck_23922_8 : decode cJ7_rangeCheck_23922 8 = .ok (.dup, 1) := by decide +kernel
theorem dJ7_rangeCheck_23922_9 : decode cJ7_rangeCheck_23922 9 = .ok (.new 45, 3) := by decide +kernel
theorem dJ7_rangeCheck_23922_12 : decode cJ7_rangeCheck_23922 12 = .ok (.dup, 1) := by decide +kernel
theorem dJ7_rangeCheck_23922_13 : decode cJ7_rangeCheck_23922 13 = .ok (.invokespecial 47, 3) := by decide +kernel
theorem dJ7_rangeCheck_23922_16 : decode cJ7_rangeCheck_23922 16 = .ok (.ldc 48, 2) := by decide +kernel
theorem dJ7_rangeCheck_23922_18 : decode cJ7_rangeCheck_23922 18 = .ok (.invokevirtual 50, 3) := by decide +kernel
theorem dJ7_rangeCheck_23922_21 : decode cJ7_rangeCheck_23922 21 = .ok (.iload_n 1, 1) := by decide +kernel
theorem dJ7_rangeCheck_23922_22 : decode cJ7_rangeCheck_23922 22 = .ok (.invokevirtual 54, 3) := by decide +kernel
theorem dJ7_rangeCheck_23922_25 : decode cJ7_rangeCheck_23922 25 = .ok (.ldc 57, 2) := by decide +kernel
theorem dJ7_rangeCheck_23922_27 : decode cJ7_rangeCheck_23922 27 = .ok (.invokevirtual 50, 3) := by decide +kernel
theorem dJ7_rangeCheck_23922_30 : decode cJ7_rangeCheck_23922 30 = .ok (.iload_n 2, 1) := by decide +kernel
theorem dJ7_rangeCheck_23922_31 : decode cJ7_rangeCheck_23922 31 = .ok (.invokevirtual 54, 3) := by decide +kernel
theorem dJ7_rangeCheck_23922_34 : decode cJ7_rangeCheck_23922 34 = .ok (.ldc 59, 2) := by decide +kernel
theorem dJ7_rangeCheck_23922_36 : decode cJ7_rangeCheck_23922 36 = .ok (.invokevirtual 50, 3) := by decide +kernel
theorem dJ7_rangeCheck_23922_39 : decode cJ7_rangeCheck_23922 39 = .ok (.invokevirtual 61, 3) := by decide +kernel
theorem dJ7_rangeCheck_23922_42 : decode cJ7_rangeCheck_23922 42 = .ok (.invokespecial 65, 3) := by decide +kernel
theorem dJ7_rangeCheck_23922_45 : decode cJ7_rangeCheck_23922 45 = .ok (.athrow, 1) := by decide +kernel
theorem dJ7_rangeCheck_23922_46 : decode cJ7_rangeCheck_23922 46 = .ok (.iload_n 1, 1) := by decide +kernel
theorem dJ7_rangeCheck_23922_47 : decode cJ7_rangeCheck_23922 47 = .ok (.ifCond .ge 12, 3) := by decide +kernel
theorem dJ7_rangeCheck_23922_50 : decode cJ7_rangeCheck_23922 50 = .ok (.new 68, 3) := by decide +kernel
theorem dJ7_rangeCheck_23922_53 : decode cJ7_rangeCheck_23922 53 = .ok (.dup, 1) := by decide +kernel
theorem dJ7_rangeCheck_23922_54 : decode cJ7_rangeCheck_23922 54 = .ok (.iload_n 1, 1) := by decide +kernel
theorem dJ7_rangeCheck_23922_55 : decode cJ7_rangeCheck_23922 55 = .ok (.invokespecial 70, 3) := by decide +kernel
theorem dJ7_rangeCheck_23922_58 : decode cJ7_rangeCheck_23922 58 = .ok (.athrow, 1) := by decide +kernel
theorem dJ7_rangeCheck_23922_59 : decode cJ7_rangeCheck_23922 59 = .ok (.iload_n 2, 1) := by decide +kernel
theorem dJ7_rangeCheck_23922_60 : decode cJ7_rangeCheck_23922 60 = .ok (.iload_n 0, 1) := by decide +kernel
theorem dJ7_rangeCheck_23922_61 : decode cJ7_rangeCheck_23922 61 = .ok (.if_icmp .le 12, 3) := by decide +kernel
theorem dJ7_rangeCheck_23922_64 : decode cJ7_rangeCheck_23922 64 = .ok (.new 68, 3) := by decide +kernel
theorem dJ7_rangeCheck_23922_67 : decode cJ7_rangeCheck_23922 67 = .ok (.dup, 1) := by decide +kernel
theorem dJ7_rangeCheck_23922_68 : decode cJ7_rangeCheck_23922 68 = .ok (.iload_n 2, 1) := by decide +kernel
theorem dJ7_rangeCheck_23922_69 : decode cJ7_rangeCheck_23922 69 = .ok (.invokespecial 70, 3) := by decide +kernel
theorem dJ7_rangeCheck_23922_72 : decode cJ7_rangeCheck_23922 72 = .ok (.athrow, 1) := by decide +kernel
theorem dJ7_rangeCheck_23922_73 : decode cJ7_rangeCheck_23922 73 = .ok (.return_, 1) := by decide +kernel
theorem dJ7_fill_53178_0 : decode cJ7_fill_53178 0 = .ok (.iconst 0, 1) := by decide +kernel
theorem dJ7_fill_53178_1 : decode cJ7_fill_53178 1 = .ok (.istore_n 2, 1) := by decide +kernel
theorem dJ7_fill_53178_2 : decode cJ7_fill_53178 2 = .ok (.aload_n 0, 1) := by decide +kernel
theorem dJ7_fill_53178_3 : decode cJ7_fill_53178 3 = .ok (.arraylength, 1) := by decide +kernel
theorem dJ7_fill_53178_4 : decode cJ7_fill_53178 4 = .ok (.istore_n 3, 1) := by decide +kernel
theorem dJ7_fill_53178_5 : decode cJ7_fill_53178 5 = .ok (.iload_n 2, 1) := by decide +kernel
theorem dJ7_fill_53178_6 : decode cJ7_fill_53178 6 = .ok (.iload_n 3, 1) := by decide +kernel
theorem dJ7_fill_53178_7 : decode cJ7_fill_53178 7 = .ok (.if_icmp .ge 13, 3) := by decide +kernel
theorem dJ7_fill_53178_10 : decode cJ7_fill_53178 10 = .ok (.aload_n 0, 1) := by decide +kernel
theorem dJ7_fill_53178_11 : decode cJ7_fill_53178 11 = .ok (.iload_n 2, 1) := by decide +kernel
theorem dJ7_fill_53178_12 : decode cJ7_fill_53178 12 = .ok (.iload_n 1, 1) := by decide +kernel
theorem dJ7_fill_53178_13 : decode cJ7_fill_53178 13 = .ok (.iastore, 1) := by decide +kernel
theorem dJ7_fill_53178_14 : decode cJ7_fill_53178 14 = .ok (.iinc 2 1, 3) := by decide +kernel
theorem dJ7_fill_53178_17 : decode cJ7_fill_53178 17 = .ok (.goto (-12), 3) := by decide +kernel
theorem dJ7_fill_53178_20 : decode cJ7_fill_53178 20 = .ok (.return_, 1) := by decide +kernel
theorem dJ7_fill_fda19_0 : decode cJ7_fill_fda19 0 = .ok (.aload_n 0, 1) := by decide +kernel
theorem dJ7_fill_fda19_1 : decode cJ7_fill_fda19 1 = .ok (.arraylength, 1) := by decide +kernel
theorem dJ7_fill_fda19_2 : decode cJ7_fill_fda19 2 = .ok (.iload_n 1, 1) := by decide +kernel
theorem dJ7_fill_fda19_3 : decode cJ7_fill_fda19 3 = .ok (.iload_n 2, 1) := by decide +kernel
theorem dJ7_fill_fda19_4 : decode cJ7_fill_fda19 4 = .ok (.invokestatic 13, 3) := by decide +kernel
theorem dJ7_fill_fda19_7 : decode cJ7_fill_fda19 7 = .ok (.iload_n 1, 1) := by decide +kernel
theorem dJ7_fill_fda19_8 : decode cJ7_fill_fda19 8 = .ok (.istore 4, 2) := by decide +kernel
theorem dJ7_fill_fda19_10 : decode cJ7_fill_fda19 10 = .ok (.iload 4, 2) := by decide +kernel
theorem dJ7_fill_fda19_12 : decode cJ7_fill_fda19 12 = .ok (.iload_n 2, 1) := by decide +kernel
theorem dJ7_fill_fda19_13 : decode cJ7_fill_fda19 13 = .ok (.if_icmp .ge 14, 3) := by decide +kernel
theorem dJ7_fill_fda19_16 : decode cJ7_fill_fda19 16 = .ok (.aload_n 0, 1) := by decide +kernel
theorem dJ7_fill_fda19_17 : decode cJ7_fill_fda19 17 = .ok (.iload 4, 2) := by decide +kernel
theorem dJ7_fill_fda19_19 : decode cJ7_fill_fda19 19 = .ok (.iload_n 3, 1) := by decide +kernel
theorem dJ7_fill_fda19_20 : decode cJ7_fill_fda19 20 = .ok (.iastore, 1) := by decide +kernel
theorem dJ7_fill_fda19_21 : decode cJ7_fill_fda19 21 = .ok (.iinc 4 1, 3) := by decide +kernel
theorem dJ7_fill_fda19_24 : decode cJ7_fill_fda19 24 = .ok (.goto (-14), 3) := by decide +kernel
theorem dJ7_fill_fda19_27 : decode cJ7_fill_fda19 27 = .ok (.return_, 1) := by decide +kernel
theorem dJ7_copyOf_59c91_0 : decode cJ7_copyOf_59c91 0 = .ok (.iload_n 1, 1) := by decide +kernel
theorem dJ7_copyOf_59c91_1 : decode cJ7_copyOf_59c91 1 = .ok (.aload_n 0, 1) := by decide +kernel
theorem dJ7_copyOf_59c91_2 : decode cJ7_copyOf_59c91 2 = .ok (.arraylength, 1) := by decide +kernel
theorem dJ7_copyOf_59c91_3 : decode cJ7_copyOf_59c91 3 = .ok (.if_icmp .ne 11, 3) := by decide +kernel
theorem dJ7_copyOf_59c91_6 : decode cJ7_copyOf_59c91 6 = .ok (.aload_n 0, 1) := by decide +kernel
theorem dJ7_copyOf_59c91_7 : decode cJ7_copyOf_59c91 7 = .ok (.invokevirtual 316, 3) := by decide +kernel
theorem dJ7_copyOf_59c91_10 : decode cJ7_copyOf_59c91 10 = .ok (.checkcast 317, 3) := by decide +kernel
theorem dJ7_copyOf_59c91_13 : decode cJ7_copyOf_59c91 13 = .ok (.areturn, 1) := by decide +kernel
theorem dJ7_copyOf_59c91_14 : decode cJ7_copyOf_59c91 14 = .ok (.iload_n 1, 1) := by decide +kernel
theorem dJ7_copyOf_59c91_15 : decode cJ7_copyOf_59c91 15 = .ok (.newarray .int, 2) := by decide +kernel
theorem dJ7_copyOf_59c91_17 : decode cJ7_copyOf_59c91 17 = .ok (.astore_n 2, 1) := by decide +kernel
theorem dJ7_copyOf_59c91_18 : decode cJ7_copyOf_59c91 18 = .ok (.aload_n 0, 1) := by decide +kernel
theorem dJ7_copyOf_59c91_19 : decode cJ7_copyOf_59c91 19 = .ok (.iconst 0, 1) := by decide +kernel
theorem dJ7_copyOf_59c91_20 : decode cJ7_copyOf_59c91 20 = .ok (.aload_n 2, 1) := by decide +kernel
theorem dJ7_copyOf_59c91_21 : decode cJ7_copyOf_59c91 21 = .ok (.iconst 0, 1) := by decide +kernel
theorem dJ7_copyOf_59c91_22 : decode cJ7_copyOf_59c91 22 = .ok (.aload_n 0, 1) := by decide +kernel
theorem dJ7_copyOf_59c91_23 : decode cJ7_copyOf_59c91 23 = .ok (.arraylength, 1) := by decide +kernel
theorem dJ7_copyOf_59c91_24 : decode cJ7_copyOf_59c91 24 = .ok (.iload_n 1, 1) := by decide +kernel
theorem dJ7_copyOf_59c91_25 : decode cJ7_copyOf_59c91 25 = .ok (.invokestatic 304, 3) := by decide +kernel
theorem dJ7_copyOf_59c91_28 : decode cJ7_copyOf_59c91 28 = .ok (.invokestatic 150, 3) := by decide +kernel
theorem dJ7_copyOf_59c91_31 : decode cJ7_copyOf_59c91 31 = .ok (.aload_n 2, 1) := by decide +kernel
theorem dJ7_copyOf_59c91_32 : decode cJ7_copyOf_59c91 32 = .ok (.areturn, 1) := by decide +kernel
theorem dJ9_max_7cf53_0 : decode cJ9_max_7cf53 0 = .ok (.iload_n 0, 1) := by decide +kernel
theorem dJ9_max_7cf53_1 : decode cJ9_max_7cf53 1 = .ok (.iload_n 1, 1) := by decide +kernel
theorem dJ9_max_7cf53_2 : decode cJ9_max_7cf53 2 = .ok (.if_icmp .lt 7, 3) := by decide +kernel
theorem dJ9_max_7cf53_5 : decode cJ9_max_7cf53 5 = .ok (.iload_n 0, 1) := by decide +kernel
theorem dJ9_max_7cf53_6 : decode cJ9_max_7cf53 6 = .ok (.goto 4, 3) := by decide +kernel
theorem dJ9_max_7cf53_9 : decode cJ9_max_7cf53 9 = .ok (.iload_n 1, 1) := by decide +kernel
theorem dJ9_max_7cf53_10 : decode cJ9_max_7cf53 10 = .ok (.ireturn, 1) := by decide +kernel
theorem dJ9_min_7cf53_0 : decode cJ9_min_7cf53 0 = .ok (.iload_n 0, 1) := by decide +kernel
theorem dJ9_min_7cf53_1 : decode cJ9_min_7cf53 1 = .ok (.iload_n 1, 1) := by decide +kernel
theorem dJ9_min_7cf53_2 : decode cJ9_min_7cf53 2 = .ok (.if_icmp .gt 7, 3) := by decide +kernel
theorem dJ9_min_7cf53_5 : decode cJ9_min_7cf53 5 = .ok (.iload_n 0, 1) := by decide +kernel
theorem dJ9_min_7cf53_6 : decode cJ9_min_7cf53 6 = .ok (.goto 4, 3) := by decide +kernel
theorem dJ9_min_7cf53_9 : decode cJ9_min_7cf53 9 = .ok (.iload_n 1, 1) := by decide +kernel
theorem dJ9_min_7cf53_10 : decode cJ9_min_7cf53 10 = .ok (.ireturn, 1) := by decide +kernel
theorem dJ9_min_f86c9_0 : decode cJ9_min_f86c9 0 = .ok (.lload_n 0, 1) := by decide +kernel
theorem dJ9_min_f86c9_1 : decode cJ9_min_f86c9 1 = .ok (.lload_n 2, 1) := by decide +kernel
theorem dJ9_min_f86c9_2 : decode cJ9_min_f86c9 2 = .ok (.lcmp, 1) := by decide +kernel
theorem dJ9_min_f86c9_3 : decode cJ9_min_f86c9 3 = .ok (.ifCond .gt 7, 3) := by decide +kernel
theorem dJ9_min_f86c9_6 : decode cJ9_min_f86c9 6 = .ok (.lload_n 0, 1) := by decide +kernel
theorem dJ9_min_f86c9_7 : decode cJ9_min_f86c9 7 = .ok (.goto 4, 3) := by decide +kernel
theorem dJ9_min_f86c9_10 : decode cJ9_min_f86c9 10 = .ok (.lload_n 2, 1) := by decide +kernel
theorem dJ9_min_f86c9_11 : decode cJ9_min_f86c9 11 = .ok (.lreturn, 1) := by decide +kernel
theorem dJ6_numberOfTrailingZeros_0f7a4_0 : decode cJ6_numberOfTrailingZeros_0f7a4 0 = .ok (.iload_n 0, 1) := by decide +kernel
theorem dJ6_numberOfTrailingZeros_0f7a4_1 : decode cJ6_numberOfTrailingZeros_0f7a4 1 = .ok (.iconst (-1), 1) := by decide +kernel
theorem dJ6_numberOfTrailingZeros_0f7a4_2 : decode cJ6_numberOfTrailingZeros_0f7a4 2 = .ok (.ixor, 1) := by decide +kernel
theorem dJ6_numberOfTrailingZeros_0f7a4_3 : decode cJ6_numberOfTrailingZeros_0f7a4 3 = .ok (.iload_n 0, 1) := by decide +kernel
theorem dJ6_numberOfTrailingZeros_0f7a4_4 : decode cJ6_numberOfTrailingZeros_0f7a4 4 = .ok (.iconst 1, 1) := by decide +kernel
theorem dJ6_numberOfTrailingZeros_0f7a4_5 : decode cJ6_numberOfTrailingZeros_0f7a4 5 = .ok (.isub, 1) := by decide +kernel
theorem dJ6_numberOfTrailingZeros_0f7a4_6 : decode cJ6_numberOfTrailingZeros_0f7a4 6 = .ok (.iand, 1) := by decide +kernel
theorem dJ6_numberOfTrailingZeros_0f7a4_7 : decode cJ6_numberOfTrailingZeros_0f7a4 7 = .ok (.istore_n 0, 1) := by decide +kernel
theorem dJ6_numberOfTrailingZeros_0f7a4_8 : decode cJ6_numberOfTrailingZeros_0f7a4 8 = .ok (.iload_n 0, 1) := by decide +kernel
theorem dJ6_numberOfTrailingZeros_0f7a4_9 : decode cJ6_numberOfTrailingZeros_0f7a4 9 = .ok (.ifCond .gt 8, 3) := by decide +kernel
theorem dJ6_numberOfTrailingZeros_0f7a4_12 : decode cJ6_numberOfTrailingZeros_0f7a4 12 = .ok (.iload_n 0, 1) := by decide +kernel
theorem dJ6_numberOfTrailingZeros_0f7a4_13 : decode cJ6_numberOfTrailingZeros_0f7a4 13 = .ok (.bipush 32, 2) := by decide +kernel
theorem dJ6_numberOfTrailingZeros_0f7a4_15 : decode cJ6_numberOfTrailingZeros_0f7a4 15 = .ok (.iand, 1) := by decide +kernel
theorem dJ6_numberOfTrailingZeros_0f7a4_16 : decode cJ6_numberOfTrailingZeros_0f7a4 16 = .ok (.ireturn, 1) := by decide +kernel
theorem dJ6_numberOfTrailingZeros_0f7a4_17 : decode cJ6_numberOfTrailingZeros_0f7a4 17 = .ok (.iconst 1, 1) := by decide +kernel
theorem dJ6_numberOfTrailingZeros_0f7a4_18 : decode cJ6_numberOfTrailingZeros_0f7a4 18 = .ok (.istore_n 1, 1) := by decide +kernel
theorem dJ6_numberOfTrailingZeros_0f7a4_19 : decode cJ6_numberOfTrailingZeros_0f7a4 19 = .ok (.iload_n 0, 1) := by decide +kernel
theorem dJ6_numberOfTrailingZeros_0f7a4_20 : decode cJ6_numberOfTrailingZeros_0f7a4 20 = .ok (.ldc_w 264, 3) := by decide +kernel
theorem dJ6_numberOfTrailingZeros_0f7a4_23 : decode cJ6_numberOfTrailingZeros_0f7a4 23 = .ok (.if_icmp .le 11, 3) := by decide +kernel
theorem dJ6_numberOfTrailingZeros_0f7a4_26 : decode cJ6_numberOfTrailingZeros_0f7a4 26 = .ok (.iinc 1 16, 3) := by decide +kernel
theorem dJ6_numberOfTrailingZeros_0f7a4_29 : decode cJ6_numberOfTrailingZeros_0f7a4 29 = .ok (.iload_n 0, 1) := by decide +kernel
theorem dJ6_numberOfTrailingZeros_0f7a4_30 : decode cJ6_numberOfTrailingZeros_0f7a4 30 = .ok (.bipush 16, 2) := by decide +kernel
theorem dJ6_numberOfTrailingZeros_0f7a4_32 : decode cJ6_numberOfTrailingZeros_0f7a4 32 = .ok (.iushr, 1) := by decide +kernel
theorem dJ6_numberOfTrailingZeros_0f7a4_33 : decode cJ6_numberOfTrailingZeros_0f7a4 33 = .ok (.istore_n 0, 1) := by decide +kernel
theorem dJ6_numberOfTrailingZeros_0f7a4_34 : decode cJ6_numberOfTrailingZeros_0f7a4 34 = .ok (.iload_n 0, 1) := by decide +kernel
theorem dJ6_numberOfTrailingZeros_0f7a4_35 : decode cJ6_numberOfTrailingZeros_0f7a4 35 = .ok (.sipush 256, 3) := by decide +kernel
theorem dJ6_numberOfTrailingZeros_0f7a4_38 : decode cJ6_numberOfTrailingZeros_0f7a4 38 = .ok (.if_icmp .le 11, 3) := by decide +kernel
theorem dJ6_numberOfTrailingZeros_0f7a4_41 : decode cJ6_numberOfTrailingZeros_0f7a4 41 = .ok (.iinc 1 8, 3) := by decide +kernel
theorem dJ6_numberOfTrailingZeros_0f7a4_44 : decode cJ6_numberOfTrailingZeros_0f7a4 44 = .ok (.iload_n 0, 1) := by decide +kernel
theorem dJ6_numberOfTrailingZeros_0f7a4_45 : decode cJ6_numberOfTrailingZeros_0f7a4 45 = .ok (.bipush 8, 2) := by decide +kernel
theorem dJ6_numberOfTrailingZeros_0f7a4_47 : decode cJ6_numberOfTrailingZeros_0f7a4 47 = .ok (.iushr, 1) := by decide +kernel
theorem dJ6_numberOfTrailingZeros_0f7a4_48 : decode cJ6_numberOfTrailingZeros_0f7a4 48 = .ok (.istore_n 0, 1) := by decide +kernel
theorem dJ6_numberOfTrailingZeros_0f7a4_49 : decode cJ6_numberOfTrailingZeros_0f7a4 49 = .ok (.iload_n 0, 1) := by decide +kernel
theorem dJ6_numberOfTrailingZeros_0f7a4_50 : decode cJ6_numberOfTrailingZeros_0f7a4 50 = .ok (.bipush 16, 2) := by decide +kernel
theorem dJ6_numberOfTrailingZeros_0f7a4_52 : decode cJ6_numberOfTrailingZeros_0f7a4 52 = .ok (.if_icmp .le 10, 3) := by decide +kernel
theorem dJ6_numberOfTrailingZeros_0f7a4_55 : decode cJ6_numberOfTrailingZeros_0f7a4 55 = .ok (.iinc 1 4, 3) := by decide +kernel
theorem dJ6_numberOfTrailingZeros_0f7a4_58 : decode cJ6_numberOfTrailingZeros_0f7a4 58 = .ok (.iload_n 0, 1) := by decide +kernel
theorem dJ6_numberOfTrailingZeros_0f7a4_59 : decode cJ6_numberOfTrailingZeros_0f7a4 59 = .ok (.iconst 4, 1) := by decide +kernel
theorem dJ6_numberOfTrailingZeros_0f7a4_60 : decode cJ6_numberOfTrailingZeros_0f7a4 60 = .ok (.iushr, 1) := by decide +kernel
theorem dJ6_numberOfTrailingZeros_0f7a4_61 : decode cJ6_numberOfTrailingZeros_0f7a4 61 = .ok (.istore_n 0, 1) := by decide +kernel
theorem dJ6_numberOfTrailingZeros_0f7a4_62 : decode cJ6_numberOfTrailingZeros_0f7a4 62 = .ok (.iload_n 0, 1) := by decide +kernel
theorem dJ6_numberOfTrailingZeros_0f7a4_63 : decode cJ6_numberOfTrailingZeros_0f7a4 63 = .ok (.iconst 4, 1) := by decide +kernel
theorem dJ6_numberOfTrailingZeros_0f7a4_64 : decode cJ6_numberOfTrailingZeros_0f7a4 64 = .ok (.if_icmp .le 10, 3) := by decide +kernel
theorem dJ6_numberOfTrailingZeros_0f7a4_67 : decode cJ6_numberOfTrailingZeros_0f7a4 67 = .ok (.iinc 1 2, 3) := by decide +kernel
theorem dJ6_numberOfTrailingZeros_0f7a4_70 : decode cJ6_numberOfTrailingZeros_0f7a4 70 = .ok (.iload_n 0, 1) := by decide +kernel
theorem dJ6_numberOfTrailingZeros_0f7a4_71 : decode cJ6_numberOfTrailingZeros_0f7a4 71 = .ok (.iconst 2, 1) := by decide +kernel
theorem dJ6_numberOfTrailingZeros_0f7a4_72 : decode cJ6_numberOfTrailingZeros_0f7a4 72 = .ok (.iushr, 1) := by decide +kernel
theorem dJ6_numberOfTrailingZeros_0f7a4_73 : decode cJ6_numberOfTrailingZeros_0f7a4 73 = .ok (.istore_n 0, 1) := by decide +kernel
theorem dJ6_numberOfTrailingZeros_0f7a4_74 : decode cJ6_numberOfTrailingZeros_0f7a4 74 = .ok (.iload_n 1, 1) := by decide +kernel
theorem dJ6_numberOfTrailingZeros_0f7a4_75 : decode cJ6_numberOfTrailingZeros_0f7a4 75 = .ok (.iload_n 0, 1) := by decide +kernel
theorem dJ6_numberOfTrailingZeros_0f7a4_76 : decode cJ6_numberOfTrailingZeros_0f7a4 76 = .ok (.iconst 1, 1) := by decide +kernel
theorem dJ6_numberOfTrailingZeros_0f7a4_77 : decode cJ6_numberOfTrailingZeros_0f7a4 77 = .ok (.iushr, 1) := by decide +kernel
theorem dJ6_numberOfTrailingZeros_0f7a4_78 : decode cJ6_numberOfTrailingZeros_0f7a4 78 = .ok (.iadd, 1) := by decide +kernel
theorem dJ6_numberOfTrailingZeros_0f7a4_79 : decode cJ6_numberOfTrailingZeros_0f7a4 79 = .ok (.ireturn, 1) := by decide +kernel
theorem dJ13_numberOfTrailingZeros_95d88_0 : decode cJ13_numberOfTrailingZeros_95d88 0 = .ok (.lload_n 0, 1) := by decide +kernel
theorem dJ13_numberOfTrailingZeros_95d88_1 : decode cJ13_numberOfTrailingZeros_95d88 1 = .ok (.l2i, 1) := by decide +kernel
theorem dJ13_numberOfTrailingZeros_95d88_2 : decode cJ13_numberOfTrailingZeros_95d88 2 = .ok (.istore_n 2, 1) := by decide +kernel
theorem dJ13_numberOfTrailingZeros_95d88_3 : decode cJ13_numberOfTrailingZeros_95d88 3 = .ok (.iload_n 2, 1) := by decide +kernel
theorem dJ13_numberOfTrailingZeros_95d88_4 : decode cJ13_numberOfTrailingZeros_95d88 4 = .ok (.ifCond .ne 17, 3) := by decide +kernel
theorem dJ13_numberOfTrailingZeros_95d88_7 : decode cJ13_numberOfTrailingZeros_95d88 7 = .ok (.bipush 32, 2) := by decide +kernel
theorem dJ13_numberOfTrailingZeros_95d88_9 : decode cJ13_numberOfTrailingZeros_95d88 9 = .ok (.lload_n 0, 1) := by decide +kernel
theorem dJ13_numberOfTrailingZeros_95d88_10 : decode cJ13_numberOfTrailingZeros_95d88 10 = .ok (.bipush 32, 2) := by decide +kernel
theorem dJ13_numberOfTrailingZeros_95d88_12 : decode cJ13_numberOfTrailingZeros_95d88 12 = .ok (.lushr, 1) := by decide +kernel
theorem dJ13_numberOfTrailingZeros_95d88_13 : decode cJ13_numberOfTrailingZeros_95d88 13 = .ok (.l2i, 1) := by decide +kernel
theorem dJ13_numberOfTrailingZeros_95d88_14 : decode cJ13_numberOfTrailingZeros_95d88 14 = .ok (.invokestatic 311, 3) := by decide +kernel
theorem dJ13_numberOfTrailingZeros_95d88_17 : decode cJ13_numberOfTrailingZeros_95d88 17 = .ok (.iadd, 1) := by decide +kernel
theorem dJ13_numberOfTrailingZeros_95d88_18 : decode cJ13_numberOfTrailingZeros_95d88 18 = .ok (.goto 7, 3) := by decide +kernel
theorem dJ13_numberOfTrailingZeros_95d88_21 : decode cJ13_numberOfTrailingZeros_95d88 21 = .ok (.iload_n 2, 1) := by decide +kernel
theorem dJ13_numberOfTrailingZeros_95d88_22 : decode cJ13_numberOfTrailingZeros_95d88 22 = .ok (.invokestatic 311, 3) := by decide +kernel
theorem dJ13_numberOfTrailingZeros_95d88_25 : decode cJ13_numberOfTrailingZeros_95d88 25 = .ok (.ireturn, 1) := by decide +kernel
theorem dJ13_bitCount_95d88_0 : decode cJ13_bitCount_95d88 0 = .ok (.lload_n 0, 1) := by decide +kernel
theorem dJ13_bitCount_95d88_1 : decode cJ13_bitCount_95d88 1 = .ok (.lload_n 0, 1) := by decide +kernel
theorem dJ13_bitCount_95d88_2 : decode cJ13_bitCount_95d88 2 = .ok (.iconst 1, 1) := by decide +kernel
theorem dJ13_bitCount_95d88_3 : decode cJ13_bitCount_95d88 3 = .ok (.lushr, 1) := by decide +kernel
theorem dJ13_bitCount_95d88_4 : decode cJ13_bitCount_95d88 4 = .ok (.ldc2_w 314, 3) := by decide +kernel
theorem dJ13_bitCount_95d88_7 : decode cJ13_bitCount_95d88 7 = .ok (.land, 1) := by decide +kernel
theorem dJ13_bitCount_95d88_8 : decode cJ13_bitCount_95d88 8 = .ok (.lsub, 1) := by decide +kernel
theorem dJ13_bitCount_95d88_9 : decode cJ13_bitCount_95d88 9 = .ok (.lstore_n 0, 1) := by decide +kernel
theorem dJ13_bitCount_95d88_10 : decode cJ13_bitCount_95d88 10 = .ok (.lload_n 0, 1) := by decide +kernel
theorem dJ13_bitCount_95d88_11 : decode cJ13_bitCount_95d88 11 = .ok (.ldc2_w 316, 3) := by decide +kernel
theorem dJ13_bitCount_95d88_14 : decode cJ13_bitCount_95d88 14 = .ok (.land, 1) := by decide +kernel
theorem dJ13_bitCount_95d88_15 : decode cJ13_bitCount_95d88 15 = .ok (.lload_n 0, 1) := by decide +kernel
theorem dJ13_bitCount_95d88_16 : decode cJ13_bitCount_95d88 16 = .ok (.iconst 2, 1) := by decide +kernel
theorem dJ13_bitCount_95d88_17 : decode cJ13_bitCount_95d88 17 = .ok (.lushr, 1) := by decide +kernel
theorem dJ13_bitCount_95d88_18 : decode cJ13_bitCount_95d88 18 = .ok (.ldc2_w 316, 3) := by decide +kernel
theorem dJ13_bitCount_95d88_21 : decode cJ13_bitCount_95d88 21 = .ok (.land, 1) := by decide +kernel
theorem dJ13_bitCount_95d88_22 : decode cJ13_bitCount_95d88 22 = .ok (.ladd, 1) := by decide +kernel
theorem dJ13_bitCount_95d88_23 : decode cJ13_bitCount_95d88 23 = .ok (.lstore_n 0, 1) := by decide +kernel
theorem dJ13_bitCount_95d88_24 : decode cJ13_bitCount_95d88 24 = .ok (.lload_n 0, 1) := by decide +kernel
theorem dJ13_bitCount_95d88_25 : decode cJ13_bitCount_95d88 25 = .ok (.lload_n 0, 1) := by decide +kernel
theorem dJ13_bitCount_95d88_26 : decode cJ13_bitCount_95d88 26 = .ok (.iconst 4, 1) := by decide +kernel
theorem dJ13_bitCount_95d88_27 : decode cJ13_bitCount_95d88 27 = .ok (.lushr, 1) := by decide +kernel
theorem dJ13_bitCount_95d88_28 : decode cJ13_bitCount_95d88 28 = .ok (.ladd, 1) := by decide +kernel
theorem dJ13_bitCount_95d88_29 : decode cJ13_bitCount_95d88 29 = .ok (.ldc2_w 318, 3) := by decide +kernel
theorem dJ13_bitCount_95d88_32 : decode cJ13_bitCount_95d88 32 = .ok (.land, 1) := by decide +kernel
theorem dJ13_bitCount_95d88_33 : decode cJ13_bitCount_95d88 33 = .ok (.lstore_n 0, 1) := by decide +kernel
theorem dJ13_bitCount_95d88_34 : decode cJ13_bitCount_95d88 34 = .ok (.lload_n 0, 1) := by decide +kernel
theorem dJ13_bitCount_95d88_35 : decode cJ13_bitCount_95d88 35 = .ok (.lload_n 0, 1) := by decide +kernel
theorem dJ13_bitCount_95d88_36 : decode cJ13_bitCount_95d88 36 = .ok (.bipush 8, 2) := by decide +kernel
theorem dJ13_bitCount_95d88_38 : decode cJ13_bitCount_95d88 38 = .ok (.lushr, 1) := by decide +kernel
theorem dJ13_bitCount_95d88_39 : decode cJ13_bitCount_95d88 39 = .ok (.ladd, 1) := by decide +kernel
theorem dJ13_bitCount_95d88_40 : decode cJ13_bitCount_95d88 40 = .ok (.lstore_n 0, 1) := by decide +kernel
theorem dJ13_bitCount_95d88_41 : decode cJ13_bitCount_95d88 41 = .ok (.lload_n 0, 1) := by decide +kernel
theorem dJ13_bitCount_95d88_42 : decode cJ13_bitCount_95d88 42 = .ok (.lload_n 0, 1) := by decide +kernel
theorem dJ13_bitCount_95d88_43 : decode cJ13_bitCount_95d88 43 = .ok (.bipush 16, 2) := by decide +kernel
theorem dJ13_bitCount_95d88_45 : decode cJ13_bitCount_95d88 45 = .ok (.lushr, 1) := by decide +kernel
theorem dJ13_bitCount_95d88_46 : decode cJ13_bitCount_95d88 46 = .ok (.ladd, 1) := by decide +kernel
theorem dJ13_bitCount_95d88_47 : decode cJ13_bitCount_95d88 47 = .ok (.lstore_n 0, 1) := by decide +kernel
theorem dJ13_bitCount_95d88_48 : decode cJ13_bitCount_95d88 48 = .ok (.lload_n 0, 1) := by decide +kernel
theorem dJ13_bitCount_95d88_49 : decode cJ13_bitCount_95d88 49 = .ok (.lload_n 0, 1) := by decide +kernel
theorem dJ13_bitCount_95d88_50 : decode cJ13_bitCount_95d88 50 = .ok (.bipush 32, 2) := by decide +kernel
theorem dJ13_bitCount_95d88_52 : decode cJ13_bitCount_95d88 52 = .ok (.lushr, 1) := by decide +kernel
theorem dJ13_bitCount_95d88_53 : decode cJ13_bitCount_95d88 53 = .ok (.ladd, 1) := by decide +kernel
theorem dJ13_bitCount_95d88_54 : decode cJ13_bitCount_95d88 54 = .ok (.lstore_n 0, 1) := by decide +kernel
theorem dJ13_bitCount_95d88_55 : decode cJ13_bitCount_95d88 55 = .ok (.lload_n 0, 1) := by decide +kernel
theorem dJ13_bitCount_95d88_56 : decode cJ13_bitCount_95d88 56 = .ok (.l2i, 1) := by decide +kernel
theorem dJ13_bitCount_95d88_57 : decode cJ13_bitCount_95d88 57 = .ok (.bipush 127, 2) := by decide +kernel
theorem dJ13_bitCount_95d88_59 : decode cJ13_bitCount_95d88 59 = .ok (.iand, 1) := by decide +kernel
theorem dJ13_bitCount_95d88_60 : decode cJ13_bitCount_95d88 60 = .ok (.ireturn, 1) := by decide +kernel
theorem dL_law_0 : decode cL_law 0 = .ok (.new 7, 3) := by decide +kernel
theorem dL_law_3 : decode cL_law 3 = .ok (.dup, 1) := by decide +kernel
theorem dL_law_4 : decode cL_law 4 = .ok (.invokespecial 9, 3) := by decide +kernel
theorem dL_law_7 : decode cL_law 7 = .ok (.astore_n 1, 1) := by decide +kernel
theorem dL_law_8 : decode cL_law 8 = .ok (.new 10, 3) := by decide +kernel
theorem dL_law_11 : decode cL_law 11 = .ok (.dup, 1) := by decide +kernel
theorem dL_law_12 : decode cL_law 12 = .ok (.invokespecial 12, 3) := by decide +kernel
theorem dL_law_15 : decode cL_law 15 = .ok (.astore_n 2, 1) := by decide +kernel
theorem dL_law_16 : decode cL_law 16 = .ok (.iconst 0, 1) := by decide +kernel
theorem dL_law_17 : decode cL_law 17 = .ok (.istore_n 3, 1) := by decide +kernel
theorem dL_law_18 : decode cL_law 18 = .ok (.iload_n 3, 1) := by decide +kernel
theorem dL_law_19 : decode cL_law 19 = .ok (.aload_n 0, 1) := by decide +kernel
theorem dL_law_20 : decode cL_law 20 = .ok (.arraylength, 1) := by decide +kernel
theorem dL_law_21 : decode cL_law 21 = .ok (.bipush 6, 2) := by decide +kernel
theorem dL_law_23 : decode cL_law 23 = .ok (.isub, 1) := by decide +kernel
theorem dL_law_24 : decode cL_law 24 = .ok (.if_icmp .gt 825, 3) := by decide +kernel
theorem dL_law_27 : decode cL_law 27 = .ok (.aload_n 0, 1) := by decide +kernel
theorem dL_law_28 : decode cL_law 28 = .ok (.iload_n 3, 1) := by decide +kernel
theorem dL_law_29 : decode cL_law 29 = .ok (.iaload, 1) := by decide +kernel
theorem dL_law_30 : decode cL_law 30 = .ok (.bipush 31, 2) := by decide +kernel
theorem dL_law_32 : decode cL_law 32 = .ok (.iand, 1) := by decide +kernel
theorem dL_law_33 : decode cL_law 33 = .ok (.tableswitch 810 0 24 #[115, 178, 201, 214, 227, 250, 273, 296, 329, 352, 375, 408, 441, 484, 507, 540, 583, 616, 639, 682, 705, 728, 751, 774, 797], 115) := by decide +kernel
theorem dL_law_148 : decode cL_law 148 = .ok (.aload_n 1, 1) := by decide +kernel
theorem dL_law_149 : decode cL_law 149 = .ok (.aload_n 0, 1) := by decide +kernel
theorem dL_law_150 : decode cL_law 150 = .ok (.iload_n 3, 1) := by decide +kernel
theorem dL_law_151 : decode cL_law 151 = .ok (.iconst 1, 1) := by decide +kernel
theorem dL_law_152 : decode cL_law 152 = .ok (.iadd, 1) := by decide +kernel
theorem dL_law_153 : decode cL_law 153 = .ok (.iaload, 1) := by decide +kernel
theorem dL_law_154 : decode cL_law 154 = .ok (.aload_n 0, 1) := by decide +kernel
theorem dL_law_155 : decode cL_law 155 = .ok (.iload_n 3, 1) := by decide +kernel
theorem dL_law_156 : decode cL_law 156 = .ok (.iconst 2, 1) := by decide +kernel
theorem dL_law_157 : decode cL_law 157 = .ok (.iadd, 1) := by decide +kernel
theorem dL_law_158 : decode cL_law 158 = .ok (.iaload, 1) := by decide +kernel
theorem dL_law_159 : decode cL_law 159 = .ok (.aload_n 0, 1) := by decide +kernel
theorem dL_law_160 : decode cL_law 160 = .ok (.iload_n 3, 1) := by decide +kernel
theorem dL_law_161 : decode cL_law 161 = .ok (.iconst 3, 1) := by decide +kernel
theorem dL_law_162 : decode cL_law 162 = .ok (.iadd, 1) := by decide +kernel
theorem dL_law_163 : decode cL_law 163 = .ok (.iaload, 1) := by decide +kernel
theorem dL_law_164 : decode cL_law 164 = .ok (.aload_n 0, 1) := by decide +kernel
theorem dL_law_165 : decode cL_law 165 = .ok (.iload_n 3, 1) := by decide +kernel
theorem dL_law_166 : decode cL_law 166 = .ok (.iconst 4, 1) := by decide +kernel
theorem dL_law_167 : decode cL_law 167 = .ok (.iadd, 1) := by decide +kernel
theorem dL_law_168 : decode cL_law 168 = .ok (.iaload, 1) := by decide +kernel
theorem dL_law_169 : decode cL_law 169 = .ok (.aload_n 0, 1) := by decide +kernel
theorem dL_law_170 : decode cL_law 170 = .ok (.iload_n 3, 1) := by decide +kernel
theorem dL_law_171 : decode cL_law 171 = .ok (.iconst 5, 1) := by decide +kernel
theorem dL_law_172 : decode cL_law 172 = .ok (.iadd, 1) := by decide +kernel
theorem dL_law_173 : decode cL_law 173 = .ok (.iaload, 1) := by decide +kernel
theorem dL_law_174 : decode cL_law 174 = .ok (.invokevirtual 13, 3) := by decide +kernel
theorem dL_law_177 : decode cL_law 177 = .ok (.pop, 1) := by decide +kernel
theorem dL_law_178 : decode cL_law 178 = .ok (.aload_n 2, 1) := by decide +kernel
theorem dL_law_179 : decode cL_law 179 = .ok (.aload_n 0, 1) := by decide +kernel
theorem dL_law_180 : decode cL_law 180 = .ok (.iload_n 3, 1) := by decide +kernel
theorem dL_law_181 : decode cL_law 181 = .ok (.iconst 1, 1) := by decide +kernel
theorem dL_law_182 : decode cL_law 182 = .ok (.iadd, 1) := by decide +kernel
theorem dL_law_183 : decode cL_law 183 = .ok (.iaload, 1) := by decide +kernel
theorem dL_law_184 : decode cL_law 184 = .ok (.aload_n 0, 1) := by decide +kernel
theorem dL_law_185 : decode cL_law 185 = .ok (.iload_n 3, 1) := by decide +kernel
theorem dL_law_186 : decode cL_law 186 = .ok (.iconst 2, 1) := by decide +kernel
theorem dL_law_187 : decode cL_law 187 = .ok (.iadd, 1) := by decide +kernel
theorem dL_law_188 : decode cL_law 188 = .ok (.iaload, 1) := by decide +kernel
theorem dL_law_189 : decode cL_law 189 = .ok (.aload_n 0, 1) := by decide +kernel
theorem dL_law_190 : decode cL_law 190 = .ok (.iload_n 3, 1) := by decide +kernel
theorem dL_law_191 : decode cL_law 191 = .ok (.iconst 3, 1) := by decide +kernel
theorem dL_law_192 : decode cL_law 192 = .ok (.iadd, 1) := by decide +kernel
theorem dL_law_193 : decode cL_law 193 = .ok (.iaload, 1) := by decide +kernel
theorem dL_law_194 : decode cL_law 194 = .ok (.aload_n 0, 1) := by decide +kernel
theorem dL_law_195 : decode cL_law 195 = .ok (.iload_n 3, 1) := by decide +kernel
theorem dL_law_196 : decode cL_law 196 = .ok (.iconst 4, 1) := by decide +kernel
theorem dL_law_197 : decode cL_law 197 = .ok (.iadd, 1) := by decide +kernel
theorem dL_law_198 : decode cL_law 198 = .ok (.iaload, 1) := by decide +kernel
theorem dL_law_199 : decode cL_law 199 = .ok (.aload_n 0, 1) := by decide +kernel
theorem dL_law_200 : decode cL_law 200 = .ok (.iload_n 3, 1) := by decide +kernel
theorem dL_law_201 : decode cL_law 201 = .ok (.iconst 5, 1) := by decide +kernel
theorem dL_law_202 : decode cL_law 202 = .ok (.iadd, 1) := by decide +kernel
theorem dL_law_203 : decode cL_law 203 = .ok (.iaload, 1) := by decide +kernel
theorem dL_law_211 : decode cL_law 211 = .ok (.aload_n 1, 1) := by decide +kernel
theorem dL_law_212 : decode cL_law 212 = .ok (.aload_n 0, 1) := by decide +kernel
theorem dL_law_213 : decode cL_law 213 = .ok (.iload_n 3, 1) := by decide +kernel
theorem dL_law_214 : decode cL_law 214 = .ok (.iconst 1, 1) := by decide +kernel
theorem dL_law_215 : decode cL_law 215 = .ok (.iadd, 1) := by decide +kernel
theorem dL_law_216 : decode cL_law 216 = .ok (.iaload, 1) := by decide +kernel
theorem dL_law_217 : decode cL_law 217 = .ok (.invokevirtual 18, 3) := by decide +kernel
theorem dL_law_220 : decode cL_law 220 = .ok (.aload_n 2, 1) := by decide +kernel
theorem dL_law_221 : decode cL_law 221 = .ok (.aload_n 0, 1) := by decide +kernel
theorem dL_law_222 : decode cL_law 222 = .ok (.iload_n 3, 1) := by decide +kernel
theorem dL_law_223 : decode cL_law 223 = .ok (.iconst 1, 1) := by decide +kernel
theorem dL_law_224 : decode cL_law 224 = .ok (.iadd, 1) := by decide +kernel
theorem dL_law_225 : decode cL_law 225 = .ok (.iaload, 1) := by decide +kernel
theorem dL_law_226 : decode cL_law 226 = .ok (.invokevirtual 22, 3) := by decide +kernel
theorem dL_law_234 : decode cL_law 234 = .ok (.aload_n 1, 1) := by decide +kernel
theorem dL_law_235 : decode cL_law 235 = .ok (.invokevirtual 23, 3) := by decide +kernel
theorem dL_law_238 : decode cL_law 238 = .ok (.pop, 1) := by decide +kernel
theorem dL_law_239 : decode cL_law 239 = .ok (.aload_n 2, 1) := by decide +kernel
theorem dL_law_240 : decode cL_law 240 = .ok (.invokevirtual 27, 3) := by decide +kernel
theorem dL_law_243 : decode cL_law 243 = .ok (.pop, 1) := by decide +kernel
theorem dL_law_244 : decode cL_law 244 = .ok (.goto 599, 3) := by decide +kernel
theorem dL_law_247 : decode cL_law 247 = .ok (.aload_n 1, 1) := by decide +kernel
theorem dL_law_248 : decode cL_law 248 = .ok (.invokevirtual 28, 3) := by decide +kernel
theorem dL_law_251 : decode cL_law 251 = .ok (.pop, 1) := by decide +kernel
theorem dL_law_252 : decode cL_law 252 = .ok (.aload_n 2, 1) := by decide +kernel
theorem dL_law_253 : decode cL_law 253 = .ok (.invokevirtual 31, 3) := by decide +kernel
theorem dL_law_256 : decode cL_law 256 = .ok (.pop, 1) := by decide +kernel
theorem dL_law_257 : decode cL_law 257 = .ok (.goto 586, 3) := by decide +kernel
theorem dL_law_260 : decode cL_law 260 = .ok (.aload_n 1, 1) := by decide +kernel
theorem dL_law_261 : decode cL_law 261 = .ok (.aload_n 0, 1) := by decide +kernel
theorem dL_law_262 : decode cL_law 262 = .ok (.iload_n 3, 1) := by decide +kernel
theorem dL_law_263 : decode cL_law 263 = .ok (.iconst 1, 1) := by decide +kernel
theorem dL_law_264 : decode cL_law 264 = .ok (.iadd, 1) := by decide +kernel
theorem dL_law_265 : decode cL_law 265 = .ok (.iaload, 1) := by decide +kernel
theorem dL_law_266 : decode cL_law 266 = .ok (.invokevirtual 32, 3) := by decide +kernel
theorem dL_law_269 : decode cL_law 269 = .ok (.pop, 1) := by decide +kernel
theorem dL_law_270 : decode cL_law 270 = .ok (.aload_n 2, 1) := by decide +kernel
theorem dL_law_271 : decode cL_law 271 = .ok (.aload_n 0, 1) := by decide +kernel
theorem dL_law_272 : decode cL_law 272 = .ok (.iload_n 3, 1) := by decide +kernel
theorem dL_law_273 : decode cL_law 273 = .ok (.iconst 1, 1) := by decide +kernel
theorem dL_law_274 : decode cL_law 274 = .ok (.iadd, 1) := by decide +kernel
theorem dL_law_275 : decode cL_law 275 = .ok (.iaload, 1) := by decide +kernel
theorem dL_law_276 : decode cL_law 276 = .ok (.invokevirtual 35, 3) := by decide +kernel
theorem dL_law_279 : decode cL_law 279 = .ok (.pop, 1) := by decide +kernel
theorem dL_law_280 : decode cL_law 280 = .ok (.goto 563, 3) := by decide +kernel
theorem dL_law_283 : decode cL_law 283 = .ok (.aload_n 1, 1) := by decide +kernel
theorem dL_law_284 : decode cL_law 284 = .ok (.aload_n 0, 1) := by decide +kernel
theorem dL_law_285 : decode cL_law 285 = .ok (.iload_n 3, 1) := by decide +kernel
theorem dL_law_286 : decode cL_law 286 = .ok (.iconst 1, 1) := by decide +kernel
theorem dL_law_287 : decode cL_law 287 = .ok (.iadd, 1) := by decide +kernel
theorem dL_law_288 : decode cL_law 288 = .ok (.iaload, 1) := by decide +kernel
theorem dL_law_289 : decode cL_law 289 = .ok (.invokevirtual 36, 3) := by decide +kernel
theorem dL_law_292 : decode cL_law 292 = .ok (.pop, 1) := by decide +kernel
theorem dL_law_293 : decode cL_law 293 = .ok (.aload_n 2, 1) := by decide +kernel
theorem dL_law_294 : decode cL_law 294 = .ok (.aload_n 0, 1) := by decide +kernel
theorem dL_law_295 : decode cL_law 295 = .ok (.iload_n 3, 1) := by decide +kernel
theorem dL_law_296 : decode cL_law 296 = .ok (.iconst 1, 1) := by decide +kernel
theorem dL_law_297 : decode cL_law 297 = .ok (.iadd, 1) := by decide +kernel
theorem dL_law_298 : decode cL_law 298 = .ok (.iaload, 1) := by decide +kernel
theorem dL_law_299 : decode cL_law 299 = .ok (.invokevirtual 39, 3) := by decide +kernel
theorem dL_law_302 : decode cL_law 302 = .ok (.pop, 1) := by decide +kernel
theorem dL_law_303 : decode cL_law 303 = .ok (.goto 540, 3) := by decide +kernel
theorem dL_law_306 : decode cL_law 306 = .ok (.aload_n 1, 1) := by decide +kernel
theorem dL_law_307 : decode cL_law 307 = .ok (.aload_n 0, 1) := by decide +kernel
theorem dL_law_308 : decode cL_law 308 = .ok (.iload_n 3, 1) := by decide +kernel
theorem dL_law_309 : decode cL_law 309 = .ok (.iconst 1, 1) := by decide +kernel
theorem dL_law_310 : decode cL_law 310 = .ok (.iadd, 1) := by decide +kernel
theorem dL_law_311 : decode cL_law 311 = .ok (.iaload, 1) := by decide +kernel
theorem dL_law_312 : decode cL_law 312 = .ok (.invokevirtual 40, 3) := by decide +kernel
theorem dL_law_315 : decode cL_law 315 = .ok (.pop, 1) := by decide +kernel
theorem dL_law_316 : decode cL_law 316 = .ok (.aload_n 2, 1) := by decide +kernel
theorem dL_law_317 : decode cL_law 317 = .ok (.aload_n 0, 1) := by decide +kernel
theorem dL_law_318 : decode cL_law 318 = .ok (.iload_n 3, 1) := by decide +kernel
theorem dL_law_319 : decode cL_law 319 = .ok (.iconst 1, 1) := by decide +kernel
theorem dL_law_320 : decode cL_law 320 = .ok (.iadd, 1) := by decide +kernel
theorem dL_law_321 : decode cL_law 321 = .ok (.iaload, 1) := by decide +kernel
theorem dL_law_322 : decode cL_law 322 = .ok (.invokevirtual 43, 3) := by decide +kernel
theorem dL_law_325 : decode cL_law 325 = .ok (.pop, 1) := by decide +kernel
theorem dL_law_326 : decode cL_law 326 = .ok (.goto 517, 3) := by decide +kernel
theorem dL_law_329 : decode cL_law 329 = .ok (.aload_n 1, 1) := by decide +kernel
theorem dL_law_330 : decode cL_law 330 = .ok (.aload_n 0, 1) := by decide +kernel
theorem dL_law_331 : decode cL_law 331 = .ok (.iload_n 3, 1) := by decide +kernel
theorem dL_law_332 : decode cL_law 332 = .ok (.iconst 1, 1) := by decide +kernel
theorem dL_law_333 : decode cL_law 333 = .ok (.iadd, 1) := by decide +kernel
theorem dL_law_334 : decode cL_law 334 = .ok (.iaload, 1) := by decide +kernel
theorem dL_law_335 : decode cL_law 335 = .ok (.aload_n 0, 1) := by decide +kernel
theorem dL_law_336 : decode cL_law 336 = .ok (.iload_n 3, 1) := by decide +kernel
theorem dL_law_337 : decode cL_law 337 = .ok (.iconst 2, 1) := by decide +kernel
theorem dL_law_338 : decode cL_law 338 = .ok (.iadd, 1) := by decide +kernel
theorem dL_law_339 : decode cL_law 339 = .ok (.iaload, 1) := by decide +kernel
theorem dL_law_340 : decode cL_law 340 = .ok (.invokevirtual 44, 3) := by decide +kernel
theorem dL_law_343 : decode cL_law 343 = .ok (.pop, 1) := by decide +kernel
theorem dL_law_344 : decode cL_law 344 = .ok (.aload_n 2, 1) := by decide +kernel
theorem dL_law_345 : decode cL_law 345 = .ok (.aload_n 0, 1) := by decide +kernel
theorem dL_law_346 : decode cL_law 346 = .ok (.iload_n 3, 1) := by decide +kernel
theorem dL_law_347 : decode cL_law 347 = .ok (.iconst 1, 1) := by decide +kernel
theorem dL_law_348 : decode cL_law 348 = .ok (.iadd, 1) := by decide +kernel
theorem dL_law_349 : decode cL_law 349 = .ok (.iaload, 1) := by decide +kernel
theorem dL_law_350 : decode cL_law 350 = .ok (.aload_n 0, 1) := by decide +kernel
theorem dL_law_351 : decode cL_law 351 = .ok (.iload_n 3, 1) := by decide +kernel
theorem dL_law_352 : decode cL_law 352 = .ok (.iconst 2, 1) := by decide +kernel
theorem dL_law_353 : decode cL_law 353 = .ok (.iadd, 1) := by decide +kernel
theorem dL_law_354 : decode cL_law 354 = .ok (.iaload, 1) := by decide +kernel
theorem dL_law_355 : decode cL_law 355 = .ok (.invokevirtual 48, 3) := by decide +kernel
theorem dL_law_358 : decode cL_law 358 = .ok (.pop, 1) := by decide +kernel
theorem dL_law_359 : decode cL_law 359 = .ok (.goto 484, 3) := by decide +kernel
theorem dL_law_362 : decode cL_law 362 = .ok (.aload_n 1, 1) := by decide +kernel
theorem dL_law_363 : decode cL_law 363 = .ok (.aload_n 0, 1) := by decide +kernel
theorem dL_law_364 : decode cL_law 364 = .ok (.iload_n 3, 1) := by decide +kernel
theorem dL_law_365 : decode cL_law 365 = .ok (.iconst 1, 1) := by decide +kernel
theorem dL_law_366 : decode cL_law 366 = .ok (.iadd, 1) := by decide +kernel
theorem dL_law_367 : decode cL_law 367 = .ok (.iaload, 1) := by decide +kernel
theorem dL_law_368 : decode cL_law 368 = .ok (.invokevirtual 49, 3) := by decide +kernel
theorem dL_law_371 : decode cL_law 371 = .ok (.pop, 1) := by decide +kernel
theorem dL_law_372 : decode cL_law 372 = .ok (.aload_n 2, 1) := by decide +kernel
theorem dL_law_373 : decode cL_law 373 = .ok (.aload_n 0, 1) := by decide +kernel
theorem dL_law_374 : decode cL_law 374 = .ok (.iload_n 3, 1) := by decide +kernel
theorem dL_law_375 : decode cL_law 375 = .ok (.iconst 1, 1) := by decide +kernel
theorem dL_law_376 : decode cL_law 376 = .ok (.iadd, 1) := by decide +kernel
theorem dL_law_377 : decode cL_law 377 = .ok (.iaload, 1) := by decide +kernel
theorem dL_law_378 : decode cL_law 378 = .ok (.invokevirtual 52, 3) := by decide +kernel
theorem dL_law_381 : decode cL_law 381 = .ok (.pop, 1) := by decide +kernel
theorem dL_law_382 : decode cL_law 382 = .ok (.goto 461, 3) := by decide +kernel
theorem dL_law_385 : decode cL_law 385 = .ok (.aload_n 1, 1) := by decide +kernel
theorem dL_law_386 : decode cL_law 386 = .ok (.aload_n 0, 1) := by decide +kernel
theorem dL_law_387 : decode cL_law 387 = .ok (.iload_n 3, 1) := by decide +kernel
theorem dL_law_388 : decode cL_law 388 = .ok (.iconst 1, 1) := by decide +kernel
theorem dL_law_389 : decode cL_law 389 = .ok (.iadd, 1) := by decide +kernel
theorem dL_law_390 : decode cL_law 390 = .ok (.iaload, 1) := by decide +kernel
theorem dL_law_391 : decode cL_law 391 = .ok (.invokevirtual 53, 3) := by decide +kernel
theorem dL_law_394 : decode cL_law 394 = .ok (.pop, 1) := by decide +kernel
theorem dL_law_395 : decode cL_law 395 = .ok (.aload_n 2, 1) := by decide +kernel
theorem dL_law_396 : decode cL_law 396 = .ok (.aload_n 0, 1) := by decide +kernel
theorem dL_law_397 : decode cL_law 397 = .ok (.iload_n 3, 1) := by decide +kernel
theorem dL_law_398 : decode cL_law 398 = .ok (.iconst 1, 1) := by decide +kernel
theorem dL_law_399 : decode cL_law 399 = .ok (.iadd, 1) := by decide +kernel
theorem dL_law_400 : decode cL_law 400 = .ok (.iaload, 1) := by decide +kernel
theorem dL_law_401 : decode cL_law 401 = .ok (.invokevirtual 56, 3) := by decide +kernel
theorem dL_law_404 : decode cL_law 404 = .ok (.pop, 1) := by decide +kernel
theorem dL_law_405 : decode cL_law 405 = .ok (.goto 438, 3) := by decide +kernel
theorem dL_law_408 : decode cL_law 408 = .ok (.aload_n 1, 1) := by decide +kernel
theorem dL_law_409 : decode cL_law 409 = .ok (.aload_n 0, 1) := by decide +kernel
theorem dL_law_410 : decode cL_law 410 = .ok (.iload_n 3, 1) := by decide +kernel
theorem dL_law_411 : decode cL_law 411 = .ok (.iconst 1, 1) := by decide +kernel
theorem dL_law_412 : decode cL_law 412 = .ok (.iadd, 1) := by decide +kernel
theorem dL_law_413 : decode cL_law 413 = .ok (.iaload, 1) := by decide +kernel
theorem dL_law_414 : decode cL_law 414 = .ok (.aload_n 0, 1) := by decide +kernel
theorem dL_law_415 : decode cL_law 415 = .ok (.iload_n 3, 1) := by decide +kernel
theorem dL_law_416 : decode cL_law 416 = .ok (.iconst 2, 1) := by decide +kernel
theorem dL_law_417 : decode cL_law 417 = .ok (.iadd, 1) := by decide +kernel
theorem dL_law_418 : decode cL_law 418 = .ok (.iaload, 1) := by decide +kernel
theorem dL_law_419 : decode cL_law 419 = .ok (.invokevirtual 57, 3) := by decide +kernel
theorem dL_law_422 : decode cL_law 422 = .ok (.pop, 1) := by decide +kernel
theorem dL_law_423 : decode cL_law 423 = .ok (.aload_n 2, 1) := by decide +kernel
theorem dL_law_424 : decode cL_law 424 = .ok (.aload_n 0, 1) := by decide +kernel
theorem dL_law_425 : decode cL_law 425 = .ok (.iload_n 3, 1) := by decide +kernel
theorem dL_law_426 : decode cL_law 426 = .ok (.iconst 1, 1) := by decide +kernel
theorem dL_law_427 : decode cL_law 427 = .ok (.iadd, 1) := by decide +kernel
theorem dL_law_428 : decode cL_law 428 = .ok (.iaload, 1) := by decide +kernel
theorem dL_law_429 : decode cL_law 429 = .ok (.aload_n 0, 1) := by decide +kernel
theorem dL_law_430 : decode cL_law 430 = .ok (.iload_n 3, 1) := by decide +kernel
theorem dL_law_431 : decode cL_law 431 = .ok (.iconst 2, 1) := by decide +kernel
theorem dL_law_432 : decode cL_law 432 = .ok (.iadd, 1) := by decide +kernel
theorem dL_law_433 : decode cL_law 433 = .ok (.iaload, 1) := by decide +kernel
theorem dL_law_434 : decode cL_law 434 = .ok (.invokevirtual 60, 3) := by decide +kernel
theorem dL_law_437 : decode cL_law 437 = .ok (.pop, 1) := by decide +kernel
theorem dL_law_438 : decode cL_law 438 = .ok (.goto 405, 3) := by decide +kernel
theorem dL_law_441 : decode cL_law 441 = .ok (.aload_n 1, 1) := by decide +kernel
theorem dL_law_442 : decode cL_law 442 = .ok (.aload_n 0, 1) := by decide +kernel
theorem dL_law_443 : decode cL_law 443 = .ok (.iload_n 3, 1) := by decide +kernel
theorem dL_law_444 : decode cL_law 444 = .ok (.iconst 1, 1) := by decide +kernel
theorem dL_law_445 : decode cL_law 445 = .ok (.iadd, 1) := by decide +kernel
theorem dL_law_446 : decode cL_law 446 = .ok (.iaload, 1) := by decide +kernel
theorem dL_law_447 : decode cL_law 447 = .ok (.aload_n 0, 1) := by decide +kernel
theorem dL_law_448 : decode cL_law 448 = .ok (.iload_n 3, 1) := by decide +kernel
theorem dL_law_449 : decode cL_law 449 = .ok (.iconst 2, 1) := by decide +kernel
theorem dL_law_450 : decode cL_law 450 = .ok (.iadd, 1) := by decide +kernel
theorem dL_law_451 : decode cL_law 451 = .ok (.iaload, 1) := by decide +kernel
theorem dL_law_452 : decode cL_law 452 = .ok (.invokevirtual 61, 3) := by decide +kernel
theorem dL_law_455 : decode cL_law 455 = .ok (.pop, 1) := by decide +kernel
theorem dL_law_456 : decode cL_law 456 = .ok (.aload_n 2, 1) := by decide +kernel
theorem dL_law_457 : decode cL_law 457 = .ok (.aload_n 0, 1) := by decide +kernel
theorem dL_law_458 : decode cL_law 458 = .ok (.iload_n 3, 1) := by decide +kernel
theorem dL_law_459 : decode cL_law 459 = .ok (.iconst 1, 1) := by decide +kernel
theorem dL_law_460 : decode cL_law 460 = .ok (.iadd, 1) := by decide +kernel
theorem dL_law_461 : decode cL_law 461 = .ok (.iaload, 1) := by decide +kernel
theorem dL_law_462 : decode cL_law 462 = .ok (.aload_n 0, 1) := by decide +kernel
theorem dL_law_463 : decode cL_law 463 = .ok (.iload_n 3, 1) := by decide +kernel
theorem dL_law_464 : decode cL_law 464 = .ok (.iconst 2, 1) := by decide +kernel
theorem dL_law_465 : decode cL_law 465 = .ok (.iadd, 1) := by decide +kernel
theorem dL_law_466 : decode cL_law 466 = .ok (.iaload, 1) := by decide +kernel
theorem dL_law_467 : decode cL_law 467 = .ok (.invokevirtual 64, 3) := by decide +kernel
theorem dL_law_470 : decode cL_law 470 = .ok (.pop, 1) := by decide +kernel
theorem dL_law_471 : decode cL_law 471 = .ok (.goto 372, 3) := by decide +kernel
theorem dL_law_474 : decode cL_law 474 = .ok (.aload_n 1, 1) := by decide +kernel
theorem dL_law_475 : decode cL_law 475 = .ok (.aload_n 0, 1) := by decide +kernel
theorem dL_law_476 : decode cL_law 476 = .ok (.iload_n 3, 1) := by decide +kernel
theorem dL_law_477 : decode cL_law 477 = .ok (.iconst 1, 1) := by decide +kernel
theorem dL_law_478 : decode cL_law 478 = .ok (.iadd, 1) := by decide +kernel
theorem dL_law_479 : decode cL_law 479 = .ok (.iaload, 1) := by decide +kernel
theorem dL_law_480 : decode cL_law 480 = .ok (.aload_n 0, 1) := by decide +kernel
theorem dL_law_481 : decode cL_law 481 = .ok (.iload_n 3, 1) := by decide +kernel
theorem dL_law_482 : decode cL_law 482 = .ok (.iconst 2, 1) := by decide +kernel
theorem dL_law_483 : decode cL_law 483 = .ok (.iadd, 1) := by decide +kernel
theorem dL_law_484 : decode cL_law 484 = .ok (.iaload, 1) := by decide +kernel
theorem dL_law_485 : decode cL_law 485 = .ok (.aload_n 0, 1) := by decide +kernel
theorem dL_law_486 : decode cL_law 486 = .ok (.iload_n 3, 1) := by decide +kernel
theorem dL_law_487 : decode cL_law 487 = .ok (.iconst 3, 1) := by decide +kernel
theorem dL_law_488 : decode cL_law 488 = .ok (.iadd, 1) := by decide +kernel
theorem dL_law_489 : decode cL_law 489 = .ok (.iaload, 1) := by decide +kernel
theorem dL_law_490 : decode cL_law 490 = .ok (.invokevirtual 65, 3) := by decide +kernel
theorem dL_law_493 : decode cL_law 493 = .ok (.pop, 1) := by decide +kernel
theorem dL_law_494 : decode cL_law 494 = .ok (.aload_n 2, 1) := by decide +kernel
theorem dL_law_495 : decode cL_law 495 = .ok (.aload_n 0, 1) := by decide +kernel
theorem dL_law_496 : decode cL_law 496 = .ok (.iload_n 3, 1) := by decide +kernel
theorem dL_law_497 : decode cL_law 497 = .ok (.iconst 1, 1) := by decide +kernel
theorem dL_law_498 : decode cL_law 498 = .ok (.iadd, 1) := by decide +kernel
theorem dL_law_499 : decode cL_law 499 = .ok (.iaload, 1) := by decide +kernel
theorem dL_law_500 : decode cL_law 500 = .ok (.aload_n 0, 1) := by decide +kernel
theorem dL_law_501 : decode cL_law 501 = .ok (.iload_n 3, 1) := by decide +kernel
theorem dL_law_502 : decode cL_law 502 = .ok (.iconst 2, 1) := by decide +kernel
theorem dL_law_503 : decode cL_law 503 = .ok (.iadd, 1) := by decide +kernel
theorem dL_law_504 : decode cL_law 504 = .ok (.iaload, 1) := by decide +kernel
theorem dL_law_505 : decode cL_law 505 = .ok (.aload_n 0, 1) := by decide +kernel
theorem dL_law_506 : decode cL_law 506 = .ok (.iload_n 3, 1) := by decide +kernel
theorem dL_law_507 : decode cL_law 507 = .ok (.iconst 3, 1) := by decide +kernel
theorem dL_law_508 : decode cL_law 508 = .ok (.iadd, 1) := by decide +kernel
theorem dL_law_509 : decode cL_law 509 = .ok (.iaload, 1) := by decide +kernel
theorem dL_law_510 : decode cL_law 510 = .ok (.invokevirtual 69, 3) := by decide +kernel
theorem dL_law_513 : decode cL_law 513 = .ok (.pop, 1) := by decide +kernel
theorem dL_law_514 : decode cL_law 514 = .ok (.goto 329, 3) := by decide +kernel
theorem dL_law_517 : decode cL_law 517 = .ok (.aload_n 1, 1) := by decide +kernel
theorem dL_law_518 : decode cL_law 518 = .ok (.aload_n 0, 1) := by decide +kernel
theorem dL_law_519 : decode cL_law 519 = .ok (.iload_n 3, 1) := by decide +kernel
theorem dL_law_520 : decode cL_law 520 = .ok (.iconst 1, 1) := by decide +kernel
theorem dL_law_521 : decode cL_law 521 = .ok (.iadd, 1) := by decide +kernel
theorem dL_law_522 : decode cL_law 522 = .ok (.iaload, 1) := by decide +kernel
theorem dL_law_523 : decode cL_law 523 = .ok (.invokevirtual 70, 3) := by decide +kernel
theorem dL_law_526 : decode cL_law 526 = .ok (.pop, 1) := by decide +kernel
theorem dL_law_527 : decode cL_law 527 = .ok (.aload_n 2, 1) := by decide +kernel
theorem dL_law_528 : decode cL_law 528 = .ok (.aload_n 0, 1) := by decide +kernel
theorem dL_law_529 : decode cL_law 529 = .ok (.iload_n 3, 1) := by decide +kernel
theorem dL_law_530 : decode cL_law 530 = .ok (.iconst 1, 1) := by decide +kernel
theorem dL_law_531 : decode cL_law 531 = .ok (.iadd, 1) := by decide +kernel
theorem dL_law_532 : decode cL_law 532 = .ok (.iaload, 1) := by decide +kernel
theorem dL_law_533 : decode cL_law 533 = .ok (.invokevirtual 73, 3) := by decide +kernel
theorem dL_law_536 : decode cL_law 536 = .ok (.pop, 1) := by decide +kernel
theorem dL_law_537 : decode cL_law 537 = .ok (.goto 306, 3) := by decide +kernel
theorem dL_law_540 : decode cL_law 540 = .ok (.aload_n 1, 1) := by decide +kernel
theorem dL_law_541 : decode cL_law 541 = .ok (.aload_n 0, 1) := by decide +kernel
theorem dL_law_542 : decode cL_law 542 = .ok (.iload_n 3, 1) := by decide +kernel
theorem dL_law_543 : decode cL_law 543 = .ok (.iconst 1, 1) := by decide +kernel
theorem dL_law_544 : decode cL_law 544 = .ok (.iadd, 1) := by decide +kernel
theorem dL_law_545 : decode cL_law 545 = .ok (.iaload, 1) := by decide +kernel
theorem dL_law_546 : decode cL_law 546 = .ok (.aload_n 0, 1) := by decide +kernel
theorem dL_law_547 : decode cL_law 547 = .ok (.iload_n 3, 1) := by decide +kernel
theorem dL_law_548 : decode cL_law 548 = .ok (.iconst 2, 1) := by decide +kernel
theorem dL_law_549 : decode cL_law 549 = .ok (.iadd, 1) := by decide +kernel
theorem dL_law_550 : decode cL_law 550 = .ok (.iaload, 1) := by decide +kernel
theorem dL_law_551 : decode cL_law 551 = .ok (.invokevirtual 74, 3) := by decide +kernel
theorem dL_law_554 : decode cL_law 554 = .ok (.pop, 1) := by decide +kernel
theorem dL_law_555 : decode cL_law 555 = .ok (.aload_n 2, 1) := by decide +kernel
theorem dL_law_556 : decode cL_law 556 = .ok (.aload_n 0, 1) := by decide +kernel
theorem dL_law_557 : decode cL_law 557 = .ok (.iload_n 3, 1) := by decide +kernel
theorem dL_law_558 : decode cL_law 558 = .ok (.iconst 1, 1) := by decide +kernel
theorem dL_law_559 : decode cL_law 559 = .ok (.iadd, 1) := by decide +kernel
theorem dL_law_560 : decode cL_law 560 = .ok (.iaload, 1) := by decide +kernel
theorem dL_law_561 : decode cL_law 561 = .ok (.aload_n 0, 1) := by decide +kernel
theorem dL_law_562 : decode cL_law 562 = .ok (.iload_n 3, 1) := by decide +kernel
theorem dL_law_563 : decode cL_law 563 = .ok (.iconst 2, 1) := by decide +kernel
theorem dL_law_564 : decode cL_law 564 = .ok (.iadd, 1) := by decide +kernel
theorem dL_law_565 : decode cL_law 565 = .ok (.iaload, 1) := by decide +kernel
theorem dL_law_566 : decode cL_law 566 = .ok (.invokevirtual 77, 3) := by decide +kernel
theorem dL_law_569 : decode cL_law 569 = .ok (.pop, 1) := by decide +kernel
theorem dL_law_570 : decode cL_law 570 = .ok (.goto 273, 3) := by decide +kernel
theorem dL_law_573 : decode cL_law 573 = .ok (.aload_n 1, 1) := by decide +kernel
theorem dL_law_574 : decode cL_law 574 = .ok (.aload_n 0, 1) := by decide +kernel
theorem dL_law_575 : decode cL_law 575 = .ok (.iload_n 3, 1) := by decide +kernel
theorem dL_law_576 : decode cL_law 576 = .ok (.iconst 1, 1) := by decide +kernel
theorem dL_law_577 : decode cL_law 577 = .ok (.iadd, 1) := by decide +kernel
theorem dL_law_578 : decode cL_law 578 = .ok (.iaload, 1) := by decide +kernel
theorem dL_law_579 : decode cL_law 579 = .ok (.aload_n 0, 1) := by decide +kernel
theorem dL_law_580 : decode cL_law 580 = .ok (.iload_n 3, 1) := by decide +kernel
theorem dL_law_581 : decode cL_law 581 = .ok (.iconst 2, 1) := by decide +kernel
theorem dL_law_582 : decode cL_law 582 = .ok (.iadd, 1) := by decide +kernel
theorem dL_law_583 : decode cL_law 583 = .ok (.iaload, 1) := by decide +kernel
theorem dL_law_584 : decode cL_law 584 = .ok (.aload_n 0, 1) := by decide +kernel
theorem dL_law_585 : decode cL_law 585 = .ok (.iload_n 3, 1) := by decide +kernel
theorem dL_law_586 : decode cL_law 586 = .ok (.iconst 3, 1) := by decide +kernel
theorem dL_law_587 : decode cL_law 587 = .ok (.iadd, 1) := by decide +kernel
theorem dL_law_588 : decode cL_law 588 = .ok (.iaload, 1) := by decide +kernel
theorem dL_law_589 : decode cL_law 589 = .ok (.invokevirtual 78, 3) := by decide +kernel
theorem dL_law_592 : decode cL_law 592 = .ok (.pop, 1) := by decide +kernel
theorem dL_law_593 : decode cL_law 593 = .ok (.aload_n 2, 1) := by decide +kernel
theorem dL_law_594 : decode cL_law 594 = .ok (.aload_n 0, 1) := by decide +kernel
theorem dL_law_595 : decode cL_law 595 = .ok (.iload_n 3, 1) := by decide +kernel
theorem dL_law_596 : decode cL_law 596 = .ok (.iconst 1, 1) := by decide +kernel
theorem dL_law_597 : decode cL_law 597 = .ok (.iadd, 1) := by decide +kernel
theorem dL_law_598 : decode cL_law 598 = .ok (.iaload, 1) := by decide +kernel
theorem dL_law_599 : decode cL_law 599 = .ok (.aload_n 0, 1) := by decide +kernel
theorem dL_law_600 : decode cL_law 600 = .ok (.iload_n 3, 1) := by decide +kernel
theorem dL_law_601 : decode cL_law 601 = .ok (.iconst 2, 1) := by decide +kernel
theorem dL_law_602 : decode cL_law 602 = .ok (.iadd, 1) := by decide +kernel
theorem dL_law_603 : decode cL_law 603 = .ok (.iaload, 1) := by decide +kernel
theorem dL_law_604 : decode cL_law 604 = .ok (.aload_n 0, 1) := by decide +kernel
theorem dL_law_605 : decode cL_law 605 = .ok (.iload_n 3, 1) := by decide +kernel
theorem dL_law_606 : decode cL_law 606 = .ok (.iconst 3, 1) := by decide +kernel
theorem dL_law_607 : decode cL_law 607 = .ok (.iadd, 1) := by decide +kernel
theorem dL_law_608 : decode cL_law 608 = .ok (.iaload, 1) := by decide +kernel
theorem dL_law_609 : decode cL_law 609 = .ok (.invokevirtual 81, 3) := by decide +kernel
theorem dL_law_612 : decode cL_law 612 = .ok (.pop, 1) := by decide +kernel
theorem dL_law_613 : decode cL_law 613 = .ok (.goto 230, 3) := by decide +kernel
theorem dL_law_616 : decode cL_law 616 = .ok (.aload_n 1, 1) := by decide +kernel
theorem dL_law_617 : decode cL_law 617 = .ok (.aload_n 0, 1) := by decide +kernel
theorem dL_law_618 : decode cL_law 618 = .ok (.iload_n 3, 1) := by decide +kernel
theorem dL_law_619 : decode cL_law 619 = .ok (.iconst 1, 1) := by decide +kernel
theorem dL_law_620 : decode cL_law 620 = .ok (.iadd, 1) := by decide +kernel
theorem dL_law_621 : decode cL_law 621 = .ok (.iaload, 1) := by decide +kernel
theorem dL_law_622 : decode cL_law 622 = .ok (.aload_n 0, 1) := by decide +kernel
theorem dL_law_623 : decode cL_law 623 = .ok (.iload_n 3, 1) := by decide +kernel
theorem dL_law_624 : decode cL_law 624 = .ok (.iconst 2, 1) := by decide +kernel
theorem dL_law_625 : decode cL_law 625 = .ok (.iadd, 1) := by decide +kernel
theorem dL_law_626 : decode cL_law 626 = .ok (.iaload, 1) := by decide +kernel
theorem dL_law_627 : decode cL_law 627 = .ok (.invokevirtual 82, 3) := by decide +kernel
theorem dL_law_630 : decode cL_law 630 = .ok (.pop, 1) := by decide +kernel
theorem dL_law_631 : decode cL_law 631 = .ok (.aload_n 2, 1) := by decide +kernel
theorem dL_law_632 : decode cL_law 632 = .ok (.aload_n 0, 1) := by decide +kernel
theorem dL_law_633 : decode cL_law 633 = .ok (.iload_n 3, 1) := by decide +kernel
theorem dL_law_634 : decode cL_law 634 = .ok (.iconst 1, 1) := by decide +kernel
theorem dL_law_635 : decode cL_law 635 = .ok (.iadd, 1) := by decide +kernel
theorem dL_law_636 : decode cL_law 636 = .ok (.iaload, 1) := by decide +kernel
theorem dL_law_637 : decode cL_law 637 = .ok (.aload_n 0, 1) := by decide +kernel
theorem dL_law_638 : decode cL_law 638 = .ok (.iload_n 3, 1) := by decide +kernel
theorem dL_law_639 : decode cL_law 639 = .ok (.iconst 2, 1) := by decide +kernel
theorem dL_law_640 : decode cL_law 640 = .ok (.iadd, 1) := by decide +kernel
theorem dL_law_641 : decode cL_law 641 = .ok (.iaload, 1) := by decide +kernel
theorem dL_law_642 : decode cL_law 642 = .ok (.invokevirtual 85, 3) := by decide +kernel
theorem dL_law_645 : decode cL_law 645 = .ok (.pop, 1) := by decide +kernel
theorem dL_law_646 : decode cL_law 646 = .ok (.goto 197, 3) := by decide +kernel
theorem dL_law_649 : decode cL_law 649 = .ok (.aload_n 1, 1) := by decide +kernel
theorem dL_law_650 : decode cL_law 650 = .ok (.aload_n 0, 1) := by decide +kernel
theorem dL_law_651 : decode cL_law 651 = .ok (.iload_n 3, 1) := by decide +kernel
theorem dL_law_652 : decode cL_law 652 = .ok (.iconst 1, 1) := by decide +kernel
theorem dL_law_653 : decode cL_law 653 = .ok (.iadd, 1) := by decide +kernel
theorem dL_law_654 : decode cL_law 654 = .ok (.iaload, 1) := by decide +kernel
theorem dL_law_655 : decode cL_law 655 = .ok (.invokevirtual 86, 3) := by decide +kernel
theorem dL_law_658 : decode cL_law 658 = .ok (.pop2, 1) := by decide +kernel
theorem dL_law_659 : decode cL_law 659 = .ok (.aload_n 2, 1) := by decide +kernel
theorem dL_law_660 : decode cL_law 660 = .ok (.aload_n 0, 1) := by decide +kernel
theorem dL_law_661 : decode cL_law 661 = .ok (.iload_n 3, 1) := by decide +kernel
theorem dL_law_662 : decode cL_law 662 = .ok (.iconst 1, 1) := by decide +kernel
theorem dL_law_663 : decode cL_law 663 = .ok (.iadd, 1) := by decide +kernel
theorem dL_law_664 : decode cL_law 664 = .ok (.iaload, 1) := by decide +kernel
theorem dL_law_665 : decode cL_law 665 = .ok (.invokevirtual 90, 3) := by decide +kernel
theorem dL_law_668 : decode cL_law 668 = .ok (.pop2, 1) := by decide +kernel
theorem dL_law_669 : decode cL_law 669 = .ok (.goto 174, 3) := by decide +kernel
theorem dL_law_672 : decode cL_law 672 = .ok (.aload_n 1, 1) := by decide +kernel
theorem dL_law_673 : decode cL_law 673 = .ok (.aload_n 0, 1) := by decide +kernel
theorem dL_law_674 : decode cL_law 674 = .ok (.iload_n 3, 1) := by decide +kernel
theorem dL_law_675 : decode cL_law 675 = .ok (.iconst 1, 1) := by decide +kernel
theorem dL_law_676 : decode cL_law 676 = .ok (.iadd, 1) := by decide +kernel
theorem dL_law_677 : decode cL_law 677 = .ok (.iaload, 1) := by decide +kernel
theorem dL_law_678 : decode cL_law 678 = .ok (.aload_n 0, 1) := by decide +kernel
theorem dL_law_679 : decode cL_law 679 = .ok (.iload_n 3, 1) := by decide +kernel
theorem dL_law_680 : decode cL_law 680 = .ok (.iconst 2, 1) := by decide +kernel
theorem dL_law_681 : decode cL_law 681 = .ok (.iadd, 1) := by decide +kernel
theorem dL_law_682 : decode cL_law 682 = .ok (.iaload, 1) := by decide +kernel
theorem dL_law_683 : decode cL_law 683 = .ok (.aload_n 0, 1) := by decide +kernel
theorem dL_law_684 : decode cL_law 684 = .ok (.iload_n 3, 1) := by decide +kernel
theorem dL_law_685 : decode cL_law 685 = .ok (.iconst 3, 1) := by decide +kernel
theorem dL_law_686 : decode cL_law 686 = .ok (.iadd, 1) := by decide +kernel
theorem dL_law_687 : decode cL_law 687 = .ok (.iaload, 1) := by decide +kernel
theorem dL_law_688 : decode cL_law 688 = .ok (.invokevirtual 91, 3) := by decide +kernel
theorem dL_law_691 : decode cL_law 691 = .ok (.pop, 1) := by decide +kernel
theorem dL_law_692 : decode cL_law 692 = .ok (.aload_n 2, 1) := by decide +kernel
theorem dL_law_693 : decode cL_law 693 = .ok (.aload_n 0, 1) := by decide +kernel
theorem dL_law_694 : decode cL_law 694 = .ok (.iload_n 3, 1) := by decide +kernel
theorem dL_law_695 : decode cL_law 695 = .ok (.iconst 1, 1) := by decide +kernel
theorem dL_law_696 : decode cL_law 696 = .ok (.iadd, 1) := by decide +kernel
theorem dL_law_697 : decode cL_law 697 = .ok (.iaload, 1) := by decide +kernel
theorem dL_law_698 : decode cL_law 698 = .ok (.aload_n 0, 1) := by decide +kernel
theorem dL_law_699 : decode cL_law 699 = .ok (.iload_n 3, 1) := by decide +kernel
theorem dL_law_700 : decode cL_law 700 = .ok (.iconst 2, 1) := by decide +kernel
theorem dL_law_701 : decode cL_law 701 = .ok (.iadd, 1) := by decide +kernel
theorem dL_law_702 : decode cL_law 702 = .ok (.iaload, 1) := by decide +kernel
theorem dL_law_703 : decode cL_law 703 = .ok (.aload_n 0, 1) := by decide +kernel
theorem dL_law_704 : decode cL_law 704 = .ok (.iload_n 3, 1) := by decide +kernel
theorem dL_law_705 : decode cL_law 705 = .ok (.iconst 3, 1) := by decide +kernel
theorem dL_law_706 : decode cL_law 706 = .ok (.iadd, 1) := by decide +kernel
theorem dL_law_707 : decode cL_law 707 = .ok (.iaload, 1) := by decide +kernel
theorem dL_law_708 : decode cL_law 708 = .ok (.invokevirtual 94, 3) := by decide +kernel
theorem dL_law_711 : decode cL_law 711 = .ok (.pop, 1) := by decide +kernel
theorem dL_law_712 : decode cL_law 712 = .ok (.goto 131, 3) := by decide +kernel
theorem dL_law_715 : decode cL_law 715 = .ok (.aload_n 1, 1) := by decide +kernel
theorem dL_law_716 : decode cL_law 716 = .ok (.aload_n 0, 1) := by decide +kernel
theorem dL_law_717 : decode cL_law 717 = .ok (.iload_n 3, 1) := by decide +kernel
theorem dL_law_718 : decode cL_law 718 = .ok (.iconst 1, 1) := by decide +kernel
theorem dL_law_719 : decode cL_law 719 = .ok (.iadd, 1) := by decide +kernel
theorem dL_law_720 : decode cL_law 720 = .ok (.iaload, 1) := by decide +kernel
theorem dL_law_721 : decode cL_law 721 = .ok (.invokevirtual 95, 3) := by decide +kernel
theorem dL_law_724 : decode cL_law 724 = .ok (.pop, 1) := by decide +kernel
theorem dL_law_725 : decode cL_law 725 = .ok (.aload_n 2, 1) := by decide +kernel
theorem dL_law_726 : decode cL_law 726 = .ok (.aload_n 0, 1) := by decide +kernel
theorem dL_law_727 : decode cL_law 727 = .ok (.iload_n 3, 1) := by decide +kernel
theorem dL_law_728 : decode cL_law 728 = .ok (.iconst 1, 1) := by decide +kernel
theorem dL_law_729 : decode cL_law 729 = .ok (.iadd, 1) := by decide +kernel
theorem dL_law_730 : decode cL_law 730 = .ok (.iaload, 1) := by decide +kernel
theorem dL_law_731 : decode cL_law 731 = .ok (.invokevirtual 98, 3) := by decide +kernel
theorem dL_law_734 : decode cL_law 734 = .ok (.pop, 1) := by decide +kernel
theorem dL_law_735 : decode cL_law 735 = .ok (.goto 108, 3) := by decide +kernel
theorem dL_law_738 : decode cL_law 738 = .ok (.aload_n 1, 1) := by decide +kernel
theorem dL_law_739 : decode cL_law 739 = .ok (.aload_n 0, 1) := by decide +kernel
theorem dL_law_740 : decode cL_law 740 = .ok (.iload_n 3, 1) := by decide +kernel
theorem dL_law_741 : decode cL_law 741 = .ok (.iconst 1, 1) := by decide +kernel
theorem dL_law_742 : decode cL_law 742 = .ok (.iadd, 1) := by decide +kernel
theorem dL_law_743 : decode cL_law 743 = .ok (.iaload, 1) := by decide +kernel
theorem dL_law_744 : decode cL_law 744 = .ok (.invokevirtual 99, 3) := by decide +kernel
theorem dL_law_747 : decode cL_law 747 = .ok (.pop, 1) := by decide +kernel
theorem dL_law_748 : decode cL_law 748 = .ok (.aload_n 2, 1) := by decide +kernel
theorem dL_law_749 : decode cL_law 749 = .ok (.aload_n 0, 1) := by decide +kernel
theorem dL_law_750 : decode cL_law 750 = .ok (.iload_n 3, 1) := by decide +kernel
theorem dL_law_751 : decode cL_law 751 = .ok (.iconst 1, 1) := by decide +kernel
theorem dL_law_752 : decode cL_law 752 = .ok (.iadd, 1) := by decide +kernel
theorem dL_law_753 : decode cL_law 753 = .ok (.iaload, 1) := by decide +kernel
theorem dL_law_754 : decode cL_law 754 = .ok (.invokevirtual 102, 3) := by decide +kernel
theorem dL_law_757 : decode cL_law 757 = .ok (.pop, 1) := by decide +kernel
theorem dL_law_758 : decode cL_law 758 = .ok (.goto 85, 3) := by decide +kernel
theorem dL_law_761 : decode cL_law 761 = .ok (.aload_n 1, 1) := by decide +kernel
theorem dL_law_762 : decode cL_law 762 = .ok (.aload_n 0, 1) := by decide +kernel
theorem dL_law_763 : decode cL_law 763 = .ok (.iload_n 3, 1) := by decide +kernel
theorem dL_law_764 : decode cL_law 764 = .ok (.iconst 1, 1) := by decide +kernel
theorem dL_law_765 : decode cL_law 765 = .ok (.iadd, 1) := by decide +kernel
theorem dL_law_766 : decode cL_law 766 = .ok (.iaload, 1) := by decide +kernel
theorem dL_law_767 : decode cL_law 767 = .ok (.invokevirtual 103, 3) := by decide +kernel
theorem dL_law_770 : decode cL_law 770 = .ok (.pop, 1) := by decide +kernel
theorem dL_law_771 : decode cL_law 771 = .ok (.aload_n 2, 1) := by decide +kernel
theorem dL_law_772 : decode cL_law 772 = .ok (.aload_n 0, 1) := by decide +kernel
theorem dL_law_773 : decode cL_law 773 = .ok (.iload_n 3, 1) := by decide +kernel
theorem dL_law_774 : decode cL_law 774 = .ok (.iconst 1, 1) := by decide +kernel
theorem dL_law_775 : decode cL_law 775 = .ok (.iadd, 1) := by decide +kernel
theorem dL_law_776 : decode cL_law 776 = .ok (.iaload, 1) := by decide +kernel
theorem dL_law_777 : decode cL_law 777 = .ok (.invokevirtual 106, 3) := by decide +kernel
theorem dL_law_780 : decode cL_law 780 = .ok (.pop, 1) := by decide +kernel
theorem dL_law_781 : decode cL_law 781 = .ok (.goto 62, 3) := by decide +kernel
theorem dL_law_784 : decode cL_law 784 = .ok (.aload_n 1, 1) := by decide +kernel
theorem dL_law_785 : decode cL_law 785 = .ok (.aload_n 0, 1) := by decide +kernel
theorem dL_law_786 : decode cL_law 786 = .ok (.iload_n 3, 1) := by decide +kernel
theorem dL_law_787 : decode cL_law 787 = .ok (.iconst 1, 1) := by decide +kernel
theorem dL_law_788 : decode cL_law 788 = .ok (.iadd, 1) := by decide +kernel
theorem dL_law_789 : decode cL_law 789 = .ok (.iaload, 1) := by decide +kernel
theorem dL_law_790 : decode cL_law 790 = .ok (.invokevirtual 107, 3) := by decide +kernel
theorem dL_law_793 : decode cL_law 793 = .ok (.pop, 1) := by decide +kernel
theorem dL_law_794 : decode cL_law 794 = .ok (.aload_n 2, 1) := by decide +kernel
theorem dL_law_795 : decode cL_law 795 = .ok (.aload_n 0, 1) := by decide +kernel
theorem dL_law_796 : decode cL_law 796 = .ok (.iload_n 3, 1) := by decide +kernel
theorem dL_law_797 : decode cL_law 797 = .ok (.iconst 1, 1) := by decide +kernel
theorem dL_law_798 : decode cL_law 798 = .ok (.iadd, 1) := by decide +kernel
theorem dL_law_799 : decode cL_law 799 = .ok (.iaload, 1) := by decide +kernel
theorem dL_law_800 : decode cL_law 800 = .ok (.invokevirtual 110, 3) := by decide +kernel
theorem dL_law_803 : decode cL_law 803 = .ok (.pop, 1) := by decide +kernel
theorem dL_law_804 : decode cL_law 804 = .ok (.goto 39, 3) := by decide +kernel
theorem dL_law_807 : decode cL_law 807 = .ok (.aload_n 1, 1) := by decide +kernel
theorem dL_law_808 : decode cL_law 808 = .ok (.aload_n 0, 1) := by decide +kernel
theorem dL_law_809 : decode cL_law 809 = .ok (.iload_n 3, 1) := by decide +kernel
theorem dL_law_810 : decode cL_law 810 = .ok (.iconst 1, 1) := by decide +kernel
theorem dL_law_811 : decode cL_law 811 = .ok (.iadd, 1) := by decide +kernel
theorem dL_law_812 : decode cL_law 812 = .ok (.iaload, 1) := by decide +kernel
theorem dL_law_813 : decode cL_law 813 = .ok (.invokevirtual 111, 3) := by decide +kernel
theorem dL_law_816 : decode cL_law 816 = .ok (.pop, 1) := by decide +kernel
theorem dL_law_817 : decode cL_law 817 = .ok (.aload_n 2, 1) := by decide +kernel
theorem dL_law_818 : decode cL_law 818 = .ok (.aload_n 0, 1) := by decide +kernel
theorem dL_law_819 : decode cL_law 819 = .ok (.iload_n 3, 1) := by decide +kernel
theorem dL_law_820 : decode cL_law 820 = .ok (.iconst 1, 1) := by decide +kernel
theorem dL_law_821 : decode cL_law 821 = .ok (.iadd, 1) := by decide +kernel
theorem dL_law_822 : decode cL_law 822 = .ok (.iaload, 1) := by decide +kernel
theorem dL_law_823 : decode cL_law 823 = .ok (.invokevirtual 114, 3) := by decide +kernel
theorem dL_law_826 : decode cL_law 826 = .ok (.pop, 1) := by decide +kernel
theorem dL_law_827 : decode cL_law 827 = .ok (.goto 16, 3) := by decide +kernel
theorem dL_law_830 : decode cL_law 830 = .ok (.aload_n 1, 1) := by decide +kernel
theorem dL_law_831 : decode cL_law 831 = .ok (.invokevirtual 115, 3) := by decide +kernel
theorem dL_law_834 : decode cL_law 834 = .ok (.pop, 1) := by decide +kernel
theorem dL_law_835 : decode cL_law 835 = .ok (.aload_n 2, 1) := by decide +kernel
theorem dL_law_836 : decode cL_law 836 = .ok (.invokevirtual 118, 3) := by decide +kernel
theorem dL_law_839 : decode cL_law 839 = .ok (.pop, 1) := by decide +kernel
theorem dL_law_840 : decode cL_law 840 = .ok (.goto 3, 3) := by decide +kernel
theorem dL_law_843 : decode cL_law 843 = .ok (.iinc 3 6, 3) := by decide +kernel
theorem dL_law_846 : decode cL_law 846 = .ok (.goto (-828), 3) := by decide +kernel
theorem dL_law_849 : decode cL_law 849 = .ok (.iconst 1, 1) := by decide +kernel
theorem dL_law_850 : decode cL_law 850 = .ok (.ireturn, 1) := by decide +kernel
