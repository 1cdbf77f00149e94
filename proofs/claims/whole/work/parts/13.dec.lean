theorem dX6_sum_84 : decode cX6_sum 84 = .ok (.ifCond .ne 13, 3) := by decide +kernel
theorem dX6_sum_87 : decode cX6_sum 87 = .ok (.aload_n 0, 1) := by decide +kernel
theorem dX6_sum_88 : decode cX6_sum 88 = .ok (.bipush (-9), 2) := by decide +kernel
theorem dX6_sum_90 : decode cX6_sum 90 = .ok (.iconst 0, 1) := by decide +kernel
theorem dX6_sum_91 : decode cX6_sum 91 = .ok (.invokevirtual 192, 3) := by decide +kernel
theorem dX6_sum_94 : decode cX6_sum 94 = .ok (.pop, 1) := by decide +kernel
theorem dX6_sum_95 : decode cX6_sum 95 = .ok (.lconst 0, 1) := by decide +kernel
theorem dX6_sum_96 : decode cX6_sum 96 = .ok (.lreturn, 1) := by decide +kernel
theorem dX6_sum_97 : decode cX6_sum 97 = .ok (.aload_n 0, 1) := by decide +kernel
theorem dX6_sum_98 : decode cX6_sum 98 = .ok (.iconst 0, 1) := by decide +kernel
theorem dX6_sum_99 : decode cX6_sum 99 = .ok (.iconst (-1), 1) := by decide +kernel
theorem dX6_sum_100 : decode cX6_sum 100 = .ok (.invokevirtual 192, 3) := by decide +kernel
theorem dX6_sum_103 : decode cX6_sum 103 = .ok (.pop, 1) := by decide +kernel
theorem dX6_sum_104 : decode cX6_sum 104 = .ok (.aload_n 0, 1) := by decide +kernel
theorem dX6_sum_105 : decode cX6_sum 105 = .ok (.iload_n 1, 1) := by decide +kernel
theorem dX6_sum_106 : decode cX6_sum 106 = .ok (.iload_n 2, 1) := by decide +kernel
theorem dX6_sum_107 : decode cX6_sum 107 = .ok (.invokevirtual 231, 3) := by decide +kernel
theorem dX6_sum_110 : decode cX6_sum 110 = .ok (.lreturn, 1) := by decide +kernel
theorem dX6_lays_0 : decode cX6_lays 0 = .ok (.aload_n 0, 1) := by decide +kernel
theorem dX6_lays_1 : decode cX6_lays 1 = .ok (.getfield 36, 3) := by decide +kernel
theorem dX6_lays_4 : decode cX6_lays 4 = .ok (.aload_n 0, 1) := by decide +kernel
theorem dX6_lays_5 : decode cX6_lays 5 = .ok (.getfield 235, 3) := by decide +kernel
theorem dX6_lays_8 : decode cX6_lays 8 = .ok (.iload_n 1, 1) := by decide +kernel
theorem dX6_lays_9 : decode cX6_lays 9 = .ok (.iastore, 1) := by decide +kernel
theorem dX6_lays_10 : decode cX6_lays 10 = .ok (.aload_n 0, 1) := by decide +kernel
theorem dX6_lays_11 : decode cX6_lays 11 = .ok (.dup, 1) := by decide +kernel
theorem dX6_lays_12 : decode cX6_lays 12 = .ok (.getfield 235, 3) := by decide +kernel
theorem dX6_lays_15 : decode cX6_lays 15 = .ok (.iconst 1, 1) := by decide +kernel
theorem dX6_lays_16 : decode cX6_lays 16 = .ok (.iadd, 1) := by decide +kernel
theorem dX6_lays_17 : decode cX6_lays 17 = .ok (.putfield 235, 3) := by decide +kernel
theorem dX6_lays_20 : decode cX6_lays 20 = .ok (.return_, 1) := by decide +kernel
theorem dX6_laysWhole_0 : decode cX6_laysWhole 0 = .ok (.iload_n 3, 1) := by decide +kernel
theorem dX6_laysWhole_1 : decode cX6_laysWhole 1 = .ok (.iconst 1, 1) := by decide +kernel
theorem dX6_laysWhole_2 : decode cX6_laysWhole 2 = .ok (.isub, 1) := by decide +kernel
theorem dX6_laysWhole_3 : decode cX6_laysWhole 3 = .ok (.istore 4, 2) := by decide +kernel
theorem dX6_laysWhole_5 : decode cX6_laysWhole 5 = .ok (.iload 4, 2) := by decide +kernel
theorem dX6_laysWhole_7 : decode cX6_laysWhole 7 = .ok (.ifCond .lt 25, 3) := by decide +kernel
theorem dX6_laysWhole_10 : decode cX6_laysWhole 10 = .ok (.aload_n 0, 1) := by decide +kernel
theorem dX6_laysWhole_11 : decode cX6_laysWhole 11 = .ok (.lload_n 1, 1) := by decide +kernel
theorem dX6_laysWhole_12 : decode cX6_laysWhole 12 = .ok (.bipush 8, 2) := by decide +kernel
theorem dX6_laysWhole_14 : decode cX6_laysWhole 14 = .ok (.iload 4, 2) := by decide +kernel
theorem dX6_laysWhole_16 : decode cX6_laysWhole 16 = .ok (.imul, 1) := by decide +kernel
theorem dX6_laysWhole_17 : decode cX6_laysWhole 17 = .ok (.lshr, 1) := by decide +kernel
theorem dX6_laysWhole_18 : decode cX6_laysWhole 18 = .ok (.ldc2_w 238, 3) := by decide +kernel
theorem dX6_laysWhole_21 : decode cX6_laysWhole 21 = .ok (.land, 1) := by decide +kernel
theorem dX6_laysWhole_22 : decode cX6_laysWhole 22 = .ok (.l2i, 1) := by decide +kernel
theorem dX6_laysWhole_23 : decode cX6_laysWhole 23 = .ok (.invokevirtual 240, 3) := by decide +kernel
theorem dX6_laysWhole_26 : decode cX6_laysWhole 26 = .ok (.iinc 4 (-1), 3) := by decide +kernel
theorem dX6_laysWhole_29 : decode cX6_laysWhole 29 = .ok (.goto (-24), 3) := by decide +kernel
theorem dX6_laysWhole_32 : decode cX6_laysWhole 32 = .ok (.return_, 1) := by decide +kernel
theorem dX6_laysWord_0 : decode cX6_laysWord 0 = .ok (.iconst 0, 1) := by decide +kernel
theorem dX6_laysWord_1 : decode cX6_laysWord 1 = .ok (.istore_n 3, 1) := by decide +kernel
theorem dX6_laysWord_2 : decode cX6_laysWord 2 = .ok (.lconst 1, 1) := by decide +kernel
theorem dX6_laysWord_3 : decode cX6_laysWord 3 = .ok (.lstore 4, 2) := by decide +kernel
theorem dX6_laysWord_5 : decode cX6_laysWord 5 = .ok (.lload_n 1, 1) := by decide +kernel
theorem dX6_laysWord_6 : decode cX6_laysWord 6 = .ok (.lstore 6, 2) := by decide +kernel
theorem dX6_laysWord_8 : decode cX6_laysWord 8 = .ok (.lload 6, 2) := by decide +kernel
theorem dX6_laysWord_10 : decode cX6_laysWord 10 = .ok (.lconst 0, 1) := by decide +kernel
theorem dX6_laysWord_11 : decode cX6_laysWord 11 = .ok (.lcmp, 1) := by decide +kernel
theorem dX6_laysWord_12 : decode cX6_laysWord 12 = .ok (.ifCond .le 33, 3) := by decide +kernel
theorem dX6_laysWord_15 : decode cX6_laysWord 15 = .ok (.lload 6, 2) := by decide +kernel
theorem dX6_laysWord_17 : decode cX6_laysWord 17 = .ok (.ldc2_w 69, 3) := by decide +kernel
theorem dX6_laysWord_20 : decode cX6_laysWord 20 = .ok (.ldiv, 1) := by decide +kernel
theorem dX6_laysWord_21 : decode cX6_laysWord 21 = .ok (.lstore 6, 2) := by decide +kernel
theorem dX6_laysWord_23 : decode cX6_laysWord 23 = .ok (.iload_n 3, 1) := by decide +kernel
theorem dX6_laysWord_24 : decode cX6_laysWord 24 = .ok (.ifCond .ne 7, 3) := by decide +kernel
theorem dX6_laysWord_27 : decode cX6_laysWord 27 = .ok (.lconst 1, 1) := by decide +kernel
theorem dX6_laysWord_28 : decode cX6_laysWord 28 = .ok (.goto 9, 3) := by decide +kernel
theorem dX6_laysWord_31 : decode cX6_laysWord 31 = .ok (.lload 4, 2) := by decide +kernel
theorem dX6_laysWord_33 : decode cX6_laysWord 33 = .ok (.ldc2_w 69, 3) := by decide +kernel
theorem dX6_laysWord_36 : decode cX6_laysWord 36 = .ok (.lmul, 1) := by decide +kernel
theorem dX6_laysWord_37 : decode cX6_laysWord 37 = .ok (.lstore 4, 2) := by decide +kernel
theorem dX6_laysWord_39 : decode cX6_laysWord 39 = .ok (.iinc 3 1, 3) := by decide +kernel
theorem dX6_laysWord_42 : decode cX6_laysWord 42 = .ok (.goto (-34), 3) := by decide +kernel
theorem dX6_laysWord_45 : decode cX6_laysWord 45 = .ok (.aload_n 0, 1) := by decide +kernel
theorem dX6_laysWord_46 : decode cX6_laysWord 46 = .ok (.bipush 8, 2) := by decide +kernel
theorem dX6_laysWord_48 : decode cX6_laysWord 48 = .ok (.invokevirtual 240, 3) := by decide +kernel
theorem dX6_laysWord_51 : decode cX6_laysWord 51 = .ok (.aload_n 0, 1) := by decide +kernel
theorem dX6_laysWord_52 : decode cX6_laysWord 52 = .ok (.iload_n 3, 1) := by decide +kernel
theorem dX6_laysWord_53 : decode cX6_laysWord 53 = .ok (.invokevirtual 240, 3) := by decide +kernel
theorem dX6_laysWord_56 : decode cX6_laysWord 56 = .ok (.lload_n 1, 1) := by decide +kernel
theorem dX6_laysWord_57 : decode cX6_laysWord 57 = .ok (.lstore 6, 2) := by decide +kernel
theorem dX6_laysWord_59 : decode cX6_laysWord 59 = .ok (.iconst 0, 1) := by decide +kernel
theorem dX6_laysWord_60 : decode cX6_laysWord 60 = .ok (.istore 8, 2) := by decide +kernel
theorem dX6_laysWord_62 : decode cX6_laysWord 62 = .ok (.iload 8, 2) := by decide +kernel
theorem dX6_laysWord_64 : decode cX6_laysWord 64 = .ok (.iload_n 3, 1) := by decide +kernel
theorem dX6_laysWord_65 : decode cX6_laysWord 65 = .ok (.if_icmp .ge 37, 3) := by decide +kernel
theorem dX6_laysWord_68 : decode cX6_laysWord 68 = .ok (.aload_n 0, 1) := by decide +kernel
theorem dX6_laysWord_69 : decode cX6_laysWord 69 = .ok (.bipush 96, 2) := by decide +kernel
theorem dX6_laysWord_71 : decode cX6_laysWord 71 = .ok (.lload 6, 2) := by decide +kernel
theorem dX6_laysWord_73 : decode cX6_laysWord 73 = .ok (.lload 4, 2) := by decide +kernel
theorem dX6_laysWord_75 : decode cX6_laysWord 75 = .ok (.ldiv, 1) := by decide +kernel
theorem dX6_laysWord_76 : decode cX6_laysWord 76 = .ok (.l2i, 1) := by decide +kernel
theorem dX6_laysWord_77 : decode cX6_laysWord 77 = .ok (.iadd, 1) := by decide +kernel
theorem dX6_laysWord_78 : decode cX6_laysWord 78 = .ok (.invokevirtual 240, 3) := by decide +kernel
theorem dX6_laysWord_81 : decode cX6_laysWord 81 = .ok (.lload 6, 2) := by decide +kernel
theorem dX6_laysWord_83 : decode cX6_laysWord 83 = .ok (.lload 4, 2) := by decide +kernel
theorem dX6_laysWord_85 : decode cX6_laysWord 85 = .ok (.lrem, 1) := by decide +kernel
theorem dX6_laysWord_86 : decode cX6_laysWord 86 = .ok (.lstore 6, 2) := by decide +kernel
theorem dX6_laysWord_88 : decode cX6_laysWord 88 = .ok (.lload 4, 2) := by decide +kernel
theorem dX6_laysWord_90 : decode cX6_laysWord 90 = .ok (.ldc2_w 69, 3) := by decide +kernel
theorem dX6_laysWord_93 : decode cX6_laysWord 93 = .ok (.ldiv, 1) := by decide +kernel
theorem dX6_laysWord_94 : decode cX6_laysWord 94 = .ok (.lstore 4, 2) := by decide +kernel
theorem dX6_laysWord_96 : decode cX6_laysWord 96 = .ok (.iinc 8 1, 3) := by decide +kernel
theorem dX6_laysWord_99 : decode cX6_laysWord 99 = .ok (.goto (-37), 3) := by decide +kernel
theorem dX6_laysWord_102 : decode cX6_laysWord 102 = .ok (.return_, 1) := by decide +kernel
theorem dX6_laysNumber_0 : decode cX6_laysNumber 0 = .ok (.iload_n 1, 1) := by decide +kernel
theorem dX6_laysNumber_1 : decode cX6_laysNumber 1 = .ok (.iconst 2, 1) := by decide +kernel
theorem dX6_laysNumber_2 : decode cX6_laysNumber 2 = .ok (.if_icmp .ge 16, 3) := by decide +kernel
theorem dX6_laysNumber_5 : decode cX6_laysNumber 5 = .ok (.aload_n 0, 1) := by decide +kernel
theorem dX6_laysNumber_6 : decode cX6_laysNumber 6 = .ok (.lload_n 2, 1) := by decide +kernel
theorem dX6_laysNumber_7 : decode cX6_laysNumber 7 = .ok (.ldc2_w 238, 3) := by decide +kernel
theorem dX6_laysNumber_10 : decode cX6_laysNumber 10 = .ok (.land, 1) := by decide +kernel
theorem dX6_laysNumber_11 : decode cX6_laysNumber 11 = .ok (.l2i, 1) := by decide +kernel
theorem dX6_laysNumber_12 : decode cX6_laysNumber 12 = .ok (.invokevirtual 240, 3) := by decide +kernel
theorem dX6_laysNumber_15 : decode cX6_laysNumber 15 = .ok (.goto 113, 3) := by decide +kernel
theorem dX6_laysNumber_18 : decode cX6_laysNumber 18 = .ok (.iload_n 1, 1) := by decide +kernel
theorem dX6_laysNumber_19 : decode cX6_laysNumber 19 = .ok (.iconst 4, 1) := by decide +kernel
theorem dX6_laysNumber_20 : decode cX6_laysNumber 20 = .ok (.if_icmp .ge 12, 3) := by decide +kernel
theorem dX6_laysNumber_23 : decode cX6_laysNumber 23 = .ok (.aload_n 0, 1) := by decide +kernel
theorem dX6_laysNumber_24 : decode cX6_laysNumber 24 = .ok (.lload_n 2, 1) := by decide +kernel
theorem dX6_laysNumber_25 : decode cX6_laysNumber 25 = .ok (.iconst 2, 1) := by decide +kernel
theorem dX6_laysNumber_26 : decode cX6_laysNumber 26 = .ok (.invokevirtual 244, 3) := by decide +kernel
theorem dX6_laysNumber_29 : decode cX6_laysNumber 29 = .ok (.goto 99, 3) := by decide +kernel
theorem dX6_laysNumber_32 : decode cX6_laysNumber 32 = .ok (.iload_n 1, 1) := by decide +kernel
theorem dX6_laysNumber_33 : decode cX6_laysNumber 33 = .ok (.bipush 6, 2) := by decide +kernel
theorem dX6_laysNumber_35 : decode cX6_laysNumber 35 = .ok (.if_icmp .ge 22, 3) := by decide +kernel
theorem dX6_laysNumber_38 : decode cX6_laysNumber 38 = .ok (.aload_n 0, 1) := by decide +kernel
theorem dX6_laysNumber_39 : decode cX6_laysNumber 39 = .ok (.lload_n 2, 1) := by decide +kernel
theorem dX6_laysNumber_40 : decode cX6_laysNumber 40 = .ok (.iload_n 1, 1) := by decide +kernel
theorem dX6_laysNumber_41 : decode cX6_laysNumber 41 = .ok (.iconst 4, 1) := by decide +kernel
theorem dX6_laysNumber_42 : decode cX6_laysNumber 42 = .ok (.if_icmp .ne 7, 3) := by decide +kernel
theorem dX6_laysNumber_45 : decode cX6_laysNumber 45 = .ok (.iconst 4, 1) := by decide +kernel
theorem dX6_laysNumber_46 : decode cX6_laysNumber 46 = .ok (.goto 5, 3) := by decide +kernel
theorem dX6_laysNumber_49 : decode cX6_laysNumber 49 = .ok (.bipush 8, 2) := by decide +kernel
theorem dX6_laysNumber_51 : decode cX6_laysNumber 51 = .ok (.invokevirtual 244, 3) := by decide +kernel
theorem dX6_laysNumber_54 : decode cX6_laysNumber 54 = .ok (.goto 74, 3) := by decide +kernel
theorem dX6_laysNumber_57 : decode cX6_laysNumber 57 = .ok (.iload_n 1, 1) := by decide +kernel
theorem dX6_laysNumber_58 : decode cX6_laysNumber 58 = .ok (.lload_n 2, 1) := by decide +kernel
theorem dX6_laysNumber_59 : decode cX6_laysNumber 59 = .ok (.invokestatic 115, 3) := by decide +kernel
theorem dX6_laysNumber_62 : decode cX6_laysNumber 62 = .ok (.ldc2_w 248, 3) := by decide +kernel
theorem dX6_laysNumber_65 : decode cX6_laysNumber 65 = .ok (.dmul, 1) := by decide +kernel
theorem dX6_laysNumber_66 : decode cX6_laysNumber 66 = .ok (.dstore 4, 2) := by decide +kernel
theorem dX6_laysNumber_68 : decode cX6_laysNumber 68 = .ok (.iconst 0, 1) := by decide +kernel
theorem dX6_laysNumber_69 : decode cX6_laysNumber 69 = .ok (.istore 6, 2) := by decide +kernel
theorem dX6_laysNumber_71 : decode cX6_laysNumber 71 = .ok (.dload 4, 2) := by decide +kernel
theorem dX6_laysNumber_73 : decode cX6_laysNumber 73 = .ok (.dconst 0, 1) := by decide +kernel
theorem dX6_laysNumber_74 : decode cX6_laysNumber 74 = .ok (.dcmp .l, 1) := by decide +kernel
theorem dX6_laysNumber_75 : decode cX6_laysNumber 75 = .ok (.ifCond .eq 28, 3) := by decide +kernel
theorem dX6_laysNumber_78 : decode cX6_laysNumber 78 = .ok (.dload 4, 2) := by decide +kernel
theorem dX6_laysNumber_80 : decode cX6_laysNumber 80 = .ok (.ldc2_w 91, 3) := by decide +kernel
theorem dX6_laysNumber_83 : decode cX6_laysNumber 83 = .ok (.drem, 1) := by decide +kernel
theorem dX6_laysNumber_84 : decode cX6_laysNumber 84 = .ok (.dconst 0, 1) := by decide +kernel
theorem dX6_laysNumber_85 : decode cX6_laysNumber 85 = .ok (.dcmp .l, 1) := by decide +kernel
theorem dX6_laysNumber_86 : decode cX6_laysNumber 86 = .ok (.ifCond .ne 17, 3) := by decide +kernel
theorem dX6_laysNumber_89 : decode cX6_laysNumber 89 = .ok (.dload 4, 2) := by decide +kernel
theorem dX6_laysNumber_91 : decode cX6_laysNumber 91 = .ok (.ldc2_w 91, 3) := by decide +kernel
theorem dX6_laysNumber_94 : decode cX6_laysNumber 94 = .ok (.ddiv, 1) := by decide +kernel
theorem dX6_laysNumber_95 : decode cX6_laysNumber 95 = .ok (.dstore 4, 2) := by decide +kernel
theorem dX6_laysNumber_97 : decode cX6_laysNumber 97 = .ok (.iinc 6 1, 3) := by decide +kernel
theorem dX6_laysNumber_100 : decode cX6_laysNumber 100 = .ok (.goto (-29), 3) := by decide +kernel
theorem dX6_laysNumber_103 : decode cX6_laysNumber 103 = .ok (.aload_n 0, 1) := by decide +kernel
theorem dX6_laysNumber_104 : decode cX6_laysNumber 104 = .ok (.iload 6, 2) := by decide +kernel
theorem dX6_laysNumber_106 : decode cX6_laysNumber 106 = .ok (.invokevirtual 240, 3) := by decide +kernel
theorem dX6_laysNumber_109 : decode cX6_laysNumber 109 = .ok (.aload_n 0, 1) := by decide +kernel
theorem dX6_laysNumber_110 : decode cX6_laysNumber 110 = .ok (.dload 4, 2) := by decide +kernel
theorem dX6_laysNumber_112 : decode cX6_laysNumber 112 = .ok (.d2l, 1) := by decide +kernel
theorem dX6_laysNumber_113 : decode cX6_laysNumber 113 = .ok (.iload_n 1, 1) := by decide +kernel
theorem dX6_laysNumber_114 : decode cX6_laysNumber 114 = .ok (.bipush 6, 2) := by decide +kernel
theorem dX6_laysNumber_116 : decode cX6_laysNumber 116 = .ok (.if_icmp .ne 7, 3) := by decide +kernel
theorem dX6_laysNumber_119 : decode cX6_laysNumber 119 = .ok (.iconst 4, 1) := by decide +kernel
theorem dX6_laysNumber_120 : decode cX6_laysNumber 120 = .ok (.goto 5, 3) := by decide +kernel
theorem dX6_laysNumber_123 : decode cX6_laysNumber 123 = .ok (.bipush 8, 2) := by decide +kernel
theorem dX6_laysNumber_125 : decode cX6_laysNumber 125 = .ok (.invokevirtual 244, 3) := by decide +kernel
theorem dX6_laysNumber_128 : decode cX6_laysNumber 128 = .ok (.return_, 1) := by decide +kernel
theorem dX6_laysStep_0 : decode cX6_laysStep 0 = .ok (.lload_n 1, 1) := by decide +kernel
theorem dX6_laysStep_1 : decode cX6_laysStep 1 = .ok (.iconst 1, 1) := by decide +kernel
theorem dX6_laysStep_2 : decode cX6_laysStep 2 = .ok (.lshl, 1) := by decide +kernel
theorem dX6_laysStep_3 : decode cX6_laysStep 3 = .ok (.lload_n 1, 1) := by decide +kernel
theorem dX6_laysStep_4 : decode cX6_laysStep 4 = .ok (.bipush 63, 2) := by decide +kernel
theorem dX6_laysStep_6 : decode cX6_laysStep 6 = .ok (.lshr, 1) := by decide +kernel
theorem dX6_laysStep_7 : decode cX6_laysStep 7 = .ok (.lxor, 1) := by decide +kernel
theorem dX6_laysStep_8 : decode cX6_laysStep 8 = .ok (.lstore_n 3, 1) := by decide +kernel
theorem dX6_laysStep_9 : decode cX6_laysStep 9 = .ok (.iconst 1, 1) := by decide +kernel
theorem dX6_laysStep_10 : decode cX6_laysStep 10 = .ok (.istore 5, 2) := by decide +kernel
theorem dX6_laysStep_12 : decode cX6_laysStep 12 = .ok (.iload 5, 2) := by decide +kernel
theorem dX6_laysStep_14 : decode cX6_laysStep 14 = .ok (.ifCond .eq 52, 3) := by decide +kernel
theorem dX6_laysStep_17 : decode cX6_laysStep 17 = .ok (.lload_n 3, 1) := by decide +kernel
theorem dX6_laysStep_18 : decode cX6_laysStep 18 = .ok (.ldc2_w 79, 3) := by decide +kernel
theorem dX6_laysStep_21 : decode cX6_laysStep 21 = .ok (.land, 1) := by decide +kernel
theorem dX6_laysStep_22 : decode cX6_laysStep 22 = .ok (.l2i, 1) := by decide +kernel
theorem dX6_laysStep_23 : decode cX6_laysStep 23 = .ok (.istore 6, 2) := by decide +kernel
theorem dX6_laysStep_25 : decode cX6_laysStep 25 = .ok (.lload_n 3, 1) := by decide +kernel
theorem dX6_laysStep_26 : decode cX6_laysStep 26 = .ok (.bipush 7, 2) := by decide +kernel
theorem dX6_laysStep_28 : decode cX6_laysStep 28 = .ok (.lushr, 1) := by decide +kernel
theorem dX6_laysStep_29 : decode cX6_laysStep 29 = .ok (.lstore_n 3, 1) := by decide +kernel
theorem dX6_laysStep_30 : decode cX6_laysStep 30 = .ok (.lload_n 3, 1) := by decide +kernel
theorem dX6_laysStep_31 : decode cX6_laysStep 31 = .ok (.lconst 0, 1) := by decide +kernel
theorem dX6_laysStep_32 : decode cX6_laysStep 32 = .ok (.lcmp, 1) := by decide +kernel
theorem dX6_laysStep_33 : decode cX6_laysStep 33 = .ok (.ifCond .eq 7, 3) := by decide +kernel
theorem dX6_laysStep_36 : decode cX6_laysStep 36 = .ok (.iconst 1, 1) := by decide +kernel
theorem dX6_laysStep_37 : decode cX6_laysStep 37 = .ok (.goto 4, 3) := by decide +kernel
theorem dX6_laysStep_40 : decode cX6_laysStep 40 = .ok (.iconst 0, 1) := by decide +kernel
theorem dX6_laysStep_41 : decode cX6_laysStep 41 = .ok (.istore 5, 2) := by decide +kernel
theorem dX6_laysStep_43 : decode cX6_laysStep 43 = .ok (.aload_n 0, 1) := by decide +kernel
theorem dX6_laysStep_44 : decode cX6_laysStep 44 = .ok (.iload 5, 2) := by decide +kernel
theorem dX6_laysStep_46 : decode cX6_laysStep 46 = .ok (.ifCond .eq 12, 3) := by decide +kernel
theorem dX6_laysStep_49 : decode cX6_laysStep 49 = .ok (.iload 6, 2) := by decide +kernel
theorem dX6_laysStep_51 : decode cX6_laysStep 51 = .ok (.sipush 128, 3) := by decide +kernel
theorem dX6_laysStep_54 : decode cX6_laysStep 54 = .ok (.iadd, 1) := by decide +kernel
theorem dX6_laysStep_55 : decode cX6_laysStep 55 = .ok (.goto 5, 3) := by decide +kernel
theorem dX6_laysStep_58 : decode cX6_laysStep 58 = .ok (.iload 6, 2) := by decide +kernel
theorem dX6_laysStep_60 : decode cX6_laysStep 60 = .ok (.invokevirtual 240, 3) := by decide +kernel
theorem dX6_laysStep_63 : decode cX6_laysStep 63 = .ok (.goto (-51), 3) := by decide +kernel
theorem dX6_laysStep_66 : decode cX6_laysStep 66 = .ok (.return_, 1) := by decide +kernel
theorem dX6_laysRuns_0 : decode cX6_laysRuns 0 = .ok (.iconst 0, 1) := by decide +kernel
theorem dX6_laysRuns_1 : decode cX6_laysRuns 1 = .ok (.istore_n 2, 1) := by decide +kernel
theorem dX6_laysRuns_2 : decode cX6_laysRuns 2 = .ok (.iload_n 2, 1) := by decide +kernel
theorem dX6_laysRuns_3 : decode cX6_laysRuns 3 = .ok (.aload_n 0, 1) := by decide +kernel
theorem dX6_laysRuns_4 : decode cX6_laysRuns 4 = .ok (.getfield 13, 3) := by decide +kernel
theorem dX6_laysRuns_7 : decode cX6_laysRuns 7 = .ok (.iload_n 1, 1) := by decide +kernel
theorem dX6_laysRuns_8 : decode cX6_laysRuns 8 = .ok (.iaload, 1) := by decide +kernel
theorem dX6_laysRuns_9 : decode cX6_laysRuns 9 = .ok (.if_icmp .ge 84, 3) := by decide +kernel
theorem dX6_laysRuns_12 : decode cX6_laysRuns 12 = .ok (.iconst 1, 1) := by decide +kernel
theorem dX6_laysRuns_13 : decode cX6_laysRuns 13 = .ok (.istore_n 3, 1) := by decide +kernel
theorem dX6_laysRuns_14 : decode cX6_laysRuns 14 = .ok (.iload_n 2, 1) := by decide +kernel
theorem dX6_laysRuns_15 : decode cX6_laysRuns 15 = .ok (.iload_n 3, 1) := by decide +kernel
theorem dX6_laysRuns_16 : decode cX6_laysRuns 16 = .ok (.iadd, 1) := by decide +kernel
theorem dX6_laysRuns_17 : decode cX6_laysRuns 17 = .ok (.aload_n 0, 1) := by decide +kernel
theorem dX6_laysRuns_18 : decode cX6_laysRuns 18 = .ok (.getfield 13, 3) := by decide +kernel
theorem dX6_laysRuns_21 : decode cX6_laysRuns 21 = .ok (.iload_n 1, 1) := by decide +kernel
theorem dX6_laysRuns_22 : decode cX6_laysRuns 22 = .ok (.iaload, 1) := by decide +kernel
theorem dX6_laysRuns_23 : decode cX6_laysRuns 23 = .ok (.if_icmp .ge 37, 3) := by decide +kernel
theorem dX6_laysRuns_26 : decode cX6_laysRuns 26 = .ok (.aload_n 0, 1) := by decide +kernel
theorem dX6_laysRuns_27 : decode cX6_laysRuns 27 = .ok (.getfield 23, 3) := by decide +kernel
theorem dX6_laysRuns_30 : decode cX6_laysRuns 30 = .ok (.bipush 12, 2) := by decide +kernel
theorem dX6_laysRuns_32 : decode cX6_laysRuns 32 = .ok (.iload_n 1, 1) := by decide +kernel
theorem dX6_laysRuns_33 : decode cX6_laysRuns 33 = .ok (.imul, 1) := by decide +kernel
theorem dX6_laysRuns_34 : decode cX6_laysRuns 34 = .ok (.iload_n 2, 1) := by decide +kernel
theorem dX6_laysRuns_35 : decode cX6_laysRuns 35 = .ok (.iadd, 1) := by decide +kernel
theorem dX6_laysRuns_36 : decode cX6_laysRuns 36 = .ok (.iload_n 3, 1) := by decide +kernel
theorem dX6_laysRuns_37 : decode cX6_laysRuns 37 = .ok (.iadd, 1) := by decide +kernel
theorem dX6_laysRuns_38 : decode cX6_laysRuns 38 = .ok (.laload, 1) := by decide +kernel
theorem dX6_laysRuns_39 : decode cX6_laysRuns 39 = .ok (.aload_n 0, 1) := by decide +kernel
theorem dX6_laysRuns_40 : decode cX6_laysRuns 40 = .ok (.getfield 23, 3) := by decide +kernel
theorem dX6_laysRuns_43 : decode cX6_laysRuns 43 = .ok (.bipush 12, 2) := by decide +kernel
theorem dX6_laysRuns_45 : decode cX6_laysRuns 45 = .ok (.iload_n 1, 1) := by decide +kernel
theorem dX6_laysRuns_46 : decode cX6_laysRuns 46 = .ok (.imul, 1) := by decide +kernel
theorem dX6_laysRuns_47 : decode cX6_laysRuns 47 = .ok (.iload_n 2, 1) := by decide +kernel
theorem dX6_laysRuns_48 : decode cX6_laysRuns 48 = .ok (.iadd, 1) := by decide +kernel
theorem dX6_laysRuns_49 : decode cX6_laysRuns 49 = .ok (.laload, 1) := by decide +kernel
theorem dX6_laysRuns_50 : decode cX6_laysRuns 50 = .ok (.lcmp, 1) := by decide +kernel
theorem dX6_laysRuns_51 : decode cX6_laysRuns 51 = .ok (.ifCond .ne 9, 3) := by decide +kernel
theorem dX6_laysRuns_54 : decode cX6_laysRuns 54 = .ok (.iinc 3 1, 3) := by decide +kernel
theorem dX6_laysRuns_57 : decode cX6_laysRuns 57 = .ok (.goto (-43), 3) := by decide +kernel
theorem dX6_laysRuns_60 : decode cX6_laysRuns 60 = .ok (.aload_n 0, 1) := by decide +kernel
theorem dX6_laysRuns_61 : decode cX6_laysRuns 61 = .ok (.iload_n 3, 1) := by decide +kernel
theorem dX6_laysRuns_62 : decode cX6_laysRuns 62 = .ok (.invokevirtual 240, 3) := by decide +kernel
theorem dX6_laysRuns_65 : decode cX6_laysRuns 65 = .ok (.aload_n 0, 1) := by decide +kernel
theorem dX6_laysRuns_66 : decode cX6_laysRuns 66 = .ok (.aload_n 0, 1) := by decide +kernel
theorem dX6_laysRuns_67 : decode cX6_laysRuns 67 = .ok (.getfield 7, 3) := by decide +kernel
theorem dX6_laysRuns_70 : decode cX6_laysRuns 70 = .ok (.iload_n 1, 1) := by decide +kernel
theorem dX6_laysRuns_71 : decode cX6_laysRuns 71 = .ok (.iaload, 1) := by decide +kernel
theorem dX6_laysRuns_72 : decode cX6_laysRuns 72 = .ok (.aload_n 0, 1) := by decide +kernel
theorem dX6_laysRuns_73 : decode cX6_laysRuns 73 = .ok (.getfield 23, 3) := by decide +kernel
theorem dX6_laysRuns_76 : decode cX6_laysRuns 76 = .ok (.bipush 12, 2) := by decide +kernel
theorem dX6_laysRuns_78 : decode cX6_laysRuns 78 = .ok (.iload_n 1, 1) := by decide +kernel
theorem dX6_laysRuns_79 : decode cX6_laysRuns 79 = .ok (.imul, 1) := by decide +kernel
theorem dX6_laysRuns_80 : decode cX6_laysRuns 80 = .ok (.iload_n 2, 1) := by decide +kernel
theorem dX6_laysRuns_81 : decode cX6_laysRuns 81 = .ok (.iadd, 1) := by decide +kernel
theorem dX6_laysRuns_82 : decode cX6_laysRuns 82 = .ok (.laload, 1) := by decide +kernel
theorem dX6_laysRuns_83 : decode cX6_laysRuns 83 = .ok (.invokevirtual 250, 3) := by decide +kernel
theorem dX6_laysRuns_86 : decode cX6_laysRuns 86 = .ok (.iload_n 2, 1) := by decide +kernel
theorem dX6_laysRuns_87 : decode cX6_laysRuns 87 = .ok (.iload_n 3, 1) := by decide +kernel
theorem dX6_laysRuns_88 : decode cX6_laysRuns 88 = .ok (.iadd, 1) := by decide +kernel
theorem dX6_laysRuns_89 : decode cX6_laysRuns 89 = .ok (.istore_n 2, 1) := by decide +kernel
theorem dX6_laysRuns_90 : decode cX6_laysRuns 90 = .ok (.goto (-88), 3) := by decide +kernel
theorem dX6_laysRuns_93 : decode cX6_laysRuns 93 = .ok (.return_, 1) := by decide +kernel
theorem dX6_laysPlain_0 : decode cX6_laysPlain 0 = .ok (.iload_n 2, 1) := by decide +kernel
theorem dX6_laysPlain_1 : decode cX6_laysPlain 1 = .ok (.iconst 1, 1) := by decide +kernel
theorem dX6_laysPlain_2 : decode cX6_laysPlain 2 = .ok (.if_icmp .ne 9, 3) := by decide +kernel
theorem dX6_laysPlain_5 : decode cX6_laysPlain 5 = .ok (.aload_n 0, 1) := by decide +kernel
theorem dX6_laysPlain_6 : decode cX6_laysPlain 6 = .ok (.iload_n 1, 1) := by decide +kernel
theorem dX6_laysPlain_7 : decode cX6_laysPlain 7 = .ok (.invokevirtual 254, 3) := by decide +kernel
theorem dX6_laysPlain_10 : decode cX6_laysPlain 10 = .ok (.return_, 1) := by decide +kernel
theorem dX6_laysPlain_11 : decode cX6_laysPlain 11 = .ok (.iconst 0, 1) := by decide +kernel
theorem dX6_laysPlain_12 : decode cX6_laysPlain 12 = .ok (.istore_n 3, 1) := by decide +kernel
theorem dX6_laysPlain_13 : decode cX6_laysPlain 13 = .ok (.iload_n 3, 1) := by decide +kernel
theorem dX6_laysPlain_14 : decode cX6_laysPlain 14 = .ok (.aload_n 0, 1) := by decide +kernel
theorem dX6_laysPlain_15 : decode cX6_laysPlain 15 = .ok (.getfield 13, 3) := by decide +kernel
theorem dX6_laysPlain_18 : decode cX6_laysPlain 18 = .ok (.iload_n 1, 1) := by decide +kernel
theorem dX6_laysPlain_19 : decode cX6_laysPlain 19 = .ok (.iaload, 1) := by decide +kernel
theorem dX6_laysPlain_20 : decode cX6_laysPlain 20 = .ok (.if_icmp .ge 83, 3) := by decide +kernel
theorem dX6_laysPlain_23 : decode cX6_laysPlain 23 = .ok (.iload_n 2, 1) := by decide +kernel
theorem dX6_laysPlain_24 : decode cX6_laysPlain 24 = .ok (.iconst 2, 1) := by decide +kernel
theorem dX6_laysPlain_25 : decode cX6_laysPlain 25 = .ok (.if_icmp .ne 51, 3) := by decide +kernel
theorem dX6_laysPlain_28 : decode cX6_laysPlain 28 = .ok (.aload_n 0, 1) := by decide +kernel
theorem dX6_laysPlain_29 : decode cX6_laysPlain 29 = .ok (.iload_n 3, 1) := by decide +kernel
theorem dX6_laysPlain_30 : decode cX6_laysPlain 30 = .ok (.ifCond .ne 15, 3) := by decide +kernel
theorem dX6_laysPlain_33 : decode cX6_laysPlain 33 = .ok (.aload_n 0, 1) := by decide +kernel
theorem dX6_laysPlain_34 : decode cX6_laysPlain 34 = .ok (.getfield 23, 3) := by decide +kernel
theorem dX6_laysPlain_37 : decode cX6_laysPlain 37 = .ok (.bipush 12, 2) := by decide +kernel
theorem dX6_laysPlain_39 : decode cX6_laysPlain 39 = .ok (.iload_n 1, 1) := by decide +kernel
theorem dX6_laysPlain_40 : decode cX6_laysPlain 40 = .ok (.imul, 1) := by decide +kernel
theorem dX6_laysPlain_41 : decode cX6_laysPlain 41 = .ok (.laload, 1) := by decide +kernel
theorem dX6_laysPlain_42 : decode cX6_laysPlain 42 = .ok (.goto 28, 3) := by decide +kernel
theorem dX6_laysPlain_45 : decode cX6_laysPlain 45 = .ok (.aload_n 0, 1) := by decide +kernel
theorem dX6_laysPlain_46 : decode cX6_laysPlain 46 = .ok (.getfield 23, 3) := by decide +kernel
theorem dX6_laysPlain_49 : decode cX6_laysPlain 49 = .ok (.bipush 12, 2) := by decide +kernel
theorem dX6_laysPlain_51 : decode cX6_laysPlain 51 = .ok (.iload_n 1, 1) := by decide +kernel
theorem dX6_laysPlain_52 : decode cX6_laysPlain 52 = .ok (.imul, 1) := by decide +kernel
theorem dX6_laysPlain_53 : decode cX6_laysPlain 53 = .ok (.iload_n 3, 1) := by decide +kernel
theorem dX6_laysPlain_54 : decode cX6_laysPlain 54 = .ok (.iadd, 1) := by decide +kernel
theorem dX6_laysPlain_55 : decode cX6_laysPlain 55 = .ok (.laload, 1) := by decide +kernel
theorem dX6_laysPlain_56 : decode cX6_laysPlain 56 = .ok (.aload_n 0, 1) := by decide +kernel
theorem dX6_laysPlain_57 : decode cX6_laysPlain 57 = .ok (.getfield 23, 3) := by decide +kernel
theorem dX6_laysPlain_60 : decode cX6_laysPlain 60 = .ok (.bipush 12, 2) := by decide +kernel
theorem dX6_laysPlain_62 : decode cX6_laysPlain 62 = .ok (.iload_n 1, 1) := by decide +kernel
theorem dX6_laysPlain_63 : decode cX6_laysPlain 63 = .ok (.imul, 1) := by decide +kernel
theorem dX6_laysPlain_64 : decode cX6_laysPlain 64 = .ok (.iload_n 3, 1) := by decide +kernel
theorem dX6_laysPlain_65 : decode cX6_laysPlain 65 = .ok (.iadd, 1) := by decide +kernel
theorem dX6_laysPlain_66 : decode cX6_laysPlain 66 = .ok (.iconst 1, 1) := by decide +kernel
theorem dX6_laysPlain_67 : decode cX6_laysPlain 67 = .ok (.isub, 1) := by decide +kernel
theorem dX6_laysPlain_68 : decode cX6_laysPlain 68 = .ok (.laload, 1) := by decide +kernel
theorem dX6_laysPlain_69 : decode cX6_laysPlain 69 = .ok (.lsub, 1) := by decide +kernel
theorem dX6_laysPlain_70 : decode cX6_laysPlain 70 = .ok (.invokevirtual 257, 3) := by decide +kernel
theorem dX6_laysPlain_73 : decode cX6_laysPlain 73 = .ok (.goto 24, 3) := by decide +kernel
theorem dX6_laysPlain_76 : decode cX6_laysPlain 76 = .ok (.aload_n 0, 1) := by decide +kernel
theorem dX6_laysPlain_77 : decode cX6_laysPlain 77 = .ok (.aload_n 0, 1) := by decide +kernel
theorem dX6_laysPlain_78 : decode cX6_laysPlain 78 = .ok (.getfield 7, 3) := by decide +kernel
theorem dX6_laysPlain_81 : decode cX6_laysPlain 81 = .ok (.iload_n 1, 1) := by decide +kernel
theorem dX6_laysPlain_82 : decode cX6_laysPlain 82 = .ok (.iaload, 1) := by decide +kernel
theorem dX6_laysPlain_83 : decode cX6_laysPlain 83 = .ok (.aload_n 0, 1) := by decide +kernel
theorem dX6_laysPlain_84 : decode cX6_laysPlain 84 = .ok (.getfield 23, 3) := by decide +kernel
theorem dX6_laysPlain_87 : decode cX6_laysPlain 87 = .ok (.bipush 12, 2) := by decide +kernel
theorem dX6_laysPlain_89 : decode cX6_laysPlain 89 = .ok (.iload_n 1, 1) := by decide +kernel
theorem dX6_laysPlain_90 : decode cX6_laysPlain 90 = .ok (.imul, 1) := by decide +kernel
theorem dX6_laysPlain_91 : decode cX6_laysPlain 91 = .ok (.iload_n 3, 1) := by decide +kernel
theorem dX6_laysPlain_92 : decode cX6_laysPlain 92 = .ok (.iadd, 1) := by decide +kernel
theorem dX6_laysPlain_93 : decode cX6_laysPlain 93 = .ok (.laload, 1) := by decide +kernel
theorem dX6_laysPlain_94 : decode cX6_laysPlain 94 = .ok (.invokevirtual 250, 3) := by decide +kernel
theorem dX6_laysPlain_97 : decode cX6_laysPlain 97 = .ok (.iinc 3 1, 3) := by decide +kernel
theorem dX6_laysPlain_100 : decode cX6_laysPlain 100 = .ok (.goto (-87), 3) := by decide +kernel
theorem dX6_laysPlain_103 : decode cX6_laysPlain 103 = .ok (.return_, 1) := by decide +kernel
theorem dX6_laysRow_0 : decode cX6_laysRow 0 = .ok (.aload_n 0, 1) := by decide +kernel
theorem dX6_laysRow_1 : decode cX6_laysRow 1 = .ok (.getfield 42, 3) := by decide +kernel
theorem dX6_laysRow_4 : decode cX6_laysRow 4 = .ok (.iload_n 1, 1) := by decide +kernel
theorem dX6_laysRow_5 : decode cX6_laysRow 5 = .ok (.aload_n 0, 1) := by decide +kernel
theorem dX6_laysRow_6 : decode cX6_laysRow 6 = .ok (.getfield 261, 3) := by decide +kernel
theorem dX6_laysRow_9 : decode cX6_laysRow 9 = .ok (.iastore, 1) := by decide +kernel
theorem dX6_laysRow_10 : decode cX6_laysRow 10 = .ok (.aload_n 0, 1) := by decide +kernel
theorem dX6_laysRow_11 : decode cX6_laysRow 11 = .ok (.getfield 45, 3) := by decide +kernel
theorem dX6_laysRow_14 : decode cX6_laysRow 14 = .ok (.aload_n 0, 1) := by decide +kernel
theorem dX6_laysRow_15 : decode cX6_laysRow 15 = .ok (.getfield 261, 3) := by decide +kernel
theorem dX6_laysRow_18 : decode cX6_laysRow 18 = .ok (.iload_n 1, 1) := by decide +kernel
theorem dX6_laysRow_19 : decode cX6_laysRow 19 = .ok (.iastore, 1) := by decide +kernel
theorem dX6_laysRow_20 : decode cX6_laysRow 20 = .ok (.aload_n 0, 1) := by decide +kernel
theorem dX6_laysRow_21 : decode cX6_laysRow 21 = .ok (.dup, 1) := by decide +kernel
theorem dX6_laysRow_22 : decode cX6_laysRow 22 = .ok (.getfield 261, 3) := by decide +kernel
theorem dX6_laysRow_25 : decode cX6_laysRow 25 = .ok (.iconst 1, 1) := by decide +kernel
theorem dX6_laysRow_26 : decode cX6_laysRow 26 = .ok (.iadd, 1) := by decide +kernel
theorem dX6_laysRow_27 : decode cX6_laysRow 27 = .ok (.putfield 261, 3) := by decide +kernel
theorem dX6_laysRow_30 : decode cX6_laysRow 30 = .ok (.aload_n 0, 1) := by decide +kernel
theorem dX6_laysRow_31 : decode cX6_laysRow 31 = .ok (.iload_n 1, 1) := by decide +kernel
theorem dX6_laysRow_32 : decode cX6_laysRow 32 = .ok (.invokevirtual 183, 3) := by decide +kernel
theorem dX6_laysRow_35 : decode cX6_laysRow 35 = .ok (.ifCond .eq 7, 3) := by decide +kernel
theorem dX6_laysRow_38 : decode cX6_laysRow 38 = .ok (.iload_n 2, 1) := by decide +kernel
theorem dX6_laysRow_39 : decode cX6_laysRow 39 = .ok (.goto 4, 3) := by decide +kernel
theorem dX6_laysRow_42 : decode cX6_laysRow 42 = .ok (.iconst 0, 1) := by decide +kernel
theorem dX6_laysRow_43 : decode cX6_laysRow 43 = .ok (.istore_n 3, 1) := by decide +kernel
theorem dX6_laysRow_44 : decode cX6_laysRow 44 = .ok (.iload_n 3, 1) := by decide +kernel
theorem dX6_laysRow_45 : decode cX6_laysRow 45 = .ok (.iconst 2, 1) := by decide +kernel
theorem dX6_laysRow_46 : decode cX6_laysRow 46 = .ok (.if_icmp .ne 24, 3) := by decide +kernel
theorem dX6_laysRow_49 : decode cX6_laysRow 49 = .ok (.aload_n 0, 1) := by decide +kernel
theorem dX6_laysRow_50 : decode cX6_laysRow 50 = .ok (.getfield 7, 3) := by decide +kernel
theorem dX6_laysRow_53 : decode cX6_laysRow 53 = .ok (.iload_n 1, 1) := by decide +kernel
theorem dX6_laysRow_54 : decode cX6_laysRow 54 = .ok (.iaload, 1) := by decide +kernel
theorem dX6_laysRow_55 : decode cX6_laysRow 55 = .ok (.ifCond .eq 13, 3) := by decide +kernel
theorem dX6_laysRow_58 : decode cX6_laysRow 58 = .ok (.aload_n 0, 1) := by decide +kernel
theorem dX6_laysRow_59 : decode cX6_laysRow 59 = .ok (.getfield 7, 3) := by decide +kernel
theorem dX6_laysRow_62 : decode cX6_laysRow 62 = .ok (.iload_n 1, 1) := by decide +kernel
theorem dX6_laysRow_63 : decode cX6_laysRow 63 = .ok (.iaload, 1) := by decide +kernel
theorem dX6_laysRow_64 : decode cX6_laysRow 64 = .ok (.iconst 5, 1) := by decide +kernel
theorem dX6_laysRow_65 : decode cX6_laysRow 65 = .ok (.if_icmp .le 5, 3) := by decide +kernel
theorem dX6_laysRow_68 : decode cX6_laysRow 68 = .ok (.iconst 0, 1) := by decide +kernel
theorem dX6_laysRow_69 : decode cX6_laysRow 69 = .ok (.istore_n 3, 1) := by decide +kernel
theorem dX6_laysRow_70 : decode cX6_laysRow 70 = .ok (.aload_n 0, 1) := by decide +kernel
theorem dX6_laysRow_71 : decode cX6_laysRow 71 = .ok (.bipush 16, 2) := by decide +kernel
theorem dX6_laysRow_73 : decode cX6_laysRow 73 = .ok (.bipush 16, 2) := by decide +kernel
theorem dX6_laysRow_75 : decode cX6_laysRow 75 = .ok (.iload_n 3, 1) := by decide +kernel
theorem dX6_laysRow_76 : decode cX6_laysRow 76 = .ok (.imul, 1) := by decide +kernel
theorem dX6_laysRow_77 : decode cX6_laysRow 77 = .ok (.iadd, 1) := by decide +kernel
theorem dX6_laysRow_78 : decode cX6_laysRow 78 = .ok (.aload_n 0, 1) := by decide +kernel
theorem dX6_laysRow_79 : decode cX6_laysRow 79 = .ok (.getfield 7, 3) := by decide +kernel
theorem dX6_laysRow_82 : decode cX6_laysRow 82 = .ok (.iload_n 1, 1) := by decide +kernel
theorem dX6_laysRow_83 : decode cX6_laysRow 83 = .ok (.iaload, 1) := by decide +kernel
theorem dX6_laysRow_84 : decode cX6_laysRow 84 = .ok (.iadd, 1) := by decide +kernel
theorem dX6_laysRow_85 : decode cX6_laysRow 85 = .ok (.invokevirtual 240, 3) := by decide +kernel
theorem dX6_laysRow_88 : decode cX6_laysRow 88 = .ok (.aload_n 0, 1) := by decide +kernel
theorem dX6_laysRow_89 : decode cX6_laysRow 89 = .ok (.aload_n 0, 1) := by decide +kernel
theorem dX6_laysRow_90 : decode cX6_laysRow 90 = .ok (.getfield 13, 3) := by decide +kernel
theorem dX6_laysRow_93 : decode cX6_laysRow 93 = .ok (.iload_n 1, 1) := by decide +kernel
theorem dX6_laysRow_94 : decode cX6_laysRow 94 = .ok (.iaload, 1) := by decide +kernel
theorem dX6_laysRow_95 : decode cX6_laysRow 95 = .ok (.invokevirtual 240, 3) := by decide +kernel
theorem dX6_laysRow_98 : decode cX6_laysRow 98 = .ok (.aload_n 0, 1) := by decide +kernel
theorem dX6_laysRow_99 : decode cX6_laysRow 99 = .ok (.iload_n 1, 1) := by decide +kernel
theorem dX6_laysRow_100 : decode cX6_laysRow 100 = .ok (.invokevirtual 183, 3) := by decide +kernel
theorem dX6_laysRow_103 : decode cX6_laysRow 103 = .ok (.ifCond .eq 12, 3) := by decide +kernel
theorem dX6_laysRow_106 : decode cX6_laysRow 106 = .ok (.aload_n 0, 1) := by decide +kernel
theorem dX6_laysRow_107 : decode cX6_laysRow 107 = .ok (.iload_n 1, 1) := by decide +kernel
theorem dX6_laysRow_108 : decode cX6_laysRow 108 = .ok (.iload_n 3, 1) := by decide +kernel
theorem dX6_laysRow_109 : decode cX6_laysRow 109 = .ok (.invokevirtual 264, 3) := by decide +kernel
theorem dX6_laysRow_112 : decode cX6_laysRow 112 = .ok (.goto 33, 3) := by decide +kernel
theorem dX6_laysRow_115 : decode cX6_laysRow 115 = .ok (.aload_n 0, 1) := by decide +kernel
theorem dX6_laysRow_116 : decode cX6_laysRow 116 = .ok (.getfield 48, 3) := by decide +kernel
theorem dX6_laysRow_119 : decode cX6_laysRow 119 = .ok (.aload_n 0, 1) := by decide +kernel
theorem dX6_laysRow_120 : decode cX6_laysRow 120 = .ok (.getfield 267, 3) := by decide +kernel
theorem dX6_laysRow_123 : decode cX6_laysRow 123 = .ok (.iload_n 1, 1) := by decide +kernel
theorem dX6_laysRow_124 : decode cX6_laysRow 124 = .ok (.iastore, 1) := by decide +kernel
theorem dX6_laysRow_125 : decode cX6_laysRow 125 = .ok (.aload_n 0, 1) := by decide +kernel
theorem dX6_laysRow_126 : decode cX6_laysRow 126 = .ok (.getfield 51, 3) := by decide +kernel
theorem dX6_laysRow_129 : decode cX6_laysRow 129 = .ok (.aload_n 0, 1) := by decide +kernel
theorem dX6_laysRow_130 : decode cX6_laysRow 130 = .ok (.getfield 267, 3) := by decide +kernel
theorem dX6_laysRow_133 : decode cX6_laysRow 133 = .ok (.iconst 0, 1) := by decide +kernel
theorem dX6_laysRow_134 : decode cX6_laysRow 134 = .ok (.iastore, 1) := by decide +kernel
theorem dX6_laysRow_135 : decode cX6_laysRow 135 = .ok (.aload_n 0, 1) := by decide +kernel
theorem dX6_laysRow_136 : decode cX6_laysRow 136 = .ok (.dup, 1) := by decide +kernel
theorem dX6_laysRow_137 : decode cX6_laysRow 137 = .ok (.getfield 267, 3) := by decide +kernel
theorem dX6_laysRow_140 : decode cX6_laysRow 140 = .ok (.iconst 1, 1) := by decide +kernel
theorem dX6_laysRow_141 : decode cX6_laysRow 141 = .ok (.iadd, 1) := by decide +kernel
theorem dX6_laysRow_142 : decode cX6_laysRow 142 = .ok (.putfield 267, 3) := by decide +kernel
theorem dX6_laysRow_145 : decode cX6_laysRow 145 = .ok (.return_, 1) := by decide +kernel
theorem dX6_laysCell_0 : decode cX6_laysCell 0 = .ok (.iload_n 1, 1) := by decide +kernel
theorem dX6_laysCell_1 : decode cX6_laysCell 1 = .ok (.bipush 8, 2) := by decide +kernel
theorem dX6_laysCell_3 : decode cX6_laysCell 3 = .ok (.if_icmp .ge 17, 3) := by decide +kernel
theorem dX6_laysCell_6 : decode cX6_laysCell 6 = .ok (.aload_n 0, 1) := by decide +kernel
theorem dX6_laysCell_7 : decode cX6_laysCell 7 = .ok (.iload_n 1, 1) := by decide +kernel
theorem dX6_laysCell_8 : decode cX6_laysCell 8 = .ok (.invokevirtual 240, 3) := by decide +kernel
theorem dX6_laysCell_11 : decode cX6_laysCell 11 = .ok (.aload_n 0, 1) := by decide +kernel
theorem dX6_laysCell_12 : decode cX6_laysCell 12 = .ok (.iload_n 1, 1) := by decide +kernel
theorem dX6_laysCell_13 : decode cX6_laysCell 13 = .ok (.lload_n 2, 1) := by decide +kernel
theorem dX6_laysCell_14 : decode cX6_laysCell 14 = .ok (.invokevirtual 250, 3) := by decide +kernel
theorem dX6_laysCell_17 : decode cX6_laysCell 17 = .ok (.goto 91, 3) := by decide +kernel
theorem dX6_laysCell_20 : decode cX6_laysCell 20 = .ok (.iload_n 1, 1) := by decide +kernel
theorem dX6_laysCell_21 : decode cX6_laysCell 21 = .ok (.bipush 8, 2) := by decide +kernel
theorem dX6_laysCell_23 : decode cX6_laysCell 23 = .ok (.if_icmp .ne 11, 3) := by decide +kernel
theorem dX6_laysCell_26 : decode cX6_laysCell 26 = .ok (.aload_n 0, 1) := by decide +kernel
theorem dX6_laysCell_27 : decode cX6_laysCell 27 = .ok (.lload_n 2, 1) := by decide +kernel
theorem dX6_laysCell_28 : decode cX6_laysCell 28 = .ok (.invokevirtual 270, 3) := by decide +kernel
theorem dX6_laysCell_31 : decode cX6_laysCell 31 = .ok (.goto 77, 3) := by decide +kernel
theorem dX6_laysCell_34 : decode cX6_laysCell 34 = .ok (.iload_n 1, 1) := by decide +kernel
theorem dX6_laysCell_35 : decode cX6_laysCell 35 = .ok (.bipush 9, 2) := by decide +kernel
theorem dX6_laysCell_37 : decode cX6_laysCell 37 = .ok (.if_icmp .ne 18, 3) := by decide +kernel
theorem dX6_laysCell_40 : decode cX6_laysCell 40 = .ok (.aload_n 0, 1) := by decide +kernel
theorem dX6_laysCell_41 : decode cX6_laysCell 41 = .ok (.bipush 9, 2) := by decide +kernel
theorem dX6_laysCell_43 : decode cX6_laysCell 43 = .ok (.invokevirtual 240, 3) := by decide +kernel
theorem dX6_laysCell_46 : decode cX6_laysCell 46 = .ok (.aload_n 0, 1) := by decide +kernel
theorem dX6_laysCell_47 : decode cX6_laysCell 47 = .ok (.lload_n 2, 1) := by decide +kernel
theorem dX6_laysCell_48 : decode cX6_laysCell 48 = .ok (.l2i, 1) := by decide +kernel
theorem dX6_laysCell_49 : decode cX6_laysCell 49 = .ok (.invokevirtual 240, 3) := by decide +kernel
theorem dX6_laysCell_52 : decode cX6_laysCell 52 = .ok (.goto 56, 3) := by decide +kernel
theorem dX6_laysCell_55 : decode cX6_laysCell 55 = .ok (.iload_n 1, 1) := by decide +kernel
theorem dX6_laysCell_56 : decode cX6_laysCell 56 = .ok (.bipush 11, 2) := by decide +kernel
theorem dX6_laysCell_58 : decode cX6_laysCell 58 = .ok (.if_icmp .ne 12, 3) := by decide +kernel
theorem dX6_laysCell_61 : decode cX6_laysCell 61 = .ok (.aload_n 0, 1) := by decide +kernel
theorem dX6_laysCell_62 : decode cX6_laysCell 62 = .ok (.bipush 11, 2) := by decide +kernel
theorem dX6_laysCell_64 : decode cX6_laysCell 64 = .ok (.invokevirtual 240, 3) := by decide +kernel
theorem dX6_laysCell_67 : decode cX6_laysCell 67 = .ok (.goto 41, 3) := by decide +kernel
theorem dX6_laysCell_70 : decode cX6_laysCell 70 = .ok (.aload_n 0, 1) := by decide +kernel
theorem dX6_laysCell_71 : decode cX6_laysCell 71 = .ok (.getfield 42, 3) := by decide +kernel
theorem dX6_laysCell_74 : decode cX6_laysCell 74 = .ok (.lload_n 2, 1) := by decide +kernel
theorem dX6_laysCell_75 : decode cX6_laysCell 75 = .ok (.l2i, 1) := by decide +kernel
theorem dX6_laysCell_76 : decode cX6_laysCell 76 = .ok (.iaload, 1) := by decide +kernel
theorem dX6_laysCell_77 : decode cX6_laysCell 77 = .ok (.ifCond .lt 23, 3) := by decide +kernel
theorem dX6_laysCell_80 : decode cX6_laysCell 80 = .ok (.aload_n 0, 1) := by decide +kernel
theorem dX6_laysCell_81 : decode cX6_laysCell 81 = .ok (.bipush 10, 2) := by decide +kernel
theorem dX6_laysCell_83 : decode cX6_laysCell 83 = .ok (.invokevirtual 240, 3) := by decide +kernel
theorem dX6_laysCell_86 : decode cX6_laysCell 86 = .ok (.aload_n 0, 1) := by decide +kernel
theorem dX6_laysCell_87 : decode cX6_laysCell 87 = .ok (.aload_n 0, 1) := by decide +kernel
theorem dX6_laysCell_88 : decode cX6_laysCell 88 = .ok (.getfield 42, 3) := by decide +kernel
theorem dX6_laysCell_91 : decode cX6_laysCell 91 = .ok (.lload_n 2, 1) := by decide +kernel
theorem dX6_laysCell_92 : decode cX6_laysCell 92 = .ok (.l2i, 1) := by decide +kernel
theorem dX6_laysCell_93 : decode cX6_laysCell 93 = .ok (.iaload, 1) := by decide +kernel
theorem dX6_laysCell_94 : decode cX6_laysCell 94 = .ok (.invokevirtual 240, 3) := by decide +kernel
theorem dX6_laysCell_97 : decode cX6_laysCell 97 = .ok (.goto 11, 3) := by decide +kernel
theorem dX6_laysCell_100 : decode cX6_laysCell 100 = .ok (.aload_n 0, 1) := by decide +kernel
theorem dX6_laysCell_101 : decode cX6_laysCell 101 = .ok (.lload_n 2, 1) := by decide +kernel
theorem dX6_laysCell_102 : decode cX6_laysCell 102 = .ok (.l2i, 1) := by decide +kernel
theorem dX6_laysCell_103 : decode cX6_laysCell 103 = .ok (.iload 4, 2) := by decide +kernel
theorem dX6_laysCell_105 : decode cX6_laysCell 105 = .ok (.invokevirtual 273, 3) := by decide +kernel
theorem dX6_laysCell_108 : decode cX6_laysCell 108 = .ok (.return_, 1) := by decide +kernel
theorem dX6_laysAll_0 : decode cX6_laysAll 0 = .ok (.aload_n 0, 1) := by decide +kernel
theorem dX6_laysAll_1 : decode cX6_laysAll 1 = .ok (.iconst 0, 1) := by decide +kernel
theorem dX6_laysAll_2 : decode cX6_laysAll 2 = .ok (.putfield 235, 3) := by decide +kernel
theorem dX6_laysAll_5 : decode cX6_laysAll 5 = .ok (.aload_n 0, 1) := by decide +kernel
theorem dX6_laysAll_6 : decode cX6_laysAll 6 = .ok (.iconst 0, 1) := by decide +kernel
theorem dX6_laysAll_7 : decode cX6_laysAll 7 = .ok (.putfield 261, 3) := by decide +kernel
theorem dX6_laysAll_10 : decode cX6_laysAll 10 = .ok (.aload_n 0, 1) := by decide +kernel
theorem dX6_laysAll_11 : decode cX6_laysAll 11 = .ok (.iconst 0, 1) := by decide +kernel
theorem dX6_laysAll_12 : decode cX6_laysAll 12 = .ok (.putfield 267, 3) := by decide +kernel
theorem dX6_laysAll_15 : decode cX6_laysAll 15 = .ok (.iconst 0, 1) := by decide +kernel
theorem dX6_laysAll_16 : decode cX6_laysAll 16 = .ok (.istore_n 3, 1) := by decide +kernel
theorem dX6_laysAll_17 : decode cX6_laysAll 17 = .ok (.iload_n 3, 1) := by decide +kernel
theorem dX6_laysAll_18 : decode cX6_laysAll 18 = .ok (.bipush 24, 2) := by decide +kernel
theorem dX6_laysAll_20 : decode cX6_laysAll 20 = .ok (.if_icmp .ge 16, 3) := by decide +kernel
theorem dX6_laysAll_23 : decode cX6_laysAll 23 = .ok (.aload_n 0, 1) := by decide +kernel
theorem dX6_laysAll_24 : decode cX6_laysAll 24 = .ok (.getfield 42, 3) := by decide +kernel
theorem dX6_laysAll_27 : decode cX6_laysAll 27 = .ok (.iload_n 3, 1) := by decide +kernel
theorem dX6_laysAll_28 : decode cX6_laysAll 28 = .ok (.iconst (-1), 1) := by decide +kernel
theorem dX6_laysAll_29 : decode cX6_laysAll 29 = .ok (.iastore, 1) := by decide +kernel
theorem dX6_laysAll_30 : decode cX6_laysAll 30 = .ok (.iinc 3 1, 3) := by decide +kernel
theorem dX6_laysAll_33 : decode cX6_laysAll 33 = .ok (.goto (-16), 3) := by decide +kernel
theorem dX6_laysAll_36 : decode cX6_laysAll 36 = .ok (.aload_n 0, 1) := by decide +kernel
theorem dX6_laysAll_37 : decode cX6_laysAll 37 = .ok (.getfield 7, 3) := by decide +kernel
theorem dX6_laysAll_40 : decode cX6_laysAll 40 = .ok (.iload_n 1, 1) := by decide +kernel
theorem dX6_laysAll_41 : decode cX6_laysAll 41 = .ok (.iaload, 1) := by decide +kernel
theorem dX6_laysAll_42 : decode cX6_laysAll 42 = .ok (.bipush 15, 2) := by decide +kernel
theorem dX6_laysAll_44 : decode cX6_laysAll 44 = .ok (.if_icmp .ne 16, 3) := by decide +kernel
theorem dX6_laysAll_47 : decode cX6_laysAll 47 = .ok (.aload_n 0, 1) := by decide +kernel
theorem dX6_laysAll_48 : decode cX6_laysAll 48 = .ok (.aload_n 0, 1) := by decide +kernel
theorem dX6_laysAll_49 : decode cX6_laysAll 49 = .ok (.getfield 16, 3) := by decide +kernel
theorem dX6_laysAll_52 : decode cX6_laysAll 52 = .ok (.iload_n 1, 1) := by decide +kernel
theorem dX6_laysAll_53 : decode cX6_laysAll 53 = .ok (.laload, 1) := by decide +kernel
theorem dX6_laysAll_54 : decode cX6_laysAll 54 = .ok (.invokevirtual 270, 3) := by decide +kernel
theorem dX6_laysAll_57 : decode cX6_laysAll 57 = .ok (.goto 40, 3) := by decide +kernel
theorem dX6_laysAll_60 : decode cX6_laysAll 60 = .ok (.aload_n 0, 1) := by decide +kernel
theorem dX6_laysAll_61 : decode cX6_laysAll 61 = .ok (.getfield 7, 3) := by decide +kernel
theorem dX6_laysAll_64 : decode cX6_laysAll 64 = .ok (.iload_n 1, 1) := by decide +kernel
theorem dX6_laysAll_65 : decode cX6_laysAll 65 = .ok (.iaload, 1) := by decide +kernel
theorem dX6_laysAll_66 : decode cX6_laysAll 66 = .ok (.bipush 14, 2) := by decide +kernel
theorem dX6_laysAll_68 : decode cX6_laysAll 68 = .ok (.if_icmp .ne 23, 3) := by decide +kernel
theorem dX6_laysAll_71 : decode cX6_laysAll 71 = .ok (.aload_n 0, 1) := by decide +kernel
theorem dX6_laysAll_72 : decode cX6_laysAll 72 = .ok (.bipush 9, 2) := by decide +kernel
theorem dX6_laysAll_74 : decode cX6_laysAll 74 = .ok (.invokevirtual 240, 3) := by decide +kernel
theorem dX6_laysAll_77 : decode cX6_laysAll 77 = .ok (.aload_n 0, 1) := by decide +kernel
theorem dX6_laysAll_78 : decode cX6_laysAll 78 = .ok (.aload_n 0, 1) := by decide +kernel
theorem dX6_laysAll_79 : decode cX6_laysAll 79 = .ok (.getfield 16, 3) := by decide +kernel
theorem dX6_laysAll_82 : decode cX6_laysAll 82 = .ok (.iload_n 1, 1) := by decide +kernel
theorem dX6_laysAll_83 : decode cX6_laysAll 83 = .ok (.laload, 1) := by decide +kernel
theorem dX6_laysAll_84 : decode cX6_laysAll 84 = .ok (.l2i, 1) := by decide +kernel
theorem dX6_laysAll_85 : decode cX6_laysAll 85 = .ok (.invokevirtual 240, 3) := by decide +kernel
theorem dX6_laysAll_88 : decode cX6_laysAll 88 = .ok (.goto 9, 3) := by decide +kernel
theorem dX6_laysAll_91 : decode cX6_laysAll 91 = .ok (.aload_n 0, 1) := by decide +kernel
theorem dX6_laysAll_92 : decode cX6_laysAll 92 = .ok (.iload_n 1, 1) := by decide +kernel
theorem dX6_laysAll_93 : decode cX6_laysAll 93 = .ok (.iload_n 2, 1) := by decide +kernel
theorem dX6_laysAll_94 : decode cX6_laysAll 94 = .ok (.invokevirtual 273, 3) := by decide +kernel
theorem dX6_laysAll_97 : decode cX6_laysAll 97 = .ok (.aload_n 0, 1) := by decide +kernel
theorem dX6_laysAll_98 : decode cX6_laysAll 98 = .ok (.getfield 267, 3) := by decide +kernel
theorem dX6_laysAll_101 : decode cX6_laysAll 101 = .ok (.ifCond .le 99, 3) := by decide +kernel
theorem dX6_laysAll_104 : decode cX6_laysAll 104 = .ok (.aload_n 0, 1) := by decide +kernel
theorem dX6_laysAll_105 : decode cX6_laysAll 105 = .ok (.getfield 48, 3) := by decide +kernel
theorem dX6_laysAll_108 : decode cX6_laysAll 108 = .ok (.aload_n 0, 1) := by decide +kernel
theorem dX6_laysAll_109 : decode cX6_laysAll 109 = .ok (.getfield 267, 3) := by decide +kernel
theorem dX6_laysAll_112 : decode cX6_laysAll 112 = .ok (.iconst 1, 1) := by decide +kernel
theorem dX6_laysAll_113 : decode cX6_laysAll 113 = .ok (.isub, 1) := by decide +kernel
theorem dX6_laysAll_114 : decode cX6_laysAll 114 = .ok (.iaload, 1) := by decide +kernel
theorem dX6_laysAll_115 : decode cX6_laysAll 115 = .ok (.istore_n 3, 1) := by decide +kernel
theorem dX6_laysAll_116 : decode cX6_laysAll 116 = .ok (.aload_n 0, 1) := by decide +kernel
theorem dX6_laysAll_117 : decode cX6_laysAll 117 = .ok (.getfield 51, 3) := by decide +kernel
theorem dX6_laysAll_120 : decode cX6_laysAll 120 = .ok (.aload_n 0, 1) := by decide +kernel
theorem dX6_laysAll_121 : decode cX6_laysAll 121 = .ok (.getfield 267, 3) := by decide +kernel
theorem dX6_laysAll_124 : decode cX6_laysAll 124 = .ok (.iconst 1, 1) := by decide +kernel
theorem dX6_laysAll_125 : decode cX6_laysAll 125 = .ok (.isub, 1) := by decide +kernel
theorem dX6_laysAll_126 : decode cX6_laysAll 126 = .ok (.iaload, 1) := by decide +kernel
theorem dX6_laysAll_127 : decode cX6_laysAll 127 = .ok (.istore 4, 2) := by decide +kernel
theorem dX6_laysAll_129 : decode cX6_laysAll 129 = .ok (.iload 4, 2) := by decide +kernel
theorem dX6_laysAll_131 : decode cX6_laysAll 131 = .ok (.aload_n 0, 1) := by decide +kernel
theorem dX6_laysAll_132 : decode cX6_laysAll 132 = .ok (.getfield 13, 3) := by decide +kernel
theorem dX6_laysAll_135 : decode cX6_laysAll 135 = .ok (.iload_n 3, 1) := by decide +kernel
theorem dX6_laysAll_136 : decode cX6_laysAll 136 = .ok (.iaload, 1) := by decide +kernel
theorem dX6_laysAll_137 : decode cX6_laysAll 137 = .ok (.if_icmp .ne 16, 3) := by decide +kernel
theorem dX6_laysAll_140 : decode cX6_laysAll 140 = .ok (.aload_n 0, 1) := by decide +kernel
theorem dX6_laysAll_141 : decode cX6_laysAll 141 = .ok (.dup, 1) := by decide +kernel
theorem dX6_laysAll_142 : decode cX6_laysAll 142 = .ok (.getfield 267, 3) := by decide +kernel
theorem dX6_laysAll_145 : decode cX6_laysAll 145 = .ok (.iconst 1, 1) := by decide +kernel
theorem dX6_laysAll_146 : decode cX6_laysAll 146 = .ok (.isub, 1) := by decide +kernel
theorem dX6_laysAll_147 : decode cX6_laysAll 147 = .ok (.putfield 267, 3) := by decide +kernel
theorem dX6_laysAll_150 : decode cX6_laysAll 150 = .ok (.goto 47, 3) := by decide +kernel
theorem dX6_laysAll_153 : decode cX6_laysAll 153 = .ok (.aload_n 0, 1) := by decide +kernel
theorem dX6_laysAll_154 : decode cX6_laysAll 154 = .ok (.getfield 51, 3) := by decide +kernel
theorem dX6_laysAll_157 : decode cX6_laysAll 157 = .ok (.aload_n 0, 1) := by decide +kernel
theorem dX6_laysAll_158 : decode cX6_laysAll 158 = .ok (.getfield 267, 3) := by decide +kernel
theorem dX6_laysAll_161 : decode cX6_laysAll 161 = .ok (.iconst 1, 1) := by decide +kernel
theorem dX6_laysAll_162 : decode cX6_laysAll 162 = .ok (.isub, 1) := by decide +kernel
theorem dX6_laysAll_163 : decode cX6_laysAll 163 = .ok (.iload 4, 2) := by decide +kernel
theorem dX6_laysAll_165 : decode cX6_laysAll 165 = .ok (.iconst 1, 1) := by decide +kernel
theorem dX6_laysAll_166 : decode cX6_laysAll 166 = .ok (.iadd, 1) := by decide +kernel
theorem dX6_laysAll_167 : decode cX6_laysAll 167 = .ok (.iastore, 1) := by decide +kernel
theorem dX6_laysAll_168 : decode cX6_laysAll 168 = .ok (.aload_n 0, 1) := by decide +kernel
theorem dX6_laysAll_169 : decode cX6_laysAll 169 = .ok (.aload_n 0, 1) := by decide +kernel
theorem dX6_laysAll_170 : decode cX6_laysAll 170 = .ok (.getfield 20, 3) := by decide +kernel
theorem dX6_laysAll_173 : decode cX6_laysAll 173 = .ok (.bipush 12, 2) := by decide +kernel
theorem dX6_laysAll_175 : decode cX6_laysAll 175 = .ok (.iload_n 3, 1) := by decide +kernel
theorem dX6_laysAll_176 : decode cX6_laysAll 176 = .ok (.imul, 1) := by decide +kernel
theorem dX6_laysAll_177 : decode cX6_laysAll 177 = .ok (.iload 4, 2) := by decide +kernel
theorem dX6_laysAll_179 : decode cX6_laysAll 179 = .ok (.iadd, 1) := by decide +kernel
theorem dX6_laysAll_180 : decode cX6_laysAll 180 = .ok (.iaload, 1) := by decide +kernel
theorem dX6_laysAll_181 : decode cX6_laysAll 181 = .ok (.aload_n 0, 1) := by decide +kernel
theorem dX6_laysAll_182 : decode cX6_laysAll 182 = .ok (.getfield 23, 3) := by decide +kernel
theorem dX6_laysAll_185 : decode cX6_laysAll 185 = .ok (.bipush 12, 2) := by decide +kernel
theorem dX6_laysAll_187 : decode cX6_laysAll 187 = .ok (.iload_n 3, 1) := by decide +kernel
theorem dX6_laysAll_188 : decode cX6_laysAll 188 = .ok (.imul, 1) := by decide +kernel
theorem dX6_laysAll_189 : decode cX6_laysAll 189 = .ok (.iload 4, 2) := by decide +kernel
theorem dX6_laysAll_191 : decode cX6_laysAll 191 = .ok (.iadd, 1) := by decide +kernel
theorem dX6_laysAll_192 : decode cX6_laysAll 192 = .ok (.laload, 1) := by decide +kernel
theorem dX6_laysAll_193 : decode cX6_laysAll 193 = .ok (.iload_n 2, 1) := by decide +kernel
theorem dX6_laysAll_194 : decode cX6_laysAll 194 = .ok (.invokevirtual 276, 3) := by decide +kernel
theorem dX6_laysAll_197 : decode cX6_laysAll 197 = .ok (.goto (-100), 3) := by decide +kernel
theorem dX6_laysAll_200 : decode cX6_laysAll 200 = .ok (.aload_n 0, 1) := by decide +kernel
theorem dX6_laysAll_201 : decode cX6_laysAll 201 = .ok (.getfield 235, 3) := by decide +kernel
theorem dX6_laysAll_204 : decode cX6_laysAll 204 = .ok (.ireturn, 1) := by decide +kernel
theorem dX6_holds_0 : decode cX6_holds 0 = .ok (.aload_n 0, 1) := by decide +kernel
theorem dX6_holds_1 : decode cX6_holds 1 = .ok (.aload_n 0, 1) := by decide +kernel
theorem dX6_holds_2 : decode cX6_holds 2 = .ok (.getfield 235, 3) := by decide +kernel
theorem dX6_holds_5 : decode cX6_holds 5 = .ok (.putfield 280, 3) := by decide +kernel
theorem dX6_holds_8 : decode cX6_holds 8 = .ok (.iconst 0, 1) := by decide +kernel
theorem dX6_holds_9 : decode cX6_holds 9 = .ok (.istore_n 1, 1) := by decide +kernel
theorem dX6_holds_10 : decode cX6_holds 10 = .ok (.iload_n 1, 1) := by decide +kernel
theorem dX6_holds_11 : decode cX6_holds 11 = .ok (.aload_n 0, 1) := by decide +kernel
theorem dX6_holds_12 : decode cX6_holds 12 = .ok (.getfield 235, 3) := by decide +kernel
theorem dX6_holds_15 : decode cX6_holds 15 = .ok (.if_icmp .ge 21, 3) := by decide +kernel
theorem dX6_holds_18 : decode cX6_holds 18 = .ok (.aload_n 0, 1) := by decide +kernel
theorem dX6_holds_19 : decode cX6_holds 19 = .ok (.getfield 39, 3) := by decide +kernel
theorem dX6_holds_22 : decode cX6_holds 22 = .ok (.iload_n 1, 1) := by decide +kernel
theorem dX6_holds_23 : decode cX6_holds 23 = .ok (.aload_n 0, 1) := by decide +kernel
theorem dX6_holds_24 : decode cX6_holds 24 = .ok (.getfield 36, 3) := by decide +kernel
theorem dX6_holds_27 : decode cX6_holds 27 = .ok (.iload_n 1, 1) := by decide +kernel
theorem dX6_holds_28 : decode cX6_holds 28 = .ok (.iaload, 1) := by decide +kernel
theorem dX6_holds_29 : decode cX6_holds 29 = .ok (.iastore, 1) := by decide +kernel
theorem dX6_holds_30 : decode cX6_holds 30 = .ok (.iinc 1 1, 3) := by decide +kernel
theorem dX6_holds_33 : decode cX6_holds 33 = .ok (.goto (-23), 3) := by decide +kernel
theorem dX6_holds_36 : decode cX6_holds 36 = .ok (.return_, 1) := by decide +kernel
theorem dX6_unlike_0 : decode cX6_unlike 0 = .ok (.aload_n 0, 1) := by decide +kernel
theorem dX6_unlike_1 : decode cX6_unlike 1 = .ok (.getfield 235, 3) := by decide +kernel
theorem dX6_unlike_4 : decode cX6_unlike 4 = .ok (.aload_n 0, 1) := by decide +kernel
theorem dX6_unlike_5 : decode cX6_unlike 5 = .ok (.getfield 280, 3) := by decide +kernel
theorem dX6_unlike_8 : decode cX6_unlike 8 = .ok (.if_icmp .ge 10, 3) := by decide +kernel
theorem dX6_unlike_11 : decode cX6_unlike 11 = .ok (.aload_n 0, 1) := by decide +kernel
theorem dX6_unlike_12 : decode cX6_unlike 12 = .ok (.getfield 235, 3) := by decide +kernel
theorem dX6_unlike_15 : decode cX6_unlike 15 = .ok (.goto 7, 3) := by decide +kernel
theorem dX6_unlike_18 : decode cX6_unlike 18 = .ok (.aload_n 0, 1) := by decide +kernel
theorem dX6_unlike_19 : decode cX6_unlike 19 = .ok (.getfield 280, 3) := by decide +kernel
theorem dX6_unlike_22 : decode cX6_unlike 22 = .ok (.istore_n 1, 1) := by decide +kernel
theorem dX6_unlike_23 : decode cX6_unlike 23 = .ok (.iconst 0, 1) := by decide +kernel
theorem dX6_unlike_24 : decode cX6_unlike 24 = .ok (.istore_n 2, 1) := by decide +kernel
theorem dX6_unlike_25 : decode cX6_unlike 25 = .ok (.iload_n 2, 1) := by decide +kernel
theorem dX6_unlike_26 : decode cX6_unlike 26 = .ok (.iload_n 1, 1) := by decide +kernel
theorem dX6_unlike_27 : decode cX6_unlike 27 = .ok (.if_icmp .ge 26, 3) := by decide +kernel
theorem dX6_unlike_30 : decode cX6_unlike 30 = .ok (.aload_n 0, 1) := by decide +kernel
theorem dX6_unlike_31 : decode cX6_unlike 31 = .ok (.getfield 36, 3) := by decide +kernel
theorem dX6_unlike_34 : decode cX6_unlike 34 = .ok (.iload_n 2, 1) := by decide +kernel
theorem dX6_unlike_35 : decode cX6_unlike 35 = .ok (.iaload, 1) := by decide +kernel
theorem dX6_unlike_36 : decode cX6_unlike 36 = .ok (.aload_n 0, 1) := by decide +kernel
theorem dX6_unlike_37 : decode cX6_unlike 37 = .ok (.getfield 39, 3) := by decide +kernel
theorem dX6_unlike_40 : decode cX6_unlike 40 = .ok (.iload_n 2, 1) := by decide +kernel
theorem dX6_unlike_41 : decode cX6_unlike 41 = .ok (.iaload, 1) := by decide +kernel
theorem dX6_unlike_42 : decode cX6_unlike 42 = .ok (.if_icmp .eq 5, 3) := by decide +kernel
theorem dX6_unlike_45 : decode cX6_unlike 45 = .ok (.iload_n 2, 1) := by decide +kernel
theorem dX6_unlike_46 : decode cX6_unlike 46 = .ok (.ireturn, 1) := by decide +kernel
theorem dX6_unlike_47 : decode cX6_unlike 47 = .ok (.iinc 2 1, 3) := by decide +kernel
theorem dX6_unlike_50 : decode cX6_unlike 50 = .ok (.goto (-25), 3) := by decide +kernel
theorem dX6_unlike_53 : decode cX6_unlike 53 = .ok (.aload_n 0, 1) := by decide +kernel
theorem dX6_unlike_54 : decode cX6_unlike 54 = .ok (.getfield 235, 3) := by decide +kernel
theorem dX6_unlike_57 : decode cX6_unlike 57 = .ok (.aload_n 0, 1) := by decide +kernel
theorem dX6_unlike_58 : decode cX6_unlike 58 = .ok (.getfield 280, 3) := by decide +kernel
theorem dX6_unlike_61 : decode cX6_unlike 61 = .ok (.if_icmp .ne 7, 3) := by decide +kernel
theorem dX6_unlike_64 : decode cX6_unlike 64 = .ok (.iconst (-1), 1) := by decide +kernel
theorem dX6_unlike_65 : decode cX6_unlike 65 = .ok (.goto 4, 3) := by decide +kernel
theorem dX6_unlike_68 : decode cX6_unlike 68 = .ok (.iload_n 1, 1) := by decide +kernel
theorem dX6_unlike_69 : decode cX6_unlike 69 = .ok (.ireturn, 1) := by decide +kernel
theorem dX6_faults_0 : decode cX6_faults 0 = .ok (.aload_n 0, 1) := by decide +kernel
theorem dX6_faults_1 : decode cX6_faults 1 = .ok (.getfield 283, 3) := by decide +kernel
theorem dX6_faults_4 : decode cX6_faults 4 = .ok (.ifCond .ge 8, 3) := by decide +kernel
theorem dX6_faults_7 : decode cX6_faults 7 = .ok (.aload_n 0, 1) := by decide +kernel
theorem dX6_faults_8 : decode cX6_faults 8 = .ok (.iload_n 1, 1) := by decide +kernel
theorem dX6_faults_9 : decode cX6_faults 9 = .ok (.putfield 283, 3) := by decide +kernel
theorem dX6_faults_12 : decode cX6_faults 12 = .ok (.return_, 1) := by decide +kernel
theorem dX6_byteAt_0 : decode cX6_byteAt 0 = .ok (.iload_n 1, 1) := by decide +kernel
theorem dX6_byteAt_1 : decode cX6_byteAt 1 = .ok (.aload_n 0, 1) := by decide +kernel
theorem dX6_byteAt_2 : decode cX6_byteAt 2 = .ok (.getfield 286, 3) := by decide +kernel
theorem dX6_byteAt_5 : decode cX6_byteAt 5 = .ok (.if_icmp .ge 12, 3) := by decide +kernel
theorem dX6_byteAt_8 : decode cX6_byteAt 8 = .ok (.aload_n 0, 1) := by decide +kernel
theorem dX6_byteAt_9 : decode cX6_byteAt 9 = .ok (.getfield 54, 3) := by decide +kernel
theorem dX6_byteAt_12 : decode cX6_byteAt 12 = .ok (.iload_n 1, 1) := by decide +kernel
theorem dX6_byteAt_13 : decode cX6_byteAt 13 = .ok (.iaload, 1) := by decide +kernel
theorem dX6_byteAt_14 : decode cX6_byteAt 14 = .ok (.goto 4, 3) := by decide +kernel
theorem dX6_byteAt_17 : decode cX6_byteAt 17 = .ok (.iconst (-1), 1) := by decide +kernel
theorem dX6_byteAt_18 : decode cX6_byteAt 18 = .ok (.ireturn, 1) := by decide +kernel
theorem dX6_part1_0 : decode cX6_part1 0 = .ok (.aload_n 0, 1) := by decide +kernel
theorem dX6_part1_1 : decode cX6_part1 1 = .ok (.aload_n 0, 1) := by decide +kernel
theorem dX6_part1_2 : decode cX6_part1 2 = .ok (.getfield 289, 3) := by decide +kernel
theorem dX6_part1_5 : decode cX6_part1 5 = .ok (.invokevirtual 292, 3) := by decide +kernel
theorem dX6_part1_8 : decode cX6_part1 8 = .ok (.istore_n 3, 1) := by decide +kernel
theorem dX6_part1_9 : decode cX6_part1 9 = .ok (.iload_n 3, 1) := by decide +kernel
theorem dX6_part1_10 : decode cX6_part1 10 = .ok (.iload_n 1, 1) := by decide +kernel
theorem dX6_part1_11 : decode cX6_part1 11 = .ok (.if_icmp .lt 8, 3) := by decide +kernel
theorem dX6_part1_14 : decode cX6_part1 14 = .ok (.iload_n 3, 1) := by decide +kernel
theorem dX6_part1_15 : decode cX6_part1 15 = .ok (.iload_n 2, 1) := by decide +kernel
theorem dX6_part1_16 : decode cX6_part1 16 = .ok (.if_icmp .le 13, 3) := by decide +kernel
theorem dX6_part1_19 : decode cX6_part1 19 = .ok (.aload_n 0, 1) := by decide +kernel
theorem dX6_part1_20 : decode cX6_part1 20 = .ok (.aload_n 0, 1) := by decide +kernel
theorem dX6_part1_21 : decode cX6_part1 21 = .ok (.getfield 289, 3) := by decide +kernel
theorem dX6_part1_24 : decode cX6_part1 24 = .ok (.invokevirtual 295, 3) := by decide +kernel
theorem dX6_part1_27 : decode cX6_part1 27 = .ok (.iconst (-1), 1) := by decide +kernel
theorem dX6_part1_28 : decode cX6_part1 28 = .ok (.ireturn, 1) := by decide +kernel
theorem dX6_part1_29 : decode cX6_part1 29 = .ok (.aload_n 0, 1) := by decide +kernel
theorem dX6_part1_30 : decode cX6_part1 30 = .ok (.dup, 1) := by decide +kernel
theorem dX6_part1_31 : decode cX6_part1 31 = .ok (.getfield 289, 3) := by decide +kernel
theorem dX6_part1_34 : decode cX6_part1 34 = .ok (.iconst 1, 1) := by decide +kernel
theorem dX6_part1_35 : decode cX6_part1 35 = .ok (.iadd, 1) := by decide +kernel
theorem dX6_part1_36 : decode cX6_part1 36 = .ok (.putfield 289, 3) := by decide +kernel
theorem dX6_part1_39 : decode cX6_part1 39 = .ok (.iload_n 3, 1) := by decide +kernel
theorem dX6_part1_40 : decode cX6_part1 40 = .ok (.ireturn, 1) := by decide +kernel
theorem dX6_readsWhole_0 : decode cX6_readsWhole 0 = .ok (.iload_n 2, 1) := by decide +kernel
theorem dX6_readsWhole_1 : decode cX6_readsWhole 1 = .ok (.ifCond .eq 23, 3) := by decide +kernel
theorem dX6_readsWhole_4 : decode cX6_readsWhole 4 = .ok (.aload_n 0, 1) := by decide +kernel
theorem dX6_readsWhole_5 : decode cX6_readsWhole 5 = .ok (.getfield 54, 3) := by decide +kernel
theorem dX6_readsWhole_8 : decode cX6_readsWhole 8 = .ok (.aload_n 0, 1) := by decide +kernel
theorem dX6_readsWhole_9 : decode cX6_readsWhole 9 = .ok (.getfield 289, 3) := by decide +kernel
theorem dX6_readsWhole_12 : decode cX6_readsWhole 12 = .ok (.iaload, 1) := by decide +kernel
theorem dX6_readsWhole_13 : decode cX6_readsWhole 13 = .ok (.bipush 127, 2) := by decide +kernel
theorem dX6_readsWhole_15 : decode cX6_readsWhole 15 = .ok (.if_icmp .le 9, 3) := by decide +kernel
theorem dX6_readsWhole_18 : decode cX6_readsWhole 18 = .ok (.ldc2_w 298, 3) := by decide +kernel
theorem dX6_readsWhole_21 : decode cX6_readsWhole 21 = .ok (.goto 4, 3) := by decide +kernel
theorem dX6_readsWhole_24 : decode cX6_readsWhole 24 = .ok (.lconst 0, 1) := by decide +kernel
theorem dX6_readsWhole_25 : decode cX6_readsWhole 25 = .ok (.lstore_n 3, 1) := by decide +kernel
theorem dX6_readsWhole_26 : decode cX6_readsWhole 26 = .ok (.iconst 0, 1) := by decide +kernel
theorem dX6_readsWhole_27 : decode cX6_readsWhole 27 = .ok (.istore 5, 2) := by decide +kernel
theorem dX6_readsWhole_29 : decode cX6_readsWhole 29 = .ok (.iload 5, 2) := by decide +kernel
theorem dX6_readsWhole_31 : decode cX6_readsWhole 31 = .ok (.iload_n 1, 1) := by decide +kernel
theorem dX6_readsWhole_32 : decode cX6_readsWhole 32 = .ok (.if_icmp .ge 28, 3) := by decide +kernel
theorem dX6_readsWhole_35 : decode cX6_readsWhole 35 = .ok (.lload_n 3, 1) := by decide +kernel
theorem dX6_readsWhole_36 : decode cX6_readsWhole 36 = .ok (.bipush 8, 2) := by decide +kernel
theorem dX6_readsWhole_38 : decode cX6_readsWhole 38 = .ok (.lshl, 1) := by decide +kernel
theorem dX6_readsWhole_39 : decode cX6_readsWhole 39 = .ok (.aload_n 0, 1) := by decide +kernel
theorem dX6_readsWhole_40 : decode cX6_readsWhole 40 = .ok (.getfield 54, 3) := by decide +kernel
theorem dX6_readsWhole_43 : decode cX6_readsWhole 43 = .ok (.aload_n 0, 1) := by decide +kernel
theorem dX6_readsWhole_44 : decode cX6_readsWhole 44 = .ok (.getfield 289, 3) := by decide +kernel
theorem dX6_readsWhole_47 : decode cX6_readsWhole 47 = .ok (.iload 5, 2) := by decide +kernel
theorem dX6_readsWhole_49 : decode cX6_readsWhole 49 = .ok (.iadd, 1) := by decide +kernel
theorem dX6_readsWhole_50 : decode cX6_readsWhole 50 = .ok (.iaload, 1) := by decide +kernel
theorem dX6_readsWhole_51 : decode cX6_readsWhole 51 = .ok (.i2l, 1) := by decide +kernel
theorem dX6_readsWhole_52 : decode cX6_readsWhole 52 = .ok (.lor, 1) := by decide +kernel
theorem dX6_readsWhole_53 : decode cX6_readsWhole 53 = .ok (.lstore_n 3, 1) := by decide +kernel
theorem dX6_readsWhole_54 : decode cX6_readsWhole 54 = .ok (.iinc 5 1, 3) := by decide +kernel
theorem dX6_readsWhole_57 : decode cX6_readsWhole 57 = .ok (.goto (-28), 3) := by decide +kernel
theorem dX6_readsWhole_60 : decode cX6_readsWhole 60 = .ok (.lload_n 3, 1) := by decide +kernel
theorem dX6_readsWhole_61 : decode cX6_readsWhole 61 = .ok (.lreturn, 1) := by decide +kernel
theorem dX6_width_0 : decode cX6_width 0 = .ok (.iload_n 0, 1) := by decide +kernel
theorem dX6_width_1 : decode cX6_width 1 = .ok (.tableswitch 58 0 7 #[47, 47, 49, 49, 51, 58, 53, 55], 47) := by decide +kernel
theorem dX6_width_48 : decode cX6_width 48 = .ok (.iconst 1, 1) := by decide +kernel
theorem dX6_width_49 : decode cX6_width 49 = .ok (.ireturn, 1) := by decide +kernel
theorem dX6_width_50 : decode cX6_width 50 = .ok (.iconst 2, 1) := by decide +kernel
theorem dX6_width_51 : decode cX6_width 51 = .ok (.ireturn, 1) := by decide +kernel
theorem dX6_width_52 : decode cX6_width 52 = .ok (.iconst 4, 1) := by decide +kernel
theorem dX6_width_53 : decode cX6_width 53 = .ok (.ireturn, 1) := by decide +kernel
theorem dX6_width_54 : decode cX6_width 54 = .ok (.iconst 5, 1) := by decide +kernel
theorem dX6_width_55 : decode cX6_width 55 = .ok (.ireturn, 1) := by decide +kernel
theorem dX6_width_56 : decode cX6_width 56 = .ok (.bipush 9, 2) := by decide +kernel
theorem dX6_width_58 : decode cX6_width 58 = .ok (.ireturn, 1) := by decide +kernel
theorem dX6_width_59 : decode cX6_width 59 = .ok (.bipush 8, 2) := by decide +kernel
theorem dX6_width_61 : decode cX6_width 61 = .ok (.ireturn, 1) := by decide +kernel
theorem dX6_isFraction_0 : decode cX6_isFraction 0 = .ok (.iload_n 0, 1) := by decide +kernel
theorem dX6_isFraction_1 : decode cX6_isFraction 1 = .ok (.bipush 6, 2) := by decide +kernel
theorem dX6_isFraction_3 : decode cX6_isFraction 3 = .ok (.if_icmp .ne 9, 3) := by decide +kernel
theorem dX6_isFraction_6 : decode cX6_isFraction 6 = .ok (.ldc2_w 300, 3) := by decide +kernel
theorem dX6_isFraction_9 : decode cX6_isFraction 9 = .ok (.goto 6, 3) := by decide +kernel
theorem dX6_isFraction_12 : decode cX6_isFraction 12 = .ok (.ldc2_w 302, 3) := by decide +kernel
theorem dX6_isFraction_15 : decode cX6_isFraction 15 = .ok (.lstore 4, 2) := by decide +kernel
theorem dX6_isFraction_17 : decode cX6_isFraction 17 = .ok (.lload_n 2, 1) := by decide +kernel
theorem dX6_isFraction_18 : decode cX6_isFraction 18 = .ok (.lconst 0, 1) := by decide +kernel
theorem dX6_isFraction_19 : decode cX6_isFraction 19 = .ok (.lcmp, 1) := by decide +kernel
theorem dX6_isFraction_20 : decode cX6_isFraction 20 = .ok (.ifCond .ne 13, 3) := by decide +kernel
theorem dX6_isFraction_23 : decode cX6_isFraction 23 = .ok (.iload_n 1, 1) := by decide +kernel
theorem dX6_isFraction_24 : decode cX6_isFraction 24 = .ok (.ifCond .ne 7, 3) := by decide +kernel
theorem dX6_isFraction_27 : decode cX6_isFraction 27 = .ok (.iconst 1, 1) := by decide +kernel
theorem dX6_isFraction_28 : decode cX6_isFraction 28 = .ok (.goto 4, 3) := by decide +kernel
theorem dX6_isFraction_31 : decode cX6_isFraction 31 = .ok (.iconst 0, 1) := by decide +kernel
theorem dX6_isFraction_32 : decode cX6_isFraction 32 = .ok (.ireturn, 1) := by decide +kernel
theorem dX6_isFraction_33 : decode cX6_isFraction 33 = .ok (.iload_n 1, 1) := by decide +kernel
theorem dX6_isFraction_34 : decode cX6_isFraction 34 = .ok (.bipush 66, 2) := by decide +kernel
theorem dX6_isFraction_36 : decode cX6_isFraction 36 = .ok (.if_icmp .gt 28, 3) := by decide +kernel
theorem dX6_isFraction_39 : decode cX6_isFraction 39 = .ok (.lload_n 2, 1) := by decide +kernel
theorem dX6_isFraction_40 : decode cX6_isFraction 40 = .ok (.ldc2_w 304, 3) := by decide +kernel
theorem dX6_isFraction_43 : decode cX6_isFraction 43 = .ok (.lrem, 1) := by decide +kernel
theorem dX6_isFraction_44 : decode cX6_isFraction 44 = .ok (.lconst 0, 1) := by decide +kernel
theorem dX6_isFraction_45 : decode cX6_isFraction 45 = .ok (.lcmp, 1) := by decide +kernel
theorem dX6_isFraction_46 : decode cX6_isFraction 46 = .ok (.ifCond .eq 18, 3) := by decide +kernel
theorem dX6_isFraction_49 : decode cX6_isFraction 49 = .ok (.lload_n 2, 1) := by decide +kernel
theorem dX6_isFraction_50 : decode cX6_isFraction 50 = .ok (.lload 4, 2) := by decide +kernel
theorem dX6_isFraction_52 : decode cX6_isFraction 52 = .ok (.lcmp, 1) := by decide +kernel
theorem dX6_isFraction_53 : decode cX6_isFraction 53 = .ok (.ifCond .ge 11, 3) := by decide +kernel
theorem dX6_isFraction_56 : decode cX6_isFraction 56 = .ok (.lload_n 2, 1) := by decide +kernel
theorem dX6_isFraction_57 : decode cX6_isFraction 57 = .ok (.lload 4, 2) := by decide +kernel
theorem dX6_isFraction_59 : decode cX6_isFraction 59 = .ok (.lneg, 1) := by decide +kernel
theorem dX6_isFraction_60 : decode cX6_isFraction 60 = .ok (.lcmp, 1) := by decide +kernel
theorem dX6_isFraction_61 : decode cX6_isFraction 61 = .ok (.ifCond .gt 5, 3) := by decide +kernel
theorem dX6_isFraction_64 : decode cX6_isFraction 64 = .ok (.iconst 0, 1) := by decide +kernel
theorem dX6_isFraction_65 : decode cX6_isFraction 65 = .ok (.ireturn, 1) := by decide +kernel
theorem dX6_isFraction_66 : decode cX6_isFraction 66 = .ok (.lload_n 2, 1) := by decide +kernel
theorem dX6_isFraction_67 : decode cX6_isFraction 67 = .ok (.lconst 0, 1) := by decide +kernel
theorem dX6_isFraction_68 : decode cX6_isFraction 68 = .ok (.lcmp, 1) := by decide +kernel
theorem dX6_isFraction_69 : decode cX6_isFraction 69 = .ok (.ifCond .ge 8, 3) := by decide +kernel
theorem dX6_isFraction_72 : decode cX6_isFraction 72 = .ok (.lload_n 2, 1) := by decide +kernel
theorem dX6_isFraction_73 : decode cX6_isFraction 73 = .ok (.lneg, 1) := by decide +kernel
theorem dX6_isFraction_74 : decode cX6_isFraction 74 = .ok (.goto 4, 3) := by decide +kernel
theorem dX6_isFraction_77 : decode cX6_isFraction 77 = .ok (.lload_n 2, 1) := by decide +kernel
theorem dX6_isFraction_78 : decode cX6_isFraction 78 = .ok (.lstore 6, 2) := by decide +kernel
theorem dX6_isFraction_80 : decode cX6_isFraction 80 = .ok (.iconst 0, 1) := by decide +kernel
theorem dX6_isFraction_81 : decode cX6_isFraction 81 = .ok (.istore 8, 2) := by decide +kernel
theorem dX6_isFraction_83 : decode cX6_isFraction 83 = .ok (.lload 6, 2) := by decide +kernel
theorem dX6_isFraction_85 : decode cX6_isFraction 85 = .ok (.lconst 0, 1) := by decide +kernel
theorem dX6_isFraction_86 : decode cX6_isFraction 86 = .ok (.lcmp, 1) := by decide +kernel
theorem dX6_isFraction_87 : decode cX6_isFraction 87 = .ok (.ifCond .le 17, 3) := by decide +kernel
theorem dX6_isFraction_90 : decode cX6_isFraction 90 = .ok (.lload 6, 2) := by decide +kernel
theorem dX6_isFraction_92 : decode cX6_isFraction 92 = .ok (.ldc2_w 304, 3) := by decide +kernel
theorem dX6_isFraction_95 : decode cX6_isFraction 95 = .ok (.ldiv, 1) := by decide +kernel
theorem dX6_isFraction_96 : decode cX6_isFraction 96 = .ok (.lstore 6, 2) := by decide +kernel
theorem dX6_isFraction_98 : decode cX6_isFraction 98 = .ok (.iinc 8 1, 3) := by decide +kernel
theorem dX6_isFraction_101 : decode cX6_isFraction 101 = .ok (.goto (-18), 3) := by decide +kernel
theorem dX6_isFraction_104 : decode cX6_isFraction 104 = .ok (.iload 8, 2) := by decide +kernel
theorem dX6_isFraction_106 : decode cX6_isFraction 106 = .ok (.iload_n 1, 1) := by decide +kernel
theorem dX6_isFraction_107 : decode cX6_isFraction 107 = .ok (.iadd, 1) := by decide +kernel
theorem dX6_isFraction_108 : decode cX6_isFraction 108 = .ok (.bipush 66, 2) := by decide +kernel
theorem dX6_isFraction_110 : decode cX6_isFraction 110 = .ok (.if_icmp .le 9, 3) := by decide +kernel
theorem dX6_isFraction_113 : decode cX6_isFraction 113 = .ok (.iload 8, 2) := by decide +kernel
theorem dX6_isFraction_115 : decode cX6_isFraction 115 = .ok (.iconst 1, 1) := by decide +kernel
theorem dX6_isFraction_116 : decode cX6_isFraction 116 = .ok (.if_icmp .ne 7, 3) := by decide +kernel
theorem dX6_isFraction_119 : decode cX6_isFraction 119 = .ok (.iconst 1, 1) := by decide +kernel
theorem dX6_isFraction_120 : decode cX6_isFraction 120 = .ok (.goto 4, 3) := by decide +kernel
theorem dX6_isFraction_123 : decode cX6_isFraction 123 = .ok (.iconst 0, 1) := by decide +kernel
theorem dX6_isFraction_124 : decode cX6_isFraction 124 = .ok (.ireturn, 1) := by decide +kernel
theorem dX6_readsNumber_0 : decode cX6_readsNumber 0 = .ok (.iload_n 1, 1) := by decide +kernel
theorem dX6_readsNumber_1 : decode cX6_readsNumber 1 = .ok (.invokestatic 306, 3) := by decide +kernel
theorem dX6_readsNumber_4 : decode cX6_readsNumber 4 = .ok (.istore_n 2, 1) := by decide +kernel
theorem dX6_readsNumber_5 : decode cX6_readsNumber 5 = .ok (.aload_n 0, 1) := by decide +kernel
theorem dX6_readsNumber_6 : decode cX6_readsNumber 6 = .ok (.getfield 289, 3) := by decide +kernel
theorem dX6_readsNumber_9 : decode cX6_readsNumber 9 = .ok (.iload_n 2, 1) := by decide +kernel
theorem dX6_readsNumber_10 : decode cX6_readsNumber 10 = .ok (.iadd, 1) := by decide +kernel
theorem dX6_readsNumber_11 : decode cX6_readsNumber 11 = .ok (.aload_n 0, 1) := by decide +kernel
theorem dX6_readsNumber_12 : decode cX6_readsNumber 12 = .ok (.getfield 286, 3) := by decide +kernel
theorem dX6_readsNumber_15 : decode cX6_readsNumber 15 = .ok (.if_icmp .le 13, 3) := by decide +kernel
theorem dX6_readsNumber_18 : decode cX6_readsNumber 18 = .ok (.aload_n 0, 1) := by decide +kernel
theorem dX6_readsNumber_19 : decode cX6_readsNumber 19 = .ok (.aload_n 0, 1) := by decide +kernel
theorem dX6_readsNumber_20 : decode cX6_readsNumber 20 = .ok (.getfield 289, 3) := by decide +kernel
theorem dX6_readsNumber_23 : decode cX6_readsNumber 23 = .ok (.invokevirtual 295, 3) := by decide +kernel
theorem dX6_readsNumber_26 : decode cX6_readsNumber 26 = .ok (.lconst 0, 1) := by decide +kernel
theorem dX6_readsNumber_27 : decode cX6_readsNumber 27 = .ok (.lreturn, 1) := by decide +kernel
theorem dX6_readsNumber_28 : decode cX6_readsNumber 28 = .ok (.iload_n 1, 1) := by decide +kernel
theorem dX6_readsNumber_29 : decode cX6_readsNumber 29 = .ok (.bipush 6, 2) := by decide +kernel
theorem dX6_readsNumber_31 : decode cX6_readsNumber 31 = .ok (.if_icmp .ge 53, 3) := by decide +kernel
theorem dX6_readsNumber_34 : decode cX6_readsNumber 34 = .ok (.aload_n 0, 1) := by decide +kernel
theorem dX6_readsNumber_35 : decode cX6_readsNumber 35 = .ok (.iload_n 2, 1) := by decide +kernel
theorem dX6_readsNumber_36 : decode cX6_readsNumber 36 = .ok (.iload_n 1, 1) := by decide +kernel
theorem dX6_readsNumber_37 : decode cX6_readsNumber 37 = .ok (.ifCond .eq 12, 3) := by decide +kernel
theorem dX6_readsNumber_40 : decode cX6_readsNumber 40 = .ok (.iload_n 1, 1) := by decide +kernel
theorem dX6_readsNumber_41 : decode cX6_readsNumber 41 = .ok (.iconst 2, 1) := by decide +kernel
theorem dX6_readsNumber_42 : decode cX6_readsNumber 42 = .ok (.if_icmp .eq 7, 3) := by decide +kernel
theorem dX6_readsNumber_45 : decode cX6_readsNumber 45 = .ok (.iconst 1, 1) := by decide +kernel
theorem dX6_readsNumber_46 : decode cX6_readsNumber 46 = .ok (.goto 4, 3) := by decide +kernel
theorem dX6_readsNumber_49 : decode cX6_readsNumber 49 = .ok (.iconst 0, 1) := by decide +kernel
theorem dX6_readsNumber_50 : decode cX6_readsNumber 50 = .ok (.invokevirtual 309, 3) := by decide +kernel
theorem dX6_readsNumber_53 : decode cX6_readsNumber 53 = .ok (.lstore_n 3, 1) := by decide +kernel
theorem dX6_readsNumber_54 : decode cX6_readsNumber 54 = .ok (.iload_n 1, 1) := by decide +kernel
theorem dX6_readsNumber_55 : decode cX6_readsNumber 55 = .ok (.ifCond .ne 17, 3) := by decide +kernel
theorem dX6_readsNumber_58 : decode cX6_readsNumber 58 = .ok (.lload_n 3, 1) := by decide +kernel
theorem dX6_readsNumber_59 : decode cX6_readsNumber 59 = .ok (.lconst 1, 1) := by decide +kernel
theorem dX6_readsNumber_60 : decode cX6_readsNumber 60 = .ok (.lcmp, 1) := by decide +kernel
theorem dX6_readsNumber_61 : decode cX6_readsNumber 61 = .ok (.ifCond .le 11, 3) := by decide +kernel
theorem dX6_readsNumber_64 : decode cX6_readsNumber 64 = .ok (.aload_n 0, 1) := by decide +kernel
theorem dX6_readsNumber_65 : decode cX6_readsNumber 65 = .ok (.aload_n 0, 1) := by decide +kernel
theorem dX6_readsNumber_66 : decode cX6_readsNumber 66 = .ok (.getfield 289, 3) := by decide +kernel
theorem dX6_readsNumber_69 : decode cX6_readsNumber 69 = .ok (.invokevirtual 295, 3) := by decide +kernel
theorem dX6_readsNumber_72 : decode cX6_readsNumber 72 = .ok (.aload_n 0, 1) := by decide +kernel
theorem dX6_readsNumber_73 : decode cX6_readsNumber 73 = .ok (.dup, 1) := by decide +kernel
theorem dX6_readsNumber_74 : decode cX6_readsNumber 74 = .ok (.getfield 289, 3) := by decide +kernel
theorem dX6_readsNumber_77 : decode cX6_readsNumber 77 = .ok (.iload_n 2, 1) := by decide +kernel
theorem dX6_readsNumber_78 : decode cX6_readsNumber 78 = .ok (.iadd, 1) := by decide +kernel
theorem dX6_readsNumber_79 : decode cX6_readsNumber 79 = .ok (.putfield 289, 3) := by decide +kernel
theorem dX6_readsNumber_82 : decode cX6_readsNumber 82 = .ok (.lload_n 3, 1) := by decide +kernel
theorem dX6_readsNumber_83 : decode cX6_readsNumber 83 = .ok (.lreturn, 1) := by decide +kernel
theorem dX6_readsNumber_84 : decode cX6_readsNumber 84 = .ok (.aload_n 0, 1) := by decide +kernel
theorem dX6_readsNumber_85 : decode cX6_readsNumber 85 = .ok (.getfield 54, 3) := by decide +kernel
theorem dX6_readsNumber_88 : decode cX6_readsNumber 88 = .ok (.aload_n 0, 1) := by decide +kernel
theorem dX6_readsNumber_89 : decode cX6_readsNumber 89 = .ok (.getfield 289, 3) := by decide +kernel
theorem dX6_readsNumber_92 : decode cX6_readsNumber 92 = .ok (.iaload, 1) := by decide +kernel
theorem dX6_readsNumber_93 : decode cX6_readsNumber 93 = .ok (.istore 5, 2) := by decide +kernel
theorem dX6_readsNumber_95 : decode cX6_readsNumber 95 = .ok (.aload_n 0, 1) := by decide +kernel
theorem dX6_readsNumber_96 : decode cX6_readsNumber 96 = .ok (.dup, 1) := by decide +kernel
theorem dX6_readsNumber_97 : decode cX6_readsNumber 97 = .ok (.getfield 289, 3) := by decide +kernel
theorem dX6_readsNumber_100 : decode cX6_readsNumber 100 = .ok (.iconst 1, 1) := by decide +kernel
theorem dX6_readsNumber_101 : decode cX6_readsNumber 101 = .ok (.iadd, 1) := by decide +kernel
theorem dX6_readsNumber_102 : decode cX6_readsNumber 102 = .ok (.putfield 289, 3) := by decide +kernel
theorem dX6_readsNumber_105 : decode cX6_readsNumber 105 = .ok (.aload_n 0, 1) := by decide +kernel
theorem dX6_readsNumber_106 : decode cX6_readsNumber 106 = .ok (.iload_n 2, 1) := by decide +kernel
theorem dX6_readsNumber_107 : decode cX6_readsNumber 107 = .ok (.iconst 1, 1) := by decide +kernel
theorem dX6_readsNumber_108 : decode cX6_readsNumber 108 = .ok (.isub, 1) := by decide +kernel
theorem dX6_readsNumber_109 : decode cX6_readsNumber 109 = .ok (.iconst 1, 1) := by decide +kernel
theorem dX6_readsNumber_110 : decode cX6_readsNumber 110 = .ok (.invokevirtual 309, 3) := by decide +kernel
theorem dX6_readsNumber_113 : decode cX6_readsNumber 113 = .ok (.lstore 6, 2) := by decide +kernel
theorem dX6_readsNumber_115 : decode cX6_readsNumber 115 = .ok (.iload_n 1, 1) := by decide +kernel
theorem dX6_readsNumber_116 : decode cX6_readsNumber 116 = .ok (.iload 5, 2) := by decide +kernel
theorem dX6_readsNumber_118 : decode cX6_readsNumber 118 = .ok (.lload 6, 2) := by decide +kernel
theorem dX6_readsNumber_120 : decode cX6_readsNumber 120 = .ok (.invokestatic 313, 3) := by decide +kernel
theorem dX6_readsNumber_123 : decode cX6_readsNumber 123 = .ok (.ifCond .ne 15, 3) := by decide +kernel
theorem dX6_readsNumber_126 : decode cX6_readsNumber 126 = .ok (.aload_n 0, 1) := by decide +kernel
theorem dX6_readsNumber_127 : decode cX6_readsNumber 127 = .ok (.aload_n 0, 1) := by decide +kernel
theorem dX6_readsNumber_128 : decode cX6_readsNumber 128 = .ok (.getfield 289, 3) := by decide +kernel
theorem dX6_readsNumber_131 : decode cX6_readsNumber 131 = .ok (.iconst 1, 1) := by decide +kernel
theorem dX6_readsNumber_132 : decode cX6_readsNumber 132 = .ok (.isub, 1) := by decide +kernel
theorem dX6_readsNumber_133 : decode cX6_readsNumber 133 = .ok (.invokevirtual 295, 3) := by decide +kernel
theorem dX6_readsNumber_136 : decode cX6_readsNumber 136 = .ok (.lconst 0, 1) := by decide +kernel
theorem dX6_readsNumber_137 : decode cX6_readsNumber 137 = .ok (.lreturn, 1) := by decide +kernel
theorem dX6_readsNumber_138 : decode cX6_readsNumber 138 = .ok (.aload_n 0, 1) := by decide +kernel
theorem dX6_readsNumber_139 : decode cX6_readsNumber 139 = .ok (.dup, 1) := by decide +kernel
theorem dX6_readsNumber_140 : decode cX6_readsNumber 140 = .ok (.getfield 289, 3) := by decide +kernel
theorem dX6_readsNumber_143 : decode cX6_readsNumber 143 = .ok (.iload_n 2, 1) := by decide +kernel
theorem dX6_readsNumber_144 : decode cX6_readsNumber 144 = .ok (.iconst 1, 1) := by decide +kernel
theorem dX6_readsNumber_145 : decode cX6_readsNumber 145 = .ok (.isub, 1) := by decide +kernel
theorem dX6_readsNumber_146 : decode cX6_readsNumber 146 = .ok (.iadd, 1) := by decide +kernel
theorem dX6_readsNumber_147 : decode cX6_readsNumber 147 = .ok (.putfield 289, 3) := by decide +kernel
theorem dX6_readsNumber_150 : decode cX6_readsNumber 150 = .ok (.lload 6, 2) := by decide +kernel
theorem dX6_readsNumber_152 : decode cX6_readsNumber 152 = .ok (.l2d, 1) := by decide +kernel
theorem dX6_readsNumber_153 : decode cX6_readsNumber 153 = .ok (.ldc2_w 110, 3) := by decide +kernel
theorem dX6_readsNumber_156 : decode cX6_readsNumber 156 = .ok (.dmul, 1) := by decide +kernel
theorem dX6_readsNumber_157 : decode cX6_readsNumber 157 = .ok (.dstore 8, 2) := by decide +kernel
theorem dX6_readsNumber_159 : decode cX6_readsNumber 159 = .ok (.iconst 0, 1) := by decide +kernel
theorem dX6_readsNumber_160 : decode cX6_readsNumber 160 = .ok (.istore 10, 2) := by decide +kernel
theorem dX6_readsNumber_162 : decode cX6_readsNumber 162 = .ok (.iload 10, 2) := by decide +kernel
theorem dX6_readsNumber_164 : decode cX6_readsNumber 164 = .ok (.iload 5, 2) := by decide +kernel
theorem dX6_readsNumber_166 : decode cX6_readsNumber 166 = .ok (.if_icmp .ge 17, 3) := by decide +kernel
theorem dX6_readsNumber_169 : decode cX6_readsNumber 169 = .ok (.dload 8, 2) := by decide +kernel
theorem dX6_readsNumber_171 : decode cX6_readsNumber 171 = .ok (.ldc2_w 91, 3) := by decide +kernel
theorem dX6_readsNumber_174 : decode cX6_readsNumber 174 = .ok (.dmul, 1) := by decide +kernel
theorem dX6_readsNumber_175 : decode cX6_readsNumber 175 = .ok (.dstore 8, 2) := by decide +kernel
theorem dX6_readsNumber_177 : decode cX6_readsNumber 177 = .ok (.iinc 10 1, 3) := by decide +kernel
theorem dX6_readsNumber_180 : decode cX6_readsNumber 180 = .ok (.goto (-18), 3) := by decide +kernel
theorem dX6_readsNumber_183 : decode cX6_readsNumber 183 = .ok (.iload_n 1, 1) := by decide +kernel
theorem dX6_readsNumber_184 : decode cX6_readsNumber 184 = .ok (.bipush 6, 2) := by decide +kernel
theorem dX6_readsNumber_186 : decode cX6_readsNumber 186 = .ok (.if_icmp .ne 11, 3) := by decide +kernel
theorem dX6_readsNumber_189 : decode cX6_readsNumber 189 = .ok (.dload 8, 2) := by decide +kernel
theorem dX6_readsNumber_191 : decode cX6_readsNumber 191 = .ok (.invokestatic 106, 3) := by decide +kernel
theorem dX6_readsNumber_194 : decode cX6_readsNumber 194 = .ok (.goto 8, 3) := by decide +kernel
theorem dX6_readsNumber_197 : decode cX6_readsNumber 197 = .ok (.dload 8, 2) := by decide +kernel
theorem dX6_readsNumber_199 : decode cX6_readsNumber 199 = .ok (.invokestatic 112, 3) := by decide +kernel
theorem dX6_readsNumber_202 : decode cX6_readsNumber 202 = .ok (.lreturn, 1) := by decide +kernel
theorem dX6_readsStep_0 : decode cX6_readsStep 0 = .ok (.lconst 0, 1) := by decide +kernel
theorem dX6_readsStep_1 : decode cX6_readsStep 1 = .ok (.lstore_n 1, 1) := by decide +kernel
theorem dX6_readsStep_2 : decode cX6_readsStep 2 = .ok (.iconst 0, 1) := by decide +kernel
theorem dX6_readsStep_3 : decode cX6_readsStep 3 = .ok (.istore_n 3, 1) := by decide +kernel
theorem dX6_readsStep_4 : decode cX6_readsStep 4 = .ok (.sipush 128, 3) := by decide +kernel
theorem dX6_readsStep_7 : decode cX6_readsStep 7 = .ok (.istore 4, 2) := by decide +kernel
theorem dX6_readsStep_9 : decode cX6_readsStep 9 = .ok (.iload 4, 2) := by decide +kernel
theorem dX6_readsStep_11 : decode cX6_readsStep 11 = .ok (.bipush 127, 2) := by decide +kernel
theorem dX6_readsStep_13 : decode cX6_readsStep 13 = .ok (.if_icmp .le 71, 3) := by decide +kernel
theorem dX6_readsStep_16 : decode cX6_readsStep 16 = .ok (.aload_n 0, 1) := by decide +kernel
theorem dX6_readsStep_17 : decode cX6_readsStep 17 = .ok (.aload_n 0, 1) := by decide +kernel
theorem dX6_readsStep_18 : decode cX6_readsStep 18 = .ok (.getfield 289, 3) := by decide +kernel
theorem dX6_readsStep_21 : decode cX6_readsStep 21 = .ok (.iload_n 3, 1) := by decide +kernel
theorem dX6_readsStep_22 : decode cX6_readsStep 22 = .ok (.iadd, 1) := by decide +kernel
theorem dX6_readsStep_23 : decode cX6_readsStep 23 = .ok (.invokevirtual 292, 3) := by decide +kernel
theorem dX6_readsStep_26 : decode cX6_readsStep 26 = .ok (.istore 4, 2) := by decide +kernel
theorem dX6_readsStep_28 : decode cX6_readsStep 28 = .ok (.iload 4, 2) := by decide +kernel
theorem dX6_readsStep_30 : decode cX6_readsStep 30 = .ok (.ifCond .lt 24, 3) := by decide +kernel
theorem dX6_readsStep_33 : decode cX6_readsStep 33 = .ok (.iload_n 3, 1) := by decide +kernel
theorem dX6_readsStep_34 : decode cX6_readsStep 34 = .ok (.bipush 9, 2) := by decide +kernel
theorem dX6_readsStep_36 : decode cX6_readsStep 36 = .ok (.if_icmp .ne 9, 3) := by decide +kernel
theorem dX6_readsStep_39 : decode cX6_readsStep 39 = .ok (.iload 4, 2) := by decide +kernel
theorem dX6_readsStep_41 : decode cX6_readsStep 41 = .ok (.iconst 1, 1) := by decide +kernel
theorem dX6_readsStep_42 : decode cX6_readsStep 42 = .ok (.if_icmp .gt 12, 3) := by decide +kernel
theorem dX6_readsStep_45 : decode cX6_readsStep 45 = .ok (.iload_n 3, 1) := by decide +kernel
theorem dX6_readsStep_46 : decode cX6_readsStep 46 = .ok (.ifCond .le 18, 3) := by decide +kernel
theorem dX6_readsStep_49 : decode cX6_readsStep 49 = .ok (.iload 4, 2) := by decide +kernel
theorem dX6_readsStep_51 : decode cX6_readsStep 51 = .ok (.ifCond .ne 13, 3) := by decide +kernel
theorem dX6_readsStep_54 : decode cX6_readsStep 54 = .ok (.aload_n 0, 1) := by decide +kernel
theorem dX6_readsStep_55 : decode cX6_readsStep 55 = .ok (.aload_n 0, 1) := by decide +kernel
theorem dX6_readsStep_56 : decode cX6_readsStep 56 = .ok (.getfield 289, 3) := by decide +kernel
theorem dX6_readsStep_59 : decode cX6_readsStep 59 = .ok (.invokevirtual 295, 3) := by decide +kernel
theorem dX6_readsStep_62 : decode cX6_readsStep 62 = .ok (.lconst 0, 1) := by decide +kernel
theorem dX6_readsStep_63 : decode cX6_readsStep 63 = .ok (.lreturn, 1) := by decide +kernel
theorem dX6_readsStep_64 : decode cX6_readsStep 64 = .ok (.lload_n 1, 1) := by decide +kernel
theorem dX6_readsStep_65 : decode cX6_readsStep 65 = .ok (.iload 4, 2) := by decide +kernel
theorem dX6_readsStep_67 : decode cX6_readsStep 67 = .ok (.bipush 127, 2) := by decide +kernel
theorem dX6_readsStep_69 : decode cX6_readsStep 69 = .ok (.iand, 1) := by decide +kernel
theorem dX6_readsStep_70 : decode cX6_readsStep 70 = .ok (.i2l, 1) := by decide +kernel
theorem dX6_readsStep_71 : decode cX6_readsStep 71 = .ok (.bipush 7, 2) := by decide +kernel
theorem dX6_readsStep_73 : decode cX6_readsStep 73 = .ok (.iload_n 3, 1) := by decide +kernel
theorem dX6_readsStep_74 : decode cX6_readsStep 74 = .ok (.imul, 1) := by decide +kernel
theorem dX6_readsStep_75 : decode cX6_readsStep 75 = .ok (.lshl, 1) := by decide +kernel
theorem dX6_readsStep_76 : decode cX6_readsStep 76 = .ok (.lor, 1) := by decide +kernel
theorem dX6_readsStep_77 : decode cX6_readsStep 77 = .ok (.lstore_n 1, 1) := by decide +kernel
theorem dX6_readsStep_78 : decode cX6_readsStep 78 = .ok (.iinc 3 1, 3) := by decide +kernel
theorem dX6_readsStep_81 : decode cX6_readsStep 81 = .ok (.goto (-72), 3) := by decide +kernel
theorem dX6_readsStep_84 : decode cX6_readsStep 84 = .ok (.aload_n 0, 1) := by decide +kernel
theorem dX6_readsStep_85 : decode cX6_readsStep 85 = .ok (.dup, 1) := by decide +kernel
theorem dX6_readsStep_86 : decode cX6_readsStep 86 = .ok (.getfield 289, 3) := by decide +kernel
theorem dX6_readsStep_89 : decode cX6_readsStep 89 = .ok (.iload_n 3, 1) := by decide +kernel
theorem dX6_readsStep_90 : decode cX6_readsStep 90 = .ok (.iadd, 1) := by decide +kernel
theorem dX6_readsStep_91 : decode cX6_readsStep 91 = .ok (.putfield 289, 3) := by decide +kernel
theorem dX6_readsStep_94 : decode cX6_readsStep 94 = .ok (.lload_n 1, 1) := by decide +kernel
theorem dX6_readsStep_95 : decode cX6_readsStep 95 = .ok (.iconst 1, 1) := by decide +kernel
theorem dX6_readsStep_96 : decode cX6_readsStep 96 = .ok (.lushr, 1) := by decide +kernel
theorem dX6_readsStep_97 : decode cX6_readsStep 97 = .ok (.lload_n 1, 1) := by decide +kernel
theorem dX6_readsStep_98 : decode cX6_readsStep 98 = .ok (.lconst 1, 1) := by decide +kernel
theorem dX6_readsStep_99 : decode cX6_readsStep 99 = .ok (.land, 1) := by decide +kernel
theorem dX6_readsStep_100 : decode cX6_readsStep 100 = .ok (.lneg, 1) := by decide +kernel
theorem dX6_readsStep_101 : decode cX6_readsStep 101 = .ok (.lxor, 1) := by decide +kernel
theorem dX6_readsStep_102 : decode cX6_readsStep 102 = .ok (.lreturn, 1) := by decide +kernel
theorem dX6_readsFlat_0 : decode cX6_readsFlat 0 = .ok (.iconst 0, 1) := by decide +kernel
theorem dX6_readsFlat_1 : decode cX6_readsFlat 1 = .ok (.istore_n 2, 1) := by decide +kernel
theorem dX6_readsFlat_2 : decode cX6_readsFlat 2 = .ok (.iload_n 2, 1) := by decide +kernel
theorem dX6_readsFlat_3 : decode cX6_readsFlat 3 = .ok (.aload_n 0, 1) := by decide +kernel
theorem dX6_readsFlat_4 : decode cX6_readsFlat 4 = .ok (.getfield 13, 3) := by decide +kernel
theorem dX6_readsFlat_7 : decode cX6_readsFlat 7 = .ok (.iload_n 1, 1) := by decide +kernel
theorem dX6_readsFlat_8 : decode cX6_readsFlat 8 = .ok (.iaload, 1) := by decide +kernel
theorem dX6_readsFlat_9 : decode cX6_readsFlat 9 = .ok (.if_icmp .ge 37, 3) := by decide +kernel
theorem dX6_readsFlat_12 : decode cX6_readsFlat 12 = .ok (.aload_n 0, 1) := by decide +kernel
theorem dX6_readsFlat_13 : decode cX6_readsFlat 13 = .ok (.getfield 283, 3) := by decide +kernel
theorem dX6_readsFlat_16 : decode cX6_readsFlat 16 = .ok (.ifCond .ge 30, 3) := by decide +kernel
theorem dX6_readsFlat_19 : decode cX6_readsFlat 19 = .ok (.aload_n 0, 1) := by decide +kernel
theorem dX6_readsFlat_20 : decode cX6_readsFlat 20 = .ok (.getfield 23, 3) := by decide +kernel
theorem dX6_readsFlat_23 : decode cX6_readsFlat 23 = .ok (.bipush 12, 2) := by decide +kernel
theorem dX6_readsFlat_25 : decode cX6_readsFlat 25 = .ok (.iload_n 1, 1) := by decide +kernel
theorem dX6_readsFlat_26 : decode cX6_readsFlat 26 = .ok (.imul, 1) := by decide +kernel
theorem dX6_readsFlat_27 : decode cX6_readsFlat 27 = .ok (.iload_n 2, 1) := by decide +kernel
theorem dX6_readsFlat_28 : decode cX6_readsFlat 28 = .ok (.iadd, 1) := by decide +kernel
theorem dX6_readsFlat_29 : decode cX6_readsFlat 29 = .ok (.aload_n 0, 1) := by decide +kernel
theorem dX6_readsFlat_30 : decode cX6_readsFlat 30 = .ok (.aload_n 0, 1) := by decide +kernel
theorem dX6_readsFlat_31 : decode cX6_readsFlat 31 = .ok (.getfield 7, 3) := by decide +kernel
theorem dX6_readsFlat_34 : decode cX6_readsFlat 34 = .ok (.iload_n 1, 1) := by decide +kernel
theorem dX6_readsFlat_35 : decode cX6_readsFlat 35 = .ok (.iaload, 1) := by decide +kernel
theorem dX6_readsFlat_36 : decode cX6_readsFlat 36 = .ok (.invokevirtual 316, 3) := by decide +kernel
theorem dX6_readsFlat_39 : decode cX6_readsFlat 39 = .ok (.lastore, 1) := by decide +kernel
theorem dX6_readsFlat_40 : decode cX6_readsFlat 40 = .ok (.iinc 2 1, 3) := by decide +kernel
theorem dX6_readsFlat_43 : decode cX6_readsFlat 43 = .ok (.goto (-41), 3) := by decide +kernel
theorem dX6_readsFlat_46 : decode cX6_readsFlat 46 = .ok (.return_, 1) := by decide +kernel
theorem dX6_readsRuns_0 : decode cX6_readsRuns 0 = .ok (.iconst 0, 1) := by decide +kernel
theorem dX6_readsRuns_1 : decode cX6_readsRuns 1 = .ok (.istore_n 2, 1) := by decide +kernel
theorem dX6_readsRuns_2 : decode cX6_readsRuns 2 = .ok (.iload_n 2, 1) := by decide +kernel
theorem dX6_readsRuns_3 : decode cX6_readsRuns 3 = .ok (.aload_n 0, 1) := by decide +kernel
theorem dX6_readsRuns_4 : decode cX6_readsRuns 4 = .ok (.getfield 13, 3) := by decide +kernel
theorem dX6_readsRuns_7 : decode cX6_readsRuns 7 = .ok (.iload_n 1, 1) := by decide +kernel
theorem dX6_readsRuns_8 : decode cX6_readsRuns 8 = .ok (.iaload, 1) := by decide +kernel
theorem dX6_readsRuns_9 : decode cX6_readsRuns 9 = .ok (.if_icmp .ge 78, 3) := by decide +kernel
theorem dX6_readsRuns_12 : decode cX6_readsRuns 12 = .ok (.aload_n 0, 1) := by decide +kernel
theorem dX6_readsRuns_13 : decode cX6_readsRuns 13 = .ok (.getfield 283, 3) := by decide +kernel
theorem dX6_readsRuns_16 : decode cX6_readsRuns 16 = .ok (.ifCond .ge 71, 3) := by decide +kernel
theorem dX6_readsRuns_19 : decode cX6_readsRuns 19 = .ok (.aload_n 0, 1) := by decide +kernel
theorem dX6_readsRuns_20 : decode cX6_readsRuns 20 = .ok (.iconst 1, 1) := by decide +kernel
theorem dX6_readsRuns_21 : decode cX6_readsRuns 21 = .ok (.aload_n 0, 1) := by decide +kernel
theorem dX6_readsRuns_22 : decode cX6_readsRuns 22 = .ok (.getfield 13, 3) := by decide +kernel
theorem dX6_readsRuns_25 : decode cX6_readsRuns 25 = .ok (.iload_n 1, 1) := by decide +kernel
theorem dX6_readsRuns_26 : decode cX6_readsRuns 26 = .ok (.iaload, 1) := by decide +kernel
theorem dX6_readsRuns_27 : decode cX6_readsRuns 27 = .ok (.iload_n 2, 1) := by decide +kernel
theorem dX6_readsRuns_28 : decode cX6_readsRuns 28 = .ok (.isub, 1) := by decide +kernel
theorem dX6_readsRuns_29 : decode cX6_readsRuns 29 = .ok (.invokevirtual 320, 3) := by decide +kernel
theorem dX6_readsRuns_32 : decode cX6_readsRuns 32 = .ok (.istore_n 3, 1) := by decide +kernel
theorem dX6_readsRuns_33 : decode cX6_readsRuns 33 = .ok (.iload_n 3, 1) := by decide +kernel
theorem dX6_readsRuns_34 : decode cX6_readsRuns 34 = .ok (.ifCond .ge 7, 3) := by decide +kernel
theorem dX6_readsRuns_37 : decode cX6_readsRuns 37 = .ok (.lconst 0, 1) := by decide +kernel
theorem dX6_readsRuns_38 : decode cX6_readsRuns 38 = .ok (.goto 13, 3) := by decide +kernel
theorem dX6_readsRuns_41 : decode cX6_readsRuns 41 = .ok (.aload_n 0, 1) := by decide +kernel
theorem dX6_readsRuns_42 : decode cX6_readsRuns 42 = .ok (.aload_n 0, 1) := by decide +kernel
theorem dX6_readsRuns_43 : decode cX6_readsRuns 43 = .ok (.getfield 7, 3) := by decide +kernel
theorem dX6_readsRuns_46 : decode cX6_readsRuns 46 = .ok (.iload_n 1, 1) := by decide +kernel
theorem dX6_readsRuns_47 : decode cX6_readsRuns 47 = .ok (.iaload, 1) := by decide +kernel
theorem dX6_readsRuns_48 : decode cX6_readsRuns 48 = .ok (.invokevirtual 316, 3) := by decide +kernel
theorem dX6_readsRuns_51 : decode cX6_readsRuns 51 = .ok (.lstore 4, 2) := by decide +kernel
theorem dX6_readsRuns_53 : decode cX6_readsRuns 53 = .ok (.iconst 0, 1) := by decide +kernel
theorem dX6_readsRuns_54 : decode cX6_readsRuns 54 = .ok (.istore 6, 2) := by decide +kernel
theorem dX6_readsRuns_56 : decode cX6_readsRuns 56 = .ok (.iload 6, 2) := by decide +kernel
theorem dX6_readsRuns_58 : decode cX6_readsRuns 58 = .ok (.iload_n 3, 1) := by decide +kernel
theorem dX6_readsRuns_59 : decode cX6_readsRuns 59 = .ok (.if_icmp .ge 25, 3) := by decide +kernel
theorem dX6_readsRuns_62 : decode cX6_readsRuns 62 = .ok (.aload_n 0, 1) := by decide +kernel
theorem dX6_readsRuns_63 : decode cX6_readsRuns 63 = .ok (.getfield 23, 3) := by decide +kernel
theorem dX6_readsRuns_66 : decode cX6_readsRuns 66 = .ok (.bipush 12, 2) := by decide +kernel
theorem dX6_readsRuns_68 : decode cX6_readsRuns 68 = .ok (.iload_n 1, 1) := by decide +kernel
theorem dX6_readsRuns_69 : decode cX6_readsRuns 69 = .ok (.imul, 1) := by decide +kernel
theorem dX6_readsRuns_70 : decode cX6_readsRuns 70 = .ok (.iload_n 2, 1) := by decide +kernel
theorem dX6_readsRuns_71 : decode cX6_readsRuns 71 = .ok (.iadd, 1) := by decide +kernel
theorem dX6_readsRuns_72 : decode cX6_readsRuns 72 = .ok (.lload 4, 2) := by decide +kernel
theorem dX6_readsRuns_74 : decode cX6_readsRuns 74 = .ok (.lastore, 1) := by decide +kernel
theorem dX6_readsRuns_75 : decode cX6_readsRuns 75 = .ok (.iinc 2 1, 3) := by decide +kernel
theorem dX6_readsRuns_78 : decode cX6_readsRuns 78 = .ok (.iinc 6 1, 3) := by decide +kernel
theorem dX6_readsRuns_81 : decode cX6_readsRuns 81 = .ok (.goto (-25), 3) := by decide +kernel
theorem dX6_readsRuns_84 : decode cX6_readsRuns 84 = .ok (.goto (-82), 3) := by decide +kernel
theorem dX6_readsRuns_87 : decode cX6_readsRuns 87 = .ok (.return_, 1) := by decide +kernel
theorem dX6_readsSteps_0 : decode cX6_readsSteps 0 = .ok (.lconst 0, 1) := by decide +kernel
theorem dX6_readsSteps_1 : decode cX6_readsSteps 1 = .ok (.lstore_n 2, 1) := by decide +kernel
theorem dX6_readsSteps_2 : decode cX6_readsSteps 2 = .ok (.iconst 0, 1) := by decide +kernel
theorem dX6_readsSteps_3 : decode cX6_readsSteps 3 = .ok (.istore 4, 2) := by decide +kernel
theorem dX6_readsSteps_5 : decode cX6_readsSteps 5 = .ok (.iload 4, 2) := by decide +kernel
theorem dX6_readsSteps_7 : decode cX6_readsSteps 7 = .ok (.aload_n 0, 1) := by decide +kernel
theorem dX6_readsSteps_8 : decode cX6_readsSteps 8 = .ok (.getfield 13, 3) := by decide +kernel
theorem dX6_readsSteps_11 : decode cX6_readsSteps 11 = .ok (.iload_n 1, 1) := by decide +kernel
theorem dX6_readsSteps_12 : decode cX6_readsSteps 12 = .ok (.iaload, 1) := by decide +kernel
theorem dX6_readsSteps_13 : decode cX6_readsSteps 13 = .ok (.if_icmp .ge 61, 3) := by decide +kernel
theorem dX6_readsSteps_16 : decode cX6_readsSteps 16 = .ok (.aload_n 0, 1) := by decide +kernel
theorem dX6_readsSteps_17 : decode cX6_readsSteps 17 = .ok (.getfield 283, 3) := by decide +kernel
theorem dX6_readsSteps_20 : decode cX6_readsSteps 20 = .ok (.ifCond .ge 54, 3) := by decide +kernel
theorem dX6_readsSteps_23 : decode cX6_readsSteps 23 = .ok (.aload_n 0, 1) := by decide +kernel
theorem dX6_readsSteps_24 : decode cX6_readsSteps 24 = .ok (.getfield 289, 3) := by decide +kernel
theorem dX6_readsSteps_27 : decode cX6_readsSteps 27 = .ok (.istore 5, 2) := by decide +kernel
theorem dX6_readsSteps_29 : decode cX6_readsSteps 29 = .ok (.lload_n 2, 1) := by decide +kernel
theorem dX6_readsSteps_30 : decode cX6_readsSteps 30 = .ok (.aload_n 0, 1) := by decide +kernel
theorem dX6_readsSteps_31 : decode cX6_readsSteps 31 = .ok (.invokevirtual 323, 3) := by decide +kernel
theorem dX6_readsSteps_34 : decode cX6_readsSteps 34 = .ok (.ladd, 1) := by decide +kernel
theorem dX6_readsSteps_35 : decode cX6_readsSteps 35 = .ok (.lstore_n 2, 1) := by decide +kernel
theorem dX6_readsSteps_36 : decode cX6_readsSteps 36 = .ok (.aload_n 0, 1) := by decide +kernel
theorem dX6_readsSteps_37 : decode cX6_readsSteps 37 = .ok (.getfield 7, 3) := by decide +kernel
theorem dX6_readsSteps_40 : decode cX6_readsSteps 40 = .ok (.iload_n 1, 1) := by decide +kernel
theorem dX6_readsSteps_41 : decode cX6_readsSteps 41 = .ok (.iaload, 1) := by decide +kernel
theorem dX6_readsSteps_42 : decode cX6_readsSteps 42 = .ok (.lload_n 2, 1) := by decide +kernel
theorem dX6_readsSteps_43 : decode cX6_readsSteps 43 = .ok (.invokestatic 203, 3) := by decide +kernel
theorem dX6_readsSteps_46 : decode cX6_readsSteps 46 = .ok (.ifCond .ne 9, 3) := by decide +kernel
theorem dX6_readsSteps_49 : decode cX6_readsSteps 49 = .ok (.aload_n 0, 1) := by decide +kernel
theorem dX6_readsSteps_50 : decode cX6_readsSteps 50 = .ok (.iload 5, 2) := by decide +kernel
theorem dX6_readsSteps_52 : decode cX6_readsSteps 52 = .ok (.invokevirtual 295, 3) := by decide +kernel
theorem dX6_readsSteps_55 : decode cX6_readsSteps 55 = .ok (.aload_n 0, 1) := by decide +kernel
theorem dX6_readsSteps_56 : decode cX6_readsSteps 56 = .ok (.getfield 23, 3) := by decide +kernel
theorem dX6_readsSteps_59 : decode cX6_readsSteps 59 = .ok (.bipush 12, 2) := by decide +kernel
theorem dX6_readsSteps_61 : decode cX6_readsSteps 61 = .ok (.iload_n 1, 1) := by decide +kernel
theorem dX6_readsSteps_62 : decode cX6_readsSteps 62 = .ok (.imul, 1) := by decide +kernel
theorem dX6_readsSteps_63 : decode cX6_readsSteps 63 = .ok (.iload 4, 2) := by decide +kernel
theorem dX6_readsSteps_65 : decode cX6_readsSteps 65 = .ok (.iadd, 1) := by decide +kernel
theorem dX6_readsSteps_66 : decode cX6_readsSteps 66 = .ok (.lload_n 2, 1) := by decide +kernel
theorem dX6_readsSteps_67 : decode cX6_readsSteps 67 = .ok (.lastore, 1) := by decide +kernel
theorem dX6_readsSteps_68 : decode cX6_readsSteps 68 = .ok (.iinc 4 1, 3) := by decide +kernel
theorem dX6_readsSteps_71 : decode cX6_readsSteps 71 = .ok (.goto (-66), 3) := by decide +kernel
theorem dX6_readsSteps_74 : decode cX6_readsSteps 74 = .ok (.return_, 1) := by decide +kernel
theorem dX6_isRowTag_0 : decode cX6_isRowTag 0 = .ok (.iload_n 0, 1) := by decide +kernel
theorem dX6_isRowTag_1 : decode cX6_isRowTag 1 = .ok (.bipush 16, 2) := by decide +kernel
theorem dX6_isRowTag_3 : decode cX6_isRowTag 3 = .ok (.if_icmp .lt 9, 3) := by decide +kernel
theorem dX6_isRowTag_6 : decode cX6_isRowTag 6 = .ok (.iload_n 0, 1) := by decide +kernel
theorem dX6_isRowTag_7 : decode cX6_isRowTag 7 = .ok (.bipush 29, 2) := by decide +kernel
theorem dX6_isRowTag_9 : decode cX6_isRowTag 9 = .ok (.if_icmp .le 27, 3) := by decide +kernel
theorem dX6_isRowTag_12 : decode cX6_isRowTag 12 = .ok (.iload_n 0, 1) := by decide +kernel
theorem dX6_isRowTag_13 : decode cX6_isRowTag 13 = .ok (.bipush 32, 2) := by decide +kernel
theorem dX6_isRowTag_15 : decode cX6_isRowTag 15 = .ok (.if_icmp .lt 9, 3) := by decide +kernel
theorem dX6_isRowTag_18 : decode cX6_isRowTag 18 = .ok (.iload_n 0, 1) := by decide +kernel
theorem dX6_isRowTag_19 : decode cX6_isRowTag 19 = .ok (.bipush 39, 2) := by decide +kernel
theorem dX6_isRowTag_21 : decode cX6_isRowTag 21 = .ok (.if_icmp .le 15, 3) := by decide +kernel
theorem dX6_isRowTag_24 : decode cX6_isRowTag 24 = .ok (.iload_n 0, 1) := by decide +kernel
theorem dX6_isRowTag_25 : decode cX6_isRowTag 25 = .ok (.bipush 49, 2) := by decide +kernel
theorem dX6_isRowTag_27 : decode cX6_isRowTag 27 = .ok (.if_icmp .lt 13, 3) := by decide +kernel
theorem dX6_isRowTag_30 : decode cX6_isRowTag 30 = .ok (.iload_n 0, 1) := by decide +kernel
theorem dX6_isRowTag_31 : decode cX6_isRowTag 31 = .ok (.bipush 53, 2) := by decide +kernel
theorem dX6_isRowTag_33 : decode cX6_isRowTag 33 = .ok (.if_icmp .gt 7, 3) := by decide +kernel
theorem dX6_isRowTag_36 : decode cX6_isRowTag 36 = .ok (.iconst 1, 1) := by decide +kernel
theorem dX6_isRowTag_37 : decode cX6_isRowTag 37 = .ok (.goto 4, 3) := by decide +kernel
theorem dX6_isRowTag_40 : decode cX6_isRowTag 40 = .ok (.iconst 0, 1) := by decide +kernel
theorem dX6_isRowTag_41 : decode cX6_isRowTag 41 = .ok (.ireturn, 1) := by decide +kernel
theorem dX6_readsRow_0 : decode cX6_readsRow 0 = .ok (.aload_n 0, 1) := by decide +kernel
theorem dX6_readsRow_1 : decode cX6_readsRow 1 = .ok (.getfield 327, 3) := by decide +kernel
theorem dX6_readsRow_4 : decode cX6_readsRow 4 = .ok (.bipush 12, 2) := by decide +kernel
theorem dX6_readsRow_6 : decode cX6_readsRow 6 = .ok (.if_icmp .ne 12, 3) := by decide +kernel
theorem dX6_readsRow_9 : decode cX6_readsRow 9 = .ok (.aload_n 0, 1) := by decide +kernel
theorem dX6_readsRow_10 : decode cX6_readsRow 10 = .ok (.aload_n 0, 1) := by decide +kernel
theorem dX6_readsRow_11 : decode cX6_readsRow 11 = .ok (.getfield 289, 3) := by decide +kernel
theorem dX6_readsRow_14 : decode cX6_readsRow 14 = .ok (.invokevirtual 295, 3) := by decide +kernel
theorem dX6_readsRow_17 : decode cX6_readsRow 17 = .ok (.return_, 1) := by decide +kernel
theorem dX6_readsRow_18 : decode cX6_readsRow 18 = .ok (.aload_n 0, 1) := by decide +kernel
theorem dX6_readsRow_19 : decode cX6_readsRow 19 = .ok (.getfield 54, 3) := by decide +kernel
theorem dX6_readsRow_22 : decode cX6_readsRow 22 = .ok (.aload_n 0, 1) := by decide +kernel
theorem dX6_readsRow_23 : decode cX6_readsRow 23 = .ok (.getfield 289, 3) := by decide +kernel
theorem dX6_readsRow_26 : decode cX6_readsRow 26 = .ok (.iaload, 1) := by decide +kernel
theorem dX6_readsRow_27 : decode cX6_readsRow 27 = .ok (.istore_n 1, 1) := by decide +kernel
theorem dX6_readsRow_28 : decode cX6_readsRow 28 = .ok (.aload_n 0, 1) := by decide +kernel
theorem dX6_readsRow_29 : decode cX6_readsRow 29 = .ok (.dup, 1) := by decide +kernel
theorem dX6_readsRow_30 : decode cX6_readsRow 30 = .ok (.getfield 289, 3) := by decide +kernel
theorem dX6_readsRow_33 : decode cX6_readsRow 33 = .ok (.iconst 1, 1) := by decide +kernel
theorem dX6_readsRow_34 : decode cX6_readsRow 34 = .ok (.iadd, 1) := by decide +kernel
theorem dX6_readsRow_35 : decode cX6_readsRow 35 = .ok (.putfield 289, 3) := by decide +kernel
theorem dX6_readsRow_38 : decode cX6_readsRow 38 = .ok (.bipush 12, 2) := by decide +kernel
theorem dX6_readsRow_40 : decode cX6_readsRow 40 = .ok (.aload_n 0, 1) := by decide +kernel
theorem dX6_readsRow_41 : decode cX6_readsRow 41 = .ok (.getfield 327, 3) := by decide +kernel
theorem dX6_readsRow_44 : decode cX6_readsRow 44 = .ok (.iadd, 1) := by decide +kernel
theorem dX6_readsRow_45 : decode cX6_readsRow 45 = .ok (.istore_n 2, 1) := by decide +kernel
theorem dX6_readsRow_46 : decode cX6_readsRow 46 = .ok (.aload_n 0, 1) := by decide +kernel
theorem dX6_readsRow_47 : decode cX6_readsRow 47 = .ok (.dup, 1) := by decide +kernel
theorem dX6_readsRow_48 : decode cX6_readsRow 48 = .ok (.getfield 327, 3) := by decide +kernel
theorem dX6_readsRow_51 : decode cX6_readsRow 51 = .ok (.iconst 1, 1) := by decide +kernel
theorem dX6_readsRow_52 : decode cX6_readsRow 52 = .ok (.iadd, 1) := by decide +kernel
theorem dX6_readsRow_53 : decode cX6_readsRow 53 = .ok (.putfield 327, 3) := by decide +kernel
theorem dX6_readsRow_56 : decode cX6_readsRow 56 = .ok (.aload_n 0, 1) := by decide +kernel
theorem dX6_readsRow_57 : decode cX6_readsRow 57 = .ok (.iload_n 2, 1) := by decide +kernel
theorem dX6_readsRow_58 : decode cX6_readsRow 58 = .ok (.iload_n 1, 1) := by decide +kernel
theorem dX6_readsRow_59 : decode cX6_readsRow 59 = .ok (.bipush 16, 2) := by decide +kernel
theorem dX6_readsRow_61 : decode cX6_readsRow 61 = .ok (.irem, 1) := by decide +kernel
theorem dX6_readsRow_62 : decode cX6_readsRow 62 = .ok (.iconst 0, 1) := by decide +kernel
theorem dX6_readsRow_63 : decode cX6_readsRow 63 = .ok (.invokevirtual 155, 3) := by decide +kernel
theorem dX6_readsRow_66 : decode cX6_readsRow 66 = .ok (.aload_n 0, 1) := by decide +kernel
theorem dX6_readsRow_67 : decode cX6_readsRow 67 = .ok (.iconst 0, 1) := by decide +kernel
theorem dX6_readsRow_68 : decode cX6_readsRow 68 = .ok (.bipush 12, 2) := by decide +kernel
theorem dX6_readsRow_70 : decode cX6_readsRow 70 = .ok (.invokevirtual 320, 3) := by decide +kernel
theorem dX6_readsRow_73 : decode cX6_readsRow 73 = .ok (.istore_n 3, 1) := by decide +kernel
theorem dX6_readsRow_74 : decode cX6_readsRow 74 = .ok (.iload_n 3, 1) := by decide +kernel
theorem dX6_readsRow_75 : decode cX6_readsRow 75 = .ok (.ifCond .ge 4, 3) := by decide +kernel
theorem dX6_readsRow_78 : decode cX6_readsRow 78 = .ok (.return_, 1) := by decide +kernel
theorem dX6_readsRow_79 : decode cX6_readsRow 79 = .ok (.aload_n 0, 1) := by decide +kernel
theorem dX6_readsRow_80 : decode cX6_readsRow 80 = .ok (.getfield 13, 3) := by decide +kernel
theorem dX6_readsRow_83 : decode cX6_readsRow 83 = .ok (.iload_n 2, 1) := by decide +kernel
theorem dX6_readsRow_84 : decode cX6_readsRow 84 = .ok (.iload_n 3, 1) := by decide +kernel
theorem dX6_readsRow_85 : decode cX6_readsRow 85 = .ok (.iastore, 1) := by decide +kernel
theorem dX6_readsRow_86 : decode cX6_readsRow 86 = .ok (.aload_n 0, 1) := by decide +kernel
theorem dX6_readsRow_87 : decode cX6_readsRow 87 = .ok (.iload_n 2, 1) := by decide +kernel
theorem dX6_readsRow_88 : decode cX6_readsRow 88 = .ok (.invokevirtual 183, 3) := by decide +kernel
theorem dX6_readsRow_91 : decode cX6_readsRow 91 = .ok (.ifCond .ne 36, 3) := by decide +kernel
theorem dX6_readsRow_94 : decode cX6_readsRow 94 = .ok (.aload_n 0, 1) := by decide +kernel
theorem dX6_readsRow_95 : decode cX6_readsRow 95 = .ok (.getfield 48, 3) := by decide +kernel
theorem dX6_readsRow_98 : decode cX6_readsRow 98 = .ok (.aload_n 0, 1) := by decide +kernel
theorem dX6_readsRow_99 : decode cX6_readsRow 99 = .ok (.getfield 267, 3) := by decide +kernel
theorem dX6_readsRow_102 : decode cX6_readsRow 102 = .ok (.iload_n 2, 1) := by decide +kernel
theorem dX6_readsRow_103 : decode cX6_readsRow 103 = .ok (.iastore, 1) := by decide +kernel
theorem dX6_readsRow_104 : decode cX6_readsRow 104 = .ok (.aload_n 0, 1) := by decide +kernel
theorem dX6_readsRow_105 : decode cX6_readsRow 105 = .ok (.getfield 51, 3) := by decide +kernel
theorem dX6_readsRow_108 : decode cX6_readsRow 108 = .ok (.aload_n 0, 1) := by decide +kernel
theorem dX6_readsRow_109 : decode cX6_readsRow 109 = .ok (.getfield 267, 3) := by decide +kernel
theorem dX6_readsRow_112 : decode cX6_readsRow 112 = .ok (.iconst 0, 1) := by decide +kernel
theorem dX6_readsRow_113 : decode cX6_readsRow 113 = .ok (.iastore, 1) := by decide +kernel
theorem dX6_readsRow_114 : decode cX6_readsRow 114 = .ok (.aload_n 0, 1) := by decide +kernel
theorem dX6_readsRow_115 : decode cX6_readsRow 115 = .ok (.dup, 1) := by decide +kernel
theorem dX6_readsRow_116 : decode cX6_readsRow 116 = .ok (.getfield 267, 3) := by decide +kernel
theorem dX6_readsRow_119 : decode cX6_readsRow 119 = .ok (.iconst 1, 1) := by decide +kernel
theorem dX6_readsRow_120 : decode cX6_readsRow 120 = .ok (.iadd, 1) := by decide +kernel
theorem dX6_readsRow_121 : decode cX6_readsRow 121 = .ok (.putfield 267, 3) := by decide +kernel
theorem dX6_readsRow_124 : decode cX6_readsRow 124 = .ok (.goto 36, 3) := by decide +kernel
theorem dX6_readsRow_127 : decode cX6_readsRow 127 = .ok (.iload_n 1, 1) := by decide +kernel
theorem dX6_readsRow_128 : decode cX6_readsRow 128 = .ok (.bipush 32, 2) := by decide +kernel
theorem dX6_readsRow_130 : decode cX6_readsRow 130 = .ok (.if_icmp .ge 11, 3) := by decide +kernel
theorem dX6_readsRow_133 : decode cX6_readsRow 133 = .ok (.aload_n 0, 1) := by decide +kernel
theorem dX6_readsRow_134 : decode cX6_readsRow 134 = .ok (.iload_n 2, 1) := by decide +kernel
theorem dX6_readsRow_135 : decode cX6_readsRow 135 = .ok (.invokevirtual 330, 3) := by decide +kernel
theorem dX6_readsRow_138 : decode cX6_readsRow 138 = .ok (.goto 22, 3) := by decide +kernel
theorem dX6_readsRow_141 : decode cX6_readsRow 141 = .ok (.iload_n 1, 1) := by decide +kernel
theorem dX6_readsRow_142 : decode cX6_readsRow 142 = .ok (.bipush 48, 2) := by decide +kernel
theorem dX6_readsRow_144 : decode cX6_readsRow 144 = .ok (.if_icmp .ge 11, 3) := by decide +kernel
theorem dX6_readsRow_147 : decode cX6_readsRow 147 = .ok (.aload_n 0, 1) := by decide +kernel
theorem dX6_readsRow_148 : decode cX6_readsRow 148 = .ok (.iload_n 2, 1) := by decide +kernel
theorem dX6_readsRow_149 : decode cX6_readsRow 149 = .ok (.invokevirtual 333, 3) := by decide +kernel
theorem dX6_readsRow_152 : decode cX6_readsRow 152 = .ok (.goto 8, 3) := by decide +kernel
theorem dX6_readsRow_155 : decode cX6_readsRow 155 = .ok (.aload_n 0, 1) := by decide +kernel
theorem dX6_readsRow_156 : decode cX6_readsRow 156 = .ok (.iload_n 2, 1) := by decide +kernel
theorem dX6_readsRow_157 : decode cX6_readsRow 157 = .ok (.invokevirtual 336, 3) := by decide +kernel
theorem dX6_readsRow_160 : decode cX6_readsRow 160 = .ok (.return_, 1) := by decide +kernel
theorem dX6_readsWord_0 : decode cX6_readsWord 0 = .ok (.aload_n 0, 1) := by decide +kernel
theorem dX6_readsWord_1 : decode cX6_readsWord 1 = .ok (.iconst 1, 1) := by decide +kernel
theorem dX6_readsWord_2 : decode cX6_readsWord 2 = .ok (.bipush 7, 2) := by decide +kernel
theorem dX6_readsWord_4 : decode cX6_readsWord 4 = .ok (.invokevirtual 320, 3) := by decide +kernel
theorem dX6_readsWord_7 : decode cX6_readsWord 7 = .ok (.istore_n 1, 1) := by decide +kernel
theorem dX6_readsWord_8 : decode cX6_readsWord 8 = .ok (.lconst 0, 1) := by decide +kernel
theorem dX6_readsWord_9 : decode cX6_readsWord 9 = .ok (.lstore_n 2, 1) := by decide +kernel
theorem dX6_readsWord_10 : decode cX6_readsWord 10 = .ok (.iconst 0, 1) := by decide +kernel
theorem dX6_readsWord_11 : decode cX6_readsWord 11 = .ok (.istore 4, 2) := by decide +kernel
theorem dX6_readsWord_13 : decode cX6_readsWord 13 = .ok (.iload 4, 2) := by decide +kernel
theorem dX6_readsWord_15 : decode cX6_readsWord 15 = .ok (.iload_n 1, 1) := by decide +kernel
theorem dX6_readsWord_16 : decode cX6_readsWord 16 = .ok (.if_icmp .ge 36, 3) := by decide +kernel
theorem dX6_readsWord_19 : decode cX6_readsWord 19 = .ok (.aload_n 0, 1) := by decide +kernel
theorem dX6_readsWord_20 : decode cX6_readsWord 20 = .ok (.getfield 283, 3) := by decide +kernel
theorem dX6_readsWord_23 : decode cX6_readsWord 23 = .ok (.ifCond .ge 29, 3) := by decide +kernel
theorem dX6_readsWord_26 : decode cX6_readsWord 26 = .ok (.ldc2_w 69, 3) := by decide +kernel
theorem dX6_readsWord_29 : decode cX6_readsWord 29 = .ok (.lload_n 2, 1) := by decide +kernel
theorem dX6_readsWord_30 : decode cX6_readsWord 30 = .ok (.lmul, 1) := by decide +kernel
theorem dX6_readsWord_31 : decode cX6_readsWord 31 = .ok (.aload_n 0, 1) := by decide +kernel
theorem dX6_readsWord_32 : decode cX6_readsWord 32 = .ok (.bipush 97, 2) := by decide +kernel
theorem dX6_readsWord_34 : decode cX6_readsWord 34 = .ok (.bipush 122, 2) := by decide +kernel
theorem dX6_readsWord_36 : decode cX6_readsWord 36 = .ok (.invokevirtual 320, 3) := by decide +kernel
theorem dX6_readsWord_39 : decode cX6_readsWord 39 = .ok (.i2l, 1) := by decide +kernel
theorem dX6_readsWord_40 : decode cX6_readsWord 40 = .ok (.ladd, 1) := by decide +kernel
theorem dX6_readsWord_41 : decode cX6_readsWord 41 = .ok (.ldc2_w 71, 3) := by decide +kernel
theorem dX6_readsWord_44 : decode cX6_readsWord 44 = .ok (.lsub, 1) := by decide +kernel
theorem dX6_readsWord_45 : decode cX6_readsWord 45 = .ok (.lstore_n 2, 1) := by decide +kernel
theorem dX6_readsWord_46 : decode cX6_readsWord 46 = .ok (.iinc 4 1, 3) := by decide +kernel
theorem dX6_readsWord_49 : decode cX6_readsWord 49 = .ok (.goto (-36), 3) := by decide +kernel
theorem dX6_readsWord_52 : decode cX6_readsWord 52 = .ok (.lload_n 2, 1) := by decide +kernel
theorem dX6_readsWord_53 : decode cX6_readsWord 53 = .ok (.lreturn, 1) := by decide +kernel
theorem dX6_mayStand_0 : decode cX6_mayStand 0 = .ok (.iload_n 2, 1) := by decide +kernel
theorem dX6_mayStand_1 : decode cX6_mayStand 1 = .ok (.bipush 11, 2) := by decide +kernel
theorem dX6_mayStand_3 : decode cX6_mayStand 3 = .ok (.if_icmp .eq 9, 3) := by decide +kernel
theorem dX6_mayStand_6 : decode cX6_mayStand 6 = .ok (.iload_n 1, 1) := by decide +kernel
theorem dX6_mayStand_7 : decode cX6_mayStand 7 = .ok (.bipush 12, 2) := by decide +kernel
theorem dX6_mayStand_9 : decode cX6_mayStand 9 = .ok (.if_icmp .ne 26, 3) := by decide +kernel
theorem dX6_mayStand_12 : decode cX6_mayStand 12 = .ok (.iload_n 2, 1) := by decide +kernel
theorem dX6_mayStand_13 : decode cX6_mayStand 13 = .ok (.ifCond .lt 9, 3) := by decide +kernel
theorem dX6_mayStand_16 : decode cX6_mayStand 16 = .ok (.iload_n 2, 1) := by decide +kernel
theorem dX6_mayStand_17 : decode cX6_mayStand 17 = .ok (.bipush 12, 2) := by decide +kernel
theorem dX6_mayStand_19 : decode cX6_mayStand 19 = .ok (.if_icmp .lt 10, 3) := by decide +kernel
theorem dX6_mayStand_22 : decode cX6_mayStand 22 = .ok (.iload_n 2, 1) := by decide +kernel
theorem dX6_mayStand_23 : decode cX6_mayStand 23 = .ok (.invokestatic 339, 3) := by decide +kernel
theorem dX6_mayStand_26 : decode cX6_mayStand 26 = .ok (.ifCond .eq 7, 3) := by decide +kernel
theorem dX6_mayStand_29 : decode cX6_mayStand 29 = .ok (.iconst 1, 1) := by decide +kernel
theorem dX6_mayStand_30 : decode cX6_mayStand 30 = .ok (.goto 4, 3) := by decide +kernel
theorem dX6_mayStand_33 : decode cX6_mayStand 33 = .ok (.iconst 0, 1) := by decide +kernel
theorem dX6_mayStand_34 : decode cX6_mayStand 34 = .ok (.ireturn, 1) := by decide +kernel
theorem dX6_mayStand_35 : decode cX6_mayStand 35 = .ok (.iload_n 1, 1) := by decide +kernel
theorem dX6_mayStand_36 : decode cX6_mayStand 36 = .ok (.bipush 8, 2) := by decide +kernel
theorem dX6_mayStand_38 : decode cX6_mayStand 38 = .ok (.if_icmp .ne 14, 3) := by decide +kernel
theorem dX6_mayStand_41 : decode cX6_mayStand 41 = .ok (.iload_n 2, 1) := by decide +kernel
theorem dX6_mayStand_42 : decode cX6_mayStand 42 = .ok (.iconst 4, 1) := by decide +kernel
theorem dX6_mayStand_43 : decode cX6_mayStand 43 = .ok (.if_icmp .ne 7, 3) := by decide +kernel
theorem dX6_mayStand_46 : decode cX6_mayStand 46 = .ok (.iconst 1, 1) := by decide +kernel
theorem dX6_mayStand_47 : decode cX6_mayStand 47 = .ok (.goto 4, 3) := by decide +kernel
theorem dX6_mayStand_50 : decode cX6_mayStand 50 = .ok (.iconst 0, 1) := by decide +kernel
theorem dX6_mayStand_51 : decode cX6_mayStand 51 = .ok (.ireturn, 1) := by decide +kernel
theorem dX6_mayStand_52 : decode cX6_mayStand 52 = .ok (.iload_n 1, 1) := by decide +kernel
theorem dX6_mayStand_53 : decode cX6_mayStand 53 = .ok (.bipush 9, 2) := by decide +kernel
theorem dX6_mayStand_55 : decode cX6_mayStand 55 = .ok (.if_icmp .ne 15, 3) := by decide +kernel
theorem dX6_mayStand_58 : decode cX6_mayStand 58 = .ok (.iload_n 2, 1) := by decide +kernel
theorem dX6_mayStand_59 : decode cX6_mayStand 59 = .ok (.bipush 8, 2) := by decide +kernel
theorem dX6_mayStand_61 : decode cX6_mayStand 61 = .ok (.if_icmp .ne 7, 3) := by decide +kernel
theorem dX6_mayStand_64 : decode cX6_mayStand 64 = .ok (.iconst 1, 1) := by decide +kernel
theorem dX6_mayStand_65 : decode cX6_mayStand 65 = .ok (.goto 4, 3) := by decide +kernel
theorem dX6_mayStand_68 : decode cX6_mayStand 68 = .ok (.iconst 0, 1) := by decide +kernel
theorem dX6_mayStand_69 : decode cX6_mayStand 69 = .ok (.ireturn, 1) := by decide +kernel
theorem dX6_mayStand_70 : decode cX6_mayStand 70 = .ok (.iload_n 1, 1) := by decide +kernel
theorem dX6_mayStand_71 : decode cX6_mayStand 71 = .ok (.bipush 10, 2) := by decide +kernel
theorem dX6_mayStand_73 : decode cX6_mayStand 73 = .ok (.if_icmp .eq 9, 3) := by decide +kernel
theorem dX6_mayStand_76 : decode cX6_mayStand 76 = .ok (.iload_n 1, 1) := by decide +kernel
theorem dX6_mayStand_77 : decode cX6_mayStand 77 = .ok (.bipush 11, 2) := by decide +kernel
theorem dX6_mayStand_79 : decode cX6_mayStand 79 = .ok (.if_icmp .ne 15, 3) := by decide +kernel
theorem dX6_mayStand_82 : decode cX6_mayStand 82 = .ok (.iload_n 2, 1) := by decide +kernel
theorem dX6_mayStand_83 : decode cX6_mayStand 83 = .ok (.bipush 9, 2) := by decide +kernel
theorem dX6_mayStand_85 : decode cX6_mayStand 85 = .ok (.if_icmp .ne 7, 3) := by decide +kernel
theorem dX6_mayStand_88 : decode cX6_mayStand 88 = .ok (.iconst 1, 1) := by decide +kernel
theorem dX6_mayStand_89 : decode cX6_mayStand 89 = .ok (.goto 4, 3) := by decide +kernel
theorem dX6_mayStand_92 : decode cX6_mayStand 92 = .ok (.iconst 0, 1) := by decide +kernel
theorem dX6_mayStand_93 : decode cX6_mayStand 93 = .ok (.ireturn, 1) := by decide +kernel
theorem dX6_mayStand_94 : decode cX6_mayStand 94 = .ok (.iload_n 2, 1) := by decide +kernel
theorem dX6_mayStand_95 : decode cX6_mayStand 95 = .ok (.bipush 10, 2) := by decide +kernel
theorem dX6_mayStand_97 : decode cX6_mayStand 97 = .ok (.if_icmp .eq 21, 3) := by decide +kernel
theorem dX6_mayStand_100 : decode cX6_mayStand 100 = .ok (.iload_n 2, 1) := by decide +kernel
theorem dX6_mayStand_101 : decode cX6_mayStand 101 = .ok (.bipush 20, 2) := by decide +kernel
theorem dX6_mayStand_103 : decode cX6_mayStand 103 = .ok (.if_icmp .eq 15, 3) := by decide +kernel
theorem dX6_mayStand_106 : decode cX6_mayStand 106 = .ok (.iload_n 2, 1) := by decide +kernel
theorem dX6_mayStand_107 : decode cX6_mayStand 107 = .ok (.bipush 36, 2) := by decide +kernel
theorem dX6_mayStand_109 : decode cX6_mayStand 109 = .ok (.if_icmp .eq 9, 3) := by decide +kernel
theorem dX6_mayStand_112 : decode cX6_mayStand 112 = .ok (.iload_n 2, 1) := by decide +kernel
theorem dX6_mayStand_113 : decode cX6_mayStand 113 = .ok (.bipush 52, 2) := by decide +kernel
theorem dX6_mayStand_115 : decode cX6_mayStand 115 = .ok (.if_icmp .ne 7, 3) := by decide +kernel
theorem dX6_mayStand_118 : decode cX6_mayStand 118 = .ok (.iconst 1, 1) := by decide +kernel
theorem dX6_mayStand_119 : decode cX6_mayStand 119 = .ok (.goto 4, 3) := by decide +kernel
theorem dX6_mayStand_122 : decode cX6_mayStand 122 = .ok (.iconst 0, 1) := by decide +kernel
theorem dX6_mayStand_123 : decode cX6_mayStand 123 = .ok (.ireturn, 1) := by decide +kernel
theorem dX6_readsCell_0 : decode cX6_readsCell 0 = .ok (.aload_n 0, 1) := by decide +kernel
theorem dX6_readsCell_1 : decode cX6_readsCell 1 = .ok (.aload_n 0, 1) := by decide +kernel
theorem dX6_readsCell_2 : decode cX6_readsCell 2 = .ok (.getfield 289, 3) := by decide +kernel
theorem dX6_readsCell_5 : decode cX6_readsCell 5 = .ok (.invokevirtual 292, 3) := by decide +kernel
theorem dX6_readsCell_8 : decode cX6_readsCell 8 = .ok (.istore_n 3, 1) := by decide +kernel
theorem dX6_readsCell_9 : decode cX6_readsCell 9 = .ok (.aload_n 0, 1) := by decide +kernel
theorem dX6_readsCell_10 : decode cX6_readsCell 10 = .ok (.aload_n 0, 1) := by decide +kernel
theorem dX6_readsCell_11 : decode cX6_readsCell 11 = .ok (.getfield 7, 3) := by decide +kernel
theorem dX6_readsCell_14 : decode cX6_readsCell 14 = .ok (.iload_n 1, 1) := by decide +kernel
theorem dX6_readsCell_15 : decode cX6_readsCell 15 = .ok (.iaload, 1) := by decide +kernel
theorem dX6_readsCell_16 : decode cX6_readsCell 16 = .ok (.iload_n 3, 1) := by decide +kernel
theorem dX6_readsCell_17 : decode cX6_readsCell 17 = .ok (.invokevirtual 342, 3) := by decide +kernel
theorem dX6_readsCell_20 : decode cX6_readsCell 20 = .ok (.ifCond .ne 12, 3) := by decide +kernel
theorem dX6_readsCell_23 : decode cX6_readsCell 23 = .ok (.aload_n 0, 1) := by decide +kernel
theorem dX6_readsCell_24 : decode cX6_readsCell 24 = .ok (.aload_n 0, 1) := by decide +kernel
theorem dX6_readsCell_25 : decode cX6_readsCell 25 = .ok (.getfield 289, 3) := by decide +kernel
theorem dX6_readsCell_28 : decode cX6_readsCell 28 = .ok (.invokevirtual 295, 3) := by decide +kernel
theorem dX6_readsCell_31 : decode cX6_readsCell 31 = .ok (.return_, 1) := by decide +kernel
theorem dX6_readsCell_32 : decode cX6_readsCell 32 = .ok (.bipush 12, 2) := by decide +kernel
theorem dX6_readsCell_34 : decode cX6_readsCell 34 = .ok (.iload_n 1, 1) := by decide +kernel
theorem dX6_readsCell_35 : decode cX6_readsCell 35 = .ok (.imul, 1) := by decide +kernel
theorem dX6_readsCell_36 : decode cX6_readsCell 36 = .ok (.iload_n 2, 1) := by decide +kernel
theorem dX6_readsCell_37 : decode cX6_readsCell 37 = .ok (.iadd, 1) := by decide +kernel
theorem dX6_readsCell_38 : decode cX6_readsCell 38 = .ok (.istore 4, 2) := by decide +kernel
theorem dX6_readsCell_40 : decode cX6_readsCell 40 = .ok (.iload_n 3, 1) := by decide +kernel
theorem dX6_readsCell_41 : decode cX6_readsCell 41 = .ok (.invokestatic 339, 3) := by decide +kernel
theorem dX6_readsCell_44 : decode cX6_readsCell 44 = .ok (.ifCond .eq 32, 3) := by decide +kernel
theorem dX6_readsCell_47 : decode cX6_readsCell 47 = .ok (.aload_n 0, 1) := by decide +kernel
theorem dX6_readsCell_48 : decode cX6_readsCell 48 = .ok (.getfield 20, 3) := by decide +kernel
theorem dX6_readsCell_51 : decode cX6_readsCell 51 = .ok (.iload 4, 2) := by decide +kernel
theorem dX6_readsCell_53 : decode cX6_readsCell 53 = .ok (.bipush 10, 2) := by decide +kernel
theorem dX6_readsCell_55 : decode cX6_readsCell 55 = .ok (.iastore, 1) := by decide +kernel
theorem dX6_readsCell_56 : decode cX6_readsCell 56 = .ok (.aload_n 0, 1) := by decide +kernel
theorem dX6_readsCell_57 : decode cX6_readsCell 57 = .ok (.getfield 23, 3) := by decide +kernel
theorem dX6_readsCell_60 : decode cX6_readsCell 60 = .ok (.iload 4, 2) := by decide +kernel
theorem dX6_readsCell_62 : decode cX6_readsCell 62 = .ok (.bipush 12, 2) := by decide +kernel
theorem dX6_readsCell_64 : decode cX6_readsCell 64 = .ok (.aload_n 0, 1) := by decide +kernel
theorem dX6_readsCell_65 : decode cX6_readsCell 65 = .ok (.getfield 327, 3) := by decide +kernel
theorem dX6_readsCell_68 : decode cX6_readsCell 68 = .ok (.iadd, 1) := by decide +kernel
theorem dX6_readsCell_69 : decode cX6_readsCell 69 = .ok (.i2l, 1) := by decide +kernel
theorem dX6_readsCell_70 : decode cX6_readsCell 70 = .ok (.lastore, 1) := by decide +kernel
theorem dX6_readsCell_71 : decode cX6_readsCell 71 = .ok (.aload_n 0, 1) := by decide +kernel
theorem dX6_readsCell_72 : decode cX6_readsCell 72 = .ok (.invokevirtual 345, 3) := by decide +kernel
theorem dX6_readsCell_75 : decode cX6_readsCell 75 = .ok (.return_, 1) := by decide +kernel
theorem dX6_readsCell_76 : decode cX6_readsCell 76 = .ok (.aload_n 0, 1) := by decide +kernel
theorem dX6_readsCell_77 : decode cX6_readsCell 77 = .ok (.dup, 1) := by decide +kernel
theorem dX6_readsCell_78 : decode cX6_readsCell 78 = .ok (.getfield 289, 3) := by decide +kernel
theorem dX6_readsCell_81 : decode cX6_readsCell 81 = .ok (.iconst 1, 1) := by decide +kernel
theorem dX6_readsCell_82 : decode cX6_readsCell 82 = .ok (.iadd, 1) := by decide +kernel
theorem dX6_readsCell_83 : decode cX6_readsCell 83 = .ok (.putfield 289, 3) := by decide +kernel
theorem dX6_readsCell_86 : decode cX6_readsCell 86 = .ok (.aload_n 0, 1) := by decide +kernel
theorem dX6_readsCell_87 : decode cX6_readsCell 87 = .ok (.getfield 20, 3) := by decide +kernel
theorem dX6_readsCell_90 : decode cX6_readsCell 90 = .ok (.iload 4, 2) := by decide +kernel
theorem dX6_readsCell_92 : decode cX6_readsCell 92 = .ok (.iload_n 3, 1) := by decide +kernel
theorem dX6_readsCell_93 : decode cX6_readsCell 93 = .ok (.iastore, 1) := by decide +kernel
theorem dX6_readsCell_94 : decode cX6_readsCell 94 = .ok (.iload_n 3, 1) := by decide +kernel
theorem dX6_readsCell_95 : decode cX6_readsCell 95 = .ok (.bipush 8, 2) := by decide +kernel
theorem dX6_readsCell_97 : decode cX6_readsCell 97 = .ok (.if_icmp .ge 18, 3) := by decide +kernel
theorem dX6_readsCell_100 : decode cX6_readsCell 100 = .ok (.aload_n 0, 1) := by decide +kernel
theorem dX6_readsCell_101 : decode cX6_readsCell 101 = .ok (.getfield 23, 3) := by decide +kernel
theorem dX6_readsCell_104 : decode cX6_readsCell 104 = .ok (.iload 4, 2) := by decide +kernel
theorem dX6_readsCell_106 : decode cX6_readsCell 106 = .ok (.aload_n 0, 1) := by decide +kernel
theorem dX6_readsCell_107 : decode cX6_readsCell 107 = .ok (.iload_n 3, 1) := by decide +kernel
theorem dX6_readsCell_108 : decode cX6_readsCell 108 = .ok (.invokevirtual 316, 3) := by decide +kernel
theorem dX6_readsCell_111 : decode cX6_readsCell 111 = .ok (.lastore, 1) := by decide +kernel
theorem dX6_readsCell_112 : decode cX6_readsCell 112 = .ok (.goto 150, 3) := by decide +kernel
theorem dX6_readsCell_115 : decode cX6_readsCell 115 = .ok (.iload_n 3, 1) := by decide +kernel
theorem dX6_readsCell_116 : decode cX6_readsCell 116 = .ok (.bipush 8, 2) := by decide +kernel
theorem dX6_readsCell_118 : decode cX6_readsCell 118 = .ok (.if_icmp .ne 17, 3) := by decide +kernel
theorem dX6_readsCell_121 : decode cX6_readsCell 121 = .ok (.aload_n 0, 1) := by decide +kernel
theorem dX6_readsCell_122 : decode cX6_readsCell 122 = .ok (.getfield 23, 3) := by decide +kernel
theorem dX6_readsCell_125 : decode cX6_readsCell 125 = .ok (.iload 4, 2) := by decide +kernel
theorem dX6_readsCell_127 : decode cX6_readsCell 127 = .ok (.aload_n 0, 1) := by decide +kernel
theorem dX6_readsCell_128 : decode cX6_readsCell 128 = .ok (.invokevirtual 348, 3) := by decide +kernel
theorem dX6_readsCell_131 : decode cX6_readsCell 131 = .ok (.lastore, 1) := by decide +kernel
theorem dX6_readsCell_132 : decode cX6_readsCell 132 = .ok (.goto 130, 3) := by decide +kernel
theorem dX6_readsCell_135 : decode cX6_readsCell 135 = .ok (.iload_n 3, 1) := by decide +kernel
theorem dX6_readsCell_136 : decode cX6_readsCell 136 = .ok (.bipush 9, 2) := by decide +kernel
theorem dX6_readsCell_138 : decode cX6_readsCell 138 = .ok (.if_icmp .ne 35, 3) := by decide +kernel
theorem dX6_readsCell_141 : decode cX6_readsCell 141 = .ok (.aload_n 0, 1) := by decide +kernel
theorem dX6_readsCell_142 : decode cX6_readsCell 142 = .ok (.getfield 23, 3) := by decide +kernel
theorem dX6_readsCell_145 : decode cX6_readsCell 145 = .ok (.iload 4, 2) := by decide +kernel
theorem dX6_readsCell_147 : decode cX6_readsCell 147 = .ok (.aload_n 0, 1) := by decide +kernel
theorem dX6_readsCell_148 : decode cX6_readsCell 148 = .ok (.aload_n 0, 1) := by decide +kernel
theorem dX6_readsCell_149 : decode cX6_readsCell 149 = .ok (.getfield 7, 3) := by decide +kernel
theorem dX6_readsCell_152 : decode cX6_readsCell 152 = .ok (.iload_n 1, 1) := by decide +kernel
theorem dX6_readsCell_153 : decode cX6_readsCell 153 = .ok (.iaload, 1) := by decide +kernel
theorem dX6_readsCell_154 : decode cX6_readsCell 154 = .ok (.bipush 11, 2) := by decide +kernel
theorem dX6_readsCell_156 : decode cX6_readsCell 156 = .ok (.if_icmp .ne 7, 3) := by decide +kernel
theorem dX6_readsCell_159 : decode cX6_readsCell 159 = .ok (.iconst 3, 1) := by decide +kernel
theorem dX6_readsCell_160 : decode cX6_readsCell 160 = .ok (.goto 4, 3) := by decide +kernel
theorem dX6_readsCell_163 : decode cX6_readsCell 163 = .ok (.iconst 0, 1) := by decide +kernel
theorem dX6_readsCell_164 : decode cX6_readsCell 164 = .ok (.iconst 5, 1) := by decide +kernel
theorem dX6_readsCell_165 : decode cX6_readsCell 165 = .ok (.invokevirtual 320, 3) := by decide +kernel
theorem dX6_readsCell_168 : decode cX6_readsCell 168 = .ok (.i2l, 1) := by decide +kernel
theorem dX6_readsCell_169 : decode cX6_readsCell 169 = .ok (.lastore, 1) := by decide +kernel
theorem dX6_readsCell_170 : decode cX6_readsCell 170 = .ok (.goto 92, 3) := by decide +kernel
theorem dX6_readsCell_173 : decode cX6_readsCell 173 = .ok (.iload_n 3, 1) := by decide +kernel
theorem dX6_readsCell_174 : decode cX6_readsCell 174 = .ok (.bipush 10, 2) := by decide +kernel
theorem dX6_readsCell_176 : decode cX6_readsCell 176 = .ok (.if_icmp .ne 86, 3) := by decide +kernel
theorem dX6_readsCell_179 : decode cX6_readsCell 179 = .ok (.aload_n 0, 1) := by decide +kernel
theorem dX6_readsCell_180 : decode cX6_readsCell 180 = .ok (.aload_n 0, 1) := by decide +kernel
theorem dX6_readsCell_181 : decode cX6_readsCell 181 = .ok (.getfield 289, 3) := by decide +kernel
theorem dX6_readsCell_184 : decode cX6_readsCell 184 = .ok (.invokevirtual 292, 3) := by decide +kernel
theorem dX6_readsCell_187 : decode cX6_readsCell 187 = .ok (.istore 5, 2) := by decide +kernel
theorem dX6_readsCell_189 : decode cX6_readsCell 189 = .ok (.iload 5, 2) := by decide +kernel
theorem dX6_readsCell_191 : decode cX6_readsCell 191 = .ok (.ifCond .lt 37, 3) := by decide +kernel
theorem dX6_readsCell_194 : decode cX6_readsCell 194 = .ok (.iload 5, 2) := by decide +kernel
theorem dX6_readsCell_196 : decode cX6_readsCell 196 = .ok (.aload_n 0, 1) := by decide +kernel
theorem dX6_readsCell_197 : decode cX6_readsCell 197 = .ok (.getfield 327, 3) := by decide +kernel
theorem dX6_readsCell_200 : decode cX6_readsCell 200 = .ok (.if_icmp .ge 28, 3) := by decide +kernel
theorem dX6_readsCell_203 : decode cX6_readsCell 203 = .ok (.aload_n 0, 1) := by decide +kernel
theorem dX6_readsCell_204 : decode cX6_readsCell 204 = .ok (.getfield 7, 3) := by decide +kernel
theorem dX6_readsCell_207 : decode cX6_readsCell 207 = .ok (.iload_n 1, 1) := by decide +kernel
theorem dX6_readsCell_208 : decode cX6_readsCell 208 = .ok (.iaload, 1) := by decide +kernel
theorem dX6_readsCell_209 : decode cX6_readsCell 209 = .ok (.bipush 13, 2) := by decide +kernel
theorem dX6_readsCell_211 : decode cX6_readsCell 211 = .ok (.if_icmp .ne 28, 3) := by decide +kernel
theorem dX6_readsCell_214 : decode cX6_readsCell 214 = .ok (.aload_n 0, 1) := by decide +kernel
theorem dX6_readsCell_215 : decode cX6_readsCell 215 = .ok (.getfield 7, 3) := by decide +kernel
theorem dX6_readsCell_218 : decode cX6_readsCell 218 = .ok (.bipush 12, 2) := by decide +kernel
theorem dX6_readsCell_220 : decode cX6_readsCell 220 = .ok (.iload 5, 2) := by decide +kernel
theorem dX6_readsCell_222 : decode cX6_readsCell 222 = .ok (.iadd, 1) := by decide +kernel
theorem dX6_readsCell_223 : decode cX6_readsCell 223 = .ok (.iaload, 1) := by decide +kernel
theorem dX6_readsCell_224 : decode cX6_readsCell 224 = .ok (.iconst 4, 1) := by decide +kernel
theorem dX6_readsCell_225 : decode cX6_readsCell 225 = .ok (.if_icmp .eq 14, 3) := by decide +kernel
theorem dX6_readsCell_228 : decode cX6_readsCell 228 = .ok (.aload_n 0, 1) := by decide +kernel
theorem dX6_readsCell_229 : decode cX6_readsCell 229 = .ok (.aload_n 0, 1) := by decide +kernel
theorem dX6_readsCell_230 : decode cX6_readsCell 230 = .ok (.getfield 289, 3) := by decide +kernel
theorem dX6_readsCell_233 : decode cX6_readsCell 233 = .ok (.invokevirtual 295, 3) := by decide +kernel
theorem dX6_readsCell_236 : decode cX6_readsCell 236 = .ok (.goto 26, 3) := by decide +kernel
theorem dX6_readsCell_239 : decode cX6_readsCell 239 = .ok (.aload_n 0, 1) := by decide +kernel
theorem dX6_readsCell_240 : decode cX6_readsCell 240 = .ok (.dup, 1) := by decide +kernel
theorem dX6_readsCell_241 : decode cX6_readsCell 241 = .ok (.getfield 289, 3) := by decide +kernel
theorem dX6_readsCell_244 : decode cX6_readsCell 244 = .ok (.iconst 1, 1) := by decide +kernel
theorem dX6_readsCell_245 : decode cX6_readsCell 245 = .ok (.iadd, 1) := by decide +kernel
theorem dX6_readsCell_246 : decode cX6_readsCell 246 = .ok (.putfield 289, 3) := by decide +kernel
theorem dX6_readsCell_249 : decode cX6_readsCell 249 = .ok (.aload_n 0, 1) := by decide +kernel
theorem dX6_readsCell_250 : decode cX6_readsCell 250 = .ok (.getfield 23, 3) := by decide +kernel
theorem dX6_readsCell_253 : decode cX6_readsCell 253 = .ok (.iload 4, 2) := by decide +kernel
theorem dX6_readsCell_255 : decode cX6_readsCell 255 = .ok (.bipush 12, 2) := by decide +kernel
theorem dX6_readsCell_257 : decode cX6_readsCell 257 = .ok (.iload 5, 2) := by decide +kernel
theorem dX6_readsCell_259 : decode cX6_readsCell 259 = .ok (.iadd, 1) := by decide +kernel
theorem dX6_readsCell_260 : decode cX6_readsCell 260 = .ok (.i2l, 1) := by decide +kernel
theorem dX6_readsCell_261 : decode cX6_readsCell 261 = .ok (.lastore, 1) := by decide +kernel
theorem dX6_readsCell_262 : decode cX6_readsCell 262 = .ok (.return_, 1) := by decide +kernel
theorem dX6_readsItem_0 : decode cX6_readsItem 0 = .ok (.aload_n 0, 1) := by decide +kernel
theorem dX6_readsItem_1 : decode cX6_readsItem 1 = .ok (.iload_n 1, 1) := by decide +kernel
theorem dX6_readsItem_2 : decode cX6_readsItem 2 = .ok (.putfield 289, 3) := by decide +kernel
theorem dX6_readsItem_5 : decode cX6_readsItem 5 = .ok (.aload_n 0, 1) := by decide +kernel
theorem dX6_readsItem_6 : decode cX6_readsItem 6 = .ok (.iconst (-1), 1) := by decide +kernel
theorem dX6_readsItem_7 : decode cX6_readsItem 7 = .ok (.putfield 283, 3) := by decide +kernel
theorem dX6_readsItem_10 : decode cX6_readsItem 10 = .ok (.aload_n 0, 1) := by decide +kernel
theorem dX6_readsItem_11 : decode cX6_readsItem 11 = .ok (.iconst 0, 1) := by decide +kernel
theorem dX6_readsItem_12 : decode cX6_readsItem 12 = .ok (.putfield 327, 3) := by decide +kernel
theorem dX6_readsItem_15 : decode cX6_readsItem 15 = .ok (.aload_n 0, 1) := by decide +kernel
theorem dX6_readsItem_16 : decode cX6_readsItem 16 = .ok (.iconst 0, 1) := by decide +kernel
theorem dX6_readsItem_17 : decode cX6_readsItem 17 = .ok (.putfield 267, 3) := by decide +kernel
theorem dX6_readsItem_20 : decode cX6_readsItem 20 = .ok (.aload_n 0, 1) := by decide +kernel
theorem dX6_readsItem_21 : decode cX6_readsItem 21 = .ok (.aload_n 0, 1) := by decide +kernel
theorem dX6_readsItem_22 : decode cX6_readsItem 22 = .ok (.getfield 289, 3) := by decide +kernel
theorem dX6_readsItem_25 : decode cX6_readsItem 25 = .ok (.invokevirtual 292, 3) := by decide +kernel
theorem dX6_readsItem_28 : decode cX6_readsItem 28 = .ok (.istore_n 2, 1) := by decide +kernel
theorem dX6_readsItem_29 : decode cX6_readsItem 29 = .ok (.iload_n 2, 1) := by decide +kernel
theorem dX6_readsItem_30 : decode cX6_readsItem 30 = .ok (.bipush 8, 2) := by decide +kernel
theorem dX6_readsItem_32 : decode cX6_readsItem 32 = .ok (.if_icmp .eq 9, 3) := by decide +kernel
theorem dX6_readsItem_35 : decode cX6_readsItem 35 = .ok (.iload_n 2, 1) := by decide +kernel
theorem dX6_readsItem_36 : decode cX6_readsItem 36 = .ok (.bipush 9, 2) := by decide +kernel
theorem dX6_readsItem_38 : decode cX6_readsItem 38 = .ok (.if_icmp .ne 63, 3) := by decide +kernel
theorem dX6_readsItem_41 : decode cX6_readsItem 41 = .ok (.aload_n 0, 1) := by decide +kernel
theorem dX6_readsItem_42 : decode cX6_readsItem 42 = .ok (.dup, 1) := by decide +kernel
theorem dX6_readsItem_43 : decode cX6_readsItem 43 = .ok (.getfield 289, 3) := by decide +kernel
theorem dX6_readsItem_46 : decode cX6_readsItem 46 = .ok (.iconst 1, 1) := by decide +kernel
theorem dX6_readsItem_47 : decode cX6_readsItem 47 = .ok (.iadd, 1) := by decide +kernel
theorem dX6_readsItem_48 : decode cX6_readsItem 48 = .ok (.putfield 289, 3) := by decide +kernel
theorem dX6_readsItem_51 : decode cX6_readsItem 51 = .ok (.aload_n 0, 1) := by decide +kernel
theorem dX6_readsItem_52 : decode cX6_readsItem 52 = .ok (.bipush 12, 2) := by decide +kernel
theorem dX6_readsItem_54 : decode cX6_readsItem 54 = .ok (.iload_n 2, 1) := by decide +kernel
theorem dX6_readsItem_55 : decode cX6_readsItem 55 = .ok (.bipush 8, 2) := by decide +kernel
theorem dX6_readsItem_57 : decode cX6_readsItem 57 = .ok (.if_icmp .ne 8, 3) := by decide +kernel
theorem dX6_readsItem_60 : decode cX6_readsItem 60 = .ok (.bipush 15, 2) := by decide +kernel
theorem dX6_readsItem_62 : decode cX6_readsItem 62 = .ok (.goto 5, 3) := by decide +kernel
theorem dX6_readsItem_65 : decode cX6_readsItem 65 = .ok (.bipush 14, 2) := by decide +kernel
theorem dX6_readsItem_67 : decode cX6_readsItem 67 = .ok (.iconst 0, 1) := by decide +kernel
theorem dX6_readsItem_68 : decode cX6_readsItem 68 = .ok (.invokevirtual 155, 3) := by decide +kernel
theorem dX6_readsItem_71 : decode cX6_readsItem 71 = .ok (.aload_n 0, 1) := by decide +kernel
theorem dX6_readsItem_72 : decode cX6_readsItem 72 = .ok (.getfield 16, 3) := by decide +kernel
theorem dX6_readsItem_75 : decode cX6_readsItem 75 = .ok (.bipush 12, 2) := by decide +kernel
theorem dX6_readsItem_77 : decode cX6_readsItem 77 = .ok (.iload_n 2, 1) := by decide +kernel
theorem dX6_readsItem_78 : decode cX6_readsItem 78 = .ok (.bipush 8, 2) := by decide +kernel
theorem dX6_readsItem_80 : decode cX6_readsItem 80 = .ok (.if_icmp .ne 10, 3) := by decide +kernel
theorem dX6_readsItem_83 : decode cX6_readsItem 83 = .ok (.aload_n 0, 1) := by decide +kernel
theorem dX6_readsItem_84 : decode cX6_readsItem 84 = .ok (.invokevirtual 348, 3) := by decide +kernel
theorem dX6_readsItem_87 : decode cX6_readsItem 87 = .ok (.goto 10, 3) := by decide +kernel
theorem dX6_readsItem_90 : decode cX6_readsItem 90 = .ok (.aload_n 0, 1) := by decide +kernel
theorem dX6_readsItem_91 : decode cX6_readsItem 91 = .ok (.iconst 0, 1) := by decide +kernel
theorem dX6_readsItem_92 : decode cX6_readsItem 92 = .ok (.iconst 5, 1) := by decide +kernel
theorem dX6_readsItem_93 : decode cX6_readsItem 93 = .ok (.invokevirtual 320, 3) := by decide +kernel
theorem dX6_readsItem_96 : decode cX6_readsItem 96 = .ok (.i2l, 1) := by decide +kernel
theorem dX6_readsItem_97 : decode cX6_readsItem 97 = .ok (.lastore, 1) := by decide +kernel
theorem dX6_readsItem_98 : decode cX6_readsItem 98 = .ok (.goto 25, 3) := by decide +kernel
theorem dX6_readsItem_101 : decode cX6_readsItem 101 = .ok (.iload_n 2, 1) := by decide +kernel
theorem dX6_readsItem_102 : decode cX6_readsItem 102 = .ok (.invokestatic 339, 3) := by decide +kernel
theorem dX6_readsItem_105 : decode cX6_readsItem 105 = .ok (.ifCond .eq 10, 3) := by decide +kernel
theorem dX6_readsItem_108 : decode cX6_readsItem 108 = .ok (.aload_n 0, 1) := by decide +kernel
theorem dX6_readsItem_109 : decode cX6_readsItem 109 = .ok (.invokevirtual 345, 3) := by decide +kernel
theorem dX6_readsItem_112 : decode cX6_readsItem 112 = .ok (.goto 11, 3) := by decide +kernel
theorem dX6_readsItem_115 : decode cX6_readsItem 115 = .ok (.aload_n 0, 1) := by decide +kernel
theorem dX6_readsItem_116 : decode cX6_readsItem 116 = .ok (.aload_n 0, 1) := by decide +kernel
theorem dX6_readsItem_117 : decode cX6_readsItem 117 = .ok (.getfield 289, 3) := by decide +kernel
theorem dX6_readsItem_120 : decode cX6_readsItem 120 = .ok (.invokevirtual 295, 3) := by decide +kernel
theorem dX6_readsItem_123 : decode cX6_readsItem 123 = .ok (.aload_n 0, 1) := by decide +kernel
theorem dX6_readsItem_124 : decode cX6_readsItem 124 = .ok (.getfield 283, 3) := by decide +kernel
theorem dX6_readsItem_127 : decode cX6_readsItem 127 = .ok (.ifCond .ge 84, 3) := by decide +kernel
theorem dX6_readsItem_130 : decode cX6_readsItem 130 = .ok (.aload_n 0, 1) := by decide +kernel
theorem dX6_readsItem_131 : decode cX6_readsItem 131 = .ok (.getfield 267, 3) := by decide +kernel
theorem dX6_readsItem_134 : decode cX6_readsItem 134 = .ok (.ifCond .le 77, 3) := by decide +kernel
theorem dX6_readsItem_137 : decode cX6_readsItem 137 = .ok (.aload_n 0, 1) := by decide +kernel
theorem dX6_readsItem_138 : decode cX6_readsItem 138 = .ok (.getfield 48, 3) := by decide +kernel
theorem dX6_readsItem_141 : decode cX6_readsItem 141 = .ok (.aload_n 0, 1) := by decide +kernel
theorem dX6_readsItem_142 : decode cX6_readsItem 142 = .ok (.getfield 267, 3) := by decide +kernel
theorem dX6_readsItem_145 : decode cX6_readsItem 145 = .ok (.iconst 1, 1) := by decide +kernel
theorem dX6_readsItem_146 : decode cX6_readsItem 146 = .ok (.isub, 1) := by decide +kernel
theorem dX6_readsItem_147 : decode cX6_readsItem 147 = .ok (.iaload, 1) := by decide +kernel
theorem dX6_readsItem_148 : decode cX6_readsItem 148 = .ok (.istore_n 3, 1) := by decide +kernel
theorem dX6_readsItem_149 : decode cX6_readsItem 149 = .ok (.aload_n 0, 1) := by decide +kernel
theorem dX6_readsItem_150 : decode cX6_readsItem 150 = .ok (.getfield 51, 3) := by decide +kernel
theorem dX6_readsItem_153 : decode cX6_readsItem 153 = .ok (.aload_n 0, 1) := by decide +kernel
theorem dX6_readsItem_154 : decode cX6_readsItem 154 = .ok (.getfield 267, 3) := by decide +kernel
theorem dX6_readsItem_157 : decode cX6_readsItem 157 = .ok (.iconst 1, 1) := by decide +kernel
theorem dX6_readsItem_158 : decode cX6_readsItem 158 = .ok (.isub, 1) := by decide +kernel
theorem dX6_readsItem_159 : decode cX6_readsItem 159 = .ok (.iaload, 1) := by decide +kernel
theorem dX6_readsItem_160 : decode cX6_readsItem 160 = .ok (.istore 4, 2) := by decide +kernel
theorem dX6_readsItem_162 : decode cX6_readsItem 162 = .ok (.iload 4, 2) := by decide +kernel
theorem dX6_readsItem_164 : decode cX6_readsItem 164 = .ok (.aload_n 0, 1) := by decide +kernel
theorem dX6_readsItem_165 : decode cX6_readsItem 165 = .ok (.getfield 13, 3) := by decide +kernel
theorem dX6_readsItem_168 : decode cX6_readsItem 168 = .ok (.iload_n 3, 1) := by decide +kernel
theorem dX6_readsItem_169 : decode cX6_readsItem 169 = .ok (.iaload, 1) := by decide +kernel
theorem dX6_readsItem_170 : decode cX6_readsItem 170 = .ok (.if_icmp .ne 16, 3) := by decide +kernel
theorem dX6_readsItem_173 : decode cX6_readsItem 173 = .ok (.aload_n 0, 1) := by decide +kernel
theorem dX6_readsItem_174 : decode cX6_readsItem 174 = .ok (.dup, 1) := by decide +kernel
theorem dX6_readsItem_175 : decode cX6_readsItem 175 = .ok (.getfield 267, 3) := by decide +kernel
theorem dX6_readsItem_178 : decode cX6_readsItem 178 = .ok (.iconst 1, 1) := by decide +kernel
theorem dX6_readsItem_179 : decode cX6_readsItem 179 = .ok (.isub, 1) := by decide +kernel
theorem dX6_readsItem_180 : decode cX6_readsItem 180 = .ok (.putfield 267, 3) := by decide +kernel
theorem dX6_readsItem_183 : decode cX6_readsItem 183 = .ok (.goto 25, 3) := by decide +kernel
theorem dX6_readsItem_186 : decode cX6_readsItem 186 = .ok (.aload_n 0, 1) := by decide +kernel
theorem dX6_readsItem_187 : decode cX6_readsItem 187 = .ok (.getfield 51, 3) := by decide +kernel
theorem dX6_readsItem_190 : decode cX6_readsItem 190 = .ok (.aload_n 0, 1) := by decide +kernel
theorem dX6_readsItem_191 : decode cX6_readsItem 191 = .ok (.getfield 267, 3) := by decide +kernel
theorem dX6_readsItem_194 : decode cX6_readsItem 194 = .ok (.iconst 1, 1) := by decide +kernel
theorem dX6_readsItem_195 : decode cX6_readsItem 195 = .ok (.isub, 1) := by decide +kernel
theorem dX6_readsItem_196 : decode cX6_readsItem 196 = .ok (.iload 4, 2) := by decide +kernel
theorem dX6_readsItem_198 : decode cX6_readsItem 198 = .ok (.iconst 1, 1) := by decide +kernel
theorem dX6_readsItem_199 : decode cX6_readsItem 199 = .ok (.iadd, 1) := by decide +kernel
theorem dX6_readsItem_200 : decode cX6_readsItem 200 = .ok (.iastore, 1) := by decide +kernel
theorem dX6_readsItem_201 : decode cX6_readsItem 201 = .ok (.aload_n 0, 1) := by decide +kernel
theorem dX6_readsItem_202 : decode cX6_readsItem 202 = .ok (.iload_n 3, 1) := by decide +kernel
theorem dX6_readsItem_203 : decode cX6_readsItem 203 = .ok (.iload 4, 2) := by decide +kernel
theorem dX6_readsItem_205 : decode cX6_readsItem 205 = .ok (.invokevirtual 351, 3) := by decide +kernel
theorem dX6_readsItem_208 : decode cX6_readsItem 208 = .ok (.goto (-85), 3) := by decide +kernel
theorem dX6_readsItem_211 : decode cX6_readsItem 211 = .ok (.aload_n 0, 1) := by decide +kernel
theorem dX6_readsItem_212 : decode cX6_readsItem 212 = .ok (.getfield 289, 3) := by decide +kernel
theorem dX6_readsItem_215 : decode cX6_readsItem 215 = .ok (.ireturn, 1) := by decide +kernel
theorem dX6_fromTape_0 : decode cX6_fromTape 0 = .ok (.aload_n 0, 1) := by decide +kernel
theorem dX6_fromTape_1 : decode cX6_fromTape 1 = .ok (.aload_n 0, 1) := by decide +kernel
theorem dX6_fromTape_2 : decode cX6_fromTape 2 = .ok (.getfield 354, 3) := by decide +kernel
theorem dX6_fromTape_5 : decode cX6_fromTape 5 = .ok (.putfield 286, 3) := by decide +kernel
theorem dX6_fromTape_8 : decode cX6_fromTape 8 = .ok (.iconst 0, 1) := by decide +kernel
theorem dX6_fromTape_9 : decode cX6_fromTape 9 = .ok (.istore_n 1, 1) := by decide +kernel
theorem dX6_fromTape_10 : decode cX6_fromTape 10 = .ok (.iload_n 1, 1) := by decide +kernel
theorem dX6_fromTape_11 : decode cX6_fromTape 11 = .ok (.aload_n 0, 1) := by decide +kernel
theorem dX6_fromTape_12 : decode cX6_fromTape 12 = .ok (.getfield 354, 3) := by decide +kernel
theorem dX6_fromTape_15 : decode cX6_fromTape 15 = .ok (.if_icmp .ge 21, 3) := by decide +kernel
theorem dX6_fromTape_18 : decode cX6_fromTape 18 = .ok (.aload_n 0, 1) := by decide +kernel
theorem dX6_fromTape_19 : decode cX6_fromTape 19 = .ok (.getfield 54, 3) := by decide +kernel
theorem dX6_fromTape_22 : decode cX6_fromTape 22 = .ok (.iload_n 1, 1) := by decide +kernel
theorem dX6_fromTape_23 : decode cX6_fromTape 23 = .ok (.aload_n 0, 1) := by decide +kernel
theorem dX6_fromTape_24 : decode cX6_fromTape 24 = .ok (.getfield 26, 3) := by decide +kernel
theorem dX6_fromTape_27 : decode cX6_fromTape 27 = .ok (.iload_n 1, 1) := by decide +kernel
theorem dX6_fromTape_28 : decode cX6_fromTape 28 = .ok (.iaload, 1) := by decide +kernel
theorem dX6_fromTape_29 : decode cX6_fromTape 29 = .ok (.iastore, 1) := by decide +kernel
theorem dX6_fromTape_30 : decode cX6_fromTape 30 = .ok (.iinc 1 1, 3) := by decide +kernel
theorem dX6_fromTape_33 : decode cX6_fromTape 33 = .ok (.goto (-23), 3) := by decide +kernel
theorem dX6_fromTape_36 : decode cX6_fromTape 36 = .ok (.return_, 1) := by decide +kernel
theorem dX6_news_0 : decode cX6_news 0 = .ok (.iconst (-1), 1) := by decide +kernel
theorem dX6_news_1 : decode cX6_news 1 = .ok (.istore_n 3, 1) := by decide +kernel
theorem dX6_news_2 : decode cX6_news 2 = .ok (.iconst 0, 1) := by decide +kernel
theorem dX6_news_3 : decode cX6_news 3 = .ok (.istore 4, 2) := by decide +kernel
theorem dX6_news_5 : decode cX6_news 5 = .ok (.iload 4, 2) := by decide +kernel
theorem dX6_news_7 : decode cX6_news 7 = .ok (.iload_n 2, 1) := by decide +kernel
theorem dX6_news_8 : decode cX6_news 8 = .ok (.if_icmp .ge 84, 3) := by decide +kernel
theorem dX6_news_11 : decode cX6_news 11 = .ok (.aload_n 0, 1) := by decide +kernel
theorem dX6_news_12 : decode cX6_news 12 = .ok (.invokevirtual 151, 3) := by decide +kernel
theorem dX6_news_15 : decode cX6_news 15 = .ok (.istore 5, 2) := by decide +kernel
theorem dX6_news_17 : decode cX6_news 17 = .ok (.aload_n 1, 1) := by decide +kernel
theorem dX6_news_18 : decode cX6_news 18 = .ok (.iload 4, 2) := by decide +kernel
theorem dX6_news_20 : decode cX6_news 20 = .ok (.iaload, 1) := by decide +kernel
theorem dX6_news_21 : decode cX6_news 21 = .ok (.istore 6, 2) := by decide +kernel
theorem dX6_news_23 : decode cX6_news 23 = .ok (.aload_n 0, 1) := by decide +kernel
theorem dX6_news_24 : decode cX6_news 24 = .ok (.iload 5, 2) := by decide +kernel
theorem dX6_news_26 : decode cX6_news 26 = .ok (.aload_n 0, 1) := by decide +kernel
theorem dX6_news_27 : decode cX6_news 27 = .ok (.getfield 7, 3) := by decide +kernel
theorem dX6_news_30 : decode cX6_news 30 = .ok (.iload 6, 2) := by decide +kernel
theorem dX6_news_32 : decode cX6_news 32 = .ok (.iaload, 1) := by decide +kernel
theorem dX6_news_33 : decode cX6_news 33 = .ok (.aload_n 0, 1) := by decide +kernel
theorem dX6_news_34 : decode cX6_news 34 = .ok (.getfield 13, 3) := by decide +kernel
theorem dX6_news_37 : decode cX6_news 37 = .ok (.iload 6, 2) := by decide +kernel
theorem dX6_news_39 : decode cX6_news 39 = .ok (.iaload, 1) := by decide +kernel
theorem dX6_news_40 : decode cX6_news 40 = .ok (.invokevirtual 155, 3) := by decide +kernel
theorem dX6_news_43 : decode cX6_news 43 = .ok (.aload_n 0, 1) := by decide +kernel
theorem dX6_news_44 : decode cX6_news 44 = .ok (.getfield 16, 3) := by decide +kernel
theorem dX6_news_47 : decode cX6_news 47 = .ok (.iload 5, 2) := by decide +kernel
theorem dX6_news_49 : decode cX6_news 49 = .ok (.aload_n 0, 1) := by decide +kernel
theorem dX6_news_50 : decode cX6_news 50 = .ok (.getfield 16, 3) := by decide +kernel
theorem dX6_news_53 : decode cX6_news 53 = .ok (.iload 6, 2) := by decide +kernel
theorem dX6_news_55 : decode cX6_news 55 = .ok (.laload, 1) := by decide +kernel
theorem dX6_news_56 : decode cX6_news 56 = .ok (.lastore, 1) := by decide +kernel
theorem dX6_news_57 : decode cX6_news 57 = .ok (.aload_n 0, 1) := by decide +kernel
theorem dX6_news_58 : decode cX6_news 58 = .ok (.iload 6, 2) := by decide +kernel
theorem dX6_news_60 : decode cX6_news 60 = .ok (.iload 5, 2) := by decide +kernel
theorem dX6_news_62 : decode cX6_news 62 = .ok (.invokevirtual 179, 3) := by decide +kernel
theorem dX6_news_65 : decode cX6_news 65 = .ok (.aload_n 0, 1) := by decide +kernel
theorem dX6_news_66 : decode cX6_news 66 = .ok (.getfield 42, 3) := by decide +kernel
theorem dX6_news_69 : decode cX6_news 69 = .ok (.iload 6, 2) := by decide +kernel
theorem dX6_news_71 : decode cX6_news 71 = .ok (.iload 5, 2) := by decide +kernel
theorem dX6_news_73 : decode cX6_news 73 = .ok (.iastore, 1) := by decide +kernel
theorem dX6_news_74 : decode cX6_news 74 = .ok (.iload 4, 2) := by decide +kernel
theorem dX6_news_76 : decode cX6_news 76 = .ok (.ifCond .ne 8, 3) := by decide +kernel
theorem dX6_news_79 : decode cX6_news 79 = .ok (.iload 5, 2) := by decide +kernel
theorem dX6_news_81 : decode cX6_news 81 = .ok (.goto 4, 3) := by decide +kernel
theorem dX6_news_84 : decode cX6_news 84 = .ok (.iload_n 3, 1) := by decide +kernel
theorem dX6_news_85 : decode cX6_news 85 = .ok (.istore_n 3, 1) := by decide +kernel
theorem dX6_news_86 : decode cX6_news 86 = .ok (.iinc 4 1, 3) := by decide +kernel
theorem dX6_news_89 : decode cX6_news 89 = .ok (.goto (-84), 3) := by decide +kernel
theorem dX6_news_92 : decode cX6_news 92 = .ok (.iconst 0, 1) := by decide +kernel
theorem dX6_news_93 : decode cX6_news 93 = .ok (.istore 4, 2) := by decide +kernel
theorem dX6_news_95 : decode cX6_news 95 = .ok (.iload 4, 2) := by decide +kernel
theorem dX6_news_97 : decode cX6_news 97 = .ok (.iload_n 2, 1) := by decide +kernel
theorem dX6_news_98 : decode cX6_news 98 = .ok (.if_icmp .ge 92, 3) := by decide +kernel
theorem dX6_news_101 : decode cX6_news 101 = .ok (.aload_n 0, 1) := by decide +kernel
theorem dX6_news_102 : decode cX6_news 102 = .ok (.getfield 42, 3) := by decide +kernel
theorem dX6_news_105 : decode cX6_news 105 = .ok (.aload_n 1, 1) := by decide +kernel
theorem dX6_news_106 : decode cX6_news 106 = .ok (.iload 4, 2) := by decide +kernel
theorem dX6_news_108 : decode cX6_news 108 = .ok (.iaload, 1) := by decide +kernel
theorem dX6_news_109 : decode cX6_news 109 = .ok (.iaload, 1) := by decide +kernel
theorem dX6_news_110 : decode cX6_news 110 = .ok (.istore 5, 2) := by decide +kernel
theorem dX6_news_112 : decode cX6_news 112 = .ok (.iconst 0, 1) := by decide +kernel
theorem dX6_news_113 : decode cX6_news 113 = .ok (.istore 6, 2) := by decide +kernel
theorem dX6_news_115 : decode cX6_news 115 = .ok (.iload 6, 2) := by decide +kernel
theorem dX6_news_117 : decode cX6_news 117 = .ok (.aload_n 0, 1) := by decide +kernel
theorem dX6_news_118 : decode cX6_news 118 = .ok (.getfield 13, 3) := by decide +kernel
theorem dX6_news_121 : decode cX6_news 121 = .ok (.iload 5, 2) := by decide +kernel
theorem dX6_news_123 : decode cX6_news 123 = .ok (.iaload, 1) := by decide +kernel
theorem dX6_news_124 : decode cX6_news 124 = .ok (.if_icmp .ge 60, 3) := by decide +kernel
theorem dX6_news_127 : decode cX6_news 127 = .ok (.aload_n 0, 1) := by decide +kernel
theorem dX6_news_128 : decode cX6_news 128 = .ok (.getfield 20, 3) := by decide +kernel
theorem dX6_news_131 : decode cX6_news 131 = .ok (.bipush 12, 2) := by decide +kernel
theorem dX6_news_133 : decode cX6_news 133 = .ok (.iload 5, 2) := by decide +kernel
theorem dX6_news_135 : decode cX6_news 135 = .ok (.imul, 1) := by decide +kernel
theorem dX6_news_136 : decode cX6_news 136 = .ok (.iload 6, 2) := by decide +kernel
theorem dX6_news_138 : decode cX6_news 138 = .ok (.iadd, 1) := by decide +kernel
theorem dX6_news_139 : decode cX6_news 139 = .ok (.iaload, 1) := by decide +kernel
theorem dX6_news_140 : decode cX6_news 140 = .ok (.bipush 10, 2) := by decide +kernel
theorem dX6_news_142 : decode cX6_news 142 = .ok (.if_icmp .ne 36, 3) := by decide +kernel
theorem dX6_news_145 : decode cX6_news 145 = .ok (.aload_n 0, 1) := by decide +kernel
theorem dX6_news_146 : decode cX6_news 146 = .ok (.getfield 23, 3) := by decide +kernel
theorem dX6_news_149 : decode cX6_news 149 = .ok (.bipush 12, 2) := by decide +kernel
theorem dX6_news_151 : decode cX6_news 151 = .ok (.iload 5, 2) := by decide +kernel
theorem dX6_news_153 : decode cX6_news 153 = .ok (.imul, 1) := by decide +kernel
theorem dX6_news_154 : decode cX6_news 154 = .ok (.iload 6, 2) := by decide +kernel
theorem dX6_news_156 : decode cX6_news 156 = .ok (.iadd, 1) := by decide +kernel
theorem dX6_news_157 : decode cX6_news 157 = .ok (.aload_n 0, 1) := by decide +kernel
theorem dX6_news_158 : decode cX6_news 158 = .ok (.getfield 42, 3) := by decide +kernel
theorem dX6_news_161 : decode cX6_news 161 = .ok (.aload_n 0, 1) := by decide +kernel
theorem dX6_news_162 : decode cX6_news 162 = .ok (.getfield 23, 3) := by decide +kernel
theorem dX6_news_165 : decode cX6_news 165 = .ok (.bipush 12, 2) := by decide +kernel
theorem dX6_news_167 : decode cX6_news 167 = .ok (.iload 5, 2) := by decide +kernel
theorem dX6_news_169 : decode cX6_news 169 = .ok (.imul, 1) := by decide +kernel
theorem dX6_news_170 : decode cX6_news 170 = .ok (.iload 6, 2) := by decide +kernel
theorem dX6_news_172 : decode cX6_news 172 = .ok (.iadd, 1) := by decide +kernel
theorem dX6_news_173 : decode cX6_news 173 = .ok (.laload, 1) := by decide +kernel
theorem dX6_news_174 : decode cX6_news 174 = .ok (.l2i, 1) := by decide +kernel
theorem dX6_news_175 : decode cX6_news 175 = .ok (.iaload, 1) := by decide +kernel
theorem dX6_news_176 : decode cX6_news 176 = .ok (.i2l, 1) := by decide +kernel
theorem dX6_news_177 : decode cX6_news 177 = .ok (.lastore, 1) := by decide +kernel
theorem dX6_news_178 : decode cX6_news 178 = .ok (.iinc 6 1, 3) := by decide +kernel
theorem dX6_news_181 : decode cX6_news 181 = .ok (.goto (-66), 3) := by decide +kernel
theorem dX6_news_184 : decode cX6_news 184 = .ok (.iinc 4 1, 3) := by decide +kernel
theorem dX6_news_187 : decode cX6_news 187 = .ok (.goto (-92), 3) := by decide +kernel
theorem dX6_news_190 : decode cX6_news 190 = .ok (.iload_n 3, 1) := by decide +kernel
theorem dX6_news_191 : decode cX6_news 191 = .ok (.ireturn, 1) := by decide +kernel
theorem dX6_mode_0 : decode cX6_mode 0 = .ok (.iload_n 1, 1) := by decide +kernel
theorem dX6_mode_1 : decode cX6_mode 1 = .ok (.i2l, 1) := by decide +kernel
theorem dX6_mode_2 : decode cX6_mode 2 = .ok (.lconst 0, 1) := by decide +kernel
theorem dX6_mode_3 : decode cX6_mode 3 = .ok (.ldc2_w 304, 3) := by decide +kernel
theorem dX6_mode_6 : decode cX6_mode 6 = .ok (.invokestatic 73, 3) := by decide +kernel
theorem dX6_mode_9 : decode cX6_mode 9 = .ok (.ifCond .ne 5, 3) := by decide +kernel
theorem dX6_mode_12 : decode cX6_mode 12 = .ok (.iconst (-1), 1) := by decide +kernel
theorem dX6_mode_13 : decode cX6_mode 13 = .ok (.ireturn, 1) := by decide +kernel
theorem dX6_mode_14 : decode cX6_mode 14 = .ok (.aload_n 0, 1) := by decide +kernel
theorem dX6_mode_15 : decode cX6_mode 15 = .ok (.getfield 357, 3) := by decide +kernel
theorem dX6_mode_18 : decode cX6_mode 18 = .ok (.istore_n 2, 1) := by decide +kernel
theorem dX6_mode_19 : decode cX6_mode 19 = .ok (.aload_n 0, 1) := by decide +kernel
theorem dX6_mode_20 : decode cX6_mode 20 = .ok (.iload_n 1, 1) := by decide +kernel
theorem dX6_mode_21 : decode cX6_mode 21 = .ok (.putfield 357, 3) := by decide +kernel
theorem dX6_mode_24 : decode cX6_mode 24 = .ok (.iload_n 2, 1) := by decide +kernel
theorem dX6_mode_25 : decode cX6_mode 25 = .ok (.ireturn, 1) := by decide +kernel
theorem dX6_comes_0 : decode cX6_comes 0 = .ok (.aload_n 0, 1) := by decide +kernel
theorem dX6_comes_1 : decode cX6_comes 1 = .ok (.getfield 354, 3) := by decide +kernel
theorem dX6_comes_4 : decode cX6_comes 4 = .ok (.aload_n 0, 1) := by decide +kernel
theorem dX6_comes_5 : decode cX6_comes 5 = .ok (.getfield 235, 3) := by decide +kernel
theorem dX6_comes_8 : decode cX6_comes 8 = .ok (.iadd, 1) := by decide +kernel
theorem dX6_comes_9 : decode cX6_comes 9 = .ok (.sipush 200, 3) := by decide +kernel
theorem dX6_comes_12 : decode cX6_comes 12 = .ok (.if_icmp .le 6, 3) := by decide +kernel
theorem dX6_comes_15 : decode cX6_comes 15 = .ok (.bipush (-3), 2) := by decide +kernel
theorem dX6_comes_17 : decode cX6_comes 17 = .ok (.ireturn, 1) := by decide +kernel
theorem dX6_comes_18 : decode cX6_comes 18 = .ok (.iconst 0, 1) := by decide +kernel
theorem dX6_comes_19 : decode cX6_comes 19 = .ok (.istore_n 1, 1) := by decide +kernel
theorem dX6_comes_20 : decode cX6_comes 20 = .ok (.iload_n 1, 1) := by decide +kernel
theorem dX6_comes_21 : decode cX6_comes 21 = .ok (.aload_n 0, 1) := by decide +kernel
theorem dX6_comes_22 : decode cX6_comes 22 = .ok (.getfield 235, 3) := by decide +kernel
theorem dX6_comes_25 : decode cX6_comes 25 = .ok (.if_icmp .ge 34, 3) := by decide +kernel
theorem dX6_comes_28 : decode cX6_comes 28 = .ok (.aload_n 0, 1) := by decide +kernel
theorem dX6_comes_29 : decode cX6_comes 29 = .ok (.getfield 26, 3) := by decide +kernel
theorem dX6_comes_32 : decode cX6_comes 32 = .ok (.aload_n 0, 1) := by decide +kernel
theorem dX6_comes_33 : decode cX6_comes 33 = .ok (.getfield 354, 3) := by decide +kernel
theorem dX6_comes_36 : decode cX6_comes 36 = .ok (.aload_n 0, 1) := by decide +kernel
theorem dX6_comes_37 : decode cX6_comes 37 = .ok (.getfield 36, 3) := by decide +kernel
theorem dX6_comes_40 : decode cX6_comes 40 = .ok (.iload_n 1, 1) := by decide +kernel
theorem dX6_comes_41 : decode cX6_comes 41 = .ok (.iaload, 1) := by decide +kernel
theorem dX6_comes_42 : decode cX6_comes 42 = .ok (.iastore, 1) := by decide +kernel
theorem dX6_comes_43 : decode cX6_comes 43 = .ok (.aload_n 0, 1) := by decide +kernel
theorem dX6_comes_44 : decode cX6_comes 44 = .ok (.dup, 1) := by decide +kernel
theorem dX6_comes_45 : decode cX6_comes 45 = .ok (.getfield 354, 3) := by decide +kernel
theorem dX6_comes_48 : decode cX6_comes 48 = .ok (.iconst 1, 1) := by decide +kernel
theorem dX6_comes_49 : decode cX6_comes 49 = .ok (.iadd, 1) := by decide +kernel
theorem dX6_comes_50 : decode cX6_comes 50 = .ok (.putfield 354, 3) := by decide +kernel
theorem dX6_comes_53 : decode cX6_comes 53 = .ok (.iinc 1 1, 3) := by decide +kernel
theorem dX6_comes_56 : decode cX6_comes 56 = .ok (.goto (-36), 3) := by decide +kernel
theorem dX6_comes_59 : decode cX6_comes 59 = .ok (.aload_n 0, 1) := by decide +kernel
theorem dX6_comes_60 : decode cX6_comes 60 = .ok (.getfield 235, 3) := by decide +kernel
theorem dX6_comes_63 : decode cX6_comes 63 = .ok (.ireturn, 1) := by decide +kernel
theorem dX6_lay_0 : decode cX6_lay 0 = .ok (.iload_n 1, 1) := by decide +kernel
theorem dX6_lay_1 : decode cX6_lay 1 = .ok (.i2l, 1) := by decide +kernel
theorem dX6_lay_2 : decode cX6_lay 2 = .ok (.invokestatic 159, 3) := by decide +kernel
theorem dX6_lay_5 : decode cX6_lay 5 = .ok (.ifCond .ne 5, 3) := by decide +kernel
theorem dX6_lay_8 : decode cX6_lay 8 = .ok (.iconst (-1), 1) := by decide +kernel
theorem dX6_lay_9 : decode cX6_lay 9 = .ok (.ireturn, 1) := by decide +kernel
theorem dX6_lay_10 : decode cX6_lay 10 = .ok (.aload_n 0, 1) := by decide +kernel
theorem dX6_lay_11 : decode cX6_lay 11 = .ok (.getfield 7, 3) := by decide +kernel
theorem dX6_lay_14 : decode cX6_lay 14 = .ok (.iload_n 1, 1) := by decide +kernel
theorem dX6_lay_15 : decode cX6_lay 15 = .ok (.iaload, 1) := by decide +kernel
theorem dX6_lay_16 : decode cX6_lay 16 = .ok (.ifCond .ge 6, 3) := by decide +kernel
theorem dX6_lay_19 : decode cX6_lay 19 = .ok (.bipush (-5), 2) := by decide +kernel
theorem dX6_lay_21 : decode cX6_lay 21 = .ok (.ireturn, 1) := by decide +kernel
theorem dX6_lay_22 : decode cX6_lay 22 = .ok (.aload_n 0, 1) := by decide +kernel
theorem dX6_lay_23 : decode cX6_lay 23 = .ok (.iload_n 1, 1) := by decide +kernel
theorem dX6_lay_24 : decode cX6_lay 24 = .ok (.aload_n 0, 1) := by decide +kernel
theorem dX6_lay_25 : decode cX6_lay 25 = .ok (.getfield 357, 3) := by decide +kernel
theorem dX6_lay_28 : decode cX6_lay 28 = .ok (.invokevirtual 360, 3) := by decide +kernel
theorem dX6_lay_31 : decode cX6_lay 31 = .ok (.pop, 1) := by decide +kernel
theorem dX6_lay_32 : decode cX6_lay 32 = .ok (.aload_n 0, 1) := by decide +kernel
theorem dX6_lay_33 : decode cX6_lay 33 = .ok (.invokevirtual 363, 3) := by decide +kernel
theorem dX6_lay_36 : decode cX6_lay 36 = .ok (.ireturn, 1) := by decide +kernel
theorem dX6_tape_0 : decode cX6_tape 0 = .ok (.iload_n 1, 1) := by decide +kernel
theorem dX6_tape_1 : decode cX6_tape 1 = .ok (.ifCond .lt 20, 3) := by decide +kernel
theorem dX6_tape_4 : decode cX6_tape 4 = .ok (.iload_n 1, 1) := by decide +kernel
theorem dX6_tape_5 : decode cX6_tape 5 = .ok (.aload_n 0, 1) := by decide +kernel
theorem dX6_tape_6 : decode cX6_tape 6 = .ok (.getfield 354, 3) := by decide +kernel
theorem dX6_tape_9 : decode cX6_tape 9 = .ok (.if_icmp .ge 12, 3) := by decide +kernel
theorem dX6_tape_12 : decode cX6_tape 12 = .ok (.aload_n 0, 1) := by decide +kernel
theorem dX6_tape_13 : decode cX6_tape 13 = .ok (.getfield 26, 3) := by decide +kernel
theorem dX6_tape_16 : decode cX6_tape 16 = .ok (.iload_n 1, 1) := by decide +kernel
theorem dX6_tape_17 : decode cX6_tape 17 = .ok (.iaload, 1) := by decide +kernel
theorem dX6_tape_18 : decode cX6_tape 18 = .ok (.goto 4, 3) := by decide +kernel
theorem dX6_tape_21 : decode cX6_tape 21 = .ok (.iconst (-1), 1) := by decide +kernel
theorem dX6_tape_22 : decode cX6_tape 22 = .ok (.ireturn, 1) := by decide +kernel
theorem dX6_poke_0 : decode cX6_poke 0 = .ok (.iload_n 1, 1) := by decide +kernel
theorem dX6_poke_1 : decode cX6_poke 1 = .ok (.ifCond .lt 23, 3) := by decide +kernel
theorem dX6_poke_4 : decode cX6_poke 4 = .ok (.iload_n 1, 1) := by decide +kernel
theorem dX6_poke_5 : decode cX6_poke 5 = .ok (.aload_n 0, 1) := by decide +kernel
theorem dX6_poke_6 : decode cX6_poke 6 = .ok (.getfield 354, 3) := by decide +kernel
theorem dX6_poke_9 : decode cX6_poke 9 = .ok (.if_icmp .gt 15, 3) := by decide +kernel
theorem dX6_poke_12 : decode cX6_poke 12 = .ok (.iload_n 2, 1) := by decide +kernel
theorem dX6_poke_13 : decode cX6_poke 13 = .ok (.i2l, 1) := by decide +kernel
theorem dX6_poke_14 : decode cX6_poke 14 = .ok (.lconst 0, 1) := by decide +kernel
theorem dX6_poke_15 : decode cX6_poke 15 = .ok (.ldc2_w 238, 3) := by decide +kernel
theorem dX6_poke_18 : decode cX6_poke 18 = .ok (.invokestatic 73, 3) := by decide +kernel
theorem dX6_poke_21 : decode cX6_poke 21 = .ok (.ifCond .ne 5, 3) := by decide +kernel
theorem dX6_poke_24 : decode cX6_poke 24 = .ok (.iconst (-1), 1) := by decide +kernel
theorem dX6_poke_25 : decode cX6_poke 25 = .ok (.ireturn, 1) := by decide +kernel
theorem dX6_poke_26 : decode cX6_poke 26 = .ok (.iload_n 1, 1) := by decide +kernel
theorem dX6_poke_27 : decode cX6_poke 27 = .ok (.sipush 200, 3) := by decide +kernel
theorem dX6_poke_30 : decode cX6_poke 30 = .ok (.if_icmp .ne 6, 3) := by decide +kernel
theorem dX6_poke_33 : decode cX6_poke 33 = .ok (.bipush (-3), 2) := by decide +kernel
theorem dX6_poke_35 : decode cX6_poke 35 = .ok (.ireturn, 1) := by decide +kernel
theorem dX6_poke_36 : decode cX6_poke 36 = .ok (.iload_n 1, 1) := by decide +kernel
theorem dX6_poke_37 : decode cX6_poke 37 = .ok (.aload_n 0, 1) := by decide +kernel
theorem dX6_poke_38 : decode cX6_poke 38 = .ok (.getfield 354, 3) := by decide +kernel
theorem dX6_poke_41 : decode cX6_poke 41 = .ok (.if_icmp .ge 12, 3) := by decide +kernel
theorem dX6_poke_44 : decode cX6_poke 44 = .ok (.aload_n 0, 1) := by decide +kernel
theorem dX6_poke_45 : decode cX6_poke 45 = .ok (.getfield 26, 3) := by decide +kernel
theorem dX6_poke_48 : decode cX6_poke 48 = .ok (.iload_n 1, 1) := by decide +kernel
theorem dX6_poke_49 : decode cX6_poke 49 = .ok (.iaload, 1) := by decide +kernel
theorem dX6_poke_50 : decode cX6_poke 50 = .ok (.goto 5, 3) := by decide +kernel
theorem dX6_poke_53 : decode cX6_poke 53 = .ok (.bipush (-4), 2) := by decide +kernel
theorem dX6_poke_55 : decode cX6_poke 55 = .ok (.istore_n 3, 1) := by decide +kernel
theorem dX6_poke_56 : decode cX6_poke 56 = .ok (.aload_n 0, 1) := by decide +kernel
theorem dX6_poke_57 : decode cX6_poke 57 = .ok (.getfield 26, 3) := by decide +kernel
theorem dX6_poke_60 : decode cX6_poke 60 = .ok (.iload_n 1, 1) := by decide +kernel
theorem dX6_poke_61 : decode cX6_poke 61 = .ok (.iload_n 2, 1) := by decide +kernel
theorem dX6_poke_62 : decode cX6_poke 62 = .ok (.iastore, 1) := by decide +kernel
theorem dX6_poke_63 : decode cX6_poke 63 = .ok (.aload_n 0, 1) := by decide +kernel
theorem dX6_poke_64 : decode cX6_poke 64 = .ok (.iload_n 1, 1) := by decide +kernel
theorem dX6_poke_65 : decode cX6_poke 65 = .ok (.aload_n 0, 1) := by decide +kernel
theorem dX6_poke_66 : decode cX6_poke 66 = .ok (.getfield 354, 3) := by decide +kernel
theorem dX6_poke_69 : decode cX6_poke 69 = .ok (.if_icmp .ge 10, 3) := by decide +kernel
theorem dX6_poke_72 : decode cX6_poke 72 = .ok (.aload_n 0, 1) := by decide +kernel
theorem dX6_poke_73 : decode cX6_poke 73 = .ok (.getfield 354, 3) := by decide +kernel
theorem dX6_poke_76 : decode cX6_poke 76 = .ok (.goto 9, 3) := by decide +kernel
theorem dX6_poke_79 : decode cX6_poke 79 = .ok (.aload_n 0, 1) := by decide +kernel
theorem dX6_poke_80 : decode cX6_poke 80 = .ok (.getfield 354, 3) := by decide +kernel
theorem dX6_poke_83 : decode cX6_poke 83 = .ok (.iconst 1, 1) := by decide +kernel
theorem dX6_poke_84 : decode cX6_poke 84 = .ok (.iadd, 1) := by decide +kernel
theorem dX6_poke_85 : decode cX6_poke 85 = .ok (.putfield 354, 3) := by decide +kernel
theorem dX6_poke_88 : decode cX6_poke 88 = .ok (.iload_n 3, 1) := by decide +kernel
theorem dX6_poke_89 : decode cX6_poke 89 = .ok (.ireturn, 1) := by decide +kernel
theorem dX6_cut_0 : decode cX6_cut 0 = .ok (.iload_n 1, 1) := by decide +kernel
theorem dX6_cut_1 : decode cX6_cut 1 = .ok (.ifCond .lt 11, 3) := by decide +kernel
theorem dX6_cut_4 : decode cX6_cut 4 = .ok (.iload_n 1, 1) := by decide +kernel
theorem dX6_cut_5 : decode cX6_cut 5 = .ok (.aload_n 0, 1) := by decide +kernel
theorem dX6_cut_6 : decode cX6_cut 6 = .ok (.getfield 354, 3) := by decide +kernel
theorem dX6_cut_9 : decode cX6_cut 9 = .ok (.if_icmp .le 5, 3) := by decide +kernel
theorem dX6_cut_12 : decode cX6_cut 12 = .ok (.iconst (-1), 1) := by decide +kernel
theorem dX6_cut_13 : decode cX6_cut 13 = .ok (.ireturn, 1) := by decide +kernel
theorem dX6_cut_14 : decode cX6_cut 14 = .ok (.aload_n 0, 1) := by decide +kernel
theorem dX6_cut_15 : decode cX6_cut 15 = .ok (.getfield 354, 3) := by decide +kernel
theorem dX6_cut_18 : decode cX6_cut 18 = .ok (.iload_n 1, 1) := by decide +kernel
theorem dX6_cut_19 : decode cX6_cut 19 = .ok (.isub, 1) := by decide +kernel
theorem dX6_cut_20 : decode cX6_cut 20 = .ok (.istore_n 2, 1) := by decide +kernel
theorem dX6_cut_21 : decode cX6_cut 21 = .ok (.aload_n 0, 1) := by decide +kernel
theorem dX6_cut_22 : decode cX6_cut 22 = .ok (.iload_n 1, 1) := by decide +kernel
theorem dX6_cut_23 : decode cX6_cut 23 = .ok (.putfield 354, 3) := by decide +kernel
theorem dX6_cut_26 : decode cX6_cut 26 = .ok (.aload_n 0, 1) := by decide +kernel
theorem dX6_cut_27 : decode cX6_cut 27 = .ok (.aload_n 0, 1) := by decide +kernel
theorem dX6_cut_28 : decode cX6_cut 28 = .ok (.getfield 366, 3) := by decide +kernel
theorem dX6_cut_31 : decode cX6_cut 31 = .ok (.iload_n 1, 1) := by decide +kernel
theorem dX6_cut_32 : decode cX6_cut 32 = .ok (.if_icmp .le 7, 3) := by decide +kernel
theorem dX6_cut_35 : decode cX6_cut 35 = .ok (.iload_n 1, 1) := by decide +kernel
theorem dX6_cut_36 : decode cX6_cut 36 = .ok (.goto 7, 3) := by decide +kernel
theorem dX6_cut_39 : decode cX6_cut 39 = .ok (.aload_n 0, 1) := by decide +kernel
theorem dX6_cut_40 : decode cX6_cut 40 = .ok (.getfield 366, 3) := by decide +kernel
theorem dX6_cut_43 : decode cX6_cut 43 = .ok (.putfield 366, 3) := by decide +kernel
theorem dX6_cut_46 : decode cX6_cut 46 = .ok (.iload_n 2, 1) := by decide +kernel
theorem dX6_cut_47 : decode cX6_cut 47 = .ok (.ireturn, 1) := by decide +kernel
theorem dX6_seek_0 : decode cX6_seek 0 = .ok (.iload_n 1, 1) := by decide +kernel
theorem dX6_seek_1 : decode cX6_seek 1 = .ok (.ifCond .lt 11, 3) := by decide +kernel
theorem dX6_seek_4 : decode cX6_seek 4 = .ok (.iload_n 1, 1) := by decide +kernel
theorem dX6_seek_5 : decode cX6_seek 5 = .ok (.aload_n 0, 1) := by decide +kernel
theorem dX6_seek_6 : decode cX6_seek 6 = .ok (.getfield 354, 3) := by decide +kernel
theorem dX6_seek_9 : decode cX6_seek 9 = .ok (.if_icmp .le 5, 3) := by decide +kernel
theorem dX6_seek_12 : decode cX6_seek 12 = .ok (.iconst (-1), 1) := by decide +kernel
theorem dX6_seek_13 : decode cX6_seek 13 = .ok (.ireturn, 1) := by decide +kernel
theorem dX6_seek_14 : decode cX6_seek 14 = .ok (.aload_n 0, 1) := by decide +kernel
theorem dX6_seek_15 : decode cX6_seek 15 = .ok (.getfield 366, 3) := by decide +kernel
theorem dX6_seek_18 : decode cX6_seek 18 = .ok (.istore_n 2, 1) := by decide +kernel
theorem dX6_seek_19 : decode cX6_seek 19 = .ok (.aload_n 0, 1) := by decide +kernel
theorem dX6_seek_20 : decode cX6_seek 20 = .ok (.iload_n 1, 1) := by decide +kernel
theorem dX6_seek_21 : decode cX6_seek 21 = .ok (.putfield 366, 3) := by decide +kernel
theorem dX6_seek_24 : decode cX6_seek 24 = .ok (.iload_n 2, 1) := by decide +kernel
theorem dX6_seek_25 : decode cX6_seek 25 = .ok (.ireturn, 1) := by decide +kernel
theorem dX6_read_0 : decode cX6_read 0 = .ok (.aload_n 0, 1) := by decide +kernel
theorem dX6_read_1 : decode cX6_read 1 = .ok (.invokevirtual 369, 3) := by decide +kernel
theorem dX6_read_4 : decode cX6_read 4 = .ok (.aload_n 0, 1) := by decide +kernel
theorem dX6_read_5 : decode cX6_read 5 = .ok (.aload_n 0, 1) := by decide +kernel
theorem dX6_read_6 : decode cX6_read 6 = .ok (.getfield 366, 3) := by decide +kernel
theorem dX6_read_9 : decode cX6_read 9 = .ok (.invokevirtual 372, 3) := by decide +kernel
theorem dX6_read_12 : decode cX6_read 12 = .ok (.istore_n 1, 1) := by decide +kernel
theorem dX6_read_13 : decode cX6_read 13 = .ok (.aload_n 0, 1) := by decide +kernel
theorem dX6_read_14 : decode cX6_read 14 = .ok (.getfield 283, 3) := by decide +kernel
theorem dX6_read_17 : decode cX6_read 17 = .ok (.ifCond .lt 14, 3) := by decide +kernel
theorem dX6_read_20 : decode cX6_read 20 = .ok (.aload_n 0, 1) := by decide +kernel
theorem dX6_read_21 : decode cX6_read 21 = .ok (.bipush (-10), 2) := by decide +kernel
theorem dX6_read_23 : decode cX6_read 23 = .ok (.aload_n 0, 1) := by decide +kernel
theorem dX6_read_24 : decode cX6_read 24 = .ok (.getfield 283, 3) := by decide +kernel
theorem dX6_read_27 : decode cX6_read 27 = .ok (.invokevirtual 192, 3) := by decide +kernel
theorem dX6_read_30 : decode cX6_read 30 = .ok (.ireturn, 1) := by decide +kernel
theorem dX6_read_31 : decode cX6_read 31 = .ok (.aload_n 0, 1) := by decide +kernel
theorem dX6_read_32 : decode cX6_read 32 = .ok (.getfield 7, 3) := by decide +kernel
theorem dX6_read_35 : decode cX6_read 35 = .ok (.bipush 12, 2) := by decide +kernel
theorem dX6_read_37 : decode cX6_read 37 = .ok (.iaload, 1) := by decide +kernel
theorem dX6_read_38 : decode cX6_read 38 = .ok (.bipush 13, 2) := by decide +kernel
theorem dX6_read_40 : decode cX6_read 40 = .ok (.if_icmp .le 7, 3) := by decide +kernel
theorem dX6_read_43 : decode cX6_read 43 = .ok (.iconst 1, 1) := by decide +kernel
theorem dX6_read_44 : decode cX6_read 44 = .ok (.goto 7, 3) := by decide +kernel
theorem dX6_read_47 : decode cX6_read 47 = .ok (.aload_n 0, 1) := by decide +kernel
theorem dX6_read_48 : decode cX6_read 48 = .ok (.getfield 327, 3) := by decide +kernel
theorem dX6_read_51 : decode cX6_read 51 = .ok (.istore_n 2, 1) := by decide +kernel
theorem dX6_read_52 : decode cX6_read 52 = .ok (.bipush 12, 2) := by decide +kernel
theorem dX6_read_54 : decode cX6_read 54 = .ok (.aload_n 0, 1) := by decide +kernel
theorem dX6_read_55 : decode cX6_read 55 = .ok (.invokevirtual 173, 3) := by decide +kernel
theorem dX6_read_58 : decode cX6_read 58 = .ok (.isub, 1) := by decide +kernel
theorem dX6_read_59 : decode cX6_read 59 = .ok (.iload_n 2, 1) := by decide +kernel
theorem dX6_read_60 : decode cX6_read 60 = .ok (.if_icmp .ge 11, 3) := by decide +kernel
theorem dX6_read_63 : decode cX6_read 63 = .ok (.aload_n 0, 1) := by decide +kernel
theorem dX6_read_64 : decode cX6_read 64 = .ok (.bipush (-3), 2) := by decide +kernel
theorem dX6_read_66 : decode cX6_read 66 = .ok (.iconst (-1), 1) := by decide +kernel
theorem dX6_read_67 : decode cX6_read 67 = .ok (.invokevirtual 192, 3) := by decide +kernel
theorem dX6_read_70 : decode cX6_read 70 = .ok (.ireturn, 1) := by decide +kernel
theorem dX6_read_71 : decode cX6_read 71 = .ok (.iconst 0, 1) := by decide +kernel
theorem dX6_read_72 : decode cX6_read 72 = .ok (.istore_n 3, 1) := by decide +kernel
theorem dX6_read_73 : decode cX6_read 73 = .ok (.iload_n 3, 1) := by decide +kernel
theorem dX6_read_74 : decode cX6_read 74 = .ok (.iload_n 2, 1) := by decide +kernel
theorem dX6_read_75 : decode cX6_read 75 = .ok (.if_icmp .ge 19, 3) := by decide +kernel
theorem dX6_read_78 : decode cX6_read 78 = .ok (.aload_n 0, 1) := by decide +kernel
theorem dX6_read_79 : decode cX6_read 79 = .ok (.getfield 45, 3) := by decide +kernel
theorem dX6_read_82 : decode cX6_read 82 = .ok (.iload_n 3, 1) := by decide +kernel
theorem dX6_read_83 : decode cX6_read 83 = .ok (.bipush 12, 2) := by decide +kernel
theorem dX6_read_85 : decode cX6_read 85 = .ok (.iload_n 3, 1) := by decide +kernel
theorem dX6_read_86 : decode cX6_read 86 = .ok (.iadd, 1) := by decide +kernel
theorem dX6_read_87 : decode cX6_read 87 = .ok (.iastore, 1) := by decide +kernel
theorem dX6_read_88 : decode cX6_read 88 = .ok (.iinc 3 1, 3) := by decide +kernel
theorem dX6_read_91 : decode cX6_read 91 = .ok (.goto (-18), 3) := by decide +kernel
theorem dX6_read_94 : decode cX6_read 94 = .ok (.aload_n 0, 1) := by decide +kernel
theorem dX6_read_95 : decode cX6_read 95 = .ok (.aload_n 0, 1) := by decide +kernel
theorem dX6_read_96 : decode cX6_read 96 = .ok (.getfield 45, 3) := by decide +kernel
theorem dX6_read_99 : decode cX6_read 99 = .ok (.iload_n 2, 1) := by decide +kernel
theorem dX6_read_100 : decode cX6_read 100 = .ok (.invokevirtual 375, 3) := by decide +kernel
theorem dX6_read_103 : decode cX6_read 103 = .ok (.istore_n 3, 1) := by decide +kernel
theorem dX6_read_104 : decode cX6_read 104 = .ok (.aload_n 0, 1) := by decide +kernel
theorem dX6_read_105 : decode cX6_read 105 = .ok (.iload_n 1, 1) := by decide +kernel
theorem dX6_read_106 : decode cX6_read 106 = .ok (.putfield 366, 3) := by decide +kernel
theorem dX6_read_109 : decode cX6_read 109 = .ok (.aload_n 0, 1) := by decide +kernel
theorem dX6_read_110 : decode cX6_read 110 = .ok (.iconst 0, 1) := by decide +kernel
theorem dX6_read_111 : decode cX6_read 111 = .ok (.iconst (-1), 1) := by decide +kernel
theorem dX6_read_112 : decode cX6_read 112 = .ok (.invokevirtual 192, 3) := by decide +kernel
theorem dX6_read_115 : decode cX6_read 115 = .ok (.pop, 1) := by decide +kernel
theorem dX6_read_116 : decode cX6_read 116 = .ok (.iload_n 3, 1) := by decide +kernel
theorem dX6_read_117 : decode cX6_read 117 = .ok (.ireturn, 1) := by decide +kernel
theorem dX6_readAs_0 : decode cX6_readAs 0 = .ok (.iload_n 1, 1) := by decide +kernel
theorem dX6_readAs_1 : decode cX6_readAs 1 = .ok (.i2l, 1) := by decide +kernel
theorem dX6_readAs_2 : decode cX6_readAs 2 = .ok (.lconst 0, 1) := by decide +kernel
theorem dX6_readAs_3 : decode cX6_readAs 3 = .ok (.ldc2_w 141, 3) := by decide +kernel
theorem dX6_readAs_6 : decode cX6_readAs 6 = .ok (.invokestatic 73, 3) := by decide +kernel
theorem dX6_readAs_9 : decode cX6_readAs 9 = .ok (.ifCond .ne 10, 3) := by decide +kernel
theorem dX6_readAs_12 : decode cX6_readAs 12 = .ok (.aload_n 0, 1) := by decide +kernel
theorem dX6_readAs_13 : decode cX6_readAs 13 = .ok (.iconst (-1), 1) := by decide +kernel
theorem dX6_readAs_14 : decode cX6_readAs 14 = .ok (.iconst (-1), 1) := by decide +kernel
theorem dX6_readAs_15 : decode cX6_readAs 15 = .ok (.invokevirtual 192, 3) := by decide +kernel
theorem dX6_readAs_18 : decode cX6_readAs 18 = .ok (.ireturn, 1) := by decide +kernel
theorem dX6_readAs_19 : decode cX6_readAs 19 = .ok (.aload_n 0, 1) := by decide +kernel
theorem dX6_readAs_20 : decode cX6_readAs 20 = .ok (.invokevirtual 369, 3) := by decide +kernel
theorem dX6_readAs_23 : decode cX6_readAs 23 = .ok (.aload_n 0, 1) := by decide +kernel
theorem dX6_readAs_24 : decode cX6_readAs 24 = .ok (.aload_n 0, 1) := by decide +kernel
theorem dX6_readAs_25 : decode cX6_readAs 25 = .ok (.getfield 366, 3) := by decide +kernel
theorem dX6_readAs_28 : decode cX6_readAs 28 = .ok (.invokevirtual 372, 3) := by decide +kernel
theorem dX6_readAs_31 : decode cX6_readAs 31 = .ok (.istore_n 2, 1) := by decide +kernel
theorem dX6_readAs_32 : decode cX6_readAs 32 = .ok (.aload_n 0, 1) := by decide +kernel
theorem dX6_readAs_33 : decode cX6_readAs 33 = .ok (.getfield 283, 3) := by decide +kernel
theorem dX6_readAs_36 : decode cX6_readAs 36 = .ok (.ifCond .lt 14, 3) := by decide +kernel
theorem dX6_readAs_39 : decode cX6_readAs 39 = .ok (.aload_n 0, 1) := by decide +kernel
theorem dX6_readAs_40 : decode cX6_readAs 40 = .ok (.bipush (-10), 2) := by decide +kernel
theorem dX6_readAs_42 : decode cX6_readAs 42 = .ok (.aload_n 0, 1) := by decide +kernel
theorem dX6_readAs_43 : decode cX6_readAs 43 = .ok (.getfield 283, 3) := by decide +kernel
theorem dX6_readAs_46 : decode cX6_readAs 46 = .ok (.invokevirtual 192, 3) := by decide +kernel
theorem dX6_readAs_49 : decode cX6_readAs 49 = .ok (.ireturn, 1) := by decide +kernel
theorem dX6_readAs_50 : decode cX6_readAs 50 = .ok (.aload_n 0, 1) := by decide +kernel
theorem dX6_readAs_51 : decode cX6_readAs 51 = .ok (.getfield 7, 3) := by decide +kernel
theorem dX6_readAs_54 : decode cX6_readAs 54 = .ok (.bipush 12, 2) := by decide +kernel
theorem dX6_readAs_56 : decode cX6_readAs 56 = .ok (.iaload, 1) := by decide +kernel
theorem dX6_readAs_57 : decode cX6_readAs 57 = .ok (.bipush 13, 2) := by decide +kernel
theorem dX6_readAs_59 : decode cX6_readAs 59 = .ok (.if_icmp .le 11, 3) := by decide +kernel
theorem dX6_readAs_62 : decode cX6_readAs 62 = .ok (.aload_n 0, 1) := by decide +kernel
theorem dX6_readAs_63 : decode cX6_readAs 63 = .ok (.bipush (-6), 2) := by decide +kernel
theorem dX6_readAs_65 : decode cX6_readAs 65 = .ok (.iconst (-1), 1) := by decide +kernel
theorem dX6_readAs_66 : decode cX6_readAs 66 = .ok (.invokevirtual 192, 3) := by decide +kernel
theorem dX6_readAs_69 : decode cX6_readAs 69 = .ok (.ireturn, 1) := by decide +kernel
theorem dX6_readAs_70 : decode cX6_readAs 70 = .ok (.iconst 0, 1) := by decide +kernel
theorem dX6_readAs_71 : decode cX6_readAs 71 = .ok (.istore_n 3, 1) := by decide +kernel
theorem dX6_readAs_72 : decode cX6_readAs 72 = .ok (.iload_n 3, 1) := by decide +kernel
theorem dX6_readAs_73 : decode cX6_readAs 73 = .ok (.aload_n 0, 1) := by decide +kernel
theorem dX6_readAs_74 : decode cX6_readAs 74 = .ok (.getfield 13, 3) := by decide +kernel
theorem dX6_readAs_77 : decode cX6_readAs 77 = .ok (.bipush 12, 2) := by decide +kernel
theorem dX6_readAs_79 : decode cX6_readAs 79 = .ok (.iaload, 1) := by decide +kernel
theorem dX6_readAs_80 : decode cX6_readAs 80 = .ok (.if_icmp .ge 32, 3) := by decide +kernel
theorem dX6_readAs_83 : decode cX6_readAs 83 = .ok (.aload_n 0, 1) := by decide +kernel
theorem dX6_readAs_84 : decode cX6_readAs 84 = .ok (.getfield 20, 3) := by decide +kernel
theorem dX6_readAs_87 : decode cX6_readAs 87 = .ok (.sipush 144, 3) := by decide +kernel
theorem dX6_readAs_90 : decode cX6_readAs 90 = .ok (.iload_n 3, 1) := by decide +kernel
theorem dX6_readAs_91 : decode cX6_readAs 91 = .ok (.iadd, 1) := by decide +kernel
theorem dX6_readAs_92 : decode cX6_readAs 92 = .ok (.iaload, 1) := by decide +kernel
theorem dX6_readAs_93 : decode cX6_readAs 93 = .ok (.bipush 10, 2) := by decide +kernel
theorem dX6_readAs_95 : decode cX6_readAs 95 = .ok (.if_icmp .ne 11, 3) := by decide +kernel
theorem dX6_readAs_98 : decode cX6_readAs 98 = .ok (.aload_n 0, 1) := by decide +kernel
theorem dX6_readAs_99 : decode cX6_readAs 99 = .ok (.bipush (-2), 2) := by decide +kernel
theorem dX6_readAs_101 : decode cX6_readAs 101 = .ok (.iconst (-1), 1) := by decide +kernel
theorem dX6_readAs_102 : decode cX6_readAs 102 = .ok (.invokevirtual 192, 3) := by decide +kernel
theorem dX6_readAs_105 : decode cX6_readAs 105 = .ok (.ireturn, 1) := by decide +kernel
theorem dX6_readAs_106 : decode cX6_readAs 106 = .ok (.iinc 3 1, 3) := by decide +kernel
theorem dX6_readAs_109 : decode cX6_readAs 109 = .ok (.goto (-37), 3) := by decide +kernel
theorem dX6_readAs_112 : decode cX6_readAs 112 = .ok (.aload_n 0, 1) := by decide +kernel
theorem dX6_readAs_113 : decode cX6_readAs 113 = .ok (.bipush 12, 2) := by decide +kernel
theorem dX6_readAs_115 : decode cX6_readAs 115 = .ok (.iload_n 1, 1) := by decide +kernel
theorem dX6_readAs_116 : decode cX6_readAs 116 = .ok (.invokevirtual 220, 3) := by decide +kernel
theorem dX6_readAs_119 : decode cX6_readAs 119 = .ok (.istore_n 3, 1) := by decide +kernel
theorem dX6_readAs_120 : decode cX6_readAs 120 = .ok (.iload_n 3, 1) := by decide +kernel
theorem dX6_readAs_121 : decode cX6_readAs 121 = .ok (.ifCond .lt 11, 3) := by decide +kernel
theorem dX6_readAs_124 : decode cX6_readAs 124 = .ok (.aload_n 0, 1) := by decide +kernel
theorem dX6_readAs_125 : decode cX6_readAs 125 = .ok (.bipush (-9), 2) := by decide +kernel
theorem dX6_readAs_127 : decode cX6_readAs 127 = .ok (.iload_n 3, 1) := by decide +kernel
theorem dX6_readAs_128 : decode cX6_readAs 128 = .ok (.invokevirtual 192, 3) := by decide +kernel
theorem dX6_readAs_131 : decode cX6_readAs 131 = .ok (.ireturn, 1) := by decide +kernel
theorem dX6_readAs_132 : decode cX6_readAs 132 = .ok (.aload_n 0, 1) := by decide +kernel
theorem dX6_readAs_133 : decode cX6_readAs 133 = .ok (.invokevirtual 151, 3) := by decide +kernel
theorem dX6_readAs_136 : decode cX6_readAs 136 = .ok (.ifCond .ge 11, 3) := by decide +kernel
theorem dX6_readAs_139 : decode cX6_readAs 139 = .ok (.aload_n 0, 1) := by decide +kernel
theorem dX6_readAs_140 : decode cX6_readAs 140 = .ok (.bipush (-3), 2) := by decide +kernel
theorem dX6_readAs_142 : decode cX6_readAs 142 = .ok (.iconst (-1), 1) := by decide +kernel
theorem dX6_readAs_143 : decode cX6_readAs 143 = .ok (.invokevirtual 192, 3) := by decide +kernel
theorem dX6_readAs_146 : decode cX6_readAs 146 = .ok (.ireturn, 1) := by decide +kernel
theorem dX6_readAs_147 : decode cX6_readAs 147 = .ok (.aload_n 0, 1) := by decide +kernel
theorem dX6_readAs_148 : decode cX6_readAs 148 = .ok (.iload_n 2, 1) := by decide +kernel
theorem dX6_readAs_149 : decode cX6_readAs 149 = .ok (.putfield 366, 3) := by decide +kernel
theorem dX6_readAs_152 : decode cX6_readAs 152 = .ok (.aload_n 0, 1) := by decide +kernel
theorem dX6_readAs_153 : decode cX6_readAs 153 = .ok (.bipush 12, 2) := by decide +kernel
theorem dX6_readAs_155 : decode cX6_readAs 155 = .ok (.iload_n 1, 1) := by decide +kernel
theorem dX6_readAs_156 : decode cX6_readAs 156 = .ok (.invokevirtual 223, 3) := by decide +kernel
theorem dX6_readAs_159 : decode cX6_readAs 159 = .ok (.ireturn, 1) := by decide +kernel
theorem dX6_skip_0 : decode cX6_skip 0 = .ok (.aload_n 0, 1) := by decide +kernel
theorem dX6_skip_1 : decode cX6_skip 1 = .ok (.invokevirtual 369, 3) := by decide +kernel
theorem dX6_skip_4 : decode cX6_skip 4 = .ok (.aload_n 0, 1) := by decide +kernel
theorem dX6_skip_5 : decode cX6_skip 5 = .ok (.aload_n 0, 1) := by decide +kernel
theorem dX6_skip_6 : decode cX6_skip 6 = .ok (.getfield 366, 3) := by decide +kernel
theorem dX6_skip_9 : decode cX6_skip 9 = .ok (.invokevirtual 372, 3) := by decide +kernel
theorem dX6_skip_12 : decode cX6_skip 12 = .ok (.istore_n 1, 1) := by decide +kernel
theorem dX6_skip_13 : decode cX6_skip 13 = .ok (.aload_n 0, 1) := by decide +kernel
theorem dX6_skip_14 : decode cX6_skip 14 = .ok (.getfield 283, 3) := by decide +kernel
theorem dX6_skip_17 : decode cX6_skip 17 = .ok (.ifCond .lt 14, 3) := by decide +kernel
theorem dX6_skip_20 : decode cX6_skip 20 = .ok (.aload_n 0, 1) := by decide +kernel
theorem dX6_skip_21 : decode cX6_skip 21 = .ok (.bipush (-10), 2) := by decide +kernel
theorem dX6_skip_23 : decode cX6_skip 23 = .ok (.aload_n 0, 1) := by decide +kernel
theorem dX6_skip_24 : decode cX6_skip 24 = .ok (.getfield 283, 3) := by decide +kernel
theorem dX6_skip_27 : decode cX6_skip 27 = .ok (.invokevirtual 192, 3) := by decide +kernel
theorem dX6_skip_30 : decode cX6_skip 30 = .ok (.ireturn, 1) := by decide +kernel
theorem dX6_skip_31 : decode cX6_skip 31 = .ok (.iload_n 1, 1) := by decide +kernel
theorem dX6_skip_32 : decode cX6_skip 32 = .ok (.aload_n 0, 1) := by decide +kernel
theorem dX6_skip_33 : decode cX6_skip 33 = .ok (.getfield 366, 3) := by decide +kernel
theorem dX6_skip_36 : decode cX6_skip 36 = .ok (.isub, 1) := by decide +kernel
theorem dX6_skip_37 : decode cX6_skip 37 = .ok (.istore_n 2, 1) := by decide +kernel
theorem dX6_skip_38 : decode cX6_skip 38 = .ok (.aload_n 0, 1) := by decide +kernel
theorem dX6_skip_39 : decode cX6_skip 39 = .ok (.iload_n 1, 1) := by decide +kernel
theorem dX6_skip_40 : decode cX6_skip 40 = .ok (.putfield 366, 3) := by decide +kernel
theorem dX6_skip_43 : decode cX6_skip 43 = .ok (.aload_n 0, 1) := by decide +kernel
theorem dX6_skip_44 : decode cX6_skip 44 = .ok (.iconst 0, 1) := by decide +kernel
theorem dX6_skip_45 : decode cX6_skip 45 = .ok (.iconst (-1), 1) := by decide +kernel
theorem dX6_skip_46 : decode cX6_skip 46 = .ok (.invokevirtual 192, 3) := by decide +kernel
theorem dX6_skip_49 : decode cX6_skip 49 = .ok (.pop, 1) := by decide +kernel
theorem dX6_skip_50 : decode cX6_skip 50 = .ok (.iload_n 2, 1) := by decide +kernel
theorem dX6_skip_51 : decode cX6_skip 51 = .ok (.ireturn, 1) := by decide +kernel
theorem dX6_relay_0 : decode cX6_relay 0 = .ok (.iload_n 1, 1) := by decide +kernel
theorem dX6_relay_1 : decode cX6_relay 1 = .ok (.i2l, 1) := by decide +kernel
theorem dX6_relay_2 : decode cX6_relay 2 = .ok (.lconst 0, 1) := by decide +kernel
theorem dX6_relay_3 : decode cX6_relay 3 = .ok (.ldc2_w 304, 3) := by decide +kernel
theorem dX6_relay_6 : decode cX6_relay 6 = .ok (.invokestatic 73, 3) := by decide +kernel
theorem dX6_relay_9 : decode cX6_relay 9 = .ok (.ifCond .ne 10, 3) := by decide +kernel
theorem dX6_relay_12 : decode cX6_relay 12 = .ok (.aload_n 0, 1) := by decide +kernel
theorem dX6_relay_13 : decode cX6_relay 13 = .ok (.iconst (-1), 1) := by decide +kernel
theorem dX6_relay_14 : decode cX6_relay 14 = .ok (.iconst (-1), 1) := by decide +kernel
theorem dX6_relay_15 : decode cX6_relay 15 = .ok (.invokevirtual 192, 3) := by decide +kernel
theorem dX6_relay_18 : decode cX6_relay 18 = .ok (.ireturn, 1) := by decide +kernel
theorem dX6_relay_19 : decode cX6_relay 19 = .ok (.aload_n 0, 1) := by decide +kernel
theorem dX6_relay_20 : decode cX6_relay 20 = .ok (.invokevirtual 369, 3) := by decide +kernel
theorem dX6_relay_23 : decode cX6_relay 23 = .ok (.aload_n 0, 1) := by decide +kernel
theorem dX6_relay_24 : decode cX6_relay 24 = .ok (.aload_n 0, 1) := by decide +kernel
theorem dX6_relay_25 : decode cX6_relay 25 = .ok (.getfield 366, 3) := by decide +kernel
theorem dX6_relay_28 : decode cX6_relay 28 = .ok (.invokevirtual 372, 3) := by decide +kernel
theorem dX6_relay_31 : decode cX6_relay 31 = .ok (.pop, 1) := by decide +kernel
theorem dX6_relay_32 : decode cX6_relay 32 = .ok (.aload_n 0, 1) := by decide +kernel
theorem dX6_relay_33 : decode cX6_relay 33 = .ok (.getfield 283, 3) := by decide +kernel
theorem dX6_relay_36 : decode cX6_relay 36 = .ok (.ifCond .lt 14, 3) := by decide +kernel
theorem dX6_relay_39 : decode cX6_relay 39 = .ok (.aload_n 0, 1) := by decide +kernel
theorem dX6_relay_40 : decode cX6_relay 40 = .ok (.bipush (-10), 2) := by decide +kernel
theorem dX6_relay_42 : decode cX6_relay 42 = .ok (.aload_n 0, 1) := by decide +kernel
theorem dX6_relay_43 : decode cX6_relay 43 = .ok (.getfield 283, 3) := by decide +kernel
theorem dX6_relay_46 : decode cX6_relay 46 = .ok (.invokevirtual 192, 3) := by decide +kernel
theorem dX6_relay_49 : decode cX6_relay 49 = .ok (.ireturn, 1) := by decide +kernel
theorem dX6_relay_50 : decode cX6_relay 50 = .ok (.aload_n 0, 1) := by decide +kernel
theorem dX6_relay_51 : decode cX6_relay 51 = .ok (.bipush 12, 2) := by decide +kernel
theorem dX6_relay_53 : decode cX6_relay 53 = .ok (.iload_n 1, 1) := by decide +kernel
theorem dX6_relay_54 : decode cX6_relay 54 = .ok (.invokevirtual 360, 3) := by decide +kernel
theorem dX6_relay_57 : decode cX6_relay 57 = .ok (.pop, 1) := by decide +kernel
theorem dX6_relay_58 : decode cX6_relay 58 = .ok (.aload_n 0, 1) := by decide +kernel
theorem dX6_relay_59 : decode cX6_relay 59 = .ok (.invokevirtual 363, 3) := by decide +kernel
theorem dX6_relay_62 : decode cX6_relay 62 = .ok (.istore_n 2, 1) := by decide +kernel
theorem dX6_relay_63 : decode cX6_relay 63 = .ok (.aload_n 0, 1) := by decide +kernel
theorem dX6_relay_64 : decode cX6_relay 64 = .ok (.iload_n 2, 1) := by decide +kernel
theorem dX6_relay_65 : decode cX6_relay 65 = .ok (.ifCond .ge 7, 3) := by decide +kernel
theorem dX6_relay_68 : decode cX6_relay 68 = .ok (.iload_n 2, 1) := by decide +kernel
theorem dX6_relay_69 : decode cX6_relay 69 = .ok (.goto 4, 3) := by decide +kernel
theorem dX6_relay_72 : decode cX6_relay 72 = .ok (.iconst 0, 1) := by decide +kernel
theorem dX6_relay_73 : decode cX6_relay 73 = .ok (.iconst (-1), 1) := by decide +kernel
theorem dX6_relay_74 : decode cX6_relay 74 = .ok (.invokevirtual 192, 3) := by decide +kernel
theorem dX6_relay_77 : decode cX6_relay 77 = .ok (.pop, 1) := by decide +kernel
theorem dX6_relay_78 : decode cX6_relay 78 = .ok (.iload_n 2, 1) := by decide +kernel
theorem dX6_relay_79 : decode cX6_relay 79 = .ok (.ireturn, 1) := by decide +kernel
theorem dX6_slack_0 : decode cX6_slack 0 = .ok (.iload_n 1, 1) := by decide +kernel
theorem dX6_slack_1 : decode cX6_slack 1 = .ok (.ifCond .lt 11, 3) := by decide +kernel
theorem dX6_slack_4 : decode cX6_slack 4 = .ok (.iload_n 1, 1) := by decide +kernel
theorem dX6_slack_5 : decode cX6_slack 5 = .ok (.aload_n 0, 1) := by decide +kernel
theorem dX6_slack_6 : decode cX6_slack 6 = .ok (.getfield 354, 3) := by decide +kernel
theorem dX6_slack_9 : decode cX6_slack 9 = .ok (.if_icmp .lt 5, 3) := by decide +kernel
theorem dX6_slack_12 : decode cX6_slack 12 = .ok (.iconst (-1), 1) := by decide +kernel
theorem dX6_slack_13 : decode cX6_slack 13 = .ok (.ireturn, 1) := by decide +kernel
theorem dX6_slack_14 : decode cX6_slack 14 = .ok (.aload_n 0, 1) := by decide +kernel
theorem dX6_slack_15 : decode cX6_slack 15 = .ok (.invokevirtual 369, 3) := by decide +kernel
theorem dX6_slack_18 : decode cX6_slack 18 = .ok (.iconst 0, 1) := by decide +kernel
theorem dX6_slack_19 : decode cX6_slack 19 = .ok (.istore_n 2, 1) := by decide +kernel
theorem dX6_slack_20 : decode cX6_slack 20 = .ok (.iconst 0, 1) := by decide +kernel
theorem dX6_slack_21 : decode cX6_slack 21 = .ok (.istore_n 3, 1) := by decide +kernel
theorem dX6_slack_22 : decode cX6_slack 22 = .ok (.iload_n 3, 1) := by decide +kernel
theorem dX6_slack_23 : decode cX6_slack 23 = .ok (.sipush 256, 3) := by decide +kernel
theorem dX6_slack_26 : decode cX6_slack 26 = .ok (.if_icmp .ge 35, 3) := by decide +kernel
theorem dX6_slack_29 : decode cX6_slack 29 = .ok (.aload_n 0, 1) := by decide +kernel
theorem dX6_slack_30 : decode cX6_slack 30 = .ok (.getfield 54, 3) := by decide +kernel
theorem dX6_slack_33 : decode cX6_slack 33 = .ok (.iload_n 1, 1) := by decide +kernel
theorem dX6_slack_34 : decode cX6_slack 34 = .ok (.iload_n 3, 1) := by decide +kernel
theorem dX6_slack_35 : decode cX6_slack 35 = .ok (.iastore, 1) := by decide +kernel
theorem dX6_slack_36 : decode cX6_slack 36 = .ok (.aload_n 0, 1) := by decide +kernel
theorem dX6_slack_37 : decode cX6_slack 37 = .ok (.aload_n 0, 1) := by decide +kernel
theorem dX6_slack_38 : decode cX6_slack 38 = .ok (.getfield 366, 3) := by decide +kernel
theorem dX6_slack_41 : decode cX6_slack 41 = .ok (.invokevirtual 372, 3) := by decide +kernel
theorem dX6_slack_44 : decode cX6_slack 44 = .ok (.pop, 1) := by decide +kernel
theorem dX6_slack_45 : decode cX6_slack 45 = .ok (.aload_n 0, 1) := by decide +kernel
theorem dX6_slack_46 : decode cX6_slack 46 = .ok (.getfield 283, 3) := by decide +kernel
theorem dX6_slack_49 : decode cX6_slack 49 = .ok (.ifCond .ge 6, 3) := by decide +kernel
theorem dX6_slack_52 : decode cX6_slack 52 = .ok (.iinc 2 1, 3) := by decide +kernel
theorem dX6_slack_55 : decode cX6_slack 55 = .ok (.iinc 3 1, 3) := by decide +kernel
theorem dX6_slack_58 : decode cX6_slack 58 = .ok (.goto (-36), 3) := by decide +kernel
theorem dX6_slack_61 : decode cX6_slack 61 = .ok (.iload_n 2, 1) := by decide +kernel
theorem dX6_slack_62 : decode cX6_slack 62 = .ok (.ireturn, 1) := by decide +kernel
theorem dX6_find_0 : decode cX6_find 0 = .ok (.iload_n 1, 1) := by decide +kernel
theorem dX6_find_1 : decode cX6_find 1 = .ok (.i2l, 1) := by decide +kernel
theorem dX6_find_2 : decode cX6_find 2 = .ok (.invokestatic 159, 3) := by decide +kernel
theorem dX6_find_5 : decode cX6_find 5 = .ok (.ifCond .ne 5, 3) := by decide +kernel
theorem dX6_find_8 : decode cX6_find 8 = .ok (.iconst (-1), 1) := by decide +kernel
theorem dX6_find_9 : decode cX6_find 9 = .ok (.ireturn, 1) := by decide +kernel
theorem dX6_find_10 : decode cX6_find 10 = .ok (.aload_n 0, 1) := by decide +kernel
theorem dX6_find_11 : decode cX6_find 11 = .ok (.getfield 7, 3) := by decide +kernel
theorem dX6_find_14 : decode cX6_find 14 = .ok (.iload_n 1, 1) := by decide +kernel
theorem dX6_find_15 : decode cX6_find 15 = .ok (.iaload, 1) := by decide +kernel
theorem dX6_find_16 : decode cX6_find 16 = .ok (.ifCond .ge 6, 3) := by decide +kernel
theorem dX6_find_19 : decode cX6_find 19 = .ok (.bipush (-5), 2) := by decide +kernel
theorem dX6_find_21 : decode cX6_find 21 = .ok (.ireturn, 1) := by decide +kernel
theorem dX6_find_22 : decode cX6_find 22 = .ok (.aload_n 0, 1) := by decide +kernel
theorem dX6_find_23 : decode cX6_find 23 = .ok (.iload_n 1, 1) := by decide +kernel
theorem dX6_find_24 : decode cX6_find 24 = .ok (.iconst 0, 1) := by decide +kernel
theorem dX6_find_25 : decode cX6_find 25 = .ok (.invokevirtual 360, 3) := by decide +kernel
theorem dX6_find_28 : decode cX6_find 28 = .ok (.pop, 1) := by decide +kernel
theorem dX6_find_29 : decode cX6_find 29 = .ok (.aload_n 0, 1) := by decide +kernel
theorem dX6_find_30 : decode cX6_find 30 = .ok (.invokevirtual 379, 3) := by decide +kernel
theorem dX6_find_33 : decode cX6_find 33 = .ok (.aload_n 0, 1) := by decide +kernel
theorem dX6_find_34 : decode cX6_find 34 = .ok (.invokevirtual 369, 3) := by decide +kernel
theorem dX6_find_37 : decode cX6_find 37 = .ok (.iconst 0, 1) := by decide +kernel
theorem dX6_find_38 : decode cX6_find 38 = .ok (.istore_n 2, 1) := by decide +kernel
theorem dX6_find_39 : decode cX6_find 39 = .ok (.iload_n 2, 1) := by decide +kernel
theorem dX6_find_40 : decode cX6_find 40 = .ok (.aload_n 0, 1) := by decide +kernel
theorem dX6_find_41 : decode cX6_find 41 = .ok (.getfield 354, 3) := by decide +kernel
theorem dX6_find_44 : decode cX6_find 44 = .ok (.if_icmp .ge 39, 3) := by decide +kernel
theorem dX6_find_47 : decode cX6_find 47 = .ok (.aload_n 0, 1) := by decide +kernel
theorem dX6_find_48 : decode cX6_find 48 = .ok (.iload_n 2, 1) := by decide +kernel
theorem dX6_find_49 : decode cX6_find 49 = .ok (.invokevirtual 372, 3) := by decide +kernel
theorem dX6_find_52 : decode cX6_find 52 = .ok (.pop, 1) := by decide +kernel
theorem dX6_find_53 : decode cX6_find 53 = .ok (.aload_n 0, 1) := by decide +kernel
theorem dX6_find_54 : decode cX6_find 54 = .ok (.getfield 283, 3) := by decide +kernel
theorem dX6_find_57 : decode cX6_find 57 = .ok (.ifCond .ge 20, 3) := by decide +kernel
theorem dX6_find_60 : decode cX6_find 60 = .ok (.aload_n 0, 1) := by decide +kernel
theorem dX6_find_61 : decode cX6_find 61 = .ok (.bipush 12, 2) := by decide +kernel
theorem dX6_find_63 : decode cX6_find 63 = .ok (.iconst 0, 1) := by decide +kernel
theorem dX6_find_64 : decode cX6_find 64 = .ok (.invokevirtual 360, 3) := by decide +kernel
theorem dX6_find_67 : decode cX6_find 67 = .ok (.pop, 1) := by decide +kernel
theorem dX6_find_68 : decode cX6_find 68 = .ok (.aload_n 0, 1) := by decide +kernel
theorem dX6_find_69 : decode cX6_find 69 = .ok (.invokevirtual 382, 3) := by decide +kernel
theorem dX6_find_72 : decode cX6_find 72 = .ok (.ifCond .ge 5, 3) := by decide +kernel
theorem dX6_find_75 : decode cX6_find 75 = .ok (.iload_n 2, 1) := by decide +kernel
theorem dX6_find_76 : decode cX6_find 76 = .ok (.ireturn, 1) := by decide +kernel
theorem dX6_find_77 : decode cX6_find 77 = .ok (.iinc 2 1, 3) := by decide +kernel
theorem dX6_find_80 : decode cX6_find 80 = .ok (.goto (-41), 3) := by decide +kernel
theorem dX6_find_83 : decode cX6_find 83 = .ok (.bipush (-4), 2) := by decide +kernel
theorem dX6_find_85 : decode cX6_find 85 = .ok (.ireturn, 1) := by decide +kernel
theorem dX6_laid_0 : decode cX6_laid 0 = .ok (.iload_n 1, 1) := by decide +kernel
theorem dX6_laid_1 : decode cX6_laid 1 = .ok (.i2l, 1) := by decide +kernel
theorem dX6_laid_2 : decode cX6_laid 2 = .ok (.invokestatic 159, 3) := by decide +kernel
theorem dX6_laid_5 : decode cX6_laid 5 = .ok (.ifCond .eq 15, 3) := by decide +kernel
theorem dX6_laid_8 : decode cX6_laid 8 = .ok (.iload_n 2, 1) := by decide +kernel
theorem dX6_laid_9 : decode cX6_laid 9 = .ok (.i2l, 1) := by decide +kernel
theorem dX6_laid_10 : decode cX6_laid 10 = .ok (.lconst 0, 1) := by decide +kernel
theorem dX6_laid_11 : decode cX6_laid 11 = .ok (.ldc2_w 304, 3) := by decide +kernel
theorem dX6_laid_14 : decode cX6_laid 14 = .ok (.invokestatic 73, 3) := by decide +kernel
theorem dX6_laid_17 : decode cX6_laid 17 = .ok (.ifCond .ne 5, 3) := by decide +kernel
theorem dX6_laid_20 : decode cX6_laid 20 = .ok (.iconst (-1), 1) := by decide +kernel
theorem dX6_laid_21 : decode cX6_laid 21 = .ok (.ireturn, 1) := by decide +kernel
theorem dX6_laid_22 : decode cX6_laid 22 = .ok (.aload_n 0, 1) := by decide +kernel
theorem dX6_laid_23 : decode cX6_laid 23 = .ok (.getfield 7, 3) := by decide +kernel
theorem dX6_laid_26 : decode cX6_laid 26 = .ok (.iload_n 1, 1) := by decide +kernel
theorem dX6_laid_27 : decode cX6_laid 27 = .ok (.iaload, 1) := by decide +kernel
theorem dX6_laid_28 : decode cX6_laid 28 = .ok (.ifCond .ge 8, 3) := by decide +kernel
theorem dX6_laid_31 : decode cX6_laid 31 = .ok (.bipush (-5), 2) := by decide +kernel
theorem dX6_laid_33 : decode cX6_laid 33 = .ok (.goto 9, 3) := by decide +kernel
theorem dX6_laid_36 : decode cX6_laid 36 = .ok (.aload_n 0, 1) := by decide +kernel
theorem dX6_laid_37 : decode cX6_laid 37 = .ok (.iload_n 1, 1) := by decide +kernel
theorem dX6_laid_38 : decode cX6_laid 38 = .ok (.iload_n 2, 1) := by decide +kernel
theorem dX6_laid_39 : decode cX6_laid 39 = .ok (.invokevirtual 360, 3) := by decide +kernel
theorem dX6_laid_42 : decode cX6_laid 42 = .ok (.ireturn, 1) := by decide +kernel
theorem dX6_part_0 : decode cX6_part 0 = .ok (.iload_n 1, 1) := by decide +kernel
theorem dX6_part_1 : decode cX6_part 1 = .ok (.i2l, 1) := by decide +kernel
theorem dX6_part_2 : decode cX6_part 2 = .ok (.invokestatic 159, 3) := by decide +kernel
theorem dX6_part_5 : decode cX6_part 5 = .ok (.ifCond .eq 11, 3) := by decide +kernel
theorem dX6_part_8 : decode cX6_part 8 = .ok (.iload_n 2, 1) := by decide +kernel
theorem dX6_part_9 : decode cX6_part 9 = .ok (.i2l, 1) := by decide +kernel
theorem dX6_part_10 : decode cX6_part 10 = .ok (.invokestatic 159, 3) := by decide +kernel
theorem dX6_part_13 : decode cX6_part 13 = .ok (.ifCond .ne 5, 3) := by decide +kernel
theorem dX6_part_16 : decode cX6_part 16 = .ok (.iconst (-1), 1) := by decide +kernel
theorem dX6_part_17 : decode cX6_part 17 = .ok (.ireturn, 1) := by decide +kernel
theorem dX6_part_18 : decode cX6_part 18 = .ok (.aload_n 0, 1) := by decide +kernel
theorem dX6_part_19 : decode cX6_part 19 = .ok (.getfield 7, 3) := by decide +kernel
theorem dX6_part_22 : decode cX6_part 22 = .ok (.iload_n 1, 1) := by decide +kernel
theorem dX6_part_23 : decode cX6_part 23 = .ok (.iaload, 1) := by decide +kernel
theorem dX6_part_24 : decode cX6_part 24 = .ok (.ifCond .lt 12, 3) := by decide +kernel
theorem dX6_part_27 : decode cX6_part 27 = .ok (.aload_n 0, 1) := by decide +kernel
theorem dX6_part_28 : decode cX6_part 28 = .ok (.getfield 7, 3) := by decide +kernel
theorem dX6_part_31 : decode cX6_part 31 = .ok (.iload_n 2, 1) := by decide +kernel
theorem dX6_part_32 : decode cX6_part 32 = .ok (.iaload, 1) := by decide +kernel
theorem dX6_part_33 : decode cX6_part 33 = .ok (.ifCond .ge 6, 3) := by decide +kernel
theorem dX6_part_36 : decode cX6_part 36 = .ok (.bipush (-5), 2) := by decide +kernel
theorem dX6_part_38 : decode cX6_part 38 = .ok (.ireturn, 1) := by decide +kernel
theorem dX6_part_39 : decode cX6_part 39 = .ok (.aload_n 0, 1) := by decide +kernel
theorem dX6_part_40 : decode cX6_part 40 = .ok (.iload_n 1, 1) := by decide +kernel
theorem dX6_part_41 : decode cX6_part 41 = .ok (.iconst 0, 1) := by decide +kernel
theorem dX6_part_42 : decode cX6_part 42 = .ok (.invokevirtual 360, 3) := by decide +kernel
theorem dX6_part_45 : decode cX6_part 45 = .ok (.pop, 1) := by decide +kernel
theorem dX6_part_46 : decode cX6_part 46 = .ok (.aload_n 0, 1) := by decide +kernel
theorem dX6_part_47 : decode cX6_part 47 = .ok (.invokevirtual 379, 3) := by decide +kernel
theorem dX6_part_50 : decode cX6_part 50 = .ok (.aload_n 0, 1) := by decide +kernel
theorem dX6_part_51 : decode cX6_part 51 = .ok (.iload_n 2, 1) := by decide +kernel
theorem dX6_part_52 : decode cX6_part 52 = .ok (.iconst 0, 1) := by decide +kernel
theorem dX6_part_53 : decode cX6_part 53 = .ok (.invokevirtual 360, 3) := by decide +kernel
theorem dX6_part_56 : decode cX6_part 56 = .ok (.pop, 1) := by decide +kernel
theorem dX6_part_57 : decode cX6_part 57 = .ok (.aload_n 0, 1) := by decide +kernel
theorem dX6_part_58 : decode cX6_part 58 = .ok (.invokevirtual 382, 3) := by decide +kernel
theorem dX6_part_61 : decode cX6_part 61 = .ok (.istore_n 3, 1) := by decide +kernel
theorem dX6_part_62 : decode cX6_part 62 = .ok (.iload_n 3, 1) := by decide +kernel
theorem dX6_part_63 : decode cX6_part 63 = .ok (.ifCond .ge 8, 3) := by decide +kernel
theorem dX6_part_66 : decode cX6_part 66 = .ok (.bipush (-4), 2) := by decide +kernel
theorem dX6_part_68 : decode cX6_part 68 = .ok (.goto 4, 3) := by decide +kernel
theorem dX6_part_71 : decode cX6_part 71 = .ok (.iload_n 3, 1) := by decide +kernel
theorem dX6_part_72 : decode cX6_part 72 = .ok (.ireturn, 1) := by decide +kernel
theorem dX6_hangs_0 : decode cX6_hangs 0 = .ok (.iload_n 1, 1) := by decide +kernel
theorem dX6_hangs_1 : decode cX6_hangs 1 = .ok (.i2l, 1) := by decide +kernel
theorem dX6_hangs_2 : decode cX6_hangs 2 = .ok (.invokestatic 159, 3) := by decide +kernel
theorem dX6_hangs_5 : decode cX6_hangs 5 = .ok (.ifCond .ne 5, 3) := by decide +kernel
theorem dX6_hangs_8 : decode cX6_hangs 8 = .ok (.iconst (-1), 1) := by decide +kernel
theorem dX6_hangs_9 : decode cX6_hangs 9 = .ok (.ireturn, 1) := by decide +kernel
theorem dX6_hangs_10 : decode cX6_hangs 10 = .ok (.aload_n 0, 1) := by decide +kernel
theorem dX6_hangs_11 : decode cX6_hangs 11 = .ok (.getfield 7, 3) := by decide +kernel
theorem dX6_hangs_14 : decode cX6_hangs 14 = .ok (.iload_n 1, 1) := by decide +kernel
theorem dX6_hangs_15 : decode cX6_hangs 15 = .ok (.iaload, 1) := by decide +kernel
theorem dX6_hangs_16 : decode cX6_hangs 16 = .ok (.ifCond .ge 8, 3) := by decide +kernel
theorem dX6_hangs_19 : decode cX6_hangs 19 = .ok (.bipush (-5), 2) := by decide +kernel
theorem dX6_hangs_21 : decode cX6_hangs 21 = .ok (.goto 8, 3) := by decide +kernel
theorem dX6_hangs_24 : decode cX6_hangs 24 = .ok (.aload_n 0, 1) := by decide +kernel
theorem dX6_hangs_25 : decode cX6_hangs 25 = .ok (.iload_n 1, 1) := by decide +kernel
theorem dX6_hangs_26 : decode cX6_hangs 26 = .ok (.invokevirtual 176, 3) := by decide +kernel
theorem dX6_hangs_29 : decode cX6_hangs 29 = .ok (.ireturn, 1) := by decide +kernel
theorem dX6_far_0 : decode cX6_far 0 = .ok (.iload_n 1, 1) := by decide +kernel
theorem dX6_far_1 : decode cX6_far 1 = .ok (.i2l, 1) := by decide +kernel
theorem dX6_far_2 : decode cX6_far 2 = .ok (.invokestatic 159, 3) := by decide +kernel
theorem dX6_far_5 : decode cX6_far 5 = .ok (.ifCond .eq 11, 3) := by decide +kernel
theorem dX6_far_8 : decode cX6_far 8 = .ok (.iload_n 2, 1) := by decide +kernel
theorem dX6_far_9 : decode cX6_far 9 = .ok (.i2l, 1) := by decide +kernel
theorem dX6_far_10 : decode cX6_far 10 = .ok (.invokestatic 159, 3) := by decide +kernel
theorem dX6_far_13 : decode cX6_far 13 = .ok (.ifCond .ne 5, 3) := by decide +kernel
theorem dX6_far_16 : decode cX6_far 16 = .ok (.iconst (-1), 1) := by decide +kernel
theorem dX6_far_17 : decode cX6_far 17 = .ok (.ireturn, 1) := by decide +kernel
theorem dX6_far_18 : decode cX6_far 18 = .ok (.aload_n 0, 1) := by decide +kernel
theorem dX6_far_19 : decode cX6_far 19 = .ok (.getfield 7, 3) := by decide +kernel
theorem dX6_far_22 : decode cX6_far 22 = .ok (.iload_n 1, 1) := by decide +kernel
theorem dX6_far_23 : decode cX6_far 23 = .ok (.iaload, 1) := by decide +kernel
theorem dX6_far_24 : decode cX6_far 24 = .ok (.ifCond .lt 12, 3) := by decide +kernel
theorem dX6_far_27 : decode cX6_far 27 = .ok (.aload_n 0, 1) := by decide +kernel
theorem dX6_far_28 : decode cX6_far 28 = .ok (.getfield 7, 3) := by decide +kernel
theorem dX6_far_31 : decode cX6_far 31 = .ok (.iload_n 2, 1) := by decide +kernel
theorem dX6_far_32 : decode cX6_far 32 = .ok (.iaload, 1) := by decide +kernel
theorem dX6_far_33 : decode cX6_far 33 = .ok (.ifCond .ge 6, 3) := by decide +kernel
theorem dX6_far_36 : decode cX6_far 36 = .ok (.bipush (-5), 2) := by decide +kernel
theorem dX6_far_38 : decode cX6_far 38 = .ok (.ireturn, 1) := by decide +kernel
theorem dX6_far_39 : decode cX6_far 39 = .ok (.iconst 1, 1) := by decide +kernel
theorem dX6_far_40 : decode cX6_far 40 = .ok (.iload_n 1, 1) := by decide +kernel
theorem dX6_far_41 : decode cX6_far 41 = .ok (.ishl, 1) := by decide +kernel
theorem dX6_far_42 : decode cX6_far 42 = .ok (.istore_n 3, 1) := by decide +kernel
theorem dX6_far_43 : decode cX6_far 43 = .ok (.iconst 1, 1) := by decide +kernel
theorem dX6_far_44 : decode cX6_far 44 = .ok (.istore 4, 2) := by decide +kernel
theorem dX6_far_46 : decode cX6_far 46 = .ok (.iload 4, 2) := by decide +kernel
theorem dX6_far_48 : decode cX6_far 48 = .ok (.bipush 12, 2) := by decide +kernel
theorem dX6_far_50 : decode cX6_far 50 = .ok (.if_icmp .gt 131, 3) := by decide +kernel
theorem dX6_far_53 : decode cX6_far 53 = .ok (.iconst 0, 1) := by decide +kernel
theorem dX6_far_54 : decode cX6_far 54 = .ok (.istore 5, 2) := by decide +kernel
theorem dX6_far_56 : decode cX6_far 56 = .ok (.iconst 0, 1) := by decide +kernel
theorem dX6_far_57 : decode cX6_far 57 = .ok (.istore 6, 2) := by decide +kernel
theorem dX6_far_59 : decode cX6_far 59 = .ok (.iload 6, 2) := by decide +kernel
theorem dX6_far_61 : decode cX6_far 61 = .ok (.bipush 12, 2) := by decide +kernel
theorem dX6_far_63 : decode cX6_far 63 = .ok (.if_icmp .ge 97, 3) := by decide +kernel
theorem dX6_far_66 : decode cX6_far 66 = .ok (.iconst 0, 1) := by decide +kernel
theorem dX6_far_67 : decode cX6_far 67 = .ok (.istore 7, 2) := by decide +kernel
theorem dX6_far_69 : decode cX6_far 69 = .ok (.iconst 0, 1) := by decide +kernel
theorem dX6_far_70 : decode cX6_far 70 = .ok (.istore 8, 2) := by decide +kernel
theorem dX6_far_72 : decode cX6_far 72 = .ok (.iload 8, 2) := by decide +kernel
theorem dX6_far_74 : decode cX6_far 74 = .ok (.bipush 12, 2) := by decide +kernel
theorem dX6_far_76 : decode cX6_far 76 = .ok (.if_icmp .ge 60, 3) := by decide +kernel
theorem dX6_far_79 : decode cX6_far 79 = .ok (.iload 7, 2) := by decide +kernel
theorem dX6_far_81 : decode cX6_far 81 = .ok (.ifCond .ne 42, 3) := by decide +kernel
theorem dX6_far_84 : decode cX6_far 84 = .ok (.iload_n 3, 1) := by decide +kernel
theorem dX6_far_85 : decode cX6_far 85 = .ok (.iload 8, 2) := by decide +kernel
theorem dX6_far_87 : decode cX6_far 87 = .ok (.ishr, 1) := by decide +kernel
theorem dX6_far_88 : decode cX6_far 88 = .ok (.iconst 1, 1) := by decide +kernel
theorem dX6_far_89 : decode cX6_far 89 = .ok (.iand, 1) := by decide +kernel
theorem dX6_far_90 : decode cX6_far 90 = .ok (.iconst 1, 1) := by decide +kernel
theorem dX6_far_91 : decode cX6_far 91 = .ok (.if_icmp .ne 36, 3) := by decide +kernel
theorem dX6_far_94 : decode cX6_far 94 = .ok (.aload_n 0, 1) := by decide +kernel
theorem dX6_far_95 : decode cX6_far 95 = .ok (.iload 8, 2) := by decide +kernel
theorem dX6_far_97 : decode cX6_far 97 = .ok (.invokevirtual 166, 3) := by decide +kernel
theorem dX6_far_100 : decode cX6_far 100 = .ok (.ifCond .eq 27, 3) := by decide +kernel
theorem dX6_far_103 : decode cX6_far 103 = .ok (.aload_n 0, 1) := by decide +kernel
theorem dX6_far_104 : decode cX6_far 104 = .ok (.iload 6, 2) := by decide +kernel
theorem dX6_far_106 : decode cX6_far 106 = .ok (.invokevirtual 166, 3) := by decide +kernel
theorem dX6_far_109 : decode cX6_far 109 = .ok (.ifCond .eq 18, 3) := by decide +kernel
theorem dX6_far_112 : decode cX6_far 112 = .ok (.aload_n 0, 1) := by decide +kernel
theorem dX6_far_113 : decode cX6_far 113 = .ok (.iload 6, 2) := by decide +kernel
theorem dX6_far_115 : decode cX6_far 115 = .ok (.iload 8, 2) := by decide +kernel
theorem dX6_far_117 : decode cX6_far 117 = .ok (.invokevirtual 170, 3) := by decide +kernel
theorem dX6_far_120 : decode cX6_far 120 = .ok (.ifCond .eq 7, 3) := by decide +kernel
theorem dX6_far_123 : decode cX6_far 123 = .ok (.iconst 1, 1) := by decide +kernel
theorem dX6_far_124 : decode cX6_far 124 = .ok (.goto 4, 3) := by decide +kernel
theorem dX6_far_127 : decode cX6_far 127 = .ok (.iconst 0, 1) := by decide +kernel
theorem dX6_far_128 : decode cX6_far 128 = .ok (.istore 7, 2) := by decide +kernel
theorem dX6_far_130 : decode cX6_far 130 = .ok (.iinc 8 1, 3) := by decide +kernel
theorem dX6_far_133 : decode cX6_far 133 = .ok (.goto (-61), 3) := by decide +kernel
theorem dX6_far_136 : decode cX6_far 136 = .ok (.iload 5, 2) := by decide +kernel
theorem dX6_far_138 : decode cX6_far 138 = .ok (.iload 7, 2) := by decide +kernel
theorem dX6_far_140 : decode cX6_far 140 = .ok (.ifCond .eq 10, 3) := by decide +kernel
theorem dX6_far_143 : decode cX6_far 143 = .ok (.iconst 1, 1) := by decide +kernel
theorem dX6_far_144 : decode cX6_far 144 = .ok (.iload 6, 2) := by decide +kernel
theorem dX6_far_146 : decode cX6_far 146 = .ok (.ishl, 1) := by decide +kernel
theorem dX6_far_147 : decode cX6_far 147 = .ok (.goto 4, 3) := by decide +kernel
theorem dX6_far_150 : decode cX6_far 150 = .ok (.iconst 0, 1) := by decide +kernel
theorem dX6_far_151 : decode cX6_far 151 = .ok (.iadd, 1) := by decide +kernel
theorem dX6_far_152 : decode cX6_far 152 = .ok (.istore 5, 2) := by decide +kernel
theorem dX6_far_154 : decode cX6_far 154 = .ok (.iinc 6 1, 3) := by decide +kernel
theorem dX6_far_157 : decode cX6_far 157 = .ok (.goto (-98), 3) := by decide +kernel
theorem dX6_far_160 : decode cX6_far 160 = .ok (.iload 5, 2) := by decide +kernel
theorem dX6_far_162 : decode cX6_far 162 = .ok (.istore_n 3, 1) := by decide +kernel
theorem dX6_far_163 : decode cX6_far 163 = .ok (.iload_n 3, 1) := by decide +kernel
theorem dX6_far_164 : decode cX6_far 164 = .ok (.iload_n 2, 1) := by decide +kernel
theorem dX6_far_165 : decode cX6_far 165 = .ok (.ishr, 1) := by decide +kernel
theorem dX6_far_166 : decode cX6_far 166 = .ok (.iconst 1, 1) := by decide +kernel
theorem dX6_far_167 : decode cX6_far 167 = .ok (.iand, 1) := by decide +kernel
theorem dX6_far_168 : decode cX6_far 168 = .ok (.iconst 1, 1) := by decide +kernel
theorem dX6_far_169 : decode cX6_far 169 = .ok (.if_icmp .ne 6, 3) := by decide +kernel
theorem dX6_far_172 : decode cX6_far 172 = .ok (.iload 4, 2) := by decide +kernel
theorem dX6_far_174 : decode cX6_far 174 = .ok (.ireturn, 1) := by decide +kernel
theorem dX6_far_175 : decode cX6_far 175 = .ok (.iinc 4 1, 3) := by decide +kernel
theorem dX6_far_178 : decode cX6_far 178 = .ok (.goto (-132), 3) := by decide +kernel
theorem dX6_far_181 : decode cX6_far 181 = .ok (.bipush (-4), 2) := by decide +kernel
theorem dX6_far_183 : decode cX6_far 183 = .ok (.ireturn, 1) := by decide +kernel
theorem dX6_twin_0 : decode cX6_twin 0 = .ok (.iload_n 1, 1) := by decide +kernel
theorem dX6_twin_1 : decode cX6_twin 1 = .ok (.i2l, 1) := by decide +kernel
theorem dX6_twin_2 : decode cX6_twin 2 = .ok (.invokestatic 159, 3) := by decide +kernel
theorem dX6_twin_5 : decode cX6_twin 5 = .ok (.ifCond .ne 5, 3) := by decide +kernel
theorem dX6_twin_8 : decode cX6_twin 8 = .ok (.iconst (-1), 1) := by decide +kernel
theorem dX6_twin_9 : decode cX6_twin 9 = .ok (.ireturn, 1) := by decide +kernel
theorem dX6_twin_10 : decode cX6_twin 10 = .ok (.aload_n 0, 1) := by decide +kernel
theorem dX6_twin_11 : decode cX6_twin 11 = .ok (.getfield 7, 3) := by decide +kernel
theorem dX6_twin_14 : decode cX6_twin 14 = .ok (.iload_n 1, 1) := by decide +kernel
theorem dX6_twin_15 : decode cX6_twin 15 = .ok (.iaload, 1) := by decide +kernel
theorem dX6_twin_16 : decode cX6_twin 16 = .ok (.ifCond .ge 6, 3) := by decide +kernel
theorem dX6_twin_19 : decode cX6_twin 19 = .ok (.bipush (-5), 2) := by decide +kernel
theorem dX6_twin_21 : decode cX6_twin 21 = .ok (.ireturn, 1) := by decide +kernel
theorem dX6_twin_22 : decode cX6_twin 22 = .ok (.aload_n 0, 1) := by decide +kernel
theorem dX6_twin_23 : decode cX6_twin 23 = .ok (.getfield 7, 3) := by decide +kernel
theorem dX6_twin_26 : decode cX6_twin 26 = .ok (.iload_n 1, 1) := by decide +kernel
theorem dX6_twin_27 : decode cX6_twin 27 = .ok (.iaload, 1) := by decide +kernel
theorem dX6_twin_28 : decode cX6_twin 28 = .ok (.bipush 13, 2) := by decide +kernel
theorem dX6_twin_30 : decode cX6_twin 30 = .ok (.if_icmp .le 18, 3) := by decide +kernel
theorem dX6_twin_33 : decode cX6_twin 33 = .ok (.aload_n 0, 1) := by decide +kernel
theorem dX6_twin_34 : decode cX6_twin 34 = .ok (.getfield 45, 3) := by decide +kernel
theorem dX6_twin_37 : decode cX6_twin 37 = .ok (.iconst 0, 1) := by decide +kernel
theorem dX6_twin_38 : decode cX6_twin 38 = .ok (.iload_n 1, 1) := by decide +kernel
theorem dX6_twin_39 : decode cX6_twin 39 = .ok (.iastore, 1) := by decide +kernel
theorem dX6_twin_40 : decode cX6_twin 40 = .ok (.aload_n 0, 1) := by decide +kernel
theorem dX6_twin_41 : decode cX6_twin 41 = .ok (.iconst 1, 1) := by decide +kernel
theorem dX6_twin_42 : decode cX6_twin 42 = .ok (.putfield 261, 3) := by decide +kernel
theorem dX6_twin_45 : decode cX6_twin 45 = .ok (.goto 10, 3) := by decide +kernel
theorem dX6_twin_48 : decode cX6_twin 48 = .ok (.aload_n 0, 1) := by decide +kernel
theorem dX6_twin_49 : decode cX6_twin 49 = .ok (.iload_n 1, 1) := by decide +kernel
theorem dX6_twin_50 : decode cX6_twin 50 = .ok (.iconst 0, 1) := by decide +kernel
theorem dX6_twin_51 : decode cX6_twin 51 = .ok (.invokevirtual 360, 3) := by decide +kernel
theorem dX6_twin_54 : decode cX6_twin 54 = .ok (.pop, 1) := by decide +kernel
theorem dX6_twin_55 : decode cX6_twin 55 = .ok (.bipush 12, 2) := by decide +kernel
theorem dX6_twin_57 : decode cX6_twin 57 = .ok (.aload_n 0, 1) := by decide +kernel
theorem dX6_twin_58 : decode cX6_twin 58 = .ok (.invokevirtual 173, 3) := by decide +kernel
theorem dX6_twin_61 : decode cX6_twin 61 = .ok (.isub, 1) := by decide +kernel
theorem dX6_twin_62 : decode cX6_twin 62 = .ok (.aload_n 0, 1) := by decide +kernel
theorem dX6_twin_63 : decode cX6_twin 63 = .ok (.getfield 261, 3) := by decide +kernel
theorem dX6_twin_66 : decode cX6_twin 66 = .ok (.if_icmp .ge 8, 3) := by decide +kernel
theorem dX6_twin_69 : decode cX6_twin 69 = .ok (.bipush (-3), 2) := by decide +kernel
theorem dX6_twin_71 : decode cX6_twin 71 = .ok (.goto 15, 3) := by decide +kernel
theorem dX6_twin_74 : decode cX6_twin 74 = .ok (.aload_n 0, 1) := by decide +kernel
theorem dX6_twin_75 : decode cX6_twin 75 = .ok (.aload_n 0, 1) := by decide +kernel
theorem dX6_twin_76 : decode cX6_twin 76 = .ok (.getfield 45, 3) := by decide +kernel
theorem dX6_twin_79 : decode cX6_twin 79 = .ok (.aload_n 0, 1) := by decide +kernel
theorem dX6_twin_80 : decode cX6_twin 80 = .ok (.getfield 261, 3) := by decide +kernel
theorem dX6_twin_83 : decode cX6_twin 83 = .ok (.invokevirtual 375, 3) := by decide +kernel
theorem dX6_twin_86 : decode cX6_twin 86 = .ok (.ireturn, 1) := by decide +kernel
theorem dX6_called_0 : decode cX6_called 0 = .ok (.iload_n 1, 1) := by decide +kernel
theorem dX6_called_1 : decode cX6_called 1 = .ok (.i2l, 1) := by decide +kernel
theorem dX6_called_2 : decode cX6_called 2 = .ok (.invokestatic 159, 3) := by decide +kernel
theorem dX6_called_5 : decode cX6_called 5 = .ok (.ifCond .eq 26, 3) := by decide +kernel
theorem dX6_called_8 : decode cX6_called 8 = .ok (.aload_n 0, 1) := by decide +kernel
theorem dX6_called_9 : decode cX6_called 9 = .ok (.getfield 7, 3) := by decide +kernel
theorem dX6_called_12 : decode cX6_called 12 = .ok (.iload_n 1, 1) := by decide +kernel
theorem dX6_called_13 : decode cX6_called 13 = .ok (.iaload, 1) := by decide +kernel
theorem dX6_called_14 : decode cX6_called 14 = .ok (.ifCond .lt 17, 3) := by decide +kernel
theorem dX6_called_17 : decode cX6_called 17 = .ok (.aload_n 0, 1) := by decide +kernel
theorem dX6_called_18 : decode cX6_called 18 = .ok (.getfield 66, 3) := by decide +kernel
theorem dX6_called_21 : decode cX6_called 21 = .ok (.aload_n 0, 1) := by decide +kernel
theorem dX6_called_22 : decode cX6_called 22 = .ok (.getfield 7, 3) := by decide +kernel
theorem dX6_called_25 : decode cX6_called 25 = .ok (.iload_n 1, 1) := by decide +kernel
theorem dX6_called_26 : decode cX6_called 26 = .ok (.iaload, 1) := by decide +kernel
theorem dX6_called_27 : decode cX6_called 27 = .ok (.laload, 1) := by decide +kernel
theorem dX6_called_28 : decode cX6_called 28 = .ok (.goto 4, 3) := by decide +kernel
theorem dX6_called_31 : decode cX6_called 31 = .ok (.lconst 0, 1) := by decide +kernel
theorem dX6_called_32 : decode cX6_called 32 = .ok (.lreturn, 1) := by decide +kernel
theorem dX6_named_0 : decode cX6_named 0 = .ok (.lload_n 1, 1) := by decide +kernel
theorem dX6_named_1 : decode cX6_named 1 = .ok (.invokestatic 147, 3) := by decide +kernel
theorem dX6_named_4 : decode cX6_named 4 = .ok (.ifCond .ne 5, 3) := by decide +kernel
theorem dX6_named_7 : decode cX6_named 7 = .ok (.iconst (-1), 1) := by decide +kernel
theorem dX6_named_8 : decode cX6_named 8 = .ok (.ireturn, 1) := by decide +kernel
theorem dX6_named_9 : decode cX6_named 9 = .ok (.iconst 0, 1) := by decide +kernel
theorem dX6_named_10 : decode cX6_named 10 = .ok (.istore_n 3, 1) := by decide +kernel
theorem dX6_named_11 : decode cX6_named 11 = .ok (.iload_n 3, 1) := by decide +kernel
theorem dX6_named_12 : decode cX6_named 12 = .ok (.bipush 16, 2) := by decide +kernel
theorem dX6_named_14 : decode cX6_named 14 = .ok (.if_icmp .ge 22, 3) := by decide +kernel
theorem dX6_named_17 : decode cX6_named 17 = .ok (.aload_n 0, 1) := by decide +kernel
theorem dX6_named_18 : decode cX6_named 18 = .ok (.getfield 66, 3) := by decide +kernel
theorem dX6_named_21 : decode cX6_named 21 = .ok (.iload_n 3, 1) := by decide +kernel
theorem dX6_named_22 : decode cX6_named 22 = .ok (.laload, 1) := by decide +kernel
theorem dX6_named_23 : decode cX6_named 23 = .ok (.lload_n 1, 1) := by decide +kernel
theorem dX6_named_24 : decode cX6_named 24 = .ok (.lcmp, 1) := by decide +kernel
theorem dX6_named_25 : decode cX6_named 25 = .ok (.ifCond .ne 5, 3) := by decide +kernel
theorem dX6_named_28 : decode cX6_named 28 = .ok (.iload_n 3, 1) := by decide +kernel
theorem dX6_named_29 : decode cX6_named 29 = .ok (.ireturn, 1) := by decide +kernel
theorem dX6_named_30 : decode cX6_named 30 = .ok (.iinc 3 1, 3) := by decide +kernel
theorem dX6_named_33 : decode cX6_named 33 = .ok (.goto (-22), 3) := by decide +kernel
theorem dX6_named_36 : decode cX6_named 36 = .ok (.bipush (-4), 2) := by decide +kernel
theorem dX6_named_38 : decode cX6_named 38 = .ok (.ireturn, 1) := by decide +kernel
theorem dX6_count_0 : decode cX6_count 0 = .ok (.iload_n 1, 1) := by decide +kernel
theorem dX6_count_1 : decode cX6_count 1 = .ok (.tableswitch 51 0 3 #[31, 36, 41, 46], 31) := by decide +kernel
theorem dX6_count_32 : decode cX6_count 32 = .ok (.aload_n 0, 1) := by decide +kernel
theorem dX6_count_33 : decode cX6_count 33 = .ok (.invokevirtual 173, 3) := by decide +kernel
theorem dX6_count_36 : decode cX6_count 36 = .ok (.ireturn, 1) := by decide +kernel
theorem dX6_count_37 : decode cX6_count 37 = .ok (.aload_n 0, 1) := by decide +kernel
theorem dX6_count_38 : decode cX6_count 38 = .ok (.getfield 354, 3) := by decide +kernel
theorem dX6_count_41 : decode cX6_count 41 = .ok (.ireturn, 1) := by decide +kernel
theorem dX6_count_42 : decode cX6_count 42 = .ok (.aload_n 0, 1) := by decide +kernel
theorem dX6_count_43 : decode cX6_count 43 = .ok (.getfield 366, 3) := by decide +kernel
theorem dX6_count_46 : decode cX6_count 46 = .ok (.ireturn, 1) := by decide +kernel
theorem dX6_count_47 : decode cX6_count 47 = .ok (.aload_n 0, 1) := by decide +kernel
theorem dX6_count_48 : decode cX6_count 48 = .ok (.getfield 357, 3) := by decide +kernel
theorem dX6_count_51 : decode cX6_count 51 = .ok (.ireturn, 1) := by decide +kernel
theorem dX6_count_52 : decode cX6_count 52 = .ok (.iload_n 1, 1) := by decide +kernel
theorem dX6_count_53 : decode cX6_count 53 = .ok (.i2l, 1) := by decide +kernel
theorem dX6_count_54 : decode cX6_count 54 = .ok (.ldc2_w 229, 3) := by decide +kernel
theorem dX6_count_57 : decode cX6_count 57 = .ok (.ldc2_w 385, 3) := by decide +kernel
theorem dX6_count_60 : decode cX6_count 60 = .ok (.invokestatic 73, 3) := by decide +kernel
theorem dX6_count_63 : decode cX6_count 63 = .ok (.ifCond .eq 14, 3) := by decide +kernel
theorem dX6_count_66 : decode cX6_count 66 = .ok (.aload_n 0, 1) := by decide +kernel
theorem dX6_count_67 : decode cX6_count 67 = .ok (.getfield 33, 3) := by decide +kernel
theorem dX6_count_70 : decode cX6_count 70 = .ok (.iload_n 1, 1) := by decide +kernel
theorem dX6_count_71 : decode cX6_count 71 = .ok (.iconst 4, 1) := by decide +kernel
theorem dX6_count_72 : decode cX6_count 72 = .ok (.isub, 1) := by decide +kernel
theorem dX6_count_73 : decode cX6_count 73 = .ok (.iaload, 1) := by decide +kernel
theorem dX6_count_74 : decode cX6_count 74 = .ok (.goto 4, 3) := by decide +kernel
theorem dX6_count_77 : decode cX6_count 77 = .ok (.iconst (-1), 1) := by decide +kernel
theorem dX6_count_78 : decode cX6_count 78 = .ok (.ireturn, 1) := by decide +kernel
