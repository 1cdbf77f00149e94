theorem dX0_isKind_0 : decode cX0_isKind 0 = .ok (.iload_n 0, 1) := by decide +kernel
theorem dX0_isKind_1 : decode cX0_isKind 1 = .ok (.ifCond .lt 13, 3) := by decide +kernel
theorem dX0_isKind_4 : decode cX0_isKind 4 = .ok (.iload_n 0, 1) := by decide +kernel
theorem dX0_isKind_5 : decode cX0_isKind 5 = .ok (.bipush 7, 2) := by decide +kernel
theorem dX0_isKind_7 : decode cX0_isKind 7 = .ok (.if_icmp .gt 7, 3) := by decide +kernel
theorem dX0_isKind_10 : decode cX0_isKind 10 = .ok (.iconst 1, 1) := by decide +kernel
theorem dX0_isKind_11 : decode cX0_isKind 11 = .ok (.goto 4, 3) := by decide +kernel
theorem dX0_isKind_14 : decode cX0_isKind 14 = .ok (.iconst 0, 1) := by decide +kernel
theorem dX0_isKind_15 : decode cX0_isKind 15 = .ok (.ireturn, 1) := by decide +kernel
theorem dX0_widens_0 : decode cX0_widens 0 = .ok (.iload_n 0, 1) := by decide +kernel
theorem dX0_widens_1 : decode cX0_widens 1 = .ok (.invokestatic 9, 3) := by decide +kernel
theorem dX0_widens_4 : decode cX0_widens 4 = .ok (.ifCond .eq 27, 3) := by decide +kernel
theorem dX0_widens_7 : decode cX0_widens 7 = .ok (.iload_n 1, 1) := by decide +kernel
theorem dX0_widens_8 : decode cX0_widens 8 = .ok (.invokestatic 9, 3) := by decide +kernel
theorem dX0_widens_11 : decode cX0_widens 11 = .ok (.ifCond .eq 20, 3) := by decide +kernel
theorem dX0_widens_14 : decode cX0_widens 14 = .ok (.getstatic 15, 3) := by decide +kernel
theorem dX0_widens_17 : decode cX0_widens 17 = .ok (.iload_n 0, 1) := by decide +kernel
theorem dX0_widens_18 : decode cX0_widens 18 = .ok (.iaload, 1) := by decide +kernel
theorem dX0_widens_19 : decode cX0_widens 19 = .ok (.iload_n 1, 1) := by decide +kernel
theorem dX0_widens_20 : decode cX0_widens 20 = .ok (.ishr, 1) := by decide +kernel
theorem dX0_widens_21 : decode cX0_widens 21 = .ok (.iconst 1, 1) := by decide +kernel
theorem dX0_widens_22 : decode cX0_widens 22 = .ok (.iand, 1) := by decide +kernel
theorem dX0_widens_23 : decode cX0_widens 23 = .ok (.iconst 1, 1) := by decide +kernel
theorem dX0_widens_24 : decode cX0_widens 24 = .ok (.if_icmp .ne 7, 3) := by decide +kernel
theorem dX0_widens_27 : decode cX0_widens 27 = .ok (.iconst 1, 1) := by decide +kernel
theorem dX0_widens_28 : decode cX0_widens 28 = .ok (.goto 4, 3) := by decide +kernel
theorem dX0_widens_31 : decode cX0_widens 31 = .ok (.iconst 0, 1) := by decide +kernel
theorem dX0_widens_32 : decode cX0_widens 32 = .ok (.ireturn, 1) := by decide +kernel
theorem dX0_fits_0 : decode cX0_fits 0 = .ok (.iload_n 0, 1) := by decide +kernel
theorem dX0_fits_1 : decode cX0_fits 1 = .ok (.iconst 5, 1) := by decide +kernel
theorem dX0_fits_2 : decode cX0_fits 2 = .ok (.if_icmp .gt 27, 3) := by decide +kernel
theorem dX0_fits_5 : decode cX0_fits 5 = .ok (.iload_n 0, 1) := by decide +kernel
theorem dX0_fits_6 : decode cX0_fits 6 = .ok (.ifCond .lt 27, 3) := by decide +kernel
theorem dX0_fits_9 : decode cX0_fits 9 = .ok (.lload_n 1, 1) := by decide +kernel
theorem dX0_fits_10 : decode cX0_fits 10 = .ok (.getstatic 19, 3) := by decide +kernel
theorem dX0_fits_13 : decode cX0_fits 13 = .ok (.iload_n 0, 1) := by decide +kernel
theorem dX0_fits_14 : decode cX0_fits 14 = .ok (.laload, 1) := by decide +kernel
theorem dX0_fits_15 : decode cX0_fits 15 = .ok (.lcmp, 1) := by decide +kernel
theorem dX0_fits_16 : decode cX0_fits 16 = .ok (.ifCond .lt 17, 3) := by decide +kernel
theorem dX0_fits_19 : decode cX0_fits 19 = .ok (.lload_n 1, 1) := by decide +kernel
theorem dX0_fits_20 : decode cX0_fits 20 = .ok (.getstatic 23, 3) := by decide +kernel
theorem dX0_fits_23 : decode cX0_fits 23 = .ok (.iload_n 0, 1) := by decide +kernel
theorem dX0_fits_24 : decode cX0_fits 24 = .ok (.laload, 1) := by decide +kernel
theorem dX0_fits_25 : decode cX0_fits 25 = .ok (.lcmp, 1) := by decide +kernel
theorem dX0_fits_26 : decode cX0_fits 26 = .ok (.ifCond .gt 7, 3) := by decide +kernel
theorem dX0_fits_29 : decode cX0_fits 29 = .ok (.iconst 1, 1) := by decide +kernel
theorem dX0_fits_30 : decode cX0_fits 30 = .ok (.goto 4, 3) := by decide +kernel
theorem dX0_fits_33 : decode cX0_fits 33 = .ok (.iconst 0, 1) := by decide +kernel
theorem dX0_fits_34 : decode cX0_fits 34 = .ok (.ireturn, 1) := by decide +kernel
theorem dX0_passed_0 : decode cX0_passed 0 = .ok (.iload_n 0, 1) := by decide +kernel
theorem dX0_passed_1 : decode cX0_passed 1 = .ok (.bipush 6, 2) := by decide +kernel
theorem dX0_passed_3 : decode cX0_passed 3 = .ok (.if_icmp .ne 15, 3) := by decide +kernel
theorem dX0_passed_6 : decode cX0_passed 6 = .ok (.bipush 6, 2) := by decide +kernel
theorem dX0_passed_8 : decode cX0_passed 8 = .ok (.lload_n 1, 1) := by decide +kernel
theorem dX0_passed_9 : decode cX0_passed 9 = .ok (.l2f, 1) := by decide +kernel
theorem dX0_passed_10 : decode cX0_passed 10 = .ok (.ldc 26, 2) := by decide +kernel
theorem dX0_passed_12 : decode cX0_passed 12 = .ok (.fmul, 1) := by decide +kernel
theorem dX0_passed_13 : decode cX0_passed 13 = .ok (.f2d, 1) := by decide +kernel
theorem dX0_passed_14 : decode cX0_passed 14 = .ok (.invokestatic 27, 3) := by decide +kernel
theorem dX0_passed_17 : decode cX0_passed 17 = .ok (.lreturn, 1) := by decide +kernel
theorem dX0_passed_18 : decode cX0_passed 18 = .ok (.iload_n 0, 1) := by decide +kernel
theorem dX0_passed_19 : decode cX0_passed 19 = .ok (.bipush 7, 2) := by decide +kernel
theorem dX0_passed_21 : decode cX0_passed 21 = .ok (.if_icmp .ne 15, 3) := by decide +kernel
theorem dX0_passed_24 : decode cX0_passed 24 = .ok (.bipush 7, 2) := by decide +kernel
theorem dX0_passed_26 : decode cX0_passed 26 = .ok (.lload_n 1, 1) := by decide +kernel
theorem dX0_passed_27 : decode cX0_passed 27 = .ok (.l2d, 1) := by decide +kernel
theorem dX0_passed_28 : decode cX0_passed 28 = .ok (.ldc2_w 31, 3) := by decide +kernel
theorem dX0_passed_31 : decode cX0_passed 31 = .ok (.dmul, 1) := by decide +kernel
theorem dX0_passed_32 : decode cX0_passed 32 = .ok (.invokestatic 27, 3) := by decide +kernel
theorem dX0_passed_35 : decode cX0_passed 35 = .ok (.lreturn, 1) := by decide +kernel
theorem dX0_passed_36 : decode cX0_passed 36 = .ok (.lload_n 1, 1) := by decide +kernel
theorem dX0_passed_37 : decode cX0_passed 37 = .ok (.lreturn, 1) := by decide +kernel
theorem dX0_widened_0 : decode cX0_widened 0 = .ok (.iload_n 0, 1) := by decide +kernel
theorem dX0_widened_1 : decode cX0_widened 1 = .ok (.iload_n 1, 1) := by decide +kernel
theorem dX0_widened_2 : decode cX0_widened 2 = .ok (.if_icmp .eq 8, 3) := by decide +kernel
theorem dX0_widened_5 : decode cX0_widened 5 = .ok (.iload_n 1, 1) := by decide +kernel
theorem dX0_widened_6 : decode cX0_widened 6 = .ok (.iconst 5, 1) := by decide +kernel
theorem dX0_widened_7 : decode cX0_widened 7 = .ok (.if_icmp .gt 5, 3) := by decide +kernel
theorem dX0_widened_10 : decode cX0_widened 10 = .ok (.lload_n 2, 1) := by decide +kernel
theorem dX0_widened_11 : decode cX0_widened 11 = .ok (.lreturn, 1) := by decide +kernel
theorem dX0_widened_12 : decode cX0_widened 12 = .ok (.iload_n 0, 1) := by decide +kernel
theorem dX0_widened_13 : decode cX0_widened 13 = .ok (.bipush 6, 2) := by decide +kernel
theorem dX0_widened_15 : decode cX0_widened 15 = .ok (.if_icmp .ne 15, 3) := by decide +kernel
theorem dX0_widened_18 : decode cX0_widened 18 = .ok (.bipush 7, 2) := by decide +kernel
theorem dX0_widened_20 : decode cX0_widened 20 = .ok (.bipush 6, 2) := by decide +kernel
theorem dX0_widened_22 : decode cX0_widened 22 = .ok (.lload_n 2, 1) := by decide +kernel
theorem dX0_widened_23 : decode cX0_widened 23 = .ok (.invokestatic 33, 3) := by decide +kernel
theorem dX0_widened_26 : decode cX0_widened 26 = .ok (.invokestatic 27, 3) := by decide +kernel
theorem dX0_widened_29 : decode cX0_widened 29 = .ok (.lreturn, 1) := by decide +kernel
theorem dX0_widened_30 : decode cX0_widened 30 = .ok (.iload_n 1, 1) := by decide +kernel
theorem dX0_widened_31 : decode cX0_widened 31 = .ok (.bipush 6, 2) := by decide +kernel
theorem dX0_widened_33 : decode cX0_widened 33 = .ok (.if_icmp .ne 14, 3) := by decide +kernel
theorem dX0_widened_36 : decode cX0_widened 36 = .ok (.bipush 6, 2) := by decide +kernel
theorem dX0_widened_38 : decode cX0_widened 38 = .ok (.lload_n 2, 1) := by decide +kernel
theorem dX0_widened_39 : decode cX0_widened 39 = .ok (.l2f, 1) := by decide +kernel
theorem dX0_widened_40 : decode cX0_widened 40 = .ok (.f2d, 1) := by decide +kernel
theorem dX0_widened_41 : decode cX0_widened 41 = .ok (.invokestatic 27, 3) := by decide +kernel
theorem dX0_widened_44 : decode cX0_widened 44 = .ok (.goto 10, 3) := by decide +kernel
theorem dX0_widened_47 : decode cX0_widened 47 = .ok (.bipush 7, 2) := by decide +kernel
theorem dX0_widened_49 : decode cX0_widened 49 = .ok (.lload_n 2, 1) := by decide +kernel
theorem dX0_widened_50 : decode cX0_widened 50 = .ok (.l2d, 1) := by decide +kernel
theorem dX0_widened_51 : decode cX0_widened 51 = .ok (.invokestatic 27, 3) := by decide +kernel
theorem dX0_widened_54 : decode cX0_widened 54 = .ok (.lreturn, 1) := by decide +kernel
theorem dX0_bitsOf_0 : decode cX0_bitsOf 0 = .ok (.iload_n 0, 1) := by decide +kernel
theorem dX0_bitsOf_1 : decode cX0_bitsOf 1 = .ok (.bipush 6, 2) := by decide +kernel
theorem dX0_bitsOf_3 : decode cX0_bitsOf 3 = .ok (.if_icmp .ne 9, 3) := by decide +kernel
theorem dX0_bitsOf_6 : decode cX0_bitsOf 6 = .ok (.ldc2_w 37, 3) := by decide +kernel
theorem dX0_bitsOf_9 : decode cX0_bitsOf 9 = .ok (.goto 6, 3) := by decide +kernel
theorem dX0_bitsOf_12 : decode cX0_bitsOf 12 = .ok (.ldc2_w 39, 3) := by decide +kernel
theorem dX0_bitsOf_15 : decode cX0_bitsOf 15 = .ok (.dstore_n 3, 1) := by decide +kernel
theorem dX0_bitsOf_16 : decode cX0_bitsOf 16 = .ok (.dload_n 1, 1) := by decide +kernel
theorem dX0_bitsOf_17 : decode cX0_bitsOf 17 = .ok (.ldc2_w 41, 3) := by decide +kernel
theorem dX0_bitsOf_20 : decode cX0_bitsOf 20 = .ok (.dmul, 1) := by decide +kernel
theorem dX0_bitsOf_21 : decode cX0_bitsOf 21 = .ok (.dstore 5, 2) := by decide +kernel
theorem dX0_bitsOf_23 : decode cX0_bitsOf 23 = .ok (.iconst 0, 1) := by decide +kernel
theorem dX0_bitsOf_24 : decode cX0_bitsOf 24 = .ok (.istore 7, 2) := by decide +kernel
theorem dX0_bitsOf_26 : decode cX0_bitsOf 26 = .ok (.iload 7, 2) := by decide +kernel
theorem dX0_bitsOf_28 : decode cX0_bitsOf 28 = .ok (.bipush 100, 2) := by decide +kernel
theorem dX0_bitsOf_30 : decode cX0_bitsOf 30 = .ok (.if_icmp .ge 32, 3) := by decide +kernel
theorem dX0_bitsOf_33 : decode cX0_bitsOf 33 = .ok (.dload 5, 2) := by decide +kernel
theorem dX0_bitsOf_35 : decode cX0_bitsOf 35 = .ok (.dload_n 3, 1) := by decide +kernel
theorem dX0_bitsOf_36 : decode cX0_bitsOf 36 = .ok (.dcmp .l, 1) := by decide +kernel
theorem dX0_bitsOf_37 : decode cX0_bitsOf 37 = .ok (.ifCond .ge 11, 3) := by decide +kernel
theorem dX0_bitsOf_40 : decode cX0_bitsOf 40 = .ok (.dload 5, 2) := by decide +kernel
theorem dX0_bitsOf_42 : decode cX0_bitsOf 42 = .ok (.dload_n 3, 1) := by decide +kernel
theorem dX0_bitsOf_43 : decode cX0_bitsOf 43 = .ok (.dneg, 1) := by decide +kernel
theorem dX0_bitsOf_44 : decode cX0_bitsOf 44 = .ok (.dcmp .g, 1) := by decide +kernel
theorem dX0_bitsOf_45 : decode cX0_bitsOf 45 = .ok (.ifCond .gt 17, 3) := by decide +kernel
theorem dX0_bitsOf_48 : decode cX0_bitsOf 48 = .ok (.dload 5, 2) := by decide +kernel
theorem dX0_bitsOf_50 : decode cX0_bitsOf 50 = .ok (.ldc2_w 43, 3) := by decide +kernel
theorem dX0_bitsOf_53 : decode cX0_bitsOf 53 = .ok (.dmul, 1) := by decide +kernel
theorem dX0_bitsOf_54 : decode cX0_bitsOf 54 = .ok (.dstore 5, 2) := by decide +kernel
theorem dX0_bitsOf_56 : decode cX0_bitsOf 56 = .ok (.iinc 7 1, 3) := by decide +kernel
theorem dX0_bitsOf_59 : decode cX0_bitsOf 59 = .ok (.goto (-33), 3) := by decide +kernel
theorem dX0_bitsOf_62 : decode cX0_bitsOf 62 = .ok (.iload_n 0, 1) := by decide +kernel
theorem dX0_bitsOf_63 : decode cX0_bitsOf 63 = .ok (.dload 5, 2) := by decide +kernel
theorem dX0_bitsOf_65 : decode cX0_bitsOf 65 = .ok (.d2l, 1) := by decide +kernel
theorem dX0_bitsOf_66 : decode cX0_bitsOf 66 = .ok (.iload 7, 2) := by decide +kernel
theorem dX0_bitsOf_68 : decode cX0_bitsOf 68 = .ok (.invokestatic 45, 3) := by decide +kernel
theorem dX0_bitsOf_71 : decode cX0_bitsOf 71 = .ok (.lreturn, 1) := by decide +kernel
theorem dX0_scaledBits_0 : decode cX0_scaledBits 0 = .ok (.lload_n 1, 1) := by decide +kernel
theorem dX0_scaledBits_1 : decode cX0_scaledBits 1 = .ok (.lconst 0, 1) := by decide +kernel
theorem dX0_scaledBits_2 : decode cX0_scaledBits 2 = .ok (.lcmp, 1) := by decide +kernel
theorem dX0_scaledBits_3 : decode cX0_scaledBits 3 = .ok (.ifCond .ne 5, 3) := by decide +kernel
theorem dX0_scaledBits_6 : decode cX0_scaledBits 6 = .ok (.lconst 0, 1) := by decide +kernel
theorem dX0_scaledBits_7 : decode cX0_scaledBits 7 = .ok (.lreturn, 1) := by decide +kernel
theorem dX0_scaledBits_8 : decode cX0_scaledBits 8 = .ok (.lload_n 1, 1) := by decide +kernel
theorem dX0_scaledBits_9 : decode cX0_scaledBits 9 = .ok (.lconst 0, 1) := by decide +kernel
theorem dX0_scaledBits_10 : decode cX0_scaledBits 10 = .ok (.lcmp, 1) := by decide +kernel
theorem dX0_scaledBits_11 : decode cX0_scaledBits 11 = .ok (.ifCond .ge 8, 3) := by decide +kernel
theorem dX0_scaledBits_14 : decode cX0_scaledBits 14 = .ok (.lload_n 1, 1) := by decide +kernel
theorem dX0_scaledBits_15 : decode cX0_scaledBits 15 = .ok (.lneg, 1) := by decide +kernel
theorem dX0_scaledBits_16 : decode cX0_scaledBits 16 = .ok (.goto 4, 3) := by decide +kernel
theorem dX0_scaledBits_19 : decode cX0_scaledBits 19 = .ok (.lload_n 1, 1) := by decide +kernel
theorem dX0_scaledBits_20 : decode cX0_scaledBits 20 = .ok (.lstore 4, 2) := by decide +kernel
theorem dX0_scaledBits_22 : decode cX0_scaledBits 22 = .ok (.bipush 63, 2) := by decide +kernel
theorem dX0_scaledBits_24 : decode cX0_scaledBits 24 = .ok (.lload 4, 2) := by decide +kernel
theorem dX0_scaledBits_26 : decode cX0_scaledBits 26 = .ok (.invokestatic 49, 3) := by decide +kernel
theorem dX0_scaledBits_29 : decode cX0_scaledBits 29 = .ok (.isub, 1) := by decide +kernel
theorem dX0_scaledBits_30 : decode cX0_scaledBits 30 = .ok (.istore 6, 2) := by decide +kernel
theorem dX0_scaledBits_32 : decode cX0_scaledBits 32 = .ok (.iload_n 0, 1) := by decide +kernel
theorem dX0_scaledBits_33 : decode cX0_scaledBits 33 = .ok (.bipush 6, 2) := by decide +kernel
theorem dX0_scaledBits_35 : decode cX0_scaledBits 35 = .ok (.if_icmp .ne 8, 3) := by decide +kernel
theorem dX0_scaledBits_38 : decode cX0_scaledBits 38 = .ok (.bipush 23, 2) := by decide +kernel
theorem dX0_scaledBits_40 : decode cX0_scaledBits 40 = .ok (.goto 5, 3) := by decide +kernel
theorem dX0_scaledBits_43 : decode cX0_scaledBits 43 = .ok (.bipush 52, 2) := by decide +kernel
theorem dX0_scaledBits_45 : decode cX0_scaledBits 45 = .ok (.istore 7, 2) := by decide +kernel
theorem dX0_scaledBits_47 : decode cX0_scaledBits 47 = .ok (.lload_n 1, 1) := by decide +kernel
theorem dX0_scaledBits_48 : decode cX0_scaledBits 48 = .ok (.lconst 0, 1) := by decide +kernel
theorem dX0_scaledBits_49 : decode cX0_scaledBits 49 = .ok (.lcmp, 1) := by decide +kernel
theorem dX0_scaledBits_50 : decode cX0_scaledBits 50 = .ok (.ifCond .ge 23, 3) := by decide +kernel
theorem dX0_scaledBits_53 : decode cX0_scaledBits 53 = .ok (.ldc2_w 55, 3) := by decide +kernel
theorem dX0_scaledBits_56 : decode cX0_scaledBits 56 = .ok (.iload_n 0, 1) := by decide +kernel
theorem dX0_scaledBits_57 : decode cX0_scaledBits 57 = .ok (.bipush 6, 2) := by decide +kernel
theorem dX0_scaledBits_59 : decode cX0_scaledBits 59 = .ok (.if_icmp .ne 8, 3) := by decide +kernel
theorem dX0_scaledBits_62 : decode cX0_scaledBits 62 = .ok (.bipush 31, 2) := by decide +kernel
theorem dX0_scaledBits_64 : decode cX0_scaledBits 64 = .ok (.goto 5, 3) := by decide +kernel
theorem dX0_scaledBits_67 : decode cX0_scaledBits 67 = .ok (.bipush 63, 2) := by decide +kernel
theorem dX0_scaledBits_69 : decode cX0_scaledBits 69 = .ok (.lshl, 1) := by decide +kernel
theorem dX0_scaledBits_70 : decode cX0_scaledBits 70 = .ok (.goto 4, 3) := by decide +kernel
theorem dX0_scaledBits_73 : decode cX0_scaledBits 73 = .ok (.lconst 0, 1) := by decide +kernel
theorem dX0_scaledBits_74 : decode cX0_scaledBits 74 = .ok (.lstore 8, 2) := by decide +kernel
theorem dX0_scaledBits_76 : decode cX0_scaledBits 76 = .ok (.iload_n 3, 1) := by decide +kernel
theorem dX0_scaledBits_77 : decode cX0_scaledBits 77 = .ok (.iconst 3, 1) := by decide +kernel
theorem dX0_scaledBits_78 : decode cX0_scaledBits 78 = .ok (.isub, 1) := by decide +kernel
theorem dX0_scaledBits_79 : decode cX0_scaledBits 79 = .ok (.iload 6, 2) := by decide +kernel
theorem dX0_scaledBits_81 : decode cX0_scaledBits 81 = .ok (.iadd, 1) := by decide +kernel
theorem dX0_scaledBits_82 : decode cX0_scaledBits 82 = .ok (.iload_n 0, 1) := by decide +kernel
theorem dX0_scaledBits_83 : decode cX0_scaledBits 83 = .ok (.bipush 6, 2) := by decide +kernel
theorem dX0_scaledBits_85 : decode cX0_scaledBits 85 = .ok (.if_icmp .ne 8, 3) := by decide +kernel
theorem dX0_scaledBits_88 : decode cX0_scaledBits 88 = .ok (.bipush 127, 2) := by decide +kernel
theorem dX0_scaledBits_90 : decode cX0_scaledBits 90 = .ok (.goto 6, 3) := by decide +kernel
theorem dX0_scaledBits_93 : decode cX0_scaledBits 93 = .ok (.sipush 1023, 3) := by decide +kernel
theorem dX0_scaledBits_96 : decode cX0_scaledBits 96 = .ok (.iadd, 1) := by decide +kernel
theorem dX0_scaledBits_97 : decode cX0_scaledBits 97 = .ok (.i2l, 1) := by decide +kernel
theorem dX0_scaledBits_98 : decode cX0_scaledBits 98 = .ok (.lstore 10, 2) := by decide +kernel
theorem dX0_scaledBits_100 : decode cX0_scaledBits 100 = .ok (.lload 8, 2) := by decide +kernel
theorem dX0_scaledBits_102 : decode cX0_scaledBits 102 = .ok (.lload 10, 2) := by decide +kernel
theorem dX0_scaledBits_104 : decode cX0_scaledBits 104 = .ok (.iload 7, 2) := by decide +kernel
theorem dX0_scaledBits_106 : decode cX0_scaledBits 106 = .ok (.lshl, 1) := by decide +kernel
theorem dX0_scaledBits_107 : decode cX0_scaledBits 107 = .ok (.lor, 1) := by decide +kernel
theorem dX0_scaledBits_108 : decode cX0_scaledBits 108 = .ok (.lload 4, 2) := by decide +kernel
theorem dX0_scaledBits_110 : decode cX0_scaledBits 110 = .ok (.iload 7, 2) := by decide +kernel
theorem dX0_scaledBits_112 : decode cX0_scaledBits 112 = .ok (.iload 6, 2) := by decide +kernel
theorem dX0_scaledBits_114 : decode cX0_scaledBits 114 = .ok (.isub, 1) := by decide +kernel
theorem dX0_scaledBits_115 : decode cX0_scaledBits 115 = .ok (.lshl, 1) := by decide +kernel
theorem dX0_scaledBits_116 : decode cX0_scaledBits 116 = .ok (.lconst 1, 1) := by decide +kernel
theorem dX0_scaledBits_117 : decode cX0_scaledBits 117 = .ok (.iload 7, 2) := by decide +kernel
theorem dX0_scaledBits_119 : decode cX0_scaledBits 119 = .ok (.lshl, 1) := by decide +kernel
theorem dX0_scaledBits_120 : decode cX0_scaledBits 120 = .ok (.lsub, 1) := by decide +kernel
theorem dX0_scaledBits_121 : decode cX0_scaledBits 121 = .ok (.lor, 1) := by decide +kernel
theorem dX0_scaledBits_122 : decode cX0_scaledBits 122 = .ok (.lreturn, 1) := by decide +kernel
theorem dX0_real_0 : decode cX0_real 0 = .ok (.iload_n 0, 1) := by decide +kernel
theorem dX0_real_1 : decode cX0_real 1 = .ok (.lload_n 1, 1) := by decide +kernel
theorem dX0_real_2 : decode cX0_real 2 = .ok (.invokestatic 57, 3) := by decide +kernel
theorem dX0_real_5 : decode cX0_real 5 = .ok (.l2d, 1) := by decide +kernel
theorem dX0_real_6 : decode cX0_real 6 = .ok (.ldc2_w 31, 3) := by decide +kernel
theorem dX0_real_9 : decode cX0_real 9 = .ok (.dmul, 1) := by decide +kernel
theorem dX0_real_10 : decode cX0_real 10 = .ok (.dstore_n 3, 1) := by decide +kernel
theorem dX0_real_11 : decode cX0_real 11 = .ok (.iload_n 0, 1) := by decide +kernel
theorem dX0_real_12 : decode cX0_real 12 = .ok (.lload_n 1, 1) := by decide +kernel
theorem dX0_real_13 : decode cX0_real 13 = .ok (.invokestatic 61, 3) := by decide +kernel
theorem dX0_real_16 : decode cX0_real 16 = .ok (.istore 5, 2) := by decide +kernel
theorem dX0_real_18 : decode cX0_real 18 = .ok (.iconst 0, 1) := by decide +kernel
theorem dX0_real_19 : decode cX0_real 19 = .ok (.istore 6, 2) := by decide +kernel
theorem dX0_real_21 : decode cX0_real 21 = .ok (.iload 6, 2) := by decide +kernel
theorem dX0_real_23 : decode cX0_real 23 = .ok (.iload 5, 2) := by decide +kernel
theorem dX0_real_25 : decode cX0_real 25 = .ok (.if_icmp .ge 15, 3) := by decide +kernel
theorem dX0_real_28 : decode cX0_real 28 = .ok (.dload_n 3, 1) := by decide +kernel
theorem dX0_real_29 : decode cX0_real 29 = .ok (.ldc2_w 65, 3) := by decide +kernel
theorem dX0_real_32 : decode cX0_real 32 = .ok (.dmul, 1) := by decide +kernel
theorem dX0_real_33 : decode cX0_real 33 = .ok (.dstore_n 3, 1) := by decide +kernel
theorem dX0_real_34 : decode cX0_real 34 = .ok (.iinc 6 1, 3) := by decide +kernel
theorem dX0_real_37 : decode cX0_real 37 = .ok (.goto (-16), 3) := by decide +kernel
theorem dX0_real_40 : decode cX0_real 40 = .ok (.dload_n 3, 1) := by decide +kernel
theorem dX0_real_41 : decode cX0_real 41 = .ok (.dreturn, 1) := by decide +kernel
theorem dX0_oddPart_0 : decode cX0_oddPart 0 = .ok (.lload_n 1, 1) := by decide +kernel
theorem dX0_oddPart_1 : decode cX0_oddPart 1 = .ok (.lconst 0, 1) := by decide +kernel
theorem dX0_oddPart_2 : decode cX0_oddPart 2 = .ok (.lcmp, 1) := by decide +kernel
theorem dX0_oddPart_3 : decode cX0_oddPart 3 = .ok (.ifCond .ne 5, 3) := by decide +kernel
theorem dX0_oddPart_6 : decode cX0_oddPart 6 = .ok (.lconst 0, 1) := by decide +kernel
theorem dX0_oddPart_7 : decode cX0_oddPart 7 = .ok (.lreturn, 1) := by decide +kernel
theorem dX0_oddPart_8 : decode cX0_oddPart 8 = .ok (.lconst 1, 1) := by decide +kernel
theorem dX0_oddPart_9 : decode cX0_oddPart 9 = .ok (.iload_n 0, 1) := by decide +kernel
theorem dX0_oddPart_10 : decode cX0_oddPart 10 = .ok (.bipush 6, 2) := by decide +kernel
theorem dX0_oddPart_12 : decode cX0_oddPart 12 = .ok (.if_icmp .ne 8, 3) := by decide +kernel
theorem dX0_oddPart_15 : decode cX0_oddPart 15 = .ok (.bipush 23, 2) := by decide +kernel
theorem dX0_oddPart_17 : decode cX0_oddPart 17 = .ok (.goto 5, 3) := by decide +kernel
theorem dX0_oddPart_20 : decode cX0_oddPart 20 = .ok (.bipush 52, 2) := by decide +kernel
theorem dX0_oddPart_22 : decode cX0_oddPart 22 = .ok (.lshl, 1) := by decide +kernel
theorem dX0_oddPart_23 : decode cX0_oddPart 23 = .ok (.lstore_n 3, 1) := by decide +kernel
theorem dX0_oddPart_24 : decode cX0_oddPart 24 = .ok (.lload_n 1, 1) := by decide +kernel
theorem dX0_oddPart_25 : decode cX0_oddPart 25 = .ok (.lload_n 3, 1) := by decide +kernel
theorem dX0_oddPart_26 : decode cX0_oddPart 26 = .ok (.lconst 1, 1) := by decide +kernel
theorem dX0_oddPart_27 : decode cX0_oddPart 27 = .ok (.lsub, 1) := by decide +kernel
theorem dX0_oddPart_28 : decode cX0_oddPart 28 = .ok (.land, 1) := by decide +kernel
theorem dX0_oddPart_29 : decode cX0_oddPart 29 = .ok (.lload_n 3, 1) := by decide +kernel
theorem dX0_oddPart_30 : decode cX0_oddPart 30 = .ok (.lor, 1) := by decide +kernel
theorem dX0_oddPart_31 : decode cX0_oddPart 31 = .ok (.lstore 5, 2) := by decide +kernel
theorem dX0_oddPart_33 : decode cX0_oddPart 33 = .ok (.lload 5, 2) := by decide +kernel
theorem dX0_oddPart_35 : decode cX0_oddPart 35 = .ok (.lload 5, 2) := by decide +kernel
theorem dX0_oddPart_37 : decode cX0_oddPart 37 = .ok (.invokestatic 67, 3) := by decide +kernel
theorem dX0_oddPart_40 : decode cX0_oddPart 40 = .ok (.lshr, 1) := by decide +kernel
theorem dX0_oddPart_41 : decode cX0_oddPart 41 = .ok (.lstore 7, 2) := by decide +kernel
theorem dX0_oddPart_43 : decode cX0_oddPart 43 = .ok (.lload_n 1, 1) := by decide +kernel
theorem dX0_oddPart_44 : decode cX0_oddPart 44 = .ok (.lconst 0, 1) := by decide +kernel
theorem dX0_oddPart_45 : decode cX0_oddPart 45 = .ok (.lcmp, 1) := by decide +kernel
theorem dX0_oddPart_46 : decode cX0_oddPart 46 = .ok (.ifCond .ge 9, 3) := by decide +kernel
theorem dX0_oddPart_49 : decode cX0_oddPart 49 = .ok (.lload 7, 2) := by decide +kernel
theorem dX0_oddPart_51 : decode cX0_oddPart 51 = .ok (.lneg, 1) := by decide +kernel
theorem dX0_oddPart_52 : decode cX0_oddPart 52 = .ok (.goto 5, 3) := by decide +kernel
theorem dX0_oddPart_55 : decode cX0_oddPart 55 = .ok (.lload 7, 2) := by decide +kernel
theorem dX0_oddPart_57 : decode cX0_oddPart 57 = .ok (.lreturn, 1) := by decide +kernel
theorem dX0_powerPart_0 : decode cX0_powerPart 0 = .ok (.lload_n 1, 1) := by decide +kernel
theorem dX0_powerPart_1 : decode cX0_powerPart 1 = .ok (.lconst 0, 1) := by decide +kernel
theorem dX0_powerPart_2 : decode cX0_powerPart 2 = .ok (.lcmp, 1) := by decide +kernel
theorem dX0_powerPart_3 : decode cX0_powerPart 3 = .ok (.ifCond .ne 5, 3) := by decide +kernel
theorem dX0_powerPart_6 : decode cX0_powerPart 6 = .ok (.iconst 0, 1) := by decide +kernel
theorem dX0_powerPart_7 : decode cX0_powerPart 7 = .ok (.ireturn, 1) := by decide +kernel
theorem dX0_powerPart_8 : decode cX0_powerPart 8 = .ok (.iload_n 0, 1) := by decide +kernel
theorem dX0_powerPart_9 : decode cX0_powerPart 9 = .ok (.bipush 6, 2) := by decide +kernel
theorem dX0_powerPart_11 : decode cX0_powerPart 11 = .ok (.if_icmp .ne 8, 3) := by decide +kernel
theorem dX0_powerPart_14 : decode cX0_powerPart 14 = .ok (.bipush 23, 2) := by decide +kernel
theorem dX0_powerPart_16 : decode cX0_powerPart 16 = .ok (.goto 5, 3) := by decide +kernel
theorem dX0_powerPart_19 : decode cX0_powerPart 19 = .ok (.bipush 52, 2) := by decide +kernel
theorem dX0_powerPart_21 : decode cX0_powerPart 21 = .ok (.istore_n 3, 1) := by decide +kernel
theorem dX0_powerPart_22 : decode cX0_powerPart 22 = .ok (.iload_n 0, 1) := by decide +kernel
theorem dX0_powerPart_23 : decode cX0_powerPart 23 = .ok (.bipush 6, 2) := by decide +kernel
theorem dX0_powerPart_25 : decode cX0_powerPart 25 = .ok (.if_icmp .ne 17, 3) := by decide +kernel
theorem dX0_powerPart_28 : decode cX0_powerPart 28 = .ok (.lload_n 1, 1) := by decide +kernel
theorem dX0_powerPart_29 : decode cX0_powerPart 29 = .ok (.iload_n 3, 1) := by decide +kernel
theorem dX0_powerPart_30 : decode cX0_powerPart 30 = .ok (.lshr, 1) := by decide +kernel
theorem dX0_powerPart_31 : decode cX0_powerPart 31 = .ok (.ldc2_w 70, 3) := by decide +kernel
theorem dX0_powerPart_34 : decode cX0_powerPart 34 = .ok (.land, 1) := by decide +kernel
theorem dX0_powerPart_35 : decode cX0_powerPart 35 = .ok (.l2i, 1) := by decide +kernel
theorem dX0_powerPart_36 : decode cX0_powerPart 36 = .ok (.bipush 127, 2) := by decide +kernel
theorem dX0_powerPart_38 : decode cX0_powerPart 38 = .ok (.isub, 1) := by decide +kernel
theorem dX0_powerPart_39 : decode cX0_powerPart 39 = .ok (.goto 15, 3) := by decide +kernel
theorem dX0_powerPart_42 : decode cX0_powerPart 42 = .ok (.lload_n 1, 1) := by decide +kernel
theorem dX0_powerPart_43 : decode cX0_powerPart 43 = .ok (.iload_n 3, 1) := by decide +kernel
theorem dX0_powerPart_44 : decode cX0_powerPart 44 = .ok (.lshr, 1) := by decide +kernel
theorem dX0_powerPart_45 : decode cX0_powerPart 45 = .ok (.ldc2_w 72, 3) := by decide +kernel
theorem dX0_powerPart_48 : decode cX0_powerPart 48 = .ok (.land, 1) := by decide +kernel
theorem dX0_powerPart_49 : decode cX0_powerPart 49 = .ok (.l2i, 1) := by decide +kernel
theorem dX0_powerPart_50 : decode cX0_powerPart 50 = .ok (.sipush 1023, 3) := by decide +kernel
theorem dX0_powerPart_53 : decode cX0_powerPart 53 = .ok (.isub, 1) := by decide +kernel
theorem dX0_powerPart_54 : decode cX0_powerPart 54 = .ok (.istore 4, 2) := by decide +kernel
theorem dX0_powerPart_56 : decode cX0_powerPart 56 = .ok (.iload 4, 2) := by decide +kernel
theorem dX0_powerPart_58 : decode cX0_powerPart 58 = .ok (.iload_n 3, 1) := by decide +kernel
theorem dX0_powerPart_59 : decode cX0_powerPart 59 = .ok (.isub, 1) := by decide +kernel
theorem dX0_powerPart_60 : decode cX0_powerPart 60 = .ok (.iconst 3, 1) := by decide +kernel
theorem dX0_powerPart_61 : decode cX0_powerPart 61 = .ok (.iadd, 1) := by decide +kernel
theorem dX0_powerPart_62 : decode cX0_powerPart 62 = .ok (.lload_n 1, 1) := by decide +kernel
theorem dX0_powerPart_63 : decode cX0_powerPart 63 = .ok (.invokestatic 67, 3) := by decide +kernel
theorem dX0_powerPart_66 : decode cX0_powerPart 66 = .ok (.iload_n 3, 1) := by decide +kernel
theorem dX0_powerPart_67 : decode cX0_powerPart 67 = .ok (.invokestatic 74, 3) := by decide +kernel
theorem dX0_powerPart_70 : decode cX0_powerPart 70 = .ok (.iadd, 1) := by decide +kernel
theorem dX0_powerPart_71 : decode cX0_powerPart 71 = .ok (.ireturn, 1) := by decide +kernel
theorem dX1_init_0 : decode cX1_init 0 = .ok (.aload_n 0, 1) := by decide +kernel
theorem dX1_init_1 : decode cX1_init 1 = .ok (.invokespecial 3, 3) := by decide +kernel
theorem dX1_init_4 : decode cX1_init 4 = .ok (.aload_n 0, 1) := by decide +kernel
theorem dX1_init_5 : decode cX1_init 5 = .ok (.bipush 12, 2) := by decide +kernel
theorem dX1_init_7 : decode cX1_init 7 = .ok (.anewarray 9, 3) := by decide +kernel
theorem dX1_init_10 : decode cX1_init 10 = .ok (.putfield 11, 3) := by decide +kernel
theorem dX1_init_13 : decode cX1_init 13 = .ok (.aload_n 0, 1) := by decide +kernel
theorem dX1_init_14 : decode cX1_init 14 = .ok (.iconst 0, 1) := by decide +kernel
theorem dX1_init_15 : decode cX1_init 15 = .ok (.putfield 17, 3) := by decide +kernel
theorem dX1_init_18 : decode cX1_init 18 = .ok (.aload_n 0, 1) := by decide +kernel
theorem dX1_init_19 : decode cX1_init 19 = .ok (.iconst 0, 1) := by decide +kernel
theorem dX1_init_20 : decode cX1_init 20 = .ok (.putfield 21, 3) := by decide +kernel
theorem dX1_init_23 : decode cX1_init 23 = .ok (.aload_n 0, 1) := by decide +kernel
theorem dX1_init_24 : decode cX1_init 24 = .ok (.iconst (-1), 1) := by decide +kernel
theorem dX1_init_25 : decode cX1_init 25 = .ok (.putfield 24, 3) := by decide +kernel
theorem dX1_init_28 : decode cX1_init 28 = .ok (.aload_n 0, 1) := by decide +kernel
theorem dX1_init_29 : decode cX1_init 29 = .ok (.lconst 0, 1) := by decide +kernel
theorem dX1_init_30 : decode cX1_init 30 = .ok (.putfield 27, 3) := by decide +kernel
theorem dX1_init_33 : decode cX1_init 33 = .ok (.aload_n 0, 1) := by decide +kernel
theorem dX1_init_34 : decode cX1_init 34 = .ok (.aload_n 1, 1) := by decide +kernel
theorem dX1_init_35 : decode cX1_init 35 = .ok (.putfield 31, 3) := by decide +kernel
theorem dX1_init_38 : decode cX1_init 38 = .ok (.iconst 0, 1) := by decide +kernel
theorem dX1_init_39 : decode cX1_init 39 = .ok (.istore_n 2, 1) := by decide +kernel
theorem dX1_init_40 : decode cX1_init 40 = .ok (.iload_n 2, 1) := by decide +kernel
theorem dX1_init_41 : decode cX1_init 41 = .ok (.bipush 12, 2) := by decide +kernel
theorem dX1_init_43 : decode cX1_init 43 = .ok (.if_icmp .ge 22, 3) := by decide +kernel
theorem dX1_init_46 : decode cX1_init 46 = .ok (.aload_n 0, 1) := by decide +kernel
theorem dX1_init_47 : decode cX1_init 47 = .ok (.getfield 11, 3) := by decide +kernel
theorem dX1_init_50 : decode cX1_init 50 = .ok (.iload_n 2, 1) := by decide +kernel
theorem dX1_init_51 : decode cX1_init 51 = .ok (.new 9, 3) := by decide +kernel
theorem dX1_init_54 : decode cX1_init 54 = .ok (.dup, 1) := by decide +kernel
theorem dX1_init_55 : decode cX1_init 55 = .ok (.invokespecial 35, 3) := by decide +kernel
theorem dX1_init_58 : decode cX1_init 58 = .ok (.aastore, 1) := by decide +kernel
theorem dX1_init_59 : decode cX1_init 59 = .ok (.iinc 2 1, 3) := by decide +kernel
theorem dX1_init_62 : decode cX1_init 62 = .ok (.goto (-22), 3) := by decide +kernel
theorem dX1_init_65 : decode cX1_init 65 = .ok (.return_, 1) := by decide +kernel
theorem dX1_takeItem_0 : decode cX1_takeItem 0 = .ok (.aload_n 0, 1) := by decide +kernel
theorem dX1_takeItem_1 : decode cX1_takeItem 1 = .ok (.aload_n 1, 1) := by decide +kernel
theorem dX1_takeItem_2 : decode cX1_takeItem 2 = .ok (.putfield 31, 3) := by decide +kernel
theorem dX1_takeItem_5 : decode cX1_takeItem 5 = .ok (.aload_n 0, 1) := by decide +kernel
theorem dX1_takeItem_6 : decode cX1_takeItem 6 = .ok (.iload_n 2, 1) := by decide +kernel
theorem dX1_takeItem_7 : decode cX1_takeItem 7 = .ok (.putfield 21, 3) := by decide +kernel
theorem dX1_takeItem_10 : decode cX1_takeItem 10 = .ok (.aload_n 0, 1) := by decide +kernel
theorem dX1_takeItem_11 : decode cX1_takeItem 11 = .ok (.iconst (-1), 1) := by decide +kernel
theorem dX1_takeItem_12 : decode cX1_takeItem 12 = .ok (.putfield 24, 3) := by decide +kernel
theorem dX1_takeItem_15 : decode cX1_takeItem 15 = .ok (.aload_n 0, 1) := by decide +kernel
theorem dX1_takeItem_16 : decode cX1_takeItem 16 = .ok (.iconst 0, 1) := by decide +kernel
theorem dX1_takeItem_17 : decode cX1_takeItem 17 = .ok (.putfield 17, 3) := by decide +kernel
theorem dX1_takeItem_20 : decode cX1_takeItem 20 = .ok (.aload_n 0, 1) := by decide +kernel
theorem dX1_takeItem_21 : decode cX1_takeItem 21 = .ok (.getfield 31, 3) := by decide +kernel
theorem dX1_takeItem_24 : decode cX1_takeItem 24 = .ok (.iload_n 2, 1) := by decide +kernel
theorem dX1_takeItem_25 : decode cX1_takeItem 25 = .ok (.invokevirtual 36, 3) := by decide +kernel
theorem dX1_takeItem_28 : decode cX1_takeItem 28 = .ok (.istore_n 3, 1) := by decide +kernel
theorem dX1_takeItem_29 : decode cX1_takeItem 29 = .ok (.iload_n 3, 1) := by decide +kernel
theorem dX1_takeItem_30 : decode cX1_takeItem 30 = .ok (.invokestatic 42, 3) := by decide +kernel
theorem dX1_takeItem_33 : decode cX1_takeItem 33 = .ok (.ifCond .eq 9, 3) := by decide +kernel
theorem dX1_takeItem_36 : decode cX1_takeItem 36 = .ok (.aload_n 0, 1) := by decide +kernel
theorem dX1_takeItem_37 : decode cX1_takeItem 37 = .ok (.iload_n 3, 1) := by decide +kernel
theorem dX1_takeItem_38 : decode cX1_takeItem 38 = .ok (.invokevirtual 46, 3) := by decide +kernel
theorem dX1_takeItem_41 : decode cX1_takeItem 41 = .ok (.ireturn, 1) := by decide +kernel
theorem dX1_takeItem_42 : decode cX1_takeItem 42 = .ok (.iload_n 3, 1) := by decide +kernel
theorem dX1_takeItem_43 : decode cX1_takeItem 43 = .ok (.bipush 8, 2) := by decide +kernel
theorem dX1_takeItem_45 : decode cX1_takeItem 45 = .ok (.if_icmp .eq 15, 3) := by decide +kernel
theorem dX1_takeItem_48 : decode cX1_takeItem 48 = .ok (.iload_n 3, 1) := by decide +kernel
theorem dX1_takeItem_49 : decode cX1_takeItem 49 = .ok (.bipush 9, 2) := by decide +kernel
theorem dX1_takeItem_51 : decode cX1_takeItem 51 = .ok (.if_icmp .eq 9, 3) := by decide +kernel
theorem dX1_takeItem_54 : decode cX1_takeItem 54 = .ok (.aload_n 0, 1) := by decide +kernel
theorem dX1_takeItem_55 : decode cX1_takeItem 55 = .ok (.iload_n 2, 1) := by decide +kernel
theorem dX1_takeItem_56 : decode cX1_takeItem 56 = .ok (.invokevirtual 49, 3) := by decide +kernel
theorem dX1_takeItem_59 : decode cX1_takeItem 59 = .ok (.ireturn, 1) := by decide +kernel
theorem dX1_takeItem_60 : decode cX1_takeItem 60 = .ok (.aload_n 0, 1) := by decide +kernel
theorem dX1_takeItem_61 : decode cX1_takeItem 61 = .ok (.dup, 1) := by decide +kernel
theorem dX1_takeItem_62 : decode cX1_takeItem 62 = .ok (.getfield 21, 3) := by decide +kernel
theorem dX1_takeItem_65 : decode cX1_takeItem 65 = .ok (.iconst 1, 1) := by decide +kernel
theorem dX1_takeItem_66 : decode cX1_takeItem 66 = .ok (.iadd, 1) := by decide +kernel
theorem dX1_takeItem_67 : decode cX1_takeItem 67 = .ok (.putfield 21, 3) := by decide +kernel
theorem dX1_takeItem_70 : decode cX1_takeItem 70 = .ok (.iload_n 3, 1) := by decide +kernel
theorem dX1_takeItem_71 : decode cX1_takeItem 71 = .ok (.bipush 8, 2) := by decide +kernel
theorem dX1_takeItem_73 : decode cX1_takeItem 73 = .ok (.if_icmp .ne 10, 3) := by decide +kernel
theorem dX1_takeItem_76 : decode cX1_takeItem 76 = .ok (.aload_n 0, 1) := by decide +kernel
theorem dX1_takeItem_77 : decode cX1_takeItem 77 = .ok (.invokevirtual 52, 3) := by decide +kernel
theorem dX1_takeItem_80 : decode cX1_takeItem 80 = .ok (.goto 8, 3) := by decide +kernel
theorem dX1_takeItem_83 : decode cX1_takeItem 83 = .ok (.aload_n 0, 1) := by decide +kernel
theorem dX1_takeItem_84 : decode cX1_takeItem 84 = .ok (.iconst 0, 1) := by decide +kernel
theorem dX1_takeItem_85 : decode cX1_takeItem 85 = .ok (.invokevirtual 56, 3) := by decide +kernel
theorem dX1_takeItem_88 : decode cX1_takeItem 88 = .ok (.istore 4, 2) := by decide +kernel
theorem dX1_takeItem_90 : decode cX1_takeItem 90 = .ok (.aload_n 0, 1) := by decide +kernel
theorem dX1_takeItem_91 : decode cX1_takeItem 91 = .ok (.getfield 11, 3) := by decide +kernel
theorem dX1_takeItem_94 : decode cX1_takeItem 94 = .ok (.iconst 0, 1) := by decide +kernel
theorem dX1_takeItem_95 : decode cX1_takeItem 95 = .ok (.aaload, 1) := by decide +kernel
theorem dX1_takeItem_96 : decode cX1_takeItem 96 = .ok (.iload_n 3, 1) := by decide +kernel
theorem dX1_takeItem_97 : decode cX1_takeItem 97 = .ok (.bipush 8, 2) := by decide +kernel
theorem dX1_takeItem_99 : decode cX1_takeItem 99 = .ok (.if_icmp .ne 8, 3) := by decide +kernel
theorem dX1_takeItem_102 : decode cX1_takeItem 102 = .ok (.bipush 15, 2) := by decide +kernel
theorem dX1_takeItem_104 : decode cX1_takeItem 104 = .ok (.goto 5, 3) := by decide +kernel
theorem dX1_takeItem_107 : decode cX1_takeItem 107 = .ok (.bipush 14, 2) := by decide +kernel
theorem dX1_takeItem_109 : decode cX1_takeItem 109 = .ok (.aload_n 0, 1) := by decide +kernel
theorem dX1_takeItem_110 : decode cX1_takeItem 110 = .ok (.getfield 27, 3) := by decide +kernel
theorem dX1_takeItem_113 : decode cX1_takeItem 113 = .ok (.invokevirtual 59, 3) := by decide +kernel
theorem dX1_takeItem_116 : decode cX1_takeItem 116 = .ok (.aload_n 0, 1) := by decide +kernel
theorem dX1_takeItem_117 : decode cX1_takeItem 117 = .ok (.iconst 1, 1) := by decide +kernel
theorem dX1_takeItem_118 : decode cX1_takeItem 118 = .ok (.putfield 17, 3) := by decide +kernel
theorem dX1_takeItem_121 : decode cX1_takeItem 121 = .ok (.iload 4, 2) := by decide +kernel
theorem dX1_takeItem_123 : decode cX1_takeItem 123 = .ok (.ireturn, 1) := by decide +kernel
theorem dX1_mayHaveLookedAt_0 : decode cX1_mayHaveLookedAt 0 = .ok (.aload_n 0, 1) := by decide +kernel
theorem dX1_mayHaveLookedAt_1 : decode cX1_mayHaveLookedAt 1 = .ok (.getfield 24, 3) := by decide +kernel
theorem dX1_mayHaveLookedAt_4 : decode cX1_mayHaveLookedAt 4 = .ok (.ifCond .ge 19, 3) := by decide +kernel
theorem dX1_mayHaveLookedAt_7 : decode cX1_mayHaveLookedAt 7 = .ok (.iload_n 1, 1) := by decide +kernel
theorem dX1_mayHaveLookedAt_8 : decode cX1_mayHaveLookedAt 8 = .ok (.aload_n 0, 1) := by decide +kernel
theorem dX1_mayHaveLookedAt_9 : decode cX1_mayHaveLookedAt 9 = .ok (.getfield 21, 3) := by decide +kernel
theorem dX1_mayHaveLookedAt_12 : decode cX1_mayHaveLookedAt 12 = .ok (.if_icmp .ge 7, 3) := by decide +kernel
theorem dX1_mayHaveLookedAt_15 : decode cX1_mayHaveLookedAt 15 = .ok (.iconst 1, 1) := by decide +kernel
theorem dX1_mayHaveLookedAt_16 : decode cX1_mayHaveLookedAt 16 = .ok (.goto 23, 3) := by decide +kernel
theorem dX1_mayHaveLookedAt_19 : decode cX1_mayHaveLookedAt 19 = .ok (.iconst 0, 1) := by decide +kernel
theorem dX1_mayHaveLookedAt_20 : decode cX1_mayHaveLookedAt 20 = .ok (.goto 19, 3) := by decide +kernel
theorem dX1_mayHaveLookedAt_23 : decode cX1_mayHaveLookedAt 23 = .ok (.iload_n 1, 1) := by decide +kernel
theorem dX1_mayHaveLookedAt_24 : decode cX1_mayHaveLookedAt 24 = .ok (.aload_n 0, 1) := by decide +kernel
theorem dX1_mayHaveLookedAt_25 : decode cX1_mayHaveLookedAt 25 = .ok (.getfield 24, 3) := by decide +kernel
theorem dX1_mayHaveLookedAt_28 : decode cX1_mayHaveLookedAt 28 = .ok (.bipush 10, 2) := by decide +kernel
theorem dX1_mayHaveLookedAt_30 : decode cX1_mayHaveLookedAt 30 = .ok (.iadd, 1) := by decide +kernel
theorem dX1_mayHaveLookedAt_31 : decode cX1_mayHaveLookedAt 31 = .ok (.if_icmp .ge 7, 3) := by decide +kernel
theorem dX1_mayHaveLookedAt_34 : decode cX1_mayHaveLookedAt 34 = .ok (.iconst 1, 1) := by decide +kernel
theorem dX1_mayHaveLookedAt_35 : decode cX1_mayHaveLookedAt 35 = .ok (.goto 4, 3) := by decide +kernel
theorem dX1_mayHaveLookedAt_38 : decode cX1_mayHaveLookedAt 38 = .ok (.iconst 0, 1) := by decide +kernel
theorem dX1_mayHaveLookedAt_39 : decode cX1_mayHaveLookedAt 39 = .ok (.ireturn, 1) := by decide +kernel
theorem dX1_failAt_0 : decode cX1_failAt 0 = .ok (.aload_n 0, 1) := by decide +kernel
theorem dX1_failAt_1 : decode cX1_failAt 1 = .ok (.iload_n 1, 1) := by decide +kernel
theorem dX1_failAt_2 : decode cX1_failAt 2 = .ok (.putfield 24, 3) := by decide +kernel
theorem dX1_failAt_5 : decode cX1_failAt 5 = .ok (.iconst 0, 1) := by decide +kernel
theorem dX1_failAt_6 : decode cX1_failAt 6 = .ok (.ireturn, 1) := by decide +kernel
theorem dX1_isArrayTag_0 : decode cX1_isArrayTag 0 = .ok (.iload_n 0, 1) := by decide +kernel
theorem dX1_isArrayTag_1 : decode cX1_isArrayTag 1 = .ok (.bipush 16, 2) := by decide +kernel
theorem dX1_isArrayTag_3 : decode cX1_isArrayTag 3 = .ok (.if_icmp .lt 9, 3) := by decide +kernel
theorem dX1_isArrayTag_6 : decode cX1_isArrayTag 6 = .ok (.iload_n 0, 1) := by decide +kernel
theorem dX1_isArrayTag_7 : decode cX1_isArrayTag 7 = .ok (.bipush 29, 2) := by decide +kernel
theorem dX1_isArrayTag_9 : decode cX1_isArrayTag 9 = .ok (.if_icmp .le 27, 3) := by decide +kernel
theorem dX1_isArrayTag_12 : decode cX1_isArrayTag 12 = .ok (.iload_n 0, 1) := by decide +kernel
theorem dX1_isArrayTag_13 : decode cX1_isArrayTag 13 = .ok (.bipush 32, 2) := by decide +kernel
theorem dX1_isArrayTag_15 : decode cX1_isArrayTag 15 = .ok (.if_icmp .lt 9, 3) := by decide +kernel
theorem dX1_isArrayTag_18 : decode cX1_isArrayTag 18 = .ok (.iload_n 0, 1) := by decide +kernel
theorem dX1_isArrayTag_19 : decode cX1_isArrayTag 19 = .ok (.bipush 39, 2) := by decide +kernel
theorem dX1_isArrayTag_21 : decode cX1_isArrayTag 21 = .ok (.if_icmp .le 15, 3) := by decide +kernel
theorem dX1_isArrayTag_24 : decode cX1_isArrayTag 24 = .ok (.iload_n 0, 1) := by decide +kernel
theorem dX1_isArrayTag_25 : decode cX1_isArrayTag 25 = .ok (.bipush 49, 2) := by decide +kernel
theorem dX1_isArrayTag_27 : decode cX1_isArrayTag 27 = .ok (.if_icmp .lt 13, 3) := by decide +kernel
theorem dX1_isArrayTag_30 : decode cX1_isArrayTag 30 = .ok (.iload_n 0, 1) := by decide +kernel
theorem dX1_isArrayTag_31 : decode cX1_isArrayTag 31 = .ok (.bipush 53, 2) := by decide +kernel
theorem dX1_isArrayTag_33 : decode cX1_isArrayTag 33 = .ok (.if_icmp .gt 7, 3) := by decide +kernel
theorem dX1_isArrayTag_36 : decode cX1_isArrayTag 36 = .ok (.iconst 1, 1) := by decide +kernel
theorem dX1_isArrayTag_37 : decode cX1_isArrayTag 37 = .ok (.goto 4, 3) := by decide +kernel
theorem dX1_isArrayTag_40 : decode cX1_isArrayTag 40 = .ok (.iconst 0, 1) := by decide +kernel
theorem dX1_isArrayTag_41 : decode cX1_isArrayTag 41 = .ok (.ireturn, 1) := by decide +kernel
theorem dX1_takeArray_0 : decode cX1_takeArray 0 = .ok (.aload_n 0, 1) := by decide +kernel
theorem dX1_takeArray_1 : decode cX1_takeArray 1 = .ok (.getfield 17, 3) := by decide +kernel
theorem dX1_takeArray_4 : decode cX1_takeArray 4 = .ok (.bipush 12, 2) := by decide +kernel
theorem dX1_takeArray_6 : decode cX1_takeArray 6 = .ok (.if_icmp .lt 12, 3) := by decide +kernel
theorem dX1_takeArray_9 : decode cX1_takeArray 9 = .ok (.aload_n 0, 1) := by decide +kernel
theorem dX1_takeArray_10 : decode cX1_takeArray 10 = .ok (.aload_n 0, 1) := by decide +kernel
theorem dX1_takeArray_11 : decode cX1_takeArray 11 = .ok (.getfield 21, 3) := by decide +kernel
theorem dX1_takeArray_14 : decode cX1_takeArray 14 = .ok (.invokevirtual 49, 3) := by decide +kernel
theorem dX1_takeArray_17 : decode cX1_takeArray 17 = .ok (.ireturn, 1) := by decide +kernel
theorem dX1_takeArray_18 : decode cX1_takeArray 18 = .ok (.aload_n 0, 1) := by decide +kernel
theorem dX1_takeArray_19 : decode cX1_takeArray 19 = .ok (.getfield 11, 3) := by decide +kernel
theorem dX1_takeArray_22 : decode cX1_takeArray 22 = .ok (.aload_n 0, 1) := by decide +kernel
theorem dX1_takeArray_23 : decode cX1_takeArray 23 = .ok (.getfield 17, 3) := by decide +kernel
theorem dX1_takeArray_26 : decode cX1_takeArray 26 = .ok (.aaload, 1) := by decide +kernel
theorem dX1_takeArray_27 : decode cX1_takeArray 27 = .ok (.astore_n 2, 1) := by decide +kernel
theorem dX1_takeArray_28 : decode cX1_takeArray 28 = .ok (.aload_n 0, 1) := by decide +kernel
theorem dX1_takeArray_29 : decode cX1_takeArray 29 = .ok (.dup, 1) := by decide +kernel
theorem dX1_takeArray_30 : decode cX1_takeArray 30 = .ok (.getfield 17, 3) := by decide +kernel
theorem dX1_takeArray_33 : decode cX1_takeArray 33 = .ok (.iconst 1, 1) := by decide +kernel
theorem dX1_takeArray_34 : decode cX1_takeArray 34 = .ok (.iadd, 1) := by decide +kernel
theorem dX1_takeArray_35 : decode cX1_takeArray 35 = .ok (.putfield 17, 3) := by decide +kernel
theorem dX1_takeArray_38 : decode cX1_takeArray 38 = .ok (.aload_n 0, 1) := by decide +kernel
theorem dX1_takeArray_39 : decode cX1_takeArray 39 = .ok (.dup, 1) := by decide +kernel
theorem dX1_takeArray_40 : decode cX1_takeArray 40 = .ok (.getfield 21, 3) := by decide +kernel
theorem dX1_takeArray_43 : decode cX1_takeArray 43 = .ok (.iconst 1, 1) := by decide +kernel
theorem dX1_takeArray_44 : decode cX1_takeArray 44 = .ok (.iadd, 1) := by decide +kernel
theorem dX1_takeArray_45 : decode cX1_takeArray 45 = .ok (.putfield 21, 3) := by decide +kernel
theorem dX1_takeArray_48 : decode cX1_takeArray 48 = .ok (.aload_n 0, 1) := by decide +kernel
theorem dX1_takeArray_49 : decode cX1_takeArray 49 = .ok (.getfield 31, 3) := by decide +kernel
theorem dX1_takeArray_52 : decode cX1_takeArray 52 = .ok (.aload_n 0, 1) := by decide +kernel
theorem dX1_takeArray_53 : decode cX1_takeArray 53 = .ok (.getfield 21, 3) := by decide +kernel
theorem dX1_takeArray_56 : decode cX1_takeArray 56 = .ok (.invokevirtual 36, 3) := by decide +kernel
theorem dX1_takeArray_59 : decode cX1_takeArray 59 = .ok (.istore_n 3, 1) := by decide +kernel
theorem dX1_takeArray_60 : decode cX1_takeArray 60 = .ok (.iload_n 3, 1) := by decide +kernel
theorem dX1_takeArray_61 : decode cX1_takeArray 61 = .ok (.ifCond .lt 9, 3) := by decide +kernel
theorem dX1_takeArray_64 : decode cX1_takeArray 64 = .ok (.iload_n 3, 1) := by decide +kernel
theorem dX1_takeArray_65 : decode cX1_takeArray 65 = .ok (.bipush 12, 2) := by decide +kernel
theorem dX1_takeArray_67 : decode cX1_takeArray 67 = .ok (.if_icmp .le 12, 3) := by decide +kernel
theorem dX1_takeArray_70 : decode cX1_takeArray 70 = .ok (.aload_n 0, 1) := by decide +kernel
theorem dX1_takeArray_71 : decode cX1_takeArray 71 = .ok (.aload_n 0, 1) := by decide +kernel
theorem dX1_takeArray_72 : decode cX1_takeArray 72 = .ok (.getfield 21, 3) := by decide +kernel
theorem dX1_takeArray_75 : decode cX1_takeArray 75 = .ok (.invokevirtual 49, 3) := by decide +kernel
theorem dX1_takeArray_78 : decode cX1_takeArray 78 = .ok (.ireturn, 1) := by decide +kernel
theorem dX1_takeArray_79 : decode cX1_takeArray 79 = .ok (.aload_n 0, 1) := by decide +kernel
theorem dX1_takeArray_80 : decode cX1_takeArray 80 = .ok (.dup, 1) := by decide +kernel
theorem dX1_takeArray_81 : decode cX1_takeArray 81 = .ok (.getfield 21, 3) := by decide +kernel
theorem dX1_takeArray_84 : decode cX1_takeArray 84 = .ok (.iconst 1, 1) := by decide +kernel
theorem dX1_takeArray_85 : decode cX1_takeArray 85 = .ok (.iadd, 1) := by decide +kernel
theorem dX1_takeArray_86 : decode cX1_takeArray 86 = .ok (.putfield 21, 3) := by decide +kernel
theorem dX1_takeArray_89 : decode cX1_takeArray 89 = .ok (.aload_n 2, 1) := by decide +kernel
theorem dX1_takeArray_90 : decode cX1_takeArray 90 = .ok (.iload_n 1, 1) := by decide +kernel
theorem dX1_takeArray_91 : decode cX1_takeArray 91 = .ok (.bipush 15, 2) := by decide +kernel
theorem dX1_takeArray_93 : decode cX1_takeArray 93 = .ok (.iand, 1) := by decide +kernel
theorem dX1_takeArray_94 : decode cX1_takeArray 94 = .ok (.iload_n 3, 1) := by decide +kernel
theorem dX1_takeArray_95 : decode cX1_takeArray 95 = .ok (.invokevirtual 63, 3) := by decide +kernel
theorem dX1_takeArray_98 : decode cX1_takeArray 98 = .ok (.iload_n 1, 1) := by decide +kernel
theorem dX1_takeArray_99 : decode cX1_takeArray 99 = .ok (.iconst 4, 1) := by decide +kernel
theorem dX1_takeArray_100 : decode cX1_takeArray 100 = .ok (.ishr, 1) := by decide +kernel
theorem dX1_takeArray_101 : decode cX1_takeArray 101 = .ok (.iconst 1, 1) := by decide +kernel
theorem dX1_takeArray_102 : decode cX1_takeArray 102 = .ok (.isub, 1) := by decide +kernel
theorem dX1_takeArray_103 : decode cX1_takeArray 103 = .ok (.lookupswitch 37 #[(1, 25), (2, 31)], 25) := by decide +kernel
theorem dX1_takeArray_128 : decode cX1_takeArray 128 = .ok (.aload_n 0, 1) := by decide +kernel
theorem dX1_takeArray_129 : decode cX1_takeArray 129 = .ok (.aload_n 2, 1) := by decide +kernel
theorem dX1_takeArray_130 : decode cX1_takeArray 130 = .ok (.invokevirtual 67, 3) := by decide +kernel
theorem dX1_takeArray_133 : decode cX1_takeArray 133 = .ok (.ireturn, 1) := by decide +kernel
theorem dX1_takeArray_134 : decode cX1_takeArray 134 = .ok (.aload_n 0, 1) := by decide +kernel
theorem dX1_takeArray_135 : decode cX1_takeArray 135 = .ok (.aload_n 2, 1) := by decide +kernel
theorem dX1_takeArray_136 : decode cX1_takeArray 136 = .ok (.invokevirtual 71, 3) := by decide +kernel
theorem dX1_takeArray_139 : decode cX1_takeArray 139 = .ok (.ireturn, 1) := by decide +kernel
theorem dX1_takeArray_140 : decode cX1_takeArray 140 = .ok (.aload_n 2, 1) := by decide +kernel
theorem dX1_takeArray_141 : decode cX1_takeArray 141 = .ok (.invokevirtual 74, 3) := by decide +kernel
theorem dX1_takeArray_144 : decode cX1_takeArray 144 = .ok (.ifCond .eq 11, 3) := by decide +kernel
theorem dX1_takeArray_147 : decode cX1_takeArray 147 = .ok (.aload_n 0, 1) := by decide +kernel
theorem dX1_takeArray_148 : decode cX1_takeArray 148 = .ok (.aload_n 2, 1) := by decide +kernel
theorem dX1_takeArray_149 : decode cX1_takeArray 149 = .ok (.invokevirtual 77, 3) := by decide +kernel
theorem dX1_takeArray_152 : decode cX1_takeArray 152 = .ok (.goto 8, 3) := by decide +kernel
theorem dX1_takeArray_155 : decode cX1_takeArray 155 = .ok (.aload_n 0, 1) := by decide +kernel
theorem dX1_takeArray_156 : decode cX1_takeArray 156 = .ok (.aload_n 2, 1) := by decide +kernel
theorem dX1_takeArray_157 : decode cX1_takeArray 157 = .ok (.invokevirtual 80, 3) := by decide +kernel
theorem dX1_takeArray_160 : decode cX1_takeArray 160 = .ok (.ireturn, 1) := by decide +kernel
theorem dX1_takeObjects_0 : decode cX1_takeObjects 0 = .ok (.iconst 0, 1) := by decide +kernel
theorem dX1_takeObjects_1 : decode cX1_takeObjects 1 = .ok (.istore_n 2, 1) := by decide +kernel
theorem dX1_takeObjects_2 : decode cX1_takeObjects 2 = .ok (.iload_n 2, 1) := by decide +kernel
theorem dX1_takeObjects_3 : decode cX1_takeObjects 3 = .ok (.aload_n 1, 1) := by decide +kernel
theorem dX1_takeObjects_4 : decode cX1_takeObjects 4 = .ok (.getfield 83, 3) := by decide +kernel
theorem dX1_takeObjects_7 : decode cX1_takeObjects 7 = .ok (.if_icmp .ge 114, 3) := by decide +kernel
theorem dX1_takeObjects_10 : decode cX1_takeObjects 10 = .ok (.aload_n 0, 1) := by decide +kernel
theorem dX1_takeObjects_11 : decode cX1_takeObjects 11 = .ok (.getfield 31, 3) := by decide +kernel
theorem dX1_takeObjects_14 : decode cX1_takeObjects 14 = .ok (.aload_n 0, 1) := by decide +kernel
theorem dX1_takeObjects_15 : decode cX1_takeObjects 15 = .ok (.getfield 21, 3) := by decide +kernel
theorem dX1_takeObjects_18 : decode cX1_takeObjects 18 = .ok (.invokevirtual 36, 3) := by decide +kernel
theorem dX1_takeObjects_21 : decode cX1_takeObjects 21 = .ok (.istore_n 3, 1) := by decide +kernel
theorem dX1_takeObjects_22 : decode cX1_takeObjects 22 = .ok (.aload_n 1, 1) := by decide +kernel
theorem dX1_takeObjects_23 : decode cX1_takeObjects 23 = .ok (.getfield 86, 3) := by decide +kernel
theorem dX1_takeObjects_26 : decode cX1_takeObjects 26 = .ok (.iload_n 3, 1) := by decide +kernel
theorem dX1_takeObjects_27 : decode cX1_takeObjects 27 = .ok (.invokestatic 89, 3) := by decide +kernel
theorem dX1_takeObjects_30 : decode cX1_takeObjects 30 = .ok (.ifCond .ne 12, 3) := by decide +kernel
theorem dX1_takeObjects_33 : decode cX1_takeObjects 33 = .ok (.aload_n 0, 1) := by decide +kernel
theorem dX1_takeObjects_34 : decode cX1_takeObjects 34 = .ok (.aload_n 0, 1) := by decide +kernel
theorem dX1_takeObjects_35 : decode cX1_takeObjects 35 = .ok (.getfield 21, 3) := by decide +kernel
theorem dX1_takeObjects_38 : decode cX1_takeObjects 38 = .ok (.invokevirtual 49, 3) := by decide +kernel
theorem dX1_takeObjects_41 : decode cX1_takeObjects 41 = .ok (.ireturn, 1) := by decide +kernel
theorem dX1_takeObjects_42 : decode cX1_takeObjects 42 = .ok (.iload_n 3, 1) := by decide +kernel
theorem dX1_takeObjects_43 : decode cX1_takeObjects 43 = .ok (.invokestatic 42, 3) := by decide +kernel
theorem dX1_takeObjects_46 : decode cX1_takeObjects 46 = .ok (.istore 4, 2) := by decide +kernel
theorem dX1_takeObjects_48 : decode cX1_takeObjects 48 = .ok (.aload_n 0, 1) := by decide +kernel
theorem dX1_takeObjects_49 : decode cX1_takeObjects 49 = .ok (.getfield 17, 3) := by decide +kernel
theorem dX1_takeObjects_52 : decode cX1_takeObjects 52 = .ok (.istore 5, 2) := by decide +kernel
theorem dX1_takeObjects_54 : decode cX1_takeObjects 54 = .ok (.iload 4, 2) := by decide +kernel
theorem dX1_takeObjects_56 : decode cX1_takeObjects 56 = .ok (.ifCond .eq 14, 3) := by decide +kernel
theorem dX1_takeObjects_59 : decode cX1_takeObjects 59 = .ok (.aload_n 0, 1) := by decide +kernel
theorem dX1_takeObjects_60 : decode cX1_takeObjects 60 = .ok (.iload_n 3, 1) := by decide +kernel
theorem dX1_takeObjects_61 : decode cX1_takeObjects 61 = .ok (.invokevirtual 46, 3) := by decide +kernel
theorem dX1_takeObjects_64 : decode cX1_takeObjects 64 = .ok (.ifCond .eq 18, 3) := by decide +kernel
theorem dX1_takeObjects_67 : decode cX1_takeObjects 67 = .ok (.goto 17, 3) := by decide +kernel
theorem dX1_takeObjects_70 : decode cX1_takeObjects 70 = .ok (.aload_n 0, 1) := by decide +kernel
theorem dX1_takeObjects_71 : decode cX1_takeObjects 71 = .ok (.aload_n 1, 1) := by decide +kernel
theorem dX1_takeObjects_72 : decode cX1_takeObjects 72 = .ok (.getfield 86, 3) := by decide +kernel
theorem dX1_takeObjects_75 : decode cX1_takeObjects 75 = .ok (.iload_n 3, 1) := by decide +kernel
theorem dX1_takeObjects_76 : decode cX1_takeObjects 76 = .ok (.invokevirtual 93, 3) := by decide +kernel
theorem dX1_takeObjects_79 : decode cX1_takeObjects 79 = .ok (.ifCond .ne 5, 3) := by decide +kernel
theorem dX1_takeObjects_82 : decode cX1_takeObjects 82 = .ok (.iconst 0, 1) := by decide +kernel
theorem dX1_takeObjects_83 : decode cX1_takeObjects 83 = .ok (.ireturn, 1) := by decide +kernel
theorem dX1_takeObjects_84 : decode cX1_takeObjects 84 = .ok (.aload_n 1, 1) := by decide +kernel
theorem dX1_takeObjects_85 : decode cX1_takeObjects 85 = .ok (.iload_n 2, 1) := by decide +kernel
theorem dX1_takeObjects_86 : decode cX1_takeObjects 86 = .ok (.iload 4, 2) := by decide +kernel
theorem dX1_takeObjects_88 : decode cX1_takeObjects 88 = .ok (.ifCond .eq 8, 3) := by decide +kernel
theorem dX1_takeObjects_91 : decode cX1_takeObjects 91 = .ok (.bipush 10, 2) := by decide +kernel
theorem dX1_takeObjects_93 : decode cX1_takeObjects 93 = .ok (.goto 4, 3) := by decide +kernel
theorem dX1_takeObjects_96 : decode cX1_takeObjects 96 = .ok (.iload_n 3, 1) := by decide +kernel
theorem dX1_takeObjects_97 : decode cX1_takeObjects 97 = .ok (.iload 4, 2) := by decide +kernel
theorem dX1_takeObjects_99 : decode cX1_takeObjects 99 = .ok (.ifCond .eq 9, 3) := by decide +kernel
theorem dX1_takeObjects_102 : decode cX1_takeObjects 102 = .ok (.iload 5, 2) := by decide +kernel
theorem dX1_takeObjects_104 : decode cX1_takeObjects 104 = .ok (.i2l, 1) := by decide +kernel
theorem dX1_takeObjects_105 : decode cX1_takeObjects 105 = .ok (.goto 7, 3) := by decide +kernel
theorem dX1_takeObjects_108 : decode cX1_takeObjects 108 = .ok (.aload_n 0, 1) := by decide +kernel
theorem dX1_takeObjects_109 : decode cX1_takeObjects 109 = .ok (.getfield 27, 3) := by decide +kernel
theorem dX1_takeObjects_112 : decode cX1_takeObjects 112 = .ok (.invokevirtual 96, 3) := by decide +kernel
theorem dX1_takeObjects_115 : decode cX1_takeObjects 115 = .ok (.iinc 2 1, 3) := by decide +kernel
theorem dX1_takeObjects_118 : decode cX1_takeObjects 118 = .ok (.goto (-116), 3) := by decide +kernel
theorem dX1_takeObjects_121 : decode cX1_takeObjects 121 = .ok (.iconst 1, 1) := by decide +kernel
theorem dX1_takeObjects_122 : decode cX1_takeObjects 122 = .ok (.ireturn, 1) := by decide +kernel
theorem dX1_mayStand_0 : decode cX1_mayStand 0 = .ok (.iload_n 1, 1) := by decide +kernel
theorem dX1_mayStand_1 : decode cX1_mayStand 1 = .ok (.bipush 11, 2) := by decide +kernel
theorem dX1_mayStand_3 : decode cX1_mayStand 3 = .ok (.if_icmp .ne 5, 3) := by decide +kernel
theorem dX1_mayStand_6 : decode cX1_mayStand 6 = .ok (.iconst 1, 1) := by decide +kernel
theorem dX1_mayStand_7 : decode cX1_mayStand 7 = .ok (.ireturn, 1) := by decide +kernel
theorem dX1_mayStand_8 : decode cX1_mayStand 8 = .ok (.iload_n 0, 1) := by decide +kernel
theorem dX1_mayStand_9 : decode cX1_mayStand 9 = .ok (.tableswitch 113 8 13 #[39, 50, 62, 74, 113, 86], 39) := by decide +kernel
theorem dX1_mayStand_48 : decode cX1_mayStand 48 = .ok (.iload_n 1, 1) := by decide +kernel
theorem dX1_mayStand_49 : decode cX1_mayStand 49 = .ok (.iconst 4, 1) := by decide +kernel
theorem dX1_mayStand_50 : decode cX1_mayStand 50 = .ok (.if_icmp .ne 7, 3) := by decide +kernel
theorem dX1_mayStand_53 : decode cX1_mayStand 53 = .ok (.iconst 1, 1) := by decide +kernel
theorem dX1_mayStand_54 : decode cX1_mayStand 54 = .ok (.goto 4, 3) := by decide +kernel
theorem dX1_mayStand_57 : decode cX1_mayStand 57 = .ok (.iconst 0, 1) := by decide +kernel
theorem dX1_mayStand_58 : decode cX1_mayStand 58 = .ok (.ireturn, 1) := by decide +kernel
theorem dX1_mayStand_59 : decode cX1_mayStand 59 = .ok (.iload_n 1, 1) := by decide +kernel
theorem dX1_mayStand_60 : decode cX1_mayStand 60 = .ok (.bipush 8, 2) := by decide +kernel
theorem dX1_mayStand_62 : decode cX1_mayStand 62 = .ok (.if_icmp .ne 7, 3) := by decide +kernel
theorem dX1_mayStand_65 : decode cX1_mayStand 65 = .ok (.iconst 1, 1) := by decide +kernel
theorem dX1_mayStand_66 : decode cX1_mayStand 66 = .ok (.goto 4, 3) := by decide +kernel
theorem dX1_mayStand_69 : decode cX1_mayStand 69 = .ok (.iconst 0, 1) := by decide +kernel
theorem dX1_mayStand_70 : decode cX1_mayStand 70 = .ok (.ireturn, 1) := by decide +kernel
theorem dX1_mayStand_71 : decode cX1_mayStand 71 = .ok (.iload_n 1, 1) := by decide +kernel
theorem dX1_mayStand_72 : decode cX1_mayStand 72 = .ok (.bipush 9, 2) := by decide +kernel
theorem dX1_mayStand_74 : decode cX1_mayStand 74 = .ok (.if_icmp .ne 7, 3) := by decide +kernel
theorem dX1_mayStand_77 : decode cX1_mayStand 77 = .ok (.iconst 1, 1) := by decide +kernel
theorem dX1_mayStand_78 : decode cX1_mayStand 78 = .ok (.goto 4, 3) := by decide +kernel
theorem dX1_mayStand_81 : decode cX1_mayStand 81 = .ok (.iconst 0, 1) := by decide +kernel
theorem dX1_mayStand_82 : decode cX1_mayStand 82 = .ok (.ireturn, 1) := by decide +kernel
theorem dX1_mayStand_83 : decode cX1_mayStand 83 = .ok (.iload_n 1, 1) := by decide +kernel
theorem dX1_mayStand_84 : decode cX1_mayStand 84 = .ok (.bipush 9, 2) := by decide +kernel
theorem dX1_mayStand_86 : decode cX1_mayStand 86 = .ok (.if_icmp .ne 7, 3) := by decide +kernel
theorem dX1_mayStand_89 : decode cX1_mayStand 89 = .ok (.iconst 1, 1) := by decide +kernel
theorem dX1_mayStand_90 : decode cX1_mayStand 90 = .ok (.goto 4, 3) := by decide +kernel
theorem dX1_mayStand_93 : decode cX1_mayStand 93 = .ok (.iconst 0, 1) := by decide +kernel
theorem dX1_mayStand_94 : decode cX1_mayStand 94 = .ok (.ireturn, 1) := by decide +kernel
theorem dX1_mayStand_95 : decode cX1_mayStand 95 = .ok (.iload_n 1, 1) := by decide +kernel
theorem dX1_mayStand_96 : decode cX1_mayStand 96 = .ok (.bipush 10, 2) := by decide +kernel
theorem dX1_mayStand_98 : decode cX1_mayStand 98 = .ok (.if_icmp .eq 18, 3) := by decide +kernel
theorem dX1_mayStand_101 : decode cX1_mayStand 101 = .ok (.iload_n 1, 1) := by decide +kernel
theorem dX1_mayStand_102 : decode cX1_mayStand 102 = .ok (.invokestatic 42, 3) := by decide +kernel
theorem dX1_mayStand_105 : decode cX1_mayStand 105 = .ok (.ifCond .eq 15, 3) := by decide +kernel
theorem dX1_mayStand_108 : decode cX1_mayStand 108 = .ok (.iload_n 1, 1) := by decide +kernel
theorem dX1_mayStand_109 : decode cX1_mayStand 109 = .ok (.bipush 15, 2) := by decide +kernel
theorem dX1_mayStand_111 : decode cX1_mayStand 111 = .ok (.iand, 1) := by decide +kernel
theorem dX1_mayStand_112 : decode cX1_mayStand 112 = .ok (.iconst 4, 1) := by decide +kernel
theorem dX1_mayStand_113 : decode cX1_mayStand 113 = .ok (.if_icmp .ne 7, 3) := by decide +kernel
theorem dX1_mayStand_116 : decode cX1_mayStand 116 = .ok (.iconst 1, 1) := by decide +kernel
theorem dX1_mayStand_117 : decode cX1_mayStand 117 = .ok (.goto 4, 3) := by decide +kernel
theorem dX1_mayStand_120 : decode cX1_mayStand 120 = .ok (.iconst 0, 1) := by decide +kernel
theorem dX1_mayStand_121 : decode cX1_mayStand 121 = .ok (.ireturn, 1) := by decide +kernel
theorem dX1_mayStand_122 : decode cX1_mayStand 122 = .ok (.iload_n 1, 1) := by decide +kernel
theorem dX1_mayStand_123 : decode cX1_mayStand 123 = .ok (.ifCond .lt 9, 3) := by decide +kernel
theorem dX1_mayStand_126 : decode cX1_mayStand 126 = .ok (.iload_n 1, 1) := by decide +kernel
theorem dX1_mayStand_127 : decode cX1_mayStand 127 = .ok (.bipush 11, 2) := by decide +kernel
theorem dX1_mayStand_129 : decode cX1_mayStand 129 = .ok (.if_icmp .lt 10, 3) := by decide +kernel
theorem dX1_mayStand_132 : decode cX1_mayStand 132 = .ok (.iload_n 1, 1) := by decide +kernel
theorem dX1_mayStand_133 : decode cX1_mayStand 133 = .ok (.invokestatic 42, 3) := by decide +kernel
theorem dX1_mayStand_136 : decode cX1_mayStand 136 = .ok (.ifCond .eq 7, 3) := by decide +kernel
theorem dX1_mayStand_139 : decode cX1_mayStand 139 = .ok (.iconst 1, 1) := by decide +kernel
theorem dX1_mayStand_140 : decode cX1_mayStand 140 = .ok (.goto 4, 3) := by decide +kernel
theorem dX1_mayStand_143 : decode cX1_mayStand 143 = .ok (.iconst 0, 1) := by decide +kernel
theorem dX1_mayStand_144 : decode cX1_mayStand 144 = .ok (.ireturn, 1) := by decide +kernel
theorem dX1_takeElement_0 : decode cX1_takeElement 0 = .ok (.aload_n 0, 1) := by decide +kernel
theorem dX1_takeElement_1 : decode cX1_takeElement 1 = .ok (.dup, 1) := by decide +kernel
theorem dX1_takeElement_2 : decode cX1_takeElement 2 = .ok (.getfield 21, 3) := by decide +kernel
theorem dX1_takeElement_5 : decode cX1_takeElement 5 = .ok (.iconst 1, 1) := by decide +kernel
theorem dX1_takeElement_6 : decode cX1_takeElement 6 = .ok (.iadd, 1) := by decide +kernel
theorem dX1_takeElement_7 : decode cX1_takeElement 7 = .ok (.putfield 21, 3) := by decide +kernel
theorem dX1_takeElement_10 : decode cX1_takeElement 10 = .ok (.iload_n 2, 1) := by decide +kernel
theorem dX1_takeElement_11 : decode cX1_takeElement 11 = .ok (.tableswitch 63 8 11 #[29, 34, 50, 56], 29) := by decide +kernel
theorem dX1_takeElement_40 : decode cX1_takeElement 40 = .ok (.aload_n 0, 1) := by decide +kernel
theorem dX1_takeElement_41 : decode cX1_takeElement 41 = .ok (.invokevirtual 52, 3) := by decide +kernel
theorem dX1_takeElement_44 : decode cX1_takeElement 44 = .ok (.ireturn, 1) := by decide +kernel
theorem dX1_takeElement_45 : decode cX1_takeElement 45 = .ok (.aload_n 0, 1) := by decide +kernel
theorem dX1_takeElement_46 : decode cX1_takeElement 46 = .ok (.iload_n 1, 1) := by decide +kernel
theorem dX1_takeElement_47 : decode cX1_takeElement 47 = .ok (.bipush 11, 2) := by decide +kernel
theorem dX1_takeElement_49 : decode cX1_takeElement 49 = .ok (.if_icmp .ne 7, 3) := by decide +kernel
theorem dX1_takeElement_52 : decode cX1_takeElement 52 = .ok (.iconst 3, 1) := by decide +kernel
theorem dX1_takeElement_53 : decode cX1_takeElement 53 = .ok (.goto 4, 3) := by decide +kernel
theorem dX1_takeElement_56 : decode cX1_takeElement 56 = .ok (.iconst 0, 1) := by decide +kernel
theorem dX1_takeElement_57 : decode cX1_takeElement 57 = .ok (.invokevirtual 56, 3) := by decide +kernel
theorem dX1_takeElement_60 : decode cX1_takeElement 60 = .ok (.ireturn, 1) := by decide +kernel
theorem dX1_takeElement_61 : decode cX1_takeElement 61 = .ok (.aload_n 0, 1) := by decide +kernel
theorem dX1_takeElement_62 : decode cX1_takeElement 62 = .ok (.iload_n 1, 1) := by decide +kernel
theorem dX1_takeElement_63 : decode cX1_takeElement 63 = .ok (.invokevirtual 100, 3) := by decide +kernel
theorem dX1_takeElement_66 : decode cX1_takeElement 66 = .ok (.ireturn, 1) := by decide +kernel
theorem dX1_takeElement_67 : decode cX1_takeElement 67 = .ok (.aload_n 0, 1) := by decide +kernel
theorem dX1_takeElement_68 : decode cX1_takeElement 68 = .ok (.lconst 0, 1) := by decide +kernel
theorem dX1_takeElement_69 : decode cX1_takeElement 69 = .ok (.putfield 27, 3) := by decide +kernel
theorem dX1_takeElement_72 : decode cX1_takeElement 72 = .ok (.iconst 1, 1) := by decide +kernel
theorem dX1_takeElement_73 : decode cX1_takeElement 73 = .ok (.ireturn, 1) := by decide +kernel
theorem dX1_takeElement_74 : decode cX1_takeElement 74 = .ok (.aload_n 0, 1) := by decide +kernel
theorem dX1_takeElement_75 : decode cX1_takeElement 75 = .ok (.iload_n 2, 1) := by decide +kernel
theorem dX1_takeElement_76 : decode cX1_takeElement 76 = .ok (.invokevirtual 103, 3) := by decide +kernel
theorem dX1_takeElement_79 : decode cX1_takeElement 79 = .ok (.ireturn, 1) := by decide +kernel
theorem dX1_takeWord_0 : decode cX1_takeWord 0 = .ok (.aload_n 0, 1) := by decide +kernel
theorem dX1_takeWord_1 : decode cX1_takeWord 1 = .ok (.getfield 31, 3) := by decide +kernel
theorem dX1_takeWord_4 : decode cX1_takeWord 4 = .ok (.aload_n 0, 1) := by decide +kernel
theorem dX1_takeWord_5 : decode cX1_takeWord 5 = .ok (.getfield 21, 3) := by decide +kernel
theorem dX1_takeWord_8 : decode cX1_takeWord 8 = .ok (.invokevirtual 36, 3) := by decide +kernel
theorem dX1_takeWord_11 : decode cX1_takeWord 11 = .ok (.istore_n 1, 1) := by decide +kernel
theorem dX1_takeWord_12 : decode cX1_takeWord 12 = .ok (.iload_n 1, 1) := by decide +kernel
theorem dX1_takeWord_13 : decode cX1_takeWord 13 = .ok (.iconst 1, 1) := by decide +kernel
theorem dX1_takeWord_14 : decode cX1_takeWord 14 = .ok (.if_icmp .lt 9, 3) := by decide +kernel
theorem dX1_takeWord_17 : decode cX1_takeWord 17 = .ok (.iload_n 1, 1) := by decide +kernel
theorem dX1_takeWord_18 : decode cX1_takeWord 18 = .ok (.bipush 7, 2) := by decide +kernel
theorem dX1_takeWord_20 : decode cX1_takeWord 20 = .ok (.if_icmp .le 12, 3) := by decide +kernel
theorem dX1_takeWord_23 : decode cX1_takeWord 23 = .ok (.aload_n 0, 1) := by decide +kernel
theorem dX1_takeWord_24 : decode cX1_takeWord 24 = .ok (.aload_n 0, 1) := by decide +kernel
theorem dX1_takeWord_25 : decode cX1_takeWord 25 = .ok (.getfield 21, 3) := by decide +kernel
theorem dX1_takeWord_28 : decode cX1_takeWord 28 = .ok (.invokevirtual 49, 3) := by decide +kernel
theorem dX1_takeWord_31 : decode cX1_takeWord 31 = .ok (.ireturn, 1) := by decide +kernel
theorem dX1_takeWord_32 : decode cX1_takeWord 32 = .ok (.aload_n 0, 1) := by decide +kernel
theorem dX1_takeWord_33 : decode cX1_takeWord 33 = .ok (.dup, 1) := by decide +kernel
theorem dX1_takeWord_34 : decode cX1_takeWord 34 = .ok (.getfield 21, 3) := by decide +kernel
theorem dX1_takeWord_37 : decode cX1_takeWord 37 = .ok (.iconst 1, 1) := by decide +kernel
theorem dX1_takeWord_38 : decode cX1_takeWord 38 = .ok (.iadd, 1) := by decide +kernel
theorem dX1_takeWord_39 : decode cX1_takeWord 39 = .ok (.putfield 21, 3) := by decide +kernel
theorem dX1_takeWord_42 : decode cX1_takeWord 42 = .ok (.aload_n 0, 1) := by decide +kernel
theorem dX1_takeWord_43 : decode cX1_takeWord 43 = .ok (.lconst 0, 1) := by decide +kernel
theorem dX1_takeWord_44 : decode cX1_takeWord 44 = .ok (.putfield 27, 3) := by decide +kernel
theorem dX1_takeWord_47 : decode cX1_takeWord 47 = .ok (.iconst 0, 1) := by decide +kernel
theorem dX1_takeWord_48 : decode cX1_takeWord 48 = .ok (.istore_n 2, 1) := by decide +kernel
theorem dX1_takeWord_49 : decode cX1_takeWord 49 = .ok (.iload_n 2, 1) := by decide +kernel
theorem dX1_takeWord_50 : decode cX1_takeWord 50 = .ok (.iload_n 1, 1) := by decide +kernel
theorem dX1_takeWord_51 : decode cX1_takeWord 51 = .ok (.if_icmp .ge 73, 3) := by decide +kernel
theorem dX1_takeWord_54 : decode cX1_takeWord 54 = .ok (.aload_n 0, 1) := by decide +kernel
theorem dX1_takeWord_55 : decode cX1_takeWord 55 = .ok (.getfield 31, 3) := by decide +kernel
theorem dX1_takeWord_58 : decode cX1_takeWord 58 = .ok (.aload_n 0, 1) := by decide +kernel
theorem dX1_takeWord_59 : decode cX1_takeWord 59 = .ok (.getfield 21, 3) := by decide +kernel
theorem dX1_takeWord_62 : decode cX1_takeWord 62 = .ok (.invokevirtual 36, 3) := by decide +kernel
theorem dX1_takeWord_65 : decode cX1_takeWord 65 = .ok (.istore_n 3, 1) := by decide +kernel
theorem dX1_takeWord_66 : decode cX1_takeWord 66 = .ok (.iload_n 3, 1) := by decide +kernel
theorem dX1_takeWord_67 : decode cX1_takeWord 67 = .ok (.bipush 97, 2) := by decide +kernel
theorem dX1_takeWord_69 : decode cX1_takeWord 69 = .ok (.if_icmp .lt 9, 3) := by decide +kernel
theorem dX1_takeWord_72 : decode cX1_takeWord 72 = .ok (.iload_n 3, 1) := by decide +kernel
theorem dX1_takeWord_73 : decode cX1_takeWord 73 = .ok (.bipush 122, 2) := by decide +kernel
theorem dX1_takeWord_75 : decode cX1_takeWord 75 = .ok (.if_icmp .le 12, 3) := by decide +kernel
theorem dX1_takeWord_78 : decode cX1_takeWord 78 = .ok (.aload_n 0, 1) := by decide +kernel
theorem dX1_takeWord_79 : decode cX1_takeWord 79 = .ok (.aload_n 0, 1) := by decide +kernel
theorem dX1_takeWord_80 : decode cX1_takeWord 80 = .ok (.getfield 21, 3) := by decide +kernel
theorem dX1_takeWord_83 : decode cX1_takeWord 83 = .ok (.invokevirtual 49, 3) := by decide +kernel
theorem dX1_takeWord_86 : decode cX1_takeWord 86 = .ok (.ireturn, 1) := by decide +kernel
theorem dX1_takeWord_87 : decode cX1_takeWord 87 = .ok (.aload_n 0, 1) := by decide +kernel
theorem dX1_takeWord_88 : decode cX1_takeWord 88 = .ok (.ldc2_w 106, 3) := by decide +kernel
theorem dX1_takeWord_91 : decode cX1_takeWord 91 = .ok (.aload_n 0, 1) := by decide +kernel
theorem dX1_takeWord_92 : decode cX1_takeWord 92 = .ok (.getfield 27, 3) := by decide +kernel
theorem dX1_takeWord_95 : decode cX1_takeWord 95 = .ok (.lmul, 1) := by decide +kernel
theorem dX1_takeWord_96 : decode cX1_takeWord 96 = .ok (.iload_n 3, 1) := by decide +kernel
theorem dX1_takeWord_97 : decode cX1_takeWord 97 = .ok (.i2l, 1) := by decide +kernel
theorem dX1_takeWord_98 : decode cX1_takeWord 98 = .ok (.ladd, 1) := by decide +kernel
theorem dX1_takeWord_99 : decode cX1_takeWord 99 = .ok (.ldc2_w 108, 3) := by decide +kernel
theorem dX1_takeWord_102 : decode cX1_takeWord 102 = .ok (.lsub, 1) := by decide +kernel
theorem dX1_takeWord_103 : decode cX1_takeWord 103 = .ok (.lconst 1, 1) := by decide +kernel
theorem dX1_takeWord_104 : decode cX1_takeWord 104 = .ok (.ladd, 1) := by decide +kernel
theorem dX1_takeWord_105 : decode cX1_takeWord 105 = .ok (.putfield 27, 3) := by decide +kernel
theorem dX1_takeWord_108 : decode cX1_takeWord 108 = .ok (.aload_n 0, 1) := by decide +kernel
theorem dX1_takeWord_109 : decode cX1_takeWord 109 = .ok (.dup, 1) := by decide +kernel
theorem dX1_takeWord_110 : decode cX1_takeWord 110 = .ok (.getfield 21, 3) := by decide +kernel
theorem dX1_takeWord_113 : decode cX1_takeWord 113 = .ok (.iconst 1, 1) := by decide +kernel
theorem dX1_takeWord_114 : decode cX1_takeWord 114 = .ok (.iadd, 1) := by decide +kernel
theorem dX1_takeWord_115 : decode cX1_takeWord 115 = .ok (.putfield 21, 3) := by decide +kernel
theorem dX1_takeWord_118 : decode cX1_takeWord 118 = .ok (.iinc 2 1, 3) := by decide +kernel
theorem dX1_takeWord_121 : decode cX1_takeWord 121 = .ok (.goto (-72), 3) := by decide +kernel
theorem dX1_takeWord_124 : decode cX1_takeWord 124 = .ok (.iconst 1, 1) := by decide +kernel
theorem dX1_takeWord_125 : decode cX1_takeWord 125 = .ok (.ireturn, 1) := by decide +kernel
theorem dX1_takeBead_0 : decode cX1_takeBead 0 = .ok (.aload_n 0, 1) := by decide +kernel
theorem dX1_takeBead_1 : decode cX1_takeBead 1 = .ok (.aload_n 0, 1) := by decide +kernel
theorem dX1_takeBead_2 : decode cX1_takeBead 2 = .ok (.getfield 31, 3) := by decide +kernel
theorem dX1_takeBead_5 : decode cX1_takeBead 5 = .ok (.aload_n 0, 1) := by decide +kernel
theorem dX1_takeBead_6 : decode cX1_takeBead 6 = .ok (.getfield 21, 3) := by decide +kernel
theorem dX1_takeBead_9 : decode cX1_takeBead 9 = .ok (.invokevirtual 36, 3) := by decide +kernel
theorem dX1_takeBead_12 : decode cX1_takeBead 12 = .ok (.i2l, 1) := by decide +kernel
theorem dX1_takeBead_13 : decode cX1_takeBead 13 = .ok (.putfield 27, 3) := by decide +kernel
theorem dX1_takeBead_16 : decode cX1_takeBead 16 = .ok (.aload_n 0, 1) := by decide +kernel
theorem dX1_takeBead_17 : decode cX1_takeBead 17 = .ok (.getfield 27, 3) := by decide +kernel
theorem dX1_takeBead_20 : decode cX1_takeBead 20 = .ok (.iload_n 1, 1) := by decide +kernel
theorem dX1_takeBead_21 : decode cX1_takeBead 21 = .ok (.i2l, 1) := by decide +kernel
theorem dX1_takeBead_22 : decode cX1_takeBead 22 = .ok (.lcmp, 1) := by decide +kernel
theorem dX1_takeBead_23 : decode cX1_takeBead 23 = .ok (.ifCond .lt 14, 3) := by decide +kernel
theorem dX1_takeBead_26 : decode cX1_takeBead 26 = .ok (.aload_n 0, 1) := by decide +kernel
theorem dX1_takeBead_27 : decode cX1_takeBead 27 = .ok (.getfield 27, 3) := by decide +kernel
theorem dX1_takeBead_30 : decode cX1_takeBead 30 = .ok (.ldc2_w 110, 3) := by decide +kernel
theorem dX1_takeBead_33 : decode cX1_takeBead 33 = .ok (.lcmp, 1) := by decide +kernel
theorem dX1_takeBead_34 : decode cX1_takeBead 34 = .ok (.ifCond .lt 12, 3) := by decide +kernel
theorem dX1_takeBead_37 : decode cX1_takeBead 37 = .ok (.aload_n 0, 1) := by decide +kernel
theorem dX1_takeBead_38 : decode cX1_takeBead 38 = .ok (.aload_n 0, 1) := by decide +kernel
theorem dX1_takeBead_39 : decode cX1_takeBead 39 = .ok (.getfield 21, 3) := by decide +kernel
theorem dX1_takeBead_42 : decode cX1_takeBead 42 = .ok (.invokevirtual 49, 3) := by decide +kernel
theorem dX1_takeBead_45 : decode cX1_takeBead 45 = .ok (.ireturn, 1) := by decide +kernel
theorem dX1_takeBead_46 : decode cX1_takeBead 46 = .ok (.aload_n 0, 1) := by decide +kernel
theorem dX1_takeBead_47 : decode cX1_takeBead 47 = .ok (.dup, 1) := by decide +kernel
theorem dX1_takeBead_48 : decode cX1_takeBead 48 = .ok (.getfield 21, 3) := by decide +kernel
theorem dX1_takeBead_51 : decode cX1_takeBead 51 = .ok (.iconst 1, 1) := by decide +kernel
theorem dX1_takeBead_52 : decode cX1_takeBead 52 = .ok (.iadd, 1) := by decide +kernel
theorem dX1_takeBead_53 : decode cX1_takeBead 53 = .ok (.putfield 21, 3) := by decide +kernel
theorem dX1_takeBead_56 : decode cX1_takeBead 56 = .ok (.iconst 1, 1) := by decide +kernel
theorem dX1_takeBead_57 : decode cX1_takeBead 57 = .ok (.ireturn, 1) := by decide +kernel
theorem dX1_takeBackLink_0 : decode cX1_takeBackLink 0 = .ok (.aload_n 0, 1) := by decide +kernel
theorem dX1_takeBackLink_1 : decode cX1_takeBackLink 1 = .ok (.getfield 31, 3) := by decide +kernel
theorem dX1_takeBackLink_4 : decode cX1_takeBackLink 4 = .ok (.aload_n 0, 1) := by decide +kernel
theorem dX1_takeBackLink_5 : decode cX1_takeBackLink 5 = .ok (.getfield 21, 3) := by decide +kernel
theorem dX1_takeBackLink_8 : decode cX1_takeBackLink 8 = .ok (.invokevirtual 36, 3) := by decide +kernel
theorem dX1_takeBackLink_11 : decode cX1_takeBackLink 11 = .ok (.istore_n 2, 1) := by decide +kernel
theorem dX1_takeBackLink_12 : decode cX1_takeBackLink 12 = .ok (.iload_n 2, 1) := by decide +kernel
theorem dX1_takeBackLink_13 : decode cX1_takeBackLink 13 = .ok (.ifCond .lt 11, 3) := by decide +kernel
theorem dX1_takeBackLink_16 : decode cX1_takeBackLink 16 = .ok (.iload_n 2, 1) := by decide +kernel
theorem dX1_takeBackLink_17 : decode cX1_takeBackLink 17 = .ok (.aload_n 0, 1) := by decide +kernel
theorem dX1_takeBackLink_18 : decode cX1_takeBackLink 18 = .ok (.getfield 17, 3) := by decide +kernel
theorem dX1_takeBackLink_21 : decode cX1_takeBackLink 21 = .ok (.if_icmp .lt 12, 3) := by decide +kernel
theorem dX1_takeBackLink_24 : decode cX1_takeBackLink 24 = .ok (.aload_n 0, 1) := by decide +kernel
theorem dX1_takeBackLink_25 : decode cX1_takeBackLink 25 = .ok (.aload_n 0, 1) := by decide +kernel
theorem dX1_takeBackLink_26 : decode cX1_takeBackLink 26 = .ok (.getfield 21, 3) := by decide +kernel
theorem dX1_takeBackLink_29 : decode cX1_takeBackLink 29 = .ok (.invokevirtual 49, 3) := by decide +kernel
theorem dX1_takeBackLink_32 : decode cX1_takeBackLink 32 = .ok (.ireturn, 1) := by decide +kernel
theorem dX1_takeBackLink_33 : decode cX1_takeBackLink 33 = .ok (.iload_n 1, 1) := by decide +kernel
theorem dX1_takeBackLink_34 : decode cX1_takeBackLink 34 = .ok (.bipush 13, 2) := by decide +kernel
theorem dX1_takeBackLink_36 : decode cX1_takeBackLink 36 = .ok (.if_icmp .ne 25, 3) := by decide +kernel
theorem dX1_takeBackLink_39 : decode cX1_takeBackLink 39 = .ok (.aload_n 0, 1) := by decide +kernel
theorem dX1_takeBackLink_40 : decode cX1_takeBackLink 40 = .ok (.getfield 11, 3) := by decide +kernel
theorem dX1_takeBackLink_43 : decode cX1_takeBackLink 43 = .ok (.iload_n 2, 1) := by decide +kernel
theorem dX1_takeBackLink_44 : decode cX1_takeBackLink 44 = .ok (.aaload, 1) := by decide +kernel
theorem dX1_takeBackLink_45 : decode cX1_takeBackLink 45 = .ok (.getfield 86, 3) := by decide +kernel
theorem dX1_takeBackLink_48 : decode cX1_takeBackLink 48 = .ok (.iconst 4, 1) := by decide +kernel
theorem dX1_takeBackLink_49 : decode cX1_takeBackLink 49 = .ok (.if_icmp .eq 12, 3) := by decide +kernel
theorem dX1_takeBackLink_52 : decode cX1_takeBackLink 52 = .ok (.aload_n 0, 1) := by decide +kernel
theorem dX1_takeBackLink_53 : decode cX1_takeBackLink 53 = .ok (.aload_n 0, 1) := by decide +kernel
theorem dX1_takeBackLink_54 : decode cX1_takeBackLink 54 = .ok (.getfield 21, 3) := by decide +kernel
theorem dX1_takeBackLink_57 : decode cX1_takeBackLink 57 = .ok (.invokevirtual 49, 3) := by decide +kernel
theorem dX1_takeBackLink_60 : decode cX1_takeBackLink 60 = .ok (.ireturn, 1) := by decide +kernel
theorem dX1_takeBackLink_61 : decode cX1_takeBackLink 61 = .ok (.aload_n 0, 1) := by decide +kernel
theorem dX1_takeBackLink_62 : decode cX1_takeBackLink 62 = .ok (.iload_n 2, 1) := by decide +kernel
theorem dX1_takeBackLink_63 : decode cX1_takeBackLink 63 = .ok (.i2l, 1) := by decide +kernel
theorem dX1_takeBackLink_64 : decode cX1_takeBackLink 64 = .ok (.putfield 27, 3) := by decide +kernel
theorem dX1_takeBackLink_67 : decode cX1_takeBackLink 67 = .ok (.aload_n 0, 1) := by decide +kernel
theorem dX1_takeBackLink_68 : decode cX1_takeBackLink 68 = .ok (.dup, 1) := by decide +kernel
theorem dX1_takeBackLink_69 : decode cX1_takeBackLink 69 = .ok (.getfield 21, 3) := by decide +kernel
theorem dX1_takeBackLink_72 : decode cX1_takeBackLink 72 = .ok (.iconst 1, 1) := by decide +kernel
theorem dX1_takeBackLink_73 : decode cX1_takeBackLink 73 = .ok (.iadd, 1) := by decide +kernel
theorem dX1_takeBackLink_74 : decode cX1_takeBackLink 74 = .ok (.putfield 21, 3) := by decide +kernel
theorem dX1_takeBackLink_77 : decode cX1_takeBackLink 77 = .ok (.iconst 1, 1) := by decide +kernel
theorem dX1_takeBackLink_78 : decode cX1_takeBackLink 78 = .ok (.ireturn, 1) := by decide +kernel
theorem dX1_takeFlat_0 : decode cX1_takeFlat 0 = .ok (.iconst 0, 1) := by decide +kernel
theorem dX1_takeFlat_1 : decode cX1_takeFlat 1 = .ok (.istore_n 2, 1) := by decide +kernel
theorem dX1_takeFlat_2 : decode cX1_takeFlat 2 = .ok (.iload_n 2, 1) := by decide +kernel
theorem dX1_takeFlat_3 : decode cX1_takeFlat 3 = .ok (.aload_n 1, 1) := by decide +kernel
theorem dX1_takeFlat_4 : decode cX1_takeFlat 4 = .ok (.getfield 83, 3) := by decide +kernel
theorem dX1_takeFlat_7 : decode cX1_takeFlat 7 = .ok (.if_icmp .ge 35, 3) := by decide +kernel
theorem dX1_takeFlat_10 : decode cX1_takeFlat 10 = .ok (.aload_n 0, 1) := by decide +kernel
theorem dX1_takeFlat_11 : decode cX1_takeFlat 11 = .ok (.aload_n 1, 1) := by decide +kernel
theorem dX1_takeFlat_12 : decode cX1_takeFlat 12 = .ok (.getfield 86, 3) := by decide +kernel
theorem dX1_takeFlat_15 : decode cX1_takeFlat 15 = .ok (.invokevirtual 103, 3) := by decide +kernel
theorem dX1_takeFlat_18 : decode cX1_takeFlat 18 = .ok (.ifCond .ne 5, 3) := by decide +kernel
theorem dX1_takeFlat_21 : decode cX1_takeFlat 21 = .ok (.iconst 0, 1) := by decide +kernel
theorem dX1_takeFlat_22 : decode cX1_takeFlat 22 = .ok (.ireturn, 1) := by decide +kernel
theorem dX1_takeFlat_23 : decode cX1_takeFlat 23 = .ok (.aload_n 1, 1) := by decide +kernel
theorem dX1_takeFlat_24 : decode cX1_takeFlat 24 = .ok (.iload_n 2, 1) := by decide +kernel
theorem dX1_takeFlat_25 : decode cX1_takeFlat 25 = .ok (.aload_n 1, 1) := by decide +kernel
theorem dX1_takeFlat_26 : decode cX1_takeFlat 26 = .ok (.getfield 86, 3) := by decide +kernel
theorem dX1_takeFlat_29 : decode cX1_takeFlat 29 = .ok (.aload_n 0, 1) := by decide +kernel
theorem dX1_takeFlat_30 : decode cX1_takeFlat 30 = .ok (.getfield 27, 3) := by decide +kernel
theorem dX1_takeFlat_33 : decode cX1_takeFlat 33 = .ok (.invokevirtual 96, 3) := by decide +kernel
theorem dX1_takeFlat_36 : decode cX1_takeFlat 36 = .ok (.iinc 2 1, 3) := by decide +kernel
theorem dX1_takeFlat_39 : decode cX1_takeFlat 39 = .ok (.goto (-37), 3) := by decide +kernel
theorem dX1_takeFlat_42 : decode cX1_takeFlat 42 = .ok (.iconst 1, 1) := by decide +kernel
theorem dX1_takeFlat_43 : decode cX1_takeFlat 43 = .ok (.ireturn, 1) := by decide +kernel
theorem dX1_takeRuns_0 : decode cX1_takeRuns 0 = .ok (.iconst 0, 1) := by decide +kernel
theorem dX1_takeRuns_1 : decode cX1_takeRuns 1 = .ok (.istore_n 2, 1) := by decide +kernel
theorem dX1_takeRuns_2 : decode cX1_takeRuns 2 = .ok (.iconst 0, 1) := by decide +kernel
theorem dX1_takeRuns_3 : decode cX1_takeRuns 3 = .ok (.istore_n 3, 1) := by decide +kernel
theorem dX1_takeRuns_4 : decode cX1_takeRuns 4 = .ok (.iload_n 3, 1) := by decide +kernel
theorem dX1_takeRuns_5 : decode cX1_takeRuns 5 = .ok (.aload_n 1, 1) := by decide +kernel
theorem dX1_takeRuns_6 : decode cX1_takeRuns 6 = .ok (.getfield 83, 3) := by decide +kernel
theorem dX1_takeRuns_9 : decode cX1_takeRuns 9 = .ok (.if_icmp .ge 88, 3) := by decide +kernel
theorem dX1_takeRuns_12 : decode cX1_takeRuns 12 = .ok (.iload_n 2, 1) := by decide +kernel
theorem dX1_takeRuns_13 : decode cX1_takeRuns 13 = .ok (.ifCond .ne 62, 3) := by decide +kernel
theorem dX1_takeRuns_16 : decode cX1_takeRuns 16 = .ok (.aload_n 0, 1) := by decide +kernel
theorem dX1_takeRuns_17 : decode cX1_takeRuns 17 = .ok (.getfield 31, 3) := by decide +kernel
theorem dX1_takeRuns_20 : decode cX1_takeRuns 20 = .ok (.aload_n 0, 1) := by decide +kernel
theorem dX1_takeRuns_21 : decode cX1_takeRuns 21 = .ok (.getfield 21, 3) := by decide +kernel
theorem dX1_takeRuns_24 : decode cX1_takeRuns 24 = .ok (.invokevirtual 36, 3) := by decide +kernel
theorem dX1_takeRuns_27 : decode cX1_takeRuns 27 = .ok (.istore_n 2, 1) := by decide +kernel
theorem dX1_takeRuns_28 : decode cX1_takeRuns 28 = .ok (.iload_n 2, 1) := by decide +kernel
theorem dX1_takeRuns_29 : decode cX1_takeRuns 29 = .ok (.iconst 1, 1) := by decide +kernel
theorem dX1_takeRuns_30 : decode cX1_takeRuns 30 = .ok (.if_icmp .lt 13, 3) := by decide +kernel
theorem dX1_takeRuns_33 : decode cX1_takeRuns 33 = .ok (.iload_n 2, 1) := by decide +kernel
theorem dX1_takeRuns_34 : decode cX1_takeRuns 34 = .ok (.aload_n 1, 1) := by decide +kernel
theorem dX1_takeRuns_35 : decode cX1_takeRuns 35 = .ok (.getfield 83, 3) := by decide +kernel
theorem dX1_takeRuns_38 : decode cX1_takeRuns 38 = .ok (.iload_n 3, 1) := by decide +kernel
theorem dX1_takeRuns_39 : decode cX1_takeRuns 39 = .ok (.isub, 1) := by decide +kernel
theorem dX1_takeRuns_40 : decode cX1_takeRuns 40 = .ok (.if_icmp .le 12, 3) := by decide +kernel
theorem dX1_takeRuns_43 : decode cX1_takeRuns 43 = .ok (.aload_n 0, 1) := by decide +kernel
theorem dX1_takeRuns_44 : decode cX1_takeRuns 44 = .ok (.aload_n 0, 1) := by decide +kernel
theorem dX1_takeRuns_45 : decode cX1_takeRuns 45 = .ok (.getfield 21, 3) := by decide +kernel
theorem dX1_takeRuns_48 : decode cX1_takeRuns 48 = .ok (.invokevirtual 49, 3) := by decide +kernel
theorem dX1_takeRuns_51 : decode cX1_takeRuns 51 = .ok (.ireturn, 1) := by decide +kernel
theorem dX1_takeRuns_52 : decode cX1_takeRuns 52 = .ok (.aload_n 0, 1) := by decide +kernel
theorem dX1_takeRuns_53 : decode cX1_takeRuns 53 = .ok (.dup, 1) := by decide +kernel
theorem dX1_takeRuns_54 : decode cX1_takeRuns 54 = .ok (.getfield 21, 3) := by decide +kernel
theorem dX1_takeRuns_57 : decode cX1_takeRuns 57 = .ok (.iconst 1, 1) := by decide +kernel
theorem dX1_takeRuns_58 : decode cX1_takeRuns 58 = .ok (.iadd, 1) := by decide +kernel
theorem dX1_takeRuns_59 : decode cX1_takeRuns 59 = .ok (.putfield 21, 3) := by decide +kernel
theorem dX1_takeRuns_62 : decode cX1_takeRuns 62 = .ok (.aload_n 0, 1) := by decide +kernel
theorem dX1_takeRuns_63 : decode cX1_takeRuns 63 = .ok (.aload_n 1, 1) := by decide +kernel
theorem dX1_takeRuns_64 : decode cX1_takeRuns 64 = .ok (.getfield 86, 3) := by decide +kernel
theorem dX1_takeRuns_67 : decode cX1_takeRuns 67 = .ok (.invokevirtual 103, 3) := by decide +kernel
theorem dX1_takeRuns_70 : decode cX1_takeRuns 70 = .ok (.ifCond .ne 5, 3) := by decide +kernel
theorem dX1_takeRuns_73 : decode cX1_takeRuns 73 = .ok (.iconst 0, 1) := by decide +kernel
theorem dX1_takeRuns_74 : decode cX1_takeRuns 74 = .ok (.ireturn, 1) := by decide +kernel
theorem dX1_takeRuns_75 : decode cX1_takeRuns 75 = .ok (.aload_n 1, 1) := by decide +kernel
theorem dX1_takeRuns_76 : decode cX1_takeRuns 76 = .ok (.iload_n 3, 1) := by decide +kernel
theorem dX1_takeRuns_77 : decode cX1_takeRuns 77 = .ok (.aload_n 1, 1) := by decide +kernel
theorem dX1_takeRuns_78 : decode cX1_takeRuns 78 = .ok (.getfield 86, 3) := by decide +kernel
theorem dX1_takeRuns_81 : decode cX1_takeRuns 81 = .ok (.aload_n 0, 1) := by decide +kernel
theorem dX1_takeRuns_82 : decode cX1_takeRuns 82 = .ok (.getfield 27, 3) := by decide +kernel
theorem dX1_takeRuns_85 : decode cX1_takeRuns 85 = .ok (.invokevirtual 96, 3) := by decide +kernel
theorem dX1_takeRuns_88 : decode cX1_takeRuns 88 = .ok (.iinc 2 (-1), 3) := by decide +kernel
theorem dX1_takeRuns_91 : decode cX1_takeRuns 91 = .ok (.iinc 3 1, 3) := by decide +kernel
theorem dX1_takeRuns_94 : decode cX1_takeRuns 94 = .ok (.goto (-90), 3) := by decide +kernel
theorem dX1_takeRuns_97 : decode cX1_takeRuns 97 = .ok (.iconst 1, 1) := by decide +kernel
theorem dX1_takeRuns_98 : decode cX1_takeRuns 98 = .ok (.ireturn, 1) := by decide +kernel
theorem dX1_takeSteps_0 : decode cX1_takeSteps 0 = .ok (.lconst 0, 1) := by decide +kernel
theorem dX1_takeSteps_1 : decode cX1_takeSteps 1 = .ok (.lstore_n 2, 1) := by decide +kernel
theorem dX1_takeSteps_2 : decode cX1_takeSteps 2 = .ok (.iconst 0, 1) := by decide +kernel
theorem dX1_takeSteps_3 : decode cX1_takeSteps 3 = .ok (.istore 4, 2) := by decide +kernel
theorem dX1_takeSteps_5 : decode cX1_takeSteps 5 = .ok (.iload 4, 2) := by decide +kernel
theorem dX1_takeSteps_7 : decode cX1_takeSteps 7 = .ok (.aload_n 1, 1) := by decide +kernel
theorem dX1_takeSteps_8 : decode cX1_takeSteps 8 = .ok (.getfield 83, 3) := by decide +kernel
theorem dX1_takeSteps_11 : decode cX1_takeSteps 11 = .ok (.if_icmp .ge 60, 3) := by decide +kernel
theorem dX1_takeSteps_14 : decode cX1_takeSteps 14 = .ok (.aload_n 0, 1) := by decide +kernel
theorem dX1_takeSteps_15 : decode cX1_takeSteps 15 = .ok (.getfield 21, 3) := by decide +kernel
theorem dX1_takeSteps_18 : decode cX1_takeSteps 18 = .ok (.istore 5, 2) := by decide +kernel
theorem dX1_takeSteps_20 : decode cX1_takeSteps 20 = .ok (.aload_n 0, 1) := by decide +kernel
theorem dX1_takeSteps_21 : decode cX1_takeSteps 21 = .ok (.invokevirtual 112, 3) := by decide +kernel
theorem dX1_takeSteps_24 : decode cX1_takeSteps 24 = .ok (.ifCond .ne 5, 3) := by decide +kernel
theorem dX1_takeSteps_27 : decode cX1_takeSteps 27 = .ok (.iconst 0, 1) := by decide +kernel
theorem dX1_takeSteps_28 : decode cX1_takeSteps 28 = .ok (.ireturn, 1) := by decide +kernel
theorem dX1_takeSteps_29 : decode cX1_takeSteps 29 = .ok (.lload_n 2, 1) := by decide +kernel
theorem dX1_takeSteps_30 : decode cX1_takeSteps 30 = .ok (.aload_n 0, 1) := by decide +kernel
theorem dX1_takeSteps_31 : decode cX1_takeSteps 31 = .ok (.getfield 27, 3) := by decide +kernel
theorem dX1_takeSteps_34 : decode cX1_takeSteps 34 = .ok (.ladd, 1) := by decide +kernel
theorem dX1_takeSteps_35 : decode cX1_takeSteps 35 = .ok (.lstore_n 2, 1) := by decide +kernel
theorem dX1_takeSteps_36 : decode cX1_takeSteps 36 = .ok (.aload_n 1, 1) := by decide +kernel
theorem dX1_takeSteps_37 : decode cX1_takeSteps 37 = .ok (.getfield 86, 3) := by decide +kernel
theorem dX1_takeSteps_40 : decode cX1_takeSteps 40 = .ok (.lload_n 2, 1) := by decide +kernel
theorem dX1_takeSteps_41 : decode cX1_takeSteps 41 = .ok (.invokestatic 115, 3) := by decide +kernel
theorem dX1_takeSteps_44 : decode cX1_takeSteps 44 = .ok (.ifCond .ne 10, 3) := by decide +kernel
theorem dX1_takeSteps_47 : decode cX1_takeSteps 47 = .ok (.aload_n 0, 1) := by decide +kernel
theorem dX1_takeSteps_48 : decode cX1_takeSteps 48 = .ok (.iload 5, 2) := by decide +kernel
theorem dX1_takeSteps_50 : decode cX1_takeSteps 50 = .ok (.invokevirtual 49, 3) := by decide +kernel
theorem dX1_takeSteps_53 : decode cX1_takeSteps 53 = .ok (.ireturn, 1) := by decide +kernel
theorem dX1_takeSteps_54 : decode cX1_takeSteps 54 = .ok (.aload_n 1, 1) := by decide +kernel
theorem dX1_takeSteps_55 : decode cX1_takeSteps 55 = .ok (.iload 4, 2) := by decide +kernel
theorem dX1_takeSteps_57 : decode cX1_takeSteps 57 = .ok (.aload_n 1, 1) := by decide +kernel
theorem dX1_takeSteps_58 : decode cX1_takeSteps 58 = .ok (.getfield 86, 3) := by decide +kernel
theorem dX1_takeSteps_61 : decode cX1_takeSteps 61 = .ok (.lload_n 2, 1) := by decide +kernel
theorem dX1_takeSteps_62 : decode cX1_takeSteps 62 = .ok (.invokevirtual 96, 3) := by decide +kernel
theorem dX1_takeSteps_65 : decode cX1_takeSteps 65 = .ok (.iinc 4 1, 3) := by decide +kernel
theorem dX1_takeSteps_68 : decode cX1_takeSteps 68 = .ok (.goto (-63), 3) := by decide +kernel
theorem dX1_takeSteps_71 : decode cX1_takeSteps 71 = .ok (.iconst 1, 1) := by decide +kernel
theorem dX1_takeSteps_72 : decode cX1_takeSteps 72 = .ok (.ireturn, 1) := by decide +kernel
theorem dX1_takeStep_0 : decode cX1_takeStep 0 = .ok (.lconst 0, 1) := by decide +kernel
theorem dX1_takeStep_1 : decode cX1_takeStep 1 = .ok (.lstore_n 1, 1) := by decide +kernel
theorem dX1_takeStep_2 : decode cX1_takeStep 2 = .ok (.iconst 0, 1) := by decide +kernel
theorem dX1_takeStep_3 : decode cX1_takeStep 3 = .ok (.istore_n 3, 1) := by decide +kernel
theorem dX1_takeStep_4 : decode cX1_takeStep 4 = .ok (.iload_n 3, 1) := by decide +kernel
theorem dX1_takeStep_5 : decode cX1_takeStep 5 = .ok (.bipush 10, 2) := by decide +kernel
theorem dX1_takeStep_7 : decode cX1_takeStep 7 = .ok (.if_icmp .ge 119, 3) := by decide +kernel
theorem dX1_takeStep_10 : decode cX1_takeStep 10 = .ok (.aload_n 0, 1) := by decide +kernel
theorem dX1_takeStep_11 : decode cX1_takeStep 11 = .ok (.getfield 31, 3) := by decide +kernel
theorem dX1_takeStep_14 : decode cX1_takeStep 14 = .ok (.aload_n 0, 1) := by decide +kernel
theorem dX1_takeStep_15 : decode cX1_takeStep 15 = .ok (.getfield 21, 3) := by decide +kernel
theorem dX1_takeStep_18 : decode cX1_takeStep 18 = .ok (.iload_n 3, 1) := by decide +kernel
theorem dX1_takeStep_19 : decode cX1_takeStep 19 = .ok (.iadd, 1) := by decide +kernel
theorem dX1_takeStep_20 : decode cX1_takeStep 20 = .ok (.invokevirtual 36, 3) := by decide +kernel
theorem dX1_takeStep_23 : decode cX1_takeStep 23 = .ok (.istore 4, 2) := by decide +kernel
theorem dX1_takeStep_25 : decode cX1_takeStep 25 = .ok (.iload 4, 2) := by decide +kernel
theorem dX1_takeStep_27 : decode cX1_takeStep 27 = .ok (.ifCond .lt 15, 3) := by decide +kernel
theorem dX1_takeStep_30 : decode cX1_takeStep 30 = .ok (.iload_n 3, 1) := by decide +kernel
theorem dX1_takeStep_31 : decode cX1_takeStep 31 = .ok (.bipush 9, 2) := by decide +kernel
theorem dX1_takeStep_33 : decode cX1_takeStep 33 = .ok (.if_icmp .ne 18, 3) := by decide +kernel
theorem dX1_takeStep_36 : decode cX1_takeStep 36 = .ok (.iload 4, 2) := by decide +kernel
theorem dX1_takeStep_38 : decode cX1_takeStep 38 = .ok (.iconst 1, 1) := by decide +kernel
theorem dX1_takeStep_39 : decode cX1_takeStep 39 = .ok (.if_icmp .le 12, 3) := by decide +kernel
theorem dX1_takeStep_42 : decode cX1_takeStep 42 = .ok (.aload_n 0, 1) := by decide +kernel
theorem dX1_takeStep_43 : decode cX1_takeStep 43 = .ok (.aload_n 0, 1) := by decide +kernel
theorem dX1_takeStep_44 : decode cX1_takeStep 44 = .ok (.getfield 21, 3) := by decide +kernel
theorem dX1_takeStep_47 : decode cX1_takeStep 47 = .ok (.invokevirtual 49, 3) := by decide +kernel
theorem dX1_takeStep_50 : decode cX1_takeStep 50 = .ok (.ireturn, 1) := by decide +kernel
theorem dX1_takeStep_51 : decode cX1_takeStep 51 = .ok (.lload_n 1, 1) := by decide +kernel
theorem dX1_takeStep_52 : decode cX1_takeStep 52 = .ok (.iload 4, 2) := by decide +kernel
theorem dX1_takeStep_54 : decode cX1_takeStep 54 = .ok (.bipush 127, 2) := by decide +kernel
theorem dX1_takeStep_56 : decode cX1_takeStep 56 = .ok (.iand, 1) := by decide +kernel
theorem dX1_takeStep_57 : decode cX1_takeStep 57 = .ok (.i2l, 1) := by decide +kernel
theorem dX1_takeStep_58 : decode cX1_takeStep 58 = .ok (.bipush 7, 2) := by decide +kernel
theorem dX1_takeStep_60 : decode cX1_takeStep 60 = .ok (.iload_n 3, 1) := by decide +kernel
theorem dX1_takeStep_61 : decode cX1_takeStep 61 = .ok (.imul, 1) := by decide +kernel
theorem dX1_takeStep_62 : decode cX1_takeStep 62 = .ok (.lshl, 1) := by decide +kernel
theorem dX1_takeStep_63 : decode cX1_takeStep 63 = .ok (.lor, 1) := by decide +kernel
theorem dX1_takeStep_64 : decode cX1_takeStep 64 = .ok (.lstore_n 1, 1) := by decide +kernel
theorem dX1_takeStep_65 : decode cX1_takeStep 65 = .ok (.iload 4, 2) := by decide +kernel
theorem dX1_takeStep_67 : decode cX1_takeStep 67 = .ok (.sipush 128, 3) := by decide +kernel
theorem dX1_takeStep_70 : decode cX1_takeStep 70 = .ok (.if_icmp .lt 6, 3) := by decide +kernel
theorem dX1_takeStep_73 : decode cX1_takeStep 73 = .ok (.goto 47, 3) := by decide +kernel
theorem dX1_takeStep_76 : decode cX1_takeStep 76 = .ok (.iload 4, 2) := by decide +kernel
theorem dX1_takeStep_78 : decode cX1_takeStep 78 = .ok (.ifCond .ne 16, 3) := by decide +kernel
theorem dX1_takeStep_81 : decode cX1_takeStep 81 = .ok (.iload_n 3, 1) := by decide +kernel
theorem dX1_takeStep_82 : decode cX1_takeStep 82 = .ok (.ifCond .le 12, 3) := by decide +kernel
theorem dX1_takeStep_85 : decode cX1_takeStep 85 = .ok (.aload_n 0, 1) := by decide +kernel
theorem dX1_takeStep_86 : decode cX1_takeStep 86 = .ok (.aload_n 0, 1) := by decide +kernel
theorem dX1_takeStep_87 : decode cX1_takeStep 87 = .ok (.getfield 21, 3) := by decide +kernel
theorem dX1_takeStep_90 : decode cX1_takeStep 90 = .ok (.invokevirtual 49, 3) := by decide +kernel
theorem dX1_takeStep_93 : decode cX1_takeStep 93 = .ok (.ireturn, 1) := by decide +kernel
theorem dX1_takeStep_94 : decode cX1_takeStep 94 = .ok (.aload_n 0, 1) := by decide +kernel
theorem dX1_takeStep_95 : decode cX1_takeStep 95 = .ok (.dup, 1) := by decide +kernel
theorem dX1_takeStep_96 : decode cX1_takeStep 96 = .ok (.getfield 21, 3) := by decide +kernel
theorem dX1_takeStep_99 : decode cX1_takeStep 99 = .ok (.iload_n 3, 1) := by decide +kernel
theorem dX1_takeStep_100 : decode cX1_takeStep 100 = .ok (.iconst 1, 1) := by decide +kernel
theorem dX1_takeStep_101 : decode cX1_takeStep 101 = .ok (.iadd, 1) := by decide +kernel
theorem dX1_takeStep_102 : decode cX1_takeStep 102 = .ok (.iadd, 1) := by decide +kernel
theorem dX1_takeStep_103 : decode cX1_takeStep 103 = .ok (.putfield 21, 3) := by decide +kernel
theorem dX1_takeStep_106 : decode cX1_takeStep 106 = .ok (.aload_n 0, 1) := by decide +kernel
theorem dX1_takeStep_107 : decode cX1_takeStep 107 = .ok (.lload_n 1, 1) := by decide +kernel
theorem dX1_takeStep_108 : decode cX1_takeStep 108 = .ok (.iconst 1, 1) := by decide +kernel
theorem dX1_takeStep_109 : decode cX1_takeStep 109 = .ok (.lushr, 1) := by decide +kernel
theorem dX1_takeStep_110 : decode cX1_takeStep 110 = .ok (.lload_n 1, 1) := by decide +kernel
theorem dX1_takeStep_111 : decode cX1_takeStep 111 = .ok (.lconst 1, 1) := by decide +kernel
theorem dX1_takeStep_112 : decode cX1_takeStep 112 = .ok (.land, 1) := by decide +kernel
theorem dX1_takeStep_113 : decode cX1_takeStep 113 = .ok (.lneg, 1) := by decide +kernel
theorem dX1_takeStep_114 : decode cX1_takeStep 114 = .ok (.lxor, 1) := by decide +kernel
theorem dX1_takeStep_115 : decode cX1_takeStep 115 = .ok (.putfield 27, 3) := by decide +kernel
theorem dX1_takeStep_118 : decode cX1_takeStep 118 = .ok (.iconst 1, 1) := by decide +kernel
theorem dX1_takeStep_119 : decode cX1_takeStep 119 = .ok (.ireturn, 1) := by decide +kernel
theorem dX1_takeStep_120 : decode cX1_takeStep 120 = .ok (.iinc 3 1, 3) := by decide +kernel
theorem dX1_takeStep_123 : decode cX1_takeStep 123 = .ok (.goto (-119), 3) := by decide +kernel
theorem dX1_takeStep_126 : decode cX1_takeStep 126 = .ok (.aload_n 0, 1) := by decide +kernel
theorem dX1_takeStep_127 : decode cX1_takeStep 127 = .ok (.aload_n 0, 1) := by decide +kernel
theorem dX1_takeStep_128 : decode cX1_takeStep 128 = .ok (.getfield 21, 3) := by decide +kernel
theorem dX1_takeStep_131 : decode cX1_takeStep 131 = .ok (.invokevirtual 49, 3) := by decide +kernel
theorem dX1_takeStep_134 : decode cX1_takeStep 134 = .ok (.ireturn, 1) := by decide +kernel
theorem dX1_takeNumber_0 : decode cX1_takeNumber 0 = .ok (.iload_n 1, 1) := by decide +kernel
theorem dX1_takeNumber_1 : decode cX1_takeNumber 1 = .ok (.bipush 6, 2) := by decide +kernel
theorem dX1_takeNumber_3 : decode cX1_takeNumber 3 = .ok (.if_icmp .lt 7, 3) := by decide +kernel
theorem dX1_takeNumber_6 : decode cX1_takeNumber 6 = .ok (.iconst 1, 1) := by decide +kernel
theorem dX1_takeNumber_7 : decode cX1_takeNumber 7 = .ok (.goto 4, 3) := by decide +kernel
theorem dX1_takeNumber_10 : decode cX1_takeNumber 10 = .ok (.iconst 0, 1) := by decide +kernel
theorem dX1_takeNumber_11 : decode cX1_takeNumber 11 = .ok (.istore_n 2, 1) := by decide +kernel
theorem dX1_takeNumber_12 : decode cX1_takeNumber 12 = .ok (.iload_n 2, 1) := by decide +kernel
theorem dX1_takeNumber_13 : decode cX1_takeNumber 13 = .ok (.ifCond .eq 12, 3) := by decide +kernel
theorem dX1_takeNumber_16 : decode cX1_takeNumber 16 = .ok (.aload_n 0, 1) := by decide +kernel
theorem dX1_takeNumber_17 : decode cX1_takeNumber 17 = .ok (.getfield 21, 3) := by decide +kernel
theorem dX1_takeNumber_20 : decode cX1_takeNumber 20 = .ok (.iconst 1, 1) := by decide +kernel
theorem dX1_takeNumber_21 : decode cX1_takeNumber 21 = .ok (.iadd, 1) := by decide +kernel
theorem dX1_takeNumber_22 : decode cX1_takeNumber 22 = .ok (.goto 7, 3) := by decide +kernel
theorem dX1_takeNumber_25 : decode cX1_takeNumber 25 = .ok (.aload_n 0, 1) := by decide +kernel
theorem dX1_takeNumber_26 : decode cX1_takeNumber 26 = .ok (.getfield 21, 3) := by decide +kernel
theorem dX1_takeNumber_29 : decode cX1_takeNumber 29 = .ok (.istore_n 3, 1) := by decide +kernel
theorem dX1_takeNumber_30 : decode cX1_takeNumber 30 = .ok (.iload_n 3, 1) := by decide +kernel
theorem dX1_takeNumber_31 : decode cX1_takeNumber 31 = .ok (.getstatic 121, 3) := by decide +kernel
theorem dX1_takeNumber_34 : decode cX1_takeNumber 34 = .ok (.iload_n 1, 1) := by decide +kernel
theorem dX1_takeNumber_35 : decode cX1_takeNumber 35 = .ok (.iaload, 1) := by decide +kernel
theorem dX1_takeNumber_36 : decode cX1_takeNumber 36 = .ok (.iadd, 1) := by decide +kernel
theorem dX1_takeNumber_37 : decode cX1_takeNumber 37 = .ok (.istore 4, 2) := by decide +kernel
theorem dX1_takeNumber_39 : decode cX1_takeNumber 39 = .ok (.iload 4, 2) := by decide +kernel
theorem dX1_takeNumber_41 : decode cX1_takeNumber 41 = .ok (.aload_n 0, 1) := by decide +kernel
theorem dX1_takeNumber_42 : decode cX1_takeNumber 42 = .ok (.getfield 31, 3) := by decide +kernel
theorem dX1_takeNumber_45 : decode cX1_takeNumber 45 = .ok (.getfield 125, 3) := by decide +kernel
theorem dX1_takeNumber_48 : decode cX1_takeNumber 48 = .ok (.if_icmp .le 12, 3) := by decide +kernel
theorem dX1_takeNumber_51 : decode cX1_takeNumber 51 = .ok (.aload_n 0, 1) := by decide +kernel
theorem dX1_takeNumber_52 : decode cX1_takeNumber 52 = .ok (.aload_n 0, 1) := by decide +kernel
theorem dX1_takeNumber_53 : decode cX1_takeNumber 53 = .ok (.getfield 21, 3) := by decide +kernel
theorem dX1_takeNumber_56 : decode cX1_takeNumber 56 = .ok (.invokevirtual 49, 3) := by decide +kernel
theorem dX1_takeNumber_59 : decode cX1_takeNumber 59 = .ok (.ireturn, 1) := by decide +kernel
theorem dX1_takeNumber_60 : decode cX1_takeNumber 60 = .ok (.aload_n 0, 1) := by decide +kernel
theorem dX1_takeNumber_61 : decode cX1_takeNumber 61 = .ok (.getfield 31, 3) := by decide +kernel
theorem dX1_takeNumber_64 : decode cX1_takeNumber 64 = .ok (.aload_n 0, 1) := by decide +kernel
theorem dX1_takeNumber_65 : decode cX1_takeNumber 65 = .ok (.getfield 21, 3) := by decide +kernel
theorem dX1_takeNumber_68 : decode cX1_takeNumber 68 = .ok (.invokevirtual 36, 3) := by decide +kernel
theorem dX1_takeNumber_71 : decode cX1_takeNumber 71 = .ok (.istore 5, 2) := by decide +kernel
theorem dX1_takeNumber_73 : decode cX1_takeNumber 73 = .ok (.aload_n 0, 1) := by decide +kernel
theorem dX1_takeNumber_74 : decode cX1_takeNumber 74 = .ok (.iload_n 3, 1) := by decide +kernel
theorem dX1_takeNumber_75 : decode cX1_takeNumber 75 = .ok (.iload 4, 2) := by decide +kernel
theorem dX1_takeNumber_77 : decode cX1_takeNumber 77 = .ok (.invokevirtual 126, 3) := by decide +kernel
theorem dX1_takeNumber_80 : decode cX1_takeNumber 80 = .ok (.lstore 6, 2) := by decide +kernel
theorem dX1_takeNumber_82 : decode cX1_takeNumber 82 = .ok (.iload_n 1, 1) := by decide +kernel
theorem dX1_takeNumber_83 : decode cX1_takeNumber 83 = .ok (.iconst 2, 1) := by decide +kernel
theorem dX1_takeNumber_84 : decode cX1_takeNumber 84 = .ok (.if_icmp .ne 11, 3) := by decide +kernel
theorem dX1_takeNumber_87 : decode cX1_takeNumber 87 = .ok (.lload 6, 2) := by decide +kernel
theorem dX1_takeNumber_89 : decode cX1_takeNumber 89 = .ok (.ldc2_w 130, 3) := by decide +kernel
theorem dX1_takeNumber_92 : decode cX1_takeNumber 92 = .ok (.land, 1) := by decide +kernel
theorem dX1_takeNumber_93 : decode cX1_takeNumber 93 = .ok (.lstore 6, 2) := by decide +kernel
theorem dX1_takeNumber_95 : decode cX1_takeNumber 95 = .ok (.iload_n 2, 1) := by decide +kernel
theorem dX1_takeNumber_96 : decode cX1_takeNumber 96 = .ok (.ifCond .eq 17, 3) := by decide +kernel
theorem dX1_takeNumber_99 : decode cX1_takeNumber 99 = .ok (.iload_n 1, 1) := by decide +kernel
theorem dX1_takeNumber_100 : decode cX1_takeNumber 100 = .ok (.lload 6, 2) := by decide +kernel
theorem dX1_takeNumber_102 : decode cX1_takeNumber 102 = .ok (.iload 5, 2) := by decide +kernel
theorem dX1_takeNumber_104 : decode cX1_takeNumber 104 = .ok (.invokestatic 132, 3) := by decide +kernel
theorem dX1_takeNumber_107 : decode cX1_takeNumber 107 = .ok (.ifCond .eq 15, 3) := by decide +kernel
theorem dX1_takeNumber_110 : decode cX1_takeNumber 110 = .ok (.goto 21, 3) := by decide +kernel
theorem dX1_takeNumber_113 : decode cX1_takeNumber 113 = .ok (.iload_n 1, 1) := by decide +kernel
theorem dX1_takeNumber_114 : decode cX1_takeNumber 114 = .ok (.lload 6, 2) := by decide +kernel
theorem dX1_takeNumber_116 : decode cX1_takeNumber 116 = .ok (.invokestatic 115, 3) := by decide +kernel
theorem dX1_takeNumber_119 : decode cX1_takeNumber 119 = .ok (.ifCond .ne 12, 3) := by decide +kernel
theorem dX1_takeNumber_122 : decode cX1_takeNumber 122 = .ok (.aload_n 0, 1) := by decide +kernel
theorem dX1_takeNumber_123 : decode cX1_takeNumber 123 = .ok (.aload_n 0, 1) := by decide +kernel
theorem dX1_takeNumber_124 : decode cX1_takeNumber 124 = .ok (.getfield 21, 3) := by decide +kernel
theorem dX1_takeNumber_127 : decode cX1_takeNumber 127 = .ok (.invokevirtual 49, 3) := by decide +kernel
theorem dX1_takeNumber_130 : decode cX1_takeNumber 130 = .ok (.ireturn, 1) := by decide +kernel
theorem dX1_takeNumber_131 : decode cX1_takeNumber 131 = .ok (.aload_n 0, 1) := by decide +kernel
theorem dX1_takeNumber_132 : decode cX1_takeNumber 132 = .ok (.iload_n 2, 1) := by decide +kernel
theorem dX1_takeNumber_133 : decode cX1_takeNumber 133 = .ok (.ifCond .eq 14, 3) := by decide +kernel
theorem dX1_takeNumber_136 : decode cX1_takeNumber 136 = .ok (.iload_n 1, 1) := by decide +kernel
theorem dX1_takeNumber_137 : decode cX1_takeNumber 137 = .ok (.lload 6, 2) := by decide +kernel
theorem dX1_takeNumber_139 : decode cX1_takeNumber 139 = .ok (.iload 5, 2) := by decide +kernel
theorem dX1_takeNumber_141 : decode cX1_takeNumber 141 = .ok (.invokestatic 136, 3) := by decide +kernel
theorem dX1_takeNumber_144 : decode cX1_takeNumber 144 = .ok (.goto 5, 3) := by decide +kernel
theorem dX1_takeNumber_147 : decode cX1_takeNumber 147 = .ok (.lload 6, 2) := by decide +kernel
theorem dX1_takeNumber_149 : decode cX1_takeNumber 149 = .ok (.putfield 27, 3) := by decide +kernel
theorem dX1_takeNumber_152 : decode cX1_takeNumber 152 = .ok (.aload_n 0, 1) := by decide +kernel
theorem dX1_takeNumber_153 : decode cX1_takeNumber 153 = .ok (.iload 4, 2) := by decide +kernel
theorem dX1_takeNumber_155 : decode cX1_takeNumber 155 = .ok (.putfield 21, 3) := by decide +kernel
theorem dX1_takeNumber_158 : decode cX1_takeNumber 158 = .ok (.iconst 1, 1) := by decide +kernel
theorem dX1_takeNumber_159 : decode cX1_takeNumber 159 = .ok (.ireturn, 1) := by decide +kernel
theorem dX1_isScaled_0 : decode cX1_isScaled 0 = .ok (.lload_n 1, 1) := by decide +kernel
theorem dX1_isScaled_1 : decode cX1_isScaled 1 = .ok (.lconst 0, 1) := by decide +kernel
theorem dX1_isScaled_2 : decode cX1_isScaled 2 = .ok (.lcmp, 1) := by decide +kernel
theorem dX1_isScaled_3 : decode cX1_isScaled 3 = .ok (.ifCond .ne 13, 3) := by decide +kernel
theorem dX1_isScaled_6 : decode cX1_isScaled 6 = .ok (.iload_n 3, 1) := by decide +kernel
theorem dX1_isScaled_7 : decode cX1_isScaled 7 = .ok (.ifCond .ne 7, 3) := by decide +kernel
theorem dX1_isScaled_10 : decode cX1_isScaled 10 = .ok (.iconst 1, 1) := by decide +kernel
theorem dX1_isScaled_11 : decode cX1_isScaled 11 = .ok (.goto 4, 3) := by decide +kernel
theorem dX1_isScaled_14 : decode cX1_isScaled 14 = .ok (.iconst 0, 1) := by decide +kernel
theorem dX1_isScaled_15 : decode cX1_isScaled 15 = .ok (.ireturn, 1) := by decide +kernel
theorem dX1_isScaled_16 : decode cX1_isScaled 16 = .ok (.lload_n 1, 1) := by decide +kernel
theorem dX1_isScaled_17 : decode cX1_isScaled 17 = .ok (.lconst 1, 1) := by decide +kernel
theorem dX1_isScaled_18 : decode cX1_isScaled 18 = .ok (.land, 1) := by decide +kernel
theorem dX1_isScaled_19 : decode cX1_isScaled 19 = .ok (.lconst 0, 1) := by decide +kernel
theorem dX1_isScaled_20 : decode cX1_isScaled 20 = .ok (.lcmp, 1) := by decide +kernel
theorem dX1_isScaled_21 : decode cX1_isScaled 21 = .ok (.ifCond .eq 9, 3) := by decide +kernel
theorem dX1_isScaled_24 : decode cX1_isScaled 24 = .ok (.iload_n 3, 1) := by decide +kernel
theorem dX1_isScaled_25 : decode cX1_isScaled 25 = .ok (.bipush 66, 2) := by decide +kernel
theorem dX1_isScaled_27 : decode cX1_isScaled 27 = .ok (.if_icmp .le 5, 3) := by decide +kernel
theorem dX1_isScaled_30 : decode cX1_isScaled 30 = .ok (.iconst 0, 1) := by decide +kernel
theorem dX1_isScaled_31 : decode cX1_isScaled 31 = .ok (.ireturn, 1) := by decide +kernel
theorem dX1_isScaled_32 : decode cX1_isScaled 32 = .ok (.lload_n 1, 1) := by decide +kernel
theorem dX1_isScaled_33 : decode cX1_isScaled 33 = .ok (.lconst 0, 1) := by decide +kernel
theorem dX1_isScaled_34 : decode cX1_isScaled 34 = .ok (.lcmp, 1) := by decide +kernel
theorem dX1_isScaled_35 : decode cX1_isScaled 35 = .ok (.ifCond .ge 8, 3) := by decide +kernel
theorem dX1_isScaled_38 : decode cX1_isScaled 38 = .ok (.lload_n 1, 1) := by decide +kernel
theorem dX1_isScaled_39 : decode cX1_isScaled 39 = .ok (.lneg, 1) := by decide +kernel
theorem dX1_isScaled_40 : decode cX1_isScaled 40 = .ok (.goto 4, 3) := by decide +kernel
theorem dX1_isScaled_43 : decode cX1_isScaled 43 = .ok (.lload_n 1, 1) := by decide +kernel
theorem dX1_isScaled_44 : decode cX1_isScaled 44 = .ok (.lstore 4, 2) := by decide +kernel
theorem dX1_isScaled_46 : decode cX1_isScaled 46 = .ok (.bipush 64, 2) := by decide +kernel
theorem dX1_isScaled_48 : decode cX1_isScaled 48 = .ok (.lload 4, 2) := by decide +kernel
theorem dX1_isScaled_50 : decode cX1_isScaled 50 = .ok (.invokestatic 140, 3) := by decide +kernel
theorem dX1_isScaled_53 : decode cX1_isScaled 53 = .ok (.isub, 1) := by decide +kernel
theorem dX1_isScaled_54 : decode cX1_isScaled 54 = .ok (.istore 6, 2) := by decide +kernel
theorem dX1_isScaled_56 : decode cX1_isScaled 56 = .ok (.iload 6, 2) := by decide +kernel
theorem dX1_isScaled_58 : decode cX1_isScaled 58 = .ok (.iload_n 0, 1) := by decide +kernel
theorem dX1_isScaled_59 : decode cX1_isScaled 59 = .ok (.bipush 6, 2) := by decide +kernel
theorem dX1_isScaled_61 : decode cX1_isScaled 61 = .ok (.if_icmp .ne 8, 3) := by decide +kernel
theorem dX1_isScaled_64 : decode cX1_isScaled 64 = .ok (.bipush 24, 2) := by decide +kernel
theorem dX1_isScaled_66 : decode cX1_isScaled 66 = .ok (.goto 5, 3) := by decide +kernel
theorem dX1_isScaled_69 : decode cX1_isScaled 69 = .ok (.bipush 53, 2) := by decide +kernel
theorem dX1_isScaled_71 : decode cX1_isScaled 71 = .ok (.if_icmp .le 5, 3) := by decide +kernel
theorem dX1_isScaled_74 : decode cX1_isScaled 74 = .ok (.iconst 0, 1) := by decide +kernel
theorem dX1_isScaled_75 : decode cX1_isScaled 75 = .ok (.ireturn, 1) := by decide +kernel
theorem dX1_isScaled_76 : decode cX1_isScaled 76 = .ok (.lload 4, 2) := by decide +kernel
theorem dX1_isScaled_78 : decode cX1_isScaled 78 = .ok (.lconst 1, 1) := by decide +kernel
theorem dX1_isScaled_79 : decode cX1_isScaled 79 = .ok (.lcmp, 1) := by decide +kernel
theorem dX1_isScaled_80 : decode cX1_isScaled 80 = .ok (.ifCond .eq 12, 3) := by decide +kernel
theorem dX1_isScaled_83 : decode cX1_isScaled 83 = .ok (.iload 6, 2) := by decide +kernel
theorem dX1_isScaled_85 : decode cX1_isScaled 85 = .ok (.iload_n 3, 1) := by decide +kernel
theorem dX1_isScaled_86 : decode cX1_isScaled 86 = .ok (.iadd, 1) := by decide +kernel
theorem dX1_isScaled_87 : decode cX1_isScaled 87 = .ok (.bipush 66, 2) := by decide +kernel
theorem dX1_isScaled_89 : decode cX1_isScaled 89 = .ok (.if_icmp .gt 7, 3) := by decide +kernel
theorem dX1_isScaled_92 : decode cX1_isScaled 92 = .ok (.iconst 1, 1) := by decide +kernel
theorem dX1_isScaled_93 : decode cX1_isScaled 93 = .ok (.goto 4, 3) := by decide +kernel
theorem dX1_isScaled_96 : decode cX1_isScaled 96 = .ok (.iconst 0, 1) := by decide +kernel
theorem dX1_isScaled_97 : decode cX1_isScaled 97 = .ok (.ireturn, 1) := by decide +kernel
theorem dX1_signedAt_0 : decode cX1_signedAt 0 = .ok (.aload_n 0, 1) := by decide +kernel
theorem dX1_signedAt_1 : decode cX1_signedAt 1 = .ok (.getfield 31, 3) := by decide +kernel
theorem dX1_signedAt_4 : decode cX1_signedAt 4 = .ok (.iload_n 1, 1) := by decide +kernel
theorem dX1_signedAt_5 : decode cX1_signedAt 5 = .ok (.invokevirtual 36, 3) := by decide +kernel
theorem dX1_signedAt_8 : decode cX1_signedAt 8 = .ok (.sipush 128, 3) := by decide +kernel
theorem dX1_signedAt_11 : decode cX1_signedAt 11 = .ok (.if_icmp .lt 9, 3) := by decide +kernel
theorem dX1_signedAt_14 : decode cX1_signedAt 14 = .ok (.ldc2_w 146, 3) := by decide +kernel
theorem dX1_signedAt_17 : decode cX1_signedAt 17 = .ok (.goto 4, 3) := by decide +kernel
theorem dX1_signedAt_20 : decode cX1_signedAt 20 = .ok (.lconst 0, 1) := by decide +kernel
theorem dX1_signedAt_21 : decode cX1_signedAt 21 = .ok (.lstore_n 3, 1) := by decide +kernel
theorem dX1_signedAt_22 : decode cX1_signedAt 22 = .ok (.iload_n 1, 1) := by decide +kernel
theorem dX1_signedAt_23 : decode cX1_signedAt 23 = .ok (.istore 5, 2) := by decide +kernel
theorem dX1_signedAt_25 : decode cX1_signedAt 25 = .ok (.iload 5, 2) := by decide +kernel
theorem dX1_signedAt_27 : decode cX1_signedAt 27 = .ok (.iload_n 2, 1) := by decide +kernel
theorem dX1_signedAt_28 : decode cX1_signedAt 28 = .ok (.if_icmp .ge 25, 3) := by decide +kernel
theorem dX1_signedAt_31 : decode cX1_signedAt 31 = .ok (.lload_n 3, 1) := by decide +kernel
theorem dX1_signedAt_32 : decode cX1_signedAt 32 = .ok (.bipush 8, 2) := by decide +kernel
theorem dX1_signedAt_34 : decode cX1_signedAt 34 = .ok (.lshl, 1) := by decide +kernel
theorem dX1_signedAt_35 : decode cX1_signedAt 35 = .ok (.aload_n 0, 1) := by decide +kernel
theorem dX1_signedAt_36 : decode cX1_signedAt 36 = .ok (.getfield 31, 3) := by decide +kernel
theorem dX1_signedAt_39 : decode cX1_signedAt 39 = .ok (.iload 5, 2) := by decide +kernel
theorem dX1_signedAt_41 : decode cX1_signedAt 41 = .ok (.invokevirtual 36, 3) := by decide +kernel
theorem dX1_signedAt_44 : decode cX1_signedAt 44 = .ok (.i2l, 1) := by decide +kernel
theorem dX1_signedAt_45 : decode cX1_signedAt 45 = .ok (.lor, 1) := by decide +kernel
theorem dX1_signedAt_46 : decode cX1_signedAt 46 = .ok (.lstore_n 3, 1) := by decide +kernel
theorem dX1_signedAt_47 : decode cX1_signedAt 47 = .ok (.iinc 5 1, 3) := by decide +kernel
theorem dX1_signedAt_50 : decode cX1_signedAt 50 = .ok (.goto (-25), 3) := by decide +kernel
theorem dX1_signedAt_53 : decode cX1_signedAt 53 = .ok (.lload_n 3, 1) := by decide +kernel
theorem dX1_signedAt_54 : decode cX1_signedAt 54 = .ok (.lreturn, 1) := by decide +kernel
theorem dX2_init_0 : decode cX2_init 0 = .ok (.aload_n 0, 1) := by decide +kernel
theorem dX2_init_1 : decode cX2_init 1 = .ok (.invokespecial 3, 3) := by decide +kernel
theorem dX2_init_4 : decode cX2_init 4 = .ok (.aload_n 0, 1) := by decide +kernel
theorem dX2_init_5 : decode cX2_init 5 = .ok (.iconst (-1), 1) := by decide +kernel
theorem dX2_init_6 : decode cX2_init 6 = .ok (.putfield 9, 3) := by decide +kernel
theorem dX2_init_9 : decode cX2_init 9 = .ok (.aload_n 0, 1) := by decide +kernel
theorem dX2_init_10 : decode cX2_init 10 = .ok (.iconst 0, 1) := by decide +kernel
theorem dX2_init_11 : decode cX2_init 11 = .ok (.putfield 15, 3) := by decide +kernel
theorem dX2_init_14 : decode cX2_init 14 = .ok (.aload_n 0, 1) := by decide +kernel
theorem dX2_init_15 : decode cX2_init 15 = .ok (.bipush 12, 2) := by decide +kernel
theorem dX2_init_17 : decode cX2_init 17 = .ok (.newarray .int, 2) := by decide +kernel
theorem dX2_init_19 : decode cX2_init 19 = .ok (.putfield 18, 3) := by decide +kernel
theorem dX2_init_22 : decode cX2_init 22 = .ok (.aload_n 0, 1) := by decide +kernel
theorem dX2_init_23 : decode cX2_init 23 = .ok (.bipush 12, 2) := by decide +kernel
theorem dX2_init_25 : decode cX2_init 25 = .ok (.newarray .long, 2) := by decide +kernel
theorem dX2_init_27 : decode cX2_init 27 = .ok (.putfield 22, 3) := by decide +kernel
theorem dX2_init_30 : decode cX2_init 30 = .ok (.return_, 1) := by decide +kernel
theorem dX2_isEmpty_0 : decode cX2_isEmpty 0 = .ok (.aload_n 0, 1) := by decide +kernel
theorem dX2_isEmpty_1 : decode cX2_isEmpty 1 = .ok (.getfield 9, 3) := by decide +kernel
theorem dX2_isEmpty_4 : decode cX2_isEmpty 4 = .ok (.iconst (-1), 1) := by decide +kernel
theorem dX2_isEmpty_5 : decode cX2_isEmpty 5 = .ok (.if_icmp .ne 7, 3) := by decide +kernel
theorem dX2_isEmpty_8 : decode cX2_isEmpty 8 = .ok (.iconst 1, 1) := by decide +kernel
theorem dX2_isEmpty_9 : decode cX2_isEmpty 9 = .ok (.goto 4, 3) := by decide +kernel
theorem dX2_isEmpty_12 : decode cX2_isEmpty 12 = .ok (.iconst 0, 1) := by decide +kernel
theorem dX2_isEmpty_13 : decode cX2_isEmpty 13 = .ok (.ireturn, 1) := by decide +kernel
theorem dX2_isArray_0 : decode cX2_isArray 0 = .ok (.aload_n 0, 1) := by decide +kernel
theorem dX2_isArray_1 : decode cX2_isArray 1 = .ok (.getfield 9, 3) := by decide +kernel
theorem dX2_isArray_4 : decode cX2_isArray 4 = .ok (.ifCond .lt 16, 3) := by decide +kernel
theorem dX2_isArray_7 : decode cX2_isArray 7 = .ok (.aload_n 0, 1) := by decide +kernel
theorem dX2_isArray_8 : decode cX2_isArray 8 = .ok (.getfield 9, 3) := by decide +kernel
theorem dX2_isArray_11 : decode cX2_isArray 11 = .ok (.bipush 13, 2) := by decide +kernel
theorem dX2_isArray_13 : decode cX2_isArray 13 = .ok (.if_icmp .gt 7, 3) := by decide +kernel
theorem dX2_isArray_16 : decode cX2_isArray 16 = .ok (.iconst 1, 1) := by decide +kernel
theorem dX2_isArray_17 : decode cX2_isArray 17 = .ok (.goto 4, 3) := by decide +kernel
theorem dX2_isArray_20 : decode cX2_isArray 20 = .ok (.iconst 0, 1) := by decide +kernel
theorem dX2_isArray_21 : decode cX2_isArray 21 = .ok (.ireturn, 1) := by decide +kernel
theorem dX2_isPrimitive_0 : decode cX2_isPrimitive 0 = .ok (.aload_n 0, 1) := by decide +kernel
theorem dX2_isPrimitive_1 : decode cX2_isPrimitive 1 = .ok (.getfield 9, 3) := by decide +kernel
theorem dX2_isPrimitive_4 : decode cX2_isPrimitive 4 = .ok (.invokestatic 26, 3) := by decide +kernel
theorem dX2_isPrimitive_7 : decode cX2_isPrimitive 7 = .ok (.ireturn, 1) := by decide +kernel
theorem dX2_hasPlace_0 : decode cX2_hasPlace 0 = .ok (.iload_n 1, 1) := by decide +kernel
theorem dX2_hasPlace_1 : decode cX2_hasPlace 1 = .ok (.ifCond .lt 15, 3) := by decide +kernel
theorem dX2_hasPlace_4 : decode cX2_hasPlace 4 = .ok (.iload_n 1, 1) := by decide +kernel
theorem dX2_hasPlace_5 : decode cX2_hasPlace 5 = .ok (.aload_n 0, 1) := by decide +kernel
theorem dX2_hasPlace_6 : decode cX2_hasPlace 6 = .ok (.getfield 15, 3) := by decide +kernel
theorem dX2_hasPlace_9 : decode cX2_hasPlace 9 = .ok (.if_icmp .ge 7, 3) := by decide +kernel
theorem dX2_hasPlace_12 : decode cX2_hasPlace 12 = .ok (.iconst 1, 1) := by decide +kernel
theorem dX2_hasPlace_13 : decode cX2_hasPlace 13 = .ok (.goto 4, 3) := by decide +kernel
theorem dX2_hasPlace_16 : decode cX2_hasPlace 16 = .ok (.iconst 0, 1) := by decide +kernel
theorem dX2_hasPlace_17 : decode cX2_hasPlace 17 = .ok (.ireturn, 1) := by decide +kernel
theorem dX2_holdsArray_0 : decode cX2_holdsArray 0 = .ok (.iconst 0, 1) := by decide +kernel
theorem dX2_holdsArray_1 : decode cX2_holdsArray 1 = .ok (.istore_n 1, 1) := by decide +kernel
theorem dX2_holdsArray_2 : decode cX2_holdsArray 2 = .ok (.iload_n 1, 1) := by decide +kernel
theorem dX2_holdsArray_3 : decode cX2_holdsArray 3 = .ok (.aload_n 0, 1) := by decide +kernel
theorem dX2_holdsArray_4 : decode cX2_holdsArray 4 = .ok (.getfield 15, 3) := by decide +kernel
theorem dX2_holdsArray_7 : decode cX2_holdsArray 7 = .ok (.if_icmp .ge 22, 3) := by decide +kernel
theorem dX2_holdsArray_10 : decode cX2_holdsArray 10 = .ok (.aload_n 0, 1) := by decide +kernel
theorem dX2_holdsArray_11 : decode cX2_holdsArray 11 = .ok (.getfield 18, 3) := by decide +kernel
theorem dX2_holdsArray_14 : decode cX2_holdsArray 14 = .ok (.iload_n 1, 1) := by decide +kernel
theorem dX2_holdsArray_15 : decode cX2_holdsArray 15 = .ok (.iaload, 1) := by decide +kernel
theorem dX2_holdsArray_16 : decode cX2_holdsArray 16 = .ok (.bipush 10, 2) := by decide +kernel
theorem dX2_holdsArray_18 : decode cX2_holdsArray 18 = .ok (.if_icmp .ne 5, 3) := by decide +kernel
theorem dX2_holdsArray_21 : decode cX2_holdsArray 21 = .ok (.iconst 1, 1) := by decide +kernel
theorem dX2_holdsArray_22 : decode cX2_holdsArray 22 = .ok (.ireturn, 1) := by decide +kernel
theorem dX2_holdsArray_23 : decode cX2_holdsArray 23 = .ok (.iinc 1 1, 3) := by decide +kernel
theorem dX2_holdsArray_26 : decode cX2_holdsArray 26 = .ok (.goto (-24), 3) := by decide +kernel
theorem dX2_holdsArray_29 : decode cX2_holdsArray 29 = .ok (.iconst 0, 1) := by decide +kernel
theorem dX2_holdsArray_30 : decode cX2_holdsArray 30 = .ok (.ireturn, 1) := by decide +kernel
theorem dX2_beEmpty_0 : decode cX2_beEmpty 0 = .ok (.aload_n 0, 1) := by decide +kernel
theorem dX2_beEmpty_1 : decode cX2_beEmpty 1 = .ok (.iconst (-1), 1) := by decide +kernel
theorem dX2_beEmpty_2 : decode cX2_beEmpty 2 = .ok (.putfield 9, 3) := by decide +kernel
theorem dX2_beEmpty_5 : decode cX2_beEmpty 5 = .ok (.aload_n 0, 1) := by decide +kernel
theorem dX2_beEmpty_6 : decode cX2_beEmpty 6 = .ok (.iconst 0, 1) := by decide +kernel
theorem dX2_beEmpty_7 : decode cX2_beEmpty 7 = .ok (.putfield 15, 3) := by decide +kernel
theorem dX2_beEmpty_10 : decode cX2_beEmpty 10 = .ok (.return_, 1) := by decide +kernel
theorem dX2_beThing_0 : decode cX2_beThing 0 = .ok (.aload_n 0, 1) := by decide +kernel
theorem dX2_beThing_1 : decode cX2_beThing 1 = .ok (.iload_n 1, 1) := by decide +kernel
theorem dX2_beThing_2 : decode cX2_beThing 2 = .ok (.putfield 9, 3) := by decide +kernel
theorem dX2_beThing_5 : decode cX2_beThing 5 = .ok (.aload_n 0, 1) := by decide +kernel
theorem dX2_beThing_6 : decode cX2_beThing 6 = .ok (.iconst 0, 1) := by decide +kernel
theorem dX2_beThing_7 : decode cX2_beThing 7 = .ok (.putfield 15, 3) := by decide +kernel
theorem dX2_beThing_10 : decode cX2_beThing 10 = .ok (.aload_n 0, 1) := by decide +kernel
theorem dX2_beThing_11 : decode cX2_beThing 11 = .ok (.getfield 22, 3) := by decide +kernel
theorem dX2_beThing_14 : decode cX2_beThing 14 = .ok (.iconst 0, 1) := by decide +kernel
theorem dX2_beThing_15 : decode cX2_beThing 15 = .ok (.lload_n 2, 1) := by decide +kernel
theorem dX2_beThing_16 : decode cX2_beThing 16 = .ok (.lastore, 1) := by decide +kernel
theorem dX2_beThing_17 : decode cX2_beThing 17 = .ok (.return_, 1) := by decide +kernel
theorem dX2_beArray_0 : decode cX2_beArray 0 = .ok (.aload_n 0, 1) := by decide +kernel
theorem dX2_beArray_1 : decode cX2_beArray 1 = .ok (.iload_n 1, 1) := by decide +kernel
theorem dX2_beArray_2 : decode cX2_beArray 2 = .ok (.putfield 9, 3) := by decide +kernel
theorem dX2_beArray_5 : decode cX2_beArray 5 = .ok (.aload_n 0, 1) := by decide +kernel
theorem dX2_beArray_6 : decode cX2_beArray 6 = .ok (.iload_n 2, 1) := by decide +kernel
theorem dX2_beArray_7 : decode cX2_beArray 7 = .ok (.putfield 15, 3) := by decide +kernel
theorem dX2_beArray_10 : decode cX2_beArray 10 = .ok (.aload_n 0, 1) := by decide +kernel
theorem dX2_beArray_11 : decode cX2_beArray 11 = .ok (.invokevirtual 32, 3) := by decide +kernel
theorem dX2_beArray_14 : decode cX2_beArray 14 = .ok (.ifCond .eq 7, 3) := by decide +kernel
theorem dX2_beArray_17 : decode cX2_beArray 17 = .ok (.iload_n 1, 1) := by decide +kernel
theorem dX2_beArray_18 : decode cX2_beArray 18 = .ok (.goto 5, 3) := by decide +kernel
theorem dX2_beArray_21 : decode cX2_beArray 21 = .ok (.bipush 11, 2) := by decide +kernel
theorem dX2_beArray_23 : decode cX2_beArray 23 = .ok (.istore_n 3, 1) := by decide +kernel
theorem dX2_beArray_24 : decode cX2_beArray 24 = .ok (.iconst 0, 1) := by decide +kernel
theorem dX2_beArray_25 : decode cX2_beArray 25 = .ok (.istore 4, 2) := by decide +kernel
theorem dX2_beArray_27 : decode cX2_beArray 27 = .ok (.iload 4, 2) := by decide +kernel
theorem dX2_beArray_29 : decode cX2_beArray 29 = .ok (.iload_n 2, 1) := by decide +kernel
theorem dX2_beArray_30 : decode cX2_beArray 30 = .ok (.if_icmp .ge 17, 3) := by decide +kernel
theorem dX2_beArray_33 : decode cX2_beArray 33 = .ok (.aload_n 0, 1) := by decide +kernel
theorem dX2_beArray_34 : decode cX2_beArray 34 = .ok (.iload 4, 2) := by decide +kernel
theorem dX2_beArray_36 : decode cX2_beArray 36 = .ok (.iload_n 3, 1) := by decide +kernel
theorem dX2_beArray_37 : decode cX2_beArray 37 = .ok (.lconst 0, 1) := by decide +kernel
theorem dX2_beArray_38 : decode cX2_beArray 38 = .ok (.invokevirtual 36, 3) := by decide +kernel
theorem dX2_beArray_41 : decode cX2_beArray 41 = .ok (.iinc 4 1, 3) := by decide +kernel
theorem dX2_beArray_44 : decode cX2_beArray 44 = .ok (.goto (-17), 3) := by decide +kernel
theorem dX2_beArray_47 : decode cX2_beArray 47 = .ok (.return_, 1) := by decide +kernel
theorem dX2_beLike_0 : decode cX2_beLike 0 = .ok (.aload_n 0, 1) := by decide +kernel
theorem dX2_beLike_1 : decode cX2_beLike 1 = .ok (.aload_n 1, 1) := by decide +kernel
theorem dX2_beLike_2 : decode cX2_beLike 2 = .ok (.getfield 9, 3) := by decide +kernel
theorem dX2_beLike_5 : decode cX2_beLike 5 = .ok (.putfield 9, 3) := by decide +kernel
theorem dX2_beLike_8 : decode cX2_beLike 8 = .ok (.aload_n 0, 1) := by decide +kernel
theorem dX2_beLike_9 : decode cX2_beLike 9 = .ok (.aload_n 1, 1) := by decide +kernel
theorem dX2_beLike_10 : decode cX2_beLike 10 = .ok (.getfield 15, 3) := by decide +kernel
theorem dX2_beLike_13 : decode cX2_beLike 13 = .ok (.putfield 15, 3) := by decide +kernel
theorem dX2_beLike_16 : decode cX2_beLike 16 = .ok (.aload_n 1, 1) := by decide +kernel
theorem dX2_beLike_17 : decode cX2_beLike 17 = .ok (.getfield 18, 3) := by decide +kernel
theorem dX2_beLike_20 : decode cX2_beLike 20 = .ok (.iconst 0, 1) := by decide +kernel
theorem dX2_beLike_21 : decode cX2_beLike 21 = .ok (.aload_n 0, 1) := by decide +kernel
theorem dX2_beLike_22 : decode cX2_beLike 22 = .ok (.getfield 18, 3) := by decide +kernel
theorem dX2_beLike_25 : decode cX2_beLike 25 = .ok (.iconst 0, 1) := by decide +kernel
theorem dX2_beLike_26 : decode cX2_beLike 26 = .ok (.bipush 12, 2) := by decide +kernel
theorem dX2_beLike_28 : decode cX2_beLike 28 = .ok (.invokestatic 40, 3) := by decide +kernel
theorem dX2_beLike_31 : decode cX2_beLike 31 = .ok (.aload_n 1, 1) := by decide +kernel
theorem dX2_beLike_32 : decode cX2_beLike 32 = .ok (.getfield 22, 3) := by decide +kernel
theorem dX2_beLike_35 : decode cX2_beLike 35 = .ok (.iconst 0, 1) := by decide +kernel
theorem dX2_beLike_36 : decode cX2_beLike 36 = .ok (.aload_n 0, 1) := by decide +kernel
theorem dX2_beLike_37 : decode cX2_beLike 37 = .ok (.getfield 22, 3) := by decide +kernel
theorem dX2_beLike_40 : decode cX2_beLike 40 = .ok (.iconst 0, 1) := by decide +kernel
theorem dX2_beLike_41 : decode cX2_beLike 41 = .ok (.bipush 12, 2) := by decide +kernel
theorem dX2_beLike_43 : decode cX2_beLike 43 = .ok (.invokestatic 40, 3) := by decide +kernel
theorem dX2_beLike_46 : decode cX2_beLike 46 = .ok (.return_, 1) := by decide +kernel
theorem dX2_hold_0 : decode cX2_hold 0 = .ok (.aload_n 0, 1) := by decide +kernel
theorem dX2_hold_1 : decode cX2_hold 1 = .ok (.invokevirtual 32, 3) := by decide +kernel
theorem dX2_hold_4 : decode cX2_hold 4 = .ok (.ifCond .eq 24, 3) := by decide +kernel
theorem dX2_hold_7 : decode cX2_hold 7 = .ok (.aload_n 0, 1) := by decide +kernel
theorem dX2_hold_8 : decode cX2_hold 8 = .ok (.iload_n 1, 1) := by decide +kernel
theorem dX2_hold_9 : decode cX2_hold 9 = .ok (.aload_n 0, 1) := by decide +kernel
theorem dX2_hold_10 : decode cX2_hold 10 = .ok (.getfield 9, 3) := by decide +kernel
theorem dX2_hold_13 : decode cX2_hold 13 = .ok (.iload_n 2, 1) := by decide +kernel
theorem dX2_hold_14 : decode cX2_hold 14 = .ok (.aload_n 0, 1) := by decide +kernel
theorem dX2_hold_15 : decode cX2_hold 15 = .ok (.getfield 9, 3) := by decide +kernel
theorem dX2_hold_18 : decode cX2_hold 18 = .ok (.lload_n 3, 1) := by decide +kernel
theorem dX2_hold_19 : decode cX2_hold 19 = .ok (.invokestatic 46, 3) := by decide +kernel
theorem dX2_hold_22 : decode cX2_hold 22 = .ok (.invokevirtual 36, 3) := by decide +kernel
theorem dX2_hold_25 : decode cX2_hold 25 = .ok (.goto 10, 3) := by decide +kernel
theorem dX2_hold_28 : decode cX2_hold 28 = .ok (.aload_n 0, 1) := by decide +kernel
theorem dX2_hold_29 : decode cX2_hold 29 = .ok (.iload_n 1, 1) := by decide +kernel
theorem dX2_hold_30 : decode cX2_hold 30 = .ok (.iload_n 2, 1) := by decide +kernel
theorem dX2_hold_31 : decode cX2_hold 31 = .ok (.lload_n 3, 1) := by decide +kernel
theorem dX2_hold_32 : decode cX2_hold 32 = .ok (.invokevirtual 36, 3) := by decide +kernel
theorem dX2_hold_35 : decode cX2_hold 35 = .ok (.return_, 1) := by decide +kernel
theorem dX2_fill_0 : decode cX2_fill 0 = .ok (.aload_n 0, 1) := by decide +kernel
theorem dX2_fill_1 : decode cX2_fill 1 = .ok (.getfield 18, 3) := by decide +kernel
theorem dX2_fill_4 : decode cX2_fill 4 = .ok (.iload_n 1, 1) := by decide +kernel
theorem dX2_fill_5 : decode cX2_fill 5 = .ok (.iload_n 2, 1) := by decide +kernel
theorem dX2_fill_6 : decode cX2_fill 6 = .ok (.iastore, 1) := by decide +kernel
theorem dX2_fill_7 : decode cX2_fill 7 = .ok (.aload_n 0, 1) := by decide +kernel
theorem dX2_fill_8 : decode cX2_fill 8 = .ok (.getfield 22, 3) := by decide +kernel
theorem dX2_fill_11 : decode cX2_fill 11 = .ok (.iload_n 1, 1) := by decide +kernel
theorem dX2_fill_12 : decode cX2_fill 12 = .ok (.lload_n 3, 1) := by decide +kernel
theorem dX2_fill_13 : decode cX2_fill 13 = .ok (.lastore, 1) := by decide +kernel
theorem dX2_fill_14 : decode cX2_fill 14 = .ok (.return_, 1) := by decide +kernel
theorem dX2_exchange_0 : decode cX2_exchange 0 = .ok (.aload_n 0, 1) := by decide +kernel
theorem dX2_exchange_1 : decode cX2_exchange 1 = .ok (.getfield 18, 3) := by decide +kernel
theorem dX2_exchange_4 : decode cX2_exchange 4 = .ok (.iload_n 1, 1) := by decide +kernel
theorem dX2_exchange_5 : decode cX2_exchange 5 = .ok (.iaload, 1) := by decide +kernel
theorem dX2_exchange_6 : decode cX2_exchange 6 = .ok (.istore_n 3, 1) := by decide +kernel
theorem dX2_exchange_7 : decode cX2_exchange 7 = .ok (.aload_n 0, 1) := by decide +kernel
theorem dX2_exchange_8 : decode cX2_exchange 8 = .ok (.getfield 22, 3) := by decide +kernel
theorem dX2_exchange_11 : decode cX2_exchange 11 = .ok (.iload_n 1, 1) := by decide +kernel
theorem dX2_exchange_12 : decode cX2_exchange 12 = .ok (.laload, 1) := by decide +kernel
theorem dX2_exchange_13 : decode cX2_exchange 13 = .ok (.lstore 4, 2) := by decide +kernel
theorem dX2_exchange_15 : decode cX2_exchange 15 = .ok (.aload_n 0, 1) := by decide +kernel
theorem dX2_exchange_16 : decode cX2_exchange 16 = .ok (.iload_n 1, 1) := by decide +kernel
theorem dX2_exchange_17 : decode cX2_exchange 17 = .ok (.aload_n 0, 1) := by decide +kernel
theorem dX2_exchange_18 : decode cX2_exchange 18 = .ok (.getfield 18, 3) := by decide +kernel
theorem dX2_exchange_21 : decode cX2_exchange 21 = .ok (.iload_n 2, 1) := by decide +kernel
theorem dX2_exchange_22 : decode cX2_exchange 22 = .ok (.iaload, 1) := by decide +kernel
theorem dX2_exchange_23 : decode cX2_exchange 23 = .ok (.aload_n 0, 1) := by decide +kernel
theorem dX2_exchange_24 : decode cX2_exchange 24 = .ok (.getfield 22, 3) := by decide +kernel
theorem dX2_exchange_27 : decode cX2_exchange 27 = .ok (.iload_n 2, 1) := by decide +kernel
theorem dX2_exchange_28 : decode cX2_exchange 28 = .ok (.laload, 1) := by decide +kernel
theorem dX2_exchange_29 : decode cX2_exchange 29 = .ok (.invokevirtual 36, 3) := by decide +kernel
theorem dX2_exchange_32 : decode cX2_exchange 32 = .ok (.aload_n 0, 1) := by decide +kernel
theorem dX2_exchange_33 : decode cX2_exchange 33 = .ok (.iload_n 2, 1) := by decide +kernel
theorem dX2_exchange_34 : decode cX2_exchange 34 = .ok (.iload_n 3, 1) := by decide +kernel
theorem dX2_exchange_35 : decode cX2_exchange 35 = .ok (.lload 4, 2) := by decide +kernel
theorem dX2_exchange_37 : decode cX2_exchange 37 = .ok (.invokevirtual 36, 3) := by decide +kernel
theorem dX2_exchange_40 : decode cX2_exchange 40 = .ok (.return_, 1) := by decide +kernel
theorem dX2_relink_0 : decode cX2_relink 0 = .ok (.iconst 0, 1) := by decide +kernel
theorem dX2_relink_1 : decode cX2_relink 1 = .ok (.istore_n 2, 1) := by decide +kernel
theorem dX2_relink_2 : decode cX2_relink 2 = .ok (.iload_n 2, 1) := by decide +kernel
theorem dX2_relink_3 : decode cX2_relink 3 = .ok (.aload_n 0, 1) := by decide +kernel
theorem dX2_relink_4 : decode cX2_relink 4 = .ok (.getfield 15, 3) := by decide +kernel
theorem dX2_relink_7 : decode cX2_relink 7 = .ok (.if_icmp .ge 36, 3) := by decide +kernel
theorem dX2_relink_10 : decode cX2_relink 10 = .ok (.aload_n 0, 1) := by decide +kernel
theorem dX2_relink_11 : decode cX2_relink 11 = .ok (.getfield 18, 3) := by decide +kernel
theorem dX2_relink_14 : decode cX2_relink 14 = .ok (.iload_n 2, 1) := by decide +kernel
theorem dX2_relink_15 : decode cX2_relink 15 = .ok (.iaload, 1) := by decide +kernel
theorem dX2_relink_16 : decode cX2_relink 16 = .ok (.bipush 10, 2) := by decide +kernel
theorem dX2_relink_18 : decode cX2_relink 18 = .ok (.if_icmp .ne 19, 3) := by decide +kernel
theorem dX2_relink_21 : decode cX2_relink 21 = .ok (.aload_n 0, 1) := by decide +kernel
theorem dX2_relink_22 : decode cX2_relink 22 = .ok (.getfield 22, 3) := by decide +kernel
theorem dX2_relink_25 : decode cX2_relink 25 = .ok (.iload_n 2, 1) := by decide +kernel
theorem dX2_relink_26 : decode cX2_relink 26 = .ok (.aload_n 1, 1) := by decide +kernel
theorem dX2_relink_27 : decode cX2_relink 27 = .ok (.aload_n 0, 1) := by decide +kernel
theorem dX2_relink_28 : decode cX2_relink 28 = .ok (.getfield 22, 3) := by decide +kernel
theorem dX2_relink_31 : decode cX2_relink 31 = .ok (.iload_n 2, 1) := by decide +kernel
theorem dX2_relink_32 : decode cX2_relink 32 = .ok (.laload, 1) := by decide +kernel
theorem dX2_relink_33 : decode cX2_relink 33 = .ok (.l2i, 1) := by decide +kernel
theorem dX2_relink_34 : decode cX2_relink 34 = .ok (.iaload, 1) := by decide +kernel
theorem dX2_relink_35 : decode cX2_relink 35 = .ok (.i2l, 1) := by decide +kernel
theorem dX2_relink_36 : decode cX2_relink 36 = .ok (.lastore, 1) := by decide +kernel
theorem dX2_relink_37 : decode cX2_relink 37 = .ok (.iinc 2 1, 3) := by decide +kernel
theorem dX2_relink_40 : decode cX2_relink 40 = .ok (.goto (-38), 3) := by decide +kernel
theorem dX2_relink_43 : decode cX2_relink 43 = .ok (.return_, 1) := by decide +kernel
theorem dX3_init_0 : decode cX3_init 0 = .ok (.aload_n 0, 1) := by decide +kernel
theorem dX3_init_1 : decode cX3_init 1 = .ok (.invokespecial 3, 3) := by decide +kernel
theorem dX3_init_4 : decode cX3_init 4 = .ok (.aload_n 0, 1) := by decide +kernel
theorem dX3_init_5 : decode cX3_init 5 = .ok (.iconst 0, 1) := by decide +kernel
theorem dX3_init_6 : decode cX3_init 6 = .ok (.putfield 9, 3) := by decide +kernel
theorem dX3_init_9 : decode cX3_init 9 = .ok (.aload_n 0, 1) := by decide +kernel
theorem dX3_init_10 : decode cX3_init 10 = .ok (.iload_n 1, 1) := by decide +kernel
theorem dX3_init_11 : decode cX3_init 11 = .ok (.ifCond .ge 7, 3) := by decide +kernel
theorem dX3_init_14 : decode cX3_init 14 = .ok (.iconst 0, 1) := by decide +kernel
theorem dX3_init_15 : decode cX3_init 15 = .ok (.goto 4, 3) := by decide +kernel
theorem dX3_init_18 : decode cX3_init 18 = .ok (.iload_n 1, 1) := by decide +kernel
theorem dX3_init_19 : decode cX3_init 19 = .ok (.newarray .int, 2) := by decide +kernel
theorem dX3_init_21 : decode cX3_init 21 = .ok (.putfield 15, 3) := by decide +kernel
theorem dX3_init_24 : decode cX3_init 24 = .ok (.return_, 1) := by decide +kernel
theorem dX3_has_0 : decode cX3_has 0 = .ok (.iload_n 1, 1) := by decide +kernel
theorem dX3_has_1 : decode cX3_has 1 = .ok (.ifCond .lt 15, 3) := by decide +kernel
theorem dX3_has_4 : decode cX3_has 4 = .ok (.iload_n 1, 1) := by decide +kernel
theorem dX3_has_5 : decode cX3_has 5 = .ok (.aload_n 0, 1) := by decide +kernel
theorem dX3_has_6 : decode cX3_has 6 = .ok (.getfield 9, 3) := by decide +kernel
theorem dX3_has_9 : decode cX3_has 9 = .ok (.if_icmp .ge 7, 3) := by decide +kernel
theorem dX3_has_12 : decode cX3_has 12 = .ok (.iconst 1, 1) := by decide +kernel
theorem dX3_has_13 : decode cX3_has 13 = .ok (.goto 4, 3) := by decide +kernel
theorem dX3_has_16 : decode cX3_has 16 = .ok (.iconst 0, 1) := by decide +kernel
theorem dX3_has_17 : decode cX3_has 17 = .ok (.ireturn, 1) := by decide +kernel
theorem dX3_at_0 : decode cX3_at 0 = .ok (.iload_n 1, 1) := by decide +kernel
theorem dX3_at_1 : decode cX3_at 1 = .ok (.ifCond .lt 20, 3) := by decide +kernel
theorem dX3_at_4 : decode cX3_at 4 = .ok (.iload_n 1, 1) := by decide +kernel
theorem dX3_at_5 : decode cX3_at 5 = .ok (.aload_n 0, 1) := by decide +kernel
theorem dX3_at_6 : decode cX3_at 6 = .ok (.getfield 9, 3) := by decide +kernel
theorem dX3_at_9 : decode cX3_at 9 = .ok (.if_icmp .ge 12, 3) := by decide +kernel
theorem dX3_at_12 : decode cX3_at 12 = .ok (.aload_n 0, 1) := by decide +kernel
theorem dX3_at_13 : decode cX3_at 13 = .ok (.getfield 15, 3) := by decide +kernel
theorem dX3_at_16 : decode cX3_at 16 = .ok (.iload_n 1, 1) := by decide +kernel
theorem dX3_at_17 : decode cX3_at 17 = .ok (.iaload, 1) := by decide +kernel
theorem dX3_at_18 : decode cX3_at 18 = .ok (.goto 4, 3) := by decide +kernel
theorem dX3_at_21 : decode cX3_at 21 = .ok (.iconst (-1), 1) := by decide +kernel
theorem dX3_at_22 : decode cX3_at 22 = .ok (.ireturn, 1) := by decide +kernel
theorem dX3_add_0 : decode cX3_add 0 = .ok (.aload_n 0, 1) := by decide +kernel
theorem dX3_add_1 : decode cX3_add 1 = .ok (.getfield 9, 3) := by decide +kernel
theorem dX3_add_4 : decode cX3_add 4 = .ok (.aload_n 0, 1) := by decide +kernel
theorem dX3_add_5 : decode cX3_add 5 = .ok (.getfield 15, 3) := by decide +kernel
theorem dX3_add_8 : decode cX3_add 8 = .ok (.arraylength, 1) := by decide +kernel
theorem dX3_add_9 : decode cX3_add 9 = .ok (.if_icmp .lt 4, 3) := by decide +kernel
theorem dX3_add_12 : decode cX3_add 12 = .ok (.return_, 1) := by decide +kernel
theorem dX3_add_13 : decode cX3_add 13 = .ok (.aload_n 0, 1) := by decide +kernel
theorem dX3_add_14 : decode cX3_add 14 = .ok (.getfield 15, 3) := by decide +kernel
theorem dX3_add_17 : decode cX3_add 17 = .ok (.aload_n 0, 1) := by decide +kernel
theorem dX3_add_18 : decode cX3_add 18 = .ok (.getfield 9, 3) := by decide +kernel
theorem dX3_add_21 : decode cX3_add 21 = .ok (.iload_n 1, 1) := by decide +kernel
theorem dX3_add_22 : decode cX3_add 22 = .ok (.iastore, 1) := by decide +kernel
theorem dX3_add_23 : decode cX3_add 23 = .ok (.aload_n 0, 1) := by decide +kernel
theorem dX3_add_24 : decode cX3_add 24 = .ok (.dup, 1) := by decide +kernel
theorem dX3_add_25 : decode cX3_add 25 = .ok (.getfield 9, 3) := by decide +kernel
theorem dX3_add_28 : decode cX3_add 28 = .ok (.iconst 1, 1) := by decide +kernel
theorem dX3_add_29 : decode cX3_add 29 = .ok (.iadd, 1) := by decide +kernel
theorem dX3_add_30 : decode cX3_add 30 = .ok (.putfield 9, 3) := by decide +kernel
theorem dX3_add_33 : decode cX3_add 33 = .ok (.return_, 1) := by decide +kernel
theorem dX3_replace_0 : decode cX3_replace 0 = .ok (.aload_n 0, 1) := by decide +kernel
theorem dX3_replace_1 : decode cX3_replace 1 = .ok (.iload_n 1, 1) := by decide +kernel
theorem dX3_replace_2 : decode cX3_replace 2 = .ok (.invokevirtual 19, 3) := by decide +kernel
theorem dX3_replace_5 : decode cX3_replace 5 = .ok (.ifCond .eq 10, 3) := by decide +kernel
theorem dX3_replace_8 : decode cX3_replace 8 = .ok (.aload_n 0, 1) := by decide +kernel
theorem dX3_replace_9 : decode cX3_replace 9 = .ok (.getfield 15, 3) := by decide +kernel
theorem dX3_replace_12 : decode cX3_replace 12 = .ok (.iload_n 1, 1) := by decide +kernel
theorem dX3_replace_13 : decode cX3_replace 13 = .ok (.iload_n 2, 1) := by decide +kernel
theorem dX3_replace_14 : decode cX3_replace 14 = .ok (.iastore, 1) := by decide +kernel
theorem dX3_replace_15 : decode cX3_replace 15 = .ok (.return_, 1) := by decide +kernel
theorem dX3_append_0 : decode cX3_append 0 = .ok (.aload_n 0, 1) := by decide +kernel
theorem dX3_append_1 : decode cX3_append 1 = .ok (.getfield 9, 3) := by decide +kernel
theorem dX3_append_4 : decode cX3_append 4 = .ok (.aload_n 1, 1) := by decide +kernel
theorem dX3_append_5 : decode cX3_append 5 = .ok (.getfield 9, 3) := by decide +kernel
theorem dX3_append_8 : decode cX3_append 8 = .ok (.iadd, 1) := by decide +kernel
theorem dX3_append_9 : decode cX3_append 9 = .ok (.aload_n 0, 1) := by decide +kernel
theorem dX3_append_10 : decode cX3_append 10 = .ok (.getfield 15, 3) := by decide +kernel
theorem dX3_append_13 : decode cX3_append 13 = .ok (.arraylength, 1) := by decide +kernel
theorem dX3_append_14 : decode cX3_append 14 = .ok (.if_icmp .le 5, 3) := by decide +kernel
theorem dX3_append_17 : decode cX3_append 17 = .ok (.iconst 0, 1) := by decide +kernel
theorem dX3_append_18 : decode cX3_append 18 = .ok (.ireturn, 1) := by decide +kernel
theorem dX3_append_19 : decode cX3_append 19 = .ok (.aload_n 1, 1) := by decide +kernel
theorem dX3_append_20 : decode cX3_append 20 = .ok (.getfield 15, 3) := by decide +kernel
theorem dX3_append_23 : decode cX3_append 23 = .ok (.iconst 0, 1) := by decide +kernel
theorem dX3_append_24 : decode cX3_append 24 = .ok (.aload_n 0, 1) := by decide +kernel
theorem dX3_append_25 : decode cX3_append 25 = .ok (.getfield 15, 3) := by decide +kernel
theorem dX3_append_28 : decode cX3_append 28 = .ok (.aload_n 0, 1) := by decide +kernel
theorem dX3_append_29 : decode cX3_append 29 = .ok (.getfield 9, 3) := by decide +kernel
theorem dX3_append_32 : decode cX3_append 32 = .ok (.aload_n 1, 1) := by decide +kernel
theorem dX3_append_33 : decode cX3_append 33 = .ok (.getfield 9, 3) := by decide +kernel
theorem dX3_append_36 : decode cX3_append 36 = .ok (.invokestatic 23, 3) := by decide +kernel
theorem dX3_append_39 : decode cX3_append 39 = .ok (.aload_n 0, 1) := by decide +kernel
theorem dX3_append_40 : decode cX3_append 40 = .ok (.dup, 1) := by decide +kernel
theorem dX3_append_41 : decode cX3_append 41 = .ok (.getfield 9, 3) := by decide +kernel
theorem dX3_append_44 : decode cX3_append 44 = .ok (.aload_n 1, 1) := by decide +kernel
theorem dX3_append_45 : decode cX3_append 45 = .ok (.getfield 9, 3) := by decide +kernel
theorem dX3_append_48 : decode cX3_append 48 = .ok (.iadd, 1) := by decide +kernel
theorem dX3_append_49 : decode cX3_append 49 = .ok (.putfield 9, 3) := by decide +kernel
theorem dX3_append_52 : decode cX3_append 52 = .ok (.iconst 1, 1) := by decide +kernel
theorem dX3_append_53 : decode cX3_append 53 = .ok (.ireturn, 1) := by decide +kernel
theorem dX3_firstDifference_0 : decode cX3_firstDifference 0 = .ok (.aload_n 0, 1) := by decide +kernel
theorem dX3_firstDifference_1 : decode cX3_firstDifference 1 = .ok (.getfield 9, 3) := by decide +kernel
theorem dX3_firstDifference_4 : decode cX3_firstDifference 4 = .ok (.aload_n 1, 1) := by decide +kernel
theorem dX3_firstDifference_5 : decode cX3_firstDifference 5 = .ok (.getfield 9, 3) := by decide +kernel
theorem dX3_firstDifference_8 : decode cX3_firstDifference 8 = .ok (.invokestatic 29, 3) := by decide +kernel
theorem dX3_firstDifference_11 : decode cX3_firstDifference 11 = .ok (.istore_n 2, 1) := by decide +kernel
theorem dX3_firstDifference_12 : decode cX3_firstDifference 12 = .ok (.iconst 0, 1) := by decide +kernel
theorem dX3_firstDifference_13 : decode cX3_firstDifference 13 = .ok (.istore_n 3, 1) := by decide +kernel
theorem dX3_firstDifference_14 : decode cX3_firstDifference 14 = .ok (.iload_n 3, 1) := by decide +kernel
theorem dX3_firstDifference_15 : decode cX3_firstDifference 15 = .ok (.iload_n 2, 1) := by decide +kernel
theorem dX3_firstDifference_16 : decode cX3_firstDifference 16 = .ok (.if_icmp .ge 26, 3) := by decide +kernel
theorem dX3_firstDifference_19 : decode cX3_firstDifference 19 = .ok (.aload_n 0, 1) := by decide +kernel
theorem dX3_firstDifference_20 : decode cX3_firstDifference 20 = .ok (.getfield 15, 3) := by decide +kernel
theorem dX3_firstDifference_23 : decode cX3_firstDifference 23 = .ok (.iload_n 3, 1) := by decide +kernel
theorem dX3_firstDifference_24 : decode cX3_firstDifference 24 = .ok (.iaload, 1) := by decide +kernel
theorem dX3_firstDifference_25 : decode cX3_firstDifference 25 = .ok (.aload_n 1, 1) := by decide +kernel
theorem dX3_firstDifference_26 : decode cX3_firstDifference 26 = .ok (.getfield 15, 3) := by decide +kernel
theorem dX3_firstDifference_29 : decode cX3_firstDifference 29 = .ok (.iload_n 3, 1) := by decide +kernel
theorem dX3_firstDifference_30 : decode cX3_firstDifference 30 = .ok (.iaload, 1) := by decide +kernel
theorem dX3_firstDifference_31 : decode cX3_firstDifference 31 = .ok (.if_icmp .eq 5, 3) := by decide +kernel
theorem dX3_firstDifference_34 : decode cX3_firstDifference 34 = .ok (.iload_n 3, 1) := by decide +kernel
theorem dX3_firstDifference_35 : decode cX3_firstDifference 35 = .ok (.ireturn, 1) := by decide +kernel
theorem dX3_firstDifference_36 : decode cX3_firstDifference 36 = .ok (.iinc 3 1, 3) := by decide +kernel
theorem dX3_firstDifference_39 : decode cX3_firstDifference 39 = .ok (.goto (-25), 3) := by decide +kernel
theorem dX3_firstDifference_42 : decode cX3_firstDifference 42 = .ok (.aload_n 0, 1) := by decide +kernel
theorem dX3_firstDifference_43 : decode cX3_firstDifference 43 = .ok (.getfield 9, 3) := by decide +kernel
theorem dX3_firstDifference_46 : decode cX3_firstDifference 46 = .ok (.aload_n 1, 1) := by decide +kernel
theorem dX3_firstDifference_47 : decode cX3_firstDifference 47 = .ok (.getfield 9, 3) := by decide +kernel
theorem dX3_firstDifference_50 : decode cX3_firstDifference 50 = .ok (.if_icmp .ne 8, 3) := by decide +kernel
theorem dX3_firstDifference_53 : decode cX3_firstDifference 53 = .ok (.bipush (-4), 2) := by decide +kernel
theorem dX3_firstDifference_55 : decode cX3_firstDifference 55 = .ok (.goto 4, 3) := by decide +kernel
theorem dX3_firstDifference_58 : decode cX3_firstDifference 58 = .ok (.iload_n 2, 1) := by decide +kernel
theorem dX3_firstDifference_59 : decode cX3_firstDifference 59 = .ok (.ireturn, 1) := by decide +kernel
theorem dX4_init_0 : decode cX4_init 0 = .ok (.aload_n 0, 1) := by decide +kernel
theorem dX4_init_1 : decode cX4_init 1 = .ok (.invokespecial 3, 3) := by decide +kernel
theorem dX4_init_4 : decode cX4_init 4 = .ok (.aload_n 0, 1) := by decide +kernel
theorem dX4_init_5 : decode cX4_init 5 = .ok (.bipush 12, 2) := by decide +kernel
theorem dX4_init_7 : decode cX4_init 7 = .ok (.newarray .int, 2) := by decide +kernel
theorem dX4_init_9 : decode cX4_init 9 = .ok (.putfield 9, 3) := by decide +kernel
theorem dX4_init_12 : decode cX4_init 12 = .ok (.aload_n 0, 1) := by decide +kernel
theorem dX4_init_13 : decode cX4_init 13 = .ok (.iconst 0, 1) := by decide +kernel
theorem dX4_init_14 : decode cX4_init 14 = .ok (.putfield 15, 3) := by decide +kernel
theorem dX4_init_17 : decode cX4_init 17 = .ok (.aload_n 0, 1) := by decide +kernel
theorem dX4_init_18 : decode cX4_init 18 = .ok (.iconst 0, 1) := by decide +kernel
theorem dX4_init_19 : decode cX4_init 19 = .ok (.putfield 19, 3) := by decide +kernel
theorem dX4_init_22 : decode cX4_init 22 = .ok (.aload_n 0, 1) := by decide +kernel
theorem dX4_init_23 : decode cX4_init 23 = .ok (.aload_n 1, 1) := by decide +kernel
theorem dX4_init_24 : decode cX4_init 24 = .ok (.putfield 22, 3) := by decide +kernel
theorem dX4_init_27 : decode cX4_init 27 = .ok (.aload_n 0, 1) := by decide +kernel
theorem dX4_init_28 : decode cX4_init 28 = .ok (.aload_n 2, 1) := by decide +kernel
theorem dX4_init_29 : decode cX4_init 29 = .ok (.putfield 26, 3) := by decide +kernel
theorem dX4_init_32 : decode cX4_init 32 = .ok (.return_, 1) := by decide +kernel
theorem dX4_write_0 : decode cX4_write 0 = .ok (.aload_n 0, 1) := by decide +kernel
theorem dX4_write_1 : decode cX4_write 1 = .ok (.getfield 26, 3) := by decide +kernel
theorem dX4_write_4 : decode cX4_write 4 = .ok (.iconst 0, 1) := by decide +kernel
theorem dX4_write_5 : decode cX4_write 5 = .ok (.putfield 30, 3) := by decide +kernel
theorem dX4_write_8 : decode cX4_write 8 = .ok (.aload_n 0, 1) := by decide +kernel
theorem dX4_write_9 : decode cX4_write 9 = .ok (.iconst 0, 1) := by decide +kernel
theorem dX4_write_10 : decode cX4_write 10 = .ok (.putfield 15, 3) := by decide +kernel
theorem dX4_write_13 : decode cX4_write 13 = .ok (.aload_n 0, 1) := by decide +kernel
theorem dX4_write_14 : decode cX4_write 14 = .ok (.iload_n 2, 1) := by decide +kernel
theorem dX4_write_15 : decode cX4_write 15 = .ok (.putfield 19, 3) := by decide +kernel
theorem dX4_write_18 : decode cX4_write 18 = .ok (.iconst 0, 1) := by decide +kernel
theorem dX4_write_19 : decode cX4_write 19 = .ok (.istore_n 3, 1) := by decide +kernel
theorem dX4_write_20 : decode cX4_write 20 = .ok (.iload_n 3, 1) := by decide +kernel
theorem dX4_write_21 : decode cX4_write 21 = .ok (.bipush 12, 2) := by decide +kernel
theorem dX4_write_23 : decode cX4_write 23 = .ok (.if_icmp .ge 16, 3) := by decide +kernel
theorem dX4_write_26 : decode cX4_write 26 = .ok (.aload_n 0, 1) := by decide +kernel
theorem dX4_write_27 : decode cX4_write 27 = .ok (.getfield 9, 3) := by decide +kernel
theorem dX4_write_30 : decode cX4_write 30 = .ok (.iload_n 3, 1) := by decide +kernel
theorem dX4_write_31 : decode cX4_write 31 = .ok (.iconst (-1), 1) := by decide +kernel
theorem dX4_write_32 : decode cX4_write 32 = .ok (.iastore, 1) := by decide +kernel
theorem dX4_write_33 : decode cX4_write 33 = .ok (.iinc 3 1, 3) := by decide +kernel
theorem dX4_write_36 : decode cX4_write 36 = .ok (.goto (-16), 3) := by decide +kernel
theorem dX4_write_39 : decode cX4_write 39 = .ok (.aload_n 0, 1) := by decide +kernel
theorem dX4_write_40 : decode cX4_write 40 = .ok (.getfield 22, 3) := by decide +kernel
theorem dX4_write_43 : decode cX4_write 43 = .ok (.iload_n 1, 1) := by decide +kernel
theorem dX4_write_44 : decode cX4_write 44 = .ok (.aaload, 1) := by decide +kernel
theorem dX4_write_45 : decode cX4_write 45 = .ok (.astore_n 3, 1) := by decide +kernel
theorem dX4_write_46 : decode cX4_write 46 = .ok (.aload_n 3, 1) := by decide +kernel
theorem dX4_write_47 : decode cX4_write 47 = .ok (.invokevirtual 35, 3) := by decide +kernel
theorem dX4_write_50 : decode cX4_write 50 = .ok (.ifCond .eq 11, 3) := by decide +kernel
theorem dX4_write_53 : decode cX4_write 53 = .ok (.aload_n 0, 1) := by decide +kernel
theorem dX4_write_54 : decode cX4_write 54 = .ok (.iload_n 1, 1) := by decide +kernel
theorem dX4_write_55 : decode cX4_write 55 = .ok (.invokevirtual 41, 3) := by decide +kernel
theorem dX4_write_58 : decode cX4_write 58 = .ok (.goto 29, 3) := by decide +kernel
theorem dX4_write_61 : decode cX4_write 61 = .ok (.aload_n 0, 1) := by decide +kernel
theorem dX4_write_62 : decode cX4_write 62 = .ok (.aload_n 3, 1) := by decide +kernel
theorem dX4_write_63 : decode cX4_write 63 = .ok (.getfield 45, 3) := by decide +kernel
theorem dX4_write_66 : decode cX4_write 66 = .ok (.bipush 15, 2) := by decide +kernel
theorem dX4_write_68 : decode cX4_write 68 = .ok (.if_icmp .ne 8, 3) := by decide +kernel
theorem dX4_write_71 : decode cX4_write 71 = .ok (.bipush 8, 2) := by decide +kernel
theorem dX4_write_73 : decode cX4_write 73 = .ok (.goto 5, 3) := by decide +kernel
theorem dX4_write_76 : decode cX4_write 76 = .ok (.bipush 9, 2) := by decide +kernel
theorem dX4_write_78 : decode cX4_write 78 = .ok (.aload_n 3, 1) := by decide +kernel
theorem dX4_write_79 : decode cX4_write 79 = .ok (.getfield 48, 3) := by decide +kernel
theorem dX4_write_82 : decode cX4_write 82 = .ok (.iconst 0, 1) := by decide +kernel
theorem dX4_write_83 : decode cX4_write 83 = .ok (.laload, 1) := by decide +kernel
theorem dX4_write_84 : decode cX4_write 84 = .ok (.invokevirtual 52, 3) := by decide +kernel
theorem dX4_write_87 : decode cX4_write 87 = .ok (.return_, 1) := by decide +kernel
theorem dX4_writeArray_0 : decode cX4_writeArray 0 = .ok (.aload_n 0, 1) := by decide +kernel
theorem dX4_writeArray_1 : decode cX4_writeArray 1 = .ok (.getfield 9, 3) := by decide +kernel
theorem dX4_writeArray_4 : decode cX4_writeArray 4 = .ok (.iload_n 1, 1) := by decide +kernel
theorem dX4_writeArray_5 : decode cX4_writeArray 5 = .ok (.iaload, 1) := by decide +kernel
theorem dX4_writeArray_6 : decode cX4_writeArray 6 = .ok (.ifCond .lt 26, 3) := by decide +kernel
theorem dX4_writeArray_9 : decode cX4_writeArray 9 = .ok (.aload_n 0, 1) := by decide +kernel
theorem dX4_writeArray_10 : decode cX4_writeArray 10 = .ok (.getfield 26, 3) := by decide +kernel
theorem dX4_writeArray_13 : decode cX4_writeArray 13 = .ok (.bipush 10, 2) := by decide +kernel
theorem dX4_writeArray_15 : decode cX4_writeArray 15 = .ok (.invokevirtual 56, 3) := by decide +kernel
theorem dX4_writeArray_18 : decode cX4_writeArray 18 = .ok (.aload_n 0, 1) := by decide +kernel
theorem dX4_writeArray_19 : decode cX4_writeArray 19 = .ok (.getfield 26, 3) := by decide +kernel
theorem dX4_writeArray_22 : decode cX4_writeArray 22 = .ok (.aload_n 0, 1) := by decide +kernel
theorem dX4_writeArray_23 : decode cX4_writeArray 23 = .ok (.getfield 9, 3) := by decide +kernel
theorem dX4_writeArray_26 : decode cX4_writeArray 26 = .ok (.iload_n 1, 1) := by decide +kernel
theorem dX4_writeArray_27 : decode cX4_writeArray 27 = .ok (.iaload, 1) := by decide +kernel
theorem dX4_writeArray_28 : decode cX4_writeArray 28 = .ok (.invokevirtual 56, 3) := by decide +kernel
theorem dX4_writeArray_31 : decode cX4_writeArray 31 = .ok (.return_, 1) := by decide +kernel
theorem dX4_writeArray_32 : decode cX4_writeArray 32 = .ok (.aload_n 0, 1) := by decide +kernel
theorem dX4_writeArray_33 : decode cX4_writeArray 33 = .ok (.getfield 15, 3) := by decide +kernel
theorem dX4_writeArray_36 : decode cX4_writeArray 36 = .ok (.bipush 12, 2) := by decide +kernel
theorem dX4_writeArray_38 : decode cX4_writeArray 38 = .ok (.if_icmp .lt 4, 3) := by decide +kernel
theorem dX4_writeArray_41 : decode cX4_writeArray 41 = .ok (.return_, 1) := by decide +kernel
theorem dX4_writeArray_42 : decode cX4_writeArray 42 = .ok (.aload_n 0, 1) := by decide +kernel
theorem dX4_writeArray_43 : decode cX4_writeArray 43 = .ok (.getfield 9, 3) := by decide +kernel
theorem dX4_writeArray_46 : decode cX4_writeArray 46 = .ok (.iload_n 1, 1) := by decide +kernel
theorem dX4_writeArray_47 : decode cX4_writeArray 47 = .ok (.aload_n 0, 1) := by decide +kernel
theorem dX4_writeArray_48 : decode cX4_writeArray 48 = .ok (.getfield 15, 3) := by decide +kernel
theorem dX4_writeArray_51 : decode cX4_writeArray 51 = .ok (.iastore, 1) := by decide +kernel
theorem dX4_writeArray_52 : decode cX4_writeArray 52 = .ok (.aload_n 0, 1) := by decide +kernel
theorem dX4_writeArray_53 : decode cX4_writeArray 53 = .ok (.dup, 1) := by decide +kernel
theorem dX4_writeArray_54 : decode cX4_writeArray 54 = .ok (.getfield 15, 3) := by decide +kernel
theorem dX4_writeArray_57 : decode cX4_writeArray 57 = .ok (.iconst 1, 1) := by decide +kernel
theorem dX4_writeArray_58 : decode cX4_writeArray 58 = .ok (.iadd, 1) := by decide +kernel
theorem dX4_writeArray_59 : decode cX4_writeArray 59 = .ok (.putfield 15, 3) := by decide +kernel
theorem dX4_writeArray_62 : decode cX4_writeArray 62 = .ok (.aload_n 0, 1) := by decide +kernel
theorem dX4_writeArray_63 : decode cX4_writeArray 63 = .ok (.getfield 22, 3) := by decide +kernel
theorem dX4_writeArray_66 : decode cX4_writeArray 66 = .ok (.iload_n 1, 1) := by decide +kernel
theorem dX4_writeArray_67 : decode cX4_writeArray 67 = .ok (.aaload, 1) := by decide +kernel
theorem dX4_writeArray_68 : decode cX4_writeArray 68 = .ok (.astore_n 2, 1) := by decide +kernel
theorem dX4_writeArray_69 : decode cX4_writeArray 69 = .ok (.aload_n 2, 1) := by decide +kernel
theorem dX4_writeArray_70 : decode cX4_writeArray 70 = .ok (.invokevirtual 59, 3) := by decide +kernel
theorem dX4_writeArray_73 : decode cX4_writeArray 73 = .ok (.ifCond .eq 11, 3) := by decide +kernel
theorem dX4_writeArray_76 : decode cX4_writeArray 76 = .ok (.aload_n 0, 1) := by decide +kernel
theorem dX4_writeArray_77 : decode cX4_writeArray 77 = .ok (.aload_n 2, 1) := by decide +kernel
theorem dX4_writeArray_78 : decode cX4_writeArray 78 = .ok (.invokevirtual 62, 3) := by decide +kernel
theorem dX4_writeArray_81 : decode cX4_writeArray 81 = .ok (.goto 8, 3) := by decide +kernel
theorem dX4_writeArray_84 : decode cX4_writeArray 84 = .ok (.aload_n 0, 1) := by decide +kernel
theorem dX4_writeArray_85 : decode cX4_writeArray 85 = .ok (.aload_n 2, 1) := by decide +kernel
theorem dX4_writeArray_86 : decode cX4_writeArray 86 = .ok (.invokevirtual 66, 3) := by decide +kernel
theorem dX4_writeArray_89 : decode cX4_writeArray 89 = .ok (.return_, 1) := by decide +kernel
theorem dX4_writeObjects_0 : decode cX4_writeObjects 0 = .ok (.aload_n 0, 1) := by decide +kernel
theorem dX4_writeObjects_1 : decode cX4_writeObjects 1 = .ok (.iconst 0, 1) := by decide +kernel
theorem dX4_writeObjects_2 : decode cX4_writeObjects 2 = .ok (.aload_n 1, 1) := by decide +kernel
theorem dX4_writeObjects_3 : decode cX4_writeObjects 3 = .ok (.invokevirtual 69, 3) := by decide +kernel
theorem dX4_writeObjects_6 : decode cX4_writeObjects 6 = .ok (.iconst 0, 1) := by decide +kernel
theorem dX4_writeObjects_7 : decode cX4_writeObjects 7 = .ok (.istore_n 2, 1) := by decide +kernel
theorem dX4_writeObjects_8 : decode cX4_writeObjects 8 = .ok (.iload_n 2, 1) := by decide +kernel
theorem dX4_writeObjects_9 : decode cX4_writeObjects 9 = .ok (.aload_n 1, 1) := by decide +kernel
theorem dX4_writeObjects_10 : decode cX4_writeObjects 10 = .ok (.getfield 73, 3) := by decide +kernel
theorem dX4_writeObjects_13 : decode cX4_writeObjects 13 = .ok (.if_icmp .ge 50, 3) := by decide +kernel
theorem dX4_writeObjects_16 : decode cX4_writeObjects 16 = .ok (.aload_n 1, 1) := by decide +kernel
theorem dX4_writeObjects_17 : decode cX4_writeObjects 17 = .ok (.getfield 74, 3) := by decide +kernel
theorem dX4_writeObjects_20 : decode cX4_writeObjects 20 = .ok (.iload_n 2, 1) := by decide +kernel
theorem dX4_writeObjects_21 : decode cX4_writeObjects 21 = .ok (.iaload, 1) := by decide +kernel
theorem dX4_writeObjects_22 : decode cX4_writeObjects 22 = .ok (.bipush 10, 2) := by decide +kernel
theorem dX4_writeObjects_24 : decode cX4_writeObjects 24 = .ok (.if_icmp .ne 17, 3) := by decide +kernel
theorem dX4_writeObjects_27 : decode cX4_writeObjects 27 = .ok (.aload_n 0, 1) := by decide +kernel
theorem dX4_writeObjects_28 : decode cX4_writeObjects 28 = .ok (.aload_n 1, 1) := by decide +kernel
theorem dX4_writeObjects_29 : decode cX4_writeObjects 29 = .ok (.getfield 48, 3) := by decide +kernel
theorem dX4_writeObjects_32 : decode cX4_writeObjects 32 = .ok (.iload_n 2, 1) := by decide +kernel
theorem dX4_writeObjects_33 : decode cX4_writeObjects 33 = .ok (.laload, 1) := by decide +kernel
theorem dX4_writeObjects_34 : decode cX4_writeObjects 34 = .ok (.l2i, 1) := by decide +kernel
theorem dX4_writeObjects_35 : decode cX4_writeObjects 35 = .ok (.invokevirtual 41, 3) := by decide +kernel
theorem dX4_writeObjects_38 : decode cX4_writeObjects 38 = .ok (.goto 19, 3) := by decide +kernel
theorem dX4_writeObjects_41 : decode cX4_writeObjects 41 = .ok (.aload_n 0, 1) := by decide +kernel
theorem dX4_writeObjects_42 : decode cX4_writeObjects 42 = .ok (.aload_n 1, 1) := by decide +kernel
theorem dX4_writeObjects_43 : decode cX4_writeObjects 43 = .ok (.getfield 74, 3) := by decide +kernel
theorem dX4_writeObjects_46 : decode cX4_writeObjects 46 = .ok (.iload_n 2, 1) := by decide +kernel
theorem dX4_writeObjects_47 : decode cX4_writeObjects 47 = .ok (.iaload, 1) := by decide +kernel
theorem dX4_writeObjects_48 : decode cX4_writeObjects 48 = .ok (.aload_n 1, 1) := by decide +kernel
theorem dX4_writeObjects_49 : decode cX4_writeObjects 49 = .ok (.getfield 48, 3) := by decide +kernel
theorem dX4_writeObjects_52 : decode cX4_writeObjects 52 = .ok (.iload_n 2, 1) := by decide +kernel
theorem dX4_writeObjects_53 : decode cX4_writeObjects 53 = .ok (.laload, 1) := by decide +kernel
theorem dX4_writeObjects_54 : decode cX4_writeObjects 54 = .ok (.invokevirtual 52, 3) := by decide +kernel
theorem dX4_writeObjects_57 : decode cX4_writeObjects 57 = .ok (.iinc 2 1, 3) := by decide +kernel
theorem dX4_writeObjects_60 : decode cX4_writeObjects 60 = .ok (.goto (-52), 3) := by decide +kernel
theorem dX4_writeObjects_63 : decode cX4_writeObjects 63 = .ok (.return_, 1) := by decide +kernel
theorem dX4_writeTagged_0 : decode cX4_writeTagged 0 = .ok (.aload_n 0, 1) := by decide +kernel
theorem dX4_writeTagged_1 : decode cX4_writeTagged 1 = .ok (.getfield 26, 3) := by decide +kernel
theorem dX4_writeTagged_4 : decode cX4_writeTagged 4 = .ok (.iload_n 1, 1) := by decide +kernel
theorem dX4_writeTagged_5 : decode cX4_writeTagged 5 = .ok (.invokevirtual 56, 3) := by decide +kernel
theorem dX4_writeTagged_8 : decode cX4_writeTagged 8 = .ok (.iload_n 1, 1) := by decide +kernel
theorem dX4_writeTagged_9 : decode cX4_writeTagged 9 = .ok (.bipush 8, 2) := by decide +kernel
theorem dX4_writeTagged_11 : decode cX4_writeTagged 11 = .ok (.if_icmp .ne 11, 3) := by decide +kernel
theorem dX4_writeTagged_14 : decode cX4_writeTagged 14 = .ok (.aload_n 0, 1) := by decide +kernel
theorem dX4_writeTagged_15 : decode cX4_writeTagged 15 = .ok (.lload_n 2, 1) := by decide +kernel
theorem dX4_writeTagged_16 : decode cX4_writeTagged 16 = .ok (.invokevirtual 77, 3) := by decide +kernel
theorem dX4_writeTagged_19 : decode cX4_writeTagged 19 = .ok (.goto 34, 3) := by decide +kernel
theorem dX4_writeTagged_22 : decode cX4_writeTagged 22 = .ok (.iload_n 1, 1) := by decide +kernel
theorem dX4_writeTagged_23 : decode cX4_writeTagged 23 = .ok (.bipush 9, 2) := by decide +kernel
theorem dX4_writeTagged_25 : decode cX4_writeTagged 25 = .ok (.if_icmp .ne 15, 3) := by decide +kernel
theorem dX4_writeTagged_28 : decode cX4_writeTagged 28 = .ok (.aload_n 0, 1) := by decide +kernel
theorem dX4_writeTagged_29 : decode cX4_writeTagged 29 = .ok (.getfield 26, 3) := by decide +kernel
theorem dX4_writeTagged_32 : decode cX4_writeTagged 32 = .ok (.lload_n 2, 1) := by decide +kernel
theorem dX4_writeTagged_33 : decode cX4_writeTagged 33 = .ok (.l2i, 1) := by decide +kernel
theorem dX4_writeTagged_34 : decode cX4_writeTagged 34 = .ok (.invokevirtual 56, 3) := by decide +kernel
theorem dX4_writeTagged_37 : decode cX4_writeTagged 37 = .ok (.goto 16, 3) := by decide +kernel
theorem dX4_writeTagged_40 : decode cX4_writeTagged 40 = .ok (.iload_n 1, 1) := by decide +kernel
theorem dX4_writeTagged_41 : decode cX4_writeTagged 41 = .ok (.invokestatic 81, 3) := by decide +kernel
theorem dX4_writeTagged_44 : decode cX4_writeTagged 44 = .ok (.ifCond .eq 9, 3) := by decide +kernel
theorem dX4_writeTagged_47 : decode cX4_writeTagged 47 = .ok (.aload_n 0, 1) := by decide +kernel
theorem dX4_writeTagged_48 : decode cX4_writeTagged 48 = .ok (.iload_n 1, 1) := by decide +kernel
theorem dX4_writeTagged_49 : decode cX4_writeTagged 49 = .ok (.lload_n 2, 1) := by decide +kernel
theorem dX4_writeTagged_50 : decode cX4_writeTagged 50 = .ok (.invokevirtual 87, 3) := by decide +kernel
theorem dX4_writeTagged_53 : decode cX4_writeTagged 53 = .ok (.return_, 1) := by decide +kernel
theorem dX4_writeLetters_0 : decode cX4_writeLetters 0 = .ok (.iconst 0, 1) := by decide +kernel
theorem dX4_writeLetters_1 : decode cX4_writeLetters 1 = .ok (.istore_n 3, 1) := by decide +kernel
theorem dX4_writeLetters_2 : decode cX4_writeLetters 2 = .ok (.lload_n 1, 1) := by decide +kernel
theorem dX4_writeLetters_3 : decode cX4_writeLetters 3 = .ok (.lstore 4, 2) := by decide +kernel
theorem dX4_writeLetters_5 : decode cX4_writeLetters 5 = .ok (.lload 4, 2) := by decide +kernel
theorem dX4_writeLetters_7 : decode cX4_writeLetters 7 = .ok (.lconst 0, 1) := by decide +kernel
theorem dX4_writeLetters_8 : decode cX4_writeLetters 8 = .ok (.lcmp, 1) := by decide +kernel
theorem dX4_writeLetters_9 : decode cX4_writeLetters 9 = .ok (.ifCond .le 23, 3) := by decide +kernel
theorem dX4_writeLetters_12 : decode cX4_writeLetters 12 = .ok (.iload_n 3, 1) := by decide +kernel
theorem dX4_writeLetters_13 : decode cX4_writeLetters 13 = .ok (.bipush 7, 2) := by decide +kernel
theorem dX4_writeLetters_15 : decode cX4_writeLetters 15 = .ok (.if_icmp .ge 17, 3) := by decide +kernel
theorem dX4_writeLetters_18 : decode cX4_writeLetters 18 = .ok (.iinc 3 1, 3) := by decide +kernel
theorem dX4_writeLetters_21 : decode cX4_writeLetters 21 = .ok (.lload 4, 2) := by decide +kernel
theorem dX4_writeLetters_23 : decode cX4_writeLetters 23 = .ok (.ldc2_w 90, 3) := by decide +kernel
theorem dX4_writeLetters_26 : decode cX4_writeLetters 26 = .ok (.ldiv, 1) := by decide +kernel
theorem dX4_writeLetters_27 : decode cX4_writeLetters 27 = .ok (.lstore 4, 2) := by decide +kernel
theorem dX4_writeLetters_29 : decode cX4_writeLetters 29 = .ok (.goto (-24), 3) := by decide +kernel
theorem dX4_writeLetters_32 : decode cX4_writeLetters 32 = .ok (.aload_n 0, 1) := by decide +kernel
theorem dX4_writeLetters_33 : decode cX4_writeLetters 33 = .ok (.getfield 26, 3) := by decide +kernel
theorem dX4_writeLetters_36 : decode cX4_writeLetters 36 = .ok (.iload_n 3, 1) := by decide +kernel
theorem dX4_writeLetters_37 : decode cX4_writeLetters 37 = .ok (.invokevirtual 56, 3) := by decide +kernel
theorem dX4_writeLetters_40 : decode cX4_writeLetters 40 = .ok (.iload_n 3, 1) := by decide +kernel
theorem dX4_writeLetters_41 : decode cX4_writeLetters 41 = .ok (.iconst 1, 1) := by decide +kernel
theorem dX4_writeLetters_42 : decode cX4_writeLetters 42 = .ok (.isub, 1) := by decide +kernel
theorem dX4_writeLetters_43 : decode cX4_writeLetters 43 = .ok (.istore 4, 2) := by decide +kernel
theorem dX4_writeLetters_45 : decode cX4_writeLetters 45 = .ok (.iload 4, 2) := by decide +kernel
theorem dX4_writeLetters_47 : decode cX4_writeLetters 47 = .ok (.ifCond .lt 25, 3) := by decide +kernel
theorem dX4_writeLetters_50 : decode cX4_writeLetters 50 = .ok (.aload_n 0, 1) := by decide +kernel
theorem dX4_writeLetters_51 : decode cX4_writeLetters 51 = .ok (.getfield 26, 3) := by decide +kernel
theorem dX4_writeLetters_54 : decode cX4_writeLetters 54 = .ok (.bipush 96, 2) := by decide +kernel
theorem dX4_writeLetters_56 : decode cX4_writeLetters 56 = .ok (.lload_n 1, 1) := by decide +kernel
theorem dX4_writeLetters_57 : decode cX4_writeLetters 57 = .ok (.iload 4, 2) := by decide +kernel
theorem dX4_writeLetters_59 : decode cX4_writeLetters 59 = .ok (.invokestatic 92, 3) := by decide +kernel
theorem dX4_writeLetters_62 : decode cX4_writeLetters 62 = .ok (.iadd, 1) := by decide +kernel
theorem dX4_writeLetters_63 : decode cX4_writeLetters 63 = .ok (.invokevirtual 56, 3) := by decide +kernel
theorem dX4_writeLetters_66 : decode cX4_writeLetters 66 = .ok (.iinc 4 (-1), 3) := by decide +kernel
theorem dX4_writeLetters_69 : decode cX4_writeLetters 69 = .ok (.goto (-24), 3) := by decide +kernel
theorem dX4_writeLetters_72 : decode cX4_writeLetters 72 = .ok (.return_, 1) := by decide +kernel
theorem dX4_letterOf_0 : decode cX4_letterOf 0 = .ok (.lload_n 0, 1) := by decide +kernel
theorem dX4_letterOf_1 : decode cX4_letterOf 1 = .ok (.lstore_n 3, 1) := by decide +kernel
theorem dX4_letterOf_2 : decode cX4_letterOf 2 = .ok (.iconst 0, 1) := by decide +kernel
theorem dX4_letterOf_3 : decode cX4_letterOf 3 = .ok (.istore 5, 2) := by decide +kernel
theorem dX4_letterOf_5 : decode cX4_letterOf 5 = .ok (.iload 5, 2) := by decide +kernel
theorem dX4_letterOf_7 : decode cX4_letterOf 7 = .ok (.iload_n 2, 1) := by decide +kernel
theorem dX4_letterOf_8 : decode cX4_letterOf 8 = .ok (.if_icmp .ge 15, 3) := by decide +kernel
theorem dX4_letterOf_11 : decode cX4_letterOf 11 = .ok (.lload_n 3, 1) := by decide +kernel
theorem dX4_letterOf_12 : decode cX4_letterOf 12 = .ok (.ldc2_w 90, 3) := by decide +kernel
theorem dX4_letterOf_15 : decode cX4_letterOf 15 = .ok (.ldiv, 1) := by decide +kernel
theorem dX4_letterOf_16 : decode cX4_letterOf 16 = .ok (.lstore_n 3, 1) := by decide +kernel
theorem dX4_letterOf_17 : decode cX4_letterOf 17 = .ok (.iinc 5 1, 3) := by decide +kernel
theorem dX4_letterOf_20 : decode cX4_letterOf 20 = .ok (.goto (-15), 3) := by decide +kernel
theorem dX4_letterOf_23 : decode cX4_letterOf 23 = .ok (.lload_n 3, 1) := by decide +kernel
theorem dX4_letterOf_24 : decode cX4_letterOf 24 = .ok (.ldc2_w 90, 3) := by decide +kernel
theorem dX4_letterOf_27 : decode cX4_letterOf 27 = .ok (.lrem, 1) := by decide +kernel
theorem dX4_letterOf_28 : decode cX4_letterOf 28 = .ok (.l2i, 1) := by decide +kernel
theorem dX4_letterOf_29 : decode cX4_letterOf 29 = .ok (.ireturn, 1) := by decide +kernel
theorem dX4_writeHead_0 : decode cX4_writeHead 0 = .ok (.aload_n 0, 1) := by decide +kernel
theorem dX4_writeHead_1 : decode cX4_writeHead 1 = .ok (.getfield 26, 3) := by decide +kernel
theorem dX4_writeHead_4 : decode cX4_writeHead 4 = .ok (.bipush 16, 2) := by decide +kernel
theorem dX4_writeHead_6 : decode cX4_writeHead 6 = .ok (.iload_n 1, 1) := by decide +kernel
theorem dX4_writeHead_7 : decode cX4_writeHead 7 = .ok (.iconst 1, 1) := by decide +kernel
theorem dX4_writeHead_8 : decode cX4_writeHead 8 = .ok (.iadd, 1) := by decide +kernel
theorem dX4_writeHead_9 : decode cX4_writeHead 9 = .ok (.imul, 1) := by decide +kernel
theorem dX4_writeHead_10 : decode cX4_writeHead 10 = .ok (.aload_n 2, 1) := by decide +kernel
theorem dX4_writeHead_11 : decode cX4_writeHead 11 = .ok (.getfield 45, 3) := by decide +kernel
theorem dX4_writeHead_14 : decode cX4_writeHead 14 = .ok (.iadd, 1) := by decide +kernel
theorem dX4_writeHead_15 : decode cX4_writeHead 15 = .ok (.invokevirtual 56, 3) := by decide +kernel
theorem dX4_writeHead_18 : decode cX4_writeHead 18 = .ok (.aload_n 0, 1) := by decide +kernel
theorem dX4_writeHead_19 : decode cX4_writeHead 19 = .ok (.getfield 26, 3) := by decide +kernel
theorem dX4_writeHead_22 : decode cX4_writeHead 22 = .ok (.aload_n 2, 1) := by decide +kernel
theorem dX4_writeHead_23 : decode cX4_writeHead 23 = .ok (.getfield 73, 3) := by decide +kernel
theorem dX4_writeHead_26 : decode cX4_writeHead 26 = .ok (.invokevirtual 56, 3) := by decide +kernel
theorem dX4_writeHead_29 : decode cX4_writeHead 29 = .ok (.return_, 1) := by decide +kernel
theorem dX4_writePrimitive_0 : decode cX4_writePrimitive 0 = .ok (.aload_n 1, 1) := by decide +kernel
theorem dX4_writePrimitive_1 : decode cX4_writePrimitive 1 = .ok (.getfield 45, 3) := by decide +kernel
theorem dX4_writePrimitive_4 : decode cX4_writePrimitive 4 = .ok (.ifCond .le 15, 3) := by decide +kernel
theorem dX4_writePrimitive_7 : decode cX4_writePrimitive 7 = .ok (.aload_n 1, 1) := by decide +kernel
theorem dX4_writePrimitive_8 : decode cX4_writePrimitive 8 = .ok (.getfield 45, 3) := by decide +kernel
theorem dX4_writePrimitive_11 : decode cX4_writePrimitive 11 = .ok (.iconst 5, 1) := by decide +kernel
theorem dX4_writePrimitive_12 : decode cX4_writePrimitive 12 = .ok (.if_icmp .gt 7, 3) := by decide +kernel
theorem dX4_writePrimitive_15 : decode cX4_writePrimitive 15 = .ok (.iconst 1, 1) := by decide +kernel
theorem dX4_writePrimitive_16 : decode cX4_writePrimitive 16 = .ok (.goto 4, 3) := by decide +kernel
theorem dX4_writePrimitive_19 : decode cX4_writePrimitive 19 = .ok (.iconst 0, 1) := by decide +kernel
theorem dX4_writePrimitive_20 : decode cX4_writePrimitive 20 = .ok (.istore_n 2, 1) := by decide +kernel
theorem dX4_writePrimitive_21 : decode cX4_writePrimitive 21 = .ok (.aload_n 0, 1) := by decide +kernel
theorem dX4_writePrimitive_22 : decode cX4_writePrimitive 22 = .ok (.getfield 19, 3) := by decide +kernel
theorem dX4_writePrimitive_25 : decode cX4_writePrimitive 25 = .ok (.iconst 2, 1) := by decide +kernel
theorem dX4_writePrimitive_26 : decode cX4_writePrimitive 26 = .ok (.if_icmp .ne 11, 3) := by decide +kernel
theorem dX4_writePrimitive_29 : decode cX4_writePrimitive 29 = .ok (.iload_n 2, 1) := by decide +kernel
theorem dX4_writePrimitive_30 : decode cX4_writePrimitive 30 = .ok (.ifCond .ne 7, 3) := by decide +kernel
theorem dX4_writePrimitive_33 : decode cX4_writePrimitive 33 = .ok (.iconst 0, 1) := by decide +kernel
theorem dX4_writePrimitive_34 : decode cX4_writePrimitive 34 = .ok (.goto 7, 3) := by decide +kernel
theorem dX4_writePrimitive_37 : decode cX4_writePrimitive 37 = .ok (.aload_n 0, 1) := by decide +kernel
theorem dX4_writePrimitive_38 : decode cX4_writePrimitive 38 = .ok (.getfield 19, 3) := by decide +kernel
theorem dX4_writePrimitive_41 : decode cX4_writePrimitive 41 = .ok (.istore_n 3, 1) := by decide +kernel
theorem dX4_writePrimitive_42 : decode cX4_writePrimitive 42 = .ok (.aload_n 0, 1) := by decide +kernel
theorem dX4_writePrimitive_43 : decode cX4_writePrimitive 43 = .ok (.iload_n 3, 1) := by decide +kernel
theorem dX4_writePrimitive_44 : decode cX4_writePrimitive 44 = .ok (.aload_n 1, 1) := by decide +kernel
theorem dX4_writePrimitive_45 : decode cX4_writePrimitive 45 = .ok (.invokevirtual 69, 3) := by decide +kernel
theorem dX4_writePrimitive_48 : decode cX4_writePrimitive 48 = .ok (.iload_n 3, 1) := by decide +kernel
theorem dX4_writePrimitive_49 : decode cX4_writePrimitive 49 = .ok (.iconst 1, 1) := by decide +kernel
theorem dX4_writePrimitive_50 : decode cX4_writePrimitive 50 = .ok (.if_icmp .ne 11, 3) := by decide +kernel
theorem dX4_writePrimitive_53 : decode cX4_writePrimitive 53 = .ok (.aload_n 0, 1) := by decide +kernel
theorem dX4_writePrimitive_54 : decode cX4_writePrimitive 54 = .ok (.aload_n 1, 1) := by decide +kernel
theorem dX4_writePrimitive_55 : decode cX4_writePrimitive 55 = .ok (.invokevirtual 96, 3) := by decide +kernel
theorem dX4_writePrimitive_58 : decode cX4_writePrimitive 58 = .ok (.goto 21, 3) := by decide +kernel
theorem dX4_writePrimitive_61 : decode cX4_writePrimitive 61 = .ok (.iload_n 3, 1) := by decide +kernel
theorem dX4_writePrimitive_62 : decode cX4_writePrimitive 62 = .ok (.iconst 2, 1) := by decide +kernel
theorem dX4_writePrimitive_63 : decode cX4_writePrimitive 63 = .ok (.if_icmp .ne 11, 3) := by decide +kernel
theorem dX4_writePrimitive_66 : decode cX4_writePrimitive 66 = .ok (.aload_n 0, 1) := by decide +kernel
theorem dX4_writePrimitive_67 : decode cX4_writePrimitive 67 = .ok (.aload_n 1, 1) := by decide +kernel
theorem dX4_writePrimitive_68 : decode cX4_writePrimitive 68 = .ok (.invokevirtual 99, 3) := by decide +kernel
theorem dX4_writePrimitive_71 : decode cX4_writePrimitive 71 = .ok (.goto 8, 3) := by decide +kernel
theorem dX4_writePrimitive_74 : decode cX4_writePrimitive 74 = .ok (.aload_n 0, 1) := by decide +kernel
theorem dX4_writePrimitive_75 : decode cX4_writePrimitive 75 = .ok (.aload_n 1, 1) := by decide +kernel
theorem dX4_writePrimitive_76 : decode cX4_writePrimitive 76 = .ok (.invokevirtual 102, 3) := by decide +kernel
theorem dX4_writePrimitive_79 : decode cX4_writePrimitive 79 = .ok (.return_, 1) := by decide +kernel
theorem dX4_writeFlat_0 : decode cX4_writeFlat 0 = .ok (.iconst 0, 1) := by decide +kernel
theorem dX4_writeFlat_1 : decode cX4_writeFlat 1 = .ok (.istore_n 2, 1) := by decide +kernel
theorem dX4_writeFlat_2 : decode cX4_writeFlat 2 = .ok (.iload_n 2, 1) := by decide +kernel
theorem dX4_writeFlat_3 : decode cX4_writeFlat 3 = .ok (.aload_n 1, 1) := by decide +kernel
theorem dX4_writeFlat_4 : decode cX4_writeFlat 4 = .ok (.getfield 73, 3) := by decide +kernel
theorem dX4_writeFlat_7 : decode cX4_writeFlat 7 = .ok (.if_icmp .ge 23, 3) := by decide +kernel
theorem dX4_writeFlat_10 : decode cX4_writeFlat 10 = .ok (.aload_n 0, 1) := by decide +kernel
theorem dX4_writeFlat_11 : decode cX4_writeFlat 11 = .ok (.aload_n 1, 1) := by decide +kernel
theorem dX4_writeFlat_12 : decode cX4_writeFlat 12 = .ok (.getfield 45, 3) := by decide +kernel
theorem dX4_writeFlat_15 : decode cX4_writeFlat 15 = .ok (.aload_n 1, 1) := by decide +kernel
theorem dX4_writeFlat_16 : decode cX4_writeFlat 16 = .ok (.getfield 48, 3) := by decide +kernel
theorem dX4_writeFlat_19 : decode cX4_writeFlat 19 = .ok (.iload_n 2, 1) := by decide +kernel
theorem dX4_writeFlat_20 : decode cX4_writeFlat 20 = .ok (.laload, 1) := by decide +kernel
theorem dX4_writeFlat_21 : decode cX4_writeFlat 21 = .ok (.invokevirtual 87, 3) := by decide +kernel
theorem dX4_writeFlat_24 : decode cX4_writeFlat 24 = .ok (.iinc 2 1, 3) := by decide +kernel
theorem dX4_writeFlat_27 : decode cX4_writeFlat 27 = .ok (.goto (-25), 3) := by decide +kernel
theorem dX4_writeFlat_30 : decode cX4_writeFlat 30 = .ok (.return_, 1) := by decide +kernel
theorem dX4_writeRuns_0 : decode cX4_writeRuns 0 = .ok (.iconst 0, 1) := by decide +kernel
theorem dX4_writeRuns_1 : decode cX4_writeRuns 1 = .ok (.istore_n 2, 1) := by decide +kernel
theorem dX4_writeRuns_2 : decode cX4_writeRuns 2 = .ok (.iconst 1, 1) := by decide +kernel
theorem dX4_writeRuns_3 : decode cX4_writeRuns 3 = .ok (.istore_n 3, 1) := by decide +kernel
theorem dX4_writeRuns_4 : decode cX4_writeRuns 4 = .ok (.iload_n 3, 1) := by decide +kernel
theorem dX4_writeRuns_5 : decode cX4_writeRuns 5 = .ok (.aload_n 1, 1) := by decide +kernel
theorem dX4_writeRuns_6 : decode cX4_writeRuns 6 = .ok (.getfield 73, 3) := by decide +kernel
theorem dX4_writeRuns_9 : decode cX4_writeRuns 9 = .ok (.if_icmp .gt 62, 3) := by decide +kernel
theorem dX4_writeRuns_12 : decode cX4_writeRuns 12 = .ok (.iload_n 3, 1) := by decide +kernel
theorem dX4_writeRuns_13 : decode cX4_writeRuns 13 = .ok (.aload_n 1, 1) := by decide +kernel
theorem dX4_writeRuns_14 : decode cX4_writeRuns 14 = .ok (.getfield 73, 3) := by decide +kernel
theorem dX4_writeRuns_17 : decode cX4_writeRuns 17 = .ok (.if_icmp .ge 22, 3) := by decide +kernel
theorem dX4_writeRuns_20 : decode cX4_writeRuns 20 = .ok (.aload_n 1, 1) := by decide +kernel
theorem dX4_writeRuns_21 : decode cX4_writeRuns 21 = .ok (.getfield 48, 3) := by decide +kernel
theorem dX4_writeRuns_24 : decode cX4_writeRuns 24 = .ok (.iload_n 3, 1) := by decide +kernel
theorem dX4_writeRuns_25 : decode cX4_writeRuns 25 = .ok (.laload, 1) := by decide +kernel
theorem dX4_writeRuns_26 : decode cX4_writeRuns 26 = .ok (.aload_n 1, 1) := by decide +kernel
theorem dX4_writeRuns_27 : decode cX4_writeRuns 27 = .ok (.getfield 48, 3) := by decide +kernel
theorem dX4_writeRuns_30 : decode cX4_writeRuns 30 = .ok (.iload_n 2, 1) := by decide +kernel
theorem dX4_writeRuns_31 : decode cX4_writeRuns 31 = .ok (.laload, 1) := by decide +kernel
theorem dX4_writeRuns_32 : decode cX4_writeRuns 32 = .ok (.lcmp, 1) := by decide +kernel
theorem dX4_writeRuns_33 : decode cX4_writeRuns 33 = .ok (.ifCond .ne 6, 3) := by decide +kernel
theorem dX4_writeRuns_36 : decode cX4_writeRuns 36 = .ok (.goto 29, 3) := by decide +kernel
theorem dX4_writeRuns_39 : decode cX4_writeRuns 39 = .ok (.aload_n 0, 1) := by decide +kernel
theorem dX4_writeRuns_40 : decode cX4_writeRuns 40 = .ok (.getfield 26, 3) := by decide +kernel
theorem dX4_writeRuns_43 : decode cX4_writeRuns 43 = .ok (.iload_n 3, 1) := by decide +kernel
theorem dX4_writeRuns_44 : decode cX4_writeRuns 44 = .ok (.iload_n 2, 1) := by decide +kernel
theorem dX4_writeRuns_45 : decode cX4_writeRuns 45 = .ok (.isub, 1) := by decide +kernel
theorem dX4_writeRuns_46 : decode cX4_writeRuns 46 = .ok (.invokevirtual 56, 3) := by decide +kernel
theorem dX4_writeRuns_49 : decode cX4_writeRuns 49 = .ok (.aload_n 0, 1) := by decide +kernel
theorem dX4_writeRuns_50 : decode cX4_writeRuns 50 = .ok (.aload_n 1, 1) := by decide +kernel
theorem dX4_writeRuns_51 : decode cX4_writeRuns 51 = .ok (.getfield 45, 3) := by decide +kernel
theorem dX4_writeRuns_54 : decode cX4_writeRuns 54 = .ok (.aload_n 1, 1) := by decide +kernel
theorem dX4_writeRuns_55 : decode cX4_writeRuns 55 = .ok (.getfield 48, 3) := by decide +kernel
theorem dX4_writeRuns_58 : decode cX4_writeRuns 58 = .ok (.iload_n 2, 1) := by decide +kernel
theorem dX4_writeRuns_59 : decode cX4_writeRuns 59 = .ok (.laload, 1) := by decide +kernel
theorem dX4_writeRuns_60 : decode cX4_writeRuns 60 = .ok (.invokevirtual 87, 3) := by decide +kernel
theorem dX4_writeRuns_63 : decode cX4_writeRuns 63 = .ok (.iload_n 3, 1) := by decide +kernel
theorem dX4_writeRuns_64 : decode cX4_writeRuns 64 = .ok (.istore_n 2, 1) := by decide +kernel
theorem dX4_writeRuns_65 : decode cX4_writeRuns 65 = .ok (.iinc 3 1, 3) := by decide +kernel
theorem dX4_writeRuns_68 : decode cX4_writeRuns 68 = .ok (.goto (-64), 3) := by decide +kernel
theorem dX4_writeRuns_71 : decode cX4_writeRuns 71 = .ok (.return_, 1) := by decide +kernel
theorem dX4_writeSteps_0 : decode cX4_writeSteps 0 = .ok (.lconst 0, 1) := by decide +kernel
theorem dX4_writeSteps_1 : decode cX4_writeSteps 1 = .ok (.lstore_n 2, 1) := by decide +kernel
theorem dX4_writeSteps_2 : decode cX4_writeSteps 2 = .ok (.iconst 0, 1) := by decide +kernel
theorem dX4_writeSteps_3 : decode cX4_writeSteps 3 = .ok (.istore 4, 2) := by decide +kernel
theorem dX4_writeSteps_5 : decode cX4_writeSteps 5 = .ok (.iload 4, 2) := by decide +kernel
theorem dX4_writeSteps_7 : decode cX4_writeSteps 7 = .ok (.aload_n 1, 1) := by decide +kernel
theorem dX4_writeSteps_8 : decode cX4_writeSteps 8 = .ok (.getfield 73, 3) := by decide +kernel
theorem dX4_writeSteps_11 : decode cX4_writeSteps 11 = .ok (.if_icmp .ge 30, 3) := by decide +kernel
theorem dX4_writeSteps_14 : decode cX4_writeSteps 14 = .ok (.aload_n 0, 1) := by decide +kernel
theorem dX4_writeSteps_15 : decode cX4_writeSteps 15 = .ok (.aload_n 1, 1) := by decide +kernel
theorem dX4_writeSteps_16 : decode cX4_writeSteps 16 = .ok (.getfield 48, 3) := by decide +kernel
theorem dX4_writeSteps_19 : decode cX4_writeSteps 19 = .ok (.iload 4, 2) := by decide +kernel
theorem dX4_writeSteps_21 : decode cX4_writeSteps 21 = .ok (.laload, 1) := by decide +kernel
theorem dX4_writeSteps_22 : decode cX4_writeSteps 22 = .ok (.lload_n 2, 1) := by decide +kernel
theorem dX4_writeSteps_23 : decode cX4_writeSteps 23 = .ok (.lsub, 1) := by decide +kernel
theorem dX4_writeSteps_24 : decode cX4_writeSteps 24 = .ok (.invokevirtual 105, 3) := by decide +kernel
theorem dX4_writeSteps_27 : decode cX4_writeSteps 27 = .ok (.aload_n 1, 1) := by decide +kernel
theorem dX4_writeSteps_28 : decode cX4_writeSteps 28 = .ok (.getfield 48, 3) := by decide +kernel
theorem dX4_writeSteps_31 : decode cX4_writeSteps 31 = .ok (.iload 4, 2) := by decide +kernel
theorem dX4_writeSteps_33 : decode cX4_writeSteps 33 = .ok (.laload, 1) := by decide +kernel
theorem dX4_writeSteps_34 : decode cX4_writeSteps 34 = .ok (.lstore_n 2, 1) := by decide +kernel
theorem dX4_writeSteps_35 : decode cX4_writeSteps 35 = .ok (.iinc 4 1, 3) := by decide +kernel
theorem dX4_writeSteps_38 : decode cX4_writeSteps 38 = .ok (.goto (-33), 3) := by decide +kernel
theorem dX4_writeSteps_41 : decode cX4_writeSteps 41 = .ok (.return_, 1) := by decide +kernel
theorem dX4_writeStep_0 : decode cX4_writeStep 0 = .ok (.lload_n 1, 1) := by decide +kernel
theorem dX4_writeStep_1 : decode cX4_writeStep 1 = .ok (.iconst 1, 1) := by decide +kernel
theorem dX4_writeStep_2 : decode cX4_writeStep 2 = .ok (.lshl, 1) := by decide +kernel
theorem dX4_writeStep_3 : decode cX4_writeStep 3 = .ok (.lload_n 1, 1) := by decide +kernel
theorem dX4_writeStep_4 : decode cX4_writeStep 4 = .ok (.bipush 63, 2) := by decide +kernel
theorem dX4_writeStep_6 : decode cX4_writeStep 6 = .ok (.lshr, 1) := by decide +kernel
theorem dX4_writeStep_7 : decode cX4_writeStep 7 = .ok (.lxor, 1) := by decide +kernel
theorem dX4_writeStep_8 : decode cX4_writeStep 8 = .ok (.lstore_n 3, 1) := by decide +kernel
theorem dX4_writeStep_9 : decode cX4_writeStep 9 = .ok (.iconst 0, 1) := by decide +kernel
theorem dX4_writeStep_10 : decode cX4_writeStep 10 = .ok (.istore 5, 2) := by decide +kernel
theorem dX4_writeStep_12 : decode cX4_writeStep 12 = .ok (.iload 5, 2) := by decide +kernel
theorem dX4_writeStep_14 : decode cX4_writeStep 14 = .ok (.bipush 9, 2) := by decide +kernel
theorem dX4_writeStep_16 : decode cX4_writeStep 16 = .ok (.if_icmp .ge 41, 3) := by decide +kernel
theorem dX4_writeStep_19 : decode cX4_writeStep 19 = .ok (.lload_n 3, 1) := by decide +kernel
theorem dX4_writeStep_20 : decode cX4_writeStep 20 = .ok (.ldc2_w 108, 3) := by decide +kernel
theorem dX4_writeStep_23 : decode cX4_writeStep 23 = .ok (.land, 1) := by decide +kernel
theorem dX4_writeStep_24 : decode cX4_writeStep 24 = .ok (.lconst 0, 1) := by decide +kernel
theorem dX4_writeStep_25 : decode cX4_writeStep 25 = .ok (.lcmp, 1) := by decide +kernel
theorem dX4_writeStep_26 : decode cX4_writeStep 26 = .ok (.ifCond .eq 31, 3) := by decide +kernel
theorem dX4_writeStep_29 : decode cX4_writeStep 29 = .ok (.aload_n 0, 1) := by decide +kernel
theorem dX4_writeStep_30 : decode cX4_writeStep 30 = .ok (.getfield 26, 3) := by decide +kernel
theorem dX4_writeStep_33 : decode cX4_writeStep 33 = .ok (.lload_n 3, 1) := by decide +kernel
theorem dX4_writeStep_34 : decode cX4_writeStep 34 = .ok (.ldc2_w 110, 3) := by decide +kernel
theorem dX4_writeStep_37 : decode cX4_writeStep 37 = .ok (.land, 1) := by decide +kernel
theorem dX4_writeStep_38 : decode cX4_writeStep 38 = .ok (.l2i, 1) := by decide +kernel
theorem dX4_writeStep_39 : decode cX4_writeStep 39 = .ok (.sipush 128, 3) := by decide +kernel
theorem dX4_writeStep_42 : decode cX4_writeStep 42 = .ok (.iadd, 1) := by decide +kernel
theorem dX4_writeStep_43 : decode cX4_writeStep 43 = .ok (.invokevirtual 56, 3) := by decide +kernel
theorem dX4_writeStep_46 : decode cX4_writeStep 46 = .ok (.lload_n 3, 1) := by decide +kernel
theorem dX4_writeStep_47 : decode cX4_writeStep 47 = .ok (.bipush 7, 2) := by decide +kernel
theorem dX4_writeStep_49 : decode cX4_writeStep 49 = .ok (.lushr, 1) := by decide +kernel
theorem dX4_writeStep_50 : decode cX4_writeStep 50 = .ok (.lstore_n 3, 1) := by decide +kernel
theorem dX4_writeStep_51 : decode cX4_writeStep 51 = .ok (.iinc 5 1, 3) := by decide +kernel
theorem dX4_writeStep_54 : decode cX4_writeStep 54 = .ok (.goto (-42), 3) := by decide +kernel
theorem dX4_writeStep_57 : decode cX4_writeStep 57 = .ok (.aload_n 0, 1) := by decide +kernel
theorem dX4_writeStep_58 : decode cX4_writeStep 58 = .ok (.getfield 26, 3) := by decide +kernel
theorem dX4_writeStep_61 : decode cX4_writeStep 61 = .ok (.lload_n 3, 1) := by decide +kernel
theorem dX4_writeStep_62 : decode cX4_writeStep 62 = .ok (.l2i, 1) := by decide +kernel
theorem dX4_writeStep_63 : decode cX4_writeStep 63 = .ok (.invokevirtual 56, 3) := by decide +kernel
theorem dX4_writeStep_66 : decode cX4_writeStep 66 = .ok (.return_, 1) := by decide +kernel
theorem dX4_writeNumber_0 : decode cX4_writeNumber 0 = .ok (.iload_n 1, 1) := by decide +kernel
theorem dX4_writeNumber_1 : decode cX4_writeNumber 1 = .ok (.bipush 6, 2) := by decide +kernel
theorem dX4_writeNumber_3 : decode cX4_writeNumber 3 = .ok (.if_icmp .lt 7, 3) := by decide +kernel
theorem dX4_writeNumber_6 : decode cX4_writeNumber 6 = .ok (.iconst 1, 1) := by decide +kernel
theorem dX4_writeNumber_7 : decode cX4_writeNumber 7 = .ok (.goto 4, 3) := by decide +kernel
theorem dX4_writeNumber_10 : decode cX4_writeNumber 10 = .ok (.iconst 0, 1) := by decide +kernel
theorem dX4_writeNumber_11 : decode cX4_writeNumber 11 = .ok (.istore 4, 2) := by decide +kernel
theorem dX4_writeNumber_13 : decode cX4_writeNumber 13 = .ok (.iload 4, 2) := by decide +kernel
theorem dX4_writeNumber_15 : decode cX4_writeNumber 15 = .ok (.ifCond .eq 15, 3) := by decide +kernel
theorem dX4_writeNumber_18 : decode cX4_writeNumber 18 = .ok (.aload_n 0, 1) := by decide +kernel
theorem dX4_writeNumber_19 : decode cX4_writeNumber 19 = .ok (.getfield 26, 3) := by decide +kernel
theorem dX4_writeNumber_22 : decode cX4_writeNumber 22 = .ok (.iload_n 1, 1) := by decide +kernel
theorem dX4_writeNumber_23 : decode cX4_writeNumber 23 = .ok (.lload_n 2, 1) := by decide +kernel
theorem dX4_writeNumber_24 : decode cX4_writeNumber 24 = .ok (.invokestatic 112, 3) := by decide +kernel
theorem dX4_writeNumber_27 : decode cX4_writeNumber 27 = .ok (.invokevirtual 56, 3) := by decide +kernel
theorem dX4_writeNumber_30 : decode cX4_writeNumber 30 = .ok (.iload 4, 2) := by decide +kernel
theorem dX4_writeNumber_32 : decode cX4_writeNumber 32 = .ok (.ifCond .eq 11, 3) := by decide +kernel
theorem dX4_writeNumber_35 : decode cX4_writeNumber 35 = .ok (.iload_n 1, 1) := by decide +kernel
theorem dX4_writeNumber_36 : decode cX4_writeNumber 36 = .ok (.lload_n 2, 1) := by decide +kernel
theorem dX4_writeNumber_37 : decode cX4_writeNumber 37 = .ok (.invokestatic 116, 3) := by decide +kernel
theorem dX4_writeNumber_40 : decode cX4_writeNumber 40 = .ok (.goto 4, 3) := by decide +kernel
theorem dX4_writeNumber_43 : decode cX4_writeNumber 43 = .ok (.lload_n 2, 1) := by decide +kernel
theorem dX4_writeNumber_44 : decode cX4_writeNumber 44 = .ok (.lstore 5, 2) := by decide +kernel
theorem dX4_writeNumber_46 : decode cX4_writeNumber 46 = .ok (.getstatic 120, 3) := by decide +kernel
theorem dX4_writeNumber_49 : decode cX4_writeNumber 49 = .ok (.iload_n 1, 1) := by decide +kernel
theorem dX4_writeNumber_50 : decode cX4_writeNumber 50 = .ok (.iaload, 1) := by decide +kernel
theorem dX4_writeNumber_51 : decode cX4_writeNumber 51 = .ok (.iconst 1, 1) := by decide +kernel
theorem dX4_writeNumber_52 : decode cX4_writeNumber 52 = .ok (.isub, 1) := by decide +kernel
theorem dX4_writeNumber_53 : decode cX4_writeNumber 53 = .ok (.istore 7, 2) := by decide +kernel
theorem dX4_writeNumber_55 : decode cX4_writeNumber 55 = .ok (.iload 7, 2) := by decide +kernel
theorem dX4_writeNumber_57 : decode cX4_writeNumber 57 = .ok (.ifCond .lt 29, 3) := by decide +kernel
theorem dX4_writeNumber_60 : decode cX4_writeNumber 60 = .ok (.aload_n 0, 1) := by decide +kernel
theorem dX4_writeNumber_61 : decode cX4_writeNumber 61 = .ok (.getfield 26, 3) := by decide +kernel
theorem dX4_writeNumber_64 : decode cX4_writeNumber 64 = .ok (.lload 5, 2) := by decide +kernel
theorem dX4_writeNumber_66 : decode cX4_writeNumber 66 = .ok (.bipush 8, 2) := by decide +kernel
theorem dX4_writeNumber_68 : decode cX4_writeNumber 68 = .ok (.iload 7, 2) := by decide +kernel
theorem dX4_writeNumber_70 : decode cX4_writeNumber 70 = .ok (.imul, 1) := by decide +kernel
theorem dX4_writeNumber_71 : decode cX4_writeNumber 71 = .ok (.lshr, 1) := by decide +kernel
theorem dX4_writeNumber_72 : decode cX4_writeNumber 72 = .ok (.l2i, 1) := by decide +kernel
theorem dX4_writeNumber_73 : decode cX4_writeNumber 73 = .ok (.sipush 255, 3) := by decide +kernel
theorem dX4_writeNumber_76 : decode cX4_writeNumber 76 = .ok (.iand, 1) := by decide +kernel
theorem dX4_writeNumber_77 : decode cX4_writeNumber 77 = .ok (.invokevirtual 56, 3) := by decide +kernel
theorem dX4_writeNumber_80 : decode cX4_writeNumber 80 = .ok (.iinc 7 (-1), 3) := by decide +kernel
theorem dX4_writeNumber_83 : decode cX4_writeNumber 83 = .ok (.goto (-28), 3) := by decide +kernel
theorem dX4_writeNumber_86 : decode cX4_writeNumber 86 = .ok (.return_, 1) := by decide +kernel
theorem dJ6_numberOfLeadingZeros_0f7a4_0 : decode cJ6_numberOfLeadingZeros_0f7a4 0 = .ok (.iload_n 0, 1) := by decide +kernel
theorem dJ6_numberOfLeadingZeros_0f7a4_1 : decode cJ6_numberOfLeadingZeros_0f7a4 1 = .ok (.ifCond .gt 14, 3) := by decide +kernel
theorem dJ6_numberOfLeadingZeros_0f7a4_4 : decode cJ6_numberOfLeadingZeros_0f7a4 4 = .ok (.iload_n 0, 1) := by decide +kernel
theorem dJ6_numberOfLeadingZeros_0f7a4_5 : decode cJ6_numberOfLeadingZeros_0f7a4 5 = .ok (.ifCond .ne 8, 3) := by decide +kernel
theorem dJ6_numberOfLeadingZeros_0f7a4_8 : decode cJ6_numberOfLeadingZeros_0f7a4 8 = .ok (.bipush 32, 2) := by decide +kernel
theorem dJ6_numberOfLeadingZeros_0f7a4_10 : decode cJ6_numberOfLeadingZeros_0f7a4 10 = .ok (.goto 4, 3) := by decide +kernel
theorem dJ6_numberOfLeadingZeros_0f7a4_13 : decode cJ6_numberOfLeadingZeros_0f7a4 13 = .ok (.iconst 0, 1) := by decide +kernel
theorem dJ6_numberOfLeadingZeros_0f7a4_14 : decode cJ6_numberOfLeadingZeros_0f7a4 14 = .ok (.ireturn, 1) := by decide +kernel
theorem dJ6_numberOfLeadingZeros_0f7a4_15 : decode cJ6_numberOfLeadingZeros_0f7a4 15 = .ok (.bipush 31, 2) := by decide +kernel
theorem dJ6_numberOfLeadingZeros_0f7a4_17 : decode cJ6_numberOfLeadingZeros_0f7a4 17 = .ok (.istore_n 1, 1) := by decide +kernel
theorem dJ6_numberOfLeadingZeros_0f7a4_18 : decode cJ6_numberOfLeadingZeros_0f7a4 18 = .ok (.iload_n 0, 1) := by decide +kernel
theorem dJ6_numberOfLeadingZeros_0f7a4_19 : decode cJ6_numberOfLeadingZeros_0f7a4 19 = .ok (.ldc_w 264, 3) := by decide +kernel
theorem dJ6_numberOfLeadingZeros_0f7a4_22 : decode cJ6_numberOfLeadingZeros_0f7a4 22 = .ok (.if_icmp .lt 11, 3) := by decide +kernel
theorem dJ6_numberOfLeadingZeros_0f7a4_25 : decode cJ6_numberOfLeadingZeros_0f7a4 25 = .ok (.iinc 1 (-16), 3) := by decide +kernel
theorem dJ6_numberOfLeadingZeros_0f7a4_28 : decode cJ6_numberOfLeadingZeros_0f7a4 28 = .ok (.iload_n 0, 1) := by decide +kernel
theorem dJ6_numberOfLeadingZeros_0f7a4_29 : decode cJ6_numberOfLeadingZeros_0f7a4 29 = .ok (.bipush 16, 2) := by decide +kernel
theorem dJ6_numberOfLeadingZeros_0f7a4_31 : decode cJ6_numberOfLeadingZeros_0f7a4 31 = .ok (.iushr, 1) := by decide +kernel
theorem dJ6_numberOfLeadingZeros_0f7a4_32 : decode cJ6_numberOfLeadingZeros_0f7a4 32 = .ok (.istore_n 0, 1) := by decide +kernel
theorem dJ6_numberOfLeadingZeros_0f7a4_33 : decode cJ6_numberOfLeadingZeros_0f7a4 33 = .ok (.iload_n 0, 1) := by decide +kernel
theorem dJ6_numberOfLeadingZeros_0f7a4_34 : decode cJ6_numberOfLeadingZeros_0f7a4 34 = .ok (.sipush 256, 3) := by decide +kernel
theorem dJ6_numberOfLeadingZeros_0f7a4_37 : decode cJ6_numberOfLeadingZeros_0f7a4 37 = .ok (.if_icmp .lt 11, 3) := by decide +kernel
theorem dJ6_numberOfLeadingZeros_0f7a4_40 : decode cJ6_numberOfLeadingZeros_0f7a4 40 = .ok (.iinc 1 (-8), 3) := by decide +kernel
theorem dJ6_numberOfLeadingZeros_0f7a4_43 : decode cJ6_numberOfLeadingZeros_0f7a4 43 = .ok (.iload_n 0, 1) := by decide +kernel
theorem dJ6_numberOfLeadingZeros_0f7a4_44 : decode cJ6_numberOfLeadingZeros_0f7a4 44 = .ok (.bipush 8, 2) := by decide +kernel
theorem dJ6_numberOfLeadingZeros_0f7a4_46 : decode cJ6_numberOfLeadingZeros_0f7a4 46 = .ok (.iushr, 1) := by decide +kernel
theorem dJ6_numberOfLeadingZeros_0f7a4_47 : decode cJ6_numberOfLeadingZeros_0f7a4 47 = .ok (.istore_n 0, 1) := by decide +kernel
theorem dJ6_numberOfLeadingZeros_0f7a4_48 : decode cJ6_numberOfLeadingZeros_0f7a4 48 = .ok (.iload_n 0, 1) := by decide +kernel
theorem dJ6_numberOfLeadingZeros_0f7a4_49 : decode cJ6_numberOfLeadingZeros_0f7a4 49 = .ok (.bipush 16, 2) := by decide +kernel
theorem dJ6_numberOfLeadingZeros_0f7a4_51 : decode cJ6_numberOfLeadingZeros_0f7a4 51 = .ok (.if_icmp .lt 10, 3) := by decide +kernel
theorem dJ6_numberOfLeadingZeros_0f7a4_54 : decode cJ6_numberOfLeadingZeros_0f7a4 54 = .ok (.iinc 1 (-4), 3) := by decide +kernel
theorem dJ6_numberOfLeadingZeros_0f7a4_57 : decode cJ6_numberOfLeadingZeros_0f7a4 57 = .ok (.iload_n 0, 1) := by decide +kernel
theorem dJ6_numberOfLeadingZeros_0f7a4_58 : decode cJ6_numberOfLeadingZeros_0f7a4 58 = .ok (.iconst 4, 1) := by decide +kernel
theorem dJ6_numberOfLeadingZeros_0f7a4_59 : decode cJ6_numberOfLeadingZeros_0f7a4 59 = .ok (.iushr, 1) := by decide +kernel
theorem dJ6_numberOfLeadingZeros_0f7a4_60 : decode cJ6_numberOfLeadingZeros_0f7a4 60 = .ok (.istore_n 0, 1) := by decide +kernel
theorem dJ6_numberOfLeadingZeros_0f7a4_61 : decode cJ6_numberOfLeadingZeros_0f7a4 61 = .ok (.iload_n 0, 1) := by decide +kernel
theorem dJ6_numberOfLeadingZeros_0f7a4_62 : decode cJ6_numberOfLeadingZeros_0f7a4 62 = .ok (.iconst 4, 1) := by decide +kernel
theorem dJ6_numberOfLeadingZeros_0f7a4_63 : decode cJ6_numberOfLeadingZeros_0f7a4 63 = .ok (.if_icmp .lt 10, 3) := by decide +kernel
theorem dJ6_numberOfLeadingZeros_0f7a4_66 : decode cJ6_numberOfLeadingZeros_0f7a4 66 = .ok (.iinc 1 (-2), 3) := by decide +kernel
theorem dJ6_numberOfLeadingZeros_0f7a4_69 : decode cJ6_numberOfLeadingZeros_0f7a4 69 = .ok (.iload_n 0, 1) := by decide +kernel
theorem dJ6_numberOfLeadingZeros_0f7a4_70 : decode cJ6_numberOfLeadingZeros_0f7a4 70 = .ok (.iconst 2, 1) := by decide +kernel
theorem dJ6_numberOfLeadingZeros_0f7a4_71 : decode cJ6_numberOfLeadingZeros_0f7a4 71 = .ok (.iushr, 1) := by decide +kernel
theorem dJ6_numberOfLeadingZeros_0f7a4_72 : decode cJ6_numberOfLeadingZeros_0f7a4 72 = .ok (.istore_n 0, 1) := by decide +kernel
theorem dJ6_numberOfLeadingZeros_0f7a4_73 : decode cJ6_numberOfLeadingZeros_0f7a4 73 = .ok (.iload_n 1, 1) := by decide +kernel
theorem dJ6_numberOfLeadingZeros_0f7a4_74 : decode cJ6_numberOfLeadingZeros_0f7a4 74 = .ok (.iload_n 0, 1) := by decide +kernel
theorem dJ6_numberOfLeadingZeros_0f7a4_75 : decode cJ6_numberOfLeadingZeros_0f7a4 75 = .ok (.iconst 1, 1) := by decide +kernel
theorem dJ6_numberOfLeadingZeros_0f7a4_76 : decode cJ6_numberOfLeadingZeros_0f7a4 76 = .ok (.iushr, 1) := by decide +kernel
theorem dJ6_numberOfLeadingZeros_0f7a4_77 : decode cJ6_numberOfLeadingZeros_0f7a4 77 = .ok (.isub, 1) := by decide +kernel
theorem dJ6_numberOfLeadingZeros_0f7a4_78 : decode cJ6_numberOfLeadingZeros_0f7a4 78 = .ok (.ireturn, 1) := by decide +kernel
theorem dJ6_numberOfTrailingZeros_0f7a4_0 : decode cJ6_numberOfTrailingZeros_0f7a4 0 = .ok (.iload_n 0, 1) := by decide +kernel
theorem dJ6_numberOfTrailingZeros_0f7a4_1 : decode cJ6_numberOfTrailingZeros_0f7a4 1 = .ok (.iconst (-1), 1) := by decide +kernel
theorem dJ6_numberOfTrailingZeros_0f7a4_2 : decode cJ6_numberOfTrailingZeros_0f7a4 2 = .ok (.ixor, 1) := by decide +kernel
theorem dJ6_numberOfTrailingZeros_0f7a4_3 : decode cJ6_numberOfTrailingZeros_0f7a4 3 = .ok (.iload_n 0, 1) := by decide +kernel
theorem dJ6_numberOfTrailingZeros_0f7a4_4 : decode cJ6_numberOfTrailingZeros_0f7a4 4 = .ok (.iconst 1, 1) := by decide +kernel
theorem dJ6_numberOfTrailingZeros_0f7a4_5 : decode cJ6_numberOfTrailingZeros_0f7a4 5 = .ok (.isub, 1) := by decide +kernel
theorem dJ6_numberOfTrailingZeros_0f7a4_6 : decode cJ6_numberOfTrailingZeros_0f7a4 6 = .ok (.iand, 1) := by decide +kernel
theorem dJ6_numberOfTrailingZeros_0f7a4_7 : decode cJ6_numberOfTrailingZeros_0f7a4 7 = .ok (.istore_n 0, 1) := by decide +kernel
theorem dJ6_numberOfTrailingZeros_0f7a4_8 : decode cJ6_numberOfTrailingZeros_0f7a4 8 = .ok (.iload_n 0, 1) := by decide +kernel
theorem dJ6_numberOfTrailingZeros_0f7a4_9 : decode cJ6_numberOfTrailingZeros_0f7a4 9 = .ok (.ifCond .gt 8, 3) := by decide +kernel
theorem dJ6_numberOfTrailingZeros_0f7a4_12 : decode cJ6_numberOfTrailingZeros_0f7a4 12 = .ok (.iload_n 0, 1) := by decide +kernel
theorem dJ6_numberOfTrailingZeros_0f7a4_13 : decode cJ6_numberOfTrailingZeros_0f7a4 13 = .ok (.bipush 32, 2) := by decide +kernel
theorem dJ6_numberOfTrailingZeros_0f7a4_15 : decode cJ6_numberOfTrailingZeros_0f7a4 15 = .ok (.iand, 1) := by decide +kernel
theorem dJ6_numberOfTrailingZeros_0f7a4_16 : decode cJ6_numberOfTrailingZeros_0f7a4 16 = .ok (.ireturn, 1) := by decide +kernel
theorem dJ6_numberOfTrailingZeros_0f7a4_17 : decode cJ6_numberOfTrailingZeros_0f7a4 17 = .ok (.iconst 1, 1) := by decide +kernel
theorem dJ6_numberOfTrailingZeros_0f7a4_18 : decode cJ6_numberOfTrailingZeros_0f7a4 18 = .ok (.istore_n 1, 1) := by decide +kernel
theorem dJ6_numberOfTrailingZeros_0f7a4_19 : decode cJ6_numberOfTrailingZeros_0f7a4 19 = .ok (.iload_n 0, 1) := by decide +kernel
theorem dJ6_numberOfTrailingZeros_0f7a4_20 : decode cJ6_numberOfTrailingZeros_0f7a4 20 = .ok (.ldc_w 264, 3) := by decide +kernel
theorem dJ6_numberOfTrailingZeros_0f7a4_23 : decode cJ6_numberOfTrailingZeros_0f7a4 23 = .ok (.if_icmp .le 11, 3) := by decide +kernel
theorem dJ6_numberOfTrailingZeros_0f7a4_26 : decode cJ6_numberOfTrailingZeros_0f7a4 26 = .ok (.iinc 1 16, 3) := by decide +kernel
theorem dJ6_numberOfTrailingZeros_0f7a4_29 : decode cJ6_numberOfTrailingZeros_0f7a4 29 = .ok (.iload_n 0, 1) := by decide +kernel
theorem dJ6_numberOfTrailingZeros_0f7a4_30 : decode cJ6_numberOfTrailingZeros_0f7a4 30 = .ok (.bipush 16, 2) := by decide +kernel
theorem dJ6_numberOfTrailingZeros_0f7a4_32 : decode cJ6_numberOfTrailingZeros_0f7a4 32 = .ok (.iushr, 1) := by decide +kernel
theorem dJ6_numberOfTrailingZeros_0f7a4_33 : decode cJ6_numberOfTrailingZeros_0f7a4 33 = .ok (.istore_n 0, 1) := by decide +kernel
theorem dJ6_numberOfTrailingZeros_0f7a4_34 : decode cJ6_numberOfTrailingZeros_0f7a4 34 = .ok (.iload_n 0, 1) := by decide +kernel
theorem dJ6_numberOfTrailingZeros_0f7a4_35 : decode cJ6_numberOfTrailingZeros_0f7a4 35 = .ok (.sipush 256, 3) := by decide +kernel
theorem dJ6_numberOfTrailingZeros_0f7a4_38 : decode cJ6_numberOfTrailingZeros_0f7a4 38 = .ok (.if_icmp .le 11, 3) := by decide +kernel
theorem dJ6_numberOfTrailingZeros_0f7a4_41 : decode cJ6_numberOfTrailingZeros_0f7a4 41 = .ok (.iinc 1 8, 3) := by decide +kernel
theorem dJ6_numberOfTrailingZeros_0f7a4_44 : decode cJ6_numberOfTrailingZeros_0f7a4 44 = .ok (.iload_n 0, 1) := by decide +kernel
theorem dJ6_numberOfTrailingZeros_0f7a4_45 : decode cJ6_numberOfTrailingZeros_0f7a4 45 = .ok (.bipush 8, 2) := by decide +kernel
theorem dJ6_numberOfTrailingZeros_0f7a4_47 : decode cJ6_numberOfTrailingZeros_0f7a4 47 = .ok (.iushr, 1) := by decide +kernel
theorem dJ6_numberOfTrailingZeros_0f7a4_48 : decode cJ6_numberOfTrailingZeros_0f7a4 48 = .ok (.istore_n 0, 1) := by decide +kernel
theorem dJ6_numberOfTrailingZeros_0f7a4_49 : decode cJ6_numberOfTrailingZeros_0f7a4 49 = .ok (.iload_n 0, 1) := by decide +kernel
theorem dJ6_numberOfTrailingZeros_0f7a4_50 : decode cJ6_numberOfTrailingZeros_0f7a4 50 = .ok (.bipush 16, 2) := by decide +kernel
theorem dJ6_numberOfTrailingZeros_0f7a4_52 : decode cJ6_numberOfTrailingZeros_0f7a4 52 = .ok (.if_icmp .le 10, 3) := by decide +kernel
theorem dJ6_numberOfTrailingZeros_0f7a4_55 : decode cJ6_numberOfTrailingZeros_0f7a4 55 = .ok (.iinc 1 4, 3) := by decide +kernel
theorem dJ6_numberOfTrailingZeros_0f7a4_58 : decode cJ6_numberOfTrailingZeros_0f7a4 58 = .ok (.iload_n 0, 1) := by decide +kernel
theorem dJ6_numberOfTrailingZeros_0f7a4_59 : decode cJ6_numberOfTrailingZeros_0f7a4 59 = .ok (.iconst 4, 1) := by decide +kernel
theorem dJ6_numberOfTrailingZeros_0f7a4_60 : decode cJ6_numberOfTrailingZeros_0f7a4 60 = .ok (.iushr, 1) := by decide +kernel
theorem dJ6_numberOfTrailingZeros_0f7a4_61 : decode cJ6_numberOfTrailingZeros_0f7a4 61 = .ok (.istore_n 0, 1) := by decide +kernel
theorem dJ6_numberOfTrailingZeros_0f7a4_62 : decode cJ6_numberOfTrailingZeros_0f7a4 62 = .ok (.iload_n 0, 1) := by decide +kernel
theorem dJ6_numberOfTrailingZeros_0f7a4_63 : decode cJ6_numberOfTrailingZeros_0f7a4 63 = .ok (.iconst 4, 1) := by decide +kernel
theorem dJ6_numberOfTrailingZeros_0f7a4_64 : decode cJ6_numberOfTrailingZeros_0f7a4 64 = .ok (.if_icmp .le 10, 3) := by decide +kernel
theorem dJ6_numberOfTrailingZeros_0f7a4_67 : decode cJ6_numberOfTrailingZeros_0f7a4 67 = .ok (.iinc 1 2, 3) := by decide +kernel
theorem dJ6_numberOfTrailingZeros_0f7a4_70 : decode cJ6_numberOfTrailingZeros_0f7a4 70 = .ok (.iload_n 0, 1) := by decide +kernel
theorem dJ6_numberOfTrailingZeros_0f7a4_71 : decode cJ6_numberOfTrailingZeros_0f7a4 71 = .ok (.iconst 2, 1) := by decide +kernel
theorem dJ6_numberOfTrailingZeros_0f7a4_72 : decode cJ6_numberOfTrailingZeros_0f7a4 72 = .ok (.iushr, 1) := by decide +kernel
theorem dJ6_numberOfTrailingZeros_0f7a4_73 : decode cJ6_numberOfTrailingZeros_0f7a4 73 = .ok (.istore_n 0, 1) := by decide +kernel
theorem dJ6_numberOfTrailingZeros_0f7a4_74 : decode cJ6_numberOfTrailingZeros_0f7a4 74 = .ok (.iload_n 1, 1) := by decide +kernel
theorem dJ6_numberOfTrailingZeros_0f7a4_75 : decode cJ6_numberOfTrailingZeros_0f7a4 75 = .ok (.iload_n 0, 1) := by decide +kernel
theorem dJ6_numberOfTrailingZeros_0f7a4_76 : decode cJ6_numberOfTrailingZeros_0f7a4 76 = .ok (.iconst 1, 1) := by decide +kernel
theorem dJ6_numberOfTrailingZeros_0f7a4_77 : decode cJ6_numberOfTrailingZeros_0f7a4 77 = .ok (.iushr, 1) := by decide +kernel
theorem dJ6_numberOfTrailingZeros_0f7a4_78 : decode cJ6_numberOfTrailingZeros_0f7a4 78 = .ok (.iadd, 1) := by decide +kernel
theorem dJ6_numberOfTrailingZeros_0f7a4_79 : decode cJ6_numberOfTrailingZeros_0f7a4 79 = .ok (.ireturn, 1) := by decide +kernel
theorem dJ13_numberOfLeadingZeros_95d88_0 : decode cJ13_numberOfLeadingZeros_95d88 0 = .ok (.lload_n 0, 1) := by decide +kernel
theorem dJ13_numberOfLeadingZeros_95d88_1 : decode cJ13_numberOfLeadingZeros_95d88 1 = .ok (.bipush 32, 2) := by decide +kernel
theorem dJ13_numberOfLeadingZeros_95d88_3 : decode cJ13_numberOfLeadingZeros_95d88 3 = .ok (.lushr, 1) := by decide +kernel
theorem dJ13_numberOfLeadingZeros_95d88_4 : decode cJ13_numberOfLeadingZeros_95d88 4 = .ok (.l2i, 1) := by decide +kernel
theorem dJ13_numberOfLeadingZeros_95d88_5 : decode cJ13_numberOfLeadingZeros_95d88 5 = .ok (.istore_n 2, 1) := by decide +kernel
theorem dJ13_numberOfLeadingZeros_95d88_6 : decode cJ13_numberOfLeadingZeros_95d88 6 = .ok (.iload_n 2, 1) := by decide +kernel
theorem dJ13_numberOfLeadingZeros_95d88_7 : decode cJ13_numberOfLeadingZeros_95d88 7 = .ok (.ifCond .ne 14, 3) := by decide +kernel
theorem dJ13_numberOfLeadingZeros_95d88_10 : decode cJ13_numberOfLeadingZeros_95d88 10 = .ok (.bipush 32, 2) := by decide +kernel
theorem dJ13_numberOfLeadingZeros_95d88_12 : decode cJ13_numberOfLeadingZeros_95d88 12 = .ok (.lload_n 0, 1) := by decide +kernel
theorem dJ13_numberOfLeadingZeros_95d88_13 : decode cJ13_numberOfLeadingZeros_95d88 13 = .ok (.l2i, 1) := by decide +kernel
theorem dJ13_numberOfLeadingZeros_95d88_14 : decode cJ13_numberOfLeadingZeros_95d88 14 = .ok (.invokestatic 308, 3) := by decide +kernel
theorem dJ13_numberOfLeadingZeros_95d88_17 : decode cJ13_numberOfLeadingZeros_95d88 17 = .ok (.iadd, 1) := by decide +kernel
theorem dJ13_numberOfLeadingZeros_95d88_18 : decode cJ13_numberOfLeadingZeros_95d88 18 = .ok (.goto 7, 3) := by decide +kernel
theorem dJ13_numberOfLeadingZeros_95d88_21 : decode cJ13_numberOfLeadingZeros_95d88 21 = .ok (.iload_n 2, 1) := by decide +kernel
theorem dJ13_numberOfLeadingZeros_95d88_22 : decode cJ13_numberOfLeadingZeros_95d88 22 = .ok (.invokestatic 308, 3) := by decide +kernel
theorem dJ13_numberOfLeadingZeros_95d88_25 : decode cJ13_numberOfLeadingZeros_95d88 25 = .ok (.ireturn, 1) := by decide +kernel
theorem dJ13_numberOfTrailingZeros_95d88_0 : decode cJ13_numberOfTrailingZeros_95d88 0 = .ok (.lload_n 0, 1) := by decide +kernel
theorem dJ13_numberOfTrailingZeros_95d88_1 : decode cJ13_numberOfTrailingZeros_95d88 1 = .ok (.l2i, 1) := by decide +kernel
theorem dJ13_numberOfTrailingZeros_95d88_2 : decode cJ13_numberOfTrailingZeros_95d88 2 = .ok (.istore_n 2, 1) := by decide +kernel
theorem dJ13_numberOfTrailingZeros_95d88_3 : decode cJ13_numberOfTrailingZeros_95d88 3 = .ok (.iload_n 2, 1) := by decide +kernel
theorem dJ13_numberOfTrailingZeros_95d88_4 : decode cJ13_numberOfTrailingZeros_95d88 4 = .ok (.ifCond .ne 17, 3) := by decide +kernel
theorem dJ13_numberOfTrailingZeros_95d88_7 : decode cJ13_numberOfTrailingZeros_95d88 7 = .ok (.bipush 32, 2) := by decide +kernel
theorem dJ13_numberOfTrailingZeros_95d88_9 : decode cJ13_numberOfTrailingZeros_95d88 9 = .ok (.lload_n 0, 1) := by decide +kernel
theorem dJ13_numberOfTrailingZeros_95d88_10 : decode cJ13_numberOfTrailingZeros_95d88 10 = .ok (.bipush 32, 2) := by decide +kernel
theorem dJ13_numberOfTrailingZeros_95d88_12 : decode cJ13_numberOfTrailingZeros_95d88 12 = .ok (.lushr, 1) := by decide +kernel
theorem dJ13_numberOfTrailingZeros_95d88_13 : decode cJ13_numberOfTrailingZeros_95d88 13 = .ok (.l2i, 1) := by decide +kernel
theorem dJ13_numberOfTrailingZeros_95d88_14 : decode cJ13_numberOfTrailingZeros_95d88 14 = .ok (.invokestatic 311, 3) := by decide +kernel
theorem dJ13_numberOfTrailingZeros_95d88_17 : decode cJ13_numberOfTrailingZeros_95d88 17 = .ok (.iadd, 1) := by decide +kernel
theorem dJ13_numberOfTrailingZeros_95d88_18 : decode cJ13_numberOfTrailingZeros_95d88 18 = .ok (.goto 7, 3) := by decide +kernel
theorem dJ13_numberOfTrailingZeros_95d88_21 : decode cJ13_numberOfTrailingZeros_95d88 21 = .ok (.iload_n 2, 1) := by decide +kernel
theorem dJ13_numberOfTrailingZeros_95d88_22 : decode cJ13_numberOfTrailingZeros_95d88 22 = .ok (.invokestatic 311, 3) := by decide +kernel
theorem dJ13_numberOfTrailingZeros_95d88_25 : decode cJ13_numberOfTrailingZeros_95d88 25 = .ok (.ireturn, 1) := by decide +kernel
theorem dJ9_max_7cf53_0 : decode cJ9_max_7cf53 0 = .ok (.iload_n 0, 1) := by decide +kernel
theorem dJ9_max_7cf53_1 : decode cJ9_max_7cf53 1 = .ok (.iload_n 1, 1) := by decide +kernel
theorem dJ9_max_7cf53_2 : decode cJ9_max_7cf53 2 = .ok (.if_icmp .lt 7, 3) := by decide +kernel
theorem dJ9_max_7cf53_5 : decode cJ9_max_7cf53 5 = .ok (.iload_n 0, 1) := by decide +kernel
theorem dJ9_max_7cf53_6 : decode cJ9_max_7cf53 6 = .ok (.goto 4, 3) := by decide +kernel
theorem dJ9_max_7cf53_9 : decode cJ9_max_7cf53 9 = .ok (.iload_n 1, 1) := by decide +kernel
theorem dJ9_max_7cf53_10 : decode cJ9_max_7cf53 10 = .ok (.ireturn, 1) := by decide +kernel
theorem dJ9_min_7cf53_0 : decode cJ9_min_7cf53 0 = .ok (.iload_n 0, 1) := by decide +kernel
theorem dJ9_min_7cf53_1 : decode cJ9_min_7cf53 1 = .ok (.iload_n 1, 1) := by decide +kernel
theorem dJ9_min_7cf53_2 : decode cJ9_min_7cf53 2 = .ok (.if_icmp .gt 7, 3) := by decide +kernel
theorem dJ9_min_7cf53_5 : decode cJ9_min_7cf53 5 = .ok (.iload_n 0, 1) := by decide +kernel
theorem dJ9_min_7cf53_6 : decode cJ9_min_7cf53 6 = .ok (.goto 4, 3) := by decide +kernel
theorem dJ9_min_7cf53_9 : decode cJ9_min_7cf53 9 = .ok (.iload_n 1, 1) := by decide +kernel
theorem dJ9_min_7cf53_10 : decode cJ9_min_7cf53 10 = .ok (.ireturn, 1) := by decide +kernel
