theorem dX5_init_0 : decode cX5_init 0 = .ok (.aload_n 0, 1) := by decide +kernel
theorem dX5_init_1 : decode cX5_init 1 = .ok (.invokespecial 3, 3) := by decide +kernel
theorem dX5_init_4 : decode cX5_init 4 = .ok (.aload_n 0, 1) := by decide +kernel
theorem dX5_init_5 : decode cX5_init 5 = .ok (.bipush 12, 2) := by decide +kernel
theorem dX5_init_7 : decode cX5_init 7 = .ok (.anewarray 9, 3) := by decide +kernel
theorem dX5_init_10 : decode cX5_init 10 = .ok (.putfield 11, 3) := by decide +kernel
theorem dX5_init_13 : decode cX5_init 13 = .ok (.aload_n 0, 1) := by decide +kernel
theorem dX5_init_14 : decode cX5_init 14 = .ok (.new 15, 3) := by decide +kernel
theorem dX5_init_17 : decode cX5_init 17 = .ok (.dup, 1) := by decide +kernel
theorem dX5_init_18 : decode cX5_init 18 = .ok (.sipush 200, 3) := by decide +kernel
theorem dX5_init_21 : decode cX5_init 21 = .ok (.invokespecial 17, 3) := by decide +kernel
theorem dX5_init_24 : decode cX5_init 24 = .ok (.putfield 20, 3) := by decide +kernel
theorem dX5_init_27 : decode cX5_init 27 = .ok (.aload_n 0, 1) := by decide +kernel
theorem dX5_init_28 : decode cX5_init 28 = .ok (.new 15, 3) := by decide +kernel
theorem dX5_init_31 : decode cX5_init 31 = .ok (.dup, 1) := by decide +kernel
theorem dX5_init_32 : decode cX5_init 32 = .ok (.sipush 1464, 3) := by decide +kernel
theorem dX5_init_35 : decode cX5_init 35 = .ok (.invokespecial 17, 3) := by decide +kernel
theorem dX5_init_38 : decode cX5_init 38 = .ok (.putfield 24, 3) := by decide +kernel
theorem dX5_init_41 : decode cX5_init 41 = .ok (.aload_n 0, 1) := by decide +kernel
theorem dX5_init_42 : decode cX5_init 42 = .ok (.new 15, 3) := by decide +kernel
theorem dX5_init_45 : decode cX5_init 45 = .ok (.dup, 1) := by decide +kernel
theorem dX5_init_46 : decode cX5_init 46 = .ok (.sipush 1464, 3) := by decide +kernel
theorem dX5_init_49 : decode cX5_init 49 = .ok (.invokespecial 17, 3) := by decide +kernel
theorem dX5_init_52 : decode cX5_init 52 = .ok (.putfield 27, 3) := by decide +kernel
theorem dX5_init_55 : decode cX5_init 55 = .ok (.aload_n 0, 1) := by decide +kernel
theorem dX5_init_56 : decode cX5_init 56 = .ok (.new 30, 3) := by decide +kernel
theorem dX5_init_59 : decode cX5_init 59 = .ok (.dup, 1) := by decide +kernel
theorem dX5_init_60 : decode cX5_init 60 = .ok (.aload_n 0, 1) := by decide +kernel
theorem dX5_init_61 : decode cX5_init 61 = .ok (.getfield 20, 3) := by decide +kernel
theorem dX5_init_64 : decode cX5_init 64 = .ok (.invokespecial 32, 3) := by decide +kernel
theorem dX5_init_67 : decode cX5_init 67 = .ok (.putfield 35, 3) := by decide +kernel
theorem dX5_init_70 : decode cX5_init 70 = .ok (.aload_n 0, 1) := by decide +kernel
theorem dX5_init_71 : decode cX5_init 71 = .ok (.new 39, 3) := by decide +kernel
theorem dX5_init_74 : decode cX5_init 74 = .ok (.dup, 1) := by decide +kernel
theorem dX5_init_75 : decode cX5_init 75 = .ok (.aload_n 0, 1) := by decide +kernel
theorem dX5_init_76 : decode cX5_init 76 = .ok (.getfield 11, 3) := by decide +kernel
theorem dX5_init_79 : decode cX5_init 79 = .ok (.aload_n 0, 1) := by decide +kernel
theorem dX5_init_80 : decode cX5_init 80 = .ok (.getfield 24, 3) := by decide +kernel
theorem dX5_init_83 : decode cX5_init 83 = .ok (.invokespecial 41, 3) := by decide +kernel
theorem dX5_init_86 : decode cX5_init 86 = .ok (.putfield 44, 3) := by decide +kernel
theorem dX5_init_89 : decode cX5_init 89 = .ok (.aload_n 0, 1) := by decide +kernel
theorem dX5_init_90 : decode cX5_init 90 = .ok (.new 39, 3) := by decide +kernel
theorem dX5_init_93 : decode cX5_init 93 = .ok (.dup, 1) := by decide +kernel
theorem dX5_init_94 : decode cX5_init 94 = .ok (.aload_n 0, 1) := by decide +kernel
theorem dX5_init_95 : decode cX5_init 95 = .ok (.getfield 11, 3) := by decide +kernel
theorem dX5_init_98 : decode cX5_init 98 = .ok (.aload_n 0, 1) := by decide +kernel
theorem dX5_init_99 : decode cX5_init 99 = .ok (.getfield 27, 3) := by decide +kernel
theorem dX5_init_102 : decode cX5_init 102 = .ok (.invokespecial 41, 3) := by decide +kernel
theorem dX5_init_105 : decode cX5_init 105 = .ok (.putfield 48, 3) := by decide +kernel
theorem dX5_init_108 : decode cX5_init 108 = .ok (.aload_n 0, 1) := by decide +kernel
theorem dX5_init_109 : decode cX5_init 109 = .ok (.new 39, 3) := by decide +kernel
theorem dX5_init_112 : decode cX5_init 112 = .ok (.dup, 1) := by decide +kernel
theorem dX5_init_113 : decode cX5_init 113 = .ok (.aload_n 0, 1) := by decide +kernel
theorem dX5_init_114 : decode cX5_init 114 = .ok (.getfield 35, 3) := by decide +kernel
theorem dX5_init_117 : decode cX5_init 117 = .ok (.getfield 51, 3) := by decide +kernel
theorem dX5_init_120 : decode cX5_init 120 = .ok (.aload_n 0, 1) := by decide +kernel
theorem dX5_init_121 : decode cX5_init 121 = .ok (.getfield 27, 3) := by decide +kernel
theorem dX5_init_124 : decode cX5_init 124 = .ok (.invokespecial 41, 3) := by decide +kernel
theorem dX5_init_127 : decode cX5_init 127 = .ok (.putfield 54, 3) := by decide +kernel
theorem dX5_init_130 : decode cX5_init 130 = .ok (.aload_n 0, 1) := by decide +kernel
theorem dX5_init_131 : decode cX5_init 131 = .ok (.bipush 12, 2) := by decide +kernel
theorem dX5_init_133 : decode cX5_init 133 = .ok (.newarray .int, 2) := by decide +kernel
theorem dX5_init_135 : decode cX5_init 135 = .ok (.putfield 57, 3) := by decide +kernel
theorem dX5_init_138 : decode cX5_init 138 = .ok (.aload_n 0, 1) := by decide +kernel
theorem dX5_init_139 : decode cX5_init 139 = .ok (.iconst 5, 1) := by decide +kernel
theorem dX5_init_140 : decode cX5_init 140 = .ok (.newarray .int, 2) := by decide +kernel
theorem dX5_init_142 : decode cX5_init 142 = .ok (.putfield 61, 3) := by decide +kernel
theorem dX5_init_145 : decode cX5_init 145 = .ok (.aload_n 0, 1) := by decide +kernel
theorem dX5_init_146 : decode cX5_init 146 = .ok (.iconst 0, 1) := by decide +kernel
theorem dX5_init_147 : decode cX5_init 147 = .ok (.putfield 64, 3) := by decide +kernel
theorem dX5_init_150 : decode cX5_init 150 = .ok (.aload_n 0, 1) := by decide +kernel
theorem dX5_init_151 : decode cX5_init 151 = .ok (.iconst 0, 1) := by decide +kernel
theorem dX5_init_152 : decode cX5_init 152 = .ok (.putfield 68, 3) := by decide +kernel
theorem dX5_init_155 : decode cX5_init 155 = .ok (.aload_n 0, 1) := by decide +kernel
theorem dX5_init_156 : decode cX5_init 156 = .ok (.iconst 0, 1) := by decide +kernel
theorem dX5_init_157 : decode cX5_init 157 = .ok (.putfield 71, 3) := by decide +kernel
theorem dX5_init_160 : decode cX5_init 160 = .ok (.aload_n 0, 1) := by decide +kernel
theorem dX5_init_161 : decode cX5_init 161 = .ok (.iconst (-1), 1) := by decide +kernel
theorem dX5_init_162 : decode cX5_init 162 = .ok (.putfield 74, 3) := by decide +kernel
theorem dX5_init_165 : decode cX5_init 165 = .ok (.iconst 0, 1) := by decide +kernel
theorem dX5_init_166 : decode cX5_init 166 = .ok (.istore_n 1, 1) := by decide +kernel
theorem dX5_init_167 : decode cX5_init 167 = .ok (.iload_n 1, 1) := by decide +kernel
theorem dX5_init_168 : decode cX5_init 168 = .ok (.bipush 12, 2) := by decide +kernel
theorem dX5_init_170 : decode cX5_init 170 = .ok (.if_icmp .ge 22, 3) := by decide +kernel
theorem dX5_init_173 : decode cX5_init 173 = .ok (.aload_n 0, 1) := by decide +kernel
theorem dX5_init_174 : decode cX5_init 174 = .ok (.getfield 11, 3) := by decide +kernel
theorem dX5_init_177 : decode cX5_init 177 = .ok (.iload_n 1, 1) := by decide +kernel
theorem dX5_init_178 : decode cX5_init 178 = .ok (.new 9, 3) := by decide +kernel
theorem dX5_init_181 : decode cX5_init 181 = .ok (.dup, 1) := by decide +kernel
theorem dX5_init_182 : decode cX5_init 182 = .ok (.invokespecial 77, 3) := by decide +kernel
theorem dX5_init_185 : decode cX5_init 185 = .ok (.aastore, 1) := by decide +kernel
theorem dX5_init_186 : decode cX5_init 186 = .ok (.iinc 1 1, 3) := by decide +kernel
theorem dX5_init_189 : decode cX5_init 189 = .ok (.goto (-22), 3) := by decide +kernel
theorem dX5_init_192 : decode cX5_init 192 = .ok (.return_, 1) := by decide +kernel
theorem dX5_make_0 : decode cX5_make 0 = .ok (.iload_n 1, 1) := by decide +kernel
theorem dX5_make_1 : decode cX5_make 1 = .ok (.ifCond .lt 17, 3) := by decide +kernel
theorem dX5_make_4 : decode cX5_make 4 = .ok (.iload_n 1, 1) := by decide +kernel
theorem dX5_make_5 : decode cX5_make 5 = .ok (.bipush 15, 2) := by decide +kernel
theorem dX5_make_7 : decode cX5_make 7 = .ok (.if_icmp .gt 11, 3) := by decide +kernel
theorem dX5_make_10 : decode cX5_make 10 = .ok (.iload_n 1, 1) := by decide +kernel
theorem dX5_make_11 : decode cX5_make 11 = .ok (.lload_n 2, 1) := by decide +kernel
theorem dX5_make_12 : decode cX5_make 12 = .ok (.invokestatic 78, 3) := by decide +kernel
theorem dX5_make_15 : decode cX5_make 15 = .ok (.ifCond .ne 5, 3) := by decide +kernel
theorem dX5_make_18 : decode cX5_make 18 = .ok (.iconst (-1), 1) := by decide +kernel
theorem dX5_make_19 : decode cX5_make 19 = .ok (.ireturn, 1) := by decide +kernel
theorem dX5_make_20 : decode cX5_make 20 = .ok (.aload_n 0, 1) := by decide +kernel
theorem dX5_make_21 : decode cX5_make 21 = .ok (.invokevirtual 82, 3) := by decide +kernel
theorem dX5_make_24 : decode cX5_make 24 = .ok (.istore 4, 2) := by decide +kernel
theorem dX5_make_26 : decode cX5_make 26 = .ok (.iload 4, 2) := by decide +kernel
theorem dX5_make_28 : decode cX5_make 28 = .ok (.ifCond .ge 6, 3) := by decide +kernel
theorem dX5_make_31 : decode cX5_make 31 = .ok (.bipush (-3), 2) := by decide +kernel
theorem dX5_make_33 : decode cX5_make 33 = .ok (.ireturn, 1) := by decide +kernel
theorem dX5_make_34 : decode cX5_make 34 = .ok (.iload_n 1, 1) := by decide +kernel
theorem dX5_make_35 : decode cX5_make 35 = .ok (.bipush 14, 2) := by decide +kernel
theorem dX5_make_37 : decode cX5_make 37 = .ok (.if_icmp .lt 18, 3) := by decide +kernel
theorem dX5_make_40 : decode cX5_make 40 = .ok (.aload_n 0, 1) := by decide +kernel
theorem dX5_make_41 : decode cX5_make 41 = .ok (.getfield 11, 3) := by decide +kernel
theorem dX5_make_44 : decode cX5_make 44 = .ok (.iload 4, 2) := by decide +kernel
theorem dX5_make_46 : decode cX5_make 46 = .ok (.aaload, 1) := by decide +kernel
theorem dX5_make_47 : decode cX5_make 47 = .ok (.iload_n 1, 1) := by decide +kernel
theorem dX5_make_48 : decode cX5_make 48 = .ok (.lload_n 2, 1) := by decide +kernel
theorem dX5_make_49 : decode cX5_make 49 = .ok (.invokevirtual 86, 3) := by decide +kernel
theorem dX5_make_52 : decode cX5_make 52 = .ok (.goto 16, 3) := by decide +kernel
theorem dX5_make_55 : decode cX5_make 55 = .ok (.aload_n 0, 1) := by decide +kernel
theorem dX5_make_56 : decode cX5_make 56 = .ok (.getfield 11, 3) := by decide +kernel
theorem dX5_make_59 : decode cX5_make 59 = .ok (.iload 4, 2) := by decide +kernel
theorem dX5_make_61 : decode cX5_make 61 = .ok (.aaload, 1) := by decide +kernel
theorem dX5_make_62 : decode cX5_make 62 = .ok (.iload_n 1, 1) := by decide +kernel
theorem dX5_make_63 : decode cX5_make 63 = .ok (.lload_n 2, 1) := by decide +kernel
theorem dX5_make_64 : decode cX5_make 64 = .ok (.l2i, 1) := by decide +kernel
theorem dX5_make_65 : decode cX5_make 65 = .ok (.invokevirtual 90, 3) := by decide +kernel
theorem dX5_make_68 : decode cX5_make 68 = .ok (.iload 4, 2) := by decide +kernel
theorem dX5_make_70 : decode cX5_make 70 = .ok (.ireturn, 1) := by decide +kernel
theorem dX5_kind_0 : decode cX5_kind 0 = .ok (.aload_n 0, 1) := by decide +kernel
theorem dX5_kind_1 : decode cX5_kind 1 = .ok (.iload_n 1, 1) := by decide +kernel
theorem dX5_kind_2 : decode cX5_kind 2 = .ok (.invokevirtual 94, 3) := by decide +kernel
theorem dX5_kind_5 : decode cX5_kind 5 = .ok (.istore_n 2, 1) := by decide +kernel
theorem dX5_kind_6 : decode cX5_kind 6 = .ok (.iload_n 2, 1) := by decide +kernel
theorem dX5_kind_7 : decode cX5_kind 7 = .ok (.ifCond .eq 7, 3) := by decide +kernel
theorem dX5_kind_10 : decode cX5_kind 10 = .ok (.iload_n 2, 1) := by decide +kernel
theorem dX5_kind_11 : decode cX5_kind 11 = .ok (.goto 12, 3) := by decide +kernel
theorem dX5_kind_14 : decode cX5_kind 14 = .ok (.aload_n 0, 1) := by decide +kernel
theorem dX5_kind_15 : decode cX5_kind 15 = .ok (.getfield 11, 3) := by decide +kernel
theorem dX5_kind_18 : decode cX5_kind 18 = .ok (.iload_n 1, 1) := by decide +kernel
theorem dX5_kind_19 : decode cX5_kind 19 = .ok (.aaload, 1) := by decide +kernel
theorem dX5_kind_20 : decode cX5_kind 20 = .ok (.getfield 98, 3) := by decide +kernel
theorem dX5_kind_23 : decode cX5_kind 23 = .ok (.ireturn, 1) := by decide +kernel
theorem dX5_size_0 : decode cX5_size 0 = .ok (.aload_n 0, 1) := by decide +kernel
theorem dX5_size_1 : decode cX5_size 1 = .ok (.iload_n 1, 1) := by decide +kernel
theorem dX5_size_2 : decode cX5_size 2 = .ok (.invokevirtual 101, 3) := by decide +kernel
theorem dX5_size_5 : decode cX5_size 5 = .ok (.istore_n 2, 1) := by decide +kernel
theorem dX5_size_6 : decode cX5_size 6 = .ok (.iload_n 2, 1) := by decide +kernel
theorem dX5_size_7 : decode cX5_size 7 = .ok (.ifCond .eq 7, 3) := by decide +kernel
theorem dX5_size_10 : decode cX5_size 10 = .ok (.iload_n 2, 1) := by decide +kernel
theorem dX5_size_11 : decode cX5_size 11 = .ok (.goto 12, 3) := by decide +kernel
theorem dX5_size_14 : decode cX5_size 14 = .ok (.aload_n 0, 1) := by decide +kernel
theorem dX5_size_15 : decode cX5_size 15 = .ok (.getfield 11, 3) := by decide +kernel
theorem dX5_size_18 : decode cX5_size 18 = .ok (.iload_n 1, 1) := by decide +kernel
theorem dX5_size_19 : decode cX5_size 19 = .ok (.aaload, 1) := by decide +kernel
theorem dX5_size_20 : decode cX5_size 20 = .ok (.getfield 104, 3) := by decide +kernel
theorem dX5_size_23 : decode cX5_size 23 = .ok (.ireturn, 1) := by decide +kernel
theorem dX5_drop_0 : decode cX5_drop 0 = .ok (.aload_n 0, 1) := by decide +kernel
theorem dX5_drop_1 : decode cX5_drop 1 = .ok (.iload_n 1, 1) := by decide +kernel
theorem dX5_drop_2 : decode cX5_drop 2 = .ok (.invokevirtual 94, 3) := by decide +kernel
theorem dX5_drop_5 : decode cX5_drop 5 = .ok (.istore_n 2, 1) := by decide +kernel
theorem dX5_drop_6 : decode cX5_drop 6 = .ok (.iload_n 2, 1) := by decide +kernel
theorem dX5_drop_7 : decode cX5_drop 7 = .ok (.ifCond .eq 5, 3) := by decide +kernel
theorem dX5_drop_10 : decode cX5_drop 10 = .ok (.iload_n 2, 1) := by decide +kernel
theorem dX5_drop_11 : decode cX5_drop 11 = .ok (.ireturn, 1) := by decide +kernel
theorem dX5_drop_12 : decode cX5_drop 12 = .ok (.iconst 0, 1) := by decide +kernel
theorem dX5_drop_13 : decode cX5_drop 13 = .ok (.istore_n 3, 1) := by decide +kernel
theorem dX5_drop_14 : decode cX5_drop 14 = .ok (.iload_n 3, 1) := by decide +kernel
theorem dX5_drop_15 : decode cX5_drop 15 = .ok (.bipush 12, 2) := by decide +kernel
theorem dX5_drop_17 : decode cX5_drop 17 = .ok (.if_icmp .ge 29, 3) := by decide +kernel
theorem dX5_drop_20 : decode cX5_drop 20 = .ok (.iload_n 3, 1) := by decide +kernel
theorem dX5_drop_21 : decode cX5_drop 21 = .ok (.iload_n 1, 1) := by decide +kernel
theorem dX5_drop_22 : decode cX5_drop 22 = .ok (.if_icmp .eq 18, 3) := by decide +kernel
theorem dX5_drop_25 : decode cX5_drop 25 = .ok (.aload_n 0, 1) := by decide +kernel
theorem dX5_drop_26 : decode cX5_drop 26 = .ok (.iload_n 3, 1) := by decide +kernel
theorem dX5_drop_27 : decode cX5_drop 27 = .ok (.invokevirtual 107, 3) := by decide +kernel
theorem dX5_drop_30 : decode cX5_drop 30 = .ok (.iload_n 1, 1) := by decide +kernel
theorem dX5_drop_31 : decode cX5_drop 31 = .ok (.invokestatic 110, 3) := by decide +kernel
theorem dX5_drop_34 : decode cX5_drop 34 = .ok (.ifCond .eq 6, 3) := by decide +kernel
theorem dX5_drop_37 : decode cX5_drop 37 = .ok (.bipush (-2), 2) := by decide +kernel
theorem dX5_drop_39 : decode cX5_drop 39 = .ok (.ireturn, 1) := by decide +kernel
theorem dX5_drop_40 : decode cX5_drop 40 = .ok (.iinc 3 1, 3) := by decide +kernel
theorem dX5_drop_43 : decode cX5_drop 43 = .ok (.goto (-29), 3) := by decide +kernel
theorem dX5_drop_46 : decode cX5_drop 46 = .ok (.aload_n 0, 1) := by decide +kernel
theorem dX5_drop_47 : decode cX5_drop 47 = .ok (.getfield 11, 3) := by decide +kernel
theorem dX5_drop_50 : decode cX5_drop 50 = .ok (.iload_n 1, 1) := by decide +kernel
theorem dX5_drop_51 : decode cX5_drop 51 = .ok (.aaload, 1) := by decide +kernel
theorem dX5_drop_52 : decode cX5_drop 52 = .ok (.invokevirtual 114, 3) := by decide +kernel
theorem dX5_drop_55 : decode cX5_drop 55 = .ok (.aload_n 0, 1) := by decide +kernel
theorem dX5_drop_56 : decode cX5_drop 56 = .ok (.invokevirtual 117, 3) := by decide +kernel
theorem dX5_drop_59 : decode cX5_drop 59 = .ok (.ireturn, 1) := by decide +kernel
theorem dX5_gather_0 : decode cX5_gather 0 = .ok (.aload_n 0, 1) := by decide +kernel
theorem dX5_gather_1 : decode cX5_gather 1 = .ok (.iload_n 1, 1) := by decide +kernel
theorem dX5_gather_2 : decode cX5_gather 2 = .ok (.invokevirtual 94, 3) := by decide +kernel
theorem dX5_gather_5 : decode cX5_gather 5 = .ok (.istore_n 2, 1) := by decide +kernel
theorem dX5_gather_6 : decode cX5_gather 6 = .ok (.iload_n 2, 1) := by decide +kernel
theorem dX5_gather_7 : decode cX5_gather 7 = .ok (.ifCond .eq 5, 3) := by decide +kernel
theorem dX5_gather_10 : decode cX5_gather 10 = .ok (.iload_n 2, 1) := by decide +kernel
theorem dX5_gather_11 : decode cX5_gather 11 = .ok (.ireturn, 1) := by decide +kernel
theorem dX5_gather_12 : decode cX5_gather 12 = .ok (.aload_n 0, 1) := by decide +kernel
theorem dX5_gather_13 : decode cX5_gather 13 = .ok (.iload_n 1, 1) := by decide +kernel
theorem dX5_gather_14 : decode cX5_gather 14 = .ok (.invokevirtual 120, 3) := by decide +kernel
theorem dX5_gather_17 : decode cX5_gather 17 = .ok (.istore_n 3, 1) := by decide +kernel
theorem dX5_gather_18 : decode cX5_gather 18 = .ok (.iconst 0, 1) := by decide +kernel
theorem dX5_gather_19 : decode cX5_gather 19 = .ok (.istore 4, 2) := by decide +kernel
theorem dX5_gather_21 : decode cX5_gather 21 = .ok (.iconst 0, 1) := by decide +kernel
theorem dX5_gather_22 : decode cX5_gather 22 = .ok (.istore 5, 2) := by decide +kernel
theorem dX5_gather_24 : decode cX5_gather 24 = .ok (.iload 5, 2) := by decide +kernel
theorem dX5_gather_26 : decode cX5_gather 26 = .ok (.bipush 12, 2) := by decide +kernel
theorem dX5_gather_28 : decode cX5_gather 28 = .ok (.if_icmp .ge 47, 3) := by decide +kernel
theorem dX5_gather_31 : decode cX5_gather 31 = .ok (.iload_n 3, 1) := by decide +kernel
theorem dX5_gather_32 : decode cX5_gather 32 = .ok (.iload 5, 2) := by decide +kernel
theorem dX5_gather_34 : decode cX5_gather 34 = .ok (.invokestatic 110, 3) := by decide +kernel
theorem dX5_gather_37 : decode cX5_gather 37 = .ok (.ifCond .ne 32, 3) := by decide +kernel
theorem dX5_gather_40 : decode cX5_gather 40 = .ok (.aload_n 0, 1) := by decide +kernel
theorem dX5_gather_41 : decode cX5_gather 41 = .ok (.getfield 11, 3) := by decide +kernel
theorem dX5_gather_44 : decode cX5_gather 44 = .ok (.iload 5, 2) := by decide +kernel
theorem dX5_gather_46 : decode cX5_gather 46 = .ok (.aaload, 1) := by decide +kernel
theorem dX5_gather_47 : decode cX5_gather 47 = .ok (.invokevirtual 123, 3) := by decide +kernel
theorem dX5_gather_50 : decode cX5_gather 50 = .ok (.ifCond .eq 6, 3) := by decide +kernel
theorem dX5_gather_53 : decode cX5_gather 53 = .ok (.goto 16, 3) := by decide +kernel
theorem dX5_gather_56 : decode cX5_gather 56 = .ok (.aload_n 0, 1) := by decide +kernel
theorem dX5_gather_57 : decode cX5_gather 57 = .ok (.getfield 11, 3) := by decide +kernel
theorem dX5_gather_60 : decode cX5_gather 60 = .ok (.iload 5, 2) := by decide +kernel
theorem dX5_gather_62 : decode cX5_gather 62 = .ok (.aaload, 1) := by decide +kernel
theorem dX5_gather_63 : decode cX5_gather 63 = .ok (.invokevirtual 114, 3) := by decide +kernel
theorem dX5_gather_66 : decode cX5_gather 66 = .ok (.iinc 4 1, 3) := by decide +kernel
theorem dX5_gather_69 : decode cX5_gather 69 = .ok (.iinc 5 1, 3) := by decide +kernel
theorem dX5_gather_72 : decode cX5_gather 72 = .ok (.goto (-48), 3) := by decide +kernel
theorem dX5_gather_75 : decode cX5_gather 75 = .ok (.iload 4, 2) := by decide +kernel
theorem dX5_gather_77 : decode cX5_gather 77 = .ok (.ireturn, 1) := by decide +kernel
theorem dX5_copyOf_0 : decode cX5_copyOf 0 = .ok (.aload_n 0, 1) := by decide +kernel
theorem dX5_copyOf_1 : decode cX5_copyOf 1 = .ok (.iload_n 1, 1) := by decide +kernel
theorem dX5_copyOf_2 : decode cX5_copyOf 2 = .ok (.invokevirtual 101, 3) := by decide +kernel
theorem dX5_copyOf_5 : decode cX5_copyOf 5 = .ok (.istore_n 2, 1) := by decide +kernel
theorem dX5_copyOf_6 : decode cX5_copyOf 6 = .ok (.iload_n 2, 1) := by decide +kernel
theorem dX5_copyOf_7 : decode cX5_copyOf 7 = .ok (.ifCond .eq 5, 3) := by decide +kernel
theorem dX5_copyOf_10 : decode cX5_copyOf 10 = .ok (.iload_n 2, 1) := by decide +kernel
theorem dX5_copyOf_11 : decode cX5_copyOf 11 = .ok (.ireturn, 1) := by decide +kernel
theorem dX5_copyOf_12 : decode cX5_copyOf 12 = .ok (.aload_n 0, 1) := by decide +kernel
theorem dX5_copyOf_13 : decode cX5_copyOf 13 = .ok (.invokevirtual 82, 3) := by decide +kernel
theorem dX5_copyOf_16 : decode cX5_copyOf 16 = .ok (.istore_n 3, 1) := by decide +kernel
theorem dX5_copyOf_17 : decode cX5_copyOf 17 = .ok (.iload_n 3, 1) := by decide +kernel
theorem dX5_copyOf_18 : decode cX5_copyOf 18 = .ok (.ifCond .ge 6, 3) := by decide +kernel
theorem dX5_copyOf_21 : decode cX5_copyOf 21 = .ok (.bipush (-3), 2) := by decide +kernel
theorem dX5_copyOf_23 : decode cX5_copyOf 23 = .ok (.ireturn, 1) := by decide +kernel
theorem dX5_copyOf_24 : decode cX5_copyOf 24 = .ok (.aload_n 0, 1) := by decide +kernel
theorem dX5_copyOf_25 : decode cX5_copyOf 25 = .ok (.getfield 11, 3) := by decide +kernel
theorem dX5_copyOf_28 : decode cX5_copyOf 28 = .ok (.iload_n 3, 1) := by decide +kernel
theorem dX5_copyOf_29 : decode cX5_copyOf 29 = .ok (.aaload, 1) := by decide +kernel
theorem dX5_copyOf_30 : decode cX5_copyOf 30 = .ok (.aload_n 0, 1) := by decide +kernel
theorem dX5_copyOf_31 : decode cX5_copyOf 31 = .ok (.getfield 11, 3) := by decide +kernel
theorem dX5_copyOf_34 : decode cX5_copyOf 34 = .ok (.iload_n 1, 1) := by decide +kernel
theorem dX5_copyOf_35 : decode cX5_copyOf 35 = .ok (.aaload, 1) := by decide +kernel
theorem dX5_copyOf_36 : decode cX5_copyOf 36 = .ok (.invokevirtual 127, 3) := by decide +kernel
theorem dX5_copyOf_39 : decode cX5_copyOf 39 = .ok (.iload_n 3, 1) := by decide +kernel
theorem dX5_copyOf_40 : decode cX5_copyOf 40 = .ok (.ireturn, 1) := by decide +kernel
theorem dX5_get_0 : decode cX5_get 0 = .ok (.aload_n 0, 1) := by decide +kernel
theorem dX5_get_1 : decode cX5_get 1 = .ok (.iload_n 1, 1) := by decide +kernel
theorem dX5_get_2 : decode cX5_get 2 = .ok (.iload_n 2, 1) := by decide +kernel
theorem dX5_get_3 : decode cX5_get 3 = .ok (.iload_n 3, 1) := by decide +kernel
theorem dX5_get_4 : decode cX5_get 4 = .ok (.invokevirtual 131, 3) := by decide +kernel
theorem dX5_get_7 : decode cX5_get 7 = .ok (.istore 4, 2) := by decide +kernel
theorem dX5_get_9 : decode cX5_get 9 = .ok (.aload_n 0, 1) := by decide +kernel
theorem dX5_get_10 : decode cX5_get 10 = .ok (.iload 4, 2) := by decide +kernel
theorem dX5_get_12 : decode cX5_get 12 = .ok (.invokevirtual 135, 3) := by decide +kernel
theorem dX5_get_15 : decode cX5_get 15 = .ok (.aload_n 0, 1) := by decide +kernel
theorem dX5_get_16 : decode cX5_get 16 = .ok (.iload 4, 2) := by decide +kernel
theorem dX5_get_18 : decode cX5_get 18 = .ok (.iconst (-1), 1) := by decide +kernel
theorem dX5_get_19 : decode cX5_get 19 = .ok (.invokevirtual 138, 3) := by decide +kernel
theorem dX5_get_22 : decode cX5_get 22 = .ok (.pop, 1) := by decide +kernel
theorem dX5_get_23 : decode cX5_get 23 = .ok (.iload 4, 2) := by decide +kernel
theorem dX5_get_25 : decode cX5_get 25 = .ok (.ifCond .eq 7, 3) := by decide +kernel
theorem dX5_get_28 : decode cX5_get 28 = .ok (.lconst 0, 1) := by decide +kernel
theorem dX5_get_29 : decode cX5_get 29 = .ok (.goto 27, 3) := by decide +kernel
theorem dX5_get_32 : decode cX5_get 32 = .ok (.aload_n 0, 1) := by decide +kernel
theorem dX5_get_33 : decode cX5_get 33 = .ok (.getfield 11, 3) := by decide +kernel
theorem dX5_get_36 : decode cX5_get 36 = .ok (.iload_n 1, 1) := by decide +kernel
theorem dX5_get_37 : decode cX5_get 37 = .ok (.aaload, 1) := by decide +kernel
theorem dX5_get_38 : decode cX5_get 38 = .ok (.getfield 98, 3) := by decide +kernel
theorem dX5_get_41 : decode cX5_get 41 = .ok (.iload_n 2, 1) := by decide +kernel
theorem dX5_get_42 : decode cX5_get 42 = .ok (.aload_n 0, 1) := by decide +kernel
theorem dX5_get_43 : decode cX5_get 43 = .ok (.getfield 11, 3) := by decide +kernel
theorem dX5_get_46 : decode cX5_get 46 = .ok (.iload_n 1, 1) := by decide +kernel
theorem dX5_get_47 : decode cX5_get 47 = .ok (.aaload, 1) := by decide +kernel
theorem dX5_get_48 : decode cX5_get 48 = .ok (.getfield 142, 3) := by decide +kernel
theorem dX5_get_51 : decode cX5_get 51 = .ok (.iload_n 3, 1) := by decide +kernel
theorem dX5_get_52 : decode cX5_get 52 = .ok (.laload, 1) := by decide +kernel
theorem dX5_get_53 : decode cX5_get 53 = .ok (.invokestatic 146, 3) := by decide +kernel
theorem dX5_get_56 : decode cX5_get 56 = .ok (.lreturn, 1) := by decide +kernel
theorem dX5_set_0 : decode cX5_set 0 = .ok (.aload_n 0, 1) := by decide +kernel
theorem dX5_set_1 : decode cX5_set 1 = .ok (.iload_n 1, 1) := by decide +kernel
theorem dX5_set_2 : decode cX5_set 2 = .ok (.iload_n 2, 1) := by decide +kernel
theorem dX5_set_3 : decode cX5_set 3 = .ok (.iload_n 3, 1) := by decide +kernel
theorem dX5_set_4 : decode cX5_set 4 = .ok (.lload 4, 2) := by decide +kernel
theorem dX5_set_6 : decode cX5_set 6 = .ok (.invokevirtual 152, 3) := by decide +kernel
theorem dX5_set_9 : decode cX5_set 9 = .ok (.istore 6, 2) := by decide +kernel
theorem dX5_set_11 : decode cX5_set 11 = .ok (.aload_n 0, 1) := by decide +kernel
theorem dX5_set_12 : decode cX5_set 12 = .ok (.iload 6, 2) := by decide +kernel
theorem dX5_set_14 : decode cX5_set 14 = .ok (.invokevirtual 135, 3) := by decide +kernel
theorem dX5_set_17 : decode cX5_set 17 = .ok (.iload 6, 2) := by decide +kernel
theorem dX5_set_19 : decode cX5_set 19 = .ok (.ifCond .ne 20, 3) := by decide +kernel
theorem dX5_set_22 : decode cX5_set 22 = .ok (.aload_n 0, 1) := by decide +kernel
theorem dX5_set_23 : decode cX5_set 23 = .ok (.getfield 11, 3) := by decide +kernel
theorem dX5_set_26 : decode cX5_set 26 = .ok (.iload_n 1, 1) := by decide +kernel
theorem dX5_set_27 : decode cX5_set 27 = .ok (.aaload, 1) := by decide +kernel
theorem dX5_set_28 : decode cX5_set 28 = .ok (.iload_n 3, 1) := by decide +kernel
theorem dX5_set_29 : decode cX5_set 29 = .ok (.iload_n 2, 1) := by decide +kernel
theorem dX5_set_30 : decode cX5_set 30 = .ok (.iload_n 2, 1) := by decide +kernel
theorem dX5_set_31 : decode cX5_set 31 = .ok (.lload 4, 2) := by decide +kernel
theorem dX5_set_33 : decode cX5_set 33 = .ok (.invokestatic 156, 3) := by decide +kernel
theorem dX5_set_36 : decode cX5_set 36 = .ok (.invokevirtual 160, 3) := by decide +kernel
theorem dX5_set_39 : decode cX5_set 39 = .ok (.iload 6, 2) := by decide +kernel
theorem dX5_set_41 : decode cX5_set 41 = .ok (.ireturn, 1) := by decide +kernel
theorem dX5_usable_0 : decode cX5_usable 0 = .ok (.iload_n 3, 1) := by decide +kernel
theorem dX5_usable_1 : decode cX5_usable 1 = .ok (.ifCond .lt 8, 3) := by decide +kernel
theorem dX5_usable_4 : decode cX5_usable 4 = .ok (.iload_n 3, 1) := by decide +kernel
theorem dX5_usable_5 : decode cX5_usable 5 = .ok (.iconst 1, 1) := by decide +kernel
theorem dX5_usable_6 : decode cX5_usable 6 = .ok (.if_icmp .le 5, 3) := by decide +kernel
theorem dX5_usable_9 : decode cX5_usable 9 = .ok (.iconst (-1), 1) := by decide +kernel
theorem dX5_usable_10 : decode cX5_usable 10 = .ok (.ireturn, 1) := by decide +kernel
theorem dX5_usable_11 : decode cX5_usable 11 = .ok (.aload_n 0, 1) := by decide +kernel
theorem dX5_usable_12 : decode cX5_usable 12 = .ok (.iload_n 1, 1) := by decide +kernel
theorem dX5_usable_13 : decode cX5_usable 13 = .ok (.iload_n 2, 1) := by decide +kernel
theorem dX5_usable_14 : decode cX5_usable 14 = .ok (.invokevirtual 164, 3) := by decide +kernel
theorem dX5_usable_17 : decode cX5_usable 17 = .ok (.istore 4, 2) := by decide +kernel
theorem dX5_usable_19 : decode cX5_usable 19 = .ok (.iload 4, 2) := by decide +kernel
theorem dX5_usable_21 : decode cX5_usable 21 = .ok (.ifCond .eq 6, 3) := by decide +kernel
theorem dX5_usable_24 : decode cX5_usable 24 = .ok (.iload 4, 2) := by decide +kernel
theorem dX5_usable_26 : decode cX5_usable 26 = .ok (.ireturn, 1) := by decide +kernel
theorem dX5_usable_27 : decode cX5_usable 27 = .ok (.aload_n 0, 1) := by decide +kernel
theorem dX5_usable_28 : decode cX5_usable 28 = .ok (.getfield 11, 3) := by decide +kernel
theorem dX5_usable_31 : decode cX5_usable 31 = .ok (.iload_n 1, 1) := by decide +kernel
theorem dX5_usable_32 : decode cX5_usable 32 = .ok (.aaload, 1) := by decide +kernel
theorem dX5_usable_33 : decode cX5_usable 33 = .ok (.getfield 98, 3) := by decide +kernel
theorem dX5_usable_36 : decode cX5_usable 36 = .ok (.istore 5, 2) := by decide +kernel
theorem dX5_usable_38 : decode cX5_usable 38 = .ok (.iconst 0, 1) := by decide +kernel
theorem dX5_usable_39 : decode cX5_usable 39 = .ok (.istore 6, 2) := by decide +kernel
theorem dX5_usable_41 : decode cX5_usable 41 = .ok (.iconst 0, 1) := by decide +kernel
theorem dX5_usable_42 : decode cX5_usable 42 = .ok (.istore 7, 2) := by decide +kernel
theorem dX5_usable_44 : decode cX5_usable 44 = .ok (.iload 7, 2) := by decide +kernel
theorem dX5_usable_46 : decode cX5_usable 46 = .ok (.bipush 7, 2) := by decide +kernel
theorem dX5_usable_48 : decode cX5_usable 48 = .ok (.if_icmp .gt 46, 3) := by decide +kernel
theorem dX5_usable_51 : decode cX5_usable 51 = .ok (.iload_n 3, 1) := by decide +kernel
theorem dX5_usable_52 : decode cX5_usable 52 = .ok (.ifCond .ne 13, 3) := by decide +kernel
theorem dX5_usable_55 : decode cX5_usable 55 = .ok (.iload 5, 2) := by decide +kernel
theorem dX5_usable_57 : decode cX5_usable 57 = .ok (.iload 7, 2) := by decide +kernel
theorem dX5_usable_59 : decode cX5_usable 59 = .ok (.invokestatic 167, 3) := by decide +kernel
theorem dX5_usable_62 : decode cX5_usable 62 = .ok (.goto 10, 3) := by decide +kernel
theorem dX5_usable_65 : decode cX5_usable 65 = .ok (.iload 7, 2) := by decide +kernel
theorem dX5_usable_67 : decode cX5_usable 67 = .ok (.iload 5, 2) := by decide +kernel
theorem dX5_usable_69 : decode cX5_usable 69 = .ok (.invokestatic 167, 3) := by decide +kernel
theorem dX5_usable_72 : decode cX5_usable 72 = .ok (.istore 8, 2) := by decide +kernel
theorem dX5_usable_74 : decode cX5_usable 74 = .ok (.iload 8, 2) := by decide +kernel
theorem dX5_usable_76 : decode cX5_usable 76 = .ok (.ifCond .eq 12, 3) := by decide +kernel
theorem dX5_usable_79 : decode cX5_usable 79 = .ok (.iload 6, 2) := by decide +kernel
theorem dX5_usable_81 : decode cX5_usable 81 = .ok (.iconst 1, 1) := by decide +kernel
theorem dX5_usable_82 : decode cX5_usable 82 = .ok (.iload 7, 2) := by decide +kernel
theorem dX5_usable_84 : decode cX5_usable 84 = .ok (.ishl, 1) := by decide +kernel
theorem dX5_usable_85 : decode cX5_usable 85 = .ok (.ior, 1) := by decide +kernel
theorem dX5_usable_86 : decode cX5_usable 86 = .ok (.istore 6, 2) := by decide +kernel
theorem dX5_usable_88 : decode cX5_usable 88 = .ok (.iinc 7 1, 3) := by decide +kernel
theorem dX5_usable_91 : decode cX5_usable 91 = .ok (.goto (-47), 3) := by decide +kernel
theorem dX5_usable_94 : decode cX5_usable 94 = .ok (.iload 6, 2) := by decide +kernel
theorem dX5_usable_96 : decode cX5_usable 96 = .ok (.ireturn, 1) := by decide +kernel
theorem dX5_look_0 : decode cX5_look 0 = .ok (.iload_n 3, 1) := by decide +kernel
theorem dX5_look_1 : decode cX5_look 1 = .ok (.ifCond .lt 8, 3) := by decide +kernel
theorem dX5_look_4 : decode cX5_look 4 = .ok (.iload_n 3, 1) := by decide +kernel
theorem dX5_look_5 : decode cX5_look 5 = .ok (.iconst 1, 1) := by decide +kernel
theorem dX5_look_6 : decode cX5_look 6 = .ok (.if_icmp .le 7, 3) := by decide +kernel
theorem dX5_look_9 : decode cX5_look 9 = .ok (.iconst (-1), 1) := by decide +kernel
theorem dX5_look_10 : decode cX5_look 10 = .ok (.goto 9, 3) := by decide +kernel
theorem dX5_look_13 : decode cX5_look 13 = .ok (.aload_n 0, 1) := by decide +kernel
theorem dX5_look_14 : decode cX5_look 14 = .ok (.iload_n 1, 1) := by decide +kernel
theorem dX5_look_15 : decode cX5_look 15 = .ok (.iload_n 2, 1) := by decide +kernel
theorem dX5_look_16 : decode cX5_look 16 = .ok (.invokevirtual 164, 3) := by decide +kernel
theorem dX5_look_19 : decode cX5_look 19 = .ok (.istore 4, 2) := by decide +kernel
theorem dX5_look_21 : decode cX5_look 21 = .ok (.aload_n 0, 1) := by decide +kernel
theorem dX5_look_22 : decode cX5_look 22 = .ok (.iload 4, 2) := by decide +kernel
theorem dX5_look_24 : decode cX5_look 24 = .ok (.invokevirtual 135, 3) := by decide +kernel
theorem dX5_look_27 : decode cX5_look 27 = .ok (.aload_n 0, 1) := by decide +kernel
theorem dX5_look_28 : decode cX5_look 28 = .ok (.iload 4, 2) := by decide +kernel
theorem dX5_look_30 : decode cX5_look 30 = .ok (.iconst (-1), 1) := by decide +kernel
theorem dX5_look_31 : decode cX5_look 31 = .ok (.invokevirtual 138, 3) := by decide +kernel
theorem dX5_look_34 : decode cX5_look 34 = .ok (.pop, 1) := by decide +kernel
theorem dX5_look_35 : decode cX5_look 35 = .ok (.iload 4, 2) := by decide +kernel
theorem dX5_look_37 : decode cX5_look 37 = .ok (.ifCond .eq 5, 3) := by decide +kernel
theorem dX5_look_40 : decode cX5_look 40 = .ok (.lconst 0, 1) := by decide +kernel
theorem dX5_look_41 : decode cX5_look 41 = .ok (.lreturn, 1) := by decide +kernel
theorem dX5_look_42 : decode cX5_look 42 = .ok (.iload_n 3, 1) := by decide +kernel
theorem dX5_look_43 : decode cX5_look 43 = .ok (.ifCond .ne 18, 3) := by decide +kernel
theorem dX5_look_46 : decode cX5_look 46 = .ok (.aload_n 0, 1) := by decide +kernel
theorem dX5_look_47 : decode cX5_look 47 = .ok (.getfield 11, 3) := by decide +kernel
theorem dX5_look_50 : decode cX5_look 50 = .ok (.iload_n 1, 1) := by decide +kernel
theorem dX5_look_51 : decode cX5_look 51 = .ok (.aaload, 1) := by decide +kernel
theorem dX5_look_52 : decode cX5_look 52 = .ok (.getfield 170, 3) := by decide +kernel
theorem dX5_look_55 : decode cX5_look 55 = .ok (.iload_n 2, 1) := by decide +kernel
theorem dX5_look_56 : decode cX5_look 56 = .ok (.iaload, 1) := by decide +kernel
theorem dX5_look_57 : decode cX5_look 57 = .ok (.i2l, 1) := by decide +kernel
theorem dX5_look_58 : decode cX5_look 58 = .ok (.goto 14, 3) := by decide +kernel
theorem dX5_look_61 : decode cX5_look 61 = .ok (.aload_n 0, 1) := by decide +kernel
theorem dX5_look_62 : decode cX5_look 62 = .ok (.getfield 11, 3) := by decide +kernel
theorem dX5_look_65 : decode cX5_look 65 = .ok (.iload_n 1, 1) := by decide +kernel
theorem dX5_look_66 : decode cX5_look 66 = .ok (.aaload, 1) := by decide +kernel
theorem dX5_look_67 : decode cX5_look 67 = .ok (.getfield 142, 3) := by decide +kernel
theorem dX5_look_70 : decode cX5_look 70 = .ok (.iload_n 2, 1) := by decide +kernel
theorem dX5_look_71 : decode cX5_look 71 = .ok (.laload, 1) := by decide +kernel
theorem dX5_look_72 : decode cX5_look 72 = .ok (.lreturn, 1) := by decide +kernel
theorem dX5_put_0 : decode cX5_put 0 = .ok (.aload_n 0, 1) := by decide +kernel
theorem dX5_put_1 : decode cX5_put 1 = .ok (.iload_n 1, 1) := by decide +kernel
theorem dX5_put_2 : decode cX5_put 2 = .ok (.iload_n 2, 1) := by decide +kernel
theorem dX5_put_3 : decode cX5_put 3 = .ok (.iload_n 3, 1) := by decide +kernel
theorem dX5_put_4 : decode cX5_put 4 = .ok (.lload 4, 2) := by decide +kernel
theorem dX5_put_6 : decode cX5_put 6 = .ok (.invokevirtual 173, 3) := by decide +kernel
theorem dX5_put_9 : decode cX5_put 9 = .ok (.istore 6, 2) := by decide +kernel
theorem dX5_put_11 : decode cX5_put 11 = .ok (.aload_n 0, 1) := by decide +kernel
theorem dX5_put_12 : decode cX5_put 12 = .ok (.iload 6, 2) := by decide +kernel
theorem dX5_put_14 : decode cX5_put 14 = .ok (.invokevirtual 135, 3) := by decide +kernel
theorem dX5_put_17 : decode cX5_put 17 = .ok (.iload 6, 2) := by decide +kernel
theorem dX5_put_19 : decode cX5_put 19 = .ok (.ifCond .ne 20, 3) := by decide +kernel
theorem dX5_put_22 : decode cX5_put 22 = .ok (.aload_n 0, 1) := by decide +kernel
theorem dX5_put_23 : decode cX5_put 23 = .ok (.getfield 11, 3) := by decide +kernel
theorem dX5_put_26 : decode cX5_put 26 = .ok (.iload_n 1, 1) := by decide +kernel
theorem dX5_put_27 : decode cX5_put 27 = .ok (.aaload, 1) := by decide +kernel
theorem dX5_put_28 : decode cX5_put 28 = .ok (.iload_n 2, 1) := by decide +kernel
theorem dX5_put_29 : decode cX5_put 29 = .ok (.iload_n 3, 1) := by decide +kernel
theorem dX5_put_30 : decode cX5_put 30 = .ok (.iload_n 3, 1) := by decide +kernel
theorem dX5_put_31 : decode cX5_put 31 = .ok (.lload 4, 2) := by decide +kernel
theorem dX5_put_33 : decode cX5_put 33 = .ok (.invokestatic 156, 3) := by decide +kernel
theorem dX5_put_36 : decode cX5_put 36 = .ok (.invokevirtual 160, 3) := by decide +kernel
theorem dX5_put_39 : decode cX5_put 39 = .ok (.iload 6, 2) := by decide +kernel
theorem dX5_put_41 : decode cX5_put 41 = .ok (.ireturn, 1) := by decide +kernel
theorem dX5_swap_0 : decode cX5_swap 0 = .ok (.aload_n 0, 1) := by decide +kernel
theorem dX5_swap_1 : decode cX5_swap 1 = .ok (.iload_n 1, 1) := by decide +kernel
theorem dX5_swap_2 : decode cX5_swap 2 = .ok (.iload_n 2, 1) := by decide +kernel
theorem dX5_swap_3 : decode cX5_swap 3 = .ok (.invokevirtual 164, 3) := by decide +kernel
theorem dX5_swap_6 : decode cX5_swap 6 = .ok (.istore 4, 2) := by decide +kernel
theorem dX5_swap_8 : decode cX5_swap 8 = .ok (.iload 4, 2) := by decide +kernel
theorem dX5_swap_10 : decode cX5_swap 10 = .ok (.ifCond .ne 11, 3) := by decide +kernel
theorem dX5_swap_13 : decode cX5_swap 13 = .ok (.aload_n 0, 1) := by decide +kernel
theorem dX5_swap_14 : decode cX5_swap 14 = .ok (.iload_n 1, 1) := by decide +kernel
theorem dX5_swap_15 : decode cX5_swap 15 = .ok (.iload_n 3, 1) := by decide +kernel
theorem dX5_swap_16 : decode cX5_swap 16 = .ok (.invokevirtual 164, 3) := by decide +kernel
theorem dX5_swap_19 : decode cX5_swap 19 = .ok (.istore 4, 2) := by decide +kernel
theorem dX5_swap_21 : decode cX5_swap 21 = .ok (.iload 4, 2) := by decide +kernel
theorem dX5_swap_23 : decode cX5_swap 23 = .ok (.ifCond .ne 14, 3) := by decide +kernel
theorem dX5_swap_26 : decode cX5_swap 26 = .ok (.aload_n 0, 1) := by decide +kernel
theorem dX5_swap_27 : decode cX5_swap 27 = .ok (.getfield 11, 3) := by decide +kernel
theorem dX5_swap_30 : decode cX5_swap 30 = .ok (.iload_n 1, 1) := by decide +kernel
theorem dX5_swap_31 : decode cX5_swap 31 = .ok (.aaload, 1) := by decide +kernel
theorem dX5_swap_32 : decode cX5_swap 32 = .ok (.iload_n 2, 1) := by decide +kernel
theorem dX5_swap_33 : decode cX5_swap 33 = .ok (.iload_n 3, 1) := by decide +kernel
theorem dX5_swap_34 : decode cX5_swap 34 = .ok (.invokevirtual 176, 3) := by decide +kernel
theorem dX5_swap_37 : decode cX5_swap 37 = .ok (.iload 4, 2) := by decide +kernel
theorem dX5_swap_39 : decode cX5_swap 39 = .ok (.ireturn, 1) := by decide +kernel
theorem dX5_went_0 : decode cX5_went 0 = .ok (.iload_n 1, 1) := by decide +kernel
theorem dX5_went_1 : decode cX5_went 1 = .ok (.ifCond .lt 8, 3) := by decide +kernel
theorem dX5_went_4 : decode cX5_went 4 = .ok (.iload_n 1, 1) := by decide +kernel
theorem dX5_went_5 : decode cX5_went 5 = .ok (.iconst 1, 1) := by decide +kernel
theorem dX5_went_6 : decode cX5_went 6 = .ok (.if_icmp .le 5, 3) := by decide +kernel
theorem dX5_went_9 : decode cX5_went 9 = .ok (.iconst (-1), 1) := by decide +kernel
theorem dX5_went_10 : decode cX5_went 10 = .ok (.ireturn, 1) := by decide +kernel
theorem dX5_went_11 : decode cX5_went 11 = .ok (.iload_n 1, 1) := by decide +kernel
theorem dX5_went_12 : decode cX5_went 12 = .ok (.ifCond .ne 10, 3) := by decide +kernel
theorem dX5_went_15 : decode cX5_went 15 = .ok (.aload_n 0, 1) := by decide +kernel
theorem dX5_went_16 : decode cX5_went 16 = .ok (.getfield 71, 3) := by decide +kernel
theorem dX5_went_19 : decode cX5_went 19 = .ok (.goto 7, 3) := by decide +kernel
theorem dX5_went_22 : decode cX5_went 22 = .ok (.aload_n 0, 1) := by decide +kernel
theorem dX5_went_23 : decode cX5_went 23 = .ok (.getfield 74, 3) := by decide +kernel
theorem dX5_went_26 : decode cX5_went 26 = .ok (.ireturn, 1) := by decide +kernel
theorem dX5_carry_0 : decode cX5_carry 0 = .ok (.iload 5, 2) := by decide +kernel
theorem dX5_carry_2 : decode cX5_carry 2 = .ok (.ifCond .lt 10, 3) := by decide +kernel
theorem dX5_carry_5 : decode cX5_carry 5 = .ok (.iload 5, 2) := by decide +kernel
theorem dX5_carry_7 : decode cX5_carry 7 = .ok (.bipush 12, 2) := by decide +kernel
theorem dX5_carry_9 : decode cX5_carry 9 = .ok (.if_icmp .le 7, 3) := by decide +kernel
theorem dX5_carry_12 : decode cX5_carry 12 = .ok (.iconst (-1), 1) := by decide +kernel
theorem dX5_carry_13 : decode cX5_carry 13 = .ok (.goto 9, 3) := by decide +kernel
theorem dX5_carry_16 : decode cX5_carry 16 = .ok (.aload_n 0, 1) := by decide +kernel
theorem dX5_carry_17 : decode cX5_carry 17 = .ok (.iload_n 1, 1) := by decide +kernel
theorem dX5_carry_18 : decode cX5_carry 18 = .ok (.iload_n 3, 1) := by decide +kernel
theorem dX5_carry_19 : decode cX5_carry 19 = .ok (.invokevirtual 179, 3) := by decide +kernel
theorem dX5_carry_22 : decode cX5_carry 22 = .ok (.istore 6, 2) := by decide +kernel
theorem dX5_carry_24 : decode cX5_carry 24 = .ok (.iload 6, 2) := by decide +kernel
theorem dX5_carry_26 : decode cX5_carry 26 = .ok (.ifCond .eq 11, 3) := by decide +kernel
theorem dX5_carry_29 : decode cX5_carry 29 = .ok (.aload_n 0, 1) := by decide +kernel
theorem dX5_carry_30 : decode cX5_carry 30 = .ok (.iload 6, 2) := by decide +kernel
theorem dX5_carry_32 : decode cX5_carry 32 = .ok (.iconst (-1), 1) := by decide +kernel
theorem dX5_carry_33 : decode cX5_carry 33 = .ok (.invokevirtual 138, 3) := by decide +kernel
theorem dX5_carry_36 : decode cX5_carry 36 = .ok (.ireturn, 1) := by decide +kernel
theorem dX5_carry_37 : decode cX5_carry 37 = .ok (.iconst 0, 1) := by decide +kernel
theorem dX5_carry_38 : decode cX5_carry 38 = .ok (.istore 7, 2) := by decide +kernel
theorem dX5_carry_40 : decode cX5_carry 40 = .ok (.iload 7, 2) := by decide +kernel
theorem dX5_carry_42 : decode cX5_carry 42 = .ok (.iload 5, 2) := by decide +kernel
theorem dX5_carry_44 : decode cX5_carry 44 = .ok (.if_icmp .ge 95, 3) := by decide +kernel
theorem dX5_carry_47 : decode cX5_carry 47 = .ok (.aload_n 0, 1) := by decide +kernel
theorem dX5_carry_48 : decode cX5_carry 48 = .ok (.aload_n 0, 1) := by decide +kernel
theorem dX5_carry_49 : decode cX5_carry 49 = .ok (.getfield 11, 3) := by decide +kernel
theorem dX5_carry_52 : decode cX5_carry 52 = .ok (.iload_n 1, 1) := by decide +kernel
theorem dX5_carry_53 : decode cX5_carry 53 = .ok (.aaload, 1) := by decide +kernel
theorem dX5_carry_54 : decode cX5_carry 54 = .ok (.iload_n 2, 1) := by decide +kernel
theorem dX5_carry_55 : decode cX5_carry 55 = .ok (.iload 7, 2) := by decide +kernel
theorem dX5_carry_57 : decode cX5_carry 57 = .ok (.iadd, 1) := by decide +kernel
theorem dX5_carry_58 : decode cX5_carry 58 = .ok (.aload_n 0, 1) := by decide +kernel
theorem dX5_carry_59 : decode cX5_carry 59 = .ok (.getfield 11, 3) := by decide +kernel
theorem dX5_carry_62 : decode cX5_carry 62 = .ok (.iload_n 3, 1) := by decide +kernel
theorem dX5_carry_63 : decode cX5_carry 63 = .ok (.aaload, 1) := by decide +kernel
theorem dX5_carry_64 : decode cX5_carry 64 = .ok (.iload 4, 2) := by decide +kernel
theorem dX5_carry_66 : decode cX5_carry 66 = .ok (.iload 7, 2) := by decide +kernel
theorem dX5_carry_68 : decode cX5_carry 68 = .ok (.iadd, 1) := by decide +kernel
theorem dX5_carry_69 : decode cX5_carry 69 = .ok (.invokevirtual 182, 3) := by decide +kernel
theorem dX5_carry_72 : decode cX5_carry 72 = .ok (.istore 6, 2) := by decide +kernel
theorem dX5_carry_74 : decode cX5_carry 74 = .ok (.iload 6, 2) := by decide +kernel
theorem dX5_carry_76 : decode cX5_carry 76 = .ok (.ifCond .eq 15, 3) := by decide +kernel
theorem dX5_carry_79 : decode cX5_carry 79 = .ok (.aload_n 0, 1) := by decide +kernel
theorem dX5_carry_80 : decode cX5_carry 80 = .ok (.iload 6, 2) := by decide +kernel
theorem dX5_carry_82 : decode cX5_carry 82 = .ok (.iload 7, 2) := by decide +kernel
theorem dX5_carry_84 : decode cX5_carry 84 = .ok (.invokevirtual 138, 3) := by decide +kernel
theorem dX5_carry_87 : decode cX5_carry 87 = .ok (.pop, 1) := by decide +kernel
theorem dX5_carry_88 : decode cX5_carry 88 = .ok (.iload 7, 2) := by decide +kernel
theorem dX5_carry_90 : decode cX5_carry 90 = .ok (.ireturn, 1) := by decide +kernel
theorem dX5_carry_91 : decode cX5_carry 91 = .ok (.aload_n 0, 1) := by decide +kernel
theorem dX5_carry_92 : decode cX5_carry 92 = .ok (.getfield 11, 3) := by decide +kernel
theorem dX5_carry_95 : decode cX5_carry 95 = .ok (.iload_n 3, 1) := by decide +kernel
theorem dX5_carry_96 : decode cX5_carry 96 = .ok (.aaload, 1) := by decide +kernel
theorem dX5_carry_97 : decode cX5_carry 97 = .ok (.iload 4, 2) := by decide +kernel
theorem dX5_carry_99 : decode cX5_carry 99 = .ok (.iload 7, 2) := by decide +kernel
theorem dX5_carry_101 : decode cX5_carry 101 = .ok (.iadd, 1) := by decide +kernel
theorem dX5_carry_102 : decode cX5_carry 102 = .ok (.aload_n 0, 1) := by decide +kernel
theorem dX5_carry_103 : decode cX5_carry 103 = .ok (.getfield 11, 3) := by decide +kernel
theorem dX5_carry_106 : decode cX5_carry 106 = .ok (.iload_n 1, 1) := by decide +kernel
theorem dX5_carry_107 : decode cX5_carry 107 = .ok (.aaload, 1) := by decide +kernel
theorem dX5_carry_108 : decode cX5_carry 108 = .ok (.getfield 170, 3) := by decide +kernel
theorem dX5_carry_111 : decode cX5_carry 111 = .ok (.iload_n 2, 1) := by decide +kernel
theorem dX5_carry_112 : decode cX5_carry 112 = .ok (.iload 7, 2) := by decide +kernel
theorem dX5_carry_114 : decode cX5_carry 114 = .ok (.iadd, 1) := by decide +kernel
theorem dX5_carry_115 : decode cX5_carry 115 = .ok (.iaload, 1) := by decide +kernel
theorem dX5_carry_116 : decode cX5_carry 116 = .ok (.aload_n 0, 1) := by decide +kernel
theorem dX5_carry_117 : decode cX5_carry 117 = .ok (.getfield 11, 3) := by decide +kernel
theorem dX5_carry_120 : decode cX5_carry 120 = .ok (.iload_n 1, 1) := by decide +kernel
theorem dX5_carry_121 : decode cX5_carry 121 = .ok (.aaload, 1) := by decide +kernel
theorem dX5_carry_122 : decode cX5_carry 122 = .ok (.getfield 142, 3) := by decide +kernel
theorem dX5_carry_125 : decode cX5_carry 125 = .ok (.iload_n 2, 1) := by decide +kernel
theorem dX5_carry_126 : decode cX5_carry 126 = .ok (.iload 7, 2) := by decide +kernel
theorem dX5_carry_128 : decode cX5_carry 128 = .ok (.iadd, 1) := by decide +kernel
theorem dX5_carry_129 : decode cX5_carry 129 = .ok (.laload, 1) := by decide +kernel
theorem dX5_carry_130 : decode cX5_carry 130 = .ok (.invokevirtual 160, 3) := by decide +kernel
theorem dX5_carry_133 : decode cX5_carry 133 = .ok (.iinc 7 1, 3) := by decide +kernel
theorem dX5_carry_136 : decode cX5_carry 136 = .ok (.goto (-96), 3) := by decide +kernel
theorem dX5_carry_139 : decode cX5_carry 139 = .ok (.aload_n 0, 1) := by decide +kernel
theorem dX5_carry_140 : decode cX5_carry 140 = .ok (.iconst 0, 1) := by decide +kernel
theorem dX5_carry_141 : decode cX5_carry 141 = .ok (.iconst (-1), 1) := by decide +kernel
theorem dX5_carry_142 : decode cX5_carry 142 = .ok (.invokevirtual 138, 3) := by decide +kernel
theorem dX5_carry_145 : decode cX5_carry 145 = .ok (.pop, 1) := by decide +kernel
theorem dX5_carry_146 : decode cX5_carry 146 = .ok (.iload 5, 2) := by decide +kernel
theorem dX5_carry_148 : decode cX5_carry 148 = .ok (.ireturn, 1) := by decide +kernel
theorem dX5_convert_0 : decode cX5_convert 0 = .ok (.iload_n 2, 1) := by decide +kernel
theorem dX5_convert_1 : decode cX5_convert 1 = .ok (.ifCond .lt 9, 3) := by decide +kernel
theorem dX5_convert_4 : decode cX5_convert 4 = .ok (.iload_n 2, 1) := by decide +kernel
theorem dX5_convert_5 : decode cX5_convert 5 = .ok (.bipush 13, 2) := by decide +kernel
theorem dX5_convert_7 : decode cX5_convert 7 = .ok (.if_icmp .le 7, 3) := by decide +kernel
theorem dX5_convert_10 : decode cX5_convert 10 = .ok (.iconst (-1), 1) := by decide +kernel
theorem dX5_convert_11 : decode cX5_convert 11 = .ok (.goto 8, 3) := by decide +kernel
theorem dX5_convert_14 : decode cX5_convert 14 = .ok (.aload_n 0, 1) := by decide +kernel
theorem dX5_convert_15 : decode cX5_convert 15 = .ok (.iload_n 1, 1) := by decide +kernel
theorem dX5_convert_16 : decode cX5_convert 16 = .ok (.invokevirtual 101, 3) := by decide +kernel
theorem dX5_convert_19 : decode cX5_convert 19 = .ok (.istore_n 3, 1) := by decide +kernel
theorem dX5_convert_20 : decode cX5_convert 20 = .ok (.iload_n 3, 1) := by decide +kernel
theorem dX5_convert_21 : decode cX5_convert 21 = .ok (.ifCond .eq 12, 3) := by decide +kernel
theorem dX5_convert_24 : decode cX5_convert 24 = .ok (.aload_n 0, 1) := by decide +kernel
theorem dX5_convert_25 : decode cX5_convert 25 = .ok (.iload_n 3, 1) := by decide +kernel
theorem dX5_convert_26 : decode cX5_convert 26 = .ok (.iconst (-1), 1) := by decide +kernel
theorem dX5_convert_27 : decode cX5_convert 27 = .ok (.invokevirtual 138, 3) := by decide +kernel
theorem dX5_convert_30 : decode cX5_convert 30 = .ok (.goto 14, 3) := by decide +kernel
theorem dX5_convert_33 : decode cX5_convert 33 = .ok (.aload_n 0, 1) := by decide +kernel
theorem dX5_convert_34 : decode cX5_convert 34 = .ok (.aload_n 0, 1) := by decide +kernel
theorem dX5_convert_35 : decode cX5_convert 35 = .ok (.getfield 11, 3) := by decide +kernel
theorem dX5_convert_38 : decode cX5_convert 38 = .ok (.iload_n 1, 1) := by decide +kernel
theorem dX5_convert_39 : decode cX5_convert 39 = .ok (.aaload, 1) := by decide +kernel
theorem dX5_convert_40 : decode cX5_convert 40 = .ok (.iload_n 2, 1) := by decide +kernel
theorem dX5_convert_41 : decode cX5_convert 41 = .ok (.invokevirtual 186, 3) := by decide +kernel
theorem dX5_convert_44 : decode cX5_convert 44 = .ok (.ireturn, 1) := by decide +kernel
theorem dX5_shape_0 : decode cX5_shape 0 = .ok (.aload_n 0, 1) := by decide +kernel
theorem dX5_shape_1 : decode cX5_shape 1 = .ok (.iload_n 1, 1) := by decide +kernel
theorem dX5_shape_2 : decode cX5_shape 2 = .ok (.iload_n 2, 1) := by decide +kernel
theorem dX5_shape_3 : decode cX5_shape 3 = .ok (.invokevirtual 190, 3) := by decide +kernel
theorem dX5_shape_6 : decode cX5_shape 6 = .ok (.istore_n 3, 1) := by decide +kernel
theorem dX5_shape_7 : decode cX5_shape 7 = .ok (.iload_n 3, 1) := by decide +kernel
theorem dX5_shape_8 : decode cX5_shape 8 = .ok (.ifCond .eq 10, 3) := by decide +kernel
theorem dX5_shape_11 : decode cX5_shape 11 = .ok (.aload_n 0, 1) := by decide +kernel
theorem dX5_shape_12 : decode cX5_shape 12 = .ok (.iload_n 3, 1) := by decide +kernel
theorem dX5_shape_13 : decode cX5_shape 13 = .ok (.iconst (-1), 1) := by decide +kernel
theorem dX5_shape_14 : decode cX5_shape 14 = .ok (.invokevirtual 138, 3) := by decide +kernel
theorem dX5_shape_17 : decode cX5_shape 17 = .ok (.ireturn, 1) := by decide +kernel
theorem dX5_shape_18 : decode cX5_shape 18 = .ok (.aload_n 0, 1) := by decide +kernel
theorem dX5_shape_19 : decode cX5_shape 19 = .ok (.getfield 11, 3) := by decide +kernel
theorem dX5_shape_22 : decode cX5_shape 22 = .ok (.iload_n 1, 1) := by decide +kernel
theorem dX5_shape_23 : decode cX5_shape 23 = .ok (.aaload, 1) := by decide +kernel
theorem dX5_shape_24 : decode cX5_shape 24 = .ok (.astore 4, 2) := by decide +kernel
theorem dX5_shape_26 : decode cX5_shape 26 = .ok (.aload_n 0, 1) := by decide +kernel
theorem dX5_shape_27 : decode cX5_shape 27 = .ok (.getfield 11, 3) := by decide +kernel
theorem dX5_shape_30 : decode cX5_shape 30 = .ok (.iload_n 2, 1) := by decide +kernel
theorem dX5_shape_31 : decode cX5_shape 31 = .ok (.aaload, 1) := by decide +kernel
theorem dX5_shape_32 : decode cX5_shape 32 = .ok (.astore 5, 2) := by decide +kernel
theorem dX5_shape_34 : decode cX5_shape 34 = .ok (.aload 4, 2) := by decide +kernel
theorem dX5_shape_36 : decode cX5_shape 36 = .ok (.getfield 104, 3) := by decide +kernel
theorem dX5_shape_39 : decode cX5_shape 39 = .ok (.aload 5, 2) := by decide +kernel
theorem dX5_shape_41 : decode cX5_shape 41 = .ok (.getfield 104, 3) := by decide +kernel
theorem dX5_shape_44 : decode cX5_shape 44 = .ok (.invokestatic 193, 3) := by decide +kernel
theorem dX5_shape_47 : decode cX5_shape 47 = .ok (.istore 6, 2) := by decide +kernel
theorem dX5_shape_49 : decode cX5_shape 49 = .ok (.iconst 0, 1) := by decide +kernel
theorem dX5_shape_50 : decode cX5_shape 50 = .ok (.istore 7, 2) := by decide +kernel
theorem dX5_shape_52 : decode cX5_shape 52 = .ok (.iload 7, 2) := by decide +kernel
theorem dX5_shape_54 : decode cX5_shape 54 = .ok (.iload 6, 2) := by decide +kernel
theorem dX5_shape_56 : decode cX5_shape 56 = .ok (.if_icmp .ge 36, 3) := by decide +kernel
theorem dX5_shape_59 : decode cX5_shape 59 = .ok (.aload 5, 2) := by decide +kernel
theorem dX5_shape_61 : decode cX5_shape 61 = .ok (.getfield 98, 3) := by decide +kernel
theorem dX5_shape_64 : decode cX5_shape 64 = .ok (.aload 4, 2) := by decide +kernel
theorem dX5_shape_66 : decode cX5_shape 66 = .ok (.iload 7, 2) := by decide +kernel
theorem dX5_shape_68 : decode cX5_shape 68 = .ok (.invokestatic 198, 3) := by decide +kernel
theorem dX5_shape_71 : decode cX5_shape 71 = .ok (.invokestatic 167, 3) := by decide +kernel
theorem dX5_shape_74 : decode cX5_shape 74 = .ok (.ifCond .ne 12, 3) := by decide +kernel
theorem dX5_shape_77 : decode cX5_shape 77 = .ok (.aload_n 0, 1) := by decide +kernel
theorem dX5_shape_78 : decode cX5_shape 78 = .ok (.bipush (-9), 2) := by decide +kernel
theorem dX5_shape_80 : decode cX5_shape 80 = .ok (.iload 7, 2) := by decide +kernel
theorem dX5_shape_82 : decode cX5_shape 82 = .ok (.invokevirtual 138, 3) := by decide +kernel
theorem dX5_shape_85 : decode cX5_shape 85 = .ok (.ireturn, 1) := by decide +kernel
theorem dX5_shape_86 : decode cX5_shape 86 = .ok (.iinc 7 1, 3) := by decide +kernel
theorem dX5_shape_89 : decode cX5_shape 89 = .ok (.goto (-37), 3) := by decide +kernel
theorem dX5_shape_92 : decode cX5_shape 92 = .ok (.aload_n 0, 1) := by decide +kernel
theorem dX5_shape_93 : decode cX5_shape 93 = .ok (.invokevirtual 82, 3) := by decide +kernel
theorem dX5_shape_96 : decode cX5_shape 96 = .ok (.istore 7, 2) := by decide +kernel
theorem dX5_shape_98 : decode cX5_shape 98 = .ok (.iload 7, 2) := by decide +kernel
theorem dX5_shape_100 : decode cX5_shape 100 = .ok (.ifCond .ge 11, 3) := by decide +kernel
theorem dX5_shape_103 : decode cX5_shape 103 = .ok (.aload_n 0, 1) := by decide +kernel
theorem dX5_shape_104 : decode cX5_shape 104 = .ok (.bipush (-3), 2) := by decide +kernel
theorem dX5_shape_106 : decode cX5_shape 106 = .ok (.iconst (-1), 1) := by decide +kernel
theorem dX5_shape_107 : decode cX5_shape 107 = .ok (.invokevirtual 138, 3) := by decide +kernel
theorem dX5_shape_110 : decode cX5_shape 110 = .ok (.ireturn, 1) := by decide +kernel
theorem dX5_shape_111 : decode cX5_shape 111 = .ok (.aload_n 0, 1) := by decide +kernel
theorem dX5_shape_112 : decode cX5_shape 112 = .ok (.getfield 11, 3) := by decide +kernel
theorem dX5_shape_115 : decode cX5_shape 115 = .ok (.iload 7, 2) := by decide +kernel
theorem dX5_shape_117 : decode cX5_shape 117 = .ok (.aaload, 1) := by decide +kernel
theorem dX5_shape_118 : decode cX5_shape 118 = .ok (.bipush 12, 2) := by decide +kernel
theorem dX5_shape_120 : decode cX5_shape 120 = .ok (.iload 6, 2) := by decide +kernel
theorem dX5_shape_122 : decode cX5_shape 122 = .ok (.invokevirtual 90, 3) := by decide +kernel
theorem dX5_shape_125 : decode cX5_shape 125 = .ok (.iconst 0, 1) := by decide +kernel
theorem dX5_shape_126 : decode cX5_shape 126 = .ok (.istore 8, 2) := by decide +kernel
theorem dX5_shape_128 : decode cX5_shape 128 = .ok (.iload 8, 2) := by decide +kernel
theorem dX5_shape_130 : decode cX5_shape 130 = .ok (.iload 6, 2) := by decide +kernel
theorem dX5_shape_132 : decode cX5_shape 132 = .ok (.if_icmp .ge 50, 3) := by decide +kernel
theorem dX5_shape_135 : decode cX5_shape 135 = .ok (.aload 4, 2) := by decide +kernel
theorem dX5_shape_137 : decode cX5_shape 137 = .ok (.iload 8, 2) := by decide +kernel
theorem dX5_shape_139 : decode cX5_shape 139 = .ok (.invokestatic 198, 3) := by decide +kernel
theorem dX5_shape_142 : decode cX5_shape 142 = .ok (.istore 9, 2) := by decide +kernel
theorem dX5_shape_144 : decode cX5_shape 144 = .ok (.aload_n 0, 1) := by decide +kernel
theorem dX5_shape_145 : decode cX5_shape 145 = .ok (.getfield 11, 3) := by decide +kernel
theorem dX5_shape_148 : decode cX5_shape 148 = .ok (.iload 7, 2) := by decide +kernel
theorem dX5_shape_150 : decode cX5_shape 150 = .ok (.aaload, 1) := by decide +kernel
theorem dX5_shape_151 : decode cX5_shape 151 = .ok (.iload 8, 2) := by decide +kernel
theorem dX5_shape_153 : decode cX5_shape 153 = .ok (.iload 9, 2) := by decide +kernel
theorem dX5_shape_155 : decode cX5_shape 155 = .ok (.aload 5, 2) := by decide +kernel
theorem dX5_shape_157 : decode cX5_shape 157 = .ok (.getfield 98, 3) := by decide +kernel
theorem dX5_shape_160 : decode cX5_shape 160 = .ok (.iload 9, 2) := by decide +kernel
theorem dX5_shape_162 : decode cX5_shape 162 = .ok (.aload 5, 2) := by decide +kernel
theorem dX5_shape_164 : decode cX5_shape 164 = .ok (.getfield 142, 3) := by decide +kernel
theorem dX5_shape_167 : decode cX5_shape 167 = .ok (.iload 8, 2) := by decide +kernel
theorem dX5_shape_169 : decode cX5_shape 169 = .ok (.laload, 1) := by decide +kernel
theorem dX5_shape_170 : decode cX5_shape 170 = .ok (.invokestatic 146, 3) := by decide +kernel
theorem dX5_shape_173 : decode cX5_shape 173 = .ok (.invokevirtual 160, 3) := by decide +kernel
theorem dX5_shape_176 : decode cX5_shape 176 = .ok (.iinc 8 1, 3) := by decide +kernel
theorem dX5_shape_179 : decode cX5_shape 179 = .ok (.goto (-51), 3) := by decide +kernel
theorem dX5_shape_182 : decode cX5_shape 182 = .ok (.aload_n 0, 1) := by decide +kernel
theorem dX5_shape_183 : decode cX5_shape 183 = .ok (.iconst 0, 1) := by decide +kernel
theorem dX5_shape_184 : decode cX5_shape 184 = .ok (.iconst (-1), 1) := by decide +kernel
theorem dX5_shape_185 : decode cX5_shape 185 = .ok (.invokevirtual 138, 3) := by decide +kernel
theorem dX5_shape_188 : decode cX5_shape 188 = .ok (.pop, 1) := by decide +kernel
theorem dX5_shape_189 : decode cX5_shape 189 = .ok (.iload 7, 2) := by decide +kernel
theorem dX5_shape_191 : decode cX5_shape 191 = .ok (.ireturn, 1) := by decide +kernel
theorem dX5_sum_0 : decode cX5_sum 0 = .ok (.iload_n 2, 1) := by decide +kernel
theorem dX5_sum_1 : decode cX5_sum 1 = .ok (.iconst 4, 1) := by decide +kernel
theorem dX5_sum_2 : decode cX5_sum 2 = .ok (.if_icmp .lt 9, 3) := by decide +kernel
theorem dX5_sum_5 : decode cX5_sum 5 = .ok (.iload_n 2, 1) := by decide +kernel
theorem dX5_sum_6 : decode cX5_sum 6 = .ok (.bipush 7, 2) := by decide +kernel
theorem dX5_sum_8 : decode cX5_sum 8 = .ok (.if_icmp .le 7, 3) := by decide +kernel
theorem dX5_sum_11 : decode cX5_sum 11 = .ok (.iconst (-1), 1) := by decide +kernel
theorem dX5_sum_12 : decode cX5_sum 12 = .ok (.goto 8, 3) := by decide +kernel
theorem dX5_sum_15 : decode cX5_sum 15 = .ok (.aload_n 0, 1) := by decide +kernel
theorem dX5_sum_16 : decode cX5_sum 16 = .ok (.iload_n 1, 1) := by decide +kernel
theorem dX5_sum_17 : decode cX5_sum 17 = .ok (.invokevirtual 201, 3) := by decide +kernel
theorem dX5_sum_20 : decode cX5_sum 20 = .ok (.istore_n 3, 1) := by decide +kernel
theorem dX5_sum_21 : decode cX5_sum 21 = .ok (.iload_n 3, 1) := by decide +kernel
theorem dX5_sum_22 : decode cX5_sum 22 = .ok (.ifCond .eq 12, 3) := by decide +kernel
theorem dX5_sum_25 : decode cX5_sum 25 = .ok (.aload_n 0, 1) := by decide +kernel
theorem dX5_sum_26 : decode cX5_sum 26 = .ok (.iload_n 3, 1) := by decide +kernel
theorem dX5_sum_27 : decode cX5_sum 27 = .ok (.iconst (-1), 1) := by decide +kernel
theorem dX5_sum_28 : decode cX5_sum 28 = .ok (.invokevirtual 138, 3) := by decide +kernel
theorem dX5_sum_31 : decode cX5_sum 31 = .ok (.pop, 1) := by decide +kernel
theorem dX5_sum_32 : decode cX5_sum 32 = .ok (.lconst 0, 1) := by decide +kernel
theorem dX5_sum_33 : decode cX5_sum 33 = .ok (.lreturn, 1) := by decide +kernel
theorem dX5_sum_34 : decode cX5_sum 34 = .ok (.aload_n 0, 1) := by decide +kernel
theorem dX5_sum_35 : decode cX5_sum 35 = .ok (.getfield 11, 3) := by decide +kernel
theorem dX5_sum_38 : decode cX5_sum 38 = .ok (.iload_n 1, 1) := by decide +kernel
theorem dX5_sum_39 : decode cX5_sum 39 = .ok (.aaload, 1) := by decide +kernel
theorem dX5_sum_40 : decode cX5_sum 40 = .ok (.astore 4, 2) := by decide +kernel
theorem dX5_sum_42 : decode cX5_sum 42 = .ok (.aload 4, 2) := by decide +kernel
theorem dX5_sum_44 : decode cX5_sum 44 = .ok (.getfield 104, 3) := by decide +kernel
theorem dX5_sum_47 : decode cX5_sum 47 = .ok (.ifCond .le 25, 3) := by decide +kernel
theorem dX5_sum_50 : decode cX5_sum 50 = .ok (.aload 4, 2) := by decide +kernel
theorem dX5_sum_52 : decode cX5_sum 52 = .ok (.getfield 98, 3) := by decide +kernel
theorem dX5_sum_55 : decode cX5_sum 55 = .ok (.iload_n 2, 1) := by decide +kernel
theorem dX5_sum_56 : decode cX5_sum 56 = .ok (.invokestatic 167, 3) := by decide +kernel
theorem dX5_sum_59 : decode cX5_sum 59 = .ok (.ifCond .ne 13, 3) := by decide +kernel
theorem dX5_sum_62 : decode cX5_sum 62 = .ok (.aload_n 0, 1) := by decide +kernel
theorem dX5_sum_63 : decode cX5_sum 63 = .ok (.bipush (-9), 2) := by decide +kernel
theorem dX5_sum_65 : decode cX5_sum 65 = .ok (.iconst 0, 1) := by decide +kernel
theorem dX5_sum_66 : decode cX5_sum 66 = .ok (.invokevirtual 138, 3) := by decide +kernel
theorem dX5_sum_69 : decode cX5_sum 69 = .ok (.pop, 1) := by decide +kernel
theorem dX5_sum_70 : decode cX5_sum 70 = .ok (.lconst 0, 1) := by decide +kernel
theorem dX5_sum_71 : decode cX5_sum 71 = .ok (.lreturn, 1) := by decide +kernel
theorem dX5_sum_72 : decode cX5_sum 72 = .ok (.aload_n 0, 1) := by decide +kernel
theorem dX5_sum_73 : decode cX5_sum 73 = .ok (.iconst 0, 1) := by decide +kernel
theorem dX5_sum_74 : decode cX5_sum 74 = .ok (.iconst (-1), 1) := by decide +kernel
theorem dX5_sum_75 : decode cX5_sum 75 = .ok (.invokevirtual 138, 3) := by decide +kernel
theorem dX5_sum_78 : decode cX5_sum 78 = .ok (.pop, 1) := by decide +kernel
theorem dX5_sum_79 : decode cX5_sum 79 = .ok (.iload_n 2, 1) := by decide +kernel
theorem dX5_sum_80 : decode cX5_sum 80 = .ok (.iconst 5, 1) := by decide +kernel
theorem dX5_sum_81 : decode cX5_sum 81 = .ok (.if_icmp .gt 12, 3) := by decide +kernel
theorem dX5_sum_84 : decode cX5_sum 84 = .ok (.aload 4, 2) := by decide +kernel
theorem dX5_sum_86 : decode cX5_sum 86 = .ok (.iload_n 2, 1) := by decide +kernel
theorem dX5_sum_87 : decode cX5_sum 87 = .ok (.invokestatic 204, 3) := by decide +kernel
theorem dX5_sum_90 : decode cX5_sum 90 = .ok (.goto 22, 3) := by decide +kernel
theorem dX5_sum_93 : decode cX5_sum 93 = .ok (.iload_n 2, 1) := by decide +kernel
theorem dX5_sum_94 : decode cX5_sum 94 = .ok (.bipush 6, 2) := by decide +kernel
theorem dX5_sum_96 : decode cX5_sum 96 = .ok (.if_icmp .ne 11, 3) := by decide +kernel
theorem dX5_sum_99 : decode cX5_sum 99 = .ok (.aload 4, 2) := by decide +kernel
theorem dX5_sum_101 : decode cX5_sum 101 = .ok (.invokestatic 208, 3) := by decide +kernel
theorem dX5_sum_104 : decode cX5_sum 104 = .ok (.goto 8, 3) := by decide +kernel
theorem dX5_sum_107 : decode cX5_sum 107 = .ok (.aload 4, 2) := by decide +kernel
theorem dX5_sum_109 : decode cX5_sum 109 = .ok (.invokestatic 212, 3) := by decide +kernel
theorem dX5_sum_112 : decode cX5_sum 112 = .ok (.lreturn, 1) := by decide +kernel
theorem dX5_mode_0 : decode cX5_mode 0 = .ok (.iload_n 1, 1) := by decide +kernel
theorem dX5_mode_1 : decode cX5_mode 1 = .ok (.invokestatic 215, 3) := by decide +kernel
theorem dX5_mode_4 : decode cX5_mode 4 = .ok (.ifCond .ne 5, 3) := by decide +kernel
theorem dX5_mode_7 : decode cX5_mode 7 = .ok (.iconst (-1), 1) := by decide +kernel
theorem dX5_mode_8 : decode cX5_mode 8 = .ok (.ireturn, 1) := by decide +kernel
theorem dX5_mode_9 : decode cX5_mode 9 = .ok (.aload_n 0, 1) := by decide +kernel
theorem dX5_mode_10 : decode cX5_mode 10 = .ok (.getfield 68, 3) := by decide +kernel
theorem dX5_mode_13 : decode cX5_mode 13 = .ok (.istore_n 2, 1) := by decide +kernel
theorem dX5_mode_14 : decode cX5_mode 14 = .ok (.aload_n 0, 1) := by decide +kernel
theorem dX5_mode_15 : decode cX5_mode 15 = .ok (.iload_n 1, 1) := by decide +kernel
theorem dX5_mode_16 : decode cX5_mode 16 = .ok (.putfield 68, 3) := by decide +kernel
theorem dX5_mode_19 : decode cX5_mode 19 = .ok (.iload_n 2, 1) := by decide +kernel
theorem dX5_mode_20 : decode cX5_mode 20 = .ok (.ireturn, 1) := by decide +kernel
theorem dX5_lay_0 : decode cX5_lay 0 = .ok (.aload_n 0, 1) := by decide +kernel
theorem dX5_lay_1 : decode cX5_lay 1 = .ok (.iload_n 1, 1) := by decide +kernel
theorem dX5_lay_2 : decode cX5_lay 2 = .ok (.invokevirtual 94, 3) := by decide +kernel
theorem dX5_lay_5 : decode cX5_lay 5 = .ok (.istore_n 2, 1) := by decide +kernel
theorem dX5_lay_6 : decode cX5_lay 6 = .ok (.iload_n 2, 1) := by decide +kernel
theorem dX5_lay_7 : decode cX5_lay 7 = .ok (.ifCond .eq 5, 3) := by decide +kernel
theorem dX5_lay_10 : decode cX5_lay 10 = .ok (.iload_n 2, 1) := by decide +kernel
theorem dX5_lay_11 : decode cX5_lay 11 = .ok (.ireturn, 1) := by decide +kernel
theorem dX5_lay_12 : decode cX5_lay 12 = .ok (.aload_n 0, 1) := by decide +kernel
theorem dX5_lay_13 : decode cX5_lay 13 = .ok (.getfield 44, 3) := by decide +kernel
theorem dX5_lay_16 : decode cX5_lay 16 = .ok (.iload_n 1, 1) := by decide +kernel
theorem dX5_lay_17 : decode cX5_lay 17 = .ok (.aload_n 0, 1) := by decide +kernel
theorem dX5_lay_18 : decode cX5_lay 18 = .ok (.getfield 68, 3) := by decide +kernel
theorem dX5_lay_21 : decode cX5_lay 21 = .ok (.invokevirtual 219, 3) := by decide +kernel
theorem dX5_lay_24 : decode cX5_lay 24 = .ok (.aload_n 0, 1) := by decide +kernel
theorem dX5_lay_25 : decode cX5_lay 25 = .ok (.getfield 20, 3) := by decide +kernel
theorem dX5_lay_28 : decode cX5_lay 28 = .ok (.aload_n 0, 1) := by decide +kernel
theorem dX5_lay_29 : decode cX5_lay 29 = .ok (.getfield 24, 3) := by decide +kernel
theorem dX5_lay_32 : decode cX5_lay 32 = .ok (.invokevirtual 222, 3) := by decide +kernel
theorem dX5_lay_35 : decode cX5_lay 35 = .ok (.ifCond .eq 13, 3) := by decide +kernel
theorem dX5_lay_38 : decode cX5_lay 38 = .ok (.aload_n 0, 1) := by decide +kernel
theorem dX5_lay_39 : decode cX5_lay 39 = .ok (.getfield 24, 3) := by decide +kernel
theorem dX5_lay_42 : decode cX5_lay 42 = .ok (.getfield 226, 3) := by decide +kernel
theorem dX5_lay_45 : decode cX5_lay 45 = .ok (.goto 5, 3) := by decide +kernel
theorem dX5_lay_48 : decode cX5_lay 48 = .ok (.bipush (-3), 2) := by decide +kernel
theorem dX5_lay_50 : decode cX5_lay 50 = .ok (.ireturn, 1) := by decide +kernel
theorem dX5_tape_0 : decode cX5_tape 0 = .ok (.aload_n 0, 1) := by decide +kernel
theorem dX5_tape_1 : decode cX5_tape 1 = .ok (.getfield 20, 3) := by decide +kernel
theorem dX5_tape_4 : decode cX5_tape 4 = .ok (.iload_n 1, 1) := by decide +kernel
theorem dX5_tape_5 : decode cX5_tape 5 = .ok (.invokevirtual 227, 3) := by decide +kernel
theorem dX5_tape_8 : decode cX5_tape 8 = .ok (.ifCond .eq 14, 3) := by decide +kernel
theorem dX5_tape_11 : decode cX5_tape 11 = .ok (.aload_n 0, 1) := by decide +kernel
theorem dX5_tape_12 : decode cX5_tape 12 = .ok (.getfield 20, 3) := by decide +kernel
theorem dX5_tape_15 : decode cX5_tape 15 = .ok (.iload_n 1, 1) := by decide +kernel
theorem dX5_tape_16 : decode cX5_tape 16 = .ok (.invokevirtual 229, 3) := by decide +kernel
theorem dX5_tape_19 : decode cX5_tape 19 = .ok (.goto 4, 3) := by decide +kernel
theorem dX5_tape_22 : decode cX5_tape 22 = .ok (.iconst (-1), 1) := by decide +kernel
theorem dX5_tape_23 : decode cX5_tape 23 = .ok (.ireturn, 1) := by decide +kernel
theorem dX5_poke_0 : decode cX5_poke 0 = .ok (.iload_n 1, 1) := by decide +kernel
theorem dX5_poke_1 : decode cX5_poke 1 = .ok (.ifCond .lt 25, 3) := by decide +kernel
theorem dX5_poke_4 : decode cX5_poke 4 = .ok (.iload_n 1, 1) := by decide +kernel
theorem dX5_poke_5 : decode cX5_poke 5 = .ok (.aload_n 0, 1) := by decide +kernel
theorem dX5_poke_6 : decode cX5_poke 6 = .ok (.getfield 20, 3) := by decide +kernel
theorem dX5_poke_9 : decode cX5_poke 9 = .ok (.getfield 226, 3) := by decide +kernel
theorem dX5_poke_12 : decode cX5_poke 12 = .ok (.if_icmp .gt 14, 3) := by decide +kernel
theorem dX5_poke_15 : decode cX5_poke 15 = .ok (.iload_n 2, 1) := by decide +kernel
theorem dX5_poke_16 : decode cX5_poke 16 = .ok (.ifCond .lt 10, 3) := by decide +kernel
theorem dX5_poke_19 : decode cX5_poke 19 = .ok (.iload_n 2, 1) := by decide +kernel
theorem dX5_poke_20 : decode cX5_poke 20 = .ok (.sipush 255, 3) := by decide +kernel
theorem dX5_poke_23 : decode cX5_poke 23 = .ok (.if_icmp .le 5, 3) := by decide +kernel
theorem dX5_poke_26 : decode cX5_poke 26 = .ok (.iconst (-1), 1) := by decide +kernel
theorem dX5_poke_27 : decode cX5_poke 27 = .ok (.ireturn, 1) := by decide +kernel
theorem dX5_poke_28 : decode cX5_poke 28 = .ok (.iload_n 1, 1) := by decide +kernel
theorem dX5_poke_29 : decode cX5_poke 29 = .ok (.sipush 200, 3) := by decide +kernel
theorem dX5_poke_32 : decode cX5_poke 32 = .ok (.if_icmp .lt 6, 3) := by decide +kernel
theorem dX5_poke_35 : decode cX5_poke 35 = .ok (.bipush (-3), 2) := by decide +kernel
theorem dX5_poke_37 : decode cX5_poke 37 = .ok (.ireturn, 1) := by decide +kernel
theorem dX5_poke_38 : decode cX5_poke 38 = .ok (.iload_n 1, 1) := by decide +kernel
theorem dX5_poke_39 : decode cX5_poke 39 = .ok (.aload_n 0, 1) := by decide +kernel
theorem dX5_poke_40 : decode cX5_poke 40 = .ok (.getfield 20, 3) := by decide +kernel
theorem dX5_poke_43 : decode cX5_poke 43 = .ok (.getfield 226, 3) := by decide +kernel
theorem dX5_poke_46 : decode cX5_poke 46 = .ok (.if_icmp .ne 14, 3) := by decide +kernel
theorem dX5_poke_49 : decode cX5_poke 49 = .ok (.aload_n 0, 1) := by decide +kernel
theorem dX5_poke_50 : decode cX5_poke 50 = .ok (.getfield 20, 3) := by decide +kernel
theorem dX5_poke_53 : decode cX5_poke 53 = .ok (.iload_n 2, 1) := by decide +kernel
theorem dX5_poke_54 : decode cX5_poke 54 = .ok (.invokevirtual 232, 3) := by decide +kernel
theorem dX5_poke_57 : decode cX5_poke 57 = .ok (.bipush (-4), 2) := by decide +kernel
theorem dX5_poke_59 : decode cX5_poke 59 = .ok (.ireturn, 1) := by decide +kernel
theorem dX5_poke_60 : decode cX5_poke 60 = .ok (.aload_n 0, 1) := by decide +kernel
theorem dX5_poke_61 : decode cX5_poke 61 = .ok (.getfield 20, 3) := by decide +kernel
theorem dX5_poke_64 : decode cX5_poke 64 = .ok (.iload_n 1, 1) := by decide +kernel
theorem dX5_poke_65 : decode cX5_poke 65 = .ok (.invokevirtual 229, 3) := by decide +kernel
theorem dX5_poke_68 : decode cX5_poke 68 = .ok (.istore_n 3, 1) := by decide +kernel
theorem dX5_poke_69 : decode cX5_poke 69 = .ok (.aload_n 0, 1) := by decide +kernel
theorem dX5_poke_70 : decode cX5_poke 70 = .ok (.getfield 20, 3) := by decide +kernel
theorem dX5_poke_73 : decode cX5_poke 73 = .ok (.iload_n 1, 1) := by decide +kernel
theorem dX5_poke_74 : decode cX5_poke 74 = .ok (.iload_n 2, 1) := by decide +kernel
theorem dX5_poke_75 : decode cX5_poke 75 = .ok (.invokevirtual 235, 3) := by decide +kernel
theorem dX5_poke_78 : decode cX5_poke 78 = .ok (.iload_n 3, 1) := by decide +kernel
theorem dX5_poke_79 : decode cX5_poke 79 = .ok (.ireturn, 1) := by decide +kernel
theorem dX5_cut_0 : decode cX5_cut 0 = .ok (.iload_n 1, 1) := by decide +kernel
theorem dX5_cut_1 : decode cX5_cut 1 = .ok (.ifCond .lt 14, 3) := by decide +kernel
theorem dX5_cut_4 : decode cX5_cut 4 = .ok (.iload_n 1, 1) := by decide +kernel
theorem dX5_cut_5 : decode cX5_cut 5 = .ok (.aload_n 0, 1) := by decide +kernel
theorem dX5_cut_6 : decode cX5_cut 6 = .ok (.getfield 20, 3) := by decide +kernel
theorem dX5_cut_9 : decode cX5_cut 9 = .ok (.getfield 226, 3) := by decide +kernel
theorem dX5_cut_12 : decode cX5_cut 12 = .ok (.if_icmp .le 5, 3) := by decide +kernel
theorem dX5_cut_15 : decode cX5_cut 15 = .ok (.iconst (-1), 1) := by decide +kernel
theorem dX5_cut_16 : decode cX5_cut 16 = .ok (.ireturn, 1) := by decide +kernel
theorem dX5_cut_17 : decode cX5_cut 17 = .ok (.aload_n 0, 1) := by decide +kernel
theorem dX5_cut_18 : decode cX5_cut 18 = .ok (.getfield 20, 3) := by decide +kernel
theorem dX5_cut_21 : decode cX5_cut 21 = .ok (.getfield 226, 3) := by decide +kernel
theorem dX5_cut_24 : decode cX5_cut 24 = .ok (.iload_n 1, 1) := by decide +kernel
theorem dX5_cut_25 : decode cX5_cut 25 = .ok (.isub, 1) := by decide +kernel
theorem dX5_cut_26 : decode cX5_cut 26 = .ok (.istore_n 2, 1) := by decide +kernel
theorem dX5_cut_27 : decode cX5_cut 27 = .ok (.aload_n 0, 1) := by decide +kernel
theorem dX5_cut_28 : decode cX5_cut 28 = .ok (.getfield 20, 3) := by decide +kernel
theorem dX5_cut_31 : decode cX5_cut 31 = .ok (.iload_n 1, 1) := by decide +kernel
theorem dX5_cut_32 : decode cX5_cut 32 = .ok (.putfield 226, 3) := by decide +kernel
theorem dX5_cut_35 : decode cX5_cut 35 = .ok (.aload_n 0, 1) := by decide +kernel
theorem dX5_cut_36 : decode cX5_cut 36 = .ok (.aload_n 0, 1) := by decide +kernel
theorem dX5_cut_37 : decode cX5_cut 37 = .ok (.getfield 64, 3) := by decide +kernel
theorem dX5_cut_40 : decode cX5_cut 40 = .ok (.iload_n 1, 1) := by decide +kernel
theorem dX5_cut_41 : decode cX5_cut 41 = .ok (.invokestatic 193, 3) := by decide +kernel
theorem dX5_cut_44 : decode cX5_cut 44 = .ok (.putfield 64, 3) := by decide +kernel
theorem dX5_cut_47 : decode cX5_cut 47 = .ok (.iload_n 2, 1) := by decide +kernel
theorem dX5_cut_48 : decode cX5_cut 48 = .ok (.ireturn, 1) := by decide +kernel
theorem dX5_seek_0 : decode cX5_seek 0 = .ok (.iload_n 1, 1) := by decide +kernel
theorem dX5_seek_1 : decode cX5_seek 1 = .ok (.ifCond .lt 14, 3) := by decide +kernel
theorem dX5_seek_4 : decode cX5_seek 4 = .ok (.iload_n 1, 1) := by decide +kernel
theorem dX5_seek_5 : decode cX5_seek 5 = .ok (.aload_n 0, 1) := by decide +kernel
theorem dX5_seek_6 : decode cX5_seek 6 = .ok (.getfield 20, 3) := by decide +kernel
theorem dX5_seek_9 : decode cX5_seek 9 = .ok (.getfield 226, 3) := by decide +kernel
theorem dX5_seek_12 : decode cX5_seek 12 = .ok (.if_icmp .le 5, 3) := by decide +kernel
theorem dX5_seek_15 : decode cX5_seek 15 = .ok (.iconst (-1), 1) := by decide +kernel
theorem dX5_seek_16 : decode cX5_seek 16 = .ok (.ireturn, 1) := by decide +kernel
theorem dX5_seek_17 : decode cX5_seek 17 = .ok (.aload_n 0, 1) := by decide +kernel
theorem dX5_seek_18 : decode cX5_seek 18 = .ok (.getfield 64, 3) := by decide +kernel
theorem dX5_seek_21 : decode cX5_seek 21 = .ok (.istore_n 2, 1) := by decide +kernel
theorem dX5_seek_22 : decode cX5_seek 22 = .ok (.aload_n 0, 1) := by decide +kernel
theorem dX5_seek_23 : decode cX5_seek 23 = .ok (.iload_n 1, 1) := by decide +kernel
theorem dX5_seek_24 : decode cX5_seek 24 = .ok (.putfield 64, 3) := by decide +kernel
theorem dX5_seek_27 : decode cX5_seek 27 = .ok (.iload_n 2, 1) := by decide +kernel
theorem dX5_seek_28 : decode cX5_seek 28 = .ok (.ireturn, 1) := by decide +kernel
theorem dX5_read_0 : decode cX5_read 0 = .ok (.aload_n 0, 1) := by decide +kernel
theorem dX5_read_1 : decode cX5_read 1 = .ok (.getfield 35, 3) := by decide +kernel
theorem dX5_read_4 : decode cX5_read 4 = .ok (.aload_n 0, 1) := by decide +kernel
theorem dX5_read_5 : decode cX5_read 5 = .ok (.getfield 20, 3) := by decide +kernel
theorem dX5_read_8 : decode cX5_read 8 = .ok (.aload_n 0, 1) := by decide +kernel
theorem dX5_read_9 : decode cX5_read 9 = .ok (.getfield 64, 3) := by decide +kernel
theorem dX5_read_12 : decode cX5_read 12 = .ok (.invokevirtual 238, 3) := by decide +kernel
theorem dX5_read_15 : decode cX5_read 15 = .ok (.ifCond .ne 17, 3) := by decide +kernel
theorem dX5_read_18 : decode cX5_read 18 = .ok (.aload_n 0, 1) := by decide +kernel
theorem dX5_read_19 : decode cX5_read 19 = .ok (.bipush (-10), 2) := by decide +kernel
theorem dX5_read_21 : decode cX5_read 21 = .ok (.aload_n 0, 1) := by decide +kernel
theorem dX5_read_22 : decode cX5_read 22 = .ok (.getfield 35, 3) := by decide +kernel
theorem dX5_read_25 : decode cX5_read 25 = .ok (.getfield 242, 3) := by decide +kernel
theorem dX5_read_28 : decode cX5_read 28 = .ok (.invokevirtual 138, 3) := by decide +kernel
theorem dX5_read_31 : decode cX5_read 31 = .ok (.ireturn, 1) := by decide +kernel
theorem dX5_read_32 : decode cX5_read 32 = .ok (.aload_n 0, 1) := by decide +kernel
theorem dX5_read_33 : decode cX5_read 33 = .ok (.getfield 35, 3) := by decide +kernel
theorem dX5_read_36 : decode cX5_read 36 = .ok (.getfield 245, 3) := by decide +kernel
theorem dX5_read_39 : decode cX5_read 39 = .ok (.istore_n 1, 1) := by decide +kernel
theorem dX5_read_40 : decode cX5_read 40 = .ok (.aload_n 0, 1) := by decide +kernel
theorem dX5_read_41 : decode cX5_read 41 = .ok (.invokevirtual 248, 3) := by decide +kernel
theorem dX5_read_44 : decode cX5_read 44 = .ok (.istore_n 2, 1) := by decide +kernel
theorem dX5_read_45 : decode cX5_read 45 = .ok (.iload_n 2, 1) := by decide +kernel
theorem dX5_read_46 : decode cX5_read 46 = .ok (.ifCond .ge 10, 3) := by decide +kernel
theorem dX5_read_49 : decode cX5_read 49 = .ok (.aload_n 0, 1) := by decide +kernel
theorem dX5_read_50 : decode cX5_read 50 = .ok (.iload_n 2, 1) := by decide +kernel
theorem dX5_read_51 : decode cX5_read 51 = .ok (.iconst (-1), 1) := by decide +kernel
theorem dX5_read_52 : decode cX5_read 52 = .ok (.invokevirtual 138, 3) := by decide +kernel
theorem dX5_read_55 : decode cX5_read 55 = .ok (.ireturn, 1) := by decide +kernel
theorem dX5_read_56 : decode cX5_read 56 = .ok (.aload_n 0, 1) := by decide +kernel
theorem dX5_read_57 : decode cX5_read 57 = .ok (.iload_n 1, 1) := by decide +kernel
theorem dX5_read_58 : decode cX5_read 58 = .ok (.putfield 64, 3) := by decide +kernel
theorem dX5_read_61 : decode cX5_read 61 = .ok (.aload_n 0, 1) := by decide +kernel
theorem dX5_read_62 : decode cX5_read 62 = .ok (.iconst 0, 1) := by decide +kernel
theorem dX5_read_63 : decode cX5_read 63 = .ok (.iconst (-1), 1) := by decide +kernel
theorem dX5_read_64 : decode cX5_read 64 = .ok (.invokevirtual 138, 3) := by decide +kernel
theorem dX5_read_67 : decode cX5_read 67 = .ok (.pop, 1) := by decide +kernel
theorem dX5_read_68 : decode cX5_read 68 = .ok (.iload_n 2, 1) := by decide +kernel
theorem dX5_read_69 : decode cX5_read 69 = .ok (.ireturn, 1) := by decide +kernel
theorem dX5_readAs_0 : decode cX5_readAs 0 = .ok (.iload_n 1, 1) := by decide +kernel
theorem dX5_readAs_1 : decode cX5_readAs 1 = .ok (.ifCond .lt 9, 3) := by decide +kernel
theorem dX5_readAs_4 : decode cX5_readAs 4 = .ok (.iload_n 1, 1) := by decide +kernel
theorem dX5_readAs_5 : decode cX5_readAs 5 = .ok (.bipush 13, 2) := by decide +kernel
theorem dX5_readAs_7 : decode cX5_readAs 7 = .ok (.if_icmp .le 10, 3) := by decide +kernel
theorem dX5_readAs_10 : decode cX5_readAs 10 = .ok (.aload_n 0, 1) := by decide +kernel
theorem dX5_readAs_11 : decode cX5_readAs 11 = .ok (.iconst (-1), 1) := by decide +kernel
theorem dX5_readAs_12 : decode cX5_readAs 12 = .ok (.iconst (-1), 1) := by decide +kernel
theorem dX5_readAs_13 : decode cX5_readAs 13 = .ok (.invokevirtual 138, 3) := by decide +kernel
theorem dX5_readAs_16 : decode cX5_readAs 16 = .ok (.ireturn, 1) := by decide +kernel
theorem dX5_readAs_17 : decode cX5_readAs 17 = .ok (.aload_n 0, 1) := by decide +kernel
theorem dX5_readAs_18 : decode cX5_readAs 18 = .ok (.getfield 35, 3) := by decide +kernel
theorem dX5_readAs_21 : decode cX5_readAs 21 = .ok (.aload_n 0, 1) := by decide +kernel
theorem dX5_readAs_22 : decode cX5_readAs 22 = .ok (.getfield 20, 3) := by decide +kernel
theorem dX5_readAs_25 : decode cX5_readAs 25 = .ok (.aload_n 0, 1) := by decide +kernel
theorem dX5_readAs_26 : decode cX5_readAs 26 = .ok (.getfield 64, 3) := by decide +kernel
theorem dX5_readAs_29 : decode cX5_readAs 29 = .ok (.invokevirtual 238, 3) := by decide +kernel
theorem dX5_readAs_32 : decode cX5_readAs 32 = .ok (.ifCond .ne 17, 3) := by decide +kernel
theorem dX5_readAs_35 : decode cX5_readAs 35 = .ok (.aload_n 0, 1) := by decide +kernel
theorem dX5_readAs_36 : decode cX5_readAs 36 = .ok (.bipush (-10), 2) := by decide +kernel
theorem dX5_readAs_38 : decode cX5_readAs 38 = .ok (.aload_n 0, 1) := by decide +kernel
theorem dX5_readAs_39 : decode cX5_readAs 39 = .ok (.getfield 35, 3) := by decide +kernel
theorem dX5_readAs_42 : decode cX5_readAs 42 = .ok (.getfield 242, 3) := by decide +kernel
theorem dX5_readAs_45 : decode cX5_readAs 45 = .ok (.invokevirtual 138, 3) := by decide +kernel
theorem dX5_readAs_48 : decode cX5_readAs 48 = .ok (.ireturn, 1) := by decide +kernel
theorem dX5_readAs_49 : decode cX5_readAs 49 = .ok (.aload_n 0, 1) := by decide +kernel
theorem dX5_readAs_50 : decode cX5_readAs 50 = .ok (.getfield 35, 3) := by decide +kernel
theorem dX5_readAs_53 : decode cX5_readAs 53 = .ok (.getfield 51, 3) := by decide +kernel
theorem dX5_readAs_56 : decode cX5_readAs 56 = .ok (.iconst 0, 1) := by decide +kernel
theorem dX5_readAs_57 : decode cX5_readAs 57 = .ok (.aaload, 1) := by decide +kernel
theorem dX5_readAs_58 : decode cX5_readAs 58 = .ok (.astore_n 2, 1) := by decide +kernel
theorem dX5_readAs_59 : decode cX5_readAs 59 = .ok (.aload_n 2, 1) := by decide +kernel
theorem dX5_readAs_60 : decode cX5_readAs 60 = .ok (.invokevirtual 251, 3) := by decide +kernel
theorem dX5_readAs_63 : decode cX5_readAs 63 = .ok (.ifCond .ne 11, 3) := by decide +kernel
theorem dX5_readAs_66 : decode cX5_readAs 66 = .ok (.aload_n 0, 1) := by decide +kernel
theorem dX5_readAs_67 : decode cX5_readAs 67 = .ok (.bipush (-6), 2) := by decide +kernel
theorem dX5_readAs_69 : decode cX5_readAs 69 = .ok (.iconst (-1), 1) := by decide +kernel
theorem dX5_readAs_70 : decode cX5_readAs 70 = .ok (.invokevirtual 138, 3) := by decide +kernel
theorem dX5_readAs_73 : decode cX5_readAs 73 = .ok (.ireturn, 1) := by decide +kernel
theorem dX5_readAs_74 : decode cX5_readAs 74 = .ok (.aload_n 2, 1) := by decide +kernel
theorem dX5_readAs_75 : decode cX5_readAs 75 = .ok (.invokevirtual 254, 3) := by decide +kernel
theorem dX5_readAs_78 : decode cX5_readAs 78 = .ok (.ifCond .eq 11, 3) := by decide +kernel
theorem dX5_readAs_81 : decode cX5_readAs 81 = .ok (.aload_n 0, 1) := by decide +kernel
theorem dX5_readAs_82 : decode cX5_readAs 82 = .ok (.bipush (-2), 2) := by decide +kernel
theorem dX5_readAs_84 : decode cX5_readAs 84 = .ok (.iconst (-1), 1) := by decide +kernel
theorem dX5_readAs_85 : decode cX5_readAs 85 = .ok (.invokevirtual 138, 3) := by decide +kernel
theorem dX5_readAs_88 : decode cX5_readAs 88 = .ok (.ireturn, 1) := by decide +kernel
theorem dX5_readAs_89 : decode cX5_readAs 89 = .ok (.aload_n 0, 1) := by decide +kernel
theorem dX5_readAs_90 : decode cX5_readAs 90 = .ok (.aload_n 2, 1) := by decide +kernel
theorem dX5_readAs_91 : decode cX5_readAs 91 = .ok (.iload_n 1, 1) := by decide +kernel
theorem dX5_readAs_92 : decode cX5_readAs 92 = .ok (.invokevirtual 186, 3) := by decide +kernel
theorem dX5_readAs_95 : decode cX5_readAs 95 = .ok (.istore_n 3, 1) := by decide +kernel
theorem dX5_readAs_96 : decode cX5_readAs 96 = .ok (.iload_n 3, 1) := by decide +kernel
theorem dX5_readAs_97 : decode cX5_readAs 97 = .ok (.ifCond .lt 14, 3) := by decide +kernel
theorem dX5_readAs_100 : decode cX5_readAs 100 = .ok (.aload_n 0, 1) := by decide +kernel
theorem dX5_readAs_101 : decode cX5_readAs 101 = .ok (.aload_n 0, 1) := by decide +kernel
theorem dX5_readAs_102 : decode cX5_readAs 102 = .ok (.getfield 35, 3) := by decide +kernel
theorem dX5_readAs_105 : decode cX5_readAs 105 = .ok (.getfield 245, 3) := by decide +kernel
theorem dX5_readAs_108 : decode cX5_readAs 108 = .ok (.putfield 64, 3) := by decide +kernel
theorem dX5_readAs_111 : decode cX5_readAs 111 = .ok (.iload_n 3, 1) := by decide +kernel
theorem dX5_readAs_112 : decode cX5_readAs 112 = .ok (.ireturn, 1) := by decide +kernel
theorem dX5_skip_0 : decode cX5_skip 0 = .ok (.aload_n 0, 1) := by decide +kernel
theorem dX5_skip_1 : decode cX5_skip 1 = .ok (.getfield 35, 3) := by decide +kernel
theorem dX5_skip_4 : decode cX5_skip 4 = .ok (.aload_n 0, 1) := by decide +kernel
theorem dX5_skip_5 : decode cX5_skip 5 = .ok (.getfield 20, 3) := by decide +kernel
theorem dX5_skip_8 : decode cX5_skip 8 = .ok (.aload_n 0, 1) := by decide +kernel
theorem dX5_skip_9 : decode cX5_skip 9 = .ok (.getfield 64, 3) := by decide +kernel
theorem dX5_skip_12 : decode cX5_skip 12 = .ok (.invokevirtual 238, 3) := by decide +kernel
theorem dX5_skip_15 : decode cX5_skip 15 = .ok (.ifCond .ne 17, 3) := by decide +kernel
theorem dX5_skip_18 : decode cX5_skip 18 = .ok (.aload_n 0, 1) := by decide +kernel
theorem dX5_skip_19 : decode cX5_skip 19 = .ok (.bipush (-10), 2) := by decide +kernel
theorem dX5_skip_21 : decode cX5_skip 21 = .ok (.aload_n 0, 1) := by decide +kernel
theorem dX5_skip_22 : decode cX5_skip 22 = .ok (.getfield 35, 3) := by decide +kernel
theorem dX5_skip_25 : decode cX5_skip 25 = .ok (.getfield 242, 3) := by decide +kernel
theorem dX5_skip_28 : decode cX5_skip 28 = .ok (.invokevirtual 138, 3) := by decide +kernel
theorem dX5_skip_31 : decode cX5_skip 31 = .ok (.ireturn, 1) := by decide +kernel
theorem dX5_skip_32 : decode cX5_skip 32 = .ok (.aload_n 0, 1) := by decide +kernel
theorem dX5_skip_33 : decode cX5_skip 33 = .ok (.getfield 35, 3) := by decide +kernel
theorem dX5_skip_36 : decode cX5_skip 36 = .ok (.getfield 245, 3) := by decide +kernel
theorem dX5_skip_39 : decode cX5_skip 39 = .ok (.aload_n 0, 1) := by decide +kernel
theorem dX5_skip_40 : decode cX5_skip 40 = .ok (.getfield 64, 3) := by decide +kernel
theorem dX5_skip_43 : decode cX5_skip 43 = .ok (.isub, 1) := by decide +kernel
theorem dX5_skip_44 : decode cX5_skip 44 = .ok (.istore_n 1, 1) := by decide +kernel
theorem dX5_skip_45 : decode cX5_skip 45 = .ok (.aload_n 0, 1) := by decide +kernel
theorem dX5_skip_46 : decode cX5_skip 46 = .ok (.aload_n 0, 1) := by decide +kernel
theorem dX5_skip_47 : decode cX5_skip 47 = .ok (.getfield 35, 3) := by decide +kernel
theorem dX5_skip_50 : decode cX5_skip 50 = .ok (.getfield 245, 3) := by decide +kernel
theorem dX5_skip_53 : decode cX5_skip 53 = .ok (.putfield 64, 3) := by decide +kernel
theorem dX5_skip_56 : decode cX5_skip 56 = .ok (.aload_n 0, 1) := by decide +kernel
theorem dX5_skip_57 : decode cX5_skip 57 = .ok (.iconst 0, 1) := by decide +kernel
theorem dX5_skip_58 : decode cX5_skip 58 = .ok (.iconst (-1), 1) := by decide +kernel
theorem dX5_skip_59 : decode cX5_skip 59 = .ok (.invokevirtual 138, 3) := by decide +kernel
theorem dX5_skip_62 : decode cX5_skip 62 = .ok (.pop, 1) := by decide +kernel
theorem dX5_skip_63 : decode cX5_skip 63 = .ok (.iload_n 1, 1) := by decide +kernel
theorem dX5_skip_64 : decode cX5_skip 64 = .ok (.ireturn, 1) := by decide +kernel
theorem dX5_relay_0 : decode cX5_relay 0 = .ok (.iload_n 1, 1) := by decide +kernel
theorem dX5_relay_1 : decode cX5_relay 1 = .ok (.invokestatic 215, 3) := by decide +kernel
theorem dX5_relay_4 : decode cX5_relay 4 = .ok (.ifCond .ne 10, 3) := by decide +kernel
theorem dX5_relay_7 : decode cX5_relay 7 = .ok (.aload_n 0, 1) := by decide +kernel
theorem dX5_relay_8 : decode cX5_relay 8 = .ok (.iconst (-1), 1) := by decide +kernel
theorem dX5_relay_9 : decode cX5_relay 9 = .ok (.iconst (-1), 1) := by decide +kernel
theorem dX5_relay_10 : decode cX5_relay 10 = .ok (.invokevirtual 138, 3) := by decide +kernel
theorem dX5_relay_13 : decode cX5_relay 13 = .ok (.ireturn, 1) := by decide +kernel
theorem dX5_relay_14 : decode cX5_relay 14 = .ok (.aload_n 0, 1) := by decide +kernel
theorem dX5_relay_15 : decode cX5_relay 15 = .ok (.getfield 35, 3) := by decide +kernel
theorem dX5_relay_18 : decode cX5_relay 18 = .ok (.aload_n 0, 1) := by decide +kernel
theorem dX5_relay_19 : decode cX5_relay 19 = .ok (.getfield 20, 3) := by decide +kernel
theorem dX5_relay_22 : decode cX5_relay 22 = .ok (.aload_n 0, 1) := by decide +kernel
theorem dX5_relay_23 : decode cX5_relay 23 = .ok (.getfield 64, 3) := by decide +kernel
theorem dX5_relay_26 : decode cX5_relay 26 = .ok (.invokevirtual 238, 3) := by decide +kernel
theorem dX5_relay_29 : decode cX5_relay 29 = .ok (.ifCond .ne 17, 3) := by decide +kernel
theorem dX5_relay_32 : decode cX5_relay 32 = .ok (.aload_n 0, 1) := by decide +kernel
theorem dX5_relay_33 : decode cX5_relay 33 = .ok (.bipush (-10), 2) := by decide +kernel
theorem dX5_relay_35 : decode cX5_relay 35 = .ok (.aload_n 0, 1) := by decide +kernel
theorem dX5_relay_36 : decode cX5_relay 36 = .ok (.getfield 35, 3) := by decide +kernel
theorem dX5_relay_39 : decode cX5_relay 39 = .ok (.getfield 242, 3) := by decide +kernel
theorem dX5_relay_42 : decode cX5_relay 42 = .ok (.invokevirtual 138, 3) := by decide +kernel
theorem dX5_relay_45 : decode cX5_relay 45 = .ok (.ireturn, 1) := by decide +kernel
theorem dX5_relay_46 : decode cX5_relay 46 = .ok (.aload_n 0, 1) := by decide +kernel
theorem dX5_relay_47 : decode cX5_relay 47 = .ok (.getfield 54, 3) := by decide +kernel
theorem dX5_relay_50 : decode cX5_relay 50 = .ok (.iconst 0, 1) := by decide +kernel
theorem dX5_relay_51 : decode cX5_relay 51 = .ok (.iload_n 1, 1) := by decide +kernel
theorem dX5_relay_52 : decode cX5_relay 52 = .ok (.invokevirtual 219, 3) := by decide +kernel
theorem dX5_relay_55 : decode cX5_relay 55 = .ok (.aload_n 0, 1) := by decide +kernel
theorem dX5_relay_56 : decode cX5_relay 56 = .ok (.getfield 20, 3) := by decide +kernel
theorem dX5_relay_59 : decode cX5_relay 59 = .ok (.aload_n 0, 1) := by decide +kernel
theorem dX5_relay_60 : decode cX5_relay 60 = .ok (.getfield 27, 3) := by decide +kernel
theorem dX5_relay_63 : decode cX5_relay 63 = .ok (.invokevirtual 222, 3) := by decide +kernel
theorem dX5_relay_66 : decode cX5_relay 66 = .ok (.ifCond .ne 11, 3) := by decide +kernel
theorem dX5_relay_69 : decode cX5_relay 69 = .ok (.aload_n 0, 1) := by decide +kernel
theorem dX5_relay_70 : decode cX5_relay 70 = .ok (.bipush (-3), 2) := by decide +kernel
theorem dX5_relay_72 : decode cX5_relay 72 = .ok (.iconst (-1), 1) := by decide +kernel
theorem dX5_relay_73 : decode cX5_relay 73 = .ok (.invokevirtual 138, 3) := by decide +kernel
theorem dX5_relay_76 : decode cX5_relay 76 = .ok (.ireturn, 1) := by decide +kernel
theorem dX5_relay_77 : decode cX5_relay 77 = .ok (.aload_n 0, 1) := by decide +kernel
theorem dX5_relay_78 : decode cX5_relay 78 = .ok (.iconst 0, 1) := by decide +kernel
theorem dX5_relay_79 : decode cX5_relay 79 = .ok (.iconst (-1), 1) := by decide +kernel
theorem dX5_relay_80 : decode cX5_relay 80 = .ok (.invokevirtual 138, 3) := by decide +kernel
theorem dX5_relay_83 : decode cX5_relay 83 = .ok (.pop, 1) := by decide +kernel
theorem dX5_relay_84 : decode cX5_relay 84 = .ok (.aload_n 0, 1) := by decide +kernel
theorem dX5_relay_85 : decode cX5_relay 85 = .ok (.getfield 27, 3) := by decide +kernel
theorem dX5_relay_88 : decode cX5_relay 88 = .ok (.getfield 226, 3) := by decide +kernel
theorem dX5_relay_91 : decode cX5_relay 91 = .ok (.ireturn, 1) := by decide +kernel
theorem dX5_slack_0 : decode cX5_slack 0 = .ok (.aload_n 0, 1) := by decide +kernel
theorem dX5_slack_1 : decode cX5_slack 1 = .ok (.getfield 20, 3) := by decide +kernel
theorem dX5_slack_4 : decode cX5_slack 4 = .ok (.iload_n 1, 1) := by decide +kernel
theorem dX5_slack_5 : decode cX5_slack 5 = .ok (.invokevirtual 227, 3) := by decide +kernel
theorem dX5_slack_8 : decode cX5_slack 8 = .ok (.ifCond .ne 5, 3) := by decide +kernel
theorem dX5_slack_11 : decode cX5_slack 11 = .ok (.iconst (-1), 1) := by decide +kernel
theorem dX5_slack_12 : decode cX5_slack 12 = .ok (.ireturn, 1) := by decide +kernel
theorem dX5_slack_13 : decode cX5_slack 13 = .ok (.aload_n 0, 1) := by decide +kernel
theorem dX5_slack_14 : decode cX5_slack 14 = .ok (.getfield 35, 3) := by decide +kernel
theorem dX5_slack_17 : decode cX5_slack 17 = .ok (.aload_n 0, 1) := by decide +kernel
theorem dX5_slack_18 : decode cX5_slack 18 = .ok (.getfield 20, 3) := by decide +kernel
theorem dX5_slack_21 : decode cX5_slack 21 = .ok (.aload_n 0, 1) := by decide +kernel
theorem dX5_slack_22 : decode cX5_slack 22 = .ok (.getfield 64, 3) := by decide +kernel
theorem dX5_slack_25 : decode cX5_slack 25 = .ok (.invokevirtual 238, 3) := by decide +kernel
theorem dX5_slack_28 : decode cX5_slack 28 = .ok (.istore_n 2, 1) := by decide +kernel
theorem dX5_slack_29 : decode cX5_slack 29 = .ok (.iload_n 1, 1) := by decide +kernel
theorem dX5_slack_30 : decode cX5_slack 30 = .ok (.aload_n 0, 1) := by decide +kernel
theorem dX5_slack_31 : decode cX5_slack 31 = .ok (.getfield 64, 3) := by decide +kernel
theorem dX5_slack_34 : decode cX5_slack 34 = .ok (.if_icmp .lt 14, 3) := by decide +kernel
theorem dX5_slack_37 : decode cX5_slack 37 = .ok (.aload_n 0, 1) := by decide +kernel
theorem dX5_slack_38 : decode cX5_slack 38 = .ok (.getfield 35, 3) := by decide +kernel
theorem dX5_slack_41 : decode cX5_slack 41 = .ok (.iload_n 1, 1) := by decide +kernel
theorem dX5_slack_42 : decode cX5_slack 42 = .ok (.invokevirtual 257, 3) := by decide +kernel
theorem dX5_slack_45 : decode cX5_slack 45 = .ok (.ifCond .ne 15, 3) := by decide +kernel
theorem dX5_slack_48 : decode cX5_slack 48 = .ok (.iload_n 2, 1) := by decide +kernel
theorem dX5_slack_49 : decode cX5_slack 49 = .ok (.ifCond .eq 9, 3) := by decide +kernel
theorem dX5_slack_52 : decode cX5_slack 52 = .ok (.sipush 256, 3) := by decide +kernel
theorem dX5_slack_55 : decode cX5_slack 55 = .ok (.goto 4, 3) := by decide +kernel
theorem dX5_slack_58 : decode cX5_slack 58 = .ok (.iconst 0, 1) := by decide +kernel
theorem dX5_slack_59 : decode cX5_slack 59 = .ok (.ireturn, 1) := by decide +kernel
theorem dX5_slack_60 : decode cX5_slack 60 = .ok (.aload_n 0, 1) := by decide +kernel
theorem dX5_slack_61 : decode cX5_slack 61 = .ok (.getfield 20, 3) := by decide +kernel
theorem dX5_slack_64 : decode cX5_slack 64 = .ok (.iload_n 1, 1) := by decide +kernel
theorem dX5_slack_65 : decode cX5_slack 65 = .ok (.invokevirtual 229, 3) := by decide +kernel
theorem dX5_slack_68 : decode cX5_slack 68 = .ok (.istore_n 3, 1) := by decide +kernel
theorem dX5_slack_69 : decode cX5_slack 69 = .ok (.iconst 0, 1) := by decide +kernel
theorem dX5_slack_70 : decode cX5_slack 70 = .ok (.istore 4, 2) := by decide +kernel
theorem dX5_slack_72 : decode cX5_slack 72 = .ok (.iconst 0, 1) := by decide +kernel
theorem dX5_slack_73 : decode cX5_slack 73 = .ok (.istore 5, 2) := by decide +kernel
theorem dX5_slack_75 : decode cX5_slack 75 = .ok (.iload 5, 2) := by decide +kernel
theorem dX5_slack_77 : decode cX5_slack 77 = .ok (.sipush 256, 3) := by decide +kernel
theorem dX5_slack_80 : decode cX5_slack 80 = .ok (.if_icmp .ge 40, 3) := by decide +kernel
theorem dX5_slack_83 : decode cX5_slack 83 = .ok (.aload_n 0, 1) := by decide +kernel
theorem dX5_slack_84 : decode cX5_slack 84 = .ok (.getfield 20, 3) := by decide +kernel
theorem dX5_slack_87 : decode cX5_slack 87 = .ok (.iload_n 1, 1) := by decide +kernel
theorem dX5_slack_88 : decode cX5_slack 88 = .ok (.iload 5, 2) := by decide +kernel
theorem dX5_slack_90 : decode cX5_slack 90 = .ok (.invokevirtual 235, 3) := by decide +kernel
theorem dX5_slack_93 : decode cX5_slack 93 = .ok (.aload_n 0, 1) := by decide +kernel
theorem dX5_slack_94 : decode cX5_slack 94 = .ok (.getfield 35, 3) := by decide +kernel
theorem dX5_slack_97 : decode cX5_slack 97 = .ok (.aload_n 0, 1) := by decide +kernel
theorem dX5_slack_98 : decode cX5_slack 98 = .ok (.getfield 20, 3) := by decide +kernel
theorem dX5_slack_101 : decode cX5_slack 101 = .ok (.aload_n 0, 1) := by decide +kernel
theorem dX5_slack_102 : decode cX5_slack 102 = .ok (.getfield 64, 3) := by decide +kernel
theorem dX5_slack_105 : decode cX5_slack 105 = .ok (.invokevirtual 238, 3) := by decide +kernel
theorem dX5_slack_108 : decode cX5_slack 108 = .ok (.ifCond .eq 6, 3) := by decide +kernel
theorem dX5_slack_111 : decode cX5_slack 111 = .ok (.iinc 4 1, 3) := by decide +kernel
theorem dX5_slack_114 : decode cX5_slack 114 = .ok (.iinc 5 1, 3) := by decide +kernel
theorem dX5_slack_117 : decode cX5_slack 117 = .ok (.goto (-42), 3) := by decide +kernel
theorem dX5_slack_120 : decode cX5_slack 120 = .ok (.aload_n 0, 1) := by decide +kernel
theorem dX5_slack_121 : decode cX5_slack 121 = .ok (.getfield 20, 3) := by decide +kernel
theorem dX5_slack_124 : decode cX5_slack 124 = .ok (.iload_n 1, 1) := by decide +kernel
theorem dX5_slack_125 : decode cX5_slack 125 = .ok (.iload_n 3, 1) := by decide +kernel
theorem dX5_slack_126 : decode cX5_slack 126 = .ok (.invokevirtual 235, 3) := by decide +kernel
theorem dX5_slack_129 : decode cX5_slack 129 = .ok (.iload 4, 2) := by decide +kernel
theorem dX5_slack_131 : decode cX5_slack 131 = .ok (.ireturn, 1) := by decide +kernel
theorem dX5_find_0 : decode cX5_find 0 = .ok (.aload_n 0, 1) := by decide +kernel
theorem dX5_find_1 : decode cX5_find 1 = .ok (.iload_n 1, 1) := by decide +kernel
theorem dX5_find_2 : decode cX5_find 2 = .ok (.invokevirtual 94, 3) := by decide +kernel
theorem dX5_find_5 : decode cX5_find 5 = .ok (.istore_n 2, 1) := by decide +kernel
theorem dX5_find_6 : decode cX5_find 6 = .ok (.iload_n 2, 1) := by decide +kernel
theorem dX5_find_7 : decode cX5_find 7 = .ok (.ifCond .eq 5, 3) := by decide +kernel
theorem dX5_find_10 : decode cX5_find 10 = .ok (.iload_n 2, 1) := by decide +kernel
theorem dX5_find_11 : decode cX5_find 11 = .ok (.ireturn, 1) := by decide +kernel
theorem dX5_find_12 : decode cX5_find 12 = .ok (.aload_n 0, 1) := by decide +kernel
theorem dX5_find_13 : decode cX5_find 13 = .ok (.getfield 44, 3) := by decide +kernel
theorem dX5_find_16 : decode cX5_find 16 = .ok (.iload_n 1, 1) := by decide +kernel
theorem dX5_find_17 : decode cX5_find 17 = .ok (.iconst 0, 1) := by decide +kernel
theorem dX5_find_18 : decode cX5_find 18 = .ok (.invokevirtual 219, 3) := by decide +kernel
theorem dX5_find_21 : decode cX5_find 21 = .ok (.iconst 0, 1) := by decide +kernel
theorem dX5_find_22 : decode cX5_find 22 = .ok (.istore_n 3, 1) := by decide +kernel
theorem dX5_find_23 : decode cX5_find 23 = .ok (.iload_n 3, 1) := by decide +kernel
theorem dX5_find_24 : decode cX5_find 24 = .ok (.aload_n 0, 1) := by decide +kernel
theorem dX5_find_25 : decode cX5_find 25 = .ok (.getfield 20, 3) := by decide +kernel
theorem dX5_find_28 : decode cX5_find 28 = .ok (.getfield 226, 3) := by decide +kernel
theorem dX5_find_31 : decode cX5_find 31 = .ok (.if_icmp .ge 54, 3) := by decide +kernel
theorem dX5_find_34 : decode cX5_find 34 = .ok (.aload_n 0, 1) := by decide +kernel
theorem dX5_find_35 : decode cX5_find 35 = .ok (.getfield 35, 3) := by decide +kernel
theorem dX5_find_38 : decode cX5_find 38 = .ok (.aload_n 0, 1) := by decide +kernel
theorem dX5_find_39 : decode cX5_find 39 = .ok (.getfield 20, 3) := by decide +kernel
theorem dX5_find_42 : decode cX5_find 42 = .ok (.iload_n 3, 1) := by decide +kernel
theorem dX5_find_43 : decode cX5_find 43 = .ok (.invokevirtual 238, 3) := by decide +kernel
theorem dX5_find_46 : decode cX5_find 46 = .ok (.ifCond .ne 6, 3) := by decide +kernel
theorem dX5_find_49 : decode cX5_find 49 = .ok (.goto 30, 3) := by decide +kernel
theorem dX5_find_52 : decode cX5_find 52 = .ok (.aload_n 0, 1) := by decide +kernel
theorem dX5_find_53 : decode cX5_find 53 = .ok (.getfield 54, 3) := by decide +kernel
theorem dX5_find_56 : decode cX5_find 56 = .ok (.iconst 0, 1) := by decide +kernel
theorem dX5_find_57 : decode cX5_find 57 = .ok (.iconst 0, 1) := by decide +kernel
theorem dX5_find_58 : decode cX5_find 58 = .ok (.invokevirtual 219, 3) := by decide +kernel
theorem dX5_find_61 : decode cX5_find 61 = .ok (.aload_n 0, 1) := by decide +kernel
theorem dX5_find_62 : decode cX5_find 62 = .ok (.getfield 24, 3) := by decide +kernel
theorem dX5_find_65 : decode cX5_find 65 = .ok (.aload_n 0, 1) := by decide +kernel
theorem dX5_find_66 : decode cX5_find 66 = .ok (.getfield 27, 3) := by decide +kernel
theorem dX5_find_69 : decode cX5_find 69 = .ok (.invokevirtual 260, 3) := by decide +kernel
theorem dX5_find_72 : decode cX5_find 72 = .ok (.bipush (-4), 2) := by decide +kernel
theorem dX5_find_74 : decode cX5_find 74 = .ok (.if_icmp .ne 5, 3) := by decide +kernel
theorem dX5_find_77 : decode cX5_find 77 = .ok (.iload_n 3, 1) := by decide +kernel
theorem dX5_find_78 : decode cX5_find 78 = .ok (.ireturn, 1) := by decide +kernel
theorem dX5_find_79 : decode cX5_find 79 = .ok (.iinc 3 1, 3) := by decide +kernel
theorem dX5_find_82 : decode cX5_find 82 = .ok (.goto (-59), 3) := by decide +kernel
theorem dX5_find_85 : decode cX5_find 85 = .ok (.bipush (-4), 2) := by decide +kernel
theorem dX5_find_87 : decode cX5_find 87 = .ok (.ireturn, 1) := by decide +kernel
theorem dX5_laid_0 : decode cX5_laid 0 = .ok (.iload_n 2, 1) := by decide +kernel
theorem dX5_laid_1 : decode cX5_laid 1 = .ok (.invokestatic 215, 3) := by decide +kernel
theorem dX5_laid_4 : decode cX5_laid 4 = .ok (.ifCond .ne 5, 3) := by decide +kernel
theorem dX5_laid_7 : decode cX5_laid 7 = .ok (.iconst (-1), 1) := by decide +kernel
theorem dX5_laid_8 : decode cX5_laid 8 = .ok (.ireturn, 1) := by decide +kernel
theorem dX5_laid_9 : decode cX5_laid 9 = .ok (.aload_n 0, 1) := by decide +kernel
theorem dX5_laid_10 : decode cX5_laid 10 = .ok (.iload_n 1, 1) := by decide +kernel
theorem dX5_laid_11 : decode cX5_laid 11 = .ok (.invokevirtual 94, 3) := by decide +kernel
theorem dX5_laid_14 : decode cX5_laid 14 = .ok (.istore_n 3, 1) := by decide +kernel
theorem dX5_laid_15 : decode cX5_laid 15 = .ok (.iload_n 3, 1) := by decide +kernel
theorem dX5_laid_16 : decode cX5_laid 16 = .ok (.ifCond .eq 5, 3) := by decide +kernel
theorem dX5_laid_19 : decode cX5_laid 19 = .ok (.iload_n 3, 1) := by decide +kernel
theorem dX5_laid_20 : decode cX5_laid 20 = .ok (.ireturn, 1) := by decide +kernel
theorem dX5_laid_21 : decode cX5_laid 21 = .ok (.aload_n 0, 1) := by decide +kernel
theorem dX5_laid_22 : decode cX5_laid 22 = .ok (.getfield 44, 3) := by decide +kernel
theorem dX5_laid_25 : decode cX5_laid 25 = .ok (.iload_n 1, 1) := by decide +kernel
theorem dX5_laid_26 : decode cX5_laid 26 = .ok (.iload_n 2, 1) := by decide +kernel
theorem dX5_laid_27 : decode cX5_laid 27 = .ok (.invokevirtual 219, 3) := by decide +kernel
theorem dX5_laid_30 : decode cX5_laid 30 = .ok (.aload_n 0, 1) := by decide +kernel
theorem dX5_laid_31 : decode cX5_laid 31 = .ok (.getfield 24, 3) := by decide +kernel
theorem dX5_laid_34 : decode cX5_laid 34 = .ok (.getfield 226, 3) := by decide +kernel
theorem dX5_laid_37 : decode cX5_laid 37 = .ok (.ireturn, 1) := by decide +kernel
theorem dX5_part_0 : decode cX5_part 0 = .ok (.aload_n 0, 1) := by decide +kernel
theorem dX5_part_1 : decode cX5_part 1 = .ok (.iload_n 1, 1) := by decide +kernel
theorem dX5_part_2 : decode cX5_part 2 = .ok (.iload_n 2, 1) := by decide +kernel
theorem dX5_part_3 : decode cX5_part 3 = .ok (.invokevirtual 264, 3) := by decide +kernel
theorem dX5_part_6 : decode cX5_part 6 = .ok (.istore_n 3, 1) := by decide +kernel
theorem dX5_part_7 : decode cX5_part 7 = .ok (.iload_n 3, 1) := by decide +kernel
theorem dX5_part_8 : decode cX5_part 8 = .ok (.ifCond .eq 5, 3) := by decide +kernel
theorem dX5_part_11 : decode cX5_part 11 = .ok (.iload_n 3, 1) := by decide +kernel
theorem dX5_part_12 : decode cX5_part 12 = .ok (.ireturn, 1) := by decide +kernel
theorem dX5_part_13 : decode cX5_part 13 = .ok (.aload_n 0, 1) := by decide +kernel
theorem dX5_part_14 : decode cX5_part 14 = .ok (.getfield 44, 3) := by decide +kernel
theorem dX5_part_17 : decode cX5_part 17 = .ok (.iload_n 1, 1) := by decide +kernel
theorem dX5_part_18 : decode cX5_part 18 = .ok (.iconst 0, 1) := by decide +kernel
theorem dX5_part_19 : decode cX5_part 19 = .ok (.invokevirtual 219, 3) := by decide +kernel
theorem dX5_part_22 : decode cX5_part 22 = .ok (.aload_n 0, 1) := by decide +kernel
theorem dX5_part_23 : decode cX5_part 23 = .ok (.getfield 48, 3) := by decide +kernel
theorem dX5_part_26 : decode cX5_part 26 = .ok (.iload_n 2, 1) := by decide +kernel
theorem dX5_part_27 : decode cX5_part 27 = .ok (.iconst 0, 1) := by decide +kernel
theorem dX5_part_28 : decode cX5_part 28 = .ok (.invokevirtual 219, 3) := by decide +kernel
theorem dX5_part_31 : decode cX5_part 31 = .ok (.aload_n 0, 1) := by decide +kernel
theorem dX5_part_32 : decode cX5_part 32 = .ok (.getfield 24, 3) := by decide +kernel
theorem dX5_part_35 : decode cX5_part 35 = .ok (.aload_n 0, 1) := by decide +kernel
theorem dX5_part_36 : decode cX5_part 36 = .ok (.getfield 27, 3) := by decide +kernel
theorem dX5_part_39 : decode cX5_part 39 = .ok (.invokevirtual 260, 3) := by decide +kernel
theorem dX5_part_42 : decode cX5_part 42 = .ok (.ireturn, 1) := by decide +kernel
theorem dX5_hangs_0 : decode cX5_hangs 0 = .ok (.aload_n 0, 1) := by decide +kernel
theorem dX5_hangs_1 : decode cX5_hangs 1 = .ok (.iload_n 1, 1) := by decide +kernel
theorem dX5_hangs_2 : decode cX5_hangs 2 = .ok (.invokevirtual 94, 3) := by decide +kernel
theorem dX5_hangs_5 : decode cX5_hangs 5 = .ok (.istore_n 2, 1) := by decide +kernel
theorem dX5_hangs_6 : decode cX5_hangs 6 = .ok (.iload_n 2, 1) := by decide +kernel
theorem dX5_hangs_7 : decode cX5_hangs 7 = .ok (.ifCond .eq 7, 3) := by decide +kernel
theorem dX5_hangs_10 : decode cX5_hangs 10 = .ok (.iload_n 2, 1) := by decide +kernel
theorem dX5_hangs_11 : decode cX5_hangs 11 = .ok (.goto 8, 3) := by decide +kernel
theorem dX5_hangs_14 : decode cX5_hangs 14 = .ok (.aload_n 0, 1) := by decide +kernel
theorem dX5_hangs_15 : decode cX5_hangs 15 = .ok (.iload_n 1, 1) := by decide +kernel
theorem dX5_hangs_16 : decode cX5_hangs 16 = .ok (.invokevirtual 120, 3) := by decide +kernel
theorem dX5_hangs_19 : decode cX5_hangs 19 = .ok (.ireturn, 1) := by decide +kernel
theorem dX5_far_0 : decode cX5_far 0 = .ok (.aload_n 0, 1) := by decide +kernel
theorem dX5_far_1 : decode cX5_far 1 = .ok (.iload_n 1, 1) := by decide +kernel
theorem dX5_far_2 : decode cX5_far 2 = .ok (.iload_n 2, 1) := by decide +kernel
theorem dX5_far_3 : decode cX5_far 3 = .ok (.invokevirtual 264, 3) := by decide +kernel
theorem dX5_far_6 : decode cX5_far 6 = .ok (.istore_n 3, 1) := by decide +kernel
theorem dX5_far_7 : decode cX5_far 7 = .ok (.iload_n 3, 1) := by decide +kernel
theorem dX5_far_8 : decode cX5_far 8 = .ok (.ifCond .eq 5, 3) := by decide +kernel
theorem dX5_far_11 : decode cX5_far 11 = .ok (.iload_n 3, 1) := by decide +kernel
theorem dX5_far_12 : decode cX5_far 12 = .ok (.ireturn, 1) := by decide +kernel
theorem dX5_far_13 : decode cX5_far 13 = .ok (.aload_n 0, 1) := by decide +kernel
theorem dX5_far_14 : decode cX5_far 14 = .ok (.iload_n 1, 1) := by decide +kernel
theorem dX5_far_15 : decode cX5_far 15 = .ok (.invokevirtual 107, 3) := by decide +kernel
theorem dX5_far_18 : decode cX5_far 18 = .ok (.istore 4, 2) := by decide +kernel
theorem dX5_far_20 : decode cX5_far 20 = .ok (.iconst 1, 1) := by decide +kernel
theorem dX5_far_21 : decode cX5_far 21 = .ok (.istore 5, 2) := by decide +kernel
theorem dX5_far_23 : decode cX5_far 23 = .ok (.iload 5, 2) := by decide +kernel
theorem dX5_far_25 : decode cX5_far 25 = .ok (.bipush 12, 2) := by decide +kernel
theorem dX5_far_27 : decode cX5_far 27 = .ok (.if_icmp .gt 32, 3) := by decide +kernel
theorem dX5_far_30 : decode cX5_far 30 = .ok (.iload 4, 2) := by decide +kernel
theorem dX5_far_32 : decode cX5_far 32 = .ok (.iload_n 2, 1) := by decide +kernel
theorem dX5_far_33 : decode cX5_far 33 = .ok (.invokestatic 110, 3) := by decide +kernel
theorem dX5_far_36 : decode cX5_far 36 = .ok (.ifCond .eq 6, 3) := by decide +kernel
theorem dX5_far_39 : decode cX5_far 39 = .ok (.iload 5, 2) := by decide +kernel
theorem dX5_far_41 : decode cX5_far 41 = .ok (.ireturn, 1) := by decide +kernel
theorem dX5_far_42 : decode cX5_far 42 = .ok (.iload 4, 2) := by decide +kernel
theorem dX5_far_44 : decode cX5_far 44 = .ok (.aload_n 0, 1) := by decide +kernel
theorem dX5_far_45 : decode cX5_far 45 = .ok (.iload 4, 2) := by decide +kernel
theorem dX5_far_47 : decode cX5_far 47 = .ok (.invokevirtual 267, 3) := by decide +kernel
theorem dX5_far_50 : decode cX5_far 50 = .ok (.ior, 1) := by decide +kernel
theorem dX5_far_51 : decode cX5_far 51 = .ok (.istore 4, 2) := by decide +kernel
theorem dX5_far_53 : decode cX5_far 53 = .ok (.iinc 5 1, 3) := by decide +kernel
theorem dX5_far_56 : decode cX5_far 56 = .ok (.goto (-33), 3) := by decide +kernel
theorem dX5_far_59 : decode cX5_far 59 = .ok (.bipush (-4), 2) := by decide +kernel
theorem dX5_far_61 : decode cX5_far 61 = .ok (.ireturn, 1) := by decide +kernel
theorem dX5_twin_0 : decode cX5_twin 0 = .ok (.aload_n 0, 1) := by decide +kernel
theorem dX5_twin_1 : decode cX5_twin 1 = .ok (.iload_n 1, 1) := by decide +kernel
theorem dX5_twin_2 : decode cX5_twin 2 = .ok (.invokevirtual 94, 3) := by decide +kernel
theorem dX5_twin_5 : decode cX5_twin 5 = .ok (.istore_n 2, 1) := by decide +kernel
theorem dX5_twin_6 : decode cX5_twin 6 = .ok (.iload_n 2, 1) := by decide +kernel
theorem dX5_twin_7 : decode cX5_twin 7 = .ok (.ifCond .eq 5, 3) := by decide +kernel
theorem dX5_twin_10 : decode cX5_twin 10 = .ok (.iload_n 2, 1) := by decide +kernel
theorem dX5_twin_11 : decode cX5_twin 11 = .ok (.ireturn, 1) := by decide +kernel
theorem dX5_twin_12 : decode cX5_twin 12 = .ok (.aload_n 0, 1) := by decide +kernel
theorem dX5_twin_13 : decode cX5_twin 13 = .ok (.getfield 44, 3) := by decide +kernel
theorem dX5_twin_16 : decode cX5_twin 16 = .ok (.iload_n 1, 1) := by decide +kernel
theorem dX5_twin_17 : decode cX5_twin 17 = .ok (.iconst 0, 1) := by decide +kernel
theorem dX5_twin_18 : decode cX5_twin 18 = .ok (.invokevirtual 219, 3) := by decide +kernel
theorem dX5_twin_21 : decode cX5_twin 21 = .ok (.aload_n 0, 1) := by decide +kernel
theorem dX5_twin_22 : decode cX5_twin 22 = .ok (.getfield 35, 3) := by decide +kernel
theorem dX5_twin_25 : decode cX5_twin 25 = .ok (.aload_n 0, 1) := by decide +kernel
theorem dX5_twin_26 : decode cX5_twin 26 = .ok (.getfield 24, 3) := by decide +kernel
theorem dX5_twin_29 : decode cX5_twin 29 = .ok (.iconst 0, 1) := by decide +kernel
theorem dX5_twin_30 : decode cX5_twin 30 = .ok (.invokevirtual 238, 3) := by decide +kernel
theorem dX5_twin_33 : decode cX5_twin 33 = .ok (.ifCond .eq 10, 3) := by decide +kernel
theorem dX5_twin_36 : decode cX5_twin 36 = .ok (.aload_n 0, 1) := by decide +kernel
theorem dX5_twin_37 : decode cX5_twin 37 = .ok (.invokevirtual 248, 3) := by decide +kernel
theorem dX5_twin_40 : decode cX5_twin 40 = .ok (.goto 5, 3) := by decide +kernel
theorem dX5_twin_43 : decode cX5_twin 43 = .ok (.bipush (-3), 2) := by decide +kernel
theorem dX5_twin_45 : decode cX5_twin 45 = .ok (.ireturn, 1) := by decide +kernel
theorem dX5_called_0 : decode cX5_called 0 = .ok (.aload_n 0, 1) := by decide +kernel
theorem dX5_called_1 : decode cX5_called 1 = .ok (.iload_n 1, 1) := by decide +kernel
theorem dX5_called_2 : decode cX5_called 2 = .ok (.invokevirtual 94, 3) := by decide +kernel
theorem dX5_called_5 : decode cX5_called 5 = .ok (.ifCond .eq 7, 3) := by decide +kernel
theorem dX5_called_8 : decode cX5_called 8 = .ok (.lconst 0, 1) := by decide +kernel
theorem dX5_called_9 : decode cX5_called 9 = .ok (.goto 16, 3) := by decide +kernel
theorem dX5_called_12 : decode cX5_called 12 = .ok (.getstatic 270, 3) := by decide +kernel
theorem dX5_called_15 : decode cX5_called 15 = .ok (.aload_n 0, 1) := by decide +kernel
theorem dX5_called_16 : decode cX5_called 16 = .ok (.getfield 11, 3) := by decide +kernel
theorem dX5_called_19 : decode cX5_called 19 = .ok (.iload_n 1, 1) := by decide +kernel
theorem dX5_called_20 : decode cX5_called 20 = .ok (.aaload, 1) := by decide +kernel
theorem dX5_called_21 : decode cX5_called 21 = .ok (.getfield 98, 3) := by decide +kernel
theorem dX5_called_24 : decode cX5_called 24 = .ok (.laload, 1) := by decide +kernel
theorem dX5_called_25 : decode cX5_called 25 = .ok (.lreturn, 1) := by decide +kernel
theorem dX5_named_0 : decode cX5_named 0 = .ok (.lload_n 1, 1) := by decide +kernel
theorem dX5_named_1 : decode cX5_named 1 = .ok (.invokestatic 273, 3) := by decide +kernel
theorem dX5_named_4 : decode cX5_named 4 = .ok (.ifCond .eq 10, 3) := by decide +kernel
theorem dX5_named_7 : decode cX5_named 7 = .ok (.lload_n 1, 1) := by decide +kernel
theorem dX5_named_8 : decode cX5_named 8 = .ok (.invokestatic 277, 3) := by decide +kernel
theorem dX5_named_11 : decode cX5_named 11 = .ok (.goto 4, 3) := by decide +kernel
theorem dX5_named_14 : decode cX5_named 14 = .ok (.iconst (-1), 1) := by decide +kernel
theorem dX5_named_15 : decode cX5_named 15 = .ok (.ireturn, 1) := by decide +kernel
theorem dX5_count_0 : decode cX5_count 0 = .ok (.iload_n 1, 1) := by decide +kernel
theorem dX5_count_1 : decode cX5_count 1 = .ok (.ifCond .lt 9, 3) := by decide +kernel
theorem dX5_count_4 : decode cX5_count 4 = .ok (.iload_n 1, 1) := by decide +kernel
theorem dX5_count_5 : decode cX5_count 5 = .ok (.bipush 8, 2) := by decide +kernel
theorem dX5_count_7 : decode cX5_count 7 = .ok (.if_icmp .le 5, 3) := by decide +kernel
theorem dX5_count_10 : decode cX5_count 10 = .ok (.iconst (-1), 1) := by decide +kernel
theorem dX5_count_11 : decode cX5_count 11 = .ok (.ireturn, 1) := by decide +kernel
theorem dX5_count_12 : decode cX5_count 12 = .ok (.iload_n 1, 1) := by decide +kernel
theorem dX5_count_13 : decode cX5_count 13 = .ok (.tableswitch 54 0 3 #[31, 36, 44, 49], 31) := by decide +kernel
theorem dX5_count_44 : decode cX5_count 44 = .ok (.aload_n 0, 1) := by decide +kernel
theorem dX5_count_45 : decode cX5_count 45 = .ok (.invokevirtual 117, 3) := by decide +kernel
theorem dX5_count_48 : decode cX5_count 48 = .ok (.ireturn, 1) := by decide +kernel
theorem dX5_count_49 : decode cX5_count 49 = .ok (.aload_n 0, 1) := by decide +kernel
theorem dX5_count_50 : decode cX5_count 50 = .ok (.getfield 20, 3) := by decide +kernel
theorem dX5_count_53 : decode cX5_count 53 = .ok (.getfield 226, 3) := by decide +kernel
theorem dX5_count_56 : decode cX5_count 56 = .ok (.ireturn, 1) := by decide +kernel
theorem dX5_count_57 : decode cX5_count 57 = .ok (.aload_n 0, 1) := by decide +kernel
theorem dX5_count_58 : decode cX5_count 58 = .ok (.getfield 64, 3) := by decide +kernel
theorem dX5_count_61 : decode cX5_count 61 = .ok (.ireturn, 1) := by decide +kernel
theorem dX5_count_62 : decode cX5_count 62 = .ok (.aload_n 0, 1) := by decide +kernel
theorem dX5_count_63 : decode cX5_count 63 = .ok (.getfield 68, 3) := by decide +kernel
theorem dX5_count_66 : decode cX5_count 66 = .ok (.ireturn, 1) := by decide +kernel
theorem dX5_count_67 : decode cX5_count 67 = .ok (.aload_n 0, 1) := by decide +kernel
theorem dX5_count_68 : decode cX5_count 68 = .ok (.getfield 61, 3) := by decide +kernel
theorem dX5_count_71 : decode cX5_count 71 = .ok (.iload_n 1, 1) := by decide +kernel
theorem dX5_count_72 : decode cX5_count 72 = .ok (.iconst 4, 1) := by decide +kernel
theorem dX5_count_73 : decode cX5_count 73 = .ok (.isub, 1) := by decide +kernel
theorem dX5_count_74 : decode cX5_count 74 = .ok (.iaload, 1) := by decide +kernel
theorem dX5_count_75 : decode cX5_count 75 = .ok (.ireturn, 1) := by decide +kernel
theorem dX5_slotError_0 : decode cX5_slotError 0 = .ok (.iload_n 1, 1) := by decide +kernel
theorem dX5_slotError_1 : decode cX5_slotError 1 = .ok (.i2l, 1) := by decide +kernel
theorem dX5_slotError_2 : decode cX5_slotError 2 = .ok (.invokestatic 281, 3) := by decide +kernel
theorem dX5_slotError_5 : decode cX5_slotError 5 = .ok (.ifCond .ne 5, 3) := by decide +kernel
theorem dX5_slotError_8 : decode cX5_slotError 8 = .ok (.iconst (-1), 1) := by decide +kernel
theorem dX5_slotError_9 : decode cX5_slotError 9 = .ok (.ireturn, 1) := by decide +kernel
theorem dX5_slotError_10 : decode cX5_slotError 10 = .ok (.aload_n 0, 1) := by decide +kernel
theorem dX5_slotError_11 : decode cX5_slotError 11 = .ok (.getfield 11, 3) := by decide +kernel
theorem dX5_slotError_14 : decode cX5_slotError 14 = .ok (.iload_n 1, 1) := by decide +kernel
theorem dX5_slotError_15 : decode cX5_slotError 15 = .ok (.aaload, 1) := by decide +kernel
theorem dX5_slotError_16 : decode cX5_slotError 16 = .ok (.invokevirtual 123, 3) := by decide +kernel
theorem dX5_slotError_19 : decode cX5_slotError 19 = .ok (.ifCond .eq 8, 3) := by decide +kernel
theorem dX5_slotError_22 : decode cX5_slotError 22 = .ok (.bipush (-5), 2) := by decide +kernel
theorem dX5_slotError_24 : decode cX5_slotError 24 = .ok (.goto 4, 3) := by decide +kernel
theorem dX5_slotError_27 : decode cX5_slotError 27 = .ok (.iconst 0, 1) := by decide +kernel
theorem dX5_slotError_28 : decode cX5_slotError 28 = .ok (.ireturn, 1) := by decide +kernel
theorem dX5_arrayError_0 : decode cX5_arrayError 0 = .ok (.aload_n 0, 1) := by decide +kernel
theorem dX5_arrayError_1 : decode cX5_arrayError 1 = .ok (.iload_n 1, 1) := by decide +kernel
theorem dX5_arrayError_2 : decode cX5_arrayError 2 = .ok (.invokevirtual 94, 3) := by decide +kernel
theorem dX5_arrayError_5 : decode cX5_arrayError 5 = .ok (.istore_n 2, 1) := by decide +kernel
theorem dX5_arrayError_6 : decode cX5_arrayError 6 = .ok (.iload_n 2, 1) := by decide +kernel
theorem dX5_arrayError_7 : decode cX5_arrayError 7 = .ok (.ifCond .eq 5, 3) := by decide +kernel
theorem dX5_arrayError_10 : decode cX5_arrayError 10 = .ok (.iload_n 2, 1) := by decide +kernel
theorem dX5_arrayError_11 : decode cX5_arrayError 11 = .ok (.ireturn, 1) := by decide +kernel
theorem dX5_arrayError_12 : decode cX5_arrayError 12 = .ok (.aload_n 0, 1) := by decide +kernel
theorem dX5_arrayError_13 : decode cX5_arrayError 13 = .ok (.getfield 11, 3) := by decide +kernel
theorem dX5_arrayError_16 : decode cX5_arrayError 16 = .ok (.iload_n 1, 1) := by decide +kernel
theorem dX5_arrayError_17 : decode cX5_arrayError 17 = .ok (.aaload, 1) := by decide +kernel
theorem dX5_arrayError_18 : decode cX5_arrayError 18 = .ok (.invokevirtual 251, 3) := by decide +kernel
theorem dX5_arrayError_21 : decode cX5_arrayError 21 = .ok (.ifCond .eq 7, 3) := by decide +kernel
theorem dX5_arrayError_24 : decode cX5_arrayError 24 = .ok (.iconst 0, 1) := by decide +kernel
theorem dX5_arrayError_25 : decode cX5_arrayError 25 = .ok (.goto 5, 3) := by decide +kernel
theorem dX5_arrayError_28 : decode cX5_arrayError 28 = .ok (.bipush (-6), 2) := by decide +kernel
theorem dX5_arrayError_30 : decode cX5_arrayError 30 = .ok (.ireturn, 1) := by decide +kernel
theorem dX5_primitiveError_0 : decode cX5_primitiveError 0 = .ok (.aload_n 0, 1) := by decide +kernel
theorem dX5_primitiveError_1 : decode cX5_primitiveError 1 = .ok (.iload_n 1, 1) := by decide +kernel
theorem dX5_primitiveError_2 : decode cX5_primitiveError 2 = .ok (.invokevirtual 101, 3) := by decide +kernel
theorem dX5_primitiveError_5 : decode cX5_primitiveError 5 = .ok (.istore_n 2, 1) := by decide +kernel
theorem dX5_primitiveError_6 : decode cX5_primitiveError 6 = .ok (.iload_n 2, 1) := by decide +kernel
theorem dX5_primitiveError_7 : decode cX5_primitiveError 7 = .ok (.ifCond .eq 5, 3) := by decide +kernel
theorem dX5_primitiveError_10 : decode cX5_primitiveError 10 = .ok (.iload_n 2, 1) := by decide +kernel
theorem dX5_primitiveError_11 : decode cX5_primitiveError 11 = .ok (.ireturn, 1) := by decide +kernel
theorem dX5_primitiveError_12 : decode cX5_primitiveError 12 = .ok (.aload_n 0, 1) := by decide +kernel
theorem dX5_primitiveError_13 : decode cX5_primitiveError 13 = .ok (.getfield 11, 3) := by decide +kernel
theorem dX5_primitiveError_16 : decode cX5_primitiveError 16 = .ok (.iload_n 1, 1) := by decide +kernel
theorem dX5_primitiveError_17 : decode cX5_primitiveError 17 = .ok (.aaload, 1) := by decide +kernel
theorem dX5_primitiveError_18 : decode cX5_primitiveError 18 = .ok (.invokevirtual 284, 3) := by decide +kernel
theorem dX5_primitiveError_21 : decode cX5_primitiveError 21 = .ok (.ifCond .eq 7, 3) := by decide +kernel
theorem dX5_primitiveError_24 : decode cX5_primitiveError 24 = .ok (.iconst 0, 1) := by decide +kernel
theorem dX5_primitiveError_25 : decode cX5_primitiveError 25 = .ok (.goto 5, 3) := by decide +kernel
theorem dX5_primitiveError_28 : decode cX5_primitiveError 28 = .ok (.bipush (-7), 2) := by decide +kernel
theorem dX5_primitiveError_30 : decode cX5_primitiveError 30 = .ok (.ireturn, 1) := by decide +kernel
theorem dX5_placeError_0 : decode cX5_placeError 0 = .ok (.aload_n 0, 1) := by decide +kernel
theorem dX5_placeError_1 : decode cX5_placeError 1 = .ok (.iload_n 1, 1) := by decide +kernel
theorem dX5_placeError_2 : decode cX5_placeError 2 = .ok (.invokevirtual 101, 3) := by decide +kernel
theorem dX5_placeError_5 : decode cX5_placeError 5 = .ok (.istore_n 3, 1) := by decide +kernel
theorem dX5_placeError_6 : decode cX5_placeError 6 = .ok (.iload_n 3, 1) := by decide +kernel
theorem dX5_placeError_7 : decode cX5_placeError 7 = .ok (.ifCond .eq 5, 3) := by decide +kernel
theorem dX5_placeError_10 : decode cX5_placeError 10 = .ok (.iload_n 3, 1) := by decide +kernel
theorem dX5_placeError_11 : decode cX5_placeError 11 = .ok (.ireturn, 1) := by decide +kernel
theorem dX5_placeError_12 : decode cX5_placeError 12 = .ok (.aload_n 0, 1) := by decide +kernel
theorem dX5_placeError_13 : decode cX5_placeError 13 = .ok (.getfield 11, 3) := by decide +kernel
theorem dX5_placeError_16 : decode cX5_placeError 16 = .ok (.iload_n 1, 1) := by decide +kernel
theorem dX5_placeError_17 : decode cX5_placeError 17 = .ok (.aaload, 1) := by decide +kernel
theorem dX5_placeError_18 : decode cX5_placeError 18 = .ok (.iload_n 2, 1) := by decide +kernel
theorem dX5_placeError_19 : decode cX5_placeError 19 = .ok (.invokevirtual 287, 3) := by decide +kernel
theorem dX5_placeError_22 : decode cX5_placeError 22 = .ok (.ifCond .eq 7, 3) := by decide +kernel
theorem dX5_placeError_25 : decode cX5_placeError 25 = .ok (.iconst 0, 1) := by decide +kernel
theorem dX5_placeError_26 : decode cX5_placeError 26 = .ok (.goto 5, 3) := by decide +kernel
theorem dX5_placeError_29 : decode cX5_placeError 29 = .ok (.bipush (-8), 2) := by decide +kernel
theorem dX5_placeError_31 : decode cX5_placeError 31 = .ok (.ireturn, 1) := by decide +kernel
theorem dX5_slotPairError_0 : decode cX5_slotPairError 0 = .ok (.aload_n 0, 1) := by decide +kernel
theorem dX5_slotPairError_1 : decode cX5_slotPairError 1 = .ok (.iload_n 1, 1) := by decide +kernel
theorem dX5_slotPairError_2 : decode cX5_slotPairError 2 = .ok (.invokevirtual 94, 3) := by decide +kernel
theorem dX5_slotPairError_5 : decode cX5_slotPairError 5 = .ok (.aload_n 0, 1) := by decide +kernel
theorem dX5_slotPairError_6 : decode cX5_slotPairError 6 = .ok (.iload_n 2, 1) := by decide +kernel
theorem dX5_slotPairError_7 : decode cX5_slotPairError 7 = .ok (.invokevirtual 94, 3) := by decide +kernel
theorem dX5_slotPairError_10 : decode cX5_slotPairError 10 = .ok (.invokestatic 290, 3) := by decide +kernel
theorem dX5_slotPairError_13 : decode cX5_slotPairError 13 = .ok (.ireturn, 1) := by decide +kernel
theorem dX5_arrayPairError_0 : decode cX5_arrayPairError 0 = .ok (.aload_n 0, 1) := by decide +kernel
theorem dX5_arrayPairError_1 : decode cX5_arrayPairError 1 = .ok (.iload_n 1, 1) := by decide +kernel
theorem dX5_arrayPairError_2 : decode cX5_arrayPairError 2 = .ok (.invokevirtual 101, 3) := by decide +kernel
theorem dX5_arrayPairError_5 : decode cX5_arrayPairError 5 = .ok (.aload_n 0, 1) := by decide +kernel
theorem dX5_arrayPairError_6 : decode cX5_arrayPairError 6 = .ok (.iload_n 2, 1) := by decide +kernel
theorem dX5_arrayPairError_7 : decode cX5_arrayPairError 7 = .ok (.invokevirtual 101, 3) := by decide +kernel
theorem dX5_arrayPairError_10 : decode cX5_arrayPairError 10 = .ok (.invokestatic 290, 3) := by decide +kernel
theorem dX5_arrayPairError_13 : decode cX5_arrayPairError 13 = .ok (.ireturn, 1) := by decide +kernel
theorem dX5_firstError_0 : decode cX5_firstError 0 = .ok (.iload_n 0, 1) := by decide +kernel
theorem dX5_firstError_1 : decode cX5_firstError 1 = .ok (.ifCond .ne 5, 3) := by decide +kernel
theorem dX5_firstError_4 : decode cX5_firstError 4 = .ok (.iload_n 1, 1) := by decide +kernel
theorem dX5_firstError_5 : decode cX5_firstError 5 = .ok (.ireturn, 1) := by decide +kernel
theorem dX5_firstError_6 : decode cX5_firstError 6 = .ok (.iload_n 1, 1) := by decide +kernel
theorem dX5_firstError_7 : decode cX5_firstError 7 = .ok (.ifCond .ne 7, 3) := by decide +kernel
theorem dX5_firstError_10 : decode cX5_firstError 10 = .ok (.iload_n 0, 1) := by decide +kernel
theorem dX5_firstError_11 : decode cX5_firstError 11 = .ok (.goto 8, 3) := by decide +kernel
theorem dX5_firstError_14 : decode cX5_firstError 14 = .ok (.iload_n 0, 1) := by decide +kernel
theorem dX5_firstError_15 : decode cX5_firstError 15 = .ok (.iload_n 1, 1) := by decide +kernel
theorem dX5_firstError_16 : decode cX5_firstError 16 = .ok (.invokestatic 293, 3) := by decide +kernel
theorem dX5_firstError_19 : decode cX5_firstError 19 = .ok (.ireturn, 1) := by decide +kernel
theorem dX5_getError_0 : decode cX5_getError 0 = .ok (.iload_n 2, 1) := by decide +kernel
theorem dX5_getError_1 : decode cX5_getError 1 = .ok (.invokestatic 296, 3) := by decide +kernel
theorem dX5_getError_4 : decode cX5_getError 4 = .ok (.ifCond .ne 5, 3) := by decide +kernel
theorem dX5_getError_7 : decode cX5_getError 7 = .ok (.iconst (-1), 1) := by decide +kernel
theorem dX5_getError_8 : decode cX5_getError 8 = .ok (.ireturn, 1) := by decide +kernel
theorem dX5_getError_9 : decode cX5_getError 9 = .ok (.aload_n 0, 1) := by decide +kernel
theorem dX5_getError_10 : decode cX5_getError 10 = .ok (.iload_n 1, 1) := by decide +kernel
theorem dX5_getError_11 : decode cX5_getError 11 = .ok (.invokevirtual 201, 3) := by decide +kernel
theorem dX5_getError_14 : decode cX5_getError 14 = .ok (.istore 4, 2) := by decide +kernel
theorem dX5_getError_16 : decode cX5_getError 16 = .ok (.iload 4, 2) := by decide +kernel
theorem dX5_getError_18 : decode cX5_getError 18 = .ok (.ifCond .ne 11, 3) := by decide +kernel
theorem dX5_getError_21 : decode cX5_getError 21 = .ok (.aload_n 0, 1) := by decide +kernel
theorem dX5_getError_22 : decode cX5_getError 22 = .ok (.iload_n 1, 1) := by decide +kernel
theorem dX5_getError_23 : decode cX5_getError 23 = .ok (.iload_n 3, 1) := by decide +kernel
theorem dX5_getError_24 : decode cX5_getError 24 = .ok (.invokevirtual 164, 3) := by decide +kernel
theorem dX5_getError_27 : decode cX5_getError 27 = .ok (.istore 4, 2) := by decide +kernel
theorem dX5_getError_29 : decode cX5_getError 29 = .ok (.iload 4, 2) := by decide +kernel
theorem dX5_getError_31 : decode cX5_getError 31 = .ok (.ifCond .eq 6, 3) := by decide +kernel
theorem dX5_getError_34 : decode cX5_getError 34 = .ok (.iload 4, 2) := by decide +kernel
theorem dX5_getError_36 : decode cX5_getError 36 = .ok (.ireturn, 1) := by decide +kernel
theorem dX5_getError_37 : decode cX5_getError 37 = .ok (.aload_n 0, 1) := by decide +kernel
theorem dX5_getError_38 : decode cX5_getError 38 = .ok (.getfield 11, 3) := by decide +kernel
theorem dX5_getError_41 : decode cX5_getError 41 = .ok (.iload_n 1, 1) := by decide +kernel
theorem dX5_getError_42 : decode cX5_getError 42 = .ok (.aaload, 1) := by decide +kernel
theorem dX5_getError_43 : decode cX5_getError 43 = .ok (.getfield 98, 3) := by decide +kernel
theorem dX5_getError_46 : decode cX5_getError 46 = .ok (.iload_n 2, 1) := by decide +kernel
theorem dX5_getError_47 : decode cX5_getError 47 = .ok (.invokestatic 167, 3) := by decide +kernel
theorem dX5_getError_50 : decode cX5_getError 50 = .ok (.ifCond .eq 7, 3) := by decide +kernel
theorem dX5_getError_53 : decode cX5_getError 53 = .ok (.iconst 0, 1) := by decide +kernel
theorem dX5_getError_54 : decode cX5_getError 54 = .ok (.goto 5, 3) := by decide +kernel
theorem dX5_getError_57 : decode cX5_getError 57 = .ok (.bipush (-9), 2) := by decide +kernel
theorem dX5_getError_59 : decode cX5_getError 59 = .ok (.ireturn, 1) := by decide +kernel
theorem dX5_setError_0 : decode cX5_setError 0 = .ok (.iload_n 2, 1) := by decide +kernel
theorem dX5_setError_1 : decode cX5_setError 1 = .ok (.invokestatic 296, 3) := by decide +kernel
theorem dX5_setError_4 : decode cX5_setError 4 = .ok (.ifCond .eq 12, 3) := by decide +kernel
theorem dX5_setError_7 : decode cX5_setError 7 = .ok (.iload_n 2, 1) := by decide +kernel
theorem dX5_setError_8 : decode cX5_setError 8 = .ok (.lload 4, 2) := by decide +kernel
theorem dX5_setError_10 : decode cX5_setError 10 = .ok (.invokestatic 299, 3) := by decide +kernel
theorem dX5_setError_13 : decode cX5_setError 13 = .ok (.ifCond .ne 5, 3) := by decide +kernel
theorem dX5_setError_16 : decode cX5_setError 16 = .ok (.iconst (-1), 1) := by decide +kernel
theorem dX5_setError_17 : decode cX5_setError 17 = .ok (.ireturn, 1) := by decide +kernel
theorem dX5_setError_18 : decode cX5_setError 18 = .ok (.aload_n 0, 1) := by decide +kernel
theorem dX5_setError_19 : decode cX5_setError 19 = .ok (.iload_n 1, 1) := by decide +kernel
theorem dX5_setError_20 : decode cX5_setError 20 = .ok (.invokevirtual 201, 3) := by decide +kernel
theorem dX5_setError_23 : decode cX5_setError 23 = .ok (.istore 6, 2) := by decide +kernel
theorem dX5_setError_25 : decode cX5_setError 25 = .ok (.iload 6, 2) := by decide +kernel
theorem dX5_setError_27 : decode cX5_setError 27 = .ok (.ifCond .ne 11, 3) := by decide +kernel
theorem dX5_setError_30 : decode cX5_setError 30 = .ok (.aload_n 0, 1) := by decide +kernel
theorem dX5_setError_31 : decode cX5_setError 31 = .ok (.iload_n 1, 1) := by decide +kernel
theorem dX5_setError_32 : decode cX5_setError 32 = .ok (.iload_n 3, 1) := by decide +kernel
theorem dX5_setError_33 : decode cX5_setError 33 = .ok (.invokevirtual 164, 3) := by decide +kernel
theorem dX5_setError_36 : decode cX5_setError 36 = .ok (.istore 6, 2) := by decide +kernel
theorem dX5_setError_38 : decode cX5_setError 38 = .ok (.iload 6, 2) := by decide +kernel
theorem dX5_setError_40 : decode cX5_setError 40 = .ok (.ifCond .eq 6, 3) := by decide +kernel
theorem dX5_setError_43 : decode cX5_setError 43 = .ok (.iload 6, 2) := by decide +kernel
theorem dX5_setError_45 : decode cX5_setError 45 = .ok (.ireturn, 1) := by decide +kernel
theorem dX5_setError_46 : decode cX5_setError 46 = .ok (.iload_n 2, 1) := by decide +kernel
theorem dX5_setError_47 : decode cX5_setError 47 = .ok (.aload_n 0, 1) := by decide +kernel
theorem dX5_setError_48 : decode cX5_setError 48 = .ok (.getfield 11, 3) := by decide +kernel
theorem dX5_setError_51 : decode cX5_setError 51 = .ok (.iload_n 1, 1) := by decide +kernel
theorem dX5_setError_52 : decode cX5_setError 52 = .ok (.aaload, 1) := by decide +kernel
theorem dX5_setError_53 : decode cX5_setError 53 = .ok (.getfield 98, 3) := by decide +kernel
theorem dX5_setError_56 : decode cX5_setError 56 = .ok (.invokestatic 167, 3) := by decide +kernel
theorem dX5_setError_59 : decode cX5_setError 59 = .ok (.ifCond .eq 7, 3) := by decide +kernel
theorem dX5_setError_62 : decode cX5_setError 62 = .ok (.iconst 0, 1) := by decide +kernel
theorem dX5_setError_63 : decode cX5_setError 63 = .ok (.goto 5, 3) := by decide +kernel
theorem dX5_setError_66 : decode cX5_setError 66 = .ok (.bipush (-9), 2) := by decide +kernel
theorem dX5_setError_68 : decode cX5_setError 68 = .ok (.ireturn, 1) := by decide +kernel
theorem dX5_putError_0 : decode cX5_putError 0 = .ok (.iload_n 3, 1) := by decide +kernel
theorem dX5_putError_1 : decode cX5_putError 1 = .ok (.ifCond .lt 19, 3) := by decide +kernel
theorem dX5_putError_4 : decode cX5_putError 4 = .ok (.iload_n 3, 1) := by decide +kernel
theorem dX5_putError_5 : decode cX5_putError 5 = .ok (.bipush 11, 2) := by decide +kernel
theorem dX5_putError_7 : decode cX5_putError 7 = .ok (.if_icmp .gt 13, 3) := by decide +kernel
theorem dX5_putError_10 : decode cX5_putError 10 = .ok (.aload_n 0, 1) := by decide +kernel
theorem dX5_putError_11 : decode cX5_putError 11 = .ok (.iload_n 3, 1) := by decide +kernel
theorem dX5_putError_12 : decode cX5_putError 12 = .ok (.lload 4, 2) := by decide +kernel
theorem dX5_putError_14 : decode cX5_putError 14 = .ok (.invokevirtual 302, 3) := by decide +kernel
theorem dX5_putError_17 : decode cX5_putError 17 = .ok (.ifCond .ne 5, 3) := by decide +kernel
theorem dX5_putError_20 : decode cX5_putError 20 = .ok (.iconst (-1), 1) := by decide +kernel
theorem dX5_putError_21 : decode cX5_putError 21 = .ok (.ireturn, 1) := by decide +kernel
theorem dX5_putError_22 : decode cX5_putError 22 = .ok (.aload_n 0, 1) := by decide +kernel
theorem dX5_putError_23 : decode cX5_putError 23 = .ok (.iload_n 1, 1) := by decide +kernel
theorem dX5_putError_24 : decode cX5_putError 24 = .ok (.iload_n 2, 1) := by decide +kernel
theorem dX5_putError_25 : decode cX5_putError 25 = .ok (.invokevirtual 164, 3) := by decide +kernel
theorem dX5_putError_28 : decode cX5_putError 28 = .ok (.istore 6, 2) := by decide +kernel
theorem dX5_putError_30 : decode cX5_putError 30 = .ok (.iload 6, 2) := by decide +kernel
theorem dX5_putError_32 : decode cX5_putError 32 = .ok (.ifCond .eq 6, 3) := by decide +kernel
theorem dX5_putError_35 : decode cX5_putError 35 = .ok (.iload 6, 2) := by decide +kernel
theorem dX5_putError_37 : decode cX5_putError 37 = .ok (.ireturn, 1) := by decide +kernel
theorem dX5_putError_38 : decode cX5_putError 38 = .ok (.aload_n 0, 1) := by decide +kernel
theorem dX5_putError_39 : decode cX5_putError 39 = .ok (.aload_n 0, 1) := by decide +kernel
theorem dX5_putError_40 : decode cX5_putError 40 = .ok (.getfield 11, 3) := by decide +kernel
theorem dX5_putError_43 : decode cX5_putError 43 = .ok (.iload_n 1, 1) := by decide +kernel
theorem dX5_putError_44 : decode cX5_putError 44 = .ok (.aaload, 1) := by decide +kernel
theorem dX5_putError_45 : decode cX5_putError 45 = .ok (.getfield 98, 3) := by decide +kernel
theorem dX5_putError_48 : decode cX5_putError 48 = .ok (.iload_n 3, 1) := by decide +kernel
theorem dX5_putError_49 : decode cX5_putError 49 = .ok (.lload 4, 2) := by decide +kernel
theorem dX5_putError_51 : decode cX5_putError 51 = .ok (.invokevirtual 305, 3) := by decide +kernel
theorem dX5_putError_54 : decode cX5_putError 54 = .ok (.ifCond .eq 7, 3) := by decide +kernel
theorem dX5_putError_57 : decode cX5_putError 57 = .ok (.iconst 0, 1) := by decide +kernel
theorem dX5_putError_58 : decode cX5_putError 58 = .ok (.goto 5, 3) := by decide +kernel
theorem dX5_putError_61 : decode cX5_putError 61 = .ok (.bipush (-9), 2) := by decide +kernel
theorem dX5_putError_63 : decode cX5_putError 63 = .ok (.ireturn, 1) := by decide +kernel
theorem dX5_carryError_0 : decode cX5_carryError 0 = .ok (.aload_n 1, 1) := by decide +kernel
theorem dX5_carryError_1 : decode cX5_carryError 1 = .ok (.iload_n 2, 1) := by decide +kernel
theorem dX5_carryError_2 : decode cX5_carryError 2 = .ok (.invokevirtual 287, 3) := by decide +kernel
theorem dX5_carryError_5 : decode cX5_carryError 5 = .ok (.ifCond .eq 12, 3) := by decide +kernel
theorem dX5_carryError_8 : decode cX5_carryError 8 = .ok (.aload_n 3, 1) := by decide +kernel
theorem dX5_carryError_9 : decode cX5_carryError 9 = .ok (.iload 4, 2) := by decide +kernel
theorem dX5_carryError_11 : decode cX5_carryError 11 = .ok (.invokevirtual 287, 3) := by decide +kernel
theorem dX5_carryError_14 : decode cX5_carryError 14 = .ok (.ifCond .ne 6, 3) := by decide +kernel
theorem dX5_carryError_17 : decode cX5_carryError 17 = .ok (.bipush (-8), 2) := by decide +kernel
theorem dX5_carryError_19 : decode cX5_carryError 19 = .ok (.ireturn, 1) := by decide +kernel
theorem dX5_carryError_20 : decode cX5_carryError 20 = .ok (.aload_n 0, 1) := by decide +kernel
theorem dX5_carryError_21 : decode cX5_carryError 21 = .ok (.aload_n 3, 1) := by decide +kernel
theorem dX5_carryError_22 : decode cX5_carryError 22 = .ok (.getfield 98, 3) := by decide +kernel
theorem dX5_carryError_25 : decode cX5_carryError 25 = .ok (.aload_n 1, 1) := by decide +kernel
theorem dX5_carryError_26 : decode cX5_carryError 26 = .ok (.getfield 170, 3) := by decide +kernel
theorem dX5_carryError_29 : decode cX5_carryError 29 = .ok (.iload_n 2, 1) := by decide +kernel
theorem dX5_carryError_30 : decode cX5_carryError 30 = .ok (.iaload, 1) := by decide +kernel
theorem dX5_carryError_31 : decode cX5_carryError 31 = .ok (.aload_n 1, 1) := by decide +kernel
theorem dX5_carryError_32 : decode cX5_carryError 32 = .ok (.getfield 142, 3) := by decide +kernel
theorem dX5_carryError_35 : decode cX5_carryError 35 = .ok (.iload_n 2, 1) := by decide +kernel
theorem dX5_carryError_36 : decode cX5_carryError 36 = .ok (.laload, 1) := by decide +kernel
theorem dX5_carryError_37 : decode cX5_carryError 37 = .ok (.invokevirtual 305, 3) := by decide +kernel
theorem dX5_carryError_40 : decode cX5_carryError 40 = .ok (.ifCond .eq 7, 3) := by decide +kernel
theorem dX5_carryError_43 : decode cX5_carryError 43 = .ok (.iconst 0, 1) := by decide +kernel
theorem dX5_carryError_44 : decode cX5_carryError 44 = .ok (.goto 5, 3) := by decide +kernel
theorem dX5_carryError_47 : decode cX5_carryError 47 = .ok (.bipush (-9), 2) := by decide +kernel
theorem dX5_carryError_49 : decode cX5_carryError 49 = .ok (.ireturn, 1) := by decide +kernel
theorem dX5_shapeError_0 : decode cX5_shapeError 0 = .ok (.aload_n 0, 1) := by decide +kernel
theorem dX5_shapeError_1 : decode cX5_shapeError 1 = .ok (.iload_n 1, 1) := by decide +kernel
theorem dX5_shapeError_2 : decode cX5_shapeError 2 = .ok (.iload_n 2, 1) := by decide +kernel
theorem dX5_shapeError_3 : decode cX5_shapeError 3 = .ok (.invokevirtual 179, 3) := by decide +kernel
theorem dX5_shapeError_6 : decode cX5_shapeError 6 = .ok (.istore_n 3, 1) := by decide +kernel
theorem dX5_shapeError_7 : decode cX5_shapeError 7 = .ok (.iload_n 3, 1) := by decide +kernel
theorem dX5_shapeError_8 : decode cX5_shapeError 8 = .ok (.ifCond .eq 5, 3) := by decide +kernel
theorem dX5_shapeError_11 : decode cX5_shapeError 11 = .ok (.iload_n 3, 1) := by decide +kernel
theorem dX5_shapeError_12 : decode cX5_shapeError 12 = .ok (.ireturn, 1) := by decide +kernel
theorem dX5_shapeError_13 : decode cX5_shapeError 13 = .ok (.aload_n 0, 1) := by decide +kernel
theorem dX5_shapeError_14 : decode cX5_shapeError 14 = .ok (.getfield 11, 3) := by decide +kernel
theorem dX5_shapeError_17 : decode cX5_shapeError 17 = .ok (.iload_n 1, 1) := by decide +kernel
theorem dX5_shapeError_18 : decode cX5_shapeError 18 = .ok (.aaload, 1) := by decide +kernel
theorem dX5_shapeError_19 : decode cX5_shapeError 19 = .ok (.getfield 98, 3) := by decide +kernel
theorem dX5_shapeError_22 : decode cX5_shapeError 22 = .ok (.bipush 9, 2) := by decide +kernel
theorem dX5_shapeError_24 : decode cX5_shapeError 24 = .ok (.if_icmp .eq 6, 3) := by decide +kernel
theorem dX5_shapeError_27 : decode cX5_shapeError 27 = .ok (.bipush (-2), 2) := by decide +kernel
theorem dX5_shapeError_29 : decode cX5_shapeError 29 = .ok (.ireturn, 1) := by decide +kernel
theorem dX5_shapeError_30 : decode cX5_shapeError 30 = .ok (.aload_n 0, 1) := by decide +kernel
theorem dX5_shapeError_31 : decode cX5_shapeError 31 = .ok (.getfield 11, 3) := by decide +kernel
theorem dX5_shapeError_34 : decode cX5_shapeError 34 = .ok (.iload_n 2, 1) := by decide +kernel
theorem dX5_shapeError_35 : decode cX5_shapeError 35 = .ok (.aaload, 1) := by decide +kernel
theorem dX5_shapeError_36 : decode cX5_shapeError 36 = .ok (.invokevirtual 284, 3) := by decide +kernel
theorem dX5_shapeError_39 : decode cX5_shapeError 39 = .ok (.ifCond .eq 7, 3) := by decide +kernel
theorem dX5_shapeError_42 : decode cX5_shapeError 42 = .ok (.iconst 0, 1) := by decide +kernel
theorem dX5_shapeError_43 : decode cX5_shapeError 43 = .ok (.goto 5, 3) := by decide +kernel
theorem dX5_shapeError_46 : decode cX5_shapeError 46 = .ok (.bipush (-7), 2) := by decide +kernel
theorem dX5_shapeError_48 : decode cX5_shapeError 48 = .ok (.ireturn, 1) := by decide +kernel
theorem dX5_report_0 : decode cX5_report 0 = .ok (.aload_n 0, 1) := by decide +kernel
theorem dX5_report_1 : decode cX5_report 1 = .ok (.iload_n 1, 1) := by decide +kernel
theorem dX5_report_2 : decode cX5_report 2 = .ok (.putfield 71, 3) := by decide +kernel
theorem dX5_report_5 : decode cX5_report 5 = .ok (.aload_n 0, 1) := by decide +kernel
theorem dX5_report_6 : decode cX5_report 6 = .ok (.iload_n 2, 1) := by decide +kernel
theorem dX5_report_7 : decode cX5_report 7 = .ok (.putfield 74, 3) := by decide +kernel
theorem dX5_report_10 : decode cX5_report 10 = .ok (.iload_n 1, 1) := by decide +kernel
theorem dX5_report_11 : decode cX5_report 11 = .ok (.ireturn, 1) := by decide +kernel
theorem dX5_tally_0 : decode cX5_tally 0 = .ok (.iload_n 1, 1) := by decide +kernel
theorem dX5_tally_1 : decode cX5_tally 1 = .ok (.bipush (-5), 2) := by decide +kernel
theorem dX5_tally_3 : decode cX5_tally 3 = .ok (.if_icmp .gt 22, 3) := by decide +kernel
theorem dX5_tally_6 : decode cX5_tally 6 = .ok (.iload_n 1, 1) := by decide +kernel
theorem dX5_tally_7 : decode cX5_tally 7 = .ok (.bipush (-9), 2) := by decide +kernel
theorem dX5_tally_9 : decode cX5_tally 9 = .ok (.if_icmp .lt 16, 3) := by decide +kernel
theorem dX5_tally_12 : decode cX5_tally 12 = .ok (.aload_n 0, 1) := by decide +kernel
theorem dX5_tally_13 : decode cX5_tally 13 = .ok (.getfield 61, 3) := by decide +kernel
theorem dX5_tally_16 : decode cX5_tally 16 = .ok (.bipush (-5), 2) := by decide +kernel
theorem dX5_tally_18 : decode cX5_tally 18 = .ok (.iload_n 1, 1) := by decide +kernel
theorem dX5_tally_19 : decode cX5_tally 19 = .ok (.isub, 1) := by decide +kernel
theorem dX5_tally_20 : decode cX5_tally 20 = .ok (.dup2, 1) := by decide +kernel
theorem dX5_tally_21 : decode cX5_tally 21 = .ok (.iaload, 1) := by decide +kernel
theorem dX5_tally_22 : decode cX5_tally 22 = .ok (.iconst 1, 1) := by decide +kernel
theorem dX5_tally_23 : decode cX5_tally 23 = .ok (.iadd, 1) := by decide +kernel
theorem dX5_tally_24 : decode cX5_tally 24 = .ok (.iastore, 1) := by decide +kernel
theorem dX5_tally_25 : decode cX5_tally 25 = .ok (.return_, 1) := by decide +kernel
theorem dX5_lowestEmpty_0 : decode cX5_lowestEmpty 0 = .ok (.iconst 0, 1) := by decide +kernel
theorem dX5_lowestEmpty_1 : decode cX5_lowestEmpty 1 = .ok (.istore_n 1, 1) := by decide +kernel
theorem dX5_lowestEmpty_2 : decode cX5_lowestEmpty 2 = .ok (.iload_n 1, 1) := by decide +kernel
theorem dX5_lowestEmpty_3 : decode cX5_lowestEmpty 3 = .ok (.bipush 12, 2) := by decide +kernel
theorem dX5_lowestEmpty_5 : decode cX5_lowestEmpty 5 = .ok (.if_icmp .ge 23, 3) := by decide +kernel
theorem dX5_lowestEmpty_8 : decode cX5_lowestEmpty 8 = .ok (.aload_n 0, 1) := by decide +kernel
theorem dX5_lowestEmpty_9 : decode cX5_lowestEmpty 9 = .ok (.getfield 11, 3) := by decide +kernel
theorem dX5_lowestEmpty_12 : decode cX5_lowestEmpty 12 = .ok (.iload_n 1, 1) := by decide +kernel
theorem dX5_lowestEmpty_13 : decode cX5_lowestEmpty 13 = .ok (.aaload, 1) := by decide +kernel
theorem dX5_lowestEmpty_14 : decode cX5_lowestEmpty 14 = .ok (.invokevirtual 123, 3) := by decide +kernel
theorem dX5_lowestEmpty_17 : decode cX5_lowestEmpty 17 = .ok (.ifCond .eq 5, 3) := by decide +kernel
theorem dX5_lowestEmpty_20 : decode cX5_lowestEmpty 20 = .ok (.iload_n 1, 1) := by decide +kernel
theorem dX5_lowestEmpty_21 : decode cX5_lowestEmpty 21 = .ok (.ireturn, 1) := by decide +kernel
theorem dX5_lowestEmpty_22 : decode cX5_lowestEmpty 22 = .ok (.iinc 1 1, 3) := by decide +kernel
theorem dX5_lowestEmpty_25 : decode cX5_lowestEmpty 25 = .ok (.goto (-23), 3) := by decide +kernel
theorem dX5_lowestEmpty_28 : decode cX5_lowestEmpty 28 = .ok (.iconst (-1), 1) := by decide +kernel
theorem dX5_lowestEmpty_29 : decode cX5_lowestEmpty 29 = .ok (.ireturn, 1) := by decide +kernel
theorem dX5_filledSlots_0 : decode cX5_filledSlots 0 = .ok (.iconst 0, 1) := by decide +kernel
theorem dX5_filledSlots_1 : decode cX5_filledSlots 1 = .ok (.istore_n 1, 1) := by decide +kernel
theorem dX5_filledSlots_2 : decode cX5_filledSlots 2 = .ok (.iconst 0, 1) := by decide +kernel
theorem dX5_filledSlots_3 : decode cX5_filledSlots 3 = .ok (.istore_n 2, 1) := by decide +kernel
theorem dX5_filledSlots_4 : decode cX5_filledSlots 4 = .ok (.iload_n 2, 1) := by decide +kernel
theorem dX5_filledSlots_5 : decode cX5_filledSlots 5 = .ok (.bipush 12, 2) := by decide +kernel
theorem dX5_filledSlots_7 : decode cX5_filledSlots 7 = .ok (.if_icmp .ge 24, 3) := by decide +kernel
theorem dX5_filledSlots_10 : decode cX5_filledSlots 10 = .ok (.aload_n 0, 1) := by decide +kernel
theorem dX5_filledSlots_11 : decode cX5_filledSlots 11 = .ok (.getfield 11, 3) := by decide +kernel
theorem dX5_filledSlots_14 : decode cX5_filledSlots 14 = .ok (.iload_n 2, 1) := by decide +kernel
theorem dX5_filledSlots_15 : decode cX5_filledSlots 15 = .ok (.aaload, 1) := by decide +kernel
theorem dX5_filledSlots_16 : decode cX5_filledSlots 16 = .ok (.invokevirtual 123, 3) := by decide +kernel
theorem dX5_filledSlots_19 : decode cX5_filledSlots 19 = .ok (.ifCond .ne 6, 3) := by decide +kernel
theorem dX5_filledSlots_22 : decode cX5_filledSlots 22 = .ok (.iinc 1 1, 3) := by decide +kernel
theorem dX5_filledSlots_25 : decode cX5_filledSlots 25 = .ok (.iinc 2 1, 3) := by decide +kernel
theorem dX5_filledSlots_28 : decode cX5_filledSlots 28 = .ok (.goto (-24), 3) := by decide +kernel
theorem dX5_filledSlots_31 : decode cX5_filledSlots 31 = .ok (.iload_n 1, 1) := by decide +kernel
theorem dX5_filledSlots_32 : decode cX5_filledSlots 32 = .ok (.ireturn, 1) := by decide +kernel
theorem dX5_isContents_0 : decode cX5_isContents 0 = .ok (.iload_n 0, 1) := by decide +kernel
theorem dX5_isContents_1 : decode cX5_isContents 1 = .ok (.bipush 15, 2) := by decide +kernel
theorem dX5_isContents_3 : decode cX5_isContents 3 = .ok (.if_icmp .ne 8, 3) := by decide +kernel
theorem dX5_isContents_6 : decode cX5_isContents 6 = .ok (.lload_n 1, 1) := by decide +kernel
theorem dX5_isContents_7 : decode cX5_isContents 7 = .ok (.invokestatic 273, 3) := by decide +kernel
theorem dX5_isContents_10 : decode cX5_isContents 10 = .ok (.ireturn, 1) := by decide +kernel
theorem dX5_isContents_11 : decode cX5_isContents 11 = .ok (.lload_n 1, 1) := by decide +kernel
theorem dX5_isContents_12 : decode cX5_isContents 12 = .ok (.lconst 0, 1) := by decide +kernel
theorem dX5_isContents_13 : decode cX5_isContents 13 = .ok (.lcmp, 1) := by decide +kernel
theorem dX5_isContents_14 : decode cX5_isContents 14 = .ok (.ifCond .lt 25, 3) := by decide +kernel
theorem dX5_isContents_17 : decode cX5_isContents 17 = .ok (.lload_n 1, 1) := by decide +kernel
theorem dX5_isContents_18 : decode cX5_isContents 18 = .ok (.iload_n 0, 1) := by decide +kernel
theorem dX5_isContents_19 : decode cX5_isContents 19 = .ok (.bipush 14, 2) := by decide +kernel
theorem dX5_isContents_21 : decode cX5_isContents 21 = .ok (.if_icmp .ne 7, 3) := by decide +kernel
theorem dX5_isContents_24 : decode cX5_isContents 24 = .ok (.iconst 5, 1) := by decide +kernel
theorem dX5_isContents_25 : decode cX5_isContents 25 = .ok (.goto 5, 3) := by decide +kernel
theorem dX5_isContents_28 : decode cX5_isContents 28 = .ok (.bipush 12, 2) := by decide +kernel
theorem dX5_isContents_30 : decode cX5_isContents 30 = .ok (.i2l, 1) := by decide +kernel
theorem dX5_isContents_31 : decode cX5_isContents 31 = .ok (.lcmp, 1) := by decide +kernel
theorem dX5_isContents_32 : decode cX5_isContents 32 = .ok (.ifCond .gt 7, 3) := by decide +kernel
theorem dX5_isContents_35 : decode cX5_isContents 35 = .ok (.iconst 1, 1) := by decide +kernel
theorem dX5_isContents_36 : decode cX5_isContents 36 = .ok (.goto 4, 3) := by decide +kernel
theorem dX5_isContents_39 : decode cX5_isContents 39 = .ok (.iconst 0, 1) := by decide +kernel
theorem dX5_isContents_40 : decode cX5_isContents 40 = .ok (.ireturn, 1) := by decide +kernel
theorem dX5_isSlot_0 : decode cX5_isSlot 0 = .ok (.lload_n 0, 1) := by decide +kernel
theorem dX5_isSlot_1 : decode cX5_isSlot 1 = .ok (.lconst 0, 1) := by decide +kernel
theorem dX5_isSlot_2 : decode cX5_isSlot 2 = .ok (.lcmp, 1) := by decide +kernel
theorem dX5_isSlot_3 : decode cX5_isSlot 3 = .ok (.ifCond .lt 15, 3) := by decide +kernel
theorem dX5_isSlot_6 : decode cX5_isSlot 6 = .ok (.lload_n 0, 1) := by decide +kernel
theorem dX5_isSlot_7 : decode cX5_isSlot 7 = .ok (.ldc2_w 309, 3) := by decide +kernel
theorem dX5_isSlot_10 : decode cX5_isSlot 10 = .ok (.lcmp, 1) := by decide +kernel
theorem dX5_isSlot_11 : decode cX5_isSlot 11 = .ok (.ifCond .ge 7, 3) := by decide +kernel
theorem dX5_isSlot_14 : decode cX5_isSlot 14 = .ok (.iconst 1, 1) := by decide +kernel
theorem dX5_isSlot_15 : decode cX5_isSlot 15 = .ok (.goto 4, 3) := by decide +kernel
theorem dX5_isSlot_18 : decode cX5_isSlot 18 = .ok (.iconst 0, 1) := by decide +kernel
theorem dX5_isSlot_19 : decode cX5_isSlot 19 = .ok (.ireturn, 1) := by decide +kernel
theorem dX5_isMode_0 : decode cX5_isMode 0 = .ok (.iload_n 0, 1) := by decide +kernel
theorem dX5_isMode_1 : decode cX5_isMode 1 = .ok (.ifCond .lt 12, 3) := by decide +kernel
theorem dX5_isMode_4 : decode cX5_isMode 4 = .ok (.iload_n 0, 1) := by decide +kernel
theorem dX5_isMode_5 : decode cX5_isMode 5 = .ok (.iconst 2, 1) := by decide +kernel
theorem dX5_isMode_6 : decode cX5_isMode 6 = .ok (.if_icmp .gt 7, 3) := by decide +kernel
theorem dX5_isMode_9 : decode cX5_isMode 9 = .ok (.iconst 1, 1) := by decide +kernel
theorem dX5_isMode_10 : decode cX5_isMode 10 = .ok (.goto 4, 3) := by decide +kernel
theorem dX5_isMode_13 : decode cX5_isMode 13 = .ok (.iconst 0, 1) := by decide +kernel
theorem dX5_isMode_14 : decode cX5_isMode 14 = .ok (.ireturn, 1) := by decide +kernel
theorem dX5_isWord_0 : decode cX5_isWord 0 = .ok (.lload_n 0, 1) := by decide +kernel
theorem dX5_isWord_1 : decode cX5_isWord 1 = .ok (.lconst 1, 1) := by decide +kernel
theorem dX5_isWord_2 : decode cX5_isWord 2 = .ok (.lcmp, 1) := by decide +kernel
theorem dX5_isWord_3 : decode cX5_isWord 3 = .ok (.ifCond .lt 11, 3) := by decide +kernel
theorem dX5_isWord_6 : decode cX5_isWord 6 = .ok (.lload_n 0, 1) := by decide +kernel
theorem dX5_isWord_7 : decode cX5_isWord 7 = .ok (.ldc2_w 311, 3) := by decide +kernel
theorem dX5_isWord_10 : decode cX5_isWord 10 = .ok (.lcmp, 1) := by decide +kernel
theorem dX5_isWord_11 : decode cX5_isWord 11 = .ok (.ifCond .le 5, 3) := by decide +kernel
theorem dX5_isWord_14 : decode cX5_isWord 14 = .ok (.iconst 0, 1) := by decide +kernel
theorem dX5_isWord_15 : decode cX5_isWord 15 = .ok (.ireturn, 1) := by decide +kernel
theorem dX5_isWord_16 : decode cX5_isWord 16 = .ok (.lload_n 0, 1) := by decide +kernel
theorem dX5_isWord_17 : decode cX5_isWord 17 = .ok (.lstore_n 2, 1) := by decide +kernel
theorem dX5_isWord_18 : decode cX5_isWord 18 = .ok (.iconst 0, 1) := by decide +kernel
theorem dX5_isWord_19 : decode cX5_isWord 19 = .ok (.istore 4, 2) := by decide +kernel
theorem dX5_isWord_21 : decode cX5_isWord 21 = .ok (.iload 4, 2) := by decide +kernel
theorem dX5_isWord_23 : decode cX5_isWord 23 = .ok (.bipush 7, 2) := by decide +kernel
theorem dX5_isWord_25 : decode cX5_isWord 25 = .ok (.if_icmp .ge 33, 3) := by decide +kernel
theorem dX5_isWord_28 : decode cX5_isWord 28 = .ok (.lload_n 2, 1) := by decide +kernel
theorem dX5_isWord_29 : decode cX5_isWord 29 = .ok (.lconst 0, 1) := by decide +kernel
theorem dX5_isWord_30 : decode cX5_isWord 30 = .ok (.lcmp, 1) := by decide +kernel
theorem dX5_isWord_31 : decode cX5_isWord 31 = .ok (.ifCond .le 27, 3) := by decide +kernel
theorem dX5_isWord_34 : decode cX5_isWord 34 = .ok (.lload_n 2, 1) := by decide +kernel
theorem dX5_isWord_35 : decode cX5_isWord 35 = .ok (.ldc2_w 313, 3) := by decide +kernel
theorem dX5_isWord_38 : decode cX5_isWord 38 = .ok (.lrem, 1) := by decide +kernel
theorem dX5_isWord_39 : decode cX5_isWord 39 = .ok (.lconst 0, 1) := by decide +kernel
theorem dX5_isWord_40 : decode cX5_isWord 40 = .ok (.lcmp, 1) := by decide +kernel
theorem dX5_isWord_41 : decode cX5_isWord 41 = .ok (.ifCond .ne 5, 3) := by decide +kernel
theorem dX5_isWord_44 : decode cX5_isWord 44 = .ok (.iconst 0, 1) := by decide +kernel
theorem dX5_isWord_45 : decode cX5_isWord 45 = .ok (.ireturn, 1) := by decide +kernel
theorem dX5_isWord_46 : decode cX5_isWord 46 = .ok (.lload_n 2, 1) := by decide +kernel
theorem dX5_isWord_47 : decode cX5_isWord 47 = .ok (.ldc2_w 313, 3) := by decide +kernel
theorem dX5_isWord_50 : decode cX5_isWord 50 = .ok (.ldiv, 1) := by decide +kernel
theorem dX5_isWord_51 : decode cX5_isWord 51 = .ok (.lstore_n 2, 1) := by decide +kernel
theorem dX5_isWord_52 : decode cX5_isWord 52 = .ok (.iinc 4 1, 3) := by decide +kernel
theorem dX5_isWord_55 : decode cX5_isWord 55 = .ok (.goto (-34), 3) := by decide +kernel
theorem dX5_isWord_58 : decode cX5_isWord 58 = .ok (.iconst 1, 1) := by decide +kernel
theorem dX5_isWord_59 : decode cX5_isWord 59 = .ok (.ireturn, 1) := by decide +kernel
theorem dX5_kindNamed_0 : decode cX5_kindNamed 0 = .ok (.iconst 0, 1) := by decide +kernel
theorem dX5_kindNamed_1 : decode cX5_kindNamed 1 = .ok (.istore_n 2, 1) := by decide +kernel
theorem dX5_kindNamed_2 : decode cX5_kindNamed 2 = .ok (.iload_n 2, 1) := by decide +kernel
theorem dX5_kindNamed_3 : decode cX5_kindNamed 3 = .ok (.getstatic 270, 3) := by decide +kernel
theorem dX5_kindNamed_6 : decode cX5_kindNamed 6 = .ok (.arraylength, 1) := by decide +kernel
theorem dX5_kindNamed_7 : decode cX5_kindNamed 7 = .ok (.if_icmp .ge 21, 3) := by decide +kernel
theorem dX5_kindNamed_10 : decode cX5_kindNamed 10 = .ok (.getstatic 270, 3) := by decide +kernel
theorem dX5_kindNamed_13 : decode cX5_kindNamed 13 = .ok (.iload_n 2, 1) := by decide +kernel
theorem dX5_kindNamed_14 : decode cX5_kindNamed 14 = .ok (.laload, 1) := by decide +kernel
theorem dX5_kindNamed_15 : decode cX5_kindNamed 15 = .ok (.lload_n 0, 1) := by decide +kernel
theorem dX5_kindNamed_16 : decode cX5_kindNamed 16 = .ok (.lcmp, 1) := by decide +kernel
theorem dX5_kindNamed_17 : decode cX5_kindNamed 17 = .ok (.ifCond .ne 5, 3) := by decide +kernel
theorem dX5_kindNamed_20 : decode cX5_kindNamed 20 = .ok (.iload_n 2, 1) := by decide +kernel
theorem dX5_kindNamed_21 : decode cX5_kindNamed 21 = .ok (.ireturn, 1) := by decide +kernel
theorem dX5_kindNamed_22 : decode cX5_kindNamed 22 = .ok (.iinc 2 1, 3) := by decide +kernel
theorem dX5_kindNamed_25 : decode cX5_kindNamed 25 = .ok (.goto (-23), 3) := by decide +kernel
theorem dX5_kindNamed_28 : decode cX5_kindNamed 28 = .ok (.bipush (-4), 2) := by decide +kernel
theorem dX5_kindNamed_30 : decode cX5_kindNamed 30 = .ok (.ireturn, 1) := by decide +kernel
theorem dX5_kindInSchema_0 : decode cX5_kindInSchema 0 = .ok (.aload_n 0, 1) := by decide +kernel
theorem dX5_kindInSchema_1 : decode cX5_kindInSchema 1 = .ok (.getfield 170, 3) := by decide +kernel
theorem dX5_kindInSchema_4 : decode cX5_kindInSchema 4 = .ok (.iload_n 1, 1) := by decide +kernel
theorem dX5_kindInSchema_5 : decode cX5_kindInSchema 5 = .ok (.iaload, 1) := by decide +kernel
theorem dX5_kindInSchema_6 : decode cX5_kindInSchema 6 = .ok (.bipush 8, 2) := by decide +kernel
theorem dX5_kindInSchema_8 : decode cX5_kindInSchema 8 = .ok (.if_icmp .ne 15, 3) := by decide +kernel
theorem dX5_kindInSchema_11 : decode cX5_kindInSchema 11 = .ok (.aload_n 0, 1) := by decide +kernel
theorem dX5_kindInSchema_12 : decode cX5_kindInSchema 12 = .ok (.getfield 142, 3) := by decide +kernel
theorem dX5_kindInSchema_15 : decode cX5_kindInSchema 15 = .ok (.iload_n 1, 1) := by decide +kernel
theorem dX5_kindInSchema_16 : decode cX5_kindInSchema 16 = .ok (.laload, 1) := by decide +kernel
theorem dX5_kindInSchema_17 : decode cX5_kindInSchema 17 = .ok (.invokestatic 277, 3) := by decide +kernel
theorem dX5_kindInSchema_20 : decode cX5_kindInSchema 20 = .ok (.goto 5, 3) := by decide +kernel
theorem dX5_kindInSchema_23 : decode cX5_kindInSchema 23 = .ok (.bipush (-4), 2) := by decide +kernel
theorem dX5_kindInSchema_25 : decode cX5_kindInSchema 25 = .ok (.ireturn, 1) := by decide +kernel
theorem dX5_isValue_0 : decode cX5_isValue 0 = .ok (.iload_n 1, 1) := by decide +kernel
theorem dX5_isValue_1 : decode cX5_isValue 1 = .ok (.tableswitch 94 8 11 #[31, 36, 56, 82], 31) := by decide +kernel
theorem dX5_isValue_32 : decode cX5_isValue 32 = .ok (.lload_n 2, 1) := by decide +kernel
theorem dX5_isValue_33 : decode cX5_isValue 33 = .ok (.invokestatic 273, 3) := by decide +kernel
theorem dX5_isValue_36 : decode cX5_isValue 36 = .ok (.ireturn, 1) := by decide +kernel
theorem dX5_isValue_37 : decode cX5_isValue 37 = .ok (.lload_n 2, 1) := by decide +kernel
theorem dX5_isValue_38 : decode cX5_isValue 38 = .ok (.lconst 0, 1) := by decide +kernel
theorem dX5_isValue_39 : decode cX5_isValue 39 = .ok (.lcmp, 1) := by decide +kernel
theorem dX5_isValue_40 : decode cX5_isValue 40 = .ok (.ifCond .lt 15, 3) := by decide +kernel
theorem dX5_isValue_43 : decode cX5_isValue 43 = .ok (.lload_n 2, 1) := by decide +kernel
theorem dX5_isValue_44 : decode cX5_isValue 44 = .ok (.ldc2_w 315, 3) := by decide +kernel
theorem dX5_isValue_47 : decode cX5_isValue 47 = .ok (.lcmp, 1) := by decide +kernel
theorem dX5_isValue_48 : decode cX5_isValue 48 = .ok (.ifCond .ge 7, 3) := by decide +kernel
theorem dX5_isValue_51 : decode cX5_isValue 51 = .ok (.iconst 1, 1) := by decide +kernel
theorem dX5_isValue_52 : decode cX5_isValue 52 = .ok (.goto 4, 3) := by decide +kernel
theorem dX5_isValue_55 : decode cX5_isValue 55 = .ok (.iconst 0, 1) := by decide +kernel
theorem dX5_isValue_56 : decode cX5_isValue 56 = .ok (.ireturn, 1) := by decide +kernel
theorem dX5_isValue_57 : decode cX5_isValue 57 = .ok (.lload_n 2, 1) := by decide +kernel
theorem dX5_isValue_58 : decode cX5_isValue 58 = .ok (.invokestatic 281, 3) := by decide +kernel
theorem dX5_isValue_61 : decode cX5_isValue 61 = .ok (.ifCond .eq 20, 3) := by decide +kernel
theorem dX5_isValue_64 : decode cX5_isValue 64 = .ok (.aload_n 0, 1) := by decide +kernel
theorem dX5_isValue_65 : decode cX5_isValue 65 = .ok (.getfield 11, 3) := by decide +kernel
theorem dX5_isValue_68 : decode cX5_isValue 68 = .ok (.lload_n 2, 1) := by decide +kernel
theorem dX5_isValue_69 : decode cX5_isValue 69 = .ok (.l2i, 1) := by decide +kernel
theorem dX5_isValue_70 : decode cX5_isValue 70 = .ok (.aaload, 1) := by decide +kernel
theorem dX5_isValue_71 : decode cX5_isValue 71 = .ok (.invokevirtual 251, 3) := by decide +kernel
theorem dX5_isValue_74 : decode cX5_isValue 74 = .ok (.ifCond .eq 7, 3) := by decide +kernel
theorem dX5_isValue_77 : decode cX5_isValue 77 = .ok (.iconst 1, 1) := by decide +kernel
theorem dX5_isValue_78 : decode cX5_isValue 78 = .ok (.goto 4, 3) := by decide +kernel
theorem dX5_isValue_81 : decode cX5_isValue 81 = .ok (.iconst 0, 1) := by decide +kernel
theorem dX5_isValue_82 : decode cX5_isValue 82 = .ok (.ireturn, 1) := by decide +kernel
theorem dX5_isValue_83 : decode cX5_isValue 83 = .ok (.lload_n 2, 1) := by decide +kernel
theorem dX5_isValue_84 : decode cX5_isValue 84 = .ok (.lconst 0, 1) := by decide +kernel
theorem dX5_isValue_85 : decode cX5_isValue 85 = .ok (.lcmp, 1) := by decide +kernel
theorem dX5_isValue_86 : decode cX5_isValue 86 = .ok (.ifCond .ne 7, 3) := by decide +kernel
theorem dX5_isValue_89 : decode cX5_isValue 89 = .ok (.iconst 1, 1) := by decide +kernel
theorem dX5_isValue_90 : decode cX5_isValue 90 = .ok (.goto 4, 3) := by decide +kernel
theorem dX5_isValue_93 : decode cX5_isValue 93 = .ok (.iconst 0, 1) := by decide +kernel
theorem dX5_isValue_94 : decode cX5_isValue 94 = .ok (.ireturn, 1) := by decide +kernel
theorem dX5_isValue_95 : decode cX5_isValue 95 = .ok (.iload_n 1, 1) := by decide +kernel
theorem dX5_isValue_96 : decode cX5_isValue 96 = .ok (.lload_n 2, 1) := by decide +kernel
theorem dX5_isValue_97 : decode cX5_isValue 97 = .ok (.invokestatic 299, 3) := by decide +kernel
theorem dX5_isValue_100 : decode cX5_isValue 100 = .ok (.ireturn, 1) := by decide +kernel
theorem dX5_accepts_0 : decode cX5_accepts 0 = .ok (.iload_n 1, 1) := by decide +kernel
theorem dX5_accepts_1 : decode cX5_accepts 1 = .ok (.tableswitch 159 8 13 #[39, 56, 74, 92, 118, 120], 39) := by decide +kernel
theorem dX5_accepts_40 : decode cX5_accepts 40 = .ok (.iload_n 2, 1) := by decide +kernel
theorem dX5_accepts_41 : decode cX5_accepts 41 = .ok (.iconst 4, 1) := by decide +kernel
theorem dX5_accepts_42 : decode cX5_accepts 42 = .ok (.if_icmp .eq 9, 3) := by decide +kernel
theorem dX5_accepts_45 : decode cX5_accepts 45 = .ok (.iload_n 2, 1) := by decide +kernel
theorem dX5_accepts_46 : decode cX5_accepts 46 = .ok (.bipush 11, 2) := by decide +kernel
theorem dX5_accepts_48 : decode cX5_accepts 48 = .ok (.if_icmp .ne 7, 3) := by decide +kernel
theorem dX5_accepts_51 : decode cX5_accepts 51 = .ok (.iconst 1, 1) := by decide +kernel
theorem dX5_accepts_52 : decode cX5_accepts 52 = .ok (.goto 4, 3) := by decide +kernel
theorem dX5_accepts_55 : decode cX5_accepts 55 = .ok (.iconst 0, 1) := by decide +kernel
theorem dX5_accepts_56 : decode cX5_accepts 56 = .ok (.ireturn, 1) := by decide +kernel
theorem dX5_accepts_57 : decode cX5_accepts 57 = .ok (.iload_n 2, 1) := by decide +kernel
theorem dX5_accepts_58 : decode cX5_accepts 58 = .ok (.bipush 8, 2) := by decide +kernel
theorem dX5_accepts_60 : decode cX5_accepts 60 = .ok (.if_icmp .eq 9, 3) := by decide +kernel
theorem dX5_accepts_63 : decode cX5_accepts 63 = .ok (.iload_n 2, 1) := by decide +kernel
theorem dX5_accepts_64 : decode cX5_accepts 64 = .ok (.bipush 11, 2) := by decide +kernel
theorem dX5_accepts_66 : decode cX5_accepts 66 = .ok (.if_icmp .ne 7, 3) := by decide +kernel
theorem dX5_accepts_69 : decode cX5_accepts 69 = .ok (.iconst 1, 1) := by decide +kernel
theorem dX5_accepts_70 : decode cX5_accepts 70 = .ok (.goto 4, 3) := by decide +kernel
theorem dX5_accepts_73 : decode cX5_accepts 73 = .ok (.iconst 0, 1) := by decide +kernel
theorem dX5_accepts_74 : decode cX5_accepts 74 = .ok (.ireturn, 1) := by decide +kernel
theorem dX5_accepts_75 : decode cX5_accepts 75 = .ok (.iload_n 2, 1) := by decide +kernel
theorem dX5_accepts_76 : decode cX5_accepts 76 = .ok (.bipush 9, 2) := by decide +kernel
theorem dX5_accepts_78 : decode cX5_accepts 78 = .ok (.if_icmp .eq 9, 3) := by decide +kernel
theorem dX5_accepts_81 : decode cX5_accepts 81 = .ok (.iload_n 2, 1) := by decide +kernel
theorem dX5_accepts_82 : decode cX5_accepts 82 = .ok (.bipush 11, 2) := by decide +kernel
theorem dX5_accepts_84 : decode cX5_accepts 84 = .ok (.if_icmp .ne 7, 3) := by decide +kernel
theorem dX5_accepts_87 : decode cX5_accepts 87 = .ok (.iconst 1, 1) := by decide +kernel
theorem dX5_accepts_88 : decode cX5_accepts 88 = .ok (.goto 4, 3) := by decide +kernel
theorem dX5_accepts_91 : decode cX5_accepts 91 = .ok (.iconst 0, 1) := by decide +kernel
theorem dX5_accepts_92 : decode cX5_accepts 92 = .ok (.ireturn, 1) := by decide +kernel
theorem dX5_accepts_93 : decode cX5_accepts 93 = .ok (.iload_n 2, 1) := by decide +kernel
theorem dX5_accepts_94 : decode cX5_accepts 94 = .ok (.bipush 9, 2) := by decide +kernel
theorem dX5_accepts_96 : decode cX5_accepts 96 = .ok (.if_icmp .ne 11, 3) := by decide +kernel
theorem dX5_accepts_99 : decode cX5_accepts 99 = .ok (.lload_n 3, 1) := by decide +kernel
theorem dX5_accepts_100 : decode cX5_accepts 100 = .ok (.ldc2_w 317, 3) := by decide +kernel
theorem dX5_accepts_103 : decode cX5_accepts 103 = .ok (.lcmp, 1) := by decide +kernel
theorem dX5_accepts_104 : decode cX5_accepts 104 = .ok (.ifCond .ge 9, 3) := by decide +kernel
theorem dX5_accepts_107 : decode cX5_accepts 107 = .ok (.iload_n 2, 1) := by decide +kernel
theorem dX5_accepts_108 : decode cX5_accepts 108 = .ok (.bipush 11, 2) := by decide +kernel
theorem dX5_accepts_110 : decode cX5_accepts 110 = .ok (.if_icmp .ne 7, 3) := by decide +kernel
theorem dX5_accepts_113 : decode cX5_accepts 113 = .ok (.iconst 1, 1) := by decide +kernel
theorem dX5_accepts_114 : decode cX5_accepts 114 = .ok (.goto 4, 3) := by decide +kernel
theorem dX5_accepts_117 : decode cX5_accepts 117 = .ok (.iconst 0, 1) := by decide +kernel
theorem dX5_accepts_118 : decode cX5_accepts 118 = .ok (.ireturn, 1) := by decide +kernel
theorem dX5_accepts_119 : decode cX5_accepts 119 = .ok (.iconst 1, 1) := by decide +kernel
theorem dX5_accepts_120 : decode cX5_accepts 120 = .ok (.ireturn, 1) := by decide +kernel
theorem dX5_accepts_121 : decode cX5_accepts 121 = .ok (.iload_n 2, 1) := by decide +kernel
theorem dX5_accepts_122 : decode cX5_accepts 122 = .ok (.bipush 10, 2) := by decide +kernel
theorem dX5_accepts_124 : decode cX5_accepts 124 = .ok (.if_icmp .ne 24, 3) := by decide +kernel
theorem dX5_accepts_127 : decode cX5_accepts 127 = .ok (.lload_n 3, 1) := by decide +kernel
theorem dX5_accepts_128 : decode cX5_accepts 128 = .ok (.invokestatic 281, 3) := by decide +kernel
theorem dX5_accepts_131 : decode cX5_accepts 131 = .ok (.ifCond .eq 17, 3) := by decide +kernel
theorem dX5_accepts_134 : decode cX5_accepts 134 = .ok (.aload_n 0, 1) := by decide +kernel
theorem dX5_accepts_135 : decode cX5_accepts 135 = .ok (.getfield 11, 3) := by decide +kernel
theorem dX5_accepts_138 : decode cX5_accepts 138 = .ok (.lload_n 3, 1) := by decide +kernel
theorem dX5_accepts_139 : decode cX5_accepts 139 = .ok (.l2i, 1) := by decide +kernel
theorem dX5_accepts_140 : decode cX5_accepts 140 = .ok (.aaload, 1) := by decide +kernel
theorem dX5_accepts_141 : decode cX5_accepts 141 = .ok (.getfield 98, 3) := by decide +kernel
theorem dX5_accepts_144 : decode cX5_accepts 144 = .ok (.iconst 4, 1) := by decide +kernel
theorem dX5_accepts_145 : decode cX5_accepts 145 = .ok (.if_icmp .eq 9, 3) := by decide +kernel
theorem dX5_accepts_148 : decode cX5_accepts 148 = .ok (.iload_n 2, 1) := by decide +kernel
theorem dX5_accepts_149 : decode cX5_accepts 149 = .ok (.bipush 11, 2) := by decide +kernel
theorem dX5_accepts_151 : decode cX5_accepts 151 = .ok (.if_icmp .ne 7, 3) := by decide +kernel
theorem dX5_accepts_154 : decode cX5_accepts 154 = .ok (.iconst 1, 1) := by decide +kernel
theorem dX5_accepts_155 : decode cX5_accepts 155 = .ok (.goto 4, 3) := by decide +kernel
theorem dX5_accepts_158 : decode cX5_accepts 158 = .ok (.iconst 0, 1) := by decide +kernel
theorem dX5_accepts_159 : decode cX5_accepts 159 = .ok (.ireturn, 1) := by decide +kernel
theorem dX5_accepts_160 : decode cX5_accepts 160 = .ok (.iload_n 2, 1) := by decide +kernel
theorem dX5_accepts_161 : decode cX5_accepts 161 = .ok (.iload_n 1, 1) := by decide +kernel
theorem dX5_accepts_162 : decode cX5_accepts 162 = .ok (.invokestatic 167, 3) := by decide +kernel
theorem dX5_accepts_165 : decode cX5_accepts 165 = .ok (.ireturn, 1) := by decide +kernel
theorem dX5_keepConverted_0 : decode cX5_keepConverted 0 = .ok (.iconst 0, 1) := by decide +kernel
theorem dX5_keepConverted_1 : decode cX5_keepConverted 1 = .ok (.istore_n 3, 1) := by decide +kernel
theorem dX5_keepConverted_2 : decode cX5_keepConverted 2 = .ok (.iload_n 3, 1) := by decide +kernel
theorem dX5_keepConverted_3 : decode cX5_keepConverted 3 = .ok (.aload_n 1, 1) := by decide +kernel
theorem dX5_keepConverted_4 : decode cX5_keepConverted 4 = .ok (.getfield 104, 3) := by decide +kernel
theorem dX5_keepConverted_7 : decode cX5_keepConverted 7 = .ok (.if_icmp .ge 37, 3) := by decide +kernel
theorem dX5_keepConverted_10 : decode cX5_keepConverted 10 = .ok (.aload_n 0, 1) := by decide +kernel
theorem dX5_keepConverted_11 : decode cX5_keepConverted 11 = .ok (.iload_n 2, 1) := by decide +kernel
theorem dX5_keepConverted_12 : decode cX5_keepConverted 12 = .ok (.aload_n 1, 1) := by decide +kernel
theorem dX5_keepConverted_13 : decode cX5_keepConverted 13 = .ok (.getfield 170, 3) := by decide +kernel
theorem dX5_keepConverted_16 : decode cX5_keepConverted 16 = .ok (.iload_n 3, 1) := by decide +kernel
theorem dX5_keepConverted_17 : decode cX5_keepConverted 17 = .ok (.iaload, 1) := by decide +kernel
theorem dX5_keepConverted_18 : decode cX5_keepConverted 18 = .ok (.aload_n 1, 1) := by decide +kernel
theorem dX5_keepConverted_19 : decode cX5_keepConverted 19 = .ok (.getfield 142, 3) := by decide +kernel
theorem dX5_keepConverted_22 : decode cX5_keepConverted 22 = .ok (.iload_n 3, 1) := by decide +kernel
theorem dX5_keepConverted_23 : decode cX5_keepConverted 23 = .ok (.laload, 1) := by decide +kernel
theorem dX5_keepConverted_24 : decode cX5_keepConverted 24 = .ok (.invokevirtual 305, 3) := by decide +kernel
theorem dX5_keepConverted_27 : decode cX5_keepConverted 27 = .ok (.ifCond .ne 11, 3) := by decide +kernel
theorem dX5_keepConverted_30 : decode cX5_keepConverted 30 = .ok (.aload_n 0, 1) := by decide +kernel
theorem dX5_keepConverted_31 : decode cX5_keepConverted 31 = .ok (.bipush (-9), 2) := by decide +kernel
theorem dX5_keepConverted_33 : decode cX5_keepConverted 33 = .ok (.iload_n 3, 1) := by decide +kernel
theorem dX5_keepConverted_34 : decode cX5_keepConverted 34 = .ok (.invokevirtual 138, 3) := by decide +kernel
theorem dX5_keepConverted_37 : decode cX5_keepConverted 37 = .ok (.ireturn, 1) := by decide +kernel
theorem dX5_keepConverted_38 : decode cX5_keepConverted 38 = .ok (.iinc 3 1, 3) := by decide +kernel
theorem dX5_keepConverted_41 : decode cX5_keepConverted 41 = .ok (.goto (-39), 3) := by decide +kernel
theorem dX5_keepConverted_44 : decode cX5_keepConverted 44 = .ok (.aload_n 0, 1) := by decide +kernel
theorem dX5_keepConverted_45 : decode cX5_keepConverted 45 = .ok (.invokevirtual 82, 3) := by decide +kernel
theorem dX5_keepConverted_48 : decode cX5_keepConverted 48 = .ok (.istore_n 3, 1) := by decide +kernel
theorem dX5_keepConverted_49 : decode cX5_keepConverted 49 = .ok (.iload_n 3, 1) := by decide +kernel
theorem dX5_keepConverted_50 : decode cX5_keepConverted 50 = .ok (.ifCond .ge 11, 3) := by decide +kernel
theorem dX5_keepConverted_53 : decode cX5_keepConverted 53 = .ok (.aload_n 0, 1) := by decide +kernel
theorem dX5_keepConverted_54 : decode cX5_keepConverted 54 = .ok (.bipush (-3), 2) := by decide +kernel
theorem dX5_keepConverted_56 : decode cX5_keepConverted 56 = .ok (.iconst (-1), 1) := by decide +kernel
theorem dX5_keepConverted_57 : decode cX5_keepConverted 57 = .ok (.invokevirtual 138, 3) := by decide +kernel
theorem dX5_keepConverted_60 : decode cX5_keepConverted 60 = .ok (.ireturn, 1) := by decide +kernel
theorem dX5_keepConverted_61 : decode cX5_keepConverted 61 = .ok (.aload_n 0, 1) := by decide +kernel
theorem dX5_keepConverted_62 : decode cX5_keepConverted 62 = .ok (.getfield 11, 3) := by decide +kernel
theorem dX5_keepConverted_65 : decode cX5_keepConverted 65 = .ok (.iload_n 3, 1) := by decide +kernel
theorem dX5_keepConverted_66 : decode cX5_keepConverted 66 = .ok (.aaload, 1) := by decide +kernel
theorem dX5_keepConverted_67 : decode cX5_keepConverted 67 = .ok (.iload_n 2, 1) := by decide +kernel
theorem dX5_keepConverted_68 : decode cX5_keepConverted 68 = .ok (.aload_n 1, 1) := by decide +kernel
theorem dX5_keepConverted_69 : decode cX5_keepConverted 69 = .ok (.getfield 104, 3) := by decide +kernel
theorem dX5_keepConverted_72 : decode cX5_keepConverted 72 = .ok (.invokevirtual 90, 3) := by decide +kernel
theorem dX5_keepConverted_75 : decode cX5_keepConverted 75 = .ok (.iconst 0, 1) := by decide +kernel
theorem dX5_keepConverted_76 : decode cX5_keepConverted 76 = .ok (.istore 4, 2) := by decide +kernel
theorem dX5_keepConverted_78 : decode cX5_keepConverted 78 = .ok (.iload 4, 2) := by decide +kernel
theorem dX5_keepConverted_80 : decode cX5_keepConverted 80 = .ok (.aload_n 1, 1) := by decide +kernel
theorem dX5_keepConverted_81 : decode cX5_keepConverted 81 = .ok (.getfield 104, 3) := by decide +kernel
theorem dX5_keepConverted_84 : decode cX5_keepConverted 84 = .ok (.if_icmp .ge 34, 3) := by decide +kernel
theorem dX5_keepConverted_87 : decode cX5_keepConverted 87 = .ok (.aload_n 0, 1) := by decide +kernel
theorem dX5_keepConverted_88 : decode cX5_keepConverted 88 = .ok (.getfield 11, 3) := by decide +kernel
theorem dX5_keepConverted_91 : decode cX5_keepConverted 91 = .ok (.iload_n 3, 1) := by decide +kernel
theorem dX5_keepConverted_92 : decode cX5_keepConverted 92 = .ok (.aaload, 1) := by decide +kernel
theorem dX5_keepConverted_93 : decode cX5_keepConverted 93 = .ok (.iload 4, 2) := by decide +kernel
theorem dX5_keepConverted_95 : decode cX5_keepConverted 95 = .ok (.aload_n 1, 1) := by decide +kernel
theorem dX5_keepConverted_96 : decode cX5_keepConverted 96 = .ok (.getfield 170, 3) := by decide +kernel
theorem dX5_keepConverted_99 : decode cX5_keepConverted 99 = .ok (.iload 4, 2) := by decide +kernel
theorem dX5_keepConverted_101 : decode cX5_keepConverted 101 = .ok (.iaload, 1) := by decide +kernel
theorem dX5_keepConverted_102 : decode cX5_keepConverted 102 = .ok (.aload_n 1, 1) := by decide +kernel
theorem dX5_keepConverted_103 : decode cX5_keepConverted 103 = .ok (.getfield 142, 3) := by decide +kernel
theorem dX5_keepConverted_106 : decode cX5_keepConverted 106 = .ok (.iload 4, 2) := by decide +kernel
theorem dX5_keepConverted_108 : decode cX5_keepConverted 108 = .ok (.laload, 1) := by decide +kernel
theorem dX5_keepConverted_109 : decode cX5_keepConverted 109 = .ok (.invokevirtual 160, 3) := by decide +kernel
theorem dX5_keepConverted_112 : decode cX5_keepConverted 112 = .ok (.iinc 4 1, 3) := by decide +kernel
theorem dX5_keepConverted_115 : decode cX5_keepConverted 115 = .ok (.goto (-37), 3) := by decide +kernel
theorem dX5_keepConverted_118 : decode cX5_keepConverted 118 = .ok (.aload_n 0, 1) := by decide +kernel
theorem dX5_keepConverted_119 : decode cX5_keepConverted 119 = .ok (.iconst 0, 1) := by decide +kernel
theorem dX5_keepConverted_120 : decode cX5_keepConverted 120 = .ok (.iconst (-1), 1) := by decide +kernel
theorem dX5_keepConverted_121 : decode cX5_keepConverted 121 = .ok (.invokevirtual 138, 3) := by decide +kernel
theorem dX5_keepConverted_124 : decode cX5_keepConverted 124 = .ok (.pop, 1) := by decide +kernel
theorem dX5_keepConverted_125 : decode cX5_keepConverted 125 = .ok (.iload_n 3, 1) := by decide +kernel
theorem dX5_keepConverted_126 : decode cX5_keepConverted 126 = .ok (.ireturn, 1) := by decide +kernel
theorem dX5_settle_0 : decode cX5_settle 0 = .ok (.bipush 12, 2) := by decide +kernel
theorem dX5_settle_2 : decode cX5_settle 2 = .ok (.aload_n 0, 1) := by decide +kernel
theorem dX5_settle_3 : decode cX5_settle 3 = .ok (.invokevirtual 117, 3) := by decide +kernel
theorem dX5_settle_6 : decode cX5_settle 6 = .ok (.isub, 1) := by decide +kernel
theorem dX5_settle_7 : decode cX5_settle 7 = .ok (.aload_n 0, 1) := by decide +kernel
theorem dX5_settle_8 : decode cX5_settle 8 = .ok (.getfield 35, 3) := by decide +kernel
theorem dX5_settle_11 : decode cX5_settle 11 = .ok (.getfield 319, 3) := by decide +kernel
theorem dX5_settle_14 : decode cX5_settle 14 = .ok (.if_icmp .ge 6, 3) := by decide +kernel
theorem dX5_settle_17 : decode cX5_settle 17 = .ok (.bipush (-3), 2) := by decide +kernel
theorem dX5_settle_19 : decode cX5_settle 19 = .ok (.ireturn, 1) := by decide +kernel
theorem dX5_settle_20 : decode cX5_settle 20 = .ok (.iconst 0, 1) := by decide +kernel
theorem dX5_settle_21 : decode cX5_settle 21 = .ok (.istore_n 1, 1) := by decide +kernel
theorem dX5_settle_22 : decode cX5_settle 22 = .ok (.iload_n 1, 1) := by decide +kernel
theorem dX5_settle_23 : decode cX5_settle 23 = .ok (.aload_n 0, 1) := by decide +kernel
theorem dX5_settle_24 : decode cX5_settle 24 = .ok (.getfield 35, 3) := by decide +kernel
theorem dX5_settle_27 : decode cX5_settle 27 = .ok (.getfield 319, 3) := by decide +kernel
theorem dX5_settle_30 : decode cX5_settle 30 = .ok (.if_icmp .ge 46, 3) := by decide +kernel
theorem dX5_settle_33 : decode cX5_settle 33 = .ok (.aload_n 0, 1) := by decide +kernel
theorem dX5_settle_34 : decode cX5_settle 34 = .ok (.invokevirtual 82, 3) := by decide +kernel
theorem dX5_settle_37 : decode cX5_settle 37 = .ok (.istore_n 2, 1) := by decide +kernel
theorem dX5_settle_38 : decode cX5_settle 38 = .ok (.iload_n 2, 1) := by decide +kernel
theorem dX5_settle_39 : decode cX5_settle 39 = .ok (.ifCond .ge 6, 3) := by decide +kernel
theorem dX5_settle_42 : decode cX5_settle 42 = .ok (.bipush (-3), 2) := by decide +kernel
theorem dX5_settle_44 : decode cX5_settle 44 = .ok (.ireturn, 1) := by decide +kernel
theorem dX5_settle_45 : decode cX5_settle 45 = .ok (.aload_n 0, 1) := by decide +kernel
theorem dX5_settle_46 : decode cX5_settle 46 = .ok (.getfield 57, 3) := by decide +kernel
theorem dX5_settle_49 : decode cX5_settle 49 = .ok (.iload_n 1, 1) := by decide +kernel
theorem dX5_settle_50 : decode cX5_settle 50 = .ok (.iload_n 2, 1) := by decide +kernel
theorem dX5_settle_51 : decode cX5_settle 51 = .ok (.iastore, 1) := by decide +kernel
theorem dX5_settle_52 : decode cX5_settle 52 = .ok (.aload_n 0, 1) := by decide +kernel
theorem dX5_settle_53 : decode cX5_settle 53 = .ok (.getfield 11, 3) := by decide +kernel
theorem dX5_settle_56 : decode cX5_settle 56 = .ok (.iload_n 2, 1) := by decide +kernel
theorem dX5_settle_57 : decode cX5_settle 57 = .ok (.aaload, 1) := by decide +kernel
theorem dX5_settle_58 : decode cX5_settle 58 = .ok (.aload_n 0, 1) := by decide +kernel
theorem dX5_settle_59 : decode cX5_settle 59 = .ok (.getfield 35, 3) := by decide +kernel
theorem dX5_settle_62 : decode cX5_settle 62 = .ok (.getfield 51, 3) := by decide +kernel
theorem dX5_settle_65 : decode cX5_settle 65 = .ok (.iload_n 1, 1) := by decide +kernel
theorem dX5_settle_66 : decode cX5_settle 66 = .ok (.aaload, 1) := by decide +kernel
theorem dX5_settle_67 : decode cX5_settle 67 = .ok (.invokevirtual 127, 3) := by decide +kernel
theorem dX5_settle_70 : decode cX5_settle 70 = .ok (.iinc 1 1, 3) := by decide +kernel
theorem dX5_settle_73 : decode cX5_settle 73 = .ok (.goto (-51), 3) := by decide +kernel
theorem dX5_settle_76 : decode cX5_settle 76 = .ok (.iconst 0, 1) := by decide +kernel
theorem dX5_settle_77 : decode cX5_settle 77 = .ok (.istore_n 1, 1) := by decide +kernel
theorem dX5_settle_78 : decode cX5_settle 78 = .ok (.iload_n 1, 1) := by decide +kernel
theorem dX5_settle_79 : decode cX5_settle 79 = .ok (.aload_n 0, 1) := by decide +kernel
theorem dX5_settle_80 : decode cX5_settle 80 = .ok (.getfield 35, 3) := by decide +kernel
theorem dX5_settle_83 : decode cX5_settle 83 = .ok (.getfield 319, 3) := by decide +kernel
theorem dX5_settle_86 : decode cX5_settle 86 = .ok (.if_icmp .ge 27, 3) := by decide +kernel
theorem dX5_settle_89 : decode cX5_settle 89 = .ok (.aload_n 0, 1) := by decide +kernel
theorem dX5_settle_90 : decode cX5_settle 90 = .ok (.getfield 11, 3) := by decide +kernel
theorem dX5_settle_93 : decode cX5_settle 93 = .ok (.aload_n 0, 1) := by decide +kernel
theorem dX5_settle_94 : decode cX5_settle 94 = .ok (.getfield 57, 3) := by decide +kernel
theorem dX5_settle_97 : decode cX5_settle 97 = .ok (.iload_n 1, 1) := by decide +kernel
theorem dX5_settle_98 : decode cX5_settle 98 = .ok (.iaload, 1) := by decide +kernel
theorem dX5_settle_99 : decode cX5_settle 99 = .ok (.aaload, 1) := by decide +kernel
theorem dX5_settle_100 : decode cX5_settle 100 = .ok (.aload_n 0, 1) := by decide +kernel
theorem dX5_settle_101 : decode cX5_settle 101 = .ok (.getfield 57, 3) := by decide +kernel
theorem dX5_settle_104 : decode cX5_settle 104 = .ok (.invokevirtual 322, 3) := by decide +kernel
theorem dX5_settle_107 : decode cX5_settle 107 = .ok (.iinc 1 1, 3) := by decide +kernel
theorem dX5_settle_110 : decode cX5_settle 110 = .ok (.goto (-32), 3) := by decide +kernel
theorem dX5_settle_113 : decode cX5_settle 113 = .ok (.aload_n 0, 1) := by decide +kernel
theorem dX5_settle_114 : decode cX5_settle 114 = .ok (.getfield 57, 3) := by decide +kernel
theorem dX5_settle_117 : decode cX5_settle 117 = .ok (.iconst 0, 1) := by decide +kernel
theorem dX5_settle_118 : decode cX5_settle 118 = .ok (.iaload, 1) := by decide +kernel
theorem dX5_settle_119 : decode cX5_settle 119 = .ok (.ireturn, 1) := by decide +kernel
theorem dX5_wholeSum_0 : decode cX5_wholeSum 0 = .ok (.lconst 0, 1) := by decide +kernel
theorem dX5_wholeSum_1 : decode cX5_wholeSum 1 = .ok (.lstore_n 2, 1) := by decide +kernel
theorem dX5_wholeSum_2 : decode cX5_wholeSum 2 = .ok (.iconst 0, 1) := by decide +kernel
theorem dX5_wholeSum_3 : decode cX5_wholeSum 3 = .ok (.istore 4, 2) := by decide +kernel
theorem dX5_wholeSum_5 : decode cX5_wholeSum 5 = .ok (.iload 4, 2) := by decide +kernel
theorem dX5_wholeSum_7 : decode cX5_wholeSum 7 = .ok (.aload_n 0, 1) := by decide +kernel
theorem dX5_wholeSum_8 : decode cX5_wholeSum 8 = .ok (.getfield 104, 3) := by decide +kernel
theorem dX5_wholeSum_11 : decode cX5_wholeSum 11 = .ok (.if_icmp .ge 19, 3) := by decide +kernel
theorem dX5_wholeSum_14 : decode cX5_wholeSum 14 = .ok (.lload_n 2, 1) := by decide +kernel
theorem dX5_wholeSum_15 : decode cX5_wholeSum 15 = .ok (.aload_n 0, 1) := by decide +kernel
theorem dX5_wholeSum_16 : decode cX5_wholeSum 16 = .ok (.getfield 142, 3) := by decide +kernel
theorem dX5_wholeSum_19 : decode cX5_wholeSum 19 = .ok (.iload 4, 2) := by decide +kernel
theorem dX5_wholeSum_21 : decode cX5_wholeSum 21 = .ok (.laload, 1) := by decide +kernel
theorem dX5_wholeSum_22 : decode cX5_wholeSum 22 = .ok (.ladd, 1) := by decide +kernel
theorem dX5_wholeSum_23 : decode cX5_wholeSum 23 = .ok (.lstore_n 2, 1) := by decide +kernel
theorem dX5_wholeSum_24 : decode cX5_wholeSum 24 = .ok (.iinc 4 1, 3) := by decide +kernel
theorem dX5_wholeSum_27 : decode cX5_wholeSum 27 = .ok (.goto (-22), 3) := by decide +kernel
theorem dX5_wholeSum_30 : decode cX5_wholeSum 30 = .ok (.iload_n 1, 1) := by decide +kernel
theorem dX5_wholeSum_31 : decode cX5_wholeSum 31 = .ok (.iconst 4, 1) := by decide +kernel
theorem dX5_wholeSum_32 : decode cX5_wholeSum 32 = .ok (.if_icmp .ne 9, 3) := by decide +kernel
theorem dX5_wholeSum_35 : decode cX5_wholeSum 35 = .ok (.lload_n 2, 1) := by decide +kernel
theorem dX5_wholeSum_36 : decode cX5_wholeSum 36 = .ok (.l2i, 1) := by decide +kernel
theorem dX5_wholeSum_37 : decode cX5_wholeSum 37 = .ok (.i2l, 1) := by decide +kernel
theorem dX5_wholeSum_38 : decode cX5_wholeSum 38 = .ok (.goto 4, 3) := by decide +kernel
theorem dX5_wholeSum_41 : decode cX5_wholeSum 41 = .ok (.lload_n 2, 1) := by decide +kernel
theorem dX5_wholeSum_42 : decode cX5_wholeSum 42 = .ok (.lreturn, 1) := by decide +kernel
theorem dX5_floatSum_0 : decode cX5_floatSum 0 = .ok (.fconst 0, 1) := by decide +kernel
theorem dX5_floatSum_1 : decode cX5_floatSum 1 = .ok (.fstore_n 1, 1) := by decide +kernel
theorem dX5_floatSum_2 : decode cX5_floatSum 2 = .ok (.iconst 0, 1) := by decide +kernel
theorem dX5_floatSum_3 : decode cX5_floatSum 3 = .ok (.istore_n 2, 1) := by decide +kernel
theorem dX5_floatSum_4 : decode cX5_floatSum 4 = .ok (.iload_n 2, 1) := by decide +kernel
theorem dX5_floatSum_5 : decode cX5_floatSum 5 = .ok (.aload_n 0, 1) := by decide +kernel
theorem dX5_floatSum_6 : decode cX5_floatSum 6 = .ok (.getfield 104, 3) := by decide +kernel
theorem dX5_floatSum_9 : decode cX5_floatSum 9 = .ok (.if_icmp .ge 33, 3) := by decide +kernel
theorem dX5_floatSum_12 : decode cX5_floatSum 12 = .ok (.fload_n 1, 1) := by decide +kernel
theorem dX5_floatSum_13 : decode cX5_floatSum 13 = .ok (.bipush 6, 2) := by decide +kernel
theorem dX5_floatSum_15 : decode cX5_floatSum 15 = .ok (.aload_n 0, 1) := by decide +kernel
theorem dX5_floatSum_16 : decode cX5_floatSum 16 = .ok (.getfield 98, 3) := by decide +kernel
theorem dX5_floatSum_19 : decode cX5_floatSum 19 = .ok (.bipush 6, 2) := by decide +kernel
theorem dX5_floatSum_21 : decode cX5_floatSum 21 = .ok (.aload_n 0, 1) := by decide +kernel
theorem dX5_floatSum_22 : decode cX5_floatSum 22 = .ok (.getfield 142, 3) := by decide +kernel
theorem dX5_floatSum_25 : decode cX5_floatSum 25 = .ok (.iload_n 2, 1) := by decide +kernel
theorem dX5_floatSum_26 : decode cX5_floatSum 26 = .ok (.laload, 1) := by decide +kernel
theorem dX5_floatSum_27 : decode cX5_floatSum 27 = .ok (.invokestatic 146, 3) := by decide +kernel
theorem dX5_floatSum_30 : decode cX5_floatSum 30 = .ok (.invokestatic 326, 3) := by decide +kernel
theorem dX5_floatSum_33 : decode cX5_floatSum 33 = .ok (.d2f, 1) := by decide +kernel
theorem dX5_floatSum_34 : decode cX5_floatSum 34 = .ok (.fadd, 1) := by decide +kernel
theorem dX5_floatSum_35 : decode cX5_floatSum 35 = .ok (.fstore_n 1, 1) := by decide +kernel
theorem dX5_floatSum_36 : decode cX5_floatSum 36 = .ok (.iinc 2 1, 3) := by decide +kernel
theorem dX5_floatSum_39 : decode cX5_floatSum 39 = .ok (.goto (-35), 3) := by decide +kernel
theorem dX5_floatSum_42 : decode cX5_floatSum 42 = .ok (.bipush 6, 2) := by decide +kernel
theorem dX5_floatSum_44 : decode cX5_floatSum 44 = .ok (.fload_n 1, 1) := by decide +kernel
theorem dX5_floatSum_45 : decode cX5_floatSum 45 = .ok (.f2d, 1) := by decide +kernel
theorem dX5_floatSum_46 : decode cX5_floatSum 46 = .ok (.invokestatic 330, 3) := by decide +kernel
theorem dX5_floatSum_49 : decode cX5_floatSum 49 = .ok (.lreturn, 1) := by decide +kernel
theorem dX5_doubleSum_0 : decode cX5_doubleSum 0 = .ok (.dconst 0, 1) := by decide +kernel
theorem dX5_doubleSum_1 : decode cX5_doubleSum 1 = .ok (.dstore_n 1, 1) := by decide +kernel
theorem dX5_doubleSum_2 : decode cX5_doubleSum 2 = .ok (.iconst 0, 1) := by decide +kernel
theorem dX5_doubleSum_3 : decode cX5_doubleSum 3 = .ok (.istore_n 3, 1) := by decide +kernel
theorem dX5_doubleSum_4 : decode cX5_doubleSum 4 = .ok (.iload_n 3, 1) := by decide +kernel
theorem dX5_doubleSum_5 : decode cX5_doubleSum 5 = .ok (.aload_n 0, 1) := by decide +kernel
theorem dX5_doubleSum_6 : decode cX5_doubleSum 6 = .ok (.getfield 104, 3) := by decide +kernel
theorem dX5_doubleSum_9 : decode cX5_doubleSum 9 = .ok (.if_icmp .ge 32, 3) := by decide +kernel
theorem dX5_doubleSum_12 : decode cX5_doubleSum 12 = .ok (.dload_n 1, 1) := by decide +kernel
theorem dX5_doubleSum_13 : decode cX5_doubleSum 13 = .ok (.bipush 7, 2) := by decide +kernel
theorem dX5_doubleSum_15 : decode cX5_doubleSum 15 = .ok (.aload_n 0, 1) := by decide +kernel
theorem dX5_doubleSum_16 : decode cX5_doubleSum 16 = .ok (.getfield 98, 3) := by decide +kernel
theorem dX5_doubleSum_19 : decode cX5_doubleSum 19 = .ok (.bipush 7, 2) := by decide +kernel
theorem dX5_doubleSum_21 : decode cX5_doubleSum 21 = .ok (.aload_n 0, 1) := by decide +kernel
theorem dX5_doubleSum_22 : decode cX5_doubleSum 22 = .ok (.getfield 142, 3) := by decide +kernel
theorem dX5_doubleSum_25 : decode cX5_doubleSum 25 = .ok (.iload_n 3, 1) := by decide +kernel
theorem dX5_doubleSum_26 : decode cX5_doubleSum 26 = .ok (.laload, 1) := by decide +kernel
theorem dX5_doubleSum_27 : decode cX5_doubleSum 27 = .ok (.invokestatic 146, 3) := by decide +kernel
theorem dX5_doubleSum_30 : decode cX5_doubleSum 30 = .ok (.invokestatic 326, 3) := by decide +kernel
theorem dX5_doubleSum_33 : decode cX5_doubleSum 33 = .ok (.dadd, 1) := by decide +kernel
theorem dX5_doubleSum_34 : decode cX5_doubleSum 34 = .ok (.dstore_n 1, 1) := by decide +kernel
theorem dX5_doubleSum_35 : decode cX5_doubleSum 35 = .ok (.iinc 3 1, 3) := by decide +kernel
theorem dX5_doubleSum_38 : decode cX5_doubleSum 38 = .ok (.goto (-34), 3) := by decide +kernel
theorem dX5_doubleSum_41 : decode cX5_doubleSum 41 = .ok (.bipush 7, 2) := by decide +kernel
theorem dX5_doubleSum_43 : decode cX5_doubleSum 43 = .ok (.dload_n 1, 1) := by decide +kernel
theorem dX5_doubleSum_44 : decode cX5_doubleSum 44 = .ok (.invokestatic 330, 3) := by decide +kernel
theorem dX5_doubleSum_47 : decode cX5_doubleSum 47 = .ok (.lreturn, 1) := by decide +kernel
theorem dX5_has_0 : decode cX5_has 0 = .ok (.iload_n 0, 1) := by decide +kernel
theorem dX5_has_1 : decode cX5_has 1 = .ok (.iload_n 1, 1) := by decide +kernel
theorem dX5_has_2 : decode cX5_has 2 = .ok (.ishr, 1) := by decide +kernel
theorem dX5_has_3 : decode cX5_has 3 = .ok (.iconst 1, 1) := by decide +kernel
theorem dX5_has_4 : decode cX5_has 4 = .ok (.iand, 1) := by decide +kernel
theorem dX5_has_5 : decode cX5_has 5 = .ok (.iconst 1, 1) := by decide +kernel
theorem dX5_has_6 : decode cX5_has 6 = .ok (.if_icmp .ne 7, 3) := by decide +kernel
theorem dX5_has_9 : decode cX5_has 9 = .ok (.iconst 1, 1) := by decide +kernel
theorem dX5_has_10 : decode cX5_has 10 = .ok (.goto 4, 3) := by decide +kernel
theorem dX5_has_13 : decode cX5_has 13 = .ok (.iconst 0, 1) := by decide +kernel
theorem dX5_has_14 : decode cX5_has 14 = .ok (.ireturn, 1) := by decide +kernel
theorem dX5_linksOf_0 : decode cX5_linksOf 0 = .ok (.aload_n 0, 1) := by decide +kernel
theorem dX5_linksOf_1 : decode cX5_linksOf 1 = .ok (.getfield 11, 3) := by decide +kernel
theorem dX5_linksOf_4 : decode cX5_linksOf 4 = .ok (.iload_n 1, 1) := by decide +kernel
theorem dX5_linksOf_5 : decode cX5_linksOf 5 = .ok (.aaload, 1) := by decide +kernel
theorem dX5_linksOf_6 : decode cX5_linksOf 6 = .ok (.astore_n 2, 1) := by decide +kernel
theorem dX5_linksOf_7 : decode cX5_linksOf 7 = .ok (.iconst 0, 1) := by decide +kernel
theorem dX5_linksOf_8 : decode cX5_linksOf 8 = .ok (.istore_n 3, 1) := by decide +kernel
theorem dX5_linksOf_9 : decode cX5_linksOf 9 = .ok (.iconst 0, 1) := by decide +kernel
theorem dX5_linksOf_10 : decode cX5_linksOf 10 = .ok (.istore 4, 2) := by decide +kernel
theorem dX5_linksOf_12 : decode cX5_linksOf 12 = .ok (.iload 4, 2) := by decide +kernel
theorem dX5_linksOf_14 : decode cX5_linksOf 14 = .ok (.aload_n 2, 1) := by decide +kernel
theorem dX5_linksOf_15 : decode cX5_linksOf 15 = .ok (.getfield 104, 3) := by decide +kernel
theorem dX5_linksOf_18 : decode cX5_linksOf 18 = .ok (.if_icmp .ge 34, 3) := by decide +kernel
theorem dX5_linksOf_21 : decode cX5_linksOf 21 = .ok (.aload_n 2, 1) := by decide +kernel
theorem dX5_linksOf_22 : decode cX5_linksOf 22 = .ok (.getfield 170, 3) := by decide +kernel
theorem dX5_linksOf_25 : decode cX5_linksOf 25 = .ok (.iload 4, 2) := by decide +kernel
theorem dX5_linksOf_27 : decode cX5_linksOf 27 = .ok (.iaload, 1) := by decide +kernel
theorem dX5_linksOf_28 : decode cX5_linksOf 28 = .ok (.bipush 10, 2) := by decide +kernel
theorem dX5_linksOf_30 : decode cX5_linksOf 30 = .ok (.if_icmp .ne 16, 3) := by decide +kernel
theorem dX5_linksOf_33 : decode cX5_linksOf 33 = .ok (.iload_n 3, 1) := by decide +kernel
theorem dX5_linksOf_34 : decode cX5_linksOf 34 = .ok (.iconst 1, 1) := by decide +kernel
theorem dX5_linksOf_35 : decode cX5_linksOf 35 = .ok (.aload_n 2, 1) := by decide +kernel
theorem dX5_linksOf_36 : decode cX5_linksOf 36 = .ok (.getfield 142, 3) := by decide +kernel
theorem dX5_linksOf_39 : decode cX5_linksOf 39 = .ok (.iload 4, 2) := by decide +kernel
theorem dX5_linksOf_41 : decode cX5_linksOf 41 = .ok (.laload, 1) := by decide +kernel
theorem dX5_linksOf_42 : decode cX5_linksOf 42 = .ok (.l2i, 1) := by decide +kernel
theorem dX5_linksOf_43 : decode cX5_linksOf 43 = .ok (.ishl, 1) := by decide +kernel
theorem dX5_linksOf_44 : decode cX5_linksOf 44 = .ok (.ior, 1) := by decide +kernel
theorem dX5_linksOf_45 : decode cX5_linksOf 45 = .ok (.istore_n 3, 1) := by decide +kernel
theorem dX5_linksOf_46 : decode cX5_linksOf 46 = .ok (.iinc 4 1, 3) := by decide +kernel
theorem dX5_linksOf_49 : decode cX5_linksOf 49 = .ok (.goto (-37), 3) := by decide +kernel
theorem dX5_linksOf_52 : decode cX5_linksOf 52 = .ok (.iload_n 3, 1) := by decide +kernel
theorem dX5_linksOf_53 : decode cX5_linksOf 53 = .ok (.ireturn, 1) := by decide +kernel
theorem dX5_linksOfAll_0 : decode cX5_linksOfAll 0 = .ok (.iconst 0, 1) := by decide +kernel
theorem dX5_linksOfAll_1 : decode cX5_linksOfAll 1 = .ok (.istore_n 2, 1) := by decide +kernel
theorem dX5_linksOfAll_2 : decode cX5_linksOfAll 2 = .ok (.iconst 0, 1) := by decide +kernel
theorem dX5_linksOfAll_3 : decode cX5_linksOfAll 3 = .ok (.istore_n 3, 1) := by decide +kernel
theorem dX5_linksOfAll_4 : decode cX5_linksOfAll 4 = .ok (.iload_n 3, 1) := by decide +kernel
theorem dX5_linksOfAll_5 : decode cX5_linksOfAll 5 = .ok (.bipush 12, 2) := by decide +kernel
theorem dX5_linksOfAll_7 : decode cX5_linksOfAll 7 = .ok (.if_icmp .ge 25, 3) := by decide +kernel
theorem dX5_linksOfAll_10 : decode cX5_linksOfAll 10 = .ok (.iload_n 1, 1) := by decide +kernel
theorem dX5_linksOfAll_11 : decode cX5_linksOfAll 11 = .ok (.iload_n 3, 1) := by decide +kernel
theorem dX5_linksOfAll_12 : decode cX5_linksOfAll 12 = .ok (.invokestatic 110, 3) := by decide +kernel
theorem dX5_linksOfAll_15 : decode cX5_linksOfAll 15 = .ok (.ifCond .eq 11, 3) := by decide +kernel
theorem dX5_linksOfAll_18 : decode cX5_linksOfAll 18 = .ok (.iload_n 2, 1) := by decide +kernel
theorem dX5_linksOfAll_19 : decode cX5_linksOfAll 19 = .ok (.aload_n 0, 1) := by decide +kernel
theorem dX5_linksOfAll_20 : decode cX5_linksOfAll 20 = .ok (.iload_n 3, 1) := by decide +kernel
theorem dX5_linksOfAll_21 : decode cX5_linksOfAll 21 = .ok (.invokevirtual 107, 3) := by decide +kernel
theorem dX5_linksOfAll_24 : decode cX5_linksOfAll 24 = .ok (.ior, 1) := by decide +kernel
theorem dX5_linksOfAll_25 : decode cX5_linksOfAll 25 = .ok (.istore_n 2, 1) := by decide +kernel
theorem dX5_linksOfAll_26 : decode cX5_linksOfAll 26 = .ok (.iinc 3 1, 3) := by decide +kernel
theorem dX5_linksOfAll_29 : decode cX5_linksOfAll 29 = .ok (.goto (-25), 3) := by decide +kernel
theorem dX5_linksOfAll_32 : decode cX5_linksOfAll 32 = .ok (.iload_n 2, 1) := by decide +kernel
theorem dX5_linksOfAll_33 : decode cX5_linksOfAll 33 = .ok (.ireturn, 1) := by decide +kernel
theorem dX5_hangingOn_0 : decode cX5_hangingOn 0 = .ok (.iconst 1, 1) := by decide +kernel
theorem dX5_hangingOn_1 : decode cX5_hangingOn 1 = .ok (.iload_n 1, 1) := by decide +kernel
theorem dX5_hangingOn_2 : decode cX5_hangingOn 2 = .ok (.ishl, 1) := by decide +kernel
theorem dX5_hangingOn_3 : decode cX5_hangingOn 3 = .ok (.istore_n 2, 1) := by decide +kernel
theorem dX5_hangingOn_4 : decode cX5_hangingOn 4 = .ok (.iconst 0, 1) := by decide +kernel
theorem dX5_hangingOn_5 : decode cX5_hangingOn 5 = .ok (.istore_n 3, 1) := by decide +kernel
theorem dX5_hangingOn_6 : decode cX5_hangingOn 6 = .ok (.iload_n 3, 1) := by decide +kernel
theorem dX5_hangingOn_7 : decode cX5_hangingOn 7 = .ok (.bipush 12, 2) := by decide +kernel
theorem dX5_hangingOn_9 : decode cX5_hangingOn 9 = .ok (.if_icmp .ge 17, 3) := by decide +kernel
theorem dX5_hangingOn_12 : decode cX5_hangingOn 12 = .ok (.iload_n 2, 1) := by decide +kernel
theorem dX5_hangingOn_13 : decode cX5_hangingOn 13 = .ok (.aload_n 0, 1) := by decide +kernel
theorem dX5_hangingOn_14 : decode cX5_hangingOn 14 = .ok (.iload_n 2, 1) := by decide +kernel
theorem dX5_hangingOn_15 : decode cX5_hangingOn 15 = .ok (.invokevirtual 267, 3) := by decide +kernel
theorem dX5_hangingOn_18 : decode cX5_hangingOn 18 = .ok (.ior, 1) := by decide +kernel
theorem dX5_hangingOn_19 : decode cX5_hangingOn 19 = .ok (.istore_n 2, 1) := by decide +kernel
theorem dX5_hangingOn_20 : decode cX5_hangingOn 20 = .ok (.iinc 3 1, 3) := by decide +kernel
theorem dX5_hangingOn_23 : decode cX5_hangingOn 23 = .ok (.goto (-17), 3) := by decide +kernel
theorem dX5_hangingOn_26 : decode cX5_hangingOn 26 = .ok (.iload_n 2, 1) := by decide +kernel
theorem dX5_hangingOn_27 : decode cX5_hangingOn 27 = .ok (.ireturn, 1) := by decide +kernel
